def wdX (ad : Nat → Nat) (dA : Nat → ClassId) (σ : St) : va_W := [(ad 0, .inr (11, [.ref (ad 4), .ref (ad 27), .ref (ad 9), .ref (ad 11), .ref (ad 37), .ref (ad 39), .ref (ad 1), .ref (ad 2), .int (gI σ 0 8), .ref (ad 13), .ref (ad 14), .ref (ad 18), .ref (ad 23), .ref (ad 24), .ref (ad 3)])), (ad 1, .inl (dA 1, 5, .inl (gI σ 1))), (ad 2, .inl (dA 2, 5, .inl (gI σ 2))), (ad 3, .inl (dA 3, 6, .inr (.inr (.inr (.inr (fun j => some (ad (63 + 2 * j)))))))), (ad 4, .inr (6, [.ref (ad 5), .int (gI σ 4 1), .ref (ad 6), .ref (ad 7), .ref (ad 8), .int (gI σ 4 5), .int (gI σ 4 6)])), (ad 5, .inl (dA 5, 28, .inl (gI σ 5))), (ad 6, .inl (dA 6, 40, .inl (gI σ 6))), (ad 7, .inl (dA 7, 40, .inl (gI σ 7))), (ad 8, .inl (dA 8, 40, .inl (gI σ 8))), (ad 9, .inr (8, [.ref (ad 10), .int (gI σ 9 1), .int (gI σ 9 2), .ref (ad 32)])), (ad 10, .inl (dA 10, 120, .inl (gI σ 10))), (ad 11, .inr (3, [.ref (ad 4), .ref (ad 27), .ref (ad 12)])), (ad 12, .inl (dA 12, 6, .inl (gI σ 12))), (ad 13, .inr (2, [.ref (ad 11), .ref (ad 41), .int (gI σ 13 2), .int (gI σ 13 3), .int (gI σ 13 4), .int (gI σ 13 5), .int (gI σ 13 6), .long (gL σ 13 7), .int (gI σ 13 8), .int (gI σ 13 9)])), (ad 14, .inr (9, [.ref (ad 11), .ref (ad 15), .ref (ad 16), .ref (ad 43), .ref (ad 45), .ref (ad 17)])), (ad 15, .inl (dA 15, 625, .inl (gI σ 15))), (ad 16, .inl (dA 16, 320, .inl (gI σ 16))), (ad 17, .inl (dA 17, 7, .inr (.inr (.inr (.inr (fun j => some (ad (47 + 2 * j)))))))), (ad 18, .inr (4, [.ref (ad 19), .ref (ad 20), .int (gI σ 18 2), .ref (ad 21), .ref (ad 22)])), (ad 19, .inl (dA 19, 10, .inl (gI σ 19))), (ad 20, .inl (dA 20, 10, .inl (gI σ 20))), (ad 21, .inl (dA 21, 7, .inl (gI σ 21))), (ad 22, .inl (dA 22, 6, .inl (gI σ 22))), (ad 23, .inr (5, [.ref (ad 11), .ref (ad 61), .int (gI σ 23 2), .int (gI σ 23 3), .int (gI σ 23 4)])), (ad 24, .inr (0, [.ref (ad 25), .int (gI σ 24 1), .ref (ad 26), .int (gI σ 24 3), .int (gI σ 24 4), .int (gI σ 24 5)])), (ad 25, .inl (dA 25, 50, .inl (gI σ 25))), (ad 26, .inl (dA 26, 24, .inl (gI σ 26))), (ad 27, .inr (7, [.ref (ad 28), .ref (ad 29), .ref (ad 30), .ref (ad 31), .int (gI σ 27 4)])), (ad 28, .inl (dA 28, 242, .inl (gI σ 28))), (ad 29, .inl (dA 29, 242, .inl (gI σ 29))), (ad 30, .inl (dA 30, 242, .inl (gI σ 30))), (ad 31, .inl (dA 31, 242, .inl (gI σ 31))), (ad 32, .inr (7, [.ref (ad 33), .ref (ad 34), .ref (ad 35), .ref (ad 36), .int (gI σ 32 4)])), (ad 33, .inl (dA 33, 242, .inl (gI σ 33))), (ad 34, .inl (dA 34, 242, .inl (gI σ 34))), (ad 35, .inl (dA 35, 242, .inl (gI σ 35))), (ad 36, .inl (dA 36, 242, .inl (gI σ 36))), (ad 37, .inr (1, [.ref (ad 38), .int (gI σ 37 1)])), (ad 38, .inl (dA 38, 7, .inl (gI σ 38))), (ad 39, .inr (1, [.ref (ad 40), .int (gI σ 39 1)])), (ad 40, .inl (dA 40, 7, .inl (gI σ 40))), (ad 41, .inr (1, [.ref (ad 42), .int (gI σ 41 1)])), (ad 42, .inl (dA 42, 7, .inl (gI σ 42))), (ad 43, .inr (1, [.ref (ad 44), .int (gI σ 43 1)])), (ad 44, .inl (dA 44, 7, .inl (gI σ 44))), (ad 45, .inr (1, [.ref (ad 46), .int (gI σ 45 1)])), (ad 46, .inl (dA 46, 7, .inl (gI σ 46))), (ad 47, .inr (1, [.ref (ad 48), .int (gI σ 47 1)])), (ad 48, .inl (dA 48, 7, .inl (gI σ 48))), (ad 49, .inr (1, [.ref (ad 50), .int (gI σ 49 1)])), (ad 50, .inl (dA 50, 7, .inl (gI σ 50))), (ad 51, .inr (1, [.ref (ad 52), .int (gI σ 51 1)])), (ad 52, .inl (dA 52, 7, .inl (gI σ 52))), (ad 53, .inr (1, [.ref (ad 54), .int (gI σ 53 1)])), (ad 54, .inl (dA 54, 7, .inl (gI σ 54))), (ad 55, .inr (1, [.ref (ad 56), .int (gI σ 55 1)])), (ad 56, .inl (dA 56, 7, .inl (gI σ 56))), (ad 57, .inr (1, [.ref (ad 58), .int (gI σ 57 1)])), (ad 58, .inl (dA 58, 7, .inl (gI σ 58))), (ad 59, .inr (1, [.ref (ad 60), .int (gI σ 59 1)])), (ad 60, .inl (dA 60, 7, .inl (gI σ 60))), (ad 61, .inr (1, [.ref (ad 62), .int (gI σ 61 1)])), (ad 62, .inl (dA 62, 7, .inl (gI σ 62))), (ad 63, .inr (10, [.ref (ad 64), .int (gI σ 63 1), .int (gI σ 63 2), .int (gI σ 63 3)])), (ad 64, .inl (dA 64, 60, .inr (.inl (gL σ 64)))), (ad 65, .inr (10, [.ref (ad 66), .int (gI σ 65 1), .int (gI σ 65 2), .int (gI σ 65 3)])), (ad 66, .inl (dA 66, 60, .inr (.inl (gL σ 66)))), (ad 67, .inr (10, [.ref (ad 68), .int (gI σ 67 1), .int (gI σ 67 2), .int (gI σ 67 3)])), (ad 68, .inl (dA 68, 60, .inr (.inl (gL σ 68)))), (ad 69, .inr (10, [.ref (ad 70), .int (gI σ 69 1), .int (gI σ 69 2), .int (gI σ 69 3)])), (ad 70, .inl (dA 70, 60, .inr (.inl (gL σ 70)))), (ad 71, .inr (10, [.ref (ad 72), .int (gI σ 71 1), .int (gI σ 71 2), .int (gI σ 71 3)])), (ad 72, .inl (dA 72, 60, .inr (.inl (gL σ 72)))), (ad 73, .inr (10, [.ref (ad 74), .int (gI σ 73 1), .int (gI σ 73 2), .int (gI σ 73 3)])), (ad 74, .inl (dA 74, 60, .inr (.inl (gL σ 74))))]
def tysX (dA : Nat → ClassId) : List (ClassId × FieldType) := [(dA 1, .int), (dA 2, .int), (dA 3, .object "MustDefendHim$Shelf"), (dA 5, .int), (dA 6, .int), (dA 7, .int), (dA 8, .int), (dA 10, .char), (dA 12, .int), (dA 15, .int), (dA 16, .int), (dA 17, .object "MustDefendHim$Bench"), (dA 19, .int), (dA 20, .int), (dA 21, .int), (dA 22, .int), (dA 25, .int), (dA 26, .int), (dA 28, .char), (dA 29, .int), (dA 30, .int), (dA 31, .int), (dA 33, .char), (dA 34, .int), (dA 35, .int), (dA 36, .int), (dA 38, .int), (dA 40, .int), (dA 42, .int), (dA 44, .int), (dA 46, .int), (dA 48, .int), (dA 50, .int), (dA 52, .int), (dA 54, .int), (dA 56, .int), (dA 58, .int), (dA 60, .int), (dA 62, .int), (dA 64, .long), (dA 66, .long), (dA 68, .long), (dA 70, .long), (dA 72, .long), (dA 74, .long)]
def isB (b : Nat) : Prop := ∃ i : Nat, i < 13 ∧ b = 37 + 2 * i
theorem isB_37 : isB 37 := ⟨0, by decide, rfl⟩
theorem isB_39 : isB 39 := ⟨1, by decide, rfl⟩
theorem isB_41 : isB 41 := ⟨2, by decide, rfl⟩
theorem isB_43 : isB 43 := ⟨3, by decide, rfl⟩
theorem isB_45 : isB 45 := ⟨4, by decide, rfl⟩
theorem isB_47 : isB 47 := ⟨5, by decide, rfl⟩
theorem isB_49 : isB 49 := ⟨6, by decide, rfl⟩
theorem isB_51 : isB 51 := ⟨7, by decide, rfl⟩
theorem isB_53 : isB 53 := ⟨8, by decide, rfl⟩
theorem isB_55 : isB 55 := ⟨9, by decide, rfl⟩
theorem isB_57 : isB 57 := ⟨10, by decide, rfl⟩
theorem isB_59 : isB 59 := ⟨11, by decide, rfl⟩
theorem isB_61 : isB 61 := ⟨12, by decide, rfl⟩
def isL (b : Nat) : Prop := ∃ i : Nat, i < 2 ∧ b = 27 + 5 * i
theorem isL_27 : isL 27 := ⟨0, by decide, rfl⟩
theorem isL_32 : isL 32 := ⟨1, by decide, rfl⟩
def isS (b : Nat) : Prop := ∃ i : Nat, i < 6 ∧ b = 63 + 2 * i
theorem isS_63 : isS 63 := ⟨0, by decide, rfl⟩
theorem isS_65 : isS 65 := ⟨1, by decide, rfl⟩
theorem isS_67 : isS 67 := ⟨2, by decide, rfl⟩
theorem isS_69 : isS 69 := ⟨3, by decide, rfl⟩
theorem isS_71 : isS 71 := ⟨4, by decide, rfl⟩
theorem isS_73 : isS 73 := ⟨5, by decide, rfl⟩
def is40 (b : Nat) : Prop := ∃ i : Nat, i < 3 ∧ b = 6 + 1 * i
theorem is40_6 : is40 6 := ⟨0, by decide, rfl⟩
theorem is40_7 : is40 7 := ⟨1, by decide, rfl⟩
theorem is40_8 : is40 8 := ⟨2, by decide, rfl⟩
theorem isS_in {i : Int32} (h : vp_in i 6) : isS (63 + 2 * i.toNatClampNeg) := ⟨i.toNatClampNeg, Nat.not_le.mp fun q => h (Or.inr q), rfl⟩
theorem isB_in {i : Int32} (h : vp_in i 7) : isB (47 + 2 * i.toNatClampNeg) := by
  have h1 : i.toNatClampNeg < 7 := Nat.not_le.mp fun q => h (Or.inr q)
  exact ⟨i.toNatClampNeg + 5, by omega, by omega⟩
theorem cX_0 {ad : Nat → Nat} {dA : Nat → ClassId} {σ : St} : (wdX ad dA σ)[0]? = some (ad 0, .inr (11, [.ref (ad 4), .ref (ad 27), .ref (ad 9), .ref (ad 11), .ref (ad 37), .ref (ad 39), .ref (ad 1), .ref (ad 2), .int (gI σ 0 8), .ref (ad 13), .ref (ad 14), .ref (ad 18), .ref (ad 23), .ref (ad 24), .ref (ad 3)])) := rfl
theorem cX_1 {ad : Nat → Nat} {dA : Nat → ClassId} {σ : St} : (wdX ad dA σ)[1]? = some (ad 1, .inl (dA 1, 5, .inl (gI σ 1))) := rfl
theorem cX_2 {ad : Nat → Nat} {dA : Nat → ClassId} {σ : St} : (wdX ad dA σ)[2]? = some (ad 2, .inl (dA 2, 5, .inl (gI σ 2))) := rfl
theorem cX_3 {ad : Nat → Nat} {dA : Nat → ClassId} {σ : St} : (wdX ad dA σ)[3]? = some (ad 3, .inl (dA 3, 6, .inr (.inr (.inr (.inr (fun j => some (ad (63 + 2 * j)))))))) := rfl
theorem cX_4 {ad : Nat → Nat} {dA : Nat → ClassId} {σ : St} : (wdX ad dA σ)[4]? = some (ad 4, .inr (6, [.ref (ad 5), .int (gI σ 4 1), .ref (ad 6), .ref (ad 7), .ref (ad 8), .int (gI σ 4 5), .int (gI σ 4 6)])) := rfl
theorem cX_5 {ad : Nat → Nat} {dA : Nat → ClassId} {σ : St} : (wdX ad dA σ)[5]? = some (ad 5, .inl (dA 5, 28, .inl (gI σ 5))) := rfl
theorem cX_6 {ad : Nat → Nat} {dA : Nat → ClassId} {σ : St} : (wdX ad dA σ)[6]? = some (ad 6, .inl (dA 6, 40, .inl (gI σ 6))) := rfl
theorem cX_7 {ad : Nat → Nat} {dA : Nat → ClassId} {σ : St} : (wdX ad dA σ)[7]? = some (ad 7, .inl (dA 7, 40, .inl (gI σ 7))) := rfl
theorem cX_8 {ad : Nat → Nat} {dA : Nat → ClassId} {σ : St} : (wdX ad dA σ)[8]? = some (ad 8, .inl (dA 8, 40, .inl (gI σ 8))) := rfl
theorem cX_9 {ad : Nat → Nat} {dA : Nat → ClassId} {σ : St} : (wdX ad dA σ)[9]? = some (ad 9, .inr (8, [.ref (ad 10), .int (gI σ 9 1), .int (gI σ 9 2), .ref (ad 32)])) := rfl
theorem cX_10 {ad : Nat → Nat} {dA : Nat → ClassId} {σ : St} : (wdX ad dA σ)[10]? = some (ad 10, .inl (dA 10, 120, .inl (gI σ 10))) := rfl
theorem cX_11 {ad : Nat → Nat} {dA : Nat → ClassId} {σ : St} : (wdX ad dA σ)[11]? = some (ad 11, .inr (3, [.ref (ad 4), .ref (ad 27), .ref (ad 12)])) := rfl
theorem cX_12 {ad : Nat → Nat} {dA : Nat → ClassId} {σ : St} : (wdX ad dA σ)[12]? = some (ad 12, .inl (dA 12, 6, .inl (gI σ 12))) := rfl
theorem cX_13 {ad : Nat → Nat} {dA : Nat → ClassId} {σ : St} : (wdX ad dA σ)[13]? = some (ad 13, .inr (2, [.ref (ad 11), .ref (ad 41), .int (gI σ 13 2), .int (gI σ 13 3), .int (gI σ 13 4), .int (gI σ 13 5), .int (gI σ 13 6), .long (gL σ 13 7), .int (gI σ 13 8), .int (gI σ 13 9)])) := rfl
theorem cX_14 {ad : Nat → Nat} {dA : Nat → ClassId} {σ : St} : (wdX ad dA σ)[14]? = some (ad 14, .inr (9, [.ref (ad 11), .ref (ad 15), .ref (ad 16), .ref (ad 43), .ref (ad 45), .ref (ad 17)])) := rfl
theorem cX_15 {ad : Nat → Nat} {dA : Nat → ClassId} {σ : St} : (wdX ad dA σ)[15]? = some (ad 15, .inl (dA 15, 625, .inl (gI σ 15))) := rfl
theorem cX_16 {ad : Nat → Nat} {dA : Nat → ClassId} {σ : St} : (wdX ad dA σ)[16]? = some (ad 16, .inl (dA 16, 320, .inl (gI σ 16))) := rfl
theorem cX_17 {ad : Nat → Nat} {dA : Nat → ClassId} {σ : St} : (wdX ad dA σ)[17]? = some (ad 17, .inl (dA 17, 7, .inr (.inr (.inr (.inr (fun j => some (ad (47 + 2 * j)))))))) := rfl
theorem cX_18 {ad : Nat → Nat} {dA : Nat → ClassId} {σ : St} : (wdX ad dA σ)[18]? = some (ad 18, .inr (4, [.ref (ad 19), .ref (ad 20), .int (gI σ 18 2), .ref (ad 21), .ref (ad 22)])) := rfl
theorem cX_19 {ad : Nat → Nat} {dA : Nat → ClassId} {σ : St} : (wdX ad dA σ)[19]? = some (ad 19, .inl (dA 19, 10, .inl (gI σ 19))) := rfl
theorem cX_20 {ad : Nat → Nat} {dA : Nat → ClassId} {σ : St} : (wdX ad dA σ)[20]? = some (ad 20, .inl (dA 20, 10, .inl (gI σ 20))) := rfl
theorem cX_21 {ad : Nat → Nat} {dA : Nat → ClassId} {σ : St} : (wdX ad dA σ)[21]? = some (ad 21, .inl (dA 21, 7, .inl (gI σ 21))) := rfl
theorem cX_22 {ad : Nat → Nat} {dA : Nat → ClassId} {σ : St} : (wdX ad dA σ)[22]? = some (ad 22, .inl (dA 22, 6, .inl (gI σ 22))) := rfl
theorem cX_23 {ad : Nat → Nat} {dA : Nat → ClassId} {σ : St} : (wdX ad dA σ)[23]? = some (ad 23, .inr (5, [.ref (ad 11), .ref (ad 61), .int (gI σ 23 2), .int (gI σ 23 3), .int (gI σ 23 4)])) := rfl
theorem cX_24 {ad : Nat → Nat} {dA : Nat → ClassId} {σ : St} : (wdX ad dA σ)[24]? = some (ad 24, .inr (0, [.ref (ad 25), .int (gI σ 24 1), .ref (ad 26), .int (gI σ 24 3), .int (gI σ 24 4), .int (gI σ 24 5)])) := rfl
theorem cX_25 {ad : Nat → Nat} {dA : Nat → ClassId} {σ : St} : (wdX ad dA σ)[25]? = some (ad 25, .inl (dA 25, 50, .inl (gI σ 25))) := rfl
theorem cX_26 {ad : Nat → Nat} {dA : Nat → ClassId} {σ : St} : (wdX ad dA σ)[26]? = some (ad 26, .inl (dA 26, 24, .inl (gI σ 26))) := rfl
theorem cX_X1 {ad : Nat → Nat} {dA : Nat → ClassId} {σ : St} {b : Nat} (hb : isB b) : (wdX ad dA σ)[b]? = some (ad b, .inr (1, [.ref (ad (b + 1)), .int (gI σ b 1)])) := by
  obtain ⟨i, hi, rfl⟩ := hb
  match i, hi with
  | 0, _ => exact rfl
  | 1, _ => exact rfl
  | 2, _ => exact rfl
  | 3, _ => exact rfl
  | 4, _ => exact rfl
  | 5, _ => exact rfl
  | 6, _ => exact rfl
  | 7, _ => exact rfl
  | 8, _ => exact rfl
  | 9, _ => exact rfl
  | 10, _ => exact rfl
  | 11, _ => exact rfl
  | 12, _ => exact rfl
  | i + 13, h => exact absurd h (by omega)
theorem cX_X1a1 {ad : Nat → Nat} {dA : Nat → ClassId} {σ : St} {b : Nat} (hb : isB b) : (wdX ad dA σ)[b + 1]? = some (ad (b + 1), .inl (dA (b + 1), 7, .inl (gI σ (b + 1)))) := by
  obtain ⟨i, hi, rfl⟩ := hb
  match i, hi with
  | 0, _ => exact rfl
  | 1, _ => exact rfl
  | 2, _ => exact rfl
  | 3, _ => exact rfl
  | 4, _ => exact rfl
  | 5, _ => exact rfl
  | 6, _ => exact rfl
  | 7, _ => exact rfl
  | 8, _ => exact rfl
  | 9, _ => exact rfl
  | 10, _ => exact rfl
  | 11, _ => exact rfl
  | 12, _ => exact rfl
  | i + 13, h => exact absurd h (by omega)
theorem tX_X1a1 {dA : Nat → ClassId} {b : Nat} (hb : isB b) : ∃ t : Nat, (tysX dA)[t]? = some (dA (b + 1), .int) := by
  obtain ⟨i, hi, rfl⟩ := hb
  match i, hi with
  | 0, _ => exact ⟨26, rfl⟩
  | 1, _ => exact ⟨27, rfl⟩
  | 2, _ => exact ⟨28, rfl⟩
  | 3, _ => exact ⟨29, rfl⟩
  | 4, _ => exact ⟨30, rfl⟩
  | 5, _ => exact ⟨31, rfl⟩
  | 6, _ => exact ⟨32, rfl⟩
  | 7, _ => exact ⟨33, rfl⟩
  | 8, _ => exact ⟨34, rfl⟩
  | 9, _ => exact ⟨35, rfl⟩
  | 10, _ => exact ⟨36, rfl⟩
  | 11, _ => exact ⟨37, rfl⟩
  | 12, _ => exact ⟨38, rfl⟩
  | i + 13, h => exact absurd h (by omega)
theorem cX_X7 {ad : Nat → Nat} {dA : Nat → ClassId} {σ : St} {b : Nat} (hb : isL b) : (wdX ad dA σ)[b]? = some (ad b, .inr (7, [.ref (ad (b + 1)), .ref (ad (b + 2)), .ref (ad (b + 3)), .ref (ad (b + 4)), .int (gI σ b 4)])) := by
  obtain ⟨i, hi, rfl⟩ := hb
  match i, hi with
  | 0, _ => exact rfl
  | 1, _ => exact rfl
  | i + 2, h => exact absurd h (by omega)
theorem cX_X7a1 {ad : Nat → Nat} {dA : Nat → ClassId} {σ : St} {b : Nat} (hb : isL b) : (wdX ad dA σ)[b + 1]? = some (ad (b + 1), .inl (dA (b + 1), 242, .inl (gI σ (b + 1)))) := by
  obtain ⟨i, hi, rfl⟩ := hb
  match i, hi with
  | 0, _ => exact rfl
  | 1, _ => exact rfl
  | i + 2, h => exact absurd h (by omega)
theorem tX_X7a1 {dA : Nat → ClassId} {b : Nat} (hb : isL b) : ∃ t : Nat, (tysX dA)[t]? = some (dA (b + 1), .char) := by
  obtain ⟨i, hi, rfl⟩ := hb
  match i, hi with
  | 0, _ => exact ⟨18, rfl⟩
  | 1, _ => exact ⟨22, rfl⟩
  | i + 2, h => exact absurd h (by omega)
theorem cX_X7a2 {ad : Nat → Nat} {dA : Nat → ClassId} {σ : St} {b : Nat} (hb : isL b) : (wdX ad dA σ)[b + 2]? = some (ad (b + 2), .inl (dA (b + 2), 242, .inl (gI σ (b + 2)))) := by
  obtain ⟨i, hi, rfl⟩ := hb
  match i, hi with
  | 0, _ => exact rfl
  | 1, _ => exact rfl
  | i + 2, h => exact absurd h (by omega)
theorem tX_X7a2 {dA : Nat → ClassId} {b : Nat} (hb : isL b) : ∃ t : Nat, (tysX dA)[t]? = some (dA (b + 2), .int) := by
  obtain ⟨i, hi, rfl⟩ := hb
  match i, hi with
  | 0, _ => exact ⟨19, rfl⟩
  | 1, _ => exact ⟨23, rfl⟩
  | i + 2, h => exact absurd h (by omega)
theorem cX_X7a3 {ad : Nat → Nat} {dA : Nat → ClassId} {σ : St} {b : Nat} (hb : isL b) : (wdX ad dA σ)[b + 3]? = some (ad (b + 3), .inl (dA (b + 3), 242, .inl (gI σ (b + 3)))) := by
  obtain ⟨i, hi, rfl⟩ := hb
  match i, hi with
  | 0, _ => exact rfl
  | 1, _ => exact rfl
  | i + 2, h => exact absurd h (by omega)
theorem tX_X7a3 {dA : Nat → ClassId} {b : Nat} (hb : isL b) : ∃ t : Nat, (tysX dA)[t]? = some (dA (b + 3), .int) := by
  obtain ⟨i, hi, rfl⟩ := hb
  match i, hi with
  | 0, _ => exact ⟨20, rfl⟩
  | 1, _ => exact ⟨24, rfl⟩
  | i + 2, h => exact absurd h (by omega)
theorem cX_X7a4 {ad : Nat → Nat} {dA : Nat → ClassId} {σ : St} {b : Nat} (hb : isL b) : (wdX ad dA σ)[b + 4]? = some (ad (b + 4), .inl (dA (b + 4), 242, .inl (gI σ (b + 4)))) := by
  obtain ⟨i, hi, rfl⟩ := hb
  match i, hi with
  | 0, _ => exact rfl
  | 1, _ => exact rfl
  | i + 2, h => exact absurd h (by omega)
theorem tX_X7a4 {dA : Nat → ClassId} {b : Nat} (hb : isL b) : ∃ t : Nat, (tysX dA)[t]? = some (dA (b + 4), .int) := by
  obtain ⟨i, hi, rfl⟩ := hb
  match i, hi with
  | 0, _ => exact ⟨21, rfl⟩
  | 1, _ => exact ⟨25, rfl⟩
  | i + 2, h => exact absurd h (by omega)
theorem cX_X10 {ad : Nat → Nat} {dA : Nat → ClassId} {σ : St} {b : Nat} (hb : isS b) : (wdX ad dA σ)[b]? = some (ad b, .inr (10, [.ref (ad (b + 1)), .int (gI σ b 1), .int (gI σ b 2), .int (gI σ b 3)])) := by
  obtain ⟨i, hi, rfl⟩ := hb
  match i, hi with
  | 0, _ => exact rfl
  | 1, _ => exact rfl
  | 2, _ => exact rfl
  | 3, _ => exact rfl
  | 4, _ => exact rfl
  | 5, _ => exact rfl
  | i + 6, h => exact absurd h (by omega)
theorem cX_X10a1 {ad : Nat → Nat} {dA : Nat → ClassId} {σ : St} {b : Nat} (hb : isS b) : (wdX ad dA σ)[b + 1]? = some (ad (b + 1), .inl (dA (b + 1), 60, .inr (.inl (gL σ (b + 1))))) := by
  obtain ⟨i, hi, rfl⟩ := hb
  match i, hi with
  | 0, _ => exact rfl
  | 1, _ => exact rfl
  | 2, _ => exact rfl
  | 3, _ => exact rfl
  | 4, _ => exact rfl
  | 5, _ => exact rfl
  | i + 6, h => exact absurd h (by omega)
theorem tX_X10a1 {dA : Nat → ClassId} {b : Nat} (hb : isS b) : ∃ t : Nat, (tysX dA)[t]? = some (dA (b + 1), .long) := by
  obtain ⟨i, hi, rfl⟩ := hb
  match i, hi with
  | 0, _ => exact ⟨39, rfl⟩
  | 1, _ => exact ⟨40, rfl⟩
  | 2, _ => exact ⟨41, rfl⟩
  | 3, _ => exact ⟨42, rfl⟩
  | 4, _ => exact ⟨43, rfl⟩
  | 5, _ => exact ⟨44, rfl⟩
  | i + 6, h => exact absurd h (by omega)
theorem cX_40 {ad : Nat → Nat} {dA : Nat → ClassId} {σ : St} {b : Nat} (hb : is40 b) : (wdX ad dA σ)[b]? = some (ad b, .inl (dA b, 40, .inl (gI σ b))) := by
  obtain ⟨i, hi, rfl⟩ := hb
  match i, hi with
  | 0, _ => exact rfl
  | 1, _ => exact rfl
  | 2, _ => exact rfl
  | i + 3, h => exact absurd h (by omega)
theorem tX_40 {dA : Nat → ClassId} {b : Nat} (hb : is40 b) : ∃ t : Nat, (tysX dA)[t]? = some (dA b, .int) := by
  obtain ⟨i, hi, rfl⟩ := hb
  match i, hi with
  | 0, _ => exact ⟨4, rfl⟩
  | 1, _ => exact ⟨5, rfl⟩
  | 2, _ => exact ⟨6, rfl⟩
  | i + 3, h => exact absurd h (by omega)
theorem wX_0_8 {ad : Nat → Nat} {dA : Nat → ClassId} {σ : St} (v : Int32) : (wdX ad dA σ).set 0 (ad 0, .inr (11, ([.ref (ad 4), .ref (ad 27), .ref (ad 9), .ref (ad 11), .ref (ad 37), .ref (ad 39), .ref (ad 1), .ref (ad 2), .int (gI σ 0 8), .ref (ad 13), .ref (ad 14), .ref (ad 18), .ref (ad 23), .ref (ad 24), .ref (ad 3)] : List Value).set 8 (.int v))) = wdX ad dA (sI σ 0 8 v) := rfl
theorem wX_1 {ad : Nat → Nat} {dA : Nat → ClassId} {σ : St} (k : Nat) (v : Int32) : (wdX ad dA σ).set 1 (ad 1, .inl (dA 1, 5, .inl (gI (sI σ 1 k v) 1))) = wdX ad dA (sI σ 1 k v) := rfl
theorem wX_2 {ad : Nat → Nat} {dA : Nat → ClassId} {σ : St} (k : Nat) (v : Int32) : (wdX ad dA σ).set 2 (ad 2, .inl (dA 2, 5, .inl (gI (sI σ 2 k v) 2))) = wdX ad dA (sI σ 2 k v) := rfl
theorem wX_4_1 {ad : Nat → Nat} {dA : Nat → ClassId} {σ : St} (v : Int32) : (wdX ad dA σ).set 4 (ad 4, .inr (6, ([.ref (ad 5), .int (gI σ 4 1), .ref (ad 6), .ref (ad 7), .ref (ad 8), .int (gI σ 4 5), .int (gI σ 4 6)] : List Value).set 1 (.int v))) = wdX ad dA (sI σ 4 1 v) := rfl
theorem wX_4_5 {ad : Nat → Nat} {dA : Nat → ClassId} {σ : St} (v : Int32) : (wdX ad dA σ).set 4 (ad 4, .inr (6, ([.ref (ad 5), .int (gI σ 4 1), .ref (ad 6), .ref (ad 7), .ref (ad 8), .int (gI σ 4 5), .int (gI σ 4 6)] : List Value).set 5 (.int v))) = wdX ad dA (sI σ 4 5 v) := rfl
theorem wX_4_6 {ad : Nat → Nat} {dA : Nat → ClassId} {σ : St} (v : Int32) : (wdX ad dA σ).set 4 (ad 4, .inr (6, ([.ref (ad 5), .int (gI σ 4 1), .ref (ad 6), .ref (ad 7), .ref (ad 8), .int (gI σ 4 5), .int (gI σ 4 6)] : List Value).set 6 (.int v))) = wdX ad dA (sI σ 4 6 v) := rfl
theorem wX_5 {ad : Nat → Nat} {dA : Nat → ClassId} {σ : St} (k : Nat) (v : Int32) : (wdX ad dA σ).set 5 (ad 5, .inl (dA 5, 28, .inl (gI (sI σ 5 k v) 5))) = wdX ad dA (sI σ 5 k v) := rfl
theorem wX_6 {ad : Nat → Nat} {dA : Nat → ClassId} {σ : St} (k : Nat) (v : Int32) : (wdX ad dA σ).set 6 (ad 6, .inl (dA 6, 40, .inl (gI (sI σ 6 k v) 6))) = wdX ad dA (sI σ 6 k v) := rfl
theorem wX_7 {ad : Nat → Nat} {dA : Nat → ClassId} {σ : St} (k : Nat) (v : Int32) : (wdX ad dA σ).set 7 (ad 7, .inl (dA 7, 40, .inl (gI (sI σ 7 k v) 7))) = wdX ad dA (sI σ 7 k v) := rfl
theorem wX_8 {ad : Nat → Nat} {dA : Nat → ClassId} {σ : St} (k : Nat) (v : Int32) : (wdX ad dA σ).set 8 (ad 8, .inl (dA 8, 40, .inl (gI (sI σ 8 k v) 8))) = wdX ad dA (sI σ 8 k v) := rfl
theorem wX_9_1 {ad : Nat → Nat} {dA : Nat → ClassId} {σ : St} (v : Int32) : (wdX ad dA σ).set 9 (ad 9, .inr (8, ([.ref (ad 10), .int (gI σ 9 1), .int (gI σ 9 2), .ref (ad 32)] : List Value).set 1 (.int v))) = wdX ad dA (sI σ 9 1 v) := rfl
theorem wX_9_2 {ad : Nat → Nat} {dA : Nat → ClassId} {σ : St} (v : Int32) : (wdX ad dA σ).set 9 (ad 9, .inr (8, ([.ref (ad 10), .int (gI σ 9 1), .int (gI σ 9 2), .ref (ad 32)] : List Value).set 2 (.int v))) = wdX ad dA (sI σ 9 2 v) := rfl
theorem wX_10 {ad : Nat → Nat} {dA : Nat → ClassId} {σ : St} (k : Nat) (v : Int32) : (wdX ad dA σ).set 10 (ad 10, .inl (dA 10, 120, .inl (gI (sI σ 10 k v) 10))) = wdX ad dA (sI σ 10 k v) := rfl
theorem wX_12 {ad : Nat → Nat} {dA : Nat → ClassId} {σ : St} (k : Nat) (v : Int32) : (wdX ad dA σ).set 12 (ad 12, .inl (dA 12, 6, .inl (gI (sI σ 12 k v) 12))) = wdX ad dA (sI σ 12 k v) := rfl
theorem wX_13_2 {ad : Nat → Nat} {dA : Nat → ClassId} {σ : St} (v : Int32) : (wdX ad dA σ).set 13 (ad 13, .inr (2, ([.ref (ad 11), .ref (ad 41), .int (gI σ 13 2), .int (gI σ 13 3), .int (gI σ 13 4), .int (gI σ 13 5), .int (gI σ 13 6), .long (gL σ 13 7), .int (gI σ 13 8), .int (gI σ 13 9)] : List Value).set 2 (.int v))) = wdX ad dA (sI σ 13 2 v) := rfl
theorem wX_13_3 {ad : Nat → Nat} {dA : Nat → ClassId} {σ : St} (v : Int32) : (wdX ad dA σ).set 13 (ad 13, .inr (2, ([.ref (ad 11), .ref (ad 41), .int (gI σ 13 2), .int (gI σ 13 3), .int (gI σ 13 4), .int (gI σ 13 5), .int (gI σ 13 6), .long (gL σ 13 7), .int (gI σ 13 8), .int (gI σ 13 9)] : List Value).set 3 (.int v))) = wdX ad dA (sI σ 13 3 v) := rfl
theorem wX_13_4 {ad : Nat → Nat} {dA : Nat → ClassId} {σ : St} (v : Int32) : (wdX ad dA σ).set 13 (ad 13, .inr (2, ([.ref (ad 11), .ref (ad 41), .int (gI σ 13 2), .int (gI σ 13 3), .int (gI σ 13 4), .int (gI σ 13 5), .int (gI σ 13 6), .long (gL σ 13 7), .int (gI σ 13 8), .int (gI σ 13 9)] : List Value).set 4 (.int v))) = wdX ad dA (sI σ 13 4 v) := rfl
theorem wX_13_5 {ad : Nat → Nat} {dA : Nat → ClassId} {σ : St} (v : Int32) : (wdX ad dA σ).set 13 (ad 13, .inr (2, ([.ref (ad 11), .ref (ad 41), .int (gI σ 13 2), .int (gI σ 13 3), .int (gI σ 13 4), .int (gI σ 13 5), .int (gI σ 13 6), .long (gL σ 13 7), .int (gI σ 13 8), .int (gI σ 13 9)] : List Value).set 5 (.int v))) = wdX ad dA (sI σ 13 5 v) := rfl
theorem wX_13_6 {ad : Nat → Nat} {dA : Nat → ClassId} {σ : St} (v : Int32) : (wdX ad dA σ).set 13 (ad 13, .inr (2, ([.ref (ad 11), .ref (ad 41), .int (gI σ 13 2), .int (gI σ 13 3), .int (gI σ 13 4), .int (gI σ 13 5), .int (gI σ 13 6), .long (gL σ 13 7), .int (gI σ 13 8), .int (gI σ 13 9)] : List Value).set 6 (.int v))) = wdX ad dA (sI σ 13 6 v) := rfl
theorem wX_13_7 {ad : Nat → Nat} {dA : Nat → ClassId} {σ : St} (v : Int64) : (wdX ad dA σ).set 13 (ad 13, .inr (2, ([.ref (ad 11), .ref (ad 41), .int (gI σ 13 2), .int (gI σ 13 3), .int (gI σ 13 4), .int (gI σ 13 5), .int (gI σ 13 6), .long (gL σ 13 7), .int (gI σ 13 8), .int (gI σ 13 9)] : List Value).set 7 (.long v))) = wdX ad dA (sL σ 13 7 v) := rfl
theorem wX_13_8 {ad : Nat → Nat} {dA : Nat → ClassId} {σ : St} (v : Int32) : (wdX ad dA σ).set 13 (ad 13, .inr (2, ([.ref (ad 11), .ref (ad 41), .int (gI σ 13 2), .int (gI σ 13 3), .int (gI σ 13 4), .int (gI σ 13 5), .int (gI σ 13 6), .long (gL σ 13 7), .int (gI σ 13 8), .int (gI σ 13 9)] : List Value).set 8 (.int v))) = wdX ad dA (sI σ 13 8 v) := rfl
theorem wX_13_9 {ad : Nat → Nat} {dA : Nat → ClassId} {σ : St} (v : Int32) : (wdX ad dA σ).set 13 (ad 13, .inr (2, ([.ref (ad 11), .ref (ad 41), .int (gI σ 13 2), .int (gI σ 13 3), .int (gI σ 13 4), .int (gI σ 13 5), .int (gI σ 13 6), .long (gL σ 13 7), .int (gI σ 13 8), .int (gI σ 13 9)] : List Value).set 9 (.int v))) = wdX ad dA (sI σ 13 9 v) := rfl
theorem wX_15 {ad : Nat → Nat} {dA : Nat → ClassId} {σ : St} (k : Nat) (v : Int32) : (wdX ad dA σ).set 15 (ad 15, .inl (dA 15, 625, .inl (gI (sI σ 15 k v) 15))) = wdX ad dA (sI σ 15 k v) := rfl
theorem wX_16 {ad : Nat → Nat} {dA : Nat → ClassId} {σ : St} (k : Nat) (v : Int32) : (wdX ad dA σ).set 16 (ad 16, .inl (dA 16, 320, .inl (gI (sI σ 16 k v) 16))) = wdX ad dA (sI σ 16 k v) := rfl
theorem wX_18_2 {ad : Nat → Nat} {dA : Nat → ClassId} {σ : St} (v : Int32) : (wdX ad dA σ).set 18 (ad 18, .inr (4, ([.ref (ad 19), .ref (ad 20), .int (gI σ 18 2), .ref (ad 21), .ref (ad 22)] : List Value).set 2 (.int v))) = wdX ad dA (sI σ 18 2 v) := rfl
theorem wX_19 {ad : Nat → Nat} {dA : Nat → ClassId} {σ : St} (k : Nat) (v : Int32) : (wdX ad dA σ).set 19 (ad 19, .inl (dA 19, 10, .inl (gI (sI σ 19 k v) 19))) = wdX ad dA (sI σ 19 k v) := rfl
theorem wX_20 {ad : Nat → Nat} {dA : Nat → ClassId} {σ : St} (k : Nat) (v : Int32) : (wdX ad dA σ).set 20 (ad 20, .inl (dA 20, 10, .inl (gI (sI σ 20 k v) 20))) = wdX ad dA (sI σ 20 k v) := rfl
theorem wX_21 {ad : Nat → Nat} {dA : Nat → ClassId} {σ : St} (k : Nat) (v : Int32) : (wdX ad dA σ).set 21 (ad 21, .inl (dA 21, 7, .inl (gI (sI σ 21 k v) 21))) = wdX ad dA (sI σ 21 k v) := rfl
theorem wX_22 {ad : Nat → Nat} {dA : Nat → ClassId} {σ : St} (k : Nat) (v : Int32) : (wdX ad dA σ).set 22 (ad 22, .inl (dA 22, 6, .inl (gI (sI σ 22 k v) 22))) = wdX ad dA (sI σ 22 k v) := rfl
theorem wX_23_2 {ad : Nat → Nat} {dA : Nat → ClassId} {σ : St} (v : Int32) : (wdX ad dA σ).set 23 (ad 23, .inr (5, ([.ref (ad 11), .ref (ad 61), .int (gI σ 23 2), .int (gI σ 23 3), .int (gI σ 23 4)] : List Value).set 2 (.int v))) = wdX ad dA (sI σ 23 2 v) := rfl
theorem wX_23_3 {ad : Nat → Nat} {dA : Nat → ClassId} {σ : St} (v : Int32) : (wdX ad dA σ).set 23 (ad 23, .inr (5, ([.ref (ad 11), .ref (ad 61), .int (gI σ 23 2), .int (gI σ 23 3), .int (gI σ 23 4)] : List Value).set 3 (.int v))) = wdX ad dA (sI σ 23 3 v) := rfl
theorem wX_23_4 {ad : Nat → Nat} {dA : Nat → ClassId} {σ : St} (v : Int32) : (wdX ad dA σ).set 23 (ad 23, .inr (5, ([.ref (ad 11), .ref (ad 61), .int (gI σ 23 2), .int (gI σ 23 3), .int (gI σ 23 4)] : List Value).set 4 (.int v))) = wdX ad dA (sI σ 23 4 v) := rfl
theorem wX_24_1 {ad : Nat → Nat} {dA : Nat → ClassId} {σ : St} (v : Int32) : (wdX ad dA σ).set 24 (ad 24, .inr (0, ([.ref (ad 25), .int (gI σ 24 1), .ref (ad 26), .int (gI σ 24 3), .int (gI σ 24 4), .int (gI σ 24 5)] : List Value).set 1 (.int v))) = wdX ad dA (sI σ 24 1 v) := rfl
theorem wX_24_3 {ad : Nat → Nat} {dA : Nat → ClassId} {σ : St} (v : Int32) : (wdX ad dA σ).set 24 (ad 24, .inr (0, ([.ref (ad 25), .int (gI σ 24 1), .ref (ad 26), .int (gI σ 24 3), .int (gI σ 24 4), .int (gI σ 24 5)] : List Value).set 3 (.int v))) = wdX ad dA (sI σ 24 3 v) := rfl
theorem wX_24_4 {ad : Nat → Nat} {dA : Nat → ClassId} {σ : St} (v : Int32) : (wdX ad dA σ).set 24 (ad 24, .inr (0, ([.ref (ad 25), .int (gI σ 24 1), .ref (ad 26), .int (gI σ 24 3), .int (gI σ 24 4), .int (gI σ 24 5)] : List Value).set 4 (.int v))) = wdX ad dA (sI σ 24 4 v) := rfl
theorem wX_24_5 {ad : Nat → Nat} {dA : Nat → ClassId} {σ : St} (v : Int32) : (wdX ad dA σ).set 24 (ad 24, .inr (0, ([.ref (ad 25), .int (gI σ 24 1), .ref (ad 26), .int (gI σ 24 3), .int (gI σ 24 4), .int (gI σ 24 5)] : List Value).set 5 (.int v))) = wdX ad dA (sI σ 24 5 v) := rfl
theorem wX_25 {ad : Nat → Nat} {dA : Nat → ClassId} {σ : St} (k : Nat) (v : Int32) : (wdX ad dA σ).set 25 (ad 25, .inl (dA 25, 50, .inl (gI (sI σ 25 k v) 25))) = wdX ad dA (sI σ 25 k v) := rfl
theorem wX_26 {ad : Nat → Nat} {dA : Nat → ClassId} {σ : St} (k : Nat) (v : Int32) : (wdX ad dA σ).set 26 (ad 26, .inl (dA 26, 24, .inl (gI (sI σ 26 k v) 26))) = wdX ad dA (sI σ 26 k v) := rfl
theorem wX_X1_1 {ad : Nat → Nat} {dA : Nat → ClassId} {σ : St} {b : Nat} (hb : isB b) (v : Int32) : (wdX ad dA σ).set b (ad b, .inr (1, ([.ref (ad (b + 1)), .int (gI σ b 1)] : List Value).set 1 (.int v))) = wdX ad dA (sI σ b 1 v) := by
  obtain ⟨i, hi, rfl⟩ := hb
  match i, hi with
  | 0, _ => exact rfl
  | 1, _ => exact rfl
  | 2, _ => exact rfl
  | 3, _ => exact rfl
  | 4, _ => exact rfl
  | 5, _ => exact rfl
  | 6, _ => exact rfl
  | 7, _ => exact rfl
  | 8, _ => exact rfl
  | 9, _ => exact rfl
  | 10, _ => exact rfl
  | 11, _ => exact rfl
  | 12, _ => exact rfl
  | i + 13, h => exact absurd h (by omega)
theorem wX_X1a1 {ad : Nat → Nat} {dA : Nat → ClassId} {σ : St} {b : Nat} (hb : isB b) (k : Nat) (v : Int32) : (wdX ad dA σ).set (b + 1) (ad (b + 1), .inl (dA (b + 1), 7, .inl (gI (sI σ (b + 1) k v) (b + 1)))) = wdX ad dA (sI σ (b + 1) k v) := by
  obtain ⟨i, hi, rfl⟩ := hb
  match i, hi with
  | 0, _ => exact rfl
  | 1, _ => exact rfl
  | 2, _ => exact rfl
  | 3, _ => exact rfl
  | 4, _ => exact rfl
  | 5, _ => exact rfl
  | 6, _ => exact rfl
  | 7, _ => exact rfl
  | 8, _ => exact rfl
  | 9, _ => exact rfl
  | 10, _ => exact rfl
  | 11, _ => exact rfl
  | 12, _ => exact rfl
  | i + 13, h => exact absurd h (by omega)
theorem wX_X7_4 {ad : Nat → Nat} {dA : Nat → ClassId} {σ : St} {b : Nat} (hb : isL b) (v : Int32) : (wdX ad dA σ).set b (ad b, .inr (7, ([.ref (ad (b + 1)), .ref (ad (b + 2)), .ref (ad (b + 3)), .ref (ad (b + 4)), .int (gI σ b 4)] : List Value).set 4 (.int v))) = wdX ad dA (sI σ b 4 v) := by
  obtain ⟨i, hi, rfl⟩ := hb
  match i, hi with
  | 0, _ => exact rfl
  | 1, _ => exact rfl
  | i + 2, h => exact absurd h (by omega)
theorem wX_X7a1 {ad : Nat → Nat} {dA : Nat → ClassId} {σ : St} {b : Nat} (hb : isL b) (k : Nat) (v : Int32) : (wdX ad dA σ).set (b + 1) (ad (b + 1), .inl (dA (b + 1), 242, .inl (gI (sI σ (b + 1) k v) (b + 1)))) = wdX ad dA (sI σ (b + 1) k v) := by
  obtain ⟨i, hi, rfl⟩ := hb
  match i, hi with
  | 0, _ => exact rfl
  | 1, _ => exact rfl
  | i + 2, h => exact absurd h (by omega)
theorem wX_X7a2 {ad : Nat → Nat} {dA : Nat → ClassId} {σ : St} {b : Nat} (hb : isL b) (k : Nat) (v : Int32) : (wdX ad dA σ).set (b + 2) (ad (b + 2), .inl (dA (b + 2), 242, .inl (gI (sI σ (b + 2) k v) (b + 2)))) = wdX ad dA (sI σ (b + 2) k v) := by
  obtain ⟨i, hi, rfl⟩ := hb
  match i, hi with
  | 0, _ => exact rfl
  | 1, _ => exact rfl
  | i + 2, h => exact absurd h (by omega)
theorem wX_X7a3 {ad : Nat → Nat} {dA : Nat → ClassId} {σ : St} {b : Nat} (hb : isL b) (k : Nat) (v : Int32) : (wdX ad dA σ).set (b + 3) (ad (b + 3), .inl (dA (b + 3), 242, .inl (gI (sI σ (b + 3) k v) (b + 3)))) = wdX ad dA (sI σ (b + 3) k v) := by
  obtain ⟨i, hi, rfl⟩ := hb
  match i, hi with
  | 0, _ => exact rfl
  | 1, _ => exact rfl
  | i + 2, h => exact absurd h (by omega)
theorem wX_X7a4 {ad : Nat → Nat} {dA : Nat → ClassId} {σ : St} {b : Nat} (hb : isL b) (k : Nat) (v : Int32) : (wdX ad dA σ).set (b + 4) (ad (b + 4), .inl (dA (b + 4), 242, .inl (gI (sI σ (b + 4) k v) (b + 4)))) = wdX ad dA (sI σ (b + 4) k v) := by
  obtain ⟨i, hi, rfl⟩ := hb
  match i, hi with
  | 0, _ => exact rfl
  | 1, _ => exact rfl
  | i + 2, h => exact absurd h (by omega)
theorem wX_X10_1 {ad : Nat → Nat} {dA : Nat → ClassId} {σ : St} {b : Nat} (hb : isS b) (v : Int32) : (wdX ad dA σ).set b (ad b, .inr (10, ([.ref (ad (b + 1)), .int (gI σ b 1), .int (gI σ b 2), .int (gI σ b 3)] : List Value).set 1 (.int v))) = wdX ad dA (sI σ b 1 v) := by
  obtain ⟨i, hi, rfl⟩ := hb
  match i, hi with
  | 0, _ => exact rfl
  | 1, _ => exact rfl
  | 2, _ => exact rfl
  | 3, _ => exact rfl
  | 4, _ => exact rfl
  | 5, _ => exact rfl
  | i + 6, h => exact absurd h (by omega)
theorem wX_X10_2 {ad : Nat → Nat} {dA : Nat → ClassId} {σ : St} {b : Nat} (hb : isS b) (v : Int32) : (wdX ad dA σ).set b (ad b, .inr (10, ([.ref (ad (b + 1)), .int (gI σ b 1), .int (gI σ b 2), .int (gI σ b 3)] : List Value).set 2 (.int v))) = wdX ad dA (sI σ b 2 v) := by
  obtain ⟨i, hi, rfl⟩ := hb
  match i, hi with
  | 0, _ => exact rfl
  | 1, _ => exact rfl
  | 2, _ => exact rfl
  | 3, _ => exact rfl
  | 4, _ => exact rfl
  | 5, _ => exact rfl
  | i + 6, h => exact absurd h (by omega)
theorem wX_X10_3 {ad : Nat → Nat} {dA : Nat → ClassId} {σ : St} {b : Nat} (hb : isS b) (v : Int32) : (wdX ad dA σ).set b (ad b, .inr (10, ([.ref (ad (b + 1)), .int (gI σ b 1), .int (gI σ b 2), .int (gI σ b 3)] : List Value).set 3 (.int v))) = wdX ad dA (sI σ b 3 v) := by
  obtain ⟨i, hi, rfl⟩ := hb
  match i, hi with
  | 0, _ => exact rfl
  | 1, _ => exact rfl
  | 2, _ => exact rfl
  | 3, _ => exact rfl
  | 4, _ => exact rfl
  | 5, _ => exact rfl
  | i + 6, h => exact absurd h (by omega)
theorem wX_X10a1 {ad : Nat → Nat} {dA : Nat → ClassId} {σ : St} {b : Nat} (hb : isS b) (k : Nat) (v : Int64) : (wdX ad dA σ).set (b + 1) (ad (b + 1), .inl (dA (b + 1), 60, .inr (.inl (gL (sL σ (b + 1) k v) (b + 1))))) = wdX ad dA (sL σ (b + 1) k v) := by
  obtain ⟨i, hi, rfl⟩ := hb
  match i, hi with
  | 0, _ => exact rfl
  | 1, _ => exact rfl
  | 2, _ => exact rfl
  | 3, _ => exact rfl
  | 4, _ => exact rfl
  | 5, _ => exact rfl
  | i + 6, h => exact absurd h (by omega)
theorem wX_40 {ad : Nat → Nat} {dA : Nat → ClassId} {σ : St} {b : Nat} (hb : is40 b) (k : Nat) (v : Int32) : (wdX ad dA σ).set b (ad b, .inl (dA b, 40, .inl (gI (sI σ b k v) b))) = wdX ad dA (sI σ b k v) := by
  obtain ⟨i, hi, rfl⟩ := hb
  match i, hi with
  | 0, _ => exact rfl
  | 1, _ => exact rfl
  | 2, _ => exact rfl
  | i + 3, h => exact absurd h (by omega)
