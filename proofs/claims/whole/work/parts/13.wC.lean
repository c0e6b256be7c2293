noncomputable def F_X8_isFull (n : Nat)  (σ : St) : Option (Int32 × St) := if (gI σ 9 1) < (120 : Int32) then (some ((0 : Int32), σ)) else (some ((1 : Int32), σ))
set_option maxHeartbeats 4000000 in
set_option maxRecDepth 20000 in
theorem c_X8_isFull (l : Launch) {D : va_G} {A : Nat → Prop} {ad : Nat → Nat} {dA : Nat → ClassId}  (n : Nat)  (σ : St) {res : Int32 × St} (hM : F_X8_isFull n  σ = some res) : MI l yX8_isFull cX8_isFull 1 (some .boolean) 1 D (tysX dA) (wdX ad dA) A [.ref (ad 9)] σ (QI D (wdX ad dA) A res) := by
  refine mk_met (by decide +kernel) (Nat.le_of_ble_eq_true rfl) (fun p e s m below meth c K => ?_)
  have K : Cx p s m _ meth c cX8_isFull 1 (some .boolean) RX8 D (tysX dA) (wdX ad dA) A := K
  refine v_aload_n K dX8_isFull_0 0 rfl ?_
  refine g_X8_1 K qf_X8_17 dX8_isFull_1 ?_
  refine v_bipush (v := (120 : Int32)) K dX8_isFull_4 (by decide) ?_
  refine v_icmp_lt K 13 dX8_isFull_6 (by decide) hM (fun hM => ?_) (fun hM => ?_)
  · refine v_iconst (v := (0 : Int32)) K dX8_isFull_13 (by decide) ?_
    exact v_zret K rfl rfl dX8_isFull_14 hM
  · refine v_iconst (v := (1 : Int32)) K dX8_isFull_9 (by decide) ?_
    refine v_goto (tgt := 14) K dX8_isFull_10 (by decide) ?_
    exact v_zret K rfl rfl dX8_isFull_14 hM
noncomputable def F_X8_letters (n : Nat)  (σ : St) : Option (Int32 × St) := some ((gI σ 9 1), σ)
set_option maxHeartbeats 4000000 in
set_option maxRecDepth 20000 in
theorem c_X8_letters (l : Launch) {D : va_G} {A : Nat → Prop} {ad : Nat → Nat} {dA : Nat → ClassId}  (n : Nat)  (σ : St) {res : Int32 × St} (hM : F_X8_letters n  σ = some res) : MI l yX8_letters cX8_letters 1 (some .int) 1 D (tysX dA) (wdX ad dA) A [.ref (ad 9)] σ (QI D (wdX ad dA) A res) := by
  refine mk_met (by decide +kernel) (Nat.le_of_ble_eq_true rfl) (fun p e s m below meth c K => ?_)
  have K : Cx p s m _ meth c cX8_letters 1 (some .int) RX8 D (tysX dA) (wdX ad dA) A := K
  refine v_aload_n K dX8_letters_0 0 rfl ?_
  refine g_X8_1 K qf_X8_17 dX8_letters_1 ?_
  exact v_iret K rfl dX8_letters_4 hM
noncomputable def F_X8_take (n : Nat) (p1 : Int32) (σ : St) : Option (Int32 × St) := bd (F_X8_isFull n  σ) fun r2 s1 => if r2 = 0 then (gd (vp_in (gI s1 9 1) 120) (bnd (sI s1 10 ((gI s1 9 1)).toNatClampNeg (vp_nar .char (((p1).toUInt32 % 65536).toInt32))) fun s3 => bnd (sI s3 9 1 ((gI s3 9 1) + (1 : Int32))) fun s4 => some ((gI s4 9 1), s4))) else (some ((gI s1 9 1), s1))
set_option maxHeartbeats 4000000 in
set_option maxRecDepth 20000 in
theorem c_X8_take (l : Launch) {D : va_G} {A : Nat → Prop} {ad : Nat → Nat} {dA : Nat → ClassId}  (n : Nat) (p1 : Int32) (σ : St) {res : Int32 × St} (hM : F_X8_take n p1 σ = some res) : MI l yX8_take cX8_take 2 (some .int) 2 D (tysX dA) (wdX ad dA) A [.ref (ad 9), .int p1] σ (QI D (wdX ad dA) A res) := by
  refine mk_met (by decide +kernel) (Nat.le_of_ble_eq_true rfl) (fun p e s m below meth c K => ?_)
  have K : Cx p s m _ meth c cX8_take 2 (some .int) RX8 D (tysX dA) (wdX ad dA) A := K
  refine v_aload_n K dX8_take_0 0 rfl ?_
  refine x_Vi (As := []) (st := []) K uv_X8_isFull qm_X8_29 dX8_take_1 rv_X8 (fun _ h => c_X8_isFull l  n  σ h) rfl ⟨(Nat.le_of_ble_eq_true rfl), (Nat.le_of_ble_eq_true rfl)⟩ (Nat.le_of_ble_eq_true rfl) hM (fun r2 s1 hM => ?_)
  refine v_if_ne K 28 dX8_take_4 (by decide) hM (fun hM => ?_) (fun hM => ?_)
  · refine v_aload_n K dX8_take_28 0 rfl ?_
    refine g_X8_1 K qf_X8_17 dX8_take_29 ?_
    exact v_iret K rfl dX8_take_32 hM
  · refine v_aload_n K dX8_take_7 0 rfl ?_
    refine g_X8_0 K qf_X8_11 dX8_take_8 ?_
    refine v_aload_n K dX8_take_11 0 rfl ?_
    refine g_X8_1 K qf_X8_17 dX8_take_12 ?_
    refine v_iload_n K dX8_take_15 1 rfl ?_
    refine v_i2c K dX8_take_16 ?_
    refine st_X10 K dX8_take_17 hM (fun s3 hM => ?_)
    refine v_aload_n K dX8_take_18 0 rfl ?_
    refine v_dup K dX8_take_19 rfl ?_
    refine g_X8_1 K qf_X8_17 dX8_take_20 ?_
    refine v_iconst (v := (1 : Int32)) K dX8_take_23 (by decide) ?_
    refine v_iadd K dX8_take_24 ?_
    refine p_X8_1 K qf_X8_17 dX8_take_25 hM (fun s4 hM => ?_)
    refine v_aload_n K dX8_take_28 0 rfl ?_
    refine g_X8_1 K qf_X8_17 dX8_take_29 ?_
    exact v_iret K rfl dX8_take_32 hM
noncomputable def F_X8_tightnessOf (n : Nat) (p0 : Int32) (σ : St) : Option (Int32 × St) := if p0 = (37 : Int32) then (some ((4 : Int32), σ)) else (if p0 = (38 : Int32) then (some ((1 : Int32), σ)) else (if p0 = (42 : Int32) then (some ((4 : Int32), σ)) else (if p0 = (43 : Int32) then (some ((3 : Int32), σ)) else (if p0 = (45 : Int32) then (some ((3 : Int32), σ)) else (if p0 = (47 : Int32) then (some ((4 : Int32), σ)) else (if p0 = (60 : Int32) then (some ((2 : Int32), σ)) else (if p0 = (61 : Int32) then (some ((2 : Int32), σ)) else (if p0 = (62 : Int32) then (some ((2 : Int32), σ)) else (if p0 = (124 : Int32) then (some ((0 : Int32), σ)) else (some ((-1 : Int32), σ)))))))))))
set_option maxHeartbeats 4000000 in
set_option maxRecDepth 20000 in
theorem c_X8_tightnessOf (l : Launch) {D : va_G} {A : Nat → Prop} {ad : Nat → Nat} {dA : Nat → ClassId}  (n : Nat) (p0 : Int32) (σ : St) {res : Int32 × St} (hM : F_X8_tightnessOf n p0 σ = some res) : MI l yX8_tightnessOf cX8_tightnessOf 1 (some .int) 1 D (tysX dA) (wdX ad dA) A [.int p0] σ (QI D (wdX ad dA) A res) := by
  refine mk_met (by decide +kernel) (Nat.le_of_ble_eq_true rfl) (fun p e s m below meth c K => ?_)
  have K : Cx p s m _ meth c cX8_tightnessOf 1 (some .int) RX8 D (tysX dA) (wdX ad dA) A := K
  refine v_iload_n K dX8_tightnessOf_0 0 rfl ?_
  rcases ite_inv hM with ⟨hx1, hM⟩ | ⟨hx1, hM⟩
  · refine v_lookI K dX8_tightnessOf_1 (k := (37 : Int32)) hx1 (by decide) (off := 99) (by decide) (tgt := 100) (by decide) ?_
    refine v_iconst (v := (4 : Int32)) K dX8_tightnessOf_100 (by decide) ?_
    exact v_iret K rfl dX8_tightnessOf_101 hM
  rcases ite_inv hM with ⟨hx2, hM⟩ | ⟨hx2, hM⟩
  · refine v_lookI K dX8_tightnessOf_1 (k := (38 : Int32)) hx2 (by decide) (off := 93) (by decide) (tgt := 94) (by decide) ?_
    refine v_iconst (v := (1 : Int32)) K dX8_tightnessOf_94 (by decide) ?_
    exact v_iret K rfl dX8_tightnessOf_95 hM
  rcases ite_inv hM with ⟨hx3, hM⟩ | ⟨hx3, hM⟩
  · refine v_lookI K dX8_tightnessOf_1 (k := (42 : Int32)) hx3 (by decide) (off := 99) (by decide) (tgt := 100) (by decide) ?_
    refine v_iconst (v := (4 : Int32)) K dX8_tightnessOf_100 (by decide) ?_
    exact v_iret K rfl dX8_tightnessOf_101 hM
  rcases ite_inv hM with ⟨hx4, hM⟩ | ⟨hx4, hM⟩
  · refine v_lookI K dX8_tightnessOf_1 (k := (43 : Int32)) hx4 (by decide) (off := 97) (by decide) (tgt := 98) (by decide) ?_
    refine v_iconst (v := (3 : Int32)) K dX8_tightnessOf_98 (by decide) ?_
    exact v_iret K rfl dX8_tightnessOf_99 hM
  rcases ite_inv hM with ⟨hx5, hM⟩ | ⟨hx5, hM⟩
  · refine v_lookI K dX8_tightnessOf_1 (k := (45 : Int32)) hx5 (by decide) (off := 97) (by decide) (tgt := 98) (by decide) ?_
    refine v_iconst (v := (3 : Int32)) K dX8_tightnessOf_98 (by decide) ?_
    exact v_iret K rfl dX8_tightnessOf_99 hM
  rcases ite_inv hM with ⟨hx6, hM⟩ | ⟨hx6, hM⟩
  · refine v_lookI K dX8_tightnessOf_1 (k := (47 : Int32)) hx6 (by decide) (off := 99) (by decide) (tgt := 100) (by decide) ?_
    refine v_iconst (v := (4 : Int32)) K dX8_tightnessOf_100 (by decide) ?_
    exact v_iret K rfl dX8_tightnessOf_101 hM
  rcases ite_inv hM with ⟨hx7, hM⟩ | ⟨hx7, hM⟩
  · refine v_lookI K dX8_tightnessOf_1 (k := (60 : Int32)) hx7 (by decide) (off := 95) (by decide) (tgt := 96) (by decide) ?_
    refine v_iconst (v := (2 : Int32)) K dX8_tightnessOf_96 (by decide) ?_
    exact v_iret K rfl dX8_tightnessOf_97 hM
  rcases ite_inv hM with ⟨hx8, hM⟩ | ⟨hx8, hM⟩
  · refine v_lookI K dX8_tightnessOf_1 (k := (61 : Int32)) hx8 (by decide) (off := 95) (by decide) (tgt := 96) (by decide) ?_
    refine v_iconst (v := (2 : Int32)) K dX8_tightnessOf_96 (by decide) ?_
    exact v_iret K rfl dX8_tightnessOf_97 hM
  rcases ite_inv hM with ⟨hx9, hM⟩ | ⟨hx9, hM⟩
  · refine v_lookI K dX8_tightnessOf_1 (k := (62 : Int32)) hx9 (by decide) (off := 95) (by decide) (tgt := 96) (by decide) ?_
    refine v_iconst (v := (2 : Int32)) K dX8_tightnessOf_96 (by decide) ?_
    exact v_iret K rfl dX8_tightnessOf_97 hM
  rcases ite_inv hM with ⟨hx10, hM⟩ | ⟨hx10, hM⟩
  · refine v_lookI K dX8_tightnessOf_1 (k := (124 : Int32)) hx10 (by decide) (off := 91) (by decide) (tgt := 92) (by decide) ?_
    refine v_iconst (v := (0 : Int32)) K dX8_tightnessOf_92 (by decide) ?_
    exact v_iret K rfl dX8_tightnessOf_93 hM
  refine v_lookO K dX8_tightnessOf_1 (by decide) (off := 101) (by have a0 : p0.toInt ≠ 37 := ne_toInt hx1; have a1 : p0.toInt ≠ 38 := ne_toInt hx2; have a2 : p0.toInt ≠ 42 := ne_toInt hx3; have a3 : p0.toInt ≠ 43 := ne_toInt hx4; have a4 : p0.toInt ≠ 45 := ne_toInt hx5; have a5 : p0.toInt ≠ 47 := ne_toInt hx6; have a6 : p0.toInt ≠ 60 := ne_toInt hx7; have a7 : p0.toInt ≠ 61 := ne_toInt hx8; have a8 : p0.toInt ≠ 62 := ne_toInt hx9; have a9 : p0.toInt ≠ 124 := ne_toInt hx10; simp [Op.lookupswitch.offset, a0, Ne.symm a0, a1, Ne.symm a1, a2, Ne.symm a2, a3, Ne.symm a3, a4, Ne.symm a4, a5, Ne.symm a5, a6, Ne.symm a6, a7, Ne.symm a7, a8, Ne.symm a8, a9, Ne.symm a9]) (tgt := 102) (by decide) ?_
  refine v_iconst (v := (-1 : Int32)) K dX8_tightnessOf_102 (by decide) ?_
  exact v_iret K rfl dX8_tightnessOf_103 hM
noncomputable def F_X8_isAtSign (n : Nat) (p1 : Int32) (σ : St) : Option (Int32 × St) := if (gI σ 9 1) ≤ (gI σ 9 2) then (some ((0 : Int32), σ)) else (gd (vp_in (gI σ 9 2) 120) (bd (F_X8_tightnessOf n (gI σ 10 ((gI σ 9 2)).toNatClampNeg) σ) fun r2 s1 => if r2 = p1 then (some ((1 : Int32), s1)) else (some ((0 : Int32), s1))))
set_option maxHeartbeats 4000000 in
set_option maxRecDepth 20000 in
theorem c_X8_isAtSign (l : Launch) {D : va_G} {A : Nat → Prop} {ad : Nat → Nat} {dA : Nat → ClassId}  (n : Nat) (p1 : Int32) (σ : St) {res : Int32 × St} (hM : F_X8_isAtSign n p1 σ = some res) : MI l yX8_isAtSign cX8_isAtSign 2 (some .boolean) 2 D (tysX dA) (wdX ad dA) A [.ref (ad 9), .int p1] σ (QI D (wdX ad dA) A res) := by
  refine mk_met (by decide +kernel) (Nat.le_of_ble_eq_true rfl) (fun p e s m below meth c K => ?_)
  have K : Cx p s m _ meth c cX8_isAtSign 2 (some .boolean) RX8 D (tysX dA) (wdX ad dA) A := K
  refine v_aload_n K dX8_isAtSign_0 0 rfl ?_
  refine g_X8_2 K qf_X8_21 dX8_isAtSign_1 ?_
  refine v_aload_n K dX8_isAtSign_4 0 rfl ?_
  refine g_X8_1 K qf_X8_17 dX8_isAtSign_5 ?_
  refine v_icmp_ge K 31 dX8_isAtSign_8 (by decide) hM (fun hM => ?_) (fun hM => ?_)
  · refine v_iconst (v := (0 : Int32)) K dX8_isAtSign_31 (by decide) ?_
    exact v_zret K rfl rfl dX8_isAtSign_32 hM
  · refine v_aload_n K dX8_isAtSign_11 0 rfl ?_
    refine g_X8_0 K qf_X8_11 dX8_isAtSign_12 ?_
    refine v_aload_n K dX8_isAtSign_15 0 rfl ?_
    refine g_X8_2 K qf_X8_21 dX8_isAtSign_16 ?_
    refine ld_X10 K dX8_isAtSign_19 hM (fun hM => ?_)
    refine x_Si (As := [.int (gI σ 10 ((gI σ 9 2)).toNatClampNeg)]) (st := []) K us_X8_tightnessOf qm_X8_70 dX8_isAtSign_20 (fun _ h => c_X8_tightnessOf l  n (gI σ 10 ((gI σ 9 2)).toNatClampNeg) σ h) rfl ⟨(Nat.le_of_ble_eq_true rfl), (Nat.le_of_ble_eq_true rfl)⟩ (Nat.le_of_ble_eq_true rfl) hM (fun r2 s1 hM => ?_)
    refine v_iload_n K dX8_isAtSign_23 1 rfl ?_
    refine v_icmp_ne K 31 dX8_isAtSign_24 (by decide) hM (fun hM => ?_) (fun hM => ?_)
    · refine v_iconst (v := (0 : Int32)) K dX8_isAtSign_31 (by decide) ?_
      exact v_zret K rfl rfl dX8_isAtSign_32 hM
    · refine v_iconst (v := (1 : Int32)) K dX8_isAtSign_27 (by decide) ?_
      refine v_goto (tgt := 32) K dX8_isAtSign_28 (by decide) ?_
      exact v_zret K rfl rfl dX8_isAtSign_32 hM
noncomputable def F_X8_isDigit (n : Nat) (p0 : Int32) (σ : St) : Option (Int32 × St) := if p0 < (48 : Int32) then (some ((0 : Int32), σ)) else (if (57 : Int32) < p0 then (some ((0 : Int32), σ)) else (some ((1 : Int32), σ)))
set_option maxHeartbeats 4000000 in
set_option maxRecDepth 20000 in
theorem c_X8_isDigit (l : Launch) {D : va_G} {A : Nat → Prop} {ad : Nat → Nat} {dA : Nat → ClassId}  (n : Nat) (p0 : Int32) (σ : St) {res : Int32 × St} (hM : F_X8_isDigit n p0 σ = some res) : MI l yX8_isDigit cX8_isDigit 1 (some .boolean) 1 D (tysX dA) (wdX ad dA) A [.int p0] σ (QI D (wdX ad dA) A res) := by
  refine mk_met (by decide +kernel) (Nat.le_of_ble_eq_true rfl) (fun p e s m below meth c K => ?_)
  have K : Cx p s m _ meth c cX8_isDigit 1 (some .boolean) RX8 D (tysX dA) (wdX ad dA) A := K
  refine v_iload_n K dX8_isDigit_0 0 rfl ?_
  refine v_bipush (v := (48 : Int32)) K dX8_isDigit_1 (by decide) ?_
  refine v_icmp_lt K 16 dX8_isDigit_3 (by decide) hM (fun hM => ?_) (fun hM => ?_)
  · refine v_iconst (v := (0 : Int32)) K dX8_isDigit_16 (by decide) ?_
    exact v_zret K rfl rfl dX8_isDigit_17 hM
  · refine v_iload_n K dX8_isDigit_6 0 rfl ?_
    refine v_bipush (v := (57 : Int32)) K dX8_isDigit_7 (by decide) ?_
    refine v_icmp_gt K 16 dX8_isDigit_9 (by decide) hM (fun hM => ?_) (fun hM => ?_)
    · refine v_iconst (v := (0 : Int32)) K dX8_isDigit_16 (by decide) ?_
      exact v_zret K rfl rfl dX8_isDigit_17 hM
    · refine v_iconst (v := (1 : Int32)) K dX8_isDigit_12 (by decide) ?_
      refine v_goto (tgt := 17) K dX8_isDigit_13 (by decide) ?_
      exact v_zret K rfl rfl dX8_isDigit_17 hM
noncomputable def B_X8_readNumber_1 (J : Nat → Int32 → Int32 → St → Option (Int32 × St)) (n : Nat)  (l1 : Int32) (l2 : Int32) (σ : St) : Option (Int32 × St) := if (4 : Int32) ≤ l2 then (some (l1, σ)) else (if (gI σ 9 1) ≤ (gI σ 9 2) then (some (l1, σ)) else (gd (vp_in (gI σ 9 2) 120) (bd (F_X8_isDigit n (gI σ 10 ((gI σ 9 2)).toNatClampNeg) σ) fun r2 s1 => if r2 = 0 then (some (l1, s1)) else (gd (vp_in (gI s1 9 2) 120) (bnd ((((10 : Int32) * l1) + (gI s1 10 ((gI s1 9 2)).toNatClampNeg)) - (48 : Int32)) fun x3 => bnd (sI s1 9 2 ((gI s1 9 2) + (1 : Int32))) fun s4 => bnd (l2 + (1 : Int32)) fun x5 => J 1 x3 x5 s4)))))
noncomputable def S_X8_readNumber  (n : Nat) (J : Nat → Int32 → Int32 → St → Option (Int32 × St)) : Nat → Int32 → Int32 → St → Option (Int32 × St) := fun lb a0 a1 σ => match lb with
  | 1 => B_X8_readNumber_1 J n  a0 a1 σ
  | _ => none
noncomputable def L_X8_readNumber  (n : Nat) : Nat → Int32 → Int32 → St → Option (Int32 × St) := Nat.rec (fun _ _ _ _ => none) (fun n J => S_X8_readNumber  n J) n
noncomputable def F_X8_readNumber (n : Nat)  (σ : St) : Option (Int32 × St) := L_X8_readNumber  n 1 (0 : Int32) (0 : Int32) σ
set_option maxHeartbeats 4000000 in
set_option maxRecDepth 20000 in
theorem t_X8_readNumber (l : Launch) {p : Program} {e : Env} {s : State} {m : MethodId} {args : Array Value} {below : List Frame} {meth : Method} {c : Code} {D : va_G} {A : Nat → Prop} {ad : Nat → Nat} {dA : Nat → ClassId}   (K : Cx p s m args meth c cX8_readNumber 3 (some .int) RX8 D (tysX dA) (wdX ad dA) A) {res : Int32 × St} (n : Nat) : (∀ (l1 : Int32) (l2 : Int32) (σ : St), L_X8_readNumber  n 1 l1 l2 σ = some res → V p l e (rmH 2) s m args below meth c 3 D (wdX ad dA) A (MQ below (QI D (wdX ad dA) A res) args s 0 0 A) 4 [(0, .ref (ad 9)), (1, .int l1), (2, .int l2)] [] σ) := by
  induction n with
  | zero => exact (fun _ _ _ h => (by cases h))
  | succ n ih =>
    have ih_1 := ih
    · intro l1 l2 σ hM
      have hM : B_X8_readNumber_1 (L_X8_readNumber  n) n  l1 l2 σ = some res := hM
      refine v_iload_n K dX8_readNumber_4 2 rfl ?_
      refine v_iconst (v := (4 : Int32)) K dX8_readNumber_5 (by decide) ?_
      refine v_icmp_ge K 69 dX8_readNumber_6 (by decide) hM (fun hM => ?_) (fun hM => ?_)
      · refine v_iload_n K dX8_readNumber_69 1 rfl ?_
        exact v_iret K rfl dX8_readNumber_70 hM
      · refine v_aload_n K dX8_readNumber_9 0 rfl ?_
        refine g_X8_2 K qf_X8_21 dX8_readNumber_10 ?_
        refine v_aload_n K dX8_readNumber_13 0 rfl ?_
        refine g_X8_1 K qf_X8_17 dX8_readNumber_14 ?_
        refine v_icmp_ge K 69 dX8_readNumber_17 (by decide) hM (fun hM => ?_) (fun hM => ?_)
        · refine v_iload_n K dX8_readNumber_69 1 rfl ?_
          exact v_iret K rfl dX8_readNumber_70 hM
        · refine v_aload_n K dX8_readNumber_20 0 rfl ?_
          refine g_X8_0 K qf_X8_11 dX8_readNumber_21 ?_
          refine v_aload_n K dX8_readNumber_24 0 rfl ?_
          refine g_X8_2 K qf_X8_21 dX8_readNumber_25 ?_
          refine ld_X10 K dX8_readNumber_28 hM (fun hM => ?_)
          refine x_Si (As := [.int (gI σ 10 ((gI σ 9 2)).toNatClampNeg)]) (st := []) K us_X8_isDigit qm_X8_74 dX8_readNumber_29 (fun _ h => c_X8_isDigit l  n (gI σ 10 ((gI σ 9 2)).toNatClampNeg) σ h) rfl ⟨(Nat.le_of_ble_eq_true rfl), (Nat.le_of_ble_eq_true rfl)⟩ (Nat.le_of_ble_eq_true rfl) hM (fun r2 s1 hM => ?_)
          refine v_if_eq K 69 dX8_readNumber_32 (by decide) hM (fun hM => ?_) (fun hM => ?_)
          · refine v_iload_n K dX8_readNumber_69 1 rfl ?_
            exact v_iret K rfl dX8_readNumber_70 hM
          · refine v_bipush (v := (10 : Int32)) K dX8_readNumber_35 (by decide) ?_
            refine v_iload_n K dX8_readNumber_37 1 rfl ?_
            refine v_imul K dX8_readNumber_38 ?_
            refine v_aload_n K dX8_readNumber_39 0 rfl ?_
            refine g_X8_0 K qf_X8_11 dX8_readNumber_40 ?_
            refine v_aload_n K dX8_readNumber_43 0 rfl ?_
            refine g_X8_2 K qf_X8_21 dX8_readNumber_44 ?_
            refine ld_X10 K dX8_readNumber_47 hM (fun hM => ?_)
            refine v_iadd K dX8_readNumber_48 ?_
            refine v_bipush (v := (48 : Int32)) K dX8_readNumber_49 (by decide) ?_
            refine v_isub K dX8_readNumber_51 ?_
            refine v_topi hM (fun x3 hM => ?_)
            refine v_istore_n K dX8_readNumber_52 rfl (by decide) [(1, .int x3), (0, .ref (ad 9)), (2, .int l2)] rfl ?_
            refine v_aload_n K dX8_readNumber_53 1 rfl ?_
            refine v_dup K dX8_readNumber_54 rfl ?_
            refine g_X8_2 K qf_X8_21 dX8_readNumber_55 ?_
            refine v_iconst (v := (1 : Int32)) K dX8_readNumber_58 (by decide) ?_
            refine v_iadd K dX8_readNumber_59 ?_
            refine p_X8_2 K qf_X8_21 dX8_readNumber_60 hM (fun s4 hM => ?_)
            refine v_iinc K dX8_readNumber_63 2 rfl (v := (l2 + (1 : Int32))) rfl (by decide) hM (fun y => [(2, .int y), (1, .int x3), (0, .ref (ad 9))]) (fun _ => rfl) (fun x5 hM => ?_)
            refine v_goto (tgt := 4) K dX8_readNumber_66 (by decide) ?_
            exact v_sub [2, 1, 0] rfl (ih_1 x3 x5 s4 hM)
set_option maxHeartbeats 4000000 in
set_option maxRecDepth 20000 in
theorem c_X8_readNumber (l : Launch) {D : va_G} {A : Nat → Prop} {ad : Nat → Nat} {dA : Nat → ClassId}  (n : Nat)  (σ : St) {res : Int32 × St} (hM : F_X8_readNumber n  σ = some res) : MI l yX8_readNumber cX8_readNumber 3 (some .int) 2 D (tysX dA) (wdX ad dA) A [.ref (ad 9)] σ (QI D (wdX ad dA) A res) := by
  refine mk_met (by decide +kernel) (Nat.le_of_ble_eq_true rfl) (fun p e s m below meth c K => ?_)
  have K : Cx p s m _ meth c cX8_readNumber 3 (some .int) RX8 D (tysX dA) (wdX ad dA) A := K
  have ih_1 := t_X8_readNumber l    K (res := res) n (below := below) (e := e)
  refine v_iconst (v := (0 : Int32)) K dX8_readNumber_0 (by decide) ?_
  refine v_istore_n K dX8_readNumber_1 rfl (by decide) [(1, .int (0 : Int32)), (0, .ref (ad 9))] rfl ?_
  refine v_iconst (v := (0 : Int32)) K dX8_readNumber_2 (by decide) ?_
  refine v_istore_n K dX8_readNumber_3 rfl (by decide) [(2, .int (0 : Int32)), (1, .int (0 : Int32)), (0, .ref (ad 9))] rfl ?_
  exact v_sub [2, 1, 0] rfl (ih_1 (0 : Int32) (0 : Int32) σ hM)
noncomputable def F_X8_takes (n : Nat) (p1 : Int32) (σ : St) : Option (Int32 × St) := if (gI σ 9 1) ≤ (gI σ 9 2) then (some ((0 : Int32), σ)) else (gd (vp_in (gI σ 9 2) 120) (if (gI σ 10 ((gI σ 9 2)).toNatClampNeg) = p1 then (bnd (sI σ 9 2 ((gI σ 9 2) + (1 : Int32))) fun s1 => some ((1 : Int32), s1)) else (some ((0 : Int32), σ))))
set_option maxHeartbeats 4000000 in
set_option maxRecDepth 20000 in
theorem c_X8_takes (l : Launch) {D : va_G} {A : Nat → Prop} {ad : Nat → Nat} {dA : Nat → ClassId}  (n : Nat) (p1 : Int32) (σ : St) {res : Int32 × St} (hM : F_X8_takes n p1 σ = some res) : MI l yX8_takes cX8_takes 2 (some .boolean) 1 D (tysX dA) (wdX ad dA) A [.ref (ad 9), .int p1] σ (QI D (wdX ad dA) A res) := by
  refine mk_met (by decide +kernel) (Nat.le_of_ble_eq_true rfl) (fun p e s m below meth c K => ?_)
  have K : Cx p s m _ meth c cX8_takes 2 (some .boolean) RX8 D (tysX dA) (wdX ad dA) A := K
  refine v_aload_n K dX8_takes_0 0 rfl ?_
  refine g_X8_2 K qf_X8_21 dX8_takes_1 ?_
  refine v_aload_n K dX8_takes_4 0 rfl ?_
  refine g_X8_1 K qf_X8_17 dX8_takes_5 ?_
  refine v_icmp_ge K 24 dX8_takes_8 (by decide) hM (fun hM => ?_) (fun hM => ?_)
  · refine v_iconst (v := (0 : Int32)) K dX8_takes_24 (by decide) ?_
    exact v_zret K rfl rfl dX8_takes_25 hM
  · refine v_aload_n K dX8_takes_11 0 rfl ?_
    refine g_X8_0 K qf_X8_11 dX8_takes_12 ?_
    refine v_aload_n K dX8_takes_15 0 rfl ?_
    refine g_X8_2 K qf_X8_21 dX8_takes_16 ?_
    refine ld_X10 K dX8_takes_19 hM (fun hM => ?_)
    refine v_iload_n K dX8_takes_20 1 rfl ?_
    refine v_icmp_eq K 26 dX8_takes_21 (by decide) hM (fun hM => ?_) (fun hM => ?_)
    · refine v_aload_n K dX8_takes_26 0 rfl ?_
      refine v_dup K dX8_takes_27 rfl ?_
      refine g_X8_2 K qf_X8_21 dX8_takes_28 ?_
      refine v_iconst (v := (1 : Int32)) K dX8_takes_31 (by decide) ?_
      refine v_iadd K dX8_takes_32 ?_
      refine p_X8_2 K qf_X8_21 dX8_takes_33 hM (fun s1 hM => ?_)
      refine v_iconst (v := (1 : Int32)) K dX8_takes_36 (by decide) ?_
      exact v_zret K rfl rfl dX8_takes_37 hM
    · refine v_iconst (v := (0 : Int32)) K dX8_takes_24 (by decide) ?_
      exact v_zret K rfl rfl dX8_takes_25 hM
noncomputable def B_X8_readJoined_1 (O : Nat → Nat → Int32 → Int32 → St → Option (Int32 × St)) (J : Nat → Int32 → Int32 → Int32 → Int32 → Int32 → St → Option (Int32 × St)) (n : Nat)  (l1 : Int32) (l2 : Int32) (l3 : Int32) (l4 : Int32) (l5 : Int32) (σ : St) : Option (Int32 × St) := if l4 ≤ l5 then (some (l3, σ)) else (if l3 = (-1 : Int32) then (some (l3, σ)) else (bd (F_X8_isAtSign n l1 σ) fun r6 s5 => if r6 = 0 then (some (l3, s5)) else (gd (vp_in (gI s5 9 2) 120) (bnd (gI s5 10 ((gI s5 9 2)).toNatClampNeg) fun x7 => bnd (sI s5 9 2 ((gI s5 9 2) + (1 : Int32))) fun s8 => bd (O 0 n (l1 + (1 : Int32)) l2 s8) fun r10 s9 => if r10 = (-1 : Int32) then (bnd (l5 + (1 : Int32)) fun x14 => J 1 l1 l2 (-1 : Int32) l4 x14 s9) else (bd (F_X7_add n 32 x7 l3 r10 s9) fun r12 s11 => bnd (l5 + (1 : Int32)) fun x13 => J 1 l1 l2 r12 l4 x13 s11)))))
noncomputable def S_X8_readJoined (O : Nat → Nat → Int32 → Int32 → St → Option (Int32 × St))  (n : Nat) (J : Nat → Int32 → Int32 → Int32 → Int32 → Int32 → St → Option (Int32 × St)) : Nat → Int32 → Int32 → Int32 → Int32 → Int32 → St → Option (Int32 × St) := fun lb a0 a1 a2 a3 a4 σ => match lb with
  | 1 => B_X8_readJoined_1 O J n  a0 a1 a2 a3 a4 σ
  | _ => none
noncomputable def L_X8_readJoined (O : Nat → Nat → Int32 → Int32 → St → Option (Int32 × St))  (n : Nat) : Nat → Int32 → Int32 → Int32 → Int32 → Int32 → St → Option (Int32 × St) := Nat.rec (fun _ _ _ _ _ _ _ => none) (fun n J => S_X8_readJoined O  n J) n
noncomputable def E_X8_readJoined (O : Nat → Nat → Int32 → Int32 → St → Option (Int32 × St)) (n : Nat) (p1 : Int32) (p2 : Int32) (σ : St) : Option (Int32 × St) := if p1 ≤ (4 : Int32) then (bd (O 0 n (p1 + (1 : Int32)) p2 σ) fun r2 s1 => if p1 = (2 : Int32) then (L_X8_readJoined O  n 1 p1 p2 r2 (1 : Int32) (0 : Int32) s1) else (L_X8_readJoined O  n 1 p1 p2 r2 (120 : Int32) (0 : Int32) s1)) else (bd (O 1 n p2 0 σ) fun r4 s3 => some (r4, s3))
set_option maxHeartbeats 4000000 in
set_option maxRecDepth 20000 in
theorem t_X8_readJoined (l : Launch) {p : Program} {e : Env} {s : State} {m : MethodId} {args : Array Value} {below : List Frame} {meth : Method} {c : Code} {D : va_G} {A : Nat → Prop} {ad : Nat → Nat} {dA : Nat → ClassId}   (d : Nat) {O : Nat → Nat → Int32 → Int32 → St → Option (Int32 × St)} (ih_r0 : ∀ (n : Nat) (p1 : Int32) (p2 : Int32) (σ : St) {res : Int32 × St}, O 0 n p1 p2 σ = some res → MI l yX8_readJoined cX8_readJoined 8 (some .int) (8 + d) D (tysX dA) (wdX ad dA) A [.ref (ad 9), .int p1, .int p2] σ (QI D (wdX ad dA) A res)) (ih_r1 : ∀ (n : Nat) (p1 : Int32) (σ : St) {res : Int32 × St}, O 1 n p1 0 σ = some res → MI l yX8_readOne cX8_readOne 5 (some .int) (8 + d) D (tysX dA) (wdX ad dA) A [.ref (ad 9), .int p1] σ (QI D (wdX ad dA) A res)) (K : Cx p s m args meth c cX8_readJoined 8 (some .int) RX8 D (tysX dA) (wdX ad dA) A) {res : Int32 × St} (n : Nat) : (∀ (l1 : Int32) (l2 : Int32) (l3 : Int32) (l4 : Int32) (l5 : Int32) (σ : St), L_X8_readJoined O  n 1 l1 l2 l3 l4 l5 σ = some res → V p l e (rmH (8 + d + 1)) s m args below meth c 8 D (wdX ad dA) A (MQ below (QI D (wdX ad dA) A res) args s 0 0 A) 36 [(0, .ref (ad 9)), (1, .int l1), (2, .int l2), (3, .int l3), (4, .int l4), (5, .int l5)] [] σ) := by
  induction n with
  | zero => exact (fun _ _ _ _ _ _ h => (by cases h))
  | succ n ih =>
    have ih_1 := ih
    · intro l1 l2 l3 l4 l5 σ hM
      have hM : B_X8_readJoined_1 O (L_X8_readJoined O  n) n  l1 l2 l3 l4 l5 σ = some res := hM
      refine v_iload K dX8_readJoined_36 5 rfl ?_
      refine v_iload K dX8_readJoined_38 4 rfl ?_
      refine v_icmp_ge K 116 dX8_readJoined_40 (by decide) hM (fun hM => ?_) (fun hM => ?_)
      · refine v_iload_n K dX8_readJoined_116 3 rfl ?_
        exact v_iret K rfl dX8_readJoined_117 hM
      · refine v_iload_n K dX8_readJoined_43 3 rfl ?_
        refine v_iconst (v := (-1 : Int32)) K dX8_readJoined_44 (by decide) ?_
        refine v_icmp_eq K 116 dX8_readJoined_45 (by decide) hM (fun hM => ?_) (fun hM => ?_)
        · refine v_iload_n K dX8_readJoined_116 3 rfl ?_
          exact v_iret K rfl dX8_readJoined_117 hM
        · refine v_aload_n K dX8_readJoined_48 0 rfl ?_
          refine v_iload_n K dX8_readJoined_49 1 rfl ?_
          refine x_Vi (As := [.int l1]) (st := []) K uv_X8_isAtSign qm_X8_66 dX8_readJoined_50 rv_X8 (fun _ h => c_X8_isAtSign l  n l1 σ h) rfl ⟨(by simp only [rmH]; omega), (by simp only [rmH]; omega)⟩ (Nat.le_of_ble_eq_true rfl) hM (fun r6 s5 hM => ?_)
          refine v_if_eq K 116 dX8_readJoined_53 (by decide) hM (fun hM => ?_) (fun hM => ?_)
          · refine v_iload_n K dX8_readJoined_116 3 rfl ?_
            exact v_iret K rfl dX8_readJoined_117 hM
          · refine v_aload_n K dX8_readJoined_56 0 rfl ?_
            refine g_X8_0 K qf_X8_11 dX8_readJoined_57 ?_
            refine v_aload_n K dX8_readJoined_60 0 rfl ?_
            refine g_X8_2 K qf_X8_21 dX8_readJoined_61 ?_
            refine ld_X10 K dX8_readJoined_64 hM (fun hM => ?_)
            refine v_topi hM (fun x7 hM => ?_)
            refine v_istore K dX8_readJoined_65 (by decide) [(6, .int x7), (0, .ref (ad 9)), (1, .int l1), (2, .int l2), (3, .int l3), (4, .int l4), (5, .int l5)] rfl ?_
            refine v_aload_n K dX8_readJoined_67 1 rfl ?_
            refine v_dup K dX8_readJoined_68 rfl ?_
            refine g_X8_2 K qf_X8_21 dX8_readJoined_69 ?_
            refine v_iconst (v := (1 : Int32)) K dX8_readJoined_72 (by decide) ?_
            refine v_iadd K dX8_readJoined_73 ?_
            refine p_X8_2 K qf_X8_21 dX8_readJoined_74 hM (fun s8 hM => ?_)
            refine v_aload_n K dX8_readJoined_77 1 rfl ?_
            refine v_iload_n K dX8_readJoined_78 2 rfl ?_
            refine v_iconst (v := (1 : Int32)) K dX8_readJoined_79 (by decide) ?_
            refine v_iadd K dX8_readJoined_80 ?_
            refine v_iload_n K dX8_readJoined_81 3 rfl ?_
            refine x_Vi (As := [.int (l1 + (1 : Int32)), .int l2]) (st := []) K uv_X8_readJoined qm_X8_50 dX8_readJoined_82 rv_X8 (fun _ h => ih_r0 n (l1 + (1 : Int32)) l2 s8 h) rfl ⟨by simp only [rmH]; omega, by simp only [rmH]; omega⟩ (Nat.le_of_ble_eq_true rfl) hM (fun r10 s9 hM => ?_)
            refine v_istore K dX8_readJoined_85 (by decide) [(7, .int r10), (6, .int x7), (0, .ref (ad 9)), (1, .int l1), (2, .int l2), (3, .int l3), (4, .int l4), (5, .int l5)] rfl ?_
            refine v_iload K dX8_readJoined_87 0 rfl ?_
            refine v_iconst (v := (-1 : Int32)) K dX8_readJoined_89 (by decide) ?_
            refine v_icmp_ne K 97 dX8_readJoined_90 (by decide) hM (fun hM => ?_) (fun hM => ?_)
            · refine v_aload_n K dX8_readJoined_97 2 rfl ?_
              refine g_X8_3 K qf_X8_25 dX8_readJoined_98 ?_
              refine v_iload K dX8_readJoined_101 1 rfl ?_
              refine v_iload_n K dX8_readJoined_103 5 rfl ?_
              refine v_iload K dX8_readJoined_104 0 rfl ?_
              refine x_Vi (As := [.int x7, .int l3, .int r10]) (st := []) K uv_X7_add qm_X8_54 dX8_readJoined_106 (rv_X7 isL_32) (fun _ h => c_X7_add l 32 isL_32 n x7 l3 r10 s9 h) rfl ⟨(by simp only [rmH]; omega), (by simp only [rmH]; omega)⟩ (Nat.le_of_ble_eq_true rfl) hM (fun r12 s11 hM => ?_)
              refine v_istore_n K dX8_readJoined_109 rfl (by decide) [(3, .int r12), (7, .int r10), (6, .int x7), (0, .ref (ad 9)), (1, .int l1), (2, .int l2), (4, .int l4), (5, .int l5)] rfl ?_
              refine v_iinc K dX8_readJoined_110 7 rfl (v := (l5 + (1 : Int32))) rfl (by decide) hM (fun y => [(5, .int y), (3, .int r12), (7, .int r10), (6, .int x7), (0, .ref (ad 9)), (1, .int l1), (2, .int l2), (4, .int l4)]) (fun _ => rfl) (fun x13 hM => ?_)
              refine v_goto (tgt := 36) K dX8_readJoined_113 (by decide) ?_
              exact v_sub [4, 5, 6, 1, 7, 0] rfl (ih_1 l1 l2 r12 l4 x13 s11 hM)
            · refine v_iconst (v := (-1 : Int32)) K dX8_readJoined_93 (by decide) ?_
              refine v_goto (tgt := 109) K dX8_readJoined_94 (by decide) ?_
              refine v_istore_n K dX8_readJoined_109 rfl (by decide) [(3, .int (-1 : Int32)), (7, .int r10), (6, .int x7), (0, .ref (ad 9)), (1, .int l1), (2, .int l2), (4, .int l4), (5, .int l5)] rfl ?_
              refine v_iinc K dX8_readJoined_110 7 rfl (v := (l5 + (1 : Int32))) rfl (by decide) hM (fun y => [(5, .int y), (3, .int (-1 : Int32)), (7, .int r10), (6, .int x7), (0, .ref (ad 9)), (1, .int l1), (2, .int l2), (4, .int l4)]) (fun _ => rfl) (fun x14 hM => ?_)
              refine v_goto (tgt := 36) K dX8_readJoined_113 (by decide) ?_
              exact v_sub [4, 5, 6, 1, 7, 0] rfl (ih_1 l1 l2 (-1 : Int32) l4 x14 s9 hM)
set_option maxHeartbeats 4000000 in
set_option maxRecDepth 20000 in
theorem e_X8_readJoined (l : Launch) {D : va_G} {A : Nat → Prop} {ad : Nat → Nat} {dA : Nat → ClassId} (d : Nat) {O : Nat → Nat → Int32 → Int32 → St → Option (Int32 × St)} (ih_r0 : ∀ (n : Nat) (p1 : Int32) (p2 : Int32) (σ : St) {res : Int32 × St}, O 0 n p1 p2 σ = some res → MI l yX8_readJoined cX8_readJoined 8 (some .int) (8 + d) D (tysX dA) (wdX ad dA) A [.ref (ad 9), .int p1, .int p2] σ (QI D (wdX ad dA) A res)) (ih_r1 : ∀ (n : Nat) (p1 : Int32) (σ : St) {res : Int32 × St}, O 1 n p1 0 σ = some res → MI l yX8_readOne cX8_readOne 5 (some .int) (8 + d) D (tysX dA) (wdX ad dA) A [.ref (ad 9), .int p1] σ (QI D (wdX ad dA) A res))  (n : Nat) (p1 : Int32) (p2 : Int32) (σ : St) {res : Int32 × St} (hM : E_X8_readJoined O n p1 p2 σ = some res) : MI l yX8_readJoined cX8_readJoined 8 (some .int) (8 + d + 1) D (tysX dA) (wdX ad dA) A [.ref (ad 9), .int p1, .int p2] σ (QI D (wdX ad dA) A res) := by
  refine mk_met (by decide +kernel) (Nat.le_of_ble_eq_true rfl) (fun p e s m below meth c K => ?_)
  have K : Cx p s m _ meth c cX8_readJoined 8 (some .int) RX8 D (tysX dA) (wdX ad dA) A := K
  have ih_1 := t_X8_readJoined l   d ih_r0 ih_r1 K (res := res) n (below := below) (e := e)
  refine v_iload_n K dX8_readJoined_0 1 rfl ?_
  refine v_iconst (v := (4 : Int32)) K dX8_readJoined_1 (by decide) ?_
  refine v_icmp_le K 11 dX8_readJoined_2 (by decide) hM (fun hM => ?_) (fun hM => ?_)
  · refine v_aload_n K dX8_readJoined_11 0 rfl ?_
    refine v_iload_n K dX8_readJoined_12 1 rfl ?_
    refine v_iconst (v := (1 : Int32)) K dX8_readJoined_13 (by decide) ?_
    refine v_iadd K dX8_readJoined_14 ?_
    refine v_iload_n K dX8_readJoined_15 2 rfl ?_
    refine x_Vi (As := [.int (p1 + (1 : Int32)), .int p2]) (st := []) K uv_X8_readJoined qm_X8_50 dX8_readJoined_16 rv_X8 (fun _ h => ih_r0 n (p1 + (1 : Int32)) p2 σ h) rfl ⟨by simp only [rmH]; omega, by simp only [rmH]; omega⟩ (Nat.le_of_ble_eq_true rfl) hM (fun r2 s1 hM => ?_)
    refine v_istore_n K dX8_readJoined_19 rfl (by decide) [(3, .int r2), (0, .ref (ad 9)), (1, .int p1), (2, .int p2)] rfl ?_
    refine v_iload_n K dX8_readJoined_20 2 rfl ?_
    refine v_iconst (v := (2 : Int32)) K dX8_readJoined_21 (by decide) ?_
    refine v_icmp_ne K 29 dX8_readJoined_22 (by decide) hM (fun hM => ?_) (fun hM => ?_)
    · refine v_bipush (v := (120 : Int32)) K dX8_readJoined_29 (by decide) ?_
      refine v_istore K dX8_readJoined_31 (by decide) [(4, .int (120 : Int32)), (3, .int r2), (0, .ref (ad 9)), (1, .int p1), (2, .int p2)] rfl ?_
      refine v_iconst (v := (0 : Int32)) K dX8_readJoined_33 (by decide) ?_
      refine v_istore K dX8_readJoined_34 (by decide) [(5, .int (0 : Int32)), (4, .int (120 : Int32)), (3, .int r2), (0, .ref (ad 9)), (1, .int p1), (2, .int p2)] rfl ?_
      exact v_sub [3, 4, 5, 2, 1, 0] rfl (ih_1 p1 p2 r2 (120 : Int32) (0 : Int32) s1 hM)
    · refine v_iconst (v := (1 : Int32)) K dX8_readJoined_25 (by decide) ?_
      refine v_goto (tgt := 31) K dX8_readJoined_26 (by decide) ?_
      refine v_istore K dX8_readJoined_31 (by decide) [(4, .int (1 : Int32)), (3, .int r2), (0, .ref (ad 9)), (1, .int p1), (2, .int p2)] rfl ?_
      refine v_iconst (v := (0 : Int32)) K dX8_readJoined_33 (by decide) ?_
      refine v_istore K dX8_readJoined_34 (by decide) [(5, .int (0 : Int32)), (4, .int (1 : Int32)), (3, .int r2), (0, .ref (ad 9)), (1, .int p1), (2, .int p2)] rfl ?_
      exact v_sub [3, 4, 5, 2, 1, 0] rfl (ih_1 p1 p2 r2 (1 : Int32) (0 : Int32) s1 hM)
  · refine v_aload_n K dX8_readJoined_5 0 rfl ?_
    refine v_iload_n K dX8_readJoined_6 2 rfl ?_
    refine x_Vi (As := [.int p2]) (st := []) K uv_X8_readOne qm_X8_62 dX8_readJoined_7 rv_X8 (fun _ h => ih_r1 n p2 σ h) rfl ⟨by simp only [rmH]; omega, by simp only [rmH]; omega⟩ (Nat.le_of_ble_eq_true rfl) hM (fun r4 s3 hM => ?_)
    exact v_iret K rfl dX8_readJoined_10 hM
noncomputable def B_X8_readOne_1 (O : Nat → Nat → Int32 → Int32 → St → Option (Int32 × St)) (J : Nat → Int32 → Int32 → St → Option (Int32 × St)) (n : Nat)  (l1 : Int32) (l2 : Int32) (σ : St) : Option (Int32 × St) := bd (O 1 n (l1 + (1 : Int32)) 0 σ) fun r24 s23 => if r24 = (-1 : Int32) then (some ((-1 : Int32), s23)) else (if l2 = (45 : Int32) then (bd (F_X7_add n 32 (95 : Int32) r24 (0 : Int32) s23) fun r28 s27 => some (r28, s27)) else (bd (F_X7_add n 32 l2 r24 (0 : Int32) s23) fun r26 s25 => some (r26, s25)))
noncomputable def S_X8_readOne (O : Nat → Nat → Int32 → Int32 → St → Option (Int32 × St))  (n : Nat) (J : Nat → Int32 → Int32 → St → Option (Int32 × St)) : Nat → Int32 → Int32 → St → Option (Int32 × St) := fun lb a0 a1 σ => match lb with
  | 1 => B_X8_readOne_1 O J n  a0 a1 σ
  | _ => none
noncomputable def L_X8_readOne (O : Nat → Nat → Int32 → Int32 → St → Option (Int32 × St))  (n : Nat) : Nat → Int32 → Int32 → St → Option (Int32 × St) := Nat.rec (fun _ _ _ _ => none) (fun n J => S_X8_readOne O  n J) n
noncomputable def E_X8_readOne (O : Nat → Nat → Int32 → Int32 → St → Option (Int32 × St)) (n : Nat) (p1 : Int32) (σ : St) : Option (Int32 × St) := if (gI σ 9 2) < (gI σ 9 1) then (gd (vp_in (gI σ 9 2) 120) (bnd (gI σ 10 ((gI σ 9 2)).toNatClampNeg) fun x1 => bd (F_X8_isDigit n x1 σ) fun r3 s2 => if r3 = 0 then (bnd (ixL x1) fun x5 => if x5 < 0 then (if p1 < (6 : Int32) then (bd (F_X8_takes n (40 : Int32) s2) fun r7 s6 => if r7 = 0 then (bd (F_X8_takes n (33 : Int32) s6) fun r9 s8 => if r9 = 0 then (bd (F_X8_takes n (45 : Int32) s8) fun r11 s10 => if r11 = 0 then (some ((-1 : Int32), s10)) else (L_X8_readOne O  n 1 p1 x1 s10)) else (L_X8_readOne O  n 1 p1 x1 s8)) else (bd (O 0 n (0 : Int32) (p1 + (1 : Int32)) s6) fun r13 s12 => if r13 = (-1 : Int32) then (some ((-1 : Int32), s12)) else (bd (F_X8_takes n (41 : Int32) s12) fun r15 s14 => if r15 = 0 then (some ((-1 : Int32), s14)) else (some (r13, s14))))) else (some ((-1 : Int32), s2))) else (bnd (sI s2 9 2 ((gI s2 9 2) + (1 : Int32))) fun s16 => bd (F_X7_addName n 32 x5 s16) fun r18 s17 => some (r18, s17))) else (bd (F_X8_readNumber n  s2) fun r20 s19 => bd (F_X7_addNumber n 32 r20 s19) fun r22 s21 => some (r22, s21)))) else (some ((-1 : Int32), σ))
set_option maxHeartbeats 4000000 in
set_option maxRecDepth 20000 in
theorem t_X8_readOne (l : Launch) {p : Program} {e : Env} {s : State} {m : MethodId} {args : Array Value} {below : List Frame} {meth : Method} {c : Code} {D : va_G} {A : Nat → Prop} {ad : Nat → Nat} {dA : Nat → ClassId}   (d : Nat) {O : Nat → Nat → Int32 → Int32 → St → Option (Int32 × St)} (ih_r0 : ∀ (n : Nat) (p1 : Int32) (p2 : Int32) (σ : St) {res : Int32 × St}, O 0 n p1 p2 σ = some res → MI l yX8_readJoined cX8_readJoined 8 (some .int) (8 + d) D (tysX dA) (wdX ad dA) A [.ref (ad 9), .int p1, .int p2] σ (QI D (wdX ad dA) A res)) (ih_r1 : ∀ (n : Nat) (p1 : Int32) (σ : St) {res : Int32 × St}, O 1 n p1 0 σ = some res → MI l yX8_readOne cX8_readOne 5 (some .int) (8 + d) D (tysX dA) (wdX ad dA) A [.ref (ad 9), .int p1] σ (QI D (wdX ad dA) A res)) (K : Cx p s m args meth c cX8_readOne 5 (some .int) RX8 D (tysX dA) (wdX ad dA) A) {res : Int32 × St} (n : Nat) : (∀ (l1 : Int32) (l2 : Int32) (σ : St), L_X8_readOne O  n 1 l1 l2 σ = some res → V p l e (rmH (8 + d + 1)) s m args below meth c 5 D (wdX ad dA) A (MQ below (QI D (wdX ad dA) A res) args s 0 0 A) 141 [(0, .ref (ad 9)), (1, .int l1), (2, .int l2)] [] σ) := by
  induction n with
  | zero => exact (fun _ _ _ h => (by cases h))
  | succ n ih =>
    have ih_1 := ih
    · intro l1 l2 σ hM
      have hM : B_X8_readOne_1 O (L_X8_readOne O  n) n  l1 l2 σ = some res := hM
      refine v_aload_n K dX8_readOne_141 0 rfl ?_
      refine v_iload_n K dX8_readOne_142 1 rfl ?_
      refine v_iconst (v := (1 : Int32)) K dX8_readOne_143 (by decide) ?_
      refine v_iadd K dX8_readOne_144 ?_
      refine x_Vi (As := [.int (l1 + (1 : Int32))]) (st := []) K uv_X8_readOne qm_X8_62 dX8_readOne_145 rv_X8 (fun _ h => ih_r1 n (l1 + (1 : Int32)) σ h) rfl ⟨by simp only [rmH]; omega, by simp only [rmH]; omega⟩ (Nat.le_of_ble_eq_true rfl) hM (fun r24 s23 hM => ?_)
      refine v_istore K dX8_readOne_148 (by decide) [(4, .int r24), (0, .ref (ad 9)), (1, .int l1), (2, .int l2)] rfl ?_
      refine v_iload K dX8_readOne_150 0 rfl ?_
      refine v_iconst (v := (-1 : Int32)) K dX8_readOne_152 (by decide) ?_
      refine v_icmp_ne K 160 dX8_readOne_153 (by decide) hM (fun hM => ?_) (fun hM => ?_)
      · refine v_aload_n K dX8_readOne_160 1 rfl ?_
        refine g_X8_3 K qf_X8_25 dX8_readOne_161 ?_
        refine v_iload_n K dX8_readOne_164 3 rfl ?_
        refine v_bipush (v := (45 : Int32)) K dX8_readOne_165 (by decide) ?_
        refine v_icmp_ne K 175 dX8_readOne_167 (by decide) hM (fun hM => ?_) (fun hM => ?_)
        · refine v_iload_n K dX8_readOne_175 3 rfl ?_
          refine v_iload K dX8_readOne_176 0 rfl ?_
          refine v_iconst (v := (0 : Int32)) K dX8_readOne_178 (by decide) ?_
          refine x_Vi (As := [.int l2, .int r24, .int (0 : Int32)]) (st := []) K uv_X7_add qm_X8_54 dX8_readOne_179 (rv_X7 isL_32) (fun _ h => c_X7_add l 32 isL_32 n l2 r24 (0 : Int32) s23 h) rfl ⟨(by simp only [rmH]; omega), (by simp only [rmH]; omega)⟩ (Nat.le_of_ble_eq_true rfl) hM (fun r26 s25 hM => ?_)
          exact v_iret K rfl dX8_readOne_182 hM
        · refine v_bipush (v := (95 : Int32)) K dX8_readOne_170 (by decide) ?_
          refine v_goto (tgt := 176) K dX8_readOne_172 (by decide) ?_
          refine v_iload K dX8_readOne_176 0 rfl ?_
          refine v_iconst (v := (0 : Int32)) K dX8_readOne_178 (by decide) ?_
          refine x_Vi (As := [.int (95 : Int32), .int r24, .int (0 : Int32)]) (st := []) K uv_X7_add qm_X8_54 dX8_readOne_179 (rv_X7 isL_32) (fun _ h => c_X7_add l 32 isL_32 n (95 : Int32) r24 (0 : Int32) s23 h) rfl ⟨(by simp only [rmH]; omega), (by simp only [rmH]; omega)⟩ (Nat.le_of_ble_eq_true rfl) hM (fun r28 s27 hM => ?_)
          exact v_iret K rfl dX8_readOne_182 hM
      · refine v_iconst (v := (-1 : Int32)) K dX8_readOne_156 (by decide) ?_
        refine v_goto (tgt := 182) K dX8_readOne_157 (by decide) ?_
        exact v_iret K rfl dX8_readOne_182 hM
set_option maxHeartbeats 4000000 in
set_option maxRecDepth 20000 in
theorem e_X8_readOne (l : Launch) {D : va_G} {A : Nat → Prop} {ad : Nat → Nat} {dA : Nat → ClassId} (d : Nat) {O : Nat → Nat → Int32 → Int32 → St → Option (Int32 × St)} (ih_r0 : ∀ (n : Nat) (p1 : Int32) (p2 : Int32) (σ : St) {res : Int32 × St}, O 0 n p1 p2 σ = some res → MI l yX8_readJoined cX8_readJoined 8 (some .int) (8 + d) D (tysX dA) (wdX ad dA) A [.ref (ad 9), .int p1, .int p2] σ (QI D (wdX ad dA) A res)) (ih_r1 : ∀ (n : Nat) (p1 : Int32) (σ : St) {res : Int32 × St}, O 1 n p1 0 σ = some res → MI l yX8_readOne cX8_readOne 5 (some .int) (8 + d) D (tysX dA) (wdX ad dA) A [.ref (ad 9), .int p1] σ (QI D (wdX ad dA) A res))  (n : Nat) (p1 : Int32) (σ : St) {res : Int32 × St} (hM : E_X8_readOne O n p1 σ = some res) : MI l yX8_readOne cX8_readOne 5 (some .int) (8 + d + 1) D (tysX dA) (wdX ad dA) A [.ref (ad 9), .int p1] σ (QI D (wdX ad dA) A res) := by
  refine mk_met (by decide +kernel) (Nat.le_of_ble_eq_true rfl) (fun p e s m below meth c K => ?_)
  have K : Cx p s m _ meth c cX8_readOne 5 (some .int) RX8 D (tysX dA) (wdX ad dA) A := K
  have ih_1 := t_X8_readOne l   d ih_r0 ih_r1 K (res := res) n (below := below) (e := e)
  refine v_aload_n K dX8_readOne_0 0 rfl ?_
  refine g_X8_2 K qf_X8_21 dX8_readOne_1 ?_
  refine v_aload_n K dX8_readOne_4 0 rfl ?_
  refine g_X8_1 K qf_X8_17 dX8_readOne_5 ?_
  refine v_icmp_lt K 13 dX8_readOne_8 (by decide) hM (fun hM => ?_) (fun hM => ?_)
  · refine v_aload_n K dX8_readOne_13 0 rfl ?_
    refine g_X8_0 K qf_X8_11 dX8_readOne_14 ?_
    refine v_aload_n K dX8_readOne_17 0 rfl ?_
    refine g_X8_2 K qf_X8_21 dX8_readOne_18 ?_
    refine ld_X10 K dX8_readOne_21 hM (fun hM => ?_)
    refine v_topi hM (fun x1 hM => ?_)
    refine v_istore_n K dX8_readOne_22 rfl (by decide) [(2, .int x1), (0, .ref (ad 9)), (1, .int p1)] rfl ?_
    refine v_iload_n K dX8_readOne_23 0 rfl ?_
    refine x_Si (As := [.int x1]) (st := []) K us_X8_isDigit qm_X8_74 dX8_readOne_24 (fun _ h => c_X8_isDigit l  n x1 σ h) rfl ⟨(by simp only [rmH]; omega), (by simp only [rmH]; omega)⟩ (Nat.le_of_ble_eq_true rfl) hM (fun r3 s2 hM => ?_)
    refine v_if_eq K 42 dX8_readOne_27 (by decide) hM (fun hM => ?_) (fun hM => ?_)
    · refine x_str K dX8_readOne_42 (fun t4 ht4 => ?_)
      refine v_iload_n K dX8_readOne_44 0 rfl ?_
      refine x_ixof K ht4 dX8_readOne_45 ⟨by simp only [rmH]; omega, by simp only [rmH]; omega⟩ (Nat.le_of_ble_eq_true rfl) ?_
      refine v_topi hM (fun x5 hM => ?_)
      refine v_istore_n K dX8_readOne_48 rfl (by decide) [(3, .int x5), (2, .int x1), (0, .ref (ad 9)), (1, .int p1)] rfl ?_
      refine v_iload_n K dX8_readOne_49 0 rfl ?_
      refine v_if_lt K 72 dX8_readOne_50 (by decide) hM (fun hM => ?_) (fun hM => ?_)
      · refine v_iload_n K dX8_readOne_72 3 rfl ?_
        refine v_bipush (v := (6 : Int32)) K dX8_readOne_73 (by decide) ?_
        refine v_icmp_lt K 80 dX8_readOne_75 (by decide) hM (fun hM => ?_) (fun hM => ?_)
        · refine v_aload_n K dX8_readOne_80 2 rfl ?_
          refine v_bipush (v := (40 : Int32)) K dX8_readOne_81 (by decide) ?_
          refine x_Vi (As := [.int (40 : Int32)]) (st := []) K uv_X8_takes qm_X8_46 dX8_readOne_83 rv_X8 (fun _ h => c_X8_takes l  n (40 : Int32) s2 h) rfl ⟨(by simp only [rmH]; omega), (by simp only [rmH]; omega)⟩ (Nat.le_of_ble_eq_true rfl) hM (fun r7 s6 hM => ?_)
          refine v_if_eq K 121 dX8_readOne_86 (by decide) hM (fun hM => ?_) (fun hM => ?_)
          · refine v_aload_n K dX8_readOne_121 2 rfl ?_
            refine v_bipush (v := (33 : Int32)) K dX8_readOne_122 (by decide) ?_
            refine x_Vi (As := [.int (33 : Int32)]) (st := []) K uv_X8_takes qm_X8_46 dX8_readOne_124 rv_X8 (fun _ h => c_X8_takes l  n (33 : Int32) s6 h) rfl ⟨(by simp only [rmH]; omega), (by simp only [rmH]; omega)⟩ (Nat.le_of_ble_eq_true rfl) hM (fun r9 s8 hM => ?_)
            refine v_if_ne K 141 dX8_readOne_127 (by decide) hM (fun hM => ?_) (fun hM => ?_)
            · exact v_sub [2, 3, 1] rfl (ih_1 p1 x1 s8 hM)
            · refine v_aload_n K dX8_readOne_130 2 rfl ?_
              refine v_bipush (v := (45 : Int32)) K dX8_readOne_131 (by decide) ?_
              refine x_Vi (As := [.int (45 : Int32)]) (st := []) K uv_X8_takes qm_X8_46 dX8_readOne_133 rv_X8 (fun _ h => c_X8_takes l  n (45 : Int32) s8 h) rfl ⟨(by simp only [rmH]; omega), (by simp only [rmH]; omega)⟩ (Nat.le_of_ble_eq_true rfl) hM (fun r11 s10 hM => ?_)
              refine v_if_ne K 141 dX8_readOne_136 (by decide) hM (fun hM => ?_) (fun hM => ?_)
              · exact v_sub [2, 3, 1] rfl (ih_1 p1 x1 s10 hM)
              · refine v_iconst (v := (-1 : Int32)) K dX8_readOne_139 (by decide) ?_
                exact v_iret K rfl dX8_readOne_140 hM
          · refine v_aload_n K dX8_readOne_89 2 rfl ?_
            refine v_iconst (v := (0 : Int32)) K dX8_readOne_90 (by decide) ?_
            refine v_iload_n K dX8_readOne_91 3 rfl ?_
            refine v_iconst (v := (1 : Int32)) K dX8_readOne_92 (by decide) ?_
            refine v_iadd K dX8_readOne_93 ?_
            refine x_Vi (As := [.int (0 : Int32), .int (p1 + (1 : Int32))]) (st := []) K uv_X8_readJoined qm_X8_50 dX8_readOne_94 rv_X8 (fun _ h => ih_r0 n (0 : Int32) (p1 + (1 : Int32)) s6 h) rfl ⟨by simp only [rmH]; omega, by simp only [rmH]; omega⟩ (Nat.le_of_ble_eq_true rfl) hM (fun r13 s12 hM => ?_)
            refine v_istore K dX8_readOne_97 (by decide) [(4, .int r13), (3, .int x5), (2, .int x1), (0, .ref (ad 9)), (1, .int p1)] rfl ?_
            refine v_iload K dX8_readOne_99 0 rfl ?_
            refine v_iconst (v := (-1 : Int32)) K dX8_readOne_101 (by decide) ?_
            refine v_icmp_eq K 119 dX8_readOne_102 (by decide) hM (fun hM => ?_) (fun hM => ?_)
            · refine v_iconst (v := (-1 : Int32)) K dX8_readOne_119 (by decide) ?_
              exact v_iret K rfl dX8_readOne_120 hM
            · refine v_aload_n K dX8_readOne_105 3 rfl ?_
              refine v_bipush (v := (41 : Int32)) K dX8_readOne_106 (by decide) ?_
              refine x_Vi (As := [.int (41 : Int32)]) (st := []) K uv_X8_takes qm_X8_46 dX8_readOne_108 rv_X8 (fun _ h => c_X8_takes l  n (41 : Int32) s12 h) rfl ⟨(by simp only [rmH]; omega), (by simp only [rmH]; omega)⟩ (Nat.le_of_ble_eq_true rfl) hM (fun r15 s14 hM => ?_)
              refine v_if_eq K 119 dX8_readOne_111 (by decide) hM (fun hM => ?_) (fun hM => ?_)
              · refine v_iconst (v := (-1 : Int32)) K dX8_readOne_119 (by decide) ?_
                exact v_iret K rfl dX8_readOne_120 hM
              · refine v_iload K dX8_readOne_114 0 rfl ?_
                refine v_goto (tgt := 120) K dX8_readOne_116 (by decide) ?_
                exact v_iret K rfl dX8_readOne_120 hM
        · refine v_iconst (v := (-1 : Int32)) K dX8_readOne_78 (by decide) ?_
          exact v_iret K rfl dX8_readOne_79 hM
      · refine v_aload_n K dX8_readOne_53 2 rfl ?_
        refine v_dup K dX8_readOne_54 rfl ?_
        refine g_X8_2 K qf_X8_21 dX8_readOne_55 ?_
        refine v_iconst (v := (1 : Int32)) K dX8_readOne_58 (by decide) ?_
        refine v_iadd K dX8_readOne_59 ?_
        refine p_X8_2 K qf_X8_21 dX8_readOne_60 hM (fun s16 hM => ?_)
        refine v_aload_n K dX8_readOne_63 2 rfl ?_
        refine g_X8_3 K qf_X8_25 dX8_readOne_64 ?_
        refine v_iload_n K dX8_readOne_67 0 rfl ?_
        refine x_Vi (As := [.int x5]) (st := []) K uv_X7_addName qm_X8_91 dX8_readOne_68 (rv_X7 isL_32) (fun _ h => c_X7_addName l 32 isL_32 n x5 s16 h) rfl ⟨(by simp only [rmH]; omega), (by simp only [rmH]; omega)⟩ (Nat.le_of_ble_eq_true rfl) hM (fun r18 s17 hM => ?_)
        exact v_iret K rfl dX8_readOne_71 hM
    · refine v_aload_n K dX8_readOne_30 1 rfl ?_
      refine g_X8_3 K qf_X8_25 dX8_readOne_31 ?_
      refine v_aload_n K dX8_readOne_34 1 rfl ?_
      refine x_Vi (As := []) (st := [.ref (ad 32)]) K uv_X8_readNumber qm_X8_77 dX8_readOne_35 rv_X8 (fun _ h => c_X8_readNumber l  n  s2 h) rfl ⟨(by simp only [rmH]; omega), (by simp only [rmH]; omega)⟩ (Nat.le_of_ble_eq_true rfl) hM (fun r20 s19 hM => ?_)
      refine x_Vi (As := [.int r20]) (st := []) K uv_X7_addNumber qm_X8_81 dX8_readOne_38 (rv_X7 isL_32) (fun _ h => c_X7_addNumber l 32 isL_32 n r20 s19 h) rfl ⟨(by simp only [rmH]; omega), (by simp only [rmH]; omega)⟩ (Nat.le_of_ble_eq_true rfl) hM (fun r22 s21 hM => ?_)
      exact v_iret K rfl dX8_readOne_41 hM
  · refine v_iconst (v := (-1 : Int32)) K dX8_readOne_11 (by decide) ?_
    exact v_iret K rfl dX8_readOne_12 hM
noncomputable def D_X8_readJoined (O : Nat → Nat → Int32 → Int32 → St → Option (Int32 × St)) : Nat → Nat → Int32 → Int32 → St → Option (Int32 × St) := fun mi n a0 a1 σ => match mi with
  | 0 => E_X8_readJoined O n a0 a1 σ
  | 1 => E_X8_readOne O n a0 σ
  | _ => none
noncomputable def F_X8_readJoined (d : Nat) : Nat → Nat → Int32 → Int32 → St → Option (Int32 × St) := Nat.rec (fun _ _ _ _ _ => none) (fun _ O => D_X8_readJoined O) d
theorem r_X8_readJoined (l : Launch) {D : va_G} {A : Nat → Prop} {ad : Nat → Nat} {dA : Nat → ClassId} (d : Nat) : (∀ (n : Nat) (p1 : Int32) (p2 : Int32) (σ : St) {res : Int32 × St}, F_X8_readJoined d 0 n p1 p2 σ = some res → MI l yX8_readJoined cX8_readJoined 8 (some .int) (8 + d) D (tysX dA) (wdX ad dA) A [.ref (ad 9), .int p1, .int p2] σ (QI D (wdX ad dA) A res)) ∧ (∀ (n : Nat) (p1 : Int32) (σ : St) {res : Int32 × St}, F_X8_readJoined d 1 n p1 0 σ = some res → MI l yX8_readOne cX8_readOne 5 (some .int) (8 + d) D (tysX dA) (wdX ad dA) A [.ref (ad 9), .int p1] σ (QI D (wdX ad dA) A res)) := by
  induction d with
  | zero => exact ⟨fun _ _ _ _ _ h => (by cases h), fun _ _ _ _ h => (by cases h)⟩
  | succ d ih =>
    obtain ⟨ih_r0, ih_r1⟩ := ih
    exact ⟨fun n p1 p2 σ _ hM => e_X8_readJoined l d ih_r0 ih_r1 n p1 p2 σ hM, fun n p1 σ _ hM => e_X8_readOne l d ih_r0 ih_r1 n p1 σ hM⟩
theorem c_X8_readJoined (l : Launch) {D : va_G} {A : Nat → Prop} {ad : Nat → Nat} {dA : Nat → ClassId} (d n : Nat) (p1 : Int32) (p2 : Int32) (σ : St) {res : Int32 × St} (hM : F_X8_readJoined d 0 n p1 p2 σ = some res) : MI l yX8_readJoined cX8_readJoined 8 (some .int) (8 + d) D (tysX dA) (wdX ad dA) A [.ref (ad 9), .int p1, .int p2] σ (QI D (wdX ad dA) A res) := (r_X8_readJoined l d).1 n p1 p2 σ hM
theorem c_X8_readOne (l : Launch) {D : va_G} {A : Nat → Prop} {ad : Nat → Nat} {dA : Nat → ClassId} (d n : Nat) (p1 : Int32) (σ : St) {res : Int32 × St} (hM : F_X8_readJoined d 1 n p1 0 σ = some res) : MI l yX8_readOne cX8_readOne 5 (some .int) (8 + d) D (tysX dA) (wdX ad dA) A [.ref (ad 9), .int p1] σ (QI D (wdX ad dA) A res) := (r_X8_readJoined l d).2 n p1 σ hM
noncomputable def B_X8_readLine_1 (J : Nat → Int32 → Int32 → St → Option (Int32 × St)) (n : Nat)  (l1 : Int32) (l2 : Int32) (σ : St) : Option (Int32 × St) := if l1 = (-1 : Int32) then (some ((0 : Int32), σ)) else (bd (F_X7_add n 32 (59 : Int32) l1 (0 : Int32) σ) fun r10 s9 => bd (F_X7_aimHere n 32 l2 s9) fun _ s11 => some ((1 : Int32), s11))
noncomputable def S_X8_readLine  (n : Nat) (J : Nat → Int32 → Int32 → St → Option (Int32 × St)) : Nat → Int32 → Int32 → St → Option (Int32 × St) := fun lb a0 a1 σ => match lb with
  | 1 => B_X8_readLine_1 J n  a0 a1 σ
  | _ => none
noncomputable def L_X8_readLine  (n : Nat) : Nat → Int32 → Int32 → St → Option (Int32 × St) := Nat.rec (fun _ _ _ _ => none) (fun n J => S_X8_readLine  n J) n
noncomputable def F_X8_readLine (n : Nat)  (σ : St) : Option (Int32 × St) := bd (F_X8_readJoined 100 0 n (0 : Int32) (0 : Int32) σ) fun r2 s1 => if r2 = (-1 : Int32) then (L_X8_readLine  n 1 r2 (-1 : Int32) s1) else (bd (F_X8_takes n (63 : Int32) s1) fun r4 s3 => if r4 = 0 then (L_X8_readLine  n 1 r2 (-1 : Int32) s3) else (bd (F_X7_add n 32 (63 : Int32) r2 (0 : Int32) s3) fun r6 s5 => bd (F_X8_readJoined 100 0 n (0 : Int32) (0 : Int32) s5) fun r8 s7 => L_X8_readLine  n 1 r8 r6 s7))
set_option maxHeartbeats 4000000 in
set_option maxRecDepth 20000 in
theorem t_X8_readLine (l : Launch) {p : Program} {e : Env} {s : State} {m : MethodId} {args : Array Value} {below : List Frame} {meth : Method} {c : Code} {D : va_G} {A : Nat → Prop} {ad : Nat → Nat} {dA : Nat → ClassId}   (K : Cx p s m args meth c cX8_readLine 3 (some .boolean) RX8 D (tysX dA) (wdX ad dA) A) {res : Int32 × St} (n : Nat) : (∀ (l1 : Int32) (l2 : Int32) (σ : St), L_X8_readLine  n 1 l1 l2 σ = some res → V p l e (rmH 109) s m args below meth c 3 D (wdX ad dA) A (MQ below (QI D (wdX ad dA) A res) args s 0 0 A) 42 [(0, .ref (ad 9)), (1, .int l1), (2, .int l2)] [] σ) := by
  induction n with
  | zero => exact (fun _ _ _ h => (by cases h))
  | succ n ih =>
    have ih_1 := ih
    · intro l1 l2 σ hM
      have hM : B_X8_readLine_1 (L_X8_readLine  n) n  l1 l2 σ = some res := hM
      refine v_iload_n K dX8_readLine_42 1 rfl ?_
      refine v_iconst (v := (-1 : Int32)) K dX8_readLine_43 (by decide) ?_
      refine v_icmp_ne K 49 dX8_readLine_44 (by decide) hM (fun hM => ?_) (fun hM => ?_)
      · refine v_aload_n K dX8_readLine_49 0 rfl ?_
        refine g_X8_3 K qf_X8_25 dX8_readLine_50 ?_
        refine v_bipush (v := (59 : Int32)) K dX8_readLine_53 (by decide) ?_
        refine v_iload_n K dX8_readLine_55 1 rfl ?_
        refine v_iconst (v := (0 : Int32)) K dX8_readLine_56 (by decide) ?_
        refine x_Vi (As := [.int (59 : Int32), .int l1, .int (0 : Int32)]) (st := []) K uv_X7_add qm_X8_54 dX8_readLine_57 (rv_X7 isL_32) (fun _ h => c_X7_add l 32 isL_32 n (59 : Int32) l1 (0 : Int32) σ h) rfl ⟨(Nat.le_of_ble_eq_true rfl), (Nat.le_of_ble_eq_true rfl)⟩ (Nat.le_of_ble_eq_true rfl) hM (fun r10 s9 hM => ?_)
        refine v_pop K dX8_readLine_60 rfl ?_
        refine v_aload_n K dX8_readLine_61 0 rfl ?_
        refine g_X8_3 K qf_X8_25 dX8_readLine_62 ?_
        refine v_iload_n K dX8_readLine_65 2 rfl ?_
        refine x_Vv (As := [.int l2]) (st := []) K uv_X7_aimHere qm_X8_58 dX8_readLine_66 (rv_X7 isL_32) (fun _ h => c_X7_aimHere l 32 isL_32 n l2 s9 h) rfl ⟨(Nat.le_of_ble_eq_true rfl), (Nat.le_of_ble_eq_true rfl)⟩ (Nat.le_of_ble_eq_true rfl) hM (fun s11 hM => ?_)
        refine v_iconst (v := (1 : Int32)) K dX8_readLine_69 (by decide) ?_
        exact v_zret K rfl rfl dX8_readLine_70 hM
      · refine v_iconst (v := (0 : Int32)) K dX8_readLine_47 (by decide) ?_
        exact v_zret K rfl rfl dX8_readLine_48 hM
set_option maxHeartbeats 4000000 in
set_option maxRecDepth 20000 in
theorem c_X8_readLine (l : Launch) {D : va_G} {A : Nat → Prop} {ad : Nat → Nat} {dA : Nat → ClassId}  (n : Nat)  (σ : St) {res : Int32 × St} (hM : F_X8_readLine n  σ = some res) : MI l yX8_readLine cX8_readLine 3 (some .boolean) 109 D (tysX dA) (wdX ad dA) A [.ref (ad 9)] σ (QI D (wdX ad dA) A res) := by
  refine mk_met (by decide +kernel) (Nat.le_of_ble_eq_true rfl) (fun p e s m below meth c K => ?_)
  have K : Cx p s m _ meth c cX8_readLine 3 (some .boolean) RX8 D (tysX dA) (wdX ad dA) A := K
  have ih_1 := t_X8_readLine l    K (res := res) n (below := below) (e := e)
  refine v_aload_n K dX8_readLine_0 0 rfl ?_
  refine v_iconst (v := (0 : Int32)) K dX8_readLine_1 (by decide) ?_
  refine v_iconst (v := (0 : Int32)) K dX8_readLine_2 (by decide) ?_
  refine x_Vi (As := [.int (0 : Int32), .int (0 : Int32)]) (st := []) K uv_X8_readJoined qm_X8_50 dX8_readLine_3 rv_X8 (fun _ h => c_X8_readJoined l 100 n (0 : Int32) (0 : Int32) σ h) rfl ⟨(Nat.le_of_ble_eq_true rfl), (Nat.le_of_ble_eq_true rfl)⟩ (Nat.le_of_ble_eq_true rfl) hM (fun r2 s1 hM => ?_)
  refine v_istore_n K dX8_readLine_6 rfl (by decide) [(1, .int r2), (0, .ref (ad 9))] rfl ?_
  refine v_iconst (v := (-1 : Int32)) K dX8_readLine_7 (by decide) ?_
  refine v_istore_n K dX8_readLine_8 rfl (by decide) [(2, .int (-1 : Int32)), (1, .int r2), (0, .ref (ad 9))] rfl ?_
  refine v_iload_n K dX8_readLine_9 1 rfl ?_
  refine v_iconst (v := (-1 : Int32)) K dX8_readLine_10 (by decide) ?_
  refine v_icmp_eq K 42 dX8_readLine_11 (by decide) hM (fun hM => ?_) (fun hM => ?_)
  · exact v_sub [2, 1, 0] rfl (ih_1 r2 (-1 : Int32) s1 hM)
  · refine v_aload_n K dX8_readLine_14 2 rfl ?_
    refine v_bipush (v := (63 : Int32)) K dX8_readLine_15 (by decide) ?_
    refine x_Vi (As := [.int (63 : Int32)]) (st := []) K uv_X8_takes qm_X8_46 dX8_readLine_17 rv_X8 (fun _ h => c_X8_takes l  n (63 : Int32) s1 h) rfl ⟨(Nat.le_of_ble_eq_true rfl), (Nat.le_of_ble_eq_true rfl)⟩ (Nat.le_of_ble_eq_true rfl) hM (fun r4 s3 hM => ?_)
    refine v_if_eq K 42 dX8_readLine_20 (by decide) hM (fun hM => ?_) (fun hM => ?_)
    · exact v_sub [2, 1, 0] rfl (ih_1 r2 (-1 : Int32) s3 hM)
    · refine v_aload_n K dX8_readLine_23 2 rfl ?_
      refine g_X8_3 K qf_X8_25 dX8_readLine_24 ?_
      refine v_bipush (v := (63 : Int32)) K dX8_readLine_27 (by decide) ?_
      refine v_iload_n K dX8_readLine_29 1 rfl ?_
      refine v_iconst (v := (0 : Int32)) K dX8_readLine_30 (by decide) ?_
      refine x_Vi (As := [.int (63 : Int32), .int r2, .int (0 : Int32)]) (st := []) K uv_X7_add qm_X8_54 dX8_readLine_31 (rv_X7 isL_32) (fun _ h => c_X7_add l 32 isL_32 n (63 : Int32) r2 (0 : Int32) s3 h) rfl ⟨(Nat.le_of_ble_eq_true rfl), (Nat.le_of_ble_eq_true rfl)⟩ (Nat.le_of_ble_eq_true rfl) hM (fun r6 s5 hM => ?_)
      refine v_istore_n K dX8_readLine_34 rfl (by decide) [(2, .int r6), (1, .int r2), (0, .ref (ad 9))] rfl ?_
      refine v_aload_n K dX8_readLine_35 2 rfl ?_
      refine v_iconst (v := (0 : Int32)) K dX8_readLine_36 (by decide) ?_
      refine v_iconst (v := (0 : Int32)) K dX8_readLine_37 (by decide) ?_
      refine x_Vi (As := [.int (0 : Int32), .int (0 : Int32)]) (st := []) K uv_X8_readJoined qm_X8_50 dX8_readLine_38 rv_X8 (fun _ h => c_X8_readJoined l 100 n (0 : Int32) (0 : Int32) s5 h) rfl ⟨(Nat.le_of_ble_eq_true rfl), (Nat.le_of_ble_eq_true rfl)⟩ (Nat.le_of_ble_eq_true rfl) hM (fun r8 s7 hM => ?_)
      refine v_istore_n K dX8_readLine_41 rfl (by decide) [(1, .int r8), (2, .int r6), (0, .ref (ad 9))] rfl ?_
      exact v_sub [2, 0, 1] rfl (ih_1 r8 r6 s7 hM)
noncomputable def B_X8_readText_1 (J : Nat → Int32 → St → Option (Int32 × St)) (n : Nat)  (l1 : Int32) (σ : St) : Option (Int32 × St) := if (120 : Int32) < l1 then (some ((0 : Int32), σ)) else (bd (F_X8_readLine n  σ) fun r2 s1 => if r2 = 0 then (some ((0 : Int32), s1)) else (if (gI s1 9 2) < (gI s1 9 1) then (bd (F_X8_takes n (59 : Int32) s1) fun r4 s3 => if r4 = 0 then (some ((0 : Int32), s3)) else (bnd (l1 + (1 : Int32)) fun x5 => J 1 x5 s3)) else (some ((1 : Int32), s1))))
noncomputable def S_X8_readText  (n : Nat) (J : Nat → Int32 → St → Option (Int32 × St)) : Nat → Int32 → St → Option (Int32 × St) := fun lb a0 σ => match lb with
  | 1 => B_X8_readText_1 J n  a0 σ
  | _ => none
noncomputable def L_X8_readText  (n : Nat) : Nat → Int32 → St → Option (Int32 × St) := Nat.rec (fun _ _ _ => none) (fun n J => S_X8_readText  n J) n
noncomputable def F_X8_readText (n : Nat)  (σ : St) : Option (Int32 × St) := L_X8_readText  n 1 (0 : Int32) σ
set_option maxHeartbeats 4000000 in
set_option maxRecDepth 20000 in
theorem t_X8_readText (l : Launch) {p : Program} {e : Env} {s : State} {m : MethodId} {args : Array Value} {below : List Frame} {meth : Method} {c : Code} {D : va_G} {A : Nat → Prop} {ad : Nat → Nat} {dA : Nat → ClassId}   (K : Cx p s m args meth c cX8_readText 2 (some .boolean) RX8 D (tysX dA) (wdX ad dA) A) {res : Int32 × St} (n : Nat) : (∀ (l1 : Int32) (σ : St), L_X8_readText  n 1 l1 σ = some res → V p l e (rmH 110) s m args below meth c 2 D (wdX ad dA) A (MQ below (QI D (wdX ad dA) A res) args s 0 0 A) 2 [(0, .ref (ad 9)), (1, .int l1)] [] σ) := by
  induction n with
  | zero => exact (fun _ _ h => (by cases h))
  | succ n ih =>
    have ih_1 := ih
    · intro l1 σ hM
      have hM : B_X8_readText_1 (L_X8_readText  n) n  l1 σ = some res := hM
      refine v_iload_n K dX8_readText_2 1 rfl ?_
      refine v_bipush (v := (120 : Int32)) K dX8_readText_3 (by decide) ?_
      refine v_icmp_gt K 47 dX8_readText_5 (by decide) hM (fun hM => ?_) (fun hM => ?_)
      · refine v_iconst (v := (0 : Int32)) K dX8_readText_47 (by decide) ?_
        exact v_zret K rfl rfl dX8_readText_48 hM
      · refine v_aload_n K dX8_readText_8 0 rfl ?_
        refine x_Vi (As := []) (st := []) K uv_X8_readLine qm_X8_43 dX8_readText_9 rv_X8 (fun _ h => c_X8_readLine l  n  σ h) rfl ⟨(Nat.le_of_ble_eq_true rfl), (Nat.le_of_ble_eq_true rfl)⟩ (Nat.le_of_ble_eq_true rfl) hM (fun r2 s1 hM => ?_)
        refine v_if_ne K 17 dX8_readText_12 (by decide) hM (fun hM => ?_) (fun hM => ?_)
        · refine v_aload_n K dX8_readText_17 0 rfl ?_
          refine g_X8_2 K qf_X8_21 dX8_readText_18 ?_
          refine v_aload_n K dX8_readText_21 0 rfl ?_
          refine g_X8_1 K qf_X8_17 dX8_readText_22 ?_
          refine v_icmp_lt K 30 dX8_readText_25 (by decide) hM (fun hM => ?_) (fun hM => ?_)
          · refine v_aload_n K dX8_readText_30 0 rfl ?_
            refine v_bipush (v := (59 : Int32)) K dX8_readText_31 (by decide) ?_
            refine x_Vi (As := [.int (59 : Int32)]) (st := []) K uv_X8_takes qm_X8_46 dX8_readText_33 rv_X8 (fun _ h => c_X8_takes l  n (59 : Int32) s1 h) rfl ⟨(Nat.le_of_ble_eq_true rfl), (Nat.le_of_ble_eq_true rfl)⟩ (Nat.le_of_ble_eq_true rfl) hM (fun r4 s3 hM => ?_)
            refine v_if_ne K 41 dX8_readText_36 (by decide) hM (fun hM => ?_) (fun hM => ?_)
            · refine v_iinc K dX8_readText_41 1 rfl (v := (l1 + (1 : Int32))) rfl (by decide) hM (fun y => [(1, .int y), (0, .ref (ad 9))]) (fun _ => rfl) (fun x5 hM => ?_)
              refine v_goto (tgt := 2) K dX8_readText_44 (by decide) ?_
              exact v_sub [1, 0] rfl (ih_1 x5 s3 hM)
            · refine v_iconst (v := (0 : Int32)) K dX8_readText_39 (by decide) ?_
              exact v_zret K rfl rfl dX8_readText_40 hM
          · refine v_iconst (v := (1 : Int32)) K dX8_readText_28 (by decide) ?_
            exact v_zret K rfl rfl dX8_readText_29 hM
        · refine v_iconst (v := (0 : Int32)) K dX8_readText_15 (by decide) ?_
          exact v_zret K rfl rfl dX8_readText_16 hM
set_option maxHeartbeats 4000000 in
set_option maxRecDepth 20000 in
theorem c_X8_readText (l : Launch) {D : va_G} {A : Nat → Prop} {ad : Nat → Nat} {dA : Nat → ClassId}  (n : Nat)  (σ : St) {res : Int32 × St} (hM : F_X8_readText n  σ = some res) : MI l yX8_readText cX8_readText 2 (some .boolean) 110 D (tysX dA) (wdX ad dA) A [.ref (ad 9)] σ (QI D (wdX ad dA) A res) := by
  refine mk_met (by decide +kernel) (Nat.le_of_ble_eq_true rfl) (fun p e s m below meth c K => ?_)
  have K : Cx p s m _ meth c cX8_readText 2 (some .boolean) RX8 D (tysX dA) (wdX ad dA) A := K
  have ih_1 := t_X8_readText l    K (res := res) n (below := below) (e := e)
  refine v_iconst (v := (0 : Int32)) K dX8_readText_0 (by decide) ?_
  refine v_istore_n K dX8_readText_1 rfl (by decide) [(1, .int (0 : Int32)), (0, .ref (ad 9))] rfl ?_
  exact v_sub [1, 0] rfl (ih_1 (0 : Int32) σ hM)
noncomputable def F_X8_readInto (n : Nat) (b1 : Nat) (σ : St) : Option (Int32 × St) := bnd (sI σ 9 2 (0 : Int32)) fun s1 => bd (F_X7_clear n 32 s1) fun _ s2 => bd (F_X8_readText n  s2) fun r4 s3 => bnd (sI s3 9 1 (0 : Int32)) fun s5 => if r4 = 0 then (some ((gI s5 9 2), s5)) else (bd (F_X7_copyFrom n b1 32 s5) fun _ s6 => some ((-1 : Int32), s6))
set_option maxHeartbeats 4000000 in
set_option maxRecDepth 20000 in
theorem c_X8_readInto (l : Launch) {D : va_G} {A : Nat → Prop} {ad : Nat → Nat} {dA : Nat → ClassId} (b1 : Nat) (hb1 : isL b1) (n : Nat)  (σ : St) {res : Int32 × St} (hM : F_X8_readInto n b1 σ = some res) : MI l yX8_readInto cX8_readInto 3 (some .int) 111 D (tysX dA) (wdX ad dA) A [.ref (ad 9), .ref (ad b1)] σ (QI D (wdX ad dA) A res) := by
  refine mk_met (by decide +kernel) (Nat.le_of_ble_eq_true rfl) (fun p e s m below meth c K => ?_)
  have K : Cx p s m _ meth c cX8_readInto 3 (some .int) RX8 D (tysX dA) (wdX ad dA) A := K
  refine v_aload_n K dX8_readInto_0 0 rfl ?_
  refine v_iconst (v := (0 : Int32)) K dX8_readInto_1 (by decide) ?_
  refine p_X8_2 K qf_X8_21 dX8_readInto_2 hM (fun s1 hM => ?_)
  refine v_aload_n K dX8_readInto_5 0 rfl ?_
  refine g_X8_3 K qf_X8_25 dX8_readInto_6 ?_
  refine x_Vv (As := []) (st := []) K uv_X7_clear qm_X8_33 dX8_readInto_9 (rv_X7 isL_32) (fun _ h => c_X7_clear l 32 isL_32 n  s1 h) rfl ⟨(Nat.le_of_ble_eq_true rfl), (Nat.le_of_ble_eq_true rfl)⟩ (Nat.le_of_ble_eq_true rfl) hM (fun s2 hM => ?_)
  refine v_aload_n K dX8_readInto_12 0 rfl ?_
  refine x_Vi (As := []) (st := []) K uv_X8_readText qm_X8_36 dX8_readInto_13 rv_X8 (fun _ h => c_X8_readText l  n  s2 h) rfl ⟨(Nat.le_of_ble_eq_true rfl), (Nat.le_of_ble_eq_true rfl)⟩ (Nat.le_of_ble_eq_true rfl) hM (fun r4 s3 hM => ?_)
  refine v_istore_n K dX8_readInto_16 rfl (by decide) [(2, .int r4), (0, .ref (ad 9)), (1, .ref (ad b1))] rfl ?_
  refine v_aload_n K dX8_readInto_17 1 rfl ?_
  refine v_iconst (v := (0 : Int32)) K dX8_readInto_18 (by decide) ?_
  refine p_X8_1 K qf_X8_17 dX8_readInto_19 hM (fun s5 hM => ?_)
  refine v_iload_n K dX8_readInto_22 0 rfl ?_
  refine v_if_ne K 31 dX8_readInto_23 (by decide) hM (fun hM => ?_) (fun hM => ?_)
  · refine v_aload_n K dX8_readInto_31 2 rfl ?_
    refine v_aload_n K dX8_readInto_32 1 rfl ?_
    refine g_X8_3 K qf_X8_25 dX8_readInto_33 ?_
    refine x_Vv (As := [.ref (ad 32)]) (st := []) K uv_X7_copyFrom qm_X8_39 dX8_readInto_36 (rv_X7 hb1) (fun _ h => c_X7_copyFrom l b1 hb1 32 isL_32 n  s5 h) rfl ⟨(Nat.le_of_ble_eq_true rfl), (Nat.le_of_ble_eq_true rfl)⟩ (Nat.le_of_ble_eq_true rfl) hM (fun s6 hM => ?_)
    refine v_iconst (v := (-1 : Int32)) K dX8_readInto_39 (by decide) ?_
    exact v_iret K rfl dX8_readInto_40 hM
  · refine v_aload_n K dX8_readInto_26 1 rfl ?_
    refine g_X8_2 K qf_X8_21 dX8_readInto_27 ?_
    exact v_iret K rfl dX8_readInto_30 hM
