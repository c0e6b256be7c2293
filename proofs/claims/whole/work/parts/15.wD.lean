noncomputable def F_X11_person (n : Nat) (p1 : Int32) (p2 : Int32) (σ : St) : Option (Int32 × St) := bd (F_X6_allows n (0 : Int32) p1 σ) fun r2 s1 => if r2 = 0 then (some ((-1 : Int32), s1)) else (bd (F_X6_allows n (1 : Int32) p2 s1) fun r4 s3 => if r4 = 0 then (some ((-1 : Int32), s3)) else (bd (F_X6_isFull n  s3) fun r6 s5 => if r6 = 0 then (bd (F_X6_welcome n p1 p2 s5) fun r8 s7 => some (r8, s7)) else (some ((-3 : Int32), s5))))
set_option maxHeartbeats 4000000 in
set_option maxRecDepth 20000 in
theorem c_X11_person (l : Launch) {D : va_G} {A : Nat → Prop} {ad : Nat → Nat} {dA : Nat → ClassId}  (n : Nat) (p1 : Int32) (p2 : Int32) (σ : St) {res : Int32 × St} (hM : F_X11_person n p1 p2 σ = some res) : MI l yX11_person cX11_person 3 (some .int) 3 D (tysX dA) (wdX ad dA) A [.ref (ad 0), .int p1, .int p2] σ (QI D (wdX ad dA) A res) := by
  refine mk_met (by decide +kernel) (Nat.le_of_ble_eq_true rfl) (fun p e s m below meth c K => ?_)
  have K : Cx p s m _ meth c cX11_person 3 (some .int) RX11 D (tysX dA) (wdX ad dA) A := K
  refine v_iconst (v := (0 : Int32)) K dX11_person_0 (by decide) ?_
  refine v_iload_n K dX11_person_1 1 rfl ?_
  refine x_Si (As := [.int (0 : Int32), .int p1]) (st := []) K us_X6_allows qm_X11_104 dX11_person_2 (fun _ h => c_X6_allows l  n (0 : Int32) p1 σ h) rfl ⟨(Nat.le_of_ble_eq_true rfl), (Nat.le_of_ble_eq_true rfl)⟩ (Nat.le_of_ble_eq_true rfl) hM (fun r2 s1 hM => ?_)
  refine v_if_eq K 16 dX11_person_5 (by decide) hM (fun hM => ?_) (fun hM => ?_)
  · refine v_iconst (v := (-1 : Int32)) K dX11_person_16 (by decide) ?_
    exact v_iret K rfl dX11_person_17 hM
  · refine v_iconst (v := (1 : Int32)) K dX11_person_8 (by decide) ?_
    refine v_iload_n K dX11_person_9 2 rfl ?_
    refine x_Si (As := [.int (1 : Int32), .int p2]) (st := []) K us_X6_allows qm_X11_104 dX11_person_10 (fun _ h => c_X6_allows l  n (1 : Int32) p2 s1 h) rfl ⟨(Nat.le_of_ble_eq_true rfl), (Nat.le_of_ble_eq_true rfl)⟩ (Nat.le_of_ble_eq_true rfl) hM (fun r4 s3 hM => ?_)
    refine v_if_ne K 18 dX11_person_13 (by decide) hM (fun hM => ?_) (fun hM => ?_)
    · refine v_aload_n K dX11_person_18 0 rfl ?_
      refine g_X11_0 K qf_X11_10 dX11_person_19 ?_
      refine x_Vi (As := []) (st := []) K uv_X6_isFull qm_X11_108 dX11_person_22 rv_X6 (fun _ h => c_X6_isFull l  n  s3 h) rfl ⟨(Nat.le_of_ble_eq_true rfl), (Nat.le_of_ble_eq_true rfl)⟩ (Nat.le_of_ble_eq_true rfl) hM (fun r6 s5 hM => ?_)
      refine v_if_eq K 33 dX11_person_25 (by decide) hM (fun hM => ?_) (fun hM => ?_)
      · refine v_aload_n K dX11_person_33 0 rfl ?_
        refine g_X11_0 K qf_X11_10 dX11_person_34 ?_
        refine v_iload_n K dX11_person_37 1 rfl ?_
        refine v_iload_n K dX11_person_38 2 rfl ?_
        refine x_Vi (As := [.int p1, .int p2]) (st := []) K uv_X6_welcome qm_X11_112 dX11_person_39 rv_X6 (fun _ h => c_X6_welcome l  n p1 p2 s5 h) rfl ⟨(Nat.le_of_ble_eq_true rfl), (Nat.le_of_ble_eq_true rfl)⟩ (Nat.le_of_ble_eq_true rfl) hM (fun r8 s7 hM => ?_)
        exact v_iret K rfl dX11_person_42 hM
      · refine v_bipush (v := (-3 : Int32)) K dX11_person_28 (by decide) ?_
        refine v_goto (tgt := 42) K dX11_person_30 (by decide) ?_
        exact v_iret K rfl dX11_person_42 hM
    · refine v_iconst (v := (-1 : Int32)) K dX11_person_16 (by decide) ?_
      exact v_iret K rfl dX11_person_17 hM
noncomputable def F_X11_isShelf (n : Nat) (p0 : Int32) (σ : St) : Option (Int32 × St) := if p0 < 0 then (some ((0 : Int32), σ)) else (if (6 : Int32) ≤ p0 then (some ((0 : Int32), σ)) else (some ((1 : Int32), σ)))
set_option maxHeartbeats 4000000 in
set_option maxRecDepth 20000 in
theorem c_X11_isShelf (l : Launch) {D : va_G} {A : Nat → Prop} {ad : Nat → Nat} {dA : Nat → ClassId}  (n : Nat) (p0 : Int32) (σ : St) {res : Int32 × St} (hM : F_X11_isShelf n p0 σ = some res) : MI l yX11_isShelf cX11_isShelf 1 (some .boolean) 1 D (tysX dA) (wdX ad dA) A [.int p0] σ (QI D (wdX ad dA) A res) := by
  refine mk_met (by decide +kernel) (Nat.le_of_ble_eq_true rfl) (fun p e s m below meth c K => ?_)
  have K : Cx p s m _ meth c cX11_isShelf 1 (some .boolean) RX11 D (tysX dA) (wdX ad dA) A := K
  refine v_iload_n K dX11_isShelf_0 0 rfl ?_
  refine v_if_lt K 14 dX11_isShelf_1 (by decide) hM (fun hM => ?_) (fun hM => ?_)
  · refine v_iconst (v := (0 : Int32)) K dX11_isShelf_14 (by decide) ?_
    exact v_zret K rfl rfl dX11_isShelf_15 hM
  · refine v_iload_n K dX11_isShelf_4 0 rfl ?_
    refine v_bipush (v := (6 : Int32)) K dX11_isShelf_5 (by decide) ?_
    refine v_icmp_ge K 14 dX11_isShelf_7 (by decide) hM (fun hM => ?_) (fun hM => ?_)
    · refine v_iconst (v := (0 : Int32)) K dX11_isShelf_14 (by decide) ?_
      exact v_zret K rfl rfl dX11_isShelf_15 hM
    · refine v_iconst (v := (1 : Int32)) K dX11_isShelf_10 (by decide) ?_
      refine v_goto (tgt := 15) K dX11_isShelf_11 (by decide) ?_
      exact v_zret K rfl rfl dX11_isShelf_15 hM
noncomputable def B_X11_people_1 (J : Nat → Nat → Int32 → Int32 → Int32 → St → Option (Int32 × St)) (n : Nat)  (r4 : Nat) (l2 : Int32) (l3 : Int32) (l5 : Int32) (σ : St) : Option (Int32 × St) := if l3 ≤ l5 then (some (l5, σ)) else (bd (F_X6_welcomeFrom n r4 (((l2).toInt64) + ((3 : Int64) * ((l5).toInt64))) σ) fun r9 s8 => if r9 = 0 then (some (l5, s8)) else (bnd (l5 + (1 : Int32)) fun x10 => J 1 r4 l2 l3 x10 s8))
noncomputable def S_X11_people  (n : Nat) (J : Nat → Nat → Int32 → Int32 → Int32 → St → Option (Int32 × St)) : Nat → Nat → Int32 → Int32 → Int32 → St → Option (Int32 × St) := fun lb a0 a1 a2 a3 σ => match lb with
  | 1 => B_X11_people_1 J n  a0 a1 a2 a3 σ
  | _ => none
noncomputable def L_X11_people  (n : Nat) : Nat → Nat → Int32 → Int32 → Int32 → St → Option (Int32 × St) := Nat.rec (fun _ _ _ _ _ _ => none) (fun n J => S_X11_people  n J) n
noncomputable def F_X11_people (n : Nat) (p1 : Int32) (p2 : Int32) (p3 : Int32) (σ : St) : Option (Int32 × St) := bd (F_X11_isShelf n p1 σ) fun r2 s1 => if r2 = 0 then (some ((-1 : Int32), s1)) else (if p3 < (1 : Int32) then (some ((-1 : Int32), s1)) else (if p3 ≤ (7 : Int32) then (gd (vp_in p1 6) (bd (F_X10_isEmpty n (63 + 2 * p1.toNatClampNeg) s1) fun r5 s4 => if r5 = 0 then (bd (F_X10_hasBytes n (63 + 2 * p1.toNatClampNeg) s4) fun r7 s6 => if r7 = 0 then (some ((-12 : Int32), s6)) else (L_X11_people  n 1 (63 + 2 * p1.toNatClampNeg) p2 p3 (0 : Int32) s6)) else (some ((0 : Int32), s4)))) else (some ((-1 : Int32), s1))))
set_option maxHeartbeats 4000000 in
set_option maxRecDepth 20000 in
theorem t_X11_people (l : Launch) {p : Program} {e : Env} {s : State} {m : MethodId} {args : Array Value} {below : List Frame} {meth : Method} {c : Code} {D : va_G} {A : Nat → Prop} {ad : Nat → Nat} {dA : Nat → ClassId}   (K : Cx p s m args meth c cX11_people 6 (some .int) RX11 D (tysX dA) (wdX ad dA) A) {res : Int32 × St} (n : Nat) : (∀ (l2 : Int32) (l3 : Int32) (r4 : Nat) (hr4 : isS r4) (l5 : Int32) (σ : St), L_X11_people  n 1 r4 l2 l3 l5 σ = some res → V p l e (rmH 4) s m args below meth c 6 D (wdX ad dA) A (MQ below (QI D (wdX ad dA) A res) args s 0 0 A) 52 [(0, .ref (ad 0)), (2, .int l2), (3, .int l3), (4, .ref (ad r4)), (5, .int l5)] [] σ) := by
  induction n with
  | zero => exact (fun _ _ _ _ _ _ h => (by cases h))
  | succ n ih =>
    have ih_1 := ih
    · intro l2 l3 r4 hr4 l5 σ hM
      have hM : B_X11_people_1 (L_X11_people  n) n  r4 l2 l3 l5 σ = some res := hM
      refine v_iload K dX11_people_52 4 rfl ?_
      refine v_iload_n K dX11_people_54 2 rfl ?_
      refine v_icmp_ge K 86 dX11_people_55 (by decide) hM (fun hM => ?_) (fun hM => ?_)
      · refine v_iload K dX11_people_86 4 rfl ?_
        exact v_iret K rfl dX11_people_88 hM
      · refine v_aload_n K dX11_people_58 0 rfl ?_
        refine g_X11_0 K qf_X11_10 dX11_people_59 ?_
        refine v_aload K dX11_people_62 3 rfl ?_
        refine v_iload_n K dX11_people_64 1 rfl ?_
        refine v_i2l K dX11_people_65 ?_
        refine v_ldc2 (v := (3 : Int64)) K ql_X11_126 dX11_people_66 ?_
        refine v_iload K dX11_people_69 4 rfl ?_
        refine v_i2l K dX11_people_71 ?_
        refine v_lmul K dX11_people_72 ?_
        refine v_ladd K dX11_people_73 ?_
        refine x_Vi (As := [.ref (ad r4), .long (((l2).toInt64) + ((3 : Int64) * ((l5).toInt64)))]) (st := []) K uv_X6_welcomeFrom qm_X11_128 dX11_people_74 rv_X6 (fun _ h => c_X6_welcomeFrom l r4 hr4 n (((l2).toInt64) + ((3 : Int64) * ((l5).toInt64))) σ h) rfl ⟨(Nat.le_of_ble_eq_true rfl), (Nat.le_of_ble_eq_true rfl)⟩ (Nat.le_of_ble_eq_true rfl) hM (fun r9 s8 hM => ?_)
        refine v_if_eq K 86 dX11_people_77 (by decide) hM (fun hM => ?_) (fun hM => ?_)
        · refine v_iload K dX11_people_86 4 rfl ?_
          exact v_iret K rfl dX11_people_88 hM
        · refine v_iinc K dX11_people_80 4 rfl (v := (l5 + (1 : Int32))) rfl (by decide) hM (fun y => [(5, .int y), (0, .ref (ad 0)), (2, .int l2), (3, .int l3), (4, .ref (ad r4))]) (fun _ => rfl) (fun x10 hM => ?_)
          refine v_goto (tgt := 52) K dX11_people_83 (by decide) ?_
          exact v_sub [1, 2, 3, 4, 0] rfl (ih_1 l2 l3 r4 hr4 x10 s8 hM)
set_option maxHeartbeats 4000000 in
set_option maxRecDepth 20000 in
theorem c_X11_people (l : Launch) {D : va_G} {A : Nat → Prop} {ad : Nat → Nat} {dA : Nat → ClassId}  (n : Nat) (p1 : Int32) (p2 : Int32) (p3 : Int32) (σ : St) {res : Int32 × St} (hM : F_X11_people n p1 p2 p3 σ = some res) : MI l yX11_people cX11_people 6 (some .int) 4 D (tysX dA) (wdX ad dA) A [.ref (ad 0), .int p1, .int p2, .int p3] σ (QI D (wdX ad dA) A res) := by
  refine mk_met (by decide +kernel) (Nat.le_of_ble_eq_true rfl) (fun p e s m below meth c K => ?_)
  have K : Cx p s m _ meth c cX11_people 6 (some .int) RX11 D (tysX dA) (wdX ad dA) A := K
  have ih_1 := t_X11_people l    K (res := res) n (below := below) (e := e)
  refine v_iload_n K dX11_people_0 1 rfl ?_
  refine x_Si (As := [.int p1]) (st := []) K us_X11_isShelf qm_X11_116 dX11_people_1 (fun _ h => c_X11_isShelf l  n p1 σ h) rfl ⟨(Nat.le_of_ble_eq_true rfl), (Nat.le_of_ble_eq_true rfl)⟩ (Nat.le_of_ble_eq_true rfl) hM (fun r2 s1 hM => ?_)
  refine v_if_eq K 18 dX11_people_4 (by decide) hM (fun hM => ?_) (fun hM => ?_)
  · refine v_iconst (v := (-1 : Int32)) K dX11_people_18 (by decide) ?_
    exact v_iret K rfl dX11_people_19 hM
  · refine v_iload_n K dX11_people_7 3 rfl ?_
    refine v_iconst (v := (1 : Int32)) K dX11_people_8 (by decide) ?_
    refine v_icmp_lt K 18 dX11_people_9 (by decide) hM (fun hM => ?_) (fun hM => ?_)
    · refine v_iconst (v := (-1 : Int32)) K dX11_people_18 (by decide) ?_
      exact v_iret K rfl dX11_people_19 hM
    · refine v_iload_n K dX11_people_12 3 rfl ?_
      refine v_bipush (v := (7 : Int32)) K dX11_people_13 (by decide) ?_
      refine v_icmp_le K 20 dX11_people_15 (by decide) hM (fun hM => ?_) (fun hM => ?_)
      · refine v_aload_n K dX11_people_20 0 rfl ?_
        refine g_X11_14 K qf_X11_99 dX11_people_21 ?_
        refine v_iload_n K dX11_people_24 1 rfl ?_
        refine ld_X3 K dX11_people_25 hM (fun hi3 hM => ?_)
        refine v_astore K dX11_people_26 (by decide) [(4, .ref (ad (63 + 2 * p1.toNatClampNeg))), (0, .ref (ad 0)), (1, .int p1), (2, .int p2), (3, .int p3)] rfl ?_
        refine v_aload K dX11_people_28 0 rfl ?_
        refine x_Vi (As := []) (st := []) K uv_X10_isEmpty qm_X11_120 dX11_people_30 (rv_X10 (isS_in hi3)) (fun _ h => c_X10_isEmpty l (63 + 2 * p1.toNatClampNeg) (isS_in hi3) n  s1 h) rfl ⟨(Nat.le_of_ble_eq_true rfl), (Nat.le_of_ble_eq_true rfl)⟩ (Nat.le_of_ble_eq_true rfl) hM (fun r5 s4 hM => ?_)
        refine v_if_eq K 38 dX11_people_33 (by decide) hM (fun hM => ?_) (fun hM => ?_)
        · refine v_aload K dX11_people_38 0 rfl ?_
          refine x_Vi (As := []) (st := []) K uv_X10_hasBytes qm_X11_123 dX11_people_40 (rv_X10 (isS_in hi3)) (fun _ h => c_X10_hasBytes l (63 + 2 * p1.toNatClampNeg) (isS_in hi3) n  s4 h) rfl ⟨(Nat.le_of_ble_eq_true rfl), (Nat.le_of_ble_eq_true rfl)⟩ (Nat.le_of_ble_eq_true rfl) hM (fun r7 s6 hM => ?_)
          refine v_if_ne K 49 dX11_people_43 (by decide) hM (fun hM => ?_) (fun hM => ?_)
          · refine v_iconst (v := (0 : Int32)) K dX11_people_49 (by decide) ?_
            refine v_istore K dX11_people_50 (by decide) [(5, .int (0 : Int32)), (4, .ref (ad (63 + 2 * p1.toNatClampNeg))), (0, .ref (ad 0)), (1, .int p1), (2, .int p2), (3, .int p3)] rfl ?_
            exact v_sub [2, 4, 5, 1, 0] rfl (ih_1 p2 p3 (63 + 2 * p1.toNatClampNeg) (isS_in hi3) (0 : Int32) s6 hM)
          · refine v_bipush (v := (-12 : Int32)) K dX11_people_46 (by decide) ?_
            exact v_iret K rfl dX11_people_48 hM
        · refine v_iconst (v := (0 : Int32)) K dX11_people_36 (by decide) ?_
          exact v_iret K rfl dX11_people_37 hM
      · refine v_iconst (v := (-1 : Int32)) K dX11_people_18 (by decide) ?_
        exact v_iret K rfl dX11_people_19 hM
noncomputable def F_X11_mend (n : Nat) (p1 : Int32) (p2 : Int32) (p3 : Int32) (σ : St) : Option (Int32 × St) := bd (F_X6_has n p1 σ) fun r2 s1 => if r2 = 0 then (some ((-1 : Int32), s1)) else (bd (F_X6_allows n p2 p3 s1) fun r4 s3 => if r4 = 0 then (some ((-1 : Int32), s3)) else (bd (F_X6_change n p1 p2 p3 s3) fun r6 s5 => some (r6, s5)))
set_option maxHeartbeats 4000000 in
set_option maxRecDepth 20000 in
theorem c_X11_mend (l : Launch) {D : va_G} {A : Nat → Prop} {ad : Nat → Nat} {dA : Nat → ClassId}  (n : Nat) (p1 : Int32) (p2 : Int32) (p3 : Int32) (σ : St) {res : Int32 × St} (hM : F_X11_mend n p1 p2 p3 σ = some res) : MI l yX11_mend cX11_mend 4 (some .int) 4 D (tysX dA) (wdX ad dA) A [.ref (ad 0), .int p1, .int p2, .int p3] σ (QI D (wdX ad dA) A res) := by
  refine mk_met (by decide +kernel) (Nat.le_of_ble_eq_true rfl) (fun p e s m below meth c K => ?_)
  have K : Cx p s m _ meth c cX11_mend 4 (some .int) RX11 D (tysX dA) (wdX ad dA) A := K
  refine v_aload_n K dX11_mend_0 0 rfl ?_
  refine g_X11_0 K qf_X11_10 dX11_mend_1 ?_
  refine v_iload_n K dX11_mend_4 1 rfl ?_
  refine x_Vi (As := [.int p1]) (st := []) K uv_X6_has qm_X11_132 dX11_mend_5 rv_X6 (fun _ h => c_X6_has l  n p1 σ h) rfl ⟨(Nat.le_of_ble_eq_true rfl), (Nat.le_of_ble_eq_true rfl)⟩ (Nat.le_of_ble_eq_true rfl) hM (fun r2 s1 hM => ?_)
  refine v_if_eq K 19 dX11_mend_8 (by decide) hM (fun hM => ?_) (fun hM => ?_)
  · refine v_iconst (v := (-1 : Int32)) K dX11_mend_19 (by decide) ?_
    exact v_iret K rfl dX11_mend_20 hM
  · refine v_iload_n K dX11_mend_11 2 rfl ?_
    refine v_iload_n K dX11_mend_12 3 rfl ?_
    refine x_Si (As := [.int p2, .int p3]) (st := []) K us_X6_allows qm_X11_104 dX11_mend_13 (fun _ h => c_X6_allows l  n p2 p3 s1 h) rfl ⟨(Nat.le_of_ble_eq_true rfl), (Nat.le_of_ble_eq_true rfl)⟩ (Nat.le_of_ble_eq_true rfl) hM (fun r4 s3 hM => ?_)
    refine v_if_ne K 21 dX11_mend_16 (by decide) hM (fun hM => ?_) (fun hM => ?_)
    · refine v_aload_n K dX11_mend_21 0 rfl ?_
      refine g_X11_0 K qf_X11_10 dX11_mend_22 ?_
      refine v_iload_n K dX11_mend_25 1 rfl ?_
      refine v_iload_n K dX11_mend_26 2 rfl ?_
      refine v_iload_n K dX11_mend_27 3 rfl ?_
      refine x_Vi (As := [.int p1, .int p2, .int p3]) (st := []) K uv_X6_change qm_X11_135 dX11_mend_28 rv_X6 (fun _ h => c_X6_change l  n p1 p2 p3 s3 h) rfl ⟨(Nat.le_of_ble_eq_true rfl), (Nat.le_of_ble_eq_true rfl)⟩ (Nat.le_of_ble_eq_true rfl) hM (fun r6 s5 hM => ?_)
      exact v_iret K rfl dX11_mend_31 hM
    · refine v_iconst (v := (-1 : Int32)) K dX11_mend_19 (by decide) ?_
      exact v_iret K rfl dX11_mend_20 hM
noncomputable def F_X11_of (n : Nat) (p1 : Int32) (p2 : Int32) (σ : St) : Option (Int32 × St) := bd (F_X6_has n p1 σ) fun r2 s1 => if r2 = 0 then (some ((-2000000000 : Int32), s1)) else (if p2 < 0 then (some ((-2000000000 : Int32), s1)) else (if p2 ≤ (4 : Int32) then (if p2 ≤ (3 : Int32) then (bd (F_X6_numberOf n p1 p2 s1) fun r4 s3 => some (r4, s3)) else (bd (F_X1_boundTo n 37 p1 s1) fun r6 s5 => some (r6, s5))) else (some ((-2000000000 : Int32), s1))))
set_option maxHeartbeats 4000000 in
set_option maxRecDepth 20000 in
theorem c_X11_of (l : Launch) {D : va_G} {A : Nat → Prop} {ad : Nat → Nat} {dA : Nat → ClassId}  (n : Nat) (p1 : Int32) (p2 : Int32) (σ : St) {res : Int32 × St} (hM : F_X11_of n p1 p2 σ = some res) : MI l yX11_of cX11_of 3 (some .int) 3 D (tysX dA) (wdX ad dA) A [.ref (ad 0), .int p1, .int p2] σ (QI D (wdX ad dA) A res) := by
  refine mk_met (by decide +kernel) (Nat.le_of_ble_eq_true rfl) (fun p e s m below meth c K => ?_)
  have K : Cx p s m _ meth c cX11_of 3 (some .int) RX11 D (tysX dA) (wdX ad dA) A := K
  refine v_aload_n K dX11_of_0 0 rfl ?_
  refine g_X11_0 K qf_X11_10 dX11_of_1 ?_
  refine v_iload_n K dX11_of_4 1 rfl ?_
  refine x_Vi (As := [.int p1]) (st := []) K uv_X6_has qm_X11_132 dX11_of_5 rv_X6 (fun _ h => c_X6_has l  n p1 σ h) rfl ⟨(Nat.le_of_ble_eq_true rfl), (Nat.le_of_ble_eq_true rfl)⟩ (Nat.le_of_ble_eq_true rfl) hM (fun r2 s1 hM => ?_)
  refine v_if_eq K 20 dX11_of_8 (by decide) hM (fun hM => ?_) (fun hM => ?_)
  · refine v_ldc (v := (-2000000000 : Int32)) K qc_X11_139 dX11_of_20 ?_
    exact v_iret K rfl dX11_of_22 hM
  · refine v_iload_n K dX11_of_11 2 rfl ?_
    refine v_if_lt K 20 dX11_of_12 (by decide) hM (fun hM => ?_) (fun hM => ?_)
    · refine v_ldc (v := (-2000000000 : Int32)) K qc_X11_139 dX11_of_20 ?_
      exact v_iret K rfl dX11_of_22 hM
    · refine v_iload_n K dX11_of_15 2 rfl ?_
      refine v_iconst (v := (4 : Int32)) K dX11_of_16 (by decide) ?_
      refine v_icmp_le K 23 dX11_of_17 (by decide) hM (fun hM => ?_) (fun hM => ?_)
      · refine v_iload_n K dX11_of_23 2 rfl ?_
        refine v_iconst (v := (3 : Int32)) K dX11_of_24 (by decide) ?_
        refine v_icmp_le K 39 dX11_of_25 (by decide) hM (fun hM => ?_) (fun hM => ?_)
        · refine v_aload_n K dX11_of_39 0 rfl ?_
          refine g_X11_0 K qf_X11_10 dX11_of_40 ?_
          refine v_iload_n K dX11_of_43 1 rfl ?_
          refine v_iload_n K dX11_of_44 2 rfl ?_
          refine x_Vi (As := [.int p1, .int p2]) (st := []) K uv_X6_numberOf qm_X11_144 dX11_of_45 rv_X6 (fun _ h => c_X6_numberOf l  n p1 p2 s1 h) rfl ⟨(Nat.le_of_ble_eq_true rfl), (Nat.le_of_ble_eq_true rfl)⟩ (Nat.le_of_ble_eq_true rfl) hM (fun r4 s3 hM => ?_)
          exact v_iret K rfl dX11_of_48 hM
        · refine v_aload_n K dX11_of_28 0 rfl ?_
          refine g_X11_4 K qf_X11_42 dX11_of_29 ?_
          refine v_iload_n K dX11_of_32 1 rfl ?_
          refine x_Vi (As := [.int p1]) (st := []) K uv_X1_boundTo qm_X11_140 dX11_of_33 (rv_X1 isB_37) (fun _ h => c_X1_boundTo l 37 isB_37 n p1 s1 h) rfl ⟨(Nat.le_of_ble_eq_true rfl), (Nat.le_of_ble_eq_true rfl)⟩ (Nat.le_of_ble_eq_true rfl) hM (fun r6 s5 hM => ?_)
          refine v_goto (tgt := 48) K dX11_of_36 (by decide) ?_
          exact v_iret K rfl dX11_of_48 hM
      · refine v_ldc (v := (-2000000000 : Int32)) K qc_X11_139 dX11_of_20 ?_
        exact v_iret K rfl dX11_of_22 hM
noncomputable def F_X11_feed (n : Nat) (p1 : Int32) (σ : St) : Option (Int32 × St) := if p1 < 0 then (some ((-1 : Int32), σ)) else (if p1 ≤ (255 : Int32) then (bd (F_X8_isFull n  σ) fun r2 s1 => if r2 = 0 then (bd (F_X8_take n p1 s1) fun r4 s3 => some (r4, s3)) else (some ((-3 : Int32), s1))) else (some ((-1 : Int32), σ)))
set_option maxHeartbeats 4000000 in
set_option maxRecDepth 20000 in
theorem c_X11_feed (l : Launch) {D : va_G} {A : Nat → Prop} {ad : Nat → Nat} {dA : Nat → ClassId}  (n : Nat) (p1 : Int32) (σ : St) {res : Int32 × St} (hM : F_X11_feed n p1 σ = some res) : MI l yX11_feed cX11_feed 2 (some .int) 3 D (tysX dA) (wdX ad dA) A [.ref (ad 0), .int p1] σ (QI D (wdX ad dA) A res) := by
  refine mk_met (by decide +kernel) (Nat.le_of_ble_eq_true rfl) (fun p e s m below meth c K => ?_)
  have K : Cx p s m _ meth c cX11_feed 2 (some .int) RX11 D (tysX dA) (wdX ad dA) A := K
  refine v_iload_n K dX11_feed_0 1 rfl ?_
  refine v_if_lt K 11 dX11_feed_1 (by decide) hM (fun hM => ?_) (fun hM => ?_)
  · refine v_iconst (v := (-1 : Int32)) K dX11_feed_11 (by decide) ?_
    exact v_iret K rfl dX11_feed_12 hM
  · refine v_iload_n K dX11_feed_4 1 rfl ?_
    refine v_sipush (v := (255 : Int32)) K dX11_feed_5 (by decide) ?_
    refine v_icmp_le K 13 dX11_feed_8 (by decide) hM (fun hM => ?_) (fun hM => ?_)
    · refine v_aload_n K dX11_feed_13 0 rfl ?_
      refine g_X11_2 K qf_X11_26 dX11_feed_14 ?_
      refine x_Vi (As := []) (st := []) K uv_X8_isFull qm_X11_147 dX11_feed_17 rv_X8 (fun _ h => c_X8_isFull l  n  σ h) rfl ⟨(Nat.le_of_ble_eq_true rfl), (Nat.le_of_ble_eq_true rfl)⟩ (Nat.le_of_ble_eq_true rfl) hM (fun r2 s1 hM => ?_)
      refine v_if_eq K 28 dX11_feed_20 (by decide) hM (fun hM => ?_) (fun hM => ?_)
      · refine v_aload_n K dX11_feed_28 0 rfl ?_
        refine g_X11_2 K qf_X11_26 dX11_feed_29 ?_
        refine v_iload_n K dX11_feed_32 1 rfl ?_
        refine x_Vi (As := [.int p1]) (st := []) K uv_X8_take qm_X11_148 dX11_feed_33 rv_X8 (fun _ h => c_X8_take l  n p1 s1 h) rfl ⟨(Nat.le_of_ble_eq_true rfl), (Nat.le_of_ble_eq_true rfl)⟩ (Nat.le_of_ble_eq_true rfl) hM (fun r4 s3 hM => ?_)
        exact v_iret K rfl dX11_feed_36 hM
      · refine v_bipush (v := (-3 : Int32)) K dX11_feed_23 (by decide) ?_
        refine v_goto (tgt := 36) K dX11_feed_25 (by decide) ?_
        exact v_iret K rfl dX11_feed_36 hM
    · refine v_iconst (v := (-1 : Int32)) K dX11_feed_11 (by decide) ?_
      exact v_iret K rfl dX11_feed_12 hM
noncomputable def F_X11_law (n : Nat)  (σ : St) : Option (Int32 × St) := bd (F_X8_readInto n 27 σ) fun r2 s1 => if 0 ≤ r2 then (some (((-100 : Int32) - r2), s1)) else (some ((1 : Int32), s1))
set_option maxHeartbeats 4000000 in
set_option maxRecDepth 20000 in
theorem c_X11_law (l : Launch) {D : va_G} {A : Nat → Prop} {ad : Nat → Nat} {dA : Nat → ClassId}  (n : Nat)  (σ : St) {res : Int32 × St} (hM : F_X11_law n  σ = some res) : MI l yX11_law cX11_law 2 (some .int) 112 D (tysX dA) (wdX ad dA) A [.ref (ad 0)] σ (QI D (wdX ad dA) A res) := by
  refine mk_met (by decide +kernel) (Nat.le_of_ble_eq_true rfl) (fun p e s m below meth c K => ?_)
  have K : Cx p s m _ meth c cX11_law 2 (some .int) RX11 D (tysX dA) (wdX ad dA) A := K
  refine v_aload_n K dX11_law_0 0 rfl ?_
  refine g_X11_2 K qf_X11_26 dX11_law_1 ?_
  refine v_aload_n K dX11_law_4 0 rfl ?_
  refine g_X11_1 K qf_X11_19 dX11_law_5 ?_
  refine x_Vi (As := [.ref (ad 27)]) (st := []) K uv_X8_readInto qm_X11_151 dX11_law_8 rv_X8 (fun _ h => c_X8_readInto l 27 isL_27 n  σ h) rfl ⟨(Nat.le_of_ble_eq_true rfl), (Nat.le_of_ble_eq_true rfl)⟩ (Nat.le_of_ble_eq_true rfl) hM (fun r2 s1 hM => ?_)
  refine v_istore_n K dX11_law_11 rfl (by decide) [(1, .int r2), (0, .ref (ad 0))] rfl ?_
  refine v_iload_n K dX11_law_12 0 rfl ?_
  refine v_if_ge K 20 dX11_law_13 (by decide) hM (fun hM => ?_) (fun hM => ?_)
  · refine v_bipush (v := (-100 : Int32)) K dX11_law_20 (by decide) ?_
    refine v_iload_n K dX11_law_22 0 rfl ?_
    refine v_isub K dX11_law_23 ?_
    exact v_iret K rfl dX11_law_24 hM
  · refine v_iconst (v := (1 : Int32)) K dX11_law_16 (by decide) ?_
    refine v_goto (tgt := 24) K dX11_law_17 (by decide) ?_
    exact v_iret K rfl dX11_law_24 hM
noncomputable def F_X11_isPair (n : Nat) (p1 : Int32) (σ : St) : Option (Int32 × St) := if p1 < 0 then (some ((0 : Int32), σ)) else (gd (¬ (10 : Int32) = 0) (bnd (p1 / (10 : Int32)) fun x1 => gd (¬ (10 : Int32) = 0) (bnd (p1 - p1 / (10 : Int32) * (10 : Int32)) fun x2 => bd (F_X6_areUnlike n x1 x2 σ) fun r4 s3 => if r4 = 0 then (some ((0 : Int32), s3)) else (some ((1 : Int32), s3)))))
set_option maxHeartbeats 4000000 in
set_option maxRecDepth 20000 in
theorem c_X11_isPair (l : Launch) {D : va_G} {A : Nat → Prop} {ad : Nat → Nat} {dA : Nat → ClassId}  (n : Nat) (p1 : Int32) (σ : St) {res : Int32 × St} (hM : F_X11_isPair n p1 σ = some res) : MI l yX11_isPair cX11_isPair 2 (some .boolean) 3 D (tysX dA) (wdX ad dA) A [.ref (ad 0), .int p1] σ (QI D (wdX ad dA) A res) := by
  refine mk_met (by decide +kernel) (Nat.le_of_ble_eq_true rfl) (fun p e s m below meth c K => ?_)
  have K : Cx p s m _ meth c cX11_isPair 2 (some .boolean) RX11 D (tysX dA) (wdX ad dA) A := K
  refine v_iload_n K dX11_isPair_0 1 rfl ?_
  refine v_if_lt K 26 dX11_isPair_1 (by decide) hM (fun hM => ?_) (fun hM => ?_)
  · refine v_iconst (v := (0 : Int32)) K dX11_isPair_26 (by decide) ?_
    exact v_zret K rfl rfl dX11_isPair_27 hM
  · refine v_aload_n K dX11_isPair_4 0 rfl ?_
    refine g_X11_0 K qf_X11_10 dX11_isPair_5 ?_
    refine v_iload_n K dX11_isPair_8 1 rfl ?_
    refine v_bipush (v := (10 : Int32)) K dX11_isPair_9 (by decide) ?_
    refine v_idiv K dX11_isPair_11 hM (fun hM => ?_)
    refine v_topi hM (fun x1 hM => ?_)
    refine v_iload_n K dX11_isPair_12 1 rfl ?_
    refine v_bipush (v := (10 : Int32)) K dX11_isPair_13 (by decide) ?_
    refine v_irem K dX11_isPair_15 hM (fun hM => ?_)
    refine v_topi hM (fun x2 hM => ?_)
    refine x_Vi (As := [.int x1, .int x2]) (st := []) K uv_X6_areUnlike qm_X11_370 dX11_isPair_16 rv_X6 (fun _ h => c_X6_areUnlike l  n x1 x2 σ h) rfl ⟨(Nat.le_of_ble_eq_true rfl), (Nat.le_of_ble_eq_true rfl)⟩ (Nat.le_of_ble_eq_true rfl) hM (fun r4 s3 hM => ?_)
    refine v_if_eq K 26 dX11_isPair_19 (by decide) hM (fun hM => ?_) (fun hM => ?_)
    · refine v_iconst (v := (0 : Int32)) K dX11_isPair_26 (by decide) ?_
      exact v_zret K rfl rfl dX11_isPair_27 hM
    · refine v_iconst (v := (1 : Int32)) K dX11_isPair_22 (by decide) ?_
      refine v_goto (tgt := 27) K dX11_isPair_23 (by decide) ?_
      exact v_zret K rfl rfl dX11_isPair_27 hM
noncomputable def F_X11_wins (n : Nat) (p1 : Int32) (p2 : Int32) (σ : St) : Option (Int32 × St) := bd (F_X11_isPair n p1 σ) fun r2 s1 => if r2 = 0 then (some ((-1 : Int32), s1)) else (if p2 < 0 then (some ((-1 : Int32), s1)) else (if p2 ≤ (1 : Int32) then (gd (¬ (10 : Int32) = 0) (bnd (p1 / (10 : Int32)) fun x3 => gd (¬ (10 : Int32) = 0) (bnd (p1 - p1 / (10 : Int32) * (10 : Int32)) fun x4 => if p2 = 0 then (bd (F_X3_twelfths n 37 x3 x4 s1) fun r8 s7 => some (r8, s7)) else (bd (F_X1_speakerFor n 37 x4 s1) fun r6 s5 => some (r6, s5))))) else (some ((-1 : Int32), s1))))
set_option maxHeartbeats 4000000 in
set_option maxRecDepth 20000 in
theorem c_X11_wins (l : Launch) {D : va_G} {A : Nat → Prop} {ad : Nat → Nat} {dA : Nat → ClassId}  (n : Nat) (p1 : Int32) (p2 : Int32) (σ : St) {res : Int32 × St} (hM : F_X11_wins n p1 p2 σ = some res) : MI l yX11_wins cX11_wins 5 (some .int) 4 D (tysX dA) (wdX ad dA) A [.ref (ad 0), .int p1, .int p2] σ (QI D (wdX ad dA) A res) := by
  refine mk_met (by decide +kernel) (Nat.le_of_ble_eq_true rfl) (fun p e s m below meth c K => ?_)
  have K : Cx p s m _ meth c cX11_wins 5 (some .int) RX11 D (tysX dA) (wdX ad dA) A := K
  refine v_aload_n K dX11_wins_0 0 rfl ?_
  refine v_iload_n K dX11_wins_1 1 rfl ?_
  refine x_Vi (As := [.int p1]) (st := []) K uv_X11_isPair qm_X11_155 dX11_wins_2 rv_X11 (fun _ h => c_X11_isPair l  n p1 σ h) rfl ⟨(Nat.le_of_ble_eq_true rfl), (Nat.le_of_ble_eq_true rfl)⟩ (Nat.le_of_ble_eq_true rfl) hM (fun r2 s1 hM => ?_)
  refine v_if_eq K 17 dX11_wins_5 (by decide) hM (fun hM => ?_) (fun hM => ?_)
  · refine v_iconst (v := (-1 : Int32)) K dX11_wins_17 (by decide) ?_
    exact v_iret K rfl dX11_wins_18 hM
  · refine v_iload_n K dX11_wins_8 2 rfl ?_
    refine v_if_lt K 17 dX11_wins_9 (by decide) hM (fun hM => ?_) (fun hM => ?_)
    · refine v_iconst (v := (-1 : Int32)) K dX11_wins_17 (by decide) ?_
      exact v_iret K rfl dX11_wins_18 hM
    · refine v_iload_n K dX11_wins_12 2 rfl ?_
      refine v_iconst (v := (1 : Int32)) K dX11_wins_13 (by decide) ?_
      refine v_icmp_le K 19 dX11_wins_14 (by decide) hM (fun hM => ?_) (fun hM => ?_)
      · refine v_iload_n K dX11_wins_19 1 rfl ?_
        refine v_bipush (v := (10 : Int32)) K dX11_wins_20 (by decide) ?_
        refine v_idiv K dX11_wins_22 hM (fun hM => ?_)
        refine v_topi hM (fun x3 hM => ?_)
        refine v_istore_n K dX11_wins_23 rfl (by decide) [(3, .int x3), (0, .ref (ad 0)), (1, .int p1), (2, .int p2)] rfl ?_
        refine v_iload_n K dX11_wins_24 2 rfl ?_
        refine v_bipush (v := (10 : Int32)) K dX11_wins_25 (by decide) ?_
        refine v_irem K dX11_wins_27 hM (fun hM => ?_)
        refine v_topi hM (fun x4 hM => ?_)
        refine v_istore K dX11_wins_28 (by decide) [(4, .int x4), (3, .int x3), (0, .ref (ad 0)), (1, .int p1), (2, .int p2)] rfl ?_
        refine v_iload_n K dX11_wins_30 4 rfl ?_
        refine v_if_ne K 51 dX11_wins_31 (by decide) hM (fun hM => ?_) (fun hM => ?_)
        · refine v_aload_n K dX11_wins_51 2 rfl ?_
          refine g_X11_4 K qf_X11_42 dX11_wins_52 ?_
          refine v_iload K dX11_wins_55 0 rfl ?_
          refine x_Vi (As := [.int x4]) (st := []) K uv_X1_speakerFor qm_X11_162 dX11_wins_57 (rv_X1 isB_37) (fun _ h => c_X1_speakerFor l 37 isB_37 n x4 s1 h) rfl ⟨(Nat.le_of_ble_eq_true rfl), (Nat.le_of_ble_eq_true rfl)⟩ (Nat.le_of_ble_eq_true rfl) hM (fun r6 s5 hM => ?_)
          exact v_iret K rfl dX11_wins_60 hM
        · refine v_aload_n K dX11_wins_34 2 rfl ?_
          refine g_X11_3 K qf_X11_35 dX11_wins_35 ?_
          refine v_aload_n K dX11_wins_38 2 rfl ?_
          refine g_X11_4 K qf_X11_42 dX11_wins_39 ?_
          refine v_iload_n K dX11_wins_42 1 rfl ?_
          refine v_iload K dX11_wins_43 0 rfl ?_
          refine x_Vi (As := [.ref (ad 37), .int x3, .int x4]) (st := []) K uv_X3_twelfths qm_X11_158 dX11_wins_45 rv_X3 (fun _ h => c_X3_twelfths l 37 isB_37 n x3 x4 s1 h) rfl ⟨(Nat.le_of_ble_eq_true rfl), (Nat.le_of_ble_eq_true rfl)⟩ (Nat.le_of_ble_eq_true rfl) hM (fun r8 s7 hM => ?_)
          refine v_goto (tgt := 60) K dX11_wins_48 (by decide) ?_
          exact v_iret K rfl dX11_wins_60 hM
      · refine v_iconst (v := (-1 : Int32)) K dX11_wins_17 (by decide) ?_
        exact v_iret K rfl dX11_wins_18 hM
noncomputable def B_X11_course_1 (J : Nat → Int32 → Int32 → St → Option (Int32 × St)) (n : Nat)  (l1 : Int32) (l2 : Int32) (σ : St) : Option (Int32 × St) := gd (vp_in l1 6) (bd (F_X10_hasBytes n (63 + 2 * l1.toNatClampNeg) σ) fun r7 s6 => if r7 = 0 then (some ((-2000000000 : Int32), s6)) else (gd (vp_in l1 6) (bd (F_X2_follow n (63 + 2 * l1.toNatClampNeg) 37 l2 s6) fun _ s9 => if l2 = (-1 : Int32) then (bd (F_X2_heard n  s9) fun r13 s12 => some (r13, s12)) else (bd (F_X2_boundTo n l2 s9) fun r11 s10 => some (r11, s10)))))
noncomputable def S_X11_course  (n : Nat) (J : Nat → Int32 → Int32 → St → Option (Int32 × St)) : Nat → Int32 → Int32 → St → Option (Int32 × St) := fun lb a0 a1 σ => match lb with
  | 1 => B_X11_course_1 J n  a0 a1 σ
  | _ => none
noncomputable def L_X11_course  (n : Nat) : Nat → Int32 → Int32 → St → Option (Int32 × St) := Nat.rec (fun _ _ _ _ => none) (fun n J => S_X11_course  n J) n
noncomputable def F_X11_course (n : Nat) (p1 : Int32) (p2 : Int32) (σ : St) : Option (Int32 × St) := bd (F_X11_isShelf n p1 σ) fun r2 s1 => if r2 = 0 then (some ((-2000000000 : Int32), s1)) else (if p2 = (-1 : Int32) then (L_X11_course  n 1 p1 p2 s1) else (bd (F_X6_has n p2 s1) fun r4 s3 => if r4 = 0 then (some ((-2000000000 : Int32), s3)) else (L_X11_course  n 1 p1 p2 s3)))
set_option maxHeartbeats 4000000 in
set_option maxRecDepth 20000 in
theorem t_X11_course (l : Launch) {p : Program} {e : Env} {s : State} {m : MethodId} {args : Array Value} {below : List Frame} {meth : Method} {c : Code} {D : va_G} {A : Nat → Prop} {ad : Nat → Nat} {dA : Nat → ClassId}   (K : Cx p s m args meth c cX11_course 3 (some .int) RX11 D (tysX dA) (wdX ad dA) A) {res : Int32 × St} (n : Nat) : (∀ (l1 : Int32) (l2 : Int32) (σ : St), L_X11_course  n 1 l1 l2 σ = some res → V p l e (rmH 6) s m args below meth c 3 D (wdX ad dA) A (MQ below (QI D (wdX ad dA) A res) args s 0 0 A) 23 [(0, .ref (ad 0)), (1, .int l1), (2, .int l2)] [] σ) := by
  induction n with
  | zero => exact (fun _ _ _ h => (by cases h))
  | succ n ih =>
    have ih_1 := ih
    · intro l1 l2 σ hM
      have hM : B_X11_course_1 (L_X11_course  n) n  l1 l2 σ = some res := hM
      refine v_aload_n K dX11_course_23 0 rfl ?_
      refine g_X11_14 K qf_X11_99 dX11_course_24 ?_
      refine v_iload_n K dX11_course_27 1 rfl ?_
      refine ld_X3 K dX11_course_28 hM (fun hi5 hM => ?_)
      refine x_Vi (As := []) (st := []) K uv_X10_hasBytes qm_X11_123 dX11_course_29 (rv_X10 (isS_in hi5)) (fun _ h => c_X10_hasBytes l (63 + 2 * l1.toNatClampNeg) (isS_in hi5) n  σ h) rfl ⟨(Nat.le_of_ble_eq_true rfl), (Nat.le_of_ble_eq_true rfl)⟩ (Nat.le_of_ble_eq_true rfl) hM (fun r7 s6 hM => ?_)
      refine v_if_ne K 38 dX11_course_32 (by decide) hM (fun hM => ?_) (fun hM => ?_)
      · refine v_aload_n K dX11_course_38 0 rfl ?_
        refine g_X11_9 K qf_X11_65 dX11_course_39 ?_
        refine v_aload_n K dX11_course_42 0 rfl ?_
        refine g_X11_14 K qf_X11_99 dX11_course_43 ?_
        refine v_iload_n K dX11_course_46 1 rfl ?_
        refine ld_X3 K dX11_course_47 hM (fun hi8 hM => ?_)
        refine v_aload_n K dX11_course_48 0 rfl ?_
        refine g_X11_4 K qf_X11_42 dX11_course_49 ?_
        refine v_iload_n K dX11_course_52 2 rfl ?_
        refine x_Vv (As := [.ref (ad (63 + 2 * l1.toNatClampNeg)), .ref (ad 37), .int l2]) (st := []) K uv_X2_follow qm_X11_165 dX11_course_53 rv_X2 (fun _ h => c_X2_follow l (63 + 2 * l1.toNatClampNeg) (isS_in hi8) 37 isB_37 n l2 s6 h) rfl ⟨(Nat.le_of_ble_eq_true rfl), (Nat.le_of_ble_eq_true rfl)⟩ (Nat.le_of_ble_eq_true rfl) hM (fun s9 hM => ?_)
        refine v_iload_n K dX11_course_56 2 rfl ?_
        refine v_iconst (v := (-1 : Int32)) K dX11_course_57 (by decide) ?_
        refine v_icmp_ne K 71 dX11_course_58 (by decide) hM (fun hM => ?_) (fun hM => ?_)
        · refine v_aload_n K dX11_course_71 0 rfl ?_
          refine g_X11_9 K qf_X11_65 dX11_course_72 ?_
          refine v_iload_n K dX11_course_75 2 rfl ?_
          refine x_Vi (As := [.int l2]) (st := []) K uv_X2_boundTo qm_X11_173 dX11_course_76 rv_X2 (fun _ h => c_X2_boundTo l  n l2 s9 h) rfl ⟨(Nat.le_of_ble_eq_true rfl), (Nat.le_of_ble_eq_true rfl)⟩ (Nat.le_of_ble_eq_true rfl) hM (fun r11 s10 hM => ?_)
          exact v_iret K rfl dX11_course_79 hM
        · refine v_aload_n K dX11_course_61 0 rfl ?_
          refine g_X11_9 K qf_X11_65 dX11_course_62 ?_
          refine x_Vi (As := []) (st := []) K uv_X2_heard qm_X11_169 dX11_course_65 rv_X2 (fun _ h => c_X2_heard l  n  s9 h) rfl ⟨(Nat.le_of_ble_eq_true rfl), (Nat.le_of_ble_eq_true rfl)⟩ (Nat.le_of_ble_eq_true rfl) hM (fun r13 s12 hM => ?_)
          refine v_goto (tgt := 79) K dX11_course_68 (by decide) ?_
          exact v_iret K rfl dX11_course_79 hM
      · refine v_ldc (v := (-2000000000 : Int32)) K qc_X11_139 dX11_course_35 ?_
        exact v_iret K rfl dX11_course_37 hM
set_option maxHeartbeats 4000000 in
set_option maxRecDepth 20000 in
theorem c_X11_course (l : Launch) {D : va_G} {A : Nat → Prop} {ad : Nat → Nat} {dA : Nat → ClassId}  (n : Nat) (p1 : Int32) (p2 : Int32) (σ : St) {res : Int32 × St} (hM : F_X11_course n p1 p2 σ = some res) : MI l yX11_course cX11_course 3 (some .int) 6 D (tysX dA) (wdX ad dA) A [.ref (ad 0), .int p1, .int p2] σ (QI D (wdX ad dA) A res) := by
  refine mk_met (by decide +kernel) (Nat.le_of_ble_eq_true rfl) (fun p e s m below meth c K => ?_)
  have K : Cx p s m _ meth c cX11_course 3 (some .int) RX11 D (tysX dA) (wdX ad dA) A := K
  have ih_1 := t_X11_course l    K (res := res) n (below := below) (e := e)
  refine v_iload_n K dX11_course_0 1 rfl ?_
  refine x_Si (As := [.int p1]) (st := []) K us_X11_isShelf qm_X11_116 dX11_course_1 (fun _ h => c_X11_isShelf l  n p1 σ h) rfl ⟨(Nat.le_of_ble_eq_true rfl), (Nat.le_of_ble_eq_true rfl)⟩ (Nat.le_of_ble_eq_true rfl) hM (fun r2 s1 hM => ?_)
  refine v_if_eq K 35 dX11_course_4 (by decide) hM (fun hM => ?_) (fun hM => ?_)
  · refine v_ldc (v := (-2000000000 : Int32)) K qc_X11_139 dX11_course_35 ?_
    exact v_iret K rfl dX11_course_37 hM
  · refine v_iload_n K dX11_course_7 2 rfl ?_
    refine v_iconst (v := (-1 : Int32)) K dX11_course_8 (by decide) ?_
    refine v_icmp_eq K 23 dX11_course_9 (by decide) hM (fun hM => ?_) (fun hM => ?_)
    · exact v_sub [0, 1, 2] rfl (ih_1 p1 p2 s1 hM)
    · refine v_aload_n K dX11_course_12 0 rfl ?_
      refine g_X11_0 K qf_X11_10 dX11_course_13 ?_
      refine v_iload_n K dX11_course_16 2 rfl ?_
      refine x_Vi (As := [.int p2]) (st := []) K uv_X6_has qm_X11_132 dX11_course_17 rv_X6 (fun _ h => c_X6_has l  n p2 s1 h) rfl ⟨(Nat.le_of_ble_eq_true rfl), (Nat.le_of_ble_eq_true rfl)⟩ (Nat.le_of_ble_eq_true rfl) hM (fun r4 s3 hM => ?_)
      refine v_if_eq K 35 dX11_course_20 (by decide) hM (fun hM => ?_) (fun hM => ?_)
      · refine v_ldc (v := (-2000000000 : Int32)) K qc_X11_139 dX11_course_35 ?_
        exact v_iret K rfl dX11_course_37 hM
      · exact v_sub [0, 1, 2] rfl (ih_1 p1 p2 s3 hM)
noncomputable def F_X11_ends (n : Nat) (p1 : Int32) (p2 : Int32) (p3 : Int32) (σ : St) : Option (Int32 × St) := bd (F_X11_isShelf n p1 σ) fun r2 s1 => if r2 = 0 then (some ((-2000000000 : Int32), s1)) else (bd (F_X6_has n p2 s1) fun r4 s3 => if r4 = 0 then (some ((-2000000000 : Int32), s3)) else (if p3 < 0 then (some ((-2000000000 : Int32), s3)) else (if (1 : Int32) < p3 then (some ((-2000000000 : Int32), s3)) else (gd (vp_in p1 6) (bd (F_X10_hasBytes n (63 + 2 * p1.toNatClampNeg) s3) fun r7 s6 => if r7 = 0 then (some ((-2000000000 : Int32), s6)) else (gd (vp_in p1 6) (bd (F_X2_follow n (63 + 2 * p1.toNatClampNeg) 37 p2 s6) fun _ s9 => if p3 = 0 then (bd (F_X2_millionths n  s9) fun r13 s12 => some (r13, s12)) else (bd (F_X2_gained n  s9) fun r11 s10 => some (r11, s10)))))))))
set_option maxHeartbeats 4000000 in
set_option maxRecDepth 20000 in
theorem c_X11_ends (l : Launch) {D : va_G} {A : Nat → Prop} {ad : Nat → Nat} {dA : Nat → ClassId}  (n : Nat) (p1 : Int32) (p2 : Int32) (p3 : Int32) (σ : St) {res : Int32 × St} (hM : F_X11_ends n p1 p2 p3 σ = some res) : MI l yX11_ends cX11_ends 4 (some .int) 6 D (tysX dA) (wdX ad dA) A [.ref (ad 0), .int p1, .int p2, .int p3] σ (QI D (wdX ad dA) A res) := by
  refine mk_met (by decide +kernel) (Nat.le_of_ble_eq_true rfl) (fun p e s m below meth c K => ?_)
  have K : Cx p s m _ meth c cX11_ends 4 (some .int) RX11 D (tysX dA) (wdX ad dA) A := K
  refine v_iload_n K dX11_ends_0 1 rfl ?_
  refine x_Si (As := [.int p1]) (st := []) K us_X11_isShelf qm_X11_116 dX11_ends_1 (fun _ h => c_X11_isShelf l  n p1 σ h) rfl ⟨(Nat.le_of_ble_eq_true rfl), (Nat.le_of_ble_eq_true rfl)⟩ (Nat.le_of_ble_eq_true rfl) hM (fun r2 s1 hM => ?_)
  refine v_if_eq K 39 dX11_ends_4 (by decide) hM (fun hM => ?_) (fun hM => ?_)
  · refine v_ldc (v := (-2000000000 : Int32)) K qc_X11_139 dX11_ends_39 ?_
    exact v_iret K rfl dX11_ends_41 hM
  · refine v_aload_n K dX11_ends_7 0 rfl ?_
    refine g_X11_0 K qf_X11_10 dX11_ends_8 ?_
    refine v_iload_n K dX11_ends_11 2 rfl ?_
    refine x_Vi (As := [.int p2]) (st := []) K uv_X6_has qm_X11_132 dX11_ends_12 rv_X6 (fun _ h => c_X6_has l  n p2 s1 h) rfl ⟨(Nat.le_of_ble_eq_true rfl), (Nat.le_of_ble_eq_true rfl)⟩ (Nat.le_of_ble_eq_true rfl) hM (fun r4 s3 hM => ?_)
    refine v_if_eq K 39 dX11_ends_15 (by decide) hM (fun hM => ?_) (fun hM => ?_)
    · refine v_ldc (v := (-2000000000 : Int32)) K qc_X11_139 dX11_ends_39 ?_
      exact v_iret K rfl dX11_ends_41 hM
    · refine v_iload_n K dX11_ends_18 3 rfl ?_
      refine v_if_lt K 39 dX11_ends_19 (by decide) hM (fun hM => ?_) (fun hM => ?_)
      · refine v_ldc (v := (-2000000000 : Int32)) K qc_X11_139 dX11_ends_39 ?_
        exact v_iret K rfl dX11_ends_41 hM
      · refine v_iload_n K dX11_ends_22 3 rfl ?_
        refine v_iconst (v := (1 : Int32)) K dX11_ends_23 (by decide) ?_
        refine v_icmp_gt K 39 dX11_ends_24 (by decide) hM (fun hM => ?_) (fun hM => ?_)
        · refine v_ldc (v := (-2000000000 : Int32)) K qc_X11_139 dX11_ends_39 ?_
          exact v_iret K rfl dX11_ends_41 hM
        · refine v_aload_n K dX11_ends_27 0 rfl ?_
          refine g_X11_14 K qf_X11_99 dX11_ends_28 ?_
          refine v_iload_n K dX11_ends_31 1 rfl ?_
          refine ld_X3 K dX11_ends_32 hM (fun hi5 hM => ?_)
          refine x_Vi (As := []) (st := []) K uv_X10_hasBytes qm_X11_123 dX11_ends_33 (rv_X10 (isS_in hi5)) (fun _ h => c_X10_hasBytes l (63 + 2 * p1.toNatClampNeg) (isS_in hi5) n  s3 h) rfl ⟨(Nat.le_of_ble_eq_true rfl), (Nat.le_of_ble_eq_true rfl)⟩ (Nat.le_of_ble_eq_true rfl) hM (fun r7 s6 hM => ?_)
          refine v_if_ne K 42 dX11_ends_36 (by decide) hM (fun hM => ?_) (fun hM => ?_)
          · refine v_aload_n K dX11_ends_42 0 rfl ?_
            refine g_X11_9 K qf_X11_65 dX11_ends_43 ?_
            refine v_aload_n K dX11_ends_46 0 rfl ?_
            refine g_X11_14 K qf_X11_99 dX11_ends_47 ?_
            refine v_iload_n K dX11_ends_50 1 rfl ?_
            refine ld_X3 K dX11_ends_51 hM (fun hi8 hM => ?_)
            refine v_aload_n K dX11_ends_52 0 rfl ?_
            refine g_X11_4 K qf_X11_42 dX11_ends_53 ?_
            refine v_iload_n K dX11_ends_56 2 rfl ?_
            refine x_Vv (As := [.ref (ad (63 + 2 * p1.toNatClampNeg)), .ref (ad 37), .int p2]) (st := []) K uv_X2_follow qm_X11_165 dX11_ends_57 rv_X2 (fun _ h => c_X2_follow l (63 + 2 * p1.toNatClampNeg) (isS_in hi8) 37 isB_37 n p2 s6 h) rfl ⟨(Nat.le_of_ble_eq_true rfl), (Nat.le_of_ble_eq_true rfl)⟩ (Nat.le_of_ble_eq_true rfl) hM (fun s9 hM => ?_)
            refine v_iload_n K dX11_ends_60 3 rfl ?_
            refine v_if_ne K 74 dX11_ends_61 (by decide) hM (fun hM => ?_) (fun hM => ?_)
            · refine v_aload_n K dX11_ends_74 0 rfl ?_
              refine g_X11_9 K qf_X11_65 dX11_ends_75 ?_
              refine x_Vi (As := []) (st := []) K uv_X2_gained qm_X11_177 dX11_ends_78 rv_X2 (fun _ h => c_X2_gained l  n  s9 h) rfl ⟨(Nat.le_of_ble_eq_true rfl), (Nat.le_of_ble_eq_true rfl)⟩ (Nat.le_of_ble_eq_true rfl) hM (fun r11 s10 hM => ?_)
              exact v_iret K rfl dX11_ends_81 hM
            · refine v_aload_n K dX11_ends_64 0 rfl ?_
              refine g_X11_9 K qf_X11_65 dX11_ends_65 ?_
              refine x_Vi (As := []) (st := []) K uv_X2_millionths qm_X11_174 dX11_ends_68 rv_X2 (fun _ h => c_X2_millionths l  n  s9 h) rfl ⟨(Nat.le_of_ble_eq_true rfl), (Nat.le_of_ble_eq_true rfl)⟩ (Nat.le_of_ble_eq_true rfl) hM (fun r13 s12 hM => ?_)
              refine v_goto (tgt := 81) K dX11_ends_71 (by decide) ?_
              exact v_iret K rfl dX11_ends_81 hM
          · refine v_ldc (v := (-2000000000 : Int32)) K qc_X11_139 dX11_ends_39 ?_
            exact v_iret K rfl dX11_ends_41 hM
noncomputable def F_X11_best (n : Nat) (p1 : Int32) (p2 : Int32) (σ : St) : Option (Int32 × St) := bd (F_X6_has n p1 σ) fun r2 s1 => if r2 = 0 then (some ((-1 : Int32), s1)) else (if p2 < 0 then (some ((-1 : Int32), s1)) else (if p2 ≤ (1 : Int32) then (bd (F_X1_isFree n 37 p1 s1) fun r4 s3 => if r4 = 0 then (some ((-2 : Int32), s3)) else (bd (F_X6_size n  s3) fun r6 s5 => if (2 : Int32) ≤ r6 then (if p2 = 0 then (bd (F_X3_easiest n 37 p1 s5) fun r10 s9 => some (r10, s9)) else (bd (F_X3_hardest n 37 p1 s5) fun r8 s7 => some (r8, s7))) else (some ((-2 : Int32), s5)))) else (some ((-1 : Int32), s1))))
set_option maxHeartbeats 4000000 in
set_option maxRecDepth 20000 in
theorem c_X11_best (l : Launch) {D : va_G} {A : Nat → Prop} {ad : Nat → Nat} {dA : Nat → ClassId}  (n : Nat) (p1 : Int32) (p2 : Int32) (σ : St) {res : Int32 × St} (hM : F_X11_best n p1 p2 σ = some res) : MI l yX11_best cX11_best 3 (some .int) 6 D (tysX dA) (wdX ad dA) A [.ref (ad 0), .int p1, .int p2] σ (QI D (wdX ad dA) A res) := by
  refine mk_met (by decide +kernel) (Nat.le_of_ble_eq_true rfl) (fun p e s m below meth c K => ?_)
  have K : Cx p s m _ meth c cX11_best 3 (some .int) RX11 D (tysX dA) (wdX ad dA) A := K
  refine v_aload_n K dX11_best_0 0 rfl ?_
  refine g_X11_0 K qf_X11_10 dX11_best_1 ?_
  refine v_iload_n K dX11_best_4 1 rfl ?_
  refine x_Vi (As := [.int p1]) (st := []) K uv_X6_has qm_X11_132 dX11_best_5 rv_X6 (fun _ h => c_X6_has l  n p1 σ h) rfl ⟨(Nat.le_of_ble_eq_true rfl), (Nat.le_of_ble_eq_true rfl)⟩ (Nat.le_of_ble_eq_true rfl) hM (fun r2 s1 hM => ?_)
  refine v_if_eq K 20 dX11_best_8 (by decide) hM (fun hM => ?_) (fun hM => ?_)
  · refine v_iconst (v := (-1 : Int32)) K dX11_best_20 (by decide) ?_
    exact v_iret K rfl dX11_best_21 hM
  · refine v_iload_n K dX11_best_11 2 rfl ?_
    refine v_if_lt K 20 dX11_best_12 (by decide) hM (fun hM => ?_) (fun hM => ?_)
    · refine v_iconst (v := (-1 : Int32)) K dX11_best_20 (by decide) ?_
      exact v_iret K rfl dX11_best_21 hM
    · refine v_iload_n K dX11_best_15 2 rfl ?_
      refine v_iconst (v := (1 : Int32)) K dX11_best_16 (by decide) ?_
      refine v_icmp_le K 22 dX11_best_17 (by decide) hM (fun hM => ?_) (fun hM => ?_)
      · refine v_aload_n K dX11_best_22 0 rfl ?_
        refine g_X11_4 K qf_X11_42 dX11_best_23 ?_
        refine v_iload_n K dX11_best_26 1 rfl ?_
        refine x_Vi (As := [.int p1]) (st := []) K uv_X1_isFree qm_X11_180 dX11_best_27 (rv_X1 isB_37) (fun _ h => c_X1_isFree l 37 isB_37 n p1 s1 h) rfl ⟨(Nat.le_of_ble_eq_true rfl), (Nat.le_of_ble_eq_true rfl)⟩ (Nat.le_of_ble_eq_true rfl) hM (fun r4 s3 hM => ?_)
        refine v_if_eq K 44 dX11_best_30 (by decide) hM (fun hM => ?_) (fun hM => ?_)
        · refine v_bipush (v := (-2 : Int32)) K dX11_best_44 (by decide) ?_
          exact v_iret K rfl dX11_best_46 hM
        · refine v_aload_n K dX11_best_33 0 rfl ?_
          refine g_X11_0 K qf_X11_10 dX11_best_34 ?_
          refine x_Vi (As := []) (st := []) K uv_X6_size qm_X11_183 dX11_best_37 rv_X6 (fun _ h => c_X6_size l  n  s3 h) rfl ⟨(Nat.le_of_ble_eq_true rfl), (Nat.le_of_ble_eq_true rfl)⟩ (Nat.le_of_ble_eq_true rfl) hM (fun r6 s5 hM => ?_)
          refine v_iconst (v := (2 : Int32)) K dX11_best_40 (by decide) ?_
          refine v_icmp_ge K 47 dX11_best_41 (by decide) hM (fun hM => ?_) (fun hM => ?_)
          · refine v_iload_n K dX11_best_47 2 rfl ?_
            refine v_if_ne K 66 dX11_best_48 (by decide) hM (fun hM => ?_) (fun hM => ?_)
            · refine v_aload_n K dX11_best_66 0 rfl ?_
              refine g_X11_3 K qf_X11_35 dX11_best_67 ?_
              refine v_aload_n K dX11_best_70 0 rfl ?_
              refine g_X11_4 K qf_X11_42 dX11_best_71 ?_
              refine v_iload_n K dX11_best_74 1 rfl ?_
              refine x_Vi (As := [.ref (ad 37), .int p1]) (st := []) K uv_X3_hardest qm_X11_190 dX11_best_75 rv_X3 (fun _ h => c_X3_hardest l 37 isB_37 n p1 s5 h) rfl ⟨(Nat.le_of_ble_eq_true rfl), (Nat.le_of_ble_eq_true rfl)⟩ (Nat.le_of_ble_eq_true rfl) hM (fun r8 s7 hM => ?_)
              exact v_iret K rfl dX11_best_78 hM
            · refine v_aload_n K dX11_best_51 0 rfl ?_
              refine g_X11_3 K qf_X11_35 dX11_best_52 ?_
              refine v_aload_n K dX11_best_55 0 rfl ?_
              refine g_X11_4 K qf_X11_42 dX11_best_56 ?_
              refine v_iload_n K dX11_best_59 1 rfl ?_
              refine x_Vi (As := [.ref (ad 37), .int p1]) (st := []) K uv_X3_easiest qm_X11_186 dX11_best_60 rv_X3 (fun _ h => c_X3_easiest l 37 isB_37 n p1 s5 h) rfl ⟨(Nat.le_of_ble_eq_true rfl), (Nat.le_of_ble_eq_true rfl)⟩ (Nat.le_of_ble_eq_true rfl) hM (fun r10 s9 hM => ?_)
              refine v_goto (tgt := 78) K dX11_best_63 (by decide) ?_
              exact v_iret K rfl dX11_best_78 hM
          · refine v_bipush (v := (-2 : Int32)) K dX11_best_44 (by decide) ?_
            exact v_iret K rfl dX11_best_46 hM
      · refine v_iconst (v := (-1 : Int32)) K dX11_best_20 (by decide) ?_
        exact v_iret K rfl dX11_best_21 hM
noncomputable def B_X11_commonDivisor_1 (J : Nat → Int32 → Int32 → St → Option (Int32 × St)) (n : Nat)  (l0 : Int32) (l1 : Int32) (σ : St) : Option (Int32 × St) := if l1 ≤ (1 : Int32) then (some ((1 : Int32), σ)) else (gd (¬ l1 = 0) (bnd (l0 - l0 / l1 * l1) fun x1 => if x1 = 0 then (gd (¬ l1 = 0) (bnd ((12 : Int32) - (12 : Int32) / l1 * l1) fun x3 => if x3 = 0 then (some (l1, σ)) else (bnd (l1 + (-1 : Int32)) fun x4 => J 1 l0 x4 σ))) else (bnd (l1 + (-1 : Int32)) fun x2 => J 1 l0 x2 σ)))
noncomputable def S_X11_commonDivisor  (n : Nat) (J : Nat → Int32 → Int32 → St → Option (Int32 × St)) : Nat → Int32 → Int32 → St → Option (Int32 × St) := fun lb a0 a1 σ => match lb with
  | 1 => B_X11_commonDivisor_1 J n  a0 a1 σ
  | _ => none
noncomputable def L_X11_commonDivisor  (n : Nat) : Nat → Int32 → Int32 → St → Option (Int32 × St) := Nat.rec (fun _ _ _ _ => none) (fun n J => S_X11_commonDivisor  n J) n
noncomputable def F_X11_commonDivisor (n : Nat) (p0 : Int32) (σ : St) : Option (Int32 × St) := L_X11_commonDivisor  n 1 p0 (12 : Int32) σ
set_option maxHeartbeats 4000000 in
set_option maxRecDepth 20000 in
theorem t_X11_commonDivisor (l : Launch) {p : Program} {e : Env} {s : State} {m : MethodId} {args : Array Value} {below : List Frame} {meth : Method} {c : Code} {D : va_G} {A : Nat → Prop} {ad : Nat → Nat} {dA : Nat → ClassId}   (K : Cx p s m args meth c cX11_commonDivisor 2 (some .int) RX11 D (tysX dA) (wdX ad dA) A) {res : Int32 × St} (n : Nat) : (∀ (l0 : Int32) (l1 : Int32) (σ : St), L_X11_commonDivisor  n 1 l0 l1 σ = some res → V p l e (rmH 1) s m args below meth c 2 D (wdX ad dA) A (MQ below (QI D (wdX ad dA) A res) args s 0 0 A) 3 [(0, .int l0), (1, .int l1)] [] σ) := by
  induction n with
  | zero => exact (fun _ _ _ h => (by cases h))
  | succ n ih =>
    have ih_1 := ih
    · intro l0 l1 σ hM
      have hM : B_X11_commonDivisor_1 (L_X11_commonDivisor  n) n  l0 l1 σ = some res := hM
      refine v_iload_n K dX11_commonDivisor_3 1 rfl ?_
      refine v_iconst (v := (1 : Int32)) K dX11_commonDivisor_4 (by decide) ?_
      refine v_icmp_le K 29 dX11_commonDivisor_5 (by decide) hM (fun hM => ?_) (fun hM => ?_)
      · refine v_iconst (v := (1 : Int32)) K dX11_commonDivisor_29 (by decide) ?_
        exact v_iret K rfl dX11_commonDivisor_30 hM
      · refine v_iload_n K dX11_commonDivisor_8 0 rfl ?_
        refine v_iload_n K dX11_commonDivisor_9 1 rfl ?_
        refine v_irem K dX11_commonDivisor_10 hM (fun hM => ?_)
        refine v_topi hM (fun x1 hM => ?_)
        refine v_if_ne K 23 dX11_commonDivisor_11 (by decide) hM (fun hM => ?_) (fun hM => ?_)
        · refine v_iinc K dX11_commonDivisor_23 1 rfl (v := (l1 + (-1 : Int32))) rfl (by decide) hM (fun y => [(1, .int y), (0, .int l0)]) (fun _ => rfl) (fun x2 hM => ?_)
          refine v_goto (tgt := 3) K dX11_commonDivisor_26 (by decide) ?_
          exact v_sub [1, 0] rfl (ih_1 l0 x2 σ hM)
        · refine v_bipush (v := (12 : Int32)) K dX11_commonDivisor_14 (by decide) ?_
          refine v_iload_n K dX11_commonDivisor_16 1 rfl ?_
          refine v_irem K dX11_commonDivisor_17 hM (fun hM => ?_)
          refine v_topi hM (fun x3 hM => ?_)
          refine v_if_ne K 23 dX11_commonDivisor_18 (by decide) hM (fun hM => ?_) (fun hM => ?_)
          · refine v_iinc K dX11_commonDivisor_23 1 rfl (v := (l1 + (-1 : Int32))) rfl (by decide) hM (fun y => [(1, .int y), (0, .int l0)]) (fun _ => rfl) (fun x4 hM => ?_)
            refine v_goto (tgt := 3) K dX11_commonDivisor_26 (by decide) ?_
            exact v_sub [1, 0] rfl (ih_1 l0 x4 σ hM)
          · refine v_iload_n K dX11_commonDivisor_21 1 rfl ?_
            exact v_iret K rfl dX11_commonDivisor_22 hM
set_option maxHeartbeats 4000000 in
set_option maxRecDepth 20000 in
theorem c_X11_commonDivisor (l : Launch) {D : va_G} {A : Nat → Prop} {ad : Nat → Nat} {dA : Nat → ClassId}  (n : Nat) (p0 : Int32) (σ : St) {res : Int32 × St} (hM : F_X11_commonDivisor n p0 σ = some res) : MI l yX11_commonDivisor cX11_commonDivisor 2 (some .int) 1 D (tysX dA) (wdX ad dA) A [.int p0] σ (QI D (wdX ad dA) A res) := by
  refine mk_met (by decide +kernel) (Nat.le_of_ble_eq_true rfl) (fun p e s m below meth c K => ?_)
  have K : Cx p s m _ meth c cX11_commonDivisor 2 (some .int) RX11 D (tysX dA) (wdX ad dA) A := K
  have ih_1 := t_X11_commonDivisor l    K (res := res) n (below := below) (e := e)
  refine v_bipush (v := (12 : Int32)) K dX11_commonDivisor_0 (by decide) ?_
  refine v_istore_n K dX11_commonDivisor_2 rfl (by decide) [(1, .int (12 : Int32)), (0, .int p0)] rfl ?_
  exact v_sub [1, 0] rfl (ih_1 p0 (12 : Int32) σ hM)
noncomputable def B_X11_beside_1 (J : Nat → Int32 → Int32 → St → Option (Int64 × St)) (n : Nat)  (l2 : Int32) (k0 : Int32) (σ : St) : Option (Int64 × St) := bd (F_X11_commonDivisor n k0 σ) fun r10 s9 => if l2 = 0 then (gd (¬ r10 = 0) (bnd (k0 / r10) fun x12 => some (((x12).toInt64), s9))) else (gd (¬ r10 = 0) (bnd ((12 : Int32) / r10) fun x11 => some (((x11).toInt64), s9)))
noncomputable def S_X11_beside  (n : Nat) (J : Nat → Int32 → Int32 → St → Option (Int64 × St)) : Nat → Int32 → Int32 → St → Option (Int64 × St) := fun lb a0 a1 σ => match lb with
  | 1 => B_X11_beside_1 J n  a0 a1 σ
  | _ => none
noncomputable def L_X11_beside  (n : Nat) : Nat → Int32 → Int32 → St → Option (Int64 × St) := Nat.rec (fun _ _ _ _ => none) (fun n J => S_X11_beside  n J) n
noncomputable def F_X11_beside (n : Nat) (p1 : Int32) (p2 : Int32) (σ : St) : Option (Int64 × St) := bd (F_X11_isPair n p1 σ) fun r2 s1 => if r2 = 0 then (some ((-9223372036854775808 : Int64), s1)) else (if p2 < 0 then (some ((-9223372036854775808 : Int64), s1)) else (if p2 ≤ (1 : Int32) then (gd (¬ (10 : Int32) = 0) (bnd (p1 / (10 : Int32)) fun x3 => bd (F_X1_isFree n 37 x3 s1) fun r5 s4 => if r5 = 0 then (L_X11_beside  n 1 p2 (0 : Int32) s4) else (gd (¬ (10 : Int32) = 0) (bnd (p1 - p1 / (10 : Int32) * (10 : Int32)) fun x6 => bd (F_X3_twelfths n 37 x3 x6 s4) fun r8 s7 => L_X11_beside  n 1 p2 ((12 : Int32) - r8) s7)))) else (some ((-9223372036854775808 : Int64), s1))))
set_option maxHeartbeats 4000000 in
set_option maxRecDepth 20000 in
theorem t_X11_beside (l : Launch) {p : Program} {e : Env} {s : State} {m : MethodId} {args : Array Value} {below : List Frame} {meth : Method} {c : Code} {D : va_G} {A : Nat → Prop} {ad : Nat → Nat} {dA : Nat → ClassId}   (K : Cx p s m args meth c cX11_beside 6 (some .long) RX11 D (tysX dA) (wdX ad dA) A) {res : Int64 × St} (n : Nat) : (∀ (l2 : Int32) (k0 : Int32) (σ : St), L_X11_beside  n 1 l2 k0 σ = some res → V p l e (rmH 4) s m args below meth c 6 D (wdX ad dA) A (MQ below (QL D (wdX ad dA) A res) args s 0 0 A) 60 [(2, .int l2)] [.int k0] σ) := by
  induction n with
  | zero => exact (fun _ _ _ h => (by cases h))
  | succ n ih =>
    have ih_1 := ih
    · intro l2 k0 σ hM
      have hM : B_X11_beside_1 (L_X11_beside  n) n  l2 k0 σ = some res := hM
      refine v_istore K dX11_beside_60 (by decide) [(4, .int k0), (2, .int l2)] rfl ?_
      refine v_iload K dX11_beside_62 0 rfl ?_
      refine x_Si (As := [.int k0]) (st := []) K us_X11_commonDivisor qm_X11_197 dX11_beside_64 (fun _ h => c_X11_commonDivisor l  n k0 σ h) rfl ⟨(Nat.le_of_ble_eq_true rfl), (Nat.le_of_ble_eq_true rfl)⟩ (Nat.le_of_ble_eq_true rfl) hM (fun r10 s9 hM => ?_)
      refine v_istore K dX11_beside_67 (by decide) [(5, .int r10), (4, .int k0), (2, .int l2)] rfl ?_
      refine v_iload_n K dX11_beside_69 2 rfl ?_
      refine v_if_ne K 82 dX11_beside_70 (by decide) hM (fun hM => ?_) (fun hM => ?_)
      · refine v_bipush (v := (12 : Int32)) K dX11_beside_82 (by decide) ?_
        refine v_iload K dX11_beside_84 0 rfl ?_
        refine v_idiv K dX11_beside_86 hM (fun hM => ?_)
        refine v_topi hM (fun x11 hM => ?_)
        refine v_i2l K dX11_beside_87 ?_
        exact v_lret K rfl dX11_beside_88 hM
      · refine v_iload K dX11_beside_73 1 rfl ?_
        refine v_iload K dX11_beside_75 0 rfl ?_
        refine v_idiv K dX11_beside_77 hM (fun hM => ?_)
        refine v_topi hM (fun x12 hM => ?_)
        refine v_i2l K dX11_beside_78 ?_
        refine v_goto (tgt := 88) K dX11_beside_79 (by decide) ?_
        exact v_lret K rfl dX11_beside_88 hM
set_option maxHeartbeats 4000000 in
set_option maxRecDepth 20000 in
theorem c_X11_beside (l : Launch) {D : va_G} {A : Nat → Prop} {ad : Nat → Nat} {dA : Nat → ClassId}  (n : Nat) (p1 : Int32) (p2 : Int32) (σ : St) {res : Int64 × St} (hM : F_X11_beside n p1 p2 σ = some res) : MI l yX11_beside cX11_beside 6 (some .long) 4 D (tysX dA) (wdX ad dA) A [.ref (ad 0), .int p1, .int p2] σ (QL D (wdX ad dA) A res) := by
  refine mk_met (by decide +kernel) (Nat.le_of_ble_eq_true rfl) (fun p e s m below meth c K => ?_)
  have K : Cx p s m _ meth c cX11_beside 6 (some .long) RX11 D (tysX dA) (wdX ad dA) A := K
  have ih_1 := t_X11_beside l    K (res := res) n (below := below) (e := e)
  refine v_aload_n K dX11_beside_0 0 rfl ?_
  refine v_iload_n K dX11_beside_1 1 rfl ?_
  refine x_Vi (As := [.int p1]) (st := []) K uv_X11_isPair qm_X11_155 dX11_beside_2 rv_X11 (fun _ h => c_X11_isPair l  n p1 σ h) rfl ⟨(Nat.le_of_ble_eq_true rfl), (Nat.le_of_ble_eq_true rfl)⟩ (Nat.le_of_ble_eq_true rfl) hM (fun r2 s1 hM => ?_)
  refine v_if_eq K 17 dX11_beside_5 (by decide) hM (fun hM => ?_) (fun hM => ?_)
  · refine v_ldc2 (v := (-9223372036854775808 : Int64)) K ql_X11_195 dX11_beside_17 ?_
    exact v_lret K rfl dX11_beside_20 hM
  · refine v_iload_n K dX11_beside_8 2 rfl ?_
    refine v_if_lt K 17 dX11_beside_9 (by decide) hM (fun hM => ?_) (fun hM => ?_)
    · refine v_ldc2 (v := (-9223372036854775808 : Int64)) K ql_X11_195 dX11_beside_17 ?_
      exact v_lret K rfl dX11_beside_20 hM
    · refine v_iload_n K dX11_beside_12 2 rfl ?_
      refine v_iconst (v := (1 : Int32)) K dX11_beside_13 (by decide) ?_
      refine v_icmp_le K 21 dX11_beside_14 (by decide) hM (fun hM => ?_) (fun hM => ?_)
      · refine v_iload_n K dX11_beside_21 1 rfl ?_
        refine v_bipush (v := (10 : Int32)) K dX11_beside_22 (by decide) ?_
        refine v_idiv K dX11_beside_24 hM (fun hM => ?_)
        refine v_topi hM (fun x3 hM => ?_)
        refine v_istore_n K dX11_beside_25 rfl (by decide) [(3, .int x3), (0, .ref (ad 0)), (1, .int p1), (2, .int p2)] rfl ?_
        refine v_aload_n K dX11_beside_26 1 rfl ?_
        refine g_X11_4 K qf_X11_42 dX11_beside_27 ?_
        refine v_iload_n K dX11_beside_30 0 rfl ?_
        refine x_Vi (As := [.int x3]) (st := []) K uv_X1_isFree qm_X11_180 dX11_beside_31 (rv_X1 isB_37) (fun _ h => c_X1_isFree l 37 isB_37 n x3 s1 h) rfl ⟨(Nat.le_of_ble_eq_true rfl), (Nat.le_of_ble_eq_true rfl)⟩ (Nat.le_of_ble_eq_true rfl) hM (fun r5 s4 hM => ?_)
        refine v_if_eq K 59 dX11_beside_34 (by decide) hM (fun hM => ?_) (fun hM => ?_)
        · refine v_iconst (v := (0 : Int32)) K dX11_beside_59 (by decide) ?_
          exact v_sub [3] rfl (ih_1 p2 (0 : Int32) s4 hM)
        · refine v_bipush (v := (12 : Int32)) K dX11_beside_37 (by decide) ?_
          refine v_aload_n K dX11_beside_39 1 rfl ?_
          refine g_X11_3 K qf_X11_35 dX11_beside_40 ?_
          refine v_aload_n K dX11_beside_43 1 rfl ?_
          refine g_X11_4 K qf_X11_42 dX11_beside_44 ?_
          refine v_iload_n K dX11_beside_47 0 rfl ?_
          refine v_iload_n K dX11_beside_48 2 rfl ?_
          refine v_bipush (v := (10 : Int32)) K dX11_beside_49 (by decide) ?_
          refine v_irem K dX11_beside_51 hM (fun hM => ?_)
          refine v_topi hM (fun x6 hM => ?_)
          refine x_Vi (As := [.ref (ad 37), .int x3, .int x6]) (st := [.int (12 : Int32)]) K uv_X3_twelfths qm_X11_158 dX11_beside_52 rv_X3 (fun _ h => c_X3_twelfths l 37 isB_37 n x3 x6 s4 h) rfl ⟨(Nat.le_of_ble_eq_true rfl), (Nat.le_of_ble_eq_true rfl)⟩ (Nat.le_of_ble_eq_true rfl) hM (fun r8 s7 hM => ?_)
          refine v_isub K dX11_beside_55 ?_
          refine v_goto (tgt := 60) K dX11_beside_56 (by decide) ?_
          exact v_sub [3] rfl (ih_1 p2 ((12 : Int32) - r8) s7 hM)
      · refine v_ldc2 (v := (-9223372036854775808 : Int64)) K ql_X11_195 dX11_beside_17 ?_
        exact v_lret K rfl dX11_beside_20 hM
noncomputable def F_X11_tillBound (n : Nat) (p1 : Int32) (σ : St) : Option (Int32 × St) := bd (F_X11_isPair n p1 σ) fun r2 s1 => if r2 = 0 then (some ((-1 : Int32), s1)) else (bd (F_X6_size n  s1) fun r4 s3 => if r4 ≤ (4 : Int32) then (gd (¬ (10 : Int32) = 0) (bnd (p1 / (10 : Int32)) fun x5 => gd (¬ (10 : Int32) = 0) (bnd (p1 - p1 / (10 : Int32) * (10 : Int32)) fun x6 => bd (F_X9_fewestTillBound n 37 x5 x6 s3) fun r8 s7 => some (r8, s7)))) else (some ((-5 : Int32), s3)))
set_option maxHeartbeats 4000000 in
set_option maxRecDepth 20000 in
theorem c_X11_tillBound (l : Launch) {D : va_G} {A : Nat → Prop} {ad : Nat → Nat} {dA : Nat → ClassId}  (n : Nat) (p1 : Int32) (σ : St) {res : Int32 × St} (hM : F_X11_tillBound n p1 σ = some res) : MI l yX11_tillBound cX11_tillBound 2 (some .int) 8 D (tysX dA) (wdX ad dA) A [.ref (ad 0), .int p1] σ (QI D (wdX ad dA) A res) := by
  refine mk_met (by decide +kernel) (Nat.le_of_ble_eq_true rfl) (fun p e s m below meth c K => ?_)
  have K : Cx p s m _ meth c cX11_tillBound 2 (some .int) RX11 D (tysX dA) (wdX ad dA) A := K
  refine v_aload_n K dX11_tillBound_0 0 rfl ?_
  refine v_iload_n K dX11_tillBound_1 1 rfl ?_
  refine x_Vi (As := [.int p1]) (st := []) K uv_X11_isPair qm_X11_155 dX11_tillBound_2 rv_X11 (fun _ h => c_X11_isPair l  n p1 σ h) rfl ⟨(Nat.le_of_ble_eq_true rfl), (Nat.le_of_ble_eq_true rfl)⟩ (Nat.le_of_ble_eq_true rfl) hM (fun r2 s1 hM => ?_)
  refine v_if_ne K 10 dX11_tillBound_5 (by decide) hM (fun hM => ?_) (fun hM => ?_)
  · refine v_aload_n K dX11_tillBound_10 0 rfl ?_
    refine g_X11_0 K qf_X11_10 dX11_tillBound_11 ?_
    refine x_Vi (As := []) (st := []) K uv_X6_size qm_X11_183 dX11_tillBound_14 rv_X6 (fun _ h => c_X6_size l  n  s1 h) rfl ⟨(Nat.le_of_ble_eq_true rfl), (Nat.le_of_ble_eq_true rfl)⟩ (Nat.le_of_ble_eq_true rfl) hM (fun r4 s3 hM => ?_)
    refine v_iconst (v := (4 : Int32)) K dX11_tillBound_17 (by decide) ?_
    refine v_icmp_le K 24 dX11_tillBound_18 (by decide) hM (fun hM => ?_) (fun hM => ?_)
    · refine v_aload_n K dX11_tillBound_24 0 rfl ?_
      refine g_X11_10 K qf_X11_72 dX11_tillBound_25 ?_
      refine v_aload_n K dX11_tillBound_28 0 rfl ?_
      refine g_X11_4 K qf_X11_42 dX11_tillBound_29 ?_
      refine v_iload_n K dX11_tillBound_32 1 rfl ?_
      refine v_bipush (v := (10 : Int32)) K dX11_tillBound_33 (by decide) ?_
      refine v_idiv K dX11_tillBound_35 hM (fun hM => ?_)
      refine v_topi hM (fun x5 hM => ?_)
      refine v_iload_n K dX11_tillBound_36 1 rfl ?_
      refine v_bipush (v := (10 : Int32)) K dX11_tillBound_37 (by decide) ?_
      refine v_irem K dX11_tillBound_39 hM (fun hM => ?_)
      refine v_topi hM (fun x6 hM => ?_)
      refine x_Vi (As := [.ref (ad 37), .int x5, .int x6]) (st := []) K uv_X9_fewestTillBound qm_X11_200 dX11_tillBound_40 rv_X9 (fun _ h => c_X9_fewestTillBound l 37 isB_37 n x5 x6 s3 h) rfl ⟨(Nat.le_of_ble_eq_true rfl), (Nat.le_of_ble_eq_true rfl)⟩ (Nat.le_of_ble_eq_true rfl) hM (fun r8 s7 hM => ?_)
      exact v_iret K rfl dX11_tillBound_43 hM
    · refine v_bipush (v := (-5 : Int32)) K dX11_tillBound_21 (by decide) ?_
      exact v_iret K rfl dX11_tillBound_23 hM
  · refine v_iconst (v := (-1 : Int32)) K dX11_tillBound_8 (by decide) ?_
    exact v_iret K rfl dX11_tillBound_9 hM
noncomputable def F_X11_round (n : Nat)  (σ : St) : Option (Int32 × St) := bd (F_X6_size n  σ) fun r2 s1 => if r2 ≤ (4 : Int32) then (bd (F_X9_fewestRound n 37 s1) fun r4 s3 => some (r4, s3)) else (some ((-5 : Int32), s1))
set_option maxHeartbeats 4000000 in
set_option maxRecDepth 20000 in
theorem c_X11_round (l : Launch) {D : va_G} {A : Nat → Prop} {ad : Nat → Nat} {dA : Nat → ClassId}  (n : Nat)  (σ : St) {res : Int32 × St} (hM : F_X11_round n  σ = some res) : MI l yX11_round cX11_round 1 (some .int) 8 D (tysX dA) (wdX ad dA) A [.ref (ad 0)] σ (QI D (wdX ad dA) A res) := by
  refine mk_met (by decide +kernel) (Nat.le_of_ble_eq_true rfl) (fun p e s m below meth c K => ?_)
  have K : Cx p s m _ meth c cX11_round 1 (some .int) RX11 D (tysX dA) (wdX ad dA) A := K
  refine v_aload_n K dX11_round_0 0 rfl ?_
  refine g_X11_0 K qf_X11_10 dX11_round_1 ?_
  refine x_Vi (As := []) (st := []) K uv_X6_size qm_X11_183 dX11_round_4 rv_X6 (fun _ h => c_X6_size l  n  σ h) rfl ⟨(Nat.le_of_ble_eq_true rfl), (Nat.le_of_ble_eq_true rfl)⟩ (Nat.le_of_ble_eq_true rfl) hM (fun r2 s1 hM => ?_)
  refine v_iconst (v := (4 : Int32)) K dX11_round_7 (by decide) ?_
  refine v_icmp_le K 16 dX11_round_8 (by decide) hM (fun hM => ?_) (fun hM => ?_)
  · refine v_aload_n K dX11_round_16 0 rfl ?_
    refine g_X11_10 K qf_X11_72 dX11_round_17 ?_
    refine v_aload_n K dX11_round_20 0 rfl ?_
    refine g_X11_4 K qf_X11_42 dX11_round_21 ?_
    refine x_Vi (As := [.ref (ad 37)]) (st := []) K uv_X9_fewestRound qm_X11_203 dX11_round_24 rv_X9 (fun _ h => c_X9_fewestRound l 37 isB_37 n  s1 h) rfl ⟨(Nat.le_of_ble_eq_true rfl), (Nat.le_of_ble_eq_true rfl)⟩ (Nat.le_of_ble_eq_true rfl) hM (fun r4 s3 hM => ?_)
    exact v_iret K rfl dX11_round_27 hM
  · refine v_bipush (v := (-5 : Int32)) K dX11_round_11 (by decide) ?_
    refine v_goto (tgt := 27) K dX11_round_13 (by decide) ?_
    exact v_iret K rfl dX11_round_27 hM
noncomputable def F_X11_sure (n : Nat) (p1 : Int32) (σ : St) : Option (Int32 × St) := bd (F_X11_isPair n p1 σ) fun r2 s1 => if r2 = 0 then (some ((-1 : Int32), s1)) else (gd (¬ (10 : Int32) = 0) (bnd (p1 / (10 : Int32)) fun x3 => bd (F_X6_size n  s1) fun r5 s4 => if (4 : Int32) < r5 then (some ((-5 : Int32), s4)) else (bd (F_X1_isFree n 37 x3 s4) fun r7 s6 => if r7 = 0 then (some ((-5 : Int32), s6)) else (gd (¬ (10 : Int32) = 0) (bnd (p1 - p1 / (10 : Int32) * (10 : Int32)) fun x8 => bd (F_X9_fewestSure n 37 x3 x8 s6) fun r10 s9 => some (r10, s9))))))
set_option maxHeartbeats 4000000 in
set_option maxRecDepth 20000 in
theorem c_X11_sure (l : Launch) {D : va_G} {A : Nat → Prop} {ad : Nat → Nat} {dA : Nat → ClassId}  (n : Nat) (p1 : Int32) (σ : St) {res : Int32 × St} (hM : F_X11_sure n p1 σ = some res) : MI l yX11_sure cX11_sure 3 (some .int) 106 D (tysX dA) (wdX ad dA) A [.ref (ad 0), .int p1] σ (QI D (wdX ad dA) A res) := by
  refine mk_met (by decide +kernel) (Nat.le_of_ble_eq_true rfl) (fun p e s m below meth c K => ?_)
  have K : Cx p s m _ meth c cX11_sure 3 (some .int) RX11 D (tysX dA) (wdX ad dA) A := K
  refine v_aload_n K dX11_sure_0 0 rfl ?_
  refine v_iload_n K dX11_sure_1 1 rfl ?_
  refine x_Vi (As := [.int p1]) (st := []) K uv_X11_isPair qm_X11_155 dX11_sure_2 rv_X11 (fun _ h => c_X11_isPair l  n p1 σ h) rfl ⟨(Nat.le_of_ble_eq_true rfl), (Nat.le_of_ble_eq_true rfl)⟩ (Nat.le_of_ble_eq_true rfl) hM (fun r2 s1 hM => ?_)
  refine v_if_ne K 10 dX11_sure_5 (by decide) hM (fun hM => ?_) (fun hM => ?_)
  · refine v_iload_n K dX11_sure_10 1 rfl ?_
    refine v_bipush (v := (10 : Int32)) K dX11_sure_11 (by decide) ?_
    refine v_idiv K dX11_sure_13 hM (fun hM => ?_)
    refine v_topi hM (fun x3 hM => ?_)
    refine v_istore_n K dX11_sure_14 rfl (by decide) [(2, .int x3), (0, .ref (ad 0)), (1, .int p1)] rfl ?_
    refine v_aload_n K dX11_sure_15 1 rfl ?_
    refine g_X11_0 K qf_X11_10 dX11_sure_16 ?_
    refine x_Vi (As := []) (st := []) K uv_X6_size qm_X11_183 dX11_sure_19 rv_X6 (fun _ h => c_X6_size l  n  s1 h) rfl ⟨(Nat.le_of_ble_eq_true rfl), (Nat.le_of_ble_eq_true rfl)⟩ (Nat.le_of_ble_eq_true rfl) hM (fun r5 s4 hM => ?_)
    refine v_iconst (v := (4 : Int32)) K dX11_sure_22 (by decide) ?_
    refine v_icmp_gt K 37 dX11_sure_23 (by decide) hM (fun hM => ?_) (fun hM => ?_)
    · refine v_bipush (v := (-5 : Int32)) K dX11_sure_37 (by decide) ?_
      exact v_iret K rfl dX11_sure_39 hM
    · refine v_aload_n K dX11_sure_26 1 rfl ?_
      refine g_X11_4 K qf_X11_42 dX11_sure_27 ?_
      refine v_iload_n K dX11_sure_30 0 rfl ?_
      refine x_Vi (As := [.int x3]) (st := []) K uv_X1_isFree qm_X11_180 dX11_sure_31 (rv_X1 isB_37) (fun _ h => c_X1_isFree l 37 isB_37 n x3 s4 h) rfl ⟨(Nat.le_of_ble_eq_true rfl), (Nat.le_of_ble_eq_true rfl)⟩ (Nat.le_of_ble_eq_true rfl) hM (fun r7 s6 hM => ?_)
      refine v_if_ne K 40 dX11_sure_34 (by decide) hM (fun hM => ?_) (fun hM => ?_)
      · refine v_aload_n K dX11_sure_40 1 rfl ?_
        refine g_X11_10 K qf_X11_72 dX11_sure_41 ?_
        refine v_aload_n K dX11_sure_44 1 rfl ?_
        refine g_X11_4 K qf_X11_42 dX11_sure_45 ?_
        refine v_iload_n K dX11_sure_48 0 rfl ?_
        refine v_iload_n K dX11_sure_49 2 rfl ?_
        refine v_bipush (v := (10 : Int32)) K dX11_sure_50 (by decide) ?_
        refine v_irem K dX11_sure_52 hM (fun hM => ?_)
        refine v_topi hM (fun x8 hM => ?_)
        refine x_Vi (As := [.ref (ad 37), .int x3, .int x8]) (st := []) K uv_X9_fewestSure qm_X11_207 dX11_sure_53 rv_X9 (fun _ h => c_X9_fewestSure l 37 isB_37 n x3 x8 s6 h) rfl ⟨(Nat.le_of_ble_eq_true rfl), (Nat.le_of_ble_eq_true rfl)⟩ (Nat.le_of_ble_eq_true rfl) hM (fun r10 s9 hM => ?_)
        exact v_iret K rfl dX11_sure_56 hM
      · refine v_bipush (v := (-5 : Int32)) K dX11_sure_37 (by decide) ?_
        exact v_iret K rfl dX11_sure_39 hM
  · refine v_iconst (v := (-1 : Int32)) K dX11_sure_8 (by decide) ?_
    exact v_iret K rfl dX11_sure_9 hM
noncomputable def F_X11_charges (n : Nat) (p1 : Int32) (p2 : Int32) (σ : St) : Option (Int32 × St) := bd (F_X11_isShelf n p1 σ) fun r2 s1 => if r2 = 0 then (some ((-1 : Int32), s1)) else (if p2 < 0 then (some ((-1 : Int32), s1)) else (if p2 ≤ (2 : Int32) then (gd (vp_in p1 6) (bd (F_X10_refusalOfBytes n (63 + 2 * p1.toNatClampNeg) s1) fun r5 s4 => if 0 ≤ r5 then (gd (vp_in p1 6) (bd (F_X4_read n (63 + 2 * p1.toNatClampNeg) s4) fun _ s7 => if p2 = 0 then (bd (F_X4_neverCharged n  s7) fun r13 s12 => some (r13, s12)) else (if p2 = (1 : Int32) then (bd (F_X4_threes n  s7) fun r11 s10 => some (r11, s10)) else (bd (F_X4_size n  s7) fun r9 s8 => some (r9, s8))))) else (some (r5, s4)))) else (some ((-1 : Int32), s1))))
set_option maxHeartbeats 4000000 in
set_option maxRecDepth 20000 in
theorem c_X11_charges (l : Launch) {D : va_G} {A : Nat → Prop} {ad : Nat → Nat} {dA : Nat → ClassId}  (n : Nat) (p1 : Int32) (p2 : Int32) (σ : St) {res : Int32 × St} (hM : F_X11_charges n p1 p2 σ = some res) : MI l yX11_charges cX11_charges 4 (some .int) 4 D (tysX dA) (wdX ad dA) A [.ref (ad 0), .int p1, .int p2] σ (QI D (wdX ad dA) A res) := by
  refine mk_met (by decide +kernel) (Nat.le_of_ble_eq_true rfl) (fun p e s m below meth c K => ?_)
  have K : Cx p s m _ meth c cX11_charges 4 (some .int) RX11 D (tysX dA) (wdX ad dA) A := K
  refine v_iload_n K dX11_charges_0 1 rfl ?_
  refine x_Si (As := [.int p1]) (st := []) K us_X11_isShelf qm_X11_116 dX11_charges_1 (fun _ h => c_X11_isShelf l  n p1 σ h) rfl ⟨(Nat.le_of_ble_eq_true rfl), (Nat.le_of_ble_eq_true rfl)⟩ (Nat.le_of_ble_eq_true rfl) hM (fun r2 s1 hM => ?_)
  refine v_if_eq K 16 dX11_charges_4 (by decide) hM (fun hM => ?_) (fun hM => ?_)
  · refine v_iconst (v := (-1 : Int32)) K dX11_charges_16 (by decide) ?_
    exact v_iret K rfl dX11_charges_17 hM
  · refine v_iload_n K dX11_charges_7 2 rfl ?_
    refine v_if_lt K 16 dX11_charges_8 (by decide) hM (fun hM => ?_) (fun hM => ?_)
    · refine v_iconst (v := (-1 : Int32)) K dX11_charges_16 (by decide) ?_
      exact v_iret K rfl dX11_charges_17 hM
    · refine v_iload_n K dX11_charges_11 2 rfl ?_
      refine v_iconst (v := (2 : Int32)) K dX11_charges_12 (by decide) ?_
      refine v_icmp_le K 18 dX11_charges_13 (by decide) hM (fun hM => ?_) (fun hM => ?_)
      · refine v_aload_n K dX11_charges_18 0 rfl ?_
        refine g_X11_14 K qf_X11_99 dX11_charges_19 ?_
        refine v_iload_n K dX11_charges_22 1 rfl ?_
        refine ld_X3 K dX11_charges_23 hM (fun hi3 hM => ?_)
        refine x_Vi (As := []) (st := []) K uv_X10_refusalOfBytes qm_X11_210 dX11_charges_24 (rv_X10 (isS_in hi3)) (fun _ h => c_X10_refusalOfBytes l (63 + 2 * p1.toNatClampNeg) (isS_in hi3) n  s1 h) rfl ⟨(Nat.le_of_ble_eq_true rfl), (Nat.le_of_ble_eq_true rfl)⟩ (Nat.le_of_ble_eq_true rfl) hM (fun r5 s4 hM => ?_)
        refine v_istore_n K dX11_charges_27 rfl (by decide) [(3, .int r5), (0, .ref (ad 0)), (1, .int p1), (2, .int p2)] rfl ?_
        refine v_iload_n K dX11_charges_28 0 rfl ?_
        refine v_if_ge K 34 dX11_charges_29 (by decide) hM (fun hM => ?_) (fun hM => ?_)
        · refine v_aload_n K dX11_charges_34 1 rfl ?_
          refine g_X11_11 K qf_X11_79 dX11_charges_35 ?_
          refine v_aload_n K dX11_charges_38 1 rfl ?_
          refine g_X11_14 K qf_X11_99 dX11_charges_39 ?_
          refine v_iload_n K dX11_charges_42 2 rfl ?_
          refine ld_X3 K dX11_charges_43 hM (fun hi6 hM => ?_)
          refine v_aload_n K dX11_charges_44 1 rfl ?_
          refine g_X11_0 K qf_X11_10 dX11_charges_45 ?_
          refine x_Vv (As := [.ref (ad (63 + 2 * p1.toNatClampNeg)), .ref (ad 4)]) (st := []) K uv_X4_read qm_X11_213 dX11_charges_48 rv_X4 (fun _ h => c_X4_read l (63 + 2 * p1.toNatClampNeg) (isS_in hi6) n  s4 h) rfl ⟨(Nat.le_of_ble_eq_true rfl), (Nat.le_of_ble_eq_true rfl)⟩ (Nat.le_of_ble_eq_true rfl) hM (fun s7 hM => ?_)
          refine v_iload_n K dX11_charges_51 3 rfl ?_
          refine v_if_ne K 67 dX11_charges_52 (by decide) hM (fun hM => ?_) (fun hM => ?_)
          · refine v_iload_n K dX11_charges_67 3 rfl ?_
            refine v_iconst (v := (1 : Int32)) K dX11_charges_68 (by decide) ?_
            refine v_icmp_ne K 82 dX11_charges_69 (by decide) hM (fun hM => ?_) (fun hM => ?_)
            · refine v_aload_n K dX11_charges_82 1 rfl ?_
              refine g_X11_11 K qf_X11_79 dX11_charges_83 ?_
              refine x_Vi (As := []) (st := []) K uv_X4_size qm_X11_224 dX11_charges_86 rv_X4 (fun _ h => c_X4_size l  n  s7 h) rfl ⟨(Nat.le_of_ble_eq_true rfl), (Nat.le_of_ble_eq_true rfl)⟩ (Nat.le_of_ble_eq_true rfl) hM (fun r9 s8 hM => ?_)
              exact v_iret K rfl dX11_charges_89 hM
            · refine v_aload_n K dX11_charges_72 1 rfl ?_
              refine g_X11_11 K qf_X11_79 dX11_charges_73 ?_
              refine x_Vi (As := []) (st := []) K uv_X4_threes qm_X11_221 dX11_charges_76 rv_X4 (fun _ h => c_X4_threes l  n  s7 h) rfl ⟨(Nat.le_of_ble_eq_true rfl), (Nat.le_of_ble_eq_true rfl)⟩ (Nat.le_of_ble_eq_true rfl) hM (fun r11 s10 hM => ?_)
              refine v_goto (tgt := 89) K dX11_charges_79 (by decide) ?_
              exact v_iret K rfl dX11_charges_89 hM
          · refine v_aload_n K dX11_charges_55 1 rfl ?_
            refine g_X11_11 K qf_X11_79 dX11_charges_56 ?_
            refine v_aload_n K dX11_charges_59 1 rfl ?_
            refine g_X11_0 K qf_X11_10 dX11_charges_60 ?_
            refine x_Vi (As := [.ref (ad 4)]) (st := []) K uv_X4_neverCharged qm_X11_217 dX11_charges_63 rv_X4 (fun _ h => c_X4_neverCharged l  n  s7 h) rfl ⟨(Nat.le_of_ble_eq_true rfl), (Nat.le_of_ble_eq_true rfl)⟩ (Nat.le_of_ble_eq_true rfl) hM (fun r13 s12 hM => ?_)
            exact v_iret K rfl dX11_charges_66 hM
        · refine v_iload_n K dX11_charges_32 0 rfl ?_
          exact v_iret K rfl dX11_charges_33 hM
      · refine v_iconst (v := (-1 : Int32)) K dX11_charges_16 (by decide) ?_
        exact v_iret K rfl dX11_charges_17 hM
noncomputable def F_X11_days (n : Nat) (p1 : Int32) (p2 : Int32) (σ : St) : Option (Int32 × St) := bd (F_X11_isShelf n p1 σ) fun r2 s1 => if r2 = 0 then (some ((-1 : Int32), s1)) else (if (-1 : Int32) ≤ p2 then (gd (vp_in p1 6) (bd (F_X10_refusalOfBytes n (63 + 2 * p1.toNatClampNeg) s1) fun r5 s4 => if 0 ≤ r5 then (gd (vp_in p1 6) (bd (F_X4_read n (63 + 2 * p1.toNatClampNeg) s4) fun _ s7 => bd (F_X4_size n  s7) fun r9 s8 => if r9 ≤ (6 : Int32) then (bd (F_X4_size n  s8) fun r11 s10 => if p2 < r11 then (bd (F_X4_dealDays n  s10) fun r13 s12 => if p2 = (-1 : Int32) then (some (r13, s12)) else (bd (F_X4_dayOf n p2 s12) fun r15 s14 => some (r15, s14))) else (some ((-2 : Int32), s10))) else (some ((-5 : Int32), s8)))) else (some (r5, s4)))) else (some ((-1 : Int32), s1)))
set_option maxHeartbeats 4000000 in
set_option maxRecDepth 20000 in
theorem c_X11_days (l : Launch) {D : va_G} {A : Nat → Prop} {ad : Nat → Nat} {dA : Nat → ClassId}  (n : Nat) (p1 : Int32) (p2 : Int32) (σ : St) {res : Int32 × St} (hM : F_X11_days n p1 p2 σ = some res) : MI l yX11_days cX11_days 5 (some .int) 104 D (tysX dA) (wdX ad dA) A [.ref (ad 0), .int p1, .int p2] σ (QI D (wdX ad dA) A res) := by
  refine mk_met (by decide +kernel) (Nat.le_of_ble_eq_true rfl) (fun p e s m below meth c K => ?_)
  have K : Cx p s m _ meth c cX11_days 5 (some .int) RX11 D (tysX dA) (wdX ad dA) A := K
  refine v_iload_n K dX11_days_0 1 rfl ?_
  refine x_Si (As := [.int p1]) (st := []) K us_X11_isShelf qm_X11_116 dX11_days_1 (fun _ h => c_X11_isShelf l  n p1 σ h) rfl ⟨(Nat.le_of_ble_eq_true rfl), (Nat.le_of_ble_eq_true rfl)⟩ (Nat.le_of_ble_eq_true rfl) hM (fun r2 s1 hM => ?_)
  refine v_if_eq K 12 dX11_days_4 (by decide) hM (fun hM => ?_) (fun hM => ?_)
  · refine v_iconst (v := (-1 : Int32)) K dX11_days_12 (by decide) ?_
    exact v_iret K rfl dX11_days_13 hM
  · refine v_iload_n K dX11_days_7 2 rfl ?_
    refine v_iconst (v := (-1 : Int32)) K dX11_days_8 (by decide) ?_
    refine v_icmp_ge K 14 dX11_days_9 (by decide) hM (fun hM => ?_) (fun hM => ?_)
    · refine v_aload_n K dX11_days_14 0 rfl ?_
      refine g_X11_14 K qf_X11_99 dX11_days_15 ?_
      refine v_iload_n K dX11_days_18 1 rfl ?_
      refine ld_X3 K dX11_days_19 hM (fun hi3 hM => ?_)
      refine x_Vi (As := []) (st := []) K uv_X10_refusalOfBytes qm_X11_210 dX11_days_20 (rv_X10 (isS_in hi3)) (fun _ h => c_X10_refusalOfBytes l (63 + 2 * p1.toNatClampNeg) (isS_in hi3) n  s1 h) rfl ⟨(Nat.le_of_ble_eq_true rfl), (Nat.le_of_ble_eq_true rfl)⟩ (Nat.le_of_ble_eq_true rfl) hM (fun r5 s4 hM => ?_)
      refine v_istore_n K dX11_days_23 rfl (by decide) [(3, .int r5), (0, .ref (ad 0)), (1, .int p1), (2, .int p2)] rfl ?_
      refine v_iload_n K dX11_days_24 0 rfl ?_
      refine v_if_ge K 30 dX11_days_25 (by decide) hM (fun hM => ?_) (fun hM => ?_)
      · refine v_aload_n K dX11_days_30 1 rfl ?_
        refine g_X11_11 K qf_X11_79 dX11_days_31 ?_
        refine v_aload_n K dX11_days_34 1 rfl ?_
        refine g_X11_14 K qf_X11_99 dX11_days_35 ?_
        refine v_iload_n K dX11_days_38 2 rfl ?_
        refine ld_X3 K dX11_days_39 hM (fun hi6 hM => ?_)
        refine v_aload_n K dX11_days_40 1 rfl ?_
        refine g_X11_0 K qf_X11_10 dX11_days_41 ?_
        refine x_Vv (As := [.ref (ad (63 + 2 * p1.toNatClampNeg)), .ref (ad 4)]) (st := []) K uv_X4_read qm_X11_213 dX11_days_44 rv_X4 (fun _ h => c_X4_read l (63 + 2 * p1.toNatClampNeg) (isS_in hi6) n  s4 h) rfl ⟨(Nat.le_of_ble_eq_true rfl), (Nat.le_of_ble_eq_true rfl)⟩ (Nat.le_of_ble_eq_true rfl) hM (fun s7 hM => ?_)
        refine v_aload_n K dX11_days_47 1 rfl ?_
        refine g_X11_11 K qf_X11_79 dX11_days_48 ?_
        refine x_Vi (As := []) (st := []) K uv_X4_size qm_X11_224 dX11_days_51 rv_X4 (fun _ h => c_X4_size l  n  s7 h) rfl ⟨(Nat.le_of_ble_eq_true rfl), (Nat.le_of_ble_eq_true rfl)⟩ (Nat.le_of_ble_eq_true rfl) hM (fun r9 s8 hM => ?_)
        refine v_bipush (v := (6 : Int32)) K dX11_days_54 (by decide) ?_
        refine v_icmp_le K 62 dX11_days_56 (by decide) hM (fun hM => ?_) (fun hM => ?_)
        · refine v_iload_n K dX11_days_62 3 rfl ?_
          refine v_aload_n K dX11_days_63 1 rfl ?_
          refine g_X11_11 K qf_X11_79 dX11_days_64 ?_
          refine x_Vi (As := []) (st := [.int p2]) K uv_X4_size qm_X11_224 dX11_days_67 rv_X4 (fun _ h => c_X4_size l  n  s8 h) rfl ⟨(Nat.le_of_ble_eq_true rfl), (Nat.le_of_ble_eq_true rfl)⟩ (Nat.le_of_ble_eq_true rfl) hM (fun r11 s10 hM => ?_)
          refine v_icmp_lt K 76 dX11_days_70 (by decide) hM (fun hM => ?_) (fun hM => ?_)
          · refine v_aload_n K dX11_days_76 1 rfl ?_
            refine g_X11_11 K qf_X11_79 dX11_days_77 ?_
            refine x_Vi (As := []) (st := []) K uv_X4_dealDays qm_X11_225 dX11_days_80 rv_X4 (fun _ h => c_X4_dealDays l  n  s10 h) rfl ⟨(Nat.le_of_ble_eq_true rfl), (Nat.le_of_ble_eq_true rfl)⟩ (Nat.le_of_ble_eq_true rfl) hM (fun r13 s12 hM => ?_)
            refine v_istore K dX11_days_83 (by decide) [(4, .int r13), (3, .int r5), (0, .ref (ad 0)), (1, .int p1), (2, .int p2)] rfl ?_
            refine v_iload_n K dX11_days_85 4 rfl ?_
            refine v_iconst (v := (-1 : Int32)) K dX11_days_86 (by decide) ?_
            refine v_icmp_ne K 95 dX11_days_87 (by decide) hM (fun hM => ?_) (fun hM => ?_)
            · refine v_aload_n K dX11_days_95 2 rfl ?_
              refine g_X11_11 K qf_X11_79 dX11_days_96 ?_
              refine v_iload_n K dX11_days_99 4 rfl ?_
              refine x_Vi (As := [.int p2]) (st := []) K uv_X4_dayOf qm_X11_228 dX11_days_100 rv_X4 (fun _ h => c_X4_dayOf l  n p2 s12 h) rfl ⟨(Nat.le_of_ble_eq_true rfl), (Nat.le_of_ble_eq_true rfl)⟩ (Nat.le_of_ble_eq_true rfl) hM (fun r15 s14 hM => ?_)
              exact v_iret K rfl dX11_days_103 hM
            · refine v_iload K dX11_days_90 0 rfl ?_
              refine v_goto (tgt := 103) K dX11_days_92 (by decide) ?_
              exact v_iret K rfl dX11_days_103 hM
          · refine v_bipush (v := (-2 : Int32)) K dX11_days_73 (by decide) ?_
            exact v_iret K rfl dX11_days_75 hM
        · refine v_bipush (v := (-5 : Int32)) K dX11_days_59 (by decide) ?_
          exact v_iret K rfl dX11_days_61 hM
      · refine v_iload_n K dX11_days_28 0 rfl ?_
        exact v_iret K rfl dX11_days_29 hM
    · refine v_iconst (v := (-1 : Int32)) K dX11_days_12 (by decide) ?_
      exact v_iret K rfl dX11_days_13 hM
noncomputable def B_X11_quiet_1 (J : Nat → Int32 → Int32 → Int32 → Int32 → St → Option (Int32 × St)) (n : Nat)  (l1 : Int32) (l2 : Int32) (k0 : Int32) (σ : St) : Option (Int32 × St) := if k0 = 0 then (bd (F_X3_hardest n 37 l1 σ) fun r6 s5 => bd (F_X3_twelfths n 37 l1 r6 s5) fun r8 s7 => J 2 l1 l2 k0 r8 s7) else (J 2 l1 l2 k0 (12 : Int32) σ)
noncomputable def B_X11_quiet_2 (J : Nat → Int32 → Int32 → Int32 → Int32 → St → Option (Int32 × St)) (n : Nat)  (l1 : Int32) (l2 : Int32) (l3 : Int32) (k0 : Int32) (σ : St) : Option (Int32 × St) := if l2 = 0 then (some (k0, σ)) else (if l3 = 0 then (bd (F_X3_easiest n 37 l1 σ) fun r10 s9 => bd (F_X3_twelfths n 37 l1 r10 s9) fun r12 s11 => J 3 l1 k0 r12 0 s11) else (J 3 l1 k0 (12 : Int32) 0 σ))
noncomputable def B_X11_quiet_3 (J : Nat → Int32 → Int32 → Int32 → Int32 → St → Option (Int32 × St)) (n : Nat)  (l1 : Int32) (l4 : Int32) (k0 : Int32) (σ : St) : Option (Int32 × St) := bd (F_X1_isFree n 37 l1 σ) fun r14 s13 => if r14 = 0 then (some ((1 : Int32), s13)) else (if (12 : Int32) ≤ (l4 + k0) then (some ((0 : Int32), s13)) else (some ((1 : Int32), s13)))
noncomputable def S_X11_quiet  (n : Nat) (J : Nat → Int32 → Int32 → Int32 → Int32 → St → Option (Int32 × St)) : Nat → Int32 → Int32 → Int32 → Int32 → St → Option (Int32 × St) := fun lb a0 a1 a2 a3 σ => match lb with
  | 1 => B_X11_quiet_1 J n  a0 a1 a2 σ
  | 2 => B_X11_quiet_2 J n  a0 a1 a2 a3 σ
  | 3 => B_X11_quiet_3 J n  a0 a1 a2 σ
  | _ => none
noncomputable def L_X11_quiet  (n : Nat) : Nat → Int32 → Int32 → Int32 → Int32 → St → Option (Int32 × St) := Nat.rec (fun _ _ _ _ _ _ => none) (fun n J => S_X11_quiet  n J) n
noncomputable def F_X11_quiet (n : Nat) (p1 : Int32) (p2 : Int32) (σ : St) : Option (Int32 × St) := bd (F_X6_has n p1 σ) fun r2 s1 => if r2 = 0 then (some ((-1 : Int32), s1)) else (if p2 < 0 then (some ((-1 : Int32), s1)) else (if p2 ≤ (1 : Int32) then (bd (F_X6_size n  s1) fun r4 s3 => if (2 : Int32) ≤ r4 then (L_X11_quiet  n 1 p1 p2 (0 : Int32) 0 s3) else (L_X11_quiet  n 1 p1 p2 (1 : Int32) 0 s3)) else (some ((-1 : Int32), s1))))
set_option maxHeartbeats 4000000 in
set_option maxRecDepth 20000 in
theorem t_X11_quiet (l : Launch) {p : Program} {e : Env} {s : State} {m : MethodId} {args : Array Value} {below : List Frame} {meth : Method} {c : Code} {D : va_G} {A : Nat → Prop} {ad : Nat → Nat} {dA : Nat → ClassId}   (K : Cx p s m args meth c cX11_quiet 6 (some .int) RX11 D (tysX dA) (wdX ad dA) A) {res : Int32 × St} (n : Nat) : (∀ (l1 : Int32) (l2 : Int32) (k0 : Int32) (σ : St), L_X11_quiet  n 1 l1 l2 k0 0 σ = some res → V p l e (rmH 6) s m args below meth c 6 D (wdX ad dA) A (MQ below (QI D (wdX ad dA) A res) args s 0 0 A) 38 [(0, .ref (ad 0)), (1, .int l1), (2, .int l2)] [.int k0] σ) ∧ (∀ (l1 : Int32) (l2 : Int32) (l3 : Int32) (k0 : Int32) (σ : St), L_X11_quiet  n 2 l1 l2 l3 k0 σ = some res → V p l e (rmH 6) s m args below meth c 6 D (wdX ad dA) A (MQ below (QI D (wdX ad dA) A res) args s 0 0 A) 72 [(0, .ref (ad 0)), (1, .int l1), (2, .int l2), (3, .int l3)] [.int k0] σ) ∧ (∀ (l1 : Int32) (l4 : Int32) (k0 : Int32) (σ : St), L_X11_quiet  n 3 l1 l4 k0 0 σ = some res → V p l e (rmH 6) s m args below meth c 6 D (wdX ad dA) A (MQ below (QI D (wdX ad dA) A res) args s 0 0 A) 114 [(0, .ref (ad 0)), (1, .int l1), (4, .int l4)] [.int k0] σ) := by
  induction n with
  | zero => exact ⟨fun _ _ _ _ h => (by cases h), fun _ _ _ _ _ h => (by cases h), fun _ _ _ _ h => (by cases h)⟩
  | succ n ih =>
    obtain ⟨ih_1, ih_2, ih_3⟩ := ih
    refine ⟨?_, ?_, ?_⟩
    · intro l1 l2 k0 σ hM
      have hM : B_X11_quiet_1 (L_X11_quiet  n) n  l1 l2 k0 σ = some res := hM
      refine v_istore_n K dX11_quiet_38 rfl (by decide) [(3, .int k0), (0, .ref (ad 0)), (1, .int l1), (2, .int l2)] rfl ?_
      refine v_iload_n K dX11_quiet_39 0 rfl ?_
      refine v_if_eq K 48 dX11_quiet_40 (by decide) hM (fun hM => ?_) (fun hM => ?_)
      · refine v_aload_n K dX11_quiet_48 1 rfl ?_
        refine g_X11_3 K qf_X11_35 dX11_quiet_49 ?_
        refine v_aload_n K dX11_quiet_52 1 rfl ?_
        refine g_X11_4 K qf_X11_42 dX11_quiet_53 ?_
        refine v_iload_n K dX11_quiet_56 2 rfl ?_
        refine v_aload_n K dX11_quiet_57 1 rfl ?_
        refine g_X11_3 K qf_X11_35 dX11_quiet_58 ?_
        refine v_aload_n K dX11_quiet_61 1 rfl ?_
        refine g_X11_4 K qf_X11_42 dX11_quiet_62 ?_
        refine v_iload_n K dX11_quiet_65 2 rfl ?_
        refine x_Vi (As := [.ref (ad 37), .int l1]) (st := [.int l1, .ref (ad 37), .ref (ad 11)]) K uv_X3_hardest qm_X11_190 dX11_quiet_66 rv_X3 (fun _ h => c_X3_hardest l 37 isB_37 n l1 σ h) rfl ⟨(Nat.le_of_ble_eq_true rfl), (Nat.le_of_ble_eq_true rfl)⟩ (Nat.le_of_ble_eq_true rfl) hM (fun r6 s5 hM => ?_)
        refine x_Vi (As := [.ref (ad 37), .int l1, .int r6]) (st := []) K uv_X3_twelfths qm_X11_158 dX11_quiet_69 rv_X3 (fun _ h => c_X3_twelfths l 37 isB_37 n l1 r6 s5 h) rfl ⟨(Nat.le_of_ble_eq_true rfl), (Nat.le_of_ble_eq_true rfl)⟩ (Nat.le_of_ble_eq_true rfl) hM (fun r8 s7 hM => ?_)
        exact v_sub [1, 2, 3, 0] rfl (ih_2 l1 l2 k0 r8 s7 hM)
      · refine v_bipush (v := (12 : Int32)) K dX11_quiet_43 (by decide) ?_
        refine v_goto (tgt := 72) K dX11_quiet_45 (by decide) ?_
        exact v_sub [1, 2, 3, 0] rfl (ih_2 l1 l2 k0 (12 : Int32) σ hM)
    · intro l1 l2 l3 k0 σ hM
      have hM : B_X11_quiet_2 (L_X11_quiet  n) n  l1 l2 l3 k0 σ = some res := hM
      refine v_istore K dX11_quiet_72 (by decide) [(4, .int k0), (0, .ref (ad 0)), (1, .int l1), (2, .int l2), (3, .int l3)] rfl ?_
      refine v_iload_n K dX11_quiet_74 3 rfl ?_
      refine v_if_ne K 81 dX11_quiet_75 (by decide) hM (fun hM => ?_) (fun hM => ?_)
      · refine v_iload_n K dX11_quiet_81 4 rfl ?_
        refine v_if_eq K 90 dX11_quiet_82 (by decide) hM (fun hM => ?_) (fun hM => ?_)
        · refine v_aload_n K dX11_quiet_90 1 rfl ?_
          refine g_X11_3 K qf_X11_35 dX11_quiet_91 ?_
          refine v_aload_n K dX11_quiet_94 1 rfl ?_
          refine g_X11_4 K qf_X11_42 dX11_quiet_95 ?_
          refine v_iload_n K dX11_quiet_98 2 rfl ?_
          refine v_aload_n K dX11_quiet_99 1 rfl ?_
          refine g_X11_3 K qf_X11_35 dX11_quiet_100 ?_
          refine v_aload_n K dX11_quiet_103 1 rfl ?_
          refine g_X11_4 K qf_X11_42 dX11_quiet_104 ?_
          refine v_iload_n K dX11_quiet_107 2 rfl ?_
          refine x_Vi (As := [.ref (ad 37), .int l1]) (st := [.int l1, .ref (ad 37), .ref (ad 11)]) K uv_X3_easiest qm_X11_186 dX11_quiet_108 rv_X3 (fun _ h => c_X3_easiest l 37 isB_37 n l1 σ h) rfl ⟨(Nat.le_of_ble_eq_true rfl), (Nat.le_of_ble_eq_true rfl)⟩ (Nat.le_of_ble_eq_true rfl) hM (fun r10 s9 hM => ?_)
          refine x_Vi (As := [.ref (ad 37), .int l1, .int r10]) (st := []) K uv_X3_twelfths qm_X11_158 dX11_quiet_111 rv_X3 (fun _ h => c_X3_twelfths l 37 isB_37 n l1 r10 s9 h) rfl ⟨(Nat.le_of_ble_eq_true rfl), (Nat.le_of_ble_eq_true rfl)⟩ (Nat.le_of_ble_eq_true rfl) hM (fun r12 s11 hM => ?_)
          exact v_sub [1, 2, 0] rfl (ih_3 l1 k0 r12 s11 hM)
        · refine v_bipush (v := (12 : Int32)) K dX11_quiet_85 (by decide) ?_
          refine v_goto (tgt := 114) K dX11_quiet_87 (by decide) ?_
          exact v_sub [1, 2, 0] rfl (ih_3 l1 k0 (12 : Int32) σ hM)
      · refine v_iload K dX11_quiet_78 0 rfl ?_
        exact v_iret K rfl dX11_quiet_80 hM
    · intro l1 l4 k0 σ hM
      have hM : B_X11_quiet_3 (L_X11_quiet  n) n  l1 l4 k0 σ = some res := hM
      refine v_istore K dX11_quiet_114 (by decide) [(5, .int k0), (0, .ref (ad 0)), (1, .int l1), (4, .int l4)] rfl ?_
      refine v_aload_n K dX11_quiet_116 1 rfl ?_
      refine g_X11_4 K qf_X11_42 dX11_quiet_117 ?_
      refine v_iload_n K dX11_quiet_120 2 rfl ?_
      refine x_Vi (As := [.int l1]) (st := []) K uv_X1_isFree qm_X11_180 dX11_quiet_121 (rv_X1 isB_37) (fun _ h => c_X1_isFree l 37 isB_37 n l1 σ h) rfl ⟨(Nat.le_of_ble_eq_true rfl), (Nat.le_of_ble_eq_true rfl)⟩ (Nat.le_of_ble_eq_true rfl) hM (fun r14 s13 hM => ?_)
      refine v_if_eq K 137 dX11_quiet_124 (by decide) hM (fun hM => ?_) (fun hM => ?_)
      · refine v_iconst (v := (1 : Int32)) K dX11_quiet_137 (by decide) ?_
        refine v_goto (tgt := 142) K dX11_quiet_138 (by decide) ?_
        exact v_iret K rfl dX11_quiet_142 hM
      · refine v_iload K dX11_quiet_127 3 rfl ?_
        refine v_iload K dX11_quiet_129 0 rfl ?_
        refine v_iadd K dX11_quiet_131 ?_
        refine v_bipush (v := (12 : Int32)) K dX11_quiet_132 (by decide) ?_
        refine v_icmp_ge K 141 dX11_quiet_134 (by decide) hM (fun hM => ?_) (fun hM => ?_)
        · refine v_iconst (v := (0 : Int32)) K dX11_quiet_141 (by decide) ?_
          exact v_iret K rfl dX11_quiet_142 hM
        · refine v_iconst (v := (1 : Int32)) K dX11_quiet_137 (by decide) ?_
          refine v_goto (tgt := 142) K dX11_quiet_138 (by decide) ?_
          exact v_iret K rfl dX11_quiet_142 hM
set_option maxHeartbeats 4000000 in
set_option maxRecDepth 20000 in
theorem c_X11_quiet (l : Launch) {D : va_G} {A : Nat → Prop} {ad : Nat → Nat} {dA : Nat → ClassId}  (n : Nat) (p1 : Int32) (p2 : Int32) (σ : St) {res : Int32 × St} (hM : F_X11_quiet n p1 p2 σ = some res) : MI l yX11_quiet cX11_quiet 6 (some .int) 6 D (tysX dA) (wdX ad dA) A [.ref (ad 0), .int p1, .int p2] σ (QI D (wdX ad dA) A res) := by
  refine mk_met (by decide +kernel) (Nat.le_of_ble_eq_true rfl) (fun p e s m below meth c K => ?_)
  have K : Cx p s m _ meth c cX11_quiet 6 (some .int) RX11 D (tysX dA) (wdX ad dA) A := K
  obtain ⟨ih_1, ih_2, ih_3⟩ := t_X11_quiet l    K (res := res) n (below := below) (e := e)
  refine v_aload_n K dX11_quiet_0 0 rfl ?_
  refine g_X11_0 K qf_X11_10 dX11_quiet_1 ?_
  refine v_iload_n K dX11_quiet_4 1 rfl ?_
  refine x_Vi (As := [.int p1]) (st := []) K uv_X6_has qm_X11_132 dX11_quiet_5 rv_X6 (fun _ h => c_X6_has l  n p1 σ h) rfl ⟨(Nat.le_of_ble_eq_true rfl), (Nat.le_of_ble_eq_true rfl)⟩ (Nat.le_of_ble_eq_true rfl) hM (fun r2 s1 hM => ?_)
  refine v_if_eq K 20 dX11_quiet_8 (by decide) hM (fun hM => ?_) (fun hM => ?_)
  · refine v_iconst (v := (-1 : Int32)) K dX11_quiet_20 (by decide) ?_
    exact v_iret K rfl dX11_quiet_21 hM
  · refine v_iload_n K dX11_quiet_11 2 rfl ?_
    refine v_if_lt K 20 dX11_quiet_12 (by decide) hM (fun hM => ?_) (fun hM => ?_)
    · refine v_iconst (v := (-1 : Int32)) K dX11_quiet_20 (by decide) ?_
      exact v_iret K rfl dX11_quiet_21 hM
    · refine v_iload_n K dX11_quiet_15 2 rfl ?_
      refine v_iconst (v := (1 : Int32)) K dX11_quiet_16 (by decide) ?_
      refine v_icmp_le K 22 dX11_quiet_17 (by decide) hM (fun hM => ?_) (fun hM => ?_)
      · refine v_aload_n K dX11_quiet_22 0 rfl ?_
        refine g_X11_0 K qf_X11_10 dX11_quiet_23 ?_
        refine x_Vi (As := []) (st := []) K uv_X6_size qm_X11_183 dX11_quiet_26 rv_X6 (fun _ h => c_X6_size l  n  s1 h) rfl ⟨(Nat.le_of_ble_eq_true rfl), (Nat.le_of_ble_eq_true rfl)⟩ (Nat.le_of_ble_eq_true rfl) hM (fun r4 s3 hM => ?_)
        refine v_iconst (v := (2 : Int32)) K dX11_quiet_29 (by decide) ?_
        refine v_icmp_ge K 37 dX11_quiet_30 (by decide) hM (fun hM => ?_) (fun hM => ?_)
        · refine v_iconst (v := (0 : Int32)) K dX11_quiet_37 (by decide) ?_
          exact v_sub [0, 1, 2] rfl (ih_1 p1 p2 (0 : Int32) s3 hM)
        · refine v_iconst (v := (1 : Int32)) K dX11_quiet_33 (by decide) ?_
          refine v_goto (tgt := 38) K dX11_quiet_34 (by decide) ?_
          exact v_sub [0, 1, 2] rfl (ih_1 p1 p2 (1 : Int32) s3 hM)
      · refine v_iconst (v := (-1 : Int32)) K dX11_quiet_20 (by decide) ?_
        exact v_iret K rfl dX11_quiet_21 hM
noncomputable def F_X11_judge (n : Nat) (p1 : Int32) (σ : St) : Option (Int32 × St) := bd (F_X11_isShelf n p1 σ) fun r2 s1 => if r2 = 0 then (some ((-1 : Int32), s1)) else (gd (vp_in p1 6) (bd (F_X10_refusalOfBytes n (63 + 2 * p1.toNatClampNeg) s1) fun r5 s4 => if 0 ≤ r5 then (gd (vp_in p1 6) (bd (F_X2_firstWrong n (63 + 2 * p1.toNatClampNeg) 37 s4) fun r8 s7 => some (r8, s7))) else (some (r5, s4))))
set_option maxHeartbeats 4000000 in
set_option maxRecDepth 20000 in
theorem c_X11_judge (l : Launch) {D : va_G} {A : Nat → Prop} {ad : Nat → Nat} {dA : Nat → ClassId}  (n : Nat) (p1 : Int32) (σ : St) {res : Int32 × St} (hM : F_X11_judge n p1 σ = some res) : MI l yX11_judge cX11_judge 3 (some .int) 7 D (tysX dA) (wdX ad dA) A [.ref (ad 0), .int p1] σ (QI D (wdX ad dA) A res) := by
  refine mk_met (by decide +kernel) (Nat.le_of_ble_eq_true rfl) (fun p e s m below meth c K => ?_)
  have K : Cx p s m _ meth c cX11_judge 3 (some .int) RX11 D (tysX dA) (wdX ad dA) A := K
  refine v_iload_n K dX11_judge_0 1 rfl ?_
  refine x_Si (As := [.int p1]) (st := []) K us_X11_isShelf qm_X11_116 dX11_judge_1 (fun _ h => c_X11_isShelf l  n p1 σ h) rfl ⟨(Nat.le_of_ble_eq_true rfl), (Nat.le_of_ble_eq_true rfl)⟩ (Nat.le_of_ble_eq_true rfl) hM (fun r2 s1 hM => ?_)
  refine v_if_ne K 9 dX11_judge_4 (by decide) hM (fun hM => ?_) (fun hM => ?_)
  · refine v_aload_n K dX11_judge_9 0 rfl ?_
    refine g_X11_14 K qf_X11_99 dX11_judge_10 ?_
    refine v_iload_n K dX11_judge_13 1 rfl ?_
    refine ld_X3 K dX11_judge_14 hM (fun hi3 hM => ?_)
    refine x_Vi (As := []) (st := []) K uv_X10_refusalOfBytes qm_X11_210 dX11_judge_15 (rv_X10 (isS_in hi3)) (fun _ h => c_X10_refusalOfBytes l (63 + 2 * p1.toNatClampNeg) (isS_in hi3) n  s1 h) rfl ⟨(Nat.le_of_ble_eq_true rfl), (Nat.le_of_ble_eq_true rfl)⟩ (Nat.le_of_ble_eq_true rfl) hM (fun r5 s4 hM => ?_)
    refine v_istore_n K dX11_judge_18 rfl (by decide) [(2, .int r5), (0, .ref (ad 0)), (1, .int p1)] rfl ?_
    refine v_iload_n K dX11_judge_19 0 rfl ?_
    refine v_if_ge K 27 dX11_judge_20 (by decide) hM (fun hM => ?_) (fun hM => ?_)
    · refine v_aload_n K dX11_judge_27 1 rfl ?_
      refine g_X11_9 K qf_X11_65 dX11_judge_28 ?_
      refine v_aload_n K dX11_judge_31 1 rfl ?_
      refine g_X11_14 K qf_X11_99 dX11_judge_32 ?_
      refine v_iload_n K dX11_judge_35 2 rfl ?_
      refine ld_X3 K dX11_judge_36 hM (fun hi6 hM => ?_)
      refine v_aload_n K dX11_judge_37 1 rfl ?_
      refine g_X11_4 K qf_X11_42 dX11_judge_38 ?_
      refine x_Vi (As := [.ref (ad (63 + 2 * p1.toNatClampNeg)), .ref (ad 37)]) (st := []) K uv_X2_firstWrong qm_X11_231 dX11_judge_41 rv_X2 (fun _ h => c_X2_firstWrong l (63 + 2 * p1.toNatClampNeg) (isS_in hi6) 37 isB_37 n  s4 h) rfl ⟨(Nat.le_of_ble_eq_true rfl), (Nat.le_of_ble_eq_true rfl)⟩ (Nat.le_of_ble_eq_true rfl) hM (fun r8 s7 hM => ?_)
      exact v_iret K rfl dX11_judge_44 hM
    · refine v_iload_n K dX11_judge_23 0 rfl ?_
      refine v_goto (tgt := 44) K dX11_judge_24 (by decide) ?_
      exact v_iret K rfl dX11_judge_44 hM
  · refine v_iconst (v := (-1 : Int32)) K dX11_judge_7 (by decide) ?_
    exact v_iret K rfl dX11_judge_8 hM
noncomputable def F_X11_refusalOfRoll (n : Nat) (p1 : Int32) (σ : St) : Option (Int32 × St) := gd (vp_in p1 6) (bd (F_X10_refusalOfBytes n (63 + 2 * p1.toNatClampNeg) σ) fun r3 s2 => if 0 ≤ r3 then (gd (vp_in p1 6) (bd (F_X2_countUnknown n (63 + 2 * p1.toNatClampNeg) s2) fun r6 s5 => if r6 ≤ (8 : Int32) then (some ((0 : Int32), s5)) else (some ((-5 : Int32), s5)))) else (some (r3, s2)))
set_option maxHeartbeats 4000000 in
set_option maxRecDepth 20000 in
theorem c_X11_refusalOfRoll (l : Launch) {D : va_G} {A : Nat → Prop} {ad : Nat → Nat} {dA : Nat → ClassId}  (n : Nat) (p1 : Int32) (σ : St) {res : Int32 × St} (hM : F_X11_refusalOfRoll n p1 σ = some res) : MI l yX11_refusalOfRoll cX11_refusalOfRoll 3 (some .int) 5 D (tysX dA) (wdX ad dA) A [.ref (ad 0), .int p1] σ (QI D (wdX ad dA) A res) := by
  refine mk_met (by decide +kernel) (Nat.le_of_ble_eq_true rfl) (fun p e s m below meth c K => ?_)
  have K : Cx p s m _ meth c cX11_refusalOfRoll 3 (some .int) RX11 D (tysX dA) (wdX ad dA) A := K
  refine v_aload_n K dX11_refusalOfRoll_0 0 rfl ?_
  refine g_X11_14 K qf_X11_99 dX11_refusalOfRoll_1 ?_
  refine v_iload_n K dX11_refusalOfRoll_4 1 rfl ?_
  refine ld_X3 K dX11_refusalOfRoll_5 hM (fun hi1 hM => ?_)
  refine x_Vi (As := []) (st := []) K uv_X10_refusalOfBytes qm_X11_210 dX11_refusalOfRoll_6 (rv_X10 (isS_in hi1)) (fun _ h => c_X10_refusalOfBytes l (63 + 2 * p1.toNatClampNeg) (isS_in hi1) n  σ h) rfl ⟨(Nat.le_of_ble_eq_true rfl), (Nat.le_of_ble_eq_true rfl)⟩ (Nat.le_of_ble_eq_true rfl) hM (fun r3 s2 hM => ?_)
  refine v_istore_n K dX11_refusalOfRoll_9 rfl (by decide) [(2, .int r3), (0, .ref (ad 0)), (1, .int p1)] rfl ?_
  refine v_iload_n K dX11_refusalOfRoll_10 0 rfl ?_
  refine v_if_ge K 16 dX11_refusalOfRoll_11 (by decide) hM (fun hM => ?_) (fun hM => ?_)
  · refine v_aload_n K dX11_refusalOfRoll_16 1 rfl ?_
    refine g_X11_9 K qf_X11_65 dX11_refusalOfRoll_17 ?_
    refine v_aload_n K dX11_refusalOfRoll_20 1 rfl ?_
    refine g_X11_14 K qf_X11_99 dX11_refusalOfRoll_21 ?_
    refine v_iload_n K dX11_refusalOfRoll_24 2 rfl ?_
    refine ld_X3 K dX11_refusalOfRoll_25 hM (fun hi4 hM => ?_)
    refine x_Vi (As := [.ref (ad (63 + 2 * p1.toNatClampNeg))]) (st := []) K uv_X2_countUnknown qm_X11_373 dX11_refusalOfRoll_26 rv_X2 (fun _ h => c_X2_countUnknown l (63 + 2 * p1.toNatClampNeg) (isS_in hi4) n  s2 h) rfl ⟨(Nat.le_of_ble_eq_true rfl), (Nat.le_of_ble_eq_true rfl)⟩ (Nat.le_of_ble_eq_true rfl) hM (fun r6 s5 hM => ?_)
    refine v_bipush (v := (8 : Int32)) K dX11_refusalOfRoll_29 (by decide) ?_
    refine v_icmp_le K 39 dX11_refusalOfRoll_31 (by decide) hM (fun hM => ?_) (fun hM => ?_)
    · refine v_iconst (v := (0 : Int32)) K dX11_refusalOfRoll_39 (by decide) ?_
      exact v_iret K rfl dX11_refusalOfRoll_40 hM
    · refine v_bipush (v := (-5 : Int32)) K dX11_refusalOfRoll_34 (by decide) ?_
      refine v_goto (tgt := 40) K dX11_refusalOfRoll_36 (by decide) ?_
      exact v_iret K rfl dX11_refusalOfRoll_40 hM
  · refine v_iload_n K dX11_refusalOfRoll_14 0 rfl ?_
    exact v_iret K rfl dX11_refusalOfRoll_15 hM
noncomputable def F_X11_roll (n : Nat) (p1 : Int32) (p2 : Int32) (σ : St) : Option (Int32 × St) := bd (F_X11_isShelf n p1 σ) fun r2 s1 => if r2 = 0 then (some ((-1 : Int32), s1)) else (if p2 < 0 then (some ((-1 : Int32), s1)) else (if p2 ≤ (1 : Int32) then (bd (F_X11_refusalOfRoll n p1 s1) fun r4 s3 => if 0 ≤ r4 then (gd (vp_in p1 6) (bd (F_X2_weighWays n (63 + 2 * p1.toNatClampNeg) 37 s3) fun _ s6 => if p2 = 0 then (bd (F_X2_ways n  s6) fun r10 s9 => some (r10, s9)) else (bd (F_X2_likeliestWay n  s6) fun r8 s7 => some (r8, s7)))) else (some (r4, s3))) else (some ((-1 : Int32), s1))))
set_option maxHeartbeats 4000000 in
set_option maxRecDepth 20000 in
theorem c_X11_roll (l : Launch) {D : va_G} {A : Nat → Prop} {ad : Nat → Nat} {dA : Nat → ClassId}  (n : Nat) (p1 : Int32) (p2 : Int32) (σ : St) {res : Int32 × St} (hM : F_X11_roll n p1 p2 σ = some res) : MI l yX11_roll cX11_roll 4 (some .int) 7 D (tysX dA) (wdX ad dA) A [.ref (ad 0), .int p1, .int p2] σ (QI D (wdX ad dA) A res) := by
  refine mk_met (by decide +kernel) (Nat.le_of_ble_eq_true rfl) (fun p e s m below meth c K => ?_)
  have K : Cx p s m _ meth c cX11_roll 4 (some .int) RX11 D (tysX dA) (wdX ad dA) A := K
  refine v_iload_n K dX11_roll_0 1 rfl ?_
  refine x_Si (As := [.int p1]) (st := []) K us_X11_isShelf qm_X11_116 dX11_roll_1 (fun _ h => c_X11_isShelf l  n p1 σ h) rfl ⟨(Nat.le_of_ble_eq_true rfl), (Nat.le_of_ble_eq_true rfl)⟩ (Nat.le_of_ble_eq_true rfl) hM (fun r2 s1 hM => ?_)
  refine v_if_eq K 16 dX11_roll_4 (by decide) hM (fun hM => ?_) (fun hM => ?_)
  · refine v_iconst (v := (-1 : Int32)) K dX11_roll_16 (by decide) ?_
    exact v_iret K rfl dX11_roll_17 hM
  · refine v_iload_n K dX11_roll_7 2 rfl ?_
    refine v_if_lt K 16 dX11_roll_8 (by decide) hM (fun hM => ?_) (fun hM => ?_)
    · refine v_iconst (v := (-1 : Int32)) K dX11_roll_16 (by decide) ?_
      exact v_iret K rfl dX11_roll_17 hM
    · refine v_iload_n K dX11_roll_11 2 rfl ?_
      refine v_iconst (v := (1 : Int32)) K dX11_roll_12 (by decide) ?_
      refine v_icmp_le K 18 dX11_roll_13 (by decide) hM (fun hM => ?_) (fun hM => ?_)
      · refine v_aload_n K dX11_roll_18 0 rfl ?_
        refine v_iload_n K dX11_roll_19 1 rfl ?_
        refine x_Vi (As := [.int p1]) (st := []) K uv_X11_refusalOfRoll qm_X11_235 dX11_roll_20 rv_X11 (fun _ h => c_X11_refusalOfRoll l  n p1 s1 h) rfl ⟨(Nat.le_of_ble_eq_true rfl), (Nat.le_of_ble_eq_true rfl)⟩ (Nat.le_of_ble_eq_true rfl) hM (fun r4 s3 hM => ?_)
        refine v_istore_n K dX11_roll_23 rfl (by decide) [(3, .int r4), (0, .ref (ad 0)), (1, .int p1), (2, .int p2)] rfl ?_
        refine v_iload_n K dX11_roll_24 0 rfl ?_
        refine v_if_ge K 30 dX11_roll_25 (by decide) hM (fun hM => ?_) (fun hM => ?_)
        · refine v_aload_n K dX11_roll_30 1 rfl ?_
          refine g_X11_9 K qf_X11_65 dX11_roll_31 ?_
          refine v_aload_n K dX11_roll_34 1 rfl ?_
          refine g_X11_14 K qf_X11_99 dX11_roll_35 ?_
          refine v_iload_n K dX11_roll_38 2 rfl ?_
          refine ld_X3 K dX11_roll_39 hM (fun hi5 hM => ?_)
          refine v_aload_n K dX11_roll_40 1 rfl ?_
          refine g_X11_4 K qf_X11_42 dX11_roll_41 ?_
          refine x_Vv (As := [.ref (ad (63 + 2 * p1.toNatClampNeg)), .ref (ad 37)]) (st := []) K uv_X2_weighWays qm_X11_238 dX11_roll_44 rv_X2 (fun _ h => c_X2_weighWays l (63 + 2 * p1.toNatClampNeg) (isS_in hi5) 37 isB_37 n  s3 h) rfl ⟨(Nat.le_of_ble_eq_true rfl), (Nat.le_of_ble_eq_true rfl)⟩ (Nat.le_of_ble_eq_true rfl) hM (fun s6 hM => ?_)
          refine v_iload_n K dX11_roll_47 3 rfl ?_
          refine v_if_ne K 61 dX11_roll_48 (by decide) hM (fun hM => ?_) (fun hM => ?_)
          · refine v_aload_n K dX11_roll_61 1 rfl ?_
            refine g_X11_9 K qf_X11_65 dX11_roll_62 ?_
            refine x_Vi (As := []) (st := []) K uv_X2_likeliestWay qm_X11_245 dX11_roll_65 rv_X2 (fun _ h => c_X2_likeliestWay l  n  s6 h) rfl ⟨(Nat.le_of_ble_eq_true rfl), (Nat.le_of_ble_eq_true rfl)⟩ (Nat.le_of_ble_eq_true rfl) hM (fun r8 s7 hM => ?_)
            exact v_iret K rfl dX11_roll_68 hM
          · refine v_aload_n K dX11_roll_51 1 rfl ?_
            refine g_X11_9 K qf_X11_65 dX11_roll_52 ?_
            refine x_Vi (As := []) (st := []) K uv_X2_ways qm_X11_242 dX11_roll_55 rv_X2 (fun _ h => c_X2_ways l  n  s6 h) rfl ⟨(Nat.le_of_ble_eq_true rfl), (Nat.le_of_ble_eq_true rfl)⟩ (Nat.le_of_ble_eq_true rfl) hM (fun r10 s9 hM => ?_)
            refine v_goto (tgt := 68) K dX11_roll_58 (by decide) ?_
            exact v_iret K rfl dX11_roll_68 hM
        · refine v_iload_n K dX11_roll_28 0 rfl ?_
          exact v_iret K rfl dX11_roll_29 hM
      · refine v_iconst (v := (-1 : Int32)) K dX11_roll_16 (by decide) ?_
        exact v_iret K rfl dX11_roll_17 hM
noncomputable def F_X11_sold (n : Nat) (p1 : Int32) (σ : St) : Option (Int32 × St) := bd (F_X11_isShelf n p1 σ) fun r2 s1 => if r2 = 0 then (some ((-1 : Int32), s1)) else (bd (F_X11_refusalOfRoll n p1 s1) fun r4 s3 => if 0 ≤ r4 then (gd (vp_in p1 6) (bd (F_X2_weighWays n (63 + 2 * p1.toNatClampNeg) 37 s3) fun _ s6 => gd (vp_in p1 6) (bd (F_X2_firstSold n (63 + 2 * p1.toNatClampNeg) 37 s6) fun r9 s8 => some (r9, s8)))) else (some (r4, s3)))
set_option maxHeartbeats 4000000 in
set_option maxRecDepth 20000 in
theorem c_X11_sold (l : Launch) {D : va_G} {A : Nat → Prop} {ad : Nat → Nat} {dA : Nat → ClassId}  (n : Nat) (p1 : Int32) (σ : St) {res : Int32 × St} (hM : F_X11_sold n p1 σ = some res) : MI l yX11_sold cX11_sold 3 (some .int) 7 D (tysX dA) (wdX ad dA) A [.ref (ad 0), .int p1] σ (QI D (wdX ad dA) A res) := by
  refine mk_met (by decide +kernel) (Nat.le_of_ble_eq_true rfl) (fun p e s m below meth c K => ?_)
  have K : Cx p s m _ meth c cX11_sold 3 (some .int) RX11 D (tysX dA) (wdX ad dA) A := K
  refine v_iload_n K dX11_sold_0 1 rfl ?_
  refine x_Si (As := [.int p1]) (st := []) K us_X11_isShelf qm_X11_116 dX11_sold_1 (fun _ h => c_X11_isShelf l  n p1 σ h) rfl ⟨(Nat.le_of_ble_eq_true rfl), (Nat.le_of_ble_eq_true rfl)⟩ (Nat.le_of_ble_eq_true rfl) hM (fun r2 s1 hM => ?_)
  refine v_if_ne K 9 dX11_sold_4 (by decide) hM (fun hM => ?_) (fun hM => ?_)
  · refine v_aload_n K dX11_sold_9 0 rfl ?_
    refine v_iload_n K dX11_sold_10 1 rfl ?_
    refine x_Vi (As := [.int p1]) (st := []) K uv_X11_refusalOfRoll qm_X11_235 dX11_sold_11 rv_X11 (fun _ h => c_X11_refusalOfRoll l  n p1 s1 h) rfl ⟨(Nat.le_of_ble_eq_true rfl), (Nat.le_of_ble_eq_true rfl)⟩ (Nat.le_of_ble_eq_true rfl) hM (fun r4 s3 hM => ?_)
    refine v_istore_n K dX11_sold_14 rfl (by decide) [(2, .int r4), (0, .ref (ad 0)), (1, .int p1)] rfl ?_
    refine v_iload_n K dX11_sold_15 0 rfl ?_
    refine v_if_ge K 21 dX11_sold_16 (by decide) hM (fun hM => ?_) (fun hM => ?_)
    · refine v_aload_n K dX11_sold_21 1 rfl ?_
      refine g_X11_9 K qf_X11_65 dX11_sold_22 ?_
      refine v_aload_n K dX11_sold_25 1 rfl ?_
      refine g_X11_14 K qf_X11_99 dX11_sold_26 ?_
      refine v_iload_n K dX11_sold_29 2 rfl ?_
      refine ld_X3 K dX11_sold_30 hM (fun hi5 hM => ?_)
      refine v_aload_n K dX11_sold_31 1 rfl ?_
      refine g_X11_4 K qf_X11_42 dX11_sold_32 ?_
      refine x_Vv (As := [.ref (ad (63 + 2 * p1.toNatClampNeg)), .ref (ad 37)]) (st := []) K uv_X2_weighWays qm_X11_238 dX11_sold_35 rv_X2 (fun _ h => c_X2_weighWays l (63 + 2 * p1.toNatClampNeg) (isS_in hi5) 37 isB_37 n  s3 h) rfl ⟨(Nat.le_of_ble_eq_true rfl), (Nat.le_of_ble_eq_true rfl)⟩ (Nat.le_of_ble_eq_true rfl) hM (fun s6 hM => ?_)
      refine v_aload_n K dX11_sold_38 1 rfl ?_
      refine g_X11_9 K qf_X11_65 dX11_sold_39 ?_
      refine v_aload_n K dX11_sold_42 1 rfl ?_
      refine g_X11_14 K qf_X11_99 dX11_sold_43 ?_
      refine v_iload_n K dX11_sold_46 2 rfl ?_
      refine ld_X3 K dX11_sold_47 hM (fun hi7 hM => ?_)
      refine v_aload_n K dX11_sold_48 1 rfl ?_
      refine g_X11_4 K qf_X11_42 dX11_sold_49 ?_
      refine x_Vi (As := [.ref (ad (63 + 2 * p1.toNatClampNeg)), .ref (ad 37)]) (st := []) K uv_X2_firstSold qm_X11_248 dX11_sold_52 rv_X2 (fun _ h => c_X2_firstSold l (63 + 2 * p1.toNatClampNeg) (isS_in hi7) 37 isB_37 n  s6 h) rfl ⟨(Nat.le_of_ble_eq_true rfl), (Nat.le_of_ble_eq_true rfl)⟩ (Nat.le_of_ble_eq_true rfl) hM (fun r9 s8 hM => ?_)
      exact v_iret K rfl dX11_sold_55 hM
    · refine v_iload_n K dX11_sold_19 0 rfl ?_
      exact v_iret K rfl dX11_sold_20 hM
  · refine v_iconst (v := (-1 : Int32)) K dX11_sold_7 (by decide) ?_
    exact v_iret K rfl dX11_sold_8 hM
noncomputable def F_X11_friend (n : Nat) (p1 : Int32) (p2 : Int32) (σ : St) : Option (Int32 × St) := bd (F_X11_isPair n p1 σ) fun r2 s1 => if r2 = 0 then (some ((-2000000000 : Int32), s1)) else (bd (F_X6_allows n (1 : Int32) p2 s1) fun r4 s3 => if r4 = 0 then (some ((-2000000000 : Int32), s3)) else (gd (¬ (10 : Int32) = 0) (bnd (p1 / (10 : Int32)) fun x5 => gd (¬ (10 : Int32) = 0) (bnd (p1 - p1 / (10 : Int32) * (10 : Int32)) fun x6 => bd (F_X3_twelfths n 37 x5 x6 s3) fun r8 s7 => bd (F_X3_twelfthsAgainst n 37 x5 x6 p2 (0 : Int32) s7) fun r10 s9 => some ((r8 - r10), s9)))))
set_option maxHeartbeats 4000000 in
set_option maxRecDepth 20000 in
theorem c_X11_friend (l : Launch) {D : va_G} {A : Nat → Prop} {ad : Nat → Nat} {dA : Nat → ClassId}  (n : Nat) (p1 : Int32) (p2 : Int32) (σ : St) {res : Int32 × St} (hM : F_X11_friend n p1 p2 σ = some res) : MI l yX11_friend cX11_friend 5 (some .int) 4 D (tysX dA) (wdX ad dA) A [.ref (ad 0), .int p1, .int p2] σ (QI D (wdX ad dA) A res) := by
  refine mk_met (by decide +kernel) (Nat.le_of_ble_eq_true rfl) (fun p e s m below meth c K => ?_)
  have K : Cx p s m _ meth c cX11_friend 5 (some .int) RX11 D (tysX dA) (wdX ad dA) A := K
  refine v_aload_n K dX11_friend_0 0 rfl ?_
  refine v_iload_n K dX11_friend_1 1 rfl ?_
  refine x_Vi (As := [.int p1]) (st := []) K uv_X11_isPair qm_X11_155 dX11_friend_2 rv_X11 (fun _ h => c_X11_isPair l  n p1 σ h) rfl ⟨(Nat.le_of_ble_eq_true rfl), (Nat.le_of_ble_eq_true rfl)⟩ (Nat.le_of_ble_eq_true rfl) hM (fun r2 s1 hM => ?_)
  refine v_if_eq K 16 dX11_friend_5 (by decide) hM (fun hM => ?_) (fun hM => ?_)
  · refine v_ldc (v := (-2000000000 : Int32)) K qc_X11_139 dX11_friend_16 ?_
    exact v_iret K rfl dX11_friend_18 hM
  · refine v_iconst (v := (1 : Int32)) K dX11_friend_8 (by decide) ?_
    refine v_iload_n K dX11_friend_9 2 rfl ?_
    refine x_Si (As := [.int (1 : Int32), .int p2]) (st := []) K us_X6_allows qm_X11_104 dX11_friend_10 (fun _ h => c_X6_allows l  n (1 : Int32) p2 s1 h) rfl ⟨(Nat.le_of_ble_eq_true rfl), (Nat.le_of_ble_eq_true rfl)⟩ (Nat.le_of_ble_eq_true rfl) hM (fun r4 s3 hM => ?_)
    refine v_if_ne K 19 dX11_friend_13 (by decide) hM (fun hM => ?_) (fun hM => ?_)
    · refine v_iload_n K dX11_friend_19 1 rfl ?_
      refine v_bipush (v := (10 : Int32)) K dX11_friend_20 (by decide) ?_
      refine v_idiv K dX11_friend_22 hM (fun hM => ?_)
      refine v_topi hM (fun x5 hM => ?_)
      refine v_istore_n K dX11_friend_23 rfl (by decide) [(3, .int x5), (0, .ref (ad 0)), (1, .int p1), (2, .int p2)] rfl ?_
      refine v_iload_n K dX11_friend_24 2 rfl ?_
      refine v_bipush (v := (10 : Int32)) K dX11_friend_25 (by decide) ?_
      refine v_irem K dX11_friend_27 hM (fun hM => ?_)
      refine v_topi hM (fun x6 hM => ?_)
      refine v_istore K dX11_friend_28 (by decide) [(4, .int x6), (3, .int x5), (0, .ref (ad 0)), (1, .int p1), (2, .int p2)] rfl ?_
      refine v_aload_n K dX11_friend_30 2 rfl ?_
      refine g_X11_3 K qf_X11_35 dX11_friend_31 ?_
      refine v_aload_n K dX11_friend_34 2 rfl ?_
      refine g_X11_4 K qf_X11_42 dX11_friend_35 ?_
      refine v_iload_n K dX11_friend_38 1 rfl ?_
      refine v_iload K dX11_friend_39 0 rfl ?_
      refine x_Vi (As := [.ref (ad 37), .int x5, .int x6]) (st := []) K uv_X3_twelfths qm_X11_158 dX11_friend_41 rv_X3 (fun _ h => c_X3_twelfths l 37 isB_37 n x5 x6 s3 h) rfl ⟨(Nat.le_of_ble_eq_true rfl), (Nat.le_of_ble_eq_true rfl)⟩ (Nat.le_of_ble_eq_true rfl) hM (fun r8 s7 hM => ?_)
      refine v_aload_n K dX11_friend_44 2 rfl ?_
      refine g_X11_3 K qf_X11_35 dX11_friend_45 ?_
      refine v_aload_n K dX11_friend_48 2 rfl ?_
      refine g_X11_4 K qf_X11_42 dX11_friend_49 ?_
      refine v_iload_n K dX11_friend_52 1 rfl ?_
      refine v_iload K dX11_friend_53 0 rfl ?_
      refine v_iload_n K dX11_friend_55 4 rfl ?_
      refine v_iconst (v := (0 : Int32)) K dX11_friend_56 (by decide) ?_
      refine x_Vi (As := [.ref (ad 37), .int x5, .int x6, .int p2, .int (0 : Int32)]) (st := [.int r8]) K uv_X3_twelfthsAgainst qm_X11_251 dX11_friend_57 rv_X3 (fun _ h => c_X3_twelfthsAgainst l 37 isB_37 n x5 x6 p2 (0 : Int32) s7 h) rfl ⟨(Nat.le_of_ble_eq_true rfl), (Nat.le_of_ble_eq_true rfl)⟩ (Nat.le_of_ble_eq_true rfl) hM (fun r10 s9 hM => ?_)
      refine v_isub K dX11_friend_60 ?_
      exact v_iret K rfl dX11_friend_61 hM
    · refine v_ldc (v := (-2000000000 : Int32)) K qc_X11_139 dX11_friend_16 ?_
      exact v_iret K rfl dX11_friend_18 hM
noncomputable def B_X11_drawn_1 (J : Nat → Int32 → Int32 → Int32 → Int32 → Int32 → St → Option (Int32 × St)) (n : Nat)  (l1 : Int32) (l3 : Int32) (l4 : Int32) (l5 : Int32) (l6 : Int32) (σ : St) : Option (Int32 × St) := bd (F_X5_pass n 37 l1 l5 l6 l4 σ) fun _ s5 => if l3 = 0 then (bd (F_X5_heard n  s5) fun r11 s10 => some (r11, s10)) else (if l3 = (1 : Int32) then (bd (F_X5_wonByOne n  s5) fun r9 s8 => some (r9, s8)) else (bd (F_X5_boundAtEnds n  s5) fun r7 s6 => some (r7, s6)))
noncomputable def S_X11_drawn  (n : Nat) (J : Nat → Int32 → Int32 → Int32 → Int32 → Int32 → St → Option (Int32 × St)) : Nat → Int32 → Int32 → Int32 → Int32 → Int32 → St → Option (Int32 × St) := fun lb a0 a1 a2 a3 a4 σ => match lb with
  | 1 => B_X11_drawn_1 J n  a0 a1 a2 a3 a4 σ
  | _ => none
noncomputable def L_X11_drawn  (n : Nat) : Nat → Int32 → Int32 → Int32 → Int32 → Int32 → St → Option (Int32 × St) := Nat.rec (fun _ _ _ _ _ _ _ => none) (fun n J => S_X11_drawn  n J) n
noncomputable def F_X11_drawn (n : Nat) (p1 : Int32) (p2 : Int32) (p3 : Int32) (p4 : Int32) (σ : St) : Option (Int32 × St) := gd (¬ (100 : Int32) = 0) (bnd (p2 / (100 : Int32)) fun x1 => gd (¬ (100 : Int32) = 0) (bnd (p2 - p2 / (100 : Int32) * (100 : Int32)) fun x2 => if x1 < (1 : Int32) then (some ((-1 : Int32), σ)) else (if (30 : Int32) < x1 then (some ((-1 : Int32), σ)) else (if x2 < (1 : Int32) then (some ((-1 : Int32), σ)) else (if (60 : Int32) < x2 then (some ((-1 : Int32), σ)) else (if p3 < 0 then (some ((-1 : Int32), σ)) else (if (2 : Int32) < p3 then (some ((-1 : Int32), σ)) else (if p3 = (1 : Int32) then (bd (F_X6_has n p4 σ) fun r4 s3 => if r4 = 0 then (some ((-1 : Int32), s3)) else (L_X11_drawn  n 1 p1 p3 p4 x1 x2 s3)) else (L_X11_drawn  n 1 p1 p3 p4 x1 x2 σ)))))))))
set_option maxHeartbeats 4000000 in
set_option maxRecDepth 20000 in
theorem t_X11_drawn (l : Launch) {p : Program} {e : Env} {s : State} {m : MethodId} {args : Array Value} {below : List Frame} {meth : Method} {c : Code} {D : va_G} {A : Nat → Prop} {ad : Nat → Nat} {dA : Nat → ClassId}   (K : Cx p s m args meth c cX11_drawn 7 (some .int) RX11 D (tysX dA) (wdX ad dA) A) {res : Int32 × St} (n : Nat) : (∀ (l1 : Int32) (l3 : Int32) (l4 : Int32) (l5 : Int32) (l6 : Int32) (σ : St), L_X11_drawn  n 1 l1 l3 l4 l5 l6 σ = some res → V p l e (rmH 6) s m args below meth c 7 D (wdX ad dA) A (MQ below (QI D (wdX ad dA) A res) args s 0 0 A) 66 [(0, .ref (ad 0)), (1, .int l1), (3, .int l3), (4, .int l4), (5, .int l5), (6, .int l6)] [] σ) := by
  induction n with
  | zero => exact (fun _ _ _ _ _ _ h => (by cases h))
  | succ n ih =>
    have ih_1 := ih
    · intro l1 l3 l4 l5 l6 σ hM
      have hM : B_X11_drawn_1 (L_X11_drawn  n) n  l1 l3 l4 l5 l6 σ = some res := hM
      refine v_aload_n K dX11_drawn_66 0 rfl ?_
      refine g_X11_12 K qf_X11_86 dX11_drawn_67 ?_
      refine v_aload_n K dX11_drawn_70 0 rfl ?_
      refine g_X11_4 K qf_X11_42 dX11_drawn_71 ?_
      refine v_iload_n K dX11_drawn_74 1 rfl ?_
      refine v_iload K dX11_drawn_75 4 rfl ?_
      refine v_iload K dX11_drawn_77 5 rfl ?_
      refine v_iload K dX11_drawn_79 3 rfl ?_
      refine x_Vv (As := [.ref (ad 37), .int l1, .int l5, .int l6, .int l4]) (st := []) K uv_X5_pass qm_X11_255 dX11_drawn_81 rv_X5 (fun _ h => c_X5_pass l 37 isB_37 n l1 l5 l6 l4 σ h) rfl ⟨(Nat.le_of_ble_eq_true rfl), (Nat.le_of_ble_eq_true rfl)⟩ (Nat.le_of_ble_eq_true rfl) hM (fun s5 hM => ?_)
      refine v_iload_n K dX11_drawn_84 2 rfl ?_
      refine v_if_ne K 96 dX11_drawn_85 (by decide) hM (fun hM => ?_) (fun hM => ?_)
      · refine v_iload_n K dX11_drawn_96 2 rfl ?_
        refine v_iconst (v := (1 : Int32)) K dX11_drawn_97 (by decide) ?_
        refine v_icmp_ne K 111 dX11_drawn_98 (by decide) hM (fun hM => ?_) (fun hM => ?_)
        · refine v_aload_n K dX11_drawn_111 0 rfl ?_
          refine g_X11_12 K qf_X11_86 dX11_drawn_112 ?_
          refine x_Vi (As := []) (st := []) K uv_X5_boundAtEnds qm_X11_263 dX11_drawn_115 rv_X5 (fun _ h => c_X5_boundAtEnds l  n  s5 h) rfl ⟨(Nat.le_of_ble_eq_true rfl), (Nat.le_of_ble_eq_true rfl)⟩ (Nat.le_of_ble_eq_true rfl) hM (fun r7 s6 hM => ?_)
          exact v_iret K rfl dX11_drawn_118 hM
        · refine v_aload_n K dX11_drawn_101 0 rfl ?_
          refine g_X11_12 K qf_X11_86 dX11_drawn_102 ?_
          refine x_Vi (As := []) (st := []) K uv_X5_wonByOne qm_X11_260 dX11_drawn_105 rv_X5 (fun _ h => c_X5_wonByOne l  n  s5 h) rfl ⟨(Nat.le_of_ble_eq_true rfl), (Nat.le_of_ble_eq_true rfl)⟩ (Nat.le_of_ble_eq_true rfl) hM (fun r9 s8 hM => ?_)
          refine v_goto (tgt := 118) K dX11_drawn_108 (by decide) ?_
          exact v_iret K rfl dX11_drawn_118 hM
      · refine v_aload_n K dX11_drawn_88 0 rfl ?_
        refine g_X11_12 K qf_X11_86 dX11_drawn_89 ?_
        refine x_Vi (As := []) (st := []) K uv_X5_heard qm_X11_259 dX11_drawn_92 rv_X5 (fun _ h => c_X5_heard l  n  s5 h) rfl ⟨(Nat.le_of_ble_eq_true rfl), (Nat.le_of_ble_eq_true rfl)⟩ (Nat.le_of_ble_eq_true rfl) hM (fun r11 s10 hM => ?_)
        exact v_iret K rfl dX11_drawn_95 hM
set_option maxHeartbeats 4000000 in
set_option maxRecDepth 20000 in
theorem c_X11_drawn (l : Launch) {D : va_G} {A : Nat → Prop} {ad : Nat → Nat} {dA : Nat → ClassId}  (n : Nat) (p1 : Int32) (p2 : Int32) (p3 : Int32) (p4 : Int32) (σ : St) {res : Int32 × St} (hM : F_X11_drawn n p1 p2 p3 p4 σ = some res) : MI l yX11_drawn cX11_drawn 7 (some .int) 6 D (tysX dA) (wdX ad dA) A [.ref (ad 0), .int p1, .int p2, .int p3, .int p4] σ (QI D (wdX ad dA) A res) := by
  refine mk_met (by decide +kernel) (Nat.le_of_ble_eq_true rfl) (fun p e s m below meth c K => ?_)
  have K : Cx p s m _ meth c cX11_drawn 7 (some .int) RX11 D (tysX dA) (wdX ad dA) A := K
  have ih_1 := t_X11_drawn l    K (res := res) n (below := below) (e := e)
  refine v_iload_n K dX11_drawn_0 2 rfl ?_
  refine v_bipush (v := (100 : Int32)) K dX11_drawn_1 (by decide) ?_
  refine v_idiv K dX11_drawn_3 hM (fun hM => ?_)
  refine v_topi hM (fun x1 hM => ?_)
  refine v_istore K dX11_drawn_4 (by decide) [(5, .int x1), (0, .ref (ad 0)), (1, .int p1), (2, .int p2), (3, .int p3), (4, .int p4)] rfl ?_
  refine v_iload_n K dX11_drawn_6 3 rfl ?_
  refine v_bipush (v := (100 : Int32)) K dX11_drawn_7 (by decide) ?_
  refine v_irem K dX11_drawn_9 hM (fun hM => ?_)
  refine v_topi hM (fun x2 hM => ?_)
  refine v_istore K dX11_drawn_10 (by decide) [(6, .int x2), (5, .int x1), (0, .ref (ad 0)), (1, .int p1), (2, .int p2), (3, .int p3), (4, .int p4)] rfl ?_
  refine v_iload K dX11_drawn_12 1 rfl ?_
  refine v_iconst (v := (1 : Int32)) K dX11_drawn_14 (by decide) ?_
  refine v_icmp_lt K 64 dX11_drawn_15 (by decide) hM (fun hM => ?_) (fun hM => ?_)
  · refine v_iconst (v := (-1 : Int32)) K dX11_drawn_64 (by decide) ?_
    exact v_iret K rfl dX11_drawn_65 hM
  · refine v_iload K dX11_drawn_18 1 rfl ?_
    refine v_bipush (v := (30 : Int32)) K dX11_drawn_20 (by decide) ?_
    refine v_icmp_gt K 64 dX11_drawn_22 (by decide) hM (fun hM => ?_) (fun hM => ?_)
    · refine v_iconst (v := (-1 : Int32)) K dX11_drawn_64 (by decide) ?_
      exact v_iret K rfl dX11_drawn_65 hM
    · refine v_iload K dX11_drawn_25 0 rfl ?_
      refine v_iconst (v := (1 : Int32)) K dX11_drawn_27 (by decide) ?_
      refine v_icmp_lt K 64 dX11_drawn_28 (by decide) hM (fun hM => ?_) (fun hM => ?_)
      · refine v_iconst (v := (-1 : Int32)) K dX11_drawn_64 (by decide) ?_
        exact v_iret K rfl dX11_drawn_65 hM
      · refine v_iload K dX11_drawn_31 0 rfl ?_
        refine v_bipush (v := (60 : Int32)) K dX11_drawn_33 (by decide) ?_
        refine v_icmp_gt K 64 dX11_drawn_35 (by decide) hM (fun hM => ?_) (fun hM => ?_)
        · refine v_iconst (v := (-1 : Int32)) K dX11_drawn_64 (by decide) ?_
          exact v_iret K rfl dX11_drawn_65 hM
        · refine v_iload_n K dX11_drawn_38 5 rfl ?_
          refine v_if_lt K 64 dX11_drawn_39 (by decide) hM (fun hM => ?_) (fun hM => ?_)
          · refine v_iconst (v := (-1 : Int32)) K dX11_drawn_64 (by decide) ?_
            exact v_iret K rfl dX11_drawn_65 hM
          · refine v_iload_n K dX11_drawn_42 5 rfl ?_
            refine v_iconst (v := (2 : Int32)) K dX11_drawn_43 (by decide) ?_
            refine v_icmp_gt K 64 dX11_drawn_44 (by decide) hM (fun hM => ?_) (fun hM => ?_)
            · refine v_iconst (v := (-1 : Int32)) K dX11_drawn_64 (by decide) ?_
              exact v_iret K rfl dX11_drawn_65 hM
            · refine v_iload_n K dX11_drawn_47 5 rfl ?_
              refine v_iconst (v := (1 : Int32)) K dX11_drawn_48 (by decide) ?_
              refine v_icmp_ne K 66 dX11_drawn_49 (by decide) hM (fun hM => ?_) (fun hM => ?_)
              · exact v_sub [2, 3, 5, 6, 1, 0] rfl (ih_1 p1 p3 p4 x1 x2 σ hM)
              · refine v_aload_n K dX11_drawn_52 2 rfl ?_
                refine g_X11_0 K qf_X11_10 dX11_drawn_53 ?_
                refine v_iload K dX11_drawn_56 6 rfl ?_
                refine x_Vi (As := [.int p4]) (st := []) K uv_X6_has qm_X11_132 dX11_drawn_58 rv_X6 (fun _ h => c_X6_has l  n p4 σ h) rfl ⟨(Nat.le_of_ble_eq_true rfl), (Nat.le_of_ble_eq_true rfl)⟩ (Nat.le_of_ble_eq_true rfl) hM (fun r4 s3 hM => ?_)
                refine v_if_ne K 66 dX11_drawn_61 (by decide) hM (fun hM => ?_) (fun hM => ?_)
                · exact v_sub [2, 3, 5, 6, 1, 0] rfl (ih_1 p1 p3 p4 x1 x2 s3 hM)
                · refine v_iconst (v := (-1 : Int32)) K dX11_drawn_64 (by decide) ?_
                  exact v_iret K rfl dX11_drawn_65 hM
noncomputable def B_X11_hold_1 (J : Nat → Int32 → Int32 → Int32 → Int32 → Int32 → Int32 → Int32 → St → Option (Int32 × St)) (n : Nat)  (l2 : Int32) (l3 : Int32) (l4 : Int32) (l5 : Int32) (k0 : Int32) (k1 : Int32) (k2 : Int32) (σ : St) : Option (Int32 × St) := bd (F_X1_settle n 37 k2 k1 k0 σ) fun _ s9 => gd (vp_in (0 : Int32) 5) (gd (vp_in (0 : Int32) 5) (bnd (sI s9 1 ((0 : Int32)).toNatClampNeg ((gI s9 1 ((0 : Int32)).toNatClampNeg) + (1 : Int32))) fun s10 => gd (vp_in (1 : Int32) 5) (gd (vp_in (1 : Int32) 5) (bnd (sI s10 1 ((1 : Int32)).toNatClampNeg ((gI s10 1 ((1 : Int32)).toNatClampNeg) + l2)) fun s11 => gd (vp_in (4 : Int32) 5) (if l2 = (1 : Int32) then (J 2 l5 l4 (gI s11 1 ((4 : Int32)).toNatClampNeg) (4 : Int32) 0 0 0 s11) else (J 2 l5 l3 (gI s11 1 ((4 : Int32)).toNatClampNeg) (4 : Int32) 0 0 0 s11))))))
noncomputable def B_X11_hold_2 (J : Nat → Int32 → Int32 → Int32 → Int32 → Int32 → Int32 → Int32 → St → Option (Int32 × St)) (n : Nat)  (l5 : Int32) (k0 : Int32) (k2 : Int32) (k3 : Int32) (σ : St) : Option (Int32 × St) := bd (F_X6_numberOf n k0 (3 : Int32) σ) fun r13 s12 => gd (vp_in k3 5) (bnd (sI s12 1 (k3).toNatClampNeg (k2 + r13)) fun s14 => some (l5, s14))
noncomputable def S_X11_hold  (n : Nat) (J : Nat → Int32 → Int32 → Int32 → Int32 → Int32 → Int32 → Int32 → St → Option (Int32 × St)) : Nat → Int32 → Int32 → Int32 → Int32 → Int32 → Int32 → Int32 → St → Option (Int32 × St) := fun lb a0 a1 a2 a3 a4 a5 a6 σ => match lb with
  | 1 => B_X11_hold_1 J n  a0 a1 a2 a3 a4 a5 a6 σ
  | 2 => B_X11_hold_2 J n  a0 a1 a2 a3 σ
  | _ => none
noncomputable def L_X11_hold  (n : Nat) : Nat → Int32 → Int32 → Int32 → Int32 → Int32 → Int32 → Int32 → St → Option (Int32 × St) := Nat.rec (fun _ _ _ _ _ _ _ _ _ => none) (fun n J => S_X11_hold  n J) n
noncomputable def F_X11_hold (n : Nat) (p1 : Int32) (p2 : Int32) (σ : St) : Option (Int32 × St) := bd (F_X11_isPair n p1 σ) fun r2 s1 => if r2 = 0 then (some ((-1 : Int32), s1)) else (if p2 < 0 then (some ((-1 : Int32), s1)) else (if p2 ≤ (1 : Int32) then (gd (¬ (10 : Int32) = 0) (bnd (p1 / (10 : Int32)) fun x3 => gd (¬ (10 : Int32) = 0) (bnd (p1 - p1 / (10 : Int32) * (10 : Int32)) fun x4 => bd (F_X1_isFree n 37 x3 s1) fun r6 s5 => if r6 = 0 then (some ((-5 : Int32), s5)) else (bd (F_X1_speakerFor n 37 x4 s5) fun r8 s7 => if p2 = (1 : Int32) then (L_X11_hold  n 1 p2 x3 x4 r8 (1 : Int32) x4 x3 s7) else (L_X11_hold  n 1 p2 x3 x4 r8 (0 : Int32) x4 x3 s7))))) else (some ((-1 : Int32), s1))))
set_option maxHeartbeats 4000000 in
set_option maxRecDepth 20000 in
theorem t_X11_hold (l : Launch) {p : Program} {e : Env} {s : State} {m : MethodId} {args : Array Value} {below : List Frame} {meth : Method} {c : Code} {D : va_G} {A : Nat → Prop} {ad : Nat → Nat} {dA : Nat → ClassId}   (K : Cx p s m args meth c cX11_hold 6 (some .int) RX11 D (tysX dA) (wdX ad dA) A) {res : Int32 × St} (n : Nat) : (∀ (l2 : Int32) (l3 : Int32) (l4 : Int32) (l5 : Int32) (k0 : Int32) (k1 : Int32) (k2 : Int32) (σ : St), L_X11_hold  n 1 l2 l3 l4 l5 k0 k1 k2 σ = some res → V p l e (rmH 4) s m args below meth c 6 D (wdX ad dA) A (MQ below (QI D (wdX ad dA) A res) args s 0 0 A) 72 [(0, .ref (ad 0)), (2, .int l2), (3, .int l3), (4, .int l4), (5, .int l5)] [.int k0, .int k1, .int k2, .ref (ad 37)] σ) ∧ (∀ (l5 : Int32) (k0 : Int32) (k2 : Int32) (k3 : Int32) (σ : St), L_X11_hold  n 2 l5 k0 k2 k3 0 0 0 σ = some res → V p l e (rmH 4) s m args below meth c 6 D (wdX ad dA) A (MQ below (QI D (wdX ad dA) A res) args s 0 0 A) 117 [(5, .int l5)] [.int k0, .ref (ad 4), .int k2, .int k3, .ref (ad 1)] σ) := by
  induction n with
  | zero => exact ⟨fun _ _ _ _ _ _ _ _ h => (by cases h), fun _ _ _ _ _ h => (by cases h)⟩
  | succ n ih =>
    obtain ⟨ih_1, ih_2⟩ := ih
    refine ⟨?_, ?_⟩
    · intro l2 l3 l4 l5 k0 k1 k2 σ hM
      have hM : B_X11_hold_1 (L_X11_hold  n) n  l2 l3 l4 l5 k0 k1 k2 σ = some res := hM
      refine x_Vv (As := [.int k2, .int k1, .int k0]) (st := []) K uv_X1_settle qm_X11_266 dX11_hold_72 (rv_X1 isB_37) (fun _ h => c_X1_settle l 37 isB_37 n k2 k1 k0 σ h) rfl ⟨(Nat.le_of_ble_eq_true rfl), (Nat.le_of_ble_eq_true rfl)⟩ (Nat.le_of_ble_eq_true rfl) hM (fun s9 hM => ?_)
      refine v_aload_n K dX11_hold_75 0 rfl ?_
      refine g_X11_6 K qf_X11_49 dX11_hold_76 ?_
      refine v_iconst (v := (0 : Int32)) K dX11_hold_79 (by decide) ?_
      refine v_dup2 K dX11_hold_80 rfl rfl ?_
      refine ld_X1 K dX11_hold_81 hM (fun hM => ?_)
      refine v_iconst (v := (1 : Int32)) K dX11_hold_82 (by decide) ?_
      refine v_iadd K dX11_hold_83 ?_
      refine st_X1 K dX11_hold_84 hM (fun s10 hM => ?_)
      refine v_aload_n K dX11_hold_85 0 rfl ?_
      refine g_X11_6 K qf_X11_49 dX11_hold_86 ?_
      refine v_iconst (v := (1 : Int32)) K dX11_hold_89 (by decide) ?_
      refine v_dup2 K dX11_hold_90 rfl rfl ?_
      refine ld_X1 K dX11_hold_91 hM (fun hM => ?_)
      refine v_iload_n K dX11_hold_92 1 rfl ?_
      refine v_iadd K dX11_hold_93 ?_
      refine st_X1 K dX11_hold_94 hM (fun s11 hM => ?_)
      refine v_aload_n K dX11_hold_95 0 rfl ?_
      refine g_X11_6 K qf_X11_49 dX11_hold_96 ?_
      refine v_iconst (v := (4 : Int32)) K dX11_hold_99 (by decide) ?_
      refine v_dup2 K dX11_hold_100 rfl rfl ?_
      refine ld_X1 K dX11_hold_101 hM (fun hM => ?_)
      refine v_aload_n K dX11_hold_102 0 rfl ?_
      refine g_X11_0 K qf_X11_10 dX11_hold_103 ?_
      refine v_iload_n K dX11_hold_106 1 rfl ?_
      refine v_iconst (v := (1 : Int32)) K dX11_hold_107 (by decide) ?_
      refine v_icmp_ne K 116 dX11_hold_108 (by decide) hM (fun hM => ?_) (fun hM => ?_)
      · refine v_iload_n K dX11_hold_116 2 rfl ?_
        exact v_sub [4] rfl (ih_2 l5 l3 (gI s11 1 ((4 : Int32)).toNatClampNeg) (4 : Int32) s11 hM)
      · refine v_iload K dX11_hold_111 3 rfl ?_
        refine v_goto (tgt := 117) K dX11_hold_113 (by decide) ?_
        exact v_sub [4] rfl (ih_2 l5 l4 (gI s11 1 ((4 : Int32)).toNatClampNeg) (4 : Int32) s11 hM)
    · intro l5 k0 k2 k3 σ hM
      have hM : B_X11_hold_2 (L_X11_hold  n) n  l5 k0 k2 k3 σ = some res := hM
      refine v_iconst (v := (3 : Int32)) K dX11_hold_117 (by decide) ?_
      refine x_Vi (As := [.int k0, .int (3 : Int32)]) (st := [.int k2, .int k3, .ref (ad 1)]) K uv_X6_numberOf qm_X11_144 dX11_hold_118 rv_X6 (fun _ h => c_X6_numberOf l  n k0 (3 : Int32) σ h) rfl ⟨(Nat.le_of_ble_eq_true rfl), (Nat.le_of_ble_eq_true rfl)⟩ (Nat.le_of_ble_eq_true rfl) hM (fun r13 s12 hM => ?_)
      refine v_iadd K dX11_hold_121 ?_
      refine st_X1 K dX11_hold_122 hM (fun s14 hM => ?_)
      refine v_iload K dX11_hold_123 0 rfl ?_
      exact v_iret K rfl dX11_hold_125 hM
set_option maxHeartbeats 4000000 in
set_option maxRecDepth 20000 in
theorem c_X11_hold (l : Launch) {D : va_G} {A : Nat → Prop} {ad : Nat → Nat} {dA : Nat → ClassId}  (n : Nat) (p1 : Int32) (p2 : Int32) (σ : St) {res : Int32 × St} (hM : F_X11_hold n p1 p2 σ = some res) : MI l yX11_hold cX11_hold 6 (some .int) 4 D (tysX dA) (wdX ad dA) A [.ref (ad 0), .int p1, .int p2] σ (QI D (wdX ad dA) A res) := by
  refine mk_met (by decide +kernel) (Nat.le_of_ble_eq_true rfl) (fun p e s m below meth c K => ?_)
  have K : Cx p s m _ meth c cX11_hold 6 (some .int) RX11 D (tysX dA) (wdX ad dA) A := K
  obtain ⟨ih_1, ih_2⟩ := t_X11_hold l    K (res := res) n (below := below) (e := e)
  refine v_aload_n K dX11_hold_0 0 rfl ?_
  refine v_iload_n K dX11_hold_1 1 rfl ?_
  refine x_Vi (As := [.int p1]) (st := []) K uv_X11_isPair qm_X11_155 dX11_hold_2 rv_X11 (fun _ h => c_X11_isPair l  n p1 σ h) rfl ⟨(Nat.le_of_ble_eq_true rfl), (Nat.le_of_ble_eq_true rfl)⟩ (Nat.le_of_ble_eq_true rfl) hM (fun r2 s1 hM => ?_)
  refine v_if_eq K 17 dX11_hold_5 (by decide) hM (fun hM => ?_) (fun hM => ?_)
  · refine v_iconst (v := (-1 : Int32)) K dX11_hold_17 (by decide) ?_
    exact v_iret K rfl dX11_hold_18 hM
  · refine v_iload_n K dX11_hold_8 2 rfl ?_
    refine v_if_lt K 17 dX11_hold_9 (by decide) hM (fun hM => ?_) (fun hM => ?_)
    · refine v_iconst (v := (-1 : Int32)) K dX11_hold_17 (by decide) ?_
      exact v_iret K rfl dX11_hold_18 hM
    · refine v_iload_n K dX11_hold_12 2 rfl ?_
      refine v_iconst (v := (1 : Int32)) K dX11_hold_13 (by decide) ?_
      refine v_icmp_le K 19 dX11_hold_14 (by decide) hM (fun hM => ?_) (fun hM => ?_)
      · refine v_iload_n K dX11_hold_19 1 rfl ?_
        refine v_bipush (v := (10 : Int32)) K dX11_hold_20 (by decide) ?_
        refine v_idiv K dX11_hold_22 hM (fun hM => ?_)
        refine v_topi hM (fun x3 hM => ?_)
        refine v_istore_n K dX11_hold_23 rfl (by decide) [(3, .int x3), (0, .ref (ad 0)), (1, .int p1), (2, .int p2)] rfl ?_
        refine v_iload_n K dX11_hold_24 2 rfl ?_
        refine v_bipush (v := (10 : Int32)) K dX11_hold_25 (by decide) ?_
        refine v_irem K dX11_hold_27 hM (fun hM => ?_)
        refine v_topi hM (fun x4 hM => ?_)
        refine v_istore K dX11_hold_28 (by decide) [(4, .int x4), (3, .int x3), (0, .ref (ad 0)), (1, .int p1), (2, .int p2)] rfl ?_
        refine v_aload_n K dX11_hold_30 2 rfl ?_
        refine g_X11_4 K qf_X11_42 dX11_hold_31 ?_
        refine v_iload_n K dX11_hold_34 1 rfl ?_
        refine x_Vi (As := [.int x3]) (st := []) K uv_X1_isFree qm_X11_180 dX11_hold_35 (rv_X1 isB_37) (fun _ h => c_X1_isFree l 37 isB_37 n x3 s1 h) rfl ⟨(Nat.le_of_ble_eq_true rfl), (Nat.le_of_ble_eq_true rfl)⟩ (Nat.le_of_ble_eq_true rfl) hM (fun r6 s5 hM => ?_)
        refine v_if_ne K 44 dX11_hold_38 (by decide) hM (fun hM => ?_) (fun hM => ?_)
        · refine v_aload_n K dX11_hold_44 2 rfl ?_
          refine g_X11_4 K qf_X11_42 dX11_hold_45 ?_
          refine v_iload K dX11_hold_48 0 rfl ?_
          refine x_Vi (As := [.int x4]) (st := []) K uv_X1_speakerFor qm_X11_162 dX11_hold_50 (rv_X1 isB_37) (fun _ h => c_X1_speakerFor l 37 isB_37 n x4 s5 h) rfl ⟨(Nat.le_of_ble_eq_true rfl), (Nat.le_of_ble_eq_true rfl)⟩ (Nat.le_of_ble_eq_true rfl) hM (fun r8 s7 hM => ?_)
          refine v_istore K dX11_hold_53 (by decide) [(5, .int r8), (4, .int x4), (3, .int x3), (0, .ref (ad 0)), (1, .int p1), (2, .int p2)] rfl ?_
          refine v_aload_n K dX11_hold_55 3 rfl ?_
          refine g_X11_4 K qf_X11_42 dX11_hold_56 ?_
          refine v_iload_n K dX11_hold_59 2 rfl ?_
          refine v_iload K dX11_hold_60 1 rfl ?_
          refine v_iload_n K dX11_hold_62 5 rfl ?_
          refine v_iconst (v := (1 : Int32)) K dX11_hold_63 (by decide) ?_
          refine v_icmp_ne K 71 dX11_hold_64 (by decide) hM (fun hM => ?_) (fun hM => ?_)
          · refine v_iconst (v := (0 : Int32)) K dX11_hold_71 (by decide) ?_
            exact v_sub [3, 5, 2, 1, 0] rfl (ih_1 p2 x3 x4 r8 (0 : Int32) x4 x3 s7 hM)
          · refine v_iconst (v := (1 : Int32)) K dX11_hold_67 (by decide) ?_
            refine v_goto (tgt := 72) K dX11_hold_68 (by decide) ?_
            exact v_sub [3, 5, 2, 1, 0] rfl (ih_1 p2 x3 x4 r8 (1 : Int32) x4 x3 s7 hM)
        · refine v_bipush (v := (-5 : Int32)) K dX11_hold_41 (by decide) ?_
          exact v_iret K rfl dX11_hold_43 hM
      · refine v_iconst (v := (-1 : Int32)) K dX11_hold_17 (by decide) ?_
        exact v_iret K rfl dX11_hold_18 hM
noncomputable def F_X11_release (n : Nat) (p1 : Int32) (σ : St) : Option (Int32 × St) := bd (F_X6_has n p1 σ) fun r2 s1 => if r2 = 0 then (some ((-2000000000 : Int32), s1)) else (bd (F_X1_boundTo n 37 p1 s1) fun r4 s3 => bd (F_X1_setFree n 37 p1 s3) fun _ s5 => gd (vp_in (3 : Int32) 5) (gd (vp_in (3 : Int32) 5) (bnd (sI s5 1 ((3 : Int32)).toNatClampNeg ((gI s5 1 ((3 : Int32)).toNatClampNeg) + (1 : Int32))) fun s6 => some (r4, s6))))
set_option maxHeartbeats 4000000 in
set_option maxRecDepth 20000 in
theorem c_X11_release (l : Launch) {D : va_G} {A : Nat → Prop} {ad : Nat → Nat} {dA : Nat → ClassId}  (n : Nat) (p1 : Int32) (σ : St) {res : Int32 × St} (hM : F_X11_release n p1 σ = some res) : MI l yX11_release cX11_release 3 (some .int) 3 D (tysX dA) (wdX ad dA) A [.ref (ad 0), .int p1] σ (QI D (wdX ad dA) A res) := by
  refine mk_met (by decide +kernel) (Nat.le_of_ble_eq_true rfl) (fun p e s m below meth c K => ?_)
  have K : Cx p s m _ meth c cX11_release 3 (some .int) RX11 D (tysX dA) (wdX ad dA) A := K
  refine v_aload_n K dX11_release_0 0 rfl ?_
  refine g_X11_0 K qf_X11_10 dX11_release_1 ?_
  refine v_iload_n K dX11_release_4 1 rfl ?_
  refine x_Vi (As := [.int p1]) (st := []) K uv_X6_has qm_X11_132 dX11_release_5 rv_X6 (fun _ h => c_X6_has l  n p1 σ h) rfl ⟨(Nat.le_of_ble_eq_true rfl), (Nat.le_of_ble_eq_true rfl)⟩ (Nat.le_of_ble_eq_true rfl) hM (fun r2 s1 hM => ?_)
  refine v_if_ne K 14 dX11_release_8 (by decide) hM (fun hM => ?_) (fun hM => ?_)
  · refine v_aload_n K dX11_release_14 0 rfl ?_
    refine g_X11_4 K qf_X11_42 dX11_release_15 ?_
    refine v_iload_n K dX11_release_18 1 rfl ?_
    refine x_Vi (As := [.int p1]) (st := []) K uv_X1_boundTo qm_X11_140 dX11_release_19 (rv_X1 isB_37) (fun _ h => c_X1_boundTo l 37 isB_37 n p1 s1 h) rfl ⟨(Nat.le_of_ble_eq_true rfl), (Nat.le_of_ble_eq_true rfl)⟩ (Nat.le_of_ble_eq_true rfl) hM (fun r4 s3 hM => ?_)
    refine v_istore_n K dX11_release_22 rfl (by decide) [(2, .int r4), (0, .ref (ad 0)), (1, .int p1)] rfl ?_
    refine v_aload_n K dX11_release_23 1 rfl ?_
    refine g_X11_4 K qf_X11_42 dX11_release_24 ?_
    refine v_iload_n K dX11_release_27 2 rfl ?_
    refine x_Vv (As := [.int p1]) (st := []) K uv_X1_setFree qm_X11_270 dX11_release_28 (rv_X1 isB_37) (fun _ h => c_X1_setFree l 37 isB_37 n p1 s3 h) rfl ⟨(Nat.le_of_ble_eq_true rfl), (Nat.le_of_ble_eq_true rfl)⟩ (Nat.le_of_ble_eq_true rfl) hM (fun s5 hM => ?_)
    refine v_aload_n K dX11_release_31 1 rfl ?_
    refine g_X11_6 K qf_X11_49 dX11_release_32 ?_
    refine v_iconst (v := (3 : Int32)) K dX11_release_35 (by decide) ?_
    refine v_dup2 K dX11_release_36 rfl rfl ?_
    refine ld_X1 K dX11_release_37 hM (fun hM => ?_)
    refine v_iconst (v := (1 : Int32)) K dX11_release_38 (by decide) ?_
    refine v_iadd K dX11_release_39 ?_
    refine st_X1 K dX11_release_40 hM (fun s6 hM => ?_)
    refine v_iload_n K dX11_release_41 0 rfl ?_
    exact v_iret K rfl dX11_release_42 hM
  · refine v_ldc (v := (-2000000000 : Int32)) K qc_X11_139 dX11_release_11 ?_
    exact v_iret K rfl dX11_release_13 hM
noncomputable def F_X11_year (n : Nat)  (σ : St) : Option (Int32 × St) := bd (F_X1_howManyBound n 37 σ) fun r2 s1 => bd (F_X1_beginYear n 37 s1) fun _ s3 => gd (vp_in (2 : Int32) 5) (gd (vp_in (2 : Int32) 5) (bnd (sI s3 1 ((2 : Int32)).toNatClampNeg ((gI s3 1 ((2 : Int32)).toNatClampNeg) + (1 : Int32))) fun s4 => some (r2, s4)))
set_option maxHeartbeats 4000000 in
set_option maxRecDepth 20000 in
theorem c_X11_year (l : Launch) {D : va_G} {A : Nat → Prop} {ad : Nat → Nat} {dA : Nat → ClassId}  (n : Nat)  (σ : St) {res : Int32 × St} (hM : F_X11_year n  σ = some res) : MI l yX11_year cX11_year 2 (some .int) 2 D (tysX dA) (wdX ad dA) A [.ref (ad 0)] σ (QI D (wdX ad dA) A res) := by
  refine mk_met (by decide +kernel) (Nat.le_of_ble_eq_true rfl) (fun p e s m below meth c K => ?_)
  have K : Cx p s m _ meth c cX11_year 2 (some .int) RX11 D (tysX dA) (wdX ad dA) A := K
  refine v_aload_n K dX11_year_0 0 rfl ?_
  refine g_X11_4 K qf_X11_42 dX11_year_1 ?_
  refine x_Vi (As := []) (st := []) K uv_X1_howManyBound qm_X11_274 dX11_year_4 (rv_X1 isB_37) (fun _ h => c_X1_howManyBound l 37 isB_37 n  σ h) rfl ⟨(Nat.le_of_ble_eq_true rfl), (Nat.le_of_ble_eq_true rfl)⟩ (Nat.le_of_ble_eq_true rfl) hM (fun r2 s1 hM => ?_)
  refine v_istore_n K dX11_year_7 rfl (by decide) [(1, .int r2), (0, .ref (ad 0))] rfl ?_
  refine v_aload_n K dX11_year_8 1 rfl ?_
  refine g_X11_4 K qf_X11_42 dX11_year_9 ?_
  refine x_Vv (As := []) (st := []) K uv_X1_beginYear qm_X11_277 dX11_year_12 (rv_X1 isB_37) (fun _ h => c_X1_beginYear l 37 isB_37 n  s1 h) rfl ⟨(Nat.le_of_ble_eq_true rfl), (Nat.le_of_ble_eq_true rfl)⟩ (Nat.le_of_ble_eq_true rfl) hM (fun s3 hM => ?_)
  refine v_aload_n K dX11_year_15 1 rfl ?_
  refine g_X11_6 K qf_X11_49 dX11_year_16 ?_
  refine v_iconst (v := (2 : Int32)) K dX11_year_19 (by decide) ?_
  refine v_dup2 K dX11_year_20 rfl rfl ?_
  refine ld_X1 K dX11_year_21 hM (fun hM => ?_)
  refine v_iconst (v := (1 : Int32)) K dX11_year_22 (by decide) ?_
  refine v_iadd K dX11_year_23 ?_
  refine st_X1 K dX11_year_24 hM (fun s4 hM => ?_)
  refine v_iload_n K dX11_year_25 0 rfl ?_
  exact v_iret K rfl dX11_year_26 hM
noncomputable def F_X11_led (n : Nat) (p1 : Int32) (σ : St) : Option (Int32 × St) := if p1 < 0 then (some ((-1 : Int32), σ)) else (if p1 < (5 : Int32) then (gd (vp_in p1 5) (some ((gI σ 1 (p1).toNatClampNeg), σ))) else (some ((-1 : Int32), σ)))
set_option maxHeartbeats 4000000 in
set_option maxRecDepth 20000 in
theorem c_X11_led (l : Launch) {D : va_G} {A : Nat → Prop} {ad : Nat → Nat} {dA : Nat → ClassId}  (n : Nat) (p1 : Int32) (σ : St) {res : Int32 × St} (hM : F_X11_led n p1 σ = some res) : MI l yX11_led cX11_led 2 (some .int) 1 D (tysX dA) (wdX ad dA) A [.ref (ad 0), .int p1] σ (QI D (wdX ad dA) A res) := by
  refine mk_met (by decide +kernel) (Nat.le_of_ble_eq_true rfl) (fun p e s m below meth c K => ?_)
  have K : Cx p s m _ meth c cX11_led 2 (some .int) RX11 D (tysX dA) (wdX ad dA) A := K
  refine v_iload_n K dX11_led_0 1 rfl ?_
  refine v_if_lt K 9 dX11_led_1 (by decide) hM (fun hM => ?_) (fun hM => ?_)
  · refine v_iconst (v := (-1 : Int32)) K dX11_led_9 (by decide) ?_
    refine v_goto (tgt := 19) K dX11_led_10 (by decide) ?_
    exact v_iret K rfl dX11_led_19 hM
  · refine v_iload_n K dX11_led_4 1 rfl ?_
    refine v_iconst (v := (5 : Int32)) K dX11_led_5 (by decide) ?_
    refine v_icmp_lt K 13 dX11_led_6 (by decide) hM (fun hM => ?_) (fun hM => ?_)
    · refine v_aload_n K dX11_led_13 0 rfl ?_
      refine g_X11_6 K qf_X11_49 dX11_led_14 ?_
      refine v_iload_n K dX11_led_17 1 rfl ?_
      refine ld_X1 K dX11_led_18 hM (fun hM => ?_)
      exact v_iret K rfl dX11_led_19 hM
    · refine v_iconst (v := (-1 : Int32)) K dX11_led_9 (by decide) ?_
      refine v_goto (tgt := 19) K dX11_led_10 (by decide) ?_
      exact v_iret K rfl dX11_led_19 hM
noncomputable def F_X11_image (n : Nat)  (σ : St) : Option (Int32 × St) := bd (F_X1_copyFrom n 39 37 σ) fun _ s1 => gd (¬ (0 : Int32) < 0 ∧ ¬ (0 : Int32) < 0 ∧ ¬ (5 : Int32) < 0 ∧ ((0 : Int32)).toNatClampNeg + ((5 : Int32)).toNatClampNeg ≤ 5 ∧ ((0 : Int32)).toNatClampNeg + ((5 : Int32)).toNatClampNeg ≤ 5 ∧ ∀ i, i < ((5 : Int32)).toNatClampNeg → fits .int (.int (gI s1 1 (((0 : Int32)).toNatClampNeg + i))) = true) (bnd (cI s1 1 2 ((0 : Int32)).toNatClampNeg ((0 : Int32)).toNatClampNeg ((5 : Int32)).toNatClampNeg) fun s2 => bnd (sI s2 0 8 (1 : Int32)) fun s3 => gd (vp_in (0 : Int32) 5) (some ((gI s3 1 ((0 : Int32)).toNatClampNeg), s3)))
set_option maxHeartbeats 4000000 in
set_option maxRecDepth 20000 in
theorem c_X11_image (l : Launch) {D : va_G} {A : Nat → Prop} {ad : Nat → Nat} {dA : Nat → ClassId}  (n : Nat)  (σ : St) {res : Int32 × St} (hM : F_X11_image n  σ = some res) : MI l yX11_image cX11_image 1 (some .int) 2 D (tysX dA) (wdX ad dA) A [.ref (ad 0)] σ (QI D (wdX ad dA) A res) := by
  refine mk_met (by decide +kernel) (Nat.le_of_ble_eq_true rfl) (fun p e s m below meth c K => ?_)
  have K : Cx p s m _ meth c cX11_image 1 (some .int) RX11 D (tysX dA) (wdX ad dA) A := K
  refine v_aload_n K dX11_image_0 0 rfl ?_
  refine g_X11_5 K qf_X11_46 dX11_image_1 ?_
  refine v_aload_n K dX11_image_4 0 rfl ?_
  refine g_X11_4 K qf_X11_42 dX11_image_5 ?_
  refine x_Vv (As := [.ref (ad 37)]) (st := []) K uv_X1_copyFrom qm_X11_280 dX11_image_8 (rv_X1 isB_39) (fun _ h => c_X1_copyFrom l 39 isB_39 37 isB_37 n  σ h) rfl ⟨(Nat.le_of_ble_eq_true rfl), (Nat.le_of_ble_eq_true rfl)⟩ (Nat.le_of_ble_eq_true rfl) hM (fun s1 hM => ?_)
  refine v_aload_n K dX11_image_11 0 rfl ?_
  refine g_X11_6 K qf_X11_49 dX11_image_12 ?_
  refine v_iconst (v := (0 : Int32)) K dX11_image_15 (by decide) ?_
  refine v_aload_n K dX11_image_16 0 rfl ?_
  refine g_X11_7 K qf_X11_53 dX11_image_17 ?_
  refine v_iconst (v := (0 : Int32)) K dX11_image_20 (by decide) ?_
  refine v_iconst (v := (5 : Int32)) K dX11_image_21 (by decide) ?_
  refine cp_1_2 K qm_X11_284 dX11_image_22 (Nat.le_of_ble_eq_true rfl) (Nat.le_of_ble_eq_true rfl) hM (fun s2 hM => ?_)
  refine v_aload_n K dX11_image_25 0 rfl ?_
  refine v_iconst (v := (1 : Int32)) K dX11_image_26 (by decide) ?_
  refine p_X11_8 K qf_X11_56 rfl rfl dX11_image_27 hM (fun s3 hM => ?_)
  refine v_aload_n K dX11_image_30 0 rfl ?_
  refine g_X11_6 K qf_X11_49 dX11_image_31 ?_
  refine v_iconst (v := (0 : Int32)) K dX11_image_34 (by decide) ?_
  refine ld_X1 K dX11_image_35 hM (fun hM => ?_)
  exact v_iret K rfl dX11_image_36 hM
noncomputable def F_X11_back (n : Nat)  (σ : St) : Option (Int32 × St) := if (gI σ 0 8) = 0 then (some ((-5 : Int32), σ)) else (bd (F_X1_copyFrom n 37 39 σ) fun _ s1 => gd (¬ (0 : Int32) < 0 ∧ ¬ (0 : Int32) < 0 ∧ ¬ (5 : Int32) < 0 ∧ ((0 : Int32)).toNatClampNeg + ((5 : Int32)).toNatClampNeg ≤ 5 ∧ ((0 : Int32)).toNatClampNeg + ((5 : Int32)).toNatClampNeg ≤ 5 ∧ ∀ i, i < ((5 : Int32)).toNatClampNeg → fits .int (.int (gI s1 2 (((0 : Int32)).toNatClampNeg + i))) = true) (bnd (cI s1 2 1 ((0 : Int32)).toNatClampNeg ((0 : Int32)).toNatClampNeg ((5 : Int32)).toNatClampNeg) fun s2 => gd (vp_in (0 : Int32) 5) (some ((gI s2 1 ((0 : Int32)).toNatClampNeg), s2))))
set_option maxHeartbeats 4000000 in
set_option maxRecDepth 20000 in
theorem c_X11_back (l : Launch) {D : va_G} {A : Nat → Prop} {ad : Nat → Nat} {dA : Nat → ClassId}  (n : Nat)  (σ : St) {res : Int32 × St} (hM : F_X11_back n  σ = some res) : MI l yX11_back cX11_back 1 (some .int) 2 D (tysX dA) (wdX ad dA) A [.ref (ad 0)] σ (QI D (wdX ad dA) A res) := by
  refine mk_met (by decide +kernel) (Nat.le_of_ble_eq_true rfl) (fun p e s m below meth c K => ?_)
  have K : Cx p s m _ meth c cX11_back 1 (some .int) RX11 D (tysX dA) (wdX ad dA) A := K
  refine v_aload_n K dX11_back_0 0 rfl ?_
  refine g_X11_8 K qf_X11_56 dX11_back_1 ?_
  refine v_if_ne K 10 dX11_back_4 (by decide) hM (fun hM => ?_) (fun hM => ?_)
  · refine v_aload_n K dX11_back_10 0 rfl ?_
    refine g_X11_4 K qf_X11_42 dX11_back_11 ?_
    refine v_aload_n K dX11_back_14 0 rfl ?_
    refine g_X11_5 K qf_X11_46 dX11_back_15 ?_
    refine x_Vv (As := [.ref (ad 39)]) (st := []) K uv_X1_copyFrom qm_X11_280 dX11_back_18 (rv_X1 isB_37) (fun _ h => c_X1_copyFrom l 37 isB_37 39 isB_39 n  σ h) rfl ⟨(Nat.le_of_ble_eq_true rfl), (Nat.le_of_ble_eq_true rfl)⟩ (Nat.le_of_ble_eq_true rfl) hM (fun s1 hM => ?_)
    refine v_aload_n K dX11_back_21 0 rfl ?_
    refine g_X11_7 K qf_X11_53 dX11_back_22 ?_
    refine v_iconst (v := (0 : Int32)) K dX11_back_25 (by decide) ?_
    refine v_aload_n K dX11_back_26 0 rfl ?_
    refine g_X11_6 K qf_X11_49 dX11_back_27 ?_
    refine v_iconst (v := (0 : Int32)) K dX11_back_30 (by decide) ?_
    refine v_iconst (v := (5 : Int32)) K dX11_back_31 (by decide) ?_
    refine cp_2_1 K qm_X11_284 dX11_back_32 (Nat.le_of_ble_eq_true rfl) (Nat.le_of_ble_eq_true rfl) hM (fun s2 hM => ?_)
    refine v_aload_n K dX11_back_35 0 rfl ?_
    refine g_X11_6 K qf_X11_49 dX11_back_36 ?_
    refine v_iconst (v := (0 : Int32)) K dX11_back_39 (by decide) ?_
    refine ld_X1 K dX11_back_40 hM (fun hM => ?_)
    exact v_iret K rfl dX11_back_41 hM
  · refine v_bipush (v := (-5 : Int32)) K dX11_back_7 (by decide) ?_
    exact v_iret K rfl dX11_back_9 hM
noncomputable def F_X11_undo (n : Nat)  (σ : St) : Option (Int32 × St) := bd (F_X6_undoable n  σ) fun r2 s1 => if r2 = 0 then (some ((-5 : Int32), s1)) else (bd (F_X6_stepBack n  s1) fun r4 s3 => some (r4, s3))
set_option maxHeartbeats 4000000 in
set_option maxRecDepth 20000 in
theorem c_X11_undo (l : Launch) {D : va_G} {A : Nat → Prop} {ad : Nat → Nat} {dA : Nat → ClassId}  (n : Nat)  (σ : St) {res : Int32 × St} (hM : F_X11_undo n  σ = some res) : MI l yX11_undo cX11_undo 1 (some .int) 2 D (tysX dA) (wdX ad dA) A [.ref (ad 0)] σ (QI D (wdX ad dA) A res) := by
  refine mk_met (by decide +kernel) (Nat.le_of_ble_eq_true rfl) (fun p e s m below meth c K => ?_)
  have K : Cx p s m _ meth c cX11_undo 1 (some .int) RX11 D (tysX dA) (wdX ad dA) A := K
  refine v_aload_n K dX11_undo_0 0 rfl ?_
  refine g_X11_0 K qf_X11_10 dX11_undo_1 ?_
  refine x_Vi (As := []) (st := []) K uv_X6_undoable qm_X11_290 dX11_undo_4 rv_X6 (fun _ h => c_X6_undoable l  n  σ h) rfl ⟨(Nat.le_of_ble_eq_true rfl), (Nat.le_of_ble_eq_true rfl)⟩ (Nat.le_of_ble_eq_true rfl) hM (fun r2 s1 hM => ?_)
  refine v_if_ne K 15 dX11_undo_7 (by decide) hM (fun hM => ?_) (fun hM => ?_)
  · refine v_aload_n K dX11_undo_15 0 rfl ?_
    refine g_X11_0 K qf_X11_10 dX11_undo_16 ?_
    refine x_Vi (As := []) (st := []) K uv_X6_stepBack qm_X11_293 dX11_undo_19 rv_X6 (fun _ h => c_X6_stepBack l  n  s1 h) rfl ⟨(Nat.le_of_ble_eq_true rfl), (Nat.le_of_ble_eq_true rfl)⟩ (Nat.le_of_ble_eq_true rfl) hM (fun r4 s3 hM => ?_)
    exact v_iret K rfl dX11_undo_22 hM
  · refine v_bipush (v := (-5 : Int32)) K dX11_undo_10 (by decide) ?_
    refine v_goto (tgt := 22) K dX11_undo_12 (by decide) ?_
    exact v_iret K rfl dX11_undo_22 hM
noncomputable def F_X11_redo (n : Nat)  (σ : St) : Option (Int32 × St) := bd (F_X6_redoable n  σ) fun r2 s1 => if r2 = 0 then (some ((-5 : Int32), s1)) else (bd (F_X6_stepAgain n  s1) fun r4 s3 => some (r4, s3))
set_option maxHeartbeats 4000000 in
set_option maxRecDepth 20000 in
theorem c_X11_redo (l : Launch) {D : va_G} {A : Nat → Prop} {ad : Nat → Nat} {dA : Nat → ClassId}  (n : Nat)  (σ : St) {res : Int32 × St} (hM : F_X11_redo n  σ = some res) : MI l yX11_redo cX11_redo 1 (some .int) 2 D (tysX dA) (wdX ad dA) A [.ref (ad 0)] σ (QI D (wdX ad dA) A res) := by
  refine mk_met (by decide +kernel) (Nat.le_of_ble_eq_true rfl) (fun p e s m below meth c K => ?_)
  have K : Cx p s m _ meth c cX11_redo 1 (some .int) RX11 D (tysX dA) (wdX ad dA) A := K
  refine v_aload_n K dX11_redo_0 0 rfl ?_
  refine g_X11_0 K qf_X11_10 dX11_redo_1 ?_
  refine x_Vi (As := []) (st := []) K uv_X6_redoable qm_X11_296 dX11_redo_4 rv_X6 (fun _ h => c_X6_redoable l  n  σ h) rfl ⟨(Nat.le_of_ble_eq_true rfl), (Nat.le_of_ble_eq_true rfl)⟩ (Nat.le_of_ble_eq_true rfl) hM (fun r2 s1 hM => ?_)
  refine v_if_ne K 15 dX11_redo_7 (by decide) hM (fun hM => ?_) (fun hM => ?_)
  · refine v_aload_n K dX11_redo_15 0 rfl ?_
    refine g_X11_0 K qf_X11_10 dX11_redo_16 ?_
    refine x_Vi (As := []) (st := []) K uv_X6_stepAgain qm_X11_299 dX11_redo_19 rv_X6 (fun _ h => c_X6_stepAgain l  n  s1 h) rfl ⟨(Nat.le_of_ble_eq_true rfl), (Nat.le_of_ble_eq_true rfl)⟩ (Nat.le_of_ble_eq_true rfl) hM (fun r4 s3 hM => ?_)
    exact v_iret K rfl dX11_redo_22 hM
  · refine v_bipush (v := (-5 : Int32)) K dX11_redo_10 (by decide) ?_
    refine v_goto (tgt := 22) K dX11_redo_12 (by decide) ?_
    exact v_iret K rfl dX11_redo_22 hM
noncomputable def F_X11_body (n : Nat) (p1 : Int32) (σ : St) : Option (Int32 × St) := bd (F_X0_isKind n p1 σ) fun r2 s1 => if r2 = 0 then (some ((-1 : Int32), s1)) else (bd (F_X0_isFull n  s1) fun r4 s3 => if r4 = 0 then (bd (F_X0_make n p1 s3) fun r6 s5 => some (r6, s5)) else (some ((-3 : Int32), s3)))
set_option maxHeartbeats 4000000 in
set_option maxRecDepth 20000 in
theorem c_X11_body (l : Launch) {D : va_G} {A : Nat → Prop} {ad : Nat → Nat} {dA : Nat → ClassId}  (n : Nat) (p1 : Int32) (σ : St) {res : Int32 × St} (hM : F_X11_body n p1 σ = some res) : MI l yX11_body cX11_body 2 (some .int) 3 D (tysX dA) (wdX ad dA) A [.ref (ad 0), .int p1] σ (QI D (wdX ad dA) A res) := by
  refine mk_met (by decide +kernel) (Nat.le_of_ble_eq_true rfl) (fun p e s m below meth c K => ?_)
  have K : Cx p s m _ meth c cX11_body 2 (some .int) RX11 D (tysX dA) (wdX ad dA) A := K
  refine v_iload_n K dX11_body_0 1 rfl ?_
  refine x_Si (As := [.int p1]) (st := []) K us_X0_isKind qm_X11_302 dX11_body_1 (fun _ h => c_X0_isKind l  n p1 σ h) rfl ⟨(Nat.le_of_ble_eq_true rfl), (Nat.le_of_ble_eq_true rfl)⟩ (Nat.le_of_ble_eq_true rfl) hM (fun r2 s1 hM => ?_)
  refine v_if_ne K 9 dX11_body_4 (by decide) hM (fun hM => ?_) (fun hM => ?_)
  · refine v_aload_n K dX11_body_9 0 rfl ?_
    refine g_X11_13 K qf_X11_93 dX11_body_10 ?_
    refine x_Vi (As := []) (st := []) K uv_X0_isFull qm_X11_305 dX11_body_13 rv_X0 (fun _ h => c_X0_isFull l  n  s1 h) rfl ⟨(Nat.le_of_ble_eq_true rfl), (Nat.le_of_ble_eq_true rfl)⟩ (Nat.le_of_ble_eq_true rfl) hM (fun r4 s3 hM => ?_)
    refine v_if_eq K 24 dX11_body_16 (by decide) hM (fun hM => ?_) (fun hM => ?_)
    · refine v_aload_n K dX11_body_24 0 rfl ?_
      refine g_X11_13 K qf_X11_93 dX11_body_25 ?_
      refine v_iload_n K dX11_body_28 1 rfl ?_
      refine x_Vi (As := [.int p1]) (st := []) K uv_X0_make qm_X11_306 dX11_body_29 rv_X0 (fun _ h => c_X0_make l  n p1 s3 h) rfl ⟨(Nat.le_of_ble_eq_true rfl), (Nat.le_of_ble_eq_true rfl)⟩ (Nat.le_of_ble_eq_true rfl) hM (fun r6 s5 hM => ?_)
      exact v_iret K rfl dX11_body_32 hM
    · refine v_bipush (v := (-3 : Int32)) K dX11_body_19 (by decide) ?_
      refine v_goto (tgt := 32) K dX11_body_21 (by decide) ?_
      exact v_iret K rfl dX11_body_32 hM
  · refine v_iconst (v := (-1 : Int32)) K dX11_body_7 (by decide) ?_
    exact v_iret K rfl dX11_body_8 hM
noncomputable def F_X11_act (n : Nat) (p1 : Int32) (p2 : Int32) (p3 : Int32) (σ : St) : Option (Int32 × St) := bd (F_X0_perform n p1 p2 p3 σ) fun r2 s1 => some (r2, s1)
set_option maxHeartbeats 4000000 in
set_option maxRecDepth 20000 in
theorem c_X11_act (l : Launch) {D : va_G} {A : Nat → Prop} {ad : Nat → Nat} {dA : Nat → ClassId}  (n : Nat) (p1 : Int32) (p2 : Int32) (p3 : Int32) (σ : St) {res : Int32 × St} (hM : F_X11_act n p1 p2 p3 σ = some res) : MI l yX11_act cX11_act 4 (some .int) 105 D (tysX dA) (wdX ad dA) A [.ref (ad 0), .int p1, .int p2, .int p3] σ (QI D (wdX ad dA) A res) := by
  refine mk_met (by decide +kernel) (Nat.le_of_ble_eq_true rfl) (fun p e s m below meth c K => ?_)
  have K : Cx p s m _ meth c cX11_act 4 (some .int) RX11 D (tysX dA) (wdX ad dA) A := K
  refine v_aload_n K dX11_act_0 0 rfl ?_
  refine g_X11_13 K qf_X11_93 dX11_act_1 ?_
  refine v_iload_n K dX11_act_4 1 rfl ?_
  refine v_iload_n K dX11_act_5 2 rfl ?_
  refine v_iload_n K dX11_act_6 3 rfl ?_
  refine x_Vi (As := [.int p1, .int p2, .int p3]) (st := []) K uv_X0_perform qm_X11_309 dX11_act_7 rv_X0 (fun _ h => c_X0_perform l  n p1 p2 p3 σ h) rfl ⟨(Nat.le_of_ble_eq_true rfl), (Nat.le_of_ble_eq_true rfl)⟩ (Nat.le_of_ble_eq_true rfl) hM (fun r2 s1 hM => ?_)
  exact v_iret K rfl dX11_act_10 hM
noncomputable def F_X11_trace (n : Nat) (p1 : Int32) (σ : St) : Option (Int32 × St) := if p1 < 0 then (some ((-1 : Int32), σ)) else (bd (F_X0_traced n  σ) fun r2 s1 => if p1 < r2 then (bd (F_X0_tracedAt n p1 s1) fun r4 s3 => some (r4, s3)) else (some ((-1 : Int32), s1)))
set_option maxHeartbeats 4000000 in
set_option maxRecDepth 20000 in
theorem c_X11_trace (l : Launch) {D : va_G} {A : Nat → Prop} {ad : Nat → Nat} {dA : Nat → ClassId}  (n : Nat) (p1 : Int32) (σ : St) {res : Int32 × St} (hM : F_X11_trace n p1 σ = some res) : MI l yX11_trace cX11_trace 2 (some .int) 3 D (tysX dA) (wdX ad dA) A [.ref (ad 0), .int p1] σ (QI D (wdX ad dA) A res) := by
  refine mk_met (by decide +kernel) (Nat.le_of_ble_eq_true rfl) (fun p e s m below meth c K => ?_)
  have K : Cx p s m _ meth c cX11_trace 2 (some .int) RX11 D (tysX dA) (wdX ad dA) A := K
  refine v_iload_n K dX11_trace_0 1 rfl ?_
  refine v_if_lt K 15 dX11_trace_1 (by decide) hM (fun hM => ?_) (fun hM => ?_)
  · refine v_iconst (v := (-1 : Int32)) K dX11_trace_15 (by decide) ?_
    refine v_goto (tgt := 27) K dX11_trace_16 (by decide) ?_
    exact v_iret K rfl dX11_trace_27 hM
  · refine v_iload_n K dX11_trace_4 1 rfl ?_
    refine v_aload_n K dX11_trace_5 0 rfl ?_
    refine g_X11_13 K qf_X11_93 dX11_trace_6 ?_
    refine x_Vi (As := []) (st := [.int p1]) K uv_X0_traced qm_X11_312 dX11_trace_9 rv_X0 (fun _ h => c_X0_traced l  n  σ h) rfl ⟨(Nat.le_of_ble_eq_true rfl), (Nat.le_of_ble_eq_true rfl)⟩ (Nat.le_of_ble_eq_true rfl) hM (fun r2 s1 hM => ?_)
    refine v_icmp_lt K 19 dX11_trace_12 (by decide) hM (fun hM => ?_) (fun hM => ?_)
    · refine v_aload_n K dX11_trace_19 0 rfl ?_
      refine g_X11_13 K qf_X11_93 dX11_trace_20 ?_
      refine v_iload_n K dX11_trace_23 1 rfl ?_
      refine x_Vi (As := [.int p1]) (st := []) K uv_X0_tracedAt qm_X11_315 dX11_trace_24 rv_X0 (fun _ h => c_X0_tracedAt l  n p1 s1 h) rfl ⟨(Nat.le_of_ble_eq_true rfl), (Nat.le_of_ble_eq_true rfl)⟩ (Nat.le_of_ble_eq_true rfl) hM (fun r4 s3 hM => ?_)
      exact v_iret K rfl dX11_trace_27 hM
    · refine v_iconst (v := (-1 : Int32)) K dX11_trace_15 (by decide) ?_
      refine v_goto (tgt := 27) K dX11_trace_16 (by decide) ?_
      exact v_iret K rfl dX11_trace_27 hM
noncomputable def B_X11_keep_1 (J : Nat → Int32 → Int32 → St → Option (Int32 × St)) (n : Nat)  (l1 : Int32) (l2 : Int32) (σ : St) : Option (Int32 × St) := if l2 = (-1 : Int32) then (gd (vp_in l1 6) (bd (F_X10_clear n (63 + 2 * l1.toNatClampNeg) σ) fun _ s8 => some ((1 : Int32), s8))) else (gd (vp_in l1 6) (bd (F_X10_holdBody n (63 + 2 * l1.toNatClampNeg) l2 σ) fun _ s6 => some ((1 : Int32), s6)))
noncomputable def S_X11_keep  (n : Nat) (J : Nat → Int32 → Int32 → St → Option (Int32 × St)) : Nat → Int32 → Int32 → St → Option (Int32 × St) := fun lb a0 a1 σ => match lb with
  | 1 => B_X11_keep_1 J n  a0 a1 σ
  | _ => none
noncomputable def L_X11_keep  (n : Nat) : Nat → Int32 → Int32 → St → Option (Int32 × St) := Nat.rec (fun _ _ _ _ => none) (fun n J => S_X11_keep  n J) n
noncomputable def F_X11_keep (n : Nat) (p1 : Int32) (p2 : Int32) (σ : St) : Option (Int32 × St) := bd (F_X11_isShelf n p1 σ) fun r2 s1 => if r2 = 0 then (some ((-1 : Int32), s1)) else (if p2 = (-1 : Int32) then (L_X11_keep  n 1 p1 p2 s1) else (bd (F_X0_has n p2 s1) fun r4 s3 => if r4 = 0 then (some ((-1 : Int32), s3)) else (L_X11_keep  n 1 p1 p2 s3)))
set_option maxHeartbeats 4000000 in
set_option maxRecDepth 20000 in
theorem t_X11_keep (l : Launch) {p : Program} {e : Env} {s : State} {m : MethodId} {args : Array Value} {below : List Frame} {meth : Method} {c : Code} {D : va_G} {A : Nat → Prop} {ad : Nat → Nat} {dA : Nat → ClassId}   (K : Cx p s m args meth c cX11_keep 3 (some .int) RX11 D (tysX dA) (wdX ad dA) A) {res : Int32 × St} (n : Nat) : (∀ (l1 : Int32) (l2 : Int32) (σ : St), L_X11_keep  n 1 l1 l2 σ = some res → V p l e (rmH 3) s m args below meth c 3 D (wdX ad dA) A (MQ below (QI D (wdX ad dA) A res) args s 0 0 A) 25 [(0, .ref (ad 0)), (1, .int l1), (2, .int l2)] [] σ) := by
  induction n with
  | zero => exact (fun _ _ _ h => (by cases h))
  | succ n ih =>
    have ih_1 := ih
    · intro l1 l2 σ hM
      have hM : B_X11_keep_1 (L_X11_keep  n) n  l1 l2 σ = some res := hM
      refine v_iload_n K dX11_keep_25 2 rfl ?_
      refine v_iconst (v := (-1 : Int32)) K dX11_keep_26 (by decide) ?_
      refine v_icmp_ne K 42 dX11_keep_27 (by decide) hM (fun hM => ?_) (fun hM => ?_)
      · refine v_aload_n K dX11_keep_42 0 rfl ?_
        refine g_X11_14 K qf_X11_99 dX11_keep_43 ?_
        refine v_iload_n K dX11_keep_46 1 rfl ?_
        refine ld_X3 K dX11_keep_47 hM (fun hi5 hM => ?_)
        refine v_iload_n K dX11_keep_48 2 rfl ?_
        refine x_Vv (As := [.int l2]) (st := []) K uv_X10_holdBody qm_X11_322 dX11_keep_49 (rv_X10 (isS_in hi5)) (fun _ h => c_X10_holdBody l (63 + 2 * l1.toNatClampNeg) (isS_in hi5) n l2 σ h) rfl ⟨(Nat.le_of_ble_eq_true rfl), (Nat.le_of_ble_eq_true rfl)⟩ (Nat.le_of_ble_eq_true rfl) hM (fun s6 hM => ?_)
        refine v_iconst (v := (1 : Int32)) K dX11_keep_52 (by decide) ?_
        exact v_iret K rfl dX11_keep_53 hM
      · refine v_aload_n K dX11_keep_30 0 rfl ?_
        refine g_X11_14 K qf_X11_99 dX11_keep_31 ?_
        refine v_iload_n K dX11_keep_34 1 rfl ?_
        refine ld_X3 K dX11_keep_35 hM (fun hi7 hM => ?_)
        refine x_Vv (As := []) (st := []) K uv_X10_clear qm_X11_319 dX11_keep_36 (rv_X10 (isS_in hi7)) (fun _ h => c_X10_clear l (63 + 2 * l1.toNatClampNeg) (isS_in hi7) n  σ h) rfl ⟨(Nat.le_of_ble_eq_true rfl), (Nat.le_of_ble_eq_true rfl)⟩ (Nat.le_of_ble_eq_true rfl) hM (fun s8 hM => ?_)
        refine v_goto (tgt := 52) K dX11_keep_39 (by decide) ?_
        refine v_iconst (v := (1 : Int32)) K dX11_keep_52 (by decide) ?_
        exact v_iret K rfl dX11_keep_53 hM
set_option maxHeartbeats 4000000 in
set_option maxRecDepth 20000 in
theorem c_X11_keep (l : Launch) {D : va_G} {A : Nat → Prop} {ad : Nat → Nat} {dA : Nat → ClassId}  (n : Nat) (p1 : Int32) (p2 : Int32) (σ : St) {res : Int32 × St} (hM : F_X11_keep n p1 p2 σ = some res) : MI l yX11_keep cX11_keep 3 (some .int) 3 D (tysX dA) (wdX ad dA) A [.ref (ad 0), .int p1, .int p2] σ (QI D (wdX ad dA) A res) := by
  refine mk_met (by decide +kernel) (Nat.le_of_ble_eq_true rfl) (fun p e s m below meth c K => ?_)
  have K : Cx p s m _ meth c cX11_keep 3 (some .int) RX11 D (tysX dA) (wdX ad dA) A := K
  have ih_1 := t_X11_keep l    K (res := res) n (below := below) (e := e)
  refine v_iload_n K dX11_keep_0 1 rfl ?_
  refine x_Si (As := [.int p1]) (st := []) K us_X11_isShelf qm_X11_116 dX11_keep_1 (fun _ h => c_X11_isShelf l  n p1 σ h) rfl ⟨(Nat.le_of_ble_eq_true rfl), (Nat.le_of_ble_eq_true rfl)⟩ (Nat.le_of_ble_eq_true rfl) hM (fun r2 s1 hM => ?_)
  refine v_if_eq K 23 dX11_keep_4 (by decide) hM (fun hM => ?_) (fun hM => ?_)
  · refine v_iconst (v := (-1 : Int32)) K dX11_keep_23 (by decide) ?_
    exact v_iret K rfl dX11_keep_24 hM
  · refine v_iload_n K dX11_keep_7 2 rfl ?_
    refine v_iconst (v := (-1 : Int32)) K dX11_keep_8 (by decide) ?_
    refine v_icmp_eq K 25 dX11_keep_9 (by decide) hM (fun hM => ?_) (fun hM => ?_)
    · exact v_sub [0, 1, 2] rfl (ih_1 p1 p2 s1 hM)
    · refine v_aload_n K dX11_keep_12 0 rfl ?_
      refine g_X11_13 K qf_X11_93 dX11_keep_13 ?_
      refine v_iload_n K dX11_keep_16 2 rfl ?_
      refine x_Vi (As := [.int p2]) (st := []) K uv_X0_has qm_X11_318 dX11_keep_17 rv_X0 (fun _ h => c_X0_has l  n p2 s1 h) rfl ⟨(Nat.le_of_ble_eq_true rfl), (Nat.le_of_ble_eq_true rfl)⟩ (Nat.le_of_ble_eq_true rfl) hM (fun r4 s3 hM => ?_)
      refine v_if_ne K 25 dX11_keep_20 (by decide) hM (fun hM => ?_) (fun hM => ?_)
      · exact v_sub [0, 1, 2] rfl (ih_1 p1 p2 s3 hM)
      · refine v_iconst (v := (-1 : Int32)) K dX11_keep_23 (by decide) ?_
        exact v_iret K rfl dX11_keep_24 hM
noncomputable def F_X11_row (n : Nat) (p1 : Int32) (p2 : Int32) (p3 : Int32) (σ : St) : Option (Int32 × St) := bd (F_X11_isShelf n p1 σ) fun r2 s1 => if r2 = 0 then (some ((-1 : Int32), s1)) else (bd (F_X10_isSort n p2 s1) fun r4 s3 => if r4 = 0 then (some ((-1 : Int32), s3)) else (if p3 ≤ (60 : Int32) then (if 0 ≤ p3 then (gd (vp_in p1 6) (bd (F_X10_holdRow n (63 + 2 * p1.toNatClampNeg) p2 p3 s3) fun _ s6 => some ((1 : Int32), s6))) else (some ((-14 : Int32), s3))) else (some ((-1 : Int32), s3))))
set_option maxHeartbeats 4000000 in
set_option maxRecDepth 20000 in
theorem c_X11_row (l : Launch) {D : va_G} {A : Nat → Prop} {ad : Nat → Nat} {dA : Nat → ClassId}  (n : Nat) (p1 : Int32) (p2 : Int32) (p3 : Int32) (σ : St) {res : Int32 × St} (hM : F_X11_row n p1 p2 p3 σ = some res) : MI l yX11_row cX11_row 4 (some .int) 3 D (tysX dA) (wdX ad dA) A [.ref (ad 0), .int p1, .int p2, .int p3] σ (QI D (wdX ad dA) A res) := by
  refine mk_met (by decide +kernel) (Nat.le_of_ble_eq_true rfl) (fun p e s m below meth c K => ?_)
  have K : Cx p s m _ meth c cX11_row 4 (some .int) RX11 D (tysX dA) (wdX ad dA) A := K
  refine v_iload_n K dX11_row_0 1 rfl ?_
  refine x_Si (As := [.int p1]) (st := []) K us_X11_isShelf qm_X11_116 dX11_row_1 (fun _ h => c_X11_isShelf l  n p1 σ h) rfl ⟨(Nat.le_of_ble_eq_true rfl), (Nat.le_of_ble_eq_true rfl)⟩ (Nat.le_of_ble_eq_true rfl) hM (fun r2 s1 hM => ?_)
  refine v_if_eq K 20 dX11_row_4 (by decide) hM (fun hM => ?_) (fun hM => ?_)
  · refine v_iconst (v := (-1 : Int32)) K dX11_row_20 (by decide) ?_
    exact v_iret K rfl dX11_row_21 hM
  · refine v_iload_n K dX11_row_7 2 rfl ?_
    refine x_Si (As := [.int p2]) (st := []) K us_X10_isSort qm_X11_325 dX11_row_8 (fun _ h => c_X10_isSort l  n p2 s1 h) rfl ⟨(Nat.le_of_ble_eq_true rfl), (Nat.le_of_ble_eq_true rfl)⟩ (Nat.le_of_ble_eq_true rfl) hM (fun r4 s3 hM => ?_)
    refine v_if_eq K 20 dX11_row_11 (by decide) hM (fun hM => ?_) (fun hM => ?_)
    · refine v_iconst (v := (-1 : Int32)) K dX11_row_20 (by decide) ?_
      exact v_iret K rfl dX11_row_21 hM
    · refine v_iload_n K dX11_row_14 3 rfl ?_
      refine v_bipush (v := (60 : Int32)) K dX11_row_15 (by decide) ?_
      refine v_icmp_le K 22 dX11_row_17 (by decide) hM (fun hM => ?_) (fun hM => ?_)
      · refine v_iload_n K dX11_row_22 3 rfl ?_
        refine v_if_ge K 29 dX11_row_23 (by decide) hM (fun hM => ?_) (fun hM => ?_)
        · refine v_aload_n K dX11_row_29 0 rfl ?_
          refine g_X11_14 K qf_X11_99 dX11_row_30 ?_
          refine v_iload_n K dX11_row_33 1 rfl ?_
          refine ld_X3 K dX11_row_34 hM (fun hi5 hM => ?_)
          refine v_iload_n K dX11_row_35 2 rfl ?_
          refine v_iload_n K dX11_row_36 3 rfl ?_
          refine x_Vv (As := [.int p2, .int p3]) (st := []) K uv_X10_holdRow qm_X11_328 dX11_row_37 (rv_X10 (isS_in hi5)) (fun _ h => c_X10_holdRow l (63 + 2 * p1.toNatClampNeg) (isS_in hi5) n p2 p3 s3 h) rfl ⟨(Nat.le_of_ble_eq_true rfl), (Nat.le_of_ble_eq_true rfl)⟩ (Nat.le_of_ble_eq_true rfl) hM (fun s6 hM => ?_)
          refine v_iconst (v := (1 : Int32)) K dX11_row_40 (by decide) ?_
          exact v_iret K rfl dX11_row_41 hM
        · refine v_bipush (v := (-14 : Int32)) K dX11_row_26 (by decide) ?_
          exact v_iret K rfl dX11_row_28 hM
      · refine v_iconst (v := (-1 : Int32)) K dX11_row_20 (by decide) ?_
        exact v_iret K rfl dX11_row_21 hM
noncomputable def F_X11_put (n : Nat) (p1 : Int32) (p2 : Int32) (p3 : Int64) (σ : St) : Option (Int32 × St) := bd (F_X11_isShelf n p1 σ) fun r2 s1 => if r2 = 0 then (some ((-1 : Int32), s1)) else (gd (vp_in p1 6) (bd (F_X10_refusalOfPlace n (63 + 2 * p1.toNatClampNeg) p2 s1) fun r5 s4 => if 0 ≤ r5 then (gd (vp_in p1 6) (bd (F_X10_set n (63 + 2 * p1.toNatClampNeg) p2 p3 s4) fun _ s7 => some ((1 : Int32), s7))) else (some (r5, s4))))
set_option maxHeartbeats 4000000 in
set_option maxRecDepth 20000 in
theorem c_X11_put (l : Launch) {D : va_G} {A : Nat → Prop} {ad : Nat → Nat} {dA : Nat → ClassId}  (n : Nat) (p1 : Int32) (p2 : Int32) (p3 : Int64) (σ : St) {res : Int32 × St} (hM : F_X11_put n p1 p2 p3 σ = some res) : MI l yX11_put cX11_put 6 (some .int) 3 D (tysX dA) (wdX ad dA) A [.ref (ad 0), .int p1, .int p2, .long p3] σ (QI D (wdX ad dA) A res) := by
  refine mk_met (by decide +kernel) (Nat.le_of_ble_eq_true rfl) (fun p e s m below meth c K => ?_)
  have K : Cx p s m _ meth c cX11_put 6 (some .int) RX11 D (tysX dA) (wdX ad dA) A := K
  refine v_iload_n K dX11_put_0 1 rfl ?_
  refine x_Si (As := [.int p1]) (st := []) K us_X11_isShelf qm_X11_116 dX11_put_1 (fun _ h => c_X11_isShelf l  n p1 σ h) rfl ⟨(Nat.le_of_ble_eq_true rfl), (Nat.le_of_ble_eq_true rfl)⟩ (Nat.le_of_ble_eq_true rfl) hM (fun r2 s1 hM => ?_)
  refine v_if_ne K 9 dX11_put_4 (by decide) hM (fun hM => ?_) (fun hM => ?_)
  · refine v_aload_n K dX11_put_9 0 rfl ?_
    refine g_X11_14 K qf_X11_99 dX11_put_10 ?_
    refine v_iload_n K dX11_put_13 1 rfl ?_
    refine ld_X3 K dX11_put_14 hM (fun hi3 hM => ?_)
    refine v_iload_n K dX11_put_15 2 rfl ?_
    refine x_Vi (As := [.int p2]) (st := []) K uv_X10_refusalOfPlace qm_X11_332 dX11_put_16 (rv_X10 (isS_in hi3)) (fun _ h => c_X10_refusalOfPlace l (63 + 2 * p1.toNatClampNeg) (isS_in hi3) n p2 s1 h) rfl ⟨(Nat.le_of_ble_eq_true rfl), (Nat.le_of_ble_eq_true rfl)⟩ (Nat.le_of_ble_eq_true rfl) hM (fun r5 s4 hM => ?_)
    refine v_istore K dX11_put_19 (by decide) [(5, .int r5), (0, .ref (ad 0)), (1, .int p1), (2, .int p2), (3, .long p3)] rfl ?_
    refine v_iload K dX11_put_21 0 rfl ?_
    refine v_if_ge K 29 dX11_put_23 (by decide) hM (fun hM => ?_) (fun hM => ?_)
    · refine v_aload_n K dX11_put_29 1 rfl ?_
      refine g_X11_14 K qf_X11_99 dX11_put_30 ?_
      refine v_iload_n K dX11_put_33 2 rfl ?_
      refine ld_X3 K dX11_put_34 hM (fun hi6 hM => ?_)
      refine v_iload_n K dX11_put_35 3 rfl ?_
      refine v_lload_n K dX11_put_36 4 rfl ?_
      refine x_Vv (As := [.int p2, .long p3]) (st := []) K uv_X10_set qm_X11_335 dX11_put_37 (rv_X10 (isS_in hi6)) (fun _ h => c_X10_set l (63 + 2 * p1.toNatClampNeg) (isS_in hi6) n p2 p3 s4 h) rfl ⟨(Nat.le_of_ble_eq_true rfl), (Nat.le_of_ble_eq_true rfl)⟩ (Nat.le_of_ble_eq_true rfl) hM (fun s7 hM => ?_)
      refine v_iconst (v := (1 : Int32)) K dX11_put_40 (by decide) ?_
      exact v_iret K rfl dX11_put_41 hM
    · refine v_iload K dX11_put_26 0 rfl ?_
      exact v_iret K rfl dX11_put_28 hM
  · refine v_iconst (v := (-1 : Int32)) K dX11_put_7 (by decide) ?_
    exact v_iret K rfl dX11_put_8 hM
noncomputable def F_X11_element (n : Nat) (p1 : Int32) (p2 : Int32) (σ : St) : Option (Int64 × St) := bd (F_X11_isShelf n p1 σ) fun r2 s1 => if r2 = 0 then (some ((-9223372036854775808 : Int64), s1)) else (gd (vp_in p1 6) (bd (F_X10_refusalOfPlace n (63 + 2 * p1.toNatClampNeg) p2 s1) fun r5 s4 => if 0 ≤ r5 then (gd (vp_in p1 6) (bd (F_X10_get n (63 + 2 * p1.toNatClampNeg) p2 s4) fun r8 s7 => some (r8, s7))) else (some ((-9223372036854775808 : Int64), s4))))
set_option maxHeartbeats 4000000 in
set_option maxRecDepth 20000 in
theorem c_X11_element (l : Launch) {D : va_G} {A : Nat → Prop} {ad : Nat → Nat} {dA : Nat → ClassId}  (n : Nat) (p1 : Int32) (p2 : Int32) (σ : St) {res : Int64 × St} (hM : F_X11_element n p1 p2 σ = some res) : MI l yX11_element cX11_element 3 (some .long) 3 D (tysX dA) (wdX ad dA) A [.ref (ad 0), .int p1, .int p2] σ (QL D (wdX ad dA) A res) := by
  refine mk_met (by decide +kernel) (Nat.le_of_ble_eq_true rfl) (fun p e s m below meth c K => ?_)
  have K : Cx p s m _ meth c cX11_element 3 (some .long) RX11 D (tysX dA) (wdX ad dA) A := K
  refine v_iload_n K dX11_element_0 1 rfl ?_
  refine x_Si (As := [.int p1]) (st := []) K us_X11_isShelf qm_X11_116 dX11_element_1 (fun _ h => c_X11_isShelf l  n p1 σ h) rfl ⟨(Nat.le_of_ble_eq_true rfl), (Nat.le_of_ble_eq_true rfl)⟩ (Nat.le_of_ble_eq_true rfl) hM (fun r2 s1 hM => ?_)
  refine v_if_eq K 20 dX11_element_4 (by decide) hM (fun hM => ?_) (fun hM => ?_)
  · refine v_ldc2 (v := (-9223372036854775808 : Int64)) K ql_X11_195 dX11_element_20 ?_
    exact v_lret K rfl dX11_element_23 hM
  · refine v_aload_n K dX11_element_7 0 rfl ?_
    refine g_X11_14 K qf_X11_99 dX11_element_8 ?_
    refine v_iload_n K dX11_element_11 1 rfl ?_
    refine ld_X3 K dX11_element_12 hM (fun hi3 hM => ?_)
    refine v_iload_n K dX11_element_13 2 rfl ?_
    refine x_Vi (As := [.int p2]) (st := []) K uv_X10_refusalOfPlace qm_X11_332 dX11_element_14 (rv_X10 (isS_in hi3)) (fun _ h => c_X10_refusalOfPlace l (63 + 2 * p1.toNatClampNeg) (isS_in hi3) n p2 s1 h) rfl ⟨(Nat.le_of_ble_eq_true rfl), (Nat.le_of_ble_eq_true rfl)⟩ (Nat.le_of_ble_eq_true rfl) hM (fun r5 s4 hM => ?_)
    refine v_if_ge K 24 dX11_element_17 (by decide) hM (fun hM => ?_) (fun hM => ?_)
    · refine v_aload_n K dX11_element_24 0 rfl ?_
      refine g_X11_14 K qf_X11_99 dX11_element_25 ?_
      refine v_iload_n K dX11_element_28 1 rfl ?_
      refine ld_X3 K dX11_element_29 hM (fun hi6 hM => ?_)
      refine v_iload_n K dX11_element_30 2 rfl ?_
      refine x_Vl (As := [.int p2]) (st := []) K uv_X10_get qm_X11_339 dX11_element_31 (rv_X10 (isS_in hi6)) (fun _ h => c_X10_get l (63 + 2 * p1.toNatClampNeg) (isS_in hi6) n p2 s4 h) rfl ⟨(Nat.le_of_ble_eq_true rfl), (Nat.le_of_ble_eq_true rfl)⟩ (Nat.le_of_ble_eq_true rfl) hM (fun r8 s7 hM => ?_)
      exact v_lret K rfl dX11_element_34 hM
    · refine v_ldc2 (v := (-9223372036854775808 : Int64)) K ql_X11_195 dX11_element_20 ?_
      exact v_lret K rfl dX11_element_23 hM
noncomputable def F_X11_shift (n : Nat) (p1 : Int32) (p2 : Int32) (p3 : Int32) (p4 : Int32) (p5 : Int32) (σ : St) : Option (Int32 × St) := bd (F_X11_isShelf n p1 σ) fun r2 s1 => if r2 = 0 then (some ((-1 : Int32), s1)) else (bd (F_X11_isShelf n p3 s1) fun r4 s3 => if r4 = 0 then (some ((-1 : Int32), s3)) else (gd (vp_in p1 6) (gd (vp_in p3 6) (bd (F_X10_isEmpty n (63 + 2 * p1.toNatClampNeg) s3) fun r8 s7 => if r8 = 0 then (bd (F_X10_isEmpty n (63 + 2 * p3.toNatClampNeg) s7) fun r10 s9 => if r10 = 0 then (bd (F_X10_isLike n (63 + 2 * p1.toNatClampNeg) (63 + 2 * p3.toNatClampNeg) s9) fun r12 s11 => if r12 = 0 then (some ((-12 : Int32), s11)) else (bd (F_X10_hasPart n (63 + 2 * p1.toNatClampNeg) p2 p5 s11) fun r14 s13 => if r14 = 0 then (some ((-13 : Int32), s13)) else (bd (F_X10_hasPart n (63 + 2 * p3.toNatClampNeg) p4 p5 s13) fun r16 s15 => if r16 = 0 then (some ((-13 : Int32), s15)) else (bd (F_X10_copyPart n (63 + 2 * p1.toNatClampNeg) (63 + 2 * p3.toNatClampNeg) p2 p4 p5 s15) fun _ s17 => some (p5, s17))))) else (some ((-11 : Int32), s9))) else (some ((-11 : Int32), s7))))))
set_option maxHeartbeats 4000000 in
set_option maxRecDepth 20000 in
theorem c_X11_shift (l : Launch) {D : va_G} {A : Nat → Prop} {ad : Nat → Nat} {dA : Nat → ClassId}  (n : Nat) (p1 : Int32) (p2 : Int32) (p3 : Int32) (p4 : Int32) (p5 : Int32) (σ : St) {res : Int32 × St} (hM : F_X11_shift n p1 p2 p3 p4 p5 σ = some res) : MI l yX11_shift cX11_shift 8 (some .int) 3 D (tysX dA) (wdX ad dA) A [.ref (ad 0), .int p1, .int p2, .int p3, .int p4, .int p5] σ (QI D (wdX ad dA) A res) := by
  refine mk_met (by decide +kernel) (Nat.le_of_ble_eq_true rfl) (fun p e s m below meth c K => ?_)
  have K : Cx p s m _ meth c cX11_shift 8 (some .int) RX11 D (tysX dA) (wdX ad dA) A := K
  refine v_iload_n K dX11_shift_0 1 rfl ?_
  refine x_Si (As := [.int p1]) (st := []) K us_X11_isShelf qm_X11_116 dX11_shift_1 (fun _ h => c_X11_isShelf l  n p1 σ h) rfl ⟨(Nat.le_of_ble_eq_true rfl), (Nat.le_of_ble_eq_true rfl)⟩ (Nat.le_of_ble_eq_true rfl) hM (fun r2 s1 hM => ?_)
  refine v_if_eq K 14 dX11_shift_4 (by decide) hM (fun hM => ?_) (fun hM => ?_)
  · refine v_iconst (v := (-1 : Int32)) K dX11_shift_14 (by decide) ?_
    exact v_iret K rfl dX11_shift_15 hM
  · refine v_iload_n K dX11_shift_7 3 rfl ?_
    refine x_Si (As := [.int p3]) (st := []) K us_X11_isShelf qm_X11_116 dX11_shift_8 (fun _ h => c_X11_isShelf l  n p3 s1 h) rfl ⟨(Nat.le_of_ble_eq_true rfl), (Nat.le_of_ble_eq_true rfl)⟩ (Nat.le_of_ble_eq_true rfl) hM (fun r4 s3 hM => ?_)
    refine v_if_ne K 16 dX11_shift_11 (by decide) hM (fun hM => ?_) (fun hM => ?_)
    · refine v_aload_n K dX11_shift_16 0 rfl ?_
      refine g_X11_14 K qf_X11_99 dX11_shift_17 ?_
      refine v_iload_n K dX11_shift_20 1 rfl ?_
      refine ld_X3 K dX11_shift_21 hM (fun hi5 hM => ?_)
      refine v_astore K dX11_shift_22 (by decide) [(6, .ref (ad (63 + 2 * p1.toNatClampNeg))), (0, .ref (ad 0)), (1, .int p1), (2, .int p2), (3, .int p3), (4, .int p4), (5, .int p5)] rfl ?_
      refine v_aload_n K dX11_shift_24 1 rfl ?_
      refine g_X11_14 K qf_X11_99 dX11_shift_25 ?_
      refine v_iload_n K dX11_shift_28 4 rfl ?_
      refine ld_X3 K dX11_shift_29 hM (fun hi6 hM => ?_)
      refine v_astore K dX11_shift_30 (by decide) [(7, .ref (ad (63 + 2 * p3.toNatClampNeg))), (6, .ref (ad (63 + 2 * p1.toNatClampNeg))), (0, .ref (ad 0)), (1, .int p1), (2, .int p2), (3, .int p3), (4, .int p4), (5, .int p5)] rfl ?_
      refine v_aload K dX11_shift_32 1 rfl ?_
      refine x_Vi (As := []) (st := []) K uv_X10_isEmpty qm_X11_120 dX11_shift_34 (rv_X10 (isS_in hi5)) (fun _ h => c_X10_isEmpty l (63 + 2 * p1.toNatClampNeg) (isS_in hi5) n  s3 h) rfl ⟨(Nat.le_of_ble_eq_true rfl), (Nat.le_of_ble_eq_true rfl)⟩ (Nat.le_of_ble_eq_true rfl) hM (fun r8 s7 hM => ?_)
      refine v_if_ne K 48 dX11_shift_37 (by decide) hM (fun hM => ?_) (fun hM => ?_)
      · refine v_bipush (v := (-11 : Int32)) K dX11_shift_48 (by decide) ?_
        exact v_iret K rfl dX11_shift_50 hM
      · refine v_aload K dX11_shift_40 0 rfl ?_
        refine x_Vi (As := []) (st := []) K uv_X10_isEmpty qm_X11_120 dX11_shift_42 (rv_X10 (isS_in hi6)) (fun _ h => c_X10_isEmpty l (63 + 2 * p3.toNatClampNeg) (isS_in hi6) n  s7 h) rfl ⟨(Nat.le_of_ble_eq_true rfl), (Nat.le_of_ble_eq_true rfl)⟩ (Nat.le_of_ble_eq_true rfl) hM (fun r10 s9 hM => ?_)
        refine v_if_eq K 51 dX11_shift_45 (by decide) hM (fun hM => ?_) (fun hM => ?_)
        · refine v_aload K dX11_shift_51 1 rfl ?_
          refine v_aload K dX11_shift_53 0 rfl ?_
          refine x_Vi (As := [.ref (ad (63 + 2 * p3.toNatClampNeg))]) (st := []) K uv_X10_isLike qm_X11_343 dX11_shift_55 (rv_X10 (isS_in hi5)) (fun _ h => c_X10_isLike l (63 + 2 * p1.toNatClampNeg) (isS_in hi5) (63 + 2 * p3.toNatClampNeg) (isS_in hi6) n  s9 h) rfl ⟨(Nat.le_of_ble_eq_true rfl), (Nat.le_of_ble_eq_true rfl)⟩ (Nat.le_of_ble_eq_true rfl) hM (fun r12 s11 hM => ?_)
          refine v_if_ne K 64 dX11_shift_58 (by decide) hM (fun hM => ?_) (fun hM => ?_)
          · refine v_aload K dX11_shift_64 1 rfl ?_
            refine v_iload_n K dX11_shift_66 4 rfl ?_
            refine v_iload K dX11_shift_67 7 rfl ?_
            refine x_Vi (As := [.int p2, .int p5]) (st := []) K uv_X10_hasPart qm_X11_347 dX11_shift_69 (rv_X10 (isS_in hi5)) (fun _ h => c_X10_hasPart l (63 + 2 * p1.toNatClampNeg) (isS_in hi5) n p2 p5 s11 h) rfl ⟨(Nat.le_of_ble_eq_true rfl), (Nat.le_of_ble_eq_true rfl)⟩ (Nat.le_of_ble_eq_true rfl) hM (fun r14 s13 hM => ?_)
            refine v_if_eq K 87 dX11_shift_72 (by decide) hM (fun hM => ?_) (fun hM => ?_)
            · refine v_bipush (v := (-13 : Int32)) K dX11_shift_87 (by decide) ?_
              exact v_iret K rfl dX11_shift_89 hM
            · refine v_aload K dX11_shift_75 0 rfl ?_
              refine v_iload K dX11_shift_77 6 rfl ?_
              refine v_iload K dX11_shift_79 7 rfl ?_
              refine x_Vi (As := [.int p4, .int p5]) (st := []) K uv_X10_hasPart qm_X11_347 dX11_shift_81 (rv_X10 (isS_in hi6)) (fun _ h => c_X10_hasPart l (63 + 2 * p3.toNatClampNeg) (isS_in hi6) n p4 p5 s13 h) rfl ⟨(Nat.le_of_ble_eq_true rfl), (Nat.le_of_ble_eq_true rfl)⟩ (Nat.le_of_ble_eq_true rfl) hM (fun r16 s15 hM => ?_)
              refine v_if_ne K 90 dX11_shift_84 (by decide) hM (fun hM => ?_) (fun hM => ?_)
              · refine v_aload K dX11_shift_90 1 rfl ?_
                refine v_iload_n K dX11_shift_92 4 rfl ?_
                refine v_aload K dX11_shift_93 0 rfl ?_
                refine v_iload K dX11_shift_95 6 rfl ?_
                refine v_iload K dX11_shift_97 7 rfl ?_
                refine x_Vv (As := [.int p2, .ref (ad (63 + 2 * p3.toNatClampNeg)), .int p4, .int p5]) (st := []) K uv_X10_copyPart qm_X11_350 dX11_shift_99 (rv_X10 (isS_in hi5)) (fun _ h => c_X10_copyPart l (63 + 2 * p1.toNatClampNeg) (isS_in hi5) (63 + 2 * p3.toNatClampNeg) (isS_in hi6) n p2 p4 p5 s15 h) rfl ⟨(Nat.le_of_ble_eq_true rfl), (Nat.le_of_ble_eq_true rfl)⟩ (Nat.le_of_ble_eq_true rfl) hM (fun s17 hM => ?_)
                refine v_iload K dX11_shift_102 7 rfl ?_
                exact v_iret K rfl dX11_shift_104 hM
              · refine v_bipush (v := (-13 : Int32)) K dX11_shift_87 (by decide) ?_
                exact v_iret K rfl dX11_shift_89 hM
          · refine v_bipush (v := (-12 : Int32)) K dX11_shift_61 (by decide) ?_
            exact v_iret K rfl dX11_shift_63 hM
        · refine v_bipush (v := (-11 : Int32)) K dX11_shift_48 (by decide) ?_
          exact v_iret K rfl dX11_shift_50 hM
    · refine v_iconst (v := (-1 : Int32)) K dX11_shift_14 (by decide) ?_
      exact v_iret K rfl dX11_shift_15 hM
noncomputable def F_X11_taken (n : Nat) (p1 : Int32) (p2 : Int32) (σ : St) : Option (Int32 × St) := bd (F_X11_isShelf n p1 σ) fun r2 s1 => if r2 = 0 then (some ((-1 : Int32), s1)) else (bd (F_X0_isKind n p2 s1) fun r4 s3 => if r4 = 0 then (some ((-1 : Int32), s3)) else (gd (vp_in p1 6) (bd (F_X10_isEmpty n (63 + 2 * p1.toNatClampNeg) s3) fun r7 s6 => if r7 = 0 then (gd (vp_in p1 6) (bd (F_X10_heldBody n (63 + 2 * p1.toNatClampNeg) s6) fun r10 s9 => bd (F_X0_kindOf n r10 s9) fun r12 s11 => bd (F_X0_isUnder n r12 p2 s11) fun r14 s13 => if r14 = 0 then (some ((-12 : Int32), s13)) else (some (r12, s13)))) else (some ((-11 : Int32), s6)))))
set_option maxHeartbeats 4000000 in
set_option maxRecDepth 20000 in
theorem c_X11_taken (l : Launch) {D : va_G} {A : Nat → Prop} {ad : Nat → Nat} {dA : Nat → ClassId}  (n : Nat) (p1 : Int32) (p2 : Int32) (σ : St) {res : Int32 × St} (hM : F_X11_taken n p1 p2 σ = some res) : MI l yX11_taken cX11_taken 4 (some .int) 3 D (tysX dA) (wdX ad dA) A [.ref (ad 0), .int p1, .int p2] σ (QI D (wdX ad dA) A res) := by
  refine mk_met (by decide +kernel) (Nat.le_of_ble_eq_true rfl) (fun p e s m below meth c K => ?_)
  have K : Cx p s m _ meth c cX11_taken 4 (some .int) RX11 D (tysX dA) (wdX ad dA) A := K
  refine v_iload_n K dX11_taken_0 1 rfl ?_
  refine x_Si (As := [.int p1]) (st := []) K us_X11_isShelf qm_X11_116 dX11_taken_1 (fun _ h => c_X11_isShelf l  n p1 σ h) rfl ⟨(Nat.le_of_ble_eq_true rfl), (Nat.le_of_ble_eq_true rfl)⟩ (Nat.le_of_ble_eq_true rfl) hM (fun r2 s1 hM => ?_)
  refine v_if_eq K 14 dX11_taken_4 (by decide) hM (fun hM => ?_) (fun hM => ?_)
  · refine v_iconst (v := (-1 : Int32)) K dX11_taken_14 (by decide) ?_
    exact v_iret K rfl dX11_taken_15 hM
  · refine v_iload_n K dX11_taken_7 2 rfl ?_
    refine x_Si (As := [.int p2]) (st := []) K us_X0_isKind qm_X11_302 dX11_taken_8 (fun _ h => c_X0_isKind l  n p2 s1 h) rfl ⟨(Nat.le_of_ble_eq_true rfl), (Nat.le_of_ble_eq_true rfl)⟩ (Nat.le_of_ble_eq_true rfl) hM (fun r4 s3 hM => ?_)
    refine v_if_ne K 16 dX11_taken_11 (by decide) hM (fun hM => ?_) (fun hM => ?_)
    · refine v_aload_n K dX11_taken_16 0 rfl ?_
      refine g_X11_14 K qf_X11_99 dX11_taken_17 ?_
      refine v_iload_n K dX11_taken_20 1 rfl ?_
      refine ld_X3 K dX11_taken_21 hM (fun hi5 hM => ?_)
      refine x_Vi (As := []) (st := []) K uv_X10_isEmpty qm_X11_120 dX11_taken_22 (rv_X10 (isS_in hi5)) (fun _ h => c_X10_isEmpty l (63 + 2 * p1.toNatClampNeg) (isS_in hi5) n  s3 h) rfl ⟨(Nat.le_of_ble_eq_true rfl), (Nat.le_of_ble_eq_true rfl)⟩ (Nat.le_of_ble_eq_true rfl) hM (fun r7 s6 hM => ?_)
      refine v_if_eq K 31 dX11_taken_25 (by decide) hM (fun hM => ?_) (fun hM => ?_)
      · refine v_aload_n K dX11_taken_31 0 rfl ?_
        refine g_X11_13 K qf_X11_93 dX11_taken_32 ?_
        refine v_aload_n K dX11_taken_35 0 rfl ?_
        refine g_X11_14 K qf_X11_99 dX11_taken_36 ?_
        refine v_iload_n K dX11_taken_39 1 rfl ?_
        refine ld_X3 K dX11_taken_40 hM (fun hi8 hM => ?_)
        refine x_Vi (As := []) (st := [.ref (ad 24)]) K uv_X10_heldBody qm_X11_354 dX11_taken_41 (rv_X10 (isS_in hi8)) (fun _ h => c_X10_heldBody l (63 + 2 * p1.toNatClampNeg) (isS_in hi8) n  s6 h) rfl ⟨(Nat.le_of_ble_eq_true rfl), (Nat.le_of_ble_eq_true rfl)⟩ (Nat.le_of_ble_eq_true rfl) hM (fun r10 s9 hM => ?_)
        refine x_Vi (As := [.int r10]) (st := []) K uv_X0_kindOf qm_X11_357 dX11_taken_44 rv_X0 (fun _ h => c_X0_kindOf l  n r10 s9 h) rfl ⟨(Nat.le_of_ble_eq_true rfl), (Nat.le_of_ble_eq_true rfl)⟩ (Nat.le_of_ble_eq_true rfl) hM (fun r12 s11 hM => ?_)
        refine v_istore_n K dX11_taken_47 rfl (by decide) [(3, .int r12), (0, .ref (ad 0)), (1, .int p1), (2, .int p2)] rfl ?_
        refine v_iload_n K dX11_taken_48 0 rfl ?_
        refine v_iload_n K dX11_taken_49 3 rfl ?_
        refine x_Si (As := [.int r12, .int p2]) (st := []) K us_X0_isUnder qm_X11_360 dX11_taken_50 (fun _ h => c_X0_isUnder l  n r12 p2 s11 h) rfl ⟨(Nat.le_of_ble_eq_true rfl), (Nat.le_of_ble_eq_true rfl)⟩ (Nat.le_of_ble_eq_true rfl) hM (fun r14 s13 hM => ?_)
        refine v_if_eq K 60 dX11_taken_53 (by decide) hM (fun hM => ?_) (fun hM => ?_)
        · refine v_bipush (v := (-12 : Int32)) K dX11_taken_60 (by decide) ?_
          exact v_iret K rfl dX11_taken_62 hM
        · refine v_iload_n K dX11_taken_56 0 rfl ?_
          refine v_goto (tgt := 62) K dX11_taken_57 (by decide) ?_
          exact v_iret K rfl dX11_taken_62 hM
      · refine v_bipush (v := (-11 : Int32)) K dX11_taken_28 (by decide) ?_
        exact v_iret K rfl dX11_taken_30 hM
    · refine v_iconst (v := (-1 : Int32)) K dX11_taken_14 (by decide) ?_
      exact v_iret K rfl dX11_taken_15 hM
noncomputable def F_X11_count (n : Nat) (p1 : Int32) (σ : St) : Option (Int32 × St) := if p1 = (0 : Int32) then (bd (F_X6_size n  σ) fun r2 s1 => some (r2, s1)) else (if p1 = (1 : Int32) then (bd (F_X1_howManyBound n 37 σ) fun r5 s4 => some (r5, s4)) else (if p1 = (2 : Int32) then (bd (F_X8_letters n  σ) fun r8 s7 => some (r8, s7)) else (if p1 = (3 : Int32) then (bd (F_X6_undoable n  σ) fun r11 s10 => some (r11, s10)) else (if p1 = (4 : Int32) then (bd (F_X0_size n  σ) fun r14 s13 => some (r14, s13)) else (if p1 = (5 : Int32) then (bd (F_X0_ran n  σ) fun r17 s16 => some (r17, s16)) else (some ((-1 : Int32), σ)))))))
set_option maxHeartbeats 4000000 in
set_option maxRecDepth 20000 in
theorem c_X11_count (l : Launch) {D : va_G} {A : Nat → Prop} {ad : Nat → Nat} {dA : Nat → ClassId}  (n : Nat) (p1 : Int32) (σ : St) {res : Int32 × St} (hM : F_X11_count n p1 σ = some res) : MI l yX11_count cX11_count 2 (some .int) 2 D (tysX dA) (wdX ad dA) A [.ref (ad 0), .int p1] σ (QI D (wdX ad dA) A res) := by
  refine mk_met (by decide +kernel) (Nat.le_of_ble_eq_true rfl) (fun p e s m below meth c K => ?_)
  have K : Cx p s m _ meth c cX11_count 2 (some .int) RX11 D (tysX dA) (wdX ad dA) A := K
  refine v_iload_n K dX11_count_0 1 rfl ?_
  rcases ite_inv hM with ⟨hx3, hM⟩ | ⟨hx3, hM⟩
  · refine v_tabI K dX11_count_1 (k := (0 : Int32)) hx3 (by decide) (by decide) (off := 39) (by decide) (tgt := 40) (by decide) ?_
    refine v_aload_n K dX11_count_40 0 rfl ?_
    refine g_X11_0 K qf_X11_10 dX11_count_41 ?_
    refine x_Vi (As := []) (st := []) K uv_X6_size qm_X11_183 dX11_count_44 rv_X6 (fun _ h => c_X6_size l  n  σ h) rfl ⟨(Nat.le_of_ble_eq_true rfl), (Nat.le_of_ble_eq_true rfl)⟩ (Nat.le_of_ble_eq_true rfl) hM (fun r2 s1 hM => ?_)
    exact v_iret K rfl dX11_count_47 hM
  rcases ite_inv hM with ⟨hx6, hM⟩ | ⟨hx6, hM⟩
  · refine v_tabI K dX11_count_1 (k := (1 : Int32)) hx6 (by decide) (by decide) (off := 47) (by decide) (tgt := 48) (by decide) ?_
    refine v_aload_n K dX11_count_48 0 rfl ?_
    refine g_X11_4 K qf_X11_42 dX11_count_49 ?_
    refine x_Vi (As := []) (st := []) K uv_X1_howManyBound qm_X11_274 dX11_count_52 (rv_X1 isB_37) (fun _ h => c_X1_howManyBound l 37 isB_37 n  σ h) rfl ⟨(Nat.le_of_ble_eq_true rfl), (Nat.le_of_ble_eq_true rfl)⟩ (Nat.le_of_ble_eq_true rfl) hM (fun r5 s4 hM => ?_)
    exact v_iret K rfl dX11_count_55 hM
  rcases ite_inv hM with ⟨hx9, hM⟩ | ⟨hx9, hM⟩
  · refine v_tabI K dX11_count_1 (k := (2 : Int32)) hx9 (by decide) (by decide) (off := 55) (by decide) (tgt := 56) (by decide) ?_
    refine v_aload_n K dX11_count_56 0 rfl ?_
    refine g_X11_2 K qf_X11_26 dX11_count_57 ?_
    refine x_Vi (As := []) (st := []) K uv_X8_letters qm_X11_363 dX11_count_60 rv_X8 (fun _ h => c_X8_letters l  n  σ h) rfl ⟨(Nat.le_of_ble_eq_true rfl), (Nat.le_of_ble_eq_true rfl)⟩ (Nat.le_of_ble_eq_true rfl) hM (fun r8 s7 hM => ?_)
    exact v_iret K rfl dX11_count_63 hM
  rcases ite_inv hM with ⟨hx12, hM⟩ | ⟨hx12, hM⟩
  · refine v_tabI K dX11_count_1 (k := (3 : Int32)) hx12 (by decide) (by decide) (off := 63) (by decide) (tgt := 64) (by decide) ?_
    refine v_aload_n K dX11_count_64 0 rfl ?_
    refine g_X11_0 K qf_X11_10 dX11_count_65 ?_
    refine x_Vi (As := []) (st := []) K uv_X6_undoable qm_X11_290 dX11_count_68 rv_X6 (fun _ h => c_X6_undoable l  n  σ h) rfl ⟨(Nat.le_of_ble_eq_true rfl), (Nat.le_of_ble_eq_true rfl)⟩ (Nat.le_of_ble_eq_true rfl) hM (fun r11 s10 hM => ?_)
    exact v_iret K rfl dX11_count_71 hM
  rcases ite_inv hM with ⟨hx15, hM⟩ | ⟨hx15, hM⟩
  · refine v_tabI K dX11_count_1 (k := (4 : Int32)) hx15 (by decide) (by decide) (off := 71) (by decide) (tgt := 72) (by decide) ?_
    refine v_aload_n K dX11_count_72 0 rfl ?_
    refine g_X11_13 K qf_X11_93 dX11_count_73 ?_
    refine x_Vi (As := []) (st := []) K uv_X0_size qm_X11_366 dX11_count_76 rv_X0 (fun _ h => c_X0_size l  n  σ h) rfl ⟨(Nat.le_of_ble_eq_true rfl), (Nat.le_of_ble_eq_true rfl)⟩ (Nat.le_of_ble_eq_true rfl) hM (fun r14 s13 hM => ?_)
    exact v_iret K rfl dX11_count_79 hM
  rcases ite_inv hM with ⟨hx18, hM⟩ | ⟨hx18, hM⟩
  · refine v_tabI K dX11_count_1 (k := (5 : Int32)) hx18 (by decide) (by decide) (off := 79) (by decide) (tgt := 80) (by decide) ?_
    refine v_aload_n K dX11_count_80 0 rfl ?_
    refine g_X11_13 K qf_X11_93 dX11_count_81 ?_
    refine x_Vi (As := []) (st := []) K uv_X0_ran qm_X11_367 dX11_count_84 rv_X0 (fun _ h => c_X0_ran l  n  σ h) rfl ⟨(Nat.le_of_ble_eq_true rfl), (Nat.le_of_ble_eq_true rfl)⟩ (Nat.le_of_ble_eq_true rfl) hM (fun r17 s16 hM => ?_)
    exact v_iret K rfl dX11_count_87 hM
  refine v_tabO K dX11_count_1 (by have a0 : p1.toInt ≠ 0 := ne_toInt hx3; have a1 : p1.toInt ≠ 1 := ne_toInt hx6; have a2 : p1.toInt ≠ 2 := ne_toInt hx9; have a3 : p1.toInt ≠ 3 := ne_toInt hx12; have a4 : p1.toInt ≠ 4 := ne_toInt hx15; have a5 : p1.toInt ≠ 5 := ne_toInt hx18; omega) (tgt := 88) (by decide) ?_
  refine v_iconst (v := (-1 : Int32)) K dX11_count_88 (by decide) ?_
  exact v_iret K rfl dX11_count_89 hM
