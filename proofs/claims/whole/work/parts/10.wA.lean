noncomputable def F_X0_isKind (n : Nat) (p0 : Int32) (σ : St) : Option (Int32 × St) := if p0 < 0 then (some ((0 : Int32), σ)) else (if (8 : Int32) ≤ p0 then (some ((0 : Int32), σ)) else (some ((1 : Int32), σ)))
set_option maxHeartbeats 4000000 in
set_option maxRecDepth 20000 in
theorem c_X0_isKind (l : Launch) {D : va_G} {A : Nat → Prop} {ad : Nat → Nat} {dA : Nat → ClassId}  (n : Nat) (p0 : Int32) (σ : St) {res : Int32 × St} (hM : F_X0_isKind n p0 σ = some res) : MI l yX0_isKind cX0_isKind 1 (some .boolean) 1 D (tysX dA) (wdX ad dA) A [.int p0] σ (QI D (wdX ad dA) A res) := by
  refine mk_met (by decide +kernel) (Nat.le_of_ble_eq_true rfl) (fun p e s m below meth c K => ?_)
  have K : Cx p s m _ meth c cX0_isKind 1 (some .boolean) RX0 D (tysX dA) (wdX ad dA) A := K
  refine v_iload_n K dX0_isKind_0 0 rfl ?_
  refine v_if_lt K 14 dX0_isKind_1 (by decide) hM (fun hM => ?_) (fun hM => ?_)
  · refine v_iconst (v := (0 : Int32)) K dX0_isKind_14 (by decide) ?_
    exact v_zret K rfl rfl dX0_isKind_15 hM
  · refine v_iload_n K dX0_isKind_4 0 rfl ?_
    refine v_bipush (v := (8 : Int32)) K dX0_isKind_5 (by decide) ?_
    refine v_icmp_ge K 14 dX0_isKind_7 (by decide) hM (fun hM => ?_) (fun hM => ?_)
    · refine v_iconst (v := (0 : Int32)) K dX0_isKind_14 (by decide) ?_
      exact v_zret K rfl rfl dX0_isKind_15 hM
    · refine v_iconst (v := (1 : Int32)) K dX0_isKind_10 (by decide) ?_
      refine v_goto (tgt := 15) K dX0_isKind_11 (by decide) ?_
      exact v_zret K rfl rfl dX0_isKind_15 hM
noncomputable def B_X0_isUnder_1 (J : Nat → Int32 → Int32 → Int32 → St → Option (Int32 × St)) (n : Nat)  (l1 : Int32) (l2 : Int32) (l3 : Int32) (σ : St) : Option (Int32 × St) := if (8 : Int32) ≤ l3 then (some ((0 : Int32), σ)) else (bd (F_X0_isKind n l2 σ) fun r2 s1 => if r2 = 0 then (some ((0 : Int32), s1)) else (if l2 = l1 then (some ((1 : Int32), s1)) else (gd (vp_in l2 8) (bnd (st_ab (l2).toNatClampNeg) fun x4 => bnd (l3 + (1 : Int32)) fun x5 => J 1 l1 x4 x5 s1))))
noncomputable def S_X0_isUnder  (n : Nat) (J : Nat → Int32 → Int32 → Int32 → St → Option (Int32 × St)) : Nat → Int32 → Int32 → Int32 → St → Option (Int32 × St) := fun lb a0 a1 a2 σ => match lb with
  | 1 => B_X0_isUnder_1 J n  a0 a1 a2 σ
  | _ => none
noncomputable def L_X0_isUnder  (n : Nat) : Nat → Int32 → Int32 → Int32 → St → Option (Int32 × St) := Nat.rec (fun _ _ _ _ _ => none) (fun n J => S_X0_isUnder  n J) n
noncomputable def F_X0_isUnder (n : Nat) (p0 : Int32) (p1 : Int32) (σ : St) : Option (Int32 × St) := L_X0_isUnder  n 1 p1 p0 (0 : Int32) σ
set_option maxHeartbeats 4000000 in
set_option maxRecDepth 20000 in
theorem t_X0_isUnder (l : Launch) {p : Program} {e : Env} {s : State} {m : MethodId} {args : Array Value} {below : List Frame} {meth : Method} {c : Code} {D : va_G} {A : Nat → Prop} {ad : Nat → Nat} {dA : Nat → ClassId}   (K : Cx p s m args meth c cX0_isUnder 4 (some .boolean) RX0 D (tysX dA) (wdX ad dA) A) {res : Int32 × St} (n : Nat) : (∀ (l1 : Int32) (l2 : Int32) (l3 : Int32) (σ : St), L_X0_isUnder  n 1 l1 l2 l3 σ = some res → V p l e (rmH 2) s m args below meth c 4 D (wdX ad dA) A (MQ below (QI D (wdX ad dA) A res) args s 0 0 A) 4 [(1, .int l1), (2, .int l2), (3, .int l3)] [] σ) := by
  induction n with
  | zero => exact (fun _ _ _ _ h => (by cases h))
  | succ n ih =>
    have ih_1 := ih
    · intro l1 l2 l3 σ hM
      have hM : B_X0_isUnder_1 (L_X0_isUnder  n) n  l1 l2 l3 σ = some res := hM
      refine v_iload_n K dX0_isUnder_4 2 rfl ?_
      refine v_bipush (v := (8 : Int32)) K dX0_isUnder_5 (by decide) ?_
      refine v_icmp_ge K 36 dX0_isUnder_7 (by decide) hM (fun hM => ?_) (fun hM => ?_)
      · refine v_iconst (v := (0 : Int32)) K dX0_isUnder_36 (by decide) ?_
        exact v_zret K rfl rfl dX0_isUnder_37 hM
      · refine v_iload_n K dX0_isUnder_10 1 rfl ?_
        refine x_Si (As := [.int l2]) (st := []) K us_X0_isKind qm_X0_31 dX0_isUnder_11 (fun _ h => c_X0_isKind l  n l2 σ h) rfl ⟨(Nat.le_of_ble_eq_true rfl), (Nat.le_of_ble_eq_true rfl)⟩ (Nat.le_of_ble_eq_true rfl) hM (fun r2 s1 hM => ?_)
        refine v_if_eq K 36 dX0_isUnder_14 (by decide) hM (fun hM => ?_) (fun hM => ?_)
        · refine v_iconst (v := (0 : Int32)) K dX0_isUnder_36 (by decide) ?_
          exact v_zret K rfl rfl dX0_isUnder_37 hM
        · refine v_iload_n K dX0_isUnder_17 1 rfl ?_
          refine v_iload_n K dX0_isUnder_18 0 rfl ?_
          refine v_icmp_ne K 24 dX0_isUnder_19 (by decide) hM (fun hM => ?_) (fun hM => ?_)
          · refine x_gs_ab K qf_X0_35 dX0_isUnder_24 (fun t3 ht3 => ?_)
            refine v_iload_n K dX0_isUnder_27 1 rfl ?_
            refine x_ti K ht3 dX0_isUnder_28 hM (fun hM => ?_)
            refine v_topi hM (fun x4 hM => ?_)
            refine v_istore_n K dX0_isUnder_29 rfl (by decide) [(2, .int x4), (1, .int l1), (3, .int l3)] rfl ?_
            refine v_iinc K dX0_isUnder_30 2 rfl (v := (l3 + (1 : Int32))) rfl (by decide) hM (fun y => [(3, .int y), (2, .int x4), (1, .int l1)]) (fun _ => rfl) (fun x5 hM => ?_)
            refine v_goto (tgt := 4) K dX0_isUnder_33 (by decide) ?_
            exact v_sub [2, 1, 0] rfl (ih_1 l1 x4 x5 s1 hM)
          · refine v_iconst (v := (1 : Int32)) K dX0_isUnder_22 (by decide) ?_
            exact v_zret K rfl rfl dX0_isUnder_23 hM
set_option maxHeartbeats 4000000 in
set_option maxRecDepth 20000 in
theorem c_X0_isUnder (l : Launch) {D : va_G} {A : Nat → Prop} {ad : Nat → Nat} {dA : Nat → ClassId}  (n : Nat) (p0 : Int32) (p1 : Int32) (σ : St) {res : Int32 × St} (hM : F_X0_isUnder n p0 p1 σ = some res) : MI l yX0_isUnder cX0_isUnder 4 (some .boolean) 2 D (tysX dA) (wdX ad dA) A [.int p0, .int p1] σ (QI D (wdX ad dA) A res) := by
  refine mk_met (by decide +kernel) (Nat.le_of_ble_eq_true rfl) (fun p e s m below meth c K => ?_)
  have K : Cx p s m _ meth c cX0_isUnder 4 (some .boolean) RX0 D (tysX dA) (wdX ad dA) A := K
  have ih_1 := t_X0_isUnder l    K (res := res) n (below := below) (e := e)
  refine v_iload_n K dX0_isUnder_0 0 rfl ?_
  refine v_istore_n K dX0_isUnder_1 rfl (by decide) [(2, .int p0), (0, .int p0), (1, .int p1)] rfl ?_
  refine v_iconst (v := (0 : Int32)) K dX0_isUnder_2 (by decide) ?_
  refine v_istore_n K dX0_isUnder_3 rfl (by decide) [(3, .int (0 : Int32)), (2, .int p0), (0, .int p0), (1, .int p1)] rfl ?_
  exact v_sub [3, 1, 0] rfl (ih_1 p1 p0 (0 : Int32) σ hM)
noncomputable def F_X0_isFull (n : Nat)  (σ : St) : Option (Int32 × St) := if (gI σ 24 1) < (50 : Int32) then (some ((0 : Int32), σ)) else (some ((1 : Int32), σ))
set_option maxHeartbeats 4000000 in
set_option maxRecDepth 20000 in
theorem c_X0_isFull (l : Launch) {D : va_G} {A : Nat → Prop} {ad : Nat → Nat} {dA : Nat → ClassId}  (n : Nat)  (σ : St) {res : Int32 × St} (hM : F_X0_isFull n  σ = some res) : MI l yX0_isFull cX0_isFull 1 (some .boolean) 1 D (tysX dA) (wdX ad dA) A [.ref (ad 24)] σ (QI D (wdX ad dA) A res) := by
  refine mk_met (by decide +kernel) (Nat.le_of_ble_eq_true rfl) (fun p e s m below meth c K => ?_)
  have K : Cx p s m _ meth c cX0_isFull 1 (some .boolean) RX0 D (tysX dA) (wdX ad dA) A := K
  refine v_aload_n K dX0_isFull_0 0 rfl ?_
  refine g_X0_1 K qf_X0_15 dX0_isFull_1 ?_
  refine v_bipush (v := (50 : Int32)) K dX0_isFull_4 (by decide) ?_
  refine v_icmp_lt K 13 dX0_isFull_6 (by decide) hM (fun hM => ?_) (fun hM => ?_)
  · refine v_iconst (v := (0 : Int32)) K dX0_isFull_13 (by decide) ?_
    exact v_zret K rfl rfl dX0_isFull_14 hM
  · refine v_iconst (v := (1 : Int32)) K dX0_isFull_9 (by decide) ?_
    refine v_goto (tgt := 14) K dX0_isFull_10 (by decide) ?_
    exact v_zret K rfl rfl dX0_isFull_14 hM
noncomputable def F_X0_size (n : Nat)  (σ : St) : Option (Int32 × St) := some ((gI σ 24 1), σ)
set_option maxHeartbeats 4000000 in
set_option maxRecDepth 20000 in
theorem c_X0_size (l : Launch) {D : va_G} {A : Nat → Prop} {ad : Nat → Nat} {dA : Nat → ClassId}  (n : Nat)  (σ : St) {res : Int32 × St} (hM : F_X0_size n  σ = some res) : MI l yX0_size cX0_size 1 (some .int) 1 D (tysX dA) (wdX ad dA) A [.ref (ad 24)] σ (QI D (wdX ad dA) A res) := by
  refine mk_met (by decide +kernel) (Nat.le_of_ble_eq_true rfl) (fun p e s m below meth c K => ?_)
  have K : Cx p s m _ meth c cX0_size 1 (some .int) RX0 D (tysX dA) (wdX ad dA) A := K
  refine v_aload_n K dX0_size_0 0 rfl ?_
  refine g_X0_1 K qf_X0_15 dX0_size_1 ?_
  exact v_iret K rfl dX0_size_4 hM
noncomputable def F_X0_make (n : Nat) (p1 : Int32) (σ : St) : Option (Int32 × St) := bd (F_X0_isFull n  σ) fun r2 s1 => if r2 = 0 then (gd (vp_in (gI s1 24 1) 50) (bnd (sI s1 25 ((gI s1 24 1)).toNatClampNeg p1) fun s3 => bnd (sI s3 24 1 ((gI s3 24 1) + (1 : Int32))) fun s4 => some (((gI s4 24 1) - (1 : Int32)), s4))) else (some ((-3 : Int32), s1))
set_option maxHeartbeats 4000000 in
set_option maxRecDepth 20000 in
theorem c_X0_make (l : Launch) {D : va_G} {A : Nat → Prop} {ad : Nat → Nat} {dA : Nat → ClassId}  (n : Nat) (p1 : Int32) (σ : St) {res : Int32 × St} (hM : F_X0_make n p1 σ = some res) : MI l yX0_make cX0_make 2 (some .int) 2 D (tysX dA) (wdX ad dA) A [.ref (ad 24), .int p1] σ (QI D (wdX ad dA) A res) := by
  refine mk_met (by decide +kernel) (Nat.le_of_ble_eq_true rfl) (fun p e s m below meth c K => ?_)
  have K : Cx p s m _ meth c cX0_make 2 (some .int) RX0 D (tysX dA) (wdX ad dA) A := K
  refine v_aload_n K dX0_make_0 0 rfl ?_
  refine x_Vi (As := []) (st := []) K uv_X0_isFull qm_X0_38 dX0_make_1 rv_X0 (fun _ h => c_X0_isFull l  n  σ h) rfl ⟨(Nat.le_of_ble_eq_true rfl), (Nat.le_of_ble_eq_true rfl)⟩ (Nat.le_of_ble_eq_true rfl) hM (fun r2 s1 hM => ?_)
  refine v_if_eq K 10 dX0_make_4 (by decide) hM (fun hM => ?_) (fun hM => ?_)
  · refine v_aload_n K dX0_make_10 0 rfl ?_
    refine g_X0_0 K qf_X0_11 dX0_make_11 ?_
    refine v_aload_n K dX0_make_14 0 rfl ?_
    refine g_X0_1 K qf_X0_15 dX0_make_15 ?_
    refine v_iload_n K dX0_make_18 1 rfl ?_
    refine st_X25 K dX0_make_19 hM (fun s3 hM => ?_)
    refine v_aload_n K dX0_make_20 0 rfl ?_
    refine v_dup K dX0_make_21 rfl ?_
    refine g_X0_1 K qf_X0_15 dX0_make_22 ?_
    refine v_iconst (v := (1 : Int32)) K dX0_make_25 (by decide) ?_
    refine v_iadd K dX0_make_26 ?_
    refine p_X0_1 K qf_X0_15 dX0_make_27 hM (fun s4 hM => ?_)
    refine v_aload_n K dX0_make_30 0 rfl ?_
    refine g_X0_1 K qf_X0_15 dX0_make_31 ?_
    refine v_iconst (v := (1 : Int32)) K dX0_make_34 (by decide) ?_
    refine v_isub K dX0_make_35 ?_
    exact v_iret K rfl dX0_make_36 hM
  · refine v_bipush (v := (-3 : Int32)) K dX0_make_7 (by decide) ?_
    exact v_iret K rfl dX0_make_9 hM
noncomputable def F_X0_has (n : Nat) (p1 : Int32) (σ : St) : Option (Int32 × St) := if p1 < 0 then (some ((0 : Int32), σ)) else (if (gI σ 24 1) ≤ p1 then (some ((0 : Int32), σ)) else (some ((1 : Int32), σ)))
set_option maxHeartbeats 4000000 in
set_option maxRecDepth 20000 in
theorem c_X0_has (l : Launch) {D : va_G} {A : Nat → Prop} {ad : Nat → Nat} {dA : Nat → ClassId}  (n : Nat) (p1 : Int32) (σ : St) {res : Int32 × St} (hM : F_X0_has n p1 σ = some res) : MI l yX0_has cX0_has 2 (some .boolean) 1 D (tysX dA) (wdX ad dA) A [.ref (ad 24), .int p1] σ (QI D (wdX ad dA) A res) := by
  refine mk_met (by decide +kernel) (Nat.le_of_ble_eq_true rfl) (fun p e s m below meth c K => ?_)
  have K : Cx p s m _ meth c cX0_has 2 (some .boolean) RX0 D (tysX dA) (wdX ad dA) A := K
  refine v_iload_n K dX0_has_0 1 rfl ?_
  refine v_if_lt K 16 dX0_has_1 (by decide) hM (fun hM => ?_) (fun hM => ?_)
  · refine v_iconst (v := (0 : Int32)) K dX0_has_16 (by decide) ?_
    exact v_zret K rfl rfl dX0_has_17 hM
  · refine v_iload_n K dX0_has_4 1 rfl ?_
    refine v_aload_n K dX0_has_5 0 rfl ?_
    refine g_X0_1 K qf_X0_15 dX0_has_6 ?_
    refine v_icmp_ge K 16 dX0_has_9 (by decide) hM (fun hM => ?_) (fun hM => ?_)
    · refine v_iconst (v := (0 : Int32)) K dX0_has_16 (by decide) ?_
      exact v_zret K rfl rfl dX0_has_17 hM
    · refine v_iconst (v := (1 : Int32)) K dX0_has_12 (by decide) ?_
      refine v_goto (tgt := 17) K dX0_has_13 (by decide) ?_
      exact v_zret K rfl rfl dX0_has_17 hM
noncomputable def F_X0_kindOf (n : Nat) (p1 : Int32) (σ : St) : Option (Int32 × St) := bd (F_X0_has n p1 σ) fun r2 s1 => if r2 = 0 then (some ((-1 : Int32), s1)) else (gd (vp_in p1 50) (some ((gI s1 25 (p1).toNatClampNeg), s1)))
set_option maxHeartbeats 4000000 in
set_option maxRecDepth 20000 in
theorem c_X0_kindOf (l : Launch) {D : va_G} {A : Nat → Prop} {ad : Nat → Nat} {dA : Nat → ClassId}  (n : Nat) (p1 : Int32) (σ : St) {res : Int32 × St} (hM : F_X0_kindOf n p1 σ = some res) : MI l yX0_kindOf cX0_kindOf 2 (some .int) 2 D (tysX dA) (wdX ad dA) A [.ref (ad 24), .int p1] σ (QI D (wdX ad dA) A res) := by
  refine mk_met (by decide +kernel) (Nat.le_of_ble_eq_true rfl) (fun p e s m below meth c K => ?_)
  have K : Cx p s m _ meth c cX0_kindOf 2 (some .int) RX0 D (tysX dA) (wdX ad dA) A := K
  refine v_aload_n K dX0_kindOf_0 0 rfl ?_
  refine v_iload_n K dX0_kindOf_1 1 rfl ?_
  refine x_Vi (As := [.int p1]) (st := []) K uv_X0_has qm_X0_42 dX0_kindOf_2 rv_X0 (fun _ h => c_X0_has l  n p1 σ h) rfl ⟨(Nat.le_of_ble_eq_true rfl), (Nat.le_of_ble_eq_true rfl)⟩ (Nat.le_of_ble_eq_true rfl) hM (fun r2 s1 hM => ?_)
  refine v_if_eq K 17 dX0_kindOf_5 (by decide) hM (fun hM => ?_) (fun hM => ?_)
  · refine v_iconst (v := (-1 : Int32)) K dX0_kindOf_17 (by decide) ?_
    exact v_iret K rfl dX0_kindOf_18 hM
  · refine v_aload_n K dX0_kindOf_8 0 rfl ?_
    refine g_X0_0 K qf_X0_11 dX0_kindOf_9 ?_
    refine v_iload_n K dX0_kindOf_12 1 rfl ?_
    refine ld_X25 K dX0_kindOf_13 hM (fun hM => ?_)
    refine v_goto (tgt := 18) K dX0_kindOf_14 (by decide) ?_
    exact v_iret K rfl dX0_kindOf_18 hM
noncomputable def F_X0_ran (n : Nat)  (σ : St) : Option (Int32 × St) := some ((gI σ 24 3), σ)
set_option maxHeartbeats 4000000 in
set_option maxRecDepth 20000 in
theorem c_X0_ran (l : Launch) {D : va_G} {A : Nat → Prop} {ad : Nat → Nat} {dA : Nat → ClassId}  (n : Nat)  (σ : St) {res : Int32 × St} (hM : F_X0_ran n  σ = some res) : MI l yX0_ran cX0_ran 1 (some .int) 1 D (tysX dA) (wdX ad dA) A [.ref (ad 24)] σ (QI D (wdX ad dA) A res) := by
  refine mk_met (by decide +kernel) (Nat.le_of_ble_eq_true rfl) (fun p e s m below meth c K => ?_)
  have K : Cx p s m _ meth c cX0_ran 1 (some .int) RX0 D (tysX dA) (wdX ad dA) A := K
  refine v_aload_n K dX0_ran_0 0 rfl ?_
  refine g_X0_3 K qf_X0_22 dX0_ran_1 ?_
  exact v_iret K rfl dX0_ran_4 hM
noncomputable def F_X0_traced (n : Nat)  (σ : St) : Option (Int32 × St) := bnd (if (24 : Int32) < (gI σ 24 3) then (24 : Int32) else (gI σ 24 3)) fun x1 => some (x1, σ)
set_option maxHeartbeats 4000000 in
set_option maxRecDepth 20000 in
theorem c_X0_traced (l : Launch) {D : va_G} {A : Nat → Prop} {ad : Nat → Nat} {dA : Nat → ClassId}  (n : Nat)  (σ : St) {res : Int32 × St} (hM : F_X0_traced n  σ = some res) : MI l yX0_traced cX0_traced 1 (some .int) 1 D (tysX dA) (wdX ad dA) A [.ref (ad 24)] σ (QI D (wdX ad dA) A res) := by
  refine mk_met (by decide +kernel) (Nat.le_of_ble_eq_true rfl) (fun p e s m below meth c K => ?_)
  have K : Cx p s m _ meth c cX0_traced 1 (some .int) RX0 D (tysX dA) (wdX ad dA) A := K
  refine v_aload_n K dX0_traced_0 0 rfl ?_
  refine g_X0_3 K qf_X0_22 dX0_traced_1 ?_
  refine v_bipush (v := (24 : Int32)) K dX0_traced_4 (by decide) ?_
  refine x_mmin K qm_X0_45 qs_min qi_Math qk_min dX0_traced_6 (Nat.le_of_ble_eq_true rfl) (Nat.le_of_ble_eq_true rfl) ?_
  refine v_topi hM (fun x1 hM => ?_)
  exact v_iret K rfl dX0_traced_9 hM
noncomputable def F_X0_tracedAt (n : Nat) (p1 : Int32) (σ : St) : Option (Int32 × St) := if p1 < 0 then (some ((-1 : Int32), σ)) else (bd (F_X0_traced n  σ) fun r2 s1 => if r2 ≤ p1 then (some ((-1 : Int32), s1)) else (gd (vp_in p1 24) (some ((gI s1 26 (p1).toNatClampNeg), s1))))
set_option maxHeartbeats 4000000 in
set_option maxRecDepth 20000 in
theorem c_X0_tracedAt (l : Launch) {D : va_G} {A : Nat → Prop} {ad : Nat → Nat} {dA : Nat → ClassId}  (n : Nat) (p1 : Int32) (σ : St) {res : Int32 × St} (hM : F_X0_tracedAt n p1 σ = some res) : MI l yX0_tracedAt cX0_tracedAt 2 (some .int) 2 D (tysX dA) (wdX ad dA) A [.ref (ad 24), .int p1] σ (QI D (wdX ad dA) A res) := by
  refine mk_met (by decide +kernel) (Nat.le_of_ble_eq_true rfl) (fun p e s m below meth c K => ?_)
  have K : Cx p s m _ meth c cX0_tracedAt 2 (some .int) RX0 D (tysX dA) (wdX ad dA) A := K
  refine v_iload_n K dX0_tracedAt_0 1 rfl ?_
  refine v_if_lt K 21 dX0_tracedAt_1 (by decide) hM (fun hM => ?_) (fun hM => ?_)
  · refine v_iconst (v := (-1 : Int32)) K dX0_tracedAt_21 (by decide) ?_
    exact v_iret K rfl dX0_tracedAt_22 hM
  · refine v_iload_n K dX0_tracedAt_4 1 rfl ?_
    refine v_aload_n K dX0_tracedAt_5 0 rfl ?_
    refine x_Vi (As := []) (st := [.int p1]) K uv_X0_traced qm_X0_51 dX0_tracedAt_6 rv_X0 (fun _ h => c_X0_traced l  n  σ h) rfl ⟨(Nat.le_of_ble_eq_true rfl), (Nat.le_of_ble_eq_true rfl)⟩ (Nat.le_of_ble_eq_true rfl) hM (fun r2 s1 hM => ?_)
    refine v_icmp_ge K 21 dX0_tracedAt_9 (by decide) hM (fun hM => ?_) (fun hM => ?_)
    · refine v_iconst (v := (-1 : Int32)) K dX0_tracedAt_21 (by decide) ?_
      exact v_iret K rfl dX0_tracedAt_22 hM
    · refine v_aload_n K dX0_tracedAt_12 0 rfl ?_
      refine g_X0_2 K qf_X0_19 dX0_tracedAt_13 ?_
      refine v_iload_n K dX0_tracedAt_16 1 rfl ?_
      refine ld_X26 K dX0_tracedAt_17 hM (fun hM => ?_)
      refine v_goto (tgt := 22) K dX0_tracedAt_18 (by decide) ?_
      exact v_iret K rfl dX0_tracedAt_22 hM
noncomputable def B_X0_holderFrom_1 (J : Nat → Int32 → Int32 → Int32 → St → Option (Int32 × St)) (n : Nat)  (l1 : Int32) (l2 : Int32) (l3 : Int32) (σ : St) : Option (Int32 × St) := if (8 : Int32) ≤ l3 then (some ((-1 : Int32), σ)) else (bd (F_X0_isKind n l2 σ) fun r2 s1 => if r2 = 0 then (some ((-1 : Int32), s1)) else (gd (vp_in (((4 : Int32) * l2) + l1) 32) (if (st_ow ((((4 : Int32) * l2) + l1)).toNatClampNeg) = 0 then (gd (vp_in l2 8) (bnd (st_ab (l2).toNatClampNeg) fun x5 => bnd (l3 + (1 : Int32)) fun x6 => J 1 l1 x5 x6 s1)) else (some (l2, s1)))))
noncomputable def S_X0_holderFrom  (n : Nat) (J : Nat → Int32 → Int32 → Int32 → St → Option (Int32 × St)) : Nat → Int32 → Int32 → Int32 → St → Option (Int32 × St) := fun lb a0 a1 a2 σ => match lb with
  | 1 => B_X0_holderFrom_1 J n  a0 a1 a2 σ
  | _ => none
noncomputable def L_X0_holderFrom  (n : Nat) : Nat → Int32 → Int32 → Int32 → St → Option (Int32 × St) := Nat.rec (fun _ _ _ _ _ => none) (fun n J => S_X0_holderFrom  n J) n
noncomputable def F_X0_holderFrom (n : Nat) (p0 : Int32) (p1 : Int32) (σ : St) : Option (Int32 × St) := L_X0_holderFrom  n 1 p1 p0 (0 : Int32) σ
set_option maxHeartbeats 4000000 in
set_option maxRecDepth 20000 in
theorem t_X0_holderFrom (l : Launch) {p : Program} {e : Env} {s : State} {m : MethodId} {args : Array Value} {below : List Frame} {meth : Method} {c : Code} {D : va_G} {A : Nat → Prop} {ad : Nat → Nat} {dA : Nat → ClassId}   (K : Cx p s m args meth c cX0_holderFrom 4 (some .int) RX0 D (tysX dA) (wdX ad dA) A) {res : Int32 × St} (n : Nat) : (∀ (l1 : Int32) (l2 : Int32) (l3 : Int32) (σ : St), L_X0_holderFrom  n 1 l1 l2 l3 σ = some res → V p l e (rmH 2) s m args below meth c 4 D (wdX ad dA) A (MQ below (QI D (wdX ad dA) A res) args s 0 0 A) 4 [(1, .int l1), (2, .int l2), (3, .int l3)] [] σ) := by
  induction n with
  | zero => exact (fun _ _ _ _ h => (by cases h))
  | succ n ih =>
    have ih_1 := ih
    · intro l1 l2 l3 σ hM
      have hM : B_X0_holderFrom_1 (L_X0_holderFrom  n) n  l1 l2 l3 σ = some res := hM
      refine v_iload_n K dX0_holderFrom_4 2 rfl ?_
      refine v_bipush (v := (8 : Int32)) K dX0_holderFrom_5 (by decide) ?_
      refine v_icmp_ge K 43 dX0_holderFrom_7 (by decide) hM (fun hM => ?_) (fun hM => ?_)
      · refine v_iconst (v := (-1 : Int32)) K dX0_holderFrom_43 (by decide) ?_
        exact v_iret K rfl dX0_holderFrom_44 hM
      · refine v_iload_n K dX0_holderFrom_10 1 rfl ?_
        refine x_Si (As := [.int l2]) (st := []) K us_X0_isKind qm_X0_31 dX0_holderFrom_11 (fun _ h => c_X0_isKind l  n l2 σ h) rfl ⟨(Nat.le_of_ble_eq_true rfl), (Nat.le_of_ble_eq_true rfl)⟩ (Nat.le_of_ble_eq_true rfl) hM (fun r2 s1 hM => ?_)
        refine v_if_eq K 43 dX0_holderFrom_14 (by decide) hM (fun hM => ?_) (fun hM => ?_)
        · refine v_iconst (v := (-1 : Int32)) K dX0_holderFrom_43 (by decide) ?_
          exact v_iret K rfl dX0_holderFrom_44 hM
        · refine x_gs_ow K qf_X0_58 dX0_holderFrom_17 (fun t3 ht3 => ?_)
          refine v_iconst (v := (4 : Int32)) K dX0_holderFrom_20 (by decide) ?_
          refine v_iload_n K dX0_holderFrom_21 1 rfl ?_
          refine v_imul K dX0_holderFrom_22 ?_
          refine v_iload_n K dX0_holderFrom_23 0 rfl ?_
          refine v_iadd K dX0_holderFrom_24 ?_
          refine x_ti K ht3 dX0_holderFrom_25 hM (fun hM => ?_)
          refine v_if_eq K 31 dX0_holderFrom_26 (by decide) hM (fun hM => ?_) (fun hM => ?_)
          · refine x_gs_ab K qf_X0_35 dX0_holderFrom_31 (fun t4 ht4 => ?_)
            refine v_iload_n K dX0_holderFrom_34 1 rfl ?_
            refine x_ti K ht4 dX0_holderFrom_35 hM (fun hM => ?_)
            refine v_topi hM (fun x5 hM => ?_)
            refine v_istore_n K dX0_holderFrom_36 rfl (by decide) [(2, .int x5), (1, .int l1), (3, .int l3)] rfl ?_
            refine v_iinc K dX0_holderFrom_37 2 rfl (v := (l3 + (1 : Int32))) rfl (by decide) hM (fun y => [(3, .int y), (2, .int x5), (1, .int l1)]) (fun _ => rfl) (fun x6 hM => ?_)
            refine v_goto (tgt := 4) K dX0_holderFrom_40 (by decide) ?_
            exact v_sub [2, 1, 0] rfl (ih_1 l1 x5 x6 s1 hM)
          · refine v_iload_n K dX0_holderFrom_29 1 rfl ?_
            exact v_iret K rfl dX0_holderFrom_30 hM
set_option maxHeartbeats 4000000 in
set_option maxRecDepth 20000 in
theorem c_X0_holderFrom (l : Launch) {D : va_G} {A : Nat → Prop} {ad : Nat → Nat} {dA : Nat → ClassId}  (n : Nat) (p0 : Int32) (p1 : Int32) (σ : St) {res : Int32 × St} (hM : F_X0_holderFrom n p0 p1 σ = some res) : MI l yX0_holderFrom cX0_holderFrom 4 (some .int) 2 D (tysX dA) (wdX ad dA) A [.int p0, .int p1] σ (QI D (wdX ad dA) A res) := by
  refine mk_met (by decide +kernel) (Nat.le_of_ble_eq_true rfl) (fun p e s m below meth c K => ?_)
  have K : Cx p s m _ meth c cX0_holderFrom 4 (some .int) RX0 D (tysX dA) (wdX ad dA) A := K
  have ih_1 := t_X0_holderFrom l    K (res := res) n (below := below) (e := e)
  refine v_iload_n K dX0_holderFrom_0 0 rfl ?_
  refine v_istore_n K dX0_holderFrom_1 rfl (by decide) [(2, .int p0), (0, .int p0), (1, .int p1)] rfl ?_
  refine v_iconst (v := (0 : Int32)) K dX0_holderFrom_2 (by decide) ?_
  refine v_istore_n K dX0_holderFrom_3 rfl (by decide) [(3, .int (0 : Int32)), (2, .int p0), (0, .int p0), (1, .int p1)] rfl ?_
  exact v_sub [3, 1, 0] rfl (ih_1 p1 p0 (0 : Int32) σ hM)
noncomputable def F_X0_noteRun (n : Nat) (p1 : Int32) (σ : St) : Option (Unit × St) := if (24 : Int32) ≤ (gI σ 24 3) then (bnd (sI σ 24 3 ((gI σ 24 3) + (1 : Int32))) fun s1 => some ((), s1)) else (gd (vp_in (gI σ 24 3) 24) (bnd (sI σ 26 ((gI σ 24 3)).toNatClampNeg p1) fun s2 => bnd (sI s2 24 3 ((gI s2 24 3) + (1 : Int32))) fun s3 => some ((), s3)))
set_option maxHeartbeats 4000000 in
set_option maxRecDepth 20000 in
theorem c_X0_noteRun (l : Launch) {D : va_G} {A : Nat → Prop} {ad : Nat → Nat} {dA : Nat → ClassId}  (n : Nat) (p1 : Int32) (σ : St) {res : Unit × St} (hM : F_X0_noteRun n p1 σ = some res) : MI l yX0_noteRun cX0_noteRun 2 none 1 D (tysX dA) (wdX ad dA) A [.ref (ad 24), .int p1] σ (QV D (wdX ad dA) A res) := by
  refine mk_met (by decide +kernel) (Nat.le_of_ble_eq_true rfl) (fun p e s m below meth c K => ?_)
  have K : Cx p s m _ meth c cX0_noteRun 2 none RX0 D (tysX dA) (wdX ad dA) A := K
  refine v_aload_n K dX0_noteRun_0 0 rfl ?_
  refine g_X0_3 K qf_X0_22 dX0_noteRun_1 ?_
  refine v_bipush (v := (24 : Int32)) K dX0_noteRun_4 (by decide) ?_
  refine v_icmp_ge K 19 dX0_noteRun_6 (by decide) hM (fun hM => ?_) (fun hM => ?_)
  · refine v_aload_n K dX0_noteRun_19 0 rfl ?_
    refine v_dup K dX0_noteRun_20 rfl ?_
    refine g_X0_3 K qf_X0_22 dX0_noteRun_21 ?_
    refine v_iconst (v := (1 : Int32)) K dX0_noteRun_24 (by decide) ?_
    refine v_iadd K dX0_noteRun_25 ?_
    refine p_X0_3 K qf_X0_22 dX0_noteRun_26 hM (fun s1 hM => ?_)
    exact v_vret K rfl dX0_noteRun_29 hM
  · refine v_aload_n K dX0_noteRun_9 0 rfl ?_
    refine g_X0_2 K qf_X0_19 dX0_noteRun_10 ?_
    refine v_aload_n K dX0_noteRun_13 0 rfl ?_
    refine g_X0_3 K qf_X0_22 dX0_noteRun_14 ?_
    refine v_iload_n K dX0_noteRun_17 1 rfl ?_
    refine st_X26 K dX0_noteRun_18 hM (fun s2 hM => ?_)
    refine v_aload_n K dX0_noteRun_19 0 rfl ?_
    refine v_dup K dX0_noteRun_20 rfl ?_
    refine g_X0_3 K qf_X0_22 dX0_noteRun_21 ?_
    refine v_iconst (v := (1 : Int32)) K dX0_noteRun_24 (by decide) ?_
    refine v_iadd K dX0_noteRun_25 ?_
    refine p_X0_3 K qf_X0_22 dX0_noteRun_26 hM (fun s3 hM => ?_)
    exact v_vret K rfl dX0_noteRun_29 hM
noncomputable def E_X0_runFrom (O : Nat → Nat → Int32 → Int32 → Int32 → Int32 → St → Option (Int32 × St)) (n : Nat) (p1 : Int32) (p2 : Int32) (p3 : Int32) (p4 : Int32) (σ : St) : Option (Int32 × St) := bd (F_X0_holderFrom n p1 p2 σ) fun r2 s1 => if r2 < 0 then (some ((0 : Int32), s1)) else (if p4 ≤ (40 : Int32) then (gd (vp_in (((4 : Int32) * r2) + p2) 32) (bnd (st_ow ((((4 : Int32) * r2) + p2)).toNatClampNeg) fun x4 => gd (vp_in r2 8) (bnd (st_ab (r2).toNatClampNeg) fun x6 => bnd (p4 + (1 : Int32)) fun x7 => bd (F_X0_noteRun n x4 s1) fun _ s8 => if x4 = (1 : Int32) then (some ((p3 + (gI s8 24 4)), s8)) else (if x4 = (2 : Int32) then (bd (O 0 n (gI s8 24 5) (1 : Int32) p3 x7 s8) fun r11 s10 => bd (O 0 n (gI s10 24 5) (2 : Int32) (1 : Int32) x7 s10) fun r13 s12 => some ((r11 - r13), s12)) else (if x4 = (10 : Int32) then (bd (O 0 n (gI s8 24 5) (0 : Int32) p3 x7 s8) fun r16 s15 => some ((r16 * (2 : Int32)), s15)) else (if x4 = (11 : Int32) then (some ((p3 ^^^ (gI s8 24 4)), s8)) else (if x4 = (20 : Int32) then (bd (O 0 n x6 (0 : Int32) p3 x7 s8) fun r20 s19 => some ((r20 + (3 : Int32)), s19)) else (if x4 = (30 : Int32) then (bd (O 0 n x6 (1 : Int32) p3 x7 s8) fun r23 s22 => some ((-r23), s22)) else (if x4 = (40 : Int32) then (bd (O 0 n x6 (2 : Int32) p3 x7 s8) fun r26 s25 => some ((r26 * (3 : Int32)), s25)) else (if x4 = (41 : Int32) then (bd (O 0 n x6 (1 : Int32) (p3 + (1 : Int32)) x7 s8) fun r29 s28 => some (r29, s28)) else (if x4 = (50 : Int32) then (bd (O 0 n x6 (3 : Int32) p3 x7 s8) fun r32 s31 => some ((r32 ^^^ (5 : Int32)), s31)) else (if x4 = (60 : Int32) then (bd (O 0 n x6 (2 : Int32) p3 x7 s8) fun r35 s34 => bd (O 0 n (gI s34 24 5) (0 : Int32) (2 : Int32) x7 s34) fun r37 s36 => some ((r35 - r37), s36)) else (if x4 = (61 : Int32) then (bd (O 0 n x6 (3 : Int32) p3 x7 s8) fun r40 s39 => some ((r40 + (1 : Int32)), s39)) else (if x4 = (70 : Int32) then (bd (O 0 n x6 (0 : Int32) p3 x7 s8) fun r43 s42 => some ((r43 * (2 : Int32)), s42)) else (if x4 = (80 : Int32) then (bd (O 0 n x6 (1 : Int32) p3 x7 s8) fun r46 s45 => bd (O 0 n (gI s45 24 5) (2 : Int32) (2 : Int32) x7 s45) fun r48 s47 => some ((r46 + r48), s47)) else (if x4 = (81 : Int32) then (bd (O 0 n x6 (0 : Int32) p3 x7 s8) fun r51 s50 => some ((r51 - (1 : Int32)), s50)) else (some ((0 : Int32), s8)))))))))))))))))) else (some ((0 : Int32), s1)))
set_option maxHeartbeats 4000000 in
set_option maxRecDepth 20000 in
theorem e_X0_runFrom (l : Launch) {D : va_G} {A : Nat → Prop} {ad : Nat → Nat} {dA : Nat → ClassId} (d : Nat) {O : Nat → Nat → Int32 → Int32 → Int32 → Int32 → St → Option (Int32 × St)} (ih_r0 : ∀ (n : Nat) (p1 : Int32) (p2 : Int32) (p3 : Int32) (p4 : Int32) (σ : St) {res : Int32 × St}, O 0 n p1 p2 p3 p4 σ = some res → MI l yX0_runFrom cX0_runFrom 9 (some .int) (3 + d) D (tysX dA) (wdX ad dA) A [.ref (ad 24), .int p1, .int p2, .int p3, .int p4] σ (QI D (wdX ad dA) A res))  (n : Nat) (p1 : Int32) (p2 : Int32) (p3 : Int32) (p4 : Int32) (σ : St) {res : Int32 × St} (hM : E_X0_runFrom O n p1 p2 p3 p4 σ = some res) : MI l yX0_runFrom cX0_runFrom 9 (some .int) (3 + d + 1) D (tysX dA) (wdX ad dA) A [.ref (ad 24), .int p1, .int p2, .int p3, .int p4] σ (QI D (wdX ad dA) A res) := by
  refine mk_met (by decide +kernel) (Nat.le_of_ble_eq_true rfl) (fun p e s m below meth c K => ?_)
  have K : Cx p s m _ meth c cX0_runFrom 9 (some .int) RX0 D (tysX dA) (wdX ad dA) A := K
  refine v_iload_n K dX0_runFrom_0 1 rfl ?_
  refine v_iload_n K dX0_runFrom_1 2 rfl ?_
  refine x_Si (As := [.int p1, .int p2]) (st := []) K us_X0_holderFrom qm_X0_61 dX0_runFrom_2 (fun _ h => c_X0_holderFrom l  n p1 p2 σ h) rfl ⟨(by simp only [rmH]; omega), (by simp only [rmH]; omega)⟩ (Nat.le_of_ble_eq_true rfl) hM (fun r2 s1 hM => ?_)
  refine v_istore K dX0_runFrom_5 (by decide) [(5, .int r2), (0, .ref (ad 24)), (1, .int p1), (2, .int p2), (3, .int p3), (4, .int p4)] rfl ?_
  refine v_iload K dX0_runFrom_7 0 rfl ?_
  refine v_if_lt K 19 dX0_runFrom_9 (by decide) hM (fun hM => ?_) (fun hM => ?_)
  · refine v_iconst (v := (0 : Int32)) K dX0_runFrom_19 (by decide) ?_
    exact v_iret K rfl dX0_runFrom_20 hM
  · refine v_iload K dX0_runFrom_12 5 rfl ?_
    refine v_bipush (v := (40 : Int32)) K dX0_runFrom_14 (by decide) ?_
    refine v_icmp_le K 21 dX0_runFrom_16 (by decide) hM (fun hM => ?_) (fun hM => ?_)
    · refine x_gs_ow K qf_X0_58 dX0_runFrom_21 (fun t3 ht3 => ?_)
      refine v_iconst (v := (4 : Int32)) K dX0_runFrom_24 (by decide) ?_
      refine v_iload K dX0_runFrom_25 0 rfl ?_
      refine v_imul K dX0_runFrom_27 ?_
      refine v_iload_n K dX0_runFrom_28 3 rfl ?_
      refine v_iadd K dX0_runFrom_29 ?_
      refine x_ti K ht3 dX0_runFrom_30 hM (fun hM => ?_)
      refine v_topi hM (fun x4 hM => ?_)
      refine v_istore K dX0_runFrom_31 (by decide) [(6, .int x4), (5, .int r2), (0, .ref (ad 24)), (1, .int p1), (2, .int p2), (3, .int p3), (4, .int p4)] rfl ?_
      refine x_gs_ab K qf_X0_35 dX0_runFrom_33 (fun t5 ht5 => ?_)
      refine v_iload K dX0_runFrom_36 1 rfl ?_
      refine x_ti K ht5 dX0_runFrom_38 hM (fun hM => ?_)
      refine v_topi hM (fun x6 hM => ?_)
      refine v_istore K dX0_runFrom_39 (by decide) [(7, .int x6), (6, .int x4), (5, .int r2), (0, .ref (ad 24)), (1, .int p1), (2, .int p2), (3, .int p3), (4, .int p4)] rfl ?_
      refine v_iload K dX0_runFrom_41 7 rfl ?_
      refine v_iconst (v := (1 : Int32)) K dX0_runFrom_43 (by decide) ?_
      refine v_iadd K dX0_runFrom_44 ?_
      refine v_topi hM (fun x7 hM => ?_)
      refine v_istore K dX0_runFrom_45 (by decide) [(8, .int x7), (7, .int x6), (6, .int x4), (5, .int r2), (0, .ref (ad 24)), (1, .int p1), (2, .int p2), (3, .int p3), (4, .int p4)] rfl ?_
      refine v_aload_n K dX0_runFrom_47 4 rfl ?_
      refine v_iload K dX0_runFrom_48 2 rfl ?_
      refine x_Vv (As := [.int x4]) (st := []) K uv_X0_noteRun qm_X0_64 dX0_runFrom_50 rv_X0 (fun _ h => c_X0_noteRun l  n x4 s1 h) rfl ⟨(by simp only [rmH]; omega), (by simp only [rmH]; omega)⟩ (Nat.le_of_ble_eq_true rfl) hM (fun s8 hM => ?_)
      refine v_iload K dX0_runFrom_53 2 rfl ?_
      rcases ite_inv hM with ⟨hx9, hM⟩ | ⟨hx9, hM⟩
      · refine v_lookI K dX0_runFrom_55 (k := (1 : Int32)) hx9 (by decide) (off := 121) (by decide) (tgt := 176) (by decide) ?_
        refine v_iload_n K dX0_runFrom_176 7 rfl ?_
        refine v_aload_n K dX0_runFrom_177 4 rfl ?_
        refine g_X0_4 K qf_X0_25 dX0_runFrom_178 ?_
        refine v_iadd K dX0_runFrom_181 ?_
        exact v_iret K rfl dX0_runFrom_182 hM
      rcases ite_inv hM with ⟨hx14, hM⟩ | ⟨hx14, hM⟩
      · refine v_lookI K dX0_runFrom_55 (k := (2 : Int32)) hx14 (by decide) (off := 128) (by decide) (tgt := 183) (by decide) ?_
        refine v_aload_n K dX0_runFrom_183 4 rfl ?_
        refine v_aload_n K dX0_runFrom_184 4 rfl ?_
        refine g_X0_5 K qf_X0_28 dX0_runFrom_185 ?_
        refine v_iconst (v := (1 : Int32)) K dX0_runFrom_188 (by decide) ?_
        refine v_iload_n K dX0_runFrom_189 7 rfl ?_
        refine v_iload K dX0_runFrom_190 0 rfl ?_
        refine x_Vi (As := [.int (gI s8 24 5), .int (1 : Int32), .int p3, .int x7]) (st := []) K uv_X0_runFrom qm_X0_54 dX0_runFrom_192 rv_X0 (fun _ h => ih_r0 n (gI s8 24 5) (1 : Int32) p3 x7 s8 h) rfl ⟨by simp only [rmH]; omega, by simp only [rmH]; omega⟩ (Nat.le_of_ble_eq_true rfl) hM (fun r11 s10 hM => ?_)
        refine v_aload_n K dX0_runFrom_195 4 rfl ?_
        refine v_aload_n K dX0_runFrom_196 4 rfl ?_
        refine g_X0_5 K qf_X0_28 dX0_runFrom_197 ?_
        refine v_iconst (v := (2 : Int32)) K dX0_runFrom_200 (by decide) ?_
        refine v_iconst (v := (1 : Int32)) K dX0_runFrom_201 (by decide) ?_
        refine v_iload K dX0_runFrom_202 0 rfl ?_
        refine x_Vi (As := [.int (gI s10 24 5), .int (2 : Int32), .int (1 : Int32), .int x7]) (st := [.int r11]) K uv_X0_runFrom qm_X0_54 dX0_runFrom_204 rv_X0 (fun _ h => ih_r0 n (gI s10 24 5) (2 : Int32) (1 : Int32) x7 s10 h) rfl ⟨by simp only [rmH]; omega, by simp only [rmH]; omega⟩ (Nat.le_of_ble_eq_true rfl) hM (fun r13 s12 hM => ?_)
        refine v_isub K dX0_runFrom_207 ?_
        exact v_iret K rfl dX0_runFrom_208 hM
      rcases ite_inv hM with ⟨hx17, hM⟩ | ⟨hx17, hM⟩
      · refine v_lookI K dX0_runFrom_55 (k := (10 : Int32)) hx17 (by decide) (off := 154) (by decide) (tgt := 209) (by decide) ?_
        refine v_aload_n K dX0_runFrom_209 4 rfl ?_
        refine v_aload_n K dX0_runFrom_210 4 rfl ?_
        refine g_X0_5 K qf_X0_28 dX0_runFrom_211 ?_
        refine v_iconst (v := (0 : Int32)) K dX0_runFrom_214 (by decide) ?_
        refine v_iload_n K dX0_runFrom_215 7 rfl ?_
        refine v_iload K dX0_runFrom_216 0 rfl ?_
        refine x_Vi (As := [.int (gI s8 24 5), .int (0 : Int32), .int p3, .int x7]) (st := []) K uv_X0_runFrom qm_X0_54 dX0_runFrom_218 rv_X0 (fun _ h => ih_r0 n (gI s8 24 5) (0 : Int32) p3 x7 s8 h) rfl ⟨by simp only [rmH]; omega, by simp only [rmH]; omega⟩ (Nat.le_of_ble_eq_true rfl) hM (fun r16 s15 hM => ?_)
        refine v_iconst (v := (2 : Int32)) K dX0_runFrom_221 (by decide) ?_
        refine v_imul K dX0_runFrom_222 ?_
        exact v_iret K rfl dX0_runFrom_223 hM
      rcases ite_inv hM with ⟨hx18, hM⟩ | ⟨hx18, hM⟩
      · refine v_lookI K dX0_runFrom_55 (k := (11 : Int32)) hx18 (by decide) (off := 169) (by decide) (tgt := 224) (by decide) ?_
        refine v_iload_n K dX0_runFrom_224 7 rfl ?_
        refine v_aload_n K dX0_runFrom_225 4 rfl ?_
        refine g_X0_4 K qf_X0_25 dX0_runFrom_226 ?_
        refine v_ixor K dX0_runFrom_229 ?_
        exact v_iret K rfl dX0_runFrom_230 hM
      rcases ite_inv hM with ⟨hx21, hM⟩ | ⟨hx21, hM⟩
      · refine v_lookI K dX0_runFrom_55 (k := (20 : Int32)) hx21 (by decide) (off := 176) (by decide) (tgt := 231) (by decide) ?_
        refine v_aload_n K dX0_runFrom_231 4 rfl ?_
        refine v_iload K dX0_runFrom_232 1 rfl ?_
        refine v_iconst (v := (0 : Int32)) K dX0_runFrom_234 (by decide) ?_
        refine v_iload_n K dX0_runFrom_235 7 rfl ?_
        refine v_iload K dX0_runFrom_236 0 rfl ?_
        refine x_Vi (As := [.int x6, .int (0 : Int32), .int p3, .int x7]) (st := []) K uv_X0_runFrom qm_X0_54 dX0_runFrom_238 rv_X0 (fun _ h => ih_r0 n x6 (0 : Int32) p3 x7 s8 h) rfl ⟨by simp only [rmH]; omega, by simp only [rmH]; omega⟩ (Nat.le_of_ble_eq_true rfl) hM (fun r20 s19 hM => ?_)
        refine v_iconst (v := (3 : Int32)) K dX0_runFrom_241 (by decide) ?_
        refine v_iadd K dX0_runFrom_242 ?_
        exact v_iret K rfl dX0_runFrom_243 hM
      rcases ite_inv hM with ⟨hx24, hM⟩ | ⟨hx24, hM⟩
      · refine v_lookI K dX0_runFrom_55 (k := (30 : Int32)) hx24 (by decide) (off := 189) (by decide) (tgt := 244) (by decide) ?_
        refine v_aload_n K dX0_runFrom_244 4 rfl ?_
        refine v_iload K dX0_runFrom_245 1 rfl ?_
        refine v_iconst (v := (1 : Int32)) K dX0_runFrom_247 (by decide) ?_
        refine v_iload_n K dX0_runFrom_248 7 rfl ?_
        refine v_iload K dX0_runFrom_249 0 rfl ?_
        refine x_Vi (As := [.int x6, .int (1 : Int32), .int p3, .int x7]) (st := []) K uv_X0_runFrom qm_X0_54 dX0_runFrom_251 rv_X0 (fun _ h => ih_r0 n x6 (1 : Int32) p3 x7 s8 h) rfl ⟨by simp only [rmH]; omega, by simp only [rmH]; omega⟩ (Nat.le_of_ble_eq_true rfl) hM (fun r23 s22 hM => ?_)
        refine v_ineg K dX0_runFrom_254 ?_
        exact v_iret K rfl dX0_runFrom_255 hM
      rcases ite_inv hM with ⟨hx27, hM⟩ | ⟨hx27, hM⟩
      · refine v_lookI K dX0_runFrom_55 (k := (40 : Int32)) hx27 (by decide) (off := 201) (by decide) (tgt := 256) (by decide) ?_
        refine v_aload_n K dX0_runFrom_256 4 rfl ?_
        refine v_iload K dX0_runFrom_257 1 rfl ?_
        refine v_iconst (v := (2 : Int32)) K dX0_runFrom_259 (by decide) ?_
        refine v_iload_n K dX0_runFrom_260 7 rfl ?_
        refine v_iload K dX0_runFrom_261 0 rfl ?_
        refine x_Vi (As := [.int x6, .int (2 : Int32), .int p3, .int x7]) (st := []) K uv_X0_runFrom qm_X0_54 dX0_runFrom_263 rv_X0 (fun _ h => ih_r0 n x6 (2 : Int32) p3 x7 s8 h) rfl ⟨by simp only [rmH]; omega, by simp only [rmH]; omega⟩ (Nat.le_of_ble_eq_true rfl) hM (fun r26 s25 hM => ?_)
        refine v_iconst (v := (3 : Int32)) K dX0_runFrom_266 (by decide) ?_
        refine v_imul K dX0_runFrom_267 ?_
        exact v_iret K rfl dX0_runFrom_268 hM
      rcases ite_inv hM with ⟨hx30, hM⟩ | ⟨hx30, hM⟩
      · refine v_lookI K dX0_runFrom_55 (k := (41 : Int32)) hx30 (by decide) (off := 214) (by decide) (tgt := 269) (by decide) ?_
        refine v_aload_n K dX0_runFrom_269 4 rfl ?_
        refine v_iload K dX0_runFrom_270 1 rfl ?_
        refine v_iconst (v := (1 : Int32)) K dX0_runFrom_272 (by decide) ?_
        refine v_iload_n K dX0_runFrom_273 7 rfl ?_
        refine v_iconst (v := (1 : Int32)) K dX0_runFrom_274 (by decide) ?_
        refine v_iadd K dX0_runFrom_275 ?_
        refine v_iload K dX0_runFrom_276 0 rfl ?_
        refine x_Vi (As := [.int x6, .int (1 : Int32), .int (p3 + (1 : Int32)), .int x7]) (st := []) K uv_X0_runFrom qm_X0_54 dX0_runFrom_278 rv_X0 (fun _ h => ih_r0 n x6 (1 : Int32) (p3 + (1 : Int32)) x7 s8 h) rfl ⟨by simp only [rmH]; omega, by simp only [rmH]; omega⟩ (Nat.le_of_ble_eq_true rfl) hM (fun r29 s28 hM => ?_)
        exact v_iret K rfl dX0_runFrom_281 hM
      rcases ite_inv hM with ⟨hx33, hM⟩ | ⟨hx33, hM⟩
      · refine v_lookI K dX0_runFrom_55 (k := (50 : Int32)) hx33 (by decide) (off := 227) (by decide) (tgt := 282) (by decide) ?_
        refine v_aload_n K dX0_runFrom_282 4 rfl ?_
        refine v_iload K dX0_runFrom_283 1 rfl ?_
        refine v_iconst (v := (3 : Int32)) K dX0_runFrom_285 (by decide) ?_
        refine v_iload_n K dX0_runFrom_286 7 rfl ?_
        refine v_iload K dX0_runFrom_287 0 rfl ?_
        refine x_Vi (As := [.int x6, .int (3 : Int32), .int p3, .int x7]) (st := []) K uv_X0_runFrom qm_X0_54 dX0_runFrom_289 rv_X0 (fun _ h => ih_r0 n x6 (3 : Int32) p3 x7 s8 h) rfl ⟨by simp only [rmH]; omega, by simp only [rmH]; omega⟩ (Nat.le_of_ble_eq_true rfl) hM (fun r32 s31 hM => ?_)
        refine v_iconst (v := (5 : Int32)) K dX0_runFrom_292 (by decide) ?_
        refine v_ixor K dX0_runFrom_293 ?_
        exact v_iret K rfl dX0_runFrom_294 hM
      rcases ite_inv hM with ⟨hx38, hM⟩ | ⟨hx38, hM⟩
      · refine v_lookI K dX0_runFrom_55 (k := (60 : Int32)) hx38 (by decide) (off := 240) (by decide) (tgt := 295) (by decide) ?_
        refine v_aload_n K dX0_runFrom_295 4 rfl ?_
        refine v_iload K dX0_runFrom_296 1 rfl ?_
        refine v_iconst (v := (2 : Int32)) K dX0_runFrom_298 (by decide) ?_
        refine v_iload_n K dX0_runFrom_299 7 rfl ?_
        refine v_iload K dX0_runFrom_300 0 rfl ?_
        refine x_Vi (As := [.int x6, .int (2 : Int32), .int p3, .int x7]) (st := []) K uv_X0_runFrom qm_X0_54 dX0_runFrom_302 rv_X0 (fun _ h => ih_r0 n x6 (2 : Int32) p3 x7 s8 h) rfl ⟨by simp only [rmH]; omega, by simp only [rmH]; omega⟩ (Nat.le_of_ble_eq_true rfl) hM (fun r35 s34 hM => ?_)
        refine v_aload_n K dX0_runFrom_305 4 rfl ?_
        refine v_aload_n K dX0_runFrom_306 4 rfl ?_
        refine g_X0_5 K qf_X0_28 dX0_runFrom_307 ?_
        refine v_iconst (v := (0 : Int32)) K dX0_runFrom_310 (by decide) ?_
        refine v_iconst (v := (2 : Int32)) K dX0_runFrom_311 (by decide) ?_
        refine v_iload K dX0_runFrom_312 0 rfl ?_
        refine x_Vi (As := [.int (gI s34 24 5), .int (0 : Int32), .int (2 : Int32), .int x7]) (st := [.int r35]) K uv_X0_runFrom qm_X0_54 dX0_runFrom_314 rv_X0 (fun _ h => ih_r0 n (gI s34 24 5) (0 : Int32) (2 : Int32) x7 s34 h) rfl ⟨by simp only [rmH]; omega, by simp only [rmH]; omega⟩ (Nat.le_of_ble_eq_true rfl) hM (fun r37 s36 hM => ?_)
        refine v_isub K dX0_runFrom_317 ?_
        exact v_iret K rfl dX0_runFrom_318 hM
      rcases ite_inv hM with ⟨hx41, hM⟩ | ⟨hx41, hM⟩
      · refine v_lookI K dX0_runFrom_55 (k := (61 : Int32)) hx41 (by decide) (off := 264) (by decide) (tgt := 319) (by decide) ?_
        refine v_aload_n K dX0_runFrom_319 4 rfl ?_
        refine v_iload K dX0_runFrom_320 1 rfl ?_
        refine v_iconst (v := (3 : Int32)) K dX0_runFrom_322 (by decide) ?_
        refine v_iload_n K dX0_runFrom_323 7 rfl ?_
        refine v_iload K dX0_runFrom_324 0 rfl ?_
        refine x_Vi (As := [.int x6, .int (3 : Int32), .int p3, .int x7]) (st := []) K uv_X0_runFrom qm_X0_54 dX0_runFrom_326 rv_X0 (fun _ h => ih_r0 n x6 (3 : Int32) p3 x7 s8 h) rfl ⟨by simp only [rmH]; omega, by simp only [rmH]; omega⟩ (Nat.le_of_ble_eq_true rfl) hM (fun r40 s39 hM => ?_)
        refine v_iconst (v := (1 : Int32)) K dX0_runFrom_329 (by decide) ?_
        refine v_iadd K dX0_runFrom_330 ?_
        exact v_iret K rfl dX0_runFrom_331 hM
      rcases ite_inv hM with ⟨hx44, hM⟩ | ⟨hx44, hM⟩
      · refine v_lookI K dX0_runFrom_55 (k := (70 : Int32)) hx44 (by decide) (off := 277) (by decide) (tgt := 332) (by decide) ?_
        refine v_aload_n K dX0_runFrom_332 4 rfl ?_
        refine v_iload K dX0_runFrom_333 1 rfl ?_
        refine v_iconst (v := (0 : Int32)) K dX0_runFrom_335 (by decide) ?_
        refine v_iload_n K dX0_runFrom_336 7 rfl ?_
        refine v_iload K dX0_runFrom_337 0 rfl ?_
        refine x_Vi (As := [.int x6, .int (0 : Int32), .int p3, .int x7]) (st := []) K uv_X0_runFrom qm_X0_54 dX0_runFrom_339 rv_X0 (fun _ h => ih_r0 n x6 (0 : Int32) p3 x7 s8 h) rfl ⟨by simp only [rmH]; omega, by simp only [rmH]; omega⟩ (Nat.le_of_ble_eq_true rfl) hM (fun r43 s42 hM => ?_)
        refine v_iconst (v := (2 : Int32)) K dX0_runFrom_342 (by decide) ?_
        refine v_imul K dX0_runFrom_343 ?_
        exact v_iret K rfl dX0_runFrom_344 hM
      rcases ite_inv hM with ⟨hx49, hM⟩ | ⟨hx49, hM⟩
      · refine v_lookI K dX0_runFrom_55 (k := (80 : Int32)) hx49 (by decide) (off := 290) (by decide) (tgt := 345) (by decide) ?_
        refine v_aload_n K dX0_runFrom_345 4 rfl ?_
        refine v_iload K dX0_runFrom_346 1 rfl ?_
        refine v_iconst (v := (1 : Int32)) K dX0_runFrom_348 (by decide) ?_
        refine v_iload_n K dX0_runFrom_349 7 rfl ?_
        refine v_iload K dX0_runFrom_350 0 rfl ?_
        refine x_Vi (As := [.int x6, .int (1 : Int32), .int p3, .int x7]) (st := []) K uv_X0_runFrom qm_X0_54 dX0_runFrom_352 rv_X0 (fun _ h => ih_r0 n x6 (1 : Int32) p3 x7 s8 h) rfl ⟨by simp only [rmH]; omega, by simp only [rmH]; omega⟩ (Nat.le_of_ble_eq_true rfl) hM (fun r46 s45 hM => ?_)
        refine v_aload_n K dX0_runFrom_355 4 rfl ?_
        refine v_aload_n K dX0_runFrom_356 4 rfl ?_
        refine g_X0_5 K qf_X0_28 dX0_runFrom_357 ?_
        refine v_iconst (v := (2 : Int32)) K dX0_runFrom_360 (by decide) ?_
        refine v_iconst (v := (2 : Int32)) K dX0_runFrom_361 (by decide) ?_
        refine v_iload K dX0_runFrom_362 0 rfl ?_
        refine x_Vi (As := [.int (gI s45 24 5), .int (2 : Int32), .int (2 : Int32), .int x7]) (st := [.int r46]) K uv_X0_runFrom qm_X0_54 dX0_runFrom_364 rv_X0 (fun _ h => ih_r0 n (gI s45 24 5) (2 : Int32) (2 : Int32) x7 s45 h) rfl ⟨by simp only [rmH]; omega, by simp only [rmH]; omega⟩ (Nat.le_of_ble_eq_true rfl) hM (fun r48 s47 hM => ?_)
        refine v_iadd K dX0_runFrom_367 ?_
        exact v_iret K rfl dX0_runFrom_368 hM
      rcases ite_inv hM with ⟨hx52, hM⟩ | ⟨hx52, hM⟩
      · refine v_lookI K dX0_runFrom_55 (k := (81 : Int32)) hx52 (by decide) (off := 314) (by decide) (tgt := 369) (by decide) ?_
        refine v_aload_n K dX0_runFrom_369 4 rfl ?_
        refine v_iload K dX0_runFrom_370 1 rfl ?_
        refine v_iconst (v := (0 : Int32)) K dX0_runFrom_372 (by decide) ?_
        refine v_iload_n K dX0_runFrom_373 7 rfl ?_
        refine v_iload K dX0_runFrom_374 0 rfl ?_
        refine x_Vi (As := [.int x6, .int (0 : Int32), .int p3, .int x7]) (st := []) K uv_X0_runFrom qm_X0_54 dX0_runFrom_376 rv_X0 (fun _ h => ih_r0 n x6 (0 : Int32) p3 x7 s8 h) rfl ⟨by simp only [rmH]; omega, by simp only [rmH]; omega⟩ (Nat.le_of_ble_eq_true rfl) hM (fun r51 s50 hM => ?_)
        refine v_iconst (v := (1 : Int32)) K dX0_runFrom_379 (by decide) ?_
        refine v_isub K dX0_runFrom_380 ?_
        exact v_iret K rfl dX0_runFrom_381 hM
      refine v_lookO K dX0_runFrom_55 (by decide) (off := 327) (by have a0 : x4.toInt ≠ 1 := ne_toInt hx9; have a1 : x4.toInt ≠ 2 := ne_toInt hx14; have a2 : x4.toInt ≠ 10 := ne_toInt hx17; have a3 : x4.toInt ≠ 11 := ne_toInt hx18; have a4 : x4.toInt ≠ 20 := ne_toInt hx21; have a5 : x4.toInt ≠ 30 := ne_toInt hx24; have a6 : x4.toInt ≠ 40 := ne_toInt hx27; have a7 : x4.toInt ≠ 41 := ne_toInt hx30; have a8 : x4.toInt ≠ 50 := ne_toInt hx33; have a9 : x4.toInt ≠ 60 := ne_toInt hx38; have a10 : x4.toInt ≠ 61 := ne_toInt hx41; have a11 : x4.toInt ≠ 70 := ne_toInt hx44; have a12 : x4.toInt ≠ 80 := ne_toInt hx49; have a13 : x4.toInt ≠ 81 := ne_toInt hx52; simp [Op.lookupswitch.offset, a0, Ne.symm a0, a1, Ne.symm a1, a2, Ne.symm a2, a3, Ne.symm a3, a4, Ne.symm a4, a5, Ne.symm a5, a6, Ne.symm a6, a7, Ne.symm a7, a8, Ne.symm a8, a9, Ne.symm a9, a10, Ne.symm a10, a11, Ne.symm a11, a12, Ne.symm a12, a13, Ne.symm a13]) (tgt := 382) (by decide) ?_
      refine v_iconst (v := (0 : Int32)) K dX0_runFrom_382 (by decide) ?_
      exact v_iret K rfl dX0_runFrom_383 hM
    · refine v_iconst (v := (0 : Int32)) K dX0_runFrom_19 (by decide) ?_
      exact v_iret K rfl dX0_runFrom_20 hM
noncomputable def D_X0_runFrom (O : Nat → Nat → Int32 → Int32 → Int32 → Int32 → St → Option (Int32 × St)) : Nat → Nat → Int32 → Int32 → Int32 → Int32 → St → Option (Int32 × St) := fun mi n a0 a1 a2 a3 σ => match mi with
  | 0 => E_X0_runFrom O n a0 a1 a2 a3 σ
  | _ => none
noncomputable def F_X0_runFrom (d : Nat) : Nat → Nat → Int32 → Int32 → Int32 → Int32 → St → Option (Int32 × St) := Nat.rec (fun _ _ _ _ _ _ _ => none) (fun _ O => D_X0_runFrom O) d
theorem r_X0_runFrom (l : Launch) {D : va_G} {A : Nat → Prop} {ad : Nat → Nat} {dA : Nat → ClassId} (d : Nat) : (∀ (n : Nat) (p1 : Int32) (p2 : Int32) (p3 : Int32) (p4 : Int32) (σ : St) {res : Int32 × St}, F_X0_runFrom d 0 n p1 p2 p3 p4 σ = some res → MI l yX0_runFrom cX0_runFrom 9 (some .int) (3 + d) D (tysX dA) (wdX ad dA) A [.ref (ad 24), .int p1, .int p2, .int p3, .int p4] σ (QI D (wdX ad dA) A res)) := by
  induction d with
  | zero => exact (fun _ _ _ _ _ _ _ h => (by cases h))
  | succ d ih =>
    exact fun n p1 p2 p3 p4 σ _ hM => e_X0_runFrom l d ih n p1 p2 p3 p4 σ hM
theorem c_X0_runFrom (l : Launch) {D : va_G} {A : Nat → Prop} {ad : Nat → Nat} {dA : Nat → ClassId} (d n : Nat) (p1 : Int32) (p2 : Int32) (p3 : Int32) (p4 : Int32) (σ : St) {res : Int32 × St} (hM : F_X0_runFrom d 0 n p1 p2 p3 p4 σ = some res) : MI l yX0_runFrom cX0_runFrom 9 (some .int) (3 + d) D (tysX dA) (wdX ad dA) A [.ref (ad 24), .int p1, .int p2, .int p3, .int p4] σ (QI D (wdX ad dA) A res) := (r_X0_runFrom l d) n p1 p2 p3 p4 σ hM
noncomputable def F_X0_perform (n : Nat) (p1 : Int32) (p2 : Int32) (p3 : Int32) (σ : St) : Option (Int32 × St) := bnd (sI σ 24 3 (0 : Int32)) fun s1 => bd (F_X0_has n p1 s1) fun r3 s2 => if r3 = 0 then (some ((0 : Int32), s2)) else (if p2 < 0 then (some ((0 : Int32), s2)) else (if p2 < (4 : Int32) then (bnd (sI s2 24 4 p1) fun s4 => gd (vp_in p1 50) (bnd (sI s4 24 5 (gI s4 25 (p1).toNatClampNeg)) fun s5 => bd (F_X0_runFrom 100 0 n (gI s5 24 5) p2 p3 (0 : Int32) s5) fun r7 s6 => some (r7, s6))) else (some ((0 : Int32), s2))))
set_option maxHeartbeats 4000000 in
set_option maxRecDepth 20000 in
theorem c_X0_perform (l : Launch) {D : va_G} {A : Nat → Prop} {ad : Nat → Nat} {dA : Nat → ClassId}  (n : Nat) (p1 : Int32) (p2 : Int32) (p3 : Int32) (σ : St) {res : Int32 × St} (hM : F_X0_perform n p1 p2 p3 σ = some res) : MI l yX0_perform cX0_perform 4 (some .int) 104 D (tysX dA) (wdX ad dA) A [.ref (ad 24), .int p1, .int p2, .int p3] σ (QI D (wdX ad dA) A res) := by
  refine mk_met (by decide +kernel) (Nat.le_of_ble_eq_true rfl) (fun p e s m below meth c K => ?_)
  have K : Cx p s m _ meth c cX0_perform 4 (some .int) RX0 D (tysX dA) (wdX ad dA) A := K
  refine v_aload_n K dX0_perform_0 0 rfl ?_
  refine v_iconst (v := (0 : Int32)) K dX0_perform_1 (by decide) ?_
  refine p_X0_3 K qf_X0_22 dX0_perform_2 hM (fun s1 hM => ?_)
  refine v_aload_n K dX0_perform_5 0 rfl ?_
  refine v_iload_n K dX0_perform_6 1 rfl ?_
  refine x_Vi (As := [.int p1]) (st := []) K uv_X0_has qm_X0_42 dX0_perform_7 rv_X0 (fun _ h => c_X0_has l  n p1 s1 h) rfl ⟨(Nat.le_of_ble_eq_true rfl), (Nat.le_of_ble_eq_true rfl)⟩ (Nat.le_of_ble_eq_true rfl) hM (fun r3 s2 hM => ?_)
  refine v_if_eq K 22 dX0_perform_10 (by decide) hM (fun hM => ?_) (fun hM => ?_)
  · refine v_iconst (v := (0 : Int32)) K dX0_perform_22 (by decide) ?_
    exact v_iret K rfl dX0_perform_23 hM
  · refine v_iload_n K dX0_perform_13 2 rfl ?_
    refine v_if_lt K 22 dX0_perform_14 (by decide) hM (fun hM => ?_) (fun hM => ?_)
    · refine v_iconst (v := (0 : Int32)) K dX0_perform_22 (by decide) ?_
      exact v_iret K rfl dX0_perform_23 hM
    · refine v_iload_n K dX0_perform_17 2 rfl ?_
      refine v_iconst (v := (4 : Int32)) K dX0_perform_18 (by decide) ?_
      refine v_icmp_lt K 24 dX0_perform_19 (by decide) hM (fun hM => ?_) (fun hM => ?_)
      · refine v_aload_n K dX0_perform_24 0 rfl ?_
        refine v_iload_n K dX0_perform_25 1 rfl ?_
        refine p_X0_4 K qf_X0_25 dX0_perform_26 hM (fun s4 hM => ?_)
        refine v_aload_n K dX0_perform_29 0 rfl ?_
        refine v_aload_n K dX0_perform_30 0 rfl ?_
        refine g_X0_0 K qf_X0_11 dX0_perform_31 ?_
        refine v_iload_n K dX0_perform_34 1 rfl ?_
        refine ld_X25 K dX0_perform_35 hM (fun hM => ?_)
        refine p_X0_5 K qf_X0_28 dX0_perform_36 hM (fun s5 hM => ?_)
        refine v_aload_n K dX0_perform_39 0 rfl ?_
        refine v_aload_n K dX0_perform_40 0 rfl ?_
        refine g_X0_5 K qf_X0_28 dX0_perform_41 ?_
        refine v_iload_n K dX0_perform_44 2 rfl ?_
        refine v_iload_n K dX0_perform_45 3 rfl ?_
        refine v_iconst (v := (0 : Int32)) K dX0_perform_46 (by decide) ?_
        refine x_Vi (As := [.int (gI s5 24 5), .int p2, .int p3, .int (0 : Int32)]) (st := []) K uv_X0_runFrom qm_X0_54 dX0_perform_47 rv_X0 (fun _ h => c_X0_runFrom l 100 n (gI s5 24 5) p2 p3 (0 : Int32) s5 h) rfl ⟨(Nat.le_of_ble_eq_true rfl), (Nat.le_of_ble_eq_true rfl)⟩ (Nat.le_of_ble_eq_true rfl) hM (fun r7 s6 hM => ?_)
        exact v_iret K rfl dX0_perform_50 hM
      · refine v_iconst (v := (0 : Int32)) K dX0_perform_22 (by decide) ?_
        exact v_iret K rfl dX0_perform_23 hM
noncomputable def F_X1_isSeat (n : Nat) (p0 : Int32) (σ : St) : Option (Int32 × St) := if p0 < 0 then (some ((0 : Int32), σ)) else (if (7 : Int32) ≤ p0 then (some ((0 : Int32), σ)) else (some ((1 : Int32), σ)))
set_option maxHeartbeats 4000000 in
set_option maxRecDepth 20000 in
theorem c_X1_isSeat (l : Launch) {D : va_G} {A : Nat → Prop} {ad : Nat → Nat} {dA : Nat → ClassId}  (n : Nat) (p0 : Int32) (σ : St) {res : Int32 × St} (hM : F_X1_isSeat n p0 σ = some res) : MI l yX1_isSeat cX1_isSeat 1 (some .boolean) 1 D (tysX dA) (wdX ad dA) A [.int p0] σ (QI D (wdX ad dA) A res) := by
  refine mk_met (by decide +kernel) (Nat.le_of_ble_eq_true rfl) (fun p e s m below meth c K => ?_)
  have K : Cx p s m _ meth c cX1_isSeat 1 (some .boolean) RX1 D (tysX dA) (wdX ad dA) A := K
  refine v_iload_n K dX1_isSeat_0 0 rfl ?_
  refine v_if_lt K 14 dX1_isSeat_1 (by decide) hM (fun hM => ?_) (fun hM => ?_)
  · refine v_iconst (v := (0 : Int32)) K dX1_isSeat_14 (by decide) ?_
    exact v_zret K rfl rfl dX1_isSeat_15 hM
  · refine v_iload_n K dX1_isSeat_4 0 rfl ?_
    refine v_bipush (v := (7 : Int32)) K dX1_isSeat_5 (by decide) ?_
    refine v_icmp_ge K 14 dX1_isSeat_7 (by decide) hM (fun hM => ?_) (fun hM => ?_)
    · refine v_iconst (v := (0 : Int32)) K dX1_isSeat_14 (by decide) ?_
      exact v_zret K rfl rfl dX1_isSeat_15 hM
    · refine v_iconst (v := (1 : Int32)) K dX1_isSeat_10 (by decide) ?_
      refine v_goto (tgt := 15) K dX1_isSeat_11 (by decide) ?_
      exact v_zret K rfl rfl dX1_isSeat_15 hM
noncomputable def F_X1_boundTo (n : Nat) (b0 : Nat) (p1 : Int32) (σ : St) : Option (Int32 × St) := bd (F_X1_isSeat n p1 σ) fun r2 s1 => if r2 = 0 then (some ((-1 : Int32), s1)) else (gd (vp_in p1 7) (some ((gI s1 (b0 + 1) (p1).toNatClampNeg), s1)))
set_option maxHeartbeats 4000000 in
set_option maxRecDepth 20000 in
theorem c_X1_boundTo (l : Launch) {D : va_G} {A : Nat → Prop} {ad : Nat → Nat} {dA : Nat → ClassId} (b0 : Nat) (hb0 : isB b0) (n : Nat) (p1 : Int32) (σ : St) {res : Int32 × St} (hM : F_X1_boundTo n b0 p1 σ = some res) : MI l yX1_boundTo cX1_boundTo 2 (some .int) 2 D (tysX dA) (wdX ad dA) A [.ref (ad b0), .int p1] σ (QI D (wdX ad dA) A res) := by
  refine mk_met (by decide +kernel) (Nat.le_of_ble_eq_true rfl) (fun p e s m below meth c K => ?_)
  have K : Cx p s m _ meth c cX1_boundTo 2 (some .int) RX1 D (tysX dA) (wdX ad dA) A := K
  refine v_iload_n K dX1_boundTo_0 1 rfl ?_
  refine x_Si (As := [.int p1]) (st := []) K us_X1_isSeat qm_X1_19 dX1_boundTo_1 (fun _ h => c_X1_isSeat l  n p1 σ h) rfl ⟨(Nat.le_of_ble_eq_true rfl), (Nat.le_of_ble_eq_true rfl)⟩ (Nat.le_of_ble_eq_true rfl) hM (fun r2 s1 hM => ?_)
  refine v_if_eq K 16 dX1_boundTo_4 (by decide) hM (fun hM => ?_) (fun hM => ?_)
  · refine v_iconst (v := (-1 : Int32)) K dX1_boundTo_16 (by decide) ?_
    exact v_iret K rfl dX1_boundTo_17 hM
  · refine v_aload_n K dX1_boundTo_7 0 rfl ?_
    refine g_X1_0 K hb0 qf_X1_9 dX1_boundTo_8 ?_
    refine v_iload_n K dX1_boundTo_11 1 rfl ?_
    refine ld_X1a1 K hb0 dX1_boundTo_12 hM (fun hM => ?_)
    refine v_goto (tgt := 17) K dX1_boundTo_13 (by decide) ?_
    exact v_iret K rfl dX1_boundTo_17 hM
noncomputable def F_X1_isFree (n : Nat) (b0 : Nat) (p1 : Int32) (σ : St) : Option (Int32 × St) := bd (F_X1_isSeat n p1 σ) fun r2 s1 => if r2 = 0 then (some ((0 : Int32), s1)) else (gd (vp_in p1 7) (if (gI s1 (b0 + 1) (p1).toNatClampNeg) = (-1 : Int32) then (some ((1 : Int32), s1)) else (some ((0 : Int32), s1))))
set_option maxHeartbeats 4000000 in
set_option maxRecDepth 20000 in
theorem c_X1_isFree (l : Launch) {D : va_G} {A : Nat → Prop} {ad : Nat → Nat} {dA : Nat → ClassId} (b0 : Nat) (hb0 : isB b0) (n : Nat) (p1 : Int32) (σ : St) {res : Int32 × St} (hM : F_X1_isFree n b0 p1 σ = some res) : MI l yX1_isFree cX1_isFree 2 (some .boolean) 2 D (tysX dA) (wdX ad dA) A [.ref (ad b0), .int p1] σ (QI D (wdX ad dA) A res) := by
  refine mk_met (by decide +kernel) (Nat.le_of_ble_eq_true rfl) (fun p e s m below meth c K => ?_)
  have K : Cx p s m _ meth c cX1_isFree 2 (some .boolean) RX1 D (tysX dA) (wdX ad dA) A := K
  refine v_iload_n K dX1_isFree_0 1 rfl ?_
  refine x_Si (As := [.int p1]) (st := []) K us_X1_isSeat qm_X1_19 dX1_isFree_1 (fun _ h => c_X1_isSeat l  n p1 σ h) rfl ⟨(Nat.le_of_ble_eq_true rfl), (Nat.le_of_ble_eq_true rfl)⟩ (Nat.le_of_ble_eq_true rfl) hM (fun r2 s1 hM => ?_)
  refine v_if_eq K 21 dX1_isFree_4 (by decide) hM (fun hM => ?_) (fun hM => ?_)
  · refine v_iconst (v := (0 : Int32)) K dX1_isFree_21 (by decide) ?_
    exact v_zret K rfl rfl dX1_isFree_22 hM
  · refine v_aload_n K dX1_isFree_7 0 rfl ?_
    refine g_X1_0 K hb0 qf_X1_9 dX1_isFree_8 ?_
    refine v_iload_n K dX1_isFree_11 1 rfl ?_
    refine ld_X1a1 K hb0 dX1_isFree_12 hM (fun hM => ?_)
    refine v_iconst (v := (-1 : Int32)) K dX1_isFree_13 (by decide) ?_
    refine v_icmp_ne K 21 dX1_isFree_14 (by decide) hM (fun hM => ?_) (fun hM => ?_)
    · refine v_iconst (v := (0 : Int32)) K dX1_isFree_21 (by decide) ?_
      exact v_zret K rfl rfl dX1_isFree_22 hM
    · refine v_iconst (v := (1 : Int32)) K dX1_isFree_17 (by decide) ?_
      refine v_goto (tgt := 22) K dX1_isFree_18 (by decide) ?_
      exact v_zret K rfl rfl dX1_isFree_22 hM
noncomputable def F_X1_casesAhead (n : Nat) (b0 : Nat) (σ : St) : Option (Int32 × St) := some ((gI σ b0 1), σ)
set_option maxHeartbeats 4000000 in
set_option maxRecDepth 20000 in
theorem c_X1_casesAhead (l : Launch) {D : va_G} {A : Nat → Prop} {ad : Nat → Nat} {dA : Nat → ClassId} (b0 : Nat) (hb0 : isB b0) (n : Nat)  (σ : St) {res : Int32 × St} (hM : F_X1_casesAhead n b0 σ = some res) : MI l yX1_casesAhead cX1_casesAhead 1 (some .int) 1 D (tysX dA) (wdX ad dA) A [.ref (ad b0)] σ (QI D (wdX ad dA) A res) := by
  refine mk_met (by decide +kernel) (Nat.le_of_ble_eq_true rfl) (fun p e s m below meth c K => ?_)
  have K : Cx p s m _ meth c cX1_casesAhead 1 (some .int) RX1 D (tysX dA) (wdX ad dA) A := K
  refine v_aload_n K dX1_casesAhead_0 0 rfl ?_
  refine g_X1_1 K hb0 qf_X1_15 dX1_casesAhead_1 ?_
  exact v_iret K rfl dX1_casesAhead_4 hM
noncomputable def B_X1_howManyBound_1 (J : Nat → Int32 → Int32 → St → Option (Int32 × St)) (n : Nat) (b0 : Nat) (l1 : Int32) (l2 : Int32) (σ : St) : Option (Int32 × St) := if (7 : Int32) ≤ l2 then (some (l1, σ)) else (gd (vp_in l2 7) (if (gI σ (b0 + 1) (l2).toNatClampNeg) = (-1 : Int32) then (bnd (l2 + (1 : Int32)) fun x1 => J 1 l1 x1 σ) else (bnd (l1 + (1 : Int32)) fun x2 => bnd (l2 + (1 : Int32)) fun x3 => J 1 x2 x3 σ)))
noncomputable def S_X1_howManyBound (b0 : Nat) (n : Nat) (J : Nat → Int32 → Int32 → St → Option (Int32 × St)) : Nat → Int32 → Int32 → St → Option (Int32 × St) := fun lb a0 a1 σ => match lb with
  | 1 => B_X1_howManyBound_1 J n b0 a0 a1 σ
  | _ => none
noncomputable def L_X1_howManyBound (b0 : Nat) (n : Nat) : Nat → Int32 → Int32 → St → Option (Int32 × St) := Nat.rec (fun _ _ _ _ => none) (fun n J => S_X1_howManyBound b0 n J) n
noncomputable def F_X1_howManyBound (n : Nat) (b0 : Nat) (σ : St) : Option (Int32 × St) := L_X1_howManyBound b0 n 1 (0 : Int32) (0 : Int32) σ
set_option maxHeartbeats 4000000 in
set_option maxRecDepth 20000 in
theorem t_X1_howManyBound (l : Launch) {p : Program} {e : Env} {s : State} {m : MethodId} {args : Array Value} {below : List Frame} {meth : Method} {c : Code} {D : va_G} {A : Nat → Prop} {ad : Nat → Nat} {dA : Nat → ClassId} (b0 : Nat) (hb0 : isB b0) (K : Cx p s m args meth c cX1_howManyBound 3 (some .int) RX1 D (tysX dA) (wdX ad dA) A) {res : Int32 × St} (n : Nat) : (∀ (l1 : Int32) (l2 : Int32) (σ : St), L_X1_howManyBound b0 n 1 l1 l2 σ = some res → V p l e (rmH 1) s m args below meth c 3 D (wdX ad dA) A (MQ below (QI D (wdX ad dA) A res) args s 0 0 A) 4 [(0, .ref (ad b0)), (1, .int l1), (2, .int l2)] [] σ) := by
  induction n with
  | zero => exact (fun _ _ _ h => (by cases h))
  | succ n ih =>
    have ih_1 := ih
    · intro l1 l2 σ hM
      have hM : B_X1_howManyBound_1 (L_X1_howManyBound b0 n) n b0 l1 l2 σ = some res := hM
      refine v_iload_n K dX1_howManyBound_4 2 rfl ?_
      refine v_bipush (v := (7 : Int32)) K dX1_howManyBound_5 (by decide) ?_
      refine v_icmp_ge K 29 dX1_howManyBound_7 (by decide) hM (fun hM => ?_) (fun hM => ?_)
      · refine v_iload_n K dX1_howManyBound_29 1 rfl ?_
        exact v_iret K rfl dX1_howManyBound_30 hM
      · refine v_aload_n K dX1_howManyBound_10 0 rfl ?_
        refine g_X1_0 K hb0 qf_X1_9 dX1_howManyBound_11 ?_
        refine v_iload_n K dX1_howManyBound_14 2 rfl ?_
        refine ld_X1a1 K hb0 dX1_howManyBound_15 hM (fun hM => ?_)
        refine v_iconst (v := (-1 : Int32)) K dX1_howManyBound_16 (by decide) ?_
        refine v_icmp_eq K 23 dX1_howManyBound_17 (by decide) hM (fun hM => ?_) (fun hM => ?_)
        · refine v_iinc K dX1_howManyBound_23 2 rfl (v := (l2 + (1 : Int32))) rfl (by decide) hM (fun y => [(2, .int y), (0, .ref (ad b0)), (1, .int l1)]) (fun _ => rfl) (fun x1 hM => ?_)
          refine v_goto (tgt := 4) K dX1_howManyBound_26 (by decide) ?_
          exact v_sub [1, 2, 0] rfl (ih_1 l1 x1 σ hM)
        · refine v_iinc K dX1_howManyBound_20 1 rfl (v := (l1 + (1 : Int32))) rfl (by decide) hM (fun y => [(1, .int y), (0, .ref (ad b0)), (2, .int l2)]) (fun _ => rfl) (fun x2 hM => ?_)
          refine v_iinc K dX1_howManyBound_23 2 rfl (v := (l2 + (1 : Int32))) rfl (by decide) hM (fun y => [(2, .int y), (1, .int x2), (0, .ref (ad b0))]) (fun _ => rfl) (fun x3 hM => ?_)
          refine v_goto (tgt := 4) K dX1_howManyBound_26 (by decide) ?_
          exact v_sub [2, 1, 0] rfl (ih_1 x2 x3 σ hM)
set_option maxHeartbeats 4000000 in
set_option maxRecDepth 20000 in
theorem c_X1_howManyBound (l : Launch) {D : va_G} {A : Nat → Prop} {ad : Nat → Nat} {dA : Nat → ClassId} (b0 : Nat) (hb0 : isB b0) (n : Nat)  (σ : St) {res : Int32 × St} (hM : F_X1_howManyBound n b0 σ = some res) : MI l yX1_howManyBound cX1_howManyBound 3 (some .int) 1 D (tysX dA) (wdX ad dA) A [.ref (ad b0)] σ (QI D (wdX ad dA) A res) := by
  refine mk_met (by decide +kernel) (Nat.le_of_ble_eq_true rfl) (fun p e s m below meth c K => ?_)
  have K : Cx p s m _ meth c cX1_howManyBound 3 (some .int) RX1 D (tysX dA) (wdX ad dA) A := K
  have ih_1 := t_X1_howManyBound l b0 hb0  K (res := res) n (below := below) (e := e)
  refine v_iconst (v := (0 : Int32)) K dX1_howManyBound_0 (by decide) ?_
  refine v_istore_n K dX1_howManyBound_1 rfl (by decide) [(1, .int (0 : Int32)), (0, .ref (ad b0))] rfl ?_
  refine v_iconst (v := (0 : Int32)) K dX1_howManyBound_2 (by decide) ?_
  refine v_istore_n K dX1_howManyBound_3 rfl (by decide) [(2, .int (0 : Int32)), (1, .int (0 : Int32)), (0, .ref (ad b0))] rfl ?_
  exact v_sub [2, 1, 0] rfl (ih_1 (0 : Int32) (0 : Int32) σ hM)
noncomputable def B_X1_speakerFor_1 (J : Nat → Int32 → Int32 → St → Option (Int32 × St)) (n : Nat) (b0 : Nat) (l1 : Int32) (l2 : Int32) (σ : St) : Option (Int32 × St) := if (7 : Int32) ≤ l2 then (some (l1, σ)) else (gd (vp_in l2 7) (if (gI σ (b0 + 1) (l2).toNatClampNeg) = l1 then (some (l2, σ)) else (bnd (l2 + (1 : Int32)) fun x1 => J 1 l1 x1 σ)))
noncomputable def S_X1_speakerFor (b0 : Nat) (n : Nat) (J : Nat → Int32 → Int32 → St → Option (Int32 × St)) : Nat → Int32 → Int32 → St → Option (Int32 × St) := fun lb a0 a1 σ => match lb with
  | 1 => B_X1_speakerFor_1 J n b0 a0 a1 σ
  | _ => none
noncomputable def L_X1_speakerFor (b0 : Nat) (n : Nat) : Nat → Int32 → Int32 → St → Option (Int32 × St) := Nat.rec (fun _ _ _ _ => none) (fun n J => S_X1_speakerFor b0 n J) n
noncomputable def F_X1_speakerFor (n : Nat) (b0 : Nat) (p1 : Int32) (σ : St) : Option (Int32 × St) := L_X1_speakerFor b0 n 1 p1 (0 : Int32) σ
set_option maxHeartbeats 4000000 in
set_option maxRecDepth 20000 in
theorem t_X1_speakerFor (l : Launch) {p : Program} {e : Env} {s : State} {m : MethodId} {args : Array Value} {below : List Frame} {meth : Method} {c : Code} {D : va_G} {A : Nat → Prop} {ad : Nat → Nat} {dA : Nat → ClassId} (b0 : Nat) (hb0 : isB b0) (K : Cx p s m args meth c cX1_speakerFor 3 (some .int) RX1 D (tysX dA) (wdX ad dA) A) {res : Int32 × St} (n : Nat) : (∀ (l1 : Int32) (l2 : Int32) (σ : St), L_X1_speakerFor b0 n 1 l1 l2 σ = some res → V p l e (rmH 1) s m args below meth c 3 D (wdX ad dA) A (MQ below (QI D (wdX ad dA) A res) args s 0 0 A) 2 [(0, .ref (ad b0)), (1, .int l1), (2, .int l2)] [] σ) := by
  induction n with
  | zero => exact (fun _ _ _ h => (by cases h))
  | succ n ih =>
    have ih_1 := ih
    · intro l1 l2 σ hM
      have hM : B_X1_speakerFor_1 (L_X1_speakerFor b0 n) n b0 l1 l2 σ = some res := hM
      refine v_iload_n K dX1_speakerFor_2 2 rfl ?_
      refine v_bipush (v := (7 : Int32)) K dX1_speakerFor_3 (by decide) ?_
      refine v_icmp_ge K 26 dX1_speakerFor_5 (by decide) hM (fun hM => ?_) (fun hM => ?_)
      · refine v_iload_n K dX1_speakerFor_26 1 rfl ?_
        exact v_iret K rfl dX1_speakerFor_27 hM
      · refine v_aload_n K dX1_speakerFor_8 0 rfl ?_
        refine g_X1_0 K hb0 qf_X1_9 dX1_speakerFor_9 ?_
        refine v_iload_n K dX1_speakerFor_12 2 rfl ?_
        refine ld_X1a1 K hb0 dX1_speakerFor_13 hM (fun hM => ?_)
        refine v_iload_n K dX1_speakerFor_14 1 rfl ?_
        refine v_icmp_ne K 20 dX1_speakerFor_15 (by decide) hM (fun hM => ?_) (fun hM => ?_)
        · refine v_iinc K dX1_speakerFor_20 2 rfl (v := (l2 + (1 : Int32))) rfl (by decide) hM (fun y => [(2, .int y), (0, .ref (ad b0)), (1, .int l1)]) (fun _ => rfl) (fun x1 hM => ?_)
          refine v_goto (tgt := 2) K dX1_speakerFor_23 (by decide) ?_
          exact v_sub [1, 2, 0] rfl (ih_1 l1 x1 σ hM)
        · refine v_iload_n K dX1_speakerFor_18 2 rfl ?_
          exact v_iret K rfl dX1_speakerFor_19 hM
set_option maxHeartbeats 4000000 in
set_option maxRecDepth 20000 in
theorem c_X1_speakerFor (l : Launch) {D : va_G} {A : Nat → Prop} {ad : Nat → Nat} {dA : Nat → ClassId} (b0 : Nat) (hb0 : isB b0) (n : Nat) (p1 : Int32) (σ : St) {res : Int32 × St} (hM : F_X1_speakerFor n b0 p1 σ = some res) : MI l yX1_speakerFor cX1_speakerFor 3 (some .int) 1 D (tysX dA) (wdX ad dA) A [.ref (ad b0), .int p1] σ (QI D (wdX ad dA) A res) := by
  refine mk_met (by decide +kernel) (Nat.le_of_ble_eq_true rfl) (fun p e s m below meth c K => ?_)
  have K : Cx p s m _ meth c cX1_speakerFor 3 (some .int) RX1 D (tysX dA) (wdX ad dA) A := K
  have ih_1 := t_X1_speakerFor l b0 hb0  K (res := res) n (below := below) (e := e)
  refine v_iconst (v := (0 : Int32)) K dX1_speakerFor_0 (by decide) ?_
  refine v_istore_n K dX1_speakerFor_1 rfl (by decide) [(2, .int (0 : Int32)), (0, .ref (ad b0)), (1, .int p1)] rfl ?_
  exact v_sub [1, 2, 0] rfl (ih_1 p1 (0 : Int32) σ hM)
noncomputable def F_X1_setFree (n : Nat) (b0 : Nat) (p1 : Int32) (σ : St) : Option (Unit × St) := bd (F_X1_isSeat n p1 σ) fun r2 s1 => if r2 = 0 then (some ((), s1)) else (gd (vp_in p1 7) (bnd (sI s1 (b0 + 1) (p1).toNatClampNeg (-1 : Int32)) fun s3 => some ((), s3)))
set_option maxHeartbeats 4000000 in
set_option maxRecDepth 20000 in
theorem c_X1_setFree (l : Launch) {D : va_G} {A : Nat → Prop} {ad : Nat → Nat} {dA : Nat → ClassId} (b0 : Nat) (hb0 : isB b0) (n : Nat) (p1 : Int32) (σ : St) {res : Unit × St} (hM : F_X1_setFree n b0 p1 σ = some res) : MI l yX1_setFree cX1_setFree 2 none 2 D (tysX dA) (wdX ad dA) A [.ref (ad b0), .int p1] σ (QV D (wdX ad dA) A res) := by
  refine mk_met (by decide +kernel) (Nat.le_of_ble_eq_true rfl) (fun p e s m below meth c K => ?_)
  have K : Cx p s m _ meth c cX1_setFree 2 none RX1 D (tysX dA) (wdX ad dA) A := K
  refine v_iload_n K dX1_setFree_0 1 rfl ?_
  refine x_Si (As := [.int p1]) (st := []) K us_X1_isSeat qm_X1_19 dX1_setFree_1 (fun _ h => c_X1_isSeat l  n p1 σ h) rfl ⟨(Nat.le_of_ble_eq_true rfl), (Nat.le_of_ble_eq_true rfl)⟩ (Nat.le_of_ble_eq_true rfl) hM (fun r2 s1 hM => ?_)
  refine v_if_eq K 14 dX1_setFree_4 (by decide) hM (fun hM => ?_) (fun hM => ?_)
  · exact v_vret K rfl dX1_setFree_14 hM
  · refine v_aload_n K dX1_setFree_7 0 rfl ?_
    refine g_X1_0 K hb0 qf_X1_9 dX1_setFree_8 ?_
    refine v_iload_n K dX1_setFree_11 1 rfl ?_
    refine v_iconst (v := (-1 : Int32)) K dX1_setFree_12 (by decide) ?_
    refine st_X1a1 K hb0 dX1_setFree_13 hM (fun s3 hM => ?_)
    exact v_vret K rfl dX1_setFree_14 hM
noncomputable def F_X1_settle (n : Nat) (b0 : Nat) (p1 : Int32) (p2 : Int32) (p3 : Int32) (σ : St) : Option (Unit × St) := bd (F_X1_isSeat n p1 σ) fun r2 s1 => if r2 = 0 then (some ((), s1)) else (bd (F_X1_isSeat n p2 s1) fun r4 s3 => if r4 = 0 then (some ((), s3)) else (bd (F_X1_speakerFor n b0 p2 s3) fun r6 s5 => if p3 = 0 then (gd (vp_in r6 7) (bnd (sI s5 (b0 + 1) (r6).toNatClampNeg (-1 : Int32)) fun s7 => gd (vp_in p1 7) (bnd (sI s7 (b0 + 1) (p1).toNatClampNeg p2) fun s8 => bnd (sI s8 b0 1 ((gI s8 b0 1) + (1 : Int32))) fun s9 => some ((), s9)))) else (gd (vp_in r6 7) (bnd (sI s5 (b0 + 1) (r6).toNatClampNeg r6) fun s10 => gd (vp_in p2 7) (bnd (sI s10 (b0 + 1) (p2).toNatClampNeg (-1 : Int32)) fun s11 => bnd (sI s11 b0 1 ((gI s11 b0 1) + (1 : Int32))) fun s12 => some ((), s12))))))
set_option maxHeartbeats 4000000 in
set_option maxRecDepth 20000 in
theorem c_X1_settle (l : Launch) {D : va_G} {A : Nat → Prop} {ad : Nat → Nat} {dA : Nat → ClassId} (b0 : Nat) (hb0 : isB b0) (n : Nat) (p1 : Int32) (p2 : Int32) (p3 : Int32) (σ : St) {res : Unit × St} (hM : F_X1_settle n b0 p1 p2 p3 σ = some res) : MI l yX1_settle cX1_settle 5 none 2 D (tysX dA) (wdX ad dA) A [.ref (ad b0), .int p1, .int p2, .int p3] σ (QV D (wdX ad dA) A res) := by
  refine mk_met (by decide +kernel) (Nat.le_of_ble_eq_true rfl) (fun p e s m below meth c K => ?_)
  have K : Cx p s m _ meth c cX1_settle 5 none RX1 D (tysX dA) (wdX ad dA) A := K
  refine v_iload_n K dX1_settle_0 1 rfl ?_
  refine x_Si (As := [.int p1]) (st := []) K us_X1_isSeat qm_X1_19 dX1_settle_1 (fun _ h => c_X1_isSeat l  n p1 σ h) rfl ⟨(Nat.le_of_ble_eq_true rfl), (Nat.le_of_ble_eq_true rfl)⟩ (Nat.le_of_ble_eq_true rfl) hM (fun r2 s1 hM => ?_)
  refine v_if_eq K 14 dX1_settle_4 (by decide) hM (fun hM => ?_) (fun hM => ?_)
  · exact v_vret K rfl dX1_settle_14 hM
  · refine v_iload_n K dX1_settle_7 2 rfl ?_
    refine x_Si (As := [.int p2]) (st := []) K us_X1_isSeat qm_X1_19 dX1_settle_8 (fun _ h => c_X1_isSeat l  n p2 s1 h) rfl ⟨(Nat.le_of_ble_eq_true rfl), (Nat.le_of_ble_eq_true rfl)⟩ (Nat.le_of_ble_eq_true rfl) hM (fun r4 s3 hM => ?_)
    refine v_if_ne K 15 dX1_settle_11 (by decide) hM (fun hM => ?_) (fun hM => ?_)
    · refine v_aload_n K dX1_settle_15 0 rfl ?_
      refine v_iload_n K dX1_settle_16 2 rfl ?_
      refine x_Vi (As := [.int p2]) (st := []) K uv_X1_speakerFor qm_X1_23 dX1_settle_17 (rv_X1 hb0) (fun _ h => c_X1_speakerFor l b0 hb0 n p2 s3 h) rfl ⟨(Nat.le_of_ble_eq_true rfl), (Nat.le_of_ble_eq_true rfl)⟩ (Nat.le_of_ble_eq_true rfl) hM (fun r6 s5 hM => ?_)
      refine v_istore K dX1_settle_20 (by decide) [(4, .int r6), (0, .ref (ad b0)), (1, .int p1), (2, .int p2), (3, .int p3)] rfl ?_
      refine v_iload_n K dX1_settle_22 4 rfl ?_
      refine v_if_eq K 45 dX1_settle_23 (by decide) hM (fun hM => ?_) (fun hM => ?_)
      · refine v_aload_n K dX1_settle_45 1 rfl ?_
        refine g_X1_0 K hb0 qf_X1_9 dX1_settle_46 ?_
        refine v_iload K dX1_settle_49 0 rfl ?_
        refine v_iconst (v := (-1 : Int32)) K dX1_settle_51 (by decide) ?_
        refine st_X1a1 K hb0 dX1_settle_52 hM (fun s7 hM => ?_)
        refine v_aload_n K dX1_settle_53 1 rfl ?_
        refine g_X1_0 K hb0 qf_X1_9 dX1_settle_54 ?_
        refine v_iload_n K dX1_settle_57 2 rfl ?_
        refine v_iload_n K dX1_settle_58 3 rfl ?_
        refine st_X1a1 K hb0 dX1_settle_59 hM (fun s8 hM => ?_)
        refine v_aload_n K dX1_settle_60 1 rfl ?_
        refine v_dup K dX1_settle_61 rfl ?_
        refine g_X1_1 K hb0 qf_X1_15 dX1_settle_62 ?_
        refine v_iconst (v := (1 : Int32)) K dX1_settle_65 (by decide) ?_
        refine v_iadd K dX1_settle_66 ?_
        refine p_X1_1 K hb0 qf_X1_15 dX1_settle_67 hM (fun s9 hM => ?_)
        exact v_vret K rfl dX1_settle_70 hM
      · refine v_aload_n K dX1_settle_26 1 rfl ?_
        refine g_X1_0 K hb0 qf_X1_9 dX1_settle_27 ?_
        refine v_iload K dX1_settle_30 0 rfl ?_
        refine v_iload K dX1_settle_32 0 rfl ?_
        refine st_X1a1 K hb0 dX1_settle_34 hM (fun s10 hM => ?_)
        refine v_aload_n K dX1_settle_35 1 rfl ?_
        refine g_X1_0 K hb0 qf_X1_9 dX1_settle_36 ?_
        refine v_iload_n K dX1_settle_39 3 rfl ?_
        refine v_iconst (v := (-1 : Int32)) K dX1_settle_40 (by decide) ?_
        refine st_X1a1 K hb0 dX1_settle_41 hM (fun s11 hM => ?_)
        refine v_goto (tgt := 60) K dX1_settle_42 (by decide) ?_
        refine v_aload_n K dX1_settle_60 1 rfl ?_
        refine v_dup K dX1_settle_61 rfl ?_
        refine g_X1_1 K hb0 qf_X1_15 dX1_settle_62 ?_
        refine v_iconst (v := (1 : Int32)) K dX1_settle_65 (by decide) ?_
        refine v_iadd K dX1_settle_66 ?_
        refine p_X1_1 K hb0 qf_X1_15 dX1_settle_67 hM (fun s12 hM => ?_)
        exact v_vret K rfl dX1_settle_70 hM
    · exact v_vret K rfl dX1_settle_14 hM
noncomputable def B_X1_beginYear_1 (J : Nat → Int32 → St → Option (Unit × St)) (n : Nat) (b0 : Nat) (l1 : Int32) (σ : St) : Option (Unit × St) := if (7 : Int32) ≤ l1 then (bnd (sI σ b0 1 (0 : Int32)) fun s1 => some ((), s1)) else (gd (vp_in l1 7) (bnd (sI σ (b0 + 1) (l1).toNatClampNeg (-1 : Int32)) fun s2 => bnd (l1 + (1 : Int32)) fun x3 => J 1 x3 s2))
noncomputable def S_X1_beginYear (b0 : Nat) (n : Nat) (J : Nat → Int32 → St → Option (Unit × St)) : Nat → Int32 → St → Option (Unit × St) := fun lb a0 σ => match lb with
  | 1 => B_X1_beginYear_1 J n b0 a0 σ
  | _ => none
noncomputable def L_X1_beginYear (b0 : Nat) (n : Nat) : Nat → Int32 → St → Option (Unit × St) := Nat.rec (fun _ _ _ => none) (fun n J => S_X1_beginYear b0 n J) n
noncomputable def F_X1_beginYear (n : Nat) (b0 : Nat) (σ : St) : Option (Unit × St) := L_X1_beginYear b0 n 1 (0 : Int32) σ
set_option maxHeartbeats 4000000 in
set_option maxRecDepth 20000 in
theorem t_X1_beginYear (l : Launch) {p : Program} {e : Env} {s : State} {m : MethodId} {args : Array Value} {below : List Frame} {meth : Method} {c : Code} {D : va_G} {A : Nat → Prop} {ad : Nat → Nat} {dA : Nat → ClassId} (b0 : Nat) (hb0 : isB b0) (K : Cx p s m args meth c cX1_beginYear 2 none RX1 D (tysX dA) (wdX ad dA) A) {res : Unit × St} (n : Nat) : (∀ (l1 : Int32) (σ : St), L_X1_beginYear b0 n 1 l1 σ = some res → V p l e (rmH 1) s m args below meth c 2 D (wdX ad dA) A (MQ below (QV D (wdX ad dA) A res) args s 0 0 A) 2 [(0, .ref (ad b0)), (1, .int l1)] [] σ) := by
  induction n with
  | zero => exact (fun _ _ h => (by cases h))
  | succ n ih =>
    have ih_1 := ih
    · intro l1 σ hM
      have hM : B_X1_beginYear_1 (L_X1_beginYear b0 n) n b0 l1 σ = some res := hM
      refine v_iload_n K dX1_beginYear_2 1 rfl ?_
      refine v_bipush (v := (7 : Int32)) K dX1_beginYear_3 (by decide) ?_
      refine v_icmp_ge K 21 dX1_beginYear_5 (by decide) hM (fun hM => ?_) (fun hM => ?_)
      · refine v_aload_n K dX1_beginYear_21 0 rfl ?_
        refine v_iconst (v := (0 : Int32)) K dX1_beginYear_22 (by decide) ?_
        refine p_X1_1 K hb0 qf_X1_15 dX1_beginYear_23 hM (fun s1 hM => ?_)
        exact v_vret K rfl dX1_beginYear_26 hM
      · refine v_aload_n K dX1_beginYear_8 0 rfl ?_
        refine g_X1_0 K hb0 qf_X1_9 dX1_beginYear_9 ?_
        refine v_iload_n K dX1_beginYear_12 1 rfl ?_
        refine v_iconst (v := (-1 : Int32)) K dX1_beginYear_13 (by decide) ?_
        refine st_X1a1 K hb0 dX1_beginYear_14 hM (fun s2 hM => ?_)
        refine v_iinc K dX1_beginYear_15 1 rfl (v := (l1 + (1 : Int32))) rfl (by decide) hM (fun y => [(1, .int y), (0, .ref (ad b0))]) (fun _ => rfl) (fun x3 hM => ?_)
        refine v_goto (tgt := 2) K dX1_beginYear_18 (by decide) ?_
        exact v_sub [1, 0] rfl (ih_1 x3 s2 hM)
set_option maxHeartbeats 4000000 in
set_option maxRecDepth 20000 in
theorem c_X1_beginYear (l : Launch) {D : va_G} {A : Nat → Prop} {ad : Nat → Nat} {dA : Nat → ClassId} (b0 : Nat) (hb0 : isB b0) (n : Nat)  (σ : St) {res : Unit × St} (hM : F_X1_beginYear n b0 σ = some res) : MI l yX1_beginYear cX1_beginYear 2 none 1 D (tysX dA) (wdX ad dA) A [.ref (ad b0)] σ (QV D (wdX ad dA) A res) := by
  refine mk_met (by decide +kernel) (Nat.le_of_ble_eq_true rfl) (fun p e s m below meth c K => ?_)
  have K : Cx p s m _ meth c cX1_beginYear 2 none RX1 D (tysX dA) (wdX ad dA) A := K
  have ih_1 := t_X1_beginYear l b0 hb0  K (res := res) n (below := below) (e := e)
  refine v_iconst (v := (0 : Int32)) K dX1_beginYear_0 (by decide) ?_
  refine v_istore_n K dX1_beginYear_1 rfl (by decide) [(1, .int (0 : Int32)), (0, .ref (ad b0))] rfl ?_
  exact v_sub [1, 0] rfl (ih_1 (0 : Int32) σ hM)
noncomputable def F_X1_copyFrom (n : Nat) (b0 : Nat) (b1 : Nat) (σ : St) : Option (Unit × St) := gd (¬ (0 : Int32) < 0 ∧ ¬ (0 : Int32) < 0 ∧ ¬ (7 : Int32) < 0 ∧ ((0 : Int32)).toNatClampNeg + ((7 : Int32)).toNatClampNeg ≤ 7 ∧ ((0 : Int32)).toNatClampNeg + ((7 : Int32)).toNatClampNeg ≤ 7 ∧ ∀ i, i < ((7 : Int32)).toNatClampNeg → fits .int (.int (gI σ (b1 + 1) (((0 : Int32)).toNatClampNeg + i))) = true) (bnd (cI σ (b1 + 1) (b0 + 1) ((0 : Int32)).toNatClampNeg ((0 : Int32)).toNatClampNeg ((7 : Int32)).toNatClampNeg) fun s1 => bnd (sI s1 b0 1 (gI s1 b1 1)) fun s2 => some ((), s2))
set_option maxHeartbeats 4000000 in
set_option maxRecDepth 20000 in
theorem c_X1_copyFrom (l : Launch) {D : va_G} {A : Nat → Prop} {ad : Nat → Nat} {dA : Nat → ClassId} (b0 : Nat) (hb0 : isB b0) (b1 : Nat) (hb1 : isB b1) (n : Nat)  (σ : St) {res : Unit × St} (hM : F_X1_copyFrom n b0 b1 σ = some res) : MI l yX1_copyFrom cX1_copyFrom 2 none 1 D (tysX dA) (wdX ad dA) A [.ref (ad b0), .ref (ad b1)] σ (QV D (wdX ad dA) A res) := by
  refine mk_met (by decide +kernel) (Nat.le_of_ble_eq_true rfl) (fun p e s m below meth c K => ?_)
  have K : Cx p s m _ meth c cX1_copyFrom 2 none RX1 D (tysX dA) (wdX ad dA) A := K
  refine v_aload_n K dX1_copyFrom_0 1 rfl ?_
  refine g_X1_0 K hb1 qf_X1_9 dX1_copyFrom_1 ?_
  refine v_iconst (v := (0 : Int32)) K dX1_copyFrom_4 (by decide) ?_
  refine v_aload_n K dX1_copyFrom_5 0 rfl ?_
  refine g_X1_0 K hb0 qf_X1_9 dX1_copyFrom_6 ?_
  refine v_iconst (v := (0 : Int32)) K dX1_copyFrom_9 (by decide) ?_
  refine v_bipush (v := (7 : Int32)) K dX1_copyFrom_10 (by decide) ?_
  refine cp_X1a1 K hb1 hb0 qm_X1_27 dX1_copyFrom_12 (Nat.le_of_ble_eq_true rfl) (Nat.le_of_ble_eq_true rfl) hM (fun s1 hM => ?_)
  refine v_aload_n K dX1_copyFrom_15 0 rfl ?_
  refine v_aload_n K dX1_copyFrom_16 1 rfl ?_
  refine g_X1_1 K hb1 qf_X1_15 dX1_copyFrom_17 ?_
  refine p_X1_1 K hb0 qf_X1_15 dX1_copyFrom_20 hM (fun s2 hM => ?_)
  exact v_vret K rfl dX1_copyFrom_23 hM
noncomputable def B_X1_toCode_1 (J : Nat → Int32 → Int32 → St → Option (Int32 × St)) (n : Nat) (b0 : Nat) (l1 : Int32) (l2 : Int32) (σ : St) : Option (Int32 × St) := if l2 < 0 then (some (l1, σ)) else (gd (vp_in l2 7) (bnd (((l1 * (5 : Int32)) + (gI σ (b0 + 1) (l2).toNatClampNeg)) + (1 : Int32)) fun x1 => bnd (l2 + (-1 : Int32)) fun x2 => J 1 x1 x2 σ))
noncomputable def S_X1_toCode (b0 : Nat) (n : Nat) (J : Nat → Int32 → Int32 → St → Option (Int32 × St)) : Nat → Int32 → Int32 → St → Option (Int32 × St) := fun lb a0 a1 σ => match lb with
  | 1 => B_X1_toCode_1 J n b0 a0 a1 σ
  | _ => none
noncomputable def L_X1_toCode (b0 : Nat) (n : Nat) : Nat → Int32 → Int32 → St → Option (Int32 × St) := Nat.rec (fun _ _ _ _ => none) (fun n J => S_X1_toCode b0 n J) n
noncomputable def F_X1_toCode (n : Nat) (b0 : Nat) (σ : St) : Option (Int32 × St) := L_X1_toCode b0 n 1 (0 : Int32) (3 : Int32) σ
set_option maxHeartbeats 4000000 in
set_option maxRecDepth 20000 in
theorem t_X1_toCode (l : Launch) {p : Program} {e : Env} {s : State} {m : MethodId} {args : Array Value} {below : List Frame} {meth : Method} {c : Code} {D : va_G} {A : Nat → Prop} {ad : Nat → Nat} {dA : Nat → ClassId} (b0 : Nat) (hb0 : isB b0) (K : Cx p s m args meth c cX1_toCode 3 (some .int) RX1 D (tysX dA) (wdX ad dA) A) {res : Int32 × St} (n : Nat) : (∀ (l1 : Int32) (l2 : Int32) (σ : St), L_X1_toCode b0 n 1 l1 l2 σ = some res → V p l e (rmH 1) s m args below meth c 3 D (wdX ad dA) A (MQ below (QI D (wdX ad dA) A res) args s 0 0 A) 4 [(0, .ref (ad b0)), (1, .int l1), (2, .int l2)] [] σ) := by
  induction n with
  | zero => exact (fun _ _ _ h => (by cases h))
  | succ n ih =>
    have ih_1 := ih
    · intro l1 l2 σ hM
      have hM : B_X1_toCode_1 (L_X1_toCode b0 n) n b0 l1 l2 σ = some res := hM
      refine v_iload_n K dX1_toCode_4 2 rfl ?_
      refine v_if_lt K 27 dX1_toCode_5 (by decide) hM (fun hM => ?_) (fun hM => ?_)
      · refine v_iload_n K dX1_toCode_27 1 rfl ?_
        exact v_iret K rfl dX1_toCode_28 hM
      · refine v_iload_n K dX1_toCode_8 1 rfl ?_
        refine v_iconst (v := (5 : Int32)) K dX1_toCode_9 (by decide) ?_
        refine v_imul K dX1_toCode_10 ?_
        refine v_aload_n K dX1_toCode_11 0 rfl ?_
        refine g_X1_0 K hb0 qf_X1_9 dX1_toCode_12 ?_
        refine v_iload_n K dX1_toCode_15 2 rfl ?_
        refine ld_X1a1 K hb0 dX1_toCode_16 hM (fun hM => ?_)
        refine v_iadd K dX1_toCode_17 ?_
        refine v_iconst (v := (1 : Int32)) K dX1_toCode_18 (by decide) ?_
        refine v_iadd K dX1_toCode_19 ?_
        refine v_topi hM (fun x1 hM => ?_)
        refine v_istore_n K dX1_toCode_20 rfl (by decide) [(1, .int x1), (0, .ref (ad b0)), (2, .int l2)] rfl ?_
        refine v_iinc K dX1_toCode_21 2 rfl (v := (l2 + (-1 : Int32))) rfl (by decide) hM (fun y => [(2, .int y), (1, .int x1), (0, .ref (ad b0))]) (fun _ => rfl) (fun x2 hM => ?_)
        refine v_goto (tgt := 4) K dX1_toCode_24 (by decide) ?_
        exact v_sub [2, 1, 0] rfl (ih_1 x1 x2 σ hM)
set_option maxHeartbeats 4000000 in
set_option maxRecDepth 20000 in
theorem c_X1_toCode (l : Launch) {D : va_G} {A : Nat → Prop} {ad : Nat → Nat} {dA : Nat → ClassId} (b0 : Nat) (hb0 : isB b0) (n : Nat)  (σ : St) {res : Int32 × St} (hM : F_X1_toCode n b0 σ = some res) : MI l yX1_toCode cX1_toCode 3 (some .int) 1 D (tysX dA) (wdX ad dA) A [.ref (ad b0)] σ (QI D (wdX ad dA) A res) := by
  refine mk_met (by decide +kernel) (Nat.le_of_ble_eq_true rfl) (fun p e s m below meth c K => ?_)
  have K : Cx p s m _ meth c cX1_toCode 3 (some .int) RX1 D (tysX dA) (wdX ad dA) A := K
  have ih_1 := t_X1_toCode l b0 hb0  K (res := res) n (below := below) (e := e)
  refine v_iconst (v := (0 : Int32)) K dX1_toCode_0 (by decide) ?_
  refine v_istore_n K dX1_toCode_1 rfl (by decide) [(1, .int (0 : Int32)), (0, .ref (ad b0))] rfl ?_
  refine v_iconst (v := (3 : Int32)) K dX1_toCode_2 (by decide) ?_
  refine v_istore_n K dX1_toCode_3 rfl (by decide) [(2, .int (3 : Int32)), (1, .int (0 : Int32)), (0, .ref (ad b0))] rfl ?_
  exact v_sub [2, 1, 0] rfl (ih_1 (0 : Int32) (3 : Int32) σ hM)
noncomputable def B_X1_fromCode_1 (J : Nat → Int32 → Int32 → Int32 → St → Option (Unit × St)) (n : Nat) (b0 : Nat) (l2 : Int32) (l3 : Int32) (l4 : Int32) (σ : St) : Option (Unit × St) := if (4 : Int32) ≤ l4 then (bnd (sI σ b0 1 l2) fun s2 => some ((), s2)) else (gd (¬ (5 : Int32) = 0) (bnd (l3 - l3 / (5 : Int32) * (5 : Int32)) fun x3 => gd (vp_in l4 7) (bnd (sI σ (b0 + 1) (l4).toNatClampNeg (x3 - (1 : Int32))) fun s4 => gd (¬ (5 : Int32) = 0) (bnd (l3 / (5 : Int32)) fun x5 => bnd (l4 + (1 : Int32)) fun x6 => J 1 l2 x5 x6 s4))))
noncomputable def S_X1_fromCode (b0 : Nat) (n : Nat) (J : Nat → Int32 → Int32 → Int32 → St → Option (Unit × St)) : Nat → Int32 → Int32 → Int32 → St → Option (Unit × St) := fun lb a0 a1 a2 σ => match lb with
  | 1 => B_X1_fromCode_1 J n b0 a0 a1 a2 σ
  | _ => none
noncomputable def L_X1_fromCode (b0 : Nat) (n : Nat) : Nat → Int32 → Int32 → Int32 → St → Option (Unit × St) := Nat.rec (fun _ _ _ _ _ => none) (fun n J => S_X1_fromCode b0 n J) n
noncomputable def F_X1_fromCode (n : Nat) (b0 : Nat) (p1 : Int32) (p2 : Int32) (σ : St) : Option (Unit × St) := bd (F_X1_beginYear n b0 σ) fun _ s1 => L_X1_fromCode b0 n 1 p2 p1 (0 : Int32) s1
set_option maxHeartbeats 4000000 in
set_option maxRecDepth 20000 in
theorem t_X1_fromCode (l : Launch) {p : Program} {e : Env} {s : State} {m : MethodId} {args : Array Value} {below : List Frame} {meth : Method} {c : Code} {D : va_G} {A : Nat → Prop} {ad : Nat → Nat} {dA : Nat → ClassId} (b0 : Nat) (hb0 : isB b0) (K : Cx p s m args meth c cX1_fromCode 5 none RX1 D (tysX dA) (wdX ad dA) A) {res : Unit × St} (n : Nat) : (∀ (l2 : Int32) (l3 : Int32) (l4 : Int32) (σ : St), L_X1_fromCode b0 n 1 l2 l3 l4 σ = some res → V p l e (rmH 2) s m args below meth c 5 D (wdX ad dA) A (MQ below (QV D (wdX ad dA) A res) args s 0 0 A) 9 [(0, .ref (ad b0)), (2, .int l2), (3, .int l3), (4, .int l4)] [] σ) := by
  induction n with
  | zero => exact (fun _ _ _ _ h => (by cases h))
  | succ n ih =>
    have ih_1 := ih
    · intro l2 l3 l4 σ hM
      have hM : B_X1_fromCode_1 (L_X1_fromCode b0 n) n b0 l2 l3 l4 σ = some res := hM
      refine v_iload K dX1_fromCode_9 3 rfl ?_
      refine v_iconst (v := (4 : Int32)) K dX1_fromCode_11 (by decide) ?_
      refine v_icmp_ge K 37 dX1_fromCode_12 (by decide) hM (fun hM => ?_) (fun hM => ?_)
      · refine v_aload_n K dX1_fromCode_37 0 rfl ?_
        refine v_iload_n K dX1_fromCode_38 1 rfl ?_
        refine p_X1_1 K hb0 qf_X1_15 dX1_fromCode_39 hM (fun s2 hM => ?_)
        exact v_vret K rfl dX1_fromCode_42 hM
      · refine v_aload_n K dX1_fromCode_15 0 rfl ?_
        refine g_X1_0 K hb0 qf_X1_9 dX1_fromCode_16 ?_
        refine v_iload K dX1_fromCode_19 3 rfl ?_
        refine v_iload_n K dX1_fromCode_21 2 rfl ?_
        refine v_iconst (v := (5 : Int32)) K dX1_fromCode_22 (by decide) ?_
        refine v_irem K dX1_fromCode_23 hM (fun hM => ?_)
        refine v_topi hM (fun x3 hM => ?_)
        refine v_iconst (v := (1 : Int32)) K dX1_fromCode_24 (by decide) ?_
        refine v_isub K dX1_fromCode_25 ?_
        refine st_X1a1 K hb0 dX1_fromCode_26 hM (fun s4 hM => ?_)
        refine v_iload_n K dX1_fromCode_27 2 rfl ?_
        refine v_iconst (v := (5 : Int32)) K dX1_fromCode_28 (by decide) ?_
        refine v_idiv K dX1_fromCode_29 hM (fun hM => ?_)
        refine v_topi hM (fun x5 hM => ?_)
        refine v_istore_n K dX1_fromCode_30 rfl (by decide) [(3, .int x5), (0, .ref (ad b0)), (2, .int l2), (4, .int l4)] rfl ?_
        refine v_iinc K dX1_fromCode_31 3 rfl (v := (l4 + (1 : Int32))) rfl (by decide) hM (fun y => [(4, .int y), (3, .int x5), (0, .ref (ad b0)), (2, .int l2)]) (fun _ => rfl) (fun x6 hM => ?_)
        refine v_goto (tgt := 9) K dX1_fromCode_34 (by decide) ?_
        exact v_sub [2, 3, 1, 0] rfl (ih_1 l2 x5 x6 s4 hM)
set_option maxHeartbeats 4000000 in
set_option maxRecDepth 20000 in
theorem c_X1_fromCode (l : Launch) {D : va_G} {A : Nat → Prop} {ad : Nat → Nat} {dA : Nat → ClassId} (b0 : Nat) (hb0 : isB b0) (n : Nat) (p1 : Int32) (p2 : Int32) (σ : St) {res : Unit × St} (hM : F_X1_fromCode n b0 p1 p2 σ = some res) : MI l yX1_fromCode cX1_fromCode 5 none 2 D (tysX dA) (wdX ad dA) A [.ref (ad b0), .int p1, .int p2] σ (QV D (wdX ad dA) A res) := by
  refine mk_met (by decide +kernel) (Nat.le_of_ble_eq_true rfl) (fun p e s m below meth c K => ?_)
  have K : Cx p s m _ meth c cX1_fromCode 5 none RX1 D (tysX dA) (wdX ad dA) A := K
  have ih_1 := t_X1_fromCode l b0 hb0  K (res := res) n (below := below) (e := e)
  refine v_aload_n K dX1_fromCode_0 0 rfl ?_
  refine x_Vv (As := []) (st := []) K uv_X1_beginYear qm_X1_35 dX1_fromCode_1 (rv_X1 hb0) (fun _ h => c_X1_beginYear l b0 hb0 n  σ h) rfl ⟨(Nat.le_of_ble_eq_true rfl), (Nat.le_of_ble_eq_true rfl)⟩ (Nat.le_of_ble_eq_true rfl) hM (fun s1 hM => ?_)
  refine v_iload_n K dX1_fromCode_4 1 rfl ?_
  refine v_istore_n K dX1_fromCode_5 rfl (by decide) [(3, .int p1), (0, .ref (ad b0)), (1, .int p1), (2, .int p2)] rfl ?_
  refine v_iconst (v := (0 : Int32)) K dX1_fromCode_6 (by decide) ?_
  refine v_istore K dX1_fromCode_7 (by decide) [(4, .int (0 : Int32)), (3, .int p1), (0, .ref (ad b0)), (1, .int p1), (2, .int p2)] rfl ?_
  exact v_sub [2, 4, 1, 0] rfl (ih_1 p2 p1 (0 : Int32) s1 hM)
noncomputable def F_X10_size (n : Nat) (b0 : Nat) (σ : St) : Option (Int32 × St) := some ((gI σ b0 1), σ)
set_option maxHeartbeats 4000000 in
set_option maxRecDepth 20000 in
theorem c_X10_size (l : Launch) {D : va_G} {A : Nat → Prop} {ad : Nat → Nat} {dA : Nat → ClassId} (b0 : Nat) (hb0 : isS b0) (n : Nat)  (σ : St) {res : Int32 × St} (hM : F_X10_size n b0 σ = some res) : MI l yX10_size cX10_size 1 (some .int) 1 D (tysX dA) (wdX ad dA) A [.ref (ad b0)] σ (QI D (wdX ad dA) A res) := by
  refine mk_met (by decide +kernel) (Nat.le_of_ble_eq_true rfl) (fun p e s m below meth c K => ?_)
  have K : Cx p s m _ meth c cX10_size 1 (some .int) RX10 D (tysX dA) (wdX ad dA) A := K
  refine v_aload_n K dX10_size_0 0 rfl ?_
  refine g_X10_1 K hb0 qf_X10_15 dX10_size_1 ?_
  exact v_iret K rfl dX10_size_4 hM
noncomputable def F_X10_get (n : Nat) (b0 : Nat) (p1 : Int32) (σ : St) : Option (Int64 × St) := if p1 < 0 then (some ((0 : Int64), σ)) else (if (gI σ b0 1) ≤ p1 then (some ((0 : Int64), σ)) else (gd (vp_in p1 60) (some ((gL σ (b0 + 1) (p1).toNatClampNeg), σ))))
set_option maxHeartbeats 4000000 in
set_option maxRecDepth 20000 in
theorem c_X10_get (l : Launch) {D : va_G} {A : Nat → Prop} {ad : Nat → Nat} {dA : Nat → ClassId} (b0 : Nat) (hb0 : isS b0) (n : Nat) (p1 : Int32) (σ : St) {res : Int64 × St} (hM : F_X10_get n b0 p1 σ = some res) : MI l yX10_get cX10_get 2 (some .long) 1 D (tysX dA) (wdX ad dA) A [.ref (ad b0), .int p1] σ (QL D (wdX ad dA) A res) := by
  refine mk_met (by decide +kernel) (Nat.le_of_ble_eq_true rfl) (fun p e s m below meth c K => ?_)
  have K : Cx p s m _ meth c cX10_get 2 (some .long) RX10 D (tysX dA) (wdX ad dA) A := K
  refine v_iload_n K dX10_get_0 1 rfl ?_
  refine v_if_lt K 21 dX10_get_1 (by decide) hM (fun hM => ?_) (fun hM => ?_)
  · refine v_lconst (v := (0 : Int64)) K dX10_get_21 (by decide) ?_
    exact v_lret K rfl dX10_get_22 hM
  · refine v_iload_n K dX10_get_4 1 rfl ?_
    refine v_aload_n K dX10_get_5 0 rfl ?_
    refine g_X10_1 K hb0 qf_X10_15 dX10_get_6 ?_
    refine v_icmp_ge K 21 dX10_get_9 (by decide) hM (fun hM => ?_) (fun hM => ?_)
    · refine v_lconst (v := (0 : Int64)) K dX10_get_21 (by decide) ?_
      exact v_lret K rfl dX10_get_22 hM
    · refine v_aload_n K dX10_get_12 0 rfl ?_
      refine g_X10_0 K hb0 qf_X10_9 dX10_get_13 ?_
      refine v_iload_n K dX10_get_16 1 rfl ?_
      refine ld_X10a1 K hb0 dX10_get_17 hM (fun hM => ?_)
      refine v_goto (tgt := 22) K dX10_get_18 (by decide) ?_
      exact v_lret K rfl dX10_get_22 hM
noncomputable def F_X10_getInt (n : Nat) (b0 : Nat) (p1 : Int32) (σ : St) : Option (Int32 × St) := bd (F_X10_get n b0 p1 σ) fun r2 s1 => some (((r2).toInt32), s1)
set_option maxHeartbeats 4000000 in
set_option maxRecDepth 20000 in
theorem c_X10_getInt (l : Launch) {D : va_G} {A : Nat → Prop} {ad : Nat → Nat} {dA : Nat → ClassId} (b0 : Nat) (hb0 : isS b0) (n : Nat) (p1 : Int32) (σ : St) {res : Int32 × St} (hM : F_X10_getInt n b0 p1 σ = some res) : MI l yX10_getInt cX10_getInt 2 (some .int) 2 D (tysX dA) (wdX ad dA) A [.ref (ad b0), .int p1] σ (QI D (wdX ad dA) A res) := by
  refine mk_met (by decide +kernel) (Nat.le_of_ble_eq_true rfl) (fun p e s m below meth c K => ?_)
  have K : Cx p s m _ meth c cX10_getInt 2 (some .int) RX10 D (tysX dA) (wdX ad dA) A := K
  refine v_aload_n K dX10_getInt_0 0 rfl ?_
  refine v_iload_n K dX10_getInt_1 1 rfl ?_
  refine x_Vl (As := [.int p1]) (st := []) K uv_X10_get qm_X10_44 dX10_getInt_2 (rv_X10 hb0) (fun _ h => c_X10_get l b0 hb0 n p1 σ h) rfl ⟨(Nat.le_of_ble_eq_true rfl), (Nat.le_of_ble_eq_true rfl)⟩ (Nat.le_of_ble_eq_true rfl) hM (fun r2 s1 hM => ?_)
  refine v_l2i K dX10_getInt_5 ?_
  exact v_iret K rfl dX10_getInt_6 hM
noncomputable def F_X6_has (n : Nat) (p1 : Int32) (σ : St) : Option (Int32 × St) := if p1 < 0 then (some ((0 : Int32), σ)) else (if (gI σ 4 1) ≤ p1 then (some ((0 : Int32), σ)) else (some ((1 : Int32), σ)))
set_option maxHeartbeats 4000000 in
set_option maxRecDepth 20000 in
theorem c_X6_has (l : Launch) {D : va_G} {A : Nat → Prop} {ad : Nat → Nat} {dA : Nat → ClassId}  (n : Nat) (p1 : Int32) (σ : St) {res : Int32 × St} (hM : F_X6_has n p1 σ = some res) : MI l yX6_has cX6_has 2 (some .boolean) 1 D (tysX dA) (wdX ad dA) A [.ref (ad 4), .int p1] σ (QI D (wdX ad dA) A res) := by
  refine mk_met (by decide +kernel) (Nat.le_of_ble_eq_true rfl) (fun p e s m below meth c K => ?_)
  have K : Cx p s m _ meth c cX6_has 2 (some .boolean) RX6 D (tysX dA) (wdX ad dA) A := K
  refine v_iload_n K dX6_has_0 1 rfl ?_
  refine v_if_lt K 16 dX6_has_1 (by decide) hM (fun hM => ?_) (fun hM => ?_)
  · refine v_iconst (v := (0 : Int32)) K dX6_has_16 (by decide) ?_
    exact v_zret K rfl rfl dX6_has_17 hM
  · refine v_iload_n K dX6_has_4 1 rfl ?_
    refine v_aload_n K dX6_has_5 0 rfl ?_
    refine g_X6_1 K qf_X6_15 dX6_has_6 ?_
    refine v_icmp_ge K 16 dX6_has_9 (by decide) hM (fun hM => ?_) (fun hM => ?_)
    · refine v_iconst (v := (0 : Int32)) K dX6_has_16 (by decide) ?_
      exact v_zret K rfl rfl dX6_has_17 hM
    · refine v_iconst (v := (1 : Int32)) K dX6_has_12 (by decide) ?_
      refine v_goto (tgt := 17) K dX6_has_13 (by decide) ?_
      exact v_zret K rfl rfl dX6_has_17 hM
noncomputable def F_X6_areUnlike (n : Nat) (p1 : Int32) (p2 : Int32) (σ : St) : Option (Int32 × St) := bd (F_X6_has n p1 σ) fun r2 s1 => if r2 = 0 then (some ((0 : Int32), s1)) else (bd (F_X6_has n p2 s1) fun r4 s3 => if r4 = 0 then (some ((0 : Int32), s3)) else (if p1 = p2 then (some ((0 : Int32), s3)) else (some ((1 : Int32), s3))))
set_option maxHeartbeats 4000000 in
set_option maxRecDepth 20000 in
theorem c_X6_areUnlike (l : Launch) {D : va_G} {A : Nat → Prop} {ad : Nat → Nat} {dA : Nat → ClassId}  (n : Nat) (p1 : Int32) (p2 : Int32) (σ : St) {res : Int32 × St} (hM : F_X6_areUnlike n p1 p2 σ = some res) : MI l yX6_areUnlike cX6_areUnlike 3 (some .boolean) 2 D (tysX dA) (wdX ad dA) A [.ref (ad 4), .int p1, .int p2] σ (QI D (wdX ad dA) A res) := by
  refine mk_met (by decide +kernel) (Nat.le_of_ble_eq_true rfl) (fun p e s m below meth c K => ?_)
  have K : Cx p s m _ meth c cX6_areUnlike 3 (some .boolean) RX6 D (tysX dA) (wdX ad dA) A := K
  refine v_aload_n K dX6_areUnlike_0 0 rfl ?_
  refine v_iload_n K dX6_areUnlike_1 1 rfl ?_
  refine x_Vi (As := [.int p1]) (st := []) K uv_X6_has qm_X6_37 dX6_areUnlike_2 rv_X6 (fun _ h => c_X6_has l  n p1 σ h) rfl ⟨(Nat.le_of_ble_eq_true rfl), (Nat.le_of_ble_eq_true rfl)⟩ (Nat.le_of_ble_eq_true rfl) hM (fun r2 s1 hM => ?_)
  refine v_if_eq K 25 dX6_areUnlike_5 (by decide) hM (fun hM => ?_) (fun hM => ?_)
  · refine v_iconst (v := (0 : Int32)) K dX6_areUnlike_25 (by decide) ?_
    exact v_zret K rfl rfl dX6_areUnlike_26 hM
  · refine v_aload_n K dX6_areUnlike_8 0 rfl ?_
    refine v_iload_n K dX6_areUnlike_9 2 rfl ?_
    refine x_Vi (As := [.int p2]) (st := []) K uv_X6_has qm_X6_37 dX6_areUnlike_10 rv_X6 (fun _ h => c_X6_has l  n p2 s1 h) rfl ⟨(Nat.le_of_ble_eq_true rfl), (Nat.le_of_ble_eq_true rfl)⟩ (Nat.le_of_ble_eq_true rfl) hM (fun r4 s3 hM => ?_)
    refine v_if_eq K 25 dX6_areUnlike_13 (by decide) hM (fun hM => ?_) (fun hM => ?_)
    · refine v_iconst (v := (0 : Int32)) K dX6_areUnlike_25 (by decide) ?_
      exact v_zret K rfl rfl dX6_areUnlike_26 hM
    · refine v_iload_n K dX6_areUnlike_16 1 rfl ?_
      refine v_iload_n K dX6_areUnlike_17 2 rfl ?_
      refine v_icmp_eq K 25 dX6_areUnlike_18 (by decide) hM (fun hM => ?_) (fun hM => ?_)
      · refine v_iconst (v := (0 : Int32)) K dX6_areUnlike_25 (by decide) ?_
        exact v_zret K rfl rfl dX6_areUnlike_26 hM
      · refine v_iconst (v := (1 : Int32)) K dX6_areUnlike_21 (by decide) ?_
        refine v_goto (tgt := 26) K dX6_areUnlike_22 (by decide) ?_
        exact v_zret K rfl rfl dX6_areUnlike_26 hM
noncomputable def B_X6_numberOf_1 (J : Nat → Int32 → Int32 → Int32 → St → Option (Int32 × St)) (n : Nat)  (l1 : Int32) (l2 : Int32) (k0 : Int32) (σ : St) : Option (Int32 × St) := if k0 = 0 then (some ((0 : Int32), σ)) else (gd (vp_in (((4 : Int32) * l1) + l2) 28) (some ((gI σ 5 ((((4 : Int32) * l1) + l2)).toNatClampNeg), σ)))
noncomputable def S_X6_numberOf  (n : Nat) (J : Nat → Int32 → Int32 → Int32 → St → Option (Int32 × St)) : Nat → Int32 → Int32 → Int32 → St → Option (Int32 × St) := fun lb a0 a1 a2 σ => match lb with
  | 1 => B_X6_numberOf_1 J n  a0 a1 a2 σ
  | _ => none
noncomputable def L_X6_numberOf  (n : Nat) : Nat → Int32 → Int32 → Int32 → St → Option (Int32 × St) := Nat.rec (fun _ _ _ _ _ => none) (fun n J => S_X6_numberOf  n J) n
noncomputable def F_X6_numberOf (n : Nat) (p1 : Int32) (p2 : Int32) (σ : St) : Option (Int32 × St) := if p1 < 0 then (L_X6_numberOf  (n + 1) 1 p1 p2 (0 : Int32) σ) else (if (gI σ 4 1) ≤ p1 then (L_X6_numberOf  (n + 1) 1 p1 p2 (0 : Int32) σ) else (if p2 < 0 then (L_X6_numberOf  (n + 1) 1 p1 p2 (0 : Int32) σ) else (if (4 : Int32) ≤ p2 then (L_X6_numberOf  (n + 1) 1 p1 p2 (0 : Int32) σ) else (L_X6_numberOf  (n + 1) 1 p1 p2 (1 : Int32) σ))))
set_option maxHeartbeats 4000000 in
set_option maxRecDepth 20000 in
theorem t_X6_numberOf (l : Launch) {p : Program} {e : Env} {s : State} {m : MethodId} {args : Array Value} {below : List Frame} {meth : Method} {c : Code} {D : va_G} {A : Nat → Prop} {ad : Nat → Nat} {dA : Nat → ClassId}   (K : Cx p s m args meth c cX6_numberOf 4 (some .int) RX6 D (tysX dA) (wdX ad dA) A) {res : Int32 × St} (n : Nat) : (∀ (l1 : Int32) (l2 : Int32) (k0 : Int32) (σ : St), L_X6_numberOf  n 1 l1 l2 k0 σ = some res → V p l e (rmH 1) s m args below meth c 4 D (wdX ad dA) A (MQ below (QI D (wdX ad dA) A res) args s 0 0 A) 26 [(0, .ref (ad 4)), (1, .int l1), (2, .int l2)] [.int k0] σ) := by
  induction n with
  | zero => exact (fun _ _ _ _ h => (by cases h))
  | succ n ih =>
    have ih_1 := ih
    · intro l1 l2 k0 σ hM
      have hM : B_X6_numberOf_1 (L_X6_numberOf  n) n  l1 l2 k0 σ = some res := hM
      refine v_istore_n K dX6_numberOf_26 rfl (by decide) [(3, .int k0), (0, .ref (ad 4)), (1, .int l1), (2, .int l2)] rfl ?_
      refine v_iload_n K dX6_numberOf_27 0 rfl ?_
      refine v_if_eq K 44 dX6_numberOf_28 (by decide) hM (fun hM => ?_) (fun hM => ?_)
      · refine v_iconst (v := (0 : Int32)) K dX6_numberOf_44 (by decide) ?_
        exact v_iret K rfl dX6_numberOf_45 hM
      · refine v_aload_n K dX6_numberOf_31 1 rfl ?_
        refine g_X6_0 K qf_X6_11 dX6_numberOf_32 ?_
        refine v_iconst (v := (4 : Int32)) K dX6_numberOf_35 (by decide) ?_
        refine v_iload_n K dX6_numberOf_36 2 rfl ?_
        refine v_imul K dX6_numberOf_37 ?_
        refine v_iload_n K dX6_numberOf_38 3 rfl ?_
        refine v_iadd K dX6_numberOf_39 ?_
        refine ld_X5 K dX6_numberOf_40 hM (fun hM => ?_)
        refine v_goto (tgt := 45) K dX6_numberOf_41 (by decide) ?_
        exact v_iret K rfl dX6_numberOf_45 hM
set_option maxHeartbeats 4000000 in
set_option maxRecDepth 20000 in
theorem c_X6_numberOf (l : Launch) {D : va_G} {A : Nat → Prop} {ad : Nat → Nat} {dA : Nat → ClassId}  (n : Nat) (p1 : Int32) (p2 : Int32) (σ : St) {res : Int32 × St} (hM : F_X6_numberOf n p1 p2 σ = some res) : MI l yX6_numberOf cX6_numberOf 4 (some .int) 1 D (tysX dA) (wdX ad dA) A [.ref (ad 4), .int p1, .int p2] σ (QI D (wdX ad dA) A res) := by
  refine mk_met (by decide +kernel) (Nat.le_of_ble_eq_true rfl) (fun p e s m below meth c K => ?_)
  have K : Cx p s m _ meth c cX6_numberOf 4 (some .int) RX6 D (tysX dA) (wdX ad dA) A := K
  have ih_1 := t_X6_numberOf l    K (res := res) (n + 1) (below := below) (e := e)
  refine v_iload_n K dX6_numberOf_0 1 rfl ?_
  refine v_if_lt K 25 dX6_numberOf_1 (by decide) hM (fun hM => ?_) (fun hM => ?_)
  · refine v_iconst (v := (0 : Int32)) K dX6_numberOf_25 (by decide) ?_
    exact v_sub [0, 1, 2] rfl (ih_1 p1 p2 (0 : Int32) σ hM)
  · refine v_iload_n K dX6_numberOf_4 1 rfl ?_
    refine v_aload_n K dX6_numberOf_5 0 rfl ?_
    refine g_X6_1 K qf_X6_15 dX6_numberOf_6 ?_
    refine v_icmp_ge K 25 dX6_numberOf_9 (by decide) hM (fun hM => ?_) (fun hM => ?_)
    · refine v_iconst (v := (0 : Int32)) K dX6_numberOf_25 (by decide) ?_
      exact v_sub [0, 1, 2] rfl (ih_1 p1 p2 (0 : Int32) σ hM)
    · refine v_iload_n K dX6_numberOf_12 2 rfl ?_
      refine v_if_lt K 25 dX6_numberOf_13 (by decide) hM (fun hM => ?_) (fun hM => ?_)
      · refine v_iconst (v := (0 : Int32)) K dX6_numberOf_25 (by decide) ?_
        exact v_sub [0, 1, 2] rfl (ih_1 p1 p2 (0 : Int32) σ hM)
      · refine v_iload_n K dX6_numberOf_16 2 rfl ?_
        refine v_iconst (v := (4 : Int32)) K dX6_numberOf_17 (by decide) ?_
        refine v_icmp_ge K 25 dX6_numberOf_18 (by decide) hM (fun hM => ?_) (fun hM => ?_)
        · refine v_iconst (v := (0 : Int32)) K dX6_numberOf_25 (by decide) ?_
          exact v_sub [0, 1, 2] rfl (ih_1 p1 p2 (0 : Int32) σ hM)
        · refine v_iconst (v := (1 : Int32)) K dX6_numberOf_21 (by decide) ?_
          refine v_goto (tgt := 26) K dX6_numberOf_22 (by decide) ?_
          exact v_sub [0, 1, 2] rfl (ih_1 p1 p2 (1 : Int32) σ hM)
noncomputable def F_X7_isTold (n : Nat) (b0 : Nat) (σ : St) : Option (Int32 × St) := if (gI σ b0 4) ≤ 0 then (some ((0 : Int32), σ)) else (some ((1 : Int32), σ))
set_option maxHeartbeats 4000000 in
set_option maxRecDepth 20000 in
theorem c_X7_isTold (l : Launch) {D : va_G} {A : Nat → Prop} {ad : Nat → Nat} {dA : Nat → ClassId} (b0 : Nat) (hb0 : isL b0) (n : Nat)  (σ : St) {res : Int32 × St} (hM : F_X7_isTold n b0 σ = some res) : MI l yX7_isTold cX7_isTold 1 (some .boolean) 1 D (tysX dA) (wdX ad dA) A [.ref (ad b0)] σ (QI D (wdX ad dA) A res) := by
  refine mk_met (by decide +kernel) (Nat.le_of_ble_eq_true rfl) (fun p e s m below meth c K => ?_)
  have K : Cx p s m _ meth c cX7_isTold 1 (some .boolean) RX7 D (tysX dA) (wdX ad dA) A := K
  refine v_aload_n K dX7_isTold_0 0 rfl ?_
  refine g_X7_4 K hb0 qf_X7_25 dX7_isTold_1 ?_
  refine v_if_le K 11 dX7_isTold_4 (by decide) hM (fun hM => ?_) (fun hM => ?_)
  · refine v_iconst (v := (0 : Int32)) K dX7_isTold_11 (by decide) ?_
    exact v_zret K rfl rfl dX7_isTold_12 hM
  · refine v_iconst (v := (1 : Int32)) K dX7_isTold_7 (by decide) ?_
    refine v_goto (tgt := 12) K dX7_isTold_8 (by decide) ?_
    exact v_zret K rfl rfl dX7_isTold_12 hM
noncomputable def B_X7_worth_1 (J : Nat → Int32 → Int32 → St → Option (Int32 × St)) (n : Nat) (b0 : Nat) (l2 : Int32) (l3 : Int32) (σ : St) : Option (Int32 × St) := if (gI σ b0 4) ≤ l3 then (some ((0 : Int32), σ)) else (if l3 < l2 then (bnd (l3 + (1 : Int32)) fun x1 => J 1 l2 x1 σ) else (gd (vp_in l3 242) (if (gI σ (b0 + 1) (l3).toNatClampNeg) = (48 : Int32) then (bnd (l3 + (1 : Int32)) fun x74 => J 1 l2 x74 σ) else (gd (vp_in l3 242) (gd (vp_in (gI σ (b0 + 2) (l3).toNatClampNeg) 242) (bnd (gI σ (b0 + 4) ((gI σ (b0 + 2) (l3).toNatClampNeg)).toNatClampNeg) fun x2 => gd (vp_in l3 242) (gd (vp_in (gI σ (b0 + 3) (l3).toNatClampNeg) 242) (bnd (gI σ (b0 + 4) ((gI σ (b0 + 3) (l3).toNatClampNeg)).toNatClampNeg) fun x3 => gd (vp_in l3 242) (bnd (gI σ (b0 + 1) (l3).toNatClampNeg) fun x4 => if x4 = (33 : Int32) then (if x2 = 0 then (gd (vp_in l3 242) (bnd (sI σ (b0 + 4) (l3).toNatClampNeg (1 : Int32)) fun s7 => bnd (l3 + (1 : Int32)) fun x8 => J 1 l2 x8 s7)) else (gd (vp_in l3 242) (bnd (sI σ (b0 + 4) (l3).toNatClampNeg (0 : Int32)) fun s5 => bnd (l3 + (1 : Int32)) fun x6 => J 1 l2 x6 s5))) else (if x4 = (37 : Int32) then (if x3 = 0 then (gd (vp_in l3 242) (bnd (sI σ (b0 + 4) (l3).toNatClampNeg (0 : Int32)) fun s13 => bnd (l3 + (1 : Int32)) fun x14 => J 1 l2 x14 s13)) else (gd (¬ x3 = 0) (bnd (x2 - x2 / x3 * x3) fun x10 => gd (vp_in l3 242) (bnd (sI σ (b0 + 4) (l3).toNatClampNeg x10) fun s11 => bnd (l3 + (1 : Int32)) fun x12 => J 1 l2 x12 s11)))) else (if x4 = (38 : Int32) then (if x2 = 0 then (gd (vp_in l3 242) (bnd (sI σ (b0 + 4) (l3).toNatClampNeg (0 : Int32)) fun s16 => bnd (l3 + (1 : Int32)) fun x17 => J 1 l2 x17 s16)) else (if x3 = 0 then (gd (vp_in l3 242) (bnd (sI σ (b0 + 4) (l3).toNatClampNeg (0 : Int32)) fun s18 => bnd (l3 + (1 : Int32)) fun x19 => J 1 l2 x19 s18)) else (gd (vp_in l3 242) (bnd (sI σ (b0 + 4) (l3).toNatClampNeg (1 : Int32)) fun s20 => bnd (l3 + (1 : Int32)) fun x21 => J 1 l2 x21 s20)))) else (if x4 = (42 : Int32) then (gd (vp_in l3 242) (bnd (sI σ (b0 + 4) (l3).toNatClampNeg (x2 * x3)) fun s23 => bnd (l3 + (1 : Int32)) fun x24 => J 1 l2 x24 s23)) else (if x4 = (43 : Int32) then (gd (vp_in l3 242) (bnd (sI σ (b0 + 4) (l3).toNatClampNeg (x2 + x3)) fun s26 => bnd (l3 + (1 : Int32)) fun x27 => J 1 l2 x27 s26)) else (if x4 = (45 : Int32) then (gd (vp_in l3 242) (bnd (sI σ (b0 + 4) (l3).toNatClampNeg (x2 - x3)) fun s29 => bnd (l3 + (1 : Int32)) fun x30 => J 1 l2 x30 s29)) else (if x4 = (47 : Int32) then (if x3 = 0 then (gd (vp_in l3 242) (bnd (sI σ (b0 + 4) (l3).toNatClampNeg (0 : Int32)) fun s35 => bnd (l3 + (1 : Int32)) fun x36 => J 1 l2 x36 s35)) else (gd (¬ x3 = 0) (bnd (x2 / x3) fun x32 => gd (vp_in l3 242) (bnd (sI σ (b0 + 4) (l3).toNatClampNeg x32) fun s33 => bnd (l3 + (1 : Int32)) fun x34 => J 1 l2 x34 s33)))) else (if x4 = (59 : Int32) then (some (x2, σ)) else (if x4 = (60 : Int32) then (if x3 ≤ x2 then (gd (vp_in l3 242) (bnd (sI σ (b0 + 4) (l3).toNatClampNeg (0 : Int32)) fun s39 => bnd (l3 + (1 : Int32)) fun x40 => J 1 l2 x40 s39)) else (gd (vp_in l3 242) (bnd (sI σ (b0 + 4) (l3).toNatClampNeg (1 : Int32)) fun s41 => bnd (l3 + (1 : Int32)) fun x42 => J 1 l2 x42 s41))) else (if x4 = (61 : Int32) then (if x2 = x3 then (gd (vp_in l3 242) (bnd (sI σ (b0 + 4) (l3).toNatClampNeg (1 : Int32)) fun s46 => bnd (l3 + (1 : Int32)) fun x47 => J 1 l2 x47 s46)) else (gd (vp_in l3 242) (bnd (sI σ (b0 + 4) (l3).toNatClampNeg (0 : Int32)) fun s44 => bnd (l3 + (1 : Int32)) fun x45 => J 1 l2 x45 s44))) else (if x4 = (62 : Int32) then (if x2 ≤ x3 then (gd (vp_in l3 242) (bnd (sI σ (b0 + 4) (l3).toNatClampNeg (0 : Int32)) fun s49 => bnd (l3 + (1 : Int32)) fun x50 => J 1 l2 x50 s49)) else (gd (vp_in l3 242) (bnd (sI σ (b0 + 4) (l3).toNatClampNeg (1 : Int32)) fun s51 => bnd (l3 + (1 : Int32)) fun x52 => J 1 l2 x52 s51))) else (if x4 = (63 : Int32) then (if x2 = 0 then (gd (vp_in l3 242) (bnd (gI σ (b0 + 3) (l3).toNatClampNeg) fun x55 => bnd (l3 + (1 : Int32)) fun x56 => J 1 x55 x56 σ)) else (bnd (l3 + (1 : Int32)) fun x54 => J 1 l3 x54 σ)) else (if x4 = (95 : Int32) then (gd (vp_in l3 242) (bnd (sI σ (b0 + 4) (l3).toNatClampNeg (-x2)) fun s58 => bnd (l3 + (1 : Int32)) fun x59 => J 1 l2 x59 s58)) else (if x4 = (97 : Int32) then (gd (vp_in l3 242) (if (6 : Int32) ≤ (gI σ (b0 + 2) (l3).toNatClampNeg) then (gd (vp_in l3 242) (bnd (sI σ (b0 + 4) (l3).toNatClampNeg (0 : Int32)) fun s61 => bnd (l3 + (1 : Int32)) fun x62 => J 1 l2 x62 s61)) else (gd (vp_in l3 242) (gd (vp_in (gI σ (b0 + 2) (l3).toNatClampNeg) 6) (gd (vp_in l3 242) (bnd (sI σ (b0 + 4) (l3).toNatClampNeg (gI σ 12 ((gI σ (b0 + 2) (l3).toNatClampNeg)).toNatClampNeg)) fun s63 => bnd (l3 + (1 : Int32)) fun x64 => J 1 l2 x64 s63)))))) else (if x4 = (124 : Int32) then (if x2 = 0 then (if x3 = 0 then (gd (vp_in l3 242) (bnd (sI σ (b0 + 4) (l3).toNatClampNeg (0 : Int32)) fun s68 => bnd (l3 + (1 : Int32)) fun x69 => J 1 l2 x69 s68)) else (gd (vp_in l3 242) (bnd (sI σ (b0 + 4) (l3).toNatClampNeg (1 : Int32)) fun s70 => bnd (l3 + (1 : Int32)) fun x71 => J 1 l2 x71 s70))) else (gd (vp_in l3 242) (bnd (sI σ (b0 + 4) (l3).toNatClampNeg (1 : Int32)) fun s66 => bnd (l3 + (1 : Int32)) fun x67 => J 1 l2 x67 s66))) else (bnd (l3 + (1 : Int32)) fun x73 => J 1 l2 x73 σ))))))))))))))))))))))))
noncomputable def S_X7_worth (b0 : Nat) (n : Nat) (J : Nat → Int32 → Int32 → St → Option (Int32 × St)) : Nat → Int32 → Int32 → St → Option (Int32 × St) := fun lb a0 a1 σ => match lb with
  | 1 => B_X7_worth_1 J n b0 a0 a1 σ
  | _ => none
noncomputable def L_X7_worth (b0 : Nat) (n : Nat) : Nat → Int32 → Int32 → St → Option (Int32 × St) := Nat.rec (fun _ _ _ _ => none) (fun n J => S_X7_worth b0 n J) n
noncomputable def F_X7_worth (n : Nat) (b0 : Nat) (σ : St) : Option (Int32 × St) := L_X7_worth b0 n 1 (0 : Int32) (0 : Int32) σ
set_option maxHeartbeats 4000000 in
set_option maxRecDepth 20000 in
theorem t_X7_worth (l : Launch) {p : Program} {e : Env} {s : State} {m : MethodId} {args : Array Value} {below : List Frame} {meth : Method} {c : Code} {D : va_G} {A : Nat → Prop} {ad : Nat → Nat} {dA : Nat → ClassId} (b0 : Nat) (hb0 : isL b0) (K : Cx p s m args meth c cX7_worth 6 (some .int) RX7 D (tysX dA) (wdX ad dA) A) {res : Int32 × St} (n : Nat) : (∀ (l2 : Int32) (l3 : Int32) (σ : St), L_X7_worth b0 n 1 l2 l3 σ = some res → V p l e (rmH 1) s m args below meth c 6 D (wdX ad dA) A (MQ below (QI D (wdX ad dA) A res) args s 0 0 A) 4 [(0, .ref (ad b0)), (1, .ref (ad 12)), (2, .int l2), (3, .int l3)] [] σ) := by
  induction n with
  | zero => exact (fun _ _ _ h => (by cases h))
  | succ n ih =>
    have ih_1 := ih
    · intro l2 l3 σ hM
      have hM : B_X7_worth_1 (L_X7_worth b0 n) n b0 l2 l3 σ = some res := hM
      refine v_iload_n K dX7_worth_4 3 rfl ?_
      refine v_aload_n K dX7_worth_5 0 rfl ?_
      refine g_X7_4 K hb0 qf_X7_25 dX7_worth_6 ?_
      refine v_icmp_ge K 482 dX7_worth_9 (by decide) hM (fun hM => ?_) (fun hM => ?_)
      · refine v_iconst (v := (0 : Int32)) K dX7_worth_482 (by decide) ?_
        exact v_iret K rfl dX7_worth_483 hM
      · refine v_iload_n K dX7_worth_12 3 rfl ?_
        refine v_iload_n K dX7_worth_13 2 rfl ?_
        refine v_icmp_lt K 476 dX7_worth_14 (by decide) hM (fun hM => ?_) (fun hM => ?_)
        · refine v_iinc K dX7_worth_476 3 rfl (v := (l3 + (1 : Int32))) rfl (by decide) hM (fun y => [(3, .int y), (0, .ref (ad b0)), (1, .ref (ad 12)), (2, .int l2)]) (fun _ => rfl) (fun x1 hM => ?_)
          refine v_goto (tgt := 4) K dX7_worth_479 (by decide) ?_
          exact v_sub [1, 2, 3, 0] rfl (ih_1 l2 x1 σ hM)
        · refine v_aload_n K dX7_worth_17 0 rfl ?_
          refine g_X7_0 K hb0 qf_X7_11 dX7_worth_18 ?_
          refine v_iload_n K dX7_worth_21 3 rfl ?_
          refine ld_X7a1 K hb0 dX7_worth_22 hM (fun hM => ?_)
          refine v_bipush (v := (48 : Int32)) K dX7_worth_23 (by decide) ?_
          refine v_icmp_ne K 31 dX7_worth_25 (by decide) hM (fun hM => ?_) (fun hM => ?_)
          · refine v_aload_n K dX7_worth_31 0 rfl ?_
            refine g_X7_3 K hb0 qf_X7_22 dX7_worth_32 ?_
            refine v_aload_n K dX7_worth_35 0 rfl ?_
            refine g_X7_1 K hb0 qf_X7_15 dX7_worth_36 ?_
            refine v_iload_n K dX7_worth_39 3 rfl ?_
            refine ld_X7a2 K hb0 dX7_worth_40 hM (fun hM => ?_)
            refine ld_X7a4 K hb0 dX7_worth_41 hM (fun hM => ?_)
            refine v_topi hM (fun x2 hM => ?_)
            refine v_istore K dX7_worth_42 (by decide) [(4, .int x2), (0, .ref (ad b0)), (1, .ref (ad 12)), (2, .int l2), (3, .int l3)] rfl ?_
            refine v_aload_n K dX7_worth_44 1 rfl ?_
            refine g_X7_3 K hb0 qf_X7_22 dX7_worth_45 ?_
            refine v_aload_n K dX7_worth_48 1 rfl ?_
            refine g_X7_2 K hb0 qf_X7_19 dX7_worth_49 ?_
            refine v_iload_n K dX7_worth_52 4 rfl ?_
            refine ld_X7a3 K hb0 dX7_worth_53 hM (fun hM => ?_)
            refine ld_X7a4 K hb0 dX7_worth_54 hM (fun hM => ?_)
            refine v_topi hM (fun x3 hM => ?_)
            refine v_istore K dX7_worth_55 (by decide) [(5, .int x3), (4, .int x2), (0, .ref (ad b0)), (1, .ref (ad 12)), (2, .int l2), (3, .int l3)] rfl ?_
            refine v_aload_n K dX7_worth_57 2 rfl ?_
            refine g_X7_0 K hb0 qf_X7_11 dX7_worth_58 ?_
            refine v_iload_n K dX7_worth_61 5 rfl ?_
            refine ld_X7a1 K hb0 dX7_worth_62 hM (fun hM => ?_)
            refine v_topi hM (fun x4 hM => ?_)
            rcases ite_inv hM with ⟨hx9, hM⟩ | ⟨hx9, hM⟩
            · refine v_lookI K dX7_worth_63 (k := (33 : Int32)) hx9 (by decide) (off := 195) (by decide) (tgt := 258) (by decide) ?_
              refine v_aload_n K dX7_worth_258 2 rfl ?_
              refine g_X7_3 K hb0 qf_X7_22 dX7_worth_259 ?_
              refine v_iload_n K dX7_worth_262 5 rfl ?_
              refine v_iload K dX7_worth_263 1 rfl ?_
              refine v_if_ne K 272 dX7_worth_265 (by decide) hM (fun hM => ?_) (fun hM => ?_)
              · refine v_iconst (v := (0 : Int32)) K dX7_worth_272 (by decide) ?_
                refine st_X7a4 K hb0 dX7_worth_273 hM (fun s5 hM => ?_)
                refine v_goto (tgt := 476) K dX7_worth_274 (by decide) ?_
                refine v_iinc K dX7_worth_476 5 rfl (v := (l3 + (1 : Int32))) rfl (by decide) hM (fun y => [(3, .int y), (5, .int x3), (4, .int x2), (0, .ref (ad b0)), (1, .ref (ad 12)), (2, .int l2)]) (fun _ => rfl) (fun x6 hM => ?_)
                refine v_goto (tgt := 4) K dX7_worth_479 (by decide) ?_
                exact v_sub [3, 4, 5, 0] rfl (ih_1 l2 x6 s5 hM)
              · refine v_iconst (v := (1 : Int32)) K dX7_worth_268 (by decide) ?_
                refine v_goto (tgt := 273) K dX7_worth_269 (by decide) ?_
                refine st_X7a4 K hb0 dX7_worth_273 hM (fun s7 hM => ?_)
                refine v_goto (tgt := 476) K dX7_worth_274 (by decide) ?_
                refine v_iinc K dX7_worth_476 5 rfl (v := (l3 + (1 : Int32))) rfl (by decide) hM (fun y => [(3, .int y), (5, .int x3), (4, .int x2), (0, .ref (ad b0)), (1, .ref (ad 12)), (2, .int l2)]) (fun _ => rfl) (fun x8 hM => ?_)
                refine v_goto (tgt := 4) K dX7_worth_479 (by decide) ?_
                exact v_sub [3, 4, 5, 0] rfl (ih_1 l2 x8 s7 hM)
            rcases ite_inv hM with ⟨hx15, hM⟩ | ⟨hx15, hM⟩
            · refine v_lookI K dX7_worth_63 (k := (37 : Int32)) hx15 (by decide) (off := 390) (by decide) (tgt := 453) (by decide) ?_
              refine v_aload_n K dX7_worth_453 2 rfl ?_
              refine g_X7_3 K hb0 qf_X7_22 dX7_worth_454 ?_
              refine v_iload_n K dX7_worth_457 5 rfl ?_
              refine v_iload K dX7_worth_458 0 rfl ?_
              refine v_if_ne K 467 dX7_worth_460 (by decide) hM (fun hM => ?_) (fun hM => ?_)
              · refine v_iload K dX7_worth_467 1 rfl ?_
                refine v_iload K dX7_worth_469 0 rfl ?_
                refine v_irem K dX7_worth_471 hM (fun hM => ?_)
                refine v_topi hM (fun x10 hM => ?_)
                refine st_X7a4 K hb0 dX7_worth_472 hM (fun s11 hM => ?_)
                refine v_goto (tgt := 476) K dX7_worth_473 (by decide) ?_
                refine v_iinc K dX7_worth_476 5 rfl (v := (l3 + (1 : Int32))) rfl (by decide) hM (fun y => [(3, .int y), (5, .int x3), (4, .int x2), (0, .ref (ad b0)), (1, .ref (ad 12)), (2, .int l2)]) (fun _ => rfl) (fun x12 hM => ?_)
                refine v_goto (tgt := 4) K dX7_worth_479 (by decide) ?_
                exact v_sub [3, 4, 5, 0] rfl (ih_1 l2 x12 s11 hM)
              · refine v_iconst (v := (0 : Int32)) K dX7_worth_463 (by decide) ?_
                refine v_goto (tgt := 472) K dX7_worth_464 (by decide) ?_
                refine st_X7a4 K hb0 dX7_worth_472 hM (fun s13 hM => ?_)
                refine v_goto (tgt := 476) K dX7_worth_473 (by decide) ?_
                refine v_iinc K dX7_worth_476 5 rfl (v := (l3 + (1 : Int32))) rfl (by decide) hM (fun y => [(3, .int y), (5, .int x3), (4, .int x2), (0, .ref (ad b0)), (1, .ref (ad 12)), (2, .int l2)]) (fun _ => rfl) (fun x14 hM => ?_)
                refine v_goto (tgt := 4) K dX7_worth_479 (by decide) ?_
                exact v_sub [3, 4, 5, 0] rfl (ih_1 l2 x14 s13 hM)
            rcases ite_inv hM with ⟨hx22, hM⟩ | ⟨hx22, hM⟩
            · refine v_lookI K dX7_worth_63 (k := (38 : Int32)) hx22 (by decide) (off := 238) (by decide) (tgt := 301) (by decide) ?_
              refine v_aload_n K dX7_worth_301 2 rfl ?_
              refine g_X7_3 K hb0 qf_X7_22 dX7_worth_302 ?_
              refine v_iload_n K dX7_worth_305 5 rfl ?_
              refine v_iload K dX7_worth_306 1 rfl ?_
              refine v_if_eq K 320 dX7_worth_308 (by decide) hM (fun hM => ?_) (fun hM => ?_)
              · refine v_iconst (v := (0 : Int32)) K dX7_worth_320 (by decide) ?_
                refine st_X7a4 K hb0 dX7_worth_321 hM (fun s16 hM => ?_)
                refine v_goto (tgt := 476) K dX7_worth_322 (by decide) ?_
                refine v_iinc K dX7_worth_476 5 rfl (v := (l3 + (1 : Int32))) rfl (by decide) hM (fun y => [(3, .int y), (5, .int x3), (4, .int x2), (0, .ref (ad b0)), (1, .ref (ad 12)), (2, .int l2)]) (fun _ => rfl) (fun x17 hM => ?_)
                refine v_goto (tgt := 4) K dX7_worth_479 (by decide) ?_
                exact v_sub [3, 4, 5, 0] rfl (ih_1 l2 x17 s16 hM)
              · refine v_iload K dX7_worth_311 0 rfl ?_
                refine v_if_eq K 320 dX7_worth_313 (by decide) hM (fun hM => ?_) (fun hM => ?_)
                · refine v_iconst (v := (0 : Int32)) K dX7_worth_320 (by decide) ?_
                  refine st_X7a4 K hb0 dX7_worth_321 hM (fun s18 hM => ?_)
                  refine v_goto (tgt := 476) K dX7_worth_322 (by decide) ?_
                  refine v_iinc K dX7_worth_476 5 rfl (v := (l3 + (1 : Int32))) rfl (by decide) hM (fun y => [(3, .int y), (5, .int x3), (4, .int x2), (0, .ref (ad b0)), (1, .ref (ad 12)), (2, .int l2)]) (fun _ => rfl) (fun x19 hM => ?_)
                  refine v_goto (tgt := 4) K dX7_worth_479 (by decide) ?_
                  exact v_sub [3, 4, 5, 0] rfl (ih_1 l2 x19 s18 hM)
                · refine v_iconst (v := (1 : Int32)) K dX7_worth_316 (by decide) ?_
                  refine v_goto (tgt := 321) K dX7_worth_317 (by decide) ?_
                  refine st_X7a4 K hb0 dX7_worth_321 hM (fun s20 hM => ?_)
                  refine v_goto (tgt := 476) K dX7_worth_322 (by decide) ?_
                  refine v_iinc K dX7_worth_476 5 rfl (v := (l3 + (1 : Int32))) rfl (by decide) hM (fun y => [(3, .int y), (5, .int x3), (4, .int x2), (0, .ref (ad b0)), (1, .ref (ad 12)), (2, .int l2)]) (fun _ => rfl) (fun x21 hM => ?_)
                  refine v_goto (tgt := 4) K dX7_worth_479 (by decide) ?_
                  exact v_sub [3, 4, 5, 0] rfl (ih_1 l2 x21 s20 hM)
            rcases ite_inv hM with ⟨hx25, hM⟩ | ⟨hx25, hM⟩
            · refine v_lookI K dX7_worth_63 (k := (42 : Int32)) hx25 (by decide) (off := 353) (by decide) (tgt := 416) (by decide) ?_
              refine v_aload_n K dX7_worth_416 2 rfl ?_
              refine g_X7_3 K hb0 qf_X7_22 dX7_worth_417 ?_
              refine v_iload_n K dX7_worth_420 5 rfl ?_
              refine v_iload K dX7_worth_421 1 rfl ?_
              refine v_iload K dX7_worth_423 0 rfl ?_
              refine v_imul K dX7_worth_425 ?_
              refine st_X7a4 K hb0 dX7_worth_426 hM (fun s23 hM => ?_)
              refine v_goto (tgt := 476) K dX7_worth_427 (by decide) ?_
              refine v_iinc K dX7_worth_476 5 rfl (v := (l3 + (1 : Int32))) rfl (by decide) hM (fun y => [(3, .int y), (5, .int x3), (4, .int x2), (0, .ref (ad b0)), (1, .ref (ad 12)), (2, .int l2)]) (fun _ => rfl) (fun x24 hM => ?_)
              refine v_goto (tgt := 4) K dX7_worth_479 (by decide) ?_
              exact v_sub [3, 4, 5, 0] rfl (ih_1 l2 x24 s23 hM)
            rcases ite_inv hM with ⟨hx28, hM⟩ | ⟨hx28, hM⟩
            · refine v_lookI K dX7_worth_63 (k := (43 : Int32)) hx28 (by decide) (off := 325) (by decide) (tgt := 388) (by decide) ?_
              refine v_aload_n K dX7_worth_388 2 rfl ?_
              refine g_X7_3 K hb0 qf_X7_22 dX7_worth_389 ?_
              refine v_iload_n K dX7_worth_392 5 rfl ?_
              refine v_iload K dX7_worth_393 1 rfl ?_
              refine v_iload K dX7_worth_395 0 rfl ?_
              refine v_iadd K dX7_worth_397 ?_
              refine st_X7a4 K hb0 dX7_worth_398 hM (fun s26 hM => ?_)
              refine v_goto (tgt := 476) K dX7_worth_399 (by decide) ?_
              refine v_iinc K dX7_worth_476 5 rfl (v := (l3 + (1 : Int32))) rfl (by decide) hM (fun y => [(3, .int y), (5, .int x3), (4, .int x2), (0, .ref (ad b0)), (1, .ref (ad 12)), (2, .int l2)]) (fun _ => rfl) (fun x27 hM => ?_)
              refine v_goto (tgt := 4) K dX7_worth_479 (by decide) ?_
              exact v_sub [3, 4, 5, 0] rfl (ih_1 l2 x27 s26 hM)
            rcases ite_inv hM with ⟨hx31, hM⟩ | ⟨hx31, hM⟩
            · refine v_lookI K dX7_worth_63 (k := (45 : Int32)) hx31 (by decide) (off := 339) (by decide) (tgt := 402) (by decide) ?_
              refine v_aload_n K dX7_worth_402 2 rfl ?_
              refine g_X7_3 K hb0 qf_X7_22 dX7_worth_403 ?_
              refine v_iload_n K dX7_worth_406 5 rfl ?_
              refine v_iload K dX7_worth_407 1 rfl ?_
              refine v_iload K dX7_worth_409 0 rfl ?_
              refine v_isub K dX7_worth_411 ?_
              refine st_X7a4 K hb0 dX7_worth_412 hM (fun s29 hM => ?_)
              refine v_goto (tgt := 476) K dX7_worth_413 (by decide) ?_
              refine v_iinc K dX7_worth_476 5 rfl (v := (l3 + (1 : Int32))) rfl (by decide) hM (fun y => [(3, .int y), (5, .int x3), (4, .int x2), (0, .ref (ad b0)), (1, .ref (ad 12)), (2, .int l2)]) (fun _ => rfl) (fun x30 hM => ?_)
              refine v_goto (tgt := 4) K dX7_worth_479 (by decide) ?_
              exact v_sub [3, 4, 5, 0] rfl (ih_1 l2 x30 s29 hM)
            rcases ite_inv hM with ⟨hx37, hM⟩ | ⟨hx37, hM⟩
            · refine v_lookI K dX7_worth_63 (k := (47 : Int32)) hx37 (by decide) (off := 367) (by decide) (tgt := 430) (by decide) ?_
              refine v_aload_n K dX7_worth_430 2 rfl ?_
              refine g_X7_3 K hb0 qf_X7_22 dX7_worth_431 ?_
              refine v_iload_n K dX7_worth_434 5 rfl ?_
              refine v_iload K dX7_worth_435 0 rfl ?_
              refine v_if_ne K 444 dX7_worth_437 (by decide) hM (fun hM => ?_) (fun hM => ?_)
              · refine v_iload K dX7_worth_444 1 rfl ?_
                refine v_iload K dX7_worth_446 0 rfl ?_
                refine v_idiv K dX7_worth_448 hM (fun hM => ?_)
                refine v_topi hM (fun x32 hM => ?_)
                refine st_X7a4 K hb0 dX7_worth_449 hM (fun s33 hM => ?_)
                refine v_goto (tgt := 476) K dX7_worth_450 (by decide) ?_
                refine v_iinc K dX7_worth_476 5 rfl (v := (l3 + (1 : Int32))) rfl (by decide) hM (fun y => [(3, .int y), (5, .int x3), (4, .int x2), (0, .ref (ad b0)), (1, .ref (ad 12)), (2, .int l2)]) (fun _ => rfl) (fun x34 hM => ?_)
                refine v_goto (tgt := 4) K dX7_worth_479 (by decide) ?_
                exact v_sub [3, 4, 5, 0] rfl (ih_1 l2 x34 s33 hM)
              · refine v_iconst (v := (0 : Int32)) K dX7_worth_440 (by decide) ?_
                refine v_goto (tgt := 449) K dX7_worth_441 (by decide) ?_
                refine st_X7a4 K hb0 dX7_worth_449 hM (fun s35 hM => ?_)
                refine v_goto (tgt := 476) K dX7_worth_450 (by decide) ?_
                refine v_iinc K dX7_worth_476 5 rfl (v := (l3 + (1 : Int32))) rfl (by decide) hM (fun y => [(3, .int y), (5, .int x3), (4, .int x2), (0, .ref (ad b0)), (1, .ref (ad 12)), (2, .int l2)]) (fun _ => rfl) (fun x36 hM => ?_)
                refine v_goto (tgt := 4) K dX7_worth_479 (by decide) ?_
                exact v_sub [3, 4, 5, 0] rfl (ih_1 l2 x36 s35 hM)
            rcases ite_inv hM with ⟨hx38, hM⟩ | ⟨hx38, hM⟩
            · refine v_lookI K dX7_worth_63 (k := (59 : Int32)) hx38 (by decide) (off := 129) (by decide) (tgt := 192) (by decide) ?_
              refine v_iload K dX7_worth_192 1 rfl ?_
              exact v_iret K rfl dX7_worth_194 hM
            rcases ite_inv hM with ⟨hx43, hM⟩ | ⟨hx43, hM⟩
            · refine v_lookI K dX7_worth_63 (k := (60 : Int32)) hx43 (by decide) (off := 262) (by decide) (tgt := 325) (by decide) ?_
              refine v_aload_n K dX7_worth_325 2 rfl ?_
              refine g_X7_3 K hb0 qf_X7_22 dX7_worth_326 ?_
              refine v_iload_n K dX7_worth_329 5 rfl ?_
              refine v_iload K dX7_worth_330 1 rfl ?_
              refine v_iload K dX7_worth_332 0 rfl ?_
              refine v_icmp_ge K 341 dX7_worth_334 (by decide) hM (fun hM => ?_) (fun hM => ?_)
              · refine v_iconst (v := (0 : Int32)) K dX7_worth_341 (by decide) ?_
                refine st_X7a4 K hb0 dX7_worth_342 hM (fun s39 hM => ?_)
                refine v_goto (tgt := 476) K dX7_worth_343 (by decide) ?_
                refine v_iinc K dX7_worth_476 5 rfl (v := (l3 + (1 : Int32))) rfl (by decide) hM (fun y => [(3, .int y), (5, .int x3), (4, .int x2), (0, .ref (ad b0)), (1, .ref (ad 12)), (2, .int l2)]) (fun _ => rfl) (fun x40 hM => ?_)
                refine v_goto (tgt := 4) K dX7_worth_479 (by decide) ?_
                exact v_sub [3, 4, 5, 0] rfl (ih_1 l2 x40 s39 hM)
              · refine v_iconst (v := (1 : Int32)) K dX7_worth_337 (by decide) ?_
                refine v_goto (tgt := 342) K dX7_worth_338 (by decide) ?_
                refine st_X7a4 K hb0 dX7_worth_342 hM (fun s41 hM => ?_)
                refine v_goto (tgt := 476) K dX7_worth_343 (by decide) ?_
                refine v_iinc K dX7_worth_476 5 rfl (v := (l3 + (1 : Int32))) rfl (by decide) hM (fun y => [(3, .int y), (5, .int x3), (4, .int x2), (0, .ref (ad b0)), (1, .ref (ad 12)), (2, .int l2)]) (fun _ => rfl) (fun x42 hM => ?_)
                refine v_goto (tgt := 4) K dX7_worth_479 (by decide) ?_
                exact v_sub [3, 4, 5, 0] rfl (ih_1 l2 x42 s41 hM)
            rcases ite_inv hM with ⟨hx48, hM⟩ | ⟨hx48, hM⟩
            · refine v_lookI K dX7_worth_63 (k := (61 : Int32)) hx48 (by decide) (off := 283) (by decide) (tgt := 346) (by decide) ?_
              refine v_aload_n K dX7_worth_346 2 rfl ?_
              refine g_X7_3 K hb0 qf_X7_22 dX7_worth_347 ?_
              refine v_iload_n K dX7_worth_350 5 rfl ?_
              refine v_iload K dX7_worth_351 1 rfl ?_
              refine v_iload K dX7_worth_353 0 rfl ?_
              refine v_icmp_ne K 362 dX7_worth_355 (by decide) hM (fun hM => ?_) (fun hM => ?_)
              · refine v_iconst (v := (0 : Int32)) K dX7_worth_362 (by decide) ?_
                refine st_X7a4 K hb0 dX7_worth_363 hM (fun s44 hM => ?_)
                refine v_goto (tgt := 476) K dX7_worth_364 (by decide) ?_
                refine v_iinc K dX7_worth_476 5 rfl (v := (l3 + (1 : Int32))) rfl (by decide) hM (fun y => [(3, .int y), (5, .int x3), (4, .int x2), (0, .ref (ad b0)), (1, .ref (ad 12)), (2, .int l2)]) (fun _ => rfl) (fun x45 hM => ?_)
                refine v_goto (tgt := 4) K dX7_worth_479 (by decide) ?_
                exact v_sub [3, 4, 5, 0] rfl (ih_1 l2 x45 s44 hM)
              · refine v_iconst (v := (1 : Int32)) K dX7_worth_358 (by decide) ?_
                refine v_goto (tgt := 363) K dX7_worth_359 (by decide) ?_
                refine st_X7a4 K hb0 dX7_worth_363 hM (fun s46 hM => ?_)
                refine v_goto (tgt := 476) K dX7_worth_364 (by decide) ?_
                refine v_iinc K dX7_worth_476 5 rfl (v := (l3 + (1 : Int32))) rfl (by decide) hM (fun y => [(3, .int y), (5, .int x3), (4, .int x2), (0, .ref (ad b0)), (1, .ref (ad 12)), (2, .int l2)]) (fun _ => rfl) (fun x47 hM => ?_)
                refine v_goto (tgt := 4) K dX7_worth_479 (by decide) ?_
                exact v_sub [3, 4, 5, 0] rfl (ih_1 l2 x47 s46 hM)
            rcases ite_inv hM with ⟨hx53, hM⟩ | ⟨hx53, hM⟩
            · refine v_lookI K dX7_worth_63 (k := (62 : Int32)) hx53 (by decide) (off := 304) (by decide) (tgt := 367) (by decide) ?_
              refine v_aload_n K dX7_worth_367 2 rfl ?_
              refine g_X7_3 K hb0 qf_X7_22 dX7_worth_368 ?_
              refine v_iload_n K dX7_worth_371 5 rfl ?_
              refine v_iload K dX7_worth_372 1 rfl ?_
              refine v_iload K dX7_worth_374 0 rfl ?_
              refine v_icmp_le K 383 dX7_worth_376 (by decide) hM (fun hM => ?_) (fun hM => ?_)
              · refine v_iconst (v := (0 : Int32)) K dX7_worth_383 (by decide) ?_
                refine st_X7a4 K hb0 dX7_worth_384 hM (fun s49 hM => ?_)
                refine v_goto (tgt := 476) K dX7_worth_385 (by decide) ?_
                refine v_iinc K dX7_worth_476 5 rfl (v := (l3 + (1 : Int32))) rfl (by decide) hM (fun y => [(3, .int y), (5, .int x3), (4, .int x2), (0, .ref (ad b0)), (1, .ref (ad 12)), (2, .int l2)]) (fun _ => rfl) (fun x50 hM => ?_)
                refine v_goto (tgt := 4) K dX7_worth_479 (by decide) ?_
                exact v_sub [3, 4, 5, 0] rfl (ih_1 l2 x50 s49 hM)
              · refine v_iconst (v := (1 : Int32)) K dX7_worth_379 (by decide) ?_
                refine v_goto (tgt := 384) K dX7_worth_380 (by decide) ?_
                refine st_X7a4 K hb0 dX7_worth_384 hM (fun s51 hM => ?_)
                refine v_goto (tgt := 476) K dX7_worth_385 (by decide) ?_
                refine v_iinc K dX7_worth_476 5 rfl (v := (l3 + (1 : Int32))) rfl (by decide) hM (fun y => [(3, .int y), (5, .int x3), (4, .int x2), (0, .ref (ad b0)), (1, .ref (ad 12)), (2, .int l2)]) (fun _ => rfl) (fun x52 hM => ?_)
                refine v_goto (tgt := 4) K dX7_worth_479 (by decide) ?_
                exact v_sub [3, 4, 5, 0] rfl (ih_1 l2 x52 s51 hM)
            rcases ite_inv hM with ⟨hx57, hM⟩ | ⟨hx57, hM⟩
            · refine v_lookI K dX7_worth_63 (k := (63 : Int32)) hx57 (by decide) (off := 132) (by decide) (tgt := 195) (by decide) ?_
              refine v_iload K dX7_worth_195 1 rfl ?_
              refine v_if_ne K 209 dX7_worth_197 (by decide) hM (fun hM => ?_) (fun hM => ?_)
              · refine v_iload_n K dX7_worth_209 5 rfl ?_
                refine v_istore_n K dX7_worth_210 rfl (by decide) [(2, .int l3), (5, .int x3), (4, .int x2), (0, .ref (ad b0)), (1, .ref (ad 12)), (3, .int l3)] rfl ?_
                refine v_goto (tgt := 476) K dX7_worth_211 (by decide) ?_
                refine v_iinc K dX7_worth_476 5 rfl (v := (l3 + (1 : Int32))) rfl (by decide) hM (fun y => [(3, .int y), (2, .int l3), (5, .int x3), (4, .int x2), (0, .ref (ad b0)), (1, .ref (ad 12))]) (fun _ => rfl) (fun x54 hM => ?_)
                refine v_goto (tgt := 4) K dX7_worth_479 (by decide) ?_
                exact v_sub [4, 5, 1, 0] rfl (ih_1 l3 x54 σ hM)
              · refine v_aload_n K dX7_worth_200 2 rfl ?_
                refine g_X7_2 K hb0 qf_X7_19 dX7_worth_201 ?_
                refine v_iload_n K dX7_worth_204 5 rfl ?_
                refine ld_X7a3 K hb0 dX7_worth_205 hM (fun hM => ?_)
                refine v_goto (tgt := 210) K dX7_worth_206 (by decide) ?_
                refine v_topi hM (fun x55 hM => ?_)
                refine v_istore_n K dX7_worth_210 rfl (by decide) [(2, .int x55), (5, .int x3), (4, .int x2), (0, .ref (ad b0)), (1, .ref (ad 12)), (3, .int l3)] rfl ?_
                refine v_goto (tgt := 476) K dX7_worth_211 (by decide) ?_
                refine v_iinc K dX7_worth_476 5 rfl (v := (l3 + (1 : Int32))) rfl (by decide) hM (fun y => [(3, .int y), (2, .int x55), (5, .int x3), (4, .int x2), (0, .ref (ad b0)), (1, .ref (ad 12))]) (fun _ => rfl) (fun x56 hM => ?_)
                refine v_goto (tgt := 4) K dX7_worth_479 (by decide) ?_
                exact v_sub [4, 5, 1, 0] rfl (ih_1 x55 x56 σ hM)
            rcases ite_inv hM with ⟨hx60, hM⟩ | ⟨hx60, hM⟩
            · refine v_lookI K dX7_worth_63 (k := (95 : Int32)) hx60 (by decide) (off := 183) (by decide) (tgt := 246) (by decide) ?_
              refine v_aload_n K dX7_worth_246 2 rfl ?_
              refine g_X7_3 K hb0 qf_X7_22 dX7_worth_247 ?_
              refine v_iload_n K dX7_worth_250 5 rfl ?_
              refine v_iload K dX7_worth_251 1 rfl ?_
              refine v_ineg K dX7_worth_253 ?_
              refine st_X7a4 K hb0 dX7_worth_254 hM (fun s58 hM => ?_)
              refine v_goto (tgt := 476) K dX7_worth_255 (by decide) ?_
              refine v_iinc K dX7_worth_476 5 rfl (v := (l3 + (1 : Int32))) rfl (by decide) hM (fun y => [(3, .int y), (5, .int x3), (4, .int x2), (0, .ref (ad b0)), (1, .ref (ad 12)), (2, .int l2)]) (fun _ => rfl) (fun x59 hM => ?_)
              refine v_goto (tgt := 4) K dX7_worth_479 (by decide) ?_
              exact v_sub [3, 4, 5, 0] rfl (ih_1 l2 x59 s58 hM)
            rcases ite_inv hM with ⟨hx65, hM⟩ | ⟨hx65, hM⟩
            · refine v_lookI K dX7_worth_63 (k := (97 : Int32)) hx65 (by decide) (off := 151) (by decide) (tgt := 214) (by decide) ?_
              refine v_aload_n K dX7_worth_214 2 rfl ?_
              refine g_X7_3 K hb0 qf_X7_22 dX7_worth_215 ?_
              refine v_iload_n K dX7_worth_218 5 rfl ?_
              refine v_aload_n K dX7_worth_219 2 rfl ?_
              refine g_X7_1 K hb0 qf_X7_15 dX7_worth_220 ?_
              refine v_iload_n K dX7_worth_223 5 rfl ?_
              refine ld_X7a2 K hb0 dX7_worth_224 hM (fun hM => ?_)
              refine v_aload_n K dX7_worth_225 3 rfl ?_
              refine al_X12 K dX7_worth_226 ?_
              refine v_icmp_ge K 241 dX7_worth_227 (by decide) hM (fun hM => ?_) (fun hM => ?_)
              · refine v_iconst (v := (0 : Int32)) K dX7_worth_241 (by decide) ?_
                refine st_X7a4 K hb0 dX7_worth_242 hM (fun s61 hM => ?_)
                refine v_goto (tgt := 476) K dX7_worth_243 (by decide) ?_
                refine v_iinc K dX7_worth_476 5 rfl (v := (l3 + (1 : Int32))) rfl (by decide) hM (fun y => [(3, .int y), (5, .int x3), (4, .int x2), (0, .ref (ad b0)), (1, .ref (ad 12)), (2, .int l2)]) (fun _ => rfl) (fun x62 hM => ?_)
                refine v_goto (tgt := 4) K dX7_worth_479 (by decide) ?_
                exact v_sub [3, 4, 5, 0] rfl (ih_1 l2 x62 s61 hM)
              · refine v_aload_n K dX7_worth_230 3 rfl ?_
                refine v_aload_n K dX7_worth_231 2 rfl ?_
                refine g_X7_1 K hb0 qf_X7_15 dX7_worth_232 ?_
                refine v_iload_n K dX7_worth_235 5 rfl ?_
                refine ld_X7a2 K hb0 dX7_worth_236 hM (fun hM => ?_)
                refine ld_X12 K dX7_worth_237 hM (fun hM => ?_)
                refine v_goto (tgt := 242) K dX7_worth_238 (by decide) ?_
                refine st_X7a4 K hb0 dX7_worth_242 hM (fun s63 hM => ?_)
                refine v_goto (tgt := 476) K dX7_worth_243 (by decide) ?_
                refine v_iinc K dX7_worth_476 5 rfl (v := (l3 + (1 : Int32))) rfl (by decide) hM (fun y => [(3, .int y), (5, .int x3), (4, .int x2), (0, .ref (ad b0)), (1, .ref (ad 12)), (2, .int l2)]) (fun _ => rfl) (fun x64 hM => ?_)
                refine v_goto (tgt := 4) K dX7_worth_479 (by decide) ?_
                exact v_sub [3, 4, 5, 0] rfl (ih_1 l2 x64 s63 hM)
            rcases ite_inv hM with ⟨hx72, hM⟩ | ⟨hx72, hM⟩
            · refine v_lookI K dX7_worth_63 (k := (124 : Int32)) hx72 (by decide) (off := 214) (by decide) (tgt := 277) (by decide) ?_
              refine v_aload_n K dX7_worth_277 2 rfl ?_
              refine g_X7_3 K hb0 qf_X7_22 dX7_worth_278 ?_
              refine v_iload_n K dX7_worth_281 5 rfl ?_
              refine v_iload K dX7_worth_282 1 rfl ?_
              refine v_if_ne K 292 dX7_worth_284 (by decide) hM (fun hM => ?_) (fun hM => ?_)
              · refine v_iconst (v := (1 : Int32)) K dX7_worth_292 (by decide) ?_
                refine v_goto (tgt := 297) K dX7_worth_293 (by decide) ?_
                refine st_X7a4 K hb0 dX7_worth_297 hM (fun s66 hM => ?_)
                refine v_goto (tgt := 476) K dX7_worth_298 (by decide) ?_
                refine v_iinc K dX7_worth_476 5 rfl (v := (l3 + (1 : Int32))) rfl (by decide) hM (fun y => [(3, .int y), (5, .int x3), (4, .int x2), (0, .ref (ad b0)), (1, .ref (ad 12)), (2, .int l2)]) (fun _ => rfl) (fun x67 hM => ?_)
                refine v_goto (tgt := 4) K dX7_worth_479 (by decide) ?_
                exact v_sub [3, 4, 5, 0] rfl (ih_1 l2 x67 s66 hM)
              · refine v_iload K dX7_worth_287 0 rfl ?_
                refine v_if_eq K 296 dX7_worth_289 (by decide) hM (fun hM => ?_) (fun hM => ?_)
                · refine v_iconst (v := (0 : Int32)) K dX7_worth_296 (by decide) ?_
                  refine st_X7a4 K hb0 dX7_worth_297 hM (fun s68 hM => ?_)
                  refine v_goto (tgt := 476) K dX7_worth_298 (by decide) ?_
                  refine v_iinc K dX7_worth_476 5 rfl (v := (l3 + (1 : Int32))) rfl (by decide) hM (fun y => [(3, .int y), (5, .int x3), (4, .int x2), (0, .ref (ad b0)), (1, .ref (ad 12)), (2, .int l2)]) (fun _ => rfl) (fun x69 hM => ?_)
                  refine v_goto (tgt := 4) K dX7_worth_479 (by decide) ?_
                  exact v_sub [3, 4, 5, 0] rfl (ih_1 l2 x69 s68 hM)
                · refine v_iconst (v := (1 : Int32)) K dX7_worth_292 (by decide) ?_
                  refine v_goto (tgt := 297) K dX7_worth_293 (by decide) ?_
                  refine st_X7a4 K hb0 dX7_worth_297 hM (fun s70 hM => ?_)
                  refine v_goto (tgt := 476) K dX7_worth_298 (by decide) ?_
                  refine v_iinc K dX7_worth_476 5 rfl (v := (l3 + (1 : Int32))) rfl (by decide) hM (fun y => [(3, .int y), (5, .int x3), (4, .int x2), (0, .ref (ad b0)), (1, .ref (ad 12)), (2, .int l2)]) (fun _ => rfl) (fun x71 hM => ?_)
                  refine v_goto (tgt := 4) K dX7_worth_479 (by decide) ?_
                  exact v_sub [3, 4, 5, 0] rfl (ih_1 l2 x71 s70 hM)
            refine v_lookO K dX7_worth_63 (by decide) (off := 413) (by have a0 : x4.toInt ≠ 33 := ne_toInt hx9; have a1 : x4.toInt ≠ 37 := ne_toInt hx15; have a2 : x4.toInt ≠ 38 := ne_toInt hx22; have a3 : x4.toInt ≠ 42 := ne_toInt hx25; have a4 : x4.toInt ≠ 43 := ne_toInt hx28; have a5 : x4.toInt ≠ 45 := ne_toInt hx31; have a6 : x4.toInt ≠ 47 := ne_toInt hx37; have a7 : x4.toInt ≠ 59 := ne_toInt hx38; have a8 : x4.toInt ≠ 60 := ne_toInt hx43; have a9 : x4.toInt ≠ 61 := ne_toInt hx48; have a10 : x4.toInt ≠ 62 := ne_toInt hx53; have a11 : x4.toInt ≠ 63 := ne_toInt hx57; have a12 : x4.toInt ≠ 95 := ne_toInt hx60; have a13 : x4.toInt ≠ 97 := ne_toInt hx65; have a14 : x4.toInt ≠ 124 := ne_toInt hx72; simp [Op.lookupswitch.offset, a0, Ne.symm a0, a1, Ne.symm a1, a2, Ne.symm a2, a3, Ne.symm a3, a4, Ne.symm a4, a5, Ne.symm a5, a6, Ne.symm a6, a7, Ne.symm a7, a8, Ne.symm a8, a9, Ne.symm a9, a10, Ne.symm a10, a11, Ne.symm a11, a12, Ne.symm a12, a13, Ne.symm a13, a14, Ne.symm a14]) (tgt := 476) (by decide) ?_
            refine v_iinc K dX7_worth_476 5 rfl (v := (l3 + (1 : Int32))) rfl (by decide) hM (fun y => [(3, .int y), (5, .int x3), (4, .int x2), (0, .ref (ad b0)), (1, .ref (ad 12)), (2, .int l2)]) (fun _ => rfl) (fun x73 hM => ?_)
            refine v_goto (tgt := 4) K dX7_worth_479 (by decide) ?_
            exact v_sub [3, 4, 5, 0] rfl (ih_1 l2 x73 σ hM)
          · refine v_goto (tgt := 476) K dX7_worth_28 (by decide) ?_
            refine v_iinc K dX7_worth_476 3 rfl (v := (l3 + (1 : Int32))) rfl (by decide) hM (fun y => [(3, .int y), (0, .ref (ad b0)), (1, .ref (ad 12)), (2, .int l2)]) (fun _ => rfl) (fun x74 hM => ?_)
            refine v_goto (tgt := 4) K dX7_worth_479 (by decide) ?_
            exact v_sub [1, 2, 3, 0] rfl (ih_1 l2 x74 σ hM)
set_option maxHeartbeats 4000000 in
set_option maxRecDepth 20000 in
theorem c_X7_worth (l : Launch) {D : va_G} {A : Nat → Prop} {ad : Nat → Nat} {dA : Nat → ClassId} (b0 : Nat) (hb0 : isL b0) (n : Nat)  (σ : St) {res : Int32 × St} (hM : F_X7_worth n b0 σ = some res) : MI l yX7_worth cX7_worth 6 (some .int) 1 D (tysX dA) (wdX ad dA) A [.ref (ad b0), .ref (ad 12)] σ (QI D (wdX ad dA) A res) := by
  refine mk_met (by decide +kernel) (Nat.le_of_ble_eq_true rfl) (fun p e s m below meth c K => ?_)
  have K : Cx p s m _ meth c cX7_worth 6 (some .int) RX7 D (tysX dA) (wdX ad dA) A := K
  have ih_1 := t_X7_worth l b0 hb0  K (res := res) n (below := below) (e := e)
  refine v_iconst (v := (0 : Int32)) K dX7_worth_0 (by decide) ?_
  refine v_istore_n K dX7_worth_1 rfl (by decide) [(2, .int (0 : Int32)), (0, .ref (ad b0)), (1, .ref (ad 12))] rfl ?_
  refine v_iconst (v := (0 : Int32)) K dX7_worth_2 (by decide) ?_
  refine v_istore_n K dX7_worth_3 rfl (by decide) [(3, .int (0 : Int32)), (2, .int (0 : Int32)), (0, .ref (ad b0)), (1, .ref (ad 12))] rfl ?_
  exact v_sub [2, 3, 1, 0] rfl (ih_1 (0 : Int32) (0 : Int32) σ hM)
noncomputable def F_X6_size (n : Nat)  (σ : St) : Option (Int32 × St) := some ((gI σ 4 1), σ)
set_option maxHeartbeats 4000000 in
set_option maxRecDepth 20000 in
theorem c_X6_size (l : Launch) {D : va_G} {A : Nat → Prop} {ad : Nat → Nat} {dA : Nat → ClassId}  (n : Nat)  (σ : St) {res : Int32 × St} (hM : F_X6_size n  σ = some res) : MI l yX6_size cX6_size 1 (some .int) 1 D (tysX dA) (wdX ad dA) A [.ref (ad 4)] σ (QI D (wdX ad dA) A res) := by
  refine mk_met (by decide +kernel) (Nat.le_of_ble_eq_true rfl) (fun p e s m below meth c K => ?_)
  have K : Cx p s m _ meth c cX6_size 1 (some .int) RX6 D (tysX dA) (wdX ad dA) A := K
  refine v_aload_n K dX6_size_0 0 rfl ?_
  refine g_X6_1 K qf_X6_15 dX6_size_1 ?_
  exact v_iret K rfl dX6_size_4 hM
noncomputable def F_X6_allows (n : Nat) (p0 : Int32) (p1 : Int32) (σ : St) : Option (Int32 × St) := if p0 < 0 then (some ((0 : Int32), σ)) else (if (4 : Int32) ≤ p0 then (some ((0 : Int32), σ)) else (if p1 < 0 then (some ((0 : Int32), σ)) else (gd (vp_in p0 4) (if (st_hi (p0).toNatClampNeg) < p1 then (some ((0 : Int32), σ)) else (some ((1 : Int32), σ))))))
set_option maxHeartbeats 4000000 in
set_option maxRecDepth 20000 in
theorem c_X6_allows (l : Launch) {D : va_G} {A : Nat → Prop} {ad : Nat → Nat} {dA : Nat → ClassId}  (n : Nat) (p0 : Int32) (p1 : Int32) (σ : St) {res : Int32 × St} (hM : F_X6_allows n p0 p1 σ = some res) : MI l yX6_allows cX6_allows 2 (some .boolean) 1 D (tysX dA) (wdX ad dA) A [.int p0, .int p1] σ (QI D (wdX ad dA) A res) := by
  refine mk_met (by decide +kernel) (Nat.le_of_ble_eq_true rfl) (fun p e s m below meth c K => ?_)
  have K : Cx p s m _ meth c cX6_allows 2 (some .boolean) RX6 D (tysX dA) (wdX ad dA) A := K
  refine v_iload_n K dX6_allows_0 0 rfl ?_
  refine v_if_lt K 26 dX6_allows_1 (by decide) hM (fun hM => ?_) (fun hM => ?_)
  · refine v_iconst (v := (0 : Int32)) K dX6_allows_26 (by decide) ?_
    exact v_zret K rfl rfl dX6_allows_27 hM
  · refine v_iload_n K dX6_allows_4 0 rfl ?_
    refine v_iconst (v := (4 : Int32)) K dX6_allows_5 (by decide) ?_
    refine v_icmp_ge K 26 dX6_allows_6 (by decide) hM (fun hM => ?_) (fun hM => ?_)
    · refine v_iconst (v := (0 : Int32)) K dX6_allows_26 (by decide) ?_
      exact v_zret K rfl rfl dX6_allows_27 hM
    · refine v_iload_n K dX6_allows_9 1 rfl ?_
      refine v_if_lt K 26 dX6_allows_10 (by decide) hM (fun hM => ?_) (fun hM => ?_)
      · refine v_iconst (v := (0 : Int32)) K dX6_allows_26 (by decide) ?_
        exact v_zret K rfl rfl dX6_allows_27 hM
      · refine v_iload_n K dX6_allows_13 1 rfl ?_
        refine x_gs_hi K qf_X6_34 dX6_allows_14 (fun t1 ht1 => ?_)
        refine v_iload_n K dX6_allows_17 0 rfl ?_
        refine x_ti K ht1 dX6_allows_18 hM (fun hM => ?_)
        refine v_icmp_gt K 26 dX6_allows_19 (by decide) hM (fun hM => ?_) (fun hM => ?_)
        · refine v_iconst (v := (0 : Int32)) K dX6_allows_26 (by decide) ?_
          exact v_zret K rfl rfl dX6_allows_27 hM
        · refine v_iconst (v := (1 : Int32)) K dX6_allows_22 (by decide) ?_
          refine v_goto (tgt := 27) K dX6_allows_23 (by decide) ?_
          exact v_zret K rfl rfl dX6_allows_27 hM
noncomputable def F_X6_isFull (n : Nat)  (σ : St) : Option (Int32 × St) := if (gI σ 4 1) < (7 : Int32) then (some ((0 : Int32), σ)) else (some ((1 : Int32), σ))
set_option maxHeartbeats 4000000 in
set_option maxRecDepth 20000 in
theorem c_X6_isFull (l : Launch) {D : va_G} {A : Nat → Prop} {ad : Nat → Nat} {dA : Nat → ClassId}  (n : Nat)  (σ : St) {res : Int32 × St} (hM : F_X6_isFull n  σ = some res) : MI l yX6_isFull cX6_isFull 1 (some .boolean) 1 D (tysX dA) (wdX ad dA) A [.ref (ad 4)] σ (QI D (wdX ad dA) A res) := by
  refine mk_met (by decide +kernel) (Nat.le_of_ble_eq_true rfl) (fun p e s m below meth c K => ?_)
  have K : Cx p s m _ meth c cX6_isFull 1 (some .boolean) RX6 D (tysX dA) (wdX ad dA) A := K
  refine v_aload_n K dX6_isFull_0 0 rfl ?_
  refine g_X6_1 K qf_X6_15 dX6_isFull_1 ?_
  refine v_bipush (v := (7 : Int32)) K dX6_isFull_4 (by decide) ?_
  refine v_icmp_lt K 13 dX6_isFull_6 (by decide) hM (fun hM => ?_) (fun hM => ?_)
  · refine v_iconst (v := (0 : Int32)) K dX6_isFull_13 (by decide) ?_
    exact v_zret K rfl rfl dX6_isFull_14 hM
  · refine v_iconst (v := (1 : Int32)) K dX6_isFull_9 (by decide) ?_
    refine v_goto (tgt := 14) K dX6_isFull_10 (by decide) ?_
    exact v_zret K rfl rfl dX6_isFull_14 hM
noncomputable def F_X6_add (n : Nat) (p1 : Int32) (p2 : Int32) (p3 : Int32) (σ : St) : Option (Int32 × St) := bnd ((4 : Int32) * (gI σ 4 1)) fun x1 => gd (vp_in (x1 + (0 : Int32)) 28) (bnd (sI σ 5 ((x1 + (0 : Int32))).toNatClampNeg p1) fun s2 => gd (vp_in (x1 + (1 : Int32)) 28) (bnd (sI s2 5 ((x1 + (1 : Int32))).toNatClampNeg p2) fun s3 => gd (vp_in (x1 + (2 : Int32)) 28) (bnd (sI s3 5 ((x1 + (2 : Int32))).toNatClampNeg p3) fun s4 => gd (vp_in (x1 + (3 : Int32)) 28) (bnd (sI s4 5 ((x1 + (3 : Int32))).toNatClampNeg (5 : Int32)) fun s5 => bnd (sI s5 4 1 ((gI s5 4 1) + (1 : Int32))) fun s6 => some (((gI s6 4 1) - (1 : Int32)), s6)))))
set_option maxHeartbeats 4000000 in
set_option maxRecDepth 20000 in
theorem c_X6_add (l : Launch) {D : va_G} {A : Nat → Prop} {ad : Nat → Nat} {dA : Nat → ClassId}  (n : Nat) (p1 : Int32) (p2 : Int32) (p3 : Int32) (σ : St) {res : Int32 × St} (hM : F_X6_add n p1 p2 p3 σ = some res) : MI l yX6_add cX6_add 5 (some .int) 1 D (tysX dA) (wdX ad dA) A [.ref (ad 4), .int p1, .int p2, .int p3] σ (QI D (wdX ad dA) A res) := by
  refine mk_met (by decide +kernel) (Nat.le_of_ble_eq_true rfl) (fun p e s m below meth c K => ?_)
  have K : Cx p s m _ meth c cX6_add 5 (some .int) RX6 D (tysX dA) (wdX ad dA) A := K
  refine v_iconst (v := (4 : Int32)) K dX6_add_0 (by decide) ?_
  refine v_aload_n K dX6_add_1 0 rfl ?_
  refine g_X6_1 K qf_X6_15 dX6_add_2 ?_
  refine v_imul K dX6_add_5 ?_
  refine v_topi hM (fun x1 hM => ?_)
  refine v_istore K dX6_add_6 (by decide) [(4, .int x1), (0, .ref (ad 4)), (1, .int p1), (2, .int p2), (3, .int p3)] rfl ?_
  refine v_aload_n K dX6_add_8 1 rfl ?_
  refine g_X6_0 K qf_X6_11 dX6_add_9 ?_
  refine v_iload K dX6_add_12 0 rfl ?_
  refine v_iconst (v := (0 : Int32)) K dX6_add_14 (by decide) ?_
  refine v_iadd K dX6_add_15 ?_
  refine v_iload_n K dX6_add_16 2 rfl ?_
  refine st_X5 K dX6_add_17 hM (fun s2 hM => ?_)
  refine v_aload_n K dX6_add_18 1 rfl ?_
  refine g_X6_0 K qf_X6_11 dX6_add_19 ?_
  refine v_iload K dX6_add_22 0 rfl ?_
  refine v_iconst (v := (1 : Int32)) K dX6_add_24 (by decide) ?_
  refine v_iadd K dX6_add_25 ?_
  refine v_iload_n K dX6_add_26 3 rfl ?_
  refine st_X5 K dX6_add_27 hM (fun s3 hM => ?_)
  refine v_aload_n K dX6_add_28 1 rfl ?_
  refine g_X6_0 K qf_X6_11 dX6_add_29 ?_
  refine v_iload K dX6_add_32 0 rfl ?_
  refine v_iconst (v := (2 : Int32)) K dX6_add_34 (by decide) ?_
  refine v_iadd K dX6_add_35 ?_
  refine v_iload_n K dX6_add_36 4 rfl ?_
  refine st_X5 K dX6_add_37 hM (fun s4 hM => ?_)
  refine v_aload_n K dX6_add_38 1 rfl ?_
  refine g_X6_0 K qf_X6_11 dX6_add_39 ?_
  refine v_iload K dX6_add_42 0 rfl ?_
  refine v_iconst (v := (3 : Int32)) K dX6_add_44 (by decide) ?_
  refine v_iadd K dX6_add_45 ?_
  refine v_iconst (v := (5 : Int32)) K dX6_add_46 (by decide) ?_
  refine st_X5 K dX6_add_47 hM (fun s5 hM => ?_)
  refine v_aload_n K dX6_add_48 1 rfl ?_
  refine v_dup K dX6_add_49 rfl ?_
  refine g_X6_1 K qf_X6_15 dX6_add_50 ?_
  refine v_iconst (v := (1 : Int32)) K dX6_add_53 (by decide) ?_
  refine v_iadd K dX6_add_54 ?_
  refine p_X6_1 K qf_X6_15 dX6_add_55 hM (fun s6 hM => ?_)
  refine v_aload_n K dX6_add_58 1 rfl ?_
  refine g_X6_1 K qf_X6_15 dX6_add_59 ?_
  refine v_iconst (v := (1 : Int32)) K dX6_add_62 (by decide) ?_
  refine v_isub K dX6_add_63 ?_
  exact v_iret K rfl dX6_add_64 hM
noncomputable def F_X6_welcome (n : Nat) (p1 : Int32) (p2 : Int32) (σ : St) : Option (Int32 × St) := bd (F_X6_isFull n  σ) fun r2 s1 => if r2 = 0 then (bd (F_X6_add n p1 p2 (gI s1 4 1) s1) fun r4 s3 => some (r4, s3)) else (some ((-3 : Int32), s1))
set_option maxHeartbeats 4000000 in
set_option maxRecDepth 20000 in
theorem c_X6_welcome (l : Launch) {D : va_G} {A : Nat → Prop} {ad : Nat → Nat} {dA : Nat → ClassId}  (n : Nat) (p1 : Int32) (p2 : Int32) (σ : St) {res : Int32 × St} (hM : F_X6_welcome n p1 p2 σ = some res) : MI l yX6_welcome cX6_welcome 3 (some .int) 2 D (tysX dA) (wdX ad dA) A [.ref (ad 4), .int p1, .int p2] σ (QI D (wdX ad dA) A res) := by
  refine mk_met (by decide +kernel) (Nat.le_of_ble_eq_true rfl) (fun p e s m below meth c K => ?_)
  have K : Cx p s m _ meth c cX6_welcome 3 (some .int) RX6 D (tysX dA) (wdX ad dA) A := K
  refine v_aload_n K dX6_welcome_0 0 rfl ?_
  refine x_Vi (As := []) (st := []) K uv_X6_isFull qm_X6_41 dX6_welcome_1 rv_X6 (fun _ h => c_X6_isFull l  n  σ h) rfl ⟨(Nat.le_of_ble_eq_true rfl), (Nat.le_of_ble_eq_true rfl)⟩ (Nat.le_of_ble_eq_true rfl) hM (fun r2 s1 hM => ?_)
  refine v_if_eq K 12 dX6_welcome_4 (by decide) hM (fun hM => ?_) (fun hM => ?_)
  · refine v_aload_n K dX6_welcome_12 0 rfl ?_
    refine v_iload_n K dX6_welcome_13 1 rfl ?_
    refine v_iload_n K dX6_welcome_14 2 rfl ?_
    refine v_aload_n K dX6_welcome_15 0 rfl ?_
    refine g_X6_1 K qf_X6_15 dX6_welcome_16 ?_
    refine x_Vi (As := [.int p1, .int p2, .int (gI s1 4 1)]) (st := []) K uv_X6_add qm_X6_45 dX6_welcome_19 rv_X6 (fun _ h => c_X6_add l  n p1 p2 (gI s1 4 1) s1 h) rfl ⟨(Nat.le_of_ble_eq_true rfl), (Nat.le_of_ble_eq_true rfl)⟩ (Nat.le_of_ble_eq_true rfl) hM (fun r4 s3 hM => ?_)
    exact v_iret K rfl dX6_welcome_22 hM
  · refine v_bipush (v := (-3 : Int32)) K dX6_welcome_7 (by decide) ?_
    refine v_goto (tgt := 22) K dX6_welcome_9 (by decide) ?_
    exact v_iret K rfl dX6_welcome_22 hM
noncomputable def F_X6_welcomeFrom (n : Nat) (b1 : Nat) (p2 : Int64) (σ : St) : Option (Int32 × St) := bd (F_X6_isFull n  σ) fun r2 s1 => if r2 = 0 then (if (lg_cmp p2 (0 : Int64)) < 0 then (some ((0 : Int32), s1)) else (bd (F_X10_size n b1 s1) fun r4 s3 => if (lg_cmp (p2 + (3 : Int64)) ((r4).toInt64)) ≤ 0 then (bnd ((p2).toInt32) fun x5 => bd (F_X10_getInt n b1 x5 s3) fun r7 s6 => bd (F_X10_getInt n b1 (x5 + (1 : Int32)) s6) fun r9 s8 => bd (F_X10_getInt n b1 (x5 + (2 : Int32)) s8) fun r11 s10 => bd (F_X6_allows n (0 : Int32) r7 s10) fun r13 s12 => if r13 = 0 then (some ((0 : Int32), s12)) else (bd (F_X6_allows n (1 : Int32) r9 s12) fun r15 s14 => if r15 = 0 then (some ((0 : Int32), s14)) else (bd (F_X6_allows n (2 : Int32) r11 s14) fun r17 s16 => if r17 = 0 then (some ((0 : Int32), s16)) else (bd (F_X6_add n r7 r9 r11 s16) fun r19 s18 => some ((1 : Int32), s18))))) else (some ((0 : Int32), s3)))) else (some ((0 : Int32), s1))
set_option maxHeartbeats 4000000 in
set_option maxRecDepth 20000 in
theorem c_X6_welcomeFrom (l : Launch) {D : va_G} {A : Nat → Prop} {ad : Nat → Nat} {dA : Nat → ClassId} (b1 : Nat) (hb1 : isS b1) (n : Nat) (p2 : Int64) (σ : St) {res : Int32 × St} (hM : F_X6_welcomeFrom n b1 p2 σ = some res) : MI l yX6_welcomeFrom cX6_welcomeFrom 8 (some .boolean) 3 D (tysX dA) (wdX ad dA) A [.ref (ad 4), .ref (ad b1), .long p2] σ (QI D (wdX ad dA) A res) := by
  refine mk_met (by decide +kernel) (Nat.le_of_ble_eq_true rfl) (fun p e s m below meth c K => ?_)
  have K : Cx p s m _ meth c cX6_welcomeFrom 8 (some .boolean) RX6 D (tysX dA) (wdX ad dA) A := K
  refine v_aload_n K dX6_welcomeFrom_0 0 rfl ?_
  refine x_Vi (As := []) (st := []) K uv_X6_isFull qm_X6_41 dX6_welcomeFrom_1 rv_X6 (fun _ h => c_X6_isFull l  n  σ h) rfl ⟨(Nat.le_of_ble_eq_true rfl), (Nat.le_of_ble_eq_true rfl)⟩ (Nat.le_of_ble_eq_true rfl) hM (fun r2 s1 hM => ?_)
  refine v_if_ne K 27 dX6_welcomeFrom_4 (by decide) hM (fun hM => ?_) (fun hM => ?_)
  · refine v_iconst (v := (0 : Int32)) K dX6_welcomeFrom_27 (by decide) ?_
    exact v_zret K rfl rfl dX6_welcomeFrom_28 hM
  · refine v_lload_n K dX6_welcomeFrom_7 2 rfl ?_
    refine v_lconst (v := (0 : Int64)) K dX6_welcomeFrom_8 (by decide) ?_
    refine v_lcmp K dX6_welcomeFrom_9 ?_
    refine v_if_lt K 27 dX6_welcomeFrom_10 (by decide) hM (fun hM => ?_) (fun hM => ?_)
    · refine v_iconst (v := (0 : Int32)) K dX6_welcomeFrom_27 (by decide) ?_
      exact v_zret K rfl rfl dX6_welcomeFrom_28 hM
    · refine v_lload_n K dX6_welcomeFrom_13 2 rfl ?_
      refine v_ldc2 (v := (3 : Int64)) K ql_X6_49 dX6_welcomeFrom_14 ?_
      refine v_ladd K dX6_welcomeFrom_17 ?_
      refine v_aload_n K dX6_welcomeFrom_18 1 rfl ?_
      refine x_Vi (As := []) (st := [.long (p2 + (3 : Int64))]) K uv_X10_size qm_X6_51 dX6_welcomeFrom_19 (rv_X10 hb1) (fun _ h => c_X10_size l b1 hb1 n  s1 h) rfl ⟨(Nat.le_of_ble_eq_true rfl), (Nat.le_of_ble_eq_true rfl)⟩ (Nat.le_of_ble_eq_true rfl) hM (fun r4 s3 hM => ?_)
      refine v_i2l K dX6_welcomeFrom_22 ?_
      refine v_lcmp K dX6_welcomeFrom_23 ?_
      refine v_if_le K 29 dX6_welcomeFrom_24 (by decide) hM (fun hM => ?_) (fun hM => ?_)
      · refine v_lload_n K dX6_welcomeFrom_29 2 rfl ?_
        refine v_l2i K dX6_welcomeFrom_30 ?_
        refine v_topi hM (fun x5 hM => ?_)
        refine v_istore K dX6_welcomeFrom_31 (by decide) [(4, .int x5), (0, .ref (ad 4)), (1, .ref (ad b1)), (2, .long p2)] rfl ?_
        refine v_aload_n K dX6_welcomeFrom_33 2 rfl ?_
        refine v_iload K dX6_welcomeFrom_34 0 rfl ?_
        refine x_Vi (As := [.int x5]) (st := []) K uv_X10_getInt qm_X6_56 dX6_welcomeFrom_36 (rv_X10 hb1) (fun _ h => c_X10_getInt l b1 hb1 n x5 s3 h) rfl ⟨(Nat.le_of_ble_eq_true rfl), (Nat.le_of_ble_eq_true rfl)⟩ (Nat.le_of_ble_eq_true rfl) hM (fun r7 s6 hM => ?_)
        refine v_istore K dX6_welcomeFrom_39 (by decide) [(5, .int r7), (4, .int x5), (0, .ref (ad 4)), (1, .ref (ad b1)), (2, .long p2)] rfl ?_
        refine v_aload_n K dX6_welcomeFrom_41 3 rfl ?_
        refine v_iload K dX6_welcomeFrom_42 1 rfl ?_
        refine v_iconst (v := (1 : Int32)) K dX6_welcomeFrom_44 (by decide) ?_
        refine v_iadd K dX6_welcomeFrom_45 ?_
        refine x_Vi (As := [.int (x5 + (1 : Int32))]) (st := []) K uv_X10_getInt qm_X6_56 dX6_welcomeFrom_46 (rv_X10 hb1) (fun _ h => c_X10_getInt l b1 hb1 n (x5 + (1 : Int32)) s6 h) rfl ⟨(Nat.le_of_ble_eq_true rfl), (Nat.le_of_ble_eq_true rfl)⟩ (Nat.le_of_ble_eq_true rfl) hM (fun r9 s8 hM => ?_)
        refine v_istore K dX6_welcomeFrom_49 (by decide) [(6, .int r9), (5, .int r7), (4, .int x5), (0, .ref (ad 4)), (1, .ref (ad b1)), (2, .long p2)] rfl ?_
        refine v_aload_n K dX6_welcomeFrom_51 4 rfl ?_
        refine v_iload K dX6_welcomeFrom_52 2 rfl ?_
        refine v_iconst (v := (2 : Int32)) K dX6_welcomeFrom_54 (by decide) ?_
        refine v_iadd K dX6_welcomeFrom_55 ?_
        refine x_Vi (As := [.int (x5 + (2 : Int32))]) (st := []) K uv_X10_getInt qm_X6_56 dX6_welcomeFrom_56 (rv_X10 hb1) (fun _ h => c_X10_getInt l b1 hb1 n (x5 + (2 : Int32)) s8 h) rfl ⟨(Nat.le_of_ble_eq_true rfl), (Nat.le_of_ble_eq_true rfl)⟩ (Nat.le_of_ble_eq_true rfl) hM (fun r11 s10 hM => ?_)
        refine v_istore K dX6_welcomeFrom_59 (by decide) [(7, .int r11), (6, .int r9), (5, .int r7), (4, .int x5), (0, .ref (ad 4)), (1, .ref (ad b1)), (2, .long p2)] rfl ?_
        refine v_iconst (v := (0 : Int32)) K dX6_welcomeFrom_61 (by decide) ?_
        refine v_iload K dX6_welcomeFrom_62 2 rfl ?_
        refine x_Si (As := [.int (0 : Int32), .int r7]) (st := []) K us_X6_allows qm_X6_60 dX6_welcomeFrom_64 (fun _ h => c_X6_allows l  n (0 : Int32) r7 s10 h) rfl ⟨(Nat.le_of_ble_eq_true rfl), (Nat.le_of_ble_eq_true rfl)⟩ (Nat.le_of_ble_eq_true rfl) hM (fun r13 s12 hM => ?_)
        refine v_if_eq K 88 dX6_welcomeFrom_67 (by decide) hM (fun hM => ?_) (fun hM => ?_)
        · refine v_iconst (v := (0 : Int32)) K dX6_welcomeFrom_88 (by decide) ?_
          exact v_zret K rfl rfl dX6_welcomeFrom_89 hM
        · refine v_iconst (v := (1 : Int32)) K dX6_welcomeFrom_70 (by decide) ?_
          refine v_iload K dX6_welcomeFrom_71 1 rfl ?_
          refine x_Si (As := [.int (1 : Int32), .int r9]) (st := []) K us_X6_allows qm_X6_60 dX6_welcomeFrom_73 (fun _ h => c_X6_allows l  n (1 : Int32) r9 s12 h) rfl ⟨(Nat.le_of_ble_eq_true rfl), (Nat.le_of_ble_eq_true rfl)⟩ (Nat.le_of_ble_eq_true rfl) hM (fun r15 s14 hM => ?_)
          refine v_if_eq K 88 dX6_welcomeFrom_76 (by decide) hM (fun hM => ?_) (fun hM => ?_)
          · refine v_iconst (v := (0 : Int32)) K dX6_welcomeFrom_88 (by decide) ?_
            exact v_zret K rfl rfl dX6_welcomeFrom_89 hM
          · refine v_iconst (v := (2 : Int32)) K dX6_welcomeFrom_79 (by decide) ?_
            refine v_iload K dX6_welcomeFrom_80 0 rfl ?_
            refine x_Si (As := [.int (2 : Int32), .int r11]) (st := []) K us_X6_allows qm_X6_60 dX6_welcomeFrom_82 (fun _ h => c_X6_allows l  n (2 : Int32) r11 s14 h) rfl ⟨(Nat.le_of_ble_eq_true rfl), (Nat.le_of_ble_eq_true rfl)⟩ (Nat.le_of_ble_eq_true rfl) hM (fun r17 s16 hM => ?_)
            refine v_if_ne K 90 dX6_welcomeFrom_85 (by decide) hM (fun hM => ?_) (fun hM => ?_)
            · refine v_aload_n K dX6_welcomeFrom_90 4 rfl ?_
              refine v_iload K dX6_welcomeFrom_91 2 rfl ?_
              refine v_iload K dX6_welcomeFrom_93 1 rfl ?_
              refine v_iload K dX6_welcomeFrom_95 0 rfl ?_
              refine x_Vi (As := [.int r7, .int r9, .int r11]) (st := []) K uv_X6_add qm_X6_45 dX6_welcomeFrom_97 rv_X6 (fun _ h => c_X6_add l  n r7 r9 r11 s16 h) rfl ⟨(Nat.le_of_ble_eq_true rfl), (Nat.le_of_ble_eq_true rfl)⟩ (Nat.le_of_ble_eq_true rfl) hM (fun r19 s18 hM => ?_)
              refine v_pop K dX6_welcomeFrom_100 rfl ?_
              refine v_iconst (v := (1 : Int32)) K dX6_welcomeFrom_101 (by decide) ?_
              exact v_zret K rfl rfl dX6_welcomeFrom_102 hM
            · refine v_iconst (v := (0 : Int32)) K dX6_welcomeFrom_88 (by decide) ?_
              exact v_zret K rfl rfl dX6_welcomeFrom_89 hM
      · refine v_iconst (v := (0 : Int32)) K dX6_welcomeFrom_27 (by decide) ?_
        exact v_zret K rfl rfl dX6_welcomeFrom_28 hM
noncomputable def F_X6_dropOldest (n : Nat) (b0 : Nat) (σ : St) : Option (Unit × St) := gd (¬ (1 : Int32) < 0 ∧ ¬ (0 : Int32) < 0 ∧ ¬ (39 : Int32) < 0 ∧ ((1 : Int32)).toNatClampNeg + ((39 : Int32)).toNatClampNeg ≤ 40 ∧ ((0 : Int32)).toNatClampNeg + ((39 : Int32)).toNatClampNeg ≤ 40 ∧ ∀ i, i < ((39 : Int32)).toNatClampNeg → fits .int (.int (gI σ b0 (((1 : Int32)).toNatClampNeg + i))) = true) (bnd (cI σ b0 b0 ((1 : Int32)).toNatClampNeg ((0 : Int32)).toNatClampNeg ((39 : Int32)).toNatClampNeg) fun s1 => some ((), s1))
set_option maxHeartbeats 4000000 in
set_option maxRecDepth 20000 in
theorem c_X6_dropOldest (l : Launch) {D : va_G} {A : Nat → Prop} {ad : Nat → Nat} {dA : Nat → ClassId} (b0 : Nat) (hb0 : is40 b0) (n : Nat)  (σ : St) {res : Unit × St} (hM : F_X6_dropOldest n b0 σ = some res) : MI l yX6_dropOldest cX6_dropOldest 1 none 1 D (tysX dA) (wdX ad dA) A [.ref (ad b0)] σ (QV D (wdX ad dA) A res) := by
  refine mk_met (by decide +kernel) (Nat.le_of_ble_eq_true rfl) (fun p e s m below meth c K => ?_)
  have K : Cx p s m _ meth c cX6_dropOldest 1 none RX6 D (tysX dA) (wdX ad dA) A := K
  refine v_aload_n K dX6_dropOldest_0 0 rfl ?_
  refine v_iconst (v := (1 : Int32)) K dX6_dropOldest_1 (by decide) ?_
  refine v_aload_n K dX6_dropOldest_2 0 rfl ?_
  refine v_iconst (v := (0 : Int32)) K dX6_dropOldest_3 (by decide) ?_
  refine v_bipush (v := (39 : Int32)) K dX6_dropOldest_4 (by decide) ?_
  refine cp_40 K hb0 qm_X6_76 dX6_dropOldest_6 (Nat.le_of_ble_eq_true rfl) (Nat.le_of_ble_eq_true rfl) hM (fun s1 hM => ?_)
  exact v_vret K rfl dX6_dropOldest_9 hM
noncomputable def B_X6_noteChange_1 (J : Nat → Int32 → Int32 → Int32 → St → Option (Unit × St)) (n : Nat)  (l1 : Int32) (l2 : Int32) (l3 : Int32) (σ : St) : Option (Unit × St) := gd (vp_in (gI σ 4 5) 40) (bnd (sI σ 6 ((gI σ 4 5)).toNatClampNeg l1) fun s5 => gd (vp_in (gI s5 4 5) 40) (bnd (sI s5 7 ((gI s5 4 5)).toNatClampNeg l2) fun s6 => gd (vp_in (gI s6 4 5) 40) (bnd (sI s6 8 ((gI s6 4 5)).toNatClampNeg l3) fun s7 => bnd (sI s7 4 5 ((gI s7 4 5) + (1 : Int32))) fun s8 => bnd (sI s8 4 6 (0 : Int32)) fun s9 => some ((), s9))))
noncomputable def S_X6_noteChange  (n : Nat) (J : Nat → Int32 → Int32 → Int32 → St → Option (Unit × St)) : Nat → Int32 → Int32 → Int32 → St → Option (Unit × St) := fun lb a0 a1 a2 σ => match lb with
  | 1 => B_X6_noteChange_1 J n  a0 a1 a2 σ
  | _ => none
noncomputable def L_X6_noteChange  (n : Nat) : Nat → Int32 → Int32 → Int32 → St → Option (Unit × St) := Nat.rec (fun _ _ _ _ _ => none) (fun n J => S_X6_noteChange  n J) n
noncomputable def F_X6_noteChange (n : Nat) (p1 : Int32) (p2 : Int32) (p3 : Int32) (σ : St) : Option (Unit × St) := if (gI σ 4 5) < (40 : Int32) then (L_X6_noteChange  n 1 p1 p2 p3 σ) else (bd (F_X6_dropOldest n 6 σ) fun _ s1 => bd (F_X6_dropOldest n 7 s1) fun _ s2 => bd (F_X6_dropOldest n 8 s2) fun _ s3 => bnd (sI s3 4 5 (39 : Int32)) fun s4 => L_X6_noteChange  n 1 p1 p2 p3 s4)
set_option maxHeartbeats 4000000 in
set_option maxRecDepth 20000 in
theorem t_X6_noteChange (l : Launch) {p : Program} {e : Env} {s : State} {m : MethodId} {args : Array Value} {below : List Frame} {meth : Method} {c : Code} {D : va_G} {A : Nat → Prop} {ad : Nat → Nat} {dA : Nat → ClassId}   (K : Cx p s m args meth c cX6_noteChange 4 none RX6 D (tysX dA) (wdX ad dA) A) {res : Unit × St} (n : Nat) : (∀ (l1 : Int32) (l2 : Int32) (l3 : Int32) (σ : St), L_X6_noteChange  n 1 l1 l2 l3 σ = some res → V p l e (rmH 2) s m args below meth c 4 D (wdX ad dA) A (MQ below (QV D (wdX ad dA) A res) args s 0 0 A) 36 [(0, .ref (ad 4)), (1, .int l1), (2, .int l2), (3, .int l3)] [] σ) := by
  induction n with
  | zero => exact (fun _ _ _ _ h => (by cases h))
  | succ n ih =>
    have ih_1 := ih
    · intro l1 l2 l3 σ hM
      have hM : B_X6_noteChange_1 (L_X6_noteChange  n) n  l1 l2 l3 σ = some res := hM
      refine v_aload_n K dX6_noteChange_36 0 rfl ?_
      refine g_X6_2 K qf_X6_19 dX6_noteChange_37 ?_
      refine v_aload_n K dX6_noteChange_40 0 rfl ?_
      refine g_X6_5 K qf_X6_28 dX6_noteChange_41 ?_
      refine v_iload_n K dX6_noteChange_44 1 rfl ?_
      refine st_X6 K dX6_noteChange_45 hM (fun s5 hM => ?_)
      refine v_aload_n K dX6_noteChange_46 0 rfl ?_
      refine g_X6_3 K qf_X6_22 dX6_noteChange_47 ?_
      refine v_aload_n K dX6_noteChange_50 0 rfl ?_
      refine g_X6_5 K qf_X6_28 dX6_noteChange_51 ?_
      refine v_iload_n K dX6_noteChange_54 2 rfl ?_
      refine st_X7 K dX6_noteChange_55 hM (fun s6 hM => ?_)
      refine v_aload_n K dX6_noteChange_56 0 rfl ?_
      refine g_X6_4 K qf_X6_25 dX6_noteChange_57 ?_
      refine v_aload_n K dX6_noteChange_60 0 rfl ?_
      refine g_X6_5 K qf_X6_28 dX6_noteChange_61 ?_
      refine v_iload_n K dX6_noteChange_64 3 rfl ?_
      refine st_X8 K dX6_noteChange_65 hM (fun s7 hM => ?_)
      refine v_aload_n K dX6_noteChange_66 0 rfl ?_
      refine v_dup K dX6_noteChange_67 rfl ?_
      refine g_X6_5 K qf_X6_28 dX6_noteChange_68 ?_
      refine v_iconst (v := (1 : Int32)) K dX6_noteChange_71 (by decide) ?_
      refine v_iadd K dX6_noteChange_72 ?_
      refine p_X6_5 K qf_X6_28 dX6_noteChange_73 hM (fun s8 hM => ?_)
      refine v_aload_n K dX6_noteChange_76 0 rfl ?_
      refine v_iconst (v := (0 : Int32)) K dX6_noteChange_77 (by decide) ?_
      refine p_X6_6 K qf_X6_31 dX6_noteChange_78 hM (fun s9 hM => ?_)
      exact v_vret K rfl dX6_noteChange_81 hM
set_option maxHeartbeats 4000000 in
set_option maxRecDepth 20000 in
theorem c_X6_noteChange (l : Launch) {D : va_G} {A : Nat → Prop} {ad : Nat → Nat} {dA : Nat → ClassId}  (n : Nat) (p1 : Int32) (p2 : Int32) (p3 : Int32) (σ : St) {res : Unit × St} (hM : F_X6_noteChange n p1 p2 p3 σ = some res) : MI l yX6_noteChange cX6_noteChange 4 none 2 D (tysX dA) (wdX ad dA) A [.ref (ad 4), .int p1, .int p2, .int p3] σ (QV D (wdX ad dA) A res) := by
  refine mk_met (by decide +kernel) (Nat.le_of_ble_eq_true rfl) (fun p e s m below meth c K => ?_)
  have K : Cx p s m _ meth c cX6_noteChange 4 none RX6 D (tysX dA) (wdX ad dA) A := K
  have ih_1 := t_X6_noteChange l    K (res := res) n (below := below) (e := e)
  refine v_aload_n K dX6_noteChange_0 0 rfl ?_
  refine g_X6_5 K qf_X6_28 dX6_noteChange_1 ?_
  refine v_bipush (v := (40 : Int32)) K dX6_noteChange_4 (by decide) ?_
  refine v_icmp_lt K 36 dX6_noteChange_6 (by decide) hM (fun hM => ?_) (fun hM => ?_)
  · exact v_sub [0, 1, 2, 3] rfl (ih_1 p1 p2 p3 σ hM)
  · refine v_aload_n K dX6_noteChange_9 0 rfl ?_
    refine g_X6_2 K qf_X6_19 dX6_noteChange_10 ?_
    refine x_Sv (As := [.ref (ad 6)]) (st := []) K us_X6_dropOldest qm_X6_72 dX6_noteChange_13 (fun _ h => c_X6_dropOldest l 6 is40_6 n  σ h) rfl ⟨(Nat.le_of_ble_eq_true rfl), (Nat.le_of_ble_eq_true rfl)⟩ (Nat.le_of_ble_eq_true rfl) hM (fun s1 hM => ?_)
    refine v_aload_n K dX6_noteChange_16 0 rfl ?_
    refine g_X6_3 K qf_X6_22 dX6_noteChange_17 ?_
    refine x_Sv (As := [.ref (ad 7)]) (st := []) K us_X6_dropOldest qm_X6_72 dX6_noteChange_20 (fun _ h => c_X6_dropOldest l 7 is40_7 n  s1 h) rfl ⟨(Nat.le_of_ble_eq_true rfl), (Nat.le_of_ble_eq_true rfl)⟩ (Nat.le_of_ble_eq_true rfl) hM (fun s2 hM => ?_)
    refine v_aload_n K dX6_noteChange_23 0 rfl ?_
    refine g_X6_4 K qf_X6_25 dX6_noteChange_24 ?_
    refine x_Sv (As := [.ref (ad 8)]) (st := []) K us_X6_dropOldest qm_X6_72 dX6_noteChange_27 (fun _ h => c_X6_dropOldest l 8 is40_8 n  s2 h) rfl ⟨(Nat.le_of_ble_eq_true rfl), (Nat.le_of_ble_eq_true rfl)⟩ (Nat.le_of_ble_eq_true rfl) hM (fun s3 hM => ?_)
    refine v_aload_n K dX6_noteChange_30 0 rfl ?_
    refine v_bipush (v := (39 : Int32)) K dX6_noteChange_31 (by decide) ?_
    refine p_X6_5 K qf_X6_28 dX6_noteChange_33 hM (fun s4 hM => ?_)
    exact v_sub [0, 1, 2, 3] rfl (ih_1 p1 p2 p3 s4 hM)
noncomputable def F_X6_change (n : Nat) (p1 : Int32) (p2 : Int32) (p3 : Int32) (σ : St) : Option (Int32 × St) := bd (F_X6_numberOf n p1 p2 σ) fun r2 s1 => bd (F_X6_has n p1 s1) fun r4 s3 => if r4 = 0 then (some (r2, s3)) else (bd (F_X6_allows n p2 p3 s3) fun r6 s5 => if r6 = 0 then (some (r2, s5)) else (if p3 = r2 then (some (r2, s5)) else (bd (F_X6_noteChange n (((4 : Int32) * p1) + p2) r2 p3 s5) fun _ s7 => gd (vp_in (((4 : Int32) * p1) + p2) 28) (bnd (sI s7 5 ((((4 : Int32) * p1) + p2)).toNatClampNeg p3) fun s8 => some (r2, s8)))))
set_option maxHeartbeats 4000000 in
set_option maxRecDepth 20000 in
theorem c_X6_change (l : Launch) {D : va_G} {A : Nat → Prop} {ad : Nat → Nat} {dA : Nat → ClassId}  (n : Nat) (p1 : Int32) (p2 : Int32) (p3 : Int32) (σ : St) {res : Int32 × St} (hM : F_X6_change n p1 p2 p3 σ = some res) : MI l yX6_change cX6_change 5 (some .int) 3 D (tysX dA) (wdX ad dA) A [.ref (ad 4), .int p1, .int p2, .int p3] σ (QI D (wdX ad dA) A res) := by
  refine mk_met (by decide +kernel) (Nat.le_of_ble_eq_true rfl) (fun p e s m below meth c K => ?_)
  have K : Cx p s m _ meth c cX6_change 5 (some .int) RX6 D (tysX dA) (wdX ad dA) A := K
  refine v_aload_n K dX6_change_0 0 rfl ?_
  refine v_iload_n K dX6_change_1 1 rfl ?_
  refine v_iload_n K dX6_change_2 2 rfl ?_
  refine x_Vi (As := [.int p1, .int p2]) (st := []) K uv_X6_numberOf qm_X6_64 dX6_change_3 rv_X6 (fun _ h => c_X6_numberOf l  n p1 p2 σ h) rfl ⟨(Nat.le_of_ble_eq_true rfl), (Nat.le_of_ble_eq_true rfl)⟩ (Nat.le_of_ble_eq_true rfl) hM (fun r2 s1 hM => ?_)
  refine v_istore K dX6_change_6 (by decide) [(4, .int r2), (0, .ref (ad 4)), (1, .int p1), (2, .int p2), (3, .int p3)] rfl ?_
  refine v_aload_n K dX6_change_8 1 rfl ?_
  refine v_iload_n K dX6_change_9 2 rfl ?_
  refine x_Vi (As := [.int p1]) (st := []) K uv_X6_has qm_X6_37 dX6_change_10 rv_X6 (fun _ h => c_X6_has l  n p1 s1 h) rfl ⟨(Nat.le_of_ble_eq_true rfl), (Nat.le_of_ble_eq_true rfl)⟩ (Nat.le_of_ble_eq_true rfl) hM (fun r4 s3 hM => ?_)
  refine v_if_eq K 53 dX6_change_13 (by decide) hM (fun hM => ?_) (fun hM => ?_)
  · refine v_iload K dX6_change_53 0 rfl ?_
    exact v_iret K rfl dX6_change_55 hM
  · refine v_iload_n K dX6_change_16 3 rfl ?_
    refine v_iload_n K dX6_change_17 4 rfl ?_
    refine x_Si (As := [.int p2, .int p3]) (st := []) K us_X6_allows qm_X6_60 dX6_change_18 (fun _ h => c_X6_allows l  n p2 p3 s3 h) rfl ⟨(Nat.le_of_ble_eq_true rfl), (Nat.le_of_ble_eq_true rfl)⟩ (Nat.le_of_ble_eq_true rfl) hM (fun r6 s5 hM => ?_)
    refine v_if_eq K 53 dX6_change_21 (by decide) hM (fun hM => ?_) (fun hM => ?_)
    · refine v_iload K dX6_change_53 0 rfl ?_
      exact v_iret K rfl dX6_change_55 hM
    · refine v_iload_n K dX6_change_24 4 rfl ?_
      refine v_iload K dX6_change_25 0 rfl ?_
      refine v_icmp_eq K 53 dX6_change_27 (by decide) hM (fun hM => ?_) (fun hM => ?_)
      · refine v_iload K dX6_change_53 0 rfl ?_
        exact v_iret K rfl dX6_change_55 hM
      · refine v_aload_n K dX6_change_30 1 rfl ?_
        refine v_iconst (v := (4 : Int32)) K dX6_change_31 (by decide) ?_
        refine v_iload_n K dX6_change_32 2 rfl ?_
        refine v_imul K dX6_change_33 ?_
        refine v_iload_n K dX6_change_34 3 rfl ?_
        refine v_iadd K dX6_change_35 ?_
        refine v_iload K dX6_change_36 0 rfl ?_
        refine v_iload_n K dX6_change_38 4 rfl ?_
        refine x_Vv (As := [.int (((4 : Int32) * p1) + p2), .int r2, .int p3]) (st := []) K uv_X6_noteChange qm_X6_68 dX6_change_39 rv_X6 (fun _ h => c_X6_noteChange l  n (((4 : Int32) * p1) + p2) r2 p3 s5 h) rfl ⟨(Nat.le_of_ble_eq_true rfl), (Nat.le_of_ble_eq_true rfl)⟩ (Nat.le_of_ble_eq_true rfl) hM (fun s7 hM => ?_)
        refine v_aload_n K dX6_change_42 1 rfl ?_
        refine g_X6_0 K qf_X6_11 dX6_change_43 ?_
        refine v_iconst (v := (4 : Int32)) K dX6_change_46 (by decide) ?_
        refine v_iload_n K dX6_change_47 2 rfl ?_
        refine v_imul K dX6_change_48 ?_
        refine v_iload_n K dX6_change_49 3 rfl ?_
        refine v_iadd K dX6_change_50 ?_
        refine v_iload_n K dX6_change_51 4 rfl ?_
        refine st_X5 K dX6_change_52 hM (fun s8 hM => ?_)
        refine v_iload K dX6_change_53 0 rfl ?_
        exact v_iret K rfl dX6_change_55 hM
noncomputable def F_X6_undoable (n : Nat)  (σ : St) : Option (Int32 × St) := some ((gI σ 4 5), σ)
set_option maxHeartbeats 4000000 in
set_option maxRecDepth 20000 in
theorem c_X6_undoable (l : Launch) {D : va_G} {A : Nat → Prop} {ad : Nat → Nat} {dA : Nat → ClassId}  (n : Nat)  (σ : St) {res : Int32 × St} (hM : F_X6_undoable n  σ = some res) : MI l yX6_undoable cX6_undoable 1 (some .int) 1 D (tysX dA) (wdX ad dA) A [.ref (ad 4)] σ (QI D (wdX ad dA) A res) := by
  refine mk_met (by decide +kernel) (Nat.le_of_ble_eq_true rfl) (fun p e s m below meth c K => ?_)
  have K : Cx p s m _ meth c cX6_undoable 1 (some .int) RX6 D (tysX dA) (wdX ad dA) A := K
  refine v_aload_n K dX6_undoable_0 0 rfl ?_
  refine g_X6_5 K qf_X6_28 dX6_undoable_1 ?_
  exact v_iret K rfl dX6_undoable_4 hM
noncomputable def F_X6_redoable (n : Nat)  (σ : St) : Option (Int32 × St) := some ((gI σ 4 6), σ)
set_option maxHeartbeats 4000000 in
set_option maxRecDepth 20000 in
theorem c_X6_redoable (l : Launch) {D : va_G} {A : Nat → Prop} {ad : Nat → Nat} {dA : Nat → ClassId}  (n : Nat)  (σ : St) {res : Int32 × St} (hM : F_X6_redoable n  σ = some res) : MI l yX6_redoable cX6_redoable 1 (some .int) 1 D (tysX dA) (wdX ad dA) A [.ref (ad 4)] σ (QI D (wdX ad dA) A res) := by
  refine mk_met (by decide +kernel) (Nat.le_of_ble_eq_true rfl) (fun p e s m below meth c K => ?_)
  have K : Cx p s m _ meth c cX6_redoable 1 (some .int) RX6 D (tysX dA) (wdX ad dA) A := K
  refine v_aload_n K dX6_redoable_0 0 rfl ?_
  refine g_X6_6 K qf_X6_31 dX6_redoable_1 ?_
  exact v_iret K rfl dX6_redoable_4 hM
noncomputable def F_X6_stepBack (n : Nat)  (σ : St) : Option (Int32 × St) := if (gI σ 4 5) ≤ 0 then (some ((gI σ 4 5), σ)) else (bnd (sI σ 4 5 ((gI σ 4 5) - (1 : Int32))) fun s1 => bnd (sI s1 4 6 ((gI s1 4 6) + (1 : Int32))) fun s2 => gd (vp_in (gI s2 4 5) 40) (gd (vp_in (gI s2 4 5) 40) (gd (vp_in (gI s2 6 ((gI s2 4 5)).toNatClampNeg) 28) (bnd (sI s2 5 ((gI s2 6 ((gI s2 4 5)).toNatClampNeg)).toNatClampNeg (gI s2 7 ((gI s2 4 5)).toNatClampNeg)) fun s3 => some ((gI s3 4 5), s3)))))
set_option maxHeartbeats 4000000 in
set_option maxRecDepth 20000 in
theorem c_X6_stepBack (l : Launch) {D : va_G} {A : Nat → Prop} {ad : Nat → Nat} {dA : Nat → ClassId}  (n : Nat)  (σ : St) {res : Int32 × St} (hM : F_X6_stepBack n  σ = some res) : MI l yX6_stepBack cX6_stepBack 1 (some .int) 1 D (tysX dA) (wdX ad dA) A [.ref (ad 4)] σ (QI D (wdX ad dA) A res) := by
  refine mk_met (by decide +kernel) (Nat.le_of_ble_eq_true rfl) (fun p e s m below meth c K => ?_)
  have K : Cx p s m _ meth c cX6_stepBack 1 (some .int) RX6 D (tysX dA) (wdX ad dA) A := K
  refine v_aload_n K dX6_stepBack_0 0 rfl ?_
  refine g_X6_5 K qf_X6_28 dX6_stepBack_1 ?_
  refine v_if_le K 50 dX6_stepBack_4 (by decide) hM (fun hM => ?_) (fun hM => ?_)
  · refine v_aload_n K dX6_stepBack_50 0 rfl ?_
    refine g_X6_5 K qf_X6_28 dX6_stepBack_51 ?_
    exact v_iret K rfl dX6_stepBack_54 hM
  · refine v_aload_n K dX6_stepBack_7 0 rfl ?_
    refine v_dup K dX6_stepBack_8 rfl ?_
    refine g_X6_5 K qf_X6_28 dX6_stepBack_9 ?_
    refine v_iconst (v := (1 : Int32)) K dX6_stepBack_12 (by decide) ?_
    refine v_isub K dX6_stepBack_13 ?_
    refine p_X6_5 K qf_X6_28 dX6_stepBack_14 hM (fun s1 hM => ?_)
    refine v_aload_n K dX6_stepBack_17 0 rfl ?_
    refine v_dup K dX6_stepBack_18 rfl ?_
    refine g_X6_6 K qf_X6_31 dX6_stepBack_19 ?_
    refine v_iconst (v := (1 : Int32)) K dX6_stepBack_22 (by decide) ?_
    refine v_iadd K dX6_stepBack_23 ?_
    refine p_X6_6 K qf_X6_31 dX6_stepBack_24 hM (fun s2 hM => ?_)
    refine v_aload_n K dX6_stepBack_27 0 rfl ?_
    refine g_X6_0 K qf_X6_11 dX6_stepBack_28 ?_
    refine v_aload_n K dX6_stepBack_31 0 rfl ?_
    refine g_X6_2 K qf_X6_19 dX6_stepBack_32 ?_
    refine v_aload_n K dX6_stepBack_35 0 rfl ?_
    refine g_X6_5 K qf_X6_28 dX6_stepBack_36 ?_
    refine ld_X6 K dX6_stepBack_39 hM (fun hM => ?_)
    refine v_aload_n K dX6_stepBack_40 0 rfl ?_
    refine g_X6_3 K qf_X6_22 dX6_stepBack_41 ?_
    refine v_aload_n K dX6_stepBack_44 0 rfl ?_
    refine g_X6_5 K qf_X6_28 dX6_stepBack_45 ?_
    refine ld_X7 K dX6_stepBack_48 hM (fun hM => ?_)
    refine st_X5 K dX6_stepBack_49 hM (fun s3 hM => ?_)
    refine v_aload_n K dX6_stepBack_50 0 rfl ?_
    refine g_X6_5 K qf_X6_28 dX6_stepBack_51 ?_
    exact v_iret K rfl dX6_stepBack_54 hM
noncomputable def F_X6_stepAgain (n : Nat)  (σ : St) : Option (Int32 × St) := if (gI σ 4 6) ≤ 0 then (some ((gI σ 4 6), σ)) else (if (40 : Int32) ≤ (gI σ 4 5) then (some ((gI σ 4 6), σ)) else (gd (vp_in (gI σ 4 5) 40) (gd (vp_in (gI σ 4 5) 40) (gd (vp_in (gI σ 6 ((gI σ 4 5)).toNatClampNeg) 28) (bnd (sI σ 5 ((gI σ 6 ((gI σ 4 5)).toNatClampNeg)).toNatClampNeg (gI σ 8 ((gI σ 4 5)).toNatClampNeg)) fun s1 => bnd (sI s1 4 5 ((gI s1 4 5) + (1 : Int32))) fun s2 => bnd (sI s2 4 6 ((gI s2 4 6) - (1 : Int32))) fun s3 => some ((gI s3 4 6), s3))))))
set_option maxHeartbeats 4000000 in
set_option maxRecDepth 20000 in
theorem c_X6_stepAgain (l : Launch) {D : va_G} {A : Nat → Prop} {ad : Nat → Nat} {dA : Nat → ClassId}  (n : Nat)  (σ : St) {res : Int32 × St} (hM : F_X6_stepAgain n  σ = some res) : MI l yX6_stepAgain cX6_stepAgain 1 (some .int) 1 D (tysX dA) (wdX ad dA) A [.ref (ad 4)] σ (QI D (wdX ad dA) A res) := by
  refine mk_met (by decide +kernel) (Nat.le_of_ble_eq_true rfl) (fun p e s m below meth c K => ?_)
  have K : Cx p s m _ meth c cX6_stepAgain 1 (some .int) RX6 D (tysX dA) (wdX ad dA) A := K
  refine v_aload_n K dX6_stepAgain_0 0 rfl ?_
  refine g_X6_6 K qf_X6_31 dX6_stepAgain_1 ?_
  refine v_if_le K 59 dX6_stepAgain_4 (by decide) hM (fun hM => ?_) (fun hM => ?_)
  · refine v_aload_n K dX6_stepAgain_59 0 rfl ?_
    refine g_X6_6 K qf_X6_31 dX6_stepAgain_60 ?_
    exact v_iret K rfl dX6_stepAgain_63 hM
  · refine v_aload_n K dX6_stepAgain_7 0 rfl ?_
    refine g_X6_5 K qf_X6_28 dX6_stepAgain_8 ?_
    refine v_bipush (v := (40 : Int32)) K dX6_stepAgain_11 (by decide) ?_
    refine v_icmp_ge K 59 dX6_stepAgain_13 (by decide) hM (fun hM => ?_) (fun hM => ?_)
    · refine v_aload_n K dX6_stepAgain_59 0 rfl ?_
      refine g_X6_6 K qf_X6_31 dX6_stepAgain_60 ?_
      exact v_iret K rfl dX6_stepAgain_63 hM
    · refine v_aload_n K dX6_stepAgain_16 0 rfl ?_
      refine g_X6_0 K qf_X6_11 dX6_stepAgain_17 ?_
      refine v_aload_n K dX6_stepAgain_20 0 rfl ?_
      refine g_X6_2 K qf_X6_19 dX6_stepAgain_21 ?_
      refine v_aload_n K dX6_stepAgain_24 0 rfl ?_
      refine g_X6_5 K qf_X6_28 dX6_stepAgain_25 ?_
      refine ld_X6 K dX6_stepAgain_28 hM (fun hM => ?_)
      refine v_aload_n K dX6_stepAgain_29 0 rfl ?_
      refine g_X6_4 K qf_X6_25 dX6_stepAgain_30 ?_
      refine v_aload_n K dX6_stepAgain_33 0 rfl ?_
      refine g_X6_5 K qf_X6_28 dX6_stepAgain_34 ?_
      refine ld_X8 K dX6_stepAgain_37 hM (fun hM => ?_)
      refine st_X5 K dX6_stepAgain_38 hM (fun s1 hM => ?_)
      refine v_aload_n K dX6_stepAgain_39 0 rfl ?_
      refine v_dup K dX6_stepAgain_40 rfl ?_
      refine g_X6_5 K qf_X6_28 dX6_stepAgain_41 ?_
      refine v_iconst (v := (1 : Int32)) K dX6_stepAgain_44 (by decide) ?_
      refine v_iadd K dX6_stepAgain_45 ?_
      refine p_X6_5 K qf_X6_28 dX6_stepAgain_46 hM (fun s2 hM => ?_)
      refine v_aload_n K dX6_stepAgain_49 0 rfl ?_
      refine v_dup K dX6_stepAgain_50 rfl ?_
      refine g_X6_6 K qf_X6_31 dX6_stepAgain_51 ?_
      refine v_iconst (v := (1 : Int32)) K dX6_stepAgain_54 (by decide) ?_
      refine v_isub K dX6_stepAgain_55 ?_
      refine p_X6_6 K qf_X6_31 dX6_stepAgain_56 hM (fun s3 hM => ?_)
      refine v_aload_n K dX6_stepAgain_59 0 rfl ?_
      refine g_X6_6 K qf_X6_31 dX6_stepAgain_60 ?_
      exact v_iret K rfl dX6_stepAgain_63 hM
noncomputable def F_X7_clear (n : Nat) (b0 : Nat) (σ : St) : Option (Unit × St) := bnd (sI σ b0 4 (0 : Int32)) fun s1 => some ((), s1)
set_option maxHeartbeats 4000000 in
set_option maxRecDepth 20000 in
theorem c_X7_clear (l : Launch) {D : va_G} {A : Nat → Prop} {ad : Nat → Nat} {dA : Nat → ClassId} (b0 : Nat) (hb0 : isL b0) (n : Nat)  (σ : St) {res : Unit × St} (hM : F_X7_clear n b0 σ = some res) : MI l yX7_clear cX7_clear 1 none 1 D (tysX dA) (wdX ad dA) A [.ref (ad b0)] σ (QV D (wdX ad dA) A res) := by
  refine mk_met (by decide +kernel) (Nat.le_of_ble_eq_true rfl) (fun p e s m below meth c K => ?_)
  have K : Cx p s m _ meth c cX7_clear 1 none RX7 D (tysX dA) (wdX ad dA) A := K
  refine v_aload_n K dX7_clear_0 0 rfl ?_
  refine v_iconst (v := (0 : Int32)) K dX7_clear_1 (by decide) ?_
  refine p_X7_4 K hb0 qf_X7_25 dX7_clear_2 hM (fun s1 hM => ?_)
  exact v_vret K rfl dX7_clear_5 hM
noncomputable def F_X7_append (n : Nat) (b0 : Nat) (p1 : Int32) (p2 : Int32) (p3 : Int32) (p4 : Int32) (σ : St) : Option (Int32 × St) := if (gI σ b0 4) < (242 : Int32) then (gd (vp_in (gI σ b0 4) 242) (bnd (sI σ (b0 + 1) ((gI σ b0 4)).toNatClampNeg (vp_nar .char p1)) fun s1 => gd (vp_in (gI s1 b0 4) 242) (bnd (sI s1 (b0 + 2) ((gI s1 b0 4)).toNatClampNeg p2) fun s2 => gd (vp_in (gI s2 b0 4) 242) (bnd (sI s2 (b0 + 3) ((gI s2 b0 4)).toNatClampNeg p3) fun s3 => gd (vp_in (gI s3 b0 4) 242) (bnd (sI s3 (b0 + 4) ((gI s3 b0 4)).toNatClampNeg p4) fun s4 => bnd (sI s4 b0 4 ((gI s4 b0 4) + (1 : Int32))) fun s5 => some (((gI s5 b0 4) - (1 : Int32)), s5)))))) else (some ((-1 : Int32), σ))
set_option maxHeartbeats 4000000 in
set_option maxRecDepth 20000 in
theorem c_X7_append (l : Launch) {D : va_G} {A : Nat → Prop} {ad : Nat → Nat} {dA : Nat → ClassId} (b0 : Nat) (hb0 : isL b0) (n : Nat) (p1 : Int32) (p2 : Int32) (p3 : Int32) (p4 : Int32) (σ : St) {res : Int32 × St} (hM : F_X7_append n b0 p1 p2 p3 p4 σ = some res) : MI l yX7_append cX7_append 5 (some .int) 1 D (tysX dA) (wdX ad dA) A [.ref (ad b0), .int p1, .int p2, .int p3, .int p4] σ (QI D (wdX ad dA) A res) := by
  refine mk_met (by decide +kernel) (Nat.le_of_ble_eq_true rfl) (fun p e s m below meth c K => ?_)
  have K : Cx p s m _ meth c cX7_append 5 (some .int) RX7 D (tysX dA) (wdX ad dA) A := K
  refine v_aload_n K dX7_append_0 0 rfl ?_
  refine g_X7_4 K hb0 qf_X7_25 dX7_append_1 ?_
  refine v_sipush (v := (242 : Int32)) K dX7_append_4 (by decide) ?_
  refine v_icmp_lt K 12 dX7_append_7 (by decide) hM (fun hM => ?_) (fun hM => ?_)
  · refine v_aload_n K dX7_append_12 0 rfl ?_
    refine g_X7_0 K hb0 qf_X7_11 dX7_append_13 ?_
    refine v_aload_n K dX7_append_16 0 rfl ?_
    refine g_X7_4 K hb0 qf_X7_25 dX7_append_17 ?_
    refine v_iload_n K dX7_append_20 1 rfl ?_
    refine st_X7a1 K hb0 dX7_append_21 hM (fun s1 hM => ?_)
    refine v_aload_n K dX7_append_22 0 rfl ?_
    refine g_X7_1 K hb0 qf_X7_15 dX7_append_23 ?_
    refine v_aload_n K dX7_append_26 0 rfl ?_
    refine g_X7_4 K hb0 qf_X7_25 dX7_append_27 ?_
    refine v_iload_n K dX7_append_30 2 rfl ?_
    refine st_X7a2 K hb0 dX7_append_31 hM (fun s2 hM => ?_)
    refine v_aload_n K dX7_append_32 0 rfl ?_
    refine g_X7_2 K hb0 qf_X7_19 dX7_append_33 ?_
    refine v_aload_n K dX7_append_36 0 rfl ?_
    refine g_X7_4 K hb0 qf_X7_25 dX7_append_37 ?_
    refine v_iload_n K dX7_append_40 3 rfl ?_
    refine st_X7a3 K hb0 dX7_append_41 hM (fun s3 hM => ?_)
    refine v_aload_n K dX7_append_42 0 rfl ?_
    refine g_X7_3 K hb0 qf_X7_22 dX7_append_43 ?_
    refine v_aload_n K dX7_append_46 0 rfl ?_
    refine g_X7_4 K hb0 qf_X7_25 dX7_append_47 ?_
    refine v_iload K dX7_append_50 4 rfl ?_
    refine st_X7a4 K hb0 dX7_append_52 hM (fun s4 hM => ?_)
    refine v_aload_n K dX7_append_53 0 rfl ?_
    refine v_dup K dX7_append_54 rfl ?_
    refine g_X7_4 K hb0 qf_X7_25 dX7_append_55 ?_
    refine v_iconst (v := (1 : Int32)) K dX7_append_58 (by decide) ?_
    refine v_iadd K dX7_append_59 ?_
    refine p_X7_4 K hb0 qf_X7_25 dX7_append_60 hM (fun s5 hM => ?_)
    refine v_aload_n K dX7_append_63 0 rfl ?_
    refine g_X7_4 K hb0 qf_X7_25 dX7_append_64 ?_
    refine v_iconst (v := (1 : Int32)) K dX7_append_67 (by decide) ?_
    refine v_isub K dX7_append_68 ?_
    exact v_iret K rfl dX7_append_69 hM
  · refine v_iconst (v := (-1 : Int32)) K dX7_append_10 (by decide) ?_
    exact v_iret K rfl dX7_append_11 hM
noncomputable def F_X7_add (n : Nat) (b0 : Nat) (p1 : Int32) (p2 : Int32) (p3 : Int32) (σ : St) : Option (Int32 × St) := if p2 < 0 then (some ((-1 : Int32), σ)) else (if (gI σ b0 4) ≤ p2 then (some ((-1 : Int32), σ)) else (if p3 < 0 then (some ((-1 : Int32), σ)) else (if p3 < (gI σ b0 4) then (bd (F_X7_append n b0 p1 p2 p3 (0 : Int32) σ) fun r2 s1 => some (r2, s1)) else (some ((-1 : Int32), σ)))))
set_option maxHeartbeats 4000000 in
set_option maxRecDepth 20000 in
theorem c_X7_add (l : Launch) {D : va_G} {A : Nat → Prop} {ad : Nat → Nat} {dA : Nat → ClassId} (b0 : Nat) (hb0 : isL b0) (n : Nat) (p1 : Int32) (p2 : Int32) (p3 : Int32) (σ : St) {res : Int32 × St} (hM : F_X7_add n b0 p1 p2 p3 σ = some res) : MI l yX7_add cX7_add 4 (some .int) 2 D (tysX dA) (wdX ad dA) A [.ref (ad b0), .int p1, .int p2, .int p3] σ (QI D (wdX ad dA) A res) := by
  refine mk_met (by decide +kernel) (Nat.le_of_ble_eq_true rfl) (fun p e s m below meth c K => ?_)
  have K : Cx p s m _ meth c cX7_add 4 (some .int) RX7 D (tysX dA) (wdX ad dA) A := K
  refine v_iload_n K dX7_add_0 2 rfl ?_
  refine v_if_lt K 24 dX7_add_1 (by decide) hM (fun hM => ?_) (fun hM => ?_)
  · refine v_iconst (v := (-1 : Int32)) K dX7_add_24 (by decide) ?_
    exact v_iret K rfl dX7_add_25 hM
  · refine v_iload_n K dX7_add_4 2 rfl ?_
    refine v_aload_n K dX7_add_5 0 rfl ?_
    refine g_X7_4 K hb0 qf_X7_25 dX7_add_6 ?_
    refine v_icmp_ge K 24 dX7_add_9 (by decide) hM (fun hM => ?_) (fun hM => ?_)
    · refine v_iconst (v := (-1 : Int32)) K dX7_add_24 (by decide) ?_
      exact v_iret K rfl dX7_add_25 hM
    · refine v_iload_n K dX7_add_12 3 rfl ?_
      refine v_if_lt K 24 dX7_add_13 (by decide) hM (fun hM => ?_) (fun hM => ?_)
      · refine v_iconst (v := (-1 : Int32)) K dX7_add_24 (by decide) ?_
        exact v_iret K rfl dX7_add_25 hM
      · refine v_iload_n K dX7_add_16 3 rfl ?_
        refine v_aload_n K dX7_add_17 0 rfl ?_
        refine g_X7_4 K hb0 qf_X7_25 dX7_add_18 ?_
        refine v_icmp_lt K 26 dX7_add_21 (by decide) hM (fun hM => ?_) (fun hM => ?_)
        · refine v_aload_n K dX7_add_26 0 rfl ?_
          refine v_iload_n K dX7_add_27 1 rfl ?_
          refine v_iload_n K dX7_add_28 2 rfl ?_
          refine v_iload_n K dX7_add_29 3 rfl ?_
          refine v_iconst (v := (0 : Int32)) K dX7_add_30 (by decide) ?_
          refine x_Vi (As := [.int p1, .int p2, .int p3, .int (0 : Int32)]) (st := []) K uv_X7_append qm_X7_29 dX7_add_31 (rv_X7 hb0) (fun _ h => c_X7_append l b0 hb0 n p1 p2 p3 (0 : Int32) σ h) rfl ⟨(Nat.le_of_ble_eq_true rfl), (Nat.le_of_ble_eq_true rfl)⟩ (Nat.le_of_ble_eq_true rfl) hM (fun r2 s1 hM => ?_)
          exact v_iret K rfl dX7_add_34 hM
        · refine v_iconst (v := (-1 : Int32)) K dX7_add_24 (by decide) ?_
          exact v_iret K rfl dX7_add_25 hM
noncomputable def F_X7_addNumber (n : Nat) (b0 : Nat) (p1 : Int32) (σ : St) : Option (Int32 × St) := bd (F_X7_append n b0 (48 : Int32) (0 : Int32) (0 : Int32) p1 σ) fun r2 s1 => some (r2, s1)
set_option maxHeartbeats 4000000 in
set_option maxRecDepth 20000 in
theorem c_X7_addNumber (l : Launch) {D : va_G} {A : Nat → Prop} {ad : Nat → Nat} {dA : Nat → ClassId} (b0 : Nat) (hb0 : isL b0) (n : Nat) (p1 : Int32) (σ : St) {res : Int32 × St} (hM : F_X7_addNumber n b0 p1 σ = some res) : MI l yX7_addNumber cX7_addNumber 2 (some .int) 2 D (tysX dA) (wdX ad dA) A [.ref (ad b0), .int p1] σ (QI D (wdX ad dA) A res) := by
  refine mk_met (by decide +kernel) (Nat.le_of_ble_eq_true rfl) (fun p e s m below meth c K => ?_)
  have K : Cx p s m _ meth c cX7_addNumber 2 (some .int) RX7 D (tysX dA) (wdX ad dA) A := K
  refine v_aload_n K dX7_addNumber_0 0 rfl ?_
  refine v_bipush (v := (48 : Int32)) K dX7_addNumber_1 (by decide) ?_
  refine v_iconst (v := (0 : Int32)) K dX7_addNumber_3 (by decide) ?_
  refine v_iconst (v := (0 : Int32)) K dX7_addNumber_4 (by decide) ?_
  refine v_iload_n K dX7_addNumber_5 1 rfl ?_
  refine x_Vi (As := [.int (48 : Int32), .int (0 : Int32), .int (0 : Int32), .int p1]) (st := []) K uv_X7_append qm_X7_29 dX7_addNumber_6 (rv_X7 hb0) (fun _ h => c_X7_append l b0 hb0 n (48 : Int32) (0 : Int32) (0 : Int32) p1 σ h) rfl ⟨(Nat.le_of_ble_eq_true rfl), (Nat.le_of_ble_eq_true rfl)⟩ (Nat.le_of_ble_eq_true rfl) hM (fun r2 s1 hM => ?_)
  exact v_iret K rfl dX7_addNumber_9 hM
noncomputable def F_X7_addName (n : Nat) (b0 : Nat) (p1 : Int32) (σ : St) : Option (Int32 × St) := if p1 < 0 then (some ((-1 : Int32), σ)) else (if p1 < (242 : Int32) then (bd (F_X7_append n b0 (97 : Int32) p1 (0 : Int32) (0 : Int32) σ) fun r2 s1 => some (r2, s1)) else (some ((-1 : Int32), σ)))
set_option maxHeartbeats 4000000 in
set_option maxRecDepth 20000 in
theorem c_X7_addName (l : Launch) {D : va_G} {A : Nat → Prop} {ad : Nat → Nat} {dA : Nat → ClassId} (b0 : Nat) (hb0 : isL b0) (n : Nat) (p1 : Int32) (σ : St) {res : Int32 × St} (hM : F_X7_addName n b0 p1 σ = some res) : MI l yX7_addName cX7_addName 2 (some .int) 2 D (tysX dA) (wdX ad dA) A [.ref (ad b0), .int p1] σ (QI D (wdX ad dA) A res) := by
  refine mk_met (by decide +kernel) (Nat.le_of_ble_eq_true rfl) (fun p e s m below meth c K => ?_)
  have K : Cx p s m _ meth c cX7_addName 2 (some .int) RX7 D (tysX dA) (wdX ad dA) A := K
  refine v_iload_n K dX7_addName_0 1 rfl ?_
  refine v_if_lt K 11 dX7_addName_1 (by decide) hM (fun hM => ?_) (fun hM => ?_)
  · refine v_iconst (v := (-1 : Int32)) K dX7_addName_11 (by decide) ?_
    refine v_goto (tgt := 24) K dX7_addName_12 (by decide) ?_
    exact v_iret K rfl dX7_addName_24 hM
  · refine v_iload_n K dX7_addName_4 1 rfl ?_
    refine v_sipush (v := (242 : Int32)) K dX7_addName_5 (by decide) ?_
    refine v_icmp_lt K 15 dX7_addName_8 (by decide) hM (fun hM => ?_) (fun hM => ?_)
    · refine v_aload_n K dX7_addName_15 0 rfl ?_
      refine v_bipush (v := (97 : Int32)) K dX7_addName_16 (by decide) ?_
      refine v_iload_n K dX7_addName_18 1 rfl ?_
      refine v_iconst (v := (0 : Int32)) K dX7_addName_19 (by decide) ?_
      refine v_iconst (v := (0 : Int32)) K dX7_addName_20 (by decide) ?_
      refine x_Vi (As := [.int (97 : Int32), .int p1, .int (0 : Int32), .int (0 : Int32)]) (st := []) K uv_X7_append qm_X7_29 dX7_addName_21 (rv_X7 hb0) (fun _ h => c_X7_append l b0 hb0 n (97 : Int32) p1 (0 : Int32) (0 : Int32) σ h) rfl ⟨(Nat.le_of_ble_eq_true rfl), (Nat.le_of_ble_eq_true rfl)⟩ (Nat.le_of_ble_eq_true rfl) hM (fun r2 s1 hM => ?_)
      exact v_iret K rfl dX7_addName_24 hM
    · refine v_iconst (v := (-1 : Int32)) K dX7_addName_11 (by decide) ?_
      refine v_goto (tgt := 24) K dX7_addName_12 (by decide) ?_
      exact v_iret K rfl dX7_addName_24 hM
noncomputable def F_X7_aimHere (n : Nat) (b0 : Nat) (p1 : Int32) (σ : St) : Option (Unit × St) := if p1 < 0 then (some ((), σ)) else (if (gI σ b0 4) ≤ p1 then (some ((), σ)) else (if (242 : Int32) ≤ (gI σ b0 4) then (some ((), σ)) else (gd (vp_in p1 242) (bnd (sI σ (b0 + 3) (p1).toNatClampNeg (gI σ b0 4)) fun s1 => some ((), s1)))))
set_option maxHeartbeats 4000000 in
set_option maxRecDepth 20000 in
theorem c_X7_aimHere (l : Launch) {D : va_G} {A : Nat → Prop} {ad : Nat → Nat} {dA : Nat → ClassId} (b0 : Nat) (hb0 : isL b0) (n : Nat) (p1 : Int32) (σ : St) {res : Unit × St} (hM : F_X7_aimHere n b0 p1 σ = some res) : MI l yX7_aimHere cX7_aimHere 2 none 1 D (tysX dA) (wdX ad dA) A [.ref (ad b0), .int p1] σ (QV D (wdX ad dA) A res) := by
  refine mk_met (by decide +kernel) (Nat.le_of_ble_eq_true rfl) (fun p e s m below meth c K => ?_)
  have K : Cx p s m _ meth c cX7_aimHere 2 none RX7 D (tysX dA) (wdX ad dA) A := K
  refine v_iload_n K dX7_aimHere_0 1 rfl ?_
  refine v_if_lt K 32 dX7_aimHere_1 (by decide) hM (fun hM => ?_) (fun hM => ?_)
  · exact v_vret K rfl dX7_aimHere_32 hM
  · refine v_iload_n K dX7_aimHere_4 1 rfl ?_
    refine v_aload_n K dX7_aimHere_5 0 rfl ?_
    refine g_X7_4 K hb0 qf_X7_25 dX7_aimHere_6 ?_
    refine v_icmp_ge K 32 dX7_aimHere_9 (by decide) hM (fun hM => ?_) (fun hM => ?_)
    · exact v_vret K rfl dX7_aimHere_32 hM
    · refine v_aload_n K dX7_aimHere_12 0 rfl ?_
      refine g_X7_4 K hb0 qf_X7_25 dX7_aimHere_13 ?_
      refine v_sipush (v := (242 : Int32)) K dX7_aimHere_16 (by decide) ?_
      refine v_icmp_ge K 32 dX7_aimHere_19 (by decide) hM (fun hM => ?_) (fun hM => ?_)
      · exact v_vret K rfl dX7_aimHere_32 hM
      · refine v_aload_n K dX7_aimHere_22 0 rfl ?_
        refine g_X7_2 K hb0 qf_X7_19 dX7_aimHere_23 ?_
        refine v_iload_n K dX7_aimHere_26 1 rfl ?_
        refine v_aload_n K dX7_aimHere_27 0 rfl ?_
        refine g_X7_4 K hb0 qf_X7_25 dX7_aimHere_28 ?_
        refine st_X7a3 K hb0 dX7_aimHere_31 hM (fun s1 hM => ?_)
        exact v_vret K rfl dX7_aimHere_32 hM
noncomputable def F_X7_copyFrom (n : Nat) (b0 : Nat) (b1 : Nat) (σ : St) : Option (Unit × St) := gd (¬ (0 : Int32) < 0 ∧ ¬ (0 : Int32) < 0 ∧ ¬ (242 : Int32) < 0 ∧ ((0 : Int32)).toNatClampNeg + ((242 : Int32)).toNatClampNeg ≤ 242 ∧ ((0 : Int32)).toNatClampNeg + ((242 : Int32)).toNatClampNeg ≤ 242 ∧ ∀ i, i < ((242 : Int32)).toNatClampNeg → fits .char (.int (gI σ (b1 + 1) (((0 : Int32)).toNatClampNeg + i))) = true) (bnd (cI σ (b1 + 1) (b0 + 1) ((0 : Int32)).toNatClampNeg ((0 : Int32)).toNatClampNeg ((242 : Int32)).toNatClampNeg) fun s1 => gd (¬ (0 : Int32) < 0 ∧ ¬ (0 : Int32) < 0 ∧ ¬ (242 : Int32) < 0 ∧ ((0 : Int32)).toNatClampNeg + ((242 : Int32)).toNatClampNeg ≤ 242 ∧ ((0 : Int32)).toNatClampNeg + ((242 : Int32)).toNatClampNeg ≤ 242 ∧ ∀ i, i < ((242 : Int32)).toNatClampNeg → fits .int (.int (gI s1 (b1 + 2) (((0 : Int32)).toNatClampNeg + i))) = true) (bnd (cI s1 (b1 + 2) (b0 + 2) ((0 : Int32)).toNatClampNeg ((0 : Int32)).toNatClampNeg ((242 : Int32)).toNatClampNeg) fun s2 => gd (¬ (0 : Int32) < 0 ∧ ¬ (0 : Int32) < 0 ∧ ¬ (242 : Int32) < 0 ∧ ((0 : Int32)).toNatClampNeg + ((242 : Int32)).toNatClampNeg ≤ 242 ∧ ((0 : Int32)).toNatClampNeg + ((242 : Int32)).toNatClampNeg ≤ 242 ∧ ∀ i, i < ((242 : Int32)).toNatClampNeg → fits .int (.int (gI s2 (b1 + 3) (((0 : Int32)).toNatClampNeg + i))) = true) (bnd (cI s2 (b1 + 3) (b0 + 3) ((0 : Int32)).toNatClampNeg ((0 : Int32)).toNatClampNeg ((242 : Int32)).toNatClampNeg) fun s3 => gd (¬ (0 : Int32) < 0 ∧ ¬ (0 : Int32) < 0 ∧ ¬ (242 : Int32) < 0 ∧ ((0 : Int32)).toNatClampNeg + ((242 : Int32)).toNatClampNeg ≤ 242 ∧ ((0 : Int32)).toNatClampNeg + ((242 : Int32)).toNatClampNeg ≤ 242 ∧ ∀ i, i < ((242 : Int32)).toNatClampNeg → fits .int (.int (gI s3 (b1 + 4) (((0 : Int32)).toNatClampNeg + i))) = true) (bnd (cI s3 (b1 + 4) (b0 + 4) ((0 : Int32)).toNatClampNeg ((0 : Int32)).toNatClampNeg ((242 : Int32)).toNatClampNeg) fun s4 => bnd (sI s4 b0 4 (gI s4 b1 4)) fun s5 => some ((), s5)))))
set_option maxHeartbeats 4000000 in
set_option maxRecDepth 20000 in
theorem c_X7_copyFrom (l : Launch) {D : va_G} {A : Nat → Prop} {ad : Nat → Nat} {dA : Nat → ClassId} (b0 : Nat) (hb0 : isL b0) (b1 : Nat) (hb1 : isL b1) (n : Nat)  (σ : St) {res : Unit × St} (hM : F_X7_copyFrom n b0 b1 σ = some res) : MI l yX7_copyFrom cX7_copyFrom 2 none 1 D (tysX dA) (wdX ad dA) A [.ref (ad b0), .ref (ad b1)] σ (QV D (wdX ad dA) A res) := by
  refine mk_met (by decide +kernel) (Nat.le_of_ble_eq_true rfl) (fun p e s m below meth c K => ?_)
  have K : Cx p s m _ meth c cX7_copyFrom 2 none RX7 D (tysX dA) (wdX ad dA) A := K
  refine v_aload_n K dX7_copyFrom_0 1 rfl ?_
  refine g_X7_0 K hb1 qf_X7_11 dX7_copyFrom_1 ?_
  refine v_iconst (v := (0 : Int32)) K dX7_copyFrom_4 (by decide) ?_
  refine v_aload_n K dX7_copyFrom_5 0 rfl ?_
  refine g_X7_0 K hb0 qf_X7_11 dX7_copyFrom_6 ?_
  refine v_iconst (v := (0 : Int32)) K dX7_copyFrom_9 (by decide) ?_
  refine v_sipush (v := (242 : Int32)) K dX7_copyFrom_10 (by decide) ?_
  refine cp_X7a1 K hb1 hb0 qm_X7_33 dX7_copyFrom_13 (Nat.le_of_ble_eq_true rfl) (Nat.le_of_ble_eq_true rfl) hM (fun s1 hM => ?_)
  refine v_aload_n K dX7_copyFrom_16 1 rfl ?_
  refine g_X7_1 K hb1 qf_X7_15 dX7_copyFrom_17 ?_
  refine v_iconst (v := (0 : Int32)) K dX7_copyFrom_20 (by decide) ?_
  refine v_aload_n K dX7_copyFrom_21 0 rfl ?_
  refine g_X7_1 K hb0 qf_X7_15 dX7_copyFrom_22 ?_
  refine v_iconst (v := (0 : Int32)) K dX7_copyFrom_25 (by decide) ?_
  refine v_sipush (v := (242 : Int32)) K dX7_copyFrom_26 (by decide) ?_
  refine cp_X7a2 K hb1 hb0 qm_X7_33 dX7_copyFrom_29 (Nat.le_of_ble_eq_true rfl) (Nat.le_of_ble_eq_true rfl) hM (fun s2 hM => ?_)
  refine v_aload_n K dX7_copyFrom_32 1 rfl ?_
  refine g_X7_2 K hb1 qf_X7_19 dX7_copyFrom_33 ?_
  refine v_iconst (v := (0 : Int32)) K dX7_copyFrom_36 (by decide) ?_
  refine v_aload_n K dX7_copyFrom_37 0 rfl ?_
  refine g_X7_2 K hb0 qf_X7_19 dX7_copyFrom_38 ?_
  refine v_iconst (v := (0 : Int32)) K dX7_copyFrom_41 (by decide) ?_
  refine v_sipush (v := (242 : Int32)) K dX7_copyFrom_42 (by decide) ?_
  refine cp_X7a3 K hb1 hb0 qm_X7_33 dX7_copyFrom_45 (Nat.le_of_ble_eq_true rfl) (Nat.le_of_ble_eq_true rfl) hM (fun s3 hM => ?_)
  refine v_aload_n K dX7_copyFrom_48 1 rfl ?_
  refine g_X7_3 K hb1 qf_X7_22 dX7_copyFrom_49 ?_
  refine v_iconst (v := (0 : Int32)) K dX7_copyFrom_52 (by decide) ?_
  refine v_aload_n K dX7_copyFrom_53 0 rfl ?_
  refine g_X7_3 K hb0 qf_X7_22 dX7_copyFrom_54 ?_
  refine v_iconst (v := (0 : Int32)) K dX7_copyFrom_57 (by decide) ?_
  refine v_sipush (v := (242 : Int32)) K dX7_copyFrom_58 (by decide) ?_
  refine cp_X7a4 K hb1 hb0 qm_X7_33 dX7_copyFrom_61 (Nat.le_of_ble_eq_true rfl) (Nat.le_of_ble_eq_true rfl) hM (fun s4 hM => ?_)
  refine v_aload_n K dX7_copyFrom_64 0 rfl ?_
  refine v_aload_n K dX7_copyFrom_65 1 rfl ?_
  refine g_X7_4 K hb1 qf_X7_25 dX7_copyFrom_66 ?_
  refine p_X7_4 K hb0 qf_X7_25 dX7_copyFrom_69 hM (fun s5 hM => ?_)
  exact v_vret K rfl dX7_copyFrom_72 hM
noncomputable def F_X10_isSort (n : Nat) (p0 : Int32) (σ : St) : Option (Int32 × St) := if p0 < 0 then (some ((0 : Int32), σ)) else (if (4 : Int32) < p0 then (some ((0 : Int32), σ)) else (some ((1 : Int32), σ)))
set_option maxHeartbeats 4000000 in
set_option maxRecDepth 20000 in
theorem c_X10_isSort (l : Launch) {D : va_G} {A : Nat → Prop} {ad : Nat → Nat} {dA : Nat → ClassId}  (n : Nat) (p0 : Int32) (σ : St) {res : Int32 × St} (hM : F_X10_isSort n p0 σ = some res) : MI l yX10_isSort cX10_isSort 1 (some .boolean) 1 D (tysX dA) (wdX ad dA) A [.int p0] σ (QI D (wdX ad dA) A res) := by
  refine mk_met (by decide +kernel) (Nat.le_of_ble_eq_true rfl) (fun p e s m below meth c K => ?_)
  have K : Cx p s m _ meth c cX10_isSort 1 (some .boolean) RX10 D (tysX dA) (wdX ad dA) A := K
  refine v_iload_n K dX10_isSort_0 0 rfl ?_
  refine v_if_lt K 13 dX10_isSort_1 (by decide) hM (fun hM => ?_) (fun hM => ?_)
  · refine v_iconst (v := (0 : Int32)) K dX10_isSort_13 (by decide) ?_
    exact v_zret K rfl rfl dX10_isSort_14 hM
  · refine v_iload_n K dX10_isSort_4 0 rfl ?_
    refine v_iconst (v := (4 : Int32)) K dX10_isSort_5 (by decide) ?_
    refine v_icmp_gt K 13 dX10_isSort_6 (by decide) hM (fun hM => ?_) (fun hM => ?_)
    · refine v_iconst (v := (0 : Int32)) K dX10_isSort_13 (by decide) ?_
      exact v_zret K rfl rfl dX10_isSort_14 hM
    · refine v_iconst (v := (1 : Int32)) K dX10_isSort_9 (by decide) ?_
      refine v_goto (tgt := 14) K dX10_isSort_10 (by decide) ?_
      exact v_zret K rfl rfl dX10_isSort_14 hM
noncomputable def F_X10_isEmpty (n : Nat) (b0 : Nat) (σ : St) : Option (Int32 × St) := if (gI σ b0 2) = (-1 : Int32) then (if (gI σ b0 3) = (-1 : Int32) then (some ((1 : Int32), σ)) else (some ((0 : Int32), σ))) else (some ((0 : Int32), σ))
set_option maxHeartbeats 4000000 in
set_option maxRecDepth 20000 in
theorem c_X10_isEmpty (l : Launch) {D : va_G} {A : Nat → Prop} {ad : Nat → Nat} {dA : Nat → ClassId} (b0 : Nat) (hb0 : isS b0) (n : Nat)  (σ : St) {res : Int32 × St} (hM : F_X10_isEmpty n b0 σ = some res) : MI l yX10_isEmpty cX10_isEmpty 1 (some .boolean) 1 D (tysX dA) (wdX ad dA) A [.ref (ad b0)] σ (QI D (wdX ad dA) A res) := by
  refine mk_met (by decide +kernel) (Nat.le_of_ble_eq_true rfl) (fun p e s m below meth c K => ?_)
  have K : Cx p s m _ meth c cX10_isEmpty 1 (some .boolean) RX10 D (tysX dA) (wdX ad dA) A := K
  refine v_aload_n K dX10_isEmpty_0 0 rfl ?_
  refine g_X10_2 K hb0 qf_X10_19 dX10_isEmpty_1 ?_
  refine v_iconst (v := (-1 : Int32)) K dX10_isEmpty_4 (by decide) ?_
  refine v_icmp_ne K 20 dX10_isEmpty_5 (by decide) hM (fun hM => ?_) (fun hM => ?_)
  · refine v_iconst (v := (0 : Int32)) K dX10_isEmpty_20 (by decide) ?_
    exact v_zret K rfl rfl dX10_isEmpty_21 hM
  · refine v_aload_n K dX10_isEmpty_8 0 rfl ?_
    refine g_X10_3 K hb0 qf_X10_22 dX10_isEmpty_9 ?_
    refine v_iconst (v := (-1 : Int32)) K dX10_isEmpty_12 (by decide) ?_
    refine v_icmp_ne K 20 dX10_isEmpty_13 (by decide) hM (fun hM => ?_) (fun hM => ?_)
    · refine v_iconst (v := (0 : Int32)) K dX10_isEmpty_20 (by decide) ?_
      exact v_zret K rfl rfl dX10_isEmpty_21 hM
    · refine v_iconst (v := (1 : Int32)) K dX10_isEmpty_16 (by decide) ?_
      refine v_goto (tgt := 21) K dX10_isEmpty_17 (by decide) ?_
      exact v_zret K rfl rfl dX10_isEmpty_21 hM
noncomputable def F_X10_hasBytes (n : Nat) (b0 : Nat) (σ : St) : Option (Int32 × St) := if (gI σ b0 2) = 0 then (some ((1 : Int32), σ)) else (some ((0 : Int32), σ))
set_option maxHeartbeats 4000000 in
set_option maxRecDepth 20000 in
theorem c_X10_hasBytes (l : Launch) {D : va_G} {A : Nat → Prop} {ad : Nat → Nat} {dA : Nat → ClassId} (b0 : Nat) (hb0 : isS b0) (n : Nat)  (σ : St) {res : Int32 × St} (hM : F_X10_hasBytes n b0 σ = some res) : MI l yX10_hasBytes cX10_hasBytes 1 (some .boolean) 1 D (tysX dA) (wdX ad dA) A [.ref (ad b0)] σ (QI D (wdX ad dA) A res) := by
  refine mk_met (by decide +kernel) (Nat.le_of_ble_eq_true rfl) (fun p e s m below meth c K => ?_)
  have K : Cx p s m _ meth c cX10_hasBytes 1 (some .boolean) RX10 D (tysX dA) (wdX ad dA) A := K
  refine v_aload_n K dX10_hasBytes_0 0 rfl ?_
  refine g_X10_2 K hb0 qf_X10_19 dX10_hasBytes_1 ?_
  refine v_if_ne K 11 dX10_hasBytes_4 (by decide) hM (fun hM => ?_) (fun hM => ?_)
  · refine v_iconst (v := (0 : Int32)) K dX10_hasBytes_11 (by decide) ?_
    exact v_zret K rfl rfl dX10_hasBytes_12 hM
  · refine v_iconst (v := (1 : Int32)) K dX10_hasBytes_7 (by decide) ?_
    refine v_goto (tgt := 12) K dX10_hasBytes_8 (by decide) ?_
    exact v_zret K rfl rfl dX10_hasBytes_12 hM
noncomputable def F_X10_heldBody (n : Nat) (b0 : Nat) (σ : St) : Option (Int32 × St) := some ((gI σ b0 3), σ)
set_option maxHeartbeats 4000000 in
set_option maxRecDepth 20000 in
theorem c_X10_heldBody (l : Launch) {D : va_G} {A : Nat → Prop} {ad : Nat → Nat} {dA : Nat → ClassId} (b0 : Nat) (hb0 : isS b0) (n : Nat)  (σ : St) {res : Int32 × St} (hM : F_X10_heldBody n b0 σ = some res) : MI l yX10_heldBody cX10_heldBody 1 (some .int) 1 D (tysX dA) (wdX ad dA) A [.ref (ad b0)] σ (QI D (wdX ad dA) A res) := by
  refine mk_met (by decide +kernel) (Nat.le_of_ble_eq_true rfl) (fun p e s m below meth c K => ?_)
  have K : Cx p s m _ meth c cX10_heldBody 1 (some .int) RX10 D (tysX dA) (wdX ad dA) A := K
  refine v_aload_n K dX10_heldBody_0 0 rfl ?_
  refine g_X10_3 K hb0 qf_X10_22 dX10_heldBody_1 ?_
  exact v_iret K rfl dX10_heldBody_4 hM
noncomputable def F_X10_clear (n : Nat) (b0 : Nat) (σ : St) : Option (Unit × St) := bnd (sI σ b0 1 (0 : Int32)) fun s1 => bnd (sI s1 b0 2 (-1 : Int32)) fun s2 => bnd (sI s2 b0 3 (-1 : Int32)) fun s3 => some ((), s3)
set_option maxHeartbeats 4000000 in
set_option maxRecDepth 20000 in
theorem c_X10_clear (l : Launch) {D : va_G} {A : Nat → Prop} {ad : Nat → Nat} {dA : Nat → ClassId} (b0 : Nat) (hb0 : isS b0) (n : Nat)  (σ : St) {res : Unit × St} (hM : F_X10_clear n b0 σ = some res) : MI l yX10_clear cX10_clear 1 none 1 D (tysX dA) (wdX ad dA) A [.ref (ad b0)] σ (QV D (wdX ad dA) A res) := by
  refine mk_met (by decide +kernel) (Nat.le_of_ble_eq_true rfl) (fun p e s m below meth c K => ?_)
  have K : Cx p s m _ meth c cX10_clear 1 none RX10 D (tysX dA) (wdX ad dA) A := K
  refine v_aload_n K dX10_clear_0 0 rfl ?_
  refine v_iconst (v := (0 : Int32)) K dX10_clear_1 (by decide) ?_
  refine p_X10_1 K hb0 qf_X10_15 dX10_clear_2 hM (fun s1 hM => ?_)
  refine v_aload_n K dX10_clear_5 0 rfl ?_
  refine v_iconst (v := (-1 : Int32)) K dX10_clear_6 (by decide) ?_
  refine p_X10_2 K hb0 qf_X10_19 dX10_clear_7 hM (fun s2 hM => ?_)
  refine v_aload_n K dX10_clear_10 0 rfl ?_
  refine v_iconst (v := (-1 : Int32)) K dX10_clear_11 (by decide) ?_
  refine p_X10_3 K hb0 qf_X10_22 dX10_clear_12 hM (fun s3 hM => ?_)
  exact v_vret K rfl dX10_clear_15 hM
noncomputable def F_X10_holdBody (n : Nat) (b0 : Nat) (p1 : Int32) (σ : St) : Option (Unit × St) := bd (F_X10_clear n b0 σ) fun _ s1 => bnd (sI s1 b0 3 p1) fun s2 => some ((), s2)
set_option maxHeartbeats 4000000 in
set_option maxRecDepth 20000 in
theorem c_X10_holdBody (l : Launch) {D : va_G} {A : Nat → Prop} {ad : Nat → Nat} {dA : Nat → ClassId} (b0 : Nat) (hb0 : isS b0) (n : Nat) (p1 : Int32) (σ : St) {res : Unit × St} (hM : F_X10_holdBody n b0 p1 σ = some res) : MI l yX10_holdBody cX10_holdBody 2 none 2 D (tysX dA) (wdX ad dA) A [.ref (ad b0), .int p1] σ (QV D (wdX ad dA) A res) := by
  refine mk_met (by decide +kernel) (Nat.le_of_ble_eq_true rfl) (fun p e s m below meth c K => ?_)
  have K : Cx p s m _ meth c cX10_holdBody 2 none RX10 D (tysX dA) (wdX ad dA) A := K
  refine v_aload_n K dX10_holdBody_0 0 rfl ?_
  refine x_Vv (As := []) (st := []) K uv_X10_clear qm_X10_25 dX10_holdBody_1 (rv_X10 hb0) (fun _ h => c_X10_clear l b0 hb0 n  σ h) rfl ⟨(Nat.le_of_ble_eq_true rfl), (Nat.le_of_ble_eq_true rfl)⟩ (Nat.le_of_ble_eq_true rfl) hM (fun s1 hM => ?_)
  refine v_aload_n K dX10_holdBody_4 0 rfl ?_
  refine v_iload_n K dX10_holdBody_5 1 rfl ?_
  refine p_X10_3 K hb0 qf_X10_22 dX10_holdBody_6 hM (fun s2 hM => ?_)
  exact v_vret K rfl dX10_holdBody_9 hM
noncomputable def B_X10_holdRow_1 (J : Nat → Int32 → St → Option (Unit × St)) (n : Nat) (b0 : Nat) (l3 : Int32) (σ : St) : Option (Unit × St) := if (gI σ b0 1) ≤ l3 then (some ((), σ)) else (gd (vp_in l3 60) (bnd (sL σ (b0 + 1) (l3).toNatClampNeg (0 : Int64)) fun s6 => bnd (l3 + (1 : Int32)) fun x7 => J 1 x7 s6))
noncomputable def S_X10_holdRow (b0 : Nat) (n : Nat) (J : Nat → Int32 → St → Option (Unit × St)) : Nat → Int32 → St → Option (Unit × St) := fun lb a0 σ => match lb with
  | 1 => B_X10_holdRow_1 J n b0 a0 σ
  | _ => none
noncomputable def L_X10_holdRow (b0 : Nat) (n : Nat) : Nat → Int32 → St → Option (Unit × St) := Nat.rec (fun _ _ _ => none) (fun n J => S_X10_holdRow b0 n J) n
noncomputable def F_X10_holdRow (n : Nat) (b0 : Nat) (p1 : Int32) (p2 : Int32) (σ : St) : Option (Unit × St) := bd (F_X10_clear n b0 σ) fun _ s1 => bnd (sI s1 b0 2 p1) fun s2 => bnd (if p2 < (60 : Int32) then p2 else (60 : Int32)) fun x3 => bnd (if (0 : Int32) < x3 then x3 else (0 : Int32)) fun x4 => bnd (sI s2 b0 1 x4) fun s5 => L_X10_holdRow b0 n 1 (0 : Int32) s5
set_option maxHeartbeats 4000000 in
set_option maxRecDepth 20000 in
theorem t_X10_holdRow (l : Launch) {p : Program} {e : Env} {s : State} {m : MethodId} {args : Array Value} {below : List Frame} {meth : Method} {c : Code} {D : va_G} {A : Nat → Prop} {ad : Nat → Nat} {dA : Nat → ClassId} (b0 : Nat) (hb0 : isS b0) (K : Cx p s m args meth c cX10_holdRow 4 none RX10 D (tysX dA) (wdX ad dA) A) {res : Unit × St} (n : Nat) : (∀ (l3 : Int32) (σ : St), L_X10_holdRow b0 n 1 l3 σ = some res → V p l e (rmH 2) s m args below meth c 4 D (wdX ad dA) A (MQ below (QV D (wdX ad dA) A res) args s 0 0 A) 25 [(0, .ref (ad b0)), (3, .int l3)] [] σ) := by
  induction n with
  | zero => exact (fun _ _ h => (by cases h))
  | succ n ih =>
    have ih_1 := ih
    · intro l3 σ hM
      have hM : B_X10_holdRow_1 (L_X10_holdRow b0 n) n b0 l3 σ = some res := hM
      refine v_iload_n K dX10_holdRow_25 1 rfl ?_
      refine v_aload_n K dX10_holdRow_26 0 rfl ?_
      refine g_X10_1 K hb0 qf_X10_15 dX10_holdRow_27 ?_
      refine v_icmp_ge K 46 dX10_holdRow_30 (by decide) hM (fun hM => ?_) (fun hM => ?_)
      · exact v_vret K rfl dX10_holdRow_46 hM
      · refine v_aload_n K dX10_holdRow_33 0 rfl ?_
        refine g_X10_0 K hb0 qf_X10_9 dX10_holdRow_34 ?_
        refine v_iload_n K dX10_holdRow_37 1 rfl ?_
        refine v_lconst (v := (0 : Int64)) K dX10_holdRow_38 (by decide) ?_
        refine st_X10a1 K hb0 dX10_holdRow_39 hM (fun s6 hM => ?_)
        refine v_iinc K dX10_holdRow_40 1 rfl (v := (l3 + (1 : Int32))) rfl (by decide) hM (fun y => [(3, .int y), (0, .ref (ad b0))]) (fun _ => rfl) (fun x7 hM => ?_)
        refine v_goto (tgt := 25) K dX10_holdRow_43 (by decide) ?_
        exact v_sub [1, 0] rfl (ih_1 x7 s6 hM)
set_option maxHeartbeats 4000000 in
set_option maxRecDepth 20000 in
theorem c_X10_holdRow (l : Launch) {D : va_G} {A : Nat → Prop} {ad : Nat → Nat} {dA : Nat → ClassId} (b0 : Nat) (hb0 : isS b0) (n : Nat) (p1 : Int32) (p2 : Int32) (σ : St) {res : Unit × St} (hM : F_X10_holdRow n b0 p1 p2 σ = some res) : MI l yX10_holdRow cX10_holdRow 4 none 2 D (tysX dA) (wdX ad dA) A [.ref (ad b0), .int p1, .int p2] σ (QV D (wdX ad dA) A res) := by
  refine mk_met (by decide +kernel) (Nat.le_of_ble_eq_true rfl) (fun p e s m below meth c K => ?_)
  have K : Cx p s m _ meth c cX10_holdRow 4 none RX10 D (tysX dA) (wdX ad dA) A := K
  have ih_1 := t_X10_holdRow l b0 hb0  K (res := res) n (below := below) (e := e)
  refine v_aload_n K dX10_holdRow_0 0 rfl ?_
  refine x_Vv (As := []) (st := []) K uv_X10_clear qm_X10_25 dX10_holdRow_1 (rv_X10 hb0) (fun _ h => c_X10_clear l b0 hb0 n  σ h) rfl ⟨(Nat.le_of_ble_eq_true rfl), (Nat.le_of_ble_eq_true rfl)⟩ (Nat.le_of_ble_eq_true rfl) hM (fun s1 hM => ?_)
  refine v_aload_n K dX10_holdRow_4 0 rfl ?_
  refine v_iload_n K dX10_holdRow_5 1 rfl ?_
  refine p_X10_2 K hb0 qf_X10_19 dX10_holdRow_6 hM (fun s2 hM => ?_)
  refine v_aload_n K dX10_holdRow_9 0 rfl ?_
  refine v_iconst (v := (0 : Int32)) K dX10_holdRow_10 (by decide) ?_
  refine v_bipush (v := (60 : Int32)) K dX10_holdRow_11 (by decide) ?_
  refine v_iload_n K dX10_holdRow_13 2 rfl ?_
  refine x_mmin K qm_X10_28 qs_min qi_Math qk_min dX10_holdRow_14 (Nat.le_of_ble_eq_true rfl) (Nat.le_of_ble_eq_true rfl) ?_
  refine v_topi hM (fun x3 hM => ?_)
  refine x_mmax K qm_X10_34 qs_max qi_Math qk_max dX10_holdRow_17 (Nat.le_of_ble_eq_true rfl) (Nat.le_of_ble_eq_true rfl) ?_
  refine v_topi hM (fun x4 hM => ?_)
  refine p_X10_1 K hb0 qf_X10_15 dX10_holdRow_20 hM (fun s5 hM => ?_)
  refine v_iconst (v := (0 : Int32)) K dX10_holdRow_23 (by decide) ?_
  refine v_istore_n K dX10_holdRow_24 rfl (by decide) [(3, .int (0 : Int32)), (0, .ref (ad b0)), (1, .int p1), (2, .int p2)] rfl ?_
  exact v_sub [1, 0] rfl (ih_1 (0 : Int32) s5 hM)
noncomputable def F_X10_refusalOfBytes (n : Nat) (b0 : Nat) (σ : St) : Option (Int32 × St) := bd (F_X10_isEmpty n b0 σ) fun r2 s1 => if r2 = 0 then (bd (F_X10_hasBytes n b0 s1) fun r4 s3 => if r4 = 0 then (some ((-12 : Int32), s3)) else (some ((0 : Int32), s3))) else (some ((-11 : Int32), s1))
set_option maxHeartbeats 4000000 in
set_option maxRecDepth 20000 in
theorem c_X10_refusalOfBytes (l : Launch) {D : va_G} {A : Nat → Prop} {ad : Nat → Nat} {dA : Nat → ClassId} (b0 : Nat) (hb0 : isS b0) (n : Nat)  (σ : St) {res : Int32 × St} (hM : F_X10_refusalOfBytes n b0 σ = some res) : MI l yX10_refusalOfBytes cX10_refusalOfBytes 1 (some .int) 2 D (tysX dA) (wdX ad dA) A [.ref (ad b0)] σ (QI D (wdX ad dA) A res) := by
  refine mk_met (by decide +kernel) (Nat.le_of_ble_eq_true rfl) (fun p e s m below meth c K => ?_)
  have K : Cx p s m _ meth c cX10_refusalOfBytes 1 (some .int) RX10 D (tysX dA) (wdX ad dA) A := K
  refine v_aload_n K dX10_refusalOfBytes_0 0 rfl ?_
  refine x_Vi (As := []) (st := []) K uv_X10_isEmpty qm_X10_37 dX10_refusalOfBytes_1 (rv_X10 hb0) (fun _ h => c_X10_isEmpty l b0 hb0 n  σ h) rfl ⟨(Nat.le_of_ble_eq_true rfl), (Nat.le_of_ble_eq_true rfl)⟩ (Nat.le_of_ble_eq_true rfl) hM (fun r2 s1 hM => ?_)
  refine v_if_eq K 10 dX10_refusalOfBytes_4 (by decide) hM (fun hM => ?_) (fun hM => ?_)
  · refine v_aload_n K dX10_refusalOfBytes_10 0 rfl ?_
    refine x_Vi (As := []) (st := []) K uv_X10_hasBytes qm_X10_41 dX10_refusalOfBytes_11 (rv_X10 hb0) (fun _ h => c_X10_hasBytes l b0 hb0 n  s1 h) rfl ⟨(Nat.le_of_ble_eq_true rfl), (Nat.le_of_ble_eq_true rfl)⟩ (Nat.le_of_ble_eq_true rfl) hM (fun r4 s3 hM => ?_)
    refine v_if_eq K 21 dX10_refusalOfBytes_14 (by decide) hM (fun hM => ?_) (fun hM => ?_)
    · refine v_bipush (v := (-12 : Int32)) K dX10_refusalOfBytes_21 (by decide) ?_
      exact v_iret K rfl dX10_refusalOfBytes_23 hM
    · refine v_iconst (v := (0 : Int32)) K dX10_refusalOfBytes_17 (by decide) ?_
      refine v_goto (tgt := 23) K dX10_refusalOfBytes_18 (by decide) ?_
      exact v_iret K rfl dX10_refusalOfBytes_23 hM
  · refine v_bipush (v := (-11 : Int32)) K dX10_refusalOfBytes_7 (by decide) ?_
    exact v_iret K rfl dX10_refusalOfBytes_9 hM
noncomputable def F_X10_refusalOfPlace (n : Nat) (b0 : Nat) (p1 : Int32) (σ : St) : Option (Int32 × St) := bd (F_X10_isEmpty n b0 σ) fun r2 s1 => if r2 = 0 then (if (gI s1 b0 2) = (-1 : Int32) then (some ((-12 : Int32), s1)) else (if p1 < 0 then (some ((-13 : Int32), s1)) else (if p1 < (gI s1 b0 1) then (some ((0 : Int32), s1)) else (some ((-13 : Int32), s1))))) else (some ((-11 : Int32), s1))
set_option maxHeartbeats 4000000 in
set_option maxRecDepth 20000 in
theorem c_X10_refusalOfPlace (l : Launch) {D : va_G} {A : Nat → Prop} {ad : Nat → Nat} {dA : Nat → ClassId} (b0 : Nat) (hb0 : isS b0) (n : Nat) (p1 : Int32) (σ : St) {res : Int32 × St} (hM : F_X10_refusalOfPlace n b0 p1 σ = some res) : MI l yX10_refusalOfPlace cX10_refusalOfPlace 2 (some .int) 2 D (tysX dA) (wdX ad dA) A [.ref (ad b0), .int p1] σ (QI D (wdX ad dA) A res) := by
  refine mk_met (by decide +kernel) (Nat.le_of_ble_eq_true rfl) (fun p e s m below meth c K => ?_)
  have K : Cx p s m _ meth c cX10_refusalOfPlace 2 (some .int) RX10 D (tysX dA) (wdX ad dA) A := K
  refine v_aload_n K dX10_refusalOfPlace_0 0 rfl ?_
  refine x_Vi (As := []) (st := []) K uv_X10_isEmpty qm_X10_37 dX10_refusalOfPlace_1 (rv_X10 hb0) (fun _ h => c_X10_isEmpty l b0 hb0 n  σ h) rfl ⟨(Nat.le_of_ble_eq_true rfl), (Nat.le_of_ble_eq_true rfl)⟩ (Nat.le_of_ble_eq_true rfl) hM (fun r2 s1 hM => ?_)
  refine v_if_eq K 10 dX10_refusalOfPlace_4 (by decide) hM (fun hM => ?_) (fun hM => ?_)
  · refine v_aload_n K dX10_refusalOfPlace_10 0 rfl ?_
    refine g_X10_2 K hb0 qf_X10_19 dX10_refusalOfPlace_11 ?_
    refine v_iconst (v := (-1 : Int32)) K dX10_refusalOfPlace_14 (by decide) ?_
    refine v_icmp_ne K 21 dX10_refusalOfPlace_15 (by decide) hM (fun hM => ?_) (fun hM => ?_)
    · refine v_iload_n K dX10_refusalOfPlace_21 1 rfl ?_
      refine v_if_lt K 33 dX10_refusalOfPlace_22 (by decide) hM (fun hM => ?_) (fun hM => ?_)
      · refine v_bipush (v := (-13 : Int32)) K dX10_refusalOfPlace_33 (by decide) ?_
        refine v_goto (tgt := 39) K dX10_refusalOfPlace_35 (by decide) ?_
        exact v_iret K rfl dX10_refusalOfPlace_39 hM
      · refine v_iload_n K dX10_refusalOfPlace_25 1 rfl ?_
        refine v_aload_n K dX10_refusalOfPlace_26 0 rfl ?_
        refine g_X10_1 K hb0 qf_X10_15 dX10_refusalOfPlace_27 ?_
        refine v_icmp_lt K 38 dX10_refusalOfPlace_30 (by decide) hM (fun hM => ?_) (fun hM => ?_)
        · refine v_iconst (v := (0 : Int32)) K dX10_refusalOfPlace_38 (by decide) ?_
          exact v_iret K rfl dX10_refusalOfPlace_39 hM
        · refine v_bipush (v := (-13 : Int32)) K dX10_refusalOfPlace_33 (by decide) ?_
          refine v_goto (tgt := 39) K dX10_refusalOfPlace_35 (by decide) ?_
          exact v_iret K rfl dX10_refusalOfPlace_39 hM
    · refine v_bipush (v := (-12 : Int32)) K dX10_refusalOfPlace_18 (by decide) ?_
      exact v_iret K rfl dX10_refusalOfPlace_20 hM
  · refine v_bipush (v := (-11 : Int32)) K dX10_refusalOfPlace_7 (by decide) ?_
    exact v_iret K rfl dX10_refusalOfPlace_9 hM
noncomputable def F_X10_lowestBits (n : Nat) (b0 : Nat) (p1 : Int64) (σ : St) : Option (Int64 × St) := bnd (gI σ b0 2) fun x1 => if x1 = (0 : Int32) then (some (((((((p1).toInt32)).toInt8.toInt32)).toInt64), σ)) else (if x1 = (1 : Int32) then (some (((((((p1).toInt32)).toInt16.toInt32)).toInt64), σ)) else (if x1 = (2 : Int32) then (some (((((p1).toInt32)).toInt64), σ)) else (if x1 = (3 : Int32) then (some (p1, σ)) else (if (lg_cmp p1 (0 : Int64)) = 0 then (some ((0 : Int64), σ)) else (some ((1 : Int64), σ))))))
set_option maxHeartbeats 4000000 in
set_option maxRecDepth 20000 in
theorem c_X10_lowestBits (l : Launch) {D : va_G} {A : Nat → Prop} {ad : Nat → Nat} {dA : Nat → ClassId} (b0 : Nat) (hb0 : isS b0) (n : Nat) (p1 : Int64) (σ : St) {res : Int64 × St} (hM : F_X10_lowestBits n b0 p1 σ = some res) : MI l yX10_lowestBits cX10_lowestBits 3 (some .long) 1 D (tysX dA) (wdX ad dA) A [.ref (ad b0), .long p1] σ (QL D (wdX ad dA) A res) := by
  refine mk_met (by decide +kernel) (Nat.le_of_ble_eq_true rfl) (fun p e s m below meth c K => ?_)
  have K : Cx p s m _ meth c cX10_lowestBits 3 (some .long) RX10 D (tysX dA) (wdX ad dA) A := K
  refine v_aload_n K dX10_lowestBits_0 0 rfl ?_
  refine g_X10_2 K hb0 qf_X10_19 dX10_lowestBits_1 ?_
  refine v_topi hM (fun x1 hM => ?_)
  rcases ite_inv hM with ⟨hx2, hM⟩ | ⟨hx2, hM⟩
  · refine v_tabI K dX10_lowestBits_4 (k := (0 : Int32)) hx2 (by decide) (by decide) (off := 32) (by decide) (tgt := 36) (by decide) ?_
    refine v_lload_n K dX10_lowestBits_36 1 rfl ?_
    refine v_l2i K dX10_lowestBits_37 ?_
    refine v_i2b K dX10_lowestBits_38 ?_
    refine v_i2l K dX10_lowestBits_39 ?_
    exact v_lret K rfl dX10_lowestBits_40 hM
  rcases ite_inv hM with ⟨hx3, hM⟩ | ⟨hx3, hM⟩
  · refine v_tabI K dX10_lowestBits_4 (k := (1 : Int32)) hx3 (by decide) (by decide) (off := 37) (by decide) (tgt := 41) (by decide) ?_
    refine v_lload_n K dX10_lowestBits_41 1 rfl ?_
    refine v_l2i K dX10_lowestBits_42 ?_
    refine v_i2s K dX10_lowestBits_43 ?_
    refine v_i2l K dX10_lowestBits_44 ?_
    exact v_lret K rfl dX10_lowestBits_45 hM
  rcases ite_inv hM with ⟨hx4, hM⟩ | ⟨hx4, hM⟩
  · refine v_tabI K dX10_lowestBits_4 (k := (2 : Int32)) hx4 (by decide) (by decide) (off := 42) (by decide) (tgt := 46) (by decide) ?_
    refine v_lload_n K dX10_lowestBits_46 1 rfl ?_
    refine v_l2i K dX10_lowestBits_47 ?_
    refine v_i2l K dX10_lowestBits_48 ?_
    exact v_lret K rfl dX10_lowestBits_49 hM
  rcases ite_inv hM with ⟨hx5, hM⟩ | ⟨hx5, hM⟩
  · refine v_tabI K dX10_lowestBits_4 (k := (3 : Int32)) hx5 (by decide) (by decide) (off := 46) (by decide) (tgt := 50) (by decide) ?_
    refine v_lload_n K dX10_lowestBits_50 1 rfl ?_
    exact v_lret K rfl dX10_lowestBits_51 hM
  refine v_tabO K dX10_lowestBits_4 (by have a0 : x1.toInt ≠ 0 := ne_toInt hx2; have a1 : x1.toInt ≠ 1 := ne_toInt hx3; have a2 : x1.toInt ≠ 2 := ne_toInt hx4; have a3 : x1.toInt ≠ 3 := ne_toInt hx5; omega) (tgt := 52) (by decide) ?_
  refine v_lload_n K dX10_lowestBits_52 1 rfl ?_
  refine v_lconst (v := (0 : Int64)) K dX10_lowestBits_53 (by decide) ?_
  refine v_lcmp K dX10_lowestBits_54 ?_
  refine v_if_eq K 62 dX10_lowestBits_55 (by decide) hM (fun hM => ?_) (fun hM => ?_)
  · refine v_lconst (v := (0 : Int64)) K dX10_lowestBits_62 (by decide) ?_
    exact v_lret K rfl dX10_lowestBits_63 hM
  · refine v_lconst (v := (1 : Int64)) K dX10_lowestBits_58 (by decide) ?_
    refine v_goto (tgt := 63) K dX10_lowestBits_59 (by decide) ?_
    exact v_lret K rfl dX10_lowestBits_63 hM
noncomputable def F_X10_set (n : Nat) (b0 : Nat) (p1 : Int32) (p2 : Int64) (σ : St) : Option (Unit × St) := if p1 < 0 then (some ((), σ)) else (if (gI σ b0 1) ≤ p1 then (some ((), σ)) else (bd (F_X10_lowestBits n b0 p2 σ) fun r2 s1 => gd (vp_in p1 60) (bnd (sL s1 (b0 + 1) (p1).toNatClampNeg r2) fun s3 => some ((), s3))))
set_option maxHeartbeats 4000000 in
set_option maxRecDepth 20000 in
theorem c_X10_set (l : Launch) {D : va_G} {A : Nat → Prop} {ad : Nat → Nat} {dA : Nat → ClassId} (b0 : Nat) (hb0 : isS b0) (n : Nat) (p1 : Int32) (p2 : Int64) (σ : St) {res : Unit × St} (hM : F_X10_set n b0 p1 p2 σ = some res) : MI l yX10_set cX10_set 4 none 2 D (tysX dA) (wdX ad dA) A [.ref (ad b0), .int p1, .long p2] σ (QV D (wdX ad dA) A res) := by
  refine mk_met (by decide +kernel) (Nat.le_of_ble_eq_true rfl) (fun p e s m below meth c K => ?_)
  have K : Cx p s m _ meth c cX10_set 4 none RX10 D (tysX dA) (wdX ad dA) A := K
  refine v_iload_n K dX10_set_0 1 rfl ?_
  refine v_if_lt K 23 dX10_set_1 (by decide) hM (fun hM => ?_) (fun hM => ?_)
  · exact v_vret K rfl dX10_set_23 hM
  · refine v_iload_n K dX10_set_4 1 rfl ?_
    refine v_aload_n K dX10_set_5 0 rfl ?_
    refine g_X10_1 K hb0 qf_X10_15 dX10_set_6 ?_
    refine v_icmp_ge K 23 dX10_set_9 (by decide) hM (fun hM => ?_) (fun hM => ?_)
    · exact v_vret K rfl dX10_set_23 hM
    · refine v_aload_n K dX10_set_12 0 rfl ?_
      refine g_X10_0 K hb0 qf_X10_9 dX10_set_13 ?_
      refine v_iload_n K dX10_set_16 1 rfl ?_
      refine v_aload_n K dX10_set_17 0 rfl ?_
      refine v_lload_n K dX10_set_18 2 rfl ?_
      refine x_Vl (As := [.long p2]) (st := [.int p1, .ref (ad (b0 + 1))]) K uv_X10_lowestBits qm_X10_48 dX10_set_19 (rv_X10 hb0) (fun _ h => c_X10_lowestBits l b0 hb0 n p2 σ h) rfl ⟨(Nat.le_of_ble_eq_true rfl), (Nat.le_of_ble_eq_true rfl)⟩ (Nat.le_of_ble_eq_true rfl) hM (fun r2 s1 hM => ?_)
      refine st_X10a1 K hb0 dX10_set_22 hM (fun s3 hM => ?_)
      exact v_vret K rfl dX10_set_23 hM
noncomputable def F_X10_isLike (n : Nat) (b0 : Nat) (b1 : Nat) (σ : St) : Option (Int32 × St) := if (gI σ b0 2) = (-1 : Int32) then (some ((0 : Int32), σ)) else (if (gI σ b0 2) = (gI σ b1 2) then (some ((1 : Int32), σ)) else (some ((0 : Int32), σ)))
set_option maxHeartbeats 4000000 in
set_option maxRecDepth 20000 in
theorem c_X10_isLike (l : Launch) {D : va_G} {A : Nat → Prop} {ad : Nat → Nat} {dA : Nat → ClassId} (b0 : Nat) (hb0 : isS b0) (b1 : Nat) (hb1 : isS b1) (n : Nat)  (σ : St) {res : Int32 × St} (hM : F_X10_isLike n b0 b1 σ = some res) : MI l yX10_isLike cX10_isLike 2 (some .boolean) 1 D (tysX dA) (wdX ad dA) A [.ref (ad b0), .ref (ad b1)] σ (QI D (wdX ad dA) A res) := by
  refine mk_met (by decide +kernel) (Nat.le_of_ble_eq_true rfl) (fun p e s m below meth c K => ?_)
  have K : Cx p s m _ meth c cX10_isLike 2 (some .boolean) RX10 D (tysX dA) (wdX ad dA) A := K
  refine v_aload_n K dX10_isLike_0 0 rfl ?_
  refine g_X10_2 K hb0 qf_X10_19 dX10_isLike_1 ?_
  refine v_iconst (v := (-1 : Int32)) K dX10_isLike_4 (by decide) ?_
  refine v_icmp_eq K 23 dX10_isLike_5 (by decide) hM (fun hM => ?_) (fun hM => ?_)
  · refine v_iconst (v := (0 : Int32)) K dX10_isLike_23 (by decide) ?_
    exact v_zret K rfl rfl dX10_isLike_24 hM
  · refine v_aload_n K dX10_isLike_8 0 rfl ?_
    refine g_X10_2 K hb0 qf_X10_19 dX10_isLike_9 ?_
    refine v_aload_n K dX10_isLike_12 1 rfl ?_
    refine g_X10_2 K hb1 qf_X10_19 dX10_isLike_13 ?_
    refine v_icmp_ne K 23 dX10_isLike_16 (by decide) hM (fun hM => ?_) (fun hM => ?_)
    · refine v_iconst (v := (0 : Int32)) K dX10_isLike_23 (by decide) ?_
      exact v_zret K rfl rfl dX10_isLike_24 hM
    · refine v_iconst (v := (1 : Int32)) K dX10_isLike_19 (by decide) ?_
      refine v_goto (tgt := 24) K dX10_isLike_20 (by decide) ?_
      exact v_zret K rfl rfl dX10_isLike_24 hM
noncomputable def F_X10_hasPart (n : Nat) (b0 : Nat) (p1 : Int32) (p2 : Int32) (σ : St) : Option (Int32 × St) := if p1 < 0 then (some ((0 : Int32), σ)) else (if p2 < 0 then (some ((0 : Int32), σ)) else (if (gI σ b0 1) < p2 then (some ((0 : Int32), σ)) else (if ((gI σ b0 1) - p2) < p1 then (some ((0 : Int32), σ)) else (some ((1 : Int32), σ)))))
set_option maxHeartbeats 4000000 in
set_option maxRecDepth 20000 in
theorem c_X10_hasPart (l : Launch) {D : va_G} {A : Nat → Prop} {ad : Nat → Nat} {dA : Nat → ClassId} (b0 : Nat) (hb0 : isS b0) (n : Nat) (p1 : Int32) (p2 : Int32) (σ : St) {res : Int32 × St} (hM : F_X10_hasPart n b0 p1 p2 σ = some res) : MI l yX10_hasPart cX10_hasPart 3 (some .boolean) 1 D (tysX dA) (wdX ad dA) A [.ref (ad b0), .int p1, .int p2] σ (QI D (wdX ad dA) A res) := by
  refine mk_met (by decide +kernel) (Nat.le_of_ble_eq_true rfl) (fun p e s m below meth c K => ?_)
  have K : Cx p s m _ meth c cX10_hasPart 3 (some .boolean) RX10 D (tysX dA) (wdX ad dA) A := K
  refine v_iload_n K dX10_hasPart_0 1 rfl ?_
  refine v_if_lt K 30 dX10_hasPart_1 (by decide) hM (fun hM => ?_) (fun hM => ?_)
  · refine v_iconst (v := (0 : Int32)) K dX10_hasPart_30 (by decide) ?_
    exact v_zret K rfl rfl dX10_hasPart_31 hM
  · refine v_iload_n K dX10_hasPart_4 2 rfl ?_
    refine v_if_lt K 30 dX10_hasPart_5 (by decide) hM (fun hM => ?_) (fun hM => ?_)
    · refine v_iconst (v := (0 : Int32)) K dX10_hasPart_30 (by decide) ?_
      exact v_zret K rfl rfl dX10_hasPart_31 hM
    · refine v_iload_n K dX10_hasPart_8 2 rfl ?_
      refine v_aload_n K dX10_hasPart_9 0 rfl ?_
      refine g_X10_1 K hb0 qf_X10_15 dX10_hasPart_10 ?_
      refine v_icmp_gt K 30 dX10_hasPart_13 (by decide) hM (fun hM => ?_) (fun hM => ?_)
      · refine v_iconst (v := (0 : Int32)) K dX10_hasPart_30 (by decide) ?_
        exact v_zret K rfl rfl dX10_hasPart_31 hM
      · refine v_iload_n K dX10_hasPart_16 1 rfl ?_
        refine v_aload_n K dX10_hasPart_17 0 rfl ?_
        refine g_X10_1 K hb0 qf_X10_15 dX10_hasPart_18 ?_
        refine v_iload_n K dX10_hasPart_21 2 rfl ?_
        refine v_isub K dX10_hasPart_22 ?_
        refine v_icmp_gt K 30 dX10_hasPart_23 (by decide) hM (fun hM => ?_) (fun hM => ?_)
        · refine v_iconst (v := (0 : Int32)) K dX10_hasPart_30 (by decide) ?_
          exact v_zret K rfl rfl dX10_hasPart_31 hM
        · refine v_iconst (v := (1 : Int32)) K dX10_hasPart_26 (by decide) ?_
          refine v_goto (tgt := 31) K dX10_hasPart_27 (by decide) ?_
          exact v_zret K rfl rfl dX10_hasPart_31 hM
noncomputable def F_X10_copyPart (n : Nat) (b0 : Nat) (b2 : Nat) (p1 : Int32) (p3 : Int32) (p4 : Int32) (σ : St) : Option (Unit × St) := bd (F_X10_hasPart n b0 p1 p4 σ) fun r2 s1 => if r2 = 0 then (some ((), s1)) else (bd (F_X10_hasPart n b2 p3 p4 s1) fun r4 s3 => if r4 = 0 then (some ((), s3)) else (gd (¬ p1 < 0 ∧ ¬ p3 < 0 ∧ ¬ p4 < 0 ∧ (p1).toNatClampNeg + (p4).toNatClampNeg ≤ 60 ∧ (p3).toNatClampNeg + (p4).toNatClampNeg ≤ 60) (bnd (cL s3 (b0 + 1) (b2 + 1) (p1).toNatClampNeg (p3).toNatClampNeg (p4).toNatClampNeg) fun s5 => some ((), s5))))
set_option maxHeartbeats 4000000 in
set_option maxRecDepth 20000 in
theorem c_X10_copyPart (l : Launch) {D : va_G} {A : Nat → Prop} {ad : Nat → Nat} {dA : Nat → ClassId} (b0 : Nat) (hb0 : isS b0) (b2 : Nat) (hb2 : isS b2) (n : Nat) (p1 : Int32) (p3 : Int32) (p4 : Int32) (σ : St) {res : Unit × St} (hM : F_X10_copyPart n b0 b2 p1 p3 p4 σ = some res) : MI l yX10_copyPart cX10_copyPart 5 none 2 D (tysX dA) (wdX ad dA) A [.ref (ad b0), .int p1, .ref (ad b2), .int p3, .int p4] σ (QV D (wdX ad dA) A res) := by
  refine mk_met (by decide +kernel) (Nat.le_of_ble_eq_true rfl) (fun p e s m below meth c K => ?_)
  have K : Cx p s m _ meth c cX10_copyPart 5 none RX10 D (tysX dA) (wdX ad dA) A := K
  refine v_aload_n K dX10_copyPart_0 0 rfl ?_
  refine v_iload_n K dX10_copyPart_1 1 rfl ?_
  refine v_iload K dX10_copyPart_2 4 rfl ?_
  refine x_Vi (As := [.int p1, .int p4]) (st := []) K uv_X10_hasPart qm_X10_52 dX10_copyPart_4 (rv_X10 hb0) (fun _ h => c_X10_hasPart l b0 hb0 n p1 p4 σ h) rfl ⟨(Nat.le_of_ble_eq_true rfl), (Nat.le_of_ble_eq_true rfl)⟩ (Nat.le_of_ble_eq_true rfl) hM (fun r2 s1 hM => ?_)
  refine v_if_eq K 35 dX10_copyPart_7 (by decide) hM (fun hM => ?_) (fun hM => ?_)
  · exact v_vret K rfl dX10_copyPart_35 hM
  · refine v_aload_n K dX10_copyPart_10 2 rfl ?_
    refine v_iload_n K dX10_copyPart_11 3 rfl ?_
    refine v_iload K dX10_copyPart_12 4 rfl ?_
    refine x_Vi (As := [.int p3, .int p4]) (st := []) K uv_X10_hasPart qm_X10_52 dX10_copyPart_14 (rv_X10 hb2) (fun _ h => c_X10_hasPart l b2 hb2 n p3 p4 s1 h) rfl ⟨(Nat.le_of_ble_eq_true rfl), (Nat.le_of_ble_eq_true rfl)⟩ (Nat.le_of_ble_eq_true rfl) hM (fun r4 s3 hM => ?_)
    refine v_if_eq K 35 dX10_copyPart_17 (by decide) hM (fun hM => ?_) (fun hM => ?_)
    · exact v_vret K rfl dX10_copyPart_35 hM
    · refine v_aload_n K dX10_copyPart_20 0 rfl ?_
      refine g_X10_0 K hb0 qf_X10_9 dX10_copyPart_21 ?_
      refine v_iload_n K dX10_copyPart_24 1 rfl ?_
      refine v_aload_n K dX10_copyPart_25 2 rfl ?_
      refine g_X10_0 K hb2 qf_X10_9 dX10_copyPart_26 ?_
      refine v_iload_n K dX10_copyPart_29 3 rfl ?_
      refine v_iload K dX10_copyPart_30 4 rfl ?_
      refine cp_X10a1 K hb0 hb2 qm_X10_56 dX10_copyPart_32 (Nat.le_of_ble_eq_true rfl) (Nat.le_of_ble_eq_true rfl) hM (fun s5 hM => ?_)
      exact v_vret K rfl dX10_copyPart_35 hM
