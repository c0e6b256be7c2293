noncomputable def F_X1_isSeat (n : Nat) (p0 : Int32) (σ : St) : Option (Int32 × St) := if p0 < 0 then (some ((0 : Int32), σ)) else (if (7 : Int32) ≤ p0 then (some ((0 : Int32), σ)) else (some ((1 : Int32), σ)))
set_option maxHeartbeats 4000000 in
set_option maxRecDepth 20000 in
theorem c_X1_isSeat (l : Launch) {D : va_G} {A : Nat → Prop} {ad : Nat → Nat} {dA : Nat → ClassId}  (n : Nat) (p0 : Int32) (σ : St) {res : Int32 × St} (hM : F_X1_isSeat n p0 σ = some res) : MI l yX1_isSeat cX1_isSeat 1 (some .boolean) 1 D (tysX dA) (wdX ad dA) A [.int p0] σ (QI D (wdX ad dA) A res) := by
  refine mk_met (by decide +kernel) (Nat.le_of_ble_eq_true rfl) (fun p e s m below meth c K => ?_)
  have K : Cx p s m _ meth c cX1_isSeat 1 (some .boolean) RX1 D (tysX dA) (wdX ad dA) A := K
  refine v_iload_n K dX1_isSeat_0 0 rfl ?_
  refine v_if_lt K 14 dX1_isSeat_1 (by decide) hM (fun hM => ?_) (fun hM => ?_)
  · refine v_iconst (v := (0 : Int32)) K dX1_isSeat_14 (by decide) ?_
    exact v_zret K rfl rfl dX1_isSeat_15 hM
  · refine v_iload_n K dX1_isSeat_4 0 rfl ?_
    refine v_bipush (v := (7 : Int32)) K dX1_isSeat_5 (by decide) ?_
    refine v_icmp_ge K 14 dX1_isSeat_7 (by decide) hM (fun hM => ?_) (fun hM => ?_)
    · refine v_iconst (v := (0 : Int32)) K dX1_isSeat_14 (by decide) ?_
      exact v_zret K rfl rfl dX1_isSeat_15 hM
    · refine v_iconst (v := (1 : Int32)) K dX1_isSeat_10 (by decide) ?_
      refine v_goto (tgt := 15) K dX1_isSeat_11 (by decide) ?_
      exact v_zret K rfl rfl dX1_isSeat_15 hM
noncomputable def F_X1_boundTo (n : Nat) (b0 : Nat) (p1 : Int32) (σ : St) : Option (Int32 × St) := bd (F_X1_isSeat n p1 σ) fun r2 s1 => if r2 = 0 then (some ((-1 : Int32), s1)) else (gd (vp_in p1 7) (some ((gI s1 (b0 + 1) (p1).toNatClampNeg), s1)))
set_option maxHeartbeats 4000000 in
set_option maxRecDepth 20000 in
theorem c_X1_boundTo (l : Launch) {D : va_G} {A : Nat → Prop} {ad : Nat → Nat} {dA : Nat → ClassId} (b0 : Nat) (hb0 : isB b0) (n : Nat) (p1 : Int32) (σ : St) {res : Int32 × St} (hM : F_X1_boundTo n b0 p1 σ = some res) : MI l yX1_boundTo cX1_boundTo 2 (some .int) 2 D (tysX dA) (wdX ad dA) A [.ref (ad b0), .int p1] σ (QI D (wdX ad dA) A res) := by
  refine mk_met (by decide +kernel) (Nat.le_of_ble_eq_true rfl) (fun p e s m below meth c K => ?_)
  have K : Cx p s m _ meth c cX1_boundTo 2 (some .int) RX1 D (tysX dA) (wdX ad dA) A := K
  refine v_iload_n K dX1_boundTo_0 1 rfl ?_
  refine x_Si (As := [.int p1]) (st := []) K us_X1_isSeat qm_X1_19 dX1_boundTo_1 (fun _ h => c_X1_isSeat l  n p1 σ h) rfl ⟨(Nat.le_of_ble_eq_true rfl), (Nat.le_of_ble_eq_true rfl)⟩ (Nat.le_of_ble_eq_true rfl) hM (fun r2 s1 hM => ?_)
  refine v_if_eq K 16 dX1_boundTo_4 (by decide) hM (fun hM => ?_) (fun hM => ?_)
  · refine v_iconst (v := (-1 : Int32)) K dX1_boundTo_16 (by decide) ?_
    exact v_iret K rfl dX1_boundTo_17 hM
  · refine v_aload_n K dX1_boundTo_7 0 rfl ?_
    refine g_X1_0 K hb0 qf_X1_9 dX1_boundTo_8 ?_
    refine v_iload_n K dX1_boundTo_11 1 rfl ?_
    refine ld_X1a1 K hb0 dX1_boundTo_12 hM (fun hM => ?_)
    refine v_goto (tgt := 17) K dX1_boundTo_13 (by decide) ?_
    exact v_iret K rfl dX1_boundTo_17 hM
noncomputable def F_X1_isFree (n : Nat) (b0 : Nat) (p1 : Int32) (σ : St) : Option (Int32 × St) := bd (F_X1_isSeat n p1 σ) fun r2 s1 => if r2 = 0 then (some ((0 : Int32), s1)) else (gd (vp_in p1 7) (if (gI s1 (b0 + 1) (p1).toNatClampNeg) = (-1 : Int32) then (some ((1 : Int32), s1)) else (some ((0 : Int32), s1))))
set_option maxHeartbeats 4000000 in
set_option maxRecDepth 20000 in
theorem c_X1_isFree (l : Launch) {D : va_G} {A : Nat → Prop} {ad : Nat → Nat} {dA : Nat → ClassId} (b0 : Nat) (hb0 : isB b0) (n : Nat) (p1 : Int32) (σ : St) {res : Int32 × St} (hM : F_X1_isFree n b0 p1 σ = some res) : MI l yX1_isFree cX1_isFree 2 (some .boolean) 2 D (tysX dA) (wdX ad dA) A [.ref (ad b0), .int p1] σ (QI D (wdX ad dA) A res) := by
  refine mk_met (by decide +kernel) (Nat.le_of_ble_eq_true rfl) (fun p e s m below meth c K => ?_)
  have K : Cx p s m _ meth c cX1_isFree 2 (some .boolean) RX1 D (tysX dA) (wdX ad dA) A := K
  refine v_iload_n K dX1_isFree_0 1 rfl ?_
  refine x_Si (As := [.int p1]) (st := []) K us_X1_isSeat qm_X1_19 dX1_isFree_1 (fun _ h => c_X1_isSeat l  n p1 σ h) rfl ⟨(Nat.le_of_ble_eq_true rfl), (Nat.le_of_ble_eq_true rfl)⟩ (Nat.le_of_ble_eq_true rfl) hM (fun r2 s1 hM => ?_)
  refine v_if_eq K 21 dX1_isFree_4 (by decide) hM (fun hM => ?_) (fun hM => ?_)
  · refine v_iconst (v := (0 : Int32)) K dX1_isFree_21 (by decide) ?_
    exact v_zret K rfl rfl dX1_isFree_22 hM
  · refine v_aload_n K dX1_isFree_7 0 rfl ?_
    refine g_X1_0 K hb0 qf_X1_9 dX1_isFree_8 ?_
    refine v_iload_n K dX1_isFree_11 1 rfl ?_
    refine ld_X1a1 K hb0 dX1_isFree_12 hM (fun hM => ?_)
    refine v_iconst (v := (-1 : Int32)) K dX1_isFree_13 (by decide) ?_
    refine v_icmp_ne K 21 dX1_isFree_14 (by decide) hM (fun hM => ?_) (fun hM => ?_)
    · refine v_iconst (v := (0 : Int32)) K dX1_isFree_21 (by decide) ?_
      exact v_zret K rfl rfl dX1_isFree_22 hM
    · refine v_iconst (v := (1 : Int32)) K dX1_isFree_17 (by decide) ?_
      refine v_goto (tgt := 22) K dX1_isFree_18 (by decide) ?_
      exact v_zret K rfl rfl dX1_isFree_22 hM
noncomputable def F_X1_casesAhead (n : Nat) (b0 : Nat) (σ : St) : Option (Int32 × St) := some ((gI σ b0 1), σ)
set_option maxHeartbeats 4000000 in
set_option maxRecDepth 20000 in
theorem c_X1_casesAhead (l : Launch) {D : va_G} {A : Nat → Prop} {ad : Nat → Nat} {dA : Nat → ClassId} (b0 : Nat) (hb0 : isB b0) (n : Nat)  (σ : St) {res : Int32 × St} (hM : F_X1_casesAhead n b0 σ = some res) : MI l yX1_casesAhead cX1_casesAhead 1 (some .int) 1 D (tysX dA) (wdX ad dA) A [.ref (ad b0)] σ (QI D (wdX ad dA) A res) := by
  refine mk_met (by decide +kernel) (Nat.le_of_ble_eq_true rfl) (fun p e s m below meth c K => ?_)
  have K : Cx p s m _ meth c cX1_casesAhead 1 (some .int) RX1 D (tysX dA) (wdX ad dA) A := K
  refine v_aload_n K dX1_casesAhead_0 0 rfl ?_
  refine g_X1_1 K hb0 qf_X1_15 dX1_casesAhead_1 ?_
  exact v_iret K rfl dX1_casesAhead_4 hM
noncomputable def B_X1_howManyBound_1 (J : Nat → Int32 → Int32 → St → Option (Int32 × St)) (n : Nat) (b0 : Nat) (l1 : Int32) (l2 : Int32) (σ : St) : Option (Int32 × St) := if (7 : Int32) ≤ l2 then (some (l1, σ)) else (gd (vp_in l2 7) (if (gI σ (b0 + 1) (l2).toNatClampNeg) = (-1 : Int32) then (bnd (l2 + (1 : Int32)) fun x1 => J 1 l1 x1 σ) else (bnd (l1 + (1 : Int32)) fun x2 => bnd (l2 + (1 : Int32)) fun x3 => J 1 x2 x3 σ)))
noncomputable def S_X1_howManyBound (b0 : Nat) (n : Nat) (J : Nat → Int32 → Int32 → St → Option (Int32 × St)) : Nat → Int32 → Int32 → St → Option (Int32 × St) := fun lb a0 a1 σ => match lb with
  | 1 => B_X1_howManyBound_1 J n b0 a0 a1 σ
  | _ => none
noncomputable def L_X1_howManyBound (b0 : Nat) (n : Nat) : Nat → Int32 → Int32 → St → Option (Int32 × St) := Nat.rec (fun _ _ _ _ => none) (fun n J => S_X1_howManyBound b0 n J) n
noncomputable def F_X1_howManyBound (n : Nat) (b0 : Nat) (σ : St) : Option (Int32 × St) := L_X1_howManyBound b0 n 1 (0 : Int32) (0 : Int32) σ
set_option maxHeartbeats 4000000 in
set_option maxRecDepth 20000 in
theorem t_X1_howManyBound (l : Launch) {p : Program} {e : Env} {s : State} {m : MethodId} {args : Array Value} {below : List Frame} {meth : Method} {c : Code} {D : va_G} {A : Nat → Prop} {ad : Nat → Nat} {dA : Nat → ClassId} (b0 : Nat) (hb0 : isB b0) (K : Cx p s m args meth c cX1_howManyBound 3 (some .int) RX1 D (tysX dA) (wdX ad dA) A) {res : Int32 × St} (n : Nat) : (∀ (l1 : Int32) (l2 : Int32) (σ : St), L_X1_howManyBound b0 n 1 l1 l2 σ = some res → V p l e (rmH 1) s m args below meth c 3 D (wdX ad dA) A (MQ below (QI D (wdX ad dA) A res) args s 0 0 A) 4 [(0, .ref (ad b0)), (1, .int l1), (2, .int l2)] [] σ) := by
  induction n with
  | zero => exact (fun _ _ _ h => by cases h)
  | succ n ih =>
    have ih_1 := ih
    · intro l1 l2 σ hM
      have hM : B_X1_howManyBound_1 (L_X1_howManyBound b0 n) n b0 l1 l2 σ = some res := hM
      refine v_iload_n K dX1_howManyBound_4 2 rfl ?_
      refine v_bipush (v := (7 : Int32)) K dX1_howManyBound_5 (by decide) ?_
      refine v_icmp_ge K 29 dX1_howManyBound_7 (by decide) hM (fun hM => ?_) (fun hM => ?_)
      · refine v_iload_n K dX1_howManyBound_29 1 rfl ?_
        exact v_iret K rfl dX1_howManyBound_30 hM
      · refine v_aload_n K dX1_howManyBound_10 0 rfl ?_
        refine g_X1_0 K hb0 qf_X1_9 dX1_howManyBound_11 ?_
        refine v_iload_n K dX1_howManyBound_14 2 rfl ?_
        refine ld_X1a1 K hb0 dX1_howManyBound_15 hM (fun hM => ?_)
        refine v_iconst (v := (-1 : Int32)) K dX1_howManyBound_16 (by decide) ?_
        refine v_icmp_eq K 23 dX1_howManyBound_17 (by decide) hM (fun hM => ?_) (fun hM => ?_)
        · refine v_iinc K dX1_howManyBound_23 2 rfl (v := (l2 + (1 : Int32))) rfl (by decide) hM (fun y => [(2, .int y), (0, .ref (ad b0)), (1, .int l1)]) (fun _ => rfl) (fun x1 hM => ?_)
          refine v_goto (tgt := 4) K dX1_howManyBound_26 (by decide) ?_
          exact v_sub [1, 2, 0] rfl (ih_1 l1 x1 σ hM)
        · refine v_iinc K dX1_howManyBound_20 1 rfl (v := (l1 + (1 : Int32))) rfl (by decide) hM (fun y => [(1, .int y), (0, .ref (ad b0)), (2, .int l2)]) (fun _ => rfl) (fun x2 hM => ?_)
          refine v_iinc K dX1_howManyBound_23 2 rfl (v := (l2 + (1 : Int32))) rfl (by decide) hM (fun y => [(2, .int y), (1, .int x2), (0, .ref (ad b0))]) (fun _ => rfl) (fun x3 hM => ?_)
          refine v_goto (tgt := 4) K dX1_howManyBound_26 (by decide) ?_
          exact v_sub [2, 1, 0] rfl (ih_1 x2 x3 σ hM)
set_option maxHeartbeats 4000000 in
set_option maxRecDepth 20000 in
theorem c_X1_howManyBound (l : Launch) {D : va_G} {A : Nat → Prop} {ad : Nat → Nat} {dA : Nat → ClassId} (b0 : Nat) (hb0 : isB b0) (n : Nat)  (σ : St) {res : Int32 × St} (hM : F_X1_howManyBound n b0 σ = some res) : MI l yX1_howManyBound cX1_howManyBound 3 (some .int) 1 D (tysX dA) (wdX ad dA) A [.ref (ad b0)] σ (QI D (wdX ad dA) A res) := by
  refine mk_met (by decide +kernel) (Nat.le_of_ble_eq_true rfl) (fun p e s m below meth c K => ?_)
  have K : Cx p s m _ meth c cX1_howManyBound 3 (some .int) RX1 D (tysX dA) (wdX ad dA) A := K
  have ih_1 := t_X1_howManyBound l b0 hb0  K (res := res) n (below := below) (e := e)
  refine v_iconst (v := (0 : Int32)) K dX1_howManyBound_0 (by decide) ?_
  refine v_istore_n K dX1_howManyBound_1 rfl (by decide) [(1, .int (0 : Int32)), (0, .ref (ad b0))] rfl ?_
  refine v_iconst (v := (0 : Int32)) K dX1_howManyBound_2 (by decide) ?_
  refine v_istore_n K dX1_howManyBound_3 rfl (by decide) [(2, .int (0 : Int32)), (1, .int (0 : Int32)), (0, .ref (ad b0))] rfl ?_
  exact v_sub [2, 1, 0] rfl (ih_1 (0 : Int32) (0 : Int32) σ hM)
noncomputable def B_X1_speakerFor_1 (J : Nat → Int32 → Int32 → St → Option (Int32 × St)) (n : Nat) (b0 : Nat) (l1 : Int32) (l2 : Int32) (σ : St) : Option (Int32 × St) := if (7 : Int32) ≤ l2 then (some (l1, σ)) else (gd (vp_in l2 7) (if (gI σ (b0 + 1) (l2).toNatClampNeg) = l1 then (some (l2, σ)) else (bnd (l2 + (1 : Int32)) fun x1 => J 1 l1 x1 σ)))
noncomputable def S_X1_speakerFor (b0 : Nat) (n : Nat) (J : Nat → Int32 → Int32 → St → Option (Int32 × St)) : Nat → Int32 → Int32 → St → Option (Int32 × St) := fun lb a0 a1 σ => match lb with
  | 1 => B_X1_speakerFor_1 J n b0 a0 a1 σ
  | _ => none
noncomputable def L_X1_speakerFor (b0 : Nat) (n : Nat) : Nat → Int32 → Int32 → St → Option (Int32 × St) := Nat.rec (fun _ _ _ _ => none) (fun n J => S_X1_speakerFor b0 n J) n
noncomputable def F_X1_speakerFor (n : Nat) (b0 : Nat) (p1 : Int32) (σ : St) : Option (Int32 × St) := L_X1_speakerFor b0 n 1 p1 (0 : Int32) σ
set_option maxHeartbeats 4000000 in
set_option maxRecDepth 20000 in
theorem t_X1_speakerFor (l : Launch) {p : Program} {e : Env} {s : State} {m : MethodId} {args : Array Value} {below : List Frame} {meth : Method} {c : Code} {D : va_G} {A : Nat → Prop} {ad : Nat → Nat} {dA : Nat → ClassId} (b0 : Nat) (hb0 : isB b0) (K : Cx p s m args meth c cX1_speakerFor 3 (some .int) RX1 D (tysX dA) (wdX ad dA) A) {res : Int32 × St} (n : Nat) : (∀ (l1 : Int32) (l2 : Int32) (σ : St), L_X1_speakerFor b0 n 1 l1 l2 σ = some res → V p l e (rmH 1) s m args below meth c 3 D (wdX ad dA) A (MQ below (QI D (wdX ad dA) A res) args s 0 0 A) 2 [(0, .ref (ad b0)), (1, .int l1), (2, .int l2)] [] σ) := by
  induction n with
  | zero => exact (fun _ _ _ h => by cases h)
  | succ n ih =>
    have ih_1 := ih
    · intro l1 l2 σ hM
      have hM : B_X1_speakerFor_1 (L_X1_speakerFor b0 n) n b0 l1 l2 σ = some res := hM
      refine v_iload_n K dX1_speakerFor_2 2 rfl ?_
      refine v_bipush (v := (7 : Int32)) K dX1_speakerFor_3 (by decide) ?_
      refine v_icmp_ge K 26 dX1_speakerFor_5 (by decide) hM (fun hM => ?_) (fun hM => ?_)
      · refine v_iload_n K dX1_speakerFor_26 1 rfl ?_
        exact v_iret K rfl dX1_speakerFor_27 hM
      · refine v_aload_n K dX1_speakerFor_8 0 rfl ?_
        refine g_X1_0 K hb0 qf_X1_9 dX1_speakerFor_9 ?_
        refine v_iload_n K dX1_speakerFor_12 2 rfl ?_
        refine ld_X1a1 K hb0 dX1_speakerFor_13 hM (fun hM => ?_)
        refine v_iload_n K dX1_speakerFor_14 1 rfl ?_
        refine v_icmp_ne K 20 dX1_speakerFor_15 (by decide) hM (fun hM => ?_) (fun hM => ?_)
        · refine v_iinc K dX1_speakerFor_20 2 rfl (v := (l2 + (1 : Int32))) rfl (by decide) hM (fun y => [(2, .int y), (0, .ref (ad b0)), (1, .int l1)]) (fun _ => rfl) (fun x1 hM => ?_)
          refine v_goto (tgt := 2) K dX1_speakerFor_23 (by decide) ?_
          exact v_sub [1, 2, 0] rfl (ih_1 l1 x1 σ hM)
        · refine v_iload_n K dX1_speakerFor_18 2 rfl ?_
          exact v_iret K rfl dX1_speakerFor_19 hM
set_option maxHeartbeats 4000000 in
set_option maxRecDepth 20000 in
theorem c_X1_speakerFor (l : Launch) {D : va_G} {A : Nat → Prop} {ad : Nat → Nat} {dA : Nat → ClassId} (b0 : Nat) (hb0 : isB b0) (n : Nat) (p1 : Int32) (σ : St) {res : Int32 × St} (hM : F_X1_speakerFor n b0 p1 σ = some res) : MI l yX1_speakerFor cX1_speakerFor 3 (some .int) 1 D (tysX dA) (wdX ad dA) A [.ref (ad b0), .int p1] σ (QI D (wdX ad dA) A res) := by
  refine mk_met (by decide +kernel) (Nat.le_of_ble_eq_true rfl) (fun p e s m below meth c K => ?_)
  have K : Cx p s m _ meth c cX1_speakerFor 3 (some .int) RX1 D (tysX dA) (wdX ad dA) A := K
  have ih_1 := t_X1_speakerFor l b0 hb0  K (res := res) n (below := below) (e := e)
  refine v_iconst (v := (0 : Int32)) K dX1_speakerFor_0 (by decide) ?_
  refine v_istore_n K dX1_speakerFor_1 rfl (by decide) [(2, .int (0 : Int32)), (0, .ref (ad b0)), (1, .int p1)] rfl ?_
  exact v_sub [1, 2, 0] rfl (ih_1 p1 (0 : Int32) σ hM)
noncomputable def F_X1_setFree (n : Nat) (b0 : Nat) (p1 : Int32) (σ : St) : Option (Unit × St) := bd (F_X1_isSeat n p1 σ) fun r2 s1 => if r2 = 0 then (some ((), s1)) else (gd (vp_in p1 7) (bnd (sI s1 (b0 + 1) (p1).toNatClampNeg (-1 : Int32)) fun s3 => some ((), s3)))
set_option maxHeartbeats 4000000 in
set_option maxRecDepth 20000 in
theorem c_X1_setFree (l : Launch) {D : va_G} {A : Nat → Prop} {ad : Nat → Nat} {dA : Nat → ClassId} (b0 : Nat) (hb0 : isB b0) (n : Nat) (p1 : Int32) (σ : St) {res : Unit × St} (hM : F_X1_setFree n b0 p1 σ = some res) : MI l yX1_setFree cX1_setFree 2 none 2 D (tysX dA) (wdX ad dA) A [.ref (ad b0), .int p1] σ (QV D (wdX ad dA) A res) := by
  refine mk_met (by decide +kernel) (Nat.le_of_ble_eq_true rfl) (fun p e s m below meth c K => ?_)
  have K : Cx p s m _ meth c cX1_setFree 2 none RX1 D (tysX dA) (wdX ad dA) A := K
  refine v_iload_n K dX1_setFree_0 1 rfl ?_
  refine x_Si (As := [.int p1]) (st := []) K us_X1_isSeat qm_X1_19 dX1_setFree_1 (fun _ h => c_X1_isSeat l  n p1 σ h) rfl ⟨(Nat.le_of_ble_eq_true rfl), (Nat.le_of_ble_eq_true rfl)⟩ (Nat.le_of_ble_eq_true rfl) hM (fun r2 s1 hM => ?_)
  refine v_if_eq K 14 dX1_setFree_4 (by decide) hM (fun hM => ?_) (fun hM => ?_)
  · exact v_vret K rfl dX1_setFree_14 hM
  · refine v_aload_n K dX1_setFree_7 0 rfl ?_
    refine g_X1_0 K hb0 qf_X1_9 dX1_setFree_8 ?_
    refine v_iload_n K dX1_setFree_11 1 rfl ?_
    refine v_iconst (v := (-1 : Int32)) K dX1_setFree_12 (by decide) ?_
    refine st_X1a1 K hb0 dX1_setFree_13 hM (fun s3 hM => ?_)
    exact v_vret K rfl dX1_setFree_14 hM
noncomputable def F_X1_settle (n : Nat) (b0 : Nat) (p1 : Int32) (p2 : Int32) (p3 : Int32) (σ : St) : Option (Unit × St) := bd (F_X1_isSeat n p1 σ) fun r2 s1 => if r2 = 0 then (some ((), s1)) else (bd (F_X1_isSeat n p2 s1) fun r4 s3 => if r4 = 0 then (some ((), s3)) else (bd (F_X1_speakerFor n b0 p2 s3) fun r6 s5 => if p3 = 0 then (gd (vp_in r6 7) (bnd (sI s5 (b0 + 1) (r6).toNatClampNeg (-1 : Int32)) fun s7 => gd (vp_in p1 7) (bnd (sI s7 (b0 + 1) (p1).toNatClampNeg p2) fun s8 => bnd (sI s8 b0 1 ((gI s8 b0 1) + (1 : Int32))) fun s9 => some ((), s9)))) else (gd (vp_in r6 7) (bnd (sI s5 (b0 + 1) (r6).toNatClampNeg r6) fun s10 => gd (vp_in p2 7) (bnd (sI s10 (b0 + 1) (p2).toNatClampNeg (-1 : Int32)) fun s11 => bnd (sI s11 b0 1 ((gI s11 b0 1) + (1 : Int32))) fun s12 => some ((), s12))))))
set_option maxHeartbeats 4000000 in
set_option maxRecDepth 20000 in
theorem c_X1_settle (l : Launch) {D : va_G} {A : Nat → Prop} {ad : Nat → Nat} {dA : Nat → ClassId} (b0 : Nat) (hb0 : isB b0) (n : Nat) (p1 : Int32) (p2 : Int32) (p3 : Int32) (σ : St) {res : Unit × St} (hM : F_X1_settle n b0 p1 p2 p3 σ = some res) : MI l yX1_settle cX1_settle 5 none 2 D (tysX dA) (wdX ad dA) A [.ref (ad b0), .int p1, .int p2, .int p3] σ (QV D (wdX ad dA) A res) := by
  refine mk_met (by decide +kernel) (Nat.le_of_ble_eq_true rfl) (fun p e s m below meth c K => ?_)
  have K : Cx p s m _ meth c cX1_settle 5 none RX1 D (tysX dA) (wdX ad dA) A := K
  refine v_iload_n K dX1_settle_0 1 rfl ?_
  refine x_Si (As := [.int p1]) (st := []) K us_X1_isSeat qm_X1_19 dX1_settle_1 (fun _ h => c_X1_isSeat l  n p1 σ h) rfl ⟨(Nat.le_of_ble_eq_true rfl), (Nat.le_of_ble_eq_true rfl)⟩ (Nat.le_of_ble_eq_true rfl) hM (fun r2 s1 hM => ?_)
  refine v_if_eq K 14 dX1_settle_4 (by decide) hM (fun hM => ?_) (fun hM => ?_)
  · exact v_vret K rfl dX1_settle_14 hM
  · refine v_iload_n K dX1_settle_7 2 rfl ?_
    refine x_Si (As := [.int p2]) (st := []) K us_X1_isSeat qm_X1_19 dX1_settle_8 (fun _ h => c_X1_isSeat l  n p2 s1 h) rfl ⟨(Nat.le_of_ble_eq_true rfl), (Nat.le_of_ble_eq_true rfl)⟩ (Nat.le_of_ble_eq_true rfl) hM (fun r4 s3 hM => ?_)
    refine v_if_ne K 15 dX1_settle_11 (by decide) hM (fun hM => ?_) (fun hM => ?_)
    · refine v_aload_n K dX1_settle_15 0 rfl ?_
      refine v_iload_n K dX1_settle_16 2 rfl ?_
      refine x_Vi (As := [.int p2]) (st := []) K uv_X1_speakerFor qm_X1_23 dX1_settle_17 (rv_X1 hb0) (fun _ h => c_X1_speakerFor l b0 hb0 n p2 s3 h) rfl ⟨(Nat.le_of_ble_eq_true rfl), (Nat.le_of_ble_eq_true rfl)⟩ (Nat.le_of_ble_eq_true rfl) hM (fun r6 s5 hM => ?_)
      refine v_istore K dX1_settle_20 (by decide) [(4, .int r6), (0, .ref (ad b0)), (1, .int p1), (2, .int p2), (3, .int p3)] rfl ?_
      refine v_iload_n K dX1_settle_22 4 rfl ?_
      refine v_if_eq K 45 dX1_settle_23 (by decide) hM (fun hM => ?_) (fun hM => ?_)
      · refine v_aload_n K dX1_settle_45 1 rfl ?_
        refine g_X1_0 K hb0 qf_X1_9 dX1_settle_46 ?_
        refine v_iload K dX1_settle_49 0 rfl ?_
        refine v_iconst (v := (-1 : Int32)) K dX1_settle_51 (by decide) ?_
        refine st_X1a1 K hb0 dX1_settle_52 hM (fun s7 hM => ?_)
        refine v_aload_n K dX1_settle_53 1 rfl ?_
        refine g_X1_0 K hb0 qf_X1_9 dX1_settle_54 ?_
        refine v_iload_n K dX1_settle_57 2 rfl ?_
        refine v_iload_n K dX1_settle_58 3 rfl ?_
        refine st_X1a1 K hb0 dX1_settle_59 hM (fun s8 hM => ?_)
        refine v_aload_n K dX1_settle_60 1 rfl ?_
        refine v_dup K dX1_settle_61 rfl ?_
        refine g_X1_1 K hb0 qf_X1_15 dX1_settle_62 ?_
        refine v_iconst (v := (1 : Int32)) K dX1_settle_65 (by decide) ?_
        refine v_iadd K dX1_settle_66 ?_
        refine p_X1_1 K hb0 qf_X1_15 dX1_settle_67 hM (fun s9 hM => ?_)
        exact v_vret K rfl dX1_settle_70 hM
      · refine v_aload_n K dX1_settle_26 1 rfl ?_
        refine g_X1_0 K hb0 qf_X1_9 dX1_settle_27 ?_
        refine v_iload K dX1_settle_30 0 rfl ?_
        refine v_iload K dX1_settle_32 0 rfl ?_
        refine st_X1a1 K hb0 dX1_settle_34 hM (fun s10 hM => ?_)
        refine v_aload_n K dX1_settle_35 1 rfl ?_
        refine g_X1_0 K hb0 qf_X1_9 dX1_settle_36 ?_
        refine v_iload_n K dX1_settle_39 3 rfl ?_
        refine v_iconst (v := (-1 : Int32)) K dX1_settle_40 (by decide) ?_
        refine st_X1a1 K hb0 dX1_settle_41 hM (fun s11 hM => ?_)
        refine v_goto (tgt := 60) K dX1_settle_42 (by decide) ?_
        refine v_aload_n K dX1_settle_60 1 rfl ?_
        refine v_dup K dX1_settle_61 rfl ?_
        refine g_X1_1 K hb0 qf_X1_15 dX1_settle_62 ?_
        refine v_iconst (v := (1 : Int32)) K dX1_settle_65 (by decide) ?_
        refine v_iadd K dX1_settle_66 ?_
        refine p_X1_1 K hb0 qf_X1_15 dX1_settle_67 hM (fun s12 hM => ?_)
        exact v_vret K rfl dX1_settle_70 hM
    · exact v_vret K rfl dX1_settle_14 hM
noncomputable def B_X1_beginYear_1 (J : Nat → Int32 → St → Option (Unit × St)) (n : Nat) (b0 : Nat) (l1 : Int32) (σ : St) : Option (Unit × St) := if (7 : Int32) ≤ l1 then (bnd (sI σ b0 1 (0 : Int32)) fun s1 => some ((), s1)) else (gd (vp_in l1 7) (bnd (sI σ (b0 + 1) (l1).toNatClampNeg (-1 : Int32)) fun s2 => bnd (l1 + (1 : Int32)) fun x3 => J 1 x3 s2))
noncomputable def S_X1_beginYear (b0 : Nat) (n : Nat) (J : Nat → Int32 → St → Option (Unit × St)) : Nat → Int32 → St → Option (Unit × St) := fun lb a0 σ => match lb with
  | 1 => B_X1_beginYear_1 J n b0 a0 σ
  | _ => none
noncomputable def L_X1_beginYear (b0 : Nat) (n : Nat) : Nat → Int32 → St → Option (Unit × St) := Nat.rec (fun _ _ _ => none) (fun n J => S_X1_beginYear b0 n J) n
noncomputable def F_X1_beginYear (n : Nat) (b0 : Nat) (σ : St) : Option (Unit × St) := L_X1_beginYear b0 n 1 (0 : Int32) σ
set_option maxHeartbeats 4000000 in
set_option maxRecDepth 20000 in
theorem t_X1_beginYear (l : Launch) {p : Program} {e : Env} {s : State} {m : MethodId} {args : Array Value} {below : List Frame} {meth : Method} {c : Code} {D : va_G} {A : Nat → Prop} {ad : Nat → Nat} {dA : Nat → ClassId} (b0 : Nat) (hb0 : isB b0) (K : Cx p s m args meth c cX1_beginYear 2 none RX1 D (tysX dA) (wdX ad dA) A) {res : Unit × St} (n : Nat) : (∀ (l1 : Int32) (σ : St), L_X1_beginYear b0 n 1 l1 σ = some res → V p l e (rmH 1) s m args below meth c 2 D (wdX ad dA) A (MQ below (QV D (wdX ad dA) A res) args s 0 0 A) 2 [(0, .ref (ad b0)), (1, .int l1)] [] σ) := by
  induction n with
  | zero => exact (fun _ _ h => by cases h)
  | succ n ih =>
    have ih_1 := ih
    · intro l1 σ hM
      have hM : B_X1_beginYear_1 (L_X1_beginYear b0 n) n b0 l1 σ = some res := hM
      refine v_iload_n K dX1_beginYear_2 1 rfl ?_
      refine v_bipush (v := (7 : Int32)) K dX1_beginYear_3 (by decide) ?_
      refine v_icmp_ge K 21 dX1_beginYear_5 (by decide) hM (fun hM => ?_) (fun hM => ?_)
      · refine v_aload_n K dX1_beginYear_21 0 rfl ?_
        refine v_iconst (v := (0 : Int32)) K dX1_beginYear_22 (by decide) ?_
        refine p_X1_1 K hb0 qf_X1_15 dX1_beginYear_23 hM (fun s1 hM => ?_)
        exact v_vret K rfl dX1_beginYear_26 hM
      · refine v_aload_n K dX1_beginYear_8 0 rfl ?_
        refine g_X1_0 K hb0 qf_X1_9 dX1_beginYear_9 ?_
        refine v_iload_n K dX1_beginYear_12 1 rfl ?_
        refine v_iconst (v := (-1 : Int32)) K dX1_beginYear_13 (by decide) ?_
        refine st_X1a1 K hb0 dX1_beginYear_14 hM (fun s2 hM => ?_)
        refine v_iinc K dX1_beginYear_15 1 rfl (v := (l1 + (1 : Int32))) rfl (by decide) hM (fun y => [(1, .int y), (0, .ref (ad b0))]) (fun _ => rfl) (fun x3 hM => ?_)
        refine v_goto (tgt := 2) K dX1_beginYear_18 (by decide) ?_
        exact v_sub [1, 0] rfl (ih_1 x3 s2 hM)
set_option maxHeartbeats 4000000 in
set_option maxRecDepth 20000 in
theorem c_X1_beginYear (l : Launch) {D : va_G} {A : Nat → Prop} {ad : Nat → Nat} {dA : Nat → ClassId} (b0 : Nat) (hb0 : isB b0) (n : Nat)  (σ : St) {res : Unit × St} (hM : F_X1_beginYear n b0 σ = some res) : MI l yX1_beginYear cX1_beginYear 2 none 1 D (tysX dA) (wdX ad dA) A [.ref (ad b0)] σ (QV D (wdX ad dA) A res) := by
  refine mk_met (by decide +kernel) (Nat.le_of_ble_eq_true rfl) (fun p e s m below meth c K => ?_)
  have K : Cx p s m _ meth c cX1_beginYear 2 none RX1 D (tysX dA) (wdX ad dA) A := K
  have ih_1 := t_X1_beginYear l b0 hb0  K (res := res) n (below := below) (e := e)
  refine v_iconst (v := (0 : Int32)) K dX1_beginYear_0 (by decide) ?_
  refine v_istore_n K dX1_beginYear_1 rfl (by decide) [(1, .int (0 : Int32)), (0, .ref (ad b0))] rfl ?_
  exact v_sub [1, 0] rfl (ih_1 (0 : Int32) σ hM)
noncomputable def F_X1_copyFrom (n : Nat) (b0 : Nat) (b1 : Nat) (σ : St) : Option (Unit × St) := gd (¬ (0 : Int32) < 0 ∧ ¬ (0 : Int32) < 0 ∧ ¬ (7 : Int32) < 0 ∧ ((0 : Int32)).toNatClampNeg + ((7 : Int32)).toNatClampNeg ≤ 7 ∧ ((0 : Int32)).toNatClampNeg + ((7 : Int32)).toNatClampNeg ≤ 7 ∧ ∀ i, i < ((7 : Int32)).toNatClampNeg → fits .int (.int (gI σ (b1 + 1) (((0 : Int32)).toNatClampNeg + i))) = true) (bnd (cI σ (b1 + 1) (b0 + 1) ((0 : Int32)).toNatClampNeg ((0 : Int32)).toNatClampNeg ((7 : Int32)).toNatClampNeg) fun s1 => bnd (sI s1 b0 1 (gI s1 b1 1)) fun s2 => some ((), s2))
set_option maxHeartbeats 4000000 in
set_option maxRecDepth 20000 in
theorem c_X1_copyFrom (l : Launch) {D : va_G} {A : Nat → Prop} {ad : Nat → Nat} {dA : Nat → ClassId} (b0 : Nat) (hb0 : isB b0) (b1 : Nat) (hb1 : isB b1) (n : Nat)  (σ : St) {res : Unit × St} (hM : F_X1_copyFrom n b0 b1 σ = some res) : MI l yX1_copyFrom cX1_copyFrom 2 none 1 D (tysX dA) (wdX ad dA) A [.ref (ad b0), .ref (ad b1)] σ (QV D (wdX ad dA) A res) := by
  refine mk_met (by decide +kernel) (Nat.le_of_ble_eq_true rfl) (fun p e s m below meth c K => ?_)
  have K : Cx p s m _ meth c cX1_copyFrom 2 none RX1 D (tysX dA) (wdX ad dA) A := K
  refine v_aload_n K dX1_copyFrom_0 1 rfl ?_
  refine g_X1_0 K hb1 qf_X1_9 dX1_copyFrom_1 ?_
  refine v_iconst (v := (0 : Int32)) K dX1_copyFrom_4 (by decide) ?_
  refine v_aload_n K dX1_copyFrom_5 0 rfl ?_
  refine g_X1_0 K hb0 qf_X1_9 dX1_copyFrom_6 ?_
  refine v_iconst (v := (0 : Int32)) K dX1_copyFrom_9 (by decide) ?_
  refine v_bipush (v := (7 : Int32)) K dX1_copyFrom_10 (by decide) ?_
  refine cp_X1a1 K hb1 hb0 qm_X1_27 dX1_copyFrom_12 (Nat.le_of_ble_eq_true rfl) (Nat.le_of_ble_eq_true rfl) hM (fun s1 hM => ?_)
  refine v_aload_n K dX1_copyFrom_15 0 rfl ?_
  refine v_aload_n K dX1_copyFrom_16 1 rfl ?_
  refine g_X1_1 K hb1 qf_X1_15 dX1_copyFrom_17 ?_
  refine p_X1_1 K hb0 qf_X1_15 dX1_copyFrom_20 hM (fun s2 hM => ?_)
  exact v_vret K rfl dX1_copyFrom_23 hM
noncomputable def B_X1_toCode_1 (J : Nat → Int32 → Int32 → St → Option (Int32 × St)) (n : Nat) (b0 : Nat) (l1 : Int32) (l2 : Int32) (σ : St) : Option (Int32 × St) := if l2 < 0 then (some (l1, σ)) else (gd (vp_in l2 7) (bnd (((l1 * (5 : Int32)) + (gI σ (b0 + 1) (l2).toNatClampNeg)) + (1 : Int32)) fun x1 => bnd (l2 + (-1 : Int32)) fun x2 => J 1 x1 x2 σ))
noncomputable def S_X1_toCode (b0 : Nat) (n : Nat) (J : Nat → Int32 → Int32 → St → Option (Int32 × St)) : Nat → Int32 → Int32 → St → Option (Int32 × St) := fun lb a0 a1 σ => match lb with
  | 1 => B_X1_toCode_1 J n b0 a0 a1 σ
  | _ => none
noncomputable def L_X1_toCode (b0 : Nat) (n : Nat) : Nat → Int32 → Int32 → St → Option (Int32 × St) := Nat.rec (fun _ _ _ _ => none) (fun n J => S_X1_toCode b0 n J) n
noncomputable def F_X1_toCode (n : Nat) (b0 : Nat) (σ : St) : Option (Int32 × St) := L_X1_toCode b0 n 1 (0 : Int32) (3 : Int32) σ
set_option maxHeartbeats 4000000 in
set_option maxRecDepth 20000 in
theorem t_X1_toCode (l : Launch) {p : Program} {e : Env} {s : State} {m : MethodId} {args : Array Value} {below : List Frame} {meth : Method} {c : Code} {D : va_G} {A : Nat → Prop} {ad : Nat → Nat} {dA : Nat → ClassId} (b0 : Nat) (hb0 : isB b0) (K : Cx p s m args meth c cX1_toCode 3 (some .int) RX1 D (tysX dA) (wdX ad dA) A) {res : Int32 × St} (n : Nat) : (∀ (l1 : Int32) (l2 : Int32) (σ : St), L_X1_toCode b0 n 1 l1 l2 σ = some res → V p l e (rmH 1) s m args below meth c 3 D (wdX ad dA) A (MQ below (QI D (wdX ad dA) A res) args s 0 0 A) 4 [(0, .ref (ad b0)), (1, .int l1), (2, .int l2)] [] σ) := by
  induction n with
  | zero => exact (fun _ _ _ h => by cases h)
  | succ n ih =>
    have ih_1 := ih
    · intro l1 l2 σ hM
      have hM : B_X1_toCode_1 (L_X1_toCode b0 n) n b0 l1 l2 σ = some res := hM
      refine v_iload_n K dX1_toCode_4 2 rfl ?_
      refine v_if_lt K 27 dX1_toCode_5 (by decide) hM (fun hM => ?_) (fun hM => ?_)
      · refine v_iload_n K dX1_toCode_27 1 rfl ?_
        exact v_iret K rfl dX1_toCode_28 hM
      · refine v_iload_n K dX1_toCode_8 1 rfl ?_
        refine v_iconst (v := (5 : Int32)) K dX1_toCode_9 (by decide) ?_
        refine v_imul K dX1_toCode_10 ?_
        refine v_aload_n K dX1_toCode_11 0 rfl ?_
        refine g_X1_0 K hb0 qf_X1_9 dX1_toCode_12 ?_
        refine v_iload_n K dX1_toCode_15 2 rfl ?_
        refine ld_X1a1 K hb0 dX1_toCode_16 hM (fun hM => ?_)
        refine v_iadd K dX1_toCode_17 ?_
        refine v_iconst (v := (1 : Int32)) K dX1_toCode_18 (by decide) ?_
        refine v_iadd K dX1_toCode_19 ?_
        refine v_topi hM (fun x1 hM => ?_)
        refine v_istore_n K dX1_toCode_20 rfl (by decide) [(1, .int x1), (0, .ref (ad b0)), (2, .int l2)] rfl ?_
        refine v_iinc K dX1_toCode_21 2 rfl (v := (l2 + (-1 : Int32))) rfl (by decide) hM (fun y => [(2, .int y), (1, .int x1), (0, .ref (ad b0))]) (fun _ => rfl) (fun x2 hM => ?_)
        refine v_goto (tgt := 4) K dX1_toCode_24 (by decide) ?_
        exact v_sub [2, 1, 0] rfl (ih_1 x1 x2 σ hM)
set_option maxHeartbeats 4000000 in
set_option maxRecDepth 20000 in
theorem c_X1_toCode (l : Launch) {D : va_G} {A : Nat → Prop} {ad : Nat → Nat} {dA : Nat → ClassId} (b0 : Nat) (hb0 : isB b0) (n : Nat)  (σ : St) {res : Int32 × St} (hM : F_X1_toCode n b0 σ = some res) : MI l yX1_toCode cX1_toCode 3 (some .int) 1 D (tysX dA) (wdX ad dA) A [.ref (ad b0)] σ (QI D (wdX ad dA) A res) := by
  refine mk_met (by decide +kernel) (Nat.le_of_ble_eq_true rfl) (fun p e s m below meth c K => ?_)
  have K : Cx p s m _ meth c cX1_toCode 3 (some .int) RX1 D (tysX dA) (wdX ad dA) A := K
  have ih_1 := t_X1_toCode l b0 hb0  K (res := res) n (below := below) (e := e)
  refine v_iconst (v := (0 : Int32)) K dX1_toCode_0 (by decide) ?_
  refine v_istore_n K dX1_toCode_1 rfl (by decide) [(1, .int (0 : Int32)), (0, .ref (ad b0))] rfl ?_
  refine v_iconst (v := (3 : Int32)) K dX1_toCode_2 (by decide) ?_
  refine v_istore_n K dX1_toCode_3 rfl (by decide) [(2, .int (3 : Int32)), (1, .int (0 : Int32)), (0, .ref (ad b0))] rfl ?_
  exact v_sub [2, 1, 0] rfl (ih_1 (0 : Int32) (3 : Int32) σ hM)
noncomputable def B_X1_fromCode_1 (J : Nat → Int32 → Int32 → Int32 → St → Option (Unit × St)) (n : Nat) (b0 : Nat) (l2 : Int32) (l3 : Int32) (l4 : Int32) (σ : St) : Option (Unit × St) := if (4 : Int32) ≤ l4 then (bnd (sI σ b0 1 l2) fun s2 => some ((), s2)) else (gd (¬ (5 : Int32) = 0) (bnd (l3 - l3 / (5 : Int32) * (5 : Int32)) fun x3 => gd (vp_in l4 7) (bnd (sI σ (b0 + 1) (l4).toNatClampNeg (x3 - (1 : Int32))) fun s4 => gd (¬ (5 : Int32) = 0) (bnd (l3 / (5 : Int32)) fun x5 => bnd (l4 + (1 : Int32)) fun x6 => J 1 l2 x5 x6 s4))))
noncomputable def S_X1_fromCode (b0 : Nat) (n : Nat) (J : Nat → Int32 → Int32 → Int32 → St → Option (Unit × St)) : Nat → Int32 → Int32 → Int32 → St → Option (Unit × St) := fun lb a0 a1 a2 σ => match lb with
  | 1 => B_X1_fromCode_1 J n b0 a0 a1 a2 σ
  | _ => none
noncomputable def L_X1_fromCode (b0 : Nat) (n : Nat) : Nat → Int32 → Int32 → Int32 → St → Option (Unit × St) := Nat.rec (fun _ _ _ _ _ => none) (fun n J => S_X1_fromCode b0 n J) n
noncomputable def F_X1_fromCode (n : Nat) (b0 : Nat) (p1 : Int32) (p2 : Int32) (σ : St) : Option (Unit × St) := bd (F_X1_beginYear n b0 σ) fun _ s1 => L_X1_fromCode b0 n 1 p2 p1 (0 : Int32) s1
set_option maxHeartbeats 4000000 in
set_option maxRecDepth 20000 in
theorem t_X1_fromCode (l : Launch) {p : Program} {e : Env} {s : State} {m : MethodId} {args : Array Value} {below : List Frame} {meth : Method} {c : Code} {D : va_G} {A : Nat → Prop} {ad : Nat → Nat} {dA : Nat → ClassId} (b0 : Nat) (hb0 : isB b0) (K : Cx p s m args meth c cX1_fromCode 5 none RX1 D (tysX dA) (wdX ad dA) A) {res : Unit × St} (n : Nat) : (∀ (l2 : Int32) (l3 : Int32) (l4 : Int32) (σ : St), L_X1_fromCode b0 n 1 l2 l3 l4 σ = some res → V p l e (rmH 2) s m args below meth c 5 D (wdX ad dA) A (MQ below (QV D (wdX ad dA) A res) args s 0 0 A) 9 [(0, .ref (ad b0)), (2, .int l2), (3, .int l3), (4, .int l4)] [] σ) := by
  induction n with
  | zero => exact (fun _ _ _ _ h => by cases h)
  | succ n ih =>
    have ih_1 := ih
    · intro l2 l3 l4 σ hM
      have hM : B_X1_fromCode_1 (L_X1_fromCode b0 n) n b0 l2 l3 l4 σ = some res := hM
      refine v_iload K dX1_fromCode_9 3 rfl ?_
      refine v_iconst (v := (4 : Int32)) K dX1_fromCode_11 (by decide) ?_
      refine v_icmp_ge K 37 dX1_fromCode_12 (by decide) hM (fun hM => ?_) (fun hM => ?_)
      · refine v_aload_n K dX1_fromCode_37 0 rfl ?_
        refine v_iload_n K dX1_fromCode_38 1 rfl ?_
        refine p_X1_1 K hb0 qf_X1_15 dX1_fromCode_39 hM (fun s2 hM => ?_)
        exact v_vret K rfl dX1_fromCode_42 hM
      · refine v_aload_n K dX1_fromCode_15 0 rfl ?_
        refine g_X1_0 K hb0 qf_X1_9 dX1_fromCode_16 ?_
        refine v_iload K dX1_fromCode_19 3 rfl ?_
        refine v_iload_n K dX1_fromCode_21 2 rfl ?_
        refine v_iconst (v := (5 : Int32)) K dX1_fromCode_22 (by decide) ?_
        refine v_irem K dX1_fromCode_23 hM (fun hM => ?_)
        refine v_topi hM (fun x3 hM => ?_)
        refine v_iconst (v := (1 : Int32)) K dX1_fromCode_24 (by decide) ?_
        refine v_isub K dX1_fromCode_25 ?_
        refine st_X1a1 K hb0 dX1_fromCode_26 hM (fun s4 hM => ?_)
        refine v_iload_n K dX1_fromCode_27 2 rfl ?_
        refine v_iconst (v := (5 : Int32)) K dX1_fromCode_28 (by decide) ?_
        refine v_idiv K dX1_fromCode_29 hM (fun hM => ?_)
        refine v_topi hM (fun x5 hM => ?_)
        refine v_istore_n K dX1_fromCode_30 rfl (by decide) [(3, .int x5), (0, .ref (ad b0)), (2, .int l2), (4, .int l4)] rfl ?_
        refine v_iinc K dX1_fromCode_31 3 rfl (v := (l4 + (1 : Int32))) rfl (by decide) hM (fun y => [(4, .int y), (3, .int x5), (0, .ref (ad b0)), (2, .int l2)]) (fun _ => rfl) (fun x6 hM => ?_)
        refine v_goto (tgt := 9) K dX1_fromCode_34 (by decide) ?_
        exact v_sub [2, 3, 1, 0] rfl (ih_1 l2 x5 x6 s4 hM)
set_option maxHeartbeats 4000000 in
set_option maxRecDepth 20000 in
theorem c_X1_fromCode (l : Launch) {D : va_G} {A : Nat → Prop} {ad : Nat → Nat} {dA : Nat → ClassId} (b0 : Nat) (hb0 : isB b0) (n : Nat) (p1 : Int32) (p2 : Int32) (σ : St) {res : Unit × St} (hM : F_X1_fromCode n b0 p1 p2 σ = some res) : MI l yX1_fromCode cX1_fromCode 5 none 2 D (tysX dA) (wdX ad dA) A [.ref (ad b0), .int p1, .int p2] σ (QV D (wdX ad dA) A res) := by
  refine mk_met (by decide +kernel) (Nat.le_of_ble_eq_true rfl) (fun p e s m below meth c K => ?_)
  have K : Cx p s m _ meth c cX1_fromCode 5 none RX1 D (tysX dA) (wdX ad dA) A := K
  have ih_1 := t_X1_fromCode l b0 hb0  K (res := res) n (below := below) (e := e)
  refine v_aload_n K dX1_fromCode_0 0 rfl ?_
  refine x_Vv (As := []) (st := []) K uv_X1_beginYear qm_X1_35 dX1_fromCode_1 (rv_X1 hb0) (fun _ h => c_X1_beginYear l b0 hb0 n  σ h) rfl ⟨(Nat.le_of_ble_eq_true rfl), (Nat.le_of_ble_eq_true rfl)⟩ (Nat.le_of_ble_eq_true rfl) hM (fun s1 hM => ?_)
  refine v_iload_n K dX1_fromCode_4 1 rfl ?_
  refine v_istore_n K dX1_fromCode_5 rfl (by decide) [(3, .int p1), (0, .ref (ad b0)), (1, .int p1), (2, .int p2)] rfl ?_
  refine v_iconst (v := (0 : Int32)) K dX1_fromCode_6 (by decide) ?_
  refine v_istore K dX1_fromCode_7 (by decide) [(4, .int (0 : Int32)), (3, .int p1), (0, .ref (ad b0)), (1, .int p1), (2, .int p2)] rfl ?_
  exact v_sub [2, 4, 1, 0] rfl (ih_1 p2 p1 (0 : Int32) s1 hM)
