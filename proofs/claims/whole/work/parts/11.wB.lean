noncomputable def F_X2_isWhole (n : Nat) (b0 : Nat) (p1 : Int32) (σ : St) : Option (Int32 × St) := bd (F_X10_size n b0 σ) fun r2 s1 => if r2 < (((3 : Int32) * p1) + (3 : Int32)) then (some ((0 : Int32), s1)) else (some ((1 : Int32), s1))
set_option maxHeartbeats 4000000 in
set_option maxRecDepth 20000 in
theorem c_X2_isWhole (l : Launch) {D : va_G} {A : Nat → Prop} {ad : Nat → Nat} {dA : Nat → ClassId} (b0 : Nat) (hb0 : isS b0) (n : Nat) (p1 : Int32) (σ : St) {res : Int32 × St} (hM : F_X2_isWhole n b0 p1 σ = some res) : MI l yX2_isWhole cX2_isWhole 2 (some .boolean) 2 D (tysX dA) (wdX ad dA) A [.ref (ad b0), .int p1] σ (QI D (wdX ad dA) A res) := by
  refine mk_met (by decide +kernel) (Nat.le_of_ble_eq_true rfl) (fun p e s m below meth c K => ?_)
  have K : Cx p s m _ meth c cX2_isWhole 2 (some .boolean) RX2 D (tysX dA) (wdX ad dA) A := K
  refine v_iconst (v := (3 : Int32)) K dX2_isWhole_0 (by decide) ?_
  refine v_iload_n K dX2_isWhole_1 1 rfl ?_
  refine v_imul K dX2_isWhole_2 ?_
  refine v_iconst (v := (3 : Int32)) K dX2_isWhole_3 (by decide) ?_
  refine v_iadd K dX2_isWhole_4 ?_
  refine v_aload_n K dX2_isWhole_5 0 rfl ?_
  refine x_Vi (As := []) (st := [.int (((3 : Int32) * p1) + (3 : Int32))]) K uv_X10_size qm_X2_104 dX2_isWhole_6 (rv_X10 hb0) (fun _ h => c_X10_size l b0 hb0 n  σ h) rfl ⟨(Nat.le_of_ble_eq_true rfl), (Nat.le_of_ble_eq_true rfl)⟩ (Nat.le_of_ble_eq_true rfl) hM (fun r2 s1 hM => ?_)
  refine v_icmp_gt K 16 dX2_isWhole_9 (by decide) hM (fun hM => ?_) (fun hM => ?_)
  · refine v_iconst (v := (0 : Int32)) K dX2_isWhole_16 (by decide) ?_
    exact v_zret K rfl rfl dX2_isWhole_17 hM
  · refine v_iconst (v := (1 : Int32)) K dX2_isWhole_12 (by decide) ?_
    refine v_goto (tgt := 17) K dX2_isWhole_13 (by decide) ?_
    exact v_zret K rfl rfl dX2_isWhole_17 hM
noncomputable def F_X2_chargerOf (n : Nat) (b0 : Nat) (p1 : Int32) (σ : St) : Option (Int32 × St) := bd (F_X10_getInt n b0 ((3 : Int32) * p1) σ) fun r2 s1 => some (r2, s1)
set_option maxHeartbeats 4000000 in
set_option maxRecDepth 20000 in
theorem c_X2_chargerOf (l : Launch) {D : va_G} {A : Nat → Prop} {ad : Nat → Nat} {dA : Nat → ClassId} (b0 : Nat) (hb0 : isS b0) (n : Nat) (p1 : Int32) (σ : St) {res : Int32 × St} (hM : F_X2_chargerOf n b0 p1 σ = some res) : MI l yX2_chargerOf cX2_chargerOf 2 (some .int) 3 D (tysX dA) (wdX ad dA) A [.ref (ad b0), .int p1] σ (QI D (wdX ad dA) A res) := by
  refine mk_met (by decide +kernel) (Nat.le_of_ble_eq_true rfl) (fun p e s m below meth c K => ?_)
  have K : Cx p s m _ meth c cX2_chargerOf 2 (some .int) RX2 D (tysX dA) (wdX ad dA) A := K
  refine v_aload_n K dX2_chargerOf_0 0 rfl ?_
  refine v_iconst (v := (3 : Int32)) K dX2_chargerOf_1 (by decide) ?_
  refine v_iload_n K dX2_chargerOf_2 1 rfl ?_
  refine v_imul K dX2_chargerOf_3 ?_
  refine x_Vi (As := [.int ((3 : Int32) * p1)]) (st := []) K uv_X10_getInt qm_X2_99 dX2_chargerOf_4 (rv_X10 hb0) (fun _ h => c_X10_getInt l b0 hb0 n ((3 : Int32) * p1) σ h) rfl ⟨(Nat.le_of_ble_eq_true rfl), (Nat.le_of_ble_eq_true rfl)⟩ (Nat.le_of_ble_eq_true rfl) hM (fun r2 s1 hM => ?_)
  exact v_iret K rfl dX2_chargerOf_7 hM
noncomputable def F_X2_endOf (n : Nat) (b0 : Nat) (p1 : Int32) (σ : St) : Option (Int32 × St) := bd (F_X10_getInt n b0 (((3 : Int32) * p1) + (2 : Int32)) σ) fun r2 s1 => some (r2, s1)
set_option maxHeartbeats 4000000 in
set_option maxRecDepth 20000 in
theorem c_X2_endOf (l : Launch) {D : va_G} {A : Nat → Prop} {ad : Nat → Nat} {dA : Nat → ClassId} (b0 : Nat) (hb0 : isS b0) (n : Nat) (p1 : Int32) (σ : St) {res : Int32 × St} (hM : F_X2_endOf n b0 p1 σ = some res) : MI l yX2_endOf cX2_endOf 2 (some .int) 3 D (tysX dA) (wdX ad dA) A [.ref (ad b0), .int p1] σ (QI D (wdX ad dA) A res) := by
  refine mk_met (by decide +kernel) (Nat.le_of_ble_eq_true rfl) (fun p e s m below meth c K => ?_)
  have K : Cx p s m _ meth c cX2_endOf 2 (some .int) RX2 D (tysX dA) (wdX ad dA) A := K
  refine v_aload_n K dX2_endOf_0 0 rfl ?_
  refine v_iconst (v := (3 : Int32)) K dX2_endOf_1 (by decide) ?_
  refine v_iload_n K dX2_endOf_2 1 rfl ?_
  refine v_imul K dX2_endOf_3 ?_
  refine v_iconst (v := (2 : Int32)) K dX2_endOf_4 (by decide) ?_
  refine v_iadd K dX2_endOf_5 ?_
  refine x_Vi (As := [.int (((3 : Int32) * p1) + (2 : Int32))]) (st := []) K uv_X10_getInt qm_X2_99 dX2_endOf_6 (rv_X10 hb0) (fun _ h => c_X10_getInt l b0 hb0 n (((3 : Int32) * p1) + (2 : Int32)) σ h) rfl ⟨(Nat.le_of_ble_eq_true rfl), (Nat.le_of_ble_eq_true rfl)⟩ (Nat.le_of_ble_eq_true rfl) hM (fun r2 s1 hM => ?_)
  exact v_iret K rfl dX2_endOf_9 hM
theorem c_X3_folk (l : Launch) {D : va_G} {A : Nat → Prop} {ad : Nat → Nat} {dA : Nat → ClassId} (σ : St) : MI l yX3_folk cX3_folk 1 (some (.object "MustDefendHim$Folk")) 1 D (tysX dA) (wdX ad dA) A [.ref (ad 11)] σ (QR D (wdX ad dA) A (ad 4) ((), σ)) := mk_met (by decide +kernel) (Nat.le_of_ble_eq_true rfl) (fun p e s m below meth c K => by
  refine v_aload_n K dX3_folk_0 0 rfl ?_
  refine g_X3_0 K qf_X3_25 dX3_folk_1 ?_
  exact v_aret K rfl (Or.inl ⟨_, rfl⟩) dX3_folk_4)
noncomputable def F_X2_chargedOf (n : Nat) (b0 : Nat) (p1 : Int32) (σ : St) : Option (Int32 × St) := bd (F_X10_getInt n b0 (((3 : Int32) * p1) + (1 : Int32)) σ) fun r2 s1 => some (r2, s1)
set_option maxHeartbeats 4000000 in
set_option maxRecDepth 20000 in
theorem c_X2_chargedOf (l : Launch) {D : va_G} {A : Nat → Prop} {ad : Nat → Nat} {dA : Nat → ClassId} (b0 : Nat) (hb0 : isS b0) (n : Nat) (p1 : Int32) (σ : St) {res : Int32 × St} (hM : F_X2_chargedOf n b0 p1 σ = some res) : MI l yX2_chargedOf cX2_chargedOf 2 (some .int) 3 D (tysX dA) (wdX ad dA) A [.ref (ad b0), .int p1] σ (QI D (wdX ad dA) A res) := by
  refine mk_met (by decide +kernel) (Nat.le_of_ble_eq_true rfl) (fun p e s m below meth c K => ?_)
  have K : Cx p s m _ meth c cX2_chargedOf 2 (some .int) RX2 D (tysX dA) (wdX ad dA) A := K
  refine v_aload_n K dX2_chargedOf_0 0 rfl ?_
  refine v_iconst (v := (3 : Int32)) K dX2_chargedOf_1 (by decide) ?_
  refine v_iload_n K dX2_chargedOf_2 1 rfl ?_
  refine v_imul K dX2_chargedOf_3 ?_
  refine v_iconst (v := (1 : Int32)) K dX2_chargedOf_4 (by decide) ?_
  refine v_iadd K dX2_chargedOf_5 ?_
  refine x_Vi (As := [.int (((3 : Int32) * p1) + (1 : Int32))]) (st := []) K uv_X10_getInt qm_X2_99 dX2_chargedOf_6 (rv_X10 hb0) (fun _ h => c_X10_getInt l b0 hb0 n (((3 : Int32) * p1) + (1 : Int32)) σ h) rfl ⟨(Nat.le_of_ble_eq_true rfl), (Nat.le_of_ble_eq_true rfl)⟩ (Nat.le_of_ble_eq_true rfl) hM (fun r2 s1 hM => ?_)
  exact v_iret K rfl dX2_chargedOf_9 hM
noncomputable def F_X2_isLet (n : Nat) (b1 : Nat) (p2 : Int32) (σ : St) : Option (Int32 × St) := bd (F_X2_isWhole n b1 p2 σ) fun r2 s1 => if r2 = 0 then (some ((0 : Int32), s1)) else (bd (F_X2_chargerOf n b1 p2 s1) fun r4 s3 => bd (F_X2_endOf n b1 p2 s3) fun r6 s5 => bd (F_X2_chargedOf n b1 p2 s5) fun r8 s7 => bd (F_X6_areUnlike n r4 r8 s7) fun r10 s9 => if r10 = 0 then (some ((0 : Int32), s9)) else (bd (F_X1_isFree n 41 r4 s9) fun r12 s11 => if r12 = 0 then (some ((0 : Int32), s11)) else (if r6 < (-1 : Int32) then (some ((0 : Int32), s11)) else (if (1 : Int32) < r6 then (some ((0 : Int32), s11)) else (some ((1 : Int32), s11))))))
set_option maxHeartbeats 4000000 in
set_option maxRecDepth 20000 in
theorem c_X2_isLet (l : Launch) {D : va_G} {A : Nat → Prop} {ad : Nat → Nat} {dA : Nat → ClassId} (b1 : Nat) (hb1 : isS b1) (n : Nat) (p2 : Int32) (σ : St) {res : Int32 × St} (hM : F_X2_isLet n b1 p2 σ = some res) : MI l yX2_isLet cX2_isLet 5 (some .boolean) 4 D (tysX dA) (wdX ad dA) A [.ref (ad 13), .ref (ad b1), .int p2] σ (QI D (wdX ad dA) A res) := by
  refine mk_met (by decide +kernel) (Nat.le_of_ble_eq_true rfl) (fun p e s m below meth c K => ?_)
  have K : Cx p s m _ meth c cX2_isLet 5 (some .boolean) RX2 D (tysX dA) (wdX ad dA) A := K
  refine v_aload_n K dX2_isLet_0 1 rfl ?_
  refine v_iload_n K dX2_isLet_1 2 rfl ?_
  refine x_Si (As := [.ref (ad b1), .int p2]) (st := []) K us_X2_isWhole qm_X2_108 dX2_isLet_2 (fun _ h => c_X2_isWhole l b1 hb1 n p2 σ h) rfl ⟨(Nat.le_of_ble_eq_true rfl), (Nat.le_of_ble_eq_true rfl)⟩ (Nat.le_of_ble_eq_true rfl) hM (fun r2 s1 hM => ?_)
  refine v_if_ne K 10 dX2_isLet_5 (by decide) hM (fun hM => ?_) (fun hM => ?_)
  · refine v_aload_n K dX2_isLet_10 1 rfl ?_
    refine v_iload_n K dX2_isLet_11 2 rfl ?_
    refine x_Si (As := [.ref (ad b1), .int p2]) (st := []) K us_X2_chargerOf qm_X2_65 dX2_isLet_12 (fun _ h => c_X2_chargerOf l b1 hb1 n p2 s1 h) rfl ⟨(Nat.le_of_ble_eq_true rfl), (Nat.le_of_ble_eq_true rfl)⟩ (Nat.le_of_ble_eq_true rfl) hM (fun r4 s3 hM => ?_)
    refine v_istore_n K dX2_isLet_15 rfl (by decide) [(3, .int r4), (0, .ref (ad 13)), (1, .ref (ad b1)), (2, .int p2)] rfl ?_
    refine v_aload_n K dX2_isLet_16 2 rfl ?_
    refine v_iload_n K dX2_isLet_17 3 rfl ?_
    refine x_Si (As := [.ref (ad b1), .int p2]) (st := []) K us_X2_endOf qm_X2_57 dX2_isLet_18 (fun _ h => c_X2_endOf l b1 hb1 n p2 s3 h) rfl ⟨(Nat.le_of_ble_eq_true rfl), (Nat.le_of_ble_eq_true rfl)⟩ (Nat.le_of_ble_eq_true rfl) hM (fun r6 s5 hM => ?_)
    refine v_istore K dX2_isLet_21 (by decide) [(4, .int r6), (3, .int r4), (0, .ref (ad 13)), (1, .ref (ad b1)), (2, .int p2)] rfl ?_
    refine v_aload_n K dX2_isLet_23 2 rfl ?_
    refine g_X2_0 K qf_X2_44 dX2_isLet_24 ?_
    refine x_Vr (As := []) (st := []) K uv_X3_folk qm_X2_81 dX2_isLet_27 rv_X3 (c_X3_folk l s5) rfl ⟨(Nat.le_of_ble_eq_true rfl), (Nat.le_of_ble_eq_true rfl)⟩ (Nat.le_of_ble_eq_true rfl) ?_
    refine v_iload_n K dX2_isLet_30 1 rfl ?_
    refine v_aload_n K dX2_isLet_31 3 rfl ?_
    refine v_iload_n K dX2_isLet_32 4 rfl ?_
    refine x_Si (As := [.ref (ad b1), .int p2]) (st := [.int r4, .ref (ad 4)]) K us_X2_chargedOf qm_X2_68 dX2_isLet_33 (fun _ h => c_X2_chargedOf l b1 hb1 n p2 s5 h) rfl ⟨(Nat.le_of_ble_eq_true rfl), (Nat.le_of_ble_eq_true rfl)⟩ (Nat.le_of_ble_eq_true rfl) hM (fun r8 s7 hM => ?_)
    refine x_Vi (As := [.int r4, .int r8]) (st := []) K uv_X6_areUnlike qm_X2_111 dX2_isLet_36 rv_X6 (fun _ h => c_X6_areUnlike l  n r4 r8 s7 h) rfl ⟨(Nat.le_of_ble_eq_true rfl), (Nat.le_of_ble_eq_true rfl)⟩ (Nat.le_of_ble_eq_true rfl) hM (fun r10 s9 hM => ?_)
    refine v_if_eq K 69 dX2_isLet_39 (by decide) hM (fun hM => ?_) (fun hM => ?_)
    · refine v_iconst (v := (0 : Int32)) K dX2_isLet_69 (by decide) ?_
      exact v_zret K rfl rfl dX2_isLet_70 hM
    · refine v_aload_n K dX2_isLet_42 2 rfl ?_
      refine g_X2_1 K qf_X2_12 dX2_isLet_43 ?_
      refine v_iload_n K dX2_isLet_46 1 rfl ?_
      refine x_Vi (As := [.int r4]) (st := []) K uv_X1_isFree qm_X2_115 dX2_isLet_47 (rv_X1 isB_41) (fun _ h => c_X1_isFree l 41 isB_41 n r4 s9 h) rfl ⟨(Nat.le_of_ble_eq_true rfl), (Nat.le_of_ble_eq_true rfl)⟩ (Nat.le_of_ble_eq_true rfl) hM (fun r12 s11 hM => ?_)
      refine v_if_eq K 69 dX2_isLet_50 (by decide) hM (fun hM => ?_) (fun hM => ?_)
      · refine v_iconst (v := (0 : Int32)) K dX2_isLet_69 (by decide) ?_
        exact v_zret K rfl rfl dX2_isLet_70 hM
      · refine v_iload K dX2_isLet_53 0 rfl ?_
        refine v_iconst (v := (-1 : Int32)) K dX2_isLet_55 (by decide) ?_
        refine v_icmp_lt K 69 dX2_isLet_56 (by decide) hM (fun hM => ?_) (fun hM => ?_)
        · refine v_iconst (v := (0 : Int32)) K dX2_isLet_69 (by decide) ?_
          exact v_zret K rfl rfl dX2_isLet_70 hM
        · refine v_iload K dX2_isLet_59 0 rfl ?_
          refine v_iconst (v := (1 : Int32)) K dX2_isLet_61 (by decide) ?_
          refine v_icmp_gt K 69 dX2_isLet_62 (by decide) hM (fun hM => ?_) (fun hM => ?_)
          · refine v_iconst (v := (0 : Int32)) K dX2_isLet_69 (by decide) ?_
            exact v_zret K rfl rfl dX2_isLet_70 hM
          · refine v_iconst (v := (1 : Int32)) K dX2_isLet_65 (by decide) ?_
            refine v_goto (tgt := 70) K dX2_isLet_66 (by decide) ?_
            exact v_zret K rfl rfl dX2_isLet_70 hM
  · refine v_iconst (v := (0 : Int32)) K dX2_isLet_8 (by decide) ?_
    exact v_zret K rfl rfl dX2_isLet_9 hM
noncomputable def B_X3_twelfthsAgainst_1 (J : Nat → Int32 → Int32 → Int32 → Int32 → St → Option (Int32 × St)) (n : Nat) (b1 : Nat) (l4 : Int32) (l5 : Int32) (l6 : Int32) (k0 : Int32) (σ : St) : Option (Int32 × St) := bnd ((((6 : Int32) + l6) + k0) - l4) fun x5 => bd (F_X7_isTold n 27 σ) fun r7 s6 => if r7 = 0 then (J 2 x5 0 0 0 s6) else (gd (vp_in (0 : Int32) 6) (bnd (sI s6 12 ((0 : Int32)).toNatClampNeg l6) fun s8 => gd (vp_in (1 : Int32) 6) (bnd (sI s8 12 ((1 : Int32)).toNatClampNeg l4) fun s9 => if l5 = 0 then (J 3 k0 (0 : Int32) (2 : Int32) 0 s9) else (J 3 k0 (1 : Int32) (2 : Int32) 0 s9))))
noncomputable def B_X3_twelfthsAgainst_2 (J : Nat → Int32 → Int32 → Int32 → Int32 → St → Option (Int32 × St)) (n : Nat) (b1 : Nat) (l8 : Int32) (σ : St) : Option (Int32 × St) := bnd (if l8 < (12 : Int32) then l8 else (12 : Int32)) fun x10 => bnd (if (0 : Int32) < x10 then x10 else (0 : Int32)) fun x11 => some (x11, σ)
noncomputable def B_X3_twelfthsAgainst_3 (J : Nat → Int32 → Int32 → Int32 → Int32 → St → Option (Int32 × St)) (n : Nat) (b1 : Nat) (l7 : Int32) (k0 : Int32) (k1 : Int32) (σ : St) : Option (Int32 × St) := gd (vp_in k1 6) (bnd (sI σ 12 (k1).toNatClampNeg k0) fun s12 => gd (vp_in (3 : Int32) 6) (bnd (sI s12 12 ((3 : Int32)).toNatClampNeg l7) fun s13 => bd (F_X1_howManyBound n b1 s13) fun r15 s14 => gd (vp_in (4 : Int32) 6) (bnd (sI s14 12 ((4 : Int32)).toNatClampNeg r15) fun s16 => bd (F_X1_casesAhead n b1 s16) fun r18 s17 => gd (vp_in (5 : Int32) 6) (bnd (sI s17 12 ((5 : Int32)).toNatClampNeg r18) fun s19 => bd (F_X7_worth n 27 s19) fun r21 s20 => J 2 r21 0 0 0 s20))))
noncomputable def S_X3_twelfthsAgainst (b1 : Nat) (n : Nat) (J : Nat → Int32 → Int32 → Int32 → Int32 → St → Option (Int32 × St)) : Nat → Int32 → Int32 → Int32 → Int32 → St → Option (Int32 × St) := fun lb a0 a1 a2 a3 σ => match lb with
  | 1 => B_X3_twelfthsAgainst_1 J n b1 a0 a1 a2 a3 σ
  | 2 => B_X3_twelfthsAgainst_2 J n b1 a0 σ
  | 3 => B_X3_twelfthsAgainst_3 J n b1 a0 a1 a2 σ
  | _ => none
noncomputable def L_X3_twelfthsAgainst (b1 : Nat) (n : Nat) : Nat → Int32 → Int32 → Int32 → Int32 → St → Option (Int32 × St) := Nat.rec (fun _ _ _ _ _ _ => none) (fun n J => S_X3_twelfthsAgainst b1 n J) n
noncomputable def F_X3_twelfthsAgainst (n : Nat) (b1 : Nat) (p2 : Int32) (p3 : Int32) (p4 : Int32) (p5 : Int32) (σ : St) : Option (Int32 × St) := bd (F_X6_numberOf n p2 (0 : Int32) σ) fun r2 s1 => bd (F_X6_numberOf n p2 (2 : Int32) s1) fun r4 s3 => if r4 = p3 then (L_X3_twelfthsAgainst b1 n 1 p4 p5 r2 (1 : Int32) s3) else (L_X3_twelfthsAgainst b1 n 1 p4 p5 r2 (0 : Int32) s3)
set_option maxHeartbeats 4000000 in
set_option maxRecDepth 20000 in
theorem t_X3_twelfthsAgainst (l : Launch) {p : Program} {e : Env} {s : State} {m : MethodId} {args : Array Value} {below : List Frame} {meth : Method} {c : Code} {D : va_G} {A : Nat → Prop} {ad : Nat → Nat} {dA : Nat → ClassId} (b1 : Nat) (hb1 : isB b1) (K : Cx p s m args meth c cX3_twelfthsAgainst 9 (some .int) RX3 D (tysX dA) (wdX ad dA) A) {res : Int32 × St} (n : Nat) : (∀ (l4 : Int32) (l5 : Int32) (l6 : Int32) (k0 : Int32) (σ : St), L_X3_twelfthsAgainst b1 n 1 l4 l5 l6 k0 σ = some res → V p l e (rmH 2) s m args below meth c 9 D (wdX ad dA) A (MQ below (QI D (wdX ad dA) A res) args s 0 0 A) 29 [(0, .ref (ad 11)), (1, .ref (ad b1)), (4, .int l4), (5, .int l5), (6, .int l6)] [.int k0] σ) ∧ (∀ (l8 : Int32) (σ : St), L_X3_twelfthsAgainst b1 n 2 l8 0 0 0 σ = some res → V p l e (rmH 2) s m args below meth c 9 D (wdX ad dA) A (MQ below (QI D (wdX ad dA) A res) args s 0 0 A) 127 [(8, .int l8)] [] σ) ∧ (∀ (l7 : Int32) (k0 : Int32) (k1 : Int32) (σ : St), L_X3_twelfthsAgainst b1 n 3 l7 k0 k1 0 σ = some res → V p l e (rmH 2) s m args below meth c 9 D (wdX ad dA) A (MQ below (QI D (wdX ad dA) A res) args s 0 0 A) 85 [(0, .ref (ad 11)), (1, .ref (ad b1)), (7, .int l7)] [.int k0, .int k1, .ref (ad 12)] σ) := by
  induction n with
  | zero => exact ⟨fun _ _ _ _ _ h => (by cases h), fun _ _ h => (by cases h), fun _ _ _ _ h => (by cases h)⟩
  | succ n ih =>
    obtain ⟨ih_1, ih_2, ih_3⟩ := ih
    refine ⟨?_, ?_, ?_⟩
    · intro l4 l5 l6 k0 σ hM
      have hM : B_X3_twelfthsAgainst_1 (L_X3_twelfthsAgainst b1 n) n b1 l4 l5 l6 k0 σ = some res := hM
      refine v_istore K dX3_twelfthsAgainst_29 (by decide) [(7, .int k0), (0, .ref (ad 11)), (1, .ref (ad b1)), (4, .int l4), (5, .int l5), (6, .int l6)] rfl ?_
      refine v_bipush (v := (6 : Int32)) K dX3_twelfthsAgainst_31 (by decide) ?_
      refine v_iload K dX3_twelfthsAgainst_33 5 rfl ?_
      refine v_iadd K dX3_twelfthsAgainst_35 ?_
      refine v_iload K dX3_twelfthsAgainst_36 0 rfl ?_
      refine v_iadd K dX3_twelfthsAgainst_38 ?_
      refine v_iload K dX3_twelfthsAgainst_39 3 rfl ?_
      refine v_isub K dX3_twelfthsAgainst_41 ?_
      refine v_topi hM (fun x5 hM => ?_)
      refine v_istore K dX3_twelfthsAgainst_42 (by decide) [(8, .int x5), (7, .int k0), (0, .ref (ad 11)), (1, .ref (ad b1)), (4, .int l4), (5, .int l5), (6, .int l6)] rfl ?_
      refine v_aload_n K dX3_twelfthsAgainst_44 2 rfl ?_
      refine g_X3_1 K qf_X3_29 dX3_twelfthsAgainst_45 ?_
      refine x_Vi (As := []) (st := []) K uv_X7_isTold qm_X3_49 dX3_twelfthsAgainst_48 (rv_X7 isL_27) (fun _ h => c_X7_isTold l 27 isL_27 n  σ h) rfl ⟨(Nat.le_of_ble_eq_true rfl), (Nat.le_of_ble_eq_true rfl)⟩ (Nat.le_of_ble_eq_true rfl) hM (fun r7 s6 hM => ?_)
      refine v_if_eq K 127 dX3_twelfthsAgainst_51 (by decide) hM (fun hM => ?_) (fun hM => ?_)
      · exact v_sub [0] rfl (ih_2 x5 s6 hM)
      · refine v_aload_n K dX3_twelfthsAgainst_54 2 rfl ?_
        refine g_X3_2 K qf_X3_19 dX3_twelfthsAgainst_55 ?_
        refine v_iconst (v := (0 : Int32)) K dX3_twelfthsAgainst_58 (by decide) ?_
        refine v_iload K dX3_twelfthsAgainst_59 6 rfl ?_
        refine st_X12 K dX3_twelfthsAgainst_61 hM (fun s8 hM => ?_)
        refine v_aload_n K dX3_twelfthsAgainst_62 2 rfl ?_
        refine g_X3_2 K qf_X3_19 dX3_twelfthsAgainst_63 ?_
        refine v_iconst (v := (1 : Int32)) K dX3_twelfthsAgainst_66 (by decide) ?_
        refine v_iload K dX3_twelfthsAgainst_67 4 rfl ?_
        refine st_X12 K dX3_twelfthsAgainst_69 hM (fun s9 hM => ?_)
        refine v_aload_n K dX3_twelfthsAgainst_70 2 rfl ?_
        refine g_X3_2 K qf_X3_19 dX3_twelfthsAgainst_71 ?_
        refine v_iconst (v := (2 : Int32)) K dX3_twelfthsAgainst_74 (by decide) ?_
        refine v_iload K dX3_twelfthsAgainst_75 5 rfl ?_
        refine v_if_eq K 84 dX3_twelfthsAgainst_77 (by decide) hM (fun hM => ?_) (fun hM => ?_)
        · refine v_iconst (v := (0 : Int32)) K dX3_twelfthsAgainst_84 (by decide) ?_
          exact v_sub [2, 3, 1] rfl (ih_3 k0 (0 : Int32) (2 : Int32) s9 hM)
        · refine v_iconst (v := (1 : Int32)) K dX3_twelfthsAgainst_80 (by decide) ?_
          refine v_goto (tgt := 85) K dX3_twelfthsAgainst_81 (by decide) ?_
          exact v_sub [2, 3, 1] rfl (ih_3 k0 (1 : Int32) (2 : Int32) s9 hM)
    · intro l8 σ hM
      have hM : B_X3_twelfthsAgainst_2 (L_X3_twelfthsAgainst b1 n) n b1 l8 σ = some res := hM
      refine v_iconst (v := (0 : Int32)) K dX3_twelfthsAgainst_127 (by decide) ?_
      refine v_bipush (v := (12 : Int32)) K dX3_twelfthsAgainst_128 (by decide) ?_
      refine v_iload K dX3_twelfthsAgainst_130 0 rfl ?_
      refine x_mmin K qm_X3_65 qs_min qi_Math qk_min dX3_twelfthsAgainst_132 (Nat.le_of_ble_eq_true rfl) (Nat.le_of_ble_eq_true rfl) ?_
      refine v_topi hM (fun x10 hM => ?_)
      refine x_mmax K qm_X3_70 qs_max qi_Math qk_max dX3_twelfthsAgainst_135 (Nat.le_of_ble_eq_true rfl) (Nat.le_of_ble_eq_true rfl) ?_
      refine v_topi hM (fun x11 hM => ?_)
      exact v_iret K rfl dX3_twelfthsAgainst_138 hM
    · intro l7 k0 k1 σ hM
      have hM : B_X3_twelfthsAgainst_3 (L_X3_twelfthsAgainst b1 n) n b1 l7 k0 k1 σ = some res := hM
      refine st_X12 K dX3_twelfthsAgainst_85 hM (fun s12 hM => ?_)
      refine v_aload_n K dX3_twelfthsAgainst_86 0 rfl ?_
      refine g_X3_2 K qf_X3_19 dX3_twelfthsAgainst_87 ?_
      refine v_iconst (v := (3 : Int32)) K dX3_twelfthsAgainst_90 (by decide) ?_
      refine v_iload K dX3_twelfthsAgainst_91 2 rfl ?_
      refine st_X12 K dX3_twelfthsAgainst_93 hM (fun s13 hM => ?_)
      refine v_aload_n K dX3_twelfthsAgainst_94 0 rfl ?_
      refine g_X3_2 K qf_X3_19 dX3_twelfthsAgainst_95 ?_
      refine v_iconst (v := (4 : Int32)) K dX3_twelfthsAgainst_98 (by decide) ?_
      refine v_aload_n K dX3_twelfthsAgainst_99 1 rfl ?_
      refine x_Vi (As := []) (st := [.int (4 : Int32), .ref (ad 12)]) K uv_X1_howManyBound qm_X3_55 dX3_twelfthsAgainst_100 (rv_X1 hb1) (fun _ h => c_X1_howManyBound l b1 hb1 n  s13 h) rfl ⟨(Nat.le_of_ble_eq_true rfl), (Nat.le_of_ble_eq_true rfl)⟩ (Nat.le_of_ble_eq_true rfl) hM (fun r15 s14 hM => ?_)
      refine st_X12 K dX3_twelfthsAgainst_103 hM (fun s16 hM => ?_)
      refine v_aload_n K dX3_twelfthsAgainst_104 0 rfl ?_
      refine g_X3_2 K qf_X3_19 dX3_twelfthsAgainst_105 ?_
      refine v_iconst (v := (5 : Int32)) K dX3_twelfthsAgainst_108 (by decide) ?_
      refine v_aload_n K dX3_twelfthsAgainst_109 1 rfl ?_
      refine x_Vi (As := []) (st := [.int (5 : Int32), .ref (ad 12)]) K uv_X1_casesAhead qm_X3_58 dX3_twelfthsAgainst_110 (rv_X1 hb1) (fun _ h => c_X1_casesAhead l b1 hb1 n  s16 h) rfl ⟨(Nat.le_of_ble_eq_true rfl), (Nat.le_of_ble_eq_true rfl)⟩ (Nat.le_of_ble_eq_true rfl) hM (fun r18 s17 hM => ?_)
      refine st_X12 K dX3_twelfthsAgainst_113 hM (fun s19 hM => ?_)
      refine v_aload_n K dX3_twelfthsAgainst_114 0 rfl ?_
      refine g_X3_1 K qf_X3_29 dX3_twelfthsAgainst_115 ?_
      refine v_aload_n K dX3_twelfthsAgainst_118 0 rfl ?_
      refine g_X3_2 K qf_X3_19 dX3_twelfthsAgainst_119 ?_
      refine x_Vi (As := [.ref (ad 12)]) (st := []) K uv_X7_worth qm_X3_61 dX3_twelfthsAgainst_122 (rv_X7 isL_27) (fun _ h => c_X7_worth l 27 isL_27 n  s19 h) rfl ⟨(Nat.le_of_ble_eq_true rfl), (Nat.le_of_ble_eq_true rfl)⟩ (Nat.le_of_ble_eq_true rfl) hM (fun r21 s20 hM => ?_)
      refine v_istore K dX3_twelfthsAgainst_125 (by decide) [(8, .int r21), (0, .ref (ad 11)), (1, .ref (ad b1)), (7, .int l7)] rfl ?_
      exact v_sub [0] rfl (ih_2 r21 s20 hM)
set_option maxHeartbeats 4000000 in
set_option maxRecDepth 20000 in
theorem c_X3_twelfthsAgainst (l : Launch) {D : va_G} {A : Nat → Prop} {ad : Nat → Nat} {dA : Nat → ClassId} (b1 : Nat) (hb1 : isB b1) (n : Nat) (p2 : Int32) (p3 : Int32) (p4 : Int32) (p5 : Int32) (σ : St) {res : Int32 × St} (hM : F_X3_twelfthsAgainst n b1 p2 p3 p4 p5 σ = some res) : MI l yX3_twelfthsAgainst cX3_twelfthsAgainst 9 (some .int) 2 D (tysX dA) (wdX ad dA) A [.ref (ad 11), .ref (ad b1), .int p2, .int p3, .int p4, .int p5] σ (QI D (wdX ad dA) A res) := by
  refine mk_met (by decide +kernel) (Nat.le_of_ble_eq_true rfl) (fun p e s m below meth c K => ?_)
  have K : Cx p s m _ meth c cX3_twelfthsAgainst 9 (some .int) RX3 D (tysX dA) (wdX ad dA) A := K
  obtain ⟨ih_1, ih_2, ih_3⟩ := t_X3_twelfthsAgainst l b1 hb1  K (res := res) n (below := below) (e := e)
  refine v_aload_n K dX3_twelfthsAgainst_0 0 rfl ?_
  refine g_X3_0 K qf_X3_25 dX3_twelfthsAgainst_1 ?_
  refine v_iload_n K dX3_twelfthsAgainst_4 2 rfl ?_
  refine v_iconst (v := (0 : Int32)) K dX3_twelfthsAgainst_5 (by decide) ?_
  refine x_Vi (As := [.int p2, .int (0 : Int32)]) (st := []) K uv_X6_numberOf qm_X3_39 dX3_twelfthsAgainst_6 rv_X6 (fun _ h => c_X6_numberOf l  n p2 (0 : Int32) σ h) rfl ⟨(Nat.le_of_ble_eq_true rfl), (Nat.le_of_ble_eq_true rfl)⟩ (Nat.le_of_ble_eq_true rfl) hM (fun r2 s1 hM => ?_)
  refine v_istore K dX3_twelfthsAgainst_9 (by decide) [(6, .int r2), (0, .ref (ad 11)), (1, .ref (ad b1)), (2, .int p2), (3, .int p3), (4, .int p4), (5, .int p5)] rfl ?_
  refine v_aload_n K dX3_twelfthsAgainst_11 1 rfl ?_
  refine g_X3_0 K qf_X3_25 dX3_twelfthsAgainst_12 ?_
  refine v_iload_n K dX3_twelfthsAgainst_15 3 rfl ?_
  refine v_iconst (v := (2 : Int32)) K dX3_twelfthsAgainst_16 (by decide) ?_
  refine x_Vi (As := [.int p2, .int (2 : Int32)]) (st := []) K uv_X6_numberOf qm_X3_39 dX3_twelfthsAgainst_17 rv_X6 (fun _ h => c_X6_numberOf l  n p2 (2 : Int32) s1 h) rfl ⟨(Nat.le_of_ble_eq_true rfl), (Nat.le_of_ble_eq_true rfl)⟩ (Nat.le_of_ble_eq_true rfl) hM (fun r4 s3 hM => ?_)
  refine v_iload_n K dX3_twelfthsAgainst_20 4 rfl ?_
  refine v_icmp_ne K 28 dX3_twelfthsAgainst_21 (by decide) hM (fun hM => ?_) (fun hM => ?_)
  · refine v_iconst (v := (0 : Int32)) K dX3_twelfthsAgainst_28 (by decide) ?_
    exact v_sub [1, 2, 5, 6, 0] rfl (ih_1 p4 p5 r2 (0 : Int32) s3 hM)
  · refine v_iconst (v := (1 : Int32)) K dX3_twelfthsAgainst_24 (by decide) ?_
    refine v_goto (tgt := 29) K dX3_twelfthsAgainst_25 (by decide) ?_
    exact v_sub [1, 2, 5, 6, 0] rfl (ih_1 p4 p5 r2 (1 : Int32) s3 hM)
noncomputable def F_X3_twelfths (n : Nat) (b1 : Nat) (p2 : Int32) (p3 : Int32) (σ : St) : Option (Int32 × St) := bd (F_X1_speakerFor n b1 p3 σ) fun r2 s1 => bd (F_X6_numberOf n r2 (1 : Int32) s1) fun r4 s3 => if r2 = p3 then (bd (F_X3_twelfthsAgainst n b1 p2 p3 r4 (1 : Int32) s3) fun r8 s7 => some (r8, s7)) else (bd (F_X3_twelfthsAgainst n b1 p2 p3 r4 (0 : Int32) s3) fun r6 s5 => some (r6, s5))
set_option maxHeartbeats 4000000 in
set_option maxRecDepth 20000 in
theorem c_X3_twelfths (l : Launch) {D : va_G} {A : Nat → Prop} {ad : Nat → Nat} {dA : Nat → ClassId} (b1 : Nat) (hb1 : isB b1) (n : Nat) (p2 : Int32) (p3 : Int32) (σ : St) {res : Int32 × St} (hM : F_X3_twelfths n b1 p2 p3 σ = some res) : MI l yX3_twelfths cX3_twelfths 5 (some .int) 3 D (tysX dA) (wdX ad dA) A [.ref (ad 11), .ref (ad b1), .int p2, .int p3] σ (QI D (wdX ad dA) A res) := by
  refine mk_met (by decide +kernel) (Nat.le_of_ble_eq_true rfl) (fun p e s m below meth c K => ?_)
  have K : Cx p s m _ meth c cX3_twelfths 5 (some .int) RX3 D (tysX dA) (wdX ad dA) A := K
  refine v_aload_n K dX3_twelfths_0 1 rfl ?_
  refine v_iload_n K dX3_twelfths_1 3 rfl ?_
  refine x_Vi (As := [.int p3]) (st := []) K uv_X1_speakerFor qm_X3_33 dX3_twelfths_2 (rv_X1 hb1) (fun _ h => c_X1_speakerFor l b1 hb1 n p3 σ h) rfl ⟨(Nat.le_of_ble_eq_true rfl), (Nat.le_of_ble_eq_true rfl)⟩ (Nat.le_of_ble_eq_true rfl) hM (fun r2 s1 hM => ?_)
  refine v_istore K dX3_twelfths_5 (by decide) [(4, .int r2), (0, .ref (ad 11)), (1, .ref (ad b1)), (2, .int p2), (3, .int p3)] rfl ?_
  refine v_aload_n K dX3_twelfths_7 1 rfl ?_
  refine v_aload_n K dX3_twelfths_8 2 rfl ?_
  refine v_iload_n K dX3_twelfths_9 3 rfl ?_
  refine v_iload_n K dX3_twelfths_10 4 rfl ?_
  refine v_aload_n K dX3_twelfths_11 1 rfl ?_
  refine g_X3_0 K qf_X3_25 dX3_twelfths_12 ?_
  refine v_iload K dX3_twelfths_15 0 rfl ?_
  refine v_iconst (v := (1 : Int32)) K dX3_twelfths_17 (by decide) ?_
  refine x_Vi (As := [.int r2, .int (1 : Int32)]) (st := [.int p3, .int p2, .ref (ad b1), .ref (ad 11)]) K uv_X6_numberOf qm_X3_39 dX3_twelfths_18 rv_X6 (fun _ h => c_X6_numberOf l  n r2 (1 : Int32) s1 h) rfl ⟨(Nat.le_of_ble_eq_true rfl), (Nat.le_of_ble_eq_true rfl)⟩ (Nat.le_of_ble_eq_true rfl) hM (fun r4 s3 hM => ?_)
  refine v_iload K dX3_twelfths_21 0 rfl ?_
  refine v_iload_n K dX3_twelfths_23 4 rfl ?_
  refine v_icmp_ne K 31 dX3_twelfths_24 (by decide) hM (fun hM => ?_) (fun hM => ?_)
  · refine v_iconst (v := (0 : Int32)) K dX3_twelfths_31 (by decide) ?_
    refine x_Vi (As := [.ref (ad b1), .int p2, .int p3, .int r4, .int (0 : Int32)]) (st := []) K uv_X3_twelfthsAgainst qm_X3_45 dX3_twelfths_32 rv_X3 (fun _ h => c_X3_twelfthsAgainst l b1 hb1 n p2 p3 r4 (0 : Int32) s3 h) rfl ⟨(Nat.le_of_ble_eq_true rfl), (Nat.le_of_ble_eq_true rfl)⟩ (Nat.le_of_ble_eq_true rfl) hM (fun r6 s5 hM => ?_)
    exact v_iret K rfl dX3_twelfths_35 hM
  · refine v_iconst (v := (1 : Int32)) K dX3_twelfths_27 (by decide) ?_
    refine v_goto (tgt := 32) K dX3_twelfths_28 (by decide) ?_
    refine x_Vi (As := [.ref (ad b1), .int p2, .int p3, .int r4, .int (1 : Int32)]) (st := []) K uv_X3_twelfthsAgainst qm_X3_45 dX3_twelfths_32 rv_X3 (fun _ h => c_X3_twelfthsAgainst l b1 hb1 n p2 p3 r4 (1 : Int32) s3 h) rfl ⟨(Nat.le_of_ble_eq_true rfl), (Nat.le_of_ble_eq_true rfl)⟩ (Nat.le_of_ble_eq_true rfl) hM (fun r8 s7 hM => ?_)
    exact v_iret K rfl dX3_twelfths_35 hM
noncomputable def F_X3_shareOf (n : Nat) (p0 : Int32) (p1 : Int32) (σ : St) : Option (Int32 × St) := if p0 = 0 then (some (((12 : Int32) - p1), σ)) else (some (p1, σ))
set_option maxHeartbeats 4000000 in
set_option maxRecDepth 20000 in
theorem c_X3_shareOf (l : Launch) {D : va_G} {A : Nat → Prop} {ad : Nat → Nat} {dA : Nat → ClassId}  (n : Nat) (p0 : Int32) (p1 : Int32) (σ : St) {res : Int32 × St} (hM : F_X3_shareOf n p0 p1 σ = some res) : MI l yX3_shareOf cX3_shareOf 2 (some .int) 1 D (tysX dA) (wdX ad dA) A [.int p0, .int p1] σ (QI D (wdX ad dA) A res) := by
  refine mk_met (by decide +kernel) (Nat.le_of_ble_eq_true rfl) (fun p e s m below meth c K => ?_)
  have K : Cx p s m _ meth c cX3_shareOf 2 (some .int) RX3 D (tysX dA) (wdX ad dA) A := K
  refine v_iload_n K dX3_shareOf_0 0 rfl ?_
  refine v_if_eq K 8 dX3_shareOf_1 (by decide) hM (fun hM => ?_) (fun hM => ?_)
  · refine v_bipush (v := (12 : Int32)) K dX3_shareOf_8 (by decide) ?_
    refine v_iload_n K dX3_shareOf_10 1 rfl ?_
    refine v_isub K dX3_shareOf_11 ?_
    exact v_iret K rfl dX3_shareOf_12 hM
  · refine v_iload_n K dX3_shareOf_4 1 rfl ?_
    refine v_goto (tgt := 12) K dX3_shareOf_5 (by decide) ?_
    exact v_iret K rfl dX3_shareOf_12 hM
noncomputable def B_X2_hear_1 (J : Nat → Int32 → Int32 → Int32 → Int32 → Int32 → St → Option (Unit × St)) (n : Nat) (b1 : Nat) (l3 : Int32) (l4 : Int32) (l5 : Int32) (k0 : Int32) (σ : St) : Option (Unit × St) := bd (F_X3_twelfths n 41 l4 l5 σ) fun r8 s7 => bd (F_X3_shareOf n k0 r8 s7) fun r10 s9 => gd (¬ (12 : Int32) = 0) (bnd (((gI s9 13 3) * r10) / (12 : Int32)) fun x11 => bnd (sI s9 13 3 x11) fun s12 => if k0 = 0 then (if l3 = l4 then (J 2 l3 l4 l5 k0 l4 s12) else (if l3 = l5 then (J 2 l3 l4 l5 k0 l4 s12) else (J 3 l4 l5 k0 0 0 s12))) else (if l3 = l4 then (J 2 l3 l4 l5 k0 l5 s12) else (if l3 = l5 then (J 2 l3 l4 l5 k0 l5 s12) else (J 3 l4 l5 k0 0 0 s12))))
noncomputable def B_X2_hear_2 (J : Nat → Int32 → Int32 → Int32 → Int32 → Int32 → St → Option (Unit × St)) (n : Nat) (b1 : Nat) (l3 : Int32) (l4 : Int32) (l5 : Int32) (l6 : Int32) (l8 : Int32) (σ : St) : Option (Unit × St) := bd (F_X6_numberOf n l8 (3 : Int32) σ) fun r14 s13 => if l3 = l8 then (bnd (sI s13 13 4 ((gI s13 13 4) + (-r14))) fun s16 => J 3 l4 l5 l6 0 0 s16) else (bnd (sI s13 13 4 ((gI s13 13 4) + r14)) fun s15 => J 3 l4 l5 l6 0 0 s15)
noncomputable def B_X2_hear_3 (J : Nat → Int32 → Int32 → Int32 → Int32 → Int32 → St → Option (Unit × St)) (n : Nat) (b1 : Nat) (l4 : Int32) (l5 : Int32) (l6 : Int32) (σ : St) : Option (Unit × St) := bd (F_X1_settle n 41 l4 l5 l6 σ) fun _ s17 => some ((), s17)
noncomputable def S_X2_hear (b1 : Nat) (n : Nat) (J : Nat → Int32 → Int32 → Int32 → Int32 → Int32 → St → Option (Unit × St)) : Nat → Int32 → Int32 → Int32 → Int32 → Int32 → St → Option (Unit × St) := fun lb a0 a1 a2 a3 a4 σ => match lb with
  | 1 => B_X2_hear_1 J n b1 a0 a1 a2 a3 σ
  | 2 => B_X2_hear_2 J n b1 a0 a1 a2 a3 a4 σ
  | 3 => B_X2_hear_3 J n b1 a0 a1 a2 σ
  | _ => none
noncomputable def L_X2_hear (b1 : Nat) (n : Nat) : Nat → Int32 → Int32 → Int32 → Int32 → Int32 → St → Option (Unit × St) := Nat.rec (fun _ _ _ _ _ _ _ => none) (fun n J => S_X2_hear b1 n J) n
noncomputable def F_X2_hear (n : Nat) (b1 : Nat) (p2 : Int32) (p3 : Int32) (σ : St) : Option (Unit × St) := bd (F_X2_chargerOf n b1 p2 σ) fun r2 s1 => bd (F_X2_chargedOf n b1 p2 s1) fun r4 s3 => bd (F_X2_endOf n b1 p2 s3) fun r6 s5 => if r6 = (1 : Int32) then (L_X2_hear b1 n 1 p3 r2 r4 (1 : Int32) 0 s5) else (L_X2_hear b1 n 1 p3 r2 r4 (0 : Int32) 0 s5)
set_option maxHeartbeats 4000000 in
set_option maxRecDepth 20000 in
theorem t_X2_hear (l : Launch) {p : Program} {e : Env} {s : State} {m : MethodId} {args : Array Value} {below : List Frame} {meth : Method} {c : Code} {D : va_G} {A : Nat → Prop} {ad : Nat → Nat} {dA : Nat → ClassId} (b1 : Nat) (hb1 : isS b1) (K : Cx p s m args meth c cX2_hear 10 none RX2 D (tysX dA) (wdX ad dA) A) {res : Unit × St} (n : Nat) : (∀ (l3 : Int32) (l4 : Int32) (l5 : Int32) (k0 : Int32) (σ : St), L_X2_hear b1 n 1 l3 l4 l5 k0 0 σ = some res → V p l e (rmH 4) s m args below meth c 10 D (wdX ad dA) A (MQ below (QV D (wdX ad dA) A res) args s 0 0 A) 28 [(0, .ref (ad 13)), (3, .int l3), (4, .int l4), (5, .int l5)] [.int k0] σ) ∧ (∀ (l3 : Int32) (l4 : Int32) (l5 : Int32) (l6 : Int32) (l8 : Int32) (σ : St), L_X2_hear b1 n 2 l3 l4 l5 l6 l8 σ = some res → V p l e (rmH 4) s m args below meth c 10 D (wdX ad dA) A (MQ below (QV D (wdX ad dA) A res) args s 0 0 A) 92 [(0, .ref (ad 13)), (3, .int l3), (4, .int l4), (5, .int l5), (6, .int l6), (8, .int l8)] [] σ) ∧ (∀ (l4 : Int32) (l5 : Int32) (l6 : Int32) (σ : St), L_X2_hear b1 n 3 l4 l5 l6 0 0 σ = some res → V p l e (rmH 4) s m args below meth c 10 D (wdX ad dA) A (MQ below (QV D (wdX ad dA) A res) args s 0 0 A) 130 [(0, .ref (ad 13)), (4, .int l4), (5, .int l5), (6, .int l6)] [] σ) := by
  induction n with
  | zero => exact ⟨fun _ _ _ _ _ h => (by cases h), fun _ _ _ _ _ _ h => (by cases h), fun _ _ _ _ h => (by cases h)⟩
  | succ n ih =>
    obtain ⟨ih_1, ih_2, ih_3⟩ := ih
    refine ⟨?_, ?_, ?_⟩
    · intro l3 l4 l5 k0 σ hM
      have hM : B_X2_hear_1 (L_X2_hear b1 n) n b1 l3 l4 l5 k0 σ = some res := hM
      refine v_istore K dX2_hear_28 (by decide) [(6, .int k0), (0, .ref (ad 13)), (3, .int l3), (4, .int l4), (5, .int l5)] rfl ?_
      refine v_iload K dX2_hear_30 0 rfl ?_
      refine v_aload_n K dX2_hear_32 1 rfl ?_
      refine g_X2_0 K qf_X2_44 dX2_hear_33 ?_
      refine v_aload_n K dX2_hear_36 1 rfl ?_
      refine g_X2_1 K qf_X2_12 dX2_hear_37 ?_
      refine v_iload K dX2_hear_40 3 rfl ?_
      refine v_iload K dX2_hear_42 4 rfl ?_
      refine x_Vi (As := [.ref (ad 41), .int l4, .int l5]) (st := [.int k0]) K uv_X3_twelfths qm_X2_71 dX2_hear_44 rv_X3 (fun _ h => c_X3_twelfths l 41 isB_41 n l4 l5 σ h) rfl ⟨(Nat.le_of_ble_eq_true rfl), (Nat.le_of_ble_eq_true rfl)⟩ (Nat.le_of_ble_eq_true rfl) hM (fun r8 s7 hM => ?_)
      refine x_Si (As := [.int k0, .int r8]) (st := []) K us_X3_shareOf qm_X2_77 dX2_hear_47 (fun _ h => c_X3_shareOf l  n k0 r8 s7 h) rfl ⟨(Nat.le_of_ble_eq_true rfl), (Nat.le_of_ble_eq_true rfl)⟩ (Nat.le_of_ble_eq_true rfl) hM (fun r10 s9 hM => ?_)
      refine v_istore K dX2_hear_50 (by decide) [(7, .int r10), (6, .int k0), (0, .ref (ad 13)), (3, .int l3), (4, .int l4), (5, .int l5)] rfl ?_
      refine v_aload_n K dX2_hear_52 2 rfl ?_
      refine v_aload_n K dX2_hear_53 2 rfl ?_
      refine g_X2_3 K qf_X2_22 dX2_hear_54 ?_
      refine v_iload K dX2_hear_57 0 rfl ?_
      refine v_imul K dX2_hear_59 ?_
      refine v_bipush (v := (12 : Int32)) K dX2_hear_60 (by decide) ?_
      refine v_idiv K dX2_hear_62 hM (fun hM => ?_)
      refine v_topi hM (fun x11 hM => ?_)
      refine p_X2_3 K qf_X2_22 dX2_hear_63 hM (fun s12 hM => ?_)
      refine v_iload K dX2_hear_66 1 rfl ?_
      refine v_if_eq K 76 dX2_hear_68 (by decide) hM (fun hM => ?_) (fun hM => ?_)
      · refine v_iload K dX2_hear_76 4 rfl ?_
        refine v_istore K dX2_hear_78 (by decide) [(8, .int l4), (7, .int r10), (6, .int k0), (0, .ref (ad 13)), (3, .int l3), (4, .int l4), (5, .int l5)] rfl ?_
        refine v_iload_n K dX2_hear_80 4 rfl ?_
        refine v_iload K dX2_hear_81 5 rfl ?_
        refine v_icmp_eq K 92 dX2_hear_83 (by decide) hM (fun hM => ?_) (fun hM => ?_)
        · exact v_sub [3, 4, 5, 6, 2, 0] rfl (ih_2 l3 l4 l5 k0 l4 s12 hM)
        · refine v_iload_n K dX2_hear_86 4 rfl ?_
          refine v_iload K dX2_hear_87 6 rfl ?_
          refine v_icmp_ne K 130 dX2_hear_89 (by decide) hM (fun hM => ?_) (fun hM => ?_)
          · exact v_sub [3, 5, 6, 2] rfl (ih_3 l4 l5 k0 s12 hM)
          · exact v_sub [3, 4, 5, 6, 2, 0] rfl (ih_2 l3 l4 l5 k0 l4 s12 hM)
      · refine v_iload K dX2_hear_71 5 rfl ?_
        refine v_goto (tgt := 78) K dX2_hear_73 (by decide) ?_
        refine v_istore K dX2_hear_78 (by decide) [(8, .int l5), (7, .int r10), (6, .int k0), (0, .ref (ad 13)), (3, .int l3), (4, .int l4), (5, .int l5)] rfl ?_
        refine v_iload_n K dX2_hear_80 4 rfl ?_
        refine v_iload K dX2_hear_81 5 rfl ?_
        refine v_icmp_eq K 92 dX2_hear_83 (by decide) hM (fun hM => ?_) (fun hM => ?_)
        · exact v_sub [3, 4, 5, 6, 2, 0] rfl (ih_2 l3 l4 l5 k0 l5 s12 hM)
        · refine v_iload_n K dX2_hear_86 4 rfl ?_
          refine v_iload K dX2_hear_87 6 rfl ?_
          refine v_icmp_ne K 130 dX2_hear_89 (by decide) hM (fun hM => ?_) (fun hM => ?_)
          · exact v_sub [3, 5, 6, 2] rfl (ih_3 l4 l5 k0 s12 hM)
          · exact v_sub [3, 4, 5, 6, 2, 0] rfl (ih_2 l3 l4 l5 k0 l5 s12 hM)
    · intro l3 l4 l5 l6 l8 σ hM
      have hM : B_X2_hear_2 (L_X2_hear b1 n) n b1 l3 l4 l5 l6 l8 σ = some res := hM
      refine v_aload_n K dX2_hear_92 0 rfl ?_
      refine g_X2_0 K qf_X2_44 dX2_hear_93 ?_
      refine x_Vr (As := []) (st := []) K uv_X3_folk qm_X2_81 dX2_hear_96 rv_X3 (c_X3_folk l σ) rfl ⟨(Nat.le_of_ble_eq_true rfl), (Nat.le_of_ble_eq_true rfl)⟩ (Nat.le_of_ble_eq_true rfl) ?_
      refine v_iload K dX2_hear_99 5 rfl ?_
      refine v_iconst (v := (3 : Int32)) K dX2_hear_101 (by decide) ?_
      refine x_Vi (As := [.int l8, .int (3 : Int32)]) (st := []) K uv_X6_numberOf qm_X2_85 dX2_hear_102 rv_X6 (fun _ h => c_X6_numberOf l  n l8 (3 : Int32) σ h) rfl ⟨(Nat.le_of_ble_eq_true rfl), (Nat.le_of_ble_eq_true rfl)⟩ (Nat.le_of_ble_eq_true rfl) hM (fun r14 s13 hM => ?_)
      refine v_istore K dX2_hear_105 (by decide) [(9, .int r14), (0, .ref (ad 13)), (3, .int l3), (4, .int l4), (5, .int l5), (6, .int l6), (8, .int l8)] rfl ?_
      refine v_aload_n K dX2_hear_107 1 rfl ?_
      refine v_dup K dX2_hear_108 rfl ?_
      refine g_X2_4 K qf_X2_25 dX2_hear_109 ?_
      refine v_iload_n K dX2_hear_112 2 rfl ?_
      refine v_iload K dX2_hear_113 6 rfl ?_
      refine v_icmp_ne K 124 dX2_hear_115 (by decide) hM (fun hM => ?_) (fun hM => ?_)
      · refine v_iload K dX2_hear_124 0 rfl ?_
        refine v_iadd K dX2_hear_126 ?_
        refine p_X2_4 K qf_X2_25 dX2_hear_127 hM (fun s15 hM => ?_)
        exact v_sub [1, 3, 4, 5] rfl (ih_3 l4 l5 l6 s15 hM)
      · refine v_iload K dX2_hear_118 0 rfl ?_
        refine v_ineg K dX2_hear_120 ?_
        refine v_goto (tgt := 126) K dX2_hear_121 (by decide) ?_
        refine v_iadd K dX2_hear_126 ?_
        refine p_X2_4 K qf_X2_25 dX2_hear_127 hM (fun s16 hM => ?_)
        exact v_sub [1, 3, 4, 5] rfl (ih_3 l4 l5 l6 s16 hM)
    · intro l4 l5 l6 σ hM
      have hM : B_X2_hear_3 (L_X2_hear b1 n) n b1 l4 l5 l6 σ = some res := hM
      refine v_aload_n K dX2_hear_130 0 rfl ?_
      refine g_X2_1 K qf_X2_12 dX2_hear_131 ?_
      refine v_iload K dX2_hear_134 1 rfl ?_
      refine v_iload K dX2_hear_136 2 rfl ?_
      refine v_iload K dX2_hear_138 3 rfl ?_
      refine x_Vv (As := [.int l4, .int l5, .int l6]) (st := []) K uv_X1_settle qm_X2_91 dX2_hear_140 (rv_X1 isB_41) (fun _ h => c_X1_settle l 41 isB_41 n l4 l5 l6 σ h) rfl ⟨(Nat.le_of_ble_eq_true rfl), (Nat.le_of_ble_eq_true rfl)⟩ (Nat.le_of_ble_eq_true rfl) hM (fun s17 hM => ?_)
      exact v_vret K rfl dX2_hear_143 hM
set_option maxHeartbeats 4000000 in
set_option maxRecDepth 20000 in
theorem c_X2_hear (l : Launch) {D : va_G} {A : Nat → Prop} {ad : Nat → Nat} {dA : Nat → ClassId} (b1 : Nat) (hb1 : isS b1) (n : Nat) (p2 : Int32) (p3 : Int32) (σ : St) {res : Unit × St} (hM : F_X2_hear n b1 p2 p3 σ = some res) : MI l yX2_hear cX2_hear 10 none 4 D (tysX dA) (wdX ad dA) A [.ref (ad 13), .ref (ad b1), .int p2, .int p3] σ (QV D (wdX ad dA) A res) := by
  refine mk_met (by decide +kernel) (Nat.le_of_ble_eq_true rfl) (fun p e s m below meth c K => ?_)
  have K : Cx p s m _ meth c cX2_hear 10 none RX2 D (tysX dA) (wdX ad dA) A := K
  obtain ⟨ih_1, ih_2, ih_3⟩ := t_X2_hear l b1 hb1  K (res := res) n (below := below) (e := e)
  refine v_aload_n K dX2_hear_0 1 rfl ?_
  refine v_iload_n K dX2_hear_1 2 rfl ?_
  refine x_Si (As := [.ref (ad b1), .int p2]) (st := []) K us_X2_chargerOf qm_X2_65 dX2_hear_2 (fun _ h => c_X2_chargerOf l b1 hb1 n p2 σ h) rfl ⟨(Nat.le_of_ble_eq_true rfl), (Nat.le_of_ble_eq_true rfl)⟩ (Nat.le_of_ble_eq_true rfl) hM (fun r2 s1 hM => ?_)
  refine v_istore K dX2_hear_5 (by decide) [(4, .int r2), (0, .ref (ad 13)), (1, .ref (ad b1)), (2, .int p2), (3, .int p3)] rfl ?_
  refine v_aload_n K dX2_hear_7 2 rfl ?_
  refine v_iload_n K dX2_hear_8 3 rfl ?_
  refine x_Si (As := [.ref (ad b1), .int p2]) (st := []) K us_X2_chargedOf qm_X2_68 dX2_hear_9 (fun _ h => c_X2_chargedOf l b1 hb1 n p2 s1 h) rfl ⟨(Nat.le_of_ble_eq_true rfl), (Nat.le_of_ble_eq_true rfl)⟩ (Nat.le_of_ble_eq_true rfl) hM (fun r4 s3 hM => ?_)
  refine v_istore K dX2_hear_12 (by decide) [(5, .int r4), (4, .int r2), (0, .ref (ad 13)), (1, .ref (ad b1)), (2, .int p2), (3, .int p3)] rfl ?_
  refine v_aload_n K dX2_hear_14 3 rfl ?_
  refine v_iload_n K dX2_hear_15 4 rfl ?_
  refine x_Si (As := [.ref (ad b1), .int p2]) (st := []) K us_X2_endOf qm_X2_57 dX2_hear_16 (fun _ h => c_X2_endOf l b1 hb1 n p2 s3 h) rfl ⟨(Nat.le_of_ble_eq_true rfl), (Nat.le_of_ble_eq_true rfl)⟩ (Nat.le_of_ble_eq_true rfl) hM (fun r6 s5 hM => ?_)
  refine v_iconst (v := (1 : Int32)) K dX2_hear_19 (by decide) ?_
  refine v_icmp_ne K 27 dX2_hear_20 (by decide) hM (fun hM => ?_) (fun hM => ?_)
  · refine v_iconst (v := (0 : Int32)) K dX2_hear_27 (by decide) ?_
    exact v_sub [2, 5, 1, 0] rfl (ih_1 p3 r2 r4 (0 : Int32) s5 hM)
  · refine v_iconst (v := (1 : Int32)) K dX2_hear_23 (by decide) ?_
    refine v_goto (tgt := 28) K dX2_hear_24 (by decide) ?_
    exact v_sub [2, 5, 1, 0] rfl (ih_1 p3 r2 r4 (1 : Int32) s5 hM)
noncomputable def B_X2_follow_1 (J : Nat → Int32 → St → Option (Unit × St)) (n : Nat) (b1 : Nat) (b2 : Nat) (l3 : Int32) (σ : St) : Option (Unit × St) := if (20 : Int32) ≤ (gI σ 13 2) then (some ((), σ)) else (bd (F_X2_isLet n b1 (gI σ 13 2) σ) fun r6 s5 => if r6 = 0 then (some ((), s5)) else (bd (F_X2_endOf n b1 (gI s5 13 2) s5) fun r8 s7 => if r8 = (-1 : Int32) then (some ((), s7)) else (bd (F_X2_hear n b1 (gI s7 13 2) l3 s7) fun _ s9 => bnd (sI s9 13 2 ((gI s9 13 2) + (1 : Int32))) fun s10 => J 1 l3 s10)))
noncomputable def S_X2_follow (b1 : Nat) (b2 : Nat) (n : Nat) (J : Nat → Int32 → St → Option (Unit × St)) : Nat → Int32 → St → Option (Unit × St) := fun lb a0 σ => match lb with
  | 1 => B_X2_follow_1 J n b1 b2 a0 σ
  | _ => none
noncomputable def L_X2_follow (b1 : Nat) (b2 : Nat) (n : Nat) : Nat → Int32 → St → Option (Unit × St) := Nat.rec (fun _ _ _ => none) (fun n J => S_X2_follow b1 b2 n J) n
noncomputable def F_X2_follow (n : Nat) (b1 : Nat) (b2 : Nat) (p3 : Int32) (σ : St) : Option (Unit × St) := bd (F_X1_copyFrom n 41 b2 σ) fun _ s1 => bnd (sI s1 13 2 (0 : Int32)) fun s2 => bnd (sI s2 13 3 (1000000 : Int32)) fun s3 => bnd (sI s3 13 4 (0 : Int32)) fun s4 => L_X2_follow b1 b2 n 1 p3 s4
set_option maxHeartbeats 4000000 in
set_option maxRecDepth 20000 in
theorem t_X2_follow (l : Launch) {p : Program} {e : Env} {s : State} {m : MethodId} {args : Array Value} {below : List Frame} {meth : Method} {c : Code} {D : va_G} {A : Nat → Prop} {ad : Nat → Nat} {dA : Nat → ClassId} (b1 : Nat) (b2 : Nat) (hb1 : isS b1) (hb2 : isB b2) (K : Cx p s m args meth c cX2_follow 4 none RX2 D (tysX dA) (wdX ad dA) A) {res : Unit × St} (n : Nat) : (∀ (l3 : Int32) (σ : St), L_X2_follow b1 b2 n 1 l3 σ = some res → V p l e (rmH 5) s m args below meth c 4 D (wdX ad dA) A (MQ below (QV D (wdX ad dA) A res) args s 0 0 A) 24 [(0, .ref (ad 13)), (1, .ref (ad b1)), (3, .int l3)] [] σ) := by
  induction n with
  | zero => exact (fun _ _ h => (by cases h))
  | succ n ih =>
    have ih_1 := ih
    · intro l3 σ hM
      have hM : B_X2_follow_1 (L_X2_follow b1 b2 n) n b1 b2 l3 σ = some res := hM
      refine v_aload_n K dX2_follow_24 0 rfl ?_
      refine g_X2_2 K qf_X2_18 dX2_follow_25 ?_
      refine v_bipush (v := (20 : Int32)) K dX2_follow_28 (by decide) ?_
      refine v_icmp_ge K 80 dX2_follow_30 (by decide) hM (fun hM => ?_) (fun hM => ?_)
      · exact v_vret K rfl dX2_follow_80 hM
      · refine v_aload_n K dX2_follow_33 0 rfl ?_
        refine v_aload_n K dX2_follow_34 1 rfl ?_
        refine v_aload_n K dX2_follow_35 0 rfl ?_
        refine g_X2_2 K qf_X2_18 dX2_follow_36 ?_
        refine x_Vi (As := [.ref (ad b1), .int (gI σ 13 2)]) (st := []) K uv_X2_isLet qm_X2_53 dX2_follow_39 rv_X2 (fun _ h => c_X2_isLet l b1 hb1 n (gI σ 13 2) σ h) rfl ⟨(Nat.le_of_ble_eq_true rfl), (Nat.le_of_ble_eq_true rfl)⟩ (Nat.le_of_ble_eq_true rfl) hM (fun r6 s5 hM => ?_)
        refine v_if_eq K 80 dX2_follow_42 (by decide) hM (fun hM => ?_) (fun hM => ?_)
        · exact v_vret K rfl dX2_follow_80 hM
        · refine v_aload_n K dX2_follow_45 1 rfl ?_
          refine v_aload_n K dX2_follow_46 0 rfl ?_
          refine g_X2_2 K qf_X2_18 dX2_follow_47 ?_
          refine x_Si (As := [.ref (ad b1), .int (gI s5 13 2)]) (st := []) K us_X2_endOf qm_X2_57 dX2_follow_50 (fun _ h => c_X2_endOf l b1 hb1 n (gI s5 13 2) s5 h) rfl ⟨(Nat.le_of_ble_eq_true rfl), (Nat.le_of_ble_eq_true rfl)⟩ (Nat.le_of_ble_eq_true rfl) hM (fun r8 s7 hM => ?_)
          refine v_iconst (v := (-1 : Int32)) K dX2_follow_53 (by decide) ?_
          refine v_icmp_eq K 80 dX2_follow_54 (by decide) hM (fun hM => ?_) (fun hM => ?_)
          · exact v_vret K rfl dX2_follow_80 hM
          · refine v_aload_n K dX2_follow_57 0 rfl ?_
            refine v_aload_n K dX2_follow_58 1 rfl ?_
            refine v_aload_n K dX2_follow_59 0 rfl ?_
            refine g_X2_2 K qf_X2_18 dX2_follow_60 ?_
            refine v_iload_n K dX2_follow_63 2 rfl ?_
            refine x_Vv (As := [.ref (ad b1), .int (gI s7 13 2), .int l3]) (st := []) K uv_X2_hear qm_X2_61 dX2_follow_64 rv_X2 (fun _ h => c_X2_hear l b1 hb1 n (gI s7 13 2) l3 s7 h) rfl ⟨(Nat.le_of_ble_eq_true rfl), (Nat.le_of_ble_eq_true rfl)⟩ (Nat.le_of_ble_eq_true rfl) hM (fun s9 hM => ?_)
            refine v_aload_n K dX2_follow_67 0 rfl ?_
            refine v_dup K dX2_follow_68 rfl ?_
            refine g_X2_2 K qf_X2_18 dX2_follow_69 ?_
            refine v_iconst (v := (1 : Int32)) K dX2_follow_72 (by decide) ?_
            refine v_iadd K dX2_follow_73 ?_
            refine p_X2_2 K qf_X2_18 dX2_follow_74 hM (fun s10 hM => ?_)
            refine v_goto (tgt := 24) K dX2_follow_77 (by decide) ?_
            exact v_sub [0, 1, 2] rfl (ih_1 l3 s10 hM)
set_option maxHeartbeats 4000000 in
set_option maxRecDepth 20000 in
theorem c_X2_follow (l : Launch) {D : va_G} {A : Nat → Prop} {ad : Nat → Nat} {dA : Nat → ClassId} (b1 : Nat) (hb1 : isS b1) (b2 : Nat) (hb2 : isB b2) (n : Nat) (p3 : Int32) (σ : St) {res : Unit × St} (hM : F_X2_follow n b1 b2 p3 σ = some res) : MI l yX2_follow cX2_follow 4 none 5 D (tysX dA) (wdX ad dA) A [.ref (ad 13), .ref (ad b1), .ref (ad b2), .int p3] σ (QV D (wdX ad dA) A res) := by
  refine mk_met (by decide +kernel) (Nat.le_of_ble_eq_true rfl) (fun p e s m below meth c K => ?_)
  have K : Cx p s m _ meth c cX2_follow 4 none RX2 D (tysX dA) (wdX ad dA) A := K
  have ih_1 := t_X2_follow l b1 b2 hb1 hb2  K (res := res) n (below := below) (e := e)
  refine v_aload_n K dX2_follow_0 0 rfl ?_
  refine g_X2_1 K qf_X2_12 dX2_follow_1 ?_
  refine v_aload_n K dX2_follow_4 2 rfl ?_
  refine x_Vv (As := [.ref (ad b2)]) (st := []) K uv_X1_copyFrom qm_X2_48 dX2_follow_5 (rv_X1 isB_41) (fun _ h => c_X1_copyFrom l 41 isB_41 b2 hb2 n  σ h) rfl ⟨(Nat.le_of_ble_eq_true rfl), (Nat.le_of_ble_eq_true rfl)⟩ (Nat.le_of_ble_eq_true rfl) hM (fun s1 hM => ?_)
  refine v_aload_n K dX2_follow_8 0 rfl ?_
  refine v_iconst (v := (0 : Int32)) K dX2_follow_9 (by decide) ?_
  refine p_X2_2 K qf_X2_18 dX2_follow_10 hM (fun s2 hM => ?_)
  refine v_aload_n K dX2_follow_13 0 rfl ?_
  refine v_ldc (v := (1000000 : Int32)) K qc_X2_52 dX2_follow_14 ?_
  refine p_X2_3 K qf_X2_22 dX2_follow_16 hM (fun s3 hM => ?_)
  refine v_aload_n K dX2_follow_19 0 rfl ?_
  refine v_iconst (v := (0 : Int32)) K dX2_follow_20 (by decide) ?_
  refine p_X2_4 K qf_X2_25 dX2_follow_21 hM (fun s4 hM => ?_)
  exact v_sub [0, 1, 3] rfl (ih_1 p3 s4 hM)
noncomputable def F_X2_heard (n : Nat)  (σ : St) : Option (Int32 × St) := some ((gI σ 13 2), σ)
set_option maxHeartbeats 4000000 in
set_option maxRecDepth 20000 in
theorem c_X2_heard (l : Launch) {D : va_G} {A : Nat → Prop} {ad : Nat → Nat} {dA : Nat → ClassId}  (n : Nat)  (σ : St) {res : Int32 × St} (hM : F_X2_heard n  σ = some res) : MI l yX2_heard cX2_heard 1 (some .int) 1 D (tysX dA) (wdX ad dA) A [.ref (ad 13)] σ (QI D (wdX ad dA) A res) := by
  refine mk_met (by decide +kernel) (Nat.le_of_ble_eq_true rfl) (fun p e s m below meth c K => ?_)
  have K : Cx p s m _ meth c cX2_heard 1 (some .int) RX2 D (tysX dA) (wdX ad dA) A := K
  refine v_aload_n K dX2_heard_0 0 rfl ?_
  refine g_X2_2 K qf_X2_18 dX2_heard_1 ?_
  exact v_iret K rfl dX2_heard_4 hM
noncomputable def F_X2_millionths (n : Nat)  (σ : St) : Option (Int32 × St) := some ((gI σ 13 3), σ)
set_option maxHeartbeats 4000000 in
set_option maxRecDepth 20000 in
theorem c_X2_millionths (l : Launch) {D : va_G} {A : Nat → Prop} {ad : Nat → Nat} {dA : Nat → ClassId}  (n : Nat)  (σ : St) {res : Int32 × St} (hM : F_X2_millionths n  σ = some res) : MI l yX2_millionths cX2_millionths 1 (some .int) 1 D (tysX dA) (wdX ad dA) A [.ref (ad 13)] σ (QI D (wdX ad dA) A res) := by
  refine mk_met (by decide +kernel) (Nat.le_of_ble_eq_true rfl) (fun p e s m below meth c K => ?_)
  have K : Cx p s m _ meth c cX2_millionths 1 (some .int) RX2 D (tysX dA) (wdX ad dA) A := K
  refine v_aload_n K dX2_millionths_0 0 rfl ?_
  refine g_X2_3 K qf_X2_22 dX2_millionths_1 ?_
  exact v_iret K rfl dX2_millionths_4 hM
noncomputable def F_X2_gained (n : Nat)  (σ : St) : Option (Int32 × St) := some ((gI σ 13 4), σ)
set_option maxHeartbeats 4000000 in
set_option maxRecDepth 20000 in
theorem c_X2_gained (l : Launch) {D : va_G} {A : Nat → Prop} {ad : Nat → Nat} {dA : Nat → ClassId}  (n : Nat)  (σ : St) {res : Int32 × St} (hM : F_X2_gained n  σ = some res) : MI l yX2_gained cX2_gained 1 (some .int) 1 D (tysX dA) (wdX ad dA) A [.ref (ad 13)] σ (QI D (wdX ad dA) A res) := by
  refine mk_met (by decide +kernel) (Nat.le_of_ble_eq_true rfl) (fun p e s m below meth c K => ?_)
  have K : Cx p s m _ meth c cX2_gained 1 (some .int) RX2 D (tysX dA) (wdX ad dA) A := K
  refine v_aload_n K dX2_gained_0 0 rfl ?_
  refine g_X2_4 K qf_X2_25 dX2_gained_1 ?_
  exact v_iret K rfl dX2_gained_4 hM
noncomputable def F_X2_boundTo (n : Nat) (p1 : Int32) (σ : St) : Option (Int32 × St) := bd (F_X1_boundTo n 41 p1 σ) fun r2 s1 => some (r2, s1)
set_option maxHeartbeats 4000000 in
set_option maxRecDepth 20000 in
theorem c_X2_boundTo (l : Launch) {D : va_G} {A : Nat → Prop} {ad : Nat → Nat} {dA : Nat → ClassId}  (n : Nat) (p1 : Int32) (σ : St) {res : Int32 × St} (hM : F_X2_boundTo n p1 σ = some res) : MI l yX2_boundTo cX2_boundTo 2 (some .int) 3 D (tysX dA) (wdX ad dA) A [.ref (ad 13), .int p1] σ (QI D (wdX ad dA) A res) := by
  refine mk_met (by decide +kernel) (Nat.le_of_ble_eq_true rfl) (fun p e s m below meth c K => ?_)
  have K : Cx p s m _ meth c cX2_boundTo 2 (some .int) RX2 D (tysX dA) (wdX ad dA) A := K
  refine v_aload_n K dX2_boundTo_0 0 rfl ?_
  refine g_X2_1 K qf_X2_12 dX2_boundTo_1 ?_
  refine v_iload_n K dX2_boundTo_4 1 rfl ?_
  refine x_Vi (As := [.int p1]) (st := []) K uv_X1_boundTo qm_X2_95 dX2_boundTo_5 (rv_X1 isB_41) (fun _ h => c_X1_boundTo l 41 isB_41 n p1 σ h) rfl ⟨(Nat.le_of_ble_eq_true rfl), (Nat.le_of_ble_eq_true rfl)⟩ (Nat.le_of_ble_eq_true rfl) hM (fun r2 s1 hM => ?_)
  exact v_iret K rfl dX2_boundTo_8 hM
noncomputable def F_X2_casesOf (n : Nat) (b0 : Nat) (σ : St) : Option (Int32 × St) := bd (F_X10_size n b0 σ) fun r2 s1 => gd (¬ (3 : Int32) = 0) (bnd ((r2 + (2 : Int32)) / (3 : Int32)) fun x3 => bnd (if x3 < (16 : Int32) then x3 else (16 : Int32)) fun x4 => some (x4, s1))
set_option maxHeartbeats 4000000 in
set_option maxRecDepth 20000 in
theorem c_X2_casesOf (l : Launch) {D : va_G} {A : Nat → Prop} {ad : Nat → Nat} {dA : Nat → ClassId} (b0 : Nat) (hb0 : isS b0) (n : Nat)  (σ : St) {res : Int32 × St} (hM : F_X2_casesOf n b0 σ = some res) : MI l yX2_casesOf cX2_casesOf 1 (some .int) 2 D (tysX dA) (wdX ad dA) A [.ref (ad b0)] σ (QI D (wdX ad dA) A res) := by
  refine mk_met (by decide +kernel) (Nat.le_of_ble_eq_true rfl) (fun p e s m below meth c K => ?_)
  have K : Cx p s m _ meth c cX2_casesOf 1 (some .int) RX2 D (tysX dA) (wdX ad dA) A := K
  refine v_bipush (v := (16 : Int32)) K dX2_casesOf_0 (by decide) ?_
  refine v_aload_n K dX2_casesOf_2 0 rfl ?_
  refine x_Vi (As := []) (st := [.int (16 : Int32)]) K uv_X10_size qm_X2_104 dX2_casesOf_3 (rv_X10 hb0) (fun _ h => c_X10_size l b0 hb0 n  σ h) rfl ⟨(Nat.le_of_ble_eq_true rfl), (Nat.le_of_ble_eq_true rfl)⟩ (Nat.le_of_ble_eq_true rfl) hM (fun r2 s1 hM => ?_)
  refine v_iconst (v := (2 : Int32)) K dX2_casesOf_6 (by decide) ?_
  refine v_iadd K dX2_casesOf_7 ?_
  refine v_iconst (v := (3 : Int32)) K dX2_casesOf_8 (by decide) ?_
  refine v_idiv K dX2_casesOf_9 hM (fun hM => ?_)
  refine v_topi hM (fun x3 hM => ?_)
  refine x_mmin K qm_X2_119 qs_min qi_Math qk_min dX2_casesOf_10 (Nat.le_of_ble_eq_true rfl) (Nat.le_of_ble_eq_true rfl) ?_
  refine v_topi hM (fun x4 hM => ?_)
  exact v_iret K rfl dX2_casesOf_13 hM
noncomputable def B_X2_countUnknown_1 (J : Nat → Int32 → Int32 → St → Option (Int32 × St)) (n : Nat) (b1 : Nat) (l2 : Int32) (l3 : Int32) (σ : St) : Option (Int32 × St) := bd (F_X2_casesOf n b1 σ) fun r2 s1 => if r2 ≤ l3 then (some (l2, s1)) else (bd (F_X2_isWhole n b1 l3 s1) fun r4 s3 => if r4 = 0 then (bnd (l3 + (1 : Int32)) fun x5 => J 1 l2 x5 s3) else (bd (F_X2_endOf n b1 l3 s3) fun r7 s6 => if r7 = (-1 : Int32) then (bd (F_X2_chargerOf n b1 l3 s6) fun r10 s9 => bd (F_X6_has n r10 s9) fun r12 s11 => if r12 = 0 then (bnd (l3 + (1 : Int32)) fun x13 => J 1 l2 x13 s11) else (bd (F_X2_chargedOf n b1 l3 s11) fun r15 s14 => bd (F_X6_has n r15 s14) fun r17 s16 => if r17 = 0 then (bnd (l3 + (1 : Int32)) fun x18 => J 1 l2 x18 s16) else (bnd (l2 + (1 : Int32)) fun x19 => bnd (l3 + (1 : Int32)) fun x20 => J 1 x19 x20 s16))) else (bnd (l3 + (1 : Int32)) fun x8 => J 1 l2 x8 s6)))
noncomputable def S_X2_countUnknown (b1 : Nat) (n : Nat) (J : Nat → Int32 → Int32 → St → Option (Int32 × St)) : Nat → Int32 → Int32 → St → Option (Int32 × St) := fun lb a0 a1 σ => match lb with
  | 1 => B_X2_countUnknown_1 J n b1 a0 a1 σ
  | _ => none
noncomputable def L_X2_countUnknown (b1 : Nat) (n : Nat) : Nat → Int32 → Int32 → St → Option (Int32 × St) := Nat.rec (fun _ _ _ _ => none) (fun n J => S_X2_countUnknown b1 n J) n
noncomputable def F_X2_countUnknown (n : Nat) (b1 : Nat) (σ : St) : Option (Int32 × St) := L_X2_countUnknown b1 n 1 (0 : Int32) (0 : Int32) σ
set_option maxHeartbeats 4000000 in
set_option maxRecDepth 20000 in
theorem t_X2_countUnknown (l : Launch) {p : Program} {e : Env} {s : State} {m : MethodId} {args : Array Value} {below : List Frame} {meth : Method} {c : Code} {D : va_G} {A : Nat → Prop} {ad : Nat → Nat} {dA : Nat → ClassId} (b1 : Nat) (hb1 : isS b1) (K : Cx p s m args meth c cX2_countUnknown 4 (some .int) RX2 D (tysX dA) (wdX ad dA) A) {res : Int32 × St} (n : Nat) : (∀ (l2 : Int32) (l3 : Int32) (σ : St), L_X2_countUnknown b1 n 1 l2 l3 σ = some res → V p l e (rmH 4) s m args below meth c 4 D (wdX ad dA) A (MQ below (QI D (wdX ad dA) A res) args s 0 0 A) 4 [(0, .ref (ad 13)), (1, .ref (ad b1)), (2, .int l2), (3, .int l3)] [] σ) := by
  induction n with
  | zero => exact (fun _ _ _ h => (by cases h))
  | succ n ih =>
    have ih_1 := ih
    · intro l2 l3 σ hM
      have hM : B_X2_countUnknown_1 (L_X2_countUnknown b1 n) n b1 l2 l3 σ = some res := hM
      refine v_iload_n K dX2_countUnknown_4 3 rfl ?_
      refine v_aload_n K dX2_countUnknown_5 1 rfl ?_
      refine x_Si (As := [.ref (ad b1)]) (st := [.int l3]) K us_X2_casesOf qm_X2_124 dX2_countUnknown_6 (fun _ h => c_X2_casesOf l b1 hb1 n  σ h) rfl ⟨(Nat.le_of_ble_eq_true rfl), (Nat.le_of_ble_eq_true rfl)⟩ (Nat.le_of_ble_eq_true rfl) hM (fun r2 s1 hM => ?_)
      refine v_icmp_ge K 74 dX2_countUnknown_9 (by decide) hM (fun hM => ?_) (fun hM => ?_)
      · refine v_iload_n K dX2_countUnknown_74 2 rfl ?_
        exact v_iret K rfl dX2_countUnknown_75 hM
      · refine v_aload_n K dX2_countUnknown_12 1 rfl ?_
        refine v_iload_n K dX2_countUnknown_13 3 rfl ?_
        refine x_Si (As := [.ref (ad b1), .int l3]) (st := []) K us_X2_isWhole qm_X2_108 dX2_countUnknown_14 (fun _ h => c_X2_isWhole l b1 hb1 n l3 s1 h) rfl ⟨(Nat.le_of_ble_eq_true rfl), (Nat.le_of_ble_eq_true rfl)⟩ (Nat.le_of_ble_eq_true rfl) hM (fun r4 s3 hM => ?_)
        refine v_if_eq K 68 dX2_countUnknown_17 (by decide) hM (fun hM => ?_) (fun hM => ?_)
        · refine v_iinc K dX2_countUnknown_68 3 rfl (v := (l3 + (1 : Int32))) rfl (by decide) hM (fun y => [(3, .int y), (0, .ref (ad 13)), (1, .ref (ad b1)), (2, .int l2)]) (fun _ => rfl) (fun x5 hM => ?_)
          refine v_goto (tgt := 4) K dX2_countUnknown_71 (by decide) ?_
          exact v_sub [1, 2, 3, 0] rfl (ih_1 l2 x5 s3 hM)
        · refine v_aload_n K dX2_countUnknown_20 1 rfl ?_
          refine v_iload_n K dX2_countUnknown_21 3 rfl ?_
          refine x_Si (As := [.ref (ad b1), .int l3]) (st := []) K us_X2_endOf qm_X2_57 dX2_countUnknown_22 (fun _ h => c_X2_endOf l b1 hb1 n l3 s3 h) rfl ⟨(Nat.le_of_ble_eq_true rfl), (Nat.le_of_ble_eq_true rfl)⟩ (Nat.le_of_ble_eq_true rfl) hM (fun r7 s6 hM => ?_)
          refine v_iconst (v := (-1 : Int32)) K dX2_countUnknown_25 (by decide) ?_
          refine v_icmp_ne K 68 dX2_countUnknown_26 (by decide) hM (fun hM => ?_) (fun hM => ?_)
          · refine v_iinc K dX2_countUnknown_68 3 rfl (v := (l3 + (1 : Int32))) rfl (by decide) hM (fun y => [(3, .int y), (0, .ref (ad 13)), (1, .ref (ad b1)), (2, .int l2)]) (fun _ => rfl) (fun x8 hM => ?_)
            refine v_goto (tgt := 4) K dX2_countUnknown_71 (by decide) ?_
            exact v_sub [1, 2, 3, 0] rfl (ih_1 l2 x8 s6 hM)
          · refine v_aload_n K dX2_countUnknown_29 0 rfl ?_
            refine g_X2_0 K qf_X2_44 dX2_countUnknown_30 ?_
            refine x_Vr (As := []) (st := []) K uv_X3_folk qm_X2_81 dX2_countUnknown_33 rv_X3 (c_X3_folk l s6) rfl ⟨(Nat.le_of_ble_eq_true rfl), (Nat.le_of_ble_eq_true rfl)⟩ (Nat.le_of_ble_eq_true rfl) ?_
            refine v_aload_n K dX2_countUnknown_36 1 rfl ?_
            refine v_iload_n K dX2_countUnknown_37 3 rfl ?_
            refine x_Si (As := [.ref (ad b1), .int l3]) (st := [.ref (ad 4)]) K us_X2_chargerOf qm_X2_65 dX2_countUnknown_38 (fun _ h => c_X2_chargerOf l b1 hb1 n l3 s6 h) rfl ⟨(Nat.le_of_ble_eq_true rfl), (Nat.le_of_ble_eq_true rfl)⟩ (Nat.le_of_ble_eq_true rfl) hM (fun r10 s9 hM => ?_)
            refine x_Vi (As := [.int r10]) (st := []) K uv_X6_has qm_X2_128 dX2_countUnknown_41 rv_X6 (fun _ h => c_X6_has l  n r10 s9 h) rfl ⟨(Nat.le_of_ble_eq_true rfl), (Nat.le_of_ble_eq_true rfl)⟩ (Nat.le_of_ble_eq_true rfl) hM (fun r12 s11 hM => ?_)
            refine v_if_eq K 68 dX2_countUnknown_44 (by decide) hM (fun hM => ?_) (fun hM => ?_)
            · refine v_iinc K dX2_countUnknown_68 3 rfl (v := (l3 + (1 : Int32))) rfl (by decide) hM (fun y => [(3, .int y), (0, .ref (ad 13)), (1, .ref (ad b1)), (2, .int l2)]) (fun _ => rfl) (fun x13 hM => ?_)
              refine v_goto (tgt := 4) K dX2_countUnknown_71 (by decide) ?_
              exact v_sub [1, 2, 3, 0] rfl (ih_1 l2 x13 s11 hM)
            · refine v_aload_n K dX2_countUnknown_47 0 rfl ?_
              refine g_X2_0 K qf_X2_44 dX2_countUnknown_48 ?_
              refine x_Vr (As := []) (st := []) K uv_X3_folk qm_X2_81 dX2_countUnknown_51 rv_X3 (c_X3_folk l s11) rfl ⟨(Nat.le_of_ble_eq_true rfl), (Nat.le_of_ble_eq_true rfl)⟩ (Nat.le_of_ble_eq_true rfl) ?_
              refine v_aload_n K dX2_countUnknown_54 1 rfl ?_
              refine v_iload_n K dX2_countUnknown_55 3 rfl ?_
              refine x_Si (As := [.ref (ad b1), .int l3]) (st := [.ref (ad 4)]) K us_X2_chargedOf qm_X2_68 dX2_countUnknown_56 (fun _ h => c_X2_chargedOf l b1 hb1 n l3 s11 h) rfl ⟨(Nat.le_of_ble_eq_true rfl), (Nat.le_of_ble_eq_true rfl)⟩ (Nat.le_of_ble_eq_true rfl) hM (fun r15 s14 hM => ?_)
              refine x_Vi (As := [.int r15]) (st := []) K uv_X6_has qm_X2_128 dX2_countUnknown_59 rv_X6 (fun _ h => c_X6_has l  n r15 s14 h) rfl ⟨(Nat.le_of_ble_eq_true rfl), (Nat.le_of_ble_eq_true rfl)⟩ (Nat.le_of_ble_eq_true rfl) hM (fun r17 s16 hM => ?_)
              refine v_if_eq K 68 dX2_countUnknown_62 (by decide) hM (fun hM => ?_) (fun hM => ?_)
              · refine v_iinc K dX2_countUnknown_68 3 rfl (v := (l3 + (1 : Int32))) rfl (by decide) hM (fun y => [(3, .int y), (0, .ref (ad 13)), (1, .ref (ad b1)), (2, .int l2)]) (fun _ => rfl) (fun x18 hM => ?_)
                refine v_goto (tgt := 4) K dX2_countUnknown_71 (by decide) ?_
                exact v_sub [1, 2, 3, 0] rfl (ih_1 l2 x18 s16 hM)
              · refine v_iinc K dX2_countUnknown_65 2 rfl (v := (l2 + (1 : Int32))) rfl (by decide) hM (fun y => [(2, .int y), (0, .ref (ad 13)), (1, .ref (ad b1)), (3, .int l3)]) (fun _ => rfl) (fun x19 hM => ?_)
                refine v_iinc K dX2_countUnknown_68 3 rfl (v := (l3 + (1 : Int32))) rfl (by decide) hM (fun y => [(3, .int y), (2, .int x19), (0, .ref (ad 13)), (1, .ref (ad b1))]) (fun _ => rfl) (fun x20 hM => ?_)
                refine v_goto (tgt := 4) K dX2_countUnknown_71 (by decide) ?_
                exact v_sub [2, 3, 1, 0] rfl (ih_1 x19 x20 s16 hM)
set_option maxHeartbeats 4000000 in
set_option maxRecDepth 20000 in
theorem c_X2_countUnknown (l : Launch) {D : va_G} {A : Nat → Prop} {ad : Nat → Nat} {dA : Nat → ClassId} (b1 : Nat) (hb1 : isS b1) (n : Nat)  (σ : St) {res : Int32 × St} (hM : F_X2_countUnknown n b1 σ = some res) : MI l yX2_countUnknown cX2_countUnknown 4 (some .int) 4 D (tysX dA) (wdX ad dA) A [.ref (ad 13), .ref (ad b1)] σ (QI D (wdX ad dA) A res) := by
  refine mk_met (by decide +kernel) (Nat.le_of_ble_eq_true rfl) (fun p e s m below meth c K => ?_)
  have K : Cx p s m _ meth c cX2_countUnknown 4 (some .int) RX2 D (tysX dA) (wdX ad dA) A := K
  have ih_1 := t_X2_countUnknown l b1 hb1  K (res := res) n (below := below) (e := e)
  refine v_iconst (v := (0 : Int32)) K dX2_countUnknown_0 (by decide) ?_
  refine v_istore_n K dX2_countUnknown_1 rfl (by decide) [(2, .int (0 : Int32)), (0, .ref (ad 13)), (1, .ref (ad b1))] rfl ?_
  refine v_iconst (v := (0 : Int32)) K dX2_countUnknown_2 (by decide) ?_
  refine v_istore_n K dX2_countUnknown_3 rfl (by decide) [(3, .int (0 : Int32)), (2, .int (0 : Int32)), (0, .ref (ad 13)), (1, .ref (ad b1))] rfl ?_
  exact v_sub [2, 3, 1, 0] rfl (ih_1 (0 : Int32) (0 : Int32) σ hM)
noncomputable def B_X2_walk_1 (J : Nat → Int32 → Int32 → Int32 → Int32 → Int32 → St → Option (Unit × St)) (n : Nat) (b1 : Nat) (b2 : Nat) (l3 : Int32) (l4 : Int32) (l5 : Int32) (σ : St) : Option (Unit × St) := bd (F_X2_casesOf n b1 σ) fun r6 s5 => if r6 ≤ l5 then (some ((), s5)) else (bd (F_X2_isLet n b1 l5 s5) fun r8 s7 => if r8 = 0 then (bnd (sI s7 13 5 l5) fun s17 => some ((), s17)) else (bd (F_X2_chargerOf n b1 l5 s7) fun r10 s9 => bd (F_X2_chargedOf n b1 l5 s9) fun r12 s11 => bd (F_X3_twelfths n 41 r10 r12 s11) fun r14 s13 => bd (F_X2_endOf n b1 l5 s13) fun r16 s15 => if r16 = (1 : Int32) then (J 2 l3 l4 l5 r14 (1 : Int32) s15) else (J 2 l3 l4 l5 r14 (0 : Int32) s15)))
noncomputable def B_X2_walk_2 (J : Nat → Int32 → Int32 → Int32 → Int32 → Int32 → St → Option (Unit × St)) (n : Nat) (b1 : Nat) (b2 : Nat) (l3 : Int32) (l4 : Int32) (l5 : Int32) (l6 : Int32) (k0 : Int32) (σ : St) : Option (Unit × St) := bd (F_X2_endOf n b1 l5 σ) fun r19 s18 => if r19 = (-1 : Int32) then (if l3 = (-1 : Int32) then (if l6 < (6 : Int32) then (bnd (l4 + (1 : Int32)) fun x22 => J 3 l3 x22 l5 l6 (0 : Int32) s18) else (bnd (l4 + (1 : Int32)) fun x23 => J 3 l3 x23 l5 l6 (1 : Int32) s18)) else (if ((l3 >>> (l4 &&& 31)) &&& (1 : Int32)) = (1 : Int32) then (bnd (l4 + (1 : Int32)) fun x21 => J 3 l3 x21 l5 l6 (1 : Int32) s18) else (bnd (l4 + (1 : Int32)) fun x20 => J 3 l3 x20 l5 l6 (0 : Int32) s18))) else (J 3 l3 l4 l5 l6 k0 s18)
noncomputable def B_X2_walk_3 (J : Nat → Int32 → Int32 → Int32 → Int32 → Int32 → St → Option (Unit × St)) (n : Nat) (b1 : Nat) (b2 : Nat) (l3 : Int32) (l4 : Int32) (l5 : Int32) (l6 : Int32) (l7 : Int32) (σ : St) : Option (Unit × St) := bd (F_X3_shareOf n l7 l6 σ) fun r25 s24 => if r25 = 0 then (bnd (sI s24 13 5 l5) fun s27 => some ((), s27)) else (if (gI s24 13 6) = (-2 : Int32) then (if (6 : Int32) ≤ r25 then (J 4 l3 l4 l5 l7 r25 s24) else (bnd (sI s24 13 6 l5) fun s26 => J 4 l3 l4 l5 l7 r25 s26)) else (J 4 l3 l4 l5 l7 r25 s24))
noncomputable def B_X2_walk_4 (J : Nat → Int32 → Int32 → Int32 → Int32 → Int32 → St → Option (Unit × St)) (n : Nat) (b1 : Nat) (b2 : Nat) (l3 : Int32) (l4 : Int32) (l5 : Int32) (l7 : Int32) (l8 : Int32) (σ : St) : Option (Unit × St) := bnd (sL σ 13 7 ((gL σ 13 7) * ((l8).toInt64))) fun s28 => bd (F_X2_chargerOf n b1 l5 s28) fun r30 s29 => bd (F_X2_chargedOf n b1 l5 s29) fun r32 s31 => bd (F_X1_settle n 41 r30 r32 l7 s31) fun _ s33 => bnd (l5 + (1 : Int32)) fun x34 => J 1 l3 l4 x34 0 0 s33
noncomputable def S_X2_walk (b1 : Nat) (b2 : Nat) (n : Nat) (J : Nat → Int32 → Int32 → Int32 → Int32 → Int32 → St → Option (Unit × St)) : Nat → Int32 → Int32 → Int32 → Int32 → Int32 → St → Option (Unit × St) := fun lb a0 a1 a2 a3 a4 σ => match lb with
  | 1 => B_X2_walk_1 J n b1 b2 a0 a1 a2 σ
  | 2 => B_X2_walk_2 J n b1 b2 a0 a1 a2 a3 a4 σ
  | 3 => B_X2_walk_3 J n b1 b2 a0 a1 a2 a3 a4 σ
  | 4 => B_X2_walk_4 J n b1 b2 a0 a1 a2 a3 a4 σ
  | _ => none
noncomputable def L_X2_walk (b1 : Nat) (b2 : Nat) (n : Nat) : Nat → Int32 → Int32 → Int32 → Int32 → Int32 → St → Option (Unit × St) := Nat.rec (fun _ _ _ _ _ _ _ => none) (fun n J => S_X2_walk b1 b2 n J) n
noncomputable def F_X2_walk (n : Nat) (b1 : Nat) (b2 : Nat) (p3 : Int32) (σ : St) : Option (Unit × St) := bd (F_X1_copyFrom n 41 b2 σ) fun _ s1 => bnd (sI s1 13 5 (-2 : Int32)) fun s2 => bnd (sI s2 13 6 (-2 : Int32)) fun s3 => bnd (sL s3 13 7 (1 : Int64)) fun s4 => L_X2_walk b1 b2 n 1 p3 (0 : Int32) (0 : Int32) 0 0 s4
set_option maxHeartbeats 4000000 in
set_option maxRecDepth 20000 in
theorem t_X2_walk (l : Launch) {p : Program} {e : Env} {s : State} {m : MethodId} {args : Array Value} {below : List Frame} {meth : Method} {c : Code} {D : va_G} {A : Nat → Prop} {ad : Nat → Nat} {dA : Nat → ClassId} (b1 : Nat) (b2 : Nat) (hb1 : isS b1) (hb2 : isB b2) (K : Cx p s m args meth c cX2_walk 9 none RX2 D (tysX dA) (wdX ad dA) A) {res : Unit × St} (n : Nat) : (∀ (l3 : Int32) (l4 : Int32) (l5 : Int32) (σ : St), L_X2_walk b1 b2 n 1 l3 l4 l5 0 0 σ = some res → V p l e (rmH 5) s m args below meth c 9 D (wdX ad dA) A (MQ below (QV D (wdX ad dA) A res) args s 0 0 A) 31 [(0, .ref (ad 13)), (1, .ref (ad b1)), (3, .int l3), (4, .int l4), (5, .int l5)] [] σ) ∧ (∀ (l3 : Int32) (l4 : Int32) (l5 : Int32) (l6 : Int32) (k0 : Int32) (σ : St), L_X2_walk b1 b2 n 2 l3 l4 l5 l6 k0 σ = some res → V p l e (rmH 5) s m args below meth c 9 D (wdX ad dA) A (MQ below (QV D (wdX ad dA) A res) args s 0 0 A) 97 [(0, .ref (ad 13)), (1, .ref (ad b1)), (3, .int l3), (4, .int l4), (5, .int l5), (6, .int l6)] [.int k0] σ) ∧ (∀ (l3 : Int32) (l4 : Int32) (l5 : Int32) (l6 : Int32) (l7 : Int32) (σ : St), L_X2_walk b1 b2 n 3 l3 l4 l5 l6 l7 σ = some res → V p l e (rmH 5) s m args below meth c 9 D (wdX ad dA) A (MQ below (QV D (wdX ad dA) A res) args s 0 0 A) 149 [(0, .ref (ad 13)), (1, .ref (ad b1)), (3, .int l3), (4, .int l4), (5, .int l5), (6, .int l6), (7, .int l7)] [] σ) ∧ (∀ (l3 : Int32) (l4 : Int32) (l5 : Int32) (l7 : Int32) (l8 : Int32) (σ : St), L_X2_walk b1 b2 n 4 l3 l4 l5 l7 l8 σ = some res → V p l e (rmH 5) s m args below meth c 9 D (wdX ad dA) A (MQ below (QV D (wdX ad dA) A res) args s 0 0 A) 192 [(0, .ref (ad 13)), (1, .ref (ad b1)), (3, .int l3), (4, .int l4), (5, .int l5), (7, .int l7), (8, .int l8)] [] σ) := by
  induction n with
  | zero => exact ⟨fun _ _ _ _ h => (by cases h), fun _ _ _ _ _ _ h => (by cases h), fun _ _ _ _ _ _ h => (by cases h), fun _ _ _ _ _ _ h => (by cases h)⟩
  | succ n ih =>
    obtain ⟨ih_1, ih_2, ih_3, ih_4⟩ := ih
    refine ⟨?_, ?_, ?_, ?_⟩
    · intro l3 l4 l5 σ hM
      have hM : B_X2_walk_1 (L_X2_walk b1 b2 n) n b1 b2 l3 l4 l5 σ = some res := hM
      refine v_iload K dX2_walk_31 4 rfl ?_
      refine v_aload_n K dX2_walk_33 1 rfl ?_
      refine x_Si (As := [.ref (ad b1)]) (st := [.int l5]) K us_X2_casesOf qm_X2_124 dX2_walk_34 (fun _ h => c_X2_casesOf l b1 hb1 n  σ h) rfl ⟨(Nat.le_of_ble_eq_true rfl), (Nat.le_of_ble_eq_true rfl)⟩ (Nat.le_of_ble_eq_true rfl) hM (fun r6 s5 hM => ?_)
      refine v_icmp_ge K 231 dX2_walk_37 (by decide) hM (fun hM => ?_) (fun hM => ?_)
      · exact v_vret K rfl dX2_walk_231 hM
      · refine v_aload_n K dX2_walk_40 0 rfl ?_
        refine v_aload_n K dX2_walk_41 1 rfl ?_
        refine v_iload K dX2_walk_42 4 rfl ?_
        refine x_Vi (As := [.ref (ad b1), .int l5]) (st := []) K uv_X2_isLet qm_X2_53 dX2_walk_44 rv_X2 (fun _ h => c_X2_isLet l b1 hb1 n l5 s5 h) rfl ⟨(Nat.le_of_ble_eq_true rfl), (Nat.le_of_ble_eq_true rfl)⟩ (Nat.le_of_ble_eq_true rfl) hM (fun r8 s7 hM => ?_)
        refine v_if_ne K 57 dX2_walk_47 (by decide) hM (fun hM => ?_) (fun hM => ?_)
        · refine v_aload_n K dX2_walk_57 0 rfl ?_
          refine g_X2_0 K qf_X2_44 dX2_walk_58 ?_
          refine v_aload_n K dX2_walk_61 0 rfl ?_
          refine g_X2_1 K qf_X2_12 dX2_walk_62 ?_
          refine v_aload_n K dX2_walk_65 1 rfl ?_
          refine v_iload K dX2_walk_66 4 rfl ?_
          refine x_Si (As := [.ref (ad b1), .int l5]) (st := [.ref (ad 41), .ref (ad 11)]) K us_X2_chargerOf qm_X2_65 dX2_walk_68 (fun _ h => c_X2_chargerOf l b1 hb1 n l5 s7 h) rfl ⟨(Nat.le_of_ble_eq_true rfl), (Nat.le_of_ble_eq_true rfl)⟩ (Nat.le_of_ble_eq_true rfl) hM (fun r10 s9 hM => ?_)
          refine v_aload_n K dX2_walk_71 1 rfl ?_
          refine v_iload K dX2_walk_72 4 rfl ?_
          refine x_Si (As := [.ref (ad b1), .int l5]) (st := [.int r10, .ref (ad 41), .ref (ad 11)]) K us_X2_chargedOf qm_X2_68 dX2_walk_74 (fun _ h => c_X2_chargedOf l b1 hb1 n l5 s9 h) rfl ⟨(Nat.le_of_ble_eq_true rfl), (Nat.le_of_ble_eq_true rfl)⟩ (Nat.le_of_ble_eq_true rfl) hM (fun r12 s11 hM => ?_)
          refine x_Vi (As := [.ref (ad 41), .int r10, .int r12]) (st := []) K uv_X3_twelfths qm_X2_71 dX2_walk_77 rv_X3 (fun _ h => c_X3_twelfths l 41 isB_41 n r10 r12 s11 h) rfl ⟨(Nat.le_of_ble_eq_true rfl), (Nat.le_of_ble_eq_true rfl)⟩ (Nat.le_of_ble_eq_true rfl) hM (fun r14 s13 hM => ?_)
          refine v_istore K dX2_walk_80 (by decide) [(6, .int r14), (0, .ref (ad 13)), (1, .ref (ad b1)), (3, .int l3), (4, .int l4), (5, .int l5)] rfl ?_
          refine v_aload_n K dX2_walk_82 2 rfl ?_
          refine v_iload K dX2_walk_83 5 rfl ?_
          refine x_Si (As := [.ref (ad b1), .int l5]) (st := []) K us_X2_endOf qm_X2_57 dX2_walk_85 (fun _ h => c_X2_endOf l b1 hb1 n l5 s13 h) rfl ⟨(Nat.le_of_ble_eq_true rfl), (Nat.le_of_ble_eq_true rfl)⟩ (Nat.le_of_ble_eq_true rfl) hM (fun r16 s15 hM => ?_)
          refine v_iconst (v := (1 : Int32)) K dX2_walk_88 (by decide) ?_
          refine v_icmp_ne K 96 dX2_walk_89 (by decide) hM (fun hM => ?_) (fun hM => ?_)
          · refine v_iconst (v := (0 : Int32)) K dX2_walk_96 (by decide) ?_
            exact v_sub [1, 2, 3, 4, 5, 0] rfl (ih_2 l3 l4 l5 r14 (0 : Int32) s15 hM)
          · refine v_iconst (v := (1 : Int32)) K dX2_walk_92 (by decide) ?_
            refine v_goto (tgt := 97) K dX2_walk_93 (by decide) ?_
            exact v_sub [1, 2, 3, 4, 5, 0] rfl (ih_2 l3 l4 l5 r14 (1 : Int32) s15 hM)
        · refine v_aload_n K dX2_walk_50 0 rfl ?_
          refine v_iload K dX2_walk_51 4 rfl ?_
          refine p_X2_5 K qf_X2_28 dX2_walk_53 hM (fun s17 hM => ?_)
          exact v_vret K rfl dX2_walk_56 hM
    · intro l3 l4 l5 l6 k0 σ hM
      have hM : B_X2_walk_2 (L_X2_walk b1 b2 n) n b1 b2 l3 l4 l5 l6 k0 σ = some res := hM
      refine v_istore K dX2_walk_97 (by decide) [(7, .int k0), (0, .ref (ad 13)), (1, .ref (ad b1)), (3, .int l3), (4, .int l4), (5, .int l5), (6, .int l6)] rfl ?_
      refine v_aload_n K dX2_walk_99 2 rfl ?_
      refine v_iload K dX2_walk_100 5 rfl ?_
      refine x_Si (As := [.ref (ad b1), .int l5]) (st := []) K us_X2_endOf qm_X2_57 dX2_walk_102 (fun _ h => c_X2_endOf l b1 hb1 n l5 σ h) rfl ⟨(Nat.le_of_ble_eq_true rfl), (Nat.le_of_ble_eq_true rfl)⟩ (Nat.le_of_ble_eq_true rfl) hM (fun r19 s18 hM => ?_)
      refine v_iconst (v := (-1 : Int32)) K dX2_walk_105 (by decide) ?_
      refine v_icmp_ne K 149 dX2_walk_106 (by decide) hM (fun hM => ?_) (fun hM => ?_)
      · exact v_sub [1, 2, 3, 4, 5, 6, 0] rfl (ih_3 l3 l4 l5 l6 k0 s18 hM)
      · refine v_iload_n K dX2_walk_109 3 rfl ?_
        refine v_iconst (v := (-1 : Int32)) K dX2_walk_110 (by decide) ?_
        refine v_icmp_ne K 129 dX2_walk_111 (by decide) hM (fun hM => ?_) (fun hM => ?_)
        · refine v_iload_n K dX2_walk_129 3 rfl ?_
          refine v_iload K dX2_walk_130 4 rfl ?_
          refine v_ishr K dX2_walk_132 ?_
          refine v_iconst (v := (1 : Int32)) K dX2_walk_133 (by decide) ?_
          refine v_iand K dX2_walk_134 ?_
          refine v_iconst (v := (1 : Int32)) K dX2_walk_135 (by decide) ?_
          refine v_icmp_ne K 143 dX2_walk_136 (by decide) hM (fun hM => ?_) (fun hM => ?_)
          · refine v_iconst (v := (0 : Int32)) K dX2_walk_143 (by decide) ?_
            refine v_istore K dX2_walk_144 (by decide) [(7, .int (0 : Int32)), (0, .ref (ad 13)), (1, .ref (ad b1)), (3, .int l3), (4, .int l4), (5, .int l5), (6, .int l6)] rfl ?_
            refine v_iinc K dX2_walk_146 4 rfl (v := (l4 + (1 : Int32))) rfl (by decide) hM (fun y => [(4, .int y), (7, .int (0 : Int32)), (0, .ref (ad 13)), (1, .ref (ad b1)), (3, .int l3), (5, .int l5), (6, .int l6)]) (fun _ => rfl) (fun x20 hM => ?_)
            exact v_sub [2, 3, 4, 0, 5, 6, 1] rfl (ih_3 l3 x20 l5 l6 (0 : Int32) s18 hM)
          · refine v_iconst (v := (1 : Int32)) K dX2_walk_139 (by decide) ?_
            refine v_goto (tgt := 144) K dX2_walk_140 (by decide) ?_
            refine v_istore K dX2_walk_144 (by decide) [(7, .int (1 : Int32)), (0, .ref (ad 13)), (1, .ref (ad b1)), (3, .int l3), (4, .int l4), (5, .int l5), (6, .int l6)] rfl ?_
            refine v_iinc K dX2_walk_146 4 rfl (v := (l4 + (1 : Int32))) rfl (by decide) hM (fun y => [(4, .int y), (7, .int (1 : Int32)), (0, .ref (ad 13)), (1, .ref (ad b1)), (3, .int l3), (5, .int l5), (6, .int l6)]) (fun _ => rfl) (fun x21 hM => ?_)
            exact v_sub [2, 3, 4, 0, 5, 6, 1] rfl (ih_3 l3 x21 l5 l6 (1 : Int32) s18 hM)
        · refine v_iload K dX2_walk_114 6 rfl ?_
          refine v_bipush (v := (6 : Int32)) K dX2_walk_116 (by decide) ?_
          refine v_icmp_lt K 125 dX2_walk_118 (by decide) hM (fun hM => ?_) (fun hM => ?_)
          · refine v_iconst (v := (0 : Int32)) K dX2_walk_125 (by decide) ?_
            refine v_goto (tgt := 144) K dX2_walk_126 (by decide) ?_
            refine v_istore K dX2_walk_144 (by decide) [(7, .int (0 : Int32)), (0, .ref (ad 13)), (1, .ref (ad b1)), (3, .int l3), (4, .int l4), (5, .int l5), (6, .int l6)] rfl ?_
            refine v_iinc K dX2_walk_146 4 rfl (v := (l4 + (1 : Int32))) rfl (by decide) hM (fun y => [(4, .int y), (7, .int (0 : Int32)), (0, .ref (ad 13)), (1, .ref (ad b1)), (3, .int l3), (5, .int l5), (6, .int l6)]) (fun _ => rfl) (fun x22 hM => ?_)
            exact v_sub [2, 3, 4, 0, 5, 6, 1] rfl (ih_3 l3 x22 l5 l6 (0 : Int32) s18 hM)
          · refine v_iconst (v := (1 : Int32)) K dX2_walk_121 (by decide) ?_
            refine v_goto (tgt := 144) K dX2_walk_122 (by decide) ?_
            refine v_istore K dX2_walk_144 (by decide) [(7, .int (1 : Int32)), (0, .ref (ad 13)), (1, .ref (ad b1)), (3, .int l3), (4, .int l4), (5, .int l5), (6, .int l6)] rfl ?_
            refine v_iinc K dX2_walk_146 4 rfl (v := (l4 + (1 : Int32))) rfl (by decide) hM (fun y => [(4, .int y), (7, .int (1 : Int32)), (0, .ref (ad 13)), (1, .ref (ad b1)), (3, .int l3), (5, .int l5), (6, .int l6)]) (fun _ => rfl) (fun x23 hM => ?_)
            exact v_sub [2, 3, 4, 0, 5, 6, 1] rfl (ih_3 l3 x23 l5 l6 (1 : Int32) s18 hM)
    · intro l3 l4 l5 l6 l7 σ hM
      have hM : B_X2_walk_3 (L_X2_walk b1 b2 n) n b1 b2 l3 l4 l5 l6 l7 σ = some res := hM
      refine v_iload K dX2_walk_149 6 rfl ?_
      refine v_iload K dX2_walk_151 5 rfl ?_
      refine x_Si (As := [.int l7, .int l6]) (st := []) K us_X3_shareOf qm_X2_77 dX2_walk_153 (fun _ h => c_X3_shareOf l  n l7 l6 σ h) rfl ⟨(Nat.le_of_ble_eq_true rfl), (Nat.le_of_ble_eq_true rfl)⟩ (Nat.le_of_ble_eq_true rfl) hM (fun r25 s24 hM => ?_)
      refine v_istore K dX2_walk_156 (by decide) [(8, .int r25), (0, .ref (ad 13)), (1, .ref (ad b1)), (3, .int l3), (4, .int l4), (5, .int l5), (6, .int l6), (7, .int l7)] rfl ?_
      refine v_iload K dX2_walk_158 0 rfl ?_
      refine v_if_ne K 170 dX2_walk_160 (by decide) hM (fun hM => ?_) (fun hM => ?_)
      · refine v_aload_n K dX2_walk_170 1 rfl ?_
        refine g_X2_6 K qf_X2_31 dX2_walk_171 ?_
        refine v_bipush (v := (-2 : Int32)) K dX2_walk_174 (by decide) ?_
        refine v_icmp_ne K 192 dX2_walk_176 (by decide) hM (fun hM => ?_) (fun hM => ?_)
        · exact v_sub [1, 2, 3, 4, 5, 7, 0] rfl (ih_4 l3 l4 l5 l7 r25 s24 hM)
        · refine v_iload K dX2_walk_179 0 rfl ?_
          refine v_bipush (v := (6 : Int32)) K dX2_walk_181 (by decide) ?_
          refine v_icmp_ge K 192 dX2_walk_183 (by decide) hM (fun hM => ?_) (fun hM => ?_)
          · exact v_sub [1, 2, 3, 4, 5, 7, 0] rfl (ih_4 l3 l4 l5 l7 r25 s24 hM)
          · refine v_aload_n K dX2_walk_186 1 rfl ?_
            refine v_iload K dX2_walk_187 5 rfl ?_
            refine p_X2_6 K qf_X2_31 dX2_walk_189 hM (fun s26 hM => ?_)
            exact v_sub [1, 2, 3, 4, 5, 7, 0] rfl (ih_4 l3 l4 l5 l7 r25 s26 hM)
      · refine v_aload_n K dX2_walk_163 1 rfl ?_
        refine v_iload K dX2_walk_164 5 rfl ?_
        refine p_X2_5 K qf_X2_28 dX2_walk_166 hM (fun s27 hM => ?_)
        exact v_vret K rfl dX2_walk_169 hM
    · intro l3 l4 l5 l7 l8 σ hM
      have hM : B_X2_walk_4 (L_X2_walk b1 b2 n) n b1 b2 l3 l4 l5 l7 l8 σ = some res := hM
      refine v_aload_n K dX2_walk_192 0 rfl ?_
      refine v_dup K dX2_walk_193 rfl ?_
      refine g_X2_7 K qf_X2_34 dX2_walk_194 ?_
      refine v_iload K dX2_walk_197 6 rfl ?_
      refine v_i2l K dX2_walk_199 ?_
      refine v_lmul K dX2_walk_200 ?_
      refine p_X2_7 K qf_X2_34 dX2_walk_201 hM (fun s28 hM => ?_)
      refine v_aload_n K dX2_walk_204 0 rfl ?_
      refine g_X2_1 K qf_X2_12 dX2_walk_205 ?_
      refine v_aload_n K dX2_walk_208 1 rfl ?_
      refine v_iload K dX2_walk_209 4 rfl ?_
      refine x_Si (As := [.ref (ad b1), .int l5]) (st := [.ref (ad 41)]) K us_X2_chargerOf qm_X2_65 dX2_walk_211 (fun _ h => c_X2_chargerOf l b1 hb1 n l5 s28 h) rfl ⟨(Nat.le_of_ble_eq_true rfl), (Nat.le_of_ble_eq_true rfl)⟩ (Nat.le_of_ble_eq_true rfl) hM (fun r30 s29 hM => ?_)
      refine v_aload_n K dX2_walk_214 1 rfl ?_
      refine v_iload K dX2_walk_215 4 rfl ?_
      refine x_Si (As := [.ref (ad b1), .int l5]) (st := [.int r30, .ref (ad 41)]) K us_X2_chargedOf qm_X2_68 dX2_walk_217 (fun _ h => c_X2_chargedOf l b1 hb1 n l5 s29 h) rfl ⟨(Nat.le_of_ble_eq_true rfl), (Nat.le_of_ble_eq_true rfl)⟩ (Nat.le_of_ble_eq_true rfl) hM (fun r32 s31 hM => ?_)
      refine v_iload K dX2_walk_220 5 rfl ?_
      refine x_Vv (As := [.int r30, .int r32, .int l7]) (st := []) K uv_X1_settle qm_X2_91 dX2_walk_222 (rv_X1 isB_41) (fun _ h => c_X1_settle l 41 isB_41 n r30 r32 l7 s31 h) rfl ⟨(Nat.le_of_ble_eq_true rfl), (Nat.le_of_ble_eq_true rfl)⟩ (Nat.le_of_ble_eq_true rfl) hM (fun s33 hM => ?_)
      refine v_iinc K dX2_walk_225 4 rfl (v := (l5 + (1 : Int32))) rfl (by decide) hM (fun y => [(5, .int y), (0, .ref (ad 13)), (1, .ref (ad b1)), (3, .int l3), (4, .int l4), (7, .int l7), (8, .int l8)]) (fun _ => rfl) (fun x34 hM => ?_)
      refine v_goto (tgt := 31) K dX2_walk_228 (by decide) ?_
      exact v_sub [1, 2, 3, 4, 0] rfl (ih_1 l3 l4 x34 s33 hM)
set_option maxHeartbeats 4000000 in
set_option maxRecDepth 20000 in
theorem c_X2_walk (l : Launch) {D : va_G} {A : Nat → Prop} {ad : Nat → Nat} {dA : Nat → ClassId} (b1 : Nat) (hb1 : isS b1) (b2 : Nat) (hb2 : isB b2) (n : Nat) (p3 : Int32) (σ : St) {res : Unit × St} (hM : F_X2_walk n b1 b2 p3 σ = some res) : MI l yX2_walk cX2_walk 9 none 5 D (tysX dA) (wdX ad dA) A [.ref (ad 13), .ref (ad b1), .ref (ad b2), .int p3] σ (QV D (wdX ad dA) A res) := by
  refine mk_met (by decide +kernel) (Nat.le_of_ble_eq_true rfl) (fun p e s m below meth c K => ?_)
  have K : Cx p s m _ meth c cX2_walk 9 none RX2 D (tysX dA) (wdX ad dA) A := K
  obtain ⟨ih_1, ih_2, ih_3, ih_4⟩ := t_X2_walk l b1 b2 hb1 hb2  K (res := res) n (below := below) (e := e)
  refine v_aload_n K dX2_walk_0 0 rfl ?_
  refine g_X2_1 K qf_X2_12 dX2_walk_1 ?_
  refine v_aload_n K dX2_walk_4 2 rfl ?_
  refine x_Vv (As := [.ref (ad b2)]) (st := []) K uv_X1_copyFrom qm_X2_48 dX2_walk_5 (rv_X1 isB_41) (fun _ h => c_X1_copyFrom l 41 isB_41 b2 hb2 n  σ h) rfl ⟨(Nat.le_of_ble_eq_true rfl), (Nat.le_of_ble_eq_true rfl)⟩ (Nat.le_of_ble_eq_true rfl) hM (fun s1 hM => ?_)
  refine v_aload_n K dX2_walk_8 0 rfl ?_
  refine v_bipush (v := (-2 : Int32)) K dX2_walk_9 (by decide) ?_
  refine p_X2_5 K qf_X2_28 dX2_walk_11 hM (fun s2 hM => ?_)
  refine v_aload_n K dX2_walk_14 0 rfl ?_
  refine v_bipush (v := (-2 : Int32)) K dX2_walk_15 (by decide) ?_
  refine p_X2_6 K qf_X2_31 dX2_walk_17 hM (fun s3 hM => ?_)
  refine v_aload_n K dX2_walk_20 0 rfl ?_
  refine v_lconst (v := (1 : Int64)) K dX2_walk_21 (by decide) ?_
  refine p_X2_7 K qf_X2_34 dX2_walk_22 hM (fun s4 hM => ?_)
  refine v_iconst (v := (0 : Int32)) K dX2_walk_25 (by decide) ?_
  refine v_istore K dX2_walk_26 (by decide) [(4, .int (0 : Int32)), (0, .ref (ad 13)), (1, .ref (ad b1)), (2, .ref (ad b2)), (3, .int p3)] rfl ?_
  refine v_iconst (v := (0 : Int32)) K dX2_walk_28 (by decide) ?_
  refine v_istore K dX2_walk_29 (by decide) [(5, .int (0 : Int32)), (4, .int (0 : Int32)), (0, .ref (ad 13)), (1, .ref (ad b1)), (2, .ref (ad b2)), (3, .int p3)] rfl ?_
  exact v_sub [2, 3, 5, 1, 0] rfl (ih_1 p3 (0 : Int32) (0 : Int32) s4 hM)
noncomputable def F_X2_firstWrong (n : Nat) (b1 : Nat) (b2 : Nat) (σ : St) : Option (Int32 × St) := bd (F_X2_walk n b1 b2 (-1 : Int32) σ) fun _ s1 => some ((gI s1 13 5), s1)
set_option maxHeartbeats 4000000 in
set_option maxRecDepth 20000 in
theorem c_X2_firstWrong (l : Launch) {D : va_G} {A : Nat → Prop} {ad : Nat → Nat} {dA : Nat → ClassId} (b1 : Nat) (hb1 : isS b1) (b2 : Nat) (hb2 : isB b2) (n : Nat)  (σ : St) {res : Int32 × St} (hM : F_X2_firstWrong n b1 b2 σ = some res) : MI l yX2_firstWrong cX2_firstWrong 3 (some .int) 6 D (tysX dA) (wdX ad dA) A [.ref (ad 13), .ref (ad b1), .ref (ad b2)] σ (QI D (wdX ad dA) A res) := by
  refine mk_met (by decide +kernel) (Nat.le_of_ble_eq_true rfl) (fun p e s m below meth c K => ?_)
  have K : Cx p s m _ meth c cX2_firstWrong 3 (some .int) RX2 D (tysX dA) (wdX ad dA) A := K
  refine v_aload_n K dX2_firstWrong_0 0 rfl ?_
  refine v_aload_n K dX2_firstWrong_1 1 rfl ?_
  refine v_aload_n K dX2_firstWrong_2 2 rfl ?_
  refine v_iconst (v := (-1 : Int32)) K dX2_firstWrong_3 (by decide) ?_
  refine x_Vv (As := [.ref (ad b1), .ref (ad b2), .int (-1 : Int32)]) (st := []) K uv_X2_walk qm_X2_131 dX2_firstWrong_4 rv_X2 (fun _ h => c_X2_walk l b1 hb1 b2 hb2 n (-1 : Int32) σ h) rfl ⟨(Nat.le_of_ble_eq_true rfl), (Nat.le_of_ble_eq_true rfl)⟩ (Nat.le_of_ble_eq_true rfl) hM (fun s1 hM => ?_)
  refine v_aload_n K dX2_firstWrong_7 0 rfl ?_
  refine g_X2_5 K qf_X2_28 dX2_firstWrong_8 ?_
  exact v_iret K rfl dX2_firstWrong_11 hM
noncomputable def B_X2_weighWays_1 (J : Nat → Int32 → Int32 → Int64 → St → Option (Unit × St)) (n : Nat) (b1 : Nat) (b2 : Nat) (l3 : Int32) (l6 : Int32) (l4 : Int64) (σ : St) : Option (Unit × St) := if l3 ≤ l6 then (some ((), σ)) else (bd (F_X2_walk n b1 b2 l6 σ) fun _ s7 => if (gI s7 13 5) = (-2 : Int32) then (bnd (sI s7 13 8 ((gI s7 13 8) + (1 : Int32))) fun s9 => if (lg_cmp (gL s9 13 7) l4) ≤ 0 then (bnd (l6 + (1 : Int32)) fun x10 => J 1 l3 x10 l4 s9) else (bnd (gL s9 13 7) fun x11 => bnd (sI s9 13 9 l6) fun s12 => bnd (l6 + (1 : Int32)) fun x13 => J 1 l3 x13 x11 s12)) else (bnd (l6 + (1 : Int32)) fun x8 => J 1 l3 x8 l4 s7))
noncomputable def S_X2_weighWays (b1 : Nat) (b2 : Nat) (n : Nat) (J : Nat → Int32 → Int32 → Int64 → St → Option (Unit × St)) : Nat → Int32 → Int32 → Int64 → St → Option (Unit × St) := fun lb a0 a1 a2 σ => match lb with
  | 1 => B_X2_weighWays_1 J n b1 b2 a0 a1 a2 σ
  | _ => none
noncomputable def L_X2_weighWays (b1 : Nat) (b2 : Nat) (n : Nat) : Nat → Int32 → Int32 → Int64 → St → Option (Unit × St) := Nat.rec (fun _ _ _ _ _ => none) (fun n J => S_X2_weighWays b1 b2 n J) n
noncomputable def F_X2_weighWays (n : Nat) (b1 : Nat) (b2 : Nat) (σ : St) : Option (Unit × St) := bd (F_X2_countUnknown n b1 σ) fun r2 s1 => bnd (if r2 < (8 : Int32) then r2 else (8 : Int32)) fun x3 => bnd ((1 : Int32) <<< (x3 &&& 31)) fun x4 => bnd (sI s1 13 8 (0 : Int32)) fun s5 => bnd (sI s5 13 9 (-2 : Int32)) fun s6 => L_X2_weighWays b1 b2 n 1 x4 (0 : Int32) (0 : Int64) s6
set_option maxHeartbeats 4000000 in
set_option maxRecDepth 20000 in
theorem t_X2_weighWays (l : Launch) {p : Program} {e : Env} {s : State} {m : MethodId} {args : Array Value} {below : List Frame} {meth : Method} {c : Code} {D : va_G} {A : Nat → Prop} {ad : Nat → Nat} {dA : Nat → ClassId} (b1 : Nat) (b2 : Nat) (hb1 : isS b1) (hb2 : isB b2) (K : Cx p s m args meth c cX2_weighWays 7 none RX2 D (tysX dA) (wdX ad dA) A) {res : Unit × St} (n : Nat) : (∀ (l3 : Int32) (l4 : Int64) (l6 : Int32) (σ : St), L_X2_weighWays b1 b2 n 1 l3 l6 l4 σ = some res → V p l e (rmH 6) s m args below meth c 7 D (wdX ad dA) A (MQ below (QV D (wdX ad dA) A res) args s 0 0 A) 30 [(0, .ref (ad 13)), (1, .ref (ad b1)), (2, .ref (ad b2)), (3, .int l3), (4, .long l4), (6, .int l6)] [] σ) := by
  induction n with
  | zero => exact (fun _ _ _ _ h => (by cases h))
  | succ n ih =>
    have ih_1 := ih
    · intro l3 l4 l6 σ hM
      have hM : B_X2_weighWays_1 (L_X2_weighWays b1 b2 n) n b1 b2 l3 l6 l4 σ = some res := hM
      refine v_iload K dX2_weighWays_30 5 rfl ?_
      refine v_iload_n K dX2_weighWays_32 3 rfl ?_
      refine v_icmp_ge K 91 dX2_weighWays_33 (by decide) hM (fun hM => ?_) (fun hM => ?_)
      · exact v_vret K rfl dX2_weighWays_91 hM
      · refine v_aload_n K dX2_weighWays_36 0 rfl ?_
        refine v_aload_n K dX2_weighWays_37 1 rfl ?_
        refine v_aload_n K dX2_weighWays_38 2 rfl ?_
        refine v_iload K dX2_weighWays_39 5 rfl ?_
        refine x_Vv (As := [.ref (ad b1), .ref (ad b2), .int l6]) (st := []) K uv_X2_walk qm_X2_131 dX2_weighWays_41 rv_X2 (fun _ h => c_X2_walk l b1 hb1 b2 hb2 n l6 σ h) rfl ⟨(Nat.le_of_ble_eq_true rfl), (Nat.le_of_ble_eq_true rfl)⟩ (Nat.le_of_ble_eq_true rfl) hM (fun s7 hM => ?_)
        refine v_aload_n K dX2_weighWays_44 0 rfl ?_
        refine g_X2_5 K qf_X2_28 dX2_weighWays_45 ?_
        refine v_bipush (v := (-2 : Int32)) K dX2_weighWays_48 (by decide) ?_
        refine v_icmp_ne K 85 dX2_weighWays_50 (by decide) hM (fun hM => ?_) (fun hM => ?_)
        · refine v_iinc K dX2_weighWays_85 5 rfl (v := (l6 + (1 : Int32))) rfl (by decide) hM (fun y => [(6, .int y), (0, .ref (ad 13)), (1, .ref (ad b1)), (2, .ref (ad b2)), (3, .int l3), (4, .long l4)]) (fun _ => rfl) (fun x8 hM => ?_)
          refine v_goto (tgt := 30) K dX2_weighWays_88 (by decide) ?_
          exact v_sub [1, 2, 3, 4, 5, 0] rfl (ih_1 l3 l4 x8 s7 hM)
        · refine v_aload_n K dX2_weighWays_53 0 rfl ?_
          refine v_dup K dX2_weighWays_54 rfl ?_
          refine g_X2_8 K qf_X2_38 dX2_weighWays_55 ?_
          refine v_iconst (v := (1 : Int32)) K dX2_weighWays_58 (by decide) ?_
          refine v_iadd K dX2_weighWays_59 ?_
          refine p_X2_8 K qf_X2_38 dX2_weighWays_60 hM (fun s9 hM => ?_)
          refine v_aload_n K dX2_weighWays_63 0 rfl ?_
          refine g_X2_7 K qf_X2_34 dX2_weighWays_64 ?_
          refine v_lload K dX2_weighWays_67 4 rfl ?_
          refine v_lcmp K dX2_weighWays_69 ?_
          refine v_if_le K 85 dX2_weighWays_70 (by decide) hM (fun hM => ?_) (fun hM => ?_)
          · refine v_iinc K dX2_weighWays_85 5 rfl (v := (l6 + (1 : Int32))) rfl (by decide) hM (fun y => [(6, .int y), (0, .ref (ad 13)), (1, .ref (ad b1)), (2, .ref (ad b2)), (3, .int l3), (4, .long l4)]) (fun _ => rfl) (fun x10 hM => ?_)
            refine v_goto (tgt := 30) K dX2_weighWays_88 (by decide) ?_
            exact v_sub [1, 2, 3, 4, 5, 0] rfl (ih_1 l3 l4 x10 s9 hM)
          · refine v_aload_n K dX2_weighWays_73 0 rfl ?_
            refine g_X2_7 K qf_X2_34 dX2_weighWays_74 ?_
            refine v_topl hM (fun x11 hM => ?_)
            refine v_lstore K dX2_weighWays_77 (by decide) [(4, .long x11), (0, .ref (ad 13)), (1, .ref (ad b1)), (2, .ref (ad b2)), (3, .int l3), (6, .int l6)] rfl ?_
            refine v_aload_n K dX2_weighWays_79 1 rfl ?_
            refine v_iload K dX2_weighWays_80 5 rfl ?_
            refine p_X2_9 K qf_X2_41 dX2_weighWays_82 hM (fun s12 hM => ?_)
            refine v_iinc K dX2_weighWays_85 5 rfl (v := (l6 + (1 : Int32))) rfl (by decide) hM (fun y => [(6, .int y), (4, .long x11), (0, .ref (ad 13)), (1, .ref (ad b1)), (2, .ref (ad b2)), (3, .int l3)]) (fun _ => rfl) (fun x13 hM => ?_)
            refine v_goto (tgt := 30) K dX2_weighWays_88 (by decide) ?_
            exact v_sub [2, 3, 4, 5, 1, 0] rfl (ih_1 l3 x11 x13 s12 hM)
set_option maxHeartbeats 4000000 in
set_option maxRecDepth 20000 in
theorem c_X2_weighWays (l : Launch) {D : va_G} {A : Nat → Prop} {ad : Nat → Nat} {dA : Nat → ClassId} (b1 : Nat) (hb1 : isS b1) (b2 : Nat) (hb2 : isB b2) (n : Nat)  (σ : St) {res : Unit × St} (hM : F_X2_weighWays n b1 b2 σ = some res) : MI l yX2_weighWays cX2_weighWays 7 none 6 D (tysX dA) (wdX ad dA) A [.ref (ad 13), .ref (ad b1), .ref (ad b2)] σ (QV D (wdX ad dA) A res) := by
  refine mk_met (by decide +kernel) (Nat.le_of_ble_eq_true rfl) (fun p e s m below meth c K => ?_)
  have K : Cx p s m _ meth c cX2_weighWays 7 none RX2 D (tysX dA) (wdX ad dA) A := K
  have ih_1 := t_X2_weighWays l b1 b2 hb1 hb2  K (res := res) n (below := below) (e := e)
  refine v_iconst (v := (1 : Int32)) K dX2_weighWays_0 (by decide) ?_
  refine v_bipush (v := (8 : Int32)) K dX2_weighWays_1 (by decide) ?_
  refine v_aload_n K dX2_weighWays_3 0 rfl ?_
  refine v_aload_n K dX2_weighWays_4 1 rfl ?_
  refine x_Vi (As := [.ref (ad b1)]) (st := [.int (8 : Int32), .int (1 : Int32)]) K uv_X2_countUnknown qm_X2_135 dX2_weighWays_5 rv_X2 (fun _ h => c_X2_countUnknown l b1 hb1 n  σ h) rfl ⟨(Nat.le_of_ble_eq_true rfl), (Nat.le_of_ble_eq_true rfl)⟩ (Nat.le_of_ble_eq_true rfl) hM (fun r2 s1 hM => ?_)
  refine x_mmin K qm_X2_119 qs_min qi_Math qk_min dX2_weighWays_8 (Nat.le_of_ble_eq_true rfl) (Nat.le_of_ble_eq_true rfl) ?_
  refine v_topi hM (fun x3 hM => ?_)
  refine v_ishl K dX2_weighWays_11 ?_
  refine v_topi hM (fun x4 hM => ?_)
  refine v_istore_n K dX2_weighWays_12 rfl (by decide) [(3, .int x4), (0, .ref (ad 13)), (1, .ref (ad b1)), (2, .ref (ad b2))] rfl ?_
  refine v_lconst (v := (0 : Int64)) K dX2_weighWays_13 (by decide) ?_
  refine v_lstore K dX2_weighWays_14 (by decide) [(4, .long (0 : Int64)), (3, .int x4), (0, .ref (ad 13)), (1, .ref (ad b1)), (2, .ref (ad b2))] rfl ?_
  refine v_aload_n K dX2_weighWays_16 2 rfl ?_
  refine v_iconst (v := (0 : Int32)) K dX2_weighWays_17 (by decide) ?_
  refine p_X2_8 K qf_X2_38 dX2_weighWays_18 hM (fun s5 hM => ?_)
  refine v_aload_n K dX2_weighWays_21 2 rfl ?_
  refine v_bipush (v := (-2 : Int32)) K dX2_weighWays_22 (by decide) ?_
  refine p_X2_9 K qf_X2_41 dX2_weighWays_24 hM (fun s6 hM => ?_)
  refine v_iconst (v := (0 : Int32)) K dX2_weighWays_27 (by decide) ?_
  refine v_istore K dX2_weighWays_28 (by decide) [(6, .int (0 : Int32)), (4, .long (0 : Int64)), (3, .int x4), (0, .ref (ad 13)), (1, .ref (ad b1)), (2, .ref (ad b2))] rfl ?_
  exact v_sub [3, 4, 5, 2, 1, 0] rfl (ih_1 x4 (0 : Int64) (0 : Int32) s6 hM)
noncomputable def F_X2_ways (n : Nat)  (σ : St) : Option (Int32 × St) := some ((gI σ 13 8), σ)
set_option maxHeartbeats 4000000 in
set_option maxRecDepth 20000 in
theorem c_X2_ways (l : Launch) {D : va_G} {A : Nat → Prop} {ad : Nat → Nat} {dA : Nat → ClassId}  (n : Nat)  (σ : St) {res : Int32 × St} (hM : F_X2_ways n  σ = some res) : MI l yX2_ways cX2_ways 1 (some .int) 1 D (tysX dA) (wdX ad dA) A [.ref (ad 13)] σ (QI D (wdX ad dA) A res) := by
  refine mk_met (by decide +kernel) (Nat.le_of_ble_eq_true rfl) (fun p e s m below meth c K => ?_)
  have K : Cx p s m _ meth c cX2_ways 1 (some .int) RX2 D (tysX dA) (wdX ad dA) A := K
  refine v_aload_n K dX2_ways_0 0 rfl ?_
  refine g_X2_8 K qf_X2_38 dX2_ways_1 ?_
  exact v_iret K rfl dX2_ways_4 hM
noncomputable def F_X2_likeliestWay (n : Nat)  (σ : St) : Option (Int32 × St) := some ((gI σ 13 9), σ)
set_option maxHeartbeats 4000000 in
set_option maxRecDepth 20000 in
theorem c_X2_likeliestWay (l : Launch) {D : va_G} {A : Nat → Prop} {ad : Nat → Nat} {dA : Nat → ClassId}  (n : Nat)  (σ : St) {res : Int32 × St} (hM : F_X2_likeliestWay n  σ = some res) : MI l yX2_likeliestWay cX2_likeliestWay 1 (some .int) 1 D (tysX dA) (wdX ad dA) A [.ref (ad 13)] σ (QI D (wdX ad dA) A res) := by
  refine mk_met (by decide +kernel) (Nat.le_of_ble_eq_true rfl) (fun p e s m below meth c K => ?_)
  have K : Cx p s m _ meth c cX2_likeliestWay 1 (some .int) RX2 D (tysX dA) (wdX ad dA) A := K
  refine v_aload_n K dX2_likeliestWay_0 0 rfl ?_
  refine g_X2_9 K qf_X2_41 dX2_likeliestWay_1 ?_
  exact v_iret K rfl dX2_likeliestWay_4 hM
noncomputable def F_X2_firstSold (n : Nat) (b1 : Nat) (b2 : Nat) (σ : St) : Option (Int32 × St) := if (gI σ 13 9) = (-2 : Int32) then (some ((-2 : Int32), σ)) else (bd (F_X2_walk n b1 b2 (gI σ 13 9) σ) fun _ s1 => some ((gI s1 13 6), s1))
set_option maxHeartbeats 4000000 in
set_option maxRecDepth 20000 in
theorem c_X2_firstSold (l : Launch) {D : va_G} {A : Nat → Prop} {ad : Nat → Nat} {dA : Nat → ClassId} (b1 : Nat) (hb1 : isS b1) (b2 : Nat) (hb2 : isB b2) (n : Nat)  (σ : St) {res : Int32 × St} (hM : F_X2_firstSold n b1 b2 σ = some res) : MI l yX2_firstSold cX2_firstSold 3 (some .int) 6 D (tysX dA) (wdX ad dA) A [.ref (ad 13), .ref (ad b1), .ref (ad b2)] σ (QI D (wdX ad dA) A res) := by
  refine mk_met (by decide +kernel) (Nat.le_of_ble_eq_true rfl) (fun p e s m below meth c K => ?_)
  have K : Cx p s m _ meth c cX2_firstSold 3 (some .int) RX2 D (tysX dA) (wdX ad dA) A := K
  refine v_aload_n K dX2_firstSold_0 0 rfl ?_
  refine g_X2_9 K qf_X2_41 dX2_firstSold_1 ?_
  refine v_bipush (v := (-2 : Int32)) K dX2_firstSold_4 (by decide) ?_
  refine v_icmp_ne K 12 dX2_firstSold_6 (by decide) hM (fun hM => ?_) (fun hM => ?_)
  · refine v_aload_n K dX2_firstSold_12 0 rfl ?_
    refine v_aload_n K dX2_firstSold_13 1 rfl ?_
    refine v_aload_n K dX2_firstSold_14 2 rfl ?_
    refine v_aload_n K dX2_firstSold_15 0 rfl ?_
    refine g_X2_9 K qf_X2_41 dX2_firstSold_16 ?_
    refine x_Vv (As := [.ref (ad b1), .ref (ad b2), .int (gI σ 13 9)]) (st := []) K uv_X2_walk qm_X2_131 dX2_firstSold_19 rv_X2 (fun _ h => c_X2_walk l b1 hb1 b2 hb2 n (gI σ 13 9) σ h) rfl ⟨(Nat.le_of_ble_eq_true rfl), (Nat.le_of_ble_eq_true rfl)⟩ (Nat.le_of_ble_eq_true rfl) hM (fun s1 hM => ?_)
    refine v_aload_n K dX2_firstSold_22 0 rfl ?_
    refine g_X2_6 K qf_X2_31 dX2_firstSold_23 ?_
    exact v_iret K rfl dX2_firstSold_26 hM
  · refine v_bipush (v := (-2 : Int32)) K dX2_firstSold_9 (by decide) ?_
    exact v_iret K rfl dX2_firstSold_11 hM
noncomputable def B_X3_foremost_1 (J : Nat → Int32 → Int32 → Int32 → Int32 → Int32 → Int32 → St → Option (Int32 × St)) (n : Nat) (b1 : Nat) (l2 : Int32) (l3 : Int32) (l4 : Int32) (l5 : Int32) (l6 : Int32) (σ : St) : Option (Int32 × St) := bd (F_X6_size n  σ) fun r2 s1 => if r2 ≤ l6 then (some (l4, s1)) else (if l6 = l2 then (J 2 l2 l3 l4 l5 l6 (-1 : Int32) s1) else (bd (F_X3_twelfths n b1 l2 l6 s1) fun r4 s3 => bd (F_X3_shareOf n l3 r4 s3) fun r6 s5 => J 2 l2 l3 l4 l5 l6 r6 s5))
noncomputable def B_X3_foremost_2 (J : Nat → Int32 → Int32 → Int32 → Int32 → Int32 → Int32 → St → Option (Int32 × St)) (n : Nat) (b1 : Nat) (l2 : Int32) (l3 : Int32) (l4 : Int32) (l5 : Int32) (l6 : Int32) (k0 : Int32) (σ : St) : Option (Int32 × St) := if k0 ≤ l5 then (bnd (l6 + (1 : Int32)) fun x7 => J 1 l2 l3 l4 l5 x7 0 σ) else (bnd (l6 + (1 : Int32)) fun x8 => J 1 l2 l3 l6 k0 x8 0 σ)
noncomputable def S_X3_foremost (b1 : Nat) (n : Nat) (J : Nat → Int32 → Int32 → Int32 → Int32 → Int32 → Int32 → St → Option (Int32 × St)) : Nat → Int32 → Int32 → Int32 → Int32 → Int32 → Int32 → St → Option (Int32 × St) := fun lb a0 a1 a2 a3 a4 a5 σ => match lb with
  | 1 => B_X3_foremost_1 J n b1 a0 a1 a2 a3 a4 σ
  | 2 => B_X3_foremost_2 J n b1 a0 a1 a2 a3 a4 a5 σ
  | _ => none
noncomputable def L_X3_foremost (b1 : Nat) (n : Nat) : Nat → Int32 → Int32 → Int32 → Int32 → Int32 → Int32 → St → Option (Int32 × St) := Nat.rec (fun _ _ _ _ _ _ _ _ => none) (fun n J => S_X3_foremost b1 n J) n
noncomputable def F_X3_foremost (n : Nat) (b1 : Nat) (p2 : Int32) (p3 : Int32) (σ : St) : Option (Int32 × St) := L_X3_foremost b1 n 1 p2 p3 (-2 : Int32) (-1 : Int32) (0 : Int32) 0 σ
set_option maxHeartbeats 4000000 in
set_option maxRecDepth 20000 in
theorem t_X3_foremost (l : Launch) {p : Program} {e : Env} {s : State} {m : MethodId} {args : Array Value} {below : List Frame} {meth : Method} {c : Code} {D : va_G} {A : Nat → Prop} {ad : Nat → Nat} {dA : Nat → ClassId} (b1 : Nat) (hb1 : isB b1) (K : Cx p s m args meth c cX3_foremost 8 (some .int) RX3 D (tysX dA) (wdX ad dA) A) {res : Int32 × St} (n : Nat) : (∀ (l2 : Int32) (l3 : Int32) (l4 : Int32) (l5 : Int32) (l6 : Int32) (σ : St), L_X3_foremost b1 n 1 l2 l3 l4 l5 l6 0 σ = some res → V p l e (rmH 4) s m args below meth c 8 D (wdX ad dA) A (MQ below (QI D (wdX ad dA) A res) args s 0 0 A) 10 [(0, .ref (ad 11)), (1, .ref (ad b1)), (2, .int l2), (3, .int l3), (4, .int l4), (5, .int l5), (6, .int l6)] [] σ) ∧ (∀ (l2 : Int32) (l3 : Int32) (l4 : Int32) (l5 : Int32) (l6 : Int32) (k0 : Int32) (σ : St), L_X3_foremost b1 n 2 l2 l3 l4 l5 l6 k0 σ = some res → V p l e (rmH 4) s m args below meth c 8 D (wdX ad dA) A (MQ below (QI D (wdX ad dA) A res) args s 0 0 A) 44 [(0, .ref (ad 11)), (1, .ref (ad b1)), (2, .int l2), (3, .int l3), (4, .int l4), (5, .int l5), (6, .int l6)] [.int k0] σ) := by
  induction n with
  | zero => exact ⟨fun _ _ _ _ _ _ h => (by cases h), fun _ _ _ _ _ _ _ h => (by cases h)⟩
  | succ n ih =>
    obtain ⟨ih_1, ih_2⟩ := ih
    refine ⟨?_, ?_⟩
    · intro l2 l3 l4 l5 l6 σ hM
      have hM : B_X3_foremost_1 (L_X3_foremost b1 n) n b1 l2 l3 l4 l5 l6 σ = some res := hM
      refine v_iload K dX3_foremost_10 6 rfl ?_
      refine v_aload_n K dX3_foremost_12 0 rfl ?_
      refine g_X3_0 K qf_X3_25 dX3_foremost_13 ?_
      refine x_Vi (As := []) (st := [.int l6]) K uv_X6_size qm_X3_77 dX3_foremost_16 rv_X6 (fun _ h => c_X6_size l  n  σ h) rfl ⟨(Nat.le_of_ble_eq_true rfl), (Nat.le_of_ble_eq_true rfl)⟩ (Nat.le_of_ble_eq_true rfl) hM (fun r2 s1 hM => ?_)
      refine v_icmp_ge K 67 dX3_foremost_19 (by decide) hM (fun hM => ?_) (fun hM => ?_)
      · refine v_iload K dX3_foremost_67 4 rfl ?_
        exact v_iret K rfl dX3_foremost_69 hM
      · refine v_iload K dX3_foremost_22 6 rfl ?_
        refine v_iload_n K dX3_foremost_24 2 rfl ?_
        refine v_icmp_ne K 32 dX3_foremost_25 (by decide) hM (fun hM => ?_) (fun hM => ?_)
        · refine v_iload_n K dX3_foremost_32 3 rfl ?_
          refine v_aload_n K dX3_foremost_33 0 rfl ?_
          refine v_aload_n K dX3_foremost_34 1 rfl ?_
          refine v_iload_n K dX3_foremost_35 2 rfl ?_
          refine v_iload K dX3_foremost_36 6 rfl ?_
          refine x_Vi (As := [.ref (ad b1), .int l2, .int l6]) (st := [.int l3]) K uv_X3_twelfths qm_X3_80 dX3_foremost_38 rv_X3 (fun _ h => c_X3_twelfths l b1 hb1 n l2 l6 s1 h) rfl ⟨(Nat.le_of_ble_eq_true rfl), (Nat.le_of_ble_eq_true rfl)⟩ (Nat.le_of_ble_eq_true rfl) hM (fun r4 s3 hM => ?_)
          refine x_Si (As := [.int l3, .int r4]) (st := []) K us_X3_shareOf qm_X3_84 dX3_foremost_41 (fun _ h => c_X3_shareOf l  n l3 r4 s3 h) rfl ⟨(Nat.le_of_ble_eq_true rfl), (Nat.le_of_ble_eq_true rfl)⟩ (Nat.le_of_ble_eq_true rfl) hM (fun r6 s5 hM => ?_)
          exact v_sub [0, 1, 2, 3, 4, 5, 6] rfl (ih_2 l2 l3 l4 l5 l6 r6 s5 hM)
        · refine v_iconst (v := (-1 : Int32)) K dX3_foremost_28 (by decide) ?_
          refine v_goto (tgt := 44) K dX3_foremost_29 (by decide) ?_
          exact v_sub [0, 1, 2, 3, 4, 5, 6] rfl (ih_2 l2 l3 l4 l5 l6 (-1 : Int32) s1 hM)
    · intro l2 l3 l4 l5 l6 k0 σ hM
      have hM : B_X3_foremost_2 (L_X3_foremost b1 n) n b1 l2 l3 l4 l5 l6 k0 σ = some res := hM
      refine v_istore K dX3_foremost_44 (by decide) [(7, .int k0), (0, .ref (ad 11)), (1, .ref (ad b1)), (2, .int l2), (3, .int l3), (4, .int l4), (5, .int l5), (6, .int l6)] rfl ?_
      refine v_iload K dX3_foremost_46 0 rfl ?_
      refine v_iload K dX3_foremost_48 6 rfl ?_
      refine v_icmp_le K 61 dX3_foremost_50 (by decide) hM (fun hM => ?_) (fun hM => ?_)
      · refine v_iinc K dX3_foremost_61 7 rfl (v := (l6 + (1 : Int32))) rfl (by decide) hM (fun y => [(6, .int y), (7, .int k0), (0, .ref (ad 11)), (1, .ref (ad b1)), (2, .int l2), (3, .int l3), (4, .int l4), (5, .int l5)]) (fun _ => rfl) (fun x7 hM => ?_)
        refine v_goto (tgt := 10) K dX3_foremost_64 (by decide) ?_
        exact v_sub [2, 3, 4, 5, 6, 7, 0] rfl (ih_1 l2 l3 l4 l5 x7 σ hM)
      · refine v_iload K dX3_foremost_53 0 rfl ?_
        refine v_istore K dX3_foremost_55 (by decide) [(5, .int k0), (7, .int k0), (0, .ref (ad 11)), (1, .ref (ad b1)), (2, .int l2), (3, .int l3), (4, .int l4), (6, .int l6)] rfl ?_
        refine v_iload K dX3_foremost_57 7 rfl ?_
        refine v_istore K dX3_foremost_59 (by decide) [(4, .int l6), (5, .int k0), (7, .int k0), (0, .ref (ad 11)), (1, .ref (ad b1)), (2, .int l2), (3, .int l3), (6, .int l6)] rfl ?_
        refine v_iinc K dX3_foremost_61 7 rfl (v := (l6 + (1 : Int32))) rfl (by decide) hM (fun y => [(6, .int y), (4, .int l6), (5, .int k0), (7, .int k0), (0, .ref (ad 11)), (1, .ref (ad b1)), (2, .int l2), (3, .int l3)]) (fun _ => rfl) (fun x8 hM => ?_)
        refine v_goto (tgt := 10) K dX3_foremost_64 (by decide) ?_
        exact v_sub [4, 5, 6, 7, 1, 2, 0] rfl (ih_1 l2 l3 l6 k0 x8 σ hM)
set_option maxHeartbeats 4000000 in
set_option maxRecDepth 20000 in
theorem c_X3_foremost (l : Launch) {D : va_G} {A : Nat → Prop} {ad : Nat → Nat} {dA : Nat → ClassId} (b1 : Nat) (hb1 : isB b1) (n : Nat) (p2 : Int32) (p3 : Int32) (σ : St) {res : Int32 × St} (hM : F_X3_foremost n b1 p2 p3 σ = some res) : MI l yX3_foremost cX3_foremost 8 (some .int) 4 D (tysX dA) (wdX ad dA) A [.ref (ad 11), .ref (ad b1), .int p2, .int p3] σ (QI D (wdX ad dA) A res) := by
  refine mk_met (by decide +kernel) (Nat.le_of_ble_eq_true rfl) (fun p e s m below meth c K => ?_)
  have K : Cx p s m _ meth c cX3_foremost 8 (some .int) RX3 D (tysX dA) (wdX ad dA) A := K
  obtain ⟨ih_1, ih_2⟩ := t_X3_foremost l b1 hb1  K (res := res) n (below := below) (e := e)
  refine v_bipush (v := (-2 : Int32)) K dX3_foremost_0 (by decide) ?_
  refine v_istore K dX3_foremost_2 (by decide) [(4, .int (-2 : Int32)), (0, .ref (ad 11)), (1, .ref (ad b1)), (2, .int p2), (3, .int p3)] rfl ?_
  refine v_iconst (v := (-1 : Int32)) K dX3_foremost_4 (by decide) ?_
  refine v_istore K dX3_foremost_5 (by decide) [(5, .int (-1 : Int32)), (4, .int (-2 : Int32)), (0, .ref (ad 11)), (1, .ref (ad b1)), (2, .int p2), (3, .int p3)] rfl ?_
  refine v_iconst (v := (0 : Int32)) K dX3_foremost_7 (by decide) ?_
  refine v_istore K dX3_foremost_8 (by decide) [(6, .int (0 : Int32)), (5, .int (-1 : Int32)), (4, .int (-2 : Int32)), (0, .ref (ad 11)), (1, .ref (ad b1)), (2, .int p2), (3, .int p3)] rfl ?_
  exact v_sub [3, 4, 5, 6, 2, 1, 0] rfl (ih_1 p2 p3 (-2 : Int32) (-1 : Int32) (0 : Int32) σ hM)
noncomputable def F_X3_easiest (n : Nat) (b1 : Nat) (p2 : Int32) (σ : St) : Option (Int32 × St) := bd (F_X3_foremost n b1 p2 (1 : Int32) σ) fun r2 s1 => some (r2, s1)
set_option maxHeartbeats 4000000 in
set_option maxRecDepth 20000 in
theorem c_X3_easiest (l : Launch) {D : va_G} {A : Nat → Prop} {ad : Nat → Nat} {dA : Nat → ClassId} (b1 : Nat) (hb1 : isB b1) (n : Nat) (p2 : Int32) (σ : St) {res : Int32 × St} (hM : F_X3_easiest n b1 p2 σ = some res) : MI l yX3_easiest cX3_easiest 3 (some .int) 5 D (tysX dA) (wdX ad dA) A [.ref (ad 11), .ref (ad b1), .int p2] σ (QI D (wdX ad dA) A res) := by
  refine mk_met (by decide +kernel) (Nat.le_of_ble_eq_true rfl) (fun p e s m below meth c K => ?_)
  have K : Cx p s m _ meth c cX3_easiest 3 (some .int) RX3 D (tysX dA) (wdX ad dA) A := K
  refine v_aload_n K dX3_easiest_0 0 rfl ?_
  refine v_aload_n K dX3_easiest_1 1 rfl ?_
  refine v_iload_n K dX3_easiest_2 2 rfl ?_
  refine v_iconst (v := (1 : Int32)) K dX3_easiest_3 (by decide) ?_
  refine x_Vi (As := [.ref (ad b1), .int p2, .int (1 : Int32)]) (st := []) K uv_X3_foremost qm_X3_73 dX3_easiest_4 rv_X3 (fun _ h => c_X3_foremost l b1 hb1 n p2 (1 : Int32) σ h) rfl ⟨(Nat.le_of_ble_eq_true rfl), (Nat.le_of_ble_eq_true rfl)⟩ (Nat.le_of_ble_eq_true rfl) hM (fun r2 s1 hM => ?_)
  exact v_iret K rfl dX3_easiest_7 hM
noncomputable def F_X3_hardest (n : Nat) (b1 : Nat) (p2 : Int32) (σ : St) : Option (Int32 × St) := bd (F_X3_foremost n b1 p2 (0 : Int32) σ) fun r2 s1 => some (r2, s1)
set_option maxHeartbeats 4000000 in
set_option maxRecDepth 20000 in
theorem c_X3_hardest (l : Launch) {D : va_G} {A : Nat → Prop} {ad : Nat → Nat} {dA : Nat → ClassId} (b1 : Nat) (hb1 : isB b1) (n : Nat) (p2 : Int32) (σ : St) {res : Int32 × St} (hM : F_X3_hardest n b1 p2 σ = some res) : MI l yX3_hardest cX3_hardest 3 (some .int) 5 D (tysX dA) (wdX ad dA) A [.ref (ad 11), .ref (ad b1), .int p2] σ (QI D (wdX ad dA) A res) := by
  refine mk_met (by decide +kernel) (Nat.le_of_ble_eq_true rfl) (fun p e s m below meth c K => ?_)
  have K : Cx p s m _ meth c cX3_hardest 3 (some .int) RX3 D (tysX dA) (wdX ad dA) A := K
  refine v_aload_n K dX3_hardest_0 0 rfl ?_
  refine v_aload_n K dX3_hardest_1 1 rfl ?_
  refine v_iload_n K dX3_hardest_2 2 rfl ?_
  refine v_iconst (v := (0 : Int32)) K dX3_hardest_3 (by decide) ?_
  refine x_Vi (As := [.ref (ad b1), .int p2, .int (0 : Int32)]) (st := []) K uv_X3_foremost qm_X3_73 dX3_hardest_4 rv_X3 (fun _ h => c_X3_foremost l b1 hb1 n p2 (0 : Int32) σ h) rfl ⟨(Nat.le_of_ble_eq_true rfl), (Nat.le_of_ble_eq_true rfl)⟩ (Nat.le_of_ble_eq_true rfl) hM (fun r2 s1 hM => ?_)
  exact v_iret K rfl dX3_hardest_7 hM
noncomputable def F_X4_size (n : Nat)  (σ : St) : Option (Int32 × St) := some ((gI σ 18 2), σ)
set_option maxHeartbeats 4000000 in
set_option maxRecDepth 20000 in
theorem c_X4_size (l : Launch) {D : va_G} {A : Nat → Prop} {ad : Nat → Nat} {dA : Nat → ClassId}  (n : Nat)  (σ : St) {res : Int32 × St} (hM : F_X4_size n  σ = some res) : MI l yX4_size cX4_size 1 (some .int) 1 D (tysX dA) (wdX ad dA) A [.ref (ad 18)] σ (QI D (wdX ad dA) A res) := by
  refine mk_met (by decide +kernel) (Nat.le_of_ble_eq_true rfl) (fun p e s m below meth c K => ?_)
  have K : Cx p s m _ meth c cX4_size 1 (some .int) RX4 D (tysX dA) (wdX ad dA) A := K
  refine v_aload_n K dX4_size_0 0 rfl ?_
  refine g_X4_2 K qf_X4_18 dX4_size_1 ?_
  exact v_iret K rfl dX4_size_4 hM
noncomputable def B_X4_read_1 (J : Nat → Int32 → St → Option (Unit × St)) (n : Nat) (b1 : Nat) (l3 : Int32) (σ : St) : Option (Unit × St) := if (7 : Int32) ≤ l3 then (J 2 (0 : Int32) σ) else (gd (vp_in l3 7) (bnd (sI σ 21 (l3).toNatClampNeg (0 : Int32)) fun s2 => bnd (l3 + (1 : Int32)) fun x3 => J 1 x3 s2))
noncomputable def B_X4_read_2 (J : Nat → Int32 → St → Option (Unit × St)) (n : Nat) (b1 : Nat) (l3 : Int32) (σ : St) : Option (Unit × St) := if (10 : Int32) ≤ l3 then (some ((), σ)) else (bd (F_X10_size n b1 σ) fun r5 s4 => if r5 < (((2 : Int32) * l3) + (2 : Int32)) then (some ((), s4)) else (bd (F_X10_getInt n b1 ((2 : Int32) * l3) s4) fun r7 s6 => bd (F_X10_getInt n b1 (((2 : Int32) * l3) + (1 : Int32)) s6) fun r9 s8 => bd (F_X6_areUnlike n r7 r9 s8) fun r11 s10 => if r11 = 0 then (some ((), s10)) else (gd (vp_in l3 10) (bnd (sI s10 19 (l3).toNatClampNeg r7) fun s12 => gd (vp_in l3 10) (bnd (sI s12 20 (l3).toNatClampNeg r9) fun s13 => gd (vp_in r7 7) (gd (vp_in r7 7) (bnd (sI s13 21 (r7).toNatClampNeg ((gI s13 21 (r7).toNatClampNeg) ||| ((1 : Int32) <<< (r9 &&& 31)))) fun s14 => bnd (sI s14 18 2 ((gI s14 18 2) + (1 : Int32))) fun s15 => bnd (l3 + (1 : Int32)) fun x16 => J 2 x16 s15)))))))
noncomputable def S_X4_read (b1 : Nat) (n : Nat) (J : Nat → Int32 → St → Option (Unit × St)) : Nat → Int32 → St → Option (Unit × St) := fun lb a0 σ => match lb with
  | 1 => B_X4_read_1 J n b1 a0 σ
  | 2 => B_X4_read_2 J n b1 a0 σ
  | _ => none
noncomputable def L_X4_read (b1 : Nat) (n : Nat) : Nat → Int32 → St → Option (Unit × St) := Nat.rec (fun _ _ _ => none) (fun n J => S_X4_read b1 n J) n
noncomputable def F_X4_read (n : Nat) (b1 : Nat) (σ : St) : Option (Unit × St) := bnd (sI σ 18 2 (0 : Int32)) fun s1 => L_X4_read b1 n 1 (0 : Int32) s1
set_option maxHeartbeats 4000000 in
set_option maxRecDepth 20000 in
theorem t_X4_read (l : Launch) {p : Program} {e : Env} {s : State} {m : MethodId} {args : Array Value} {below : List Frame} {meth : Method} {c : Code} {D : va_G} {A : Nat → Prop} {ad : Nat → Nat} {dA : Nat → ClassId} (b1 : Nat) (hb1 : isS b1) (K : Cx p s m args meth c cX4_read 6 none RX4 D (tysX dA) (wdX ad dA) A) {res : Unit × St} (n : Nat) : (∀ (l3 : Int32) (σ : St), L_X4_read b1 n 1 l3 σ = some res → V p l e (rmH 3) s m args below meth c 6 D (wdX ad dA) A (MQ below (QV D (wdX ad dA) A res) args s 0 0 A) 7 [(0, .ref (ad 18)), (1, .ref (ad b1)), (2, .ref (ad 4)), (3, .int l3)] [] σ) ∧ (∀ (l3 : Int32) (σ : St), L_X4_read b1 n 2 l3 σ = some res → V p l e (rmH 3) s m args below meth c 6 D (wdX ad dA) A (MQ below (QV D (wdX ad dA) A res) args s 0 0 A) 28 [(0, .ref (ad 18)), (1, .ref (ad b1)), (2, .ref (ad 4)), (3, .int l3)] [] σ) := by
  induction n with
  | zero => exact ⟨fun _ _ h => (by cases h), fun _ _ h => (by cases h)⟩
  | succ n ih =>
    obtain ⟨ih_1, ih_2⟩ := ih
    refine ⟨?_, ?_⟩
    · intro l3 σ hM
      have hM : B_X4_read_1 (L_X4_read b1 n) n b1 l3 σ = some res := hM
      refine v_iload_n K dX4_read_7 3 rfl ?_
      refine v_bipush (v := (7 : Int32)) K dX4_read_8 (by decide) ?_
      refine v_icmp_ge K 26 dX4_read_10 (by decide) hM (fun hM => ?_) (fun hM => ?_)
      · refine v_iconst (v := (0 : Int32)) K dX4_read_26 (by decide) ?_
        refine v_istore_n K dX4_read_27 rfl (by decide) [(3, .int (0 : Int32)), (0, .ref (ad 18)), (1, .ref (ad b1)), (2, .ref (ad 4))] rfl ?_
        exact v_sub [1, 2, 3, 0] rfl (ih_2 (0 : Int32) σ hM)
      · refine v_aload_n K dX4_read_13 0 rfl ?_
        refine g_X4_3 K qf_X4_22 dX4_read_14 ?_
        refine v_iload_n K dX4_read_17 3 rfl ?_
        refine v_iconst (v := (0 : Int32)) K dX4_read_18 (by decide) ?_
        refine st_X21 K dX4_read_19 hM (fun s2 hM => ?_)
        refine v_iinc K dX4_read_20 3 rfl (v := (l3 + (1 : Int32))) rfl (by decide) hM (fun y => [(3, .int y), (0, .ref (ad 18)), (1, .ref (ad b1)), (2, .ref (ad 4))]) (fun _ => rfl) (fun x3 hM => ?_)
        refine v_goto (tgt := 7) K dX4_read_23 (by decide) ?_
        exact v_sub [1, 2, 3, 0] rfl (ih_1 x3 s2 hM)
    · intro l3 σ hM
      have hM : B_X4_read_2 (L_X4_read b1 n) n b1 l3 σ = some res := hM
      refine v_iload_n K dX4_read_28 3 rfl ?_
      refine v_bipush (v := (10 : Int32)) K dX4_read_29 (by decide) ?_
      refine v_icmp_ge K 124 dX4_read_31 (by decide) hM (fun hM => ?_) (fun hM => ?_)
      · exact v_vret K rfl dX4_read_124 hM
      · refine v_iconst (v := (2 : Int32)) K dX4_read_34 (by decide) ?_
        refine v_iload_n K dX4_read_35 3 rfl ?_
        refine v_imul K dX4_read_36 ?_
        refine v_iconst (v := (2 : Int32)) K dX4_read_37 (by decide) ?_
        refine v_iadd K dX4_read_38 ?_
        refine v_aload_n K dX4_read_39 1 rfl ?_
        refine x_Vi (As := []) (st := [.int (((2 : Int32) * l3) + (2 : Int32))]) K uv_X10_size qm_X4_28 dX4_read_40 (rv_X10 hb1) (fun _ h => c_X10_size l b1 hb1 n  σ h) rfl ⟨(Nat.le_of_ble_eq_true rfl), (Nat.le_of_ble_eq_true rfl)⟩ (Nat.le_of_ble_eq_true rfl) hM (fun r5 s4 hM => ?_)
        refine v_icmp_gt K 124 dX4_read_43 (by decide) hM (fun hM => ?_) (fun hM => ?_)
        · exact v_vret K rfl dX4_read_124 hM
        · refine v_aload_n K dX4_read_46 1 rfl ?_
          refine v_iconst (v := (2 : Int32)) K dX4_read_47 (by decide) ?_
          refine v_iload_n K dX4_read_48 3 rfl ?_
          refine v_imul K dX4_read_49 ?_
          refine x_Vi (As := [.int ((2 : Int32) * l3)]) (st := []) K uv_X10_getInt qm_X4_33 dX4_read_50 (rv_X10 hb1) (fun _ h => c_X10_getInt l b1 hb1 n ((2 : Int32) * l3) s4 h) rfl ⟨(Nat.le_of_ble_eq_true rfl), (Nat.le_of_ble_eq_true rfl)⟩ (Nat.le_of_ble_eq_true rfl) hM (fun r7 s6 hM => ?_)
          refine v_istore K dX4_read_53 (by decide) [(4, .int r7), (0, .ref (ad 18)), (1, .ref (ad b1)), (2, .ref (ad 4)), (3, .int l3)] rfl ?_
          refine v_aload_n K dX4_read_55 2 rfl ?_
          refine v_iconst (v := (2 : Int32)) K dX4_read_56 (by decide) ?_
          refine v_iload_n K dX4_read_57 4 rfl ?_
          refine v_imul K dX4_read_58 ?_
          refine v_iconst (v := (1 : Int32)) K dX4_read_59 (by decide) ?_
          refine v_iadd K dX4_read_60 ?_
          refine x_Vi (As := [.int (((2 : Int32) * l3) + (1 : Int32))]) (st := []) K uv_X10_getInt qm_X4_33 dX4_read_61 (rv_X10 hb1) (fun _ h => c_X10_getInt l b1 hb1 n (((2 : Int32) * l3) + (1 : Int32)) s6 h) rfl ⟨(Nat.le_of_ble_eq_true rfl), (Nat.le_of_ble_eq_true rfl)⟩ (Nat.le_of_ble_eq_true rfl) hM (fun r9 s8 hM => ?_)
          refine v_istore K dX4_read_64 (by decide) [(5, .int r9), (4, .int r7), (0, .ref (ad 18)), (1, .ref (ad b1)), (2, .ref (ad 4)), (3, .int l3)] rfl ?_
          refine v_aload_n K dX4_read_66 4 rfl ?_
          refine v_iload K dX4_read_67 1 rfl ?_
          refine v_iload K dX4_read_69 0 rfl ?_
          refine x_Vi (As := [.int r7, .int r9]) (st := []) K uv_X6_areUnlike qm_X4_37 dX4_read_71 rv_X6 (fun _ h => c_X6_areUnlike l  n r7 r9 s8 h) rfl ⟨(Nat.le_of_ble_eq_true rfl), (Nat.le_of_ble_eq_true rfl)⟩ (Nat.le_of_ble_eq_true rfl) hM (fun r11 s10 hM => ?_)
          refine v_if_ne K 78 dX4_read_74 (by decide) hM (fun hM => ?_) (fun hM => ?_)
          · refine v_aload_n K dX4_read_78 2 rfl ?_
            refine g_X4_0 K qf_X4_11 dX4_read_79 ?_
            refine v_iload_n K dX4_read_82 5 rfl ?_
            refine v_iload K dX4_read_83 1 rfl ?_
            refine st_X19 K dX4_read_85 hM (fun s12 hM => ?_)
            refine v_aload_n K dX4_read_86 2 rfl ?_
            refine g_X4_1 K qf_X4_15 dX4_read_87 ?_
            refine v_iload_n K dX4_read_90 5 rfl ?_
            refine v_iload K dX4_read_91 0 rfl ?_
            refine st_X20 K dX4_read_93 hM (fun s13 hM => ?_)
            refine v_aload_n K dX4_read_94 2 rfl ?_
            refine g_X4_3 K qf_X4_22 dX4_read_95 ?_
            refine v_iload K dX4_read_98 1 rfl ?_
            refine v_dup2 K dX4_read_100 rfl rfl ?_
            refine ld_X21 K dX4_read_101 hM (fun hM => ?_)
            refine v_iconst (v := (1 : Int32)) K dX4_read_102 (by decide) ?_
            refine v_iload K dX4_read_103 0 rfl ?_
            refine v_ishl K dX4_read_105 ?_
            refine v_ior K dX4_read_106 ?_
            refine st_X21 K dX4_read_107 hM (fun s14 hM => ?_)
            refine v_aload_n K dX4_read_108 2 rfl ?_
            refine v_dup K dX4_read_109 rfl ?_
            refine g_X4_2 K qf_X4_18 dX4_read_110 ?_
            refine v_iconst (v := (1 : Int32)) K dX4_read_113 (by decide) ?_
            refine v_iadd K dX4_read_114 ?_
            refine p_X4_2 K qf_X4_18 dX4_read_115 hM (fun s15 hM => ?_)
            refine v_iinc K dX4_read_118 5 rfl (v := (l3 + (1 : Int32))) rfl (by decide) hM (fun y => [(3, .int y), (5, .int r9), (4, .int r7), (0, .ref (ad 18)), (1, .ref (ad b1)), (2, .ref (ad 4))]) (fun _ => rfl) (fun x16 hM => ?_)
            refine v_goto (tgt := 28) K dX4_read_121 (by decide) ?_
            exact v_sub [3, 4, 5, 0] rfl (ih_2 x16 s15 hM)
          · exact v_vret K rfl dX4_read_77 hM
set_option maxHeartbeats 4000000 in
set_option maxRecDepth 20000 in
theorem c_X4_read (l : Launch) {D : va_G} {A : Nat → Prop} {ad : Nat → Nat} {dA : Nat → ClassId} (b1 : Nat) (hb1 : isS b1) (n : Nat)  (σ : St) {res : Unit × St} (hM : F_X4_read n b1 σ = some res) : MI l yX4_read cX4_read 6 none 3 D (tysX dA) (wdX ad dA) A [.ref (ad 18), .ref (ad b1), .ref (ad 4)] σ (QV D (wdX ad dA) A res) := by
  refine mk_met (by decide +kernel) (Nat.le_of_ble_eq_true rfl) (fun p e s m below meth c K => ?_)
  have K : Cx p s m _ meth c cX4_read 6 none RX4 D (tysX dA) (wdX ad dA) A := K
  obtain ⟨ih_1, ih_2⟩ := t_X4_read l b1 hb1  K (res := res) n (below := below) (e := e)
  refine v_aload_n K dX4_read_0 0 rfl ?_
  refine v_iconst (v := (0 : Int32)) K dX4_read_1 (by decide) ?_
  refine p_X4_2 K qf_X4_18 dX4_read_2 hM (fun s1 hM => ?_)
  refine v_iconst (v := (0 : Int32)) K dX4_read_5 (by decide) ?_
  refine v_istore_n K dX4_read_6 rfl (by decide) [(3, .int (0 : Int32)), (0, .ref (ad 18)), (1, .ref (ad b1)), (2, .ref (ad 4))] rfl ?_
  exact v_sub [1, 2, 3, 0] rfl (ih_1 (0 : Int32) s1 hM)
noncomputable def B_X4_neverCharged_1 (J : Nat → Int32 → Int32 → St → Option (Int32 × St)) (n : Nat)  (l2 : Int32) (l3 : Int32) (σ : St) : Option (Int32 × St) := if (7 : Int32) ≤ l3 then (some (l2, σ)) else (gd (vp_in l3 7) (bnd (l2 &&& ((gI σ 21 (l3).toNatClampNeg) ^^^ (-1 : Int32))) fun x4 => bnd (l3 + (1 : Int32)) fun x5 => J 1 x4 x5 σ))
noncomputable def S_X4_neverCharged  (n : Nat) (J : Nat → Int32 → Int32 → St → Option (Int32 × St)) : Nat → Int32 → Int32 → St → Option (Int32 × St) := fun lb a0 a1 σ => match lb with
  | 1 => B_X4_neverCharged_1 J n  a0 a1 σ
  | _ => none
noncomputable def L_X4_neverCharged  (n : Nat) : Nat → Int32 → Int32 → St → Option (Int32 × St) := Nat.rec (fun _ _ _ _ => none) (fun n J => S_X4_neverCharged  n J) n
noncomputable def F_X4_neverCharged (n : Nat)  (σ : St) : Option (Int32 × St) := bd (F_X6_size n  σ) fun r2 s1 => bnd (((1 : Int32) <<< (r2 &&& 31)) - (1 : Int32)) fun x3 => L_X4_neverCharged  n 1 x3 (0 : Int32) s1
set_option maxHeartbeats 4000000 in
set_option maxRecDepth 20000 in
theorem t_X4_neverCharged (l : Launch) {p : Program} {e : Env} {s : State} {m : MethodId} {args : Array Value} {below : List Frame} {meth : Method} {c : Code} {D : va_G} {A : Nat → Prop} {ad : Nat → Nat} {dA : Nat → ClassId}   (K : Cx p s m args meth c cX4_neverCharged 4 (some .int) RX4 D (tysX dA) (wdX ad dA) A) {res : Int32 × St} (n : Nat) : (∀ (l2 : Int32) (l3 : Int32) (σ : St), L_X4_neverCharged  n 1 l2 l3 σ = some res → V p l e (rmH 2) s m args below meth c 4 D (wdX ad dA) A (MQ below (QI D (wdX ad dA) A res) args s 0 0 A) 11 [(0, .ref (ad 18)), (2, .int l2), (3, .int l3)] [] σ) := by
  induction n with
  | zero => exact (fun _ _ _ h => (by cases h))
  | succ n ih =>
    have ih_1 := ih
    · intro l2 l3 σ hM
      have hM : B_X4_neverCharged_1 (L_X4_neverCharged  n) n  l2 l3 σ = some res := hM
      refine v_iload_n K dX4_neverCharged_11 2 rfl ?_
      refine v_bipush (v := (7 : Int32)) K dX4_neverCharged_12 (by decide) ?_
      refine v_icmp_ge K 34 dX4_neverCharged_14 (by decide) hM (fun hM => ?_) (fun hM => ?_)
      · refine v_iload_n K dX4_neverCharged_34 1 rfl ?_
        exact v_iret K rfl dX4_neverCharged_35 hM
      · refine v_iload_n K dX4_neverCharged_17 1 rfl ?_
        refine v_aload_n K dX4_neverCharged_18 0 rfl ?_
        refine g_X4_3 K qf_X4_22 dX4_neverCharged_19 ?_
        refine v_iload_n K dX4_neverCharged_22 2 rfl ?_
        refine ld_X21 K dX4_neverCharged_23 hM (fun hM => ?_)
        refine v_iconst (v := (-1 : Int32)) K dX4_neverCharged_24 (by decide) ?_
        refine v_ixor K dX4_neverCharged_25 ?_
        refine v_iand K dX4_neverCharged_26 ?_
        refine v_topi hM (fun x4 hM => ?_)
        refine v_istore_n K dX4_neverCharged_27 rfl (by decide) [(2, .int x4), (0, .ref (ad 18)), (3, .int l3)] rfl ?_
        refine v_iinc K dX4_neverCharged_28 2 rfl (v := (l3 + (1 : Int32))) rfl (by decide) hM (fun y => [(3, .int y), (2, .int x4), (0, .ref (ad 18))]) (fun _ => rfl) (fun x5 hM => ?_)
        refine v_goto (tgt := 11) K dX4_neverCharged_31 (by decide) ?_
        exact v_sub [2, 1, 0] rfl (ih_1 x4 x5 σ hM)
set_option maxHeartbeats 4000000 in
set_option maxRecDepth 20000 in
theorem c_X4_neverCharged (l : Launch) {D : va_G} {A : Nat → Prop} {ad : Nat → Nat} {dA : Nat → ClassId}  (n : Nat)  (σ : St) {res : Int32 × St} (hM : F_X4_neverCharged n  σ = some res) : MI l yX4_neverCharged cX4_neverCharged 4 (some .int) 2 D (tysX dA) (wdX ad dA) A [.ref (ad 18), .ref (ad 4)] σ (QI D (wdX ad dA) A res) := by
  refine mk_met (by decide +kernel) (Nat.le_of_ble_eq_true rfl) (fun p e s m below meth c K => ?_)
  have K : Cx p s m _ meth c cX4_neverCharged 4 (some .int) RX4 D (tysX dA) (wdX ad dA) A := K
  have ih_1 := t_X4_neverCharged l    K (res := res) n (below := below) (e := e)
  refine v_iconst (v := (1 : Int32)) K dX4_neverCharged_0 (by decide) ?_
  refine v_aload_n K dX4_neverCharged_1 1 rfl ?_
  refine x_Vi (As := []) (st := [.int (1 : Int32)]) K uv_X6_size qm_X4_43 dX4_neverCharged_2 rv_X6 (fun _ h => c_X6_size l  n  σ h) rfl ⟨(Nat.le_of_ble_eq_true rfl), (Nat.le_of_ble_eq_true rfl)⟩ (Nat.le_of_ble_eq_true rfl) hM (fun r2 s1 hM => ?_)
  refine v_ishl K dX4_neverCharged_5 ?_
  refine v_iconst (v := (1 : Int32)) K dX4_neverCharged_6 (by decide) ?_
  refine v_isub K dX4_neverCharged_7 ?_
  refine v_topi hM (fun x3 hM => ?_)
  refine v_istore_n K dX4_neverCharged_8 rfl (by decide) [(2, .int x3), (0, .ref (ad 18)), (1, .ref (ad 4))] rfl ?_
  refine v_iconst (v := (0 : Int32)) K dX4_neverCharged_9 (by decide) ?_
  refine v_istore_n K dX4_neverCharged_10 rfl (by decide) [(3, .int (0 : Int32)), (2, .int x3), (0, .ref (ad 18)), (1, .ref (ad 4))] rfl ?_
  exact v_sub [2, 1, 0] rfl (ih_1 x3 (0 : Int32) s1 hM)
noncomputable def F_X4_hasCharge (n : Nat) (p1 : Int32) (p2 : Int32) (σ : St) : Option (Int32 × St) := gd (vp_in p1 7) (if (((gI σ 21 (p1).toNatClampNeg) >>> (p2 &&& 31)) &&& (1 : Int32)) = (1 : Int32) then (some ((1 : Int32), σ)) else (some ((0 : Int32), σ)))
set_option maxHeartbeats 4000000 in
set_option maxRecDepth 20000 in
theorem c_X4_hasCharge (l : Launch) {D : va_G} {A : Nat → Prop} {ad : Nat → Nat} {dA : Nat → ClassId}  (n : Nat) (p1 : Int32) (p2 : Int32) (σ : St) {res : Int32 × St} (hM : F_X4_hasCharge n p1 p2 σ = some res) : MI l yX4_hasCharge cX4_hasCharge 3 (some .boolean) 1 D (tysX dA) (wdX ad dA) A [.ref (ad 18), .int p1, .int p2] σ (QI D (wdX ad dA) A res) := by
  refine mk_met (by decide +kernel) (Nat.le_of_ble_eq_true rfl) (fun p e s m below meth c K => ?_)
  have K : Cx p s m _ meth c cX4_hasCharge 3 (some .boolean) RX4 D (tysX dA) (wdX ad dA) A := K
  refine v_aload_n K dX4_hasCharge_0 0 rfl ?_
  refine g_X4_3 K qf_X4_22 dX4_hasCharge_1 ?_
  refine v_iload_n K dX4_hasCharge_4 1 rfl ?_
  refine ld_X21 K dX4_hasCharge_5 hM (fun hM => ?_)
  refine v_iload_n K dX4_hasCharge_6 2 rfl ?_
  refine v_ishr K dX4_hasCharge_7 ?_
  refine v_iconst (v := (1 : Int32)) K dX4_hasCharge_8 (by decide) ?_
  refine v_iand K dX4_hasCharge_9 ?_
  refine v_iconst (v := (1 : Int32)) K dX4_hasCharge_10 (by decide) ?_
  refine v_icmp_ne K 18 dX4_hasCharge_11 (by decide) hM (fun hM => ?_) (fun hM => ?_)
  · refine v_iconst (v := (0 : Int32)) K dX4_hasCharge_18 (by decide) ?_
    exact v_zret K rfl rfl dX4_hasCharge_19 hM
  · refine v_iconst (v := (1 : Int32)) K dX4_hasCharge_14 (by decide) ?_
    refine v_goto (tgt := 19) K dX4_hasCharge_15 (by decide) ?_
    exact v_zret K rfl rfl dX4_hasCharge_19 hM
noncomputable def B_X4_threes_1 (J : Nat → Int32 → Int32 → Int32 → Int32 → St → Option (Int32 × St)) (n : Nat)  (l1 : Int32) (l2 : Int32) (σ : St) : Option (Int32 × St) := if (7 : Int32) ≤ l2 then (some (l1, σ)) else (bnd (l2 + (1 : Int32)) fun x1 => J 2 l1 l2 x1 0 σ)
noncomputable def B_X4_threes_2 (J : Nat → Int32 → Int32 → Int32 → Int32 → St → Option (Int32 × St)) (n : Nat)  (l1 : Int32) (l2 : Int32) (l3 : Int32) (σ : St) : Option (Int32 × St) := if (7 : Int32) ≤ l3 then (bnd (l2 + (1 : Int32)) fun x2 => J 1 l1 x2 0 0 σ) else (bnd (l2 + (1 : Int32)) fun x3 => J 3 l1 l2 l3 x3 σ)
noncomputable def B_X4_threes_3 (J : Nat → Int32 → Int32 → Int32 → Int32 → St → Option (Int32 × St)) (n : Nat)  (l1 : Int32) (l2 : Int32) (l3 : Int32) (l4 : Int32) (σ : St) : Option (Int32 × St) := if (7 : Int32) ≤ l4 then (bnd (l3 + (1 : Int32)) fun x4 => J 2 l1 l2 x4 0 σ) else (bd (F_X4_hasCharge n l2 l3 σ) fun r6 s5 => if r6 = 0 then (bnd (l4 + (1 : Int32)) fun x7 => J 3 l1 l2 l3 x7 s5) else (bd (F_X4_hasCharge n l3 l4 s5) fun r9 s8 => if r9 = 0 then (bnd (l4 + (1 : Int32)) fun x10 => J 3 l1 l2 l3 x10 s8) else (bd (F_X4_hasCharge n l4 l2 s8) fun r12 s11 => if r12 = 0 then (bnd (l4 + (1 : Int32)) fun x13 => J 3 l1 l2 l3 x13 s11) else (bnd (l1 + (1 : Int32)) fun x14 => bnd (l4 + (1 : Int32)) fun x15 => J 3 x14 l2 l3 x15 s11))))
noncomputable def S_X4_threes  (n : Nat) (J : Nat → Int32 → Int32 → Int32 → Int32 → St → Option (Int32 × St)) : Nat → Int32 → Int32 → Int32 → Int32 → St → Option (Int32 × St) := fun lb a0 a1 a2 a3 σ => match lb with
  | 1 => B_X4_threes_1 J n  a0 a1 σ
  | 2 => B_X4_threes_2 J n  a0 a1 a2 σ
  | 3 => B_X4_threes_3 J n  a0 a1 a2 a3 σ
  | _ => none
noncomputable def L_X4_threes  (n : Nat) : Nat → Int32 → Int32 → Int32 → Int32 → St → Option (Int32 × St) := Nat.rec (fun _ _ _ _ _ _ => none) (fun n J => S_X4_threes  n J) n
noncomputable def F_X4_threes (n : Nat)  (σ : St) : Option (Int32 × St) := L_X4_threes  n 1 (0 : Int32) (0 : Int32) 0 0 σ
set_option maxHeartbeats 4000000 in
set_option maxRecDepth 20000 in
theorem t_X4_threes (l : Launch) {p : Program} {e : Env} {s : State} {m : MethodId} {args : Array Value} {below : List Frame} {meth : Method} {c : Code} {D : va_G} {A : Nat → Prop} {ad : Nat → Nat} {dA : Nat → ClassId}   (K : Cx p s m args meth c cX4_threes 5 (some .int) RX4 D (tysX dA) (wdX ad dA) A) {res : Int32 × St} (n : Nat) : (∀ (l1 : Int32) (l2 : Int32) (σ : St), L_X4_threes  n 1 l1 l2 0 0 σ = some res → V p l e (rmH 2) s m args below meth c 5 D (wdX ad dA) A (MQ below (QI D (wdX ad dA) A res) args s 0 0 A) 4 [(0, .ref (ad 18)), (1, .int l1), (2, .int l2)] [] σ) ∧ (∀ (l1 : Int32) (l2 : Int32) (l3 : Int32) (σ : St), L_X4_threes  n 2 l1 l2 l3 0 σ = some res → V p l e (rmH 2) s m args below meth c 5 D (wdX ad dA) A (MQ below (QI D (wdX ad dA) A res) args s 0 0 A) 14 [(0, .ref (ad 18)), (1, .int l1), (2, .int l2), (3, .int l3)] [] σ) ∧ (∀ (l1 : Int32) (l2 : Int32) (l3 : Int32) (l4 : Int32) (σ : St), L_X4_threes  n 3 l1 l2 l3 l4 σ = some res → V p l e (rmH 2) s m args below meth c 5 D (wdX ad dA) A (MQ below (QI D (wdX ad dA) A res) args s 0 0 A) 25 [(0, .ref (ad 18)), (1, .int l1), (2, .int l2), (3, .int l3), (4, .int l4)] [] σ) := by
  induction n with
  | zero => exact ⟨fun _ _ _ h => (by cases h), fun _ _ _ _ h => (by cases h), fun _ _ _ _ _ h => (by cases h)⟩
  | succ n ih =>
    obtain ⟨ih_1, ih_2, ih_3⟩ := ih
    refine ⟨?_, ?_, ?_⟩
    · intro l1 l2 σ hM
      have hM : B_X4_threes_1 (L_X4_threes  n) n  l1 l2 σ = some res := hM
      refine v_iload_n K dX4_threes_4 2 rfl ?_
      refine v_bipush (v := (7 : Int32)) K dX4_threes_5 (by decide) ?_
      refine v_icmp_ge K 82 dX4_threes_7 (by decide) hM (fun hM => ?_) (fun hM => ?_)
      · refine v_iload_n K dX4_threes_82 1 rfl ?_
        exact v_iret K rfl dX4_threes_83 hM
      · refine v_iload_n K dX4_threes_10 2 rfl ?_
        refine v_iconst (v := (1 : Int32)) K dX4_threes_11 (by decide) ?_
        refine v_iadd K dX4_threes_12 ?_
        refine v_topi hM (fun x1 hM => ?_)
        refine v_istore_n K dX4_threes_13 rfl (by decide) [(3, .int x1), (0, .ref (ad 18)), (1, .int l1), (2, .int l2)] rfl ?_
        exact v_sub [1, 2, 3, 0] rfl (ih_2 l1 l2 x1 σ hM)
    · intro l1 l2 l3 σ hM
      have hM : B_X4_threes_2 (L_X4_threes  n) n  l1 l2 l3 σ = some res := hM
      refine v_iload_n K dX4_threes_14 3 rfl ?_
      refine v_bipush (v := (7 : Int32)) K dX4_threes_15 (by decide) ?_
      refine v_icmp_ge K 76 dX4_threes_17 (by decide) hM (fun hM => ?_) (fun hM => ?_)
      · refine v_iinc K dX4_threes_76 2 rfl (v := (l2 + (1 : Int32))) rfl (by decide) hM (fun y => [(2, .int y), (0, .ref (ad 18)), (1, .int l1), (3, .int l3)]) (fun _ => rfl) (fun x2 hM => ?_)
        refine v_goto (tgt := 4) K dX4_threes_79 (by decide) ?_
        exact v_sub [1, 2, 0] rfl (ih_1 l1 x2 σ hM)
      · refine v_iload_n K dX4_threes_20 2 rfl ?_
        refine v_iconst (v := (1 : Int32)) K dX4_threes_21 (by decide) ?_
        refine v_iadd K dX4_threes_22 ?_
        refine v_topi hM (fun x3 hM => ?_)
        refine v_istore K dX4_threes_23 (by decide) [(4, .int x3), (0, .ref (ad 18)), (1, .int l1), (2, .int l2), (3, .int l3)] rfl ?_
        exact v_sub [1, 2, 3, 4, 0] rfl (ih_3 l1 l2 l3 x3 σ hM)
    · intro l1 l2 l3 l4 σ hM
      have hM : B_X4_threes_3 (L_X4_threes  n) n  l1 l2 l3 l4 σ = some res := hM
      refine v_iload K dX4_threes_25 4 rfl ?_
      refine v_bipush (v := (7 : Int32)) K dX4_threes_27 (by decide) ?_
      refine v_icmp_ge K 70 dX4_threes_29 (by decide) hM (fun hM => ?_) (fun hM => ?_)
      · refine v_iinc K dX4_threes_70 3 rfl (v := (l3 + (1 : Int32))) rfl (by decide) hM (fun y => [(3, .int y), (0, .ref (ad 18)), (1, .int l1), (2, .int l2), (4, .int l4)]) (fun _ => rfl) (fun x4 hM => ?_)
        refine v_goto (tgt := 14) K dX4_threes_73 (by decide) ?_
        exact v_sub [1, 2, 3, 0] rfl (ih_2 l1 l2 x4 σ hM)
      · refine v_aload_n K dX4_threes_32 0 rfl ?_
        refine v_iload_n K dX4_threes_33 2 rfl ?_
        refine v_iload_n K dX4_threes_34 3 rfl ?_
        refine x_Vi (As := [.int l2, .int l3]) (st := []) K uv_X4_hasCharge qm_X4_44 dX4_threes_35 rv_X4 (fun _ h => c_X4_hasCharge l  n l2 l3 σ h) rfl ⟨(Nat.le_of_ble_eq_true rfl), (Nat.le_of_ble_eq_true rfl)⟩ (Nat.le_of_ble_eq_true rfl) hM (fun r6 s5 hM => ?_)
        refine v_if_eq K 64 dX4_threes_38 (by decide) hM (fun hM => ?_) (fun hM => ?_)
        · refine v_iinc K dX4_threes_64 4 rfl (v := (l4 + (1 : Int32))) rfl (by decide) hM (fun y => [(4, .int y), (0, .ref (ad 18)), (1, .int l1), (2, .int l2), (3, .int l3)]) (fun _ => rfl) (fun x7 hM => ?_)
          refine v_goto (tgt := 25) K dX4_threes_67 (by decide) ?_
          exact v_sub [1, 2, 3, 4, 0] rfl (ih_3 l1 l2 l3 x7 s5 hM)
        · refine v_aload_n K dX4_threes_41 0 rfl ?_
          refine v_iload_n K dX4_threes_42 3 rfl ?_
          refine v_iload K dX4_threes_43 4 rfl ?_
          refine x_Vi (As := [.int l3, .int l4]) (st := []) K uv_X4_hasCharge qm_X4_44 dX4_threes_45 rv_X4 (fun _ h => c_X4_hasCharge l  n l3 l4 s5 h) rfl ⟨(Nat.le_of_ble_eq_true rfl), (Nat.le_of_ble_eq_true rfl)⟩ (Nat.le_of_ble_eq_true rfl) hM (fun r9 s8 hM => ?_)
          refine v_if_eq K 64 dX4_threes_48 (by decide) hM (fun hM => ?_) (fun hM => ?_)
          · refine v_iinc K dX4_threes_64 4 rfl (v := (l4 + (1 : Int32))) rfl (by decide) hM (fun y => [(4, .int y), (0, .ref (ad 18)), (1, .int l1), (2, .int l2), (3, .int l3)]) (fun _ => rfl) (fun x10 hM => ?_)
            refine v_goto (tgt := 25) K dX4_threes_67 (by decide) ?_
            exact v_sub [1, 2, 3, 4, 0] rfl (ih_3 l1 l2 l3 x10 s8 hM)
          · refine v_aload_n K dX4_threes_51 0 rfl ?_
            refine v_iload K dX4_threes_52 4 rfl ?_
            refine v_iload_n K dX4_threes_54 2 rfl ?_
            refine x_Vi (As := [.int l4, .int l2]) (st := []) K uv_X4_hasCharge qm_X4_44 dX4_threes_55 rv_X4 (fun _ h => c_X4_hasCharge l  n l4 l2 s8 h) rfl ⟨(Nat.le_of_ble_eq_true rfl), (Nat.le_of_ble_eq_true rfl)⟩ (Nat.le_of_ble_eq_true rfl) hM (fun r12 s11 hM => ?_)
            refine v_if_eq K 64 dX4_threes_58 (by decide) hM (fun hM => ?_) (fun hM => ?_)
            · refine v_iinc K dX4_threes_64 4 rfl (v := (l4 + (1 : Int32))) rfl (by decide) hM (fun y => [(4, .int y), (0, .ref (ad 18)), (1, .int l1), (2, .int l2), (3, .int l3)]) (fun _ => rfl) (fun x13 hM => ?_)
              refine v_goto (tgt := 25) K dX4_threes_67 (by decide) ?_
              exact v_sub [1, 2, 3, 4, 0] rfl (ih_3 l1 l2 l3 x13 s11 hM)
            · refine v_iinc K dX4_threes_61 1 rfl (v := (l1 + (1 : Int32))) rfl (by decide) hM (fun y => [(1, .int y), (0, .ref (ad 18)), (2, .int l2), (3, .int l3), (4, .int l4)]) (fun _ => rfl) (fun x14 hM => ?_)
              refine v_iinc K dX4_threes_64 4 rfl (v := (l4 + (1 : Int32))) rfl (by decide) hM (fun y => [(4, .int y), (1, .int x14), (0, .ref (ad 18)), (2, .int l2), (3, .int l3)]) (fun _ => rfl) (fun x15 hM => ?_)
              refine v_goto (tgt := 25) K dX4_threes_67 (by decide) ?_
              exact v_sub [2, 1, 3, 4, 0] rfl (ih_3 x14 l2 l3 x15 s11 hM)
set_option maxHeartbeats 4000000 in
set_option maxRecDepth 20000 in
theorem c_X4_threes (l : Launch) {D : va_G} {A : Nat → Prop} {ad : Nat → Nat} {dA : Nat → ClassId}  (n : Nat)  (σ : St) {res : Int32 × St} (hM : F_X4_threes n  σ = some res) : MI l yX4_threes cX4_threes 5 (some .int) 2 D (tysX dA) (wdX ad dA) A [.ref (ad 18)] σ (QI D (wdX ad dA) A res) := by
  refine mk_met (by decide +kernel) (Nat.le_of_ble_eq_true rfl) (fun p e s m below meth c K => ?_)
  have K : Cx p s m _ meth c cX4_threes 5 (some .int) RX4 D (tysX dA) (wdX ad dA) A := K
  obtain ⟨ih_1, ih_2, ih_3⟩ := t_X4_threes l    K (res := res) n (below := below) (e := e)
  refine v_iconst (v := (0 : Int32)) K dX4_threes_0 (by decide) ?_
  refine v_istore_n K dX4_threes_1 rfl (by decide) [(1, .int (0 : Int32)), (0, .ref (ad 18))] rfl ?_
  refine v_iconst (v := (0 : Int32)) K dX4_threes_2 (by decide) ?_
  refine v_istore_n K dX4_threes_3 rfl (by decide) [(2, .int (0 : Int32)), (1, .int (0 : Int32)), (0, .ref (ad 18))] rfl ?_
  exact v_sub [2, 1, 0] rfl (ih_1 (0 : Int32) (0 : Int32) σ hM)
noncomputable def B_X4_fits_1 (J : Nat → Int32 → Int32 → Int32 → Int32 → St → Option (Int32 × St)) (n : Nat)  (l1 : Int32) (l2 : Int32) (l3 : Int32) (σ : St) : Option (Int32 × St) := if l1 ≤ l3 then (some ((1 : Int32), σ)) else (gd (vp_in l3 10) (gd (vp_in l1 10) (if (gI σ 19 (l3).toNatClampNeg) = (gI σ 20 (l1).toNatClampNeg) then (J 2 l1 l2 l3 (1 : Int32) σ) else (gd (vp_in l3 10) (gd (vp_in l1 10) (if (gI σ 20 (l3).toNatClampNeg) = (gI σ 19 (l1).toNatClampNeg) then (J 2 l1 l2 l3 (1 : Int32) σ) else (J 2 l1 l2 l3 (0 : Int32) σ)))))))
noncomputable def B_X4_fits_2 (J : Nat → Int32 → Int32 → Int32 → Int32 → St → Option (Int32 × St)) (n : Nat)  (l1 : Int32) (l2 : Int32) (l3 : Int32) (k0 : Int32) (σ : St) : Option (Int32 × St) := gd (vp_in l3 6) (if (gI σ 22 (l3).toNatClampNeg) = l2 then (if k0 = 0 then (bnd (l3 + (1 : Int32)) fun x2 => J 1 l1 l2 x2 0 σ) else (some ((0 : Int32), σ))) else (bnd (l3 + (1 : Int32)) fun x1 => J 1 l1 l2 x1 0 σ))
noncomputable def S_X4_fits  (n : Nat) (J : Nat → Int32 → Int32 → Int32 → Int32 → St → Option (Int32 × St)) : Nat → Int32 → Int32 → Int32 → Int32 → St → Option (Int32 × St) := fun lb a0 a1 a2 a3 σ => match lb with
  | 1 => B_X4_fits_1 J n  a0 a1 a2 σ
  | 2 => B_X4_fits_2 J n  a0 a1 a2 a3 σ
  | _ => none
noncomputable def L_X4_fits  (n : Nat) : Nat → Int32 → Int32 → Int32 → Int32 → St → Option (Int32 × St) := Nat.rec (fun _ _ _ _ _ _ => none) (fun n J => S_X4_fits  n J) n
noncomputable def F_X4_fits (n : Nat) (p1 : Int32) (p2 : Int32) (σ : St) : Option (Int32 × St) := L_X4_fits  n 1 p1 p2 (0 : Int32) 0 σ
set_option maxHeartbeats 4000000 in
set_option maxRecDepth 20000 in
theorem t_X4_fits (l : Launch) {p : Program} {e : Env} {s : State} {m : MethodId} {args : Array Value} {below : List Frame} {meth : Method} {c : Code} {D : va_G} {A : Nat → Prop} {ad : Nat → Nat} {dA : Nat → ClassId}   (K : Cx p s m args meth c cX4_fits 5 (some .boolean) RX4 D (tysX dA) (wdX ad dA) A) {res : Int32 × St} (n : Nat) : (∀ (l1 : Int32) (l2 : Int32) (l3 : Int32) (σ : St), L_X4_fits  n 1 l1 l2 l3 0 σ = some res → V p l e (rmH 1) s m args below meth c 5 D (wdX ad dA) A (MQ below (QI D (wdX ad dA) A res) args s 0 0 A) 2 [(0, .ref (ad 18)), (1, .int l1), (2, .int l2), (3, .int l3)] [] σ) ∧ (∀ (l1 : Int32) (l2 : Int32) (l3 : Int32) (k0 : Int32) (σ : St), L_X4_fits  n 2 l1 l2 l3 k0 σ = some res → V p l e (rmH 1) s m args below meth c 5 D (wdX ad dA) A (MQ below (QI D (wdX ad dA) A res) args s 0 0 A) 42 [(0, .ref (ad 18)), (1, .int l1), (2, .int l2), (3, .int l3)] [.int k0] σ) := by
  induction n with
  | zero => exact ⟨fun _ _ _ _ h => (by cases h), fun _ _ _ _ _ h => (by cases h)⟩
  | succ n ih =>
    obtain ⟨ih_1, ih_2⟩ := ih
    refine ⟨?_, ?_⟩
    · intro l1 l2 l3 σ hM
      have hM : B_X4_fits_1 (L_X4_fits  n) n  l1 l2 l3 σ = some res := hM
      refine v_iload_n K dX4_fits_2 3 rfl ?_
      refine v_iload_n K dX4_fits_3 1 rfl ?_
      refine v_icmp_ge K 67 dX4_fits_4 (by decide) hM (fun hM => ?_) (fun hM => ?_)
      · refine v_iconst (v := (1 : Int32)) K dX4_fits_67 (by decide) ?_
        exact v_zret K rfl rfl dX4_fits_68 hM
      · refine v_aload_n K dX4_fits_7 0 rfl ?_
        refine g_X4_0 K qf_X4_11 dX4_fits_8 ?_
        refine v_iload_n K dX4_fits_11 3 rfl ?_
        refine ld_X19 K dX4_fits_12 hM (fun hM => ?_)
        refine v_aload_n K dX4_fits_13 0 rfl ?_
        refine g_X4_1 K qf_X4_15 dX4_fits_14 ?_
        refine v_iload_n K dX4_fits_17 1 rfl ?_
        refine ld_X20 K dX4_fits_18 hM (fun hM => ?_)
        refine v_icmp_eq K 37 dX4_fits_19 (by decide) hM (fun hM => ?_) (fun hM => ?_)
        · refine v_iconst (v := (1 : Int32)) K dX4_fits_37 (by decide) ?_
          refine v_goto (tgt := 42) K dX4_fits_38 (by decide) ?_
          exact v_sub [0, 1, 2, 3] rfl (ih_2 l1 l2 l3 (1 : Int32) σ hM)
        · refine v_aload_n K dX4_fits_22 0 rfl ?_
          refine g_X4_1 K qf_X4_15 dX4_fits_23 ?_
          refine v_iload_n K dX4_fits_26 3 rfl ?_
          refine ld_X20 K dX4_fits_27 hM (fun hM => ?_)
          refine v_aload_n K dX4_fits_28 0 rfl ?_
          refine g_X4_0 K qf_X4_11 dX4_fits_29 ?_
          refine v_iload_n K dX4_fits_32 1 rfl ?_
          refine ld_X19 K dX4_fits_33 hM (fun hM => ?_)
          refine v_icmp_ne K 41 dX4_fits_34 (by decide) hM (fun hM => ?_) (fun hM => ?_)
          · refine v_iconst (v := (0 : Int32)) K dX4_fits_41 (by decide) ?_
            exact v_sub [0, 1, 2, 3] rfl (ih_2 l1 l2 l3 (0 : Int32) σ hM)
          · refine v_iconst (v := (1 : Int32)) K dX4_fits_37 (by decide) ?_
            refine v_goto (tgt := 42) K dX4_fits_38 (by decide) ?_
            exact v_sub [0, 1, 2, 3] rfl (ih_2 l1 l2 l3 (1 : Int32) σ hM)
    · intro l1 l2 l3 k0 σ hM
      have hM : B_X4_fits_2 (L_X4_fits  n) n  l1 l2 l3 k0 σ = some res := hM
      refine v_istore K dX4_fits_42 (by decide) [(4, .int k0), (0, .ref (ad 18)), (1, .int l1), (2, .int l2), (3, .int l3)] rfl ?_
      refine v_aload_n K dX4_fits_44 1 rfl ?_
      refine g_X4_4 K qf_X4_25 dX4_fits_45 ?_
      refine v_iload_n K dX4_fits_48 4 rfl ?_
      refine ld_X22 K dX4_fits_49 hM (fun hM => ?_)
      refine v_iload_n K dX4_fits_50 3 rfl ?_
      refine v_icmp_ne K 61 dX4_fits_51 (by decide) hM (fun hM => ?_) (fun hM => ?_)
      · refine v_iinc K dX4_fits_61 4 rfl (v := (l3 + (1 : Int32))) rfl (by decide) hM (fun y => [(3, .int y), (4, .int k0), (0, .ref (ad 18)), (1, .int l1), (2, .int l2)]) (fun _ => rfl) (fun x1 hM => ?_)
        refine v_goto (tgt := 2) K dX4_fits_64 (by decide) ?_
        exact v_sub [2, 3, 4, 0] rfl (ih_1 l1 l2 x1 σ hM)
      · refine v_iload K dX4_fits_54 0 rfl ?_
        refine v_if_eq K 61 dX4_fits_56 (by decide) hM (fun hM => ?_) (fun hM => ?_)
        · refine v_iinc K dX4_fits_61 4 rfl (v := (l3 + (1 : Int32))) rfl (by decide) hM (fun y => [(3, .int y), (4, .int k0), (0, .ref (ad 18)), (1, .int l1), (2, .int l2)]) (fun _ => rfl) (fun x2 hM => ?_)
          refine v_goto (tgt := 2) K dX4_fits_64 (by decide) ?_
          exact v_sub [2, 3, 4, 0] rfl (ih_1 l1 l2 x2 σ hM)
        · refine v_iconst (v := (0 : Int32)) K dX4_fits_59 (by decide) ?_
          exact v_zret K rfl rfl dX4_fits_60 hM
set_option maxHeartbeats 4000000 in
set_option maxRecDepth 20000 in
theorem c_X4_fits (l : Launch) {D : va_G} {A : Nat → Prop} {ad : Nat → Nat} {dA : Nat → ClassId}  (n : Nat) (p1 : Int32) (p2 : Int32) (σ : St) {res : Int32 × St} (hM : F_X4_fits n p1 p2 σ = some res) : MI l yX4_fits cX4_fits 5 (some .boolean) 1 D (tysX dA) (wdX ad dA) A [.ref (ad 18), .int p1, .int p2] σ (QI D (wdX ad dA) A res) := by
  refine mk_met (by decide +kernel) (Nat.le_of_ble_eq_true rfl) (fun p e s m below meth c K => ?_)
  have K : Cx p s m _ meth c cX4_fits 5 (some .boolean) RX4 D (tysX dA) (wdX ad dA) A := K
  obtain ⟨ih_1, ih_2⟩ := t_X4_fits l    K (res := res) n (below := below) (e := e)
  refine v_iconst (v := (0 : Int32)) K dX4_fits_0 (by decide) ?_
  refine v_istore_n K dX4_fits_1 rfl (by decide) [(3, .int (0 : Int32)), (0, .ref (ad 18)), (1, .int p1), (2, .int p2)] rfl ?_
  exact v_sub [1, 2, 3, 0] rfl (ih_1 p1 p2 (0 : Int32) σ hM)
noncomputable def B_X4_dealFrom_1 (O : Nat → Nat → Int32 → Int32 → St → Option (Int32 × St)) (J : Nat → Int32 → Int32 → Int32 → St → Option (Int32 × St)) (n : Nat)  (l1 : Int32) (l2 : Int32) (l3 : Int32) (σ : St) : Option (Int32 × St) := if l2 ≤ l3 then (some ((0 : Int32), σ)) else (bd (F_X4_fits n l1 l3 σ) fun r2 s1 => if r2 = 0 then (bnd (l3 + (1 : Int32)) fun x3 => J 1 l1 l2 x3 s1) else (gd (vp_in l1 6) (bnd (sI s1 22 (l1).toNatClampNeg l3) fun s4 => bd (O 0 n (l1 + (1 : Int32)) l2 s4) fun r6 s5 => if r6 = 0 then (bnd (l3 + (1 : Int32)) fun x7 => J 1 l1 l2 x7 s5) else (some ((1 : Int32), s5)))))
noncomputable def S_X4_dealFrom (O : Nat → Nat → Int32 → Int32 → St → Option (Int32 × St))  (n : Nat) (J : Nat → Int32 → Int32 → Int32 → St → Option (Int32 × St)) : Nat → Int32 → Int32 → Int32 → St → Option (Int32 × St) := fun lb a0 a1 a2 σ => match lb with
  | 1 => B_X4_dealFrom_1 O J n  a0 a1 a2 σ
  | _ => none
noncomputable def L_X4_dealFrom (O : Nat → Nat → Int32 → Int32 → St → Option (Int32 × St))  (n : Nat) : Nat → Int32 → Int32 → Int32 → St → Option (Int32 × St) := Nat.rec (fun _ _ _ _ _ => none) (fun n J => S_X4_dealFrom O  n J) n
noncomputable def E_X4_dealFrom (O : Nat → Nat → Int32 → Int32 → St → Option (Int32 × St)) (n : Nat) (p1 : Int32) (p2 : Int32) (σ : St) : Option (Int32 × St) := if (gI σ 18 2) ≤ p1 then (some ((1 : Int32), σ)) else (if p1 < (6 : Int32) then (L_X4_dealFrom O  n 1 p1 p2 (0 : Int32) σ) else (some ((1 : Int32), σ)))
set_option maxHeartbeats 4000000 in
set_option maxRecDepth 20000 in
theorem t_X4_dealFrom (l : Launch) {p : Program} {e : Env} {s : State} {m : MethodId} {args : Array Value} {below : List Frame} {meth : Method} {c : Code} {D : va_G} {A : Nat → Prop} {ad : Nat → Nat} {dA : Nat → ClassId}   (d : Nat) {O : Nat → Nat → Int32 → Int32 → St → Option (Int32 × St)} (ih_r0 : ∀ (n : Nat) (p1 : Int32) (p2 : Int32) (σ : St) {res : Int32 × St}, O 0 n p1 p2 σ = some res → MI l yX4_dealFrom cX4_dealFrom 4 (some .boolean) (2 + d) D (tysX dA) (wdX ad dA) A [.ref (ad 18), .int p1, .int p2] σ (QI D (wdX ad dA) A res)) (K : Cx p s m args meth c cX4_dealFrom 4 (some .boolean) RX4 D (tysX dA) (wdX ad dA) A) {res : Int32 × St} (n : Nat) : (∀ (l1 : Int32) (l2 : Int32) (l3 : Int32) (σ : St), L_X4_dealFrom O  n 1 l1 l2 l3 σ = some res → V p l e (rmH (2 + d + 1)) s m args below meth c 4 D (wdX ad dA) A (MQ below (QI D (wdX ad dA) A res) args s 0 0 A) 18 [(0, .ref (ad 18)), (1, .int l1), (2, .int l2), (3, .int l3)] [] σ) := by
  induction n with
  | zero => exact (fun _ _ _ _ h => (by cases h))
  | succ n ih =>
    have ih_1 := ih
    · intro l1 l2 l3 σ hM
      have hM : B_X4_dealFrom_1 O (L_X4_dealFrom O  n) n  l1 l2 l3 σ = some res := hM
      refine v_iload_n K dX4_dealFrom_18 3 rfl ?_
      refine v_iload_n K dX4_dealFrom_19 2 rfl ?_
      refine v_icmp_ge K 58 dX4_dealFrom_20 (by decide) hM (fun hM => ?_) (fun hM => ?_)
      · refine v_iconst (v := (0 : Int32)) K dX4_dealFrom_58 (by decide) ?_
        exact v_zret K rfl rfl dX4_dealFrom_59 hM
      · refine v_aload_n K dX4_dealFrom_23 0 rfl ?_
        refine v_iload_n K dX4_dealFrom_24 1 rfl ?_
        refine v_iload_n K dX4_dealFrom_25 3 rfl ?_
        refine x_Vi (As := [.int l1, .int l3]) (st := []) K uv_X4_fits qm_X4_50 dX4_dealFrom_26 rv_X4 (fun _ h => c_X4_fits l  n l1 l3 σ h) rfl ⟨(by simp only [rmH]; omega), (by simp only [rmH]; omega)⟩ (Nat.le_of_ble_eq_true rfl) hM (fun r2 s1 hM => ?_)
        refine v_if_eq K 52 dX4_dealFrom_29 (by decide) hM (fun hM => ?_) (fun hM => ?_)
        · refine v_iinc K dX4_dealFrom_52 3 rfl (v := (l3 + (1 : Int32))) rfl (by decide) hM (fun y => [(3, .int y), (0, .ref (ad 18)), (1, .int l1), (2, .int l2)]) (fun _ => rfl) (fun x3 hM => ?_)
          refine v_goto (tgt := 18) K dX4_dealFrom_55 (by decide) ?_
          exact v_sub [1, 2, 3, 0] rfl (ih_1 l1 l2 x3 s1 hM)
        · refine v_aload_n K dX4_dealFrom_32 0 rfl ?_
          refine g_X4_4 K qf_X4_25 dX4_dealFrom_33 ?_
          refine v_iload_n K dX4_dealFrom_36 1 rfl ?_
          refine v_iload_n K dX4_dealFrom_37 3 rfl ?_
          refine st_X22 K dX4_dealFrom_38 hM (fun s4 hM => ?_)
          refine v_aload_n K dX4_dealFrom_39 0 rfl ?_
          refine v_iload_n K dX4_dealFrom_40 1 rfl ?_
          refine v_iconst (v := (1 : Int32)) K dX4_dealFrom_41 (by decide) ?_
          refine v_iadd K dX4_dealFrom_42 ?_
          refine v_iload_n K dX4_dealFrom_43 2 rfl ?_
          refine x_Vi (As := [.int (l1 + (1 : Int32)), .int l2]) (st := []) K uv_X4_dealFrom qm_X4_47 dX4_dealFrom_44 rv_X4 (fun _ h => ih_r0 n (l1 + (1 : Int32)) l2 s4 h) rfl ⟨by simp only [rmH]; omega, by simp only [rmH]; omega⟩ (Nat.le_of_ble_eq_true rfl) hM (fun r6 s5 hM => ?_)
          refine v_if_eq K 52 dX4_dealFrom_47 (by decide) hM (fun hM => ?_) (fun hM => ?_)
          · refine v_iinc K dX4_dealFrom_52 3 rfl (v := (l3 + (1 : Int32))) rfl (by decide) hM (fun y => [(3, .int y), (0, .ref (ad 18)), (1, .int l1), (2, .int l2)]) (fun _ => rfl) (fun x7 hM => ?_)
            refine v_goto (tgt := 18) K dX4_dealFrom_55 (by decide) ?_
            exact v_sub [1, 2, 3, 0] rfl (ih_1 l1 l2 x7 s5 hM)
          · refine v_iconst (v := (1 : Int32)) K dX4_dealFrom_50 (by decide) ?_
            exact v_zret K rfl rfl dX4_dealFrom_51 hM
set_option maxHeartbeats 4000000 in
set_option maxRecDepth 20000 in
theorem e_X4_dealFrom (l : Launch) {D : va_G} {A : Nat → Prop} {ad : Nat → Nat} {dA : Nat → ClassId} (d : Nat) {O : Nat → Nat → Int32 → Int32 → St → Option (Int32 × St)} (ih_r0 : ∀ (n : Nat) (p1 : Int32) (p2 : Int32) (σ : St) {res : Int32 × St}, O 0 n p1 p2 σ = some res → MI l yX4_dealFrom cX4_dealFrom 4 (some .boolean) (2 + d) D (tysX dA) (wdX ad dA) A [.ref (ad 18), .int p1, .int p2] σ (QI D (wdX ad dA) A res))  (n : Nat) (p1 : Int32) (p2 : Int32) (σ : St) {res : Int32 × St} (hM : E_X4_dealFrom O n p1 p2 σ = some res) : MI l yX4_dealFrom cX4_dealFrom 4 (some .boolean) (2 + d + 1) D (tysX dA) (wdX ad dA) A [.ref (ad 18), .int p1, .int p2] σ (QI D (wdX ad dA) A res) := by
  refine mk_met (by decide +kernel) (Nat.le_of_ble_eq_true rfl) (fun p e s m below meth c K => ?_)
  have K : Cx p s m _ meth c cX4_dealFrom 4 (some .boolean) RX4 D (tysX dA) (wdX ad dA) A := K
  have ih_1 := t_X4_dealFrom l   d ih_r0 K (res := res) n (below := below) (e := e)
  refine v_iload_n K dX4_dealFrom_0 1 rfl ?_
  refine v_aload_n K dX4_dealFrom_1 0 rfl ?_
  refine g_X4_2 K qf_X4_18 dX4_dealFrom_2 ?_
  refine v_icmp_ge K 14 dX4_dealFrom_5 (by decide) hM (fun hM => ?_) (fun hM => ?_)
  · refine v_iconst (v := (1 : Int32)) K dX4_dealFrom_14 (by decide) ?_
    exact v_zret K rfl rfl dX4_dealFrom_15 hM
  · refine v_iload_n K dX4_dealFrom_8 1 rfl ?_
    refine v_bipush (v := (6 : Int32)) K dX4_dealFrom_9 (by decide) ?_
    refine v_icmp_lt K 16 dX4_dealFrom_11 (by decide) hM (fun hM => ?_) (fun hM => ?_)
    · refine v_iconst (v := (0 : Int32)) K dX4_dealFrom_16 (by decide) ?_
      refine v_istore_n K dX4_dealFrom_17 rfl (by decide) [(3, .int (0 : Int32)), (0, .ref (ad 18)), (1, .int p1), (2, .int p2)] rfl ?_
      exact v_sub [1, 2, 3, 0] rfl (ih_1 p1 p2 (0 : Int32) σ hM)
    · refine v_iconst (v := (1 : Int32)) K dX4_dealFrom_14 (by decide) ?_
      exact v_zret K rfl rfl dX4_dealFrom_15 hM
noncomputable def D_X4_dealFrom (O : Nat → Nat → Int32 → Int32 → St → Option (Int32 × St)) : Nat → Nat → Int32 → Int32 → St → Option (Int32 × St) := fun mi n a0 a1 σ => match mi with
  | 0 => E_X4_dealFrom O n a0 a1 σ
  | _ => none
noncomputable def F_X4_dealFrom (d : Nat) : Nat → Nat → Int32 → Int32 → St → Option (Int32 × St) := Nat.rec (fun _ _ _ _ _ => none) (fun _ O => D_X4_dealFrom O) d
theorem r_X4_dealFrom (l : Launch) {D : va_G} {A : Nat → Prop} {ad : Nat → Nat} {dA : Nat → ClassId} (d : Nat) : (∀ (n : Nat) (p1 : Int32) (p2 : Int32) (σ : St) {res : Int32 × St}, F_X4_dealFrom d 0 n p1 p2 σ = some res → MI l yX4_dealFrom cX4_dealFrom 4 (some .boolean) (2 + d) D (tysX dA) (wdX ad dA) A [.ref (ad 18), .int p1, .int p2] σ (QI D (wdX ad dA) A res)) := by
  induction d with
  | zero => exact (fun _ _ _ _ _ h => (by cases h))
  | succ d ih =>
    exact fun n p1 p2 σ _ hM => e_X4_dealFrom l d ih n p1 p2 σ hM
theorem c_X4_dealFrom (l : Launch) {D : va_G} {A : Nat → Prop} {ad : Nat → Nat} {dA : Nat → ClassId} (d n : Nat) (p1 : Int32) (p2 : Int32) (σ : St) {res : Int32 × St} (hM : F_X4_dealFrom d 0 n p1 p2 σ = some res) : MI l yX4_dealFrom cX4_dealFrom 4 (some .boolean) (2 + d) D (tysX dA) (wdX ad dA) A [.ref (ad 18), .int p1, .int p2] σ (QI D (wdX ad dA) A res) := (r_X4_dealFrom l d) n p1 p2 σ hM
noncomputable def B_X4_dealDays_1 (J : Nat → Int32 → St → Option (Int32 × St)) (n : Nat)  (l1 : Int32) (σ : St) : Option (Int32 × St) := if (6 : Int32) < l1 then (some ((-2 : Int32), σ)) else (bd (F_X4_dealFrom 100 0 n (0 : Int32) l1 σ) fun r2 s1 => if r2 = 0 then (bnd (l1 + (1 : Int32)) fun x3 => J 1 x3 s1) else (some (l1, s1)))
noncomputable def S_X4_dealDays  (n : Nat) (J : Nat → Int32 → St → Option (Int32 × St)) : Nat → Int32 → St → Option (Int32 × St) := fun lb a0 σ => match lb with
  | 1 => B_X4_dealDays_1 J n  a0 σ
  | _ => none
noncomputable def L_X4_dealDays  (n : Nat) : Nat → Int32 → St → Option (Int32 × St) := Nat.rec (fun _ _ _ => none) (fun n J => S_X4_dealDays  n J) n
noncomputable def F_X4_dealDays (n : Nat)  (σ : St) : Option (Int32 × St) := L_X4_dealDays  n 1 (0 : Int32) σ
set_option maxHeartbeats 4000000 in
set_option maxRecDepth 20000 in
theorem t_X4_dealDays (l : Launch) {p : Program} {e : Env} {s : State} {m : MethodId} {args : Array Value} {below : List Frame} {meth : Method} {c : Code} {D : va_G} {A : Nat → Prop} {ad : Nat → Nat} {dA : Nat → ClassId}   (K : Cx p s m args meth c cX4_dealDays 2 (some .int) RX4 D (tysX dA) (wdX ad dA) A) {res : Int32 × St} (n : Nat) : (∀ (l1 : Int32) (σ : St), L_X4_dealDays  n 1 l1 σ = some res → V p l e (rmH 103) s m args below meth c 2 D (wdX ad dA) A (MQ below (QI D (wdX ad dA) A res) args s 0 0 A) 2 [(0, .ref (ad 18)), (1, .int l1)] [] σ) := by
  induction n with
  | zero => exact (fun _ _ h => (by cases h))
  | succ n ih =>
    have ih_1 := ih
    · intro l1 σ hM
      have hM : B_X4_dealDays_1 (L_X4_dealDays  n) n  l1 σ = some res := hM
      refine v_iload_n K dX4_dealDays_2 1 rfl ?_
      refine v_bipush (v := (6 : Int32)) K dX4_dealDays_3 (by decide) ?_
      refine v_icmp_gt K 25 dX4_dealDays_5 (by decide) hM (fun hM => ?_) (fun hM => ?_)
      · refine v_bipush (v := (-2 : Int32)) K dX4_dealDays_25 (by decide) ?_
        exact v_iret K rfl dX4_dealDays_27 hM
      · refine v_aload_n K dX4_dealDays_8 0 rfl ?_
        refine v_iconst (v := (0 : Int32)) K dX4_dealDays_9 (by decide) ?_
        refine v_iload_n K dX4_dealDays_10 1 rfl ?_
        refine x_Vi (As := [.int (0 : Int32), .int l1]) (st := []) K uv_X4_dealFrom qm_X4_47 dX4_dealDays_11 rv_X4 (fun _ h => c_X4_dealFrom l 100 n (0 : Int32) l1 σ h) rfl ⟨(Nat.le_of_ble_eq_true rfl), (Nat.le_of_ble_eq_true rfl)⟩ (Nat.le_of_ble_eq_true rfl) hM (fun r2 s1 hM => ?_)
        refine v_if_eq K 19 dX4_dealDays_14 (by decide) hM (fun hM => ?_) (fun hM => ?_)
        · refine v_iinc K dX4_dealDays_19 1 rfl (v := (l1 + (1 : Int32))) rfl (by decide) hM (fun y => [(1, .int y), (0, .ref (ad 18))]) (fun _ => rfl) (fun x3 hM => ?_)
          refine v_goto (tgt := 2) K dX4_dealDays_22 (by decide) ?_
          exact v_sub [1, 0] rfl (ih_1 x3 s1 hM)
        · refine v_iload_n K dX4_dealDays_17 1 rfl ?_
          exact v_iret K rfl dX4_dealDays_18 hM
set_option maxHeartbeats 4000000 in
set_option maxRecDepth 20000 in
theorem c_X4_dealDays (l : Launch) {D : va_G} {A : Nat → Prop} {ad : Nat → Nat} {dA : Nat → ClassId}  (n : Nat)  (σ : St) {res : Int32 × St} (hM : F_X4_dealDays n  σ = some res) : MI l yX4_dealDays cX4_dealDays 2 (some .int) 103 D (tysX dA) (wdX ad dA) A [.ref (ad 18)] σ (QI D (wdX ad dA) A res) := by
  refine mk_met (by decide +kernel) (Nat.le_of_ble_eq_true rfl) (fun p e s m below meth c K => ?_)
  have K : Cx p s m _ meth c cX4_dealDays 2 (some .int) RX4 D (tysX dA) (wdX ad dA) A := K
  have ih_1 := t_X4_dealDays l    K (res := res) n (below := below) (e := e)
  refine v_iconst (v := (0 : Int32)) K dX4_dealDays_0 (by decide) ?_
  refine v_istore_n K dX4_dealDays_1 rfl (by decide) [(1, .int (0 : Int32)), (0, .ref (ad 18))] rfl ?_
  exact v_sub [1, 0] rfl (ih_1 (0 : Int32) σ hM)
noncomputable def F_X4_dayOf (n : Nat) (p1 : Int32) (σ : St) : Option (Int32 × St) := if p1 < 0 then (some ((-2 : Int32), σ)) else (if (gI σ 18 2) ≤ p1 then (some ((-2 : Int32), σ)) else (if (6 : Int32) ≤ p1 then (some ((-2 : Int32), σ)) else (gd (vp_in p1 6) (some ((gI σ 22 (p1).toNatClampNeg), σ)))))
set_option maxHeartbeats 4000000 in
set_option maxRecDepth 20000 in
theorem c_X4_dayOf (l : Launch) {D : va_G} {A : Nat → Prop} {ad : Nat → Nat} {dA : Nat → ClassId}  (n : Nat) (p1 : Int32) (σ : St) {res : Int32 × St} (hM : F_X4_dayOf n p1 σ = some res) : MI l yX4_dayOf cX4_dayOf 2 (some .int) 1 D (tysX dA) (wdX ad dA) A [.ref (ad 18), .int p1] σ (QI D (wdX ad dA) A res) := by
  refine mk_met (by decide +kernel) (Nat.le_of_ble_eq_true rfl) (fun p e s m below meth c K => ?_)
  have K : Cx p s m _ meth c cX4_dayOf 2 (some .int) RX4 D (tysX dA) (wdX ad dA) A := K
  refine v_iload_n K dX4_dayOf_0 1 rfl ?_
  refine v_if_lt K 27 dX4_dayOf_1 (by decide) hM (fun hM => ?_) (fun hM => ?_)
  · refine v_bipush (v := (-2 : Int32)) K dX4_dayOf_27 (by decide) ?_
    exact v_iret K rfl dX4_dayOf_29 hM
  · refine v_iload_n K dX4_dayOf_4 1 rfl ?_
    refine v_aload_n K dX4_dayOf_5 0 rfl ?_
    refine g_X4_2 K qf_X4_18 dX4_dayOf_6 ?_
    refine v_icmp_ge K 27 dX4_dayOf_9 (by decide) hM (fun hM => ?_) (fun hM => ?_)
    · refine v_bipush (v := (-2 : Int32)) K dX4_dayOf_27 (by decide) ?_
      exact v_iret K rfl dX4_dayOf_29 hM
    · refine v_iload_n K dX4_dayOf_12 1 rfl ?_
      refine v_bipush (v := (6 : Int32)) K dX4_dayOf_13 (by decide) ?_
      refine v_icmp_ge K 27 dX4_dayOf_15 (by decide) hM (fun hM => ?_) (fun hM => ?_)
      · refine v_bipush (v := (-2 : Int32)) K dX4_dayOf_27 (by decide) ?_
        exact v_iret K rfl dX4_dayOf_29 hM
      · refine v_aload_n K dX4_dayOf_18 0 rfl ?_
        refine g_X4_4 K qf_X4_25 dX4_dayOf_19 ?_
        refine v_iload_n K dX4_dayOf_22 1 rfl ?_
        refine ld_X22 K dX4_dayOf_23 hM (fun hM => ?_)
        refine v_goto (tgt := 29) K dX4_dayOf_24 (by decide) ?_
        exact v_iret K rfl dX4_dayOf_29 hM
noncomputable def B_X5_drawCase_1 (J : Nat → Int32 → Int32 → Int32 → Int32 → St → Option (Unit × St)) (n : Nat)  (l1 : Int32) (l2 : Int32) (l4 : Int32) (l5 : Int32) (σ : St) : Option (Unit × St) := bd (F_X1_isFree n 61 l4 σ) fun r7 s6 => if r7 = 0 then (some ((), s6)) else (gd (¬ (12 : Int32) = 0) (bnd (((l1.toUInt32 >>> ((20 : Int32).toUInt32 &&& Int32.toUInt32 31)).toInt32) - ((l1.toUInt32 >>> ((20 : Int32).toUInt32 &&& Int32.toUInt32 31)).toInt32) / (12 : Int32) * (12 : Int32)) fun x8 => bd (F_X3_twelfths n 61 l4 l5 s6) fun r10 s9 => if r10 ≤ x8 then (J 2 l2 l4 l5 (0 : Int32) s9) else (J 2 l2 l4 l5 (1 : Int32) s9)))
noncomputable def B_X5_drawCase_2 (J : Nat → Int32 → Int32 → Int32 → Int32 → St → Option (Unit × St)) (n : Nat)  (l2 : Int32) (l4 : Int32) (l5 : Int32) (k0 : Int32) (σ : St) : Option (Unit × St) := bd (F_X1_settle n 61 l4 l5 k0 σ) fun _ s11 => bnd (sI s11 23 2 ((gI s11 23 2) + (1 : Int32))) fun s12 => if k0 = 0 then (some ((), s12)) else (if l4 = l2 then (bnd (sI s12 23 3 ((gI s12 23 3) + (1 : Int32))) fun s13 => some ((), s13)) else (some ((), s12)))
noncomputable def S_X5_drawCase  (n : Nat) (J : Nat → Int32 → Int32 → Int32 → Int32 → St → Option (Unit × St)) : Nat → Int32 → Int32 → Int32 → Int32 → St → Option (Unit × St) := fun lb a0 a1 a2 a3 σ => match lb with
  | 1 => B_X5_drawCase_1 J n  a0 a1 a2 a3 σ
  | 2 => B_X5_drawCase_2 J n  a0 a1 a2 a3 σ
  | _ => none
noncomputable def L_X5_drawCase  (n : Nat) : Nat → Int32 → Int32 → Int32 → Int32 → St → Option (Unit × St) := Nat.rec (fun _ _ _ _ _ _ => none) (fun n J => S_X5_drawCase  n J) n
noncomputable def F_X5_drawCase (n : Nat) (p1 : Int32) (p2 : Int32) (σ : St) : Option (Unit × St) := bd (F_X6_size n  σ) fun r2 s1 => if (2 : Int32) ≤ r2 then (gd (¬ r2 = 0) (bnd (((p1.toUInt32 >>> ((4 : Int32).toUInt32 &&& Int32.toUInt32 31)).toInt32) - ((p1.toUInt32 >>> ((4 : Int32).toUInt32 &&& Int32.toUInt32 31)).toInt32) / r2 * r2) fun x3 => gd (¬ (r2 - (1 : Int32)) = 0) (bnd (((p1.toUInt32 >>> ((12 : Int32).toUInt32 &&& Int32.toUInt32 31)).toInt32) - ((p1.toUInt32 >>> ((12 : Int32).toUInt32 &&& Int32.toUInt32 31)).toInt32) / (r2 - (1 : Int32)) * (r2 - (1 : Int32))) fun x4 => if x4 < x3 then (L_X5_drawCase  n 1 p1 p2 x3 x4 s1) else (bnd (x4 + (1 : Int32)) fun x5 => L_X5_drawCase  n 1 p1 p2 x3 x5 s1)))) else (some ((), s1))
set_option maxHeartbeats 4000000 in
set_option maxRecDepth 20000 in
theorem t_X5_drawCase (l : Launch) {p : Program} {e : Env} {s : State} {m : MethodId} {args : Array Value} {below : List Frame} {meth : Method} {c : Code} {D : va_G} {A : Nat → Prop} {ad : Nat → Nat} {dA : Nat → ClassId}   (K : Cx p s m args meth c cX5_drawCase 7 none RX5 D (tysX dA) (wdX ad dA) A) {res : Unit × St} (n : Nat) : (∀ (l1 : Int32) (l2 : Int32) (l4 : Int32) (l5 : Int32) (σ : St), L_X5_drawCase  n 1 l1 l2 l4 l5 σ = some res → V p l e (rmH 4) s m args below meth c 7 D (wdX ad dA) A (MQ below (QV D (wdX ad dA) A res) args s 0 0 A) 44 [(0, .ref (ad 23)), (1, .int l1), (2, .int l2), (4, .int l4), (5, .int l5)] [] σ) ∧ (∀ (l2 : Int32) (l4 : Int32) (l5 : Int32) (k0 : Int32) (σ : St), L_X5_drawCase  n 2 l2 l4 l5 k0 σ = some res → V p l e (rmH 4) s m args below meth c 7 D (wdX ad dA) A (MQ below (QV D (wdX ad dA) A res) args s 0 0 A) 87 [(0, .ref (ad 23)), (2, .int l2), (4, .int l4), (5, .int l5)] [.int k0] σ) := by
  induction n with
  | zero => exact ⟨fun _ _ _ _ _ h => (by cases h), fun _ _ _ _ _ h => (by cases h)⟩
  | succ n ih =>
    obtain ⟨ih_1, ih_2⟩ := ih
    refine ⟨?_, ?_⟩
    · intro l1 l2 l4 l5 σ hM
      have hM : B_X5_drawCase_1 (L_X5_drawCase  n) n  l1 l2 l4 l5 σ = some res := hM
      refine v_aload_n K dX5_drawCase_44 0 rfl ?_
      refine g_X5_1 K qf_X5_12 dX5_drawCase_45 ?_
      refine v_iload K dX5_drawCase_48 3 rfl ?_
      refine x_Vi (As := [.int l4]) (st := []) K uv_X1_isFree qm_X5_56 dX5_drawCase_50 (rv_X1 isB_61) (fun _ h => c_X1_isFree l 61 isB_61 n l4 σ h) rfl ⟨(Nat.le_of_ble_eq_true rfl), (Nat.le_of_ble_eq_true rfl)⟩ (Nat.le_of_ble_eq_true rfl) hM (fun r7 s6 hM => ?_)
      refine v_if_ne K 57 dX5_drawCase_53 (by decide) hM (fun hM => ?_) (fun hM => ?_)
      · refine v_iload_n K dX5_drawCase_57 1 rfl ?_
        refine v_bipush (v := (20 : Int32)) K dX5_drawCase_58 (by decide) ?_
        refine v_iushr K dX5_drawCase_60 ?_
        refine v_bipush (v := (12 : Int32)) K dX5_drawCase_61 (by decide) ?_
        refine v_irem K dX5_drawCase_63 hM (fun hM => ?_)
        refine v_topi hM (fun x8 hM => ?_)
        refine v_aload_n K dX5_drawCase_64 0 rfl ?_
        refine g_X5_0 K qf_X5_28 dX5_drawCase_65 ?_
        refine v_aload_n K dX5_drawCase_68 0 rfl ?_
        refine g_X5_1 K qf_X5_12 dX5_drawCase_69 ?_
        refine v_iload K dX5_drawCase_72 3 rfl ?_
        refine v_iload K dX5_drawCase_74 4 rfl ?_
        refine x_Vi (As := [.ref (ad 61), .int l4, .int l5]) (st := [.int x8]) K uv_X3_twelfths qm_X5_60 dX5_drawCase_76 rv_X3 (fun _ h => c_X3_twelfths l 61 isB_61 n l4 l5 s6 h) rfl ⟨(Nat.le_of_ble_eq_true rfl), (Nat.le_of_ble_eq_true rfl)⟩ (Nat.le_of_ble_eq_true rfl) hM (fun r10 s9 hM => ?_)
        refine v_icmp_ge K 86 dX5_drawCase_79 (by decide) hM (fun hM => ?_) (fun hM => ?_)
        · refine v_iconst (v := (0 : Int32)) K dX5_drawCase_86 (by decide) ?_
          exact v_sub [0, 2, 3, 4] rfl (ih_2 l2 l4 l5 (0 : Int32) s9 hM)
        · refine v_iconst (v := (1 : Int32)) K dX5_drawCase_82 (by decide) ?_
          refine v_goto (tgt := 87) K dX5_drawCase_83 (by decide) ?_
          exact v_sub [0, 2, 3, 4] rfl (ih_2 l2 l4 l5 (1 : Int32) s9 hM)
      · exact v_vret K rfl dX5_drawCase_56 hM
    · intro l2 l4 l5 k0 σ hM
      have hM : B_X5_drawCase_2 (L_X5_drawCase  n) n  l2 l4 l5 k0 σ = some res := hM
      refine v_istore K dX5_drawCase_87 (by decide) [(6, .int k0), (0, .ref (ad 23)), (2, .int l2), (4, .int l4), (5, .int l5)] rfl ?_
      refine v_aload_n K dX5_drawCase_89 1 rfl ?_
      refine g_X5_1 K qf_X5_12 dX5_drawCase_90 ?_
      refine v_iload K dX5_drawCase_93 3 rfl ?_
      refine v_iload K dX5_drawCase_95 4 rfl ?_
      refine v_iload K dX5_drawCase_97 0 rfl ?_
      refine x_Vv (As := [.int l4, .int l5, .int k0]) (st := []) K uv_X1_settle qm_X5_64 dX5_drawCase_99 (rv_X1 isB_61) (fun _ h => c_X1_settle l 61 isB_61 n l4 l5 k0 σ h) rfl ⟨(Nat.le_of_ble_eq_true rfl), (Nat.le_of_ble_eq_true rfl)⟩ (Nat.le_of_ble_eq_true rfl) hM (fun s11 hM => ?_)
      refine v_aload_n K dX5_drawCase_102 1 rfl ?_
      refine v_dup K dX5_drawCase_103 rfl ?_
      refine g_X5_2 K qf_X5_18 dX5_drawCase_104 ?_
      refine v_iconst (v := (1 : Int32)) K dX5_drawCase_107 (by decide) ?_
      refine v_iadd K dX5_drawCase_108 ?_
      refine p_X5_2 K qf_X5_18 dX5_drawCase_109 hM (fun s12 hM => ?_)
      refine v_iload K dX5_drawCase_112 0 rfl ?_
      refine v_if_eq K 133 dX5_drawCase_114 (by decide) hM (fun hM => ?_) (fun hM => ?_)
      · exact v_vret K rfl dX5_drawCase_133 hM
      · refine v_iload K dX5_drawCase_117 3 rfl ?_
        refine v_iload_n K dX5_drawCase_119 2 rfl ?_
        refine v_icmp_ne K 133 dX5_drawCase_120 (by decide) hM (fun hM => ?_) (fun hM => ?_)
        · exact v_vret K rfl dX5_drawCase_133 hM
        · refine v_aload_n K dX5_drawCase_123 1 rfl ?_
          refine v_dup K dX5_drawCase_124 rfl ?_
          refine g_X5_3 K qf_X5_22 dX5_drawCase_125 ?_
          refine v_iconst (v := (1 : Int32)) K dX5_drawCase_128 (by decide) ?_
          refine v_iadd K dX5_drawCase_129 ?_
          refine p_X5_3 K qf_X5_22 dX5_drawCase_130 hM (fun s13 hM => ?_)
          exact v_vret K rfl dX5_drawCase_133 hM
set_option maxHeartbeats 4000000 in
set_option maxRecDepth 20000 in
theorem c_X5_drawCase (l : Launch) {D : va_G} {A : Nat → Prop} {ad : Nat → Nat} {dA : Nat → ClassId}  (n : Nat) (p1 : Int32) (p2 : Int32) (σ : St) {res : Unit × St} (hM : F_X5_drawCase n p1 p2 σ = some res) : MI l yX5_drawCase cX5_drawCase 7 none 4 D (tysX dA) (wdX ad dA) A [.ref (ad 23), .int p1, .int p2] σ (QV D (wdX ad dA) A res) := by
  refine mk_met (by decide +kernel) (Nat.le_of_ble_eq_true rfl) (fun p e s m below meth c K => ?_)
  have K : Cx p s m _ meth c cX5_drawCase 7 none RX5 D (tysX dA) (wdX ad dA) A := K
  obtain ⟨ih_1, ih_2⟩ := t_X5_drawCase l    K (res := res) n (below := below) (e := e)
  refine v_aload_n K dX5_drawCase_0 0 rfl ?_
  refine g_X5_0 K qf_X5_28 dX5_drawCase_1 ?_
  refine x_Vr (As := []) (st := []) K uv_X3_folk qm_X5_32 dX5_drawCase_4 rv_X3 (c_X3_folk l σ) rfl ⟨(Nat.le_of_ble_eq_true rfl), (Nat.le_of_ble_eq_true rfl)⟩ (Nat.le_of_ble_eq_true rfl) ?_
  refine x_Vi (As := []) (st := []) K uv_X6_size qm_X5_38 dX5_drawCase_7 rv_X6 (fun _ h => c_X6_size l  n  σ h) rfl ⟨(Nat.le_of_ble_eq_true rfl), (Nat.le_of_ble_eq_true rfl)⟩ (Nat.le_of_ble_eq_true rfl) hM (fun r2 s1 hM => ?_)
  refine v_istore_n K dX5_drawCase_10 rfl (by decide) [(3, .int r2), (0, .ref (ad 23)), (1, .int p1), (2, .int p2)] rfl ?_
  refine v_iload_n K dX5_drawCase_11 0 rfl ?_
  refine v_iconst (v := (2 : Int32)) K dX5_drawCase_12 (by decide) ?_
  refine v_icmp_ge K 17 dX5_drawCase_13 (by decide) hM (fun hM => ?_) (fun hM => ?_)
  · refine v_iload_n K dX5_drawCase_17 2 rfl ?_
    refine v_iconst (v := (4 : Int32)) K dX5_drawCase_18 (by decide) ?_
    refine v_iushr K dX5_drawCase_19 ?_
    refine v_iload_n K dX5_drawCase_20 0 rfl ?_
    refine v_irem K dX5_drawCase_21 hM (fun hM => ?_)
    refine v_topi hM (fun x3 hM => ?_)
    refine v_istore K dX5_drawCase_22 (by decide) [(4, .int x3), (3, .int r2), (0, .ref (ad 23)), (1, .int p1), (2, .int p2)] rfl ?_
    refine v_iload_n K dX5_drawCase_24 3 rfl ?_
    refine v_bipush (v := (12 : Int32)) K dX5_drawCase_25 (by decide) ?_
    refine v_iushr K dX5_drawCase_27 ?_
    refine v_iload_n K dX5_drawCase_28 1 rfl ?_
    refine v_iconst (v := (1 : Int32)) K dX5_drawCase_29 (by decide) ?_
    refine v_isub K dX5_drawCase_30 ?_
    refine v_irem K dX5_drawCase_31 hM (fun hM => ?_)
    refine v_topi hM (fun x4 hM => ?_)
    refine v_istore K dX5_drawCase_32 (by decide) [(5, .int x4), (4, .int x3), (3, .int r2), (0, .ref (ad 23)), (1, .int p1), (2, .int p2)] rfl ?_
    refine v_iload K dX5_drawCase_34 0 rfl ?_
    refine v_iload K dX5_drawCase_36 1 rfl ?_
    refine v_icmp_lt K 44 dX5_drawCase_38 (by decide) hM (fun hM => ?_) (fun hM => ?_)
    · exact v_sub [3, 4, 5, 1, 0] rfl (ih_1 p1 p2 x3 x4 s1 hM)
    · refine v_iinc K dX5_drawCase_41 0 rfl (v := (x4 + (1 : Int32))) rfl (by decide) hM (fun y => [(5, .int y), (4, .int x3), (3, .int r2), (0, .ref (ad 23)), (1, .int p1), (2, .int p2)]) (fun _ => rfl) (fun x5 hM => ?_)
      exact v_sub [3, 4, 5, 1, 0] rfl (ih_1 p1 p2 x3 x5 s1 hM)
  · exact v_vret K rfl dX5_drawCase_16 hM
noncomputable def B_X5_pass_1 (J : Nat → Int32 → Int32 → Int32 → Int32 → Int32 → Int32 → St → Option (Unit × St)) (n : Nat) (b1 : Nat) (l3 : Int32) (l4 : Int32) (l5 : Int32) (l6 : Int32) (l7 : Int32) (σ : St) : Option (Unit × St) := if l3 ≤ l7 then (some ((), σ)) else (bd (F_X1_copyFrom n 61 b1 σ) fun _ s6 => J 2 l3 l4 l5 l6 l7 (0 : Int32) s6)
noncomputable def B_X5_pass_2 (J : Nat → Int32 → Int32 → Int32 → Int32 → Int32 → Int32 → St → Option (Unit × St)) (n : Nat) (b1 : Nat) (l3 : Int32) (l4 : Int32) (l5 : Int32) (l6 : Int32) (l7 : Int32) (l8 : Int32) (σ : St) : Option (Unit × St) := if l4 ≤ l8 then (bd (F_X1_howManyBound n 61 σ) fun r8 s7 => bnd (sI s7 23 4 ((gI σ 23 4) + r8)) fun s9 => bnd (l7 + (1 : Int32)) fun x10 => J 1 l3 l4 l5 l6 x10 0 s9) else (bnd ((l6 * (1103515245 : Int32)) + (12345 : Int32)) fun x11 => bd (F_X5_drawCase n x11 l5 σ) fun _ s12 => bnd (l8 + (1 : Int32)) fun x13 => J 2 l3 l4 l5 x11 l7 x13 s12)
noncomputable def S_X5_pass (b1 : Nat) (n : Nat) (J : Nat → Int32 → Int32 → Int32 → Int32 → Int32 → Int32 → St → Option (Unit × St)) : Nat → Int32 → Int32 → Int32 → Int32 → Int32 → Int32 → St → Option (Unit × St) := fun lb a0 a1 a2 a3 a4 a5 σ => match lb with
  | 1 => B_X5_pass_1 J n b1 a0 a1 a2 a3 a4 σ
  | 2 => B_X5_pass_2 J n b1 a0 a1 a2 a3 a4 a5 σ
  | _ => none
noncomputable def L_X5_pass (b1 : Nat) (n : Nat) : Nat → Int32 → Int32 → Int32 → Int32 → Int32 → Int32 → St → Option (Unit × St) := Nat.rec (fun _ _ _ _ _ _ _ _ => none) (fun n J => S_X5_pass b1 n J) n
noncomputable def F_X5_pass (n : Nat) (b1 : Nat) (p2 : Int32) (p3 : Int32) (p4 : Int32) (p5 : Int32) (σ : St) : Option (Unit × St) := bnd (sI σ 23 2 (0 : Int32)) fun s1 => bnd (sI s1 23 3 (0 : Int32)) fun s2 => bnd (sI s2 23 4 (0 : Int32)) fun s3 => bd (F_X6_size n  s3) fun r5 s4 => if (2 : Int32) ≤ r5 then (L_X5_pass b1 n 1 p3 p4 p5 p2 (0 : Int32) 0 s4) else (some ((), s4))
set_option maxHeartbeats 4000000 in
set_option maxRecDepth 20000 in
theorem t_X5_pass (l : Launch) {p : Program} {e : Env} {s : State} {m : MethodId} {args : Array Value} {below : List Frame} {meth : Method} {c : Code} {D : va_G} {A : Nat → Prop} {ad : Nat → Nat} {dA : Nat → ClassId} (b1 : Nat) (hb1 : isB b1) (K : Cx p s m args meth c cX5_pass 9 none RX5 D (tysX dA) (wdX ad dA) A) {res : Unit × St} (n : Nat) : (∀ (l3 : Int32) (l4 : Int32) (l5 : Int32) (l6 : Int32) (l7 : Int32) (σ : St), L_X5_pass b1 n 1 l3 l4 l5 l6 l7 0 σ = some res → V p l e (rmH 5) s m args below meth c 9 D (wdX ad dA) A (MQ below (QV D (wdX ad dA) A res) args s 0 0 A) 36 [(0, .ref (ad 23)), (1, .ref (ad b1)), (3, .int l3), (4, .int l4), (5, .int l5), (6, .int l6), (7, .int l7)] [] σ) ∧ (∀ (l3 : Int32) (l4 : Int32) (l5 : Int32) (l6 : Int32) (l7 : Int32) (l8 : Int32) (σ : St), L_X5_pass b1 n 2 l3 l4 l5 l6 l7 l8 σ = some res → V p l e (rmH 5) s m args below meth c 9 D (wdX ad dA) A (MQ below (QV D (wdX ad dA) A res) args s 0 0 A) 53 [(0, .ref (ad 23)), (1, .ref (ad b1)), (3, .int l3), (4, .int l4), (5, .int l5), (6, .int l6), (7, .int l7), (8, .int l8)] [] σ) := by
  induction n with
  | zero => exact ⟨fun _ _ _ _ _ _ h => (by cases h), fun _ _ _ _ _ _ _ h => (by cases h)⟩
  | succ n ih =>
    obtain ⟨ih_1, ih_2⟩ := ih
    refine ⟨?_, ?_⟩
    · intro l3 l4 l5 l6 l7 σ hM
      have hM : B_X5_pass_1 (L_X5_pass b1 n) n b1 l3 l4 l5 l6 l7 σ = some res := hM
      refine v_iload K dX5_pass_36 6 rfl ?_
      refine v_iload_n K dX5_pass_38 2 rfl ?_
      refine v_icmp_ge K 107 dX5_pass_39 (by decide) hM (fun hM => ?_) (fun hM => ?_)
      · exact v_vret K rfl dX5_pass_107 hM
      · refine v_aload_n K dX5_pass_42 0 rfl ?_
        refine g_X5_1 K qf_X5_12 dX5_pass_43 ?_
        refine v_aload_n K dX5_pass_46 1 rfl ?_
        refine x_Vv (As := [.ref (ad b1)]) (st := []) K uv_X1_copyFrom qm_X5_44 dX5_pass_47 (rv_X1 isB_61) (fun _ h => c_X1_copyFrom l 61 isB_61 b1 hb1 n  σ h) rfl ⟨(Nat.le_of_ble_eq_true rfl), (Nat.le_of_ble_eq_true rfl)⟩ (Nat.le_of_ble_eq_true rfl) hM (fun s6 hM => ?_)
        refine v_iconst (v := (0 : Int32)) K dX5_pass_50 (by decide) ?_
        refine v_istore K dX5_pass_51 (by decide) [(8, .int (0 : Int32)), (0, .ref (ad 23)), (1, .ref (ad b1)), (3, .int l3), (4, .int l4), (5, .int l5), (6, .int l6), (7, .int l7)] rfl ?_
        exact v_sub [1, 2, 3, 4, 5, 6, 7, 0] rfl (ih_2 l3 l4 l5 l6 l7 (0 : Int32) s6 hM)
    · intro l3 l4 l5 l6 l7 l8 σ hM
      have hM : B_X5_pass_2 (L_X5_pass b1 n) n b1 l3 l4 l5 l6 l7 l8 σ = some res := hM
      refine v_iload K dX5_pass_53 7 rfl ?_
      refine v_iload K dX5_pass_55 3 rfl ?_
      refine v_icmp_ge K 85 dX5_pass_57 (by decide) hM (fun hM => ?_) (fun hM => ?_)
      · refine v_aload_n K dX5_pass_85 0 rfl ?_
        refine v_dup K dX5_pass_86 rfl ?_
        refine g_X5_4 K qf_X5_25 dX5_pass_87 ?_
        refine v_aload_n K dX5_pass_90 0 rfl ?_
        refine g_X5_1 K qf_X5_12 dX5_pass_91 ?_
        refine x_Vi (As := []) (st := [.int (gI σ 23 4), .ref (ad 23)]) K uv_X1_howManyBound qm_X5_53 dX5_pass_94 (rv_X1 isB_61) (fun _ h => c_X1_howManyBound l 61 isB_61 n  σ h) rfl ⟨(Nat.le_of_ble_eq_true rfl), (Nat.le_of_ble_eq_true rfl)⟩ (Nat.le_of_ble_eq_true rfl) hM (fun r8 s7 hM => ?_)
        refine v_iadd K dX5_pass_97 ?_
        refine p_X5_4 K qf_X5_25 dX5_pass_98 hM (fun s9 hM => ?_)
        refine v_iinc K dX5_pass_101 6 rfl (v := (l7 + (1 : Int32))) rfl (by decide) hM (fun y => [(7, .int y), (0, .ref (ad 23)), (1, .ref (ad b1)), (3, .int l3), (4, .int l4), (5, .int l5), (6, .int l6), (8, .int l8)]) (fun _ => rfl) (fun x10 hM => ?_)
        refine v_goto (tgt := 36) K dX5_pass_104 (by decide) ?_
        exact v_sub [1, 2, 3, 4, 5, 6, 0] rfl (ih_1 l3 l4 l5 l6 x10 s9 hM)
      · refine v_iload K dX5_pass_60 5 rfl ?_
        refine v_ldc (v := (1103515245 : Int32)) K qc_X5_48 dX5_pass_62 ?_
        refine v_imul K dX5_pass_64 ?_
        refine v_sipush (v := (12345 : Int32)) K dX5_pass_65 (by decide) ?_
        refine v_iadd K dX5_pass_68 ?_
        refine v_topi hM (fun x11 hM => ?_)
        refine v_istore K dX5_pass_69 (by decide) [(6, .int x11), (0, .ref (ad 23)), (1, .ref (ad b1)), (3, .int l3), (4, .int l4), (5, .int l5), (7, .int l7), (8, .int l8)] rfl ?_
        refine v_aload_n K dX5_pass_71 1 rfl ?_
        refine v_iload K dX5_pass_72 0 rfl ?_
        refine v_iload K dX5_pass_74 5 rfl ?_
        refine x_Vv (As := [.int x11, .int l5]) (st := []) K uv_X5_drawCase qm_X5_49 dX5_pass_76 rv_X5 (fun _ h => c_X5_drawCase l  n x11 l5 σ h) rfl ⟨(Nat.le_of_ble_eq_true rfl), (Nat.le_of_ble_eq_true rfl)⟩ (Nat.le_of_ble_eq_true rfl) hM (fun s12 hM => ?_)
        refine v_iinc K dX5_pass_79 7 rfl (v := (l8 + (1 : Int32))) rfl (by decide) hM (fun y => [(8, .int y), (6, .int x11), (0, .ref (ad 23)), (1, .ref (ad b1)), (3, .int l3), (4, .int l4), (5, .int l5), (7, .int l7)]) (fun _ => rfl) (fun x13 hM => ?_)
        refine v_goto (tgt := 53) K dX5_pass_82 (by decide) ?_
        exact v_sub [2, 3, 4, 5, 6, 1, 7, 0] rfl (ih_2 l3 l4 l5 x11 l7 x13 s12 hM)
set_option maxHeartbeats 4000000 in
set_option maxRecDepth 20000 in
theorem c_X5_pass (l : Launch) {D : va_G} {A : Nat → Prop} {ad : Nat → Nat} {dA : Nat → ClassId} (b1 : Nat) (hb1 : isB b1) (n : Nat) (p2 : Int32) (p3 : Int32) (p4 : Int32) (p5 : Int32) (σ : St) {res : Unit × St} (hM : F_X5_pass n b1 p2 p3 p4 p5 σ = some res) : MI l yX5_pass cX5_pass 9 none 5 D (tysX dA) (wdX ad dA) A [.ref (ad 23), .ref (ad b1), .int p2, .int p3, .int p4, .int p5] σ (QV D (wdX ad dA) A res) := by
  refine mk_met (by decide +kernel) (Nat.le_of_ble_eq_true rfl) (fun p e s m below meth c K => ?_)
  have K : Cx p s m _ meth c cX5_pass 9 none RX5 D (tysX dA) (wdX ad dA) A := K
  obtain ⟨ih_1, ih_2⟩ := t_X5_pass l b1 hb1  K (res := res) n (below := below) (e := e)
  refine v_aload_n K dX5_pass_0 0 rfl ?_
  refine v_iconst (v := (0 : Int32)) K dX5_pass_1 (by decide) ?_
  refine p_X5_2 K qf_X5_18 dX5_pass_2 hM (fun s1 hM => ?_)
  refine v_aload_n K dX5_pass_5 0 rfl ?_
  refine v_iconst (v := (0 : Int32)) K dX5_pass_6 (by decide) ?_
  refine p_X5_3 K qf_X5_22 dX5_pass_7 hM (fun s2 hM => ?_)
  refine v_aload_n K dX5_pass_10 0 rfl ?_
  refine v_iconst (v := (0 : Int32)) K dX5_pass_11 (by decide) ?_
  refine p_X5_4 K qf_X5_25 dX5_pass_12 hM (fun s3 hM => ?_)
  refine v_aload_n K dX5_pass_15 0 rfl ?_
  refine g_X5_0 K qf_X5_28 dX5_pass_16 ?_
  refine x_Vr (As := []) (st := []) K uv_X3_folk qm_X5_32 dX5_pass_19 rv_X3 (c_X3_folk l s3) rfl ⟨(Nat.le_of_ble_eq_true rfl), (Nat.le_of_ble_eq_true rfl)⟩ (Nat.le_of_ble_eq_true rfl) ?_
  refine x_Vi (As := []) (st := []) K uv_X6_size qm_X5_38 dX5_pass_22 rv_X6 (fun _ h => c_X6_size l  n  s3 h) rfl ⟨(Nat.le_of_ble_eq_true rfl), (Nat.le_of_ble_eq_true rfl)⟩ (Nat.le_of_ble_eq_true rfl) hM (fun r5 s4 hM => ?_)
  refine v_iconst (v := (2 : Int32)) K dX5_pass_25 (by decide) ?_
  refine v_icmp_ge K 30 dX5_pass_26 (by decide) hM (fun hM => ?_) (fun hM => ?_)
  · refine v_iload_n K dX5_pass_30 2 rfl ?_
    refine v_istore K dX5_pass_31 (by decide) [(6, .int p2), (0, .ref (ad 23)), (1, .ref (ad b1)), (2, .int p2), (3, .int p3), (4, .int p4), (5, .int p5)] rfl ?_
    refine v_iconst (v := (0 : Int32)) K dX5_pass_33 (by decide) ?_
    refine v_istore K dX5_pass_34 (by decide) [(7, .int (0 : Int32)), (6, .int p2), (0, .ref (ad 23)), (1, .ref (ad b1)), (2, .int p2), (3, .int p3), (4, .int p4), (5, .int p5)] rfl ?_
    exact v_sub [2, 3, 5, 6, 7, 1, 0] rfl (ih_1 p3 p4 p5 p2 (0 : Int32) s4 hM)
  · exact v_vret K rfl dX5_pass_29 hM
noncomputable def F_X5_heard (n : Nat)  (σ : St) : Option (Int32 × St) := some ((gI σ 23 2), σ)
set_option maxHeartbeats 4000000 in
set_option maxRecDepth 20000 in
theorem c_X5_heard (l : Launch) {D : va_G} {A : Nat → Prop} {ad : Nat → Nat} {dA : Nat → ClassId}  (n : Nat)  (σ : St) {res : Int32 × St} (hM : F_X5_heard n  σ = some res) : MI l yX5_heard cX5_heard 1 (some .int) 1 D (tysX dA) (wdX ad dA) A [.ref (ad 23)] σ (QI D (wdX ad dA) A res) := by
  refine mk_met (by decide +kernel) (Nat.le_of_ble_eq_true rfl) (fun p e s m below meth c K => ?_)
  have K : Cx p s m _ meth c cX5_heard 1 (some .int) RX5 D (tysX dA) (wdX ad dA) A := K
  refine v_aload_n K dX5_heard_0 0 rfl ?_
  refine g_X5_2 K qf_X5_18 dX5_heard_1 ?_
  exact v_iret K rfl dX5_heard_4 hM
noncomputable def F_X5_wonByOne (n : Nat)  (σ : St) : Option (Int32 × St) := some ((gI σ 23 3), σ)
set_option maxHeartbeats 4000000 in
set_option maxRecDepth 20000 in
theorem c_X5_wonByOne (l : Launch) {D : va_G} {A : Nat → Prop} {ad : Nat → Nat} {dA : Nat → ClassId}  (n : Nat)  (σ : St) {res : Int32 × St} (hM : F_X5_wonByOne n  σ = some res) : MI l yX5_wonByOne cX5_wonByOne 1 (some .int) 1 D (tysX dA) (wdX ad dA) A [.ref (ad 23)] σ (QI D (wdX ad dA) A res) := by
  refine mk_met (by decide +kernel) (Nat.le_of_ble_eq_true rfl) (fun p e s m below meth c K => ?_)
  have K : Cx p s m _ meth c cX5_wonByOne 1 (some .int) RX5 D (tysX dA) (wdX ad dA) A := K
  refine v_aload_n K dX5_wonByOne_0 0 rfl ?_
  refine g_X5_3 K qf_X5_22 dX5_wonByOne_1 ?_
  exact v_iret K rfl dX5_wonByOne_4 hM
noncomputable def F_X5_boundAtEnds (n : Nat)  (σ : St) : Option (Int32 × St) := some ((gI σ 23 4), σ)
set_option maxHeartbeats 4000000 in
set_option maxRecDepth 20000 in
theorem c_X5_boundAtEnds (l : Launch) {D : va_G} {A : Nat → Prop} {ad : Nat → Nat} {dA : Nat → ClassId}  (n : Nat)  (σ : St) {res : Int32 × St} (hM : F_X5_boundAtEnds n  σ = some res) : MI l yX5_boundAtEnds cX5_boundAtEnds 1 (some .int) 1 D (tysX dA) (wdX ad dA) A [.ref (ad 23)] σ (QI D (wdX ad dA) A res) := by
  refine mk_met (by decide +kernel) (Nat.le_of_ble_eq_true rfl) (fun p e s m below meth c K => ?_)
  have K : Cx p s m _ meth c cX5_boundAtEnds 1 (some .int) RX5 D (tysX dA) (wdX ad dA) A := K
  refine v_aload_n K dX5_boundAtEnds_0 0 rfl ?_
  refine g_X5_4 K qf_X5_25 dX5_boundAtEnds_1 ?_
  exact v_iret K rfl dX5_boundAtEnds_4 hM
noncomputable def F_X9_reach (n : Nat) (b1 : Nat) (p2 : Int32) (σ : St) : Option (Unit × St) := bd (F_X1_toCode n b1 σ) fun r2 s1 => if r2 < 0 then (some ((), s1)) else (if (625 : Int32) ≤ r2 then (some ((), s1)) else (gd (vp_in r2 625) (gd (vp_in r2 625) (bnd (sI s1 15 (r2).toNatClampNeg ((gI s1 15 (r2).toNatClampNeg) ||| ((1 : Int32) <<< (p2 &&& 31)))) fun s3 => some ((), s3)))))
set_option maxHeartbeats 4000000 in
set_option maxRecDepth 20000 in
theorem c_X9_reach (l : Launch) {D : va_G} {A : Nat → Prop} {ad : Nat → Nat} {dA : Nat → ClassId} (b1 : Nat) (hb1 : isB b1) (n : Nat) (p2 : Int32) (σ : St) {res : Unit × St} (hM : F_X9_reach n b1 p2 σ = some res) : MI l yX9_reach cX9_reach 4 none 2 D (tysX dA) (wdX ad dA) A [.ref (ad 14), .ref (ad b1), .int p2] σ (QV D (wdX ad dA) A res) := by
  refine mk_met (by decide +kernel) (Nat.le_of_ble_eq_true rfl) (fun p e s m below meth c K => ?_)
  have K : Cx p s m _ meth c cX9_reach 4 none RX9 D (tysX dA) (wdX ad dA) A := K
  refine v_aload_n K dX9_reach_0 1 rfl ?_
  refine x_Vi (As := []) (st := []) K uv_X1_toCode qm_X9_56 dX9_reach_1 (rv_X1 hb1) (fun _ h => c_X1_toCode l b1 hb1 n  σ h) rfl ⟨(Nat.le_of_ble_eq_true rfl), (Nat.le_of_ble_eq_true rfl)⟩ (Nat.le_of_ble_eq_true rfl) hM (fun r2 s1 hM => ?_)
  refine v_istore_n K dX9_reach_4 rfl (by decide) [(3, .int r2), (0, .ref (ad 14)), (1, .ref (ad b1)), (2, .int p2)] rfl ?_
  refine v_iload_n K dX9_reach_5 0 rfl ?_
  refine v_if_lt K 28 dX9_reach_6 (by decide) hM (fun hM => ?_) (fun hM => ?_)
  · exact v_vret K rfl dX9_reach_28 hM
  · refine v_iload_n K dX9_reach_9 0 rfl ?_
    refine v_sipush (v := (625 : Int32)) K dX9_reach_10 (by decide) ?_
    refine v_icmp_ge K 28 dX9_reach_13 (by decide) hM (fun hM => ?_) (fun hM => ?_)
    · exact v_vret K rfl dX9_reach_28 hM
    · refine v_aload_n K dX9_reach_16 1 rfl ?_
      refine g_X9_1 K qf_X9_11 dX9_reach_17 ?_
      refine v_iload_n K dX9_reach_20 0 rfl ?_
      refine v_dup2 K dX9_reach_21 rfl rfl ?_
      refine ld_X15 K dX9_reach_22 hM (fun hM => ?_)
      refine v_iconst (v := (1 : Int32)) K dX9_reach_23 (by decide) ?_
      refine v_iload_n K dX9_reach_24 3 rfl ?_
      refine v_ishl K dX9_reach_25 ?_
      refine v_ior K dX9_reach_26 ?_
      refine st_X15 K dX9_reach_27 hM (fun s3 hM => ?_)
      exact v_vret K rfl dX9_reach_28 hM
noncomputable def B_X9_begin_1 (J : Nat → Int32 → St → Option (Unit × St)) (n : Nat) (b1 : Nat) (l2 : Int32) (σ : St) : Option (Unit × St) := if (625 : Int32) ≤ l2 then (bd (F_X9_reach n b1 (0 : Int32) σ) fun _ s1 => some ((), s1)) else (gd (vp_in l2 625) (bnd (sI σ 15 (l2).toNatClampNeg (0 : Int32)) fun s2 => bnd (l2 + (1 : Int32)) fun x3 => J 1 x3 s2))
noncomputable def S_X9_begin (b1 : Nat) (n : Nat) (J : Nat → Int32 → St → Option (Unit × St)) : Nat → Int32 → St → Option (Unit × St) := fun lb a0 σ => match lb with
  | 1 => B_X9_begin_1 J n b1 a0 σ
  | _ => none
noncomputable def L_X9_begin (b1 : Nat) (n : Nat) : Nat → Int32 → St → Option (Unit × St) := Nat.rec (fun _ _ _ => none) (fun n J => S_X9_begin b1 n J) n
noncomputable def F_X9_begin (n : Nat) (b1 : Nat) (σ : St) : Option (Unit × St) := L_X9_begin b1 n 1 (0 : Int32) σ
set_option maxHeartbeats 4000000 in
set_option maxRecDepth 20000 in
theorem t_X9_begin (l : Launch) {p : Program} {e : Env} {s : State} {m : MethodId} {args : Array Value} {below : List Frame} {meth : Method} {c : Code} {D : va_G} {A : Nat → Prop} {ad : Nat → Nat} {dA : Nat → ClassId} (b1 : Nat) (hb1 : isB b1) (K : Cx p s m args meth c cX9_begin 3 none RX9 D (tysX dA) (wdX ad dA) A) {res : Unit × St} (n : Nat) : (∀ (l2 : Int32) (σ : St), L_X9_begin b1 n 1 l2 σ = some res → V p l e (rmH 3) s m args below meth c 3 D (wdX ad dA) A (MQ below (QV D (wdX ad dA) A res) args s 0 0 A) 2 [(0, .ref (ad 14)), (1, .ref (ad b1)), (2, .int l2)] [] σ) := by
  induction n with
  | zero => exact (fun _ _ h => (by cases h))
  | succ n ih =>
    have ih_1 := ih
    · intro l2 σ hM
      have hM : B_X9_begin_1 (L_X9_begin b1 n) n b1 l2 σ = some res := hM
      refine v_iload_n K dX9_begin_2 2 rfl ?_
      refine v_sipush (v := (625 : Int32)) K dX9_begin_3 (by decide) ?_
      refine v_icmp_ge K 22 dX9_begin_6 (by decide) hM (fun hM => ?_) (fun hM => ?_)
      · refine v_aload_n K dX9_begin_22 0 rfl ?_
        refine v_aload_n K dX9_begin_23 1 rfl ?_
        refine v_iconst (v := (0 : Int32)) K dX9_begin_24 (by decide) ?_
        refine x_Vv (As := [.ref (ad b1), .int (0 : Int32)]) (st := []) K uv_X9_reach qm_X9_63 dX9_begin_25 rv_X9 (fun _ h => c_X9_reach l b1 hb1 n (0 : Int32) σ h) rfl ⟨(Nat.le_of_ble_eq_true rfl), (Nat.le_of_ble_eq_true rfl)⟩ (Nat.le_of_ble_eq_true rfl) hM (fun s1 hM => ?_)
        exact v_vret K rfl dX9_begin_28 hM
      · refine v_aload_n K dX9_begin_9 0 rfl ?_
        refine g_X9_1 K qf_X9_11 dX9_begin_10 ?_
        refine v_iload_n K dX9_begin_13 2 rfl ?_
        refine v_iconst (v := (0 : Int32)) K dX9_begin_14 (by decide) ?_
        refine st_X15 K dX9_begin_15 hM (fun s2 hM => ?_)
        refine v_iinc K dX9_begin_16 2 rfl (v := (l2 + (1 : Int32))) rfl (by decide) hM (fun y => [(2, .int y), (0, .ref (ad 14)), (1, .ref (ad b1))]) (fun _ => rfl) (fun x3 hM => ?_)
        refine v_goto (tgt := 2) K dX9_begin_19 (by decide) ?_
        exact v_sub [1, 2, 0] rfl (ih_1 x3 s2 hM)
set_option maxHeartbeats 4000000 in
set_option maxRecDepth 20000 in
theorem c_X9_begin (l : Launch) {D : va_G} {A : Nat → Prop} {ad : Nat → Nat} {dA : Nat → ClassId} (b1 : Nat) (hb1 : isB b1) (n : Nat)  (σ : St) {res : Unit × St} (hM : F_X9_begin n b1 σ = some res) : MI l yX9_begin cX9_begin 3 none 3 D (tysX dA) (wdX ad dA) A [.ref (ad 14), .ref (ad b1)] σ (QV D (wdX ad dA) A res) := by
  refine mk_met (by decide +kernel) (Nat.le_of_ble_eq_true rfl) (fun p e s m below meth c K => ?_)
  have K : Cx p s m _ meth c cX9_begin 3 none RX9 D (tysX dA) (wdX ad dA) A := K
  have ih_1 := t_X9_begin l b1 hb1  K (res := res) n (below := below) (e := e)
  refine v_iconst (v := (0 : Int32)) K dX9_begin_0 (by decide) ?_
  refine v_istore_n K dX9_begin_1 rfl (by decide) [(2, .int (0 : Int32)), (0, .ref (ad 14)), (1, .ref (ad b1))] rfl ?_
  exact v_sub [1, 2, 0] rfl (ih_1 (0 : Int32) σ hM)
noncomputable def F_X9_isReached (n : Nat) (p1 : Int32) (p2 : Int32) (σ : St) : Option (Int32 × St) := if p1 < 0 then (some ((0 : Int32), σ)) else (if (625 : Int32) ≤ p1 then (some ((0 : Int32), σ)) else (gd (vp_in p1 625) (if (((gI σ 15 (p1).toNatClampNeg) >>> (p2 &&& 31)) &&& (1 : Int32)) = (1 : Int32) then (some ((1 : Int32), σ)) else (some ((0 : Int32), σ)))))
set_option maxHeartbeats 4000000 in
set_option maxRecDepth 20000 in
theorem c_X9_isReached (l : Launch) {D : va_G} {A : Nat → Prop} {ad : Nat → Nat} {dA : Nat → ClassId}  (n : Nat) (p1 : Int32) (p2 : Int32) (σ : St) {res : Int32 × St} (hM : F_X9_isReached n p1 p2 σ = some res) : MI l yX9_isReached cX9_isReached 3 (some .boolean) 1 D (tysX dA) (wdX ad dA) A [.ref (ad 14), .int p1, .int p2] σ (QI D (wdX ad dA) A res) := by
  refine mk_met (by decide +kernel) (Nat.le_of_ble_eq_true rfl) (fun p e s m below meth c K => ?_)
  have K : Cx p s m _ meth c cX9_isReached 3 (some .boolean) RX9 D (tysX dA) (wdX ad dA) A := K
  refine v_iload_n K dX9_isReached_0 1 rfl ?_
  refine v_if_lt K 29 dX9_isReached_1 (by decide) hM (fun hM => ?_) (fun hM => ?_)
  · refine v_iconst (v := (0 : Int32)) K dX9_isReached_29 (by decide) ?_
    exact v_zret K rfl rfl dX9_isReached_30 hM
  · refine v_iload_n K dX9_isReached_4 1 rfl ?_
    refine v_sipush (v := (625 : Int32)) K dX9_isReached_5 (by decide) ?_
    refine v_icmp_ge K 29 dX9_isReached_8 (by decide) hM (fun hM => ?_) (fun hM => ?_)
    · refine v_iconst (v := (0 : Int32)) K dX9_isReached_29 (by decide) ?_
      exact v_zret K rfl rfl dX9_isReached_30 hM
    · refine v_aload_n K dX9_isReached_11 0 rfl ?_
      refine g_X9_1 K qf_X9_11 dX9_isReached_12 ?_
      refine v_iload_n K dX9_isReached_15 1 rfl ?_
      refine ld_X15 K dX9_isReached_16 hM (fun hM => ?_)
      refine v_iload_n K dX9_isReached_17 2 rfl ?_
      refine v_ishr K dX9_isReached_18 ?_
      refine v_iconst (v := (1 : Int32)) K dX9_isReached_19 (by decide) ?_
      refine v_iand K dX9_isReached_20 ?_
      refine v_iconst (v := (1 : Int32)) K dX9_isReached_21 (by decide) ?_
      refine v_icmp_ne K 29 dX9_isReached_22 (by decide) hM (fun hM => ?_) (fun hM => ?_)
      · refine v_iconst (v := (0 : Int32)) K dX9_isReached_29 (by decide) ?_
        exact v_zret K rfl rfl dX9_isReached_30 hM
      · refine v_iconst (v := (1 : Int32)) K dX9_isReached_25 (by decide) ?_
        refine v_goto (tgt := 30) K dX9_isReached_26 (by decide) ?_
        exact v_zret K rfl rfl dX9_isReached_30 hM
noncomputable def B_X9_twelfthsGiven_1 (J : Nat → Int32 → Int32 → St → Option (Int32 × St)) (n : Nat)  (l1 : Int32) (l2 : Int32) (σ : St) : Option (Int32 × St) := bd (F_X3_twelfths n 43 l1 l2 σ) fun r11 s10 => some (r11, s10)
noncomputable def S_X9_twelfthsGiven  (n : Nat) (J : Nat → Int32 → Int32 → St → Option (Int32 × St)) : Nat → Int32 → Int32 → St → Option (Int32 × St) := fun lb a0 a1 σ => match lb with
  | 1 => B_X9_twelfthsGiven_1 J n  a0 a1 σ
  | _ => none
noncomputable def L_X9_twelfthsGiven  (n : Nat) : Nat → Int32 → Int32 → St → Option (Int32 × St) := Nat.rec (fun _ _ _ _ => none) (fun n J => S_X9_twelfthsGiven  n J) n
noncomputable def F_X9_twelfthsGiven (n : Nat) (p1 : Int32) (p2 : Int32) (σ : St) : Option (Int32 × St) := bd (F_X1_speakerFor n 43 p2 σ) fun r2 s1 => bnd ((((p1 * (4 : Int32)) + p2) * (4 : Int32)) + r2) fun x3 => bd (F_X1_howManyBound n 43 s1) fun r5 s4 => bnd ((x3 * (5 : Int32)) + r5) fun x6 => if x6 < 0 then (L_X9_twelfthsGiven  n 1 p1 p2 s4) else (if x6 < (320 : Int32) then (gd (vp_in x6 320) (if (gI s4 16 (x6).toNatClampNeg) = (-2 : Int32) then (bd (F_X3_twelfths n 43 p1 p2 s4) fun r8 s7 => gd (vp_in x6 320) (bnd (sI s7 16 (x6).toNatClampNeg r8) fun s9 => gd (vp_in x6 320) (some ((gI s9 16 (x6).toNatClampNeg), s9)))) else (gd (vp_in x6 320) (some ((gI s4 16 (x6).toNatClampNeg), s4))))) else (L_X9_twelfthsGiven  n 1 p1 p2 s4))
set_option maxHeartbeats 4000000 in
set_option maxRecDepth 20000 in
theorem t_X9_twelfthsGiven (l : Launch) {p : Program} {e : Env} {s : State} {m : MethodId} {args : Array Value} {below : List Frame} {meth : Method} {c : Code} {D : va_G} {A : Nat → Prop} {ad : Nat → Nat} {dA : Nat → ClassId}   (K : Cx p s m args meth c cX9_twelfthsGiven 5 (some .int) RX9 D (tysX dA) (wdX ad dA) A) {res : Int32 × St} (n : Nat) : (∀ (l1 : Int32) (l2 : Int32) (σ : St), L_X9_twelfthsGiven  n 1 l1 l2 σ = some res → V p l e (rmH 4) s m args below meth c 5 D (wdX ad dA) A (MQ below (QI D (wdX ad dA) A res) args s 0 0 A) 43 [(0, .ref (ad 14)), (1, .int l1), (2, .int l2)] [] σ) := by
  induction n with
  | zero => exact (fun _ _ _ h => (by cases h))
  | succ n ih =>
    have ih_1 := ih
    · intro l1 l2 σ hM
      have hM : B_X9_twelfthsGiven_1 (L_X9_twelfthsGiven  n) n  l1 l2 σ = some res := hM
      refine v_aload_n K dX9_twelfthsGiven_43 0 rfl ?_
      refine g_X9_0 K qf_X9_32 dX9_twelfthsGiven_44 ?_
      refine v_aload_n K dX9_twelfthsGiven_47 0 rfl ?_
      refine g_X9_3 K qf_X9_21 dX9_twelfthsGiven_48 ?_
      refine v_iload_n K dX9_twelfthsGiven_51 1 rfl ?_
      refine v_iload_n K dX9_twelfthsGiven_52 2 rfl ?_
      refine x_Vi (As := [.ref (ad 43), .int l1, .int l2]) (st := []) K uv_X3_twelfths qm_X9_110 dX9_twelfthsGiven_53 rv_X3 (fun _ h => c_X3_twelfths l 43 isB_43 n l1 l2 σ h) rfl ⟨(Nat.le_of_ble_eq_true rfl), (Nat.le_of_ble_eq_true rfl)⟩ (Nat.le_of_ble_eq_true rfl) hM (fun r11 s10 hM => ?_)
      exact v_iret K rfl dX9_twelfthsGiven_56 hM
set_option maxHeartbeats 4000000 in
set_option maxRecDepth 20000 in
theorem c_X9_twelfthsGiven (l : Launch) {D : va_G} {A : Nat → Prop} {ad : Nat → Nat} {dA : Nat → ClassId}  (n : Nat) (p1 : Int32) (p2 : Int32) (σ : St) {res : Int32 × St} (hM : F_X9_twelfthsGiven n p1 p2 σ = some res) : MI l yX9_twelfthsGiven cX9_twelfthsGiven 5 (some .int) 4 D (tysX dA) (wdX ad dA) A [.ref (ad 14), .int p1, .int p2] σ (QI D (wdX ad dA) A res) := by
  refine mk_met (by decide +kernel) (Nat.le_of_ble_eq_true rfl) (fun p e s m below meth c K => ?_)
  have K : Cx p s m _ meth c cX9_twelfthsGiven 5 (some .int) RX9 D (tysX dA) (wdX ad dA) A := K
  have ih_1 := t_X9_twelfthsGiven l    K (res := res) n (below := below) (e := e)
  refine v_iload_n K dX9_twelfthsGiven_0 1 rfl ?_
  refine v_iconst (v := (4 : Int32)) K dX9_twelfthsGiven_1 (by decide) ?_
  refine v_imul K dX9_twelfthsGiven_2 ?_
  refine v_iload_n K dX9_twelfthsGiven_3 2 rfl ?_
  refine v_iadd K dX9_twelfthsGiven_4 ?_
  refine v_iconst (v := (4 : Int32)) K dX9_twelfthsGiven_5 (by decide) ?_
  refine v_imul K dX9_twelfthsGiven_6 ?_
  refine v_aload_n K dX9_twelfthsGiven_7 0 rfl ?_
  refine g_X9_3 K qf_X9_21 dX9_twelfthsGiven_8 ?_
  refine v_iload_n K dX9_twelfthsGiven_11 2 rfl ?_
  refine x_Vi (As := [.int p2]) (st := [.int (((p1 * (4 : Int32)) + p2) * (4 : Int32))]) K uv_X1_speakerFor qm_X9_104 dX9_twelfthsGiven_12 (rv_X1 isB_43) (fun _ h => c_X1_speakerFor l 43 isB_43 n p2 σ h) rfl ⟨(Nat.le_of_ble_eq_true rfl), (Nat.le_of_ble_eq_true rfl)⟩ (Nat.le_of_ble_eq_true rfl) hM (fun r2 s1 hM => ?_)
  refine v_iadd K dX9_twelfthsGiven_15 ?_
  refine v_topi hM (fun x3 hM => ?_)
  refine v_istore_n K dX9_twelfthsGiven_16 rfl (by decide) [(3, .int x3), (0, .ref (ad 14)), (1, .int p1), (2, .int p2)] rfl ?_
  refine v_iload_n K dX9_twelfthsGiven_17 0 rfl ?_
  refine v_iconst (v := (5 : Int32)) K dX9_twelfthsGiven_18 (by decide) ?_
  refine v_imul K dX9_twelfthsGiven_19 ?_
  refine v_aload_n K dX9_twelfthsGiven_20 1 rfl ?_
  refine g_X9_3 K qf_X9_21 dX9_twelfthsGiven_21 ?_
  refine x_Vi (As := []) (st := [.int (x3 * (5 : Int32))]) K uv_X1_howManyBound qm_X9_107 dX9_twelfthsGiven_24 (rv_X1 isB_43) (fun _ h => c_X1_howManyBound l 43 isB_43 n  s1 h) rfl ⟨(Nat.le_of_ble_eq_true rfl), (Nat.le_of_ble_eq_true rfl)⟩ (Nat.le_of_ble_eq_true rfl) hM (fun r5 s4 hM => ?_)
  refine v_iadd K dX9_twelfthsGiven_27 ?_
  refine v_topi hM (fun x6 hM => ?_)
  refine v_istore K dX9_twelfthsGiven_28 (by decide) [(4, .int x6), (3, .int x3), (0, .ref (ad 14)), (1, .int p1), (2, .int p2)] rfl ?_
  refine v_iload K dX9_twelfthsGiven_30 0 rfl ?_
  refine v_if_lt K 43 dX9_twelfthsGiven_32 (by decide) hM (fun hM => ?_) (fun hM => ?_)
  · exact v_sub [2, 3, 4] rfl (ih_1 p1 p2 s4 hM)
  · refine v_iload K dX9_twelfthsGiven_35 0 rfl ?_
    refine v_sipush (v := (320 : Int32)) K dX9_twelfthsGiven_37 (by decide) ?_
    refine v_icmp_lt K 57 dX9_twelfthsGiven_40 (by decide) hM (fun hM => ?_) (fun hM => ?_)
    · refine v_aload_n K dX9_twelfthsGiven_57 2 rfl ?_
      refine g_X9_2 K qf_X9_15 dX9_twelfthsGiven_58 ?_
      refine v_iload K dX9_twelfthsGiven_61 0 rfl ?_
      refine ld_X16 K dX9_twelfthsGiven_63 hM (fun hM => ?_)
      refine v_bipush (v := (-2 : Int32)) K dX9_twelfthsGiven_64 (by decide) ?_
      refine v_icmp_ne K 89 dX9_twelfthsGiven_66 (by decide) hM (fun hM => ?_) (fun hM => ?_)
      · refine v_aload_n K dX9_twelfthsGiven_89 2 rfl ?_
        refine g_X9_2 K qf_X9_15 dX9_twelfthsGiven_90 ?_
        refine v_iload K dX9_twelfthsGiven_93 0 rfl ?_
        refine ld_X16 K dX9_twelfthsGiven_95 hM (fun hM => ?_)
        exact v_iret K rfl dX9_twelfthsGiven_96 hM
      · refine v_aload_n K dX9_twelfthsGiven_69 2 rfl ?_
        refine g_X9_2 K qf_X9_15 dX9_twelfthsGiven_70 ?_
        refine v_iload K dX9_twelfthsGiven_73 0 rfl ?_
        refine v_aload_n K dX9_twelfthsGiven_75 2 rfl ?_
        refine g_X9_0 K qf_X9_32 dX9_twelfthsGiven_76 ?_
        refine v_aload_n K dX9_twelfthsGiven_79 2 rfl ?_
        refine g_X9_3 K qf_X9_21 dX9_twelfthsGiven_80 ?_
        refine v_iload_n K dX9_twelfthsGiven_83 3 rfl ?_
        refine v_iload_n K dX9_twelfthsGiven_84 4 rfl ?_
        refine x_Vi (As := [.ref (ad 43), .int p1, .int p2]) (st := [.int x6, .ref (ad 16)]) K uv_X3_twelfths qm_X9_110 dX9_twelfthsGiven_85 rv_X3 (fun _ h => c_X3_twelfths l 43 isB_43 n p1 p2 s4 h) rfl ⟨(Nat.le_of_ble_eq_true rfl), (Nat.le_of_ble_eq_true rfl)⟩ (Nat.le_of_ble_eq_true rfl) hM (fun r8 s7 hM => ?_)
        refine st_X16 K dX9_twelfthsGiven_88 hM (fun s9 hM => ?_)
        refine v_aload_n K dX9_twelfthsGiven_89 2 rfl ?_
        refine g_X9_2 K qf_X9_15 dX9_twelfthsGiven_90 ?_
        refine v_iload K dX9_twelfthsGiven_93 0 rfl ?_
        refine ld_X16 K dX9_twelfthsGiven_95 hM (fun hM => ?_)
        exact v_iret K rfl dX9_twelfthsGiven_96 hM
    · exact v_sub [2, 3, 4] rfl (ih_1 p1 p2 s4 hM)
noncomputable def F_X9_lead (n : Nat) (p1 : Int32) (p2 : Int32) (p3 : Int32) (p4 : Int32) (σ : St) : Option (Unit × St) := bd (F_X1_copyFrom n 45 43 σ) fun _ s1 => bd (F_X1_settle n 45 p1 p2 p3 s1) fun _ s2 => bd (F_X9_reach n 45 (p4 + (1 : Int32)) s2) fun _ s3 => some ((), s3)
set_option maxHeartbeats 4000000 in
set_option maxRecDepth 20000 in
theorem c_X9_lead (l : Launch) {D : va_G} {A : Nat → Prop} {ad : Nat → Nat} {dA : Nat → ClassId}  (n : Nat) (p1 : Int32) (p2 : Int32) (p3 : Int32) (p4 : Int32) (σ : St) {res : Unit × St} (hM : F_X9_lead n p1 p2 p3 p4 σ = some res) : MI l yX9_lead cX9_lead 5 none 3 D (tysX dA) (wdX ad dA) A [.ref (ad 14), .int p1, .int p2, .int p3, .int p4] σ (QV D (wdX ad dA) A res) := by
  refine mk_met (by decide +kernel) (Nat.le_of_ble_eq_true rfl) (fun p e s m below meth c K => ?_)
  have K : Cx p s m _ meth c cX9_lead 5 none RX9 D (tysX dA) (wdX ad dA) A := K
  refine v_aload_n K dX9_lead_0 0 rfl ?_
  refine g_X9_4 K qf_X9_25 dX9_lead_1 ?_
  refine v_aload_n K dX9_lead_4 0 rfl ?_
  refine g_X9_3 K qf_X9_21 dX9_lead_5 ?_
  refine x_Vv (As := [.ref (ad 43)]) (st := []) K uv_X1_copyFrom qm_X9_97 dX9_lead_8 (rv_X1 isB_45) (fun _ h => c_X1_copyFrom l 45 isB_45 43 isB_43 n  σ h) rfl ⟨(Nat.le_of_ble_eq_true rfl), (Nat.le_of_ble_eq_true rfl)⟩ (Nat.le_of_ble_eq_true rfl) hM (fun s1 hM => ?_)
  refine v_aload_n K dX9_lead_11 0 rfl ?_
  refine g_X9_4 K qf_X9_25 dX9_lead_12 ?_
  refine v_iload_n K dX9_lead_15 1 rfl ?_
  refine v_iload_n K dX9_lead_16 2 rfl ?_
  refine v_iload_n K dX9_lead_17 3 rfl ?_
  refine x_Vv (As := [.int p1, .int p2, .int p3]) (st := []) K uv_X1_settle qm_X9_100 dX9_lead_18 (rv_X1 isB_45) (fun _ h => c_X1_settle l 45 isB_45 n p1 p2 p3 s1 h) rfl ⟨(Nat.le_of_ble_eq_true rfl), (Nat.le_of_ble_eq_true rfl)⟩ (Nat.le_of_ble_eq_true rfl) hM (fun s2 hM => ?_)
  refine v_aload_n K dX9_lead_21 0 rfl ?_
  refine v_aload_n K dX9_lead_22 0 rfl ?_
  refine g_X9_4 K qf_X9_25 dX9_lead_23 ?_
  refine v_iload K dX9_lead_26 4 rfl ?_
  refine v_iconst (v := (1 : Int32)) K dX9_lead_28 (by decide) ?_
  refine v_iadd K dX9_lead_29 ?_
  refine x_Vv (As := [.ref (ad 45), .int (p4 + (1 : Int32))]) (st := []) K uv_X9_reach qm_X9_63 dX9_lead_30 rv_X9 (fun _ h => c_X9_reach l 45 isB_45 n (p4 + (1 : Int32)) s2 h) rfl ⟨(Nat.le_of_ble_eq_true rfl), (Nat.le_of_ble_eq_true rfl)⟩ (Nat.le_of_ble_eq_true rfl) hM (fun s3 hM => ?_)
  exact v_vret K rfl dX9_lead_33 hM
noncomputable def B_X9_spreadFrom_1 (J : Nat → Int32 → Int32 → Int32 → Int32 → Int32 → St → Option (Unit × St)) (n : Nat)  (l1 : Int32) (l2 : Int32) (l3 : Int32) (σ : St) : Option (Unit × St) := if l2 ≤ l3 then (some ((), σ)) else (J 2 l1 l2 l3 (0 : Int32) 0 σ)
noncomputable def B_X9_spreadFrom_2 (J : Nat → Int32 → Int32 → Int32 → Int32 → Int32 → St → Option (Unit × St)) (n : Nat)  (l1 : Int32) (l2 : Int32) (l3 : Int32) (l4 : Int32) (σ : St) : Option (Unit × St) := if l2 ≤ l4 then (bnd (l3 + (1 : Int32)) fun x3 => J 1 l1 l2 x3 0 0 σ) else (if l3 = l4 then (bnd (l4 + (1 : Int32)) fun x4 => J 2 l1 l2 l3 x4 0 σ) else (bd (F_X1_isFree n 43 l3 σ) fun r6 s5 => if r6 = 0 then (bnd (l4 + (1 : Int32)) fun x7 => J 2 l1 l2 l3 x7 0 s5) else (bd (F_X9_twelfthsGiven n l3 l4 s5) fun r9 s8 => if r9 ≤ 0 then (J 3 l1 l2 l3 l4 r9 s8) else (bd (F_X9_lead n l3 l4 (1 : Int32) l1 s8) fun _ s10 => J 3 l1 l2 l3 l4 r9 s10))))
noncomputable def B_X9_spreadFrom_3 (J : Nat → Int32 → Int32 → Int32 → Int32 → Int32 → St → Option (Unit × St)) (n : Nat)  (l1 : Int32) (l2 : Int32) (l3 : Int32) (l4 : Int32) (l5 : Int32) (σ : St) : Option (Unit × St) := if (12 : Int32) ≤ l5 then (bnd (l4 + (1 : Int32)) fun x11 => J 2 l1 l2 l3 x11 0 σ) else (bd (F_X9_lead n l3 l4 (0 : Int32) l1 σ) fun _ s12 => bnd (l4 + (1 : Int32)) fun x13 => J 2 l1 l2 l3 x13 0 s12)
noncomputable def S_X9_spreadFrom  (n : Nat) (J : Nat → Int32 → Int32 → Int32 → Int32 → Int32 → St → Option (Unit × St)) : Nat → Int32 → Int32 → Int32 → Int32 → Int32 → St → Option (Unit × St) := fun lb a0 a1 a2 a3 a4 σ => match lb with
  | 1 => B_X9_spreadFrom_1 J n  a0 a1 a2 σ
  | 2 => B_X9_spreadFrom_2 J n  a0 a1 a2 a3 σ
  | 3 => B_X9_spreadFrom_3 J n  a0 a1 a2 a3 a4 σ
  | _ => none
noncomputable def L_X9_spreadFrom  (n : Nat) : Nat → Int32 → Int32 → Int32 → Int32 → Int32 → St → Option (Unit × St) := Nat.rec (fun _ _ _ _ _ _ _ => none) (fun n J => S_X9_spreadFrom  n J) n
noncomputable def F_X9_spreadFrom (n : Nat) (p1 : Int32) (σ : St) : Option (Unit × St) := bd (F_X6_size n  σ) fun r2 s1 => L_X9_spreadFrom  n 1 p1 r2 (0 : Int32) 0 0 s1
set_option maxHeartbeats 4000000 in
set_option maxRecDepth 20000 in
theorem t_X9_spreadFrom (l : Launch) {p : Program} {e : Env} {s : State} {m : MethodId} {args : Array Value} {below : List Frame} {meth : Method} {c : Code} {D : va_G} {A : Nat → Prop} {ad : Nat → Nat} {dA : Nat → ClassId}   (K : Cx p s m args meth c cX9_spreadFrom 6 none RX9 D (tysX dA) (wdX ad dA) A) {res : Unit × St} (n : Nat) : (∀ (l1 : Int32) (l2 : Int32) (l3 : Int32) (σ : St), L_X9_spreadFrom  n 1 l1 l2 l3 0 0 σ = some res → V p l e (rmH 5) s m args below meth c 6 D (wdX ad dA) A (MQ below (QV D (wdX ad dA) A res) args s 0 0 A) 13 [(0, .ref (ad 14)), (1, .int l1), (2, .int l2), (3, .int l3)] [] σ) ∧ (∀ (l1 : Int32) (l2 : Int32) (l3 : Int32) (l4 : Int32) (σ : St), L_X9_spreadFrom  n 2 l1 l2 l3 l4 0 σ = some res → V p l e (rmH 5) s m args below meth c 6 D (wdX ad dA) A (MQ below (QV D (wdX ad dA) A res) args s 0 0 A) 21 [(0, .ref (ad 14)), (1, .int l1), (2, .int l2), (3, .int l3), (4, .int l4)] [] σ) ∧ (∀ (l1 : Int32) (l2 : Int32) (l3 : Int32) (l4 : Int32) (l5 : Int32) (σ : St), L_X9_spreadFrom  n 3 l1 l2 l3 l4 l5 σ = some res → V p l e (rmH 5) s m args below meth c 6 D (wdX ad dA) A (MQ below (QV D (wdX ad dA) A res) args s 0 0 A) 67 [(0, .ref (ad 14)), (1, .int l1), (2, .int l2), (3, .int l3), (4, .int l4), (5, .int l5)] [] σ) := by
  induction n with
  | zero => exact ⟨fun _ _ _ _ h => (by cases h), fun _ _ _ _ _ h => (by cases h), fun _ _ _ _ _ _ h => (by cases h)⟩
  | succ n ih =>
    obtain ⟨ih_1, ih_2, ih_3⟩ := ih
    refine ⟨?_, ?_, ?_⟩
    · intro l1 l2 l3 σ hM
      have hM : B_X9_spreadFrom_1 (L_X9_spreadFrom  n) n  l1 l2 l3 σ = some res := hM
      refine v_iload_n K dX9_spreadFrom_13 3 rfl ?_
      refine v_iload_n K dX9_spreadFrom_14 2 rfl ?_
      refine v_icmp_ge K 95 dX9_spreadFrom_15 (by decide) hM (fun hM => ?_) (fun hM => ?_)
      · exact v_vret K rfl dX9_spreadFrom_95 hM
      · refine v_iconst (v := (0 : Int32)) K dX9_spreadFrom_18 (by decide) ?_
        refine v_istore K dX9_spreadFrom_19 (by decide) [(4, .int (0 : Int32)), (0, .ref (ad 14)), (1, .int l1), (2, .int l2), (3, .int l3)] rfl ?_
        exact v_sub [1, 2, 3, 4, 0] rfl (ih_2 l1 l2 l3 (0 : Int32) σ hM)
    · intro l1 l2 l3 l4 σ hM
      have hM : B_X9_spreadFrom_2 (L_X9_spreadFrom  n) n  l1 l2 l3 l4 σ = some res := hM
      refine v_iload K dX9_spreadFrom_21 4 rfl ?_
      refine v_iload_n K dX9_spreadFrom_23 2 rfl ?_
      refine v_icmp_ge K 89 dX9_spreadFrom_24 (by decide) hM (fun hM => ?_) (fun hM => ?_)
      · refine v_iinc K dX9_spreadFrom_89 3 rfl (v := (l3 + (1 : Int32))) rfl (by decide) hM (fun y => [(3, .int y), (0, .ref (ad 14)), (1, .int l1), (2, .int l2), (4, .int l4)]) (fun _ => rfl) (fun x3 hM => ?_)
        refine v_goto (tgt := 13) K dX9_spreadFrom_92 (by decide) ?_
        exact v_sub [1, 2, 3, 0] rfl (ih_1 l1 l2 x3 σ hM)
      · refine v_iload_n K dX9_spreadFrom_27 3 rfl ?_
        refine v_iload K dX9_spreadFrom_28 4 rfl ?_
        refine v_icmp_eq K 83 dX9_spreadFrom_30 (by decide) hM (fun hM => ?_) (fun hM => ?_)
        · refine v_iinc K dX9_spreadFrom_83 4 rfl (v := (l4 + (1 : Int32))) rfl (by decide) hM (fun y => [(4, .int y), (0, .ref (ad 14)), (1, .int l1), (2, .int l2), (3, .int l3)]) (fun _ => rfl) (fun x4 hM => ?_)
          refine v_goto (tgt := 21) K dX9_spreadFrom_86 (by decide) ?_
          exact v_sub [1, 2, 3, 4, 0] rfl (ih_2 l1 l2 l3 x4 σ hM)
        · refine v_aload_n K dX9_spreadFrom_33 0 rfl ?_
          refine g_X9_3 K qf_X9_21 dX9_spreadFrom_34 ?_
          refine v_iload_n K dX9_spreadFrom_37 3 rfl ?_
          refine x_Vi (As := [.int l3]) (st := []) K uv_X1_isFree qm_X9_85 dX9_spreadFrom_38 (rv_X1 isB_43) (fun _ h => c_X1_isFree l 43 isB_43 n l3 σ h) rfl ⟨(Nat.le_of_ble_eq_true rfl), (Nat.le_of_ble_eq_true rfl)⟩ (Nat.le_of_ble_eq_true rfl) hM (fun r6 s5 hM => ?_)
          refine v_if_eq K 83 dX9_spreadFrom_41 (by decide) hM (fun hM => ?_) (fun hM => ?_)
          · refine v_iinc K dX9_spreadFrom_83 4 rfl (v := (l4 + (1 : Int32))) rfl (by decide) hM (fun y => [(4, .int y), (0, .ref (ad 14)), (1, .int l1), (2, .int l2), (3, .int l3)]) (fun _ => rfl) (fun x7 hM => ?_)
            refine v_goto (tgt := 21) K dX9_spreadFrom_86 (by decide) ?_
            exact v_sub [1, 2, 3, 4, 0] rfl (ih_2 l1 l2 l3 x7 s5 hM)
          · refine v_aload_n K dX9_spreadFrom_44 0 rfl ?_
            refine v_iload_n K dX9_spreadFrom_45 3 rfl ?_
            refine v_iload K dX9_spreadFrom_46 4 rfl ?_
            refine x_Vi (As := [.int l3, .int l4]) (st := []) K uv_X9_twelfthsGiven qm_X9_89 dX9_spreadFrom_48 rv_X9 (fun _ h => c_X9_twelfthsGiven l  n l3 l4 s5 h) rfl ⟨(Nat.le_of_ble_eq_true rfl), (Nat.le_of_ble_eq_true rfl)⟩ (Nat.le_of_ble_eq_true rfl) hM (fun r9 s8 hM => ?_)
            refine v_istore K dX9_spreadFrom_51 (by decide) [(5, .int r9), (0, .ref (ad 14)), (1, .int l1), (2, .int l2), (3, .int l3), (4, .int l4)] rfl ?_
            refine v_iload K dX9_spreadFrom_53 0 rfl ?_
            refine v_if_le K 67 dX9_spreadFrom_55 (by decide) hM (fun hM => ?_) (fun hM => ?_)
            · exact v_sub [1, 2, 3, 4, 5, 0] rfl (ih_3 l1 l2 l3 l4 r9 s8 hM)
            · refine v_aload_n K dX9_spreadFrom_58 1 rfl ?_
              refine v_iload_n K dX9_spreadFrom_59 4 rfl ?_
              refine v_iload K dX9_spreadFrom_60 5 rfl ?_
              refine v_iconst (v := (1 : Int32)) K dX9_spreadFrom_62 (by decide) ?_
              refine v_iload_n K dX9_spreadFrom_63 2 rfl ?_
              refine x_Vv (As := [.int l3, .int l4, .int (1 : Int32), .int l1]) (st := []) K uv_X9_lead qm_X9_93 dX9_spreadFrom_64 rv_X9 (fun _ h => c_X9_lead l  n l3 l4 (1 : Int32) l1 s8 h) rfl ⟨(Nat.le_of_ble_eq_true rfl), (Nat.le_of_ble_eq_true rfl)⟩ (Nat.le_of_ble_eq_true rfl) hM (fun s10 hM => ?_)
              exact v_sub [1, 2, 3, 4, 5, 0] rfl (ih_3 l1 l2 l3 l4 r9 s10 hM)
    · intro l1 l2 l3 l4 l5 σ hM
      have hM : B_X9_spreadFrom_3 (L_X9_spreadFrom  n) n  l1 l2 l3 l4 l5 σ = some res := hM
      refine v_iload K dX9_spreadFrom_67 5 rfl ?_
      refine v_bipush (v := (12 : Int32)) K dX9_spreadFrom_69 (by decide) ?_
      refine v_icmp_ge K 83 dX9_spreadFrom_71 (by decide) hM (fun hM => ?_) (fun hM => ?_)
      · refine v_iinc K dX9_spreadFrom_83 4 rfl (v := (l4 + (1 : Int32))) rfl (by decide) hM (fun y => [(4, .int y), (0, .ref (ad 14)), (1, .int l1), (2, .int l2), (3, .int l3), (5, .int l5)]) (fun _ => rfl) (fun x11 hM => ?_)
        refine v_goto (tgt := 21) K dX9_spreadFrom_86 (by decide) ?_
        exact v_sub [1, 2, 3, 4, 0] rfl (ih_2 l1 l2 l3 x11 σ hM)
      · refine v_aload_n K dX9_spreadFrom_74 0 rfl ?_
        refine v_iload_n K dX9_spreadFrom_75 3 rfl ?_
        refine v_iload K dX9_spreadFrom_76 4 rfl ?_
        refine v_iconst (v := (0 : Int32)) K dX9_spreadFrom_78 (by decide) ?_
        refine v_iload_n K dX9_spreadFrom_79 1 rfl ?_
        refine x_Vv (As := [.int l3, .int l4, .int (0 : Int32), .int l1]) (st := []) K uv_X9_lead qm_X9_93 dX9_spreadFrom_80 rv_X9 (fun _ h => c_X9_lead l  n l3 l4 (0 : Int32) l1 σ h) rfl ⟨(Nat.le_of_ble_eq_true rfl), (Nat.le_of_ble_eq_true rfl)⟩ (Nat.le_of_ble_eq_true rfl) hM (fun s12 hM => ?_)
        refine v_iinc K dX9_spreadFrom_83 4 rfl (v := (l4 + (1 : Int32))) rfl (by decide) hM (fun y => [(4, .int y), (0, .ref (ad 14)), (1, .int l1), (2, .int l2), (3, .int l3), (5, .int l5)]) (fun _ => rfl) (fun x13 hM => ?_)
        refine v_goto (tgt := 21) K dX9_spreadFrom_86 (by decide) ?_
        exact v_sub [1, 2, 3, 4, 0] rfl (ih_2 l1 l2 l3 x13 s12 hM)
set_option maxHeartbeats 4000000 in
set_option maxRecDepth 20000 in
theorem c_X9_spreadFrom (l : Launch) {D : va_G} {A : Nat → Prop} {ad : Nat → Nat} {dA : Nat → ClassId}  (n : Nat) (p1 : Int32) (σ : St) {res : Unit × St} (hM : F_X9_spreadFrom n p1 σ = some res) : MI l yX9_spreadFrom cX9_spreadFrom 6 none 5 D (tysX dA) (wdX ad dA) A [.ref (ad 14), .int p1] σ (QV D (wdX ad dA) A res) := by
  refine mk_met (by decide +kernel) (Nat.le_of_ble_eq_true rfl) (fun p e s m below meth c K => ?_)
  have K : Cx p s m _ meth c cX9_spreadFrom 6 none RX9 D (tysX dA) (wdX ad dA) A := K
  obtain ⟨ih_1, ih_2, ih_3⟩ := t_X9_spreadFrom l    K (res := res) n (below := below) (e := e)
  refine v_aload_n K dX9_spreadFrom_0 0 rfl ?_
  refine g_X9_0 K qf_X9_32 dX9_spreadFrom_1 ?_
  refine x_Vr (As := []) (st := []) K uv_X3_folk qm_X9_74 dX9_spreadFrom_4 rv_X3 (c_X3_folk l σ) rfl ⟨(Nat.le_of_ble_eq_true rfl), (Nat.le_of_ble_eq_true rfl)⟩ (Nat.le_of_ble_eq_true rfl) ?_
  refine x_Vi (As := []) (st := []) K uv_X6_size qm_X9_80 dX9_spreadFrom_7 rv_X6 (fun _ h => c_X6_size l  n  σ h) rfl ⟨(Nat.le_of_ble_eq_true rfl), (Nat.le_of_ble_eq_true rfl)⟩ (Nat.le_of_ble_eq_true rfl) hM (fun r2 s1 hM => ?_)
  refine v_istore_n K dX9_spreadFrom_10 rfl (by decide) [(2, .int r2), (0, .ref (ad 14)), (1, .int p1)] rfl ?_
  refine v_iconst (v := (0 : Int32)) K dX9_spreadFrom_11 (by decide) ?_
  refine v_istore_n K dX9_spreadFrom_12 rfl (by decide) [(3, .int (0 : Int32)), (2, .int r2), (0, .ref (ad 14)), (1, .int p1)] rfl ?_
  exact v_sub [2, 3, 1, 0] rfl (ih_1 p1 r2 (0 : Int32) s1 hM)
noncomputable def B_X9_spread_1 (J : Nat → Int32 → Int32 → Int32 → St → Option (Unit × St)) (n : Nat)  (l1 : Int32) (l2 : Int32) (l3 : Int32) (σ : St) : Option (Unit × St) := if (320 : Int32) ≤ l3 then (J 2 l1 l2 (0 : Int32) σ) else (gd (vp_in l3 320) (bnd (sI σ 16 (l3).toNatClampNeg (-2 : Int32)) fun s1 => bnd (l3 + (1 : Int32)) fun x2 => J 1 l1 l2 x2 s1))
noncomputable def B_X9_spread_2 (J : Nat → Int32 → Int32 → Int32 → St → Option (Unit × St)) (n : Nat)  (l1 : Int32) (l2 : Int32) (l3 : Int32) (σ : St) : Option (Unit × St) := if (625 : Int32) ≤ l3 then (some ((), σ)) else (bd (F_X9_isReached n l3 l1 σ) fun r4 s3 => if r4 = 0 then (bnd (l3 + (1 : Int32)) fun x5 => J 2 l1 l2 x5 s3) else (bd (F_X1_fromCode n 43 l3 l2 s3) fun _ s6 => bd (F_X9_spreadFrom n l1 s6) fun _ s7 => bnd (l3 + (1 : Int32)) fun x8 => J 2 l1 l2 x8 s7))
noncomputable def S_X9_spread  (n : Nat) (J : Nat → Int32 → Int32 → Int32 → St → Option (Unit × St)) : Nat → Int32 → Int32 → Int32 → St → Option (Unit × St) := fun lb a0 a1 a2 σ => match lb with
  | 1 => B_X9_spread_1 J n  a0 a1 a2 σ
  | 2 => B_X9_spread_2 J n  a0 a1 a2 σ
  | _ => none
noncomputable def L_X9_spread  (n : Nat) : Nat → Int32 → Int32 → Int32 → St → Option (Unit × St) := Nat.rec (fun _ _ _ _ _ => none) (fun n J => S_X9_spread  n J) n
noncomputable def F_X9_spread (n : Nat) (p1 : Int32) (p2 : Int32) (σ : St) : Option (Unit × St) := L_X9_spread  n 1 p1 p2 (0 : Int32) σ
set_option maxHeartbeats 4000000 in
set_option maxRecDepth 20000 in
theorem t_X9_spread (l : Launch) {p : Program} {e : Env} {s : State} {m : MethodId} {args : Array Value} {below : List Frame} {meth : Method} {c : Code} {D : va_G} {A : Nat → Prop} {ad : Nat → Nat} {dA : Nat → ClassId}   (K : Cx p s m args meth c cX9_spread 4 none RX9 D (tysX dA) (wdX ad dA) A) {res : Unit × St} (n : Nat) : (∀ (l1 : Int32) (l2 : Int32) (l3 : Int32) (σ : St), L_X9_spread  n 1 l1 l2 l3 σ = some res → V p l e (rmH 6) s m args below meth c 4 D (wdX ad dA) A (MQ below (QV D (wdX ad dA) A res) args s 0 0 A) 2 [(0, .ref (ad 14)), (1, .int l1), (2, .int l2), (3, .int l3)] [] σ) ∧ (∀ (l1 : Int32) (l2 : Int32) (l3 : Int32) (σ : St), L_X9_spread  n 2 l1 l2 l3 σ = some res → V p l e (rmH 6) s m args below meth c 4 D (wdX ad dA) A (MQ below (QV D (wdX ad dA) A res) args s 0 0 A) 25 [(0, .ref (ad 14)), (1, .int l1), (2, .int l2), (3, .int l3)] [] σ) := by
  induction n with
  | zero => exact ⟨fun _ _ _ _ h => (by cases h), fun _ _ _ _ h => (by cases h)⟩
  | succ n ih =>
    obtain ⟨ih_1, ih_2⟩ := ih
    refine ⟨?_, ?_⟩
    · intro l1 l2 l3 σ hM
      have hM : B_X9_spread_1 (L_X9_spread  n) n  l1 l2 l3 σ = some res := hM
      refine v_iload_n K dX9_spread_2 3 rfl ?_
      refine v_sipush (v := (320 : Int32)) K dX9_spread_3 (by decide) ?_
      refine v_icmp_ge K 23 dX9_spread_6 (by decide) hM (fun hM => ?_) (fun hM => ?_)
      · refine v_iconst (v := (0 : Int32)) K dX9_spread_23 (by decide) ?_
        refine v_istore_n K dX9_spread_24 rfl (by decide) [(3, .int (0 : Int32)), (0, .ref (ad 14)), (1, .int l1), (2, .int l2)] rfl ?_
        exact v_sub [1, 2, 3, 0] rfl (ih_2 l1 l2 (0 : Int32) σ hM)
      · refine v_aload_n K dX9_spread_9 0 rfl ?_
        refine g_X9_2 K qf_X9_15 dX9_spread_10 ?_
        refine v_iload_n K dX9_spread_13 3 rfl ?_
        refine v_bipush (v := (-2 : Int32)) K dX9_spread_14 (by decide) ?_
        refine st_X16 K dX9_spread_16 hM (fun s1 hM => ?_)
        refine v_iinc K dX9_spread_17 3 rfl (v := (l3 + (1 : Int32))) rfl (by decide) hM (fun y => [(3, .int y), (0, .ref (ad 14)), (1, .int l1), (2, .int l2)]) (fun _ => rfl) (fun x2 hM => ?_)
        refine v_goto (tgt := 2) K dX9_spread_20 (by decide) ?_
        exact v_sub [1, 2, 3, 0] rfl (ih_1 l1 l2 x2 s1 hM)
    · intro l1 l2 l3 σ hM
      have hM : B_X9_spread_2 (L_X9_spread  n) n  l1 l2 l3 σ = some res := hM
      refine v_iload_n K dX9_spread_25 3 rfl ?_
      refine v_sipush (v := (625 : Int32)) K dX9_spread_26 (by decide) ?_
      refine v_icmp_ge K 61 dX9_spread_29 (by decide) hM (fun hM => ?_) (fun hM => ?_)
      · exact v_vret K rfl dX9_spread_61 hM
      · refine v_aload_n K dX9_spread_32 0 rfl ?_
        refine v_iload_n K dX9_spread_33 3 rfl ?_
        refine v_iload_n K dX9_spread_34 1 rfl ?_
        refine x_Vi (As := [.int l3, .int l1]) (st := []) K uv_X9_isReached qm_X9_59 dX9_spread_35 rv_X9 (fun _ h => c_X9_isReached l  n l3 l1 σ h) rfl ⟨(Nat.le_of_ble_eq_true rfl), (Nat.le_of_ble_eq_true rfl)⟩ (Nat.le_of_ble_eq_true rfl) hM (fun r4 s3 hM => ?_)
        refine v_if_eq K 55 dX9_spread_38 (by decide) hM (fun hM => ?_) (fun hM => ?_)
        · refine v_iinc K dX9_spread_55 3 rfl (v := (l3 + (1 : Int32))) rfl (by decide) hM (fun y => [(3, .int y), (0, .ref (ad 14)), (1, .int l1), (2, .int l2)]) (fun _ => rfl) (fun x5 hM => ?_)
          refine v_goto (tgt := 25) K dX9_spread_58 (by decide) ?_
          exact v_sub [1, 2, 3, 0] rfl (ih_2 l1 l2 x5 s3 hM)
        · refine v_aload_n K dX9_spread_41 0 rfl ?_
          refine g_X9_3 K qf_X9_21 dX9_spread_42 ?_
          refine v_iload_n K dX9_spread_45 3 rfl ?_
          refine v_iload_n K dX9_spread_46 2 rfl ?_
          refine x_Vv (As := [.int l3, .int l2]) (st := []) K uv_X1_fromCode qm_X9_67 dX9_spread_47 (rv_X1 isB_43) (fun _ h => c_X1_fromCode l 43 isB_43 n l3 l2 s3 h) rfl ⟨(Nat.le_of_ble_eq_true rfl), (Nat.le_of_ble_eq_true rfl)⟩ (Nat.le_of_ble_eq_true rfl) hM (fun s6 hM => ?_)
          refine v_aload_n K dX9_spread_50 0 rfl ?_
          refine v_iload_n K dX9_spread_51 1 rfl ?_
          refine x_Vv (As := [.int l1]) (st := []) K uv_X9_spreadFrom qm_X9_70 dX9_spread_52 rv_X9 (fun _ h => c_X9_spreadFrom l  n l1 s6 h) rfl ⟨(Nat.le_of_ble_eq_true rfl), (Nat.le_of_ble_eq_true rfl)⟩ (Nat.le_of_ble_eq_true rfl) hM (fun s7 hM => ?_)
          refine v_iinc K dX9_spread_55 3 rfl (v := (l3 + (1 : Int32))) rfl (by decide) hM (fun y => [(3, .int y), (0, .ref (ad 14)), (1, .int l1), (2, .int l2)]) (fun _ => rfl) (fun x8 hM => ?_)
          refine v_goto (tgt := 25) K dX9_spread_58 (by decide) ?_
          exact v_sub [1, 2, 3, 0] rfl (ih_2 l1 l2 x8 s7 hM)
set_option maxHeartbeats 4000000 in
set_option maxRecDepth 20000 in
theorem c_X9_spread (l : Launch) {D : va_G} {A : Nat → Prop} {ad : Nat → Nat} {dA : Nat → ClassId}  (n : Nat) (p1 : Int32) (p2 : Int32) (σ : St) {res : Unit × St} (hM : F_X9_spread n p1 p2 σ = some res) : MI l yX9_spread cX9_spread 4 none 6 D (tysX dA) (wdX ad dA) A [.ref (ad 14), .int p1, .int p2] σ (QV D (wdX ad dA) A res) := by
  refine mk_met (by decide +kernel) (Nat.le_of_ble_eq_true rfl) (fun p e s m below meth c K => ?_)
  have K : Cx p s m _ meth c cX9_spread 4 none RX9 D (tysX dA) (wdX ad dA) A := K
  obtain ⟨ih_1, ih_2⟩ := t_X9_spread l    K (res := res) n (below := below) (e := e)
  refine v_iconst (v := (0 : Int32)) K dX9_spread_0 (by decide) ?_
  refine v_istore_n K dX9_spread_1 rfl (by decide) [(3, .int (0 : Int32)), (0, .ref (ad 14)), (1, .int p1), (2, .int p2)] rfl ?_
  exact v_sub [1, 2, 3, 0] rfl (ih_1 p1 p2 (0 : Int32) σ hM)
noncomputable def B_X9_isBoundSomewhere_1 (J : Nat → Int32 → Int32 → Int32 → Int32 → St → Option (Int32 × St)) (n : Nat)  (l1 : Int32) (l2 : Int32) (l3 : Int32) (l4 : Int32) (σ : St) : Option (Int32 × St) := if (625 : Int32) ≤ l4 then (some ((0 : Int32), σ)) else (bd (F_X9_isReached n l4 l1 σ) fun r2 s1 => if r2 = 0 then (bnd (l4 + (1 : Int32)) fun x3 => J 1 l1 l2 l3 x3 s1) else (bd (F_X1_fromCode n 43 l4 (0 : Int32) s1) fun _ s4 => bd (F_X1_boundTo n 43 l2 s4) fun r6 s5 => if r6 = l3 then (some ((1 : Int32), s5)) else (bnd (l4 + (1 : Int32)) fun x7 => J 1 l1 l2 l3 x7 s5)))
noncomputable def S_X9_isBoundSomewhere  (n : Nat) (J : Nat → Int32 → Int32 → Int32 → Int32 → St → Option (Int32 × St)) : Nat → Int32 → Int32 → Int32 → Int32 → St → Option (Int32 × St) := fun lb a0 a1 a2 a3 σ => match lb with
  | 1 => B_X9_isBoundSomewhere_1 J n  a0 a1 a2 a3 σ
  | _ => none
noncomputable def L_X9_isBoundSomewhere  (n : Nat) : Nat → Int32 → Int32 → Int32 → Int32 → St → Option (Int32 × St) := Nat.rec (fun _ _ _ _ _ _ => none) (fun n J => S_X9_isBoundSomewhere  n J) n
noncomputable def F_X9_isBoundSomewhere (n : Nat) (p1 : Int32) (p2 : Int32) (p3 : Int32) (σ : St) : Option (Int32 × St) := L_X9_isBoundSomewhere  n 1 p1 p2 p3 (0 : Int32) σ
set_option maxHeartbeats 4000000 in
set_option maxRecDepth 20000 in
theorem t_X9_isBoundSomewhere (l : Launch) {p : Program} {e : Env} {s : State} {m : MethodId} {args : Array Value} {below : List Frame} {meth : Method} {c : Code} {D : va_G} {A : Nat → Prop} {ad : Nat → Nat} {dA : Nat → ClassId}   (K : Cx p s m args meth c cX9_isBoundSomewhere 5 (some .boolean) RX9 D (tysX dA) (wdX ad dA) A) {res : Int32 × St} (n : Nat) : (∀ (l1 : Int32) (l2 : Int32) (l3 : Int32) (l4 : Int32) (σ : St), L_X9_isBoundSomewhere  n 1 l1 l2 l3 l4 σ = some res → V p l e (rmH 3) s m args below meth c 5 D (wdX ad dA) A (MQ below (QI D (wdX ad dA) A res) args s 0 0 A) 3 [(0, .ref (ad 14)), (1, .int l1), (2, .int l2), (3, .int l3), (4, .int l4)] [] σ) := by
  induction n with
  | zero => exact (fun _ _ _ _ _ h => (by cases h))
  | succ n ih =>
    have ih_1 := ih
    · intro l1 l2 l3 l4 σ hM
      have hM : B_X9_isBoundSomewhere_1 (L_X9_isBoundSomewhere  n) n  l1 l2 l3 l4 σ = some res := hM
      refine v_iload K dX9_isBoundSomewhere_3 4 rfl ?_
      refine v_sipush (v := (625 : Int32)) K dX9_isBoundSomewhere_5 (by decide) ?_
      refine v_icmp_ge K 51 dX9_isBoundSomewhere_8 (by decide) hM (fun hM => ?_) (fun hM => ?_)
      · refine v_iconst (v := (0 : Int32)) K dX9_isBoundSomewhere_51 (by decide) ?_
        exact v_zret K rfl rfl dX9_isBoundSomewhere_52 hM
      · refine v_aload_n K dX9_isBoundSomewhere_11 0 rfl ?_
        refine v_iload K dX9_isBoundSomewhere_12 4 rfl ?_
        refine v_iload_n K dX9_isBoundSomewhere_14 1 rfl ?_
        refine x_Vi (As := [.int l4, .int l1]) (st := []) K uv_X9_isReached qm_X9_59 dX9_isBoundSomewhere_15 rv_X9 (fun _ h => c_X9_isReached l  n l4 l1 σ h) rfl ⟨(Nat.le_of_ble_eq_true rfl), (Nat.le_of_ble_eq_true rfl)⟩ (Nat.le_of_ble_eq_true rfl) hM (fun r2 s1 hM => ?_)
        refine v_if_eq K 45 dX9_isBoundSomewhere_18 (by decide) hM (fun hM => ?_) (fun hM => ?_)
        · refine v_iinc K dX9_isBoundSomewhere_45 4 rfl (v := (l4 + (1 : Int32))) rfl (by decide) hM (fun y => [(4, .int y), (0, .ref (ad 14)), (1, .int l1), (2, .int l2), (3, .int l3)]) (fun _ => rfl) (fun x3 hM => ?_)
          refine v_goto (tgt := 3) K dX9_isBoundSomewhere_48 (by decide) ?_
          exact v_sub [1, 2, 3, 4, 0] rfl (ih_1 l1 l2 l3 x3 s1 hM)
        · refine v_aload_n K dX9_isBoundSomewhere_21 0 rfl ?_
          refine g_X9_3 K qf_X9_21 dX9_isBoundSomewhere_22 ?_
          refine v_iload K dX9_isBoundSomewhere_25 4 rfl ?_
          refine v_iconst (v := (0 : Int32)) K dX9_isBoundSomewhere_27 (by decide) ?_
          refine x_Vv (As := [.int l4, .int (0 : Int32)]) (st := []) K uv_X1_fromCode qm_X9_67 dX9_isBoundSomewhere_28 (rv_X1 isB_43) (fun _ h => c_X1_fromCode l 43 isB_43 n l4 (0 : Int32) s1 h) rfl ⟨(Nat.le_of_ble_eq_true rfl), (Nat.le_of_ble_eq_true rfl)⟩ (Nat.le_of_ble_eq_true rfl) hM (fun s4 hM => ?_)
          refine v_aload_n K dX9_isBoundSomewhere_31 0 rfl ?_
          refine g_X9_3 K qf_X9_21 dX9_isBoundSomewhere_32 ?_
          refine v_iload_n K dX9_isBoundSomewhere_35 2 rfl ?_
          refine x_Vi (As := [.int l2]) (st := []) K uv_X1_boundTo qm_X9_36 dX9_isBoundSomewhere_36 (rv_X1 isB_43) (fun _ h => c_X1_boundTo l 43 isB_43 n l2 s4 h) rfl ⟨(Nat.le_of_ble_eq_true rfl), (Nat.le_of_ble_eq_true rfl)⟩ (Nat.le_of_ble_eq_true rfl) hM (fun r6 s5 hM => ?_)
          refine v_iload_n K dX9_isBoundSomewhere_39 3 rfl ?_
          refine v_icmp_ne K 45 dX9_isBoundSomewhere_40 (by decide) hM (fun hM => ?_) (fun hM => ?_)
          · refine v_iinc K dX9_isBoundSomewhere_45 4 rfl (v := (l4 + (1 : Int32))) rfl (by decide) hM (fun y => [(4, .int y), (0, .ref (ad 14)), (1, .int l1), (2, .int l2), (3, .int l3)]) (fun _ => rfl) (fun x7 hM => ?_)
            refine v_goto (tgt := 3) K dX9_isBoundSomewhere_48 (by decide) ?_
            exact v_sub [1, 2, 3, 4, 0] rfl (ih_1 l1 l2 l3 x7 s5 hM)
          · refine v_iconst (v := (1 : Int32)) K dX9_isBoundSomewhere_43 (by decide) ?_
            exact v_zret K rfl rfl dX9_isBoundSomewhere_44 hM
set_option maxHeartbeats 4000000 in
set_option maxRecDepth 20000 in
theorem c_X9_isBoundSomewhere (l : Launch) {D : va_G} {A : Nat → Prop} {ad : Nat → Nat} {dA : Nat → ClassId}  (n : Nat) (p1 : Int32) (p2 : Int32) (p3 : Int32) (σ : St) {res : Int32 × St} (hM : F_X9_isBoundSomewhere n p1 p2 p3 σ = some res) : MI l yX9_isBoundSomewhere cX9_isBoundSomewhere 5 (some .boolean) 3 D (tysX dA) (wdX ad dA) A [.ref (ad 14), .int p1, .int p2, .int p3] σ (QI D (wdX ad dA) A res) := by
  refine mk_met (by decide +kernel) (Nat.le_of_ble_eq_true rfl) (fun p e s m below meth c K => ?_)
  have K : Cx p s m _ meth c cX9_isBoundSomewhere 5 (some .boolean) RX9 D (tysX dA) (wdX ad dA) A := K
  have ih_1 := t_X9_isBoundSomewhere l    K (res := res) n (below := below) (e := e)
  refine v_iconst (v := (0 : Int32)) K dX9_isBoundSomewhere_0 (by decide) ?_
  refine v_istore K dX9_isBoundSomewhere_1 (by decide) [(4, .int (0 : Int32)), (0, .ref (ad 14)), (1, .int p1), (2, .int p2), (3, .int p3)] rfl ?_
  exact v_sub [1, 2, 3, 4, 0] rfl (ih_1 p1 p2 p3 (0 : Int32) σ hM)
noncomputable def B_X9_fewestTillBound_1 (J : Nat → Int32 → Int32 → Int32 → St → Option (Int32 × St)) (n : Nat) (b1 : Nat) (l2 : Int32) (l3 : Int32) (l4 : Int32) (σ : St) : Option (Int32 × St) := if (8 : Int32) < l4 then (some ((-2 : Int32), σ)) else (bd (F_X1_casesAhead n b1 σ) fun r5 s4 => bd (F_X9_spread n (l4 - (1 : Int32)) ((r5 + l4) - (1 : Int32)) s4) fun _ s6 => bd (F_X9_isBoundSomewhere n l4 l2 l3 s6) fun r8 s7 => if r8 = 0 then (bnd (l4 + (1 : Int32)) fun x9 => J 1 l2 l3 x9 s7) else (some (l4, s7)))
noncomputable def S_X9_fewestTillBound (b1 : Nat) (n : Nat) (J : Nat → Int32 → Int32 → Int32 → St → Option (Int32 × St)) : Nat → Int32 → Int32 → Int32 → St → Option (Int32 × St) := fun lb a0 a1 a2 σ => match lb with
  | 1 => B_X9_fewestTillBound_1 J n b1 a0 a1 a2 σ
  | _ => none
noncomputable def L_X9_fewestTillBound (b1 : Nat) (n : Nat) : Nat → Int32 → Int32 → Int32 → St → Option (Int32 × St) := Nat.rec (fun _ _ _ _ _ => none) (fun n J => S_X9_fewestTillBound b1 n J) n
noncomputable def F_X9_fewestTillBound (n : Nat) (b1 : Nat) (p2 : Int32) (p3 : Int32) (σ : St) : Option (Int32 × St) := bd (F_X1_boundTo n b1 p2 σ) fun r2 s1 => if r2 = p3 then (some ((0 : Int32), s1)) else (bd (F_X9_begin n b1 s1) fun _ s3 => L_X9_fewestTillBound b1 n 1 p2 p3 (1 : Int32) s3)
set_option maxHeartbeats 4000000 in
set_option maxRecDepth 20000 in
theorem t_X9_fewestTillBound (l : Launch) {p : Program} {e : Env} {s : State} {m : MethodId} {args : Array Value} {below : List Frame} {meth : Method} {c : Code} {D : va_G} {A : Nat → Prop} {ad : Nat → Nat} {dA : Nat → ClassId} (b1 : Nat) (hb1 : isB b1) (K : Cx p s m args meth c cX9_fewestTillBound 5 (some .int) RX9 D (tysX dA) (wdX ad dA) A) {res : Int32 × St} (n : Nat) : (∀ (l2 : Int32) (l3 : Int32) (l4 : Int32) (σ : St), L_X9_fewestTillBound b1 n 1 l2 l3 l4 σ = some res → V p l e (rmH 7) s m args below meth c 5 D (wdX ad dA) A (MQ below (QI D (wdX ad dA) A res) args s 0 0 A) 19 [(0, .ref (ad 14)), (1, .ref (ad b1)), (2, .int l2), (3, .int l3), (4, .int l4)] [] σ) := by
  induction n with
  | zero => exact (fun _ _ _ _ h => (by cases h))
  | succ n ih =>
    have ih_1 := ih
    · intro l2 l3 l4 σ hM
      have hM : B_X9_fewestTillBound_1 (L_X9_fewestTillBound b1 n) n b1 l2 l3 l4 σ = some res := hM
      refine v_iload K dX9_fewestTillBound_19 4 rfl ?_
      refine v_bipush (v := (8 : Int32)) K dX9_fewestTillBound_21 (by decide) ?_
      refine v_icmp_gt K 63 dX9_fewestTillBound_23 (by decide) hM (fun hM => ?_) (fun hM => ?_)
      · refine v_bipush (v := (-2 : Int32)) K dX9_fewestTillBound_63 (by decide) ?_
        exact v_iret K rfl dX9_fewestTillBound_65 hM
      · refine v_aload_n K dX9_fewestTillBound_26 0 rfl ?_
        refine v_iload K dX9_fewestTillBound_27 4 rfl ?_
        refine v_iconst (v := (1 : Int32)) K dX9_fewestTillBound_29 (by decide) ?_
        refine v_isub K dX9_fewestTillBound_30 ?_
        refine v_aload_n K dX9_fewestTillBound_31 1 rfl ?_
        refine x_Vi (As := []) (st := [.int (l4 - (1 : Int32)), .ref (ad 14)]) K uv_X1_casesAhead qm_X9_44 dX9_fewestTillBound_32 (rv_X1 hb1) (fun _ h => c_X1_casesAhead l b1 hb1 n  σ h) rfl ⟨(Nat.le_of_ble_eq_true rfl), (Nat.le_of_ble_eq_true rfl)⟩ (Nat.le_of_ble_eq_true rfl) hM (fun r5 s4 hM => ?_)
        refine v_iload K dX9_fewestTillBound_35 4 rfl ?_
        refine v_iadd K dX9_fewestTillBound_37 ?_
        refine v_iconst (v := (1 : Int32)) K dX9_fewestTillBound_38 (by decide) ?_
        refine v_isub K dX9_fewestTillBound_39 ?_
        refine x_Vv (As := [.int (l4 - (1 : Int32)), .int ((r5 + l4) - (1 : Int32))]) (st := []) K uv_X9_spread qm_X9_48 dX9_fewestTillBound_40 rv_X9 (fun _ h => c_X9_spread l  n (l4 - (1 : Int32)) ((r5 + l4) - (1 : Int32)) s4 h) rfl ⟨(Nat.le_of_ble_eq_true rfl), (Nat.le_of_ble_eq_true rfl)⟩ (Nat.le_of_ble_eq_true rfl) hM (fun s6 hM => ?_)
        refine v_aload_n K dX9_fewestTillBound_43 0 rfl ?_
        refine v_iload K dX9_fewestTillBound_44 4 rfl ?_
        refine v_iload_n K dX9_fewestTillBound_46 2 rfl ?_
        refine v_iload_n K dX9_fewestTillBound_47 3 rfl ?_
        refine x_Vi (As := [.int l4, .int l2, .int l3]) (st := []) K uv_X9_isBoundSomewhere qm_X9_52 dX9_fewestTillBound_48 rv_X9 (fun _ h => c_X9_isBoundSomewhere l  n l4 l2 l3 s6 h) rfl ⟨(Nat.le_of_ble_eq_true rfl), (Nat.le_of_ble_eq_true rfl)⟩ (Nat.le_of_ble_eq_true rfl) hM (fun r8 s7 hM => ?_)
        refine v_if_eq K 57 dX9_fewestTillBound_51 (by decide) hM (fun hM => ?_) (fun hM => ?_)
        · refine v_iinc K dX9_fewestTillBound_57 4 rfl (v := (l4 + (1 : Int32))) rfl (by decide) hM (fun y => [(4, .int y), (0, .ref (ad 14)), (1, .ref (ad b1)), (2, .int l2), (3, .int l3)]) (fun _ => rfl) (fun x9 hM => ?_)
          refine v_goto (tgt := 19) K dX9_fewestTillBound_60 (by decide) ?_
          exact v_sub [1, 2, 3, 4, 0] rfl (ih_1 l2 l3 x9 s7 hM)
        · refine v_iload K dX9_fewestTillBound_54 4 rfl ?_
          exact v_iret K rfl dX9_fewestTillBound_56 hM
set_option maxHeartbeats 4000000 in
set_option maxRecDepth 20000 in
theorem c_X9_fewestTillBound (l : Launch) {D : va_G} {A : Nat → Prop} {ad : Nat → Nat} {dA : Nat → ClassId} (b1 : Nat) (hb1 : isB b1) (n : Nat) (p2 : Int32) (p3 : Int32) (σ : St) {res : Int32 × St} (hM : F_X9_fewestTillBound n b1 p2 p3 σ = some res) : MI l yX9_fewestTillBound cX9_fewestTillBound 5 (some .int) 7 D (tysX dA) (wdX ad dA) A [.ref (ad 14), .ref (ad b1), .int p2, .int p3] σ (QI D (wdX ad dA) A res) := by
  refine mk_met (by decide +kernel) (Nat.le_of_ble_eq_true rfl) (fun p e s m below meth c K => ?_)
  have K : Cx p s m _ meth c cX9_fewestTillBound 5 (some .int) RX9 D (tysX dA) (wdX ad dA) A := K
  have ih_1 := t_X9_fewestTillBound l b1 hb1  K (res := res) n (below := below) (e := e)
  refine v_aload_n K dX9_fewestTillBound_0 1 rfl ?_
  refine v_iload_n K dX9_fewestTillBound_1 2 rfl ?_
  refine x_Vi (As := [.int p2]) (st := []) K uv_X1_boundTo qm_X9_36 dX9_fewestTillBound_2 (rv_X1 hb1) (fun _ h => c_X1_boundTo l b1 hb1 n p2 σ h) rfl ⟨(Nat.le_of_ble_eq_true rfl), (Nat.le_of_ble_eq_true rfl)⟩ (Nat.le_of_ble_eq_true rfl) hM (fun r2 s1 hM => ?_)
  refine v_iload_n K dX9_fewestTillBound_5 3 rfl ?_
  refine v_icmp_ne K 11 dX9_fewestTillBound_6 (by decide) hM (fun hM => ?_) (fun hM => ?_)
  · refine v_aload_n K dX9_fewestTillBound_11 0 rfl ?_
    refine v_aload_n K dX9_fewestTillBound_12 1 rfl ?_
    refine x_Vv (As := [.ref (ad b1)]) (st := []) K uv_X9_begin qm_X9_40 dX9_fewestTillBound_13 rv_X9 (fun _ h => c_X9_begin l b1 hb1 n  s1 h) rfl ⟨(Nat.le_of_ble_eq_true rfl), (Nat.le_of_ble_eq_true rfl)⟩ (Nat.le_of_ble_eq_true rfl) hM (fun s3 hM => ?_)
    refine v_iconst (v := (1 : Int32)) K dX9_fewestTillBound_16 (by decide) ?_
    refine v_istore K dX9_fewestTillBound_17 (by decide) [(4, .int (1 : Int32)), (0, .ref (ad 14)), (1, .ref (ad b1)), (2, .int p2), (3, .int p3)] rfl ?_
    exact v_sub [1, 2, 3, 4, 0] rfl (ih_1 p2 p3 (1 : Int32) s3 hM)
  · refine v_iconst (v := (0 : Int32)) K dX9_fewestTillBound_9 (by decide) ?_
    exact v_iret K rfl dX9_fewestTillBound_10 hM
noncomputable def B_X9_fewestRound_1 (J : Nat → Int32 → St → Option (Int32 × St)) (n : Nat) (b1 : Nat) (l2 : Int32) (σ : St) : Option (Int32 × St) := if (8 : Int32) < l2 then (some ((-2 : Int32), σ)) else (bd (F_X1_casesAhead n b1 σ) fun r3 s2 => bd (F_X9_spread n (l2 - (1 : Int32)) ((r3 + l2) - (1 : Int32)) s2) fun _ s4 => bd (F_X1_toCode n b1 s4) fun r6 s5 => bd (F_X9_isReached n r6 l2 s5) fun r8 s7 => if r8 = 0 then (bnd (l2 + (1 : Int32)) fun x9 => J 1 x9 s7) else (some (l2, s7)))
noncomputable def S_X9_fewestRound (b1 : Nat) (n : Nat) (J : Nat → Int32 → St → Option (Int32 × St)) : Nat → Int32 → St → Option (Int32 × St) := fun lb a0 σ => match lb with
  | 1 => B_X9_fewestRound_1 J n b1 a0 σ
  | _ => none
noncomputable def L_X9_fewestRound (b1 : Nat) (n : Nat) : Nat → Int32 → St → Option (Int32 × St) := Nat.rec (fun _ _ _ => none) (fun n J => S_X9_fewestRound b1 n J) n
noncomputable def F_X9_fewestRound (n : Nat) (b1 : Nat) (σ : St) : Option (Int32 × St) := bd (F_X9_begin n b1 σ) fun _ s1 => L_X9_fewestRound b1 n 1 (1 : Int32) s1
set_option maxHeartbeats 4000000 in
set_option maxRecDepth 20000 in
theorem t_X9_fewestRound (l : Launch) {p : Program} {e : Env} {s : State} {m : MethodId} {args : Array Value} {below : List Frame} {meth : Method} {c : Code} {D : va_G} {A : Nat → Prop} {ad : Nat → Nat} {dA : Nat → ClassId} (b1 : Nat) (hb1 : isB b1) (K : Cx p s m args meth c cX9_fewestRound 3 (some .int) RX9 D (tysX dA) (wdX ad dA) A) {res : Int32 × St} (n : Nat) : (∀ (l2 : Int32) (σ : St), L_X9_fewestRound b1 n 1 l2 σ = some res → V p l e (rmH 7) s m args below meth c 3 D (wdX ad dA) A (MQ below (QI D (wdX ad dA) A res) args s 0 0 A) 7 [(0, .ref (ad 14)), (1, .ref (ad b1)), (2, .int l2)] [] σ) := by
  induction n with
  | zero => exact (fun _ _ h => (by cases h))
  | succ n ih =>
    have ih_1 := ih
    · intro l2 σ hM
      have hM : B_X9_fewestRound_1 (L_X9_fewestRound b1 n) n b1 l2 σ = some res := hM
      refine v_iload_n K dX9_fewestRound_7 2 rfl ?_
      refine v_bipush (v := (8 : Int32)) K dX9_fewestRound_8 (by decide) ?_
      refine v_icmp_gt K 48 dX9_fewestRound_10 (by decide) hM (fun hM => ?_) (fun hM => ?_)
      · refine v_bipush (v := (-2 : Int32)) K dX9_fewestRound_48 (by decide) ?_
        exact v_iret K rfl dX9_fewestRound_50 hM
      · refine v_aload_n K dX9_fewestRound_13 0 rfl ?_
        refine v_iload_n K dX9_fewestRound_14 2 rfl ?_
        refine v_iconst (v := (1 : Int32)) K dX9_fewestRound_15 (by decide) ?_
        refine v_isub K dX9_fewestRound_16 ?_
        refine v_aload_n K dX9_fewestRound_17 1 rfl ?_
        refine x_Vi (As := []) (st := [.int (l2 - (1 : Int32)), .ref (ad 14)]) K uv_X1_casesAhead qm_X9_44 dX9_fewestRound_18 (rv_X1 hb1) (fun _ h => c_X1_casesAhead l b1 hb1 n  σ h) rfl ⟨(Nat.le_of_ble_eq_true rfl), (Nat.le_of_ble_eq_true rfl)⟩ (Nat.le_of_ble_eq_true rfl) hM (fun r3 s2 hM => ?_)
        refine v_iload_n K dX9_fewestRound_21 2 rfl ?_
        refine v_iadd K dX9_fewestRound_22 ?_
        refine v_iconst (v := (1 : Int32)) K dX9_fewestRound_23 (by decide) ?_
        refine v_isub K dX9_fewestRound_24 ?_
        refine x_Vv (As := [.int (l2 - (1 : Int32)), .int ((r3 + l2) - (1 : Int32))]) (st := []) K uv_X9_spread qm_X9_48 dX9_fewestRound_25 rv_X9 (fun _ h => c_X9_spread l  n (l2 - (1 : Int32)) ((r3 + l2) - (1 : Int32)) s2 h) rfl ⟨(Nat.le_of_ble_eq_true rfl), (Nat.le_of_ble_eq_true rfl)⟩ (Nat.le_of_ble_eq_true rfl) hM (fun s4 hM => ?_)
        refine v_aload_n K dX9_fewestRound_28 0 rfl ?_
        refine v_aload_n K dX9_fewestRound_29 1 rfl ?_
        refine x_Vi (As := []) (st := [.ref (ad 14)]) K uv_X1_toCode qm_X9_56 dX9_fewestRound_30 (rv_X1 hb1) (fun _ h => c_X1_toCode l b1 hb1 n  s4 h) rfl ⟨(Nat.le_of_ble_eq_true rfl), (Nat.le_of_ble_eq_true rfl)⟩ (Nat.le_of_ble_eq_true rfl) hM (fun r6 s5 hM => ?_)
        refine v_iload_n K dX9_fewestRound_33 2 rfl ?_
        refine x_Vi (As := [.int r6, .int l2]) (st := []) K uv_X9_isReached qm_X9_59 dX9_fewestRound_34 rv_X9 (fun _ h => c_X9_isReached l  n r6 l2 s5 h) rfl ⟨(Nat.le_of_ble_eq_true rfl), (Nat.le_of_ble_eq_true rfl)⟩ (Nat.le_of_ble_eq_true rfl) hM (fun r8 s7 hM => ?_)
        refine v_if_eq K 42 dX9_fewestRound_37 (by decide) hM (fun hM => ?_) (fun hM => ?_)
        · refine v_iinc K dX9_fewestRound_42 2 rfl (v := (l2 + (1 : Int32))) rfl (by decide) hM (fun y => [(2, .int y), (0, .ref (ad 14)), (1, .ref (ad b1))]) (fun _ => rfl) (fun x9 hM => ?_)
          refine v_goto (tgt := 7) K dX9_fewestRound_45 (by decide) ?_
          exact v_sub [1, 2, 0] rfl (ih_1 x9 s7 hM)
        · refine v_iload_n K dX9_fewestRound_40 2 rfl ?_
          exact v_iret K rfl dX9_fewestRound_41 hM
set_option maxHeartbeats 4000000 in
set_option maxRecDepth 20000 in
theorem c_X9_fewestRound (l : Launch) {D : va_G} {A : Nat → Prop} {ad : Nat → Nat} {dA : Nat → ClassId} (b1 : Nat) (hb1 : isB b1) (n : Nat)  (σ : St) {res : Int32 × St} (hM : F_X9_fewestRound n b1 σ = some res) : MI l yX9_fewestRound cX9_fewestRound 3 (some .int) 7 D (tysX dA) (wdX ad dA) A [.ref (ad 14), .ref (ad b1)] σ (QI D (wdX ad dA) A res) := by
  refine mk_met (by decide +kernel) (Nat.le_of_ble_eq_true rfl) (fun p e s m below meth c K => ?_)
  have K : Cx p s m _ meth c cX9_fewestRound 3 (some .int) RX9 D (tysX dA) (wdX ad dA) A := K
  have ih_1 := t_X9_fewestRound l b1 hb1  K (res := res) n (below := below) (e := e)
  refine v_aload_n K dX9_fewestRound_0 0 rfl ?_
  refine v_aload_n K dX9_fewestRound_1 1 rfl ?_
  refine x_Vv (As := [.ref (ad b1)]) (st := []) K uv_X9_begin qm_X9_40 dX9_fewestRound_2 rv_X9 (fun _ h => c_X9_begin l b1 hb1 n  σ h) rfl ⟨(Nat.le_of_ble_eq_true rfl), (Nat.le_of_ble_eq_true rfl)⟩ (Nat.le_of_ble_eq_true rfl) hM (fun s1 hM => ?_)
  refine v_iconst (v := (1 : Int32)) K dX9_fewestRound_5 (by decide) ?_
  refine v_istore_n K dX9_fewestRound_6 rfl (by decide) [(2, .int (1 : Int32)), (0, .ref (ad 14)), (1, .ref (ad b1))] rfl ?_
  exact v_sub [1, 2, 0] rfl (ih_1 (1 : Int32) s1 hM)
noncomputable def B_X9_fewestSureFrom_1 (O : Nat → Nat → Int32 → Int32 → Int32 → St → Option (Int32 × St)) (J : Nat → Int32 → Int32 → Int32 → Int32 → Int32 → Int32 → St → Option (Int32 × St)) (n : Nat)  (l1 : Int32) (l2 : Int32) (l3 : Int32) (l4 : Int32) (l5 : Int32) (σ : St) : Option (Int32 × St) := bd (F_X6_size n  σ) fun r2 s1 => if r2 ≤ l5 then (some (l4, s1)) else (if l5 = l2 then (J 2 l1 l2 l3 l4 l5 (0 : Int32) s1) else (gd (vp_in l1 7) (bd (F_X3_twelfths n (47 + 2 * l1.toNatClampNeg) l2 l5 s1) fun r5 s4 => J 2 l1 l2 l3 l4 l5 r5 s4)))
noncomputable def B_X9_fewestSureFrom_2 (O : Nat → Nat → Int32 → Int32 → Int32 → St → Option (Int32 × St)) (J : Nat → Int32 → Int32 → Int32 → Int32 → Int32 → Int32 → St → Option (Int32 × St)) (n : Nat)  (l1 : Int32) (l2 : Int32) (l3 : Int32) (l4 : Int32) (l5 : Int32) (k0 : Int32) (σ : St) : Option (Int32 × St) := if l5 = l2 then (bnd (l5 + (1 : Int32)) fun x6 => J 1 l1 l2 l3 l4 x6 0 σ) else (if l5 = l3 then (J 3 l1 l2 l3 l4 l5 k0 σ) else (if k0 = (12 : Int32) then (J 3 l1 l2 l3 l4 l5 k0 σ) else (bnd (l5 + (1 : Int32)) fun x7 => J 1 l1 l2 l3 l4 x7 0 σ)))
noncomputable def B_X9_fewestSureFrom_3 (O : Nat → Nat → Int32 → Int32 → Int32 → St → Option (Int32 × St)) (J : Nat → Int32 → Int32 → Int32 → Int32 → Int32 → Int32 → St → Option (Int32 × St)) (n : Nat)  (l1 : Int32) (l2 : Int32) (l3 : Int32) (l4 : Int32) (l5 : Int32) (l6 : Int32) (σ : St) : Option (Int32 × St) := if l6 ≤ 0 then (J 4 l1 l2 l3 l4 l5 (1 : Int32) σ) else (bnd (l1 + (1 : Int32)) fun x8 => gd (vp_in x8 7) (gd (vp_in l1 7) (bd (F_X1_copyFrom n (47 + 2 * x8.toNatClampNeg) (47 + 2 * l1.toNatClampNeg) σ) fun _ s11 => bnd (l1 + (1 : Int32)) fun x12 => gd (vp_in x12 7) (bd (F_X1_settle n (47 + 2 * x12.toNatClampNeg) l2 l5 (1 : Int32) s11) fun _ s14 => bd (O 0 n (l1 + (1 : Int32)) l2 l3 s14) fun r16 s15 => bnd ((1 : Int32) + r16) fun x17 => J 4 l1 l2 l3 l4 l5 x17 s15))))
noncomputable def B_X9_fewestSureFrom_4 (O : Nat → Nat → Int32 → Int32 → Int32 → St → Option (Int32 × St)) (J : Nat → Int32 → Int32 → Int32 → Int32 → Int32 → Int32 → St → Option (Int32 × St)) (n : Nat)  (l1 : Int32) (l2 : Int32) (l3 : Int32) (l4 : Int32) (l5 : Int32) (l7 : Int32) (σ : St) : Option (Int32 × St) := bnd (if l7 < l4 then l7 else l4) fun x18 => bnd (l5 + (1 : Int32)) fun x19 => J 1 l1 l2 l3 x18 x19 0 σ
noncomputable def S_X9_fewestSureFrom (O : Nat → Nat → Int32 → Int32 → Int32 → St → Option (Int32 × St))  (n : Nat) (J : Nat → Int32 → Int32 → Int32 → Int32 → Int32 → Int32 → St → Option (Int32 × St)) : Nat → Int32 → Int32 → Int32 → Int32 → Int32 → Int32 → St → Option (Int32 × St) := fun lb a0 a1 a2 a3 a4 a5 σ => match lb with
  | 1 => B_X9_fewestSureFrom_1 O J n  a0 a1 a2 a3 a4 σ
  | 2 => B_X9_fewestSureFrom_2 O J n  a0 a1 a2 a3 a4 a5 σ
  | 3 => B_X9_fewestSureFrom_3 O J n  a0 a1 a2 a3 a4 a5 σ
  | 4 => B_X9_fewestSureFrom_4 O J n  a0 a1 a2 a3 a4 a5 σ
  | _ => none
noncomputable def L_X9_fewestSureFrom (O : Nat → Nat → Int32 → Int32 → Int32 → St → Option (Int32 × St))  (n : Nat) : Nat → Int32 → Int32 → Int32 → Int32 → Int32 → Int32 → St → Option (Int32 × St) := Nat.rec (fun _ _ _ _ _ _ _ _ => none) (fun n J => S_X9_fewestSureFrom O  n J) n
noncomputable def E_X9_fewestSureFrom (O : Nat → Nat → Int32 → Int32 → Int32 → St → Option (Int32 × St)) (n : Nat) (p1 : Int32) (p2 : Int32) (p3 : Int32) (σ : St) : Option (Int32 × St) := if p1 < 0 then (some ((1000 : Int32), σ)) else (if p1 < (6 : Int32) then (L_X9_fewestSureFrom O  n 1 p1 p2 p3 (1000 : Int32) (0 : Int32) 0 σ) else (some ((1000 : Int32), σ)))
set_option maxHeartbeats 4000000 in
set_option maxRecDepth 20000 in
theorem t_X9_fewestSureFrom (l : Launch) {p : Program} {e : Env} {s : State} {m : MethodId} {args : Array Value} {below : List Frame} {meth : Method} {c : Code} {D : va_G} {A : Nat → Prop} {ad : Nat → Nat} {dA : Nat → ClassId}   (d : Nat) {O : Nat → Nat → Int32 → Int32 → Int32 → St → Option (Int32 × St)} (ih_r0 : ∀ (n : Nat) (p1 : Int32) (p2 : Int32) (p3 : Int32) (σ : St) {res : Int32 × St}, O 0 n p1 p2 p3 σ = some res → MI l yX9_fewestSureFrom cX9_fewestSureFrom 8 (some .int) (4 + d) D (tysX dA) (wdX ad dA) A [.ref (ad 14), .int p1, .int p2, .int p3] σ (QI D (wdX ad dA) A res)) (K : Cx p s m args meth c cX9_fewestSureFrom 8 (some .int) RX9 D (tysX dA) (wdX ad dA) A) {res : Int32 × St} (n : Nat) : (∀ (l1 : Int32) (l2 : Int32) (l3 : Int32) (l4 : Int32) (l5 : Int32) (σ : St), L_X9_fewestSureFrom O  n 1 l1 l2 l3 l4 l5 0 σ = some res → V p l e (rmH (4 + d + 1)) s m args below meth c 8 D (wdX ad dA) A (MQ below (QI D (wdX ad dA) A res) args s 0 0 A) 21 [(0, .ref (ad 14)), (1, .int l1), (2, .int l2), (3, .int l3), (4, .int l4), (5, .int l5)] [] σ) ∧ (∀ (l1 : Int32) (l2 : Int32) (l3 : Int32) (l4 : Int32) (l5 : Int32) (k0 : Int32) (σ : St), L_X9_fewestSureFrom O  n 2 l1 l2 l3 l4 l5 k0 σ = some res → V p l e (rmH (4 + d + 1)) s m args below meth c 8 D (wdX ad dA) A (MQ below (QI D (wdX ad dA) A res) args s 0 0 A) 62 [(0, .ref (ad 14)), (1, .int l1), (2, .int l2), (3, .int l3), (4, .int l4), (5, .int l5)] [.int k0] σ) ∧ (∀ (l1 : Int32) (l2 : Int32) (l3 : Int32) (l4 : Int32) (l5 : Int32) (l6 : Int32) (σ : St), L_X9_fewestSureFrom O  n 3 l1 l2 l3 l4 l5 l6 σ = some res → V p l e (rmH (4 + d + 1)) s m args below meth c 8 D (wdX ad dA) A (MQ below (QI D (wdX ad dA) A res) args s 0 0 A) 83 [(0, .ref (ad 14)), (1, .int l1), (2, .int l2), (3, .int l3), (4, .int l4), (5, .int l5), (6, .int l6)] [] σ) ∧ (∀ (l1 : Int32) (l2 : Int32) (l3 : Int32) (l4 : Int32) (l5 : Int32) (l7 : Int32) (σ : St), L_X9_fewestSureFrom O  n 4 l1 l2 l3 l4 l5 l7 σ = some res → V p l e (rmH (4 + d + 1)) s m args below meth c 8 D (wdX ad dA) A (MQ below (QI D (wdX ad dA) A res) args s 0 0 A) 137 [(0, .ref (ad 14)), (1, .int l1), (2, .int l2), (3, .int l3), (4, .int l4), (5, .int l5), (7, .int l7)] [] σ) := by
  induction n with
  | zero => exact ⟨fun _ _ _ _ _ _ h => (by cases h), fun _ _ _ _ _ _ _ h => (by cases h), fun _ _ _ _ _ _ _ h => (by cases h), fun _ _ _ _ _ _ _ h => (by cases h)⟩
  | succ n ih =>
    obtain ⟨ih_1, ih_2, ih_3, ih_4⟩ := ih
    refine ⟨?_, ?_, ?_, ?_⟩
    · intro l1 l2 l3 l4 l5 σ hM
      have hM : B_X9_fewestSureFrom_1 O (L_X9_fewestSureFrom O  n) n  l1 l2 l3 l4 l5 σ = some res := hM
      refine v_iload K dX9_fewestSureFrom_21 5 rfl ?_
      refine v_aload_n K dX9_fewestSureFrom_23 0 rfl ?_
      refine g_X9_0 K qf_X9_32 dX9_fewestSureFrom_24 ?_
      refine x_Vr (As := []) (st := [.int l5]) K uv_X3_folk qm_X9_74 dX9_fewestSureFrom_27 rv_X3 (c_X3_folk l σ) rfl ⟨(by simp only [rmH]; omega), (by simp only [rmH]; omega)⟩ (Nat.le_of_ble_eq_true rfl) ?_
      refine x_Vi (As := []) (st := [.int l5]) K uv_X6_size qm_X9_80 dX9_fewestSureFrom_30 rv_X6 (fun _ h => c_X6_size l  n  σ h) rfl ⟨(by simp only [rmH]; omega), (by simp only [rmH]; omega)⟩ (Nat.le_of_ble_eq_true rfl) hM (fun r2 s1 hM => ?_)
      refine v_icmp_ge K 152 dX9_fewestSureFrom_33 (by decide) hM (fun hM => ?_) (fun hM => ?_)
      · refine v_iload K dX9_fewestSureFrom_152 4 rfl ?_
        exact v_iret K rfl dX9_fewestSureFrom_154 hM
      · refine v_iload K dX9_fewestSureFrom_36 5 rfl ?_
        refine v_iload_n K dX9_fewestSureFrom_38 2 rfl ?_
        refine v_icmp_ne K 46 dX9_fewestSureFrom_39 (by decide) hM (fun hM => ?_) (fun hM => ?_)
        · refine v_aload_n K dX9_fewestSureFrom_46 0 rfl ?_
          refine g_X9_0 K qf_X9_32 dX9_fewestSureFrom_47 ?_
          refine v_aload_n K dX9_fewestSureFrom_50 0 rfl ?_
          refine g_X9_5 K qf_X9_28 dX9_fewestSureFrom_51 ?_
          refine v_iload_n K dX9_fewestSureFrom_54 1 rfl ?_
          refine ld_X17 K dX9_fewestSureFrom_55 hM (fun hi3 hM => ?_)
          refine v_iload_n K dX9_fewestSureFrom_56 2 rfl ?_
          refine v_iload K dX9_fewestSureFrom_57 5 rfl ?_
          refine x_Vi (As := [.ref (ad (47 + 2 * l1.toNatClampNeg)), .int l2, .int l5]) (st := []) K uv_X3_twelfths qm_X9_110 dX9_fewestSureFrom_59 rv_X3 (fun _ h => c_X3_twelfths l (47 + 2 * l1.toNatClampNeg) (isB_in hi3) n l2 l5 s1 h) rfl ⟨(by simp only [rmH]; omega), (by simp only [rmH]; omega)⟩ (Nat.le_of_ble_eq_true rfl) hM (fun r5 s4 hM => ?_)
          exact v_sub [0, 1, 2, 3, 4, 5] rfl (ih_2 l1 l2 l3 l4 l5 r5 s4 hM)
        · refine v_iconst (v := (0 : Int32)) K dX9_fewestSureFrom_42 (by decide) ?_
          refine v_goto (tgt := 62) K dX9_fewestSureFrom_43 (by decide) ?_
          exact v_sub [0, 1, 2, 3, 4, 5] rfl (ih_2 l1 l2 l3 l4 l5 (0 : Int32) s1 hM)
    · intro l1 l2 l3 l4 l5 k0 σ hM
      have hM : B_X9_fewestSureFrom_2 O (L_X9_fewestSureFrom O  n) n  l1 l2 l3 l4 l5 k0 σ = some res := hM
      refine v_istore K dX9_fewestSureFrom_62 (by decide) [(6, .int k0), (0, .ref (ad 14)), (1, .int l1), (2, .int l2), (3, .int l3), (4, .int l4), (5, .int l5)] rfl ?_
      refine v_iload K dX9_fewestSureFrom_64 6 rfl ?_
      refine v_iload_n K dX9_fewestSureFrom_66 3 rfl ?_
      refine v_icmp_eq K 146 dX9_fewestSureFrom_67 (by decide) hM (fun hM => ?_) (fun hM => ?_)
      · refine v_iinc K dX9_fewestSureFrom_146 6 rfl (v := (l5 + (1 : Int32))) rfl (by decide) hM (fun y => [(5, .int y), (6, .int k0), (0, .ref (ad 14)), (1, .int l1), (2, .int l2), (3, .int l3), (4, .int l4)]) (fun _ => rfl) (fun x6 hM => ?_)
        refine v_goto (tgt := 21) K dX9_fewestSureFrom_149 (by decide) ?_
        exact v_sub [2, 3, 4, 5, 6, 0] rfl (ih_1 l1 l2 l3 l4 x6 σ hM)
      · refine v_iload K dX9_fewestSureFrom_70 6 rfl ?_
        refine v_iload_n K dX9_fewestSureFrom_72 4 rfl ?_
        refine v_icmp_eq K 83 dX9_fewestSureFrom_73 (by decide) hM (fun hM => ?_) (fun hM => ?_)
        · exact v_sub [1, 2, 3, 4, 5, 6, 0] rfl (ih_3 l1 l2 l3 l4 l5 k0 σ hM)
        · refine v_iload K dX9_fewestSureFrom_76 0 rfl ?_
          refine v_bipush (v := (12 : Int32)) K dX9_fewestSureFrom_78 (by decide) ?_
          refine v_icmp_ne K 146 dX9_fewestSureFrom_80 (by decide) hM (fun hM => ?_) (fun hM => ?_)
          · refine v_iinc K dX9_fewestSureFrom_146 6 rfl (v := (l5 + (1 : Int32))) rfl (by decide) hM (fun y => [(5, .int y), (6, .int k0), (0, .ref (ad 14)), (1, .int l1), (2, .int l2), (3, .int l3), (4, .int l4)]) (fun _ => rfl) (fun x7 hM => ?_)
            refine v_goto (tgt := 21) K dX9_fewestSureFrom_149 (by decide) ?_
            exact v_sub [2, 3, 4, 5, 6, 0] rfl (ih_1 l1 l2 l3 l4 x7 σ hM)
          · exact v_sub [1, 2, 3, 4, 5, 6, 0] rfl (ih_3 l1 l2 l3 l4 l5 k0 σ hM)
    · intro l1 l2 l3 l4 l5 l6 σ hM
      have hM : B_X9_fewestSureFrom_3 O (L_X9_fewestSureFrom O  n) n  l1 l2 l3 l4 l5 l6 σ = some res := hM
      refine v_iconst (v := (1 : Int32)) K dX9_fewestSureFrom_83 (by decide) ?_
      refine v_istore K dX9_fewestSureFrom_84 (by decide) [(7, .int (1 : Int32)), (0, .ref (ad 14)), (1, .int l1), (2, .int l2), (3, .int l3), (4, .int l4), (5, .int l5), (6, .int l6)] rfl ?_
      refine v_iload K dX9_fewestSureFrom_86 7 rfl ?_
      refine v_if_le K 137 dX9_fewestSureFrom_88 (by decide) hM (fun hM => ?_) (fun hM => ?_)
      · exact v_sub [1, 2, 3, 4, 5, 6, 0] rfl (ih_4 l1 l2 l3 l4 l5 (1 : Int32) σ hM)
      · refine v_aload_n K dX9_fewestSureFrom_91 1 rfl ?_
        refine g_X9_5 K qf_X9_28 dX9_fewestSureFrom_92 ?_
        refine v_iload_n K dX9_fewestSureFrom_95 2 rfl ?_
        refine v_iconst (v := (1 : Int32)) K dX9_fewestSureFrom_96 (by decide) ?_
        refine v_iadd K dX9_fewestSureFrom_97 ?_
        refine v_topi hM (fun x8 hM => ?_)
        refine ld_X17 K dX9_fewestSureFrom_98 hM (fun hi9 hM => ?_)
        refine v_aload_n K dX9_fewestSureFrom_99 1 rfl ?_
        refine g_X9_5 K qf_X9_28 dX9_fewestSureFrom_100 ?_
        refine v_iload_n K dX9_fewestSureFrom_103 2 rfl ?_
        refine ld_X17 K dX9_fewestSureFrom_104 hM (fun hi10 hM => ?_)
        refine x_Vv (As := [.ref (ad (47 + 2 * l1.toNatClampNeg))]) (st := []) K uv_X1_copyFrom qm_X9_97 dX9_fewestSureFrom_105 (rv_X1 (isB_in hi9)) (fun _ h => c_X1_copyFrom l (47 + 2 * x8.toNatClampNeg) (isB_in hi9) (47 + 2 * l1.toNatClampNeg) (isB_in hi10) n  σ h) rfl ⟨(by simp only [rmH]; omega), (by simp only [rmH]; omega)⟩ (Nat.le_of_ble_eq_true rfl) hM (fun s11 hM => ?_)
        refine v_aload_n K dX9_fewestSureFrom_108 1 rfl ?_
        refine g_X9_5 K qf_X9_28 dX9_fewestSureFrom_109 ?_
        refine v_iload_n K dX9_fewestSureFrom_112 2 rfl ?_
        refine v_iconst (v := (1 : Int32)) K dX9_fewestSureFrom_113 (by decide) ?_
        refine v_iadd K dX9_fewestSureFrom_114 ?_
        refine v_topi hM (fun x12 hM => ?_)
        refine ld_X17 K dX9_fewestSureFrom_115 hM (fun hi13 hM => ?_)
        refine v_iload_n K dX9_fewestSureFrom_116 3 rfl ?_
        refine v_iload K dX9_fewestSureFrom_117 6 rfl ?_
        refine v_iconst (v := (1 : Int32)) K dX9_fewestSureFrom_119 (by decide) ?_
        refine x_Vv (As := [.int l2, .int l5, .int (1 : Int32)]) (st := []) K uv_X1_settle qm_X9_100 dX9_fewestSureFrom_120 (rv_X1 (isB_in hi13)) (fun _ h => c_X1_settle l (47 + 2 * x12.toNatClampNeg) (isB_in hi13) n l2 l5 (1 : Int32) s11 h) rfl ⟨(by simp only [rmH]; omega), (by simp only [rmH]; omega)⟩ (Nat.le_of_ble_eq_true rfl) hM (fun s14 hM => ?_)
        refine v_iload K dX9_fewestSureFrom_123 0 rfl ?_
        refine v_aload_n K dX9_fewestSureFrom_125 1 rfl ?_
        refine v_iload_n K dX9_fewestSureFrom_126 2 rfl ?_
        refine v_iconst (v := (1 : Int32)) K dX9_fewestSureFrom_127 (by decide) ?_
        refine v_iadd K dX9_fewestSureFrom_128 ?_
        refine v_iload_n K dX9_fewestSureFrom_129 3 rfl ?_
        refine v_iload_n K dX9_fewestSureFrom_130 4 rfl ?_
        refine x_Vi (As := [.int (l1 + (1 : Int32)), .int l2, .int l3]) (st := [.int (1 : Int32)]) K uv_X9_fewestSureFrom qm_X9_114 dX9_fewestSureFrom_131 rv_X9 (fun _ h => ih_r0 n (l1 + (1 : Int32)) l2 l3 s14 h) rfl ⟨by simp only [rmH]; omega, by simp only [rmH]; omega⟩ (Nat.le_of_ble_eq_true rfl) hM (fun r16 s15 hM => ?_)
        refine v_iadd K dX9_fewestSureFrom_134 ?_
        refine v_topi hM (fun x17 hM => ?_)
        refine v_istore K dX9_fewestSureFrom_135 (by decide) [(7, .int x17), (0, .ref (ad 14)), (1, .int l1), (2, .int l2), (3, .int l3), (4, .int l4), (5, .int l5), (6, .int l6)] rfl ?_
        exact v_sub [1, 2, 3, 4, 5, 6, 0] rfl (ih_4 l1 l2 l3 l4 l5 x17 s15 hM)
    · intro l1 l2 l3 l4 l5 l7 σ hM
      have hM : B_X9_fewestSureFrom_4 O (L_X9_fewestSureFrom O  n) n  l1 l2 l3 l4 l5 l7 σ = some res := hM
      refine v_iload K dX9_fewestSureFrom_137 4 rfl ?_
      refine v_iload K dX9_fewestSureFrom_139 6 rfl ?_
      refine x_mmin K qm_X9_118 qs_min qi_Math qk_min dX9_fewestSureFrom_141 (by simp only [rmH]; omega) (by simp [rmH, Value.category]; omega) ?_
      refine v_topi hM (fun x18 hM => ?_)
      refine v_istore K dX9_fewestSureFrom_144 (by decide) [(4, .int x18), (0, .ref (ad 14)), (1, .int l1), (2, .int l2), (3, .int l3), (5, .int l5), (7, .int l7)] rfl ?_
      refine v_iinc K dX9_fewestSureFrom_146 5 rfl (v := (l5 + (1 : Int32))) rfl (by decide) hM (fun y => [(5, .int y), (4, .int x18), (0, .ref (ad 14)), (1, .int l1), (2, .int l2), (3, .int l3), (7, .int l7)]) (fun _ => rfl) (fun x19 hM => ?_)
      refine v_goto (tgt := 21) K dX9_fewestSureFrom_149 (by decide) ?_
      exact v_sub [2, 3, 4, 5, 1, 0] rfl (ih_1 l1 l2 l3 x18 x19 σ hM)
set_option maxHeartbeats 4000000 in
set_option maxRecDepth 20000 in
theorem e_X9_fewestSureFrom (l : Launch) {D : va_G} {A : Nat → Prop} {ad : Nat → Nat} {dA : Nat → ClassId} (d : Nat) {O : Nat → Nat → Int32 → Int32 → Int32 → St → Option (Int32 × St)} (ih_r0 : ∀ (n : Nat) (p1 : Int32) (p2 : Int32) (p3 : Int32) (σ : St) {res : Int32 × St}, O 0 n p1 p2 p3 σ = some res → MI l yX9_fewestSureFrom cX9_fewestSureFrom 8 (some .int) (4 + d) D (tysX dA) (wdX ad dA) A [.ref (ad 14), .int p1, .int p2, .int p3] σ (QI D (wdX ad dA) A res))  (n : Nat) (p1 : Int32) (p2 : Int32) (p3 : Int32) (σ : St) {res : Int32 × St} (hM : E_X9_fewestSureFrom O n p1 p2 p3 σ = some res) : MI l yX9_fewestSureFrom cX9_fewestSureFrom 8 (some .int) (4 + d + 1) D (tysX dA) (wdX ad dA) A [.ref (ad 14), .int p1, .int p2, .int p3] σ (QI D (wdX ad dA) A res) := by
  refine mk_met (by decide +kernel) (Nat.le_of_ble_eq_true rfl) (fun p e s m below meth c K => ?_)
  have K : Cx p s m _ meth c cX9_fewestSureFrom 8 (some .int) RX9 D (tysX dA) (wdX ad dA) A := K
  obtain ⟨ih_1, ih_2, ih_3, ih_4⟩ := t_X9_fewestSureFrom l   d ih_r0 K (res := res) n (below := below) (e := e)
  refine v_sipush (v := (1000 : Int32)) K dX9_fewestSureFrom_0 (by decide) ?_
  refine v_istore K dX9_fewestSureFrom_3 (by decide) [(4, .int (1000 : Int32)), (0, .ref (ad 14)), (1, .int p1), (2, .int p2), (3, .int p3)] rfl ?_
  refine v_iload_n K dX9_fewestSureFrom_5 2 rfl ?_
  refine v_if_lt K 15 dX9_fewestSureFrom_6 (by decide) hM (fun hM => ?_) (fun hM => ?_)
  · refine v_iload K dX9_fewestSureFrom_15 0 rfl ?_
    exact v_iret K rfl dX9_fewestSureFrom_17 hM
  · refine v_iload_n K dX9_fewestSureFrom_9 2 rfl ?_
    refine v_bipush (v := (6 : Int32)) K dX9_fewestSureFrom_10 (by decide) ?_
    refine v_icmp_lt K 18 dX9_fewestSureFrom_12 (by decide) hM (fun hM => ?_) (fun hM => ?_)
    · refine v_iconst (v := (0 : Int32)) K dX9_fewestSureFrom_18 (by decide) ?_
      refine v_istore K dX9_fewestSureFrom_19 (by decide) [(5, .int (0 : Int32)), (4, .int (1000 : Int32)), (0, .ref (ad 14)), (1, .int p1), (2, .int p2), (3, .int p3)] rfl ?_
      exact v_sub [2, 3, 4, 5, 1, 0] rfl (ih_1 p1 p2 p3 (1000 : Int32) (0 : Int32) σ hM)
    · refine v_iload K dX9_fewestSureFrom_15 0 rfl ?_
      exact v_iret K rfl dX9_fewestSureFrom_17 hM
noncomputable def D_X9_fewestSureFrom (O : Nat → Nat → Int32 → Int32 → Int32 → St → Option (Int32 × St)) : Nat → Nat → Int32 → Int32 → Int32 → St → Option (Int32 × St) := fun mi n a0 a1 a2 σ => match mi with
  | 0 => E_X9_fewestSureFrom O n a0 a1 a2 σ
  | _ => none
noncomputable def F_X9_fewestSureFrom (d : Nat) : Nat → Nat → Int32 → Int32 → Int32 → St → Option (Int32 × St) := Nat.rec (fun _ _ _ _ _ _ => none) (fun _ O => D_X9_fewestSureFrom O) d
theorem r_X9_fewestSureFrom (l : Launch) {D : va_G} {A : Nat → Prop} {ad : Nat → Nat} {dA : Nat → ClassId} (d : Nat) : (∀ (n : Nat) (p1 : Int32) (p2 : Int32) (p3 : Int32) (σ : St) {res : Int32 × St}, F_X9_fewestSureFrom d 0 n p1 p2 p3 σ = some res → MI l yX9_fewestSureFrom cX9_fewestSureFrom 8 (some .int) (4 + d) D (tysX dA) (wdX ad dA) A [.ref (ad 14), .int p1, .int p2, .int p3] σ (QI D (wdX ad dA) A res)) := by
  induction d with
  | zero => exact (fun _ _ _ _ _ _ h => (by cases h))
  | succ d ih =>
    exact fun n p1 p2 p3 σ _ hM => e_X9_fewestSureFrom l d ih n p1 p2 p3 σ hM
theorem c_X9_fewestSureFrom (l : Launch) {D : va_G} {A : Nat → Prop} {ad : Nat → Nat} {dA : Nat → ClassId} (d n : Nat) (p1 : Int32) (p2 : Int32) (p3 : Int32) (σ : St) {res : Int32 × St} (hM : F_X9_fewestSureFrom d 0 n p1 p2 p3 σ = some res) : MI l yX9_fewestSureFrom cX9_fewestSureFrom 8 (some .int) (4 + d) D (tysX dA) (wdX ad dA) A [.ref (ad 14), .int p1, .int p2, .int p3] σ (QI D (wdX ad dA) A res) := (r_X9_fewestSureFrom l d) n p1 p2 p3 σ hM
noncomputable def F_X9_fewestSure (n : Nat) (b1 : Nat) (p2 : Int32) (p3 : Int32) (σ : St) : Option (Int32 × St) := gd (vp_in (0 : Int32) 7) (bd (F_X1_copyFrom n (47 + 2 * ((0 : Int32)).toNatClampNeg) b1 σ) fun _ s2 => bd (F_X9_fewestSureFrom 100 0 n (0 : Int32) p2 p3 s2) fun r4 s3 => if r4 ≤ (6 : Int32) then (some (r4, s3)) else (some ((-2 : Int32), s3)))
set_option maxHeartbeats 4000000 in
set_option maxRecDepth 20000 in
theorem c_X9_fewestSure (l : Launch) {D : va_G} {A : Nat → Prop} {ad : Nat → Nat} {dA : Nat → ClassId} (b1 : Nat) (hb1 : isB b1) (n : Nat) (p2 : Int32) (p3 : Int32) (σ : St) {res : Int32 × St} (hM : F_X9_fewestSure n b1 p2 p3 σ = some res) : MI l yX9_fewestSure cX9_fewestSure 5 (some .int) 105 D (tysX dA) (wdX ad dA) A [.ref (ad 14), .ref (ad b1), .int p2, .int p3] σ (QI D (wdX ad dA) A res) := by
  refine mk_met (by decide +kernel) (Nat.le_of_ble_eq_true rfl) (fun p e s m below meth c K => ?_)
  have K : Cx p s m _ meth c cX9_fewestSure 5 (some .int) RX9 D (tysX dA) (wdX ad dA) A := K
  refine v_aload_n K dX9_fewestSure_0 0 rfl ?_
  refine g_X9_5 K qf_X9_28 dX9_fewestSure_1 ?_
  refine v_iconst (v := (0 : Int32)) K dX9_fewestSure_4 (by decide) ?_
  refine ld_X17 K dX9_fewestSure_5 hM (fun hi1 hM => ?_)
  refine v_aload_n K dX9_fewestSure_6 1 rfl ?_
  refine x_Vv (As := [.ref (ad b1)]) (st := []) K uv_X1_copyFrom qm_X9_97 dX9_fewestSure_7 (rv_X1 (isB_in hi1)) (fun _ h => c_X1_copyFrom l (47 + 2 * ((0 : Int32)).toNatClampNeg) (isB_in hi1) b1 hb1 n  σ h) rfl ⟨(Nat.le_of_ble_eq_true rfl), (Nat.le_of_ble_eq_true rfl)⟩ (Nat.le_of_ble_eq_true rfl) hM (fun s2 hM => ?_)
  refine v_aload_n K dX9_fewestSure_10 0 rfl ?_
  refine v_iconst (v := (0 : Int32)) K dX9_fewestSure_11 (by decide) ?_
  refine v_iload_n K dX9_fewestSure_12 2 rfl ?_
  refine v_iload_n K dX9_fewestSure_13 3 rfl ?_
  refine x_Vi (As := [.int (0 : Int32), .int p2, .int p3]) (st := []) K uv_X9_fewestSureFrom qm_X9_114 dX9_fewestSure_14 rv_X9 (fun _ h => c_X9_fewestSureFrom l 100 n (0 : Int32) p2 p3 s2 h) rfl ⟨(Nat.le_of_ble_eq_true rfl), (Nat.le_of_ble_eq_true rfl)⟩ (Nat.le_of_ble_eq_true rfl) hM (fun r4 s3 hM => ?_)
  refine v_istore K dX9_fewestSure_17 (by decide) [(4, .int r4), (0, .ref (ad 14)), (1, .ref (ad b1)), (2, .int p2), (3, .int p3)] rfl ?_
  refine v_iload K dX9_fewestSure_19 0 rfl ?_
  refine v_bipush (v := (6 : Int32)) K dX9_fewestSure_21 (by decide) ?_
  refine v_icmp_le K 31 dX9_fewestSure_23 (by decide) hM (fun hM => ?_) (fun hM => ?_)
  · refine v_iload K dX9_fewestSure_31 0 rfl ?_
    exact v_iret K rfl dX9_fewestSure_33 hM
  · refine v_bipush (v := (-2 : Int32)) K dX9_fewestSure_26 (by decide) ?_
    refine v_goto (tgt := 33) K dX9_fewestSure_28 (by decide) ?_
    exact v_iret K rfl dX9_fewestSure_33 hM
