noncomputable def F_X12_in (n : Nat) (p0 : Int32) (p1 : Int32) (p2 : Int32) (σ : St) : Option (Int32 × St) := if p0 < p1 then (some ((0 : Int32), σ)) else (if p2 < p0 then (some ((0 : Int32), σ)) else (some ((1 : Int32), σ)))
set_option maxHeartbeats 4000000 in
set_option maxRecDepth 20000 in
theorem c_X12_in (l : Launch) {D : va_G} {A : Nat → Prop} {ad : Nat → Nat} {dA : Nat → ClassId}  (n : Nat) (p0 : Int32) (p1 : Int32) (p2 : Int32) (σ : St) {res : Int32 × St} (hM : F_X12_in n p0 p1 p2 σ = some res) : MI l yX12_in cX12_in 3 (some .boolean) 1 D (tysR dA) (wdR ad dA) A [.int p0, .int p1, .int p2] σ (QI D (wdR ad dA) A res) := by
  refine mk_met (by decide +kernel) (Nat.le_of_ble_eq_true rfl) (fun p e s m below meth c K => ?_)
  have K : Cx p s m _ meth c cX12_in 3 (some .boolean) RX12 D (tysR dA) (wdR ad dA) A := K
  refine v_iload_n K dX12_in_0 0 rfl ?_
  refine v_iload_n K dX12_in_1 1 rfl ?_
  refine v_icmp_lt K 14 dX12_in_2 (by decide) hM (fun hM => ?_) (fun hM => ?_)
  · refine v_iconst (v := (0 : Int32)) K dX12_in_14 (by decide) ?_
    exact v_zret K rfl rfl dX12_in_15 hM
  · refine v_iload_n K dX12_in_5 0 rfl ?_
    refine v_iload_n K dX12_in_6 2 rfl ?_
    refine v_icmp_gt K 14 dX12_in_7 (by decide) hM (fun hM => ?_) (fun hM => ?_)
    · refine v_iconst (v := (0 : Int32)) K dX12_in_14 (by decide) ?_
      exact v_zret K rfl rfl dX12_in_15 hM
    · refine v_iconst (v := (1 : Int32)) K dX12_in_10 (by decide) ?_
      refine v_goto (tgt := 15) K dX12_in_11 (by decide) ?_
      exact v_zret K rfl rfl dX12_in_15 hM
noncomputable def F_X12_isPerson (n : Nat) (p1 : Int32) (σ : St) : Option (Int32 × St) := bd (F_X12_in n p1 (0 : Int32) ((gI σ 0 1) - (1 : Int32)) σ) fun r2 s1 => gd (narrow .boolean (.int r2) = .int r2) (some (r2, s1))
set_option maxHeartbeats 4000000 in
set_option maxRecDepth 20000 in
theorem c_X12_isPerson (l : Launch) {D : va_G} {A : Nat → Prop} {ad : Nat → Nat} {dA : Nat → ClassId}  (n : Nat) (p1 : Int32) (σ : St) {res : Int32 × St} (hM : F_X12_isPerson n p1 σ = some res) : MI l yX12_isPerson cX12_isPerson 2 (some .boolean) 2 D (tysR dA) (wdR ad dA) A [.ref (ad 0), .int p1] σ (QI D (wdR ad dA) A res) := by
  refine mk_met (by decide +kernel) (Nat.le_of_ble_eq_true rfl) (fun p e s m below meth c K => ?_)
  have K : Cx p s m _ meth c cX12_isPerson 2 (some .boolean) RX12 D (tysR dA) (wdR ad dA) A := K
  refine v_iload_n K dX12_isPerson_0 1 rfl ?_
  refine v_iconst (v := (0 : Int32)) K dX12_isPerson_1 (by decide) ?_
  refine v_aload_n K dX12_isPerson_2 0 rfl ?_
  refine g_X12_1 K qf_X12_122 dX12_isPerson_3 ?_
  refine v_iconst (v := (1 : Int32)) K dX12_isPerson_6 (by decide) ?_
  refine v_isub K dX12_isPerson_7 ?_
  refine x_Si (As := [.int p1, .int (0 : Int32), .int ((gI σ 0 1) - (1 : Int32))]) (st := []) K us_X12_in qm_X12_125 dX12_isPerson_8 (fun _ h => c_X12_in l  n p1 (0 : Int32) ((gI σ 0 1) - (1 : Int32)) σ h) rfl ⟨(Nat.le_of_ble_eq_true rfl), (Nat.le_of_ble_eq_true rfl)⟩ (Nat.le_of_ble_eq_true rfl) hM (fun r2 s1 hM => ?_)
  exact v_zretG K rfl dX12_isPerson_11 hM
noncomputable def F_X12_areTwo (n : Nat) (p1 : Int32) (σ : St) : Option (Int32 × St) := if p1 < 0 then (some ((0 : Int32), σ)) else (gd (¬ (10 : Int32) = 0) (bnd (p1 / (10 : Int32)) fun x1 => bd (F_X12_isPerson n x1 σ) fun r3 s2 => if r3 = 0 then (some ((0 : Int32), s2)) else (gd (¬ (10 : Int32) = 0) (bnd (p1 - p1 / (10 : Int32) * (10 : Int32)) fun x4 => bd (F_X12_isPerson n x4 s2) fun r6 s5 => if r6 = 0 then (some ((0 : Int32), s5)) else (gd (¬ (10 : Int32) = 0) (bnd (p1 / (10 : Int32)) fun x7 => gd (¬ (10 : Int32) = 0) (bnd (p1 - p1 / (10 : Int32) * (10 : Int32)) fun x8 => if x7 = x8 then (some ((0 : Int32), s5)) else (some ((1 : Int32), s5)))))))))
set_option maxHeartbeats 4000000 in
set_option maxRecDepth 20000 in
theorem c_X12_areTwo (l : Launch) {D : va_G} {A : Nat → Prop} {ad : Nat → Nat} {dA : Nat → ClassId}  (n : Nat) (p1 : Int32) (σ : St) {res : Int32 × St} (hM : F_X12_areTwo n p1 σ = some res) : MI l yX12_areTwo cX12_areTwo 2 (some .boolean) 3 D (tysR dA) (wdR ad dA) A [.ref (ad 0), .int p1] σ (QI D (wdR ad dA) A res) := by
  refine mk_met (by decide +kernel) (Nat.le_of_ble_eq_true rfl) (fun p e s m below meth c K => ?_)
  have K : Cx p s m _ meth c cX12_areTwo 2 (some .boolean) RX12 D (tysR dA) (wdR ad dA) A := K
  refine v_iload_n K dX12_areTwo_0 1 rfl ?_
  refine v_if_lt K 41 dX12_areTwo_1 (by decide) hM (fun hM => ?_) (fun hM => ?_)
  · refine v_iconst (v := (0 : Int32)) K dX12_areTwo_41 (by decide) ?_
    exact v_zret K rfl rfl dX12_areTwo_42 hM
  · refine v_aload_n K dX12_areTwo_4 0 rfl ?_
    refine v_iload_n K dX12_areTwo_5 1 rfl ?_
    refine v_bipush (v := (10 : Int32)) K dX12_areTwo_6 (by decide) ?_
    refine v_idiv K dX12_areTwo_8 hM (fun hM => ?_)
    refine v_topi hM (fun x1 hM => ?_)
    refine x_Vi (As := [.int x1]) (st := []) K uv_X12_isPerson qm_X12_129 dX12_areTwo_9 rv_X12 (fun _ h => c_X12_isPerson l  n x1 σ h) rfl ⟨(Nat.le_of_ble_eq_true rfl), (Nat.le_of_ble_eq_true rfl)⟩ (Nat.le_of_ble_eq_true rfl) hM (fun r3 s2 hM => ?_)
    refine v_if_eq K 41 dX12_areTwo_12 (by decide) hM (fun hM => ?_) (fun hM => ?_)
    · refine v_iconst (v := (0 : Int32)) K dX12_areTwo_41 (by decide) ?_
      exact v_zret K rfl rfl dX12_areTwo_42 hM
    · refine v_aload_n K dX12_areTwo_15 0 rfl ?_
      refine v_iload_n K dX12_areTwo_16 1 rfl ?_
      refine v_bipush (v := (10 : Int32)) K dX12_areTwo_17 (by decide) ?_
      refine v_irem K dX12_areTwo_19 hM (fun hM => ?_)
      refine v_topi hM (fun x4 hM => ?_)
      refine x_Vi (As := [.int x4]) (st := []) K uv_X12_isPerson qm_X12_129 dX12_areTwo_20 rv_X12 (fun _ h => c_X12_isPerson l  n x4 s2 h) rfl ⟨(Nat.le_of_ble_eq_true rfl), (Nat.le_of_ble_eq_true rfl)⟩ (Nat.le_of_ble_eq_true rfl) hM (fun r6 s5 hM => ?_)
      refine v_if_eq K 41 dX12_areTwo_23 (by decide) hM (fun hM => ?_) (fun hM => ?_)
      · refine v_iconst (v := (0 : Int32)) K dX12_areTwo_41 (by decide) ?_
        exact v_zret K rfl rfl dX12_areTwo_42 hM
      · refine v_iload_n K dX12_areTwo_26 1 rfl ?_
        refine v_bipush (v := (10 : Int32)) K dX12_areTwo_27 (by decide) ?_
        refine v_idiv K dX12_areTwo_29 hM (fun hM => ?_)
        refine v_topi hM (fun x7 hM => ?_)
        refine v_iload_n K dX12_areTwo_30 1 rfl ?_
        refine v_bipush (v := (10 : Int32)) K dX12_areTwo_31 (by decide) ?_
        refine v_irem K dX12_areTwo_33 hM (fun hM => ?_)
        refine v_topi hM (fun x8 hM => ?_)
        refine v_icmp_eq K 41 dX12_areTwo_34 (by decide) hM (fun hM => ?_) (fun hM => ?_)
        · refine v_iconst (v := (0 : Int32)) K dX12_areTwo_41 (by decide) ?_
          exact v_zret K rfl rfl dX12_areTwo_42 hM
        · refine v_iconst (v := (1 : Int32)) K dX12_areTwo_37 (by decide) ?_
          refine v_goto (tgt := 42) K dX12_areTwo_38 (by decide) ?_
          exact v_zret K rfl rfl dX12_areTwo_42 hM
noncomputable def F_X12_addPerson (n : Nat) (p1 : Int32) (p2 : Int32) (p3 : Int32) (σ : St) : Option (Int32 × St) := gd (vp_in (gI σ 0 1) 7) (bnd (sI σ 1 ((gI σ 0 1)).toNatClampNeg p1) fun s1 => gd (vp_in (gI s1 0 1) 7) (bnd (sI s1 2 ((gI s1 0 1)).toNatClampNeg p2) fun s2 => gd (vp_in (gI s2 0 1) 7) (bnd (sI s2 3 ((gI s2 0 1)).toNatClampNeg p3) fun s3 => gd (vp_in (gI s3 0 1) 7) (bnd (sI s3 4 ((gI s3 0 1)).toNatClampNeg (5 : Int32)) fun s4 => gd (vp_in (gI s4 0 1) 7) (bnd (sI s4 18 ((gI s4 0 1)).toNatClampNeg (-1 : Int32)) fun s5 => bnd (sI s5 0 1 ((gI s5 0 1) + (1 : Int32))) fun s6 => some (((gI s6 0 1) - (1 : Int32)), s6))))))
set_option maxHeartbeats 4000000 in
set_option maxRecDepth 20000 in
theorem c_X12_addPerson (l : Launch) {D : va_G} {A : Nat → Prop} {ad : Nat → Nat} {dA : Nat → ClassId}  (n : Nat) (p1 : Int32) (p2 : Int32) (p3 : Int32) (σ : St) {res : Int32 × St} (hM : F_X12_addPerson n p1 p2 p3 σ = some res) : MI l yX12_addPerson cX12_addPerson 4 (some .int) 1 D (tysR dA) (wdR ad dA) A [.ref (ad 0), .int p1, .int p2, .int p3] σ (QI D (wdR ad dA) A res) := by
  refine mk_met (by decide +kernel) (Nat.le_of_ble_eq_true rfl) (fun p e s m below meth c K => ?_)
  have K : Cx p s m _ meth c cX12_addPerson 4 (some .int) RX12 D (tysR dA) (wdR ad dA) A := K
  refine v_aload_n K dX12_addPerson_0 0 rfl ?_
  refine g_X12_2 K qf_X12_9 dX12_addPerson_1 ?_
  refine v_aload_n K dX12_addPerson_4 0 rfl ?_
  refine g_X12_1 K qf_X12_122 dX12_addPerson_5 ?_
  refine v_iload_n K dX12_addPerson_8 1 rfl ?_
  refine st_R1 K dX12_addPerson_9 hM (fun s1 hM => ?_)
  refine v_aload_n K dX12_addPerson_10 0 rfl ?_
  refine g_X12_3 K qf_X12_15 dX12_addPerson_11 ?_
  refine v_aload_n K dX12_addPerson_14 0 rfl ?_
  refine g_X12_1 K qf_X12_122 dX12_addPerson_15 ?_
  refine v_iload_n K dX12_addPerson_18 2 rfl ?_
  refine st_R2 K dX12_addPerson_19 hM (fun s2 hM => ?_)
  refine v_aload_n K dX12_addPerson_20 0 rfl ?_
  refine g_X12_4 K qf_X12_18 dX12_addPerson_21 ?_
  refine v_aload_n K dX12_addPerson_24 0 rfl ?_
  refine g_X12_1 K qf_X12_122 dX12_addPerson_25 ?_
  refine v_iload_n K dX12_addPerson_28 3 rfl ?_
  refine st_R3 K dX12_addPerson_29 hM (fun s3 hM => ?_)
  refine v_aload_n K dX12_addPerson_30 0 rfl ?_
  refine g_X12_5 K qf_X12_21 dX12_addPerson_31 ?_
  refine v_aload_n K dX12_addPerson_34 0 rfl ?_
  refine g_X12_1 K qf_X12_122 dX12_addPerson_35 ?_
  refine v_iconst (v := (5 : Int32)) K dX12_addPerson_38 (by decide) ?_
  refine st_R4 K dX12_addPerson_39 hM (fun s4 hM => ?_)
  refine v_aload_n K dX12_addPerson_40 0 rfl ?_
  refine g_X12_28 K qf_X12_65 dX12_addPerson_41 ?_
  refine v_aload_n K dX12_addPerson_44 0 rfl ?_
  refine g_X12_1 K qf_X12_122 dX12_addPerson_45 ?_
  refine v_iconst (v := (-1 : Int32)) K dX12_addPerson_48 (by decide) ?_
  refine st_R18 K dX12_addPerson_49 hM (fun s5 hM => ?_)
  refine v_aload_n K dX12_addPerson_50 0 rfl ?_
  refine v_dup K dX12_addPerson_51 rfl ?_
  refine g_X12_1 K qf_X12_122 dX12_addPerson_52 ?_
  refine v_iconst (v := (1 : Int32)) K dX12_addPerson_55 (by decide) ?_
  refine v_iadd K dX12_addPerson_56 ?_
  refine p_X12_1 K qf_X12_122 dX12_addPerson_57 hM (fun s6 hM => ?_)
  refine v_aload_n K dX12_addPerson_60 0 rfl ?_
  refine g_X12_1 K qf_X12_122 dX12_addPerson_61 ?_
  refine v_iconst (v := (1 : Int32)) K dX12_addPerson_64 (by decide) ?_
  refine v_isub K dX12_addPerson_65 ?_
  exact v_iret K rfl dX12_addPerson_66 hM
noncomputable def F_X12_person (n : Nat) (p1 : Int32) (p2 : Int32) (σ : St) : Option (Int32 × St) := bd (F_X12_in n p1 (0 : Int32) (9 : Int32) σ) fun r2 s1 => if r2 = 0 then (some ((-1 : Int32), s1)) else (bd (F_X12_in n p2 (0 : Int32) (9 : Int32) s1) fun r4 s3 => if r4 = 0 then (some ((-1 : Int32), s3)) else (if (gI s3 0 1) = (7 : Int32) then (some ((-3 : Int32), s3)) else (bd (F_X12_addPerson n p1 p2 (gI s3 0 1) s3) fun r6 s5 => some (r6, s5))))
set_option maxHeartbeats 4000000 in
set_option maxRecDepth 20000 in
theorem c_X12_person (l : Launch) {D : va_G} {A : Nat → Prop} {ad : Nat → Nat} {dA : Nat → ClassId}  (n : Nat) (p1 : Int32) (p2 : Int32) (σ : St) {res : Int32 × St} (hM : F_X12_person n p1 p2 σ = some res) : MI l yX12_person cX12_person 3 (some .int) 2 D (tysR dA) (wdR ad dA) A [.ref (ad 0), .int p1, .int p2] σ (QI D (wdR ad dA) A res) := by
  refine mk_met (by decide +kernel) (Nat.le_of_ble_eq_true rfl) (fun p e s m below meth c K => ?_)
  have K : Cx p s m _ meth c cX12_person 3 (some .int) RX12 D (tysR dA) (wdR ad dA) A := K
  refine v_iload_n K dX12_person_0 1 rfl ?_
  refine v_iconst (v := (0 : Int32)) K dX12_person_1 (by decide) ?_
  refine v_bipush (v := (9 : Int32)) K dX12_person_2 (by decide) ?_
  refine x_Si (As := [.int p1, .int (0 : Int32), .int (9 : Int32)]) (st := []) K us_X12_in qm_X12_125 dX12_person_4 (fun _ h => c_X12_in l  n p1 (0 : Int32) (9 : Int32) σ h) rfl ⟨(Nat.le_of_ble_eq_true rfl), (Nat.le_of_ble_eq_true rfl)⟩ (Nat.le_of_ble_eq_true rfl) hM (fun r2 s1 hM => ?_)
  refine v_if_eq K 20 dX12_person_7 (by decide) hM (fun hM => ?_) (fun hM => ?_)
  · refine v_iconst (v := (-1 : Int32)) K dX12_person_20 (by decide) ?_
    exact v_iret K rfl dX12_person_21 hM
  · refine v_iload_n K dX12_person_10 2 rfl ?_
    refine v_iconst (v := (0 : Int32)) K dX12_person_11 (by decide) ?_
    refine v_bipush (v := (9 : Int32)) K dX12_person_12 (by decide) ?_
    refine x_Si (As := [.int p2, .int (0 : Int32), .int (9 : Int32)]) (st := []) K us_X12_in qm_X12_125 dX12_person_14 (fun _ h => c_X12_in l  n p2 (0 : Int32) (9 : Int32) s1 h) rfl ⟨(Nat.le_of_ble_eq_true rfl), (Nat.le_of_ble_eq_true rfl)⟩ (Nat.le_of_ble_eq_true rfl) hM (fun r4 s3 hM => ?_)
    refine v_if_ne K 22 dX12_person_17 (by decide) hM (fun hM => ?_) (fun hM => ?_)
    · refine v_aload_n K dX12_person_22 0 rfl ?_
      refine g_X12_1 K qf_X12_122 dX12_person_23 ?_
      refine v_bipush (v := (7 : Int32)) K dX12_person_26 (by decide) ?_
      refine v_icmp_ne K 36 dX12_person_28 (by decide) hM (fun hM => ?_) (fun hM => ?_)
      · refine v_aload_n K dX12_person_36 0 rfl ?_
        refine v_iload_n K dX12_person_37 1 rfl ?_
        refine v_iload_n K dX12_person_38 2 rfl ?_
        refine v_aload_n K dX12_person_39 0 rfl ?_
        refine g_X12_1 K qf_X12_122 dX12_person_40 ?_
        refine x_Vi (As := [.int p1, .int p2, .int (gI s3 0 1)]) (st := []) K uv_X12_addPerson qm_X12_133 dX12_person_43 rv_X12 (fun _ h => c_X12_addPerson l  n p1 p2 (gI s3 0 1) s3 h) rfl ⟨(Nat.le_of_ble_eq_true rfl), (Nat.le_of_ble_eq_true rfl)⟩ (Nat.le_of_ble_eq_true rfl) hM (fun r6 s5 hM => ?_)
        exact v_iret K rfl dX12_person_46 hM
      · refine v_bipush (v := (-3 : Int32)) K dX12_person_31 (by decide) ?_
        refine v_goto (tgt := 46) K dX12_person_33 (by decide) ?_
        exact v_iret K rfl dX12_person_46 hM
    · refine v_iconst (v := (-1 : Int32)) K dX12_person_20 (by decide) ?_
      exact v_iret K rfl dX12_person_21 hM
noncomputable def F_X12_isShelf (n : Nat) (p0 : Int32) (σ : St) : Option (Int32 × St) := bd (F_X12_in n p0 (0 : Int32) (5 : Int32) σ) fun r2 s1 => gd (narrow .boolean (.int r2) = .int r2) (some (r2, s1))
set_option maxHeartbeats 4000000 in
set_option maxRecDepth 20000 in
theorem c_X12_isShelf (l : Launch) {D : va_G} {A : Nat → Prop} {ad : Nat → Nat} {dA : Nat → ClassId}  (n : Nat) (p0 : Int32) (σ : St) {res : Int32 × St} (hM : F_X12_isShelf n p0 σ = some res) : MI l yX12_isShelf cX12_isShelf 1 (some .boolean) 2 D (tysR dA) (wdR ad dA) A [.int p0] σ (QI D (wdR ad dA) A res) := by
  refine mk_met (by decide +kernel) (Nat.le_of_ble_eq_true rfl) (fun p e s m below meth c K => ?_)
  have K : Cx p s m _ meth c cX12_isShelf 1 (some .boolean) RX12 D (tysR dA) (wdR ad dA) A := K
  refine v_iload_n K dX12_isShelf_0 0 rfl ?_
  refine v_iconst (v := (0 : Int32)) K dX12_isShelf_1 (by decide) ?_
  refine v_iconst (v := (5 : Int32)) K dX12_isShelf_2 (by decide) ?_
  refine x_Si (As := [.int p0, .int (0 : Int32), .int (5 : Int32)]) (st := []) K us_X12_in qm_X12_125 dX12_isShelf_3 (fun _ h => c_X12_in l  n p0 (0 : Int32) (5 : Int32) σ h) rfl ⟨(Nat.le_of_ble_eq_true rfl), (Nat.le_of_ble_eq_true rfl)⟩ (Nat.le_of_ble_eq_true rfl) hM (fun r2 s1 hM => ?_)
  exact v_zretG K rfl dX12_isShelf_6 hM
noncomputable def B_X12_people_1 (J : Nat → Int32 → Int32 → Int32 → Int32 → St → Option (Int32 × St)) (n : Nat)  (l1 : Int32) (l2 : Int32) (l3 : Int32) (σ : St) : Option (Int32 × St) := gd (vp_in l1 6) (if (gI σ 31 (l1).toNatClampNeg) = (-1 : Int32) then (some ((0 : Int32), σ)) else (J 2 l1 l2 l3 (0 : Int32) σ))
noncomputable def B_X12_people_2 (J : Nat → Int32 → Int32 → Int32 → Int32 → St → Option (Int32 × St)) (n : Nat)  (l1 : Int32) (l2 : Int32) (l3 : Int32) (l4 : Int32) (σ : St) : Option (Int32 × St) := if l3 ≤ l4 then (some (l3, σ)) else (bnd (((l2).toInt64) + ((((3 : Int32) * l4)).toInt64)) fun x5 => if (lg_cmp x5 (0 : Int64)) < 0 then (some (l4, σ)) else (gd (vp_in l1 6) (if 0 ≤ (lg_cmp (x5 + (2 : Int64)) (((gI σ 32 (l1).toNatClampNeg)).toInt64)) then (some (l4, σ)) else (if (gI σ 0 1) = (7 : Int32) then (some (l4, σ)) else (bnd (((60 : Int32) * l1) + ((x5).toInt32)) fun x6 => gd (vp_in x6 360) (bd (F_X12_in n (((gL σ 33 (x6).toNatClampNeg)).toInt32) (0 : Int32) (9 : Int32) σ) fun r8 s7 => if r8 = 0 then (some (l4, s7)) else (gd (vp_in (x6 + (1 : Int32)) 360) (bd (F_X12_in n (((gL s7 33 ((x6 + (1 : Int32))).toNatClampNeg)).toInt32) (0 : Int32) (9 : Int32) s7) fun r10 s9 => if r10 = 0 then (some (l4, s9)) else (gd (vp_in (x6 + (2 : Int32)) 360) (bd (F_X12_in n (((gL s9 33 ((x6 + (2 : Int32))).toNatClampNeg)).toInt32) (0 : Int32) (6 : Int32) s9) fun r12 s11 => if r12 = 0 then (some (l4, s11)) else (gd (vp_in x6 360) (gd (vp_in (x6 + (1 : Int32)) 360) (gd (vp_in (x6 + (2 : Int32)) 360) (bd (F_X12_addPerson n (((gL s11 33 (x6).toNatClampNeg)).toInt32) (((gL s11 33 ((x6 + (1 : Int32))).toNatClampNeg)).toInt32) (((gL s11 33 ((x6 + (2 : Int32))).toNatClampNeg)).toInt32) s11) fun r14 s13 => bnd (l4 + (1 : Int32)) fun x15 => J 2 l1 l2 l3 x15 s13))))))))))))))
noncomputable def S_X12_people  (n : Nat) (J : Nat → Int32 → Int32 → Int32 → Int32 → St → Option (Int32 × St)) : Nat → Int32 → Int32 → Int32 → Int32 → St → Option (Int32 × St) := fun lb a0 a1 a2 a3 σ => match lb with
  | 1 => B_X12_people_1 J n  a0 a1 a2 σ
  | 2 => B_X12_people_2 J n  a0 a1 a2 a3 σ
  | _ => none
noncomputable def L_X12_people  (n : Nat) : Nat → Int32 → Int32 → Int32 → Int32 → St → Option (Int32 × St) := Nat.rec (fun _ _ _ _ _ _ => none) (fun n J => S_X12_people  n J) n
noncomputable def F_X12_people (n : Nat) (p1 : Int32) (p2 : Int32) (p3 : Int32) (σ : St) : Option (Int32 × St) := bd (F_X12_isShelf n p1 σ) fun r2 s1 => if r2 = 0 then (some ((-1 : Int32), s1)) else (bd (F_X12_in n p3 (1 : Int32) (7 : Int32) s1) fun r4 s3 => if r4 = 0 then (some ((-1 : Int32), s3)) else (gd (vp_in p1 6) (if (gI s3 31 (p1).toNatClampNeg) = (-1 : Int32) then (L_X12_people  n 1 p1 p2 p3 0 s3) else (gd (vp_in p1 6) (if (gI s3 31 (p1).toNatClampNeg) = (-2 : Int32) then (L_X12_people  n 1 p1 p2 p3 0 s3) else (some ((-12 : Int32), s3)))))))
set_option maxHeartbeats 4000000 in
set_option maxRecDepth 20000 in
theorem t_X12_people (l : Launch) {p : Program} {e : Env} {s : State} {m : MethodId} {args : Array Value} {below : List Frame} {meth : Method} {c : Code} {D : va_G} {A : Nat → Prop} {ad : Nat → Nat} {dA : Nat → ClassId}   (K : Cx p s m args meth c cX12_people 8 (some .int) RX12 D (tysR dA) (wdR ad dA) A) {res : Int32 × St} (n : Nat) : (∀ (l1 : Int32) (l2 : Int32) (l3 : Int32) (σ : St), L_X12_people  n 1 l1 l2 l3 0 σ = some res → V p l e (rmH 3) s m args below meth c 8 D (wdR ad dA) A (MQ below (QI D (wdR ad dA) A res) args s 0 0 A) 43 [(0, .ref (ad 0)), (1, .int l1), (2, .int l2), (3, .int l3)] [] σ) ∧ (∀ (l1 : Int32) (l2 : Int32) (l3 : Int32) (l4 : Int32) (σ : St), L_X12_people  n 2 l1 l2 l3 l4 σ = some res → V p l e (rmH 3) s m args below meth c 8 D (wdR ad dA) A (MQ below (QI D (wdR ad dA) A res) args s 0 0 A) 58 [(0, .ref (ad 0)), (1, .int l1), (2, .int l2), (3, .int l3), (4, .int l4)] [] σ) := by
  induction n with
  | zero => exact ⟨fun _ _ _ _ h => (by cases h), fun _ _ _ _ _ h => (by cases h)⟩
  | succ n ih =>
    obtain ⟨ih_1, ih_2⟩ := ih
    refine ⟨?_, ?_⟩
    · intro l1 l2 l3 σ hM
      have hM : B_X12_people_1 (L_X12_people  n) n  l1 l2 l3 σ = some res := hM
      refine v_aload_n K dX12_people_43 0 rfl ?_
      refine g_X12_54 K qf_X12_105 dX12_people_44 ?_
      refine v_iload_n K dX12_people_47 1 rfl ?_
      refine ld_R31 K dX12_people_48 hM (fun hM => ?_)
      refine v_iconst (v := (-1 : Int32)) K dX12_people_49 (by decide) ?_
      refine v_icmp_ne K 55 dX12_people_50 (by decide) hM (fun hM => ?_) (fun hM => ?_)
      · refine v_iconst (v := (0 : Int32)) K dX12_people_55 (by decide) ?_
        refine v_istore K dX12_people_56 (by decide) [(4, .int (0 : Int32)), (0, .ref (ad 0)), (1, .int l1), (2, .int l2), (3, .int l3)] rfl ?_
        exact v_sub [1, 2, 3, 4, 0] rfl (ih_2 l1 l2 l3 (0 : Int32) σ hM)
      · refine v_iconst (v := (0 : Int32)) K dX12_people_53 (by decide) ?_
        exact v_iret K rfl dX12_people_54 hM
    · intro l1 l2 l3 l4 σ hM
      have hM : B_X12_people_2 (L_X12_people  n) n  l1 l2 l3 l4 σ = some res := hM
      refine v_iload K dX12_people_58 4 rfl ?_
      refine v_iload_n K dX12_people_60 3 rfl ?_
      refine v_icmp_ge K 217 dX12_people_61 (by decide) hM (fun hM => ?_) (fun hM => ?_)
      · refine v_iload_n K dX12_people_217 3 rfl ?_
        exact v_iret K rfl dX12_people_218 hM
      · refine v_iload_n K dX12_people_64 2 rfl ?_
        refine v_i2l K dX12_people_65 ?_
        refine v_iconst (v := (3 : Int32)) K dX12_people_66 (by decide) ?_
        refine v_iload K dX12_people_67 4 rfl ?_
        refine v_imul K dX12_people_69 ?_
        refine v_i2l K dX12_people_70 ?_
        refine v_ladd K dX12_people_71 ?_
        refine v_topl hM (fun x5 hM => ?_)
        refine v_lstore K dX12_people_72 (by decide) [(5, .long x5), (0, .ref (ad 0)), (1, .int l1), (2, .int l2), (3, .int l3), (4, .int l4)] rfl ?_
        refine v_lload K dX12_people_74 0 rfl ?_
        refine v_lconst (v := (0 : Int64)) K dX12_people_76 (by decide) ?_
        refine v_lcmp K dX12_people_77 ?_
        refine v_if_lt K 107 dX12_people_78 (by decide) hM (fun hM => ?_) (fun hM => ?_)
        · refine v_iload K dX12_people_107 5 rfl ?_
          exact v_iret K rfl dX12_people_109 hM
        · refine v_lload K dX12_people_81 0 rfl ?_
          refine v_ldc2 (v := (2 : Int64)) K ql_X12_140 dX12_people_83 ?_
          refine v_ladd K dX12_people_86 ?_
          refine v_aload_n K dX12_people_87 1 rfl ?_
          refine g_X12_55 K qf_X12_108 dX12_people_88 ?_
          refine v_iload_n K dX12_people_91 2 rfl ?_
          refine ld_R32 K dX12_people_92 hM (fun hM => ?_)
          refine v_i2l K dX12_people_93 ?_
          refine v_lcmp K dX12_people_94 ?_
          refine v_if_ge K 107 dX12_people_95 (by decide) hM (fun hM => ?_) (fun hM => ?_)
          · refine v_iload K dX12_people_107 5 rfl ?_
            exact v_iret K rfl dX12_people_109 hM
          · refine v_aload_n K dX12_people_98 1 rfl ?_
            refine g_X12_1 K qf_X12_122 dX12_people_99 ?_
            refine v_bipush (v := (7 : Int32)) K dX12_people_102 (by decide) ?_
            refine v_icmp_ne K 110 dX12_people_104 (by decide) hM (fun hM => ?_) (fun hM => ?_)
            · refine v_bipush (v := (60 : Int32)) K dX12_people_110 (by decide) ?_
              refine v_iload_n K dX12_people_112 2 rfl ?_
              refine v_imul K dX12_people_113 ?_
              refine v_lload K dX12_people_114 0 rfl ?_
              refine v_l2i K dX12_people_116 ?_
              refine v_iadd K dX12_people_117 ?_
              refine v_topi hM (fun x6 hM => ?_)
              refine v_istore K dX12_people_118 (by decide) [(7, .int x6), (5, .long x5), (0, .ref (ad 0)), (1, .int l1), (2, .int l2), (3, .int l3), (4, .int l4)] rfl ?_
              refine v_aload_n K dX12_people_120 2 rfl ?_
              refine g_X12_56 K qf_X12_111 dX12_people_121 ?_
              refine v_iload K dX12_people_124 0 rfl ?_
              refine ld_R33 K dX12_people_126 hM (fun hM => ?_)
              refine v_l2i K dX12_people_127 ?_
              refine v_iconst (v := (0 : Int32)) K dX12_people_128 (by decide) ?_
              refine v_bipush (v := (9 : Int32)) K dX12_people_129 (by decide) ?_
              refine x_Si (As := [.int (((gL σ 33 (x6).toNatClampNeg)).toInt32), .int (0 : Int32), .int (9 : Int32)]) (st := []) K us_X12_in qm_X12_125 dX12_people_131 (fun _ h => c_X12_in l  n (((gL σ 33 (x6).toNatClampNeg)).toInt32) (0 : Int32) (9 : Int32) σ h) rfl ⟨(Nat.le_of_ble_eq_true rfl), (Nat.le_of_ble_eq_true rfl)⟩ (Nat.le_of_ble_eq_true rfl) hM (fun r8 s7 hM => ?_)
              refine v_if_eq K 175 dX12_people_134 (by decide) hM (fun hM => ?_) (fun hM => ?_)
              · refine v_iload K dX12_people_175 6 rfl ?_
                exact v_iret K rfl dX12_people_177 hM
              · refine v_aload_n K dX12_people_137 2 rfl ?_
                refine g_X12_56 K qf_X12_111 dX12_people_138 ?_
                refine v_iload K dX12_people_141 0 rfl ?_
                refine v_iconst (v := (1 : Int32)) K dX12_people_143 (by decide) ?_
                refine v_iadd K dX12_people_144 ?_
                refine ld_R33 K dX12_people_145 hM (fun hM => ?_)
                refine v_l2i K dX12_people_146 ?_
                refine v_iconst (v := (0 : Int32)) K dX12_people_147 (by decide) ?_
                refine v_bipush (v := (9 : Int32)) K dX12_people_148 (by decide) ?_
                refine x_Si (As := [.int (((gL s7 33 ((x6 + (1 : Int32))).toNatClampNeg)).toInt32), .int (0 : Int32), .int (9 : Int32)]) (st := []) K us_X12_in qm_X12_125 dX12_people_150 (fun _ h => c_X12_in l  n (((gL s7 33 ((x6 + (1 : Int32))).toNatClampNeg)).toInt32) (0 : Int32) (9 : Int32) s7 h) rfl ⟨(Nat.le_of_ble_eq_true rfl), (Nat.le_of_ble_eq_true rfl)⟩ (Nat.le_of_ble_eq_true rfl) hM (fun r10 s9 hM => ?_)
                refine v_if_eq K 175 dX12_people_153 (by decide) hM (fun hM => ?_) (fun hM => ?_)
                · refine v_iload K dX12_people_175 6 rfl ?_
                  exact v_iret K rfl dX12_people_177 hM
                · refine v_aload_n K dX12_people_156 2 rfl ?_
                  refine g_X12_56 K qf_X12_111 dX12_people_157 ?_
                  refine v_iload K dX12_people_160 0 rfl ?_
                  refine v_iconst (v := (2 : Int32)) K dX12_people_162 (by decide) ?_
                  refine v_iadd K dX12_people_163 ?_
                  refine ld_R33 K dX12_people_164 hM (fun hM => ?_)
                  refine v_l2i K dX12_people_165 ?_
                  refine v_iconst (v := (0 : Int32)) K dX12_people_166 (by decide) ?_
                  refine v_bipush (v := (6 : Int32)) K dX12_people_167 (by decide) ?_
                  refine x_Si (As := [.int (((gL s9 33 ((x6 + (2 : Int32))).toNatClampNeg)).toInt32), .int (0 : Int32), .int (6 : Int32)]) (st := []) K us_X12_in qm_X12_125 dX12_people_169 (fun _ h => c_X12_in l  n (((gL s9 33 ((x6 + (2 : Int32))).toNatClampNeg)).toInt32) (0 : Int32) (6 : Int32) s9 h) rfl ⟨(Nat.le_of_ble_eq_true rfl), (Nat.le_of_ble_eq_true rfl)⟩ (Nat.le_of_ble_eq_true rfl) hM (fun r12 s11 hM => ?_)
                  refine v_if_ne K 178 dX12_people_172 (by decide) hM (fun hM => ?_) (fun hM => ?_)
                  · refine v_aload_n K dX12_people_178 2 rfl ?_
                    refine v_aload_n K dX12_people_179 2 rfl ?_
                    refine g_X12_56 K qf_X12_111 dX12_people_180 ?_
                    refine v_iload K dX12_people_183 0 rfl ?_
                    refine ld_R33 K dX12_people_185 hM (fun hM => ?_)
                    refine v_l2i K dX12_people_186 ?_
                    refine v_aload_n K dX12_people_187 2 rfl ?_
                    refine g_X12_56 K qf_X12_111 dX12_people_188 ?_
                    refine v_iload K dX12_people_191 0 rfl ?_
                    refine v_iconst (v := (1 : Int32)) K dX12_people_193 (by decide) ?_
                    refine v_iadd K dX12_people_194 ?_
                    refine ld_R33 K dX12_people_195 hM (fun hM => ?_)
                    refine v_l2i K dX12_people_196 ?_
                    refine v_aload_n K dX12_people_197 2 rfl ?_
                    refine g_X12_56 K qf_X12_111 dX12_people_198 ?_
                    refine v_iload K dX12_people_201 0 rfl ?_
                    refine v_iconst (v := (2 : Int32)) K dX12_people_203 (by decide) ?_
                    refine v_iadd K dX12_people_204 ?_
                    refine ld_R33 K dX12_people_205 hM (fun hM => ?_)
                    refine v_l2i K dX12_people_206 ?_
                    refine x_Vi (As := [.int (((gL s11 33 (x6).toNatClampNeg)).toInt32), .int (((gL s11 33 ((x6 + (1 : Int32))).toNatClampNeg)).toInt32), .int (((gL s11 33 ((x6 + (2 : Int32))).toNatClampNeg)).toInt32)]) (st := []) K uv_X12_addPerson qm_X12_133 dX12_people_207 rv_X12 (fun _ h => c_X12_addPerson l  n (((gL s11 33 (x6).toNatClampNeg)).toInt32) (((gL s11 33 ((x6 + (1 : Int32))).toNatClampNeg)).toInt32) (((gL s11 33 ((x6 + (2 : Int32))).toNatClampNeg)).toInt32) s11 h) rfl ⟨(Nat.le_of_ble_eq_true rfl), (Nat.le_of_ble_eq_true rfl)⟩ (Nat.le_of_ble_eq_true rfl) hM (fun r14 s13 hM => ?_)
                    refine v_pop K dX12_people_210 rfl ?_
                    refine v_iinc K dX12_people_211 6 rfl (v := (l4 + (1 : Int32))) rfl (by decide) hM (fun y => [(4, .int y), (7, .int x6), (5, .long x5), (0, .ref (ad 0)), (1, .int l1), (2, .int l2), (3, .int l3)]) (fun _ => rfl) (fun x15 hM => ?_)
                    refine v_goto (tgt := 58) K dX12_people_214 (by decide) ?_
                    exact v_sub [3, 4, 5, 6, 0] rfl (ih_2 l1 l2 l3 x15 s13 hM)
                  · refine v_iload K dX12_people_175 6 rfl ?_
                    exact v_iret K rfl dX12_people_177 hM
            · refine v_iload K dX12_people_107 5 rfl ?_
              exact v_iret K rfl dX12_people_109 hM
set_option maxHeartbeats 4000000 in
set_option maxRecDepth 20000 in
theorem c_X12_people (l : Launch) {D : va_G} {A : Nat → Prop} {ad : Nat → Nat} {dA : Nat → ClassId}  (n : Nat) (p1 : Int32) (p2 : Int32) (p3 : Int32) (σ : St) {res : Int32 × St} (hM : F_X12_people n p1 p2 p3 σ = some res) : MI l yX12_people cX12_people 8 (some .int) 3 D (tysR dA) (wdR ad dA) A [.ref (ad 0), .int p1, .int p2, .int p3] σ (QI D (wdR ad dA) A res) := by
  refine mk_met (by decide +kernel) (Nat.le_of_ble_eq_true rfl) (fun p e s m below meth c K => ?_)
  have K : Cx p s m _ meth c cX12_people 8 (some .int) RX12 D (tysR dA) (wdR ad dA) A := K
  obtain ⟨ih_1, ih_2⟩ := t_X12_people l    K (res := res) n (below := below) (e := e)
  refine v_iload_n K dX12_people_0 1 rfl ?_
  refine x_Si (As := [.int p1]) (st := []) K us_X12_isShelf qm_X12_137 dX12_people_1 (fun _ h => c_X12_isShelf l  n p1 σ h) rfl ⟨(Nat.le_of_ble_eq_true rfl), (Nat.le_of_ble_eq_true rfl)⟩ (Nat.le_of_ble_eq_true rfl) hM (fun r2 s1 hM => ?_)
  refine v_if_eq K 17 dX12_people_4 (by decide) hM (fun hM => ?_) (fun hM => ?_)
  · refine v_iconst (v := (-1 : Int32)) K dX12_people_17 (by decide) ?_
    exact v_iret K rfl dX12_people_18 hM
  · refine v_iload_n K dX12_people_7 3 rfl ?_
    refine v_iconst (v := (1 : Int32)) K dX12_people_8 (by decide) ?_
    refine v_bipush (v := (7 : Int32)) K dX12_people_9 (by decide) ?_
    refine x_Si (As := [.int p3, .int (1 : Int32), .int (7 : Int32)]) (st := []) K us_X12_in qm_X12_125 dX12_people_11 (fun _ h => c_X12_in l  n p3 (1 : Int32) (7 : Int32) s1 h) rfl ⟨(Nat.le_of_ble_eq_true rfl), (Nat.le_of_ble_eq_true rfl)⟩ (Nat.le_of_ble_eq_true rfl) hM (fun r4 s3 hM => ?_)
    refine v_if_ne K 19 dX12_people_14 (by decide) hM (fun hM => ?_) (fun hM => ?_)
    · refine v_aload_n K dX12_people_19 0 rfl ?_
      refine g_X12_54 K qf_X12_105 dX12_people_20 ?_
      refine v_iload_n K dX12_people_23 1 rfl ?_
      refine ld_R31 K dX12_people_24 hM (fun hM => ?_)
      refine v_iconst (v := (-1 : Int32)) K dX12_people_25 (by decide) ?_
      refine v_icmp_eq K 43 dX12_people_26 (by decide) hM (fun hM => ?_) (fun hM => ?_)
      · exact v_sub [0, 1, 2, 3] rfl (ih_1 p1 p2 p3 s3 hM)
      · refine v_aload_n K dX12_people_29 0 rfl ?_
        refine g_X12_54 K qf_X12_105 dX12_people_30 ?_
        refine v_iload_n K dX12_people_33 1 rfl ?_
        refine ld_R31 K dX12_people_34 hM (fun hM => ?_)
        refine v_bipush (v := (-2 : Int32)) K dX12_people_35 (by decide) ?_
        refine v_icmp_eq K 43 dX12_people_37 (by decide) hM (fun hM => ?_) (fun hM => ?_)
        · exact v_sub [0, 1, 2, 3] rfl (ih_1 p1 p2 p3 s3 hM)
        · refine v_bipush (v := (-12 : Int32)) K dX12_people_40 (by decide) ?_
          exact v_iret K rfl dX12_people_42 hM
    · refine v_iconst (v := (-1 : Int32)) K dX12_people_17 (by decide) ?_
      exact v_iret K rfl dX12_people_18 hM
noncomputable def F_X12_valueAt (n : Nat) (p1 : Int32) (p2 : Int32) (σ : St) : Option (Int32 × St) := if p1 = (0 : Int32) then (gd (vp_in p2 7) (some ((gI σ 1 (p2).toNatClampNeg), σ))) else (if p1 = (1 : Int32) then (gd (vp_in p2 7) (some ((gI σ 2 (p2).toNatClampNeg), σ))) else (if p1 = (2 : Int32) then (gd (vp_in p2 7) (some ((gI σ 3 (p2).toNatClampNeg), σ))) else (gd (vp_in p2 7) (some ((gI σ 4 (p2).toNatClampNeg), σ)))))
set_option maxHeartbeats 4000000 in
set_option maxRecDepth 20000 in
theorem c_X12_valueAt (l : Launch) {D : va_G} {A : Nat → Prop} {ad : Nat → Nat} {dA : Nat → ClassId}  (n : Nat) (p1 : Int32) (p2 : Int32) (σ : St) {res : Int32 × St} (hM : F_X12_valueAt n p1 p2 σ = some res) : MI l yX12_valueAt cX12_valueAt 3 (some .int) 1 D (tysR dA) (wdR ad dA) A [.ref (ad 0), .int p1, .int p2] σ (QI D (wdR ad dA) A res) := by
  refine mk_met (by decide +kernel) (Nat.le_of_ble_eq_true rfl) (fun p e s m below meth c K => ?_)
  have K : Cx p s m _ meth c cX12_valueAt 3 (some .int) RX12 D (tysR dA) (wdR ad dA) A := K
  refine v_iload_n K dX12_valueAt_0 1 rfl ?_
  rcases ite_inv hM with ⟨hx1, hM⟩ | ⟨hx1, hM⟩
  · refine v_tabI K dX12_valueAt_1 (k := (0 : Int32)) hx1 (by decide) (by decide) (off := 27) (by decide) (tgt := 28) (by decide) ?_
    refine v_aload_n K dX12_valueAt_28 0 rfl ?_
    refine g_X12_2 K qf_X12_9 dX12_valueAt_29 ?_
    refine v_iload_n K dX12_valueAt_32 2 rfl ?_
    refine ld_R1 K dX12_valueAt_33 hM (fun hM => ?_)
    exact v_iret K rfl dX12_valueAt_34 hM
  rcases ite_inv hM with ⟨hx2, hM⟩ | ⟨hx2, hM⟩
  · refine v_tabI K dX12_valueAt_1 (k := (1 : Int32)) hx2 (by decide) (by decide) (off := 34) (by decide) (tgt := 35) (by decide) ?_
    refine v_aload_n K dX12_valueAt_35 0 rfl ?_
    refine g_X12_3 K qf_X12_15 dX12_valueAt_36 ?_
    refine v_iload_n K dX12_valueAt_39 2 rfl ?_
    refine ld_R2 K dX12_valueAt_40 hM (fun hM => ?_)
    exact v_iret K rfl dX12_valueAt_41 hM
  rcases ite_inv hM with ⟨hx3, hM⟩ | ⟨hx3, hM⟩
  · refine v_tabI K dX12_valueAt_1 (k := (2 : Int32)) hx3 (by decide) (by decide) (off := 41) (by decide) (tgt := 42) (by decide) ?_
    refine v_aload_n K dX12_valueAt_42 0 rfl ?_
    refine g_X12_4 K qf_X12_18 dX12_valueAt_43 ?_
    refine v_iload_n K dX12_valueAt_46 2 rfl ?_
    refine ld_R3 K dX12_valueAt_47 hM (fun hM => ?_)
    exact v_iret K rfl dX12_valueAt_48 hM
  refine v_tabO K dX12_valueAt_1 (by have a0 : p1.toInt ≠ 0 := ne_toInt hx1; have a1 : p1.toInt ≠ 1 := ne_toInt hx2; have a2 : p1.toInt ≠ 2 := ne_toInt hx3; omega) (tgt := 49) (by decide) ?_
  refine v_aload_n K dX12_valueAt_49 0 rfl ?_
  refine g_X12_5 K qf_X12_21 dX12_valueAt_50 ?_
  refine v_iload_n K dX12_valueAt_53 2 rfl ?_
  refine ld_R4 K dX12_valueAt_54 hM (fun hM => ?_)
  exact v_iret K rfl dX12_valueAt_55 hM
noncomputable def F_X12_lays (n : Nat) (p1 : Int32) (p2 : Int32) (p3 : Int32) (σ : St) : Option (Unit × St) := if p1 = (0 : Int32) then (gd (vp_in p2 7) (bnd (sI σ 1 (p2).toNatClampNeg p3) fun s1 => some ((), s1))) else (if p1 = (1 : Int32) then (gd (vp_in p2 7) (bnd (sI σ 2 (p2).toNatClampNeg p3) fun s3 => some ((), s3))) else (if p1 = (2 : Int32) then (gd (vp_in p2 7) (bnd (sI σ 3 (p2).toNatClampNeg p3) fun s5 => some ((), s5))) else (gd (vp_in p2 7) (bnd (sI σ 4 (p2).toNatClampNeg p3) fun s7 => some ((), s7)))))
set_option maxHeartbeats 4000000 in
set_option maxRecDepth 20000 in
theorem c_X12_lays (l : Launch) {D : va_G} {A : Nat → Prop} {ad : Nat → Nat} {dA : Nat → ClassId}  (n : Nat) (p1 : Int32) (p2 : Int32) (p3 : Int32) (σ : St) {res : Unit × St} (hM : F_X12_lays n p1 p2 p3 σ = some res) : MI l yX12_lays cX12_lays 4 none 1 D (tysR dA) (wdR ad dA) A [.ref (ad 0), .int p1, .int p2, .int p3] σ (QV D (wdR ad dA) A res) := by
  refine mk_met (by decide +kernel) (Nat.le_of_ble_eq_true rfl) (fun p e s m below meth c K => ?_)
  have K : Cx p s m _ meth c cX12_lays 4 none RX12 D (tysR dA) (wdR ad dA) A := K
  refine v_iload_n K dX12_lays_0 1 rfl ?_
  rcases ite_inv hM with ⟨hx2, hM⟩ | ⟨hx2, hM⟩
  · refine v_tabI K dX12_lays_1 (k := (0 : Int32)) hx2 (by decide) (by decide) (off := 27) (by decide) (tgt := 28) (by decide) ?_
    refine v_aload_n K dX12_lays_28 0 rfl ?_
    refine g_X12_2 K qf_X12_9 dX12_lays_29 ?_
    refine v_iload_n K dX12_lays_32 2 rfl ?_
    refine v_iload_n K dX12_lays_33 3 rfl ?_
    refine st_R1 K dX12_lays_34 hM (fun s1 hM => ?_)
    refine v_goto (tgt := 65) K dX12_lays_35 (by decide) ?_
    exact v_vret K rfl dX12_lays_65 hM
  rcases ite_inv hM with ⟨hx4, hM⟩ | ⟨hx4, hM⟩
  · refine v_tabI K dX12_lays_1 (k := (1 : Int32)) hx4 (by decide) (by decide) (off := 37) (by decide) (tgt := 38) (by decide) ?_
    refine v_aload_n K dX12_lays_38 0 rfl ?_
    refine g_X12_3 K qf_X12_15 dX12_lays_39 ?_
    refine v_iload_n K dX12_lays_42 2 rfl ?_
    refine v_iload_n K dX12_lays_43 3 rfl ?_
    refine st_R2 K dX12_lays_44 hM (fun s3 hM => ?_)
    refine v_goto (tgt := 65) K dX12_lays_45 (by decide) ?_
    exact v_vret K rfl dX12_lays_65 hM
  rcases ite_inv hM with ⟨hx6, hM⟩ | ⟨hx6, hM⟩
  · refine v_tabI K dX12_lays_1 (k := (2 : Int32)) hx6 (by decide) (by decide) (off := 47) (by decide) (tgt := 48) (by decide) ?_
    refine v_aload_n K dX12_lays_48 0 rfl ?_
    refine g_X12_4 K qf_X12_18 dX12_lays_49 ?_
    refine v_iload_n K dX12_lays_52 2 rfl ?_
    refine v_iload_n K dX12_lays_53 3 rfl ?_
    refine st_R3 K dX12_lays_54 hM (fun s5 hM => ?_)
    refine v_goto (tgt := 65) K dX12_lays_55 (by decide) ?_
    exact v_vret K rfl dX12_lays_65 hM
  refine v_tabO K dX12_lays_1 (by have a0 : p1.toInt ≠ 0 := ne_toInt hx2; have a1 : p1.toInt ≠ 1 := ne_toInt hx4; have a2 : p1.toInt ≠ 2 := ne_toInt hx6; omega) (tgt := 58) (by decide) ?_
  refine v_aload_n K dX12_lays_58 0 rfl ?_
  refine g_X12_5 K qf_X12_21 dX12_lays_59 ?_
  refine v_iload_n K dX12_lays_62 2 rfl ?_
  refine v_iload_n K dX12_lays_63 3 rfl ?_
  refine st_R4 K dX12_lays_64 hM (fun s7 hM => ?_)
  exact v_vret K rfl dX12_lays_65 hM
noncomputable def B_X12_changes_1 (J : Nat → Int32 → Int32 → Int32 → Int32 → Int32 → St → Option (Int32 × St)) (n : Nat)  (l1 : Int32) (l2 : Int32) (l3 : Int32) (l4 : Int32) (σ : St) : Option (Int32 × St) := gd (vp_in (gI σ 0 6) 40) (bnd (sI σ 5 ((gI σ 0 6)).toNatClampNeg l1) fun s4 => gd (vp_in (gI s4 0 6) 40) (bnd (sI s4 6 ((gI s4 0 6)).toNatClampNeg l2) fun s5 => gd (vp_in (gI s5 0 6) 40) (bnd (sI s5 7 ((gI s5 0 6)).toNatClampNeg l4) fun s6 => gd (vp_in (gI s6 0 6) 40) (bnd (sI s6 8 ((gI s6 0 6)).toNatClampNeg l3) fun s7 => bnd (sI s7 0 6 ((gI s7 0 6) + (1 : Int32))) fun s8 => bd (F_X12_lays n l1 l2 l3 s8) fun _ s9 => some (l4, s9)))))
noncomputable def B_X12_changes_2 (J : Nat → Int32 → Int32 → Int32 → Int32 → Int32 → St → Option (Int32 × St)) (n : Nat)  (l1 : Int32) (l2 : Int32) (l3 : Int32) (l4 : Int32) (l5 : Int32) (σ : St) : Option (Int32 × St) := if (40 : Int32) ≤ l5 then (bnd (sI σ 0 6 ((gI σ 0 6) - (1 : Int32))) fun s10 => J 1 l1 l2 l3 l4 0 s10) else (gd (vp_in l5 40) (gd (vp_in (l5 - (1 : Int32)) 40) (bnd (sI σ 5 ((l5 - (1 : Int32))).toNatClampNeg (gI σ 5 (l5).toNatClampNeg)) fun s11 => gd (vp_in l5 40) (gd (vp_in (l5 - (1 : Int32)) 40) (bnd (sI s11 6 ((l5 - (1 : Int32))).toNatClampNeg (gI s11 6 (l5).toNatClampNeg)) fun s12 => gd (vp_in l5 40) (gd (vp_in (l5 - (1 : Int32)) 40) (bnd (sI s12 7 ((l5 - (1 : Int32))).toNatClampNeg (gI s12 7 (l5).toNatClampNeg)) fun s13 => gd (vp_in l5 40) (gd (vp_in (l5 - (1 : Int32)) 40) (bnd (sI s13 8 ((l5 - (1 : Int32))).toNatClampNeg (gI s13 8 (l5).toNatClampNeg)) fun s14 => bnd (l5 + (1 : Int32)) fun x15 => J 2 l1 l2 l3 l4 x15 s14)))))))))
noncomputable def S_X12_changes  (n : Nat) (J : Nat → Int32 → Int32 → Int32 → Int32 → Int32 → St → Option (Int32 × St)) : Nat → Int32 → Int32 → Int32 → Int32 → Int32 → St → Option (Int32 × St) := fun lb a0 a1 a2 a3 a4 σ => match lb with
  | 1 => B_X12_changes_1 J n  a0 a1 a2 a3 σ
  | 2 => B_X12_changes_2 J n  a0 a1 a2 a3 a4 σ
  | _ => none
noncomputable def L_X12_changes  (n : Nat) : Nat → Int32 → Int32 → Int32 → Int32 → Int32 → St → Option (Int32 × St) := Nat.rec (fun _ _ _ _ _ _ _ => none) (fun n J => S_X12_changes  n J) n
noncomputable def F_X12_changes (n : Nat) (p1 : Int32) (p2 : Int32) (p3 : Int32) (σ : St) : Option (Int32 × St) := bd (F_X12_valueAt n p1 p2 σ) fun r2 s1 => if r2 = p3 then (some (r2, s1)) else (bnd (sI s1 0 7 (0 : Int32)) fun s3 => if (gI s3 0 6) = (40 : Int32) then (L_X12_changes  n 2 p1 p2 p3 r2 (1 : Int32) s3) else (L_X12_changes  n 1 p1 p2 p3 r2 0 s3))
set_option maxHeartbeats 4000000 in
set_option maxRecDepth 20000 in
theorem t_X12_changes (l : Launch) {p : Program} {e : Env} {s : State} {m : MethodId} {args : Array Value} {below : List Frame} {meth : Method} {c : Code} {D : va_G} {A : Nat → Prop} {ad : Nat → Nat} {dA : Nat → ClassId}   (K : Cx p s m args meth c cX12_changes 6 (some .int) RX12 D (tysR dA) (wdR ad dA) A) {res : Int32 × St} (n : Nat) : (∀ (l1 : Int32) (l2 : Int32) (l3 : Int32) (l4 : Int32) (σ : St), L_X12_changes  n 1 l1 l2 l3 l4 0 σ = some res → V p l e (rmH 2) s m args below meth c 6 D (wdR ad dA) A (MQ below (QI D (wdR ad dA) A res) args s 0 0 A) 121 [(0, .ref (ad 0)), (1, .int l1), (2, .int l2), (3, .int l3), (4, .int l4)] [] σ) ∧ (∀ (l1 : Int32) (l2 : Int32) (l3 : Int32) (l4 : Int32) (l5 : Int32) (σ : St), L_X12_changes  n 2 l1 l2 l3 l4 l5 σ = some res → V p l e (rmH 2) s m args below meth c 6 D (wdR ad dA) A (MQ below (QI D (wdR ad dA) A res) args s 0 0 A) 34 [(0, .ref (ad 0)), (1, .int l1), (2, .int l2), (3, .int l3), (4, .int l4), (5, .int l5)] [] σ) := by
  induction n with
  | zero => exact ⟨fun _ _ _ _ _ h => (by cases h), fun _ _ _ _ _ _ h => (by cases h)⟩
  | succ n ih =>
    obtain ⟨ih_1, ih_2⟩ := ih
    refine ⟨?_, ?_⟩
    · intro l1 l2 l3 l4 σ hM
      have hM : B_X12_changes_1 (L_X12_changes  n) n  l1 l2 l3 l4 σ = some res := hM
      refine v_aload_n K dX12_changes_121 0 rfl ?_
      refine g_X12_8 K qf_X12_24 dX12_changes_122 ?_
      refine v_aload_n K dX12_changes_125 0 rfl ?_
      refine g_X12_6 K qf_X12_149 dX12_changes_126 ?_
      refine v_iload_n K dX12_changes_129 1 rfl ?_
      refine st_R5 K dX12_changes_130 hM (fun s4 hM => ?_)
      refine v_aload_n K dX12_changes_131 0 rfl ?_
      refine g_X12_9 K qf_X12_27 dX12_changes_132 ?_
      refine v_aload_n K dX12_changes_135 0 rfl ?_
      refine g_X12_6 K qf_X12_149 dX12_changes_136 ?_
      refine v_iload_n K dX12_changes_139 2 rfl ?_
      refine st_R6 K dX12_changes_140 hM (fun s5 hM => ?_)
      refine v_aload_n K dX12_changes_141 0 rfl ?_
      refine g_X12_10 K qf_X12_30 dX12_changes_142 ?_
      refine v_aload_n K dX12_changes_145 0 rfl ?_
      refine g_X12_6 K qf_X12_149 dX12_changes_146 ?_
      refine v_iload K dX12_changes_149 4 rfl ?_
      refine st_R7 K dX12_changes_151 hM (fun s6 hM => ?_)
      refine v_aload_n K dX12_changes_152 0 rfl ?_
      refine g_X12_11 K qf_X12_33 dX12_changes_153 ?_
      refine v_aload_n K dX12_changes_156 0 rfl ?_
      refine g_X12_6 K qf_X12_149 dX12_changes_157 ?_
      refine v_iload_n K dX12_changes_160 3 rfl ?_
      refine st_R8 K dX12_changes_161 hM (fun s7 hM => ?_)
      refine v_aload_n K dX12_changes_162 0 rfl ?_
      refine v_dup K dX12_changes_163 rfl ?_
      refine g_X12_6 K qf_X12_149 dX12_changes_164 ?_
      refine v_iconst (v := (1 : Int32)) K dX12_changes_167 (by decide) ?_
      refine v_iadd K dX12_changes_168 ?_
      refine p_X12_6 K qf_X12_149 dX12_changes_169 hM (fun s8 hM => ?_)
      refine v_aload_n K dX12_changes_172 0 rfl ?_
      refine v_iload_n K dX12_changes_173 1 rfl ?_
      refine v_iload_n K dX12_changes_174 2 rfl ?_
      refine v_iload_n K dX12_changes_175 3 rfl ?_
      refine x_Vv (As := [.int l1, .int l2, .int l3]) (st := []) K uv_X12_lays qm_X12_152 dX12_changes_176 rv_X12 (fun _ h => c_X12_lays l  n l1 l2 l3 s8 h) rfl ⟨(Nat.le_of_ble_eq_true rfl), (Nat.le_of_ble_eq_true rfl)⟩ (Nat.le_of_ble_eq_true rfl) hM (fun s9 hM => ?_)
      refine v_iload K dX12_changes_179 4 rfl ?_
      exact v_iret K rfl dX12_changes_181 hM
    · intro l1 l2 l3 l4 l5 σ hM
      have hM : B_X12_changes_2 (L_X12_changes  n) n  l1 l2 l3 l4 l5 σ = some res := hM
      refine v_iload K dX12_changes_34 5 rfl ?_
      refine v_bipush (v := (40 : Int32)) K dX12_changes_36 (by decide) ?_
      refine v_icmp_ge K 111 dX12_changes_38 (by decide) hM (fun hM => ?_) (fun hM => ?_)
      · refine v_aload_n K dX12_changes_111 0 rfl ?_
        refine v_dup K dX12_changes_112 rfl ?_
        refine g_X12_6 K qf_X12_149 dX12_changes_113 ?_
        refine v_iconst (v := (1 : Int32)) K dX12_changes_116 (by decide) ?_
        refine v_isub K dX12_changes_117 ?_
        refine p_X12_6 K qf_X12_149 dX12_changes_118 hM (fun s10 hM => ?_)
        exact v_sub [0, 1, 2, 3, 4] rfl (ih_1 l1 l2 l3 l4 s10 hM)
      · refine v_aload_n K dX12_changes_41 0 rfl ?_
        refine g_X12_8 K qf_X12_24 dX12_changes_42 ?_
        refine v_iload K dX12_changes_45 5 rfl ?_
        refine v_iconst (v := (1 : Int32)) K dX12_changes_47 (by decide) ?_
        refine v_isub K dX12_changes_48 ?_
        refine v_aload_n K dX12_changes_49 0 rfl ?_
        refine g_X12_8 K qf_X12_24 dX12_changes_50 ?_
        refine v_iload K dX12_changes_53 5 rfl ?_
        refine ld_R5 K dX12_changes_55 hM (fun hM => ?_)
        refine st_R5 K dX12_changes_56 hM (fun s11 hM => ?_)
        refine v_aload_n K dX12_changes_57 0 rfl ?_
        refine g_X12_9 K qf_X12_27 dX12_changes_58 ?_
        refine v_iload K dX12_changes_61 5 rfl ?_
        refine v_iconst (v := (1 : Int32)) K dX12_changes_63 (by decide) ?_
        refine v_isub K dX12_changes_64 ?_
        refine v_aload_n K dX12_changes_65 0 rfl ?_
        refine g_X12_9 K qf_X12_27 dX12_changes_66 ?_
        refine v_iload K dX12_changes_69 5 rfl ?_
        refine ld_R6 K dX12_changes_71 hM (fun hM => ?_)
        refine st_R6 K dX12_changes_72 hM (fun s12 hM => ?_)
        refine v_aload_n K dX12_changes_73 0 rfl ?_
        refine g_X12_10 K qf_X12_30 dX12_changes_74 ?_
        refine v_iload K dX12_changes_77 5 rfl ?_
        refine v_iconst (v := (1 : Int32)) K dX12_changes_79 (by decide) ?_
        refine v_isub K dX12_changes_80 ?_
        refine v_aload_n K dX12_changes_81 0 rfl ?_
        refine g_X12_10 K qf_X12_30 dX12_changes_82 ?_
        refine v_iload K dX12_changes_85 5 rfl ?_
        refine ld_R7 K dX12_changes_87 hM (fun hM => ?_)
        refine st_R7 K dX12_changes_88 hM (fun s13 hM => ?_)
        refine v_aload_n K dX12_changes_89 0 rfl ?_
        refine g_X12_11 K qf_X12_33 dX12_changes_90 ?_
        refine v_iload K dX12_changes_93 5 rfl ?_
        refine v_iconst (v := (1 : Int32)) K dX12_changes_95 (by decide) ?_
        refine v_isub K dX12_changes_96 ?_
        refine v_aload_n K dX12_changes_97 0 rfl ?_
        refine g_X12_11 K qf_X12_33 dX12_changes_98 ?_
        refine v_iload K dX12_changes_101 5 rfl ?_
        refine ld_R8 K dX12_changes_103 hM (fun hM => ?_)
        refine st_R8 K dX12_changes_104 hM (fun s14 hM => ?_)
        refine v_iinc K dX12_changes_105 5 rfl (v := (l5 + (1 : Int32))) rfl (by decide) hM (fun y => [(5, .int y), (0, .ref (ad 0)), (1, .int l1), (2, .int l2), (3, .int l3), (4, .int l4)]) (fun _ => rfl) (fun x15 hM => ?_)
        refine v_goto (tgt := 34) K dX12_changes_108 (by decide) ?_
        exact v_sub [1, 2, 3, 4, 5, 0] rfl (ih_2 l1 l2 l3 l4 x15 s14 hM)
set_option maxHeartbeats 4000000 in
set_option maxRecDepth 20000 in
theorem c_X12_changes (l : Launch) {D : va_G} {A : Nat → Prop} {ad : Nat → Nat} {dA : Nat → ClassId}  (n : Nat) (p1 : Int32) (p2 : Int32) (p3 : Int32) (σ : St) {res : Int32 × St} (hM : F_X12_changes n p1 p2 p3 σ = some res) : MI l yX12_changes cX12_changes 6 (some .int) 2 D (tysR dA) (wdR ad dA) A [.ref (ad 0), .int p1, .int p2, .int p3] σ (QI D (wdR ad dA) A res) := by
  refine mk_met (by decide +kernel) (Nat.le_of_ble_eq_true rfl) (fun p e s m below meth c K => ?_)
  have K : Cx p s m _ meth c cX12_changes 6 (some .int) RX12 D (tysR dA) (wdR ad dA) A := K
  obtain ⟨ih_1, ih_2⟩ := t_X12_changes l    K (res := res) n (below := below) (e := e)
  refine v_aload_n K dX12_changes_0 0 rfl ?_
  refine v_iload_n K dX12_changes_1 1 rfl ?_
  refine v_iload_n K dX12_changes_2 2 rfl ?_
  refine x_Vi (As := [.int p1, .int p2]) (st := []) K uv_X12_valueAt qm_X12_142 dX12_changes_3 rv_X12 (fun _ h => c_X12_valueAt l  n p1 p2 σ h) rfl ⟨(Nat.le_of_ble_eq_true rfl), (Nat.le_of_ble_eq_true rfl)⟩ (Nat.le_of_ble_eq_true rfl) hM (fun r2 s1 hM => ?_)
  refine v_istore K dX12_changes_6 (by decide) [(4, .int r2), (0, .ref (ad 0)), (1, .int p1), (2, .int p2), (3, .int p3)] rfl ?_
  refine v_iload K dX12_changes_8 0 rfl ?_
  refine v_iload_n K dX12_changes_10 4 rfl ?_
  refine v_icmp_ne K 17 dX12_changes_11 (by decide) hM (fun hM => ?_) (fun hM => ?_)
  · refine v_aload_n K dX12_changes_17 1 rfl ?_
    refine v_iconst (v := (0 : Int32)) K dX12_changes_18 (by decide) ?_
    refine p_X12_7 K qf_X12_146 dX12_changes_19 hM (fun s3 hM => ?_)
    refine v_aload_n K dX12_changes_22 1 rfl ?_
    refine g_X12_6 K qf_X12_149 dX12_changes_23 ?_
    refine v_bipush (v := (40 : Int32)) K dX12_changes_26 (by decide) ?_
    refine v_icmp_ne K 121 dX12_changes_28 (by decide) hM (fun hM => ?_) (fun hM => ?_)
    · exact v_sub [1, 2, 3, 4, 0] rfl (ih_1 p1 p2 p3 r2 s3 hM)
    · refine v_iconst (v := (1 : Int32)) K dX12_changes_31 (by decide) ?_
      refine v_istore K dX12_changes_32 (by decide) [(5, .int (1 : Int32)), (4, .int r2), (0, .ref (ad 0)), (1, .int p1), (2, .int p2), (3, .int p3)] rfl ?_
      exact v_sub [2, 3, 4, 5, 1, 0] rfl (ih_2 p1 p2 p3 r2 (1 : Int32) s3 hM)
  · refine v_iload K dX12_changes_14 0 rfl ?_
    exact v_iret K rfl dX12_changes_16 hM
noncomputable def F_X12_undo (n : Nat)  (σ : St) : Option (Int32 × St) := if (gI σ 0 6) = 0 then (some ((-5 : Int32), σ)) else (bnd (sI σ 0 6 ((gI σ 0 6) - (1 : Int32))) fun s1 => bnd (sI s1 0 7 ((gI s1 0 7) + (1 : Int32))) fun s2 => gd (vp_in (gI s2 0 6) 40) (gd (vp_in (gI s2 0 6) 40) (gd (vp_in (gI s2 0 6) 40) (bd (F_X12_lays n (gI s2 5 ((gI s2 0 6)).toNatClampNeg) (gI s2 6 ((gI s2 0 6)).toNatClampNeg) (gI s2 7 ((gI s2 0 6)).toNatClampNeg) s2) fun _ s3 => some ((gI s3 0 6), s3)))))
set_option maxHeartbeats 4000000 in
set_option maxRecDepth 20000 in
theorem c_X12_undo (l : Launch) {D : va_G} {A : Nat → Prop} {ad : Nat → Nat} {dA : Nat → ClassId}  (n : Nat)  (σ : St) {res : Int32 × St} (hM : F_X12_undo n  σ = some res) : MI l yX12_undo cX12_undo 1 (some .int) 2 D (tysR dA) (wdR ad dA) A [.ref (ad 0)] σ (QI D (wdR ad dA) A res) := by
  refine mk_met (by decide +kernel) (Nat.le_of_ble_eq_true rfl) (fun p e s m below meth c K => ?_)
  have K : Cx p s m _ meth c cX12_undo 1 (some .int) RX12 D (tysR dA) (wdR ad dA) A := K
  refine v_aload_n K dX12_undo_0 0 rfl ?_
  refine g_X12_6 K qf_X12_149 dX12_undo_1 ?_
  refine v_if_ne K 10 dX12_undo_4 (by decide) hM (fun hM => ?_) (fun hM => ?_)
  · refine v_aload_n K dX12_undo_10 0 rfl ?_
    refine v_dup K dX12_undo_11 rfl ?_
    refine g_X12_6 K qf_X12_149 dX12_undo_12 ?_
    refine v_iconst (v := (1 : Int32)) K dX12_undo_15 (by decide) ?_
    refine v_isub K dX12_undo_16 ?_
    refine p_X12_6 K qf_X12_149 dX12_undo_17 hM (fun s1 hM => ?_)
    refine v_aload_n K dX12_undo_20 0 rfl ?_
    refine v_dup K dX12_undo_21 rfl ?_
    refine g_X12_7 K qf_X12_146 dX12_undo_22 ?_
    refine v_iconst (v := (1 : Int32)) K dX12_undo_25 (by decide) ?_
    refine v_iadd K dX12_undo_26 ?_
    refine p_X12_7 K qf_X12_146 dX12_undo_27 hM (fun s2 hM => ?_)
    refine v_aload_n K dX12_undo_30 0 rfl ?_
    refine v_aload_n K dX12_undo_31 0 rfl ?_
    refine g_X12_8 K qf_X12_24 dX12_undo_32 ?_
    refine v_aload_n K dX12_undo_35 0 rfl ?_
    refine g_X12_6 K qf_X12_149 dX12_undo_36 ?_
    refine ld_R5 K dX12_undo_39 hM (fun hM => ?_)
    refine v_aload_n K dX12_undo_40 0 rfl ?_
    refine g_X12_9 K qf_X12_27 dX12_undo_41 ?_
    refine v_aload_n K dX12_undo_44 0 rfl ?_
    refine g_X12_6 K qf_X12_149 dX12_undo_45 ?_
    refine ld_R6 K dX12_undo_48 hM (fun hM => ?_)
    refine v_aload_n K dX12_undo_49 0 rfl ?_
    refine g_X12_10 K qf_X12_30 dX12_undo_50 ?_
    refine v_aload_n K dX12_undo_53 0 rfl ?_
    refine g_X12_6 K qf_X12_149 dX12_undo_54 ?_
    refine ld_R7 K dX12_undo_57 hM (fun hM => ?_)
    refine x_Vv (As := [.int (gI s2 5 ((gI s2 0 6)).toNatClampNeg), .int (gI s2 6 ((gI s2 0 6)).toNatClampNeg), .int (gI s2 7 ((gI s2 0 6)).toNatClampNeg)]) (st := []) K uv_X12_lays qm_X12_152 dX12_undo_58 rv_X12 (fun _ h => c_X12_lays l  n (gI s2 5 ((gI s2 0 6)).toNatClampNeg) (gI s2 6 ((gI s2 0 6)).toNatClampNeg) (gI s2 7 ((gI s2 0 6)).toNatClampNeg) s2 h) rfl ⟨(Nat.le_of_ble_eq_true rfl), (Nat.le_of_ble_eq_true rfl)⟩ (Nat.le_of_ble_eq_true rfl) hM (fun s3 hM => ?_)
    refine v_aload_n K dX12_undo_61 0 rfl ?_
    refine g_X12_6 K qf_X12_149 dX12_undo_62 ?_
    exact v_iret K rfl dX12_undo_65 hM
  · refine v_bipush (v := (-5 : Int32)) K dX12_undo_7 (by decide) ?_
    exact v_iret K rfl dX12_undo_9 hM
noncomputable def F_X12_redo (n : Nat)  (σ : St) : Option (Int32 × St) := if (gI σ 0 7) = 0 then (some ((-5 : Int32), σ)) else (gd (vp_in (gI σ 0 6) 40) (gd (vp_in (gI σ 0 6) 40) (gd (vp_in (gI σ 0 6) 40) (bd (F_X12_lays n (gI σ 5 ((gI σ 0 6)).toNatClampNeg) (gI σ 6 ((gI σ 0 6)).toNatClampNeg) (gI σ 8 ((gI σ 0 6)).toNatClampNeg) σ) fun _ s1 => bnd (sI s1 0 6 ((gI s1 0 6) + (1 : Int32))) fun s2 => bnd (sI s2 0 7 ((gI s2 0 7) - (1 : Int32))) fun s3 => some ((gI s3 0 7), s3)))))
set_option maxHeartbeats 4000000 in
set_option maxRecDepth 20000 in
theorem c_X12_redo (l : Launch) {D : va_G} {A : Nat → Prop} {ad : Nat → Nat} {dA : Nat → ClassId}  (n : Nat)  (σ : St) {res : Int32 × St} (hM : F_X12_redo n  σ = some res) : MI l yX12_redo cX12_redo 1 (some .int) 2 D (tysR dA) (wdR ad dA) A [.ref (ad 0)] σ (QI D (wdR ad dA) A res) := by
  refine mk_met (by decide +kernel) (Nat.le_of_ble_eq_true rfl) (fun p e s m below meth c K => ?_)
  have K : Cx p s m _ meth c cX12_redo 1 (some .int) RX12 D (tysR dA) (wdR ad dA) A := K
  refine v_aload_n K dX12_redo_0 0 rfl ?_
  refine g_X12_7 K qf_X12_146 dX12_redo_1 ?_
  refine v_if_ne K 10 dX12_redo_4 (by decide) hM (fun hM => ?_) (fun hM => ?_)
  · refine v_aload_n K dX12_redo_10 0 rfl ?_
    refine v_aload_n K dX12_redo_11 0 rfl ?_
    refine g_X12_8 K qf_X12_24 dX12_redo_12 ?_
    refine v_aload_n K dX12_redo_15 0 rfl ?_
    refine g_X12_6 K qf_X12_149 dX12_redo_16 ?_
    refine ld_R5 K dX12_redo_19 hM (fun hM => ?_)
    refine v_aload_n K dX12_redo_20 0 rfl ?_
    refine g_X12_9 K qf_X12_27 dX12_redo_21 ?_
    refine v_aload_n K dX12_redo_24 0 rfl ?_
    refine g_X12_6 K qf_X12_149 dX12_redo_25 ?_
    refine ld_R6 K dX12_redo_28 hM (fun hM => ?_)
    refine v_aload_n K dX12_redo_29 0 rfl ?_
    refine g_X12_11 K qf_X12_33 dX12_redo_30 ?_
    refine v_aload_n K dX12_redo_33 0 rfl ?_
    refine g_X12_6 K qf_X12_149 dX12_redo_34 ?_
    refine ld_R8 K dX12_redo_37 hM (fun hM => ?_)
    refine x_Vv (As := [.int (gI σ 5 ((gI σ 0 6)).toNatClampNeg), .int (gI σ 6 ((gI σ 0 6)).toNatClampNeg), .int (gI σ 8 ((gI σ 0 6)).toNatClampNeg)]) (st := []) K uv_X12_lays qm_X12_152 dX12_redo_38 rv_X12 (fun _ h => c_X12_lays l  n (gI σ 5 ((gI σ 0 6)).toNatClampNeg) (gI σ 6 ((gI σ 0 6)).toNatClampNeg) (gI σ 8 ((gI σ 0 6)).toNatClampNeg) σ h) rfl ⟨(Nat.le_of_ble_eq_true rfl), (Nat.le_of_ble_eq_true rfl)⟩ (Nat.le_of_ble_eq_true rfl) hM (fun s1 hM => ?_)
    refine v_aload_n K dX12_redo_41 0 rfl ?_
    refine v_dup K dX12_redo_42 rfl ?_
    refine g_X12_6 K qf_X12_149 dX12_redo_43 ?_
    refine v_iconst (v := (1 : Int32)) K dX12_redo_46 (by decide) ?_
    refine v_iadd K dX12_redo_47 ?_
    refine p_X12_6 K qf_X12_149 dX12_redo_48 hM (fun s2 hM => ?_)
    refine v_aload_n K dX12_redo_51 0 rfl ?_
    refine v_dup K dX12_redo_52 rfl ?_
    refine g_X12_7 K qf_X12_146 dX12_redo_53 ?_
    refine v_iconst (v := (1 : Int32)) K dX12_redo_56 (by decide) ?_
    refine v_isub K dX12_redo_57 ?_
    refine p_X12_7 K qf_X12_146 dX12_redo_58 hM (fun s3 hM => ?_)
    refine v_aload_n K dX12_redo_61 0 rfl ?_
    refine g_X12_7 K qf_X12_146 dX12_redo_62 ?_
    exact v_iret K rfl dX12_redo_65 hM
  · refine v_bipush (v := (-5 : Int32)) K dX12_redo_7 (by decide) ?_
    exact v_iret K rfl dX12_redo_9 hM
noncomputable def F_X12_mayBe (n : Nat) (p0 : Int32) (p1 : Int32) (σ : St) : Option (Int32 × St) := if p0 = (2 : Int32) then (bd (F_X12_in n p1 (0 : Int32) (6 : Int32) σ) fun r6 s5 => gd (narrow .boolean (.int r6) = .int r6) (some (r6, s5))) else (if p0 = (3 : Int32) then (bd (F_X12_in n p1 (0 : Int32) (99 : Int32) σ) fun r4 s3 => gd (narrow .boolean (.int r4) = .int r4) (some (r4, s3))) else (bd (F_X12_in n p1 (0 : Int32) (9 : Int32) σ) fun r2 s1 => gd (narrow .boolean (.int r2) = .int r2) (some (r2, s1))))
set_option maxHeartbeats 4000000 in
set_option maxRecDepth 20000 in
theorem c_X12_mayBe (l : Launch) {D : va_G} {A : Nat → Prop} {ad : Nat → Nat} {dA : Nat → ClassId}  (n : Nat) (p0 : Int32) (p1 : Int32) (σ : St) {res : Int32 × St} (hM : F_X12_mayBe n p0 p1 σ = some res) : MI l yX12_mayBe cX12_mayBe 2 (some .boolean) 2 D (tysR dA) (wdR ad dA) A [.int p0, .int p1] σ (QI D (wdR ad dA) A res) := by
  refine mk_met (by decide +kernel) (Nat.le_of_ble_eq_true rfl) (fun p e s m below meth c K => ?_)
  have K : Cx p s m _ meth c cX12_mayBe 2 (some .boolean) RX12 D (tysR dA) (wdR ad dA) A := K
  refine v_iload_n K dX12_mayBe_0 0 rfl ?_
  refine v_iconst (v := (2 : Int32)) K dX12_mayBe_1 (by decide) ?_
  refine v_icmp_ne K 15 dX12_mayBe_2 (by decide) hM (fun hM => ?_) (fun hM => ?_)
  · refine v_iload_n K dX12_mayBe_15 0 rfl ?_
    refine v_iconst (v := (3 : Int32)) K dX12_mayBe_16 (by decide) ?_
    refine v_icmp_ne K 30 dX12_mayBe_17 (by decide) hM (fun hM => ?_) (fun hM => ?_)
    · refine v_iload_n K dX12_mayBe_30 1 rfl ?_
      refine v_iconst (v := (0 : Int32)) K dX12_mayBe_31 (by decide) ?_
      refine v_bipush (v := (9 : Int32)) K dX12_mayBe_32 (by decide) ?_
      refine x_Si (As := [.int p1, .int (0 : Int32), .int (9 : Int32)]) (st := []) K us_X12_in qm_X12_125 dX12_mayBe_34 (fun _ h => c_X12_in l  n p1 (0 : Int32) (9 : Int32) σ h) rfl ⟨(Nat.le_of_ble_eq_true rfl), (Nat.le_of_ble_eq_true rfl)⟩ (Nat.le_of_ble_eq_true rfl) hM (fun r2 s1 hM => ?_)
      exact v_zretG K rfl dX12_mayBe_37 hM
    · refine v_iload_n K dX12_mayBe_20 1 rfl ?_
      refine v_iconst (v := (0 : Int32)) K dX12_mayBe_21 (by decide) ?_
      refine v_bipush (v := (99 : Int32)) K dX12_mayBe_22 (by decide) ?_
      refine x_Si (As := [.int p1, .int (0 : Int32), .int (99 : Int32)]) (st := []) K us_X12_in qm_X12_125 dX12_mayBe_24 (fun _ h => c_X12_in l  n p1 (0 : Int32) (99 : Int32) σ h) rfl ⟨(Nat.le_of_ble_eq_true rfl), (Nat.le_of_ble_eq_true rfl)⟩ (Nat.le_of_ble_eq_true rfl) hM (fun r4 s3 hM => ?_)
      refine v_goto (tgt := 37) K dX12_mayBe_27 (by decide) ?_
      exact v_zretG K rfl dX12_mayBe_37 hM
  · refine v_iload_n K dX12_mayBe_5 1 rfl ?_
    refine v_iconst (v := (0 : Int32)) K dX12_mayBe_6 (by decide) ?_
    refine v_bipush (v := (6 : Int32)) K dX12_mayBe_7 (by decide) ?_
    refine x_Si (As := [.int p1, .int (0 : Int32), .int (6 : Int32)]) (st := []) K us_X12_in qm_X12_125 dX12_mayBe_9 (fun _ h => c_X12_in l  n p1 (0 : Int32) (6 : Int32) σ h) rfl ⟨(Nat.le_of_ble_eq_true rfl), (Nat.le_of_ble_eq_true rfl)⟩ (Nat.le_of_ble_eq_true rfl) hM (fun r6 s5 hM => ?_)
    refine v_goto (tgt := 37) K dX12_mayBe_12 (by decide) ?_
    exact v_zretG K rfl dX12_mayBe_37 hM
noncomputable def F_X12_mend (n : Nat) (p1 : Int32) (p2 : Int32) (p3 : Int32) (σ : St) : Option (Int32 × St) := bd (F_X12_isPerson n p1 σ) fun r2 s1 => if r2 = 0 then (some ((-1 : Int32), s1)) else (bd (F_X12_in n p2 (0 : Int32) (3 : Int32) s1) fun r4 s3 => if r4 = 0 then (some ((-1 : Int32), s3)) else (bd (F_X12_mayBe n p2 p3 s3) fun r6 s5 => if r6 = 0 then (some ((-1 : Int32), s5)) else (bd (F_X12_changes n p2 p1 p3 s5) fun r8 s7 => some (r8, s7))))
set_option maxHeartbeats 4000000 in
set_option maxRecDepth 20000 in
theorem c_X12_mend (l : Launch) {D : va_G} {A : Nat → Prop} {ad : Nat → Nat} {dA : Nat → ClassId}  (n : Nat) (p1 : Int32) (p2 : Int32) (p3 : Int32) (σ : St) {res : Int32 × St} (hM : F_X12_mend n p1 p2 p3 σ = some res) : MI l yX12_mend cX12_mend 4 (some .int) 3 D (tysR dA) (wdR ad dA) A [.ref (ad 0), .int p1, .int p2, .int p3] σ (QI D (wdR ad dA) A res) := by
  refine mk_met (by decide +kernel) (Nat.le_of_ble_eq_true rfl) (fun p e s m below meth c K => ?_)
  have K : Cx p s m _ meth c cX12_mend 4 (some .int) RX12 D (tysR dA) (wdR ad dA) A := K
  refine v_aload_n K dX12_mend_0 0 rfl ?_
  refine v_iload_n K dX12_mend_1 1 rfl ?_
  refine x_Vi (As := [.int p1]) (st := []) K uv_X12_isPerson qm_X12_129 dX12_mend_2 rv_X12 (fun _ h => c_X12_isPerson l  n p1 σ h) rfl ⟨(Nat.le_of_ble_eq_true rfl), (Nat.le_of_ble_eq_true rfl)⟩ (Nat.le_of_ble_eq_true rfl) hM (fun r2 s1 hM => ?_)
  refine v_if_eq K 35 dX12_mend_5 (by decide) hM (fun hM => ?_) (fun hM => ?_)
  · refine v_iconst (v := (-1 : Int32)) K dX12_mend_35 (by decide) ?_
    exact v_iret K rfl dX12_mend_36 hM
  · refine v_iload_n K dX12_mend_8 2 rfl ?_
    refine v_iconst (v := (0 : Int32)) K dX12_mend_9 (by decide) ?_
    refine v_iconst (v := (3 : Int32)) K dX12_mend_10 (by decide) ?_
    refine x_Si (As := [.int p2, .int (0 : Int32), .int (3 : Int32)]) (st := []) K us_X12_in qm_X12_125 dX12_mend_11 (fun _ h => c_X12_in l  n p2 (0 : Int32) (3 : Int32) s1 h) rfl ⟨(Nat.le_of_ble_eq_true rfl), (Nat.le_of_ble_eq_true rfl)⟩ (Nat.le_of_ble_eq_true rfl) hM (fun r4 s3 hM => ?_)
    refine v_if_eq K 35 dX12_mend_14 (by decide) hM (fun hM => ?_) (fun hM => ?_)
    · refine v_iconst (v := (-1 : Int32)) K dX12_mend_35 (by decide) ?_
      exact v_iret K rfl dX12_mend_36 hM
    · refine v_iload_n K dX12_mend_17 2 rfl ?_
      refine v_iload_n K dX12_mend_18 3 rfl ?_
      refine x_Si (As := [.int p2, .int p3]) (st := []) K us_X12_mayBe qm_X12_156 dX12_mend_19 (fun _ h => c_X12_mayBe l  n p2 p3 s3 h) rfl ⟨(Nat.le_of_ble_eq_true rfl), (Nat.le_of_ble_eq_true rfl)⟩ (Nat.le_of_ble_eq_true rfl) hM (fun r6 s5 hM => ?_)
      refine v_if_eq K 35 dX12_mend_22 (by decide) hM (fun hM => ?_) (fun hM => ?_)
      · refine v_iconst (v := (-1 : Int32)) K dX12_mend_35 (by decide) ?_
        exact v_iret K rfl dX12_mend_36 hM
      · refine v_aload_n K dX12_mend_25 0 rfl ?_
        refine v_iload_n K dX12_mend_26 2 rfl ?_
        refine v_iload_n K dX12_mend_27 1 rfl ?_
        refine v_iload_n K dX12_mend_28 3 rfl ?_
        refine x_Vi (As := [.int p2, .int p1, .int p3]) (st := []) K uv_X12_changes qm_X12_160 dX12_mend_29 rv_X12 (fun _ h => c_X12_changes l  n p2 p1 p3 s5 h) rfl ⟨(Nat.le_of_ble_eq_true rfl), (Nat.le_of_ble_eq_true rfl)⟩ (Nat.le_of_ble_eq_true rfl) hM (fun r8 s7 hM => ?_)
        refine v_goto (tgt := 36) K dX12_mend_32 (by decide) ?_
        exact v_iret K rfl dX12_mend_36 hM
noncomputable def F_X12_of (n : Nat) (p1 : Int32) (p2 : Int32) (σ : St) : Option (Int32 × St) := bd (F_X12_isPerson n p1 σ) fun r2 s1 => if r2 = 0 then (some ((-2000000000 : Int32), s1)) else (bd (F_X12_in n p2 (0 : Int32) (4 : Int32) s1) fun r4 s3 => if r4 = 0 then (some ((-2000000000 : Int32), s3)) else (if p2 = (4 : Int32) then (gd (vp_in p1 7) (some ((gI s3 18 (p1).toNatClampNeg), s3))) else (bd (F_X12_valueAt n p2 p1 s3) fun r6 s5 => some (r6, s5))))
set_option maxHeartbeats 4000000 in
set_option maxRecDepth 20000 in
theorem c_X12_of (l : Launch) {D : va_G} {A : Nat → Prop} {ad : Nat → Nat} {dA : Nat → ClassId}  (n : Nat) (p1 : Int32) (p2 : Int32) (σ : St) {res : Int32 × St} (hM : F_X12_of n p1 p2 σ = some res) : MI l yX12_of cX12_of 3 (some .int) 3 D (tysR dA) (wdR ad dA) A [.ref (ad 0), .int p1, .int p2] σ (QI D (wdR ad dA) A res) := by
  refine mk_met (by decide +kernel) (Nat.le_of_ble_eq_true rfl) (fun p e s m below meth c K => ?_)
  have K : Cx p s m _ meth c cX12_of 3 (some .int) RX12 D (tysR dA) (wdR ad dA) A := K
  refine v_aload_n K dX12_of_0 0 rfl ?_
  refine v_iload_n K dX12_of_1 1 rfl ?_
  refine x_Vi (As := [.int p1]) (st := []) K uv_X12_isPerson qm_X12_129 dX12_of_2 rv_X12 (fun _ h => c_X12_isPerson l  n p1 σ h) rfl ⟨(Nat.le_of_ble_eq_true rfl), (Nat.le_of_ble_eq_true rfl)⟩ (Nat.le_of_ble_eq_true rfl) hM (fun r2 s1 hM => ?_)
  refine v_if_eq K 17 dX12_of_5 (by decide) hM (fun hM => ?_) (fun hM => ?_)
  · refine v_ldc (v := (-2000000000 : Int32)) K qc_X12_163 dX12_of_17 ?_
    exact v_iret K rfl dX12_of_19 hM
  · refine v_iload_n K dX12_of_8 2 rfl ?_
    refine v_iconst (v := (0 : Int32)) K dX12_of_9 (by decide) ?_
    refine v_iconst (v := (4 : Int32)) K dX12_of_10 (by decide) ?_
    refine x_Si (As := [.int p2, .int (0 : Int32), .int (4 : Int32)]) (st := []) K us_X12_in qm_X12_125 dX12_of_11 (fun _ h => c_X12_in l  n p2 (0 : Int32) (4 : Int32) s1 h) rfl ⟨(Nat.le_of_ble_eq_true rfl), (Nat.le_of_ble_eq_true rfl)⟩ (Nat.le_of_ble_eq_true rfl) hM (fun r4 s3 hM => ?_)
    refine v_if_ne K 20 dX12_of_14 (by decide) hM (fun hM => ?_) (fun hM => ?_)
    · refine v_iload_n K dX12_of_20 2 rfl ?_
      refine v_iconst (v := (4 : Int32)) K dX12_of_21 (by decide) ?_
      refine v_icmp_ne K 34 dX12_of_22 (by decide) hM (fun hM => ?_) (fun hM => ?_)
      · refine v_aload_n K dX12_of_34 0 rfl ?_
        refine v_iload_n K dX12_of_35 2 rfl ?_
        refine v_iload_n K dX12_of_36 1 rfl ?_
        refine x_Vi (As := [.int p2, .int p1]) (st := []) K uv_X12_valueAt qm_X12_142 dX12_of_37 rv_X12 (fun _ h => c_X12_valueAt l  n p2 p1 s3 h) rfl ⟨(Nat.le_of_ble_eq_true rfl), (Nat.le_of_ble_eq_true rfl)⟩ (Nat.le_of_ble_eq_true rfl) hM (fun r6 s5 hM => ?_)
        exact v_iret K rfl dX12_of_40 hM
      · refine v_aload_n K dX12_of_25 0 rfl ?_
        refine g_X12_28 K qf_X12_65 dX12_of_26 ?_
        refine v_iload_n K dX12_of_29 1 rfl ?_
        refine ld_R18 K dX12_of_30 hM (fun hM => ?_)
        refine v_goto (tgt := 40) K dX12_of_31 (by decide) ?_
        exact v_iret K rfl dX12_of_40 hM
    · refine v_ldc (v := (-2000000000 : Int32)) K qc_X12_163 dX12_of_17 ?_
      exact v_iret K rfl dX12_of_19 hM
noncomputable def F_X12_feed (n : Nat) (p1 : Int32) (σ : St) : Option (Int32 × St) := bd (F_X12_in n p1 (0 : Int32) (255 : Int32) σ) fun r2 s1 => if r2 = 0 then (some ((-1 : Int32), s1)) else (if (gI s1 0 13) = (120 : Int32) then (some ((-3 : Int32), s1)) else (gd (vp_in (gI s1 0 13) 120) (bnd (sI s1 9 ((gI s1 0 13)).toNatClampNeg (vp_nar .byte ((p1).toInt8.toInt32))) fun s3 => bnd (sI s3 0 13 ((gI s3 0 13) + (1 : Int32))) fun s4 => some ((gI s4 0 13), s4))))
set_option maxHeartbeats 4000000 in
set_option maxRecDepth 20000 in
theorem c_X12_feed (l : Launch) {D : va_G} {A : Nat → Prop} {ad : Nat → Nat} {dA : Nat → ClassId}  (n : Nat) (p1 : Int32) (σ : St) {res : Int32 × St} (hM : F_X12_feed n p1 σ = some res) : MI l yX12_feed cX12_feed 2 (some .int) 2 D (tysR dA) (wdR ad dA) A [.ref (ad 0), .int p1] σ (QI D (wdR ad dA) A res) := by
  refine mk_met (by decide +kernel) (Nat.le_of_ble_eq_true rfl) (fun p e s m below meth c K => ?_)
  have K : Cx p s m _ meth c cX12_feed 2 (some .int) RX12 D (tysR dA) (wdR ad dA) A := K
  refine v_iload_n K dX12_feed_0 1 rfl ?_
  refine v_iconst (v := (0 : Int32)) K dX12_feed_1 (by decide) ?_
  refine v_sipush (v := (255 : Int32)) K dX12_feed_2 (by decide) ?_
  refine x_Si (As := [.int p1, .int (0 : Int32), .int (255 : Int32)]) (st := []) K us_X12_in qm_X12_125 dX12_feed_5 (fun _ h => c_X12_in l  n p1 (0 : Int32) (255 : Int32) σ h) rfl ⟨(Nat.le_of_ble_eq_true rfl), (Nat.le_of_ble_eq_true rfl)⟩ (Nat.le_of_ble_eq_true rfl) hM (fun r2 s1 hM => ?_)
  refine v_if_ne K 13 dX12_feed_8 (by decide) hM (fun hM => ?_) (fun hM => ?_)
  · refine v_aload_n K dX12_feed_13 0 rfl ?_
    refine g_X12_13 K qf_X12_164 dX12_feed_14 ?_
    refine v_bipush (v := (120 : Int32)) K dX12_feed_17 (by decide) ?_
    refine v_icmp_ne K 25 dX12_feed_19 (by decide) hM (fun hM => ?_) (fun hM => ?_)
    · refine v_aload_n K dX12_feed_25 0 rfl ?_
      refine g_X12_12 K qf_X12_36 dX12_feed_26 ?_
      refine v_aload_n K dX12_feed_29 0 rfl ?_
      refine g_X12_13 K qf_X12_164 dX12_feed_30 ?_
      refine v_iload_n K dX12_feed_33 1 rfl ?_
      refine v_i2b K dX12_feed_34 ?_
      refine st_R9 K dX12_feed_35 hM (fun s3 hM => ?_)
      refine v_aload_n K dX12_feed_36 0 rfl ?_
      refine v_dup K dX12_feed_37 rfl ?_
      refine g_X12_13 K qf_X12_164 dX12_feed_38 ?_
      refine v_iconst (v := (1 : Int32)) K dX12_feed_41 (by decide) ?_
      refine v_iadd K dX12_feed_42 ?_
      refine p_X12_13 K qf_X12_164 dX12_feed_43 hM (fun s4 hM => ?_)
      refine v_aload_n K dX12_feed_46 0 rfl ?_
      refine g_X12_13 K qf_X12_164 dX12_feed_47 ?_
      exact v_iret K rfl dX12_feed_50 hM
    · refine v_bipush (v := (-3 : Int32)) K dX12_feed_22 (by decide) ?_
      exact v_iret K rfl dX12_feed_24 hM
  · refine v_iconst (v := (-1 : Int32)) K dX12_feed_11 (by decide) ?_
    exact v_iret K rfl dX12_feed_12 hM
noncomputable def F_X12_look (n : Nat)  (σ : St) : Option (Int32 × St) := if (gI σ 0 13) ≤ (gI σ 0 14) then (some ((-1 : Int32), σ)) else (gd (vp_in (gI σ 0 14) 120) (some ((gI σ 9 ((gI σ 0 14)).toNatClampNeg), σ)))
set_option maxHeartbeats 4000000 in
set_option maxRecDepth 20000 in
theorem c_X12_look (l : Launch) {D : va_G} {A : Nat → Prop} {ad : Nat → Nat} {dA : Nat → ClassId}  (n : Nat)  (σ : St) {res : Int32 × St} (hM : F_X12_look n  σ = some res) : MI l yX12_look cX12_look 1 (some .int) 1 D (tysR dA) (wdR ad dA) A [.ref (ad 0)] σ (QI D (wdR ad dA) A res) := by
  refine mk_met (by decide +kernel) (Nat.le_of_ble_eq_true rfl) (fun p e s m below meth c K => ?_)
  have K : Cx p s m _ meth c cX12_look 1 (some .int) RX12 D (tysR dA) (wdR ad dA) A := K
  refine v_aload_n K dX12_look_0 0 rfl ?_
  refine g_X12_14 K qf_X12_167 dX12_look_1 ?_
  refine v_aload_n K dX12_look_4 0 rfl ?_
  refine g_X12_13 K qf_X12_164 dX12_look_5 ?_
  refine v_icmp_ge K 23 dX12_look_8 (by decide) hM (fun hM => ?_) (fun hM => ?_)
  · refine v_iconst (v := (-1 : Int32)) K dX12_look_23 (by decide) ?_
    exact v_iret K rfl dX12_look_24 hM
  · refine v_aload_n K dX12_look_11 0 rfl ?_
    refine g_X12_12 K qf_X12_36 dX12_look_12 ?_
    refine v_aload_n K dX12_look_15 0 rfl ?_
    refine g_X12_14 K qf_X12_167 dX12_look_16 ?_
    refine ld_R9 K dX12_look_19 hM (fun hM => ?_)
    refine v_goto (tgt := 24) K dX12_look_20 (by decide) ?_
    exact v_iret K rfl dX12_look_24 hM
noncomputable def F_X12_wrong (n : Nat)  (σ : St) : Option (Unit × St) := if 0 ≤ (gI σ 0 15) then (some ((), σ)) else (bnd (sI σ 0 15 (gI σ 0 14)) fun s1 => some ((), s1))
set_option maxHeartbeats 4000000 in
set_option maxRecDepth 20000 in
theorem c_X12_wrong (l : Launch) {D : va_G} {A : Nat → Prop} {ad : Nat → Nat} {dA : Nat → ClassId}  (n : Nat)  (σ : St) {res : Unit × St} (hM : F_X12_wrong n  σ = some res) : MI l yX12_wrong cX12_wrong 1 none 1 D (tysR dA) (wdR ad dA) A [.ref (ad 0)] σ (QV D (wdR ad dA) A res) := by
  refine mk_met (by decide +kernel) (Nat.le_of_ble_eq_true rfl) (fun p e s m below meth c K => ?_)
  have K : Cx p s m _ meth c cX12_wrong 1 none RX12 D (tysR dA) (wdR ad dA) A := K
  refine v_aload_n K dX12_wrong_0 0 rfl ?_
  refine g_X12_15 K qf_X12_170 dX12_wrong_1 ?_
  refine v_if_ge K 15 dX12_wrong_4 (by decide) hM (fun hM => ?_) (fun hM => ?_)
  · exact v_vret K rfl dX12_wrong_15 hM
  · refine v_aload_n K dX12_wrong_7 0 rfl ?_
    refine v_aload_n K dX12_wrong_8 0 rfl ?_
    refine g_X12_14 K qf_X12_167 dX12_wrong_9 ?_
    refine p_X12_15 K qf_X12_170 dX12_wrong_12 hM (fun s1 hM => ?_)
    exact v_vret K rfl dX12_wrong_15 hM
noncomputable def F_X12_addStep (n : Nat) (p1 : Int32) (p2 : Int32) (σ : St) : Option (Unit × St) := gd (vp_in ((130 : Int32) + (gI σ 0 17)) 260) (bnd (sI σ 10 (((130 : Int32) + (gI σ 0 17))).toNatClampNeg (vp_nar .byte ((p1).toInt8.toInt32))) fun s1 => gd (vp_in ((130 : Int32) + (gI s1 0 17)) 260) (bnd (sI s1 11 (((130 : Int32) + (gI s1 0 17))).toNatClampNeg p2) fun s2 => bnd (sI s2 0 17 ((gI s2 0 17) + (1 : Int32))) fun s3 => some ((), s3)))
set_option maxHeartbeats 4000000 in
set_option maxRecDepth 20000 in
theorem c_X12_addStep (l : Launch) {D : va_G} {A : Nat → Prop} {ad : Nat → Nat} {dA : Nat → ClassId}  (n : Nat) (p1 : Int32) (p2 : Int32) (σ : St) {res : Unit × St} (hM : F_X12_addStep n p1 p2 σ = some res) : MI l yX12_addStep cX12_addStep 3 none 1 D (tysR dA) (wdR ad dA) A [.ref (ad 0), .int p1, .int p2] σ (QV D (wdR ad dA) A res) := by
  refine mk_met (by decide +kernel) (Nat.le_of_ble_eq_true rfl) (fun p e s m below meth c K => ?_)
  have K : Cx p s m _ meth c cX12_addStep 3 none RX12 D (tysR dA) (wdR ad dA) A := K
  refine v_aload_n K dX12_addStep_0 0 rfl ?_
  refine g_X12_18 K qf_X12_40 dX12_addStep_1 ?_
  refine v_sipush (v := (130 : Int32)) K dX12_addStep_4 (by decide) ?_
  refine v_aload_n K dX12_addStep_7 0 rfl ?_
  refine g_X12_17 K qf_X12_173 dX12_addStep_8 ?_
  refine v_iadd K dX12_addStep_11 ?_
  refine v_iload_n K dX12_addStep_12 1 rfl ?_
  refine v_i2b K dX12_addStep_13 ?_
  refine st_R10 K dX12_addStep_14 hM (fun s1 hM => ?_)
  refine v_aload_n K dX12_addStep_15 0 rfl ?_
  refine g_X12_19 K qf_X12_43 dX12_addStep_16 ?_
  refine v_sipush (v := (130 : Int32)) K dX12_addStep_19 (by decide) ?_
  refine v_aload_n K dX12_addStep_22 0 rfl ?_
  refine g_X12_17 K qf_X12_173 dX12_addStep_23 ?_
  refine v_iadd K dX12_addStep_26 ?_
  refine v_iload_n K dX12_addStep_27 2 rfl ?_
  refine st_R11 K dX12_addStep_28 hM (fun s2 hM => ?_)
  refine v_aload_n K dX12_addStep_29 0 rfl ?_
  refine v_dup K dX12_addStep_30 rfl ?_
  refine g_X12_17 K qf_X12_173 dX12_addStep_31 ?_
  refine v_iconst (v := (1 : Int32)) K dX12_addStep_34 (by decide) ?_
  refine v_iadd K dX12_addStep_35 ?_
  refine p_X12_17 K qf_X12_173 dX12_addStep_36 hM (fun s3 hM => ?_)
  exact v_vret K rfl dX12_addStep_39 hM
noncomputable def F_X12_nameOf (n : Nat) (p0 : Int32) (σ : St) : Option (Int32 × St) := if p0 = (97 : Int32) then (some ((0 : Int32), σ)) else (if p0 = (98 : Int32) then (some ((4 : Int32), σ)) else (if p0 = (99 : Int32) then (some ((-1 : Int32), σ)) else (if p0 = (100 : Int32) then (some ((1 : Int32), σ)) else (if p0 = (101 : Int32) then (some ((-1 : Int32), σ)) else (if p0 = (102 : Int32) then (some ((-1 : Int32), σ)) else (if p0 = (103 : Int32) then (some ((-1 : Int32), σ)) else (if p0 = (104 : Int32) then (some ((3 : Int32), σ)) else (if p0 = (105 : Int32) then (some ((-1 : Int32), σ)) else (if p0 = (106 : Int32) then (some ((-1 : Int32), σ)) else (if p0 = (107 : Int32) then (some ((-1 : Int32), σ)) else (if p0 = (108 : Int32) then (some ((-1 : Int32), σ)) else (if p0 = (109 : Int32) then (some ((-1 : Int32), σ)) else (if p0 = (110 : Int32) then (some ((5 : Int32), σ)) else (if p0 = (111 : Int32) then (some ((2 : Int32), σ)) else (some ((-1 : Int32), σ))))))))))))))))
set_option maxHeartbeats 4000000 in
set_option maxRecDepth 20000 in
theorem c_X12_nameOf (l : Launch) {D : va_G} {A : Nat → Prop} {ad : Nat → Nat} {dA : Nat → ClassId}  (n : Nat) (p0 : Int32) (σ : St) {res : Int32 × St} (hM : F_X12_nameOf n p0 σ = some res) : MI l yX12_nameOf cX12_nameOf 1 (some .int) 1 D (tysR dA) (wdR ad dA) A [.int p0] σ (QI D (wdR ad dA) A res) := by
  refine mk_met (by decide +kernel) (Nat.le_of_ble_eq_true rfl) (fun p e s m below meth c K => ?_)
  have K : Cx p s m _ meth c cX12_nameOf 1 (some .int) RX12 D (tysR dA) (wdR ad dA) A := K
  refine v_iload_n K dX12_nameOf_0 0 rfl ?_
  rcases ite_inv hM with ⟨hx1, hM⟩ | ⟨hx1, hM⟩
  · refine v_tabI K dX12_nameOf_1 (k := (97 : Int32)) hx1 (by decide) (by decide) (off := 75) (by decide) (tgt := 76) (by decide) ?_
    refine v_iconst (v := (0 : Int32)) K dX12_nameOf_76 (by decide) ?_
    exact v_iret K rfl dX12_nameOf_77 hM
  rcases ite_inv hM with ⟨hx2, hM⟩ | ⟨hx2, hM⟩
  · refine v_tabI K dX12_nameOf_1 (k := (98 : Int32)) hx2 (by decide) (by decide) (off := 83) (by decide) (tgt := 84) (by decide) ?_
    refine v_iconst (v := (4 : Int32)) K dX12_nameOf_84 (by decide) ?_
    exact v_iret K rfl dX12_nameOf_85 hM
  rcases ite_inv hM with ⟨hx3, hM⟩ | ⟨hx3, hM⟩
  · refine v_tabI K dX12_nameOf_1 (k := (99 : Int32)) hx3 (by decide) (by decide) (off := 87) (by decide) (tgt := 88) (by decide) ?_
    refine v_iconst (v := (-1 : Int32)) K dX12_nameOf_88 (by decide) ?_
    exact v_iret K rfl dX12_nameOf_89 hM
  rcases ite_inv hM with ⟨hx4, hM⟩ | ⟨hx4, hM⟩
  · refine v_tabI K dX12_nameOf_1 (k := (100 : Int32)) hx4 (by decide) (by decide) (off := 77) (by decide) (tgt := 78) (by decide) ?_
    refine v_iconst (v := (1 : Int32)) K dX12_nameOf_78 (by decide) ?_
    exact v_iret K rfl dX12_nameOf_79 hM
  rcases ite_inv hM with ⟨hx5, hM⟩ | ⟨hx5, hM⟩
  · refine v_tabI K dX12_nameOf_1 (k := (101 : Int32)) hx5 (by decide) (by decide) (off := 87) (by decide) (tgt := 88) (by decide) ?_
    refine v_iconst (v := (-1 : Int32)) K dX12_nameOf_88 (by decide) ?_
    exact v_iret K rfl dX12_nameOf_89 hM
  rcases ite_inv hM with ⟨hx6, hM⟩ | ⟨hx6, hM⟩
  · refine v_tabI K dX12_nameOf_1 (k := (102 : Int32)) hx6 (by decide) (by decide) (off := 87) (by decide) (tgt := 88) (by decide) ?_
    refine v_iconst (v := (-1 : Int32)) K dX12_nameOf_88 (by decide) ?_
    exact v_iret K rfl dX12_nameOf_89 hM
  rcases ite_inv hM with ⟨hx7, hM⟩ | ⟨hx7, hM⟩
  · refine v_tabI K dX12_nameOf_1 (k := (103 : Int32)) hx7 (by decide) (by decide) (off := 87) (by decide) (tgt := 88) (by decide) ?_
    refine v_iconst (v := (-1 : Int32)) K dX12_nameOf_88 (by decide) ?_
    exact v_iret K rfl dX12_nameOf_89 hM
  rcases ite_inv hM with ⟨hx8, hM⟩ | ⟨hx8, hM⟩
  · refine v_tabI K dX12_nameOf_1 (k := (104 : Int32)) hx8 (by decide) (by decide) (off := 81) (by decide) (tgt := 82) (by decide) ?_
    refine v_iconst (v := (3 : Int32)) K dX12_nameOf_82 (by decide) ?_
    exact v_iret K rfl dX12_nameOf_83 hM
  rcases ite_inv hM with ⟨hx9, hM⟩ | ⟨hx9, hM⟩
  · refine v_tabI K dX12_nameOf_1 (k := (105 : Int32)) hx9 (by decide) (by decide) (off := 87) (by decide) (tgt := 88) (by decide) ?_
    refine v_iconst (v := (-1 : Int32)) K dX12_nameOf_88 (by decide) ?_
    exact v_iret K rfl dX12_nameOf_89 hM
  rcases ite_inv hM with ⟨hx10, hM⟩ | ⟨hx10, hM⟩
  · refine v_tabI K dX12_nameOf_1 (k := (106 : Int32)) hx10 (by decide) (by decide) (off := 87) (by decide) (tgt := 88) (by decide) ?_
    refine v_iconst (v := (-1 : Int32)) K dX12_nameOf_88 (by decide) ?_
    exact v_iret K rfl dX12_nameOf_89 hM
  rcases ite_inv hM with ⟨hx11, hM⟩ | ⟨hx11, hM⟩
  · refine v_tabI K dX12_nameOf_1 (k := (107 : Int32)) hx11 (by decide) (by decide) (off := 87) (by decide) (tgt := 88) (by decide) ?_
    refine v_iconst (v := (-1 : Int32)) K dX12_nameOf_88 (by decide) ?_
    exact v_iret K rfl dX12_nameOf_89 hM
  rcases ite_inv hM with ⟨hx12, hM⟩ | ⟨hx12, hM⟩
  · refine v_tabI K dX12_nameOf_1 (k := (108 : Int32)) hx12 (by decide) (by decide) (off := 87) (by decide) (tgt := 88) (by decide) ?_
    refine v_iconst (v := (-1 : Int32)) K dX12_nameOf_88 (by decide) ?_
    exact v_iret K rfl dX12_nameOf_89 hM
  rcases ite_inv hM with ⟨hx13, hM⟩ | ⟨hx13, hM⟩
  · refine v_tabI K dX12_nameOf_1 (k := (109 : Int32)) hx13 (by decide) (by decide) (off := 87) (by decide) (tgt := 88) (by decide) ?_
    refine v_iconst (v := (-1 : Int32)) K dX12_nameOf_88 (by decide) ?_
    exact v_iret K rfl dX12_nameOf_89 hM
  rcases ite_inv hM with ⟨hx14, hM⟩ | ⟨hx14, hM⟩
  · refine v_tabI K dX12_nameOf_1 (k := (110 : Int32)) hx14 (by decide) (by decide) (off := 85) (by decide) (tgt := 86) (by decide) ?_
    refine v_iconst (v := (5 : Int32)) K dX12_nameOf_86 (by decide) ?_
    exact v_iret K rfl dX12_nameOf_87 hM
  rcases ite_inv hM with ⟨hx15, hM⟩ | ⟨hx15, hM⟩
  · refine v_tabI K dX12_nameOf_1 (k := (111 : Int32)) hx15 (by decide) (by decide) (off := 79) (by decide) (tgt := 80) (by decide) ?_
    refine v_iconst (v := (2 : Int32)) K dX12_nameOf_80 (by decide) ?_
    exact v_iret K rfl dX12_nameOf_81 hM
  refine v_tabO K dX12_nameOf_1 (by have a0 : p0.toInt ≠ 97 := ne_toInt hx1; have a1 : p0.toInt ≠ 98 := ne_toInt hx2; have a2 : p0.toInt ≠ 99 := ne_toInt hx3; have a3 : p0.toInt ≠ 100 := ne_toInt hx4; have a4 : p0.toInt ≠ 101 := ne_toInt hx5; have a5 : p0.toInt ≠ 102 := ne_toInt hx6; have a6 : p0.toInt ≠ 103 := ne_toInt hx7; have a7 : p0.toInt ≠ 104 := ne_toInt hx8; have a8 : p0.toInt ≠ 105 := ne_toInt hx9; have a9 : p0.toInt ≠ 106 := ne_toInt hx10; have a10 : p0.toInt ≠ 107 := ne_toInt hx11; have a11 : p0.toInt ≠ 108 := ne_toInt hx12; have a12 : p0.toInt ≠ 109 := ne_toInt hx13; have a13 : p0.toInt ≠ 110 := ne_toInt hx14; have a14 : p0.toInt ≠ 111 := ne_toInt hx15; omega) (tgt := 88) (by decide) ?_
  refine v_iconst (v := (-1 : Int32)) K dX12_nameOf_88 (by decide) ?_
  exact v_iret K rfl dX12_nameOf_89 hM
noncomputable def F_X12_opens (n : Nat)  (σ : St) : Option (Int32 × St) := if (gI σ 0 16) = (6 : Int32) then (bd (F_X12_wrong n  σ) fun _ s3 => some ((0 : Int32), s3)) else (bnd (sI σ 0 16 ((gI σ 0 16) + (1 : Int32))) fun s1 => bnd (sI s1 0 14 ((gI s1 0 14) + (1 : Int32))) fun s2 => some ((1 : Int32), s2))
set_option maxHeartbeats 4000000 in
set_option maxRecDepth 20000 in
theorem c_X12_opens (l : Launch) {D : va_G} {A : Nat → Prop} {ad : Nat → Nat} {dA : Nat → ClassId}  (n : Nat)  (σ : St) {res : Int32 × St} (hM : F_X12_opens n  σ = some res) : MI l yX12_opens cX12_opens 1 (some .boolean) 2 D (tysR dA) (wdR ad dA) A [.ref (ad 0)] σ (QI D (wdR ad dA) A res) := by
  refine mk_met (by decide +kernel) (Nat.le_of_ble_eq_true rfl) (fun p e s m below meth c K => ?_)
  have K : Cx p s m _ meth c cX12_opens 1 (some .boolean) RX12 D (tysR dA) (wdR ad dA) A := K
  refine v_aload_n K dX12_opens_0 0 rfl ?_
  refine g_X12_16 K qf_X12_176 dX12_opens_1 ?_
  refine v_bipush (v := (6 : Int32)) K dX12_opens_4 (by decide) ?_
  refine v_icmp_ne K 15 dX12_opens_6 (by decide) hM (fun hM => ?_) (fun hM => ?_)
  · refine v_aload_n K dX12_opens_15 0 rfl ?_
    refine v_dup K dX12_opens_16 rfl ?_
    refine g_X12_16 K qf_X12_176 dX12_opens_17 ?_
    refine v_iconst (v := (1 : Int32)) K dX12_opens_20 (by decide) ?_
    refine v_iadd K dX12_opens_21 ?_
    refine p_X12_16 K qf_X12_176 dX12_opens_22 hM (fun s1 hM => ?_)
    refine v_aload_n K dX12_opens_25 0 rfl ?_
    refine v_dup K dX12_opens_26 rfl ?_
    refine g_X12_14 K qf_X12_167 dX12_opens_27 ?_
    refine v_iconst (v := (1 : Int32)) K dX12_opens_30 (by decide) ?_
    refine v_iadd K dX12_opens_31 ?_
    refine p_X12_14 K qf_X12_167 dX12_opens_32 hM (fun s2 hM => ?_)
    refine v_iconst (v := (1 : Int32)) K dX12_opens_35 (by decide) ?_
    exact v_zret K rfl rfl dX12_opens_36 hM
  · refine v_aload_n K dX12_opens_9 0 rfl ?_
    refine x_Vv (As := []) (st := []) K uv_X12_wrong qm_X12_179 dX12_opens_10 rv_X12 (fun _ h => c_X12_wrong l  n  σ h) rfl ⟨(Nat.le_of_ble_eq_true rfl), (Nat.le_of_ble_eq_true rfl)⟩ (Nat.le_of_ble_eq_true rfl) hM (fun s3 hM => ?_)
    refine v_iconst (v := (0 : Int32)) K dX12_opens_13 (by decide) ?_
    exact v_zret K rfl rfl dX12_opens_14 hM
noncomputable def B_X12_figure_1 (J : Nat → Int32 → Int32 → St → Option (Unit × St)) (n : Nat)  (l1 : Int32) (l2 : Int32) (σ : St) : Option (Unit × St) := if (4 : Int32) ≤ l2 then (J 2 l1 l2 σ) else (bd (F_X12_look n  σ) fun r2 s1 => bd (F_X12_in n r2 (48 : Int32) (57 : Int32) s1) fun r4 s3 => if r4 = 0 then (J 2 l1 l2 s3) else (bd (F_X12_look n  s3) fun r6 s5 => bnd ((((10 : Int32) * l1) + r6) - (48 : Int32)) fun x7 => bnd (l2 + (1 : Int32)) fun x8 => bnd (sI s5 0 14 ((gI s5 0 14) + (1 : Int32))) fun s9 => J 1 x7 x8 s9))
noncomputable def B_X12_figure_2 (J : Nat → Int32 → Int32 → St → Option (Unit × St)) (n : Nat)  (l1 : Int32) (l2 : Int32) (σ : St) : Option (Unit × St) := if l2 = 0 then (J 3 l1 0 σ) else (bd (F_X12_look n  σ) fun r11 s10 => bd (F_X12_in n r11 (48 : Int32) (57 : Int32) s10) fun r13 s12 => if r13 = 0 then (bd (F_X12_addStep n (1 : Int32) l1 s12) fun _ s14 => some ((), s14)) else (J 3 l1 0 s12))
noncomputable def B_X12_figure_3 (J : Nat → Int32 → Int32 → St → Option (Unit × St)) (n : Nat)  (l1 : Int32) (σ : St) : Option (Unit × St) := bd (F_X12_wrong n  σ) fun _ s15 => bd (F_X12_addStep n (1 : Int32) l1 s15) fun _ s16 => some ((), s16)
noncomputable def S_X12_figure  (n : Nat) (J : Nat → Int32 → Int32 → St → Option (Unit × St)) : Nat → Int32 → Int32 → St → Option (Unit × St) := fun lb a0 a1 σ => match lb with
  | 1 => B_X12_figure_1 J n  a0 a1 σ
  | 2 => B_X12_figure_2 J n  a0 a1 σ
  | 3 => B_X12_figure_3 J n  a0 σ
  | _ => none
noncomputable def L_X12_figure  (n : Nat) : Nat → Int32 → Int32 → St → Option (Unit × St) := Nat.rec (fun _ _ _ _ => none) (fun n J => S_X12_figure  n J) n
noncomputable def F_X12_figure (n : Nat)  (σ : St) : Option (Unit × St) := L_X12_figure  n 1 (0 : Int32) (0 : Int32) σ
set_option maxHeartbeats 4000000 in
set_option maxRecDepth 20000 in
theorem t_X12_figure (l : Launch) {p : Program} {e : Env} {s : State} {m : MethodId} {args : Array Value} {below : List Frame} {meth : Method} {c : Code} {D : va_G} {A : Nat → Prop} {ad : Nat → Nat} {dA : Nat → ClassId}   (K : Cx p s m args meth c cX12_figure 3 none RX12 D (tysR dA) (wdR ad dA) A) {res : Unit × St} (n : Nat) : (∀ (l1 : Int32) (l2 : Int32) (σ : St), L_X12_figure  n 1 l1 l2 σ = some res → V p l e (rmH 2) s m args below meth c 3 D (wdR ad dA) A (MQ below (QV D (wdR ad dA) A res) args s 0 0 A) 4 [(0, .ref (ad 0)), (1, .int l1), (2, .int l2)] [] σ) ∧ (∀ (l1 : Int32) (l2 : Int32) (σ : St), L_X12_figure  n 2 l1 l2 σ = some res → V p l e (rmH 2) s m args below meth c 3 D (wdR ad dA) A (MQ below (QV D (wdR ad dA) A res) args s 0 0 A) 52 [(0, .ref (ad 0)), (1, .int l1), (2, .int l2)] [] σ) ∧ (∀ (l1 : Int32) (σ : St), L_X12_figure  n 3 l1 0 σ = some res → V p l e (rmH 2) s m args below meth c 3 D (wdR ad dA) A (MQ below (QV D (wdR ad dA) A res) args s 0 0 A) 70 [(0, .ref (ad 0)), (1, .int l1)] [] σ) := by
  induction n with
  | zero => exact ⟨fun _ _ _ h => (by cases h), fun _ _ _ h => (by cases h), fun _ _ h => (by cases h)⟩
  | succ n ih =>
    obtain ⟨ih_1, ih_2, ih_3⟩ := ih
    refine ⟨?_, ?_, ?_⟩
    · intro l1 l2 σ hM
      have hM : B_X12_figure_1 (L_X12_figure  n) n  l1 l2 σ = some res := hM
      refine v_iload_n K dX12_figure_4 2 rfl ?_
      refine v_iconst (v := (4 : Int32)) K dX12_figure_5 (by decide) ?_
      refine v_icmp_ge K 52 dX12_figure_6 (by decide) hM (fun hM => ?_) (fun hM => ?_)
      · exact v_sub [0, 1, 2] rfl (ih_2 l1 l2 σ hM)
      · refine v_aload_n K dX12_figure_9 0 rfl ?_
        refine x_Vi (As := []) (st := []) K uv_X12_look qm_X12_182 dX12_figure_10 rv_X12 (fun _ h => c_X12_look l  n  σ h) rfl ⟨(Nat.le_of_ble_eq_true rfl), (Nat.le_of_ble_eq_true rfl)⟩ (Nat.le_of_ble_eq_true rfl) hM (fun r2 s1 hM => ?_)
        refine v_bipush (v := (48 : Int32)) K dX12_figure_13 (by decide) ?_
        refine v_bipush (v := (57 : Int32)) K dX12_figure_15 (by decide) ?_
        refine x_Si (As := [.int r2, .int (48 : Int32), .int (57 : Int32)]) (st := []) K us_X12_in qm_X12_125 dX12_figure_17 (fun _ h => c_X12_in l  n r2 (48 : Int32) (57 : Int32) s1 h) rfl ⟨(Nat.le_of_ble_eq_true rfl), (Nat.le_of_ble_eq_true rfl)⟩ (Nat.le_of_ble_eq_true rfl) hM (fun r4 s3 hM => ?_)
        refine v_if_eq K 52 dX12_figure_20 (by decide) hM (fun hM => ?_) (fun hM => ?_)
        · exact v_sub [0, 1, 2] rfl (ih_2 l1 l2 s3 hM)
        · refine v_bipush (v := (10 : Int32)) K dX12_figure_23 (by decide) ?_
          refine v_iload_n K dX12_figure_25 1 rfl ?_
          refine v_imul K dX12_figure_26 ?_
          refine v_aload_n K dX12_figure_27 0 rfl ?_
          refine x_Vi (As := []) (st := [.int ((10 : Int32) * l1)]) K uv_X12_look qm_X12_182 dX12_figure_28 rv_X12 (fun _ h => c_X12_look l  n  s3 h) rfl ⟨(Nat.le_of_ble_eq_true rfl), (Nat.le_of_ble_eq_true rfl)⟩ (Nat.le_of_ble_eq_true rfl) hM (fun r6 s5 hM => ?_)
          refine v_iadd K dX12_figure_31 ?_
          refine v_bipush (v := (48 : Int32)) K dX12_figure_32 (by decide) ?_
          refine v_isub K dX12_figure_34 ?_
          refine v_topi hM (fun x7 hM => ?_)
          refine v_istore_n K dX12_figure_35 rfl (by decide) [(1, .int x7), (0, .ref (ad 0)), (2, .int l2)] rfl ?_
          refine v_iinc K dX12_figure_36 2 rfl (v := (l2 + (1 : Int32))) rfl (by decide) hM (fun y => [(2, .int y), (1, .int x7), (0, .ref (ad 0))]) (fun _ => rfl) (fun x8 hM => ?_)
          refine v_aload_n K dX12_figure_39 2 rfl ?_
          refine v_dup K dX12_figure_40 rfl ?_
          refine g_X12_14 K qf_X12_167 dX12_figure_41 ?_
          refine v_iconst (v := (1 : Int32)) K dX12_figure_44 (by decide) ?_
          refine v_iadd K dX12_figure_45 ?_
          refine p_X12_14 K qf_X12_167 dX12_figure_46 hM (fun s9 hM => ?_)
          refine v_goto (tgt := 4) K dX12_figure_49 (by decide) ?_
          exact v_sub [2, 1, 0] rfl (ih_1 x7 x8 s9 hM)
    · intro l1 l2 σ hM
      have hM : B_X12_figure_2 (L_X12_figure  n) n  l1 l2 σ = some res := hM
      refine v_iload_n K dX12_figure_52 2 rfl ?_
      refine v_if_eq K 70 dX12_figure_53 (by decide) hM (fun hM => ?_) (fun hM => ?_)
      · exact v_sub [0, 1] rfl (ih_3 l1 σ hM)
      · refine v_aload_n K dX12_figure_56 0 rfl ?_
        refine x_Vi (As := []) (st := []) K uv_X12_look qm_X12_182 dX12_figure_57 rv_X12 (fun _ h => c_X12_look l  n  σ h) rfl ⟨(Nat.le_of_ble_eq_true rfl), (Nat.le_of_ble_eq_true rfl)⟩ (Nat.le_of_ble_eq_true rfl) hM (fun r11 s10 hM => ?_)
        refine v_bipush (v := (48 : Int32)) K dX12_figure_60 (by decide) ?_
        refine v_bipush (v := (57 : Int32)) K dX12_figure_62 (by decide) ?_
        refine x_Si (As := [.int r11, .int (48 : Int32), .int (57 : Int32)]) (st := []) K us_X12_in qm_X12_125 dX12_figure_64 (fun _ h => c_X12_in l  n r11 (48 : Int32) (57 : Int32) s10 h) rfl ⟨(Nat.le_of_ble_eq_true rfl), (Nat.le_of_ble_eq_true rfl)⟩ (Nat.le_of_ble_eq_true rfl) hM (fun r13 s12 hM => ?_)
        refine v_if_eq K 74 dX12_figure_67 (by decide) hM (fun hM => ?_) (fun hM => ?_)
        · refine v_aload_n K dX12_figure_74 0 rfl ?_
          refine v_iconst (v := (1 : Int32)) K dX12_figure_75 (by decide) ?_
          refine v_iload_n K dX12_figure_76 1 rfl ?_
          refine x_Vv (As := [.int (1 : Int32), .int l1]) (st := []) K uv_X12_addStep qm_X12_186 dX12_figure_77 rv_X12 (fun _ h => c_X12_addStep l  n (1 : Int32) l1 s12 h) rfl ⟨(Nat.le_of_ble_eq_true rfl), (Nat.le_of_ble_eq_true rfl)⟩ (Nat.le_of_ble_eq_true rfl) hM (fun s14 hM => ?_)
          exact v_vret K rfl dX12_figure_80 hM
        · exact v_sub [0, 1] rfl (ih_3 l1 s12 hM)
    · intro l1 σ hM
      have hM : B_X12_figure_3 (L_X12_figure  n) n  l1 σ = some res := hM
      refine v_aload_n K dX12_figure_70 0 rfl ?_
      refine x_Vv (As := []) (st := []) K uv_X12_wrong qm_X12_179 dX12_figure_71 rv_X12 (fun _ h => c_X12_wrong l  n  σ h) rfl ⟨(Nat.le_of_ble_eq_true rfl), (Nat.le_of_ble_eq_true rfl)⟩ (Nat.le_of_ble_eq_true rfl) hM (fun s15 hM => ?_)
      refine v_aload_n K dX12_figure_74 0 rfl ?_
      refine v_iconst (v := (1 : Int32)) K dX12_figure_75 (by decide) ?_
      refine v_iload_n K dX12_figure_76 1 rfl ?_
      refine x_Vv (As := [.int (1 : Int32), .int l1]) (st := []) K uv_X12_addStep qm_X12_186 dX12_figure_77 rv_X12 (fun _ h => c_X12_addStep l  n (1 : Int32) l1 s15 h) rfl ⟨(Nat.le_of_ble_eq_true rfl), (Nat.le_of_ble_eq_true rfl)⟩ (Nat.le_of_ble_eq_true rfl) hM (fun s16 hM => ?_)
      exact v_vret K rfl dX12_figure_80 hM
set_option maxHeartbeats 4000000 in
set_option maxRecDepth 20000 in
theorem c_X12_figure (l : Launch) {D : va_G} {A : Nat → Prop} {ad : Nat → Nat} {dA : Nat → ClassId}  (n : Nat)  (σ : St) {res : Unit × St} (hM : F_X12_figure n  σ = some res) : MI l yX12_figure cX12_figure 3 none 2 D (tysR dA) (wdR ad dA) A [.ref (ad 0)] σ (QV D (wdR ad dA) A res) := by
  refine mk_met (by decide +kernel) (Nat.le_of_ble_eq_true rfl) (fun p e s m below meth c K => ?_)
  have K : Cx p s m _ meth c cX12_figure 3 none RX12 D (tysR dA) (wdR ad dA) A := K
  obtain ⟨ih_1, ih_2, ih_3⟩ := t_X12_figure l    K (res := res) n (below := below) (e := e)
  refine v_iconst (v := (0 : Int32)) K dX12_figure_0 (by decide) ?_
  refine v_istore_n K dX12_figure_1 rfl (by decide) [(1, .int (0 : Int32)), (0, .ref (ad 0))] rfl ?_
  refine v_iconst (v := (0 : Int32)) K dX12_figure_2 (by decide) ?_
  refine v_istore_n K dX12_figure_3 rfl (by decide) [(2, .int (0 : Int32)), (1, .int (0 : Int32)), (0, .ref (ad 0))] rfl ?_
  exact v_sub [2, 1, 0] rfl (ih_1 (0 : Int32) (0 : Int32) σ hM)
noncomputable def B_X12_either_1 (O : Nat → Nat → St → Option (Unit × St)) (J : Nat → St → Option (Unit × St)) (n : Nat)   (σ : St) : Option (Unit × St) := if 0 ≤ (gI σ 0 15) then (some ((), σ)) else (bd (F_X12_look n  σ) fun r3 s2 => if r3 = (124 : Int32) then (bnd (sI s2 0 14 ((gI s2 0 14) + (1 : Int32))) fun s4 => bd (O 1 n s4) fun _ s5 => bd (F_X12_addStep n (124 : Int32) (0 : Int32) s5) fun _ s6 => J 1  s6) else (some ((), s2)))
noncomputable def S_X12_either (O : Nat → Nat → St → Option (Unit × St))  (n : Nat) (J : Nat → St → Option (Unit × St)) : Nat → St → Option (Unit × St) := fun lb  σ => match lb with
  | 1 => B_X12_either_1 O J n   σ
  | _ => none
noncomputable def L_X12_either (O : Nat → Nat → St → Option (Unit × St))  (n : Nat) : Nat → St → Option (Unit × St) := Nat.rec (fun _ _ => none) (fun n J => S_X12_either O  n J) n
noncomputable def E_X12_either (O : Nat → Nat → St → Option (Unit × St)) (n : Nat)  (σ : St) : Option (Unit × St) := bd (O 1 n σ) fun _ s1 => L_X12_either O  n 1  s1
set_option maxHeartbeats 4000000 in
set_option maxRecDepth 20000 in
theorem t_X12_either (l : Launch) {p : Program} {e : Env} {s : State} {m : MethodId} {args : Array Value} {below : List Frame} {meth : Method} {c : Code} {D : va_G} {A : Nat → Prop} {ad : Nat → Nat} {dA : Nat → ClassId}   (d : Nat) {O : Nat → Nat → St → Option (Unit × St)} (ih_r0 : ∀ (n : Nat)  (σ : St) {res : Unit × St}, O 0 n  σ = some res → MI l yX12_either cX12_either 1 none (3 + d) D (tysR dA) (wdR ad dA) A [.ref (ad 0)] σ (QV D (wdR ad dA) A res)) (ih_r1 : ∀ (n : Nat)  (σ : St) {res : Unit × St}, O 1 n  σ = some res → MI l yX12_both cX12_both 1 none (3 + d) D (tysR dA) (wdR ad dA) A [.ref (ad 0)] σ (QV D (wdR ad dA) A res)) (ih_r2 : ∀ (n : Nat)  (σ : St) {res : Unit × St}, O 2 n  σ = some res → MI l yX12_compared cX12_compared 2 none (3 + d) D (tysR dA) (wdR ad dA) A [.ref (ad 0)] σ (QV D (wdR ad dA) A res)) (ih_r3 : ∀ (n : Nat)  (σ : St) {res : Unit × St}, O 3 n  σ = some res → MI l yX12_sum cX12_sum 2 none (3 + d) D (tysR dA) (wdR ad dA) A [.ref (ad 0)] σ (QV D (wdR ad dA) A res)) (ih_r4 : ∀ (n : Nat)  (σ : St) {res : Unit × St}, O 4 n  σ = some res → MI l yX12_product cX12_product 2 none (3 + d) D (tysR dA) (wdR ad dA) A [.ref (ad 0)] σ (QV D (wdR ad dA) A res)) (ih_r5 : ∀ (n : Nat)  (σ : St) {res : Unit × St}, O 5 n  σ = some res → MI l yX12_operand cX12_operand 2 none (3 + d) D (tysR dA) (wdR ad dA) A [.ref (ad 0)] σ (QV D (wdR ad dA) A res)) (K : Cx p s m args meth c cX12_either 1 none RX12 D (tysR dA) (wdR ad dA) A) {res : Unit × St} (n : Nat) : (∀ (σ : St), L_X12_either O  n 1  σ = some res → V p l e (rmH (3 + d + 1)) s m args below meth c 1 D (wdR ad dA) A (MQ below (QV D (wdR ad dA) A res) args s 0 0 A) 4 [(0, .ref (ad 0))] [] σ) := by
  induction n with
  | zero => exact (fun _ h => (by cases h))
  | succ n ih =>
    have ih_1 := ih
    · intro  σ hM
      have hM : B_X12_either_1 O (L_X12_either O  n) n   σ = some res := hM
      refine v_aload_n K dX12_either_4 0 rfl ?_
      refine g_X12_15 K qf_X12_170 dX12_either_5 ?_
      refine v_if_ge K 44 dX12_either_8 (by decide) hM (fun hM => ?_) (fun hM => ?_)
      · exact v_vret K rfl dX12_either_44 hM
      · refine v_aload_n K dX12_either_11 0 rfl ?_
        refine x_Vi (As := []) (st := []) K uv_X12_look qm_X12_182 dX12_either_12 rv_X12 (fun _ h => c_X12_look l  n  σ h) rfl ⟨(by simp only [rmH]; omega), (by simp only [rmH]; omega)⟩ (Nat.le_of_ble_eq_true rfl) hM (fun r3 s2 hM => ?_)
        refine v_bipush (v := (124 : Int32)) K dX12_either_15 (by decide) ?_
        refine v_icmp_ne K 44 dX12_either_17 (by decide) hM (fun hM => ?_) (fun hM => ?_)
        · exact v_vret K rfl dX12_either_44 hM
        · refine v_aload_n K dX12_either_20 0 rfl ?_
          refine v_dup K dX12_either_21 rfl ?_
          refine g_X12_14 K qf_X12_167 dX12_either_22 ?_
          refine v_iconst (v := (1 : Int32)) K dX12_either_25 (by decide) ?_
          refine v_iadd K dX12_either_26 ?_
          refine p_X12_14 K qf_X12_167 dX12_either_27 hM (fun s4 hM => ?_)
          refine v_aload_n K dX12_either_30 0 rfl ?_
          refine x_Vv (As := []) (st := []) K uv_X12_both qm_X12_216 dX12_either_31 rv_X12 (fun _ h => ih_r1 n  s4 h) rfl ⟨by simp only [rmH]; omega, by simp only [rmH]; omega⟩ (Nat.le_of_ble_eq_true rfl) hM (fun s5 hM => ?_)
          refine v_aload_n K dX12_either_34 0 rfl ?_
          refine v_bipush (v := (124 : Int32)) K dX12_either_35 (by decide) ?_
          refine v_iconst (v := (0 : Int32)) K dX12_either_37 (by decide) ?_
          refine x_Vv (As := [.int (124 : Int32), .int (0 : Int32)]) (st := []) K uv_X12_addStep qm_X12_186 dX12_either_38 rv_X12 (fun _ h => c_X12_addStep l  n (124 : Int32) (0 : Int32) s5 h) rfl ⟨(by simp only [rmH]; omega), (by simp only [rmH]; omega)⟩ (Nat.le_of_ble_eq_true rfl) hM (fun s6 hM => ?_)
          refine v_goto (tgt := 4) K dX12_either_41 (by decide) ?_
          exact v_sub [0] rfl (ih_1  s6 hM)
set_option maxHeartbeats 4000000 in
set_option maxRecDepth 20000 in
theorem e_X12_either (l : Launch) {D : va_G} {A : Nat → Prop} {ad : Nat → Nat} {dA : Nat → ClassId} (d : Nat) {O : Nat → Nat → St → Option (Unit × St)} (ih_r0 : ∀ (n : Nat)  (σ : St) {res : Unit × St}, O 0 n  σ = some res → MI l yX12_either cX12_either 1 none (3 + d) D (tysR dA) (wdR ad dA) A [.ref (ad 0)] σ (QV D (wdR ad dA) A res)) (ih_r1 : ∀ (n : Nat)  (σ : St) {res : Unit × St}, O 1 n  σ = some res → MI l yX12_both cX12_both 1 none (3 + d) D (tysR dA) (wdR ad dA) A [.ref (ad 0)] σ (QV D (wdR ad dA) A res)) (ih_r2 : ∀ (n : Nat)  (σ : St) {res : Unit × St}, O 2 n  σ = some res → MI l yX12_compared cX12_compared 2 none (3 + d) D (tysR dA) (wdR ad dA) A [.ref (ad 0)] σ (QV D (wdR ad dA) A res)) (ih_r3 : ∀ (n : Nat)  (σ : St) {res : Unit × St}, O 3 n  σ = some res → MI l yX12_sum cX12_sum 2 none (3 + d) D (tysR dA) (wdR ad dA) A [.ref (ad 0)] σ (QV D (wdR ad dA) A res)) (ih_r4 : ∀ (n : Nat)  (σ : St) {res : Unit × St}, O 4 n  σ = some res → MI l yX12_product cX12_product 2 none (3 + d) D (tysR dA) (wdR ad dA) A [.ref (ad 0)] σ (QV D (wdR ad dA) A res)) (ih_r5 : ∀ (n : Nat)  (σ : St) {res : Unit × St}, O 5 n  σ = some res → MI l yX12_operand cX12_operand 2 none (3 + d) D (tysR dA) (wdR ad dA) A [.ref (ad 0)] σ (QV D (wdR ad dA) A res))  (n : Nat)  (σ : St) {res : Unit × St} (hM : E_X12_either O n  σ = some res) : MI l yX12_either cX12_either 1 none (3 + d + 1) D (tysR dA) (wdR ad dA) A [.ref (ad 0)] σ (QV D (wdR ad dA) A res) := by
  refine mk_met (by decide +kernel) (Nat.le_of_ble_eq_true rfl) (fun p e s m below meth c K => ?_)
  have K : Cx p s m _ meth c cX12_either 1 none RX12 D (tysR dA) (wdR ad dA) A := K
  have ih_1 := t_X12_either l   d ih_r0 ih_r1 ih_r2 ih_r3 ih_r4 ih_r5 K (res := res) n (below := below) (e := e)
  refine v_aload_n K dX12_either_0 0 rfl ?_
  refine x_Vv (As := []) (st := []) K uv_X12_both qm_X12_216 dX12_either_1 rv_X12 (fun _ h => ih_r1 n  σ h) rfl ⟨by simp only [rmH]; omega, by simp only [rmH]; omega⟩ (Nat.le_of_ble_eq_true rfl) hM (fun s1 hM => ?_)
  exact v_sub [0] rfl (ih_1  s1 hM)
noncomputable def B_X12_both_1 (O : Nat → Nat → St → Option (Unit × St)) (J : Nat → St → Option (Unit × St)) (n : Nat)   (σ : St) : Option (Unit × St) := if 0 ≤ (gI σ 0 15) then (some ((), σ)) else (bd (F_X12_look n  σ) fun r3 s2 => if r3 = (38 : Int32) then (bnd (sI s2 0 14 ((gI s2 0 14) + (1 : Int32))) fun s4 => bd (O 2 n s4) fun _ s5 => bd (F_X12_addStep n (38 : Int32) (0 : Int32) s5) fun _ s6 => J 1  s6) else (some ((), s2)))
noncomputable def S_X12_both (O : Nat → Nat → St → Option (Unit × St))  (n : Nat) (J : Nat → St → Option (Unit × St)) : Nat → St → Option (Unit × St) := fun lb  σ => match lb with
  | 1 => B_X12_both_1 O J n   σ
  | _ => none
noncomputable def L_X12_both (O : Nat → Nat → St → Option (Unit × St))  (n : Nat) : Nat → St → Option (Unit × St) := Nat.rec (fun _ _ => none) (fun n J => S_X12_both O  n J) n
noncomputable def E_X12_both (O : Nat → Nat → St → Option (Unit × St)) (n : Nat)  (σ : St) : Option (Unit × St) := bd (O 2 n σ) fun _ s1 => L_X12_both O  n 1  s1
set_option maxHeartbeats 4000000 in
set_option maxRecDepth 20000 in
theorem t_X12_both (l : Launch) {p : Program} {e : Env} {s : State} {m : MethodId} {args : Array Value} {below : List Frame} {meth : Method} {c : Code} {D : va_G} {A : Nat → Prop} {ad : Nat → Nat} {dA : Nat → ClassId}   (d : Nat) {O : Nat → Nat → St → Option (Unit × St)} (ih_r0 : ∀ (n : Nat)  (σ : St) {res : Unit × St}, O 0 n  σ = some res → MI l yX12_either cX12_either 1 none (3 + d) D (tysR dA) (wdR ad dA) A [.ref (ad 0)] σ (QV D (wdR ad dA) A res)) (ih_r1 : ∀ (n : Nat)  (σ : St) {res : Unit × St}, O 1 n  σ = some res → MI l yX12_both cX12_both 1 none (3 + d) D (tysR dA) (wdR ad dA) A [.ref (ad 0)] σ (QV D (wdR ad dA) A res)) (ih_r2 : ∀ (n : Nat)  (σ : St) {res : Unit × St}, O 2 n  σ = some res → MI l yX12_compared cX12_compared 2 none (3 + d) D (tysR dA) (wdR ad dA) A [.ref (ad 0)] σ (QV D (wdR ad dA) A res)) (ih_r3 : ∀ (n : Nat)  (σ : St) {res : Unit × St}, O 3 n  σ = some res → MI l yX12_sum cX12_sum 2 none (3 + d) D (tysR dA) (wdR ad dA) A [.ref (ad 0)] σ (QV D (wdR ad dA) A res)) (ih_r4 : ∀ (n : Nat)  (σ : St) {res : Unit × St}, O 4 n  σ = some res → MI l yX12_product cX12_product 2 none (3 + d) D (tysR dA) (wdR ad dA) A [.ref (ad 0)] σ (QV D (wdR ad dA) A res)) (ih_r5 : ∀ (n : Nat)  (σ : St) {res : Unit × St}, O 5 n  σ = some res → MI l yX12_operand cX12_operand 2 none (3 + d) D (tysR dA) (wdR ad dA) A [.ref (ad 0)] σ (QV D (wdR ad dA) A res)) (K : Cx p s m args meth c cX12_both 1 none RX12 D (tysR dA) (wdR ad dA) A) {res : Unit × St} (n : Nat) : (∀ (σ : St), L_X12_both O  n 1  σ = some res → V p l e (rmH (3 + d + 1)) s m args below meth c 1 D (wdR ad dA) A (MQ below (QV D (wdR ad dA) A res) args s 0 0 A) 4 [(0, .ref (ad 0))] [] σ) := by
  induction n with
  | zero => exact (fun _ h => (by cases h))
  | succ n ih =>
    have ih_1 := ih
    · intro  σ hM
      have hM : B_X12_both_1 O (L_X12_both O  n) n   σ = some res := hM
      refine v_aload_n K dX12_both_4 0 rfl ?_
      refine g_X12_15 K qf_X12_170 dX12_both_5 ?_
      refine v_if_ge K 44 dX12_both_8 (by decide) hM (fun hM => ?_) (fun hM => ?_)
      · exact v_vret K rfl dX12_both_44 hM
      · refine v_aload_n K dX12_both_11 0 rfl ?_
        refine x_Vi (As := []) (st := []) K uv_X12_look qm_X12_182 dX12_both_12 rv_X12 (fun _ h => c_X12_look l  n  σ h) rfl ⟨(by simp only [rmH]; omega), (by simp only [rmH]; omega)⟩ (Nat.le_of_ble_eq_true rfl) hM (fun r3 s2 hM => ?_)
        refine v_bipush (v := (38 : Int32)) K dX12_both_15 (by decide) ?_
        refine v_icmp_ne K 44 dX12_both_17 (by decide) hM (fun hM => ?_) (fun hM => ?_)
        · exact v_vret K rfl dX12_both_44 hM
        · refine v_aload_n K dX12_both_20 0 rfl ?_
          refine v_dup K dX12_both_21 rfl ?_
          refine g_X12_14 K qf_X12_167 dX12_both_22 ?_
          refine v_iconst (v := (1 : Int32)) K dX12_both_25 (by decide) ?_
          refine v_iadd K dX12_both_26 ?_
          refine p_X12_14 K qf_X12_167 dX12_both_27 hM (fun s4 hM => ?_)
          refine v_aload_n K dX12_both_30 0 rfl ?_
          refine x_Vv (As := []) (st := []) K uv_X12_compared qm_X12_213 dX12_both_31 rv_X12 (fun _ h => ih_r2 n  s4 h) rfl ⟨by simp only [rmH]; omega, by simp only [rmH]; omega⟩ (Nat.le_of_ble_eq_true rfl) hM (fun s5 hM => ?_)
          refine v_aload_n K dX12_both_34 0 rfl ?_
          refine v_bipush (v := (38 : Int32)) K dX12_both_35 (by decide) ?_
          refine v_iconst (v := (0 : Int32)) K dX12_both_37 (by decide) ?_
          refine x_Vv (As := [.int (38 : Int32), .int (0 : Int32)]) (st := []) K uv_X12_addStep qm_X12_186 dX12_both_38 rv_X12 (fun _ h => c_X12_addStep l  n (38 : Int32) (0 : Int32) s5 h) rfl ⟨(by simp only [rmH]; omega), (by simp only [rmH]; omega)⟩ (Nat.le_of_ble_eq_true rfl) hM (fun s6 hM => ?_)
          refine v_goto (tgt := 4) K dX12_both_41 (by decide) ?_
          exact v_sub [0] rfl (ih_1  s6 hM)
set_option maxHeartbeats 4000000 in
set_option maxRecDepth 20000 in
theorem e_X12_both (l : Launch) {D : va_G} {A : Nat → Prop} {ad : Nat → Nat} {dA : Nat → ClassId} (d : Nat) {O : Nat → Nat → St → Option (Unit × St)} (ih_r0 : ∀ (n : Nat)  (σ : St) {res : Unit × St}, O 0 n  σ = some res → MI l yX12_either cX12_either 1 none (3 + d) D (tysR dA) (wdR ad dA) A [.ref (ad 0)] σ (QV D (wdR ad dA) A res)) (ih_r1 : ∀ (n : Nat)  (σ : St) {res : Unit × St}, O 1 n  σ = some res → MI l yX12_both cX12_both 1 none (3 + d) D (tysR dA) (wdR ad dA) A [.ref (ad 0)] σ (QV D (wdR ad dA) A res)) (ih_r2 : ∀ (n : Nat)  (σ : St) {res : Unit × St}, O 2 n  σ = some res → MI l yX12_compared cX12_compared 2 none (3 + d) D (tysR dA) (wdR ad dA) A [.ref (ad 0)] σ (QV D (wdR ad dA) A res)) (ih_r3 : ∀ (n : Nat)  (σ : St) {res : Unit × St}, O 3 n  σ = some res → MI l yX12_sum cX12_sum 2 none (3 + d) D (tysR dA) (wdR ad dA) A [.ref (ad 0)] σ (QV D (wdR ad dA) A res)) (ih_r4 : ∀ (n : Nat)  (σ : St) {res : Unit × St}, O 4 n  σ = some res → MI l yX12_product cX12_product 2 none (3 + d) D (tysR dA) (wdR ad dA) A [.ref (ad 0)] σ (QV D (wdR ad dA) A res)) (ih_r5 : ∀ (n : Nat)  (σ : St) {res : Unit × St}, O 5 n  σ = some res → MI l yX12_operand cX12_operand 2 none (3 + d) D (tysR dA) (wdR ad dA) A [.ref (ad 0)] σ (QV D (wdR ad dA) A res))  (n : Nat)  (σ : St) {res : Unit × St} (hM : E_X12_both O n  σ = some res) : MI l yX12_both cX12_both 1 none (3 + d + 1) D (tysR dA) (wdR ad dA) A [.ref (ad 0)] σ (QV D (wdR ad dA) A res) := by
  refine mk_met (by decide +kernel) (Nat.le_of_ble_eq_true rfl) (fun p e s m below meth c K => ?_)
  have K : Cx p s m _ meth c cX12_both 1 none RX12 D (tysR dA) (wdR ad dA) A := K
  have ih_1 := t_X12_both l   d ih_r0 ih_r1 ih_r2 ih_r3 ih_r4 ih_r5 K (res := res) n (below := below) (e := e)
  refine v_aload_n K dX12_both_0 0 rfl ?_
  refine x_Vv (As := []) (st := []) K uv_X12_compared qm_X12_213 dX12_both_1 rv_X12 (fun _ h => ih_r2 n  σ h) rfl ⟨by simp only [rmH]; omega, by simp only [rmH]; omega⟩ (Nat.le_of_ble_eq_true rfl) hM (fun s1 hM => ?_)
  exact v_sub [0] rfl (ih_1  s1 hM)
noncomputable def B_X12_compared_1 (O : Nat → Nat → St → Option (Unit × St)) (J : Nat → Int32 → St → Option (Unit × St)) (n : Nat)  (l1 : Int32) (σ : St) : Option (Unit × St) := bnd (sI σ 0 14 ((gI σ 0 14) + (1 : Int32))) fun s4 => bd (O 3 n s4) fun _ s5 => bd (F_X12_addStep n l1 (0 : Int32) s5) fun _ s6 => some ((), s6)
noncomputable def S_X12_compared (O : Nat → Nat → St → Option (Unit × St))  (n : Nat) (J : Nat → Int32 → St → Option (Unit × St)) : Nat → Int32 → St → Option (Unit × St) := fun lb a0 σ => match lb with
  | 1 => B_X12_compared_1 O J n  a0 σ
  | _ => none
noncomputable def L_X12_compared (O : Nat → Nat → St → Option (Unit × St))  (n : Nat) : Nat → Int32 → St → Option (Unit × St) := Nat.rec (fun _ _ _ => none) (fun n J => S_X12_compared O  n J) n
noncomputable def E_X12_compared (O : Nat → Nat → St → Option (Unit × St)) (n : Nat)  (σ : St) : Option (Unit × St) := bd (O 3 n σ) fun _ s1 => bd (F_X12_look n  s1) fun r3 s2 => if 0 ≤ (gI s2 0 15) then (some ((), s2)) else (if r3 = (60 : Int32) then (L_X12_compared O  n 1 r3 s2) else (if r3 = (61 : Int32) then (L_X12_compared O  n 1 r3 s2) else (if r3 = (62 : Int32) then (L_X12_compared O  n 1 r3 s2) else (some ((), s2)))))
set_option maxHeartbeats 4000000 in
set_option maxRecDepth 20000 in
theorem t_X12_compared (l : Launch) {p : Program} {e : Env} {s : State} {m : MethodId} {args : Array Value} {below : List Frame} {meth : Method} {c : Code} {D : va_G} {A : Nat → Prop} {ad : Nat → Nat} {dA : Nat → ClassId}   (d : Nat) {O : Nat → Nat → St → Option (Unit × St)} (ih_r0 : ∀ (n : Nat)  (σ : St) {res : Unit × St}, O 0 n  σ = some res → MI l yX12_either cX12_either 1 none (3 + d) D (tysR dA) (wdR ad dA) A [.ref (ad 0)] σ (QV D (wdR ad dA) A res)) (ih_r1 : ∀ (n : Nat)  (σ : St) {res : Unit × St}, O 1 n  σ = some res → MI l yX12_both cX12_both 1 none (3 + d) D (tysR dA) (wdR ad dA) A [.ref (ad 0)] σ (QV D (wdR ad dA) A res)) (ih_r2 : ∀ (n : Nat)  (σ : St) {res : Unit × St}, O 2 n  σ = some res → MI l yX12_compared cX12_compared 2 none (3 + d) D (tysR dA) (wdR ad dA) A [.ref (ad 0)] σ (QV D (wdR ad dA) A res)) (ih_r3 : ∀ (n : Nat)  (σ : St) {res : Unit × St}, O 3 n  σ = some res → MI l yX12_sum cX12_sum 2 none (3 + d) D (tysR dA) (wdR ad dA) A [.ref (ad 0)] σ (QV D (wdR ad dA) A res)) (ih_r4 : ∀ (n : Nat)  (σ : St) {res : Unit × St}, O 4 n  σ = some res → MI l yX12_product cX12_product 2 none (3 + d) D (tysR dA) (wdR ad dA) A [.ref (ad 0)] σ (QV D (wdR ad dA) A res)) (ih_r5 : ∀ (n : Nat)  (σ : St) {res : Unit × St}, O 5 n  σ = some res → MI l yX12_operand cX12_operand 2 none (3 + d) D (tysR dA) (wdR ad dA) A [.ref (ad 0)] σ (QV D (wdR ad dA) A res)) (K : Cx p s m args meth c cX12_compared 2 none RX12 D (tysR dA) (wdR ad dA) A) {res : Unit × St} (n : Nat) : (∀ (l1 : Int32) (σ : St), L_X12_compared O  n 1 l1 σ = some res → V p l e (rmH (3 + d + 1)) s m args below meth c 2 D (wdR ad dA) A (MQ below (QV D (wdR ad dA) A res) args s 0 0 A) 35 [(0, .ref (ad 0)), (1, .int l1)] [] σ) := by
  induction n with
  | zero => exact (fun _ _ h => (by cases h))
  | succ n ih =>
    have ih_1 := ih
    · intro l1 σ hM
      have hM : B_X12_compared_1 O (L_X12_compared O  n) n  l1 σ = some res := hM
      refine v_aload_n K dX12_compared_35 0 rfl ?_
      refine v_dup K dX12_compared_36 rfl ?_
      refine g_X12_14 K qf_X12_167 dX12_compared_37 ?_
      refine v_iconst (v := (1 : Int32)) K dX12_compared_40 (by decide) ?_
      refine v_iadd K dX12_compared_41 ?_
      refine p_X12_14 K qf_X12_167 dX12_compared_42 hM (fun s4 hM => ?_)
      refine v_aload_n K dX12_compared_45 0 rfl ?_
      refine x_Vv (As := []) (st := []) K uv_X12_sum qm_X12_210 dX12_compared_46 rv_X12 (fun _ h => ih_r3 n  s4 h) rfl ⟨by simp only [rmH]; omega, by simp only [rmH]; omega⟩ (Nat.le_of_ble_eq_true rfl) hM (fun s5 hM => ?_)
      refine v_aload_n K dX12_compared_49 0 rfl ?_
      refine v_iload_n K dX12_compared_50 1 rfl ?_
      refine v_iconst (v := (0 : Int32)) K dX12_compared_51 (by decide) ?_
      refine x_Vv (As := [.int l1, .int (0 : Int32)]) (st := []) K uv_X12_addStep qm_X12_186 dX12_compared_52 rv_X12 (fun _ h => c_X12_addStep l  n l1 (0 : Int32) s5 h) rfl ⟨(by simp only [rmH]; omega), (by simp only [rmH]; omega)⟩ (Nat.le_of_ble_eq_true rfl) hM (fun s6 hM => ?_)
      exact v_vret K rfl dX12_compared_55 hM
set_option maxHeartbeats 4000000 in
set_option maxRecDepth 20000 in
theorem e_X12_compared (l : Launch) {D : va_G} {A : Nat → Prop} {ad : Nat → Nat} {dA : Nat → ClassId} (d : Nat) {O : Nat → Nat → St → Option (Unit × St)} (ih_r0 : ∀ (n : Nat)  (σ : St) {res : Unit × St}, O 0 n  σ = some res → MI l yX12_either cX12_either 1 none (3 + d) D (tysR dA) (wdR ad dA) A [.ref (ad 0)] σ (QV D (wdR ad dA) A res)) (ih_r1 : ∀ (n : Nat)  (σ : St) {res : Unit × St}, O 1 n  σ = some res → MI l yX12_both cX12_both 1 none (3 + d) D (tysR dA) (wdR ad dA) A [.ref (ad 0)] σ (QV D (wdR ad dA) A res)) (ih_r2 : ∀ (n : Nat)  (σ : St) {res : Unit × St}, O 2 n  σ = some res → MI l yX12_compared cX12_compared 2 none (3 + d) D (tysR dA) (wdR ad dA) A [.ref (ad 0)] σ (QV D (wdR ad dA) A res)) (ih_r3 : ∀ (n : Nat)  (σ : St) {res : Unit × St}, O 3 n  σ = some res → MI l yX12_sum cX12_sum 2 none (3 + d) D (tysR dA) (wdR ad dA) A [.ref (ad 0)] σ (QV D (wdR ad dA) A res)) (ih_r4 : ∀ (n : Nat)  (σ : St) {res : Unit × St}, O 4 n  σ = some res → MI l yX12_product cX12_product 2 none (3 + d) D (tysR dA) (wdR ad dA) A [.ref (ad 0)] σ (QV D (wdR ad dA) A res)) (ih_r5 : ∀ (n : Nat)  (σ : St) {res : Unit × St}, O 5 n  σ = some res → MI l yX12_operand cX12_operand 2 none (3 + d) D (tysR dA) (wdR ad dA) A [.ref (ad 0)] σ (QV D (wdR ad dA) A res))  (n : Nat)  (σ : St) {res : Unit × St} (hM : E_X12_compared O n  σ = some res) : MI l yX12_compared cX12_compared 2 none (3 + d + 1) D (tysR dA) (wdR ad dA) A [.ref (ad 0)] σ (QV D (wdR ad dA) A res) := by
  refine mk_met (by decide +kernel) (Nat.le_of_ble_eq_true rfl) (fun p e s m below meth c K => ?_)
  have K : Cx p s m _ meth c cX12_compared 2 none RX12 D (tysR dA) (wdR ad dA) A := K
  have ih_1 := t_X12_compared l   d ih_r0 ih_r1 ih_r2 ih_r3 ih_r4 ih_r5 K (res := res) n (below := below) (e := e)
  refine v_aload_n K dX12_compared_0 0 rfl ?_
  refine x_Vv (As := []) (st := []) K uv_X12_sum qm_X12_210 dX12_compared_1 rv_X12 (fun _ h => ih_r3 n  σ h) rfl ⟨by simp only [rmH]; omega, by simp only [rmH]; omega⟩ (Nat.le_of_ble_eq_true rfl) hM (fun s1 hM => ?_)
  refine v_aload_n K dX12_compared_4 0 rfl ?_
  refine x_Vi (As := []) (st := []) K uv_X12_look qm_X12_182 dX12_compared_5 rv_X12 (fun _ h => c_X12_look l  n  s1 h) rfl ⟨(by simp only [rmH]; omega), (by simp only [rmH]; omega)⟩ (Nat.le_of_ble_eq_true rfl) hM (fun r3 s2 hM => ?_)
  refine v_istore_n K dX12_compared_8 rfl (by decide) [(1, .int r3), (0, .ref (ad 0))] rfl ?_
  refine v_aload_n K dX12_compared_9 1 rfl ?_
  refine g_X12_15 K qf_X12_170 dX12_compared_10 ?_
  refine v_if_ge K 34 dX12_compared_13 (by decide) hM (fun hM => ?_) (fun hM => ?_)
  · exact v_vret K rfl dX12_compared_34 hM
  · refine v_iload_n K dX12_compared_16 0 rfl ?_
    refine v_bipush (v := (60 : Int32)) K dX12_compared_17 (by decide) ?_
    refine v_icmp_eq K 35 dX12_compared_19 (by decide) hM (fun hM => ?_) (fun hM => ?_)
    · exact v_sub [1, 0] rfl (ih_1 r3 s2 hM)
    · refine v_iload_n K dX12_compared_22 0 rfl ?_
      refine v_bipush (v := (61 : Int32)) K dX12_compared_23 (by decide) ?_
      refine v_icmp_eq K 35 dX12_compared_25 (by decide) hM (fun hM => ?_) (fun hM => ?_)
      · exact v_sub [1, 0] rfl (ih_1 r3 s2 hM)
      · refine v_iload_n K dX12_compared_28 0 rfl ?_
        refine v_bipush (v := (62 : Int32)) K dX12_compared_29 (by decide) ?_
        refine v_icmp_eq K 35 dX12_compared_31 (by decide) hM (fun hM => ?_) (fun hM => ?_)
        · exact v_sub [1, 0] rfl (ih_1 r3 s2 hM)
        · exact v_vret K rfl dX12_compared_34 hM
noncomputable def B_X12_sum_1 (O : Nat → Nat → St → Option (Unit × St)) (J : Nat → St → Option (Unit × St)) (n : Nat)   (σ : St) : Option (Unit × St) := if 0 ≤ (gI σ 0 15) then (some ((), σ)) else (bd (F_X12_look n  σ) fun r3 s2 => if r3 = (43 : Int32) then (J 2  s2) else (bd (F_X12_look n  s2) fun r5 s4 => if r5 = (45 : Int32) then (J 2  s4) else (some ((), s4))))
noncomputable def B_X12_sum_2 (O : Nat → Nat → St → Option (Unit × St)) (J : Nat → St → Option (Unit × St)) (n : Nat)   (σ : St) : Option (Unit × St) := bd (F_X12_look n  σ) fun r7 s6 => bnd (sI s6 0 14 ((gI s6 0 14) + (1 : Int32))) fun s8 => bd (O 4 n s8) fun _ s9 => bd (F_X12_addStep n r7 (0 : Int32) s9) fun _ s10 => J 1  s10
noncomputable def S_X12_sum (O : Nat → Nat → St → Option (Unit × St))  (n : Nat) (J : Nat → St → Option (Unit × St)) : Nat → St → Option (Unit × St) := fun lb  σ => match lb with
  | 1 => B_X12_sum_1 O J n   σ
  | 2 => B_X12_sum_2 O J n   σ
  | _ => none
noncomputable def L_X12_sum (O : Nat → Nat → St → Option (Unit × St))  (n : Nat) : Nat → St → Option (Unit × St) := Nat.rec (fun _ _ => none) (fun n J => S_X12_sum O  n J) n
noncomputable def E_X12_sum (O : Nat → Nat → St → Option (Unit × St)) (n : Nat)  (σ : St) : Option (Unit × St) := bd (O 4 n σ) fun _ s1 => L_X12_sum O  n 1  s1
set_option maxHeartbeats 4000000 in
set_option maxRecDepth 20000 in
theorem t_X12_sum (l : Launch) {p : Program} {e : Env} {s : State} {m : MethodId} {args : Array Value} {below : List Frame} {meth : Method} {c : Code} {D : va_G} {A : Nat → Prop} {ad : Nat → Nat} {dA : Nat → ClassId}   (d : Nat) {O : Nat → Nat → St → Option (Unit × St)} (ih_r0 : ∀ (n : Nat)  (σ : St) {res : Unit × St}, O 0 n  σ = some res → MI l yX12_either cX12_either 1 none (3 + d) D (tysR dA) (wdR ad dA) A [.ref (ad 0)] σ (QV D (wdR ad dA) A res)) (ih_r1 : ∀ (n : Nat)  (σ : St) {res : Unit × St}, O 1 n  σ = some res → MI l yX12_both cX12_both 1 none (3 + d) D (tysR dA) (wdR ad dA) A [.ref (ad 0)] σ (QV D (wdR ad dA) A res)) (ih_r2 : ∀ (n : Nat)  (σ : St) {res : Unit × St}, O 2 n  σ = some res → MI l yX12_compared cX12_compared 2 none (3 + d) D (tysR dA) (wdR ad dA) A [.ref (ad 0)] σ (QV D (wdR ad dA) A res)) (ih_r3 : ∀ (n : Nat)  (σ : St) {res : Unit × St}, O 3 n  σ = some res → MI l yX12_sum cX12_sum 2 none (3 + d) D (tysR dA) (wdR ad dA) A [.ref (ad 0)] σ (QV D (wdR ad dA) A res)) (ih_r4 : ∀ (n : Nat)  (σ : St) {res : Unit × St}, O 4 n  σ = some res → MI l yX12_product cX12_product 2 none (3 + d) D (tysR dA) (wdR ad dA) A [.ref (ad 0)] σ (QV D (wdR ad dA) A res)) (ih_r5 : ∀ (n : Nat)  (σ : St) {res : Unit × St}, O 5 n  σ = some res → MI l yX12_operand cX12_operand 2 none (3 + d) D (tysR dA) (wdR ad dA) A [.ref (ad 0)] σ (QV D (wdR ad dA) A res)) (K : Cx p s m args meth c cX12_sum 2 none RX12 D (tysR dA) (wdR ad dA) A) {res : Unit × St} (n : Nat) : (∀ (σ : St), L_X12_sum O  n 1  σ = some res → V p l e (rmH (3 + d + 1)) s m args below meth c 2 D (wdR ad dA) A (MQ below (QV D (wdR ad dA) A res) args s 0 0 A) 4 [(0, .ref (ad 0))] [] σ) ∧ (∀ (σ : St), L_X12_sum O  n 2  σ = some res → V p l e (rmH (3 + d + 1)) s m args below meth c 2 D (wdR ad dA) A (MQ below (QV D (wdR ad dA) A res) args s 0 0 A) 29 [(0, .ref (ad 0))] [] σ) := by
  induction n with
  | zero => exact ⟨fun _ h => (by cases h), fun _ h => (by cases h)⟩
  | succ n ih =>
    obtain ⟨ih_1, ih_2⟩ := ih
    refine ⟨?_, ?_⟩
    · intro  σ hM
      have hM : B_X12_sum_1 O (L_X12_sum O  n) n   σ = some res := hM
      refine v_aload_n K dX12_sum_4 0 rfl ?_
      refine g_X12_15 K qf_X12_170 dX12_sum_5 ?_
      refine v_if_ge K 57 dX12_sum_8 (by decide) hM (fun hM => ?_) (fun hM => ?_)
      · exact v_vret K rfl dX12_sum_57 hM
      · refine v_aload_n K dX12_sum_11 0 rfl ?_
        refine x_Vi (As := []) (st := []) K uv_X12_look qm_X12_182 dX12_sum_12 rv_X12 (fun _ h => c_X12_look l  n  σ h) rfl ⟨(by simp only [rmH]; omega), (by simp only [rmH]; omega)⟩ (Nat.le_of_ble_eq_true rfl) hM (fun r3 s2 hM => ?_)
        refine v_bipush (v := (43 : Int32)) K dX12_sum_15 (by decide) ?_
        refine v_icmp_eq K 29 dX12_sum_17 (by decide) hM (fun hM => ?_) (fun hM => ?_)
        · exact v_sub [0] rfl (ih_2  s2 hM)
        · refine v_aload_n K dX12_sum_20 0 rfl ?_
          refine x_Vi (As := []) (st := []) K uv_X12_look qm_X12_182 dX12_sum_21 rv_X12 (fun _ h => c_X12_look l  n  s2 h) rfl ⟨(by simp only [rmH]; omega), (by simp only [rmH]; omega)⟩ (Nat.le_of_ble_eq_true rfl) hM (fun r5 s4 hM => ?_)
          refine v_bipush (v := (45 : Int32)) K dX12_sum_24 (by decide) ?_
          refine v_icmp_ne K 57 dX12_sum_26 (by decide) hM (fun hM => ?_) (fun hM => ?_)
          · exact v_vret K rfl dX12_sum_57 hM
          · exact v_sub [0] rfl (ih_2  s4 hM)
    · intro  σ hM
      have hM : B_X12_sum_2 O (L_X12_sum O  n) n   σ = some res := hM
      refine v_aload_n K dX12_sum_29 0 rfl ?_
      refine x_Vi (As := []) (st := []) K uv_X12_look qm_X12_182 dX12_sum_30 rv_X12 (fun _ h => c_X12_look l  n  σ h) rfl ⟨(by simp only [rmH]; omega), (by simp only [rmH]; omega)⟩ (Nat.le_of_ble_eq_true rfl) hM (fun r7 s6 hM => ?_)
      refine v_istore_n K dX12_sum_33 rfl (by decide) [(1, .int r7), (0, .ref (ad 0))] rfl ?_
      refine v_aload_n K dX12_sum_34 1 rfl ?_
      refine v_dup K dX12_sum_35 rfl ?_
      refine g_X12_14 K qf_X12_167 dX12_sum_36 ?_
      refine v_iconst (v := (1 : Int32)) K dX12_sum_39 (by decide) ?_
      refine v_iadd K dX12_sum_40 ?_
      refine p_X12_14 K qf_X12_167 dX12_sum_41 hM (fun s8 hM => ?_)
      refine v_aload_n K dX12_sum_44 1 rfl ?_
      refine x_Vv (As := []) (st := []) K uv_X12_product qm_X12_207 dX12_sum_45 rv_X12 (fun _ h => ih_r4 n  s8 h) rfl ⟨by simp only [rmH]; omega, by simp only [rmH]; omega⟩ (Nat.le_of_ble_eq_true rfl) hM (fun s9 hM => ?_)
      refine v_aload_n K dX12_sum_48 1 rfl ?_
      refine v_iload_n K dX12_sum_49 0 rfl ?_
      refine v_iconst (v := (0 : Int32)) K dX12_sum_50 (by decide) ?_
      refine x_Vv (As := [.int r7, .int (0 : Int32)]) (st := []) K uv_X12_addStep qm_X12_186 dX12_sum_51 rv_X12 (fun _ h => c_X12_addStep l  n r7 (0 : Int32) s9 h) rfl ⟨(by simp only [rmH]; omega), (by simp only [rmH]; omega)⟩ (Nat.le_of_ble_eq_true rfl) hM (fun s10 hM => ?_)
      refine v_goto (tgt := 4) K dX12_sum_54 (by decide) ?_
      exact v_sub [1] rfl (ih_1  s10 hM)
set_option maxHeartbeats 4000000 in
set_option maxRecDepth 20000 in
theorem e_X12_sum (l : Launch) {D : va_G} {A : Nat → Prop} {ad : Nat → Nat} {dA : Nat → ClassId} (d : Nat) {O : Nat → Nat → St → Option (Unit × St)} (ih_r0 : ∀ (n : Nat)  (σ : St) {res : Unit × St}, O 0 n  σ = some res → MI l yX12_either cX12_either 1 none (3 + d) D (tysR dA) (wdR ad dA) A [.ref (ad 0)] σ (QV D (wdR ad dA) A res)) (ih_r1 : ∀ (n : Nat)  (σ : St) {res : Unit × St}, O 1 n  σ = some res → MI l yX12_both cX12_both 1 none (3 + d) D (tysR dA) (wdR ad dA) A [.ref (ad 0)] σ (QV D (wdR ad dA) A res)) (ih_r2 : ∀ (n : Nat)  (σ : St) {res : Unit × St}, O 2 n  σ = some res → MI l yX12_compared cX12_compared 2 none (3 + d) D (tysR dA) (wdR ad dA) A [.ref (ad 0)] σ (QV D (wdR ad dA) A res)) (ih_r3 : ∀ (n : Nat)  (σ : St) {res : Unit × St}, O 3 n  σ = some res → MI l yX12_sum cX12_sum 2 none (3 + d) D (tysR dA) (wdR ad dA) A [.ref (ad 0)] σ (QV D (wdR ad dA) A res)) (ih_r4 : ∀ (n : Nat)  (σ : St) {res : Unit × St}, O 4 n  σ = some res → MI l yX12_product cX12_product 2 none (3 + d) D (tysR dA) (wdR ad dA) A [.ref (ad 0)] σ (QV D (wdR ad dA) A res)) (ih_r5 : ∀ (n : Nat)  (σ : St) {res : Unit × St}, O 5 n  σ = some res → MI l yX12_operand cX12_operand 2 none (3 + d) D (tysR dA) (wdR ad dA) A [.ref (ad 0)] σ (QV D (wdR ad dA) A res))  (n : Nat)  (σ : St) {res : Unit × St} (hM : E_X12_sum O n  σ = some res) : MI l yX12_sum cX12_sum 2 none (3 + d + 1) D (tysR dA) (wdR ad dA) A [.ref (ad 0)] σ (QV D (wdR ad dA) A res) := by
  refine mk_met (by decide +kernel) (Nat.le_of_ble_eq_true rfl) (fun p e s m below meth c K => ?_)
  have K : Cx p s m _ meth c cX12_sum 2 none RX12 D (tysR dA) (wdR ad dA) A := K
  obtain ⟨ih_1, ih_2⟩ := t_X12_sum l   d ih_r0 ih_r1 ih_r2 ih_r3 ih_r4 ih_r5 K (res := res) n (below := below) (e := e)
  refine v_aload_n K dX12_sum_0 0 rfl ?_
  refine x_Vv (As := []) (st := []) K uv_X12_product qm_X12_207 dX12_sum_1 rv_X12 (fun _ h => ih_r4 n  σ h) rfl ⟨by simp only [rmH]; omega, by simp only [rmH]; omega⟩ (Nat.le_of_ble_eq_true rfl) hM (fun s1 hM => ?_)
  exact v_sub [0] rfl (ih_1  s1 hM)
noncomputable def B_X12_product_1 (O : Nat → Nat → St → Option (Unit × St)) (J : Nat → St → Option (Unit × St)) (n : Nat)   (σ : St) : Option (Unit × St) := if 0 ≤ (gI σ 0 15) then (some ((), σ)) else (bd (F_X12_look n  σ) fun r3 s2 => if r3 = (42 : Int32) then (J 2  s2) else (bd (F_X12_look n  s2) fun r5 s4 => if r5 = (47 : Int32) then (J 2  s4) else (bd (F_X12_look n  s4) fun r7 s6 => if r7 = (37 : Int32) then (J 2  s6) else (some ((), s6)))))
noncomputable def B_X12_product_2 (O : Nat → Nat → St → Option (Unit × St)) (J : Nat → St → Option (Unit × St)) (n : Nat)   (σ : St) : Option (Unit × St) := bd (F_X12_look n  σ) fun r9 s8 => bnd (sI s8 0 14 ((gI s8 0 14) + (1 : Int32))) fun s10 => bd (O 5 n s10) fun _ s11 => bd (F_X12_addStep n r9 (0 : Int32) s11) fun _ s12 => J 1  s12
noncomputable def S_X12_product (O : Nat → Nat → St → Option (Unit × St))  (n : Nat) (J : Nat → St → Option (Unit × St)) : Nat → St → Option (Unit × St) := fun lb  σ => match lb with
  | 1 => B_X12_product_1 O J n   σ
  | 2 => B_X12_product_2 O J n   σ
  | _ => none
noncomputable def L_X12_product (O : Nat → Nat → St → Option (Unit × St))  (n : Nat) : Nat → St → Option (Unit × St) := Nat.rec (fun _ _ => none) (fun n J => S_X12_product O  n J) n
noncomputable def E_X12_product (O : Nat → Nat → St → Option (Unit × St)) (n : Nat)  (σ : St) : Option (Unit × St) := bd (O 5 n σ) fun _ s1 => L_X12_product O  n 1  s1
set_option maxHeartbeats 4000000 in
set_option maxRecDepth 20000 in
theorem t_X12_product (l : Launch) {p : Program} {e : Env} {s : State} {m : MethodId} {args : Array Value} {below : List Frame} {meth : Method} {c : Code} {D : va_G} {A : Nat → Prop} {ad : Nat → Nat} {dA : Nat → ClassId}   (d : Nat) {O : Nat → Nat → St → Option (Unit × St)} (ih_r0 : ∀ (n : Nat)  (σ : St) {res : Unit × St}, O 0 n  σ = some res → MI l yX12_either cX12_either 1 none (3 + d) D (tysR dA) (wdR ad dA) A [.ref (ad 0)] σ (QV D (wdR ad dA) A res)) (ih_r1 : ∀ (n : Nat)  (σ : St) {res : Unit × St}, O 1 n  σ = some res → MI l yX12_both cX12_both 1 none (3 + d) D (tysR dA) (wdR ad dA) A [.ref (ad 0)] σ (QV D (wdR ad dA) A res)) (ih_r2 : ∀ (n : Nat)  (σ : St) {res : Unit × St}, O 2 n  σ = some res → MI l yX12_compared cX12_compared 2 none (3 + d) D (tysR dA) (wdR ad dA) A [.ref (ad 0)] σ (QV D (wdR ad dA) A res)) (ih_r3 : ∀ (n : Nat)  (σ : St) {res : Unit × St}, O 3 n  σ = some res → MI l yX12_sum cX12_sum 2 none (3 + d) D (tysR dA) (wdR ad dA) A [.ref (ad 0)] σ (QV D (wdR ad dA) A res)) (ih_r4 : ∀ (n : Nat)  (σ : St) {res : Unit × St}, O 4 n  σ = some res → MI l yX12_product cX12_product 2 none (3 + d) D (tysR dA) (wdR ad dA) A [.ref (ad 0)] σ (QV D (wdR ad dA) A res)) (ih_r5 : ∀ (n : Nat)  (σ : St) {res : Unit × St}, O 5 n  σ = some res → MI l yX12_operand cX12_operand 2 none (3 + d) D (tysR dA) (wdR ad dA) A [.ref (ad 0)] σ (QV D (wdR ad dA) A res)) (K : Cx p s m args meth c cX12_product 2 none RX12 D (tysR dA) (wdR ad dA) A) {res : Unit × St} (n : Nat) : (∀ (σ : St), L_X12_product O  n 1  σ = some res → V p l e (rmH (3 + d + 1)) s m args below meth c 2 D (wdR ad dA) A (MQ below (QV D (wdR ad dA) A res) args s 0 0 A) 4 [(0, .ref (ad 0))] [] σ) ∧ (∀ (σ : St), L_X12_product O  n 2  σ = some res → V p l e (rmH (3 + d + 1)) s m args below meth c 2 D (wdR ad dA) A (MQ below (QV D (wdR ad dA) A res) args s 0 0 A) 38 [(0, .ref (ad 0))] [] σ) := by
  induction n with
  | zero => exact ⟨fun _ h => (by cases h), fun _ h => (by cases h)⟩
  | succ n ih =>
    obtain ⟨ih_1, ih_2⟩ := ih
    refine ⟨?_, ?_⟩
    · intro  σ hM
      have hM : B_X12_product_1 O (L_X12_product O  n) n   σ = some res := hM
      refine v_aload_n K dX12_product_4 0 rfl ?_
      refine g_X12_15 K qf_X12_170 dX12_product_5 ?_
      refine v_if_ge K 66 dX12_product_8 (by decide) hM (fun hM => ?_) (fun hM => ?_)
      · exact v_vret K rfl dX12_product_66 hM
      · refine v_aload_n K dX12_product_11 0 rfl ?_
        refine x_Vi (As := []) (st := []) K uv_X12_look qm_X12_182 dX12_product_12 rv_X12 (fun _ h => c_X12_look l  n  σ h) rfl ⟨(by simp only [rmH]; omega), (by simp only [rmH]; omega)⟩ (Nat.le_of_ble_eq_true rfl) hM (fun r3 s2 hM => ?_)
        refine v_bipush (v := (42 : Int32)) K dX12_product_15 (by decide) ?_
        refine v_icmp_eq K 38 dX12_product_17 (by decide) hM (fun hM => ?_) (fun hM => ?_)
        · exact v_sub [0] rfl (ih_2  s2 hM)
        · refine v_aload_n K dX12_product_20 0 rfl ?_
          refine x_Vi (As := []) (st := []) K uv_X12_look qm_X12_182 dX12_product_21 rv_X12 (fun _ h => c_X12_look l  n  s2 h) rfl ⟨(by simp only [rmH]; omega), (by simp only [rmH]; omega)⟩ (Nat.le_of_ble_eq_true rfl) hM (fun r5 s4 hM => ?_)
          refine v_bipush (v := (47 : Int32)) K dX12_product_24 (by decide) ?_
          refine v_icmp_eq K 38 dX12_product_26 (by decide) hM (fun hM => ?_) (fun hM => ?_)
          · exact v_sub [0] rfl (ih_2  s4 hM)
          · refine v_aload_n K dX12_product_29 0 rfl ?_
            refine x_Vi (As := []) (st := []) K uv_X12_look qm_X12_182 dX12_product_30 rv_X12 (fun _ h => c_X12_look l  n  s4 h) rfl ⟨(by simp only [rmH]; omega), (by simp only [rmH]; omega)⟩ (Nat.le_of_ble_eq_true rfl) hM (fun r7 s6 hM => ?_)
            refine v_bipush (v := (37 : Int32)) K dX12_product_33 (by decide) ?_
            refine v_icmp_ne K 66 dX12_product_35 (by decide) hM (fun hM => ?_) (fun hM => ?_)
            · exact v_vret K rfl dX12_product_66 hM
            · exact v_sub [0] rfl (ih_2  s6 hM)
    · intro  σ hM
      have hM : B_X12_product_2 O (L_X12_product O  n) n   σ = some res := hM
      refine v_aload_n K dX12_product_38 0 rfl ?_
      refine x_Vi (As := []) (st := []) K uv_X12_look qm_X12_182 dX12_product_39 rv_X12 (fun _ h => c_X12_look l  n  σ h) rfl ⟨(by simp only [rmH]; omega), (by simp only [rmH]; omega)⟩ (Nat.le_of_ble_eq_true rfl) hM (fun r9 s8 hM => ?_)
      refine v_istore_n K dX12_product_42 rfl (by decide) [(1, .int r9), (0, .ref (ad 0))] rfl ?_
      refine v_aload_n K dX12_product_43 1 rfl ?_
      refine v_dup K dX12_product_44 rfl ?_
      refine g_X12_14 K qf_X12_167 dX12_product_45 ?_
      refine v_iconst (v := (1 : Int32)) K dX12_product_48 (by decide) ?_
      refine v_iadd K dX12_product_49 ?_
      refine p_X12_14 K qf_X12_167 dX12_product_50 hM (fun s10 hM => ?_)
      refine v_aload_n K dX12_product_53 1 rfl ?_
      refine x_Vv (As := []) (st := []) K uv_X12_operand qm_X12_198 dX12_product_54 rv_X12 (fun _ h => ih_r5 n  s10 h) rfl ⟨by simp only [rmH]; omega, by simp only [rmH]; omega⟩ (Nat.le_of_ble_eq_true rfl) hM (fun s11 hM => ?_)
      refine v_aload_n K dX12_product_57 1 rfl ?_
      refine v_iload_n K dX12_product_58 0 rfl ?_
      refine v_iconst (v := (0 : Int32)) K dX12_product_59 (by decide) ?_
      refine x_Vv (As := [.int r9, .int (0 : Int32)]) (st := []) K uv_X12_addStep qm_X12_186 dX12_product_60 rv_X12 (fun _ h => c_X12_addStep l  n r9 (0 : Int32) s11 h) rfl ⟨(by simp only [rmH]; omega), (by simp only [rmH]; omega)⟩ (Nat.le_of_ble_eq_true rfl) hM (fun s12 hM => ?_)
      refine v_goto (tgt := 4) K dX12_product_63 (by decide) ?_
      exact v_sub [1] rfl (ih_1  s12 hM)
set_option maxHeartbeats 4000000 in
set_option maxRecDepth 20000 in
theorem e_X12_product (l : Launch) {D : va_G} {A : Nat → Prop} {ad : Nat → Nat} {dA : Nat → ClassId} (d : Nat) {O : Nat → Nat → St → Option (Unit × St)} (ih_r0 : ∀ (n : Nat)  (σ : St) {res : Unit × St}, O 0 n  σ = some res → MI l yX12_either cX12_either 1 none (3 + d) D (tysR dA) (wdR ad dA) A [.ref (ad 0)] σ (QV D (wdR ad dA) A res)) (ih_r1 : ∀ (n : Nat)  (σ : St) {res : Unit × St}, O 1 n  σ = some res → MI l yX12_both cX12_both 1 none (3 + d) D (tysR dA) (wdR ad dA) A [.ref (ad 0)] σ (QV D (wdR ad dA) A res)) (ih_r2 : ∀ (n : Nat)  (σ : St) {res : Unit × St}, O 2 n  σ = some res → MI l yX12_compared cX12_compared 2 none (3 + d) D (tysR dA) (wdR ad dA) A [.ref (ad 0)] σ (QV D (wdR ad dA) A res)) (ih_r3 : ∀ (n : Nat)  (σ : St) {res : Unit × St}, O 3 n  σ = some res → MI l yX12_sum cX12_sum 2 none (3 + d) D (tysR dA) (wdR ad dA) A [.ref (ad 0)] σ (QV D (wdR ad dA) A res)) (ih_r4 : ∀ (n : Nat)  (σ : St) {res : Unit × St}, O 4 n  σ = some res → MI l yX12_product cX12_product 2 none (3 + d) D (tysR dA) (wdR ad dA) A [.ref (ad 0)] σ (QV D (wdR ad dA) A res)) (ih_r5 : ∀ (n : Nat)  (σ : St) {res : Unit × St}, O 5 n  σ = some res → MI l yX12_operand cX12_operand 2 none (3 + d) D (tysR dA) (wdR ad dA) A [.ref (ad 0)] σ (QV D (wdR ad dA) A res))  (n : Nat)  (σ : St) {res : Unit × St} (hM : E_X12_product O n  σ = some res) : MI l yX12_product cX12_product 2 none (3 + d + 1) D (tysR dA) (wdR ad dA) A [.ref (ad 0)] σ (QV D (wdR ad dA) A res) := by
  refine mk_met (by decide +kernel) (Nat.le_of_ble_eq_true rfl) (fun p e s m below meth c K => ?_)
  have K : Cx p s m _ meth c cX12_product 2 none RX12 D (tysR dA) (wdR ad dA) A := K
  obtain ⟨ih_1, ih_2⟩ := t_X12_product l   d ih_r0 ih_r1 ih_r2 ih_r3 ih_r4 ih_r5 K (res := res) n (below := below) (e := e)
  refine v_aload_n K dX12_product_0 0 rfl ?_
  refine x_Vv (As := []) (st := []) K uv_X12_operand qm_X12_198 dX12_product_1 rv_X12 (fun _ h => ih_r5 n  σ h) rfl ⟨by simp only [rmH]; omega, by simp only [rmH]; omega⟩ (Nat.le_of_ble_eq_true rfl) hM (fun s1 hM => ?_)
  exact v_sub [0] rfl (ih_1  s1 hM)
noncomputable def B_X12_operand_1 (O : Nat → Nat → St → Option (Unit × St)) (J : Nat → Int32 → St → Option (Unit × St)) (n : Nat)  (l1 : Int32) (σ : St) : Option (Unit × St) := bd (F_X12_opens n  σ) fun r19 s18 => if r19 = 0 then (some ((), s18)) else (bd (O 5 n s18) fun _ s20 => bnd (sI s20 0 16 ((gI s20 0 16) - (1 : Int32))) fun s21 => if l1 = (33 : Int32) then (bd (F_X12_addStep n (3 : Int32) (0 : Int32) s21) fun _ s23 => some ((), s23)) else (bd (F_X12_addStep n (4 : Int32) (0 : Int32) s21) fun _ s22 => some ((), s22)))
noncomputable def S_X12_operand (O : Nat → Nat → St → Option (Unit × St))  (n : Nat) (J : Nat → Int32 → St → Option (Unit × St)) : Nat → Int32 → St → Option (Unit × St) := fun lb a0 σ => match lb with
  | 1 => B_X12_operand_1 O J n  a0 σ
  | _ => none
noncomputable def L_X12_operand (O : Nat → Nat → St → Option (Unit × St))  (n : Nat) : Nat → Int32 → St → Option (Unit × St) := Nat.rec (fun _ _ _ => none) (fun n J => S_X12_operand O  n J) n
noncomputable def E_X12_operand (O : Nat → Nat → St → Option (Unit × St)) (n : Nat)  (σ : St) : Option (Unit × St) := bd (F_X12_look n  σ) fun r2 s1 => bd (F_X12_nameOf n r2 s1) fun r4 s3 => if r4 < 0 then (if r2 = (33 : Int32) then (L_X12_operand O  n 1 r2 s3) else (if r2 = (45 : Int32) then (L_X12_operand O  n 1 r2 s3) else (if r2 = (40 : Int32) then (bd (F_X12_opens n  s3) fun r7 s6 => if r7 = 0 then (some ((), s6)) else (bd (O 0 n s6) fun _ s8 => if (gI s8 0 15) < 0 then (bd (F_X12_look n  s8) fun r10 s9 => if r10 = (41 : Int32) then (bnd (sI s9 0 14 ((gI s9 0 14) + (1 : Int32))) fun s11 => bnd (sI s11 0 16 ((gI s11 0 16) - (1 : Int32))) fun s12 => some ((), s12)) else (bd (F_X12_wrong n  s9) fun _ s13 => some ((), s13))) else (some ((), s8)))) else (bd (F_X12_figure n  s3) fun _ s5 => some ((), s5))))) else (bd (F_X12_nameOf n r2 s3) fun r15 s14 => bd (F_X12_addStep n (2 : Int32) r15 s14) fun _ s16 => bnd (sI s16 0 14 ((gI s16 0 14) + (1 : Int32))) fun s17 => some ((), s17))
set_option maxHeartbeats 4000000 in
set_option maxRecDepth 20000 in
theorem t_X12_operand (l : Launch) {p : Program} {e : Env} {s : State} {m : MethodId} {args : Array Value} {below : List Frame} {meth : Method} {c : Code} {D : va_G} {A : Nat → Prop} {ad : Nat → Nat} {dA : Nat → ClassId}   (d : Nat) {O : Nat → Nat → St → Option (Unit × St)} (ih_r0 : ∀ (n : Nat)  (σ : St) {res : Unit × St}, O 0 n  σ = some res → MI l yX12_either cX12_either 1 none (3 + d) D (tysR dA) (wdR ad dA) A [.ref (ad 0)] σ (QV D (wdR ad dA) A res)) (ih_r1 : ∀ (n : Nat)  (σ : St) {res : Unit × St}, O 1 n  σ = some res → MI l yX12_both cX12_both 1 none (3 + d) D (tysR dA) (wdR ad dA) A [.ref (ad 0)] σ (QV D (wdR ad dA) A res)) (ih_r2 : ∀ (n : Nat)  (σ : St) {res : Unit × St}, O 2 n  σ = some res → MI l yX12_compared cX12_compared 2 none (3 + d) D (tysR dA) (wdR ad dA) A [.ref (ad 0)] σ (QV D (wdR ad dA) A res)) (ih_r3 : ∀ (n : Nat)  (σ : St) {res : Unit × St}, O 3 n  σ = some res → MI l yX12_sum cX12_sum 2 none (3 + d) D (tysR dA) (wdR ad dA) A [.ref (ad 0)] σ (QV D (wdR ad dA) A res)) (ih_r4 : ∀ (n : Nat)  (σ : St) {res : Unit × St}, O 4 n  σ = some res → MI l yX12_product cX12_product 2 none (3 + d) D (tysR dA) (wdR ad dA) A [.ref (ad 0)] σ (QV D (wdR ad dA) A res)) (ih_r5 : ∀ (n : Nat)  (σ : St) {res : Unit × St}, O 5 n  σ = some res → MI l yX12_operand cX12_operand 2 none (3 + d) D (tysR dA) (wdR ad dA) A [.ref (ad 0)] σ (QV D (wdR ad dA) A res)) (K : Cx p s m args meth c cX12_operand 2 none RX12 D (tysR dA) (wdR ad dA) A) {res : Unit × St} (n : Nat) : (∀ (l1 : Int32) (σ : St), L_X12_operand O  n 1 l1 σ = some res → V p l e (rmH (3 + d + 1)) s m args below meth c 2 D (wdR ad dA) A (MQ below (QV D (wdR ad dA) A res) args s 0 0 A) 46 [(0, .ref (ad 0)), (1, .int l1)] [] σ) := by
  induction n with
  | zero => exact (fun _ _ h => (by cases h))
  | succ n ih =>
    have ih_1 := ih
    · intro l1 σ hM
      have hM : B_X12_operand_1 O (L_X12_operand O  n) n  l1 σ = some res := hM
      refine v_aload_n K dX12_operand_46 0 rfl ?_
      refine x_Vi (As := []) (st := []) K uv_X12_opens qm_X12_194 dX12_operand_47 rv_X12 (fun _ h => c_X12_opens l  n  σ h) rfl ⟨(by simp only [rmH]; omega), (by simp only [rmH]; omega)⟩ (Nat.le_of_ble_eq_true rfl) hM (fun r19 s18 hM => ?_)
      refine v_if_ne K 54 dX12_operand_50 (by decide) hM (fun hM => ?_) (fun hM => ?_)
      · refine v_aload_n K dX12_operand_54 0 rfl ?_
        refine x_Vv (As := []) (st := []) K uv_X12_operand qm_X12_198 dX12_operand_55 rv_X12 (fun _ h => ih_r5 n  s18 h) rfl ⟨by simp only [rmH]; omega, by simp only [rmH]; omega⟩ (Nat.le_of_ble_eq_true rfl) hM (fun s20 hM => ?_)
        refine v_aload_n K dX12_operand_58 0 rfl ?_
        refine v_dup K dX12_operand_59 rfl ?_
        refine g_X12_16 K qf_X12_176 dX12_operand_60 ?_
        refine v_iconst (v := (1 : Int32)) K dX12_operand_63 (by decide) ?_
        refine v_isub K dX12_operand_64 ?_
        refine p_X12_16 K qf_X12_176 dX12_operand_65 hM (fun s21 hM => ?_)
        refine v_aload_n K dX12_operand_68 0 rfl ?_
        refine v_iload_n K dX12_operand_69 1 rfl ?_
        refine v_bipush (v := (33 : Int32)) K dX12_operand_70 (by decide) ?_
        refine v_icmp_ne K 79 dX12_operand_72 (by decide) hM (fun hM => ?_) (fun hM => ?_)
        · refine v_iconst (v := (4 : Int32)) K dX12_operand_79 (by decide) ?_
          refine v_iconst (v := (0 : Int32)) K dX12_operand_80 (by decide) ?_
          refine x_Vv (As := [.int (4 : Int32), .int (0 : Int32)]) (st := []) K uv_X12_addStep qm_X12_186 dX12_operand_81 rv_X12 (fun _ h => c_X12_addStep l  n (4 : Int32) (0 : Int32) s21 h) rfl ⟨(by simp only [rmH]; omega), (by simp only [rmH]; omega)⟩ (Nat.le_of_ble_eq_true rfl) hM (fun s22 hM => ?_)
          refine v_goto (tgt := 154) K dX12_operand_84 (by decide) ?_
          exact v_vret K rfl dX12_operand_154 hM
        · refine v_iconst (v := (3 : Int32)) K dX12_operand_75 (by decide) ?_
          refine v_goto (tgt := 80) K dX12_operand_76 (by decide) ?_
          refine v_iconst (v := (0 : Int32)) K dX12_operand_80 (by decide) ?_
          refine x_Vv (As := [.int (3 : Int32), .int (0 : Int32)]) (st := []) K uv_X12_addStep qm_X12_186 dX12_operand_81 rv_X12 (fun _ h => c_X12_addStep l  n (3 : Int32) (0 : Int32) s21 h) rfl ⟨(by simp only [rmH]; omega), (by simp only [rmH]; omega)⟩ (Nat.le_of_ble_eq_true rfl) hM (fun s23 hM => ?_)
          refine v_goto (tgt := 154) K dX12_operand_84 (by decide) ?_
          exact v_vret K rfl dX12_operand_154 hM
      · exact v_vret K rfl dX12_operand_53 hM
set_option maxHeartbeats 4000000 in
set_option maxRecDepth 20000 in
theorem e_X12_operand (l : Launch) {D : va_G} {A : Nat → Prop} {ad : Nat → Nat} {dA : Nat → ClassId} (d : Nat) {O : Nat → Nat → St → Option (Unit × St)} (ih_r0 : ∀ (n : Nat)  (σ : St) {res : Unit × St}, O 0 n  σ = some res → MI l yX12_either cX12_either 1 none (3 + d) D (tysR dA) (wdR ad dA) A [.ref (ad 0)] σ (QV D (wdR ad dA) A res)) (ih_r1 : ∀ (n : Nat)  (σ : St) {res : Unit × St}, O 1 n  σ = some res → MI l yX12_both cX12_both 1 none (3 + d) D (tysR dA) (wdR ad dA) A [.ref (ad 0)] σ (QV D (wdR ad dA) A res)) (ih_r2 : ∀ (n : Nat)  (σ : St) {res : Unit × St}, O 2 n  σ = some res → MI l yX12_compared cX12_compared 2 none (3 + d) D (tysR dA) (wdR ad dA) A [.ref (ad 0)] σ (QV D (wdR ad dA) A res)) (ih_r3 : ∀ (n : Nat)  (σ : St) {res : Unit × St}, O 3 n  σ = some res → MI l yX12_sum cX12_sum 2 none (3 + d) D (tysR dA) (wdR ad dA) A [.ref (ad 0)] σ (QV D (wdR ad dA) A res)) (ih_r4 : ∀ (n : Nat)  (σ : St) {res : Unit × St}, O 4 n  σ = some res → MI l yX12_product cX12_product 2 none (3 + d) D (tysR dA) (wdR ad dA) A [.ref (ad 0)] σ (QV D (wdR ad dA) A res)) (ih_r5 : ∀ (n : Nat)  (σ : St) {res : Unit × St}, O 5 n  σ = some res → MI l yX12_operand cX12_operand 2 none (3 + d) D (tysR dA) (wdR ad dA) A [.ref (ad 0)] σ (QV D (wdR ad dA) A res))  (n : Nat)  (σ : St) {res : Unit × St} (hM : E_X12_operand O n  σ = some res) : MI l yX12_operand cX12_operand 2 none (3 + d + 1) D (tysR dA) (wdR ad dA) A [.ref (ad 0)] σ (QV D (wdR ad dA) A res) := by
  refine mk_met (by decide +kernel) (Nat.le_of_ble_eq_true rfl) (fun p e s m below meth c K => ?_)
  have K : Cx p s m _ meth c cX12_operand 2 none RX12 D (tysR dA) (wdR ad dA) A := K
  have ih_1 := t_X12_operand l   d ih_r0 ih_r1 ih_r2 ih_r3 ih_r4 ih_r5 K (res := res) n (below := below) (e := e)
  refine v_aload_n K dX12_operand_0 0 rfl ?_
  refine x_Vi (As := []) (st := []) K uv_X12_look qm_X12_182 dX12_operand_1 rv_X12 (fun _ h => c_X12_look l  n  σ h) rfl ⟨(by simp only [rmH]; omega), (by simp only [rmH]; omega)⟩ (Nat.le_of_ble_eq_true rfl) hM (fun r2 s1 hM => ?_)
  refine v_istore_n K dX12_operand_4 rfl (by decide) [(1, .int r2), (0, .ref (ad 0))] rfl ?_
  refine v_iload_n K dX12_operand_5 0 rfl ?_
  refine x_Si (As := [.int r2]) (st := []) K us_X12_nameOf qm_X12_190 dX12_operand_6 (fun _ h => c_X12_nameOf l  n r2 s1 h) rfl ⟨(by simp only [rmH]; omega), (by simp only [rmH]; omega)⟩ (Nat.le_of_ble_eq_true rfl) hM (fun r4 s3 hM => ?_)
  refine v_if_lt K 34 dX12_operand_9 (by decide) hM (fun hM => ?_) (fun hM => ?_)
  · refine v_iload_n K dX12_operand_34 0 rfl ?_
    refine v_bipush (v := (33 : Int32)) K dX12_operand_35 (by decide) ?_
    refine v_icmp_eq K 46 dX12_operand_37 (by decide) hM (fun hM => ?_) (fun hM => ?_)
    · exact v_sub [1, 0] rfl (ih_1 r2 s3 hM)
    · refine v_iload_n K dX12_operand_40 0 rfl ?_
      refine v_bipush (v := (45 : Int32)) K dX12_operand_41 (by decide) ?_
      refine v_icmp_ne K 87 dX12_operand_43 (by decide) hM (fun hM => ?_) (fun hM => ?_)
      · refine v_iload_n K dX12_operand_87 0 rfl ?_
        refine v_bipush (v := (40 : Int32)) K dX12_operand_88 (by decide) ?_
        refine v_icmp_ne K 150 dX12_operand_90 (by decide) hM (fun hM => ?_) (fun hM => ?_)
        · refine v_aload_n K dX12_operand_150 1 rfl ?_
          refine x_Vv (As := []) (st := []) K uv_X12_figure qm_X12_204 dX12_operand_151 rv_X12 (fun _ h => c_X12_figure l  n  s3 h) rfl ⟨(by simp only [rmH]; omega), (by simp only [rmH]; omega)⟩ (Nat.le_of_ble_eq_true rfl) hM (fun s5 hM => ?_)
          exact v_vret K rfl dX12_operand_154 hM
        · refine v_aload_n K dX12_operand_93 1 rfl ?_
          refine x_Vi (As := []) (st := []) K uv_X12_opens qm_X12_194 dX12_operand_94 rv_X12 (fun _ h => c_X12_opens l  n  s3 h) rfl ⟨(by simp only [rmH]; omega), (by simp only [rmH]; omega)⟩ (Nat.le_of_ble_eq_true rfl) hM (fun r7 s6 hM => ?_)
          refine v_if_ne K 101 dX12_operand_97 (by decide) hM (fun hM => ?_) (fun hM => ?_)
          · refine v_aload_n K dX12_operand_101 1 rfl ?_
            refine x_Vv (As := []) (st := []) K uv_X12_either qm_X12_201 dX12_operand_102 rv_X12 (fun _ h => ih_r0 n  s6 h) rfl ⟨by simp only [rmH]; omega, by simp only [rmH]; omega⟩ (Nat.le_of_ble_eq_true rfl) hM (fun s8 hM => ?_)
            refine v_aload_n K dX12_operand_105 1 rfl ?_
            refine g_X12_15 K qf_X12_170 dX12_operand_106 ?_
            refine v_if_lt K 113 dX12_operand_109 (by decide) hM (fun hM => ?_) (fun hM => ?_)
            · refine v_aload_n K dX12_operand_113 1 rfl ?_
              refine x_Vi (As := []) (st := []) K uv_X12_look qm_X12_182 dX12_operand_114 rv_X12 (fun _ h => c_X12_look l  n  s8 h) rfl ⟨(by simp only [rmH]; omega), (by simp only [rmH]; omega)⟩ (Nat.le_of_ble_eq_true rfl) hM (fun r10 s9 hM => ?_)
              refine v_bipush (v := (41 : Int32)) K dX12_operand_117 (by decide) ?_
              refine v_icmp_eq K 127 dX12_operand_119 (by decide) hM (fun hM => ?_) (fun hM => ?_)
              · refine v_aload_n K dX12_operand_127 1 rfl ?_
                refine v_dup K dX12_operand_128 rfl ?_
                refine g_X12_14 K qf_X12_167 dX12_operand_129 ?_
                refine v_iconst (v := (1 : Int32)) K dX12_operand_132 (by decide) ?_
                refine v_iadd K dX12_operand_133 ?_
                refine p_X12_14 K qf_X12_167 dX12_operand_134 hM (fun s11 hM => ?_)
                refine v_aload_n K dX12_operand_137 1 rfl ?_
                refine v_dup K dX12_operand_138 rfl ?_
                refine g_X12_16 K qf_X12_176 dX12_operand_139 ?_
                refine v_iconst (v := (1 : Int32)) K dX12_operand_142 (by decide) ?_
                refine v_isub K dX12_operand_143 ?_
                refine p_X12_16 K qf_X12_176 dX12_operand_144 hM (fun s12 hM => ?_)
                refine v_goto (tgt := 154) K dX12_operand_147 (by decide) ?_
                exact v_vret K rfl dX12_operand_154 hM
              · refine v_aload_n K dX12_operand_122 1 rfl ?_
                refine x_Vv (As := []) (st := []) K uv_X12_wrong qm_X12_179 dX12_operand_123 rv_X12 (fun _ h => c_X12_wrong l  n  s9 h) rfl ⟨(by simp only [rmH]; omega), (by simp only [rmH]; omega)⟩ (Nat.le_of_ble_eq_true rfl) hM (fun s13 hM => ?_)
                exact v_vret K rfl dX12_operand_126 hM
            · exact v_vret K rfl dX12_operand_112 hM
          · exact v_vret K rfl dX12_operand_100 hM
      · exact v_sub [1, 0] rfl (ih_1 r2 s3 hM)
  · refine v_aload_n K dX12_operand_12 1 rfl ?_
    refine v_iconst (v := (2 : Int32)) K dX12_operand_13 (by decide) ?_
    refine v_iload_n K dX12_operand_14 0 rfl ?_
    refine x_Si (As := [.int r2]) (st := [.int (2 : Int32), .ref (ad 0)]) K us_X12_nameOf qm_X12_190 dX12_operand_15 (fun _ h => c_X12_nameOf l  n r2 s3 h) rfl ⟨(by simp only [rmH]; omega), (by simp only [rmH]; omega)⟩ (Nat.le_of_ble_eq_true rfl) hM (fun r15 s14 hM => ?_)
    refine x_Vv (As := [.int (2 : Int32), .int r15]) (st := []) K uv_X12_addStep qm_X12_186 dX12_operand_18 rv_X12 (fun _ h => c_X12_addStep l  n (2 : Int32) r15 s14 h) rfl ⟨(by simp only [rmH]; omega), (by simp only [rmH]; omega)⟩ (Nat.le_of_ble_eq_true rfl) hM (fun s16 hM => ?_)
    refine v_aload_n K dX12_operand_21 1 rfl ?_
    refine v_dup K dX12_operand_22 rfl ?_
    refine g_X12_14 K qf_X12_167 dX12_operand_23 ?_
    refine v_iconst (v := (1 : Int32)) K dX12_operand_26 (by decide) ?_
    refine v_iadd K dX12_operand_27 ?_
    refine p_X12_14 K qf_X12_167 dX12_operand_28 hM (fun s17 hM => ?_)
    refine v_goto (tgt := 154) K dX12_operand_31 (by decide) ?_
    exact v_vret K rfl dX12_operand_154 hM
noncomputable def D_X12_either (O : Nat → Nat → St → Option (Unit × St)) : Nat → Nat → St → Option (Unit × St) := fun mi n  σ => match mi with
  | 0 => E_X12_either O n  σ
  | 1 => E_X12_both O n  σ
  | 2 => E_X12_compared O n  σ
  | 3 => E_X12_sum O n  σ
  | 4 => E_X12_product O n  σ
  | 5 => E_X12_operand O n  σ
  | _ => none
noncomputable def F_X12_either (d : Nat) : Nat → Nat → St → Option (Unit × St) := Nat.rec (fun _ _ _ => none) (fun _ O => D_X12_either O) d
theorem r_X12_either (l : Launch) {D : va_G} {A : Nat → Prop} {ad : Nat → Nat} {dA : Nat → ClassId} (d : Nat) : (∀ (n : Nat)  (σ : St) {res : Unit × St}, F_X12_either d 0 n  σ = some res → MI l yX12_either cX12_either 1 none (3 + d) D (tysR dA) (wdR ad dA) A [.ref (ad 0)] σ (QV D (wdR ad dA) A res)) ∧ (∀ (n : Nat)  (σ : St) {res : Unit × St}, F_X12_either d 1 n  σ = some res → MI l yX12_both cX12_both 1 none (3 + d) D (tysR dA) (wdR ad dA) A [.ref (ad 0)] σ (QV D (wdR ad dA) A res)) ∧ (∀ (n : Nat)  (σ : St) {res : Unit × St}, F_X12_either d 2 n  σ = some res → MI l yX12_compared cX12_compared 2 none (3 + d) D (tysR dA) (wdR ad dA) A [.ref (ad 0)] σ (QV D (wdR ad dA) A res)) ∧ (∀ (n : Nat)  (σ : St) {res : Unit × St}, F_X12_either d 3 n  σ = some res → MI l yX12_sum cX12_sum 2 none (3 + d) D (tysR dA) (wdR ad dA) A [.ref (ad 0)] σ (QV D (wdR ad dA) A res)) ∧ (∀ (n : Nat)  (σ : St) {res : Unit × St}, F_X12_either d 4 n  σ = some res → MI l yX12_product cX12_product 2 none (3 + d) D (tysR dA) (wdR ad dA) A [.ref (ad 0)] σ (QV D (wdR ad dA) A res)) ∧ (∀ (n : Nat)  (σ : St) {res : Unit × St}, F_X12_either d 5 n  σ = some res → MI l yX12_operand cX12_operand 2 none (3 + d) D (tysR dA) (wdR ad dA) A [.ref (ad 0)] σ (QV D (wdR ad dA) A res)) := by
  induction d with
  | zero => exact ⟨fun _ _ _ h => (by cases h), fun _ _ _ h => (by cases h), fun _ _ _ h => (by cases h), fun _ _ _ h => (by cases h), fun _ _ _ h => (by cases h), fun _ _ _ h => (by cases h)⟩
  | succ d ih =>
    obtain ⟨ih_r0, ih_r1, ih_r2, ih_r3, ih_r4, ih_r5⟩ := ih
    exact ⟨fun n  σ _ hM => e_X12_either l d ih_r0 ih_r1 ih_r2 ih_r3 ih_r4 ih_r5 n  σ hM, fun n  σ _ hM => e_X12_both l d ih_r0 ih_r1 ih_r2 ih_r3 ih_r4 ih_r5 n  σ hM, fun n  σ _ hM => e_X12_compared l d ih_r0 ih_r1 ih_r2 ih_r3 ih_r4 ih_r5 n  σ hM, fun n  σ _ hM => e_X12_sum l d ih_r0 ih_r1 ih_r2 ih_r3 ih_r4 ih_r5 n  σ hM, fun n  σ _ hM => e_X12_product l d ih_r0 ih_r1 ih_r2 ih_r3 ih_r4 ih_r5 n  σ hM, fun n  σ _ hM => e_X12_operand l d ih_r0 ih_r1 ih_r2 ih_r3 ih_r4 ih_r5 n  σ hM⟩
theorem c_X12_either (l : Launch) {D : va_G} {A : Nat → Prop} {ad : Nat → Nat} {dA : Nat → ClassId} (d n : Nat)  (σ : St) {res : Unit × St} (hM : F_X12_either d 0 n  σ = some res) : MI l yX12_either cX12_either 1 none (3 + d) D (tysR dA) (wdR ad dA) A [.ref (ad 0)] σ (QV D (wdR ad dA) A res) := (r_X12_either l d).1 n  σ hM
theorem c_X12_both (l : Launch) {D : va_G} {A : Nat → Prop} {ad : Nat → Nat} {dA : Nat → ClassId} (d n : Nat)  (σ : St) {res : Unit × St} (hM : F_X12_either d 1 n  σ = some res) : MI l yX12_both cX12_both 1 none (3 + d) D (tysR dA) (wdR ad dA) A [.ref (ad 0)] σ (QV D (wdR ad dA) A res) := (r_X12_either l d).2.1 n  σ hM
theorem c_X12_compared (l : Launch) {D : va_G} {A : Nat → Prop} {ad : Nat → Nat} {dA : Nat → ClassId} (d n : Nat)  (σ : St) {res : Unit × St} (hM : F_X12_either d 2 n  σ = some res) : MI l yX12_compared cX12_compared 2 none (3 + d) D (tysR dA) (wdR ad dA) A [.ref (ad 0)] σ (QV D (wdR ad dA) A res) := (r_X12_either l d).2.2.1 n  σ hM
theorem c_X12_sum (l : Launch) {D : va_G} {A : Nat → Prop} {ad : Nat → Nat} {dA : Nat → ClassId} (d n : Nat)  (σ : St) {res : Unit × St} (hM : F_X12_either d 3 n  σ = some res) : MI l yX12_sum cX12_sum 2 none (3 + d) D (tysR dA) (wdR ad dA) A [.ref (ad 0)] σ (QV D (wdR ad dA) A res) := (r_X12_either l d).2.2.2.1 n  σ hM
theorem c_X12_product (l : Launch) {D : va_G} {A : Nat → Prop} {ad : Nat → Nat} {dA : Nat → ClassId} (d n : Nat)  (σ : St) {res : Unit × St} (hM : F_X12_either d 4 n  σ = some res) : MI l yX12_product cX12_product 2 none (3 + d) D (tysR dA) (wdR ad dA) A [.ref (ad 0)] σ (QV D (wdR ad dA) A res) := (r_X12_either l d).2.2.2.2.1 n  σ hM
theorem c_X12_operand (l : Launch) {D : va_G} {A : Nat → Prop} {ad : Nat → Nat} {dA : Nat → ClassId} (d n : Nat)  (σ : St) {res : Unit × St} (hM : F_X12_either d 5 n  σ = some res) : MI l yX12_operand cX12_operand 2 none (3 + d) D (tysR dA) (wdR ad dA) A [.ref (ad 0)] σ (QV D (wdR ad dA) A res) := (r_X12_either l d).2.2.2.2.2 n  σ hM
noncomputable def B_X12_line_1 (J : Nat → Int32 → St → Option (Unit × St)) (n : Nat)  (l1 : Int32) (σ : St) : Option (Unit × St) := gd (vp_in l1 122) (bnd (sI σ 14 (l1).toNatClampNeg (vp_nar .short (((gI σ 0 17)).toInt16.toInt32))) fun s9 => gd (vp_in (1 : Int32) 2) (gd (vp_in (1 : Int32) 2) (bnd (sI s9 12 ((1 : Int32)).toNatClampNeg ((gI s9 12 ((1 : Int32)).toNatClampNeg) + (1 : Int32))) fun s10 => some ((), s10))))
noncomputable def S_X12_line  (n : Nat) (J : Nat → Int32 → St → Option (Unit × St)) : Nat → Int32 → St → Option (Unit × St) := fun lb a0 σ => match lb with
  | 1 => B_X12_line_1 J n  a0 σ
  | _ => none
noncomputable def L_X12_line  (n : Nat) : Nat → Int32 → St → Option (Unit × St) := Nat.rec (fun _ _ _ => none) (fun n J => S_X12_line  n J) n
noncomputable def F_X12_line (n : Nat)  (σ : St) : Option (Unit × St) := gd (vp_in (1 : Int32) 2) (bnd ((61 : Int32) + (gI σ 12 ((1 : Int32)).toNatClampNeg)) fun x1 => gd (vp_in x1 122) (bnd (sI σ 13 (x1).toNatClampNeg (vp_nar .short (((gI σ 0 17)).toInt16.toInt32))) fun s2 => bd (F_X12_either 100 0 n  s2) fun _ s3 => if 0 ≤ (gI s3 0 15) then (L_X12_line  n 1 x1 s3) else (bd (F_X12_look n  s3) fun r5 s4 => if r5 = (63 : Int32) then (bnd (sI s4 0 14 ((gI s4 0 14) + (1 : Int32))) fun s6 => gd (vp_in x1 122) (bnd (sI s6 13 (x1).toNatClampNeg (vp_nar .short (((gI s6 0 17)).toInt16.toInt32))) fun s7 => bd (F_X12_either 100 0 n  s7) fun _ s8 => L_X12_line  n 1 x1 s8)) else (L_X12_line  n 1 x1 s4))))
set_option maxHeartbeats 4000000 in
set_option maxRecDepth 20000 in
theorem t_X12_line (l : Launch) {p : Program} {e : Env} {s : State} {m : MethodId} {args : Array Value} {below : List Frame} {meth : Method} {c : Code} {D : va_G} {A : Nat → Prop} {ad : Nat → Nat} {dA : Nat → ClassId}   (K : Cx p s m args meth c cX12_line 2 none RX12 D (tysR dA) (wdR ad dA) A) {res : Unit × St} (n : Nat) : (∀ (l1 : Int32) (σ : St), L_X12_line  n 1 l1 σ = some res → V p l e (rmH 104) s m args below meth c 2 D (wdR ad dA) A (MQ below (QV D (wdR ad dA) A res) args s 0 0 A) 66 [(0, .ref (ad 0)), (1, .int l1)] [] σ) := by
  induction n with
  | zero => exact (fun _ _ h => (by cases h))
  | succ n ih =>
    have ih_1 := ih
    · intro l1 σ hM
      have hM : B_X12_line_1 (L_X12_line  n) n  l1 σ = some res := hM
      refine v_aload_n K dX12_line_66 0 rfl ?_
      refine g_X12_22 K qf_X12_53 dX12_line_67 ?_
      refine v_iload_n K dX12_line_70 1 rfl ?_
      refine v_aload_n K dX12_line_71 0 rfl ?_
      refine g_X12_17 K qf_X12_173 dX12_line_72 ?_
      refine v_i2s K dX12_line_75 ?_
      refine st_R14 K dX12_line_76 hM (fun s9 hM => ?_)
      refine v_aload_n K dX12_line_77 0 rfl ?_
      refine g_X12_20 K qf_X12_46 dX12_line_78 ?_
      refine v_iconst (v := (1 : Int32)) K dX12_line_81 (by decide) ?_
      refine v_dup2 K dX12_line_82 rfl rfl ?_
      refine ld_R12 K dX12_line_83 hM (fun hM => ?_)
      refine v_iconst (v := (1 : Int32)) K dX12_line_84 (by decide) ?_
      refine v_iadd K dX12_line_85 ?_
      refine st_R12 K dX12_line_86 hM (fun s10 hM => ?_)
      exact v_vret K rfl dX12_line_87 hM
set_option maxHeartbeats 4000000 in
set_option maxRecDepth 20000 in
theorem c_X12_line (l : Launch) {D : va_G} {A : Nat → Prop} {ad : Nat → Nat} {dA : Nat → ClassId}  (n : Nat)  (σ : St) {res : Unit × St} (hM : F_X12_line n  σ = some res) : MI l yX12_line cX12_line 2 none 104 D (tysR dA) (wdR ad dA) A [.ref (ad 0)] σ (QV D (wdR ad dA) A res) := by
  refine mk_met (by decide +kernel) (Nat.le_of_ble_eq_true rfl) (fun p e s m below meth c K => ?_)
  have K : Cx p s m _ meth c cX12_line 2 none RX12 D (tysR dA) (wdR ad dA) A := K
  have ih_1 := t_X12_line l    K (res := res) n (below := below) (e := e)
  refine v_bipush (v := (61 : Int32)) K dX12_line_0 (by decide) ?_
  refine v_aload_n K dX12_line_2 0 rfl ?_
  refine g_X12_20 K qf_X12_46 dX12_line_3 ?_
  refine v_iconst (v := (1 : Int32)) K dX12_line_6 (by decide) ?_
  refine ld_R12 K dX12_line_7 hM (fun hM => ?_)
  refine v_iadd K dX12_line_8 ?_
  refine v_topi hM (fun x1 hM => ?_)
  refine v_istore_n K dX12_line_9 rfl (by decide) [(1, .int x1), (0, .ref (ad 0))] rfl ?_
  refine v_aload_n K dX12_line_10 1 rfl ?_
  refine g_X12_21 K qf_X12_49 dX12_line_11 ?_
  refine v_iload_n K dX12_line_14 0 rfl ?_
  refine v_aload_n K dX12_line_15 1 rfl ?_
  refine g_X12_17 K qf_X12_173 dX12_line_16 ?_
  refine v_i2s K dX12_line_19 ?_
  refine st_R13 K dX12_line_20 hM (fun s2 hM => ?_)
  refine v_aload_n K dX12_line_21 1 rfl ?_
  refine x_Vv (As := []) (st := []) K uv_X12_either qm_X12_201 dX12_line_22 rv_X12 (fun _ h => c_X12_either l 100 n  s2 h) rfl ⟨(Nat.le_of_ble_eq_true rfl), (Nat.le_of_ble_eq_true rfl)⟩ (Nat.le_of_ble_eq_true rfl) hM (fun s3 hM => ?_)
  refine v_aload_n K dX12_line_25 1 rfl ?_
  refine g_X12_15 K qf_X12_170 dX12_line_26 ?_
  refine v_if_ge K 66 dX12_line_29 (by decide) hM (fun hM => ?_) (fun hM => ?_)
  · exact v_sub [1, 0] rfl (ih_1 x1 s3 hM)
  · refine v_aload_n K dX12_line_32 1 rfl ?_
    refine x_Vi (As := []) (st := []) K uv_X12_look qm_X12_182 dX12_line_33 rv_X12 (fun _ h => c_X12_look l  n  s3 h) rfl ⟨(Nat.le_of_ble_eq_true rfl), (Nat.le_of_ble_eq_true rfl)⟩ (Nat.le_of_ble_eq_true rfl) hM (fun r5 s4 hM => ?_)
    refine v_bipush (v := (63 : Int32)) K dX12_line_36 (by decide) ?_
    refine v_icmp_ne K 66 dX12_line_38 (by decide) hM (fun hM => ?_) (fun hM => ?_)
    · exact v_sub [1, 0] rfl (ih_1 x1 s4 hM)
    · refine v_aload_n K dX12_line_41 1 rfl ?_
      refine v_dup K dX12_line_42 rfl ?_
      refine g_X12_14 K qf_X12_167 dX12_line_43 ?_
      refine v_iconst (v := (1 : Int32)) K dX12_line_46 (by decide) ?_
      refine v_iadd K dX12_line_47 ?_
      refine p_X12_14 K qf_X12_167 dX12_line_48 hM (fun s6 hM => ?_)
      refine v_aload_n K dX12_line_51 1 rfl ?_
      refine g_X12_21 K qf_X12_49 dX12_line_52 ?_
      refine v_iload_n K dX12_line_55 0 rfl ?_
      refine v_aload_n K dX12_line_56 1 rfl ?_
      refine g_X12_17 K qf_X12_173 dX12_line_57 ?_
      refine v_i2s K dX12_line_60 ?_
      refine st_R13 K dX12_line_61 hM (fun s7 hM => ?_)
      refine v_aload_n K dX12_line_62 1 rfl ?_
      refine x_Vv (As := []) (st := []) K uv_X12_either qm_X12_201 dX12_line_63 rv_X12 (fun _ h => c_X12_either l 100 n  s7 h) rfl ⟨(Nat.le_of_ble_eq_true rfl), (Nat.le_of_ble_eq_true rfl)⟩ (Nat.le_of_ble_eq_true rfl) hM (fun s8 hM => ?_)
      exact v_sub [1, 0] rfl (ih_1 x1 s8 hM)
noncomputable def B_X12_readText_1 (J : Nat → Int32 → Int32 → St → Option (Int32 × St)) (n : Nat)  (l1 : Int32) (σ : St) : Option (Int32 × St) := if 0 ≤ (gI σ 0 15) then (J 2 l1 0 σ) else (bd (F_X12_look n  σ) fun r8 s7 => if r8 = (59 : Int32) then (bnd (sI s7 0 14 ((gI s7 0 14) + (1 : Int32))) fun s9 => bd (F_X12_line n  s9) fun _ s10 => J 1 l1 0 s10) else (J 2 l1 0 s7))
noncomputable def B_X12_readText_2 (J : Nat → Int32 → Int32 → St → Option (Int32 × St)) (n : Nat)  (l1 : Int32) (σ : St) : Option (Int32 × St) := if 0 ≤ (gI σ 0 15) then (J 3 l1 0 σ) else (if (gI σ 0 13) ≤ (gI σ 0 14) then (J 3 l1 0 σ) else (bd (F_X12_wrong n  σ) fun _ s11 => J 3 l1 0 s11))
noncomputable def B_X12_readText_3 (J : Nat → Int32 → Int32 → St → Option (Int32 × St)) (n : Nat)  (l1 : Int32) (σ : St) : Option (Int32 × St) := bnd (sI σ 0 13 (0 : Int32)) fun s12 => if (gI s12 0 15) < 0 then (J 4 l1 (0 : Int32) s12) else (some ((gI s12 0 15), s12))
noncomputable def B_X12_readText_4 (J : Nat → Int32 → Int32 → St → Option (Int32 × St)) (n : Nat)  (l1 : Int32) (l2 : Int32) (σ : St) : Option (Int32 × St) := if (gI σ 0 17) ≤ l2 then (gd (vp_in (1 : Int32) 2) (gd (vp_in l1 2) (bnd (sI σ 12 (l1).toNatClampNeg (gI σ 12 ((1 : Int32)).toNatClampNeg)) fun s13 => J 5 l1 (0 : Int32) s13))) else (gd (vp_in ((130 : Int32) + l2) 260) (gd (vp_in (((130 : Int32) * l1) + l2) 260) (bnd (sI σ 10 ((((130 : Int32) * l1) + l2)).toNatClampNeg (vp_nar .byte (gI σ 10 (((130 : Int32) + l2)).toNatClampNeg))) fun s14 => gd (vp_in ((130 : Int32) + l2) 260) (gd (vp_in (((130 : Int32) * l1) + l2) 260) (bnd (sI s14 11 ((((130 : Int32) * l1) + l2)).toNatClampNeg (gI s14 11 (((130 : Int32) + l2)).toNatClampNeg)) fun s15 => bnd (l2 + (1 : Int32)) fun x16 => J 4 l1 x16 s15)))))
noncomputable def B_X12_readText_5 (J : Nat → Int32 → Int32 → St → Option (Int32 × St)) (n : Nat)  (l1 : Int32) (l2 : Int32) (σ : St) : Option (Int32 × St) := gd (vp_in l1 2) (if (gI σ 12 (l1).toNatClampNeg) ≤ l2 then (some ((-1 : Int32), σ)) else (gd (vp_in ((61 : Int32) + l2) 122) (gd (vp_in (((61 : Int32) * l1) + l2) 122) (bnd (sI σ 13 ((((61 : Int32) * l1) + l2)).toNatClampNeg (vp_nar .short (gI σ 13 (((61 : Int32) + l2)).toNatClampNeg))) fun s17 => gd (vp_in ((61 : Int32) + l2) 122) (gd (vp_in (((61 : Int32) * l1) + l2) 122) (bnd (sI s17 14 ((((61 : Int32) * l1) + l2)).toNatClampNeg (vp_nar .short (gI s17 14 (((61 : Int32) + l2)).toNatClampNeg))) fun s18 => bnd (l2 + (1 : Int32)) fun x19 => J 5 l1 x19 s18))))))
noncomputable def S_X12_readText  (n : Nat) (J : Nat → Int32 → Int32 → St → Option (Int32 × St)) : Nat → Int32 → Int32 → St → Option (Int32 × St) := fun lb a0 a1 σ => match lb with
  | 1 => B_X12_readText_1 J n  a0 σ
  | 2 => B_X12_readText_2 J n  a0 σ
  | 3 => B_X12_readText_3 J n  a0 σ
  | 4 => B_X12_readText_4 J n  a0 a1 σ
  | 5 => B_X12_readText_5 J n  a0 a1 σ
  | _ => none
noncomputable def L_X12_readText  (n : Nat) : Nat → Int32 → Int32 → St → Option (Int32 × St) := Nat.rec (fun _ _ _ _ => none) (fun n J => S_X12_readText  n J) n
noncomputable def F_X12_readText (n : Nat) (p1 : Int32) (σ : St) : Option (Int32 × St) := bnd (sI σ 0 14 (0 : Int32)) fun s1 => bnd (sI s1 0 15 (-1 : Int32)) fun s2 => bnd (sI s2 0 16 (0 : Int32)) fun s3 => bnd (sI s3 0 17 (0 : Int32)) fun s4 => gd (vp_in (1 : Int32) 2) (bnd (sI s4 12 ((1 : Int32)).toNatClampNeg (0 : Int32)) fun s5 => bd (F_X12_line n  s5) fun _ s6 => L_X12_readText  n 1 p1 0 s6)
set_option maxHeartbeats 4000000 in
set_option maxRecDepth 20000 in
theorem t_X12_readText (l : Launch) {p : Program} {e : Env} {s : State} {m : MethodId} {args : Array Value} {below : List Frame} {meth : Method} {c : Code} {D : va_G} {A : Nat → Prop} {ad : Nat → Nat} {dA : Nat → ClassId}   (K : Cx p s m args meth c cX12_readText 3 (some .int) RX12 D (tysR dA) (wdR ad dA) A) {res : Int32 × St} (n : Nat) : (∀ (l1 : Int32) (σ : St), L_X12_readText  n 1 l1 0 σ = some res → V p l e (rmH 105) s m args below meth c 3 D (wdR ad dA) A (MQ below (QI D (wdR ad dA) A res) args s 0 0 A) 31 [(0, .ref (ad 0)), (1, .int l1)] [] σ) ∧ (∀ (l1 : Int32) (σ : St), L_X12_readText  n 2 l1 0 σ = some res → V p l e (rmH 105) s m args below meth c 3 D (wdR ad dA) A (MQ below (QI D (wdR ad dA) A res) args s 0 0 A) 64 [(0, .ref (ad 0)), (1, .int l1)] [] σ) ∧ (∀ (l1 : Int32) (σ : St), L_X12_readText  n 3 l1 0 σ = some res → V p l e (rmH 105) s m args below meth c 3 D (wdR ad dA) A (MQ below (QI D (wdR ad dA) A res) args s 0 0 A) 86 [(0, .ref (ad 0)), (1, .int l1)] [] σ) ∧ (∀ (l1 : Int32) (l2 : Int32) (σ : St), L_X12_readText  n 4 l1 l2 σ = some res → V p l e (rmH 105) s m args below meth c 3 D (wdR ad dA) A (MQ below (QI D (wdR ad dA) A res) args s 0 0 A) 105 [(0, .ref (ad 0)), (1, .int l1), (2, .int l2)] [] σ) ∧ (∀ (l1 : Int32) (l2 : Int32) (σ : St), L_X12_readText  n 5 l1 l2 σ = some res → V p l e (rmH 105) s m args below meth c 3 D (wdR ad dA) A (MQ below (QI D (wdR ad dA) A res) args s 0 0 A) 177 [(0, .ref (ad 0)), (1, .int l1), (2, .int l2)] [] σ) := by
  induction n with
  | zero => exact ⟨fun _ _ h => (by cases h), fun _ _ h => (by cases h), fun _ _ h => (by cases h), fun _ _ _ h => (by cases h), fun _ _ _ h => (by cases h)⟩
  | succ n ih =>
    obtain ⟨ih_1, ih_2, ih_3, ih_4, ih_5⟩ := ih
    refine ⟨?_, ?_, ?_, ?_, ?_⟩
    · intro l1 σ hM
      have hM : B_X12_readText_1 (L_X12_readText  n) n  l1 σ = some res := hM
      refine v_aload_n K dX12_readText_31 0 rfl ?_
      refine g_X12_15 K qf_X12_170 dX12_readText_32 ?_
      refine v_if_ge K 64 dX12_readText_35 (by decide) hM (fun hM => ?_) (fun hM => ?_)
      · exact v_sub [0, 1] rfl (ih_2 l1 σ hM)
      · refine v_aload_n K dX12_readText_38 0 rfl ?_
        refine x_Vi (As := []) (st := []) K uv_X12_look qm_X12_182 dX12_readText_39 rv_X12 (fun _ h => c_X12_look l  n  σ h) rfl ⟨(Nat.le_of_ble_eq_true rfl), (Nat.le_of_ble_eq_true rfl)⟩ (Nat.le_of_ble_eq_true rfl) hM (fun r8 s7 hM => ?_)
        refine v_bipush (v := (59 : Int32)) K dX12_readText_42 (by decide) ?_
        refine v_icmp_ne K 64 dX12_readText_44 (by decide) hM (fun hM => ?_) (fun hM => ?_)
        · exact v_sub [0, 1] rfl (ih_2 l1 s7 hM)
        · refine v_aload_n K dX12_readText_47 0 rfl ?_
          refine v_dup K dX12_readText_48 rfl ?_
          refine g_X12_14 K qf_X12_167 dX12_readText_49 ?_
          refine v_iconst (v := (1 : Int32)) K dX12_readText_52 (by decide) ?_
          refine v_iadd K dX12_readText_53 ?_
          refine p_X12_14 K qf_X12_167 dX12_readText_54 hM (fun s9 hM => ?_)
          refine v_aload_n K dX12_readText_57 0 rfl ?_
          refine x_Vv (As := []) (st := []) K uv_X12_line qm_X12_219 dX12_readText_58 rv_X12 (fun _ h => c_X12_line l  n  s9 h) rfl ⟨(Nat.le_of_ble_eq_true rfl), (Nat.le_of_ble_eq_true rfl)⟩ (Nat.le_of_ble_eq_true rfl) hM (fun s10 hM => ?_)
          refine v_goto (tgt := 31) K dX12_readText_61 (by decide) ?_
          exact v_sub [0, 1] rfl (ih_1 l1 s10 hM)
    · intro l1 σ hM
      have hM : B_X12_readText_2 (L_X12_readText  n) n  l1 σ = some res := hM
      refine v_aload_n K dX12_readText_64 0 rfl ?_
      refine g_X12_15 K qf_X12_170 dX12_readText_65 ?_
      refine v_if_ge K 86 dX12_readText_68 (by decide) hM (fun hM => ?_) (fun hM => ?_)
      · exact v_sub [0, 1] rfl (ih_3 l1 σ hM)
      · refine v_aload_n K dX12_readText_71 0 rfl ?_
        refine g_X12_14 K qf_X12_167 dX12_readText_72 ?_
        refine v_aload_n K dX12_readText_75 0 rfl ?_
        refine g_X12_13 K qf_X12_164 dX12_readText_76 ?_
        refine v_icmp_ge K 86 dX12_readText_79 (by decide) hM (fun hM => ?_) (fun hM => ?_)
        · exact v_sub [0, 1] rfl (ih_3 l1 σ hM)
        · refine v_aload_n K dX12_readText_82 0 rfl ?_
          refine x_Vv (As := []) (st := []) K uv_X12_wrong qm_X12_179 dX12_readText_83 rv_X12 (fun _ h => c_X12_wrong l  n  σ h) rfl ⟨(Nat.le_of_ble_eq_true rfl), (Nat.le_of_ble_eq_true rfl)⟩ (Nat.le_of_ble_eq_true rfl) hM (fun s11 hM => ?_)
          exact v_sub [0, 1] rfl (ih_3 l1 s11 hM)
    · intro l1 σ hM
      have hM : B_X12_readText_3 (L_X12_readText  n) n  l1 σ = some res := hM
      refine v_aload_n K dX12_readText_86 0 rfl ?_
      refine v_iconst (v := (0 : Int32)) K dX12_readText_87 (by decide) ?_
      refine p_X12_13 K qf_X12_164 dX12_readText_88 hM (fun s12 hM => ?_)
      refine v_aload_n K dX12_readText_91 0 rfl ?_
      refine g_X12_15 K qf_X12_170 dX12_readText_92 ?_
      refine v_if_lt K 103 dX12_readText_95 (by decide) hM (fun hM => ?_) (fun hM => ?_)
      · refine v_iconst (v := (0 : Int32)) K dX12_readText_103 (by decide) ?_
        refine v_istore_n K dX12_readText_104 rfl (by decide) [(2, .int (0 : Int32)), (0, .ref (ad 0)), (1, .int l1)] rfl ?_
        exact v_sub [1, 2, 0] rfl (ih_4 l1 (0 : Int32) s12 hM)
      · refine v_aload_n K dX12_readText_98 0 rfl ?_
        refine g_X12_15 K qf_X12_170 dX12_readText_99 ?_
        exact v_iret K rfl dX12_readText_102 hM
    · intro l1 l2 σ hM
      have hM : B_X12_readText_4 (L_X12_readText  n) n  l1 l2 σ = some res := hM
      refine v_iload_n K dX12_readText_105 2 rfl ?_
      refine v_aload_n K dX12_readText_106 0 rfl ?_
      refine g_X12_17 K qf_X12_173 dX12_readText_107 ?_
      refine v_icmp_ge K 163 dX12_readText_110 (by decide) hM (fun hM => ?_) (fun hM => ?_)
      · refine v_aload_n K dX12_readText_163 0 rfl ?_
        refine g_X12_20 K qf_X12_46 dX12_readText_164 ?_
        refine v_iload_n K dX12_readText_167 1 rfl ?_
        refine v_aload_n K dX12_readText_168 0 rfl ?_
        refine g_X12_20 K qf_X12_46 dX12_readText_169 ?_
        refine v_iconst (v := (1 : Int32)) K dX12_readText_172 (by decide) ?_
        refine ld_R12 K dX12_readText_173 hM (fun hM => ?_)
        refine st_R12 K dX12_readText_174 hM (fun s13 hM => ?_)
        refine v_iconst (v := (0 : Int32)) K dX12_readText_175 (by decide) ?_
        refine v_istore_n K dX12_readText_176 rfl (by decide) [(2, .int (0 : Int32)), (0, .ref (ad 0)), (1, .int l1)] rfl ?_
        exact v_sub [1, 2, 0] rfl (ih_5 l1 (0 : Int32) s13 hM)
      · refine v_aload_n K dX12_readText_113 0 rfl ?_
        refine g_X12_18 K qf_X12_40 dX12_readText_114 ?_
        refine v_sipush (v := (130 : Int32)) K dX12_readText_117 (by decide) ?_
        refine v_iload_n K dX12_readText_120 1 rfl ?_
        refine v_imul K dX12_readText_121 ?_
        refine v_iload_n K dX12_readText_122 2 rfl ?_
        refine v_iadd K dX12_readText_123 ?_
        refine v_aload_n K dX12_readText_124 0 rfl ?_
        refine g_X12_18 K qf_X12_40 dX12_readText_125 ?_
        refine v_sipush (v := (130 : Int32)) K dX12_readText_128 (by decide) ?_
        refine v_iload_n K dX12_readText_131 2 rfl ?_
        refine v_iadd K dX12_readText_132 ?_
        refine ld_R10 K dX12_readText_133 hM (fun hM => ?_)
        refine st_R10 K dX12_readText_134 hM (fun s14 hM => ?_)
        refine v_aload_n K dX12_readText_135 0 rfl ?_
        refine g_X12_19 K qf_X12_43 dX12_readText_136 ?_
        refine v_sipush (v := (130 : Int32)) K dX12_readText_139 (by decide) ?_
        refine v_iload_n K dX12_readText_142 1 rfl ?_
        refine v_imul K dX12_readText_143 ?_
        refine v_iload_n K dX12_readText_144 2 rfl ?_
        refine v_iadd K dX12_readText_145 ?_
        refine v_aload_n K dX12_readText_146 0 rfl ?_
        refine g_X12_19 K qf_X12_43 dX12_readText_147 ?_
        refine v_sipush (v := (130 : Int32)) K dX12_readText_150 (by decide) ?_
        refine v_iload_n K dX12_readText_153 2 rfl ?_
        refine v_iadd K dX12_readText_154 ?_
        refine ld_R11 K dX12_readText_155 hM (fun hM => ?_)
        refine st_R11 K dX12_readText_156 hM (fun s15 hM => ?_)
        refine v_iinc K dX12_readText_157 2 rfl (v := (l2 + (1 : Int32))) rfl (by decide) hM (fun y => [(2, .int y), (0, .ref (ad 0)), (1, .int l1)]) (fun _ => rfl) (fun x16 hM => ?_)
        refine v_goto (tgt := 105) K dX12_readText_160 (by decide) ?_
        exact v_sub [1, 2, 0] rfl (ih_4 l1 x16 s15 hM)
    · intro l1 l2 σ hM
      have hM : B_X12_readText_5 (L_X12_readText  n) n  l1 l2 σ = some res := hM
      refine v_iload_n K dX12_readText_177 2 rfl ?_
      refine v_aload_n K dX12_readText_178 0 rfl ?_
      refine g_X12_20 K qf_X12_46 dX12_readText_179 ?_
      refine v_iload_n K dX12_readText_182 1 rfl ?_
      refine ld_R12 K dX12_readText_183 hM (fun hM => ?_)
      refine v_icmp_ge K 233 dX12_readText_184 (by decide) hM (fun hM => ?_) (fun hM => ?_)
      · refine v_iconst (v := (-1 : Int32)) K dX12_readText_233 (by decide) ?_
        exact v_iret K rfl dX12_readText_234 hM
      · refine v_aload_n K dX12_readText_187 0 rfl ?_
        refine g_X12_21 K qf_X12_49 dX12_readText_188 ?_
        refine v_bipush (v := (61 : Int32)) K dX12_readText_191 (by decide) ?_
        refine v_iload_n K dX12_readText_193 1 rfl ?_
        refine v_imul K dX12_readText_194 ?_
        refine v_iload_n K dX12_readText_195 2 rfl ?_
        refine v_iadd K dX12_readText_196 ?_
        refine v_aload_n K dX12_readText_197 0 rfl ?_
        refine g_X12_21 K qf_X12_49 dX12_readText_198 ?_
        refine v_bipush (v := (61 : Int32)) K dX12_readText_201 (by decide) ?_
        refine v_iload_n K dX12_readText_203 2 rfl ?_
        refine v_iadd K dX12_readText_204 ?_
        refine ld_R13 K dX12_readText_205 hM (fun hM => ?_)
        refine st_R13 K dX12_readText_206 hM (fun s17 hM => ?_)
        refine v_aload_n K dX12_readText_207 0 rfl ?_
        refine g_X12_22 K qf_X12_53 dX12_readText_208 ?_
        refine v_bipush (v := (61 : Int32)) K dX12_readText_211 (by decide) ?_
        refine v_iload_n K dX12_readText_213 1 rfl ?_
        refine v_imul K dX12_readText_214 ?_
        refine v_iload_n K dX12_readText_215 2 rfl ?_
        refine v_iadd K dX12_readText_216 ?_
        refine v_aload_n K dX12_readText_217 0 rfl ?_
        refine g_X12_22 K qf_X12_53 dX12_readText_218 ?_
        refine v_bipush (v := (61 : Int32)) K dX12_readText_221 (by decide) ?_
        refine v_iload_n K dX12_readText_223 2 rfl ?_
        refine v_iadd K dX12_readText_224 ?_
        refine ld_R14 K dX12_readText_225 hM (fun hM => ?_)
        refine st_R14 K dX12_readText_226 hM (fun s18 hM => ?_)
        refine v_iinc K dX12_readText_227 2 rfl (v := (l2 + (1 : Int32))) rfl (by decide) hM (fun y => [(2, .int y), (0, .ref (ad 0)), (1, .int l1)]) (fun _ => rfl) (fun x19 hM => ?_)
        refine v_goto (tgt := 177) K dX12_readText_230 (by decide) ?_
        exact v_sub [1, 2, 0] rfl (ih_5 l1 x19 s18 hM)
set_option maxHeartbeats 4000000 in
set_option maxRecDepth 20000 in
theorem c_X12_readText (l : Launch) {D : va_G} {A : Nat → Prop} {ad : Nat → Nat} {dA : Nat → ClassId}  (n : Nat) (p1 : Int32) (σ : St) {res : Int32 × St} (hM : F_X12_readText n p1 σ = some res) : MI l yX12_readText cX12_readText 3 (some .int) 105 D (tysR dA) (wdR ad dA) A [.ref (ad 0), .int p1] σ (QI D (wdR ad dA) A res) := by
  refine mk_met (by decide +kernel) (Nat.le_of_ble_eq_true rfl) (fun p e s m below meth c K => ?_)
  have K : Cx p s m _ meth c cX12_readText 3 (some .int) RX12 D (tysR dA) (wdR ad dA) A := K
  obtain ⟨ih_1, ih_2, ih_3, ih_4, ih_5⟩ := t_X12_readText l    K (res := res) n (below := below) (e := e)
  refine v_aload_n K dX12_readText_0 0 rfl ?_
  refine v_iconst (v := (0 : Int32)) K dX12_readText_1 (by decide) ?_
  refine p_X12_14 K qf_X12_167 dX12_readText_2 hM (fun s1 hM => ?_)
  refine v_aload_n K dX12_readText_5 0 rfl ?_
  refine v_iconst (v := (-1 : Int32)) K dX12_readText_6 (by decide) ?_
  refine p_X12_15 K qf_X12_170 dX12_readText_7 hM (fun s2 hM => ?_)
  refine v_aload_n K dX12_readText_10 0 rfl ?_
  refine v_iconst (v := (0 : Int32)) K dX12_readText_11 (by decide) ?_
  refine p_X12_16 K qf_X12_176 dX12_readText_12 hM (fun s3 hM => ?_)
  refine v_aload_n K dX12_readText_15 0 rfl ?_
  refine v_iconst (v := (0 : Int32)) K dX12_readText_16 (by decide) ?_
  refine p_X12_17 K qf_X12_173 dX12_readText_17 hM (fun s4 hM => ?_)
  refine v_aload_n K dX12_readText_20 0 rfl ?_
  refine g_X12_20 K qf_X12_46 dX12_readText_21 ?_
  refine v_iconst (v := (1 : Int32)) K dX12_readText_24 (by decide) ?_
  refine v_iconst (v := (0 : Int32)) K dX12_readText_25 (by decide) ?_
  refine st_R12 K dX12_readText_26 hM (fun s5 hM => ?_)
  refine v_aload_n K dX12_readText_27 0 rfl ?_
  refine x_Vv (As := []) (st := []) K uv_X12_line qm_X12_219 dX12_readText_28 rv_X12 (fun _ h => c_X12_line l  n  s5 h) rfl ⟨(Nat.le_of_ble_eq_true rfl), (Nat.le_of_ble_eq_true rfl)⟩ (Nat.le_of_ble_eq_true rfl) hM (fun s6 hM => ?_)
  exact v_sub [0, 1] rfl (ih_1 p1 s6 hM)
noncomputable def F_X12_twoOf (n : Nat) (p0 : Int32) (p1 : Int32) (p2 : Int32) (σ : St) : Option (Int32 × St) := if p0 = (37 : Int32) then (if p2 = 0 then (some ((0 : Int32), σ)) else (if p2 = (-1 : Int32) then (some ((0 : Int32), σ)) else (gd (¬ p2 = 0) (bnd (p1 - p1 / p2 * p2) fun x1 => some (x1, σ))))) else (if p0 = (38 : Int32) then (if p1 = 0 then (some ((0 : Int32), σ)) else (if p2 = 0 then (some ((0 : Int32), σ)) else (some ((1 : Int32), σ)))) else (if p0 = (39 : Int32) then (if p1 = 0 then (if p2 = 0 then (some ((0 : Int32), σ)) else (some ((1 : Int32), σ))) else (some ((1 : Int32), σ))) else (if p0 = (40 : Int32) then (if p1 = 0 then (if p2 = 0 then (some ((0 : Int32), σ)) else (some ((1 : Int32), σ))) else (some ((1 : Int32), σ))) else (if p0 = (41 : Int32) then (if p1 = 0 then (if p2 = 0 then (some ((0 : Int32), σ)) else (some ((1 : Int32), σ))) else (some ((1 : Int32), σ))) else (if p0 = (42 : Int32) then (some ((p1 * p2), σ)) else (if p0 = (43 : Int32) then (some ((p1 + p2), σ)) else (if p0 = (44 : Int32) then (if p1 = 0 then (if p2 = 0 then (some ((0 : Int32), σ)) else (some ((1 : Int32), σ))) else (some ((1 : Int32), σ))) else (if p0 = (45 : Int32) then (some ((p1 - p2), σ)) else (if p0 = (46 : Int32) then (if p1 = 0 then (if p2 = 0 then (some ((0 : Int32), σ)) else (some ((1 : Int32), σ))) else (some ((1 : Int32), σ))) else (if p0 = (47 : Int32) then (if p2 = 0 then (some ((0 : Int32), σ)) else (if p2 = (-1 : Int32) then (some ((-p1), σ)) else (gd (¬ p2 = 0) (bnd (p1 / p2) fun x12 => some (x12, σ))))) else (if p0 = (48 : Int32) then (if p1 = 0 then (if p2 = 0 then (some ((0 : Int32), σ)) else (some ((1 : Int32), σ))) else (some ((1 : Int32), σ))) else (if p0 = (49 : Int32) then (if p1 = 0 then (if p2 = 0 then (some ((0 : Int32), σ)) else (some ((1 : Int32), σ))) else (some ((1 : Int32), σ))) else (if p0 = (50 : Int32) then (if p1 = 0 then (if p2 = 0 then (some ((0 : Int32), σ)) else (some ((1 : Int32), σ))) else (some ((1 : Int32), σ))) else (if p0 = (51 : Int32) then (if p1 = 0 then (if p2 = 0 then (some ((0 : Int32), σ)) else (some ((1 : Int32), σ))) else (some ((1 : Int32), σ))) else (if p0 = (52 : Int32) then (if p1 = 0 then (if p2 = 0 then (some ((0 : Int32), σ)) else (some ((1 : Int32), σ))) else (some ((1 : Int32), σ))) else (if p0 = (53 : Int32) then (if p1 = 0 then (if p2 = 0 then (some ((0 : Int32), σ)) else (some ((1 : Int32), σ))) else (some ((1 : Int32), σ))) else (if p0 = (54 : Int32) then (if p1 = 0 then (if p2 = 0 then (some ((0 : Int32), σ)) else (some ((1 : Int32), σ))) else (some ((1 : Int32), σ))) else (if p0 = (55 : Int32) then (if p1 = 0 then (if p2 = 0 then (some ((0 : Int32), σ)) else (some ((1 : Int32), σ))) else (some ((1 : Int32), σ))) else (if p0 = (56 : Int32) then (if p1 = 0 then (if p2 = 0 then (some ((0 : Int32), σ)) else (some ((1 : Int32), σ))) else (some ((1 : Int32), σ))) else (if p0 = (57 : Int32) then (if p1 = 0 then (if p2 = 0 then (some ((0 : Int32), σ)) else (some ((1 : Int32), σ))) else (some ((1 : Int32), σ))) else (if p0 = (58 : Int32) then (if p1 = 0 then (if p2 = 0 then (some ((0 : Int32), σ)) else (some ((1 : Int32), σ))) else (some ((1 : Int32), σ))) else (if p0 = (59 : Int32) then (if p1 = 0 then (if p2 = 0 then (some ((0 : Int32), σ)) else (some ((1 : Int32), σ))) else (some ((1 : Int32), σ))) else (if p0 = (60 : Int32) then (if p2 ≤ p1 then (some ((0 : Int32), σ)) else (some ((1 : Int32), σ))) else (if p0 = (61 : Int32) then (if p1 = p2 then (some ((1 : Int32), σ)) else (some ((0 : Int32), σ))) else (if p0 = (62 : Int32) then (if p1 ≤ p2 then (some ((0 : Int32), σ)) else (some ((1 : Int32), σ))) else (if p1 = 0 then (if p2 = 0 then (some ((0 : Int32), σ)) else (some ((1 : Int32), σ))) else (some ((1 : Int32), σ))))))))))))))))))))))))))))
set_option maxHeartbeats 4000000 in
set_option maxRecDepth 20000 in
theorem c_X12_twoOf (l : Launch) {D : va_G} {A : Nat → Prop} {ad : Nat → Nat} {dA : Nat → ClassId}  (n : Nat) (p0 : Int32) (p1 : Int32) (p2 : Int32) (σ : St) {res : Int32 × St} (hM : F_X12_twoOf n p0 p1 p2 σ = some res) : MI l yX12_twoOf cX12_twoOf 3 (some .int) 1 D (tysR dA) (wdR ad dA) A [.int p0, .int p1, .int p2] σ (QI D (wdR ad dA) A res) := by
  refine mk_met (by decide +kernel) (Nat.le_of_ble_eq_true rfl) (fun p e s m below meth c K => ?_)
  have K : Cx p s m _ meth c cX12_twoOf 3 (some .int) RX12 D (tysR dA) (wdR ad dA) A := K
  refine v_iload_n K dX12_twoOf_0 0 rfl ?_
  rcases ite_inv hM with ⟨hx2, hM⟩ | ⟨hx2, hM⟩
  · refine v_tabI K dX12_twoOf_1 (k := (37 : Int32)) hx2 (by decide) (by decide) (off := 153) (by decide) (tgt := 154) (by decide) ?_
    refine v_iload_n K dX12_twoOf_154 2 rfl ?_
    refine v_if_eq K 163 dX12_twoOf_155 (by decide) hM (fun hM => ?_) (fun hM => ?_)
    · refine v_iconst (v := (0 : Int32)) K dX12_twoOf_163 (by decide) ?_
      refine v_goto (tgt := 170) K dX12_twoOf_164 (by decide) ?_
      exact v_iret K rfl dX12_twoOf_170 hM
    · refine v_iload_n K dX12_twoOf_158 2 rfl ?_
      refine v_iconst (v := (-1 : Int32)) K dX12_twoOf_159 (by decide) ?_
      refine v_icmp_ne K 167 dX12_twoOf_160 (by decide) hM (fun hM => ?_) (fun hM => ?_)
      · refine v_iload_n K dX12_twoOf_167 1 rfl ?_
        refine v_iload_n K dX12_twoOf_168 2 rfl ?_
        refine v_irem K dX12_twoOf_169 hM (fun hM => ?_)
        refine v_topi hM (fun x1 hM => ?_)
        exact v_iret K rfl dX12_twoOf_170 hM
      · refine v_iconst (v := (0 : Int32)) K dX12_twoOf_163 (by decide) ?_
        refine v_goto (tgt := 170) K dX12_twoOf_164 (by decide) ?_
        exact v_iret K rfl dX12_twoOf_170 hM
  rcases ite_inv hM with ⟨hx3, hM⟩ | ⟨hx3, hM⟩
  · refine v_tabI K dX12_twoOf_1 (k := (38 : Int32)) hx3 (by decide) (by decide) (off := 203) (by decide) (tgt := 204) (by decide) ?_
    refine v_iload_n K dX12_twoOf_204 1 rfl ?_
    refine v_if_eq K 216 dX12_twoOf_205 (by decide) hM (fun hM => ?_) (fun hM => ?_)
    · refine v_iconst (v := (0 : Int32)) K dX12_twoOf_216 (by decide) ?_
      exact v_iret K rfl dX12_twoOf_217 hM
    · refine v_iload_n K dX12_twoOf_208 2 rfl ?_
      refine v_if_eq K 216 dX12_twoOf_209 (by decide) hM (fun hM => ?_) (fun hM => ?_)
      · refine v_iconst (v := (0 : Int32)) K dX12_twoOf_216 (by decide) ?_
        exact v_iret K rfl dX12_twoOf_217 hM
      · refine v_iconst (v := (1 : Int32)) K dX12_twoOf_212 (by decide) ?_
        refine v_goto (tgt := 217) K dX12_twoOf_213 (by decide) ?_
        exact v_iret K rfl dX12_twoOf_217 hM
  rcases ite_inv hM with ⟨hx4, hM⟩ | ⟨hx4, hM⟩
  · refine v_tabI K dX12_twoOf_1 (k := (39 : Int32)) hx4 (by decide) (by decide) (off := 217) (by decide) (tgt := 218) (by decide) ?_
    refine v_iload_n K dX12_twoOf_218 1 rfl ?_
    refine v_if_ne K 226 dX12_twoOf_219 (by decide) hM (fun hM => ?_) (fun hM => ?_)
    · refine v_iconst (v := (1 : Int32)) K dX12_twoOf_226 (by decide) ?_
      refine v_goto (tgt := 231) K dX12_twoOf_227 (by decide) ?_
      exact v_iret K rfl dX12_twoOf_231 hM
    · refine v_iload_n K dX12_twoOf_222 2 rfl ?_
      refine v_if_eq K 230 dX12_twoOf_223 (by decide) hM (fun hM => ?_) (fun hM => ?_)
      · refine v_iconst (v := (0 : Int32)) K dX12_twoOf_230 (by decide) ?_
        exact v_iret K rfl dX12_twoOf_231 hM
      · refine v_iconst (v := (1 : Int32)) K dX12_twoOf_226 (by decide) ?_
        refine v_goto (tgt := 231) K dX12_twoOf_227 (by decide) ?_
        exact v_iret K rfl dX12_twoOf_231 hM
  rcases ite_inv hM with ⟨hx5, hM⟩ | ⟨hx5, hM⟩
  · refine v_tabI K dX12_twoOf_1 (k := (40 : Int32)) hx5 (by decide) (by decide) (off := 217) (by decide) (tgt := 218) (by decide) ?_
    refine v_iload_n K dX12_twoOf_218 1 rfl ?_
    refine v_if_ne K 226 dX12_twoOf_219 (by decide) hM (fun hM => ?_) (fun hM => ?_)
    · refine v_iconst (v := (1 : Int32)) K dX12_twoOf_226 (by decide) ?_
      refine v_goto (tgt := 231) K dX12_twoOf_227 (by decide) ?_
      exact v_iret K rfl dX12_twoOf_231 hM
    · refine v_iload_n K dX12_twoOf_222 2 rfl ?_
      refine v_if_eq K 230 dX12_twoOf_223 (by decide) hM (fun hM => ?_) (fun hM => ?_)
      · refine v_iconst (v := (0 : Int32)) K dX12_twoOf_230 (by decide) ?_
        exact v_iret K rfl dX12_twoOf_231 hM
      · refine v_iconst (v := (1 : Int32)) K dX12_twoOf_226 (by decide) ?_
        refine v_goto (tgt := 231) K dX12_twoOf_227 (by decide) ?_
        exact v_iret K rfl dX12_twoOf_231 hM
  rcases ite_inv hM with ⟨hx6, hM⟩ | ⟨hx6, hM⟩
  · refine v_tabI K dX12_twoOf_1 (k := (41 : Int32)) hx6 (by decide) (by decide) (off := 217) (by decide) (tgt := 218) (by decide) ?_
    refine v_iload_n K dX12_twoOf_218 1 rfl ?_
    refine v_if_ne K 226 dX12_twoOf_219 (by decide) hM (fun hM => ?_) (fun hM => ?_)
    · refine v_iconst (v := (1 : Int32)) K dX12_twoOf_226 (by decide) ?_
      refine v_goto (tgt := 231) K dX12_twoOf_227 (by decide) ?_
      exact v_iret K rfl dX12_twoOf_231 hM
    · refine v_iload_n K dX12_twoOf_222 2 rfl ?_
      refine v_if_eq K 230 dX12_twoOf_223 (by decide) hM (fun hM => ?_) (fun hM => ?_)
      · refine v_iconst (v := (0 : Int32)) K dX12_twoOf_230 (by decide) ?_
        exact v_iret K rfl dX12_twoOf_231 hM
      · refine v_iconst (v := (1 : Int32)) K dX12_twoOf_226 (by decide) ?_
        refine v_goto (tgt := 231) K dX12_twoOf_227 (by decide) ?_
        exact v_iret K rfl dX12_twoOf_231 hM
  rcases ite_inv hM with ⟨hx7, hM⟩ | ⟨hx7, hM⟩
  · refine v_tabI K dX12_twoOf_1 (k := (42 : Int32)) hx7 (by decide) (by decide) (off := 127) (by decide) (tgt := 128) (by decide) ?_
    refine v_iload_n K dX12_twoOf_128 1 rfl ?_
    refine v_iload_n K dX12_twoOf_129 2 rfl ?_
    refine v_imul K dX12_twoOf_130 ?_
    exact v_iret K rfl dX12_twoOf_131 hM
  rcases ite_inv hM with ⟨hx8, hM⟩ | ⟨hx8, hM⟩
  · refine v_tabI K dX12_twoOf_1 (k := (43 : Int32)) hx8 (by decide) (by decide) (off := 119) (by decide) (tgt := 120) (by decide) ?_
    refine v_iload_n K dX12_twoOf_120 1 rfl ?_
    refine v_iload_n K dX12_twoOf_121 2 rfl ?_
    refine v_iadd K dX12_twoOf_122 ?_
    exact v_iret K rfl dX12_twoOf_123 hM
  rcases ite_inv hM with ⟨hx9, hM⟩ | ⟨hx9, hM⟩
  · refine v_tabI K dX12_twoOf_1 (k := (44 : Int32)) hx9 (by decide) (by decide) (off := 217) (by decide) (tgt := 218) (by decide) ?_
    refine v_iload_n K dX12_twoOf_218 1 rfl ?_
    refine v_if_ne K 226 dX12_twoOf_219 (by decide) hM (fun hM => ?_) (fun hM => ?_)
    · refine v_iconst (v := (1 : Int32)) K dX12_twoOf_226 (by decide) ?_
      refine v_goto (tgt := 231) K dX12_twoOf_227 (by decide) ?_
      exact v_iret K rfl dX12_twoOf_231 hM
    · refine v_iload_n K dX12_twoOf_222 2 rfl ?_
      refine v_if_eq K 230 dX12_twoOf_223 (by decide) hM (fun hM => ?_) (fun hM => ?_)
      · refine v_iconst (v := (0 : Int32)) K dX12_twoOf_230 (by decide) ?_
        exact v_iret K rfl dX12_twoOf_231 hM
      · refine v_iconst (v := (1 : Int32)) K dX12_twoOf_226 (by decide) ?_
        refine v_goto (tgt := 231) K dX12_twoOf_227 (by decide) ?_
        exact v_iret K rfl dX12_twoOf_231 hM
  rcases ite_inv hM with ⟨hx10, hM⟩ | ⟨hx10, hM⟩
  · refine v_tabI K dX12_twoOf_1 (k := (45 : Int32)) hx10 (by decide) (by decide) (off := 123) (by decide) (tgt := 124) (by decide) ?_
    refine v_iload_n K dX12_twoOf_124 1 rfl ?_
    refine v_iload_n K dX12_twoOf_125 2 rfl ?_
    refine v_isub K dX12_twoOf_126 ?_
    exact v_iret K rfl dX12_twoOf_127 hM
  rcases ite_inv hM with ⟨hx11, hM⟩ | ⟨hx11, hM⟩
  · refine v_tabI K dX12_twoOf_1 (k := (46 : Int32)) hx11 (by decide) (by decide) (off := 217) (by decide) (tgt := 218) (by decide) ?_
    refine v_iload_n K dX12_twoOf_218 1 rfl ?_
    refine v_if_ne K 226 dX12_twoOf_219 (by decide) hM (fun hM => ?_) (fun hM => ?_)
    · refine v_iconst (v := (1 : Int32)) K dX12_twoOf_226 (by decide) ?_
      refine v_goto (tgt := 231) K dX12_twoOf_227 (by decide) ?_
      exact v_iret K rfl dX12_twoOf_231 hM
    · refine v_iload_n K dX12_twoOf_222 2 rfl ?_
      refine v_if_eq K 230 dX12_twoOf_223 (by decide) hM (fun hM => ?_) (fun hM => ?_)
      · refine v_iconst (v := (0 : Int32)) K dX12_twoOf_230 (by decide) ?_
        exact v_iret K rfl dX12_twoOf_231 hM
      · refine v_iconst (v := (1 : Int32)) K dX12_twoOf_226 (by decide) ?_
        refine v_goto (tgt := 231) K dX12_twoOf_227 (by decide) ?_
        exact v_iret K rfl dX12_twoOf_231 hM
  rcases ite_inv hM with ⟨hx13, hM⟩ | ⟨hx13, hM⟩
  · refine v_tabI K dX12_twoOf_1 (k := (47 : Int32)) hx13 (by decide) (by decide) (off := 131) (by decide) (tgt := 132) (by decide) ?_
    refine v_iload_n K dX12_twoOf_132 2 rfl ?_
    refine v_if_ne K 140 dX12_twoOf_133 (by decide) hM (fun hM => ?_) (fun hM => ?_)
    · refine v_iload_n K dX12_twoOf_140 2 rfl ?_
      refine v_iconst (v := (-1 : Int32)) K dX12_twoOf_141 (by decide) ?_
      refine v_icmp_ne K 150 dX12_twoOf_142 (by decide) hM (fun hM => ?_) (fun hM => ?_)
      · refine v_iload_n K dX12_twoOf_150 1 rfl ?_
        refine v_iload_n K dX12_twoOf_151 2 rfl ?_
        refine v_idiv K dX12_twoOf_152 hM (fun hM => ?_)
        refine v_topi hM (fun x12 hM => ?_)
        exact v_iret K rfl dX12_twoOf_153 hM
      · refine v_iload_n K dX12_twoOf_145 1 rfl ?_
        refine v_ineg K dX12_twoOf_146 ?_
        refine v_goto (tgt := 153) K dX12_twoOf_147 (by decide) ?_
        exact v_iret K rfl dX12_twoOf_153 hM
    · refine v_iconst (v := (0 : Int32)) K dX12_twoOf_136 (by decide) ?_
      refine v_goto (tgt := 153) K dX12_twoOf_137 (by decide) ?_
      exact v_iret K rfl dX12_twoOf_153 hM
  rcases ite_inv hM with ⟨hx14, hM⟩ | ⟨hx14, hM⟩
  · refine v_tabI K dX12_twoOf_1 (k := (48 : Int32)) hx14 (by decide) (by decide) (off := 217) (by decide) (tgt := 218) (by decide) ?_
    refine v_iload_n K dX12_twoOf_218 1 rfl ?_
    refine v_if_ne K 226 dX12_twoOf_219 (by decide) hM (fun hM => ?_) (fun hM => ?_)
    · refine v_iconst (v := (1 : Int32)) K dX12_twoOf_226 (by decide) ?_
      refine v_goto (tgt := 231) K dX12_twoOf_227 (by decide) ?_
      exact v_iret K rfl dX12_twoOf_231 hM
    · refine v_iload_n K dX12_twoOf_222 2 rfl ?_
      refine v_if_eq K 230 dX12_twoOf_223 (by decide) hM (fun hM => ?_) (fun hM => ?_)
      · refine v_iconst (v := (0 : Int32)) K dX12_twoOf_230 (by decide) ?_
        exact v_iret K rfl dX12_twoOf_231 hM
      · refine v_iconst (v := (1 : Int32)) K dX12_twoOf_226 (by decide) ?_
        refine v_goto (tgt := 231) K dX12_twoOf_227 (by decide) ?_
        exact v_iret K rfl dX12_twoOf_231 hM
  rcases ite_inv hM with ⟨hx15, hM⟩ | ⟨hx15, hM⟩
  · refine v_tabI K dX12_twoOf_1 (k := (49 : Int32)) hx15 (by decide) (by decide) (off := 217) (by decide) (tgt := 218) (by decide) ?_
    refine v_iload_n K dX12_twoOf_218 1 rfl ?_
    refine v_if_ne K 226 dX12_twoOf_219 (by decide) hM (fun hM => ?_) (fun hM => ?_)
    · refine v_iconst (v := (1 : Int32)) K dX12_twoOf_226 (by decide) ?_
      refine v_goto (tgt := 231) K dX12_twoOf_227 (by decide) ?_
      exact v_iret K rfl dX12_twoOf_231 hM
    · refine v_iload_n K dX12_twoOf_222 2 rfl ?_
      refine v_if_eq K 230 dX12_twoOf_223 (by decide) hM (fun hM => ?_) (fun hM => ?_)
      · refine v_iconst (v := (0 : Int32)) K dX12_twoOf_230 (by decide) ?_
        exact v_iret K rfl dX12_twoOf_231 hM
      · refine v_iconst (v := (1 : Int32)) K dX12_twoOf_226 (by decide) ?_
        refine v_goto (tgt := 231) K dX12_twoOf_227 (by decide) ?_
        exact v_iret K rfl dX12_twoOf_231 hM
  rcases ite_inv hM with ⟨hx16, hM⟩ | ⟨hx16, hM⟩
  · refine v_tabI K dX12_twoOf_1 (k := (50 : Int32)) hx16 (by decide) (by decide) (off := 217) (by decide) (tgt := 218) (by decide) ?_
    refine v_iload_n K dX12_twoOf_218 1 rfl ?_
    refine v_if_ne K 226 dX12_twoOf_219 (by decide) hM (fun hM => ?_) (fun hM => ?_)
    · refine v_iconst (v := (1 : Int32)) K dX12_twoOf_226 (by decide) ?_
      refine v_goto (tgt := 231) K dX12_twoOf_227 (by decide) ?_
      exact v_iret K rfl dX12_twoOf_231 hM
    · refine v_iload_n K dX12_twoOf_222 2 rfl ?_
      refine v_if_eq K 230 dX12_twoOf_223 (by decide) hM (fun hM => ?_) (fun hM => ?_)
      · refine v_iconst (v := (0 : Int32)) K dX12_twoOf_230 (by decide) ?_
        exact v_iret K rfl dX12_twoOf_231 hM
      · refine v_iconst (v := (1 : Int32)) K dX12_twoOf_226 (by decide) ?_
        refine v_goto (tgt := 231) K dX12_twoOf_227 (by decide) ?_
        exact v_iret K rfl dX12_twoOf_231 hM
  rcases ite_inv hM with ⟨hx17, hM⟩ | ⟨hx17, hM⟩
  · refine v_tabI K dX12_twoOf_1 (k := (51 : Int32)) hx17 (by decide) (by decide) (off := 217) (by decide) (tgt := 218) (by decide) ?_
    refine v_iload_n K dX12_twoOf_218 1 rfl ?_
    refine v_if_ne K 226 dX12_twoOf_219 (by decide) hM (fun hM => ?_) (fun hM => ?_)
    · refine v_iconst (v := (1 : Int32)) K dX12_twoOf_226 (by decide) ?_
      refine v_goto (tgt := 231) K dX12_twoOf_227 (by decide) ?_
      exact v_iret K rfl dX12_twoOf_231 hM
    · refine v_iload_n K dX12_twoOf_222 2 rfl ?_
      refine v_if_eq K 230 dX12_twoOf_223 (by decide) hM (fun hM => ?_) (fun hM => ?_)
      · refine v_iconst (v := (0 : Int32)) K dX12_twoOf_230 (by decide) ?_
        exact v_iret K rfl dX12_twoOf_231 hM
      · refine v_iconst (v := (1 : Int32)) K dX12_twoOf_226 (by decide) ?_
        refine v_goto (tgt := 231) K dX12_twoOf_227 (by decide) ?_
        exact v_iret K rfl dX12_twoOf_231 hM
  rcases ite_inv hM with ⟨hx18, hM⟩ | ⟨hx18, hM⟩
  · refine v_tabI K dX12_twoOf_1 (k := (52 : Int32)) hx18 (by decide) (by decide) (off := 217) (by decide) (tgt := 218) (by decide) ?_
    refine v_iload_n K dX12_twoOf_218 1 rfl ?_
    refine v_if_ne K 226 dX12_twoOf_219 (by decide) hM (fun hM => ?_) (fun hM => ?_)
    · refine v_iconst (v := (1 : Int32)) K dX12_twoOf_226 (by decide) ?_
      refine v_goto (tgt := 231) K dX12_twoOf_227 (by decide) ?_
      exact v_iret K rfl dX12_twoOf_231 hM
    · refine v_iload_n K dX12_twoOf_222 2 rfl ?_
      refine v_if_eq K 230 dX12_twoOf_223 (by decide) hM (fun hM => ?_) (fun hM => ?_)
      · refine v_iconst (v := (0 : Int32)) K dX12_twoOf_230 (by decide) ?_
        exact v_iret K rfl dX12_twoOf_231 hM
      · refine v_iconst (v := (1 : Int32)) K dX12_twoOf_226 (by decide) ?_
        refine v_goto (tgt := 231) K dX12_twoOf_227 (by decide) ?_
        exact v_iret K rfl dX12_twoOf_231 hM
  rcases ite_inv hM with ⟨hx19, hM⟩ | ⟨hx19, hM⟩
  · refine v_tabI K dX12_twoOf_1 (k := (53 : Int32)) hx19 (by decide) (by decide) (off := 217) (by decide) (tgt := 218) (by decide) ?_
    refine v_iload_n K dX12_twoOf_218 1 rfl ?_
    refine v_if_ne K 226 dX12_twoOf_219 (by decide) hM (fun hM => ?_) (fun hM => ?_)
    · refine v_iconst (v := (1 : Int32)) K dX12_twoOf_226 (by decide) ?_
      refine v_goto (tgt := 231) K dX12_twoOf_227 (by decide) ?_
      exact v_iret K rfl dX12_twoOf_231 hM
    · refine v_iload_n K dX12_twoOf_222 2 rfl ?_
      refine v_if_eq K 230 dX12_twoOf_223 (by decide) hM (fun hM => ?_) (fun hM => ?_)
      · refine v_iconst (v := (0 : Int32)) K dX12_twoOf_230 (by decide) ?_
        exact v_iret K rfl dX12_twoOf_231 hM
      · refine v_iconst (v := (1 : Int32)) K dX12_twoOf_226 (by decide) ?_
        refine v_goto (tgt := 231) K dX12_twoOf_227 (by decide) ?_
        exact v_iret K rfl dX12_twoOf_231 hM
  rcases ite_inv hM with ⟨hx20, hM⟩ | ⟨hx20, hM⟩
  · refine v_tabI K dX12_twoOf_1 (k := (54 : Int32)) hx20 (by decide) (by decide) (off := 217) (by decide) (tgt := 218) (by decide) ?_
    refine v_iload_n K dX12_twoOf_218 1 rfl ?_
    refine v_if_ne K 226 dX12_twoOf_219 (by decide) hM (fun hM => ?_) (fun hM => ?_)
    · refine v_iconst (v := (1 : Int32)) K dX12_twoOf_226 (by decide) ?_
      refine v_goto (tgt := 231) K dX12_twoOf_227 (by decide) ?_
      exact v_iret K rfl dX12_twoOf_231 hM
    · refine v_iload_n K dX12_twoOf_222 2 rfl ?_
      refine v_if_eq K 230 dX12_twoOf_223 (by decide) hM (fun hM => ?_) (fun hM => ?_)
      · refine v_iconst (v := (0 : Int32)) K dX12_twoOf_230 (by decide) ?_
        exact v_iret K rfl dX12_twoOf_231 hM
      · refine v_iconst (v := (1 : Int32)) K dX12_twoOf_226 (by decide) ?_
        refine v_goto (tgt := 231) K dX12_twoOf_227 (by decide) ?_
        exact v_iret K rfl dX12_twoOf_231 hM
  rcases ite_inv hM with ⟨hx21, hM⟩ | ⟨hx21, hM⟩
  · refine v_tabI K dX12_twoOf_1 (k := (55 : Int32)) hx21 (by decide) (by decide) (off := 217) (by decide) (tgt := 218) (by decide) ?_
    refine v_iload_n K dX12_twoOf_218 1 rfl ?_
    refine v_if_ne K 226 dX12_twoOf_219 (by decide) hM (fun hM => ?_) (fun hM => ?_)
    · refine v_iconst (v := (1 : Int32)) K dX12_twoOf_226 (by decide) ?_
      refine v_goto (tgt := 231) K dX12_twoOf_227 (by decide) ?_
      exact v_iret K rfl dX12_twoOf_231 hM
    · refine v_iload_n K dX12_twoOf_222 2 rfl ?_
      refine v_if_eq K 230 dX12_twoOf_223 (by decide) hM (fun hM => ?_) (fun hM => ?_)
      · refine v_iconst (v := (0 : Int32)) K dX12_twoOf_230 (by decide) ?_
        exact v_iret K rfl dX12_twoOf_231 hM
      · refine v_iconst (v := (1 : Int32)) K dX12_twoOf_226 (by decide) ?_
        refine v_goto (tgt := 231) K dX12_twoOf_227 (by decide) ?_
        exact v_iret K rfl dX12_twoOf_231 hM
  rcases ite_inv hM with ⟨hx22, hM⟩ | ⟨hx22, hM⟩
  · refine v_tabI K dX12_twoOf_1 (k := (56 : Int32)) hx22 (by decide) (by decide) (off := 217) (by decide) (tgt := 218) (by decide) ?_
    refine v_iload_n K dX12_twoOf_218 1 rfl ?_
    refine v_if_ne K 226 dX12_twoOf_219 (by decide) hM (fun hM => ?_) (fun hM => ?_)
    · refine v_iconst (v := (1 : Int32)) K dX12_twoOf_226 (by decide) ?_
      refine v_goto (tgt := 231) K dX12_twoOf_227 (by decide) ?_
      exact v_iret K rfl dX12_twoOf_231 hM
    · refine v_iload_n K dX12_twoOf_222 2 rfl ?_
      refine v_if_eq K 230 dX12_twoOf_223 (by decide) hM (fun hM => ?_) (fun hM => ?_)
      · refine v_iconst (v := (0 : Int32)) K dX12_twoOf_230 (by decide) ?_
        exact v_iret K rfl dX12_twoOf_231 hM
      · refine v_iconst (v := (1 : Int32)) K dX12_twoOf_226 (by decide) ?_
        refine v_goto (tgt := 231) K dX12_twoOf_227 (by decide) ?_
        exact v_iret K rfl dX12_twoOf_231 hM
  rcases ite_inv hM with ⟨hx23, hM⟩ | ⟨hx23, hM⟩
  · refine v_tabI K dX12_twoOf_1 (k := (57 : Int32)) hx23 (by decide) (by decide) (off := 217) (by decide) (tgt := 218) (by decide) ?_
    refine v_iload_n K dX12_twoOf_218 1 rfl ?_
    refine v_if_ne K 226 dX12_twoOf_219 (by decide) hM (fun hM => ?_) (fun hM => ?_)
    · refine v_iconst (v := (1 : Int32)) K dX12_twoOf_226 (by decide) ?_
      refine v_goto (tgt := 231) K dX12_twoOf_227 (by decide) ?_
      exact v_iret K rfl dX12_twoOf_231 hM
    · refine v_iload_n K dX12_twoOf_222 2 rfl ?_
      refine v_if_eq K 230 dX12_twoOf_223 (by decide) hM (fun hM => ?_) (fun hM => ?_)
      · refine v_iconst (v := (0 : Int32)) K dX12_twoOf_230 (by decide) ?_
        exact v_iret K rfl dX12_twoOf_231 hM
      · refine v_iconst (v := (1 : Int32)) K dX12_twoOf_226 (by decide) ?_
        refine v_goto (tgt := 231) K dX12_twoOf_227 (by decide) ?_
        exact v_iret K rfl dX12_twoOf_231 hM
  rcases ite_inv hM with ⟨hx24, hM⟩ | ⟨hx24, hM⟩
  · refine v_tabI K dX12_twoOf_1 (k := (58 : Int32)) hx24 (by decide) (by decide) (off := 217) (by decide) (tgt := 218) (by decide) ?_
    refine v_iload_n K dX12_twoOf_218 1 rfl ?_
    refine v_if_ne K 226 dX12_twoOf_219 (by decide) hM (fun hM => ?_) (fun hM => ?_)
    · refine v_iconst (v := (1 : Int32)) K dX12_twoOf_226 (by decide) ?_
      refine v_goto (tgt := 231) K dX12_twoOf_227 (by decide) ?_
      exact v_iret K rfl dX12_twoOf_231 hM
    · refine v_iload_n K dX12_twoOf_222 2 rfl ?_
      refine v_if_eq K 230 dX12_twoOf_223 (by decide) hM (fun hM => ?_) (fun hM => ?_)
      · refine v_iconst (v := (0 : Int32)) K dX12_twoOf_230 (by decide) ?_
        exact v_iret K rfl dX12_twoOf_231 hM
      · refine v_iconst (v := (1 : Int32)) K dX12_twoOf_226 (by decide) ?_
        refine v_goto (tgt := 231) K dX12_twoOf_227 (by decide) ?_
        exact v_iret K rfl dX12_twoOf_231 hM
  rcases ite_inv hM with ⟨hx25, hM⟩ | ⟨hx25, hM⟩
  · refine v_tabI K dX12_twoOf_1 (k := (59 : Int32)) hx25 (by decide) (by decide) (off := 217) (by decide) (tgt := 218) (by decide) ?_
    refine v_iload_n K dX12_twoOf_218 1 rfl ?_
    refine v_if_ne K 226 dX12_twoOf_219 (by decide) hM (fun hM => ?_) (fun hM => ?_)
    · refine v_iconst (v := (1 : Int32)) K dX12_twoOf_226 (by decide) ?_
      refine v_goto (tgt := 231) K dX12_twoOf_227 (by decide) ?_
      exact v_iret K rfl dX12_twoOf_231 hM
    · refine v_iload_n K dX12_twoOf_222 2 rfl ?_
      refine v_if_eq K 230 dX12_twoOf_223 (by decide) hM (fun hM => ?_) (fun hM => ?_)
      · refine v_iconst (v := (0 : Int32)) K dX12_twoOf_230 (by decide) ?_
        exact v_iret K rfl dX12_twoOf_231 hM
      · refine v_iconst (v := (1 : Int32)) K dX12_twoOf_226 (by decide) ?_
        refine v_goto (tgt := 231) K dX12_twoOf_227 (by decide) ?_
        exact v_iret K rfl dX12_twoOf_231 hM
  rcases ite_inv hM with ⟨hx26, hM⟩ | ⟨hx26, hM⟩
  · refine v_tabI K dX12_twoOf_1 (k := (60 : Int32)) hx26 (by decide) (by decide) (off := 170) (by decide) (tgt := 171) (by decide) ?_
    refine v_iload_n K dX12_twoOf_171 1 rfl ?_
    refine v_iload_n K dX12_twoOf_172 2 rfl ?_
    refine v_icmp_ge K 180 dX12_twoOf_173 (by decide) hM (fun hM => ?_) (fun hM => ?_)
    · refine v_iconst (v := (0 : Int32)) K dX12_twoOf_180 (by decide) ?_
      exact v_iret K rfl dX12_twoOf_181 hM
    · refine v_iconst (v := (1 : Int32)) K dX12_twoOf_176 (by decide) ?_
      refine v_goto (tgt := 181) K dX12_twoOf_177 (by decide) ?_
      exact v_iret K rfl dX12_twoOf_181 hM
  rcases ite_inv hM with ⟨hx27, hM⟩ | ⟨hx27, hM⟩
  · refine v_tabI K dX12_twoOf_1 (k := (61 : Int32)) hx27 (by decide) (by decide) (off := 181) (by decide) (tgt := 182) (by decide) ?_
    refine v_iload_n K dX12_twoOf_182 1 rfl ?_
    refine v_iload_n K dX12_twoOf_183 2 rfl ?_
    refine v_icmp_ne K 191 dX12_twoOf_184 (by decide) hM (fun hM => ?_) (fun hM => ?_)
    · refine v_iconst (v := (0 : Int32)) K dX12_twoOf_191 (by decide) ?_
      exact v_iret K rfl dX12_twoOf_192 hM
    · refine v_iconst (v := (1 : Int32)) K dX12_twoOf_187 (by decide) ?_
      refine v_goto (tgt := 192) K dX12_twoOf_188 (by decide) ?_
      exact v_iret K rfl dX12_twoOf_192 hM
  rcases ite_inv hM with ⟨hx28, hM⟩ | ⟨hx28, hM⟩
  · refine v_tabI K dX12_twoOf_1 (k := (62 : Int32)) hx28 (by decide) (by decide) (off := 192) (by decide) (tgt := 193) (by decide) ?_
    refine v_iload_n K dX12_twoOf_193 1 rfl ?_
    refine v_iload_n K dX12_twoOf_194 2 rfl ?_
    refine v_icmp_le K 202 dX12_twoOf_195 (by decide) hM (fun hM => ?_) (fun hM => ?_)
    · refine v_iconst (v := (0 : Int32)) K dX12_twoOf_202 (by decide) ?_
      exact v_iret K rfl dX12_twoOf_203 hM
    · refine v_iconst (v := (1 : Int32)) K dX12_twoOf_198 (by decide) ?_
      refine v_goto (tgt := 203) K dX12_twoOf_199 (by decide) ?_
      exact v_iret K rfl dX12_twoOf_203 hM
  refine v_tabO K dX12_twoOf_1 (by have a0 : p0.toInt ≠ 37 := ne_toInt hx2; have a1 : p0.toInt ≠ 38 := ne_toInt hx3; have a2 : p0.toInt ≠ 39 := ne_toInt hx4; have a3 : p0.toInt ≠ 40 := ne_toInt hx5; have a4 : p0.toInt ≠ 41 := ne_toInt hx6; have a5 : p0.toInt ≠ 42 := ne_toInt hx7; have a6 : p0.toInt ≠ 43 := ne_toInt hx8; have a7 : p0.toInt ≠ 44 := ne_toInt hx9; have a8 : p0.toInt ≠ 45 := ne_toInt hx10; have a9 : p0.toInt ≠ 46 := ne_toInt hx11; have a10 : p0.toInt ≠ 47 := ne_toInt hx13; have a11 : p0.toInt ≠ 48 := ne_toInt hx14; have a12 : p0.toInt ≠ 49 := ne_toInt hx15; have a13 : p0.toInt ≠ 50 := ne_toInt hx16; have a14 : p0.toInt ≠ 51 := ne_toInt hx17; have a15 : p0.toInt ≠ 52 := ne_toInt hx18; have a16 : p0.toInt ≠ 53 := ne_toInt hx19; have a17 : p0.toInt ≠ 54 := ne_toInt hx20; have a18 : p0.toInt ≠ 55 := ne_toInt hx21; have a19 : p0.toInt ≠ 56 := ne_toInt hx22; have a20 : p0.toInt ≠ 57 := ne_toInt hx23; have a21 : p0.toInt ≠ 58 := ne_toInt hx24; have a22 : p0.toInt ≠ 59 := ne_toInt hx25; have a23 : p0.toInt ≠ 60 := ne_toInt hx26; have a24 : p0.toInt ≠ 61 := ne_toInt hx27; have a25 : p0.toInt ≠ 62 := ne_toInt hx28; omega) (tgt := 218) (by decide) ?_
  refine v_iload_n K dX12_twoOf_218 1 rfl ?_
  refine v_if_ne K 226 dX12_twoOf_219 (by decide) hM (fun hM => ?_) (fun hM => ?_)
  · refine v_iconst (v := (1 : Int32)) K dX12_twoOf_226 (by decide) ?_
    refine v_goto (tgt := 231) K dX12_twoOf_227 (by decide) ?_
    exact v_iret K rfl dX12_twoOf_231 hM
  · refine v_iload_n K dX12_twoOf_222 2 rfl ?_
    refine v_if_eq K 230 dX12_twoOf_223 (by decide) hM (fun hM => ?_) (fun hM => ?_)
    · refine v_iconst (v := (0 : Int32)) K dX12_twoOf_230 (by decide) ?_
      exact v_iret K rfl dX12_twoOf_231 hM
    · refine v_iconst (v := (1 : Int32)) K dX12_twoOf_226 (by decide) ?_
      refine v_goto (tgt := 231) K dX12_twoOf_227 (by decide) ?_
      exact v_iret K rfl dX12_twoOf_231 hM
noncomputable def B_X12_worked_1 (J : Nat → Int32 → Int32 → Int32 → Int32 → Int32 → St → Option (Int32 × St)) (n : Nat)  (l1 : Int32) (l3 : Int32) (l4 : Int32) (l5 : Int32) (σ : St) : Option (Int32 × St) := if (((130 : Int32) * l1) + l3) ≤ l5 then (gd (vp_in (0 : Int32) 130) (some ((gI σ 16 ((0 : Int32)).toNatClampNeg), σ))) else (gd (vp_in l5 260) (bnd (gI σ 10 (l5).toNatClampNeg) fun x2 => if x2 = (1 : Int32) then (J 2 l1 l3 l4 l5 x2 σ) else (if x2 = (2 : Int32) then (J 2 l1 l3 l4 l5 x2 σ) else (if x2 = (3 : Int32) then (gd (vp_in (l4 - (1 : Int32)) 130) (if (gI σ 16 ((l4 - (1 : Int32))).toNatClampNeg) = 0 then (gd (vp_in (l4 - (1 : Int32)) 130) (bnd (sI σ 16 ((l4 - (1 : Int32))).toNatClampNeg (1 : Int32)) fun s12 => bnd (l5 + (1 : Int32)) fun x13 => J 1 l1 l3 l4 x13 0 s12)) else (gd (vp_in (l4 - (1 : Int32)) 130) (bnd (sI σ 16 ((l4 - (1 : Int32))).toNatClampNeg (0 : Int32)) fun s10 => bnd (l5 + (1 : Int32)) fun x11 => J 1 l1 l3 l4 x11 0 s10)))) else (if x2 = (4 : Int32) then (gd (vp_in (l4 - (1 : Int32)) 130) (gd (vp_in (l4 - (1 : Int32)) 130) (bnd (sI σ 16 ((l4 - (1 : Int32))).toNatClampNeg (-(gI σ 16 ((l4 - (1 : Int32))).toNatClampNeg))) fun s8 => bnd (l5 + (1 : Int32)) fun x9 => J 1 l1 l3 l4 x9 0 s8))) else (bnd (l4 + (-1 : Int32)) fun x3 => gd (vp_in (x3 - (1 : Int32)) 130) (gd (vp_in x3 130) (bd (F_X12_twoOf n x2 (gI σ 16 ((x3 - (1 : Int32))).toNatClampNeg) (gI σ 16 (x3).toNatClampNeg) σ) fun r5 s4 => gd (vp_in (x3 - (1 : Int32)) 130) (bnd (sI s4 16 ((x3 - (1 : Int32))).toNatClampNeg r5) fun s6 => bnd (l5 + (1 : Int32)) fun x7 => J 1 l1 l3 x3 x7 0 s6)))))))))
noncomputable def B_X12_worked_2 (J : Nat → Int32 → Int32 → Int32 → Int32 → Int32 → St → Option (Int32 × St)) (n : Nat)  (l1 : Int32) (l3 : Int32) (l4 : Int32) (l5 : Int32) (l6 : Int32) (σ : St) : Option (Int32 × St) := if l6 = (1 : Int32) then (gd (vp_in l5 260) (gd (vp_in l4 130) (bnd (sI σ 16 (l4).toNatClampNeg (gI σ 11 (l5).toNatClampNeg)) fun s17 => bnd (l4 + (1 : Int32)) fun x18 => bnd (l5 + (1 : Int32)) fun x19 => J 1 l1 l3 x18 x19 0 s17))) else (gd (vp_in l5 260) (gd (vp_in (gI σ 11 (l5).toNatClampNeg) 6) (gd (vp_in l4 130) (bnd (sI σ 16 (l4).toNatClampNeg (gI σ 15 ((gI σ 11 (l5).toNatClampNeg)).toNatClampNeg)) fun s14 => bnd (l4 + (1 : Int32)) fun x15 => bnd (l5 + (1 : Int32)) fun x16 => J 1 l1 l3 x15 x16 0 s14))))
noncomputable def S_X12_worked  (n : Nat) (J : Nat → Int32 → Int32 → Int32 → Int32 → Int32 → St → Option (Int32 × St)) : Nat → Int32 → Int32 → Int32 → Int32 → Int32 → St → Option (Int32 × St) := fun lb a0 a1 a2 a3 a4 σ => match lb with
  | 1 => B_X12_worked_1 J n  a0 a1 a2 a3 σ
  | 2 => B_X12_worked_2 J n  a0 a1 a2 a3 a4 σ
  | _ => none
noncomputable def L_X12_worked  (n : Nat) : Nat → Int32 → Int32 → Int32 → Int32 → Int32 → St → Option (Int32 × St) := Nat.rec (fun _ _ _ _ _ _ _ => none) (fun n J => S_X12_worked  n J) n
noncomputable def F_X12_worked (n : Nat) (p1 : Int32) (p2 : Int32) (p3 : Int32) (σ : St) : Option (Int32 × St) := bnd (((130 : Int32) * p1) + p2) fun x1 => L_X12_worked  n 1 p1 p3 (0 : Int32) x1 0 σ
set_option maxHeartbeats 4000000 in
set_option maxRecDepth 20000 in
theorem t_X12_worked (l : Launch) {p : Program} {e : Env} {s : State} {m : MethodId} {args : Array Value} {below : List Frame} {meth : Method} {c : Code} {D : va_G} {A : Nat → Prop} {ad : Nat → Nat} {dA : Nat → ClassId}   (K : Cx p s m args meth c cX12_worked 7 (some .int) RX12 D (tysR dA) (wdR ad dA) A) {res : Int32 × St} (n : Nat) : (∀ (l1 : Int32) (l3 : Int32) (l4 : Int32) (l5 : Int32) (σ : St), L_X12_worked  n 1 l1 l3 l4 l5 0 σ = some res → V p l e (rmH 2) s m args below meth c 7 D (wdR ad dA) A (MQ below (QI D (wdR ad dA) A res) args s 0 0 A) 12 [(0, .ref (ad 0)), (1, .int l1), (3, .int l3), (4, .int l4), (5, .int l5)] [] σ) ∧ (∀ (l1 : Int32) (l3 : Int32) (l4 : Int32) (l5 : Int32) (l6 : Int32) (σ : St), L_X12_worked  n 2 l1 l3 l4 l5 l6 σ = some res → V p l e (rmH 2) s m args below meth c 7 D (wdR ad dA) A (MQ below (QI D (wdR ad dA) A res) args s 0 0 A) 45 [(0, .ref (ad 0)), (1, .int l1), (3, .int l3), (4, .int l4), (5, .int l5), (6, .int l6)] [] σ) := by
  induction n with
  | zero => exact ⟨fun _ _ _ _ _ h => (by cases h), fun _ _ _ _ _ _ h => (by cases h)⟩
  | succ n ih =>
    obtain ⟨ih_1, ih_2⟩ := ih
    refine ⟨?_, ?_⟩
    · intro l1 l3 l4 l5 σ hM
      have hM : B_X12_worked_1 (L_X12_worked  n) n  l1 l3 l4 l5 σ = some res := hM
      refine v_iload K dX12_worked_12 4 rfl ?_
      refine v_sipush (v := (130 : Int32)) K dX12_worked_14 (by decide) ?_
      refine v_iload_n K dX12_worked_17 1 rfl ?_
      refine v_imul K dX12_worked_18 ?_
      refine v_iload_n K dX12_worked_19 2 rfl ?_
      refine v_iadd K dX12_worked_20 ?_
      refine v_icmp_ge K 188 dX12_worked_21 (by decide) hM (fun hM => ?_) (fun hM => ?_)
      · refine v_aload_n K dX12_worked_188 0 rfl ?_
        refine g_X12_24 K qf_X12_59 dX12_worked_189 ?_
        refine v_iconst (v := (0 : Int32)) K dX12_worked_192 (by decide) ?_
        refine ld_R16 K dX12_worked_193 hM (fun hM => ?_)
        exact v_iret K rfl dX12_worked_194 hM
      · refine v_aload_n K dX12_worked_24 0 rfl ?_
        refine g_X12_18 K qf_X12_40 dX12_worked_25 ?_
        refine v_iload K dX12_worked_28 4 rfl ?_
        refine ld_R10 K dX12_worked_30 hM (fun hM => ?_)
        refine v_topi hM (fun x2 hM => ?_)
        refine v_istore K dX12_worked_31 (by decide) [(6, .int x2), (0, .ref (ad 0)), (1, .int l1), (3, .int l3), (4, .int l4), (5, .int l5)] rfl ?_
        refine v_iload K dX12_worked_33 0 rfl ?_
        refine v_iconst (v := (1 : Int32)) K dX12_worked_35 (by decide) ?_
        refine v_icmp_eq K 45 dX12_worked_36 (by decide) hM (fun hM => ?_) (fun hM => ?_)
        · exact v_sub [1, 2, 3, 4, 5, 0] rfl (ih_2 l1 l3 l4 l5 x2 σ hM)
        · refine v_iload K dX12_worked_39 0 rfl ?_
          refine v_iconst (v := (2 : Int32)) K dX12_worked_41 (by decide) ?_
          refine v_icmp_ne K 86 dX12_worked_42 (by decide) hM (fun hM => ?_) (fun hM => ?_)
          · refine v_iload K dX12_worked_86 0 rfl ?_
            refine v_iconst (v := (3 : Int32)) K dX12_worked_88 (by decide) ?_
            refine v_icmp_ne K 121 dX12_worked_89 (by decide) hM (fun hM => ?_) (fun hM => ?_)
            · refine v_iload K dX12_worked_121 0 rfl ?_
              refine v_iconst (v := (4 : Int32)) K dX12_worked_123 (by decide) ?_
              refine v_icmp_ne K 149 dX12_worked_124 (by decide) hM (fun hM => ?_) (fun hM => ?_)
              · refine v_iinc K dX12_worked_149 4 rfl (v := (l4 + (-1 : Int32))) rfl (by decide) hM (fun y => [(4, .int y), (6, .int x2), (0, .ref (ad 0)), (1, .int l1), (3, .int l3), (5, .int l5)]) (fun _ => rfl) (fun x3 hM => ?_)
                refine v_aload_n K dX12_worked_152 2 rfl ?_
                refine g_X12_24 K qf_X12_59 dX12_worked_153 ?_
                refine v_iload K dX12_worked_156 0 rfl ?_
                refine v_iconst (v := (1 : Int32)) K dX12_worked_158 (by decide) ?_
                refine v_isub K dX12_worked_159 ?_
                refine v_iload K dX12_worked_160 1 rfl ?_
                refine v_aload_n K dX12_worked_162 2 rfl ?_
                refine g_X12_24 K qf_X12_59 dX12_worked_163 ?_
                refine v_iload K dX12_worked_166 0 rfl ?_
                refine v_iconst (v := (1 : Int32)) K dX12_worked_168 (by decide) ?_
                refine v_isub K dX12_worked_169 ?_
                refine ld_R16 K dX12_worked_170 hM (fun hM => ?_)
                refine v_aload_n K dX12_worked_171 2 rfl ?_
                refine g_X12_24 K qf_X12_59 dX12_worked_172 ?_
                refine v_iload K dX12_worked_175 0 rfl ?_
                refine ld_R16 K dX12_worked_177 hM (fun hM => ?_)
                refine x_Si (As := [.int x2, .int (gI σ 16 ((x3 - (1 : Int32))).toNatClampNeg), .int (gI σ 16 (x3).toNatClampNeg)]) (st := [.int (x3 - (1 : Int32)), .ref (ad 16)]) K us_X12_twoOf qm_X12_222 dX12_worked_178 (fun _ h => c_X12_twoOf l  n x2 (gI σ 16 ((x3 - (1 : Int32))).toNatClampNeg) (gI σ 16 (x3).toNatClampNeg) σ h) rfl ⟨(Nat.le_of_ble_eq_true rfl), (Nat.le_of_ble_eq_true rfl)⟩ (Nat.le_of_ble_eq_true rfl) hM (fun r5 s4 hM => ?_)
                refine st_R16 K dX12_worked_181 hM (fun s6 hM => ?_)
                refine v_iinc K dX12_worked_182 5 rfl (v := (l5 + (1 : Int32))) rfl (by decide) hM (fun y => [(5, .int y), (4, .int x3), (6, .int x2), (0, .ref (ad 0)), (1, .int l1), (3, .int l3)]) (fun _ => rfl) (fun x7 hM => ?_)
                refine v_goto (tgt := 12) K dX12_worked_185 (by decide) ?_
                exact v_sub [3, 4, 5, 1, 0] rfl (ih_1 l1 l3 x3 x7 s6 hM)
              · refine v_aload_n K dX12_worked_127 1 rfl ?_
                refine g_X12_24 K qf_X12_59 dX12_worked_128 ?_
                refine v_iload K dX12_worked_131 4 rfl ?_
                refine v_iconst (v := (1 : Int32)) K dX12_worked_133 (by decide) ?_
                refine v_isub K dX12_worked_134 ?_
                refine v_aload_n K dX12_worked_135 1 rfl ?_
                refine g_X12_24 K qf_X12_59 dX12_worked_136 ?_
                refine v_iload K dX12_worked_139 4 rfl ?_
                refine v_iconst (v := (1 : Int32)) K dX12_worked_141 (by decide) ?_
                refine v_isub K dX12_worked_142 ?_
                refine ld_R16 K dX12_worked_143 hM (fun hM => ?_)
                refine v_ineg K dX12_worked_144 ?_
                refine st_R16 K dX12_worked_145 hM (fun s8 hM => ?_)
                refine v_goto (tgt := 182) K dX12_worked_146 (by decide) ?_
                refine v_iinc K dX12_worked_182 5 rfl (v := (l5 + (1 : Int32))) rfl (by decide) hM (fun y => [(5, .int y), (6, .int x2), (0, .ref (ad 0)), (1, .int l1), (3, .int l3), (4, .int l4)]) (fun _ => rfl) (fun x9 hM => ?_)
                refine v_goto (tgt := 12) K dX12_worked_185 (by decide) ?_
                exact v_sub [2, 3, 4, 5, 0] rfl (ih_1 l1 l3 l4 x9 s8 hM)
            · refine v_aload_n K dX12_worked_92 1 rfl ?_
              refine g_X12_24 K qf_X12_59 dX12_worked_93 ?_
              refine v_iload K dX12_worked_96 4 rfl ?_
              refine v_iconst (v := (1 : Int32)) K dX12_worked_98 (by decide) ?_
              refine v_isub K dX12_worked_99 ?_
              refine v_aload_n K dX12_worked_100 1 rfl ?_
              refine g_X12_24 K qf_X12_59 dX12_worked_101 ?_
              refine v_iload K dX12_worked_104 4 rfl ?_
              refine v_iconst (v := (1 : Int32)) K dX12_worked_106 (by decide) ?_
              refine v_isub K dX12_worked_107 ?_
              refine ld_R16 K dX12_worked_108 hM (fun hM => ?_)
              refine v_if_ne K 116 dX12_worked_109 (by decide) hM (fun hM => ?_) (fun hM => ?_)
              · refine v_iconst (v := (0 : Int32)) K dX12_worked_116 (by decide) ?_
                refine st_R16 K dX12_worked_117 hM (fun s10 hM => ?_)
                refine v_goto (tgt := 182) K dX12_worked_118 (by decide) ?_
                refine v_iinc K dX12_worked_182 5 rfl (v := (l5 + (1 : Int32))) rfl (by decide) hM (fun y => [(5, .int y), (6, .int x2), (0, .ref (ad 0)), (1, .int l1), (3, .int l3), (4, .int l4)]) (fun _ => rfl) (fun x11 hM => ?_)
                refine v_goto (tgt := 12) K dX12_worked_185 (by decide) ?_
                exact v_sub [2, 3, 4, 5, 0] rfl (ih_1 l1 l3 l4 x11 s10 hM)
              · refine v_iconst (v := (1 : Int32)) K dX12_worked_112 (by decide) ?_
                refine v_goto (tgt := 117) K dX12_worked_113 (by decide) ?_
                refine st_R16 K dX12_worked_117 hM (fun s12 hM => ?_)
                refine v_goto (tgt := 182) K dX12_worked_118 (by decide) ?_
                refine v_iinc K dX12_worked_182 5 rfl (v := (l5 + (1 : Int32))) rfl (by decide) hM (fun y => [(5, .int y), (6, .int x2), (0, .ref (ad 0)), (1, .int l1), (3, .int l3), (4, .int l4)]) (fun _ => rfl) (fun x13 hM => ?_)
                refine v_goto (tgt := 12) K dX12_worked_185 (by decide) ?_
                exact v_sub [2, 3, 4, 5, 0] rfl (ih_1 l1 l3 l4 x13 s12 hM)
          · exact v_sub [1, 2, 3, 4, 5, 0] rfl (ih_2 l1 l3 l4 l5 x2 σ hM)
    · intro l1 l3 l4 l5 l6 σ hM
      have hM : B_X12_worked_2 (L_X12_worked  n) n  l1 l3 l4 l5 l6 σ = some res := hM
      refine v_aload_n K dX12_worked_45 0 rfl ?_
      refine g_X12_24 K qf_X12_59 dX12_worked_46 ?_
      refine v_iload K dX12_worked_49 3 rfl ?_
      refine v_iload K dX12_worked_51 5 rfl ?_
      refine v_iconst (v := (1 : Int32)) K dX12_worked_53 (by decide) ?_
      refine v_icmp_ne K 67 dX12_worked_54 (by decide) hM (fun hM => ?_) (fun hM => ?_)
      · refine v_aload_n K dX12_worked_67 0 rfl ?_
        refine g_X12_23 K qf_X12_56 dX12_worked_68 ?_
        refine v_aload_n K dX12_worked_71 0 rfl ?_
        refine g_X12_19 K qf_X12_43 dX12_worked_72 ?_
        refine v_iload K dX12_worked_75 4 rfl ?_
        refine ld_R11 K dX12_worked_77 hM (fun hM => ?_)
        refine ld_R15 K dX12_worked_78 hM (fun hM => ?_)
        refine st_R16 K dX12_worked_79 hM (fun s14 hM => ?_)
        refine v_iinc K dX12_worked_80 3 rfl (v := (l4 + (1 : Int32))) rfl (by decide) hM (fun y => [(4, .int y), (0, .ref (ad 0)), (1, .int l1), (3, .int l3), (5, .int l5), (6, .int l6)]) (fun _ => rfl) (fun x15 hM => ?_)
        refine v_goto (tgt := 182) K dX12_worked_83 (by decide) ?_
        refine v_iinc K dX12_worked_182 4 rfl (v := (l5 + (1 : Int32))) rfl (by decide) hM (fun y => [(5, .int y), (4, .int x15), (0, .ref (ad 0)), (1, .int l1), (3, .int l3), (6, .int l6)]) (fun _ => rfl) (fun x16 hM => ?_)
        refine v_goto (tgt := 12) K dX12_worked_185 (by decide) ?_
        exact v_sub [2, 3, 4, 1, 0] rfl (ih_1 l1 l3 x15 x16 s14 hM)
      · refine v_aload_n K dX12_worked_57 0 rfl ?_
        refine g_X12_19 K qf_X12_43 dX12_worked_58 ?_
        refine v_iload K dX12_worked_61 4 rfl ?_
        refine ld_R11 K dX12_worked_63 hM (fun hM => ?_)
        refine v_goto (tgt := 79) K dX12_worked_64 (by decide) ?_
        refine st_R16 K dX12_worked_79 hM (fun s17 hM => ?_)
        refine v_iinc K dX12_worked_80 3 rfl (v := (l4 + (1 : Int32))) rfl (by decide) hM (fun y => [(4, .int y), (0, .ref (ad 0)), (1, .int l1), (3, .int l3), (5, .int l5), (6, .int l6)]) (fun _ => rfl) (fun x18 hM => ?_)
        refine v_goto (tgt := 182) K dX12_worked_83 (by decide) ?_
        refine v_iinc K dX12_worked_182 4 rfl (v := (l5 + (1 : Int32))) rfl (by decide) hM (fun y => [(5, .int y), (4, .int x18), (0, .ref (ad 0)), (1, .int l1), (3, .int l3), (6, .int l6)]) (fun _ => rfl) (fun x19 hM => ?_)
        refine v_goto (tgt := 12) K dX12_worked_185 (by decide) ?_
        exact v_sub [2, 3, 4, 1, 0] rfl (ih_1 l1 l3 x18 x19 s17 hM)
set_option maxHeartbeats 4000000 in
set_option maxRecDepth 20000 in
theorem c_X12_worked (l : Launch) {D : va_G} {A : Nat → Prop} {ad : Nat → Nat} {dA : Nat → ClassId}  (n : Nat) (p1 : Int32) (p2 : Int32) (p3 : Int32) (σ : St) {res : Int32 × St} (hM : F_X12_worked n p1 p2 p3 σ = some res) : MI l yX12_worked cX12_worked 7 (some .int) 2 D (tysR dA) (wdR ad dA) A [.ref (ad 0), .int p1, .int p2, .int p3] σ (QI D (wdR ad dA) A res) := by
  refine mk_met (by decide +kernel) (Nat.le_of_ble_eq_true rfl) (fun p e s m below meth c K => ?_)
  have K : Cx p s m _ meth c cX12_worked 7 (some .int) RX12 D (tysR dA) (wdR ad dA) A := K
  obtain ⟨ih_1, ih_2⟩ := t_X12_worked l    K (res := res) n (below := below) (e := e)
  refine v_iconst (v := (0 : Int32)) K dX12_worked_0 (by decide) ?_
  refine v_istore K dX12_worked_1 (by decide) [(4, .int (0 : Int32)), (0, .ref (ad 0)), (1, .int p1), (2, .int p2), (3, .int p3)] rfl ?_
  refine v_sipush (v := (130 : Int32)) K dX12_worked_3 (by decide) ?_
  refine v_iload_n K dX12_worked_6 2 rfl ?_
  refine v_imul K dX12_worked_7 ?_
  refine v_iload_n K dX12_worked_8 3 rfl ?_
  refine v_iadd K dX12_worked_9 ?_
  refine v_topi hM (fun x1 hM => ?_)
  refine v_istore K dX12_worked_10 (by decide) [(5, .int x1), (4, .int (0 : Int32)), (0, .ref (ad 0)), (1, .int p1), (2, .int p2), (3, .int p3)] rfl ?_
  exact v_sub [2, 3, 5, 1, 0] rfl (ih_1 p1 p3 (0 : Int32) x1 σ hM)
noncomputable def B_X12_gives_1 (J : Nat → Int32 → Int32 → Int32 → St → Option (Int32 × St)) (n : Nat)  (l1 : Int32) (l2 : Int32) (l3 : Int32) (σ : St) : Option (Int32 × St) := gd (vp_in l1 2) (if (((61 : Int32) * l1) + (gI σ 12 (l1).toNatClampNeg)) ≤ l3 then (some ((0 : Int32), σ)) else (gd (vp_in l3 122) (if (gI σ 13 (l3).toNatClampNeg) = l2 then (J 2 l1 l3 0 σ) else (gd (vp_in l3 122) (bd (F_X12_worked n l1 l2 (gI σ 13 (l3).toNatClampNeg) σ) fun r3 s2 => if r3 = 0 then (gd (vp_in l3 122) (bnd (gI s2 14 (l3).toNatClampNeg) fun x4 => bnd (l3 + (1 : Int32)) fun x5 => J 1 l1 x4 x5 s2)) else (J 2 l1 l3 0 s2))))))
noncomputable def B_X12_gives_2 (J : Nat → Int32 → Int32 → Int32 → St → Option (Int32 × St)) (n : Nat)  (l1 : Int32) (l3 : Int32) (σ : St) : Option (Int32 × St) := gd (vp_in l3 122) (gd (vp_in l3 122) (bd (F_X12_worked n l1 (gI σ 13 (l3).toNatClampNeg) (gI σ 14 (l3).toNatClampNeg) σ) fun r7 s6 => some (r7, s6)))
noncomputable def S_X12_gives  (n : Nat) (J : Nat → Int32 → Int32 → Int32 → St → Option (Int32 × St)) : Nat → Int32 → Int32 → Int32 → St → Option (Int32 × St) := fun lb a0 a1 a2 σ => match lb with
  | 1 => B_X12_gives_1 J n  a0 a1 a2 σ
  | 2 => B_X12_gives_2 J n  a0 a1 σ
  | _ => none
noncomputable def L_X12_gives  (n : Nat) : Nat → Int32 → Int32 → Int32 → St → Option (Int32 × St) := Nat.rec (fun _ _ _ _ _ => none) (fun n J => S_X12_gives  n J) n
noncomputable def F_X12_gives (n : Nat) (p1 : Int32) (σ : St) : Option (Int32 × St) := bnd ((61 : Int32) * p1) fun x1 => L_X12_gives  n 1 p1 (0 : Int32) x1 σ
set_option maxHeartbeats 4000000 in
set_option maxRecDepth 20000 in
theorem t_X12_gives (l : Launch) {p : Program} {e : Env} {s : State} {m : MethodId} {args : Array Value} {below : List Frame} {meth : Method} {c : Code} {D : va_G} {A : Nat → Prop} {ad : Nat → Nat} {dA : Nat → ClassId}   (K : Cx p s m args meth c cX12_gives 4 (some .int) RX12 D (tysR dA) (wdR ad dA) A) {res : Int32 × St} (n : Nat) : (∀ (l1 : Int32) (l2 : Int32) (l3 : Int32) (σ : St), L_X12_gives  n 1 l1 l2 l3 σ = some res → V p l e (rmH 3) s m args below meth c 4 D (wdR ad dA) A (MQ below (QI D (wdR ad dA) A res) args s 0 0 A) 7 [(0, .ref (ad 0)), (1, .int l1), (2, .int l2), (3, .int l3)] [] σ) ∧ (∀ (l1 : Int32) (l3 : Int32) (σ : St), L_X12_gives  n 2 l1 l3 0 σ = some res → V p l e (rmH 3) s m args below meth c 4 D (wdR ad dA) A (MQ below (QI D (wdR ad dA) A res) args s 0 0 A) 47 [(0, .ref (ad 0)), (1, .int l1), (3, .int l3)] [] σ) := by
  induction n with
  | zero => exact ⟨fun _ _ _ _ h => (by cases h), fun _ _ _ h => (by cases h)⟩
  | succ n ih =>
    obtain ⟨ih_1, ih_2⟩ := ih
    refine ⟨?_, ?_⟩
    · intro l1 l2 l3 σ hM
      have hM : B_X12_gives_1 (L_X12_gives  n) n  l1 l2 l3 σ = some res := hM
      refine v_iload_n K dX12_gives_7 3 rfl ?_
      refine v_bipush (v := (61 : Int32)) K dX12_gives_8 (by decide) ?_
      refine v_iload_n K dX12_gives_10 1 rfl ?_
      refine v_imul K dX12_gives_11 ?_
      refine v_aload_n K dX12_gives_12 0 rfl ?_
      refine g_X12_20 K qf_X12_46 dX12_gives_13 ?_
      refine v_iload_n K dX12_gives_16 1 rfl ?_
      refine ld_R12 K dX12_gives_17 hM (fun hM => ?_)
      refine v_iadd K dX12_gives_18 ?_
      refine v_icmp_ge K 78 dX12_gives_19 (by decide) hM (fun hM => ?_) (fun hM => ?_)
      · refine v_iconst (v := (0 : Int32)) K dX12_gives_78 (by decide) ?_
        exact v_iret K rfl dX12_gives_79 hM
      · refine v_aload_n K dX12_gives_22 0 rfl ?_
        refine g_X12_21 K qf_X12_49 dX12_gives_23 ?_
        refine v_iload_n K dX12_gives_26 3 rfl ?_
        refine ld_R13 K dX12_gives_27 hM (fun hM => ?_)
        refine v_iload_n K dX12_gives_28 2 rfl ?_
        refine v_icmp_eq K 47 dX12_gives_29 (by decide) hM (fun hM => ?_) (fun hM => ?_)
        · exact v_sub [0, 1, 3] rfl (ih_2 l1 l3 σ hM)
        · refine v_aload_n K dX12_gives_32 0 rfl ?_
          refine v_iload_n K dX12_gives_33 1 rfl ?_
          refine v_iload_n K dX12_gives_34 2 rfl ?_
          refine v_aload_n K dX12_gives_35 0 rfl ?_
          refine g_X12_21 K qf_X12_49 dX12_gives_36 ?_
          refine v_iload_n K dX12_gives_39 3 rfl ?_
          refine ld_R13 K dX12_gives_40 hM (fun hM => ?_)
          refine x_Vi (As := [.int l1, .int l2, .int (gI σ 13 (l3).toNatClampNeg)]) (st := []) K uv_X12_worked qm_X12_225 dX12_gives_41 rv_X12 (fun _ h => c_X12_worked l  n l1 l2 (gI σ 13 (l3).toNatClampNeg) σ h) rfl ⟨(Nat.le_of_ble_eq_true rfl), (Nat.le_of_ble_eq_true rfl)⟩ (Nat.le_of_ble_eq_true rfl) hM (fun r3 s2 hM => ?_)
          refine v_if_eq K 65 dX12_gives_44 (by decide) hM (fun hM => ?_) (fun hM => ?_)
          · refine v_aload_n K dX12_gives_65 0 rfl ?_
            refine g_X12_22 K qf_X12_53 dX12_gives_66 ?_
            refine v_iload_n K dX12_gives_69 3 rfl ?_
            refine ld_R14 K dX12_gives_70 hM (fun hM => ?_)
            refine v_topi hM (fun x4 hM => ?_)
            refine v_istore_n K dX12_gives_71 rfl (by decide) [(2, .int x4), (0, .ref (ad 0)), (1, .int l1), (3, .int l3)] rfl ?_
            refine v_iinc K dX12_gives_72 3 rfl (v := (l3 + (1 : Int32))) rfl (by decide) hM (fun y => [(3, .int y), (2, .int x4), (0, .ref (ad 0)), (1, .int l1)]) (fun _ => rfl) (fun x5 hM => ?_)
            refine v_goto (tgt := 7) K dX12_gives_75 (by decide) ?_
            exact v_sub [2, 3, 1, 0] rfl (ih_1 l1 x4 x5 s2 hM)
          · exact v_sub [0, 1, 3] rfl (ih_2 l1 l3 s2 hM)
    · intro l1 l3 σ hM
      have hM : B_X12_gives_2 (L_X12_gives  n) n  l1 l3 σ = some res := hM
      refine v_aload_n K dX12_gives_47 0 rfl ?_
      refine v_iload_n K dX12_gives_48 1 rfl ?_
      refine v_aload_n K dX12_gives_49 0 rfl ?_
      refine g_X12_21 K qf_X12_49 dX12_gives_50 ?_
      refine v_iload_n K dX12_gives_53 2 rfl ?_
      refine ld_R13 K dX12_gives_54 hM (fun hM => ?_)
      refine v_aload_n K dX12_gives_55 0 rfl ?_
      refine g_X12_22 K qf_X12_53 dX12_gives_56 ?_
      refine v_iload_n K dX12_gives_59 2 rfl ?_
      refine ld_R14 K dX12_gives_60 hM (fun hM => ?_)
      refine x_Vi (As := [.int l1, .int (gI σ 13 (l3).toNatClampNeg), .int (gI σ 14 (l3).toNatClampNeg)]) (st := []) K uv_X12_worked qm_X12_225 dX12_gives_61 rv_X12 (fun _ h => c_X12_worked l  n l1 (gI σ 13 (l3).toNatClampNeg) (gI σ 14 (l3).toNatClampNeg) σ h) rfl ⟨(Nat.le_of_ble_eq_true rfl), (Nat.le_of_ble_eq_true rfl)⟩ (Nat.le_of_ble_eq_true rfl) hM (fun r7 s6 hM => ?_)
      exact v_iret K rfl dX12_gives_64 hM
set_option maxHeartbeats 4000000 in
set_option maxRecDepth 20000 in
theorem c_X12_gives (l : Launch) {D : va_G} {A : Nat → Prop} {ad : Nat → Nat} {dA : Nat → ClassId}  (n : Nat) (p1 : Int32) (σ : St) {res : Int32 × St} (hM : F_X12_gives n p1 σ = some res) : MI l yX12_gives cX12_gives 4 (some .int) 3 D (tysR dA) (wdR ad dA) A [.ref (ad 0), .int p1] σ (QI D (wdR ad dA) A res) := by
  refine mk_met (by decide +kernel) (Nat.le_of_ble_eq_true rfl) (fun p e s m below meth c K => ?_)
  have K : Cx p s m _ meth c cX12_gives 4 (some .int) RX12 D (tysR dA) (wdR ad dA) A := K
  obtain ⟨ih_1, ih_2⟩ := t_X12_gives l    K (res := res) n (below := below) (e := e)
  refine v_iconst (v := (0 : Int32)) K dX12_gives_0 (by decide) ?_
  refine v_istore_n K dX12_gives_1 rfl (by decide) [(2, .int (0 : Int32)), (0, .ref (ad 0)), (1, .int p1)] rfl ?_
  refine v_bipush (v := (61 : Int32)) K dX12_gives_2 (by decide) ?_
  refine v_iload_n K dX12_gives_4 2 rfl ?_
  refine v_imul K dX12_gives_5 ?_
  refine v_topi hM (fun x1 hM => ?_)
  refine v_istore_n K dX12_gives_6 rfl (by decide) [(3, .int x1), (2, .int (0 : Int32)), (0, .ref (ad 0)), (1, .int p1)] rfl ?_
  exact v_sub [2, 3, 1, 0] rfl (ih_1 p1 (0 : Int32) x1 σ hM)
noncomputable def F_X12_law (n : Nat)  (σ : St) : Option (Int32 × St) := bd (F_X12_readText n (0 : Int32) σ) fun r2 s1 => if r2 < 0 then (bnd (sI s1 0 25 (1 : Int32)) fun s3 => some ((1 : Int32), s3)) else (some (((-100 : Int32) - r2), s1))
set_option maxHeartbeats 4000000 in
set_option maxRecDepth 20000 in
theorem c_X12_law (l : Launch) {D : va_G} {A : Nat → Prop} {ad : Nat → Nat} {dA : Nat → ClassId}  (n : Nat)  (σ : St) {res : Int32 × St} (hM : F_X12_law n  σ = some res) : MI l yX12_law cX12_law 2 (some .int) 106 D (tysR dA) (wdR ad dA) A [.ref (ad 0)] σ (QI D (wdR ad dA) A res) := by
  refine mk_met (by decide +kernel) (Nat.le_of_ble_eq_true rfl) (fun p e s m below meth c K => ?_)
  have K : Cx p s m _ meth c cX12_law 2 (some .int) RX12 D (tysR dA) (wdR ad dA) A := K
  refine v_aload_n K dX12_law_0 0 rfl ?_
  refine v_iconst (v := (0 : Int32)) K dX12_law_1 (by decide) ?_
  refine x_Vi (As := [.int (0 : Int32)]) (st := []) K uv_X12_readText qm_X12_228 dX12_law_2 rv_X12 (fun _ h => c_X12_readText l  n (0 : Int32) σ h) rfl ⟨(Nat.le_of_ble_eq_true rfl), (Nat.le_of_ble_eq_true rfl)⟩ (Nat.le_of_ble_eq_true rfl) hM (fun r2 s1 hM => ?_)
  refine v_istore_n K dX12_law_5 rfl (by decide) [(1, .int r2), (0, .ref (ad 0))] rfl ?_
  refine v_iload_n K dX12_law_6 0 rfl ?_
  refine v_if_lt K 15 dX12_law_7 (by decide) hM (fun hM => ?_) (fun hM => ?_)
  · refine v_aload_n K dX12_law_15 1 rfl ?_
    refine v_iconst (v := (1 : Int32)) K dX12_law_16 (by decide) ?_
    refine p_X12_25 K qf_X12_231 rfl rfl dX12_law_17 hM (fun s3 hM => ?_)
    refine v_iconst (v := (1 : Int32)) K dX12_law_20 (by decide) ?_
    exact v_iret K rfl dX12_law_21 hM
  · refine v_bipush (v := (-100 : Int32)) K dX12_law_10 (by decide) ?_
    refine v_iload_n K dX12_law_12 0 rfl ?_
    refine v_isub K dX12_law_13 ?_
    exact v_iret K rfl dX12_law_14 hM
noncomputable def B_X12_beginThought_1 (J : Nat → Int32 → St → Option (Unit × St)) (n : Nat)  (l1 : Int32) (σ : St) : Option (Unit × St) := if (gI σ 0 1) ≤ l1 then (bnd (sI σ 0 27 (gI σ 0 29)) fun s1 => some ((), s1)) else (gd (vp_in l1 7) (gd (vp_in l1 7) (bnd (sI σ 17 (l1).toNatClampNeg (gI σ 18 (l1).toNatClampNeg)) fun s2 => bnd (l1 + (1 : Int32)) fun x3 => J 1 x3 s2)))
noncomputable def S_X12_beginThought  (n : Nat) (J : Nat → Int32 → St → Option (Unit × St)) : Nat → Int32 → St → Option (Unit × St) := fun lb a0 σ => match lb with
  | 1 => B_X12_beginThought_1 J n  a0 σ
  | _ => none
noncomputable def L_X12_beginThought  (n : Nat) : Nat → Int32 → St → Option (Unit × St) := Nat.rec (fun _ _ _ => none) (fun n J => S_X12_beginThought  n J) n
noncomputable def F_X12_beginThought (n : Nat)  (σ : St) : Option (Unit × St) := L_X12_beginThought  n 1 (0 : Int32) σ
set_option maxHeartbeats 4000000 in
set_option maxRecDepth 20000 in
theorem t_X12_beginThought (l : Launch) {p : Program} {e : Env} {s : State} {m : MethodId} {args : Array Value} {below : List Frame} {meth : Method} {c : Code} {D : va_G} {A : Nat → Prop} {ad : Nat → Nat} {dA : Nat → ClassId}   (K : Cx p s m args meth c cX12_beginThought 2 none RX12 D (tysR dA) (wdR ad dA) A) {res : Unit × St} (n : Nat) : (∀ (l1 : Int32) (σ : St), L_X12_beginThought  n 1 l1 σ = some res → V p l e (rmH 1) s m args below meth c 2 D (wdR ad dA) A (MQ below (QV D (wdR ad dA) A res) args s 0 0 A) 2 [(0, .ref (ad 0)), (1, .int l1)] [] σ) := by
  induction n with
  | zero => exact (fun _ _ h => (by cases h))
  | succ n ih =>
    have ih_1 := ih
    · intro l1 σ hM
      have hM : B_X12_beginThought_1 (L_X12_beginThought  n) n  l1 σ = some res := hM
      refine v_iload_n K dX12_beginThought_2 1 rfl ?_
      refine v_aload_n K dX12_beginThought_3 0 rfl ?_
      refine g_X12_1 K qf_X12_122 dX12_beginThought_4 ?_
      refine v_icmp_ge K 28 dX12_beginThought_7 (by decide) hM (fun hM => ?_) (fun hM => ?_)
      · refine v_aload_n K dX12_beginThought_28 0 rfl ?_
        refine v_aload_n K dX12_beginThought_29 0 rfl ?_
        refine g_X12_29 K qf_X12_235 dX12_beginThought_30 ?_
        refine p_X12_27 K qf_X12_238 dX12_beginThought_33 hM (fun s1 hM => ?_)
        exact v_vret K rfl dX12_beginThought_36 hM
      · refine v_aload_n K dX12_beginThought_10 0 rfl ?_
        refine g_X12_26 K qf_X12_62 dX12_beginThought_11 ?_
        refine v_iload_n K dX12_beginThought_14 1 rfl ?_
        refine v_aload_n K dX12_beginThought_15 0 rfl ?_
        refine g_X12_28 K qf_X12_65 dX12_beginThought_16 ?_
        refine v_iload_n K dX12_beginThought_19 1 rfl ?_
        refine ld_R18 K dX12_beginThought_20 hM (fun hM => ?_)
        refine st_R17 K dX12_beginThought_21 hM (fun s2 hM => ?_)
        refine v_iinc K dX12_beginThought_22 1 rfl (v := (l1 + (1 : Int32))) rfl (by decide) hM (fun y => [(1, .int y), (0, .ref (ad 0))]) (fun _ => rfl) (fun x3 hM => ?_)
        refine v_goto (tgt := 2) K dX12_beginThought_25 (by decide) ?_
        exact v_sub [1, 0] rfl (ih_1 x3 s2 hM)
set_option maxHeartbeats 4000000 in
set_option maxRecDepth 20000 in
theorem c_X12_beginThought (l : Launch) {D : va_G} {A : Nat → Prop} {ad : Nat → Nat} {dA : Nat → ClassId}  (n : Nat)  (σ : St) {res : Unit × St} (hM : F_X12_beginThought n  σ = some res) : MI l yX12_beginThought cX12_beginThought 2 none 1 D (tysR dA) (wdR ad dA) A [.ref (ad 0)] σ (QV D (wdR ad dA) A res) := by
  refine mk_met (by decide +kernel) (Nat.le_of_ble_eq_true rfl) (fun p e s m below meth c K => ?_)
  have K : Cx p s m _ meth c cX12_beginThought 2 none RX12 D (tysR dA) (wdR ad dA) A := K
  have ih_1 := t_X12_beginThought l    K (res := res) n (below := below) (e := e)
  refine v_iconst (v := (0 : Int32)) K dX12_beginThought_0 (by decide) ?_
  refine v_istore_n K dX12_beginThought_1 rfl (by decide) [(1, .int (0 : Int32)), (0, .ref (ad 0))] rfl ?_
  exact v_sub [1, 0] rfl (ih_1 (0 : Int32) σ hM)
noncomputable def B_X12_boundMany_1 (J : Nat → Int32 → Int32 → St → Option (Int32 × St)) (n : Nat)  (l1 : Int32) (l2 : Int32) (σ : St) : Option (Int32 × St) := if (gI σ 0 1) ≤ l2 then (some (l1, σ)) else (gd (vp_in l2 7) (if (gI σ 17 (l2).toNatClampNeg) < 0 then (bnd (l2 + (1 : Int32)) fun x1 => J 1 l1 x1 σ) else (bnd (l1 + (1 : Int32)) fun x2 => bnd (l2 + (1 : Int32)) fun x3 => J 1 x2 x3 σ)))
noncomputable def S_X12_boundMany  (n : Nat) (J : Nat → Int32 → Int32 → St → Option (Int32 × St)) : Nat → Int32 → Int32 → St → Option (Int32 × St) := fun lb a0 a1 σ => match lb with
  | 1 => B_X12_boundMany_1 J n  a0 a1 σ
  | _ => none
noncomputable def L_X12_boundMany  (n : Nat) : Nat → Int32 → Int32 → St → Option (Int32 × St) := Nat.rec (fun _ _ _ _ => none) (fun n J => S_X12_boundMany  n J) n
noncomputable def F_X12_boundMany (n : Nat)  (σ : St) : Option (Int32 × St) := L_X12_boundMany  n 1 (0 : Int32) (0 : Int32) σ
set_option maxHeartbeats 4000000 in
set_option maxRecDepth 20000 in
theorem t_X12_boundMany (l : Launch) {p : Program} {e : Env} {s : State} {m : MethodId} {args : Array Value} {below : List Frame} {meth : Method} {c : Code} {D : va_G} {A : Nat → Prop} {ad : Nat → Nat} {dA : Nat → ClassId}   (K : Cx p s m args meth c cX12_boundMany 3 (some .int) RX12 D (tysR dA) (wdR ad dA) A) {res : Int32 × St} (n : Nat) : (∀ (l1 : Int32) (l2 : Int32) (σ : St), L_X12_boundMany  n 1 l1 l2 σ = some res → V p l e (rmH 1) s m args below meth c 3 D (wdR ad dA) A (MQ below (QI D (wdR ad dA) A res) args s 0 0 A) 4 [(0, .ref (ad 0)), (1, .int l1), (2, .int l2)] [] σ) := by
  induction n with
  | zero => exact (fun _ _ _ h => (by cases h))
  | succ n ih =>
    have ih_1 := ih
    · intro l1 l2 σ hM
      have hM : B_X12_boundMany_1 (L_X12_boundMany  n) n  l1 l2 σ = some res := hM
      refine v_iload_n K dX12_boundMany_4 2 rfl ?_
      refine v_aload_n K dX12_boundMany_5 0 rfl ?_
      refine g_X12_1 K qf_X12_122 dX12_boundMany_6 ?_
      refine v_icmp_ge K 30 dX12_boundMany_9 (by decide) hM (fun hM => ?_) (fun hM => ?_)
      · refine v_iload_n K dX12_boundMany_30 1 rfl ?_
        exact v_iret K rfl dX12_boundMany_31 hM
      · refine v_aload_n K dX12_boundMany_12 0 rfl ?_
        refine g_X12_26 K qf_X12_62 dX12_boundMany_13 ?_
        refine v_iload_n K dX12_boundMany_16 2 rfl ?_
        refine ld_R17 K dX12_boundMany_17 hM (fun hM => ?_)
        refine v_if_lt K 24 dX12_boundMany_18 (by decide) hM (fun hM => ?_) (fun hM => ?_)
        · refine v_iinc K dX12_boundMany_24 2 rfl (v := (l2 + (1 : Int32))) rfl (by decide) hM (fun y => [(2, .int y), (0, .ref (ad 0)), (1, .int l1)]) (fun _ => rfl) (fun x1 hM => ?_)
          refine v_goto (tgt := 4) K dX12_boundMany_27 (by decide) ?_
          exact v_sub [1, 2, 0] rfl (ih_1 l1 x1 σ hM)
        · refine v_iinc K dX12_boundMany_21 1 rfl (v := (l1 + (1 : Int32))) rfl (by decide) hM (fun y => [(1, .int y), (0, .ref (ad 0)), (2, .int l2)]) (fun _ => rfl) (fun x2 hM => ?_)
          refine v_iinc K dX12_boundMany_24 2 rfl (v := (l2 + (1 : Int32))) rfl (by decide) hM (fun y => [(2, .int y), (1, .int x2), (0, .ref (ad 0))]) (fun _ => rfl) (fun x3 hM => ?_)
          refine v_goto (tgt := 4) K dX12_boundMany_27 (by decide) ?_
          exact v_sub [2, 1, 0] rfl (ih_1 x2 x3 σ hM)
set_option maxHeartbeats 4000000 in
set_option maxRecDepth 20000 in
theorem c_X12_boundMany (l : Launch) {D : va_G} {A : Nat → Prop} {ad : Nat → Nat} {dA : Nat → ClassId}  (n : Nat)  (σ : St) {res : Int32 × St} (hM : F_X12_boundMany n  σ = some res) : MI l yX12_boundMany cX12_boundMany 3 (some .int) 1 D (tysR dA) (wdR ad dA) A [.ref (ad 0)] σ (QI D (wdR ad dA) A res) := by
  refine mk_met (by decide +kernel) (Nat.le_of_ble_eq_true rfl) (fun p e s m below meth c K => ?_)
  have K : Cx p s m _ meth c cX12_boundMany 3 (some .int) RX12 D (tysR dA) (wdR ad dA) A := K
  have ih_1 := t_X12_boundMany l    K (res := res) n (below := below) (e := e)
  refine v_iconst (v := (0 : Int32)) K dX12_boundMany_0 (by decide) ?_
  refine v_istore_n K dX12_boundMany_1 rfl (by decide) [(1, .int (0 : Int32)), (0, .ref (ad 0))] rfl ?_
  refine v_iconst (v := (0 : Int32)) K dX12_boundMany_2 (by decide) ?_
  refine v_istore_n K dX12_boundMany_3 rfl (by decide) [(2, .int (0 : Int32)), (1, .int (0 : Int32)), (0, .ref (ad 0))] rfl ?_
  exact v_sub [2, 1, 0] rfl (ih_1 (0 : Int32) (0 : Int32) σ hM)
noncomputable def B_X12_speaker_1 (J : Nat → Int32 → Int32 → St → Option (Int32 × St)) (n : Nat)  (l1 : Int32) (l2 : Int32) (σ : St) : Option (Int32 × St) := if (gI σ 0 1) ≤ l2 then (some (l1, σ)) else (gd (vp_in l2 7) (if (gI σ 17 (l2).toNatClampNeg) = l1 then (some (l2, σ)) else (bnd (l2 + (1 : Int32)) fun x1 => J 1 l1 x1 σ)))
noncomputable def S_X12_speaker  (n : Nat) (J : Nat → Int32 → Int32 → St → Option (Int32 × St)) : Nat → Int32 → Int32 → St → Option (Int32 × St) := fun lb a0 a1 σ => match lb with
  | 1 => B_X12_speaker_1 J n  a0 a1 σ
  | _ => none
noncomputable def L_X12_speaker  (n : Nat) : Nat → Int32 → Int32 → St → Option (Int32 × St) := Nat.rec (fun _ _ _ _ => none) (fun n J => S_X12_speaker  n J) n
noncomputable def F_X12_speaker (n : Nat) (p1 : Int32) (σ : St) : Option (Int32 × St) := L_X12_speaker  n 1 p1 (0 : Int32) σ
set_option maxHeartbeats 4000000 in
set_option maxRecDepth 20000 in
theorem t_X12_speaker (l : Launch) {p : Program} {e : Env} {s : State} {m : MethodId} {args : Array Value} {below : List Frame} {meth : Method} {c : Code} {D : va_G} {A : Nat → Prop} {ad : Nat → Nat} {dA : Nat → ClassId}   (K : Cx p s m args meth c cX12_speaker 3 (some .int) RX12 D (tysR dA) (wdR ad dA) A) {res : Int32 × St} (n : Nat) : (∀ (l1 : Int32) (l2 : Int32) (σ : St), L_X12_speaker  n 1 l1 l2 σ = some res → V p l e (rmH 1) s m args below meth c 3 D (wdR ad dA) A (MQ below (QI D (wdR ad dA) A res) args s 0 0 A) 2 [(0, .ref (ad 0)), (1, .int l1), (2, .int l2)] [] σ) := by
  induction n with
  | zero => exact (fun _ _ _ h => (by cases h))
  | succ n ih =>
    have ih_1 := ih
    · intro l1 l2 σ hM
      have hM : B_X12_speaker_1 (L_X12_speaker  n) n  l1 l2 σ = some res := hM
      refine v_iload_n K dX12_speaker_2 2 rfl ?_
      refine v_aload_n K dX12_speaker_3 0 rfl ?_
      refine g_X12_1 K qf_X12_122 dX12_speaker_4 ?_
      refine v_icmp_ge K 28 dX12_speaker_7 (by decide) hM (fun hM => ?_) (fun hM => ?_)
      · refine v_iload_n K dX12_speaker_28 1 rfl ?_
        exact v_iret K rfl dX12_speaker_29 hM
      · refine v_aload_n K dX12_speaker_10 0 rfl ?_
        refine g_X12_26 K qf_X12_62 dX12_speaker_11 ?_
        refine v_iload_n K dX12_speaker_14 2 rfl ?_
        refine ld_R17 K dX12_speaker_15 hM (fun hM => ?_)
        refine v_iload_n K dX12_speaker_16 1 rfl ?_
        refine v_icmp_ne K 22 dX12_speaker_17 (by decide) hM (fun hM => ?_) (fun hM => ?_)
        · refine v_iinc K dX12_speaker_22 2 rfl (v := (l2 + (1 : Int32))) rfl (by decide) hM (fun y => [(2, .int y), (0, .ref (ad 0)), (1, .int l1)]) (fun _ => rfl) (fun x1 hM => ?_)
          refine v_goto (tgt := 2) K dX12_speaker_25 (by decide) ?_
          exact v_sub [1, 2, 0] rfl (ih_1 l1 x1 σ hM)
        · refine v_iload_n K dX12_speaker_20 2 rfl ?_
          exact v_iret K rfl dX12_speaker_21 hM
set_option maxHeartbeats 4000000 in
set_option maxRecDepth 20000 in
theorem c_X12_speaker (l : Launch) {D : va_G} {A : Nat → Prop} {ad : Nat → Nat} {dA : Nat → ClassId}  (n : Nat) (p1 : Int32) (σ : St) {res : Int32 × St} (hM : F_X12_speaker n p1 σ = some res) : MI l yX12_speaker cX12_speaker 3 (some .int) 1 D (tysR dA) (wdR ad dA) A [.ref (ad 0), .int p1] σ (QI D (wdR ad dA) A res) := by
  refine mk_met (by decide +kernel) (Nat.le_of_ble_eq_true rfl) (fun p e s m below meth c K => ?_)
  have K : Cx p s m _ meth c cX12_speaker 3 (some .int) RX12 D (tysR dA) (wdR ad dA) A := K
  have ih_1 := t_X12_speaker l    K (res := res) n (below := below) (e := e)
  refine v_iconst (v := (0 : Int32)) K dX12_speaker_0 (by decide) ?_
  refine v_istore_n K dX12_speaker_1 rfl (by decide) [(2, .int (0 : Int32)), (0, .ref (ad 0)), (1, .int p1)] rfl ?_
  exact v_sub [1, 2, 0] rfl (ih_1 p1 (0 : Int32) σ hM)
noncomputable def B_X12_lawBy_1 (J : Nat → Int32 → Int32 → Int32 → Int32 → St → Option (Int32 × St)) (n : Nat)  (l1 : Int32) (l3 : Int32) (l4 : Int32) (k0 : Int32) (σ : St) : Option (Int32 × St) := gd (vp_in l1 7) (bnd ((((6 : Int32) + (gI σ 1 (l1).toNatClampNeg)) - l3) + k0) fun x1 => if (gI σ 0 25) = 0 then (J 2 x1 0 0 0 σ) else (gd (vp_in l1 7) (gd (vp_in (0 : Int32) 6) (bnd (sI σ 15 ((0 : Int32)).toNatClampNeg (gI σ 1 (l1).toNatClampNeg)) fun s2 => gd (vp_in (1 : Int32) 6) (bnd (sI s2 15 ((1 : Int32)).toNatClampNeg l3) fun s3 => gd (vp_in (2 : Int32) 6) (bnd (sI s3 15 ((2 : Int32)).toNatClampNeg l4) fun s4 => gd (vp_in (3 : Int32) 6) (bnd (sI s4 15 ((3 : Int32)).toNatClampNeg k0) fun s5 => bd (F_X12_boundMany n  s5) fun r7 s6 => gd (vp_in (4 : Int32) 6) (bnd (sI s6 15 ((4 : Int32)).toNatClampNeg r7) fun s8 => gd (vp_in (5 : Int32) 6) (bnd (sI s8 15 ((5 : Int32)).toNatClampNeg (gI s8 0 27)) fun s9 => bd (F_X12_gives n (0 : Int32) s9) fun r11 s10 => J 2 r11 0 0 0 s10)))))))))
noncomputable def B_X12_lawBy_2 (J : Nat → Int32 → Int32 → Int32 → Int32 → St → Option (Int32 × St)) (n : Nat)  (l6 : Int32) (σ : St) : Option (Int32 × St) := if 0 ≤ l6 then (if l6 ≤ (12 : Int32) then (some (l6, σ)) else (some ((12 : Int32), σ))) else (some ((0 : Int32), σ))
noncomputable def S_X12_lawBy  (n : Nat) (J : Nat → Int32 → Int32 → Int32 → Int32 → St → Option (Int32 × St)) : Nat → Int32 → Int32 → Int32 → Int32 → St → Option (Int32 × St) := fun lb a0 a1 a2 a3 σ => match lb with
  | 1 => B_X12_lawBy_1 J n  a0 a1 a2 a3 σ
  | 2 => B_X12_lawBy_2 J n  a0 σ
  | _ => none
noncomputable def L_X12_lawBy  (n : Nat) : Nat → Int32 → Int32 → Int32 → Int32 → St → Option (Int32 × St) := Nat.rec (fun _ _ _ _ _ _ => none) (fun n J => S_X12_lawBy  n J) n
noncomputable def F_X12_lawBy (n : Nat) (p1 : Int32) (p2 : Int32) (p3 : Int32) (p4 : Int32) (σ : St) : Option (Int32 × St) := gd (vp_in p1 7) (if (gI σ 3 (p1).toNatClampNeg) = p2 then (L_X12_lawBy  n 1 p1 p3 p4 (1 : Int32) σ) else (L_X12_lawBy  n 1 p1 p3 p4 (0 : Int32) σ))
set_option maxHeartbeats 4000000 in
set_option maxRecDepth 20000 in
theorem t_X12_lawBy (l : Launch) {p : Program} {e : Env} {s : State} {m : MethodId} {args : Array Value} {below : List Frame} {meth : Method} {c : Code} {D : va_G} {A : Nat → Prop} {ad : Nat → Nat} {dA : Nat → ClassId}   (K : Cx p s m args meth c cX12_lawBy 7 (some .int) RX12 D (tysR dA) (wdR ad dA) A) {res : Int32 × St} (n : Nat) : (∀ (l1 : Int32) (l3 : Int32) (l4 : Int32) (k0 : Int32) (σ : St), L_X12_lawBy  n 1 l1 l3 l4 k0 σ = some res → V p l e (rmH 4) s m args below meth c 7 D (wdR ad dA) A (MQ below (QI D (wdR ad dA) A res) args s 0 0 A) 15 [(0, .ref (ad 0)), (1, .int l1), (3, .int l3), (4, .int l4)] [.int k0] σ) ∧ (∀ (l6 : Int32) (σ : St), L_X12_lawBy  n 2 l6 0 0 0 σ = some res → V p l e (rmH 4) s m args below meth c 7 D (wdR ad dA) A (MQ below (QI D (wdR ad dA) A res) args s 0 0 A) 102 [(6, .int l6)] [] σ) := by
  induction n with
  | zero => exact ⟨fun _ _ _ _ _ h => (by cases h), fun _ _ h => (by cases h)⟩
  | succ n ih =>
    obtain ⟨ih_1, ih_2⟩ := ih
    refine ⟨?_, ?_⟩
    · intro l1 l3 l4 k0 σ hM
      have hM : B_X12_lawBy_1 (L_X12_lawBy  n) n  l1 l3 l4 k0 σ = some res := hM
      refine v_istore K dX12_lawBy_15 (by decide) [(5, .int k0), (0, .ref (ad 0)), (1, .int l1), (3, .int l3), (4, .int l4)] rfl ?_
      refine v_bipush (v := (6 : Int32)) K dX12_lawBy_17 (by decide) ?_
      refine v_aload_n K dX12_lawBy_19 1 rfl ?_
      refine g_X12_2 K qf_X12_9 dX12_lawBy_20 ?_
      refine v_iload_n K dX12_lawBy_23 2 rfl ?_
      refine ld_R1 K dX12_lawBy_24 hM (fun hM => ?_)
      refine v_iadd K dX12_lawBy_25 ?_
      refine v_iload_n K dX12_lawBy_26 3 rfl ?_
      refine v_isub K dX12_lawBy_27 ?_
      refine v_iload K dX12_lawBy_28 0 rfl ?_
      refine v_iadd K dX12_lawBy_30 ?_
      refine v_topi hM (fun x1 hM => ?_)
      refine v_istore K dX12_lawBy_31 (by decide) [(6, .int x1), (5, .int k0), (0, .ref (ad 0)), (1, .int l1), (3, .int l3), (4, .int l4)] rfl ?_
      refine v_aload_n K dX12_lawBy_33 2 rfl ?_
      refine g_X12_25 K qf_X12_231 dX12_lawBy_34 ?_
      refine v_if_eq K 102 dX12_lawBy_37 (by decide) hM (fun hM => ?_) (fun hM => ?_)
      · exact v_sub [0] rfl (ih_2 x1 σ hM)
      · refine v_aload_n K dX12_lawBy_40 2 rfl ?_
        refine g_X12_23 K qf_X12_56 dX12_lawBy_41 ?_
        refine v_iconst (v := (0 : Int32)) K dX12_lawBy_44 (by decide) ?_
        refine v_aload_n K dX12_lawBy_45 2 rfl ?_
        refine g_X12_2 K qf_X12_9 dX12_lawBy_46 ?_
        refine v_iload_n K dX12_lawBy_49 3 rfl ?_
        refine ld_R1 K dX12_lawBy_50 hM (fun hM => ?_)
        refine st_R15 K dX12_lawBy_51 hM (fun s2 hM => ?_)
        refine v_aload_n K dX12_lawBy_52 2 rfl ?_
        refine g_X12_23 K qf_X12_56 dX12_lawBy_53 ?_
        refine v_iconst (v := (1 : Int32)) K dX12_lawBy_56 (by decide) ?_
        refine v_iload_n K dX12_lawBy_57 4 rfl ?_
        refine st_R15 K dX12_lawBy_58 hM (fun s3 hM => ?_)
        refine v_aload_n K dX12_lawBy_59 2 rfl ?_
        refine g_X12_23 K qf_X12_56 dX12_lawBy_60 ?_
        refine v_iconst (v := (2 : Int32)) K dX12_lawBy_63 (by decide) ?_
        refine v_iload K dX12_lawBy_64 5 rfl ?_
        refine st_R15 K dX12_lawBy_66 hM (fun s4 hM => ?_)
        refine v_aload_n K dX12_lawBy_67 2 rfl ?_
        refine g_X12_23 K qf_X12_56 dX12_lawBy_68 ?_
        refine v_iconst (v := (3 : Int32)) K dX12_lawBy_71 (by decide) ?_
        refine v_iload K dX12_lawBy_72 1 rfl ?_
        refine st_R15 K dX12_lawBy_74 hM (fun s5 hM => ?_)
        refine v_aload_n K dX12_lawBy_75 2 rfl ?_
        refine g_X12_23 K qf_X12_56 dX12_lawBy_76 ?_
        refine v_iconst (v := (4 : Int32)) K dX12_lawBy_79 (by decide) ?_
        refine v_aload_n K dX12_lawBy_80 2 rfl ?_
        refine x_Vi (As := []) (st := [.int (4 : Int32), .ref (ad 15)]) K uv_X12_boundMany qm_X12_241 dX12_lawBy_81 rv_X12 (fun _ h => c_X12_boundMany l  n  s5 h) rfl ⟨(Nat.le_of_ble_eq_true rfl), (Nat.le_of_ble_eq_true rfl)⟩ (Nat.le_of_ble_eq_true rfl) hM (fun r7 s6 hM => ?_)
        refine st_R15 K dX12_lawBy_84 hM (fun s8 hM => ?_)
        refine v_aload_n K dX12_lawBy_85 2 rfl ?_
        refine g_X12_23 K qf_X12_56 dX12_lawBy_86 ?_
        refine v_iconst (v := (5 : Int32)) K dX12_lawBy_89 (by decide) ?_
        refine v_aload_n K dX12_lawBy_90 2 rfl ?_
        refine g_X12_27 K qf_X12_238 dX12_lawBy_91 ?_
        refine st_R15 K dX12_lawBy_94 hM (fun s9 hM => ?_)
        refine v_aload_n K dX12_lawBy_95 2 rfl ?_
        refine v_iconst (v := (0 : Int32)) K dX12_lawBy_96 (by decide) ?_
        refine x_Vi (As := [.int (0 : Int32)]) (st := []) K uv_X12_gives qm_X12_244 dX12_lawBy_97 rv_X12 (fun _ h => c_X12_gives l  n (0 : Int32) s9 h) rfl ⟨(Nat.le_of_ble_eq_true rfl), (Nat.le_of_ble_eq_true rfl)⟩ (Nat.le_of_ble_eq_true rfl) hM (fun r11 s10 hM => ?_)
        refine v_istore K dX12_lawBy_100 (by decide) [(6, .int r11), (5, .int k0), (0, .ref (ad 0)), (1, .int l1), (3, .int l3), (4, .int l4)] rfl ?_
        exact v_sub [0] rfl (ih_2 r11 s10 hM)
    · intro l6 σ hM
      have hM : B_X12_lawBy_2 (L_X12_lawBy  n) n  l6 σ = some res := hM
      refine v_iload K dX12_lawBy_102 0 rfl ?_
      refine v_if_ge K 111 dX12_lawBy_104 (by decide) hM (fun hM => ?_) (fun hM => ?_)
      · refine v_iload K dX12_lawBy_111 0 rfl ?_
        refine v_bipush (v := (12 : Int32)) K dX12_lawBy_113 (by decide) ?_
        refine v_icmp_le K 123 dX12_lawBy_115 (by decide) hM (fun hM => ?_) (fun hM => ?_)
        · refine v_iload K dX12_lawBy_123 0 rfl ?_
          exact v_iret K rfl dX12_lawBy_125 hM
        · refine v_bipush (v := (12 : Int32)) K dX12_lawBy_118 (by decide) ?_
          refine v_goto (tgt := 125) K dX12_lawBy_120 (by decide) ?_
          exact v_iret K rfl dX12_lawBy_125 hM
      · refine v_iconst (v := (0 : Int32)) K dX12_lawBy_107 (by decide) ?_
        refine v_goto (tgt := 125) K dX12_lawBy_108 (by decide) ?_
        exact v_iret K rfl dX12_lawBy_125 hM
set_option maxHeartbeats 4000000 in
set_option maxRecDepth 20000 in
theorem c_X12_lawBy (l : Launch) {D : va_G} {A : Nat → Prop} {ad : Nat → Nat} {dA : Nat → ClassId}  (n : Nat) (p1 : Int32) (p2 : Int32) (p3 : Int32) (p4 : Int32) (σ : St) {res : Int32 × St} (hM : F_X12_lawBy n p1 p2 p3 p4 σ = some res) : MI l yX12_lawBy cX12_lawBy 7 (some .int) 4 D (tysR dA) (wdR ad dA) A [.ref (ad 0), .int p1, .int p2, .int p3, .int p4] σ (QI D (wdR ad dA) A res) := by
  refine mk_met (by decide +kernel) (Nat.le_of_ble_eq_true rfl) (fun p e s m below meth c K => ?_)
  have K : Cx p s m _ meth c cX12_lawBy 7 (some .int) RX12 D (tysR dA) (wdR ad dA) A := K
  obtain ⟨ih_1, ih_2⟩ := t_X12_lawBy l    K (res := res) n (below := below) (e := e)
  refine v_aload_n K dX12_lawBy_0 0 rfl ?_
  refine g_X12_4 K qf_X12_18 dX12_lawBy_1 ?_
  refine v_iload_n K dX12_lawBy_4 1 rfl ?_
  refine ld_R3 K dX12_lawBy_5 hM (fun hM => ?_)
  refine v_iload_n K dX12_lawBy_6 2 rfl ?_
  refine v_icmp_ne K 14 dX12_lawBy_7 (by decide) hM (fun hM => ?_) (fun hM => ?_)
  · refine v_iconst (v := (0 : Int32)) K dX12_lawBy_14 (by decide) ?_
    exact v_sub [0, 1, 3, 4] rfl (ih_1 p1 p3 p4 (0 : Int32) σ hM)
  · refine v_iconst (v := (1 : Int32)) K dX12_lawBy_10 (by decide) ?_
    refine v_goto (tgt := 15) K dX12_lawBy_11 (by decide) ?_
    exact v_sub [0, 1, 3, 4] rfl (ih_1 p1 p3 p4 (1 : Int32) σ hM)
noncomputable def F_X12_winsBy (n : Nat) (p1 : Int32) (p2 : Int32) (σ : St) : Option (Int32 × St) := bd (F_X12_speaker n p2 σ) fun r2 s1 => gd (vp_in r2 7) (if r2 = p2 then (bd (F_X12_lawBy n p1 p2 (gI s1 2 (r2).toNatClampNeg) (1 : Int32) s1) fun r6 s5 => some (r6, s5)) else (bd (F_X12_lawBy n p1 p2 (gI s1 2 (r2).toNatClampNeg) (0 : Int32) s1) fun r4 s3 => some (r4, s3)))
set_option maxHeartbeats 4000000 in
set_option maxRecDepth 20000 in
theorem c_X12_winsBy (l : Launch) {D : va_G} {A : Nat → Prop} {ad : Nat → Nat} {dA : Nat → ClassId}  (n : Nat) (p1 : Int32) (p2 : Int32) (σ : St) {res : Int32 × St} (hM : F_X12_winsBy n p1 p2 σ = some res) : MI l yX12_winsBy cX12_winsBy 4 (some .int) 5 D (tysR dA) (wdR ad dA) A [.ref (ad 0), .int p1, .int p2] σ (QI D (wdR ad dA) A res) := by
  refine mk_met (by decide +kernel) (Nat.le_of_ble_eq_true rfl) (fun p e s m below meth c K => ?_)
  have K : Cx p s m _ meth c cX12_winsBy 4 (some .int) RX12 D (tysR dA) (wdR ad dA) A := K
  refine v_aload_n K dX12_winsBy_0 0 rfl ?_
  refine v_iload_n K dX12_winsBy_1 2 rfl ?_
  refine x_Vi (As := [.int p2]) (st := []) K uv_X12_speaker qm_X12_247 dX12_winsBy_2 rv_X12 (fun _ h => c_X12_speaker l  n p2 σ h) rfl ⟨(Nat.le_of_ble_eq_true rfl), (Nat.le_of_ble_eq_true rfl)⟩ (Nat.le_of_ble_eq_true rfl) hM (fun r2 s1 hM => ?_)
  refine v_istore_n K dX12_winsBy_5 rfl (by decide) [(3, .int r2), (0, .ref (ad 0)), (1, .int p1), (2, .int p2)] rfl ?_
  refine v_aload_n K dX12_winsBy_6 1 rfl ?_
  refine v_iload_n K dX12_winsBy_7 2 rfl ?_
  refine v_iload_n K dX12_winsBy_8 3 rfl ?_
  refine v_aload_n K dX12_winsBy_9 1 rfl ?_
  refine g_X12_3 K qf_X12_15 dX12_winsBy_10 ?_
  refine v_iload_n K dX12_winsBy_13 0 rfl ?_
  refine ld_R2 K dX12_winsBy_14 hM (fun hM => ?_)
  refine v_iload_n K dX12_winsBy_15 0 rfl ?_
  refine v_iload_n K dX12_winsBy_16 3 rfl ?_
  refine v_icmp_ne K 24 dX12_winsBy_17 (by decide) hM (fun hM => ?_) (fun hM => ?_)
  · refine v_iconst (v := (0 : Int32)) K dX12_winsBy_24 (by decide) ?_
    refine x_Vi (As := [.int p1, .int p2, .int (gI s1 2 (r2).toNatClampNeg), .int (0 : Int32)]) (st := []) K uv_X12_lawBy qm_X12_250 dX12_winsBy_25 rv_X12 (fun _ h => c_X12_lawBy l  n p1 p2 (gI s1 2 (r2).toNatClampNeg) (0 : Int32) s1 h) rfl ⟨(Nat.le_of_ble_eq_true rfl), (Nat.le_of_ble_eq_true rfl)⟩ (Nat.le_of_ble_eq_true rfl) hM (fun r4 s3 hM => ?_)
    exact v_iret K rfl dX12_winsBy_28 hM
  · refine v_iconst (v := (1 : Int32)) K dX12_winsBy_20 (by decide) ?_
    refine v_goto (tgt := 25) K dX12_winsBy_21 (by decide) ?_
    refine x_Vi (As := [.int p1, .int p2, .int (gI s1 2 (r2).toNatClampNeg), .int (1 : Int32)]) (st := []) K uv_X12_lawBy qm_X12_250 dX12_winsBy_25 rv_X12 (fun _ h => c_X12_lawBy l  n p1 p2 (gI s1 2 (r2).toNatClampNeg) (1 : Int32) s1 h) rfl ⟨(Nat.le_of_ble_eq_true rfl), (Nat.le_of_ble_eq_true rfl)⟩ (Nat.le_of_ble_eq_true rfl) hM (fun r6 s5 hM => ?_)
    exact v_iret K rfl dX12_winsBy_28 hM
noncomputable def F_X12_isLet (n : Nat) (p1 : Int32) (p2 : Int32) (σ : St) : Option (Int32 × St) := bd (F_X12_isPerson n p1 σ) fun r2 s1 => if r2 = 0 then (some ((0 : Int32), s1)) else (bd (F_X12_isPerson n p2 s1) fun r4 s3 => if r4 = 0 then (some ((0 : Int32), s3)) else (if p1 = p2 then (some ((0 : Int32), s3)) else (gd (vp_in p1 7) (if 0 ≤ (gI s3 17 (p1).toNatClampNeg) then (some ((0 : Int32), s3)) else (some ((1 : Int32), s3))))))
set_option maxHeartbeats 4000000 in
set_option maxRecDepth 20000 in
theorem c_X12_isLet (l : Launch) {D : va_G} {A : Nat → Prop} {ad : Nat → Nat} {dA : Nat → ClassId}  (n : Nat) (p1 : Int32) (p2 : Int32) (σ : St) {res : Int32 × St} (hM : F_X12_isLet n p1 p2 σ = some res) : MI l yX12_isLet cX12_isLet 3 (some .boolean) 3 D (tysR dA) (wdR ad dA) A [.ref (ad 0), .int p1, .int p2] σ (QI D (wdR ad dA) A res) := by
  refine mk_met (by decide +kernel) (Nat.le_of_ble_eq_true rfl) (fun p e s m below meth c K => ?_)
  have K : Cx p s m _ meth c cX12_isLet 3 (some .boolean) RX12 D (tysR dA) (wdR ad dA) A := K
  refine v_aload_n K dX12_isLet_0 0 rfl ?_
  refine v_iload_n K dX12_isLet_1 1 rfl ?_
  refine x_Vi (As := [.int p1]) (st := []) K uv_X12_isPerson qm_X12_129 dX12_isLet_2 rv_X12 (fun _ h => c_X12_isPerson l  n p1 σ h) rfl ⟨(Nat.le_of_ble_eq_true rfl), (Nat.le_of_ble_eq_true rfl)⟩ (Nat.le_of_ble_eq_true rfl) hM (fun r2 s1 hM => ?_)
  refine v_if_eq K 34 dX12_isLet_5 (by decide) hM (fun hM => ?_) (fun hM => ?_)
  · refine v_iconst (v := (0 : Int32)) K dX12_isLet_34 (by decide) ?_
    exact v_zret K rfl rfl dX12_isLet_35 hM
  · refine v_aload_n K dX12_isLet_8 0 rfl ?_
    refine v_iload_n K dX12_isLet_9 2 rfl ?_
    refine x_Vi (As := [.int p2]) (st := []) K uv_X12_isPerson qm_X12_129 dX12_isLet_10 rv_X12 (fun _ h => c_X12_isPerson l  n p2 s1 h) rfl ⟨(Nat.le_of_ble_eq_true rfl), (Nat.le_of_ble_eq_true rfl)⟩ (Nat.le_of_ble_eq_true rfl) hM (fun r4 s3 hM => ?_)
    refine v_if_eq K 34 dX12_isLet_13 (by decide) hM (fun hM => ?_) (fun hM => ?_)
    · refine v_iconst (v := (0 : Int32)) K dX12_isLet_34 (by decide) ?_
      exact v_zret K rfl rfl dX12_isLet_35 hM
    · refine v_iload_n K dX12_isLet_16 1 rfl ?_
      refine v_iload_n K dX12_isLet_17 2 rfl ?_
      refine v_icmp_eq K 34 dX12_isLet_18 (by decide) hM (fun hM => ?_) (fun hM => ?_)
      · refine v_iconst (v := (0 : Int32)) K dX12_isLet_34 (by decide) ?_
        exact v_zret K rfl rfl dX12_isLet_35 hM
      · refine v_aload_n K dX12_isLet_21 0 rfl ?_
        refine g_X12_26 K qf_X12_62 dX12_isLet_22 ?_
        refine v_iload_n K dX12_isLet_25 1 rfl ?_
        refine ld_R17 K dX12_isLet_26 hM (fun hM => ?_)
        refine v_if_ge K 34 dX12_isLet_27 (by decide) hM (fun hM => ?_) (fun hM => ?_)
        · refine v_iconst (v := (0 : Int32)) K dX12_isLet_34 (by decide) ?_
          exact v_zret K rfl rfl dX12_isLet_35 hM
        · refine v_iconst (v := (1 : Int32)) K dX12_isLet_30 (by decide) ?_
          refine v_goto (tgt := 35) K dX12_isLet_31 (by decide) ?_
          exact v_zret K rfl rfl dX12_isLet_35 hM
noncomputable def B_X12_goCase_1 (J : Nat → Int32 → St → Option (Unit × St)) (n : Nat)  (l2 : Int32) (σ : St) : Option (Unit × St) := gd (vp_in l2 7) (bnd (sI σ 17 (l2).toNatClampNeg (-1 : Int32)) fun s7 => bnd (sI s7 0 27 ((gI s7 0 27) + (1 : Int32))) fun s8 => some ((), s8))
noncomputable def S_X12_goCase  (n : Nat) (J : Nat → Int32 → St → Option (Unit × St)) : Nat → Int32 → St → Option (Unit × St) := fun lb a0 σ => match lb with
  | 1 => B_X12_goCase_1 J n  a0 σ
  | _ => none
noncomputable def L_X12_goCase  (n : Nat) : Nat → Int32 → St → Option (Unit × St) := Nat.rec (fun _ _ _ => none) (fun n J => S_X12_goCase  n J) n
noncomputable def F_X12_goCase (n : Nat) (p1 : Int32) (p2 : Int32) (p3 : Int32) (σ : St) : Option (Unit × St) := bd (F_X12_speaker n p2 σ) fun r2 s1 => if p3 = (1 : Int32) then (if r2 = p2 then (L_X12_goCase  n 1 p2 s1) else (gd (vp_in r2 7) (bnd (sI s1 17 (r2).toNatClampNeg r2) fun s6 => L_X12_goCase  n 1 p2 s6))) else (gd (vp_in r2 7) (bnd (sI s1 17 (r2).toNatClampNeg (-1 : Int32)) fun s3 => gd (vp_in p1 7) (bnd (sI s3 17 (p1).toNatClampNeg p2) fun s4 => bnd (sI s4 0 27 ((gI s4 0 27) + (1 : Int32))) fun s5 => some ((), s5))))
set_option maxHeartbeats 4000000 in
set_option maxRecDepth 20000 in
theorem t_X12_goCase (l : Launch) {p : Program} {e : Env} {s : State} {m : MethodId} {args : Array Value} {below : List Frame} {meth : Method} {c : Code} {D : va_G} {A : Nat → Prop} {ad : Nat → Nat} {dA : Nat → ClassId}   (K : Cx p s m args meth c cX12_goCase 5 none RX12 D (tysR dA) (wdR ad dA) A) {res : Unit × St} (n : Nat) : (∀ (l2 : Int32) (σ : St), L_X12_goCase  n 1 l2 σ = some res → V p l e (rmH 2) s m args below meth c 5 D (wdR ad dA) A (MQ below (QV D (wdR ad dA) A res) args s 0 0 A) 27 [(0, .ref (ad 0)), (2, .int l2)] [] σ) := by
  induction n with
  | zero => exact (fun _ _ h => (by cases h))
  | succ n ih =>
    have ih_1 := ih
    · intro l2 σ hM
      have hM : B_X12_goCase_1 (L_X12_goCase  n) n  l2 σ = some res := hM
      refine v_aload_n K dX12_goCase_27 0 rfl ?_
      refine g_X12_26 K qf_X12_62 dX12_goCase_28 ?_
      refine v_iload_n K dX12_goCase_31 1 rfl ?_
      refine v_iconst (v := (-1 : Int32)) K dX12_goCase_32 (by decide) ?_
      refine st_R17 K dX12_goCase_33 hM (fun s7 hM => ?_)
      refine v_goto (tgt := 52) K dX12_goCase_34 (by decide) ?_
      refine v_aload_n K dX12_goCase_52 0 rfl ?_
      refine v_dup K dX12_goCase_53 rfl ?_
      refine g_X12_27 K qf_X12_238 dX12_goCase_54 ?_
      refine v_iconst (v := (1 : Int32)) K dX12_goCase_57 (by decide) ?_
      refine v_iadd K dX12_goCase_58 ?_
      refine p_X12_27 K qf_X12_238 dX12_goCase_59 hM (fun s8 hM => ?_)
      exact v_vret K rfl dX12_goCase_62 hM
set_option maxHeartbeats 4000000 in
set_option maxRecDepth 20000 in
theorem c_X12_goCase (l : Launch) {D : va_G} {A : Nat → Prop} {ad : Nat → Nat} {dA : Nat → ClassId}  (n : Nat) (p1 : Int32) (p2 : Int32) (p3 : Int32) (σ : St) {res : Unit × St} (hM : F_X12_goCase n p1 p2 p3 σ = some res) : MI l yX12_goCase cX12_goCase 5 none 2 D (tysR dA) (wdR ad dA) A [.ref (ad 0), .int p1, .int p2, .int p3] σ (QV D (wdR ad dA) A res) := by
  refine mk_met (by decide +kernel) (Nat.le_of_ble_eq_true rfl) (fun p e s m below meth c K => ?_)
  have K : Cx p s m _ meth c cX12_goCase 5 none RX12 D (tysR dA) (wdR ad dA) A := K
  have ih_1 := t_X12_goCase l    K (res := res) n (below := below) (e := e)
  refine v_aload_n K dX12_goCase_0 0 rfl ?_
  refine v_iload_n K dX12_goCase_1 2 rfl ?_
  refine x_Vi (As := [.int p2]) (st := []) K uv_X12_speaker qm_X12_247 dX12_goCase_2 rv_X12 (fun _ h => c_X12_speaker l  n p2 σ h) rfl ⟨(Nat.le_of_ble_eq_true rfl), (Nat.le_of_ble_eq_true rfl)⟩ (Nat.le_of_ble_eq_true rfl) hM (fun r2 s1 hM => ?_)
  refine v_istore K dX12_goCase_5 (by decide) [(4, .int r2), (0, .ref (ad 0)), (1, .int p1), (2, .int p2), (3, .int p3)] rfl ?_
  refine v_iload_n K dX12_goCase_7 4 rfl ?_
  refine v_iconst (v := (1 : Int32)) K dX12_goCase_8 (by decide) ?_
  refine v_icmp_ne K 37 dX12_goCase_9 (by decide) hM (fun hM => ?_) (fun hM => ?_)
  · refine v_aload_n K dX12_goCase_37 1 rfl ?_
    refine g_X12_26 K qf_X12_62 dX12_goCase_38 ?_
    refine v_iload K dX12_goCase_41 0 rfl ?_
    refine v_iconst (v := (-1 : Int32)) K dX12_goCase_43 (by decide) ?_
    refine st_R17 K dX12_goCase_44 hM (fun s3 hM => ?_)
    refine v_aload_n K dX12_goCase_45 1 rfl ?_
    refine g_X12_26 K qf_X12_62 dX12_goCase_46 ?_
    refine v_iload_n K dX12_goCase_49 2 rfl ?_
    refine v_iload_n K dX12_goCase_50 3 rfl ?_
    refine st_R17 K dX12_goCase_51 hM (fun s4 hM => ?_)
    refine v_aload_n K dX12_goCase_52 1 rfl ?_
    refine v_dup K dX12_goCase_53 rfl ?_
    refine g_X12_27 K qf_X12_238 dX12_goCase_54 ?_
    refine v_iconst (v := (1 : Int32)) K dX12_goCase_57 (by decide) ?_
    refine v_iadd K dX12_goCase_58 ?_
    refine p_X12_27 K qf_X12_238 dX12_goCase_59 hM (fun s5 hM => ?_)
    exact v_vret K rfl dX12_goCase_62 hM
  · refine v_iload K dX12_goCase_12 0 rfl ?_
    refine v_iload_n K dX12_goCase_14 3 rfl ?_
    refine v_icmp_eq K 27 dX12_goCase_15 (by decide) hM (fun hM => ?_) (fun hM => ?_)
    · exact v_sub [1, 3] rfl (ih_1 p2 s1 hM)
    · refine v_aload_n K dX12_goCase_18 1 rfl ?_
      refine g_X12_26 K qf_X12_62 dX12_goCase_19 ?_
      refine v_iload K dX12_goCase_22 0 rfl ?_
      refine v_iload K dX12_goCase_24 0 rfl ?_
      refine st_R17 K dX12_goCase_26 hM (fun s6 hM => ?_)
      exact v_sub [1, 3] rfl (ih_1 p2 s6 hM)
noncomputable def F_X12_twelfths (n : Nat) (p0 : Int32) (p1 : Int32) (σ : St) : Option (Int32 × St) := if p1 = (1 : Int32) then (some (p0, σ)) else (some (((12 : Int32) - p0), σ))
set_option maxHeartbeats 4000000 in
set_option maxRecDepth 20000 in
theorem c_X12_twelfths (l : Launch) {D : va_G} {A : Nat → Prop} {ad : Nat → Nat} {dA : Nat → ClassId}  (n : Nat) (p0 : Int32) (p1 : Int32) (σ : St) {res : Int32 × St} (hM : F_X12_twelfths n p0 p1 σ = some res) : MI l yX12_twelfths cX12_twelfths 2 (some .int) 1 D (tysR dA) (wdR ad dA) A [.int p0, .int p1] σ (QI D (wdR ad dA) A res) := by
  refine mk_met (by decide +kernel) (Nat.le_of_ble_eq_true rfl) (fun p e s m below meth c K => ?_)
  have K : Cx p s m _ meth c cX12_twelfths 2 (some .int) RX12 D (tysR dA) (wdR ad dA) A := K
  refine v_iload_n K dX12_twelfths_0 1 rfl ?_
  refine v_iconst (v := (1 : Int32)) K dX12_twelfths_1 (by decide) ?_
  refine v_icmp_ne K 9 dX12_twelfths_2 (by decide) hM (fun hM => ?_) (fun hM => ?_)
  · refine v_bipush (v := (12 : Int32)) K dX12_twelfths_9 (by decide) ?_
    refine v_iload_n K dX12_twelfths_11 0 rfl ?_
    refine v_isub K dX12_twelfths_12 ?_
    exact v_iret K rfl dX12_twelfths_13 hM
  · refine v_iload_n K dX12_twelfths_5 0 rfl ?_
    refine v_goto (tgt := 13) K dX12_twelfths_6 (by decide) ?_
    exact v_iret K rfl dX12_twelfths_13 hM
noncomputable def F_X12_wins (n : Nat) (p1 : Int32) (p2 : Int32) (σ : St) : Option (Int32 × St) := bd (F_X12_areTwo n p1 σ) fun r2 s1 => if r2 = 0 then (some ((-1 : Int32), s1)) else (bd (F_X12_in n p2 (0 : Int32) (1 : Int32) s1) fun r4 s3 => if r4 = 0 then (some ((-1 : Int32), s3)) else (bd (F_X12_beginThought n  s3) fun _ s5 => if p2 = 0 then (gd (¬ (10 : Int32) = 0) (bnd (p1 / (10 : Int32)) fun x9 => gd (¬ (10 : Int32) = 0) (bnd (p1 - p1 / (10 : Int32) * (10 : Int32)) fun x10 => bd (F_X12_winsBy n x9 x10 s5) fun r12 s11 => some (r12, s11)))) else (gd (¬ (10 : Int32) = 0) (bnd (p1 - p1 / (10 : Int32) * (10 : Int32)) fun x6 => bd (F_X12_speaker n x6 s5) fun r8 s7 => some (r8, s7)))))
set_option maxHeartbeats 4000000 in
set_option maxRecDepth 20000 in
theorem c_X12_wins (l : Launch) {D : va_G} {A : Nat → Prop} {ad : Nat → Nat} {dA : Nat → ClassId}  (n : Nat) (p1 : Int32) (p2 : Int32) (σ : St) {res : Int32 × St} (hM : F_X12_wins n p1 p2 σ = some res) : MI l yX12_wins cX12_wins 3 (some .int) 6 D (tysR dA) (wdR ad dA) A [.ref (ad 0), .int p1, .int p2] σ (QI D (wdR ad dA) A res) := by
  refine mk_met (by decide +kernel) (Nat.le_of_ble_eq_true rfl) (fun p e s m below meth c K => ?_)
  have K : Cx p s m _ meth c cX12_wins 3 (some .int) RX12 D (tysR dA) (wdR ad dA) A := K
  refine v_aload_n K dX12_wins_0 0 rfl ?_
  refine v_iload_n K dX12_wins_1 1 rfl ?_
  refine x_Vi (As := [.int p1]) (st := []) K uv_X12_areTwo qm_X12_254 dX12_wins_2 rv_X12 (fun _ h => c_X12_areTwo l  n p1 σ h) rfl ⟨(Nat.le_of_ble_eq_true rfl), (Nat.le_of_ble_eq_true rfl)⟩ (Nat.le_of_ble_eq_true rfl) hM (fun r2 s1 hM => ?_)
  refine v_if_eq K 17 dX12_wins_5 (by decide) hM (fun hM => ?_) (fun hM => ?_)
  · refine v_iconst (v := (-1 : Int32)) K dX12_wins_17 (by decide) ?_
    exact v_iret K rfl dX12_wins_18 hM
  · refine v_iload_n K dX12_wins_8 2 rfl ?_
    refine v_iconst (v := (0 : Int32)) K dX12_wins_9 (by decide) ?_
    refine v_iconst (v := (1 : Int32)) K dX12_wins_10 (by decide) ?_
    refine x_Si (As := [.int p2, .int (0 : Int32), .int (1 : Int32)]) (st := []) K us_X12_in qm_X12_125 dX12_wins_11 (fun _ h => c_X12_in l  n p2 (0 : Int32) (1 : Int32) s1 h) rfl ⟨(Nat.le_of_ble_eq_true rfl), (Nat.le_of_ble_eq_true rfl)⟩ (Nat.le_of_ble_eq_true rfl) hM (fun r4 s3 hM => ?_)
    refine v_if_ne K 19 dX12_wins_14 (by decide) hM (fun hM => ?_) (fun hM => ?_)
    · refine v_aload_n K dX12_wins_19 0 rfl ?_
      refine x_Vv (As := []) (st := []) K uv_X12_beginThought qm_X12_257 dX12_wins_20 rv_X12 (fun _ h => c_X12_beginThought l  n  s3 h) rfl ⟨(Nat.le_of_ble_eq_true rfl), (Nat.le_of_ble_eq_true rfl)⟩ (Nat.le_of_ble_eq_true rfl) hM (fun s5 hM => ?_)
      refine v_iload_n K dX12_wins_23 2 rfl ?_
      refine v_if_ne K 42 dX12_wins_24 (by decide) hM (fun hM => ?_) (fun hM => ?_)
      · refine v_aload_n K dX12_wins_42 0 rfl ?_
        refine v_iload_n K dX12_wins_43 1 rfl ?_
        refine v_bipush (v := (10 : Int32)) K dX12_wins_44 (by decide) ?_
        refine v_irem K dX12_wins_46 hM (fun hM => ?_)
        refine v_topi hM (fun x6 hM => ?_)
        refine x_Vi (As := [.int x6]) (st := []) K uv_X12_speaker qm_X12_247 dX12_wins_47 rv_X12 (fun _ h => c_X12_speaker l  n x6 s5 h) rfl ⟨(Nat.le_of_ble_eq_true rfl), (Nat.le_of_ble_eq_true rfl)⟩ (Nat.le_of_ble_eq_true rfl) hM (fun r8 s7 hM => ?_)
        exact v_iret K rfl dX12_wins_50 hM
      · refine v_aload_n K dX12_wins_27 0 rfl ?_
        refine v_iload_n K dX12_wins_28 1 rfl ?_
        refine v_bipush (v := (10 : Int32)) K dX12_wins_29 (by decide) ?_
        refine v_idiv K dX12_wins_31 hM (fun hM => ?_)
        refine v_topi hM (fun x9 hM => ?_)
        refine v_iload_n K dX12_wins_32 1 rfl ?_
        refine v_bipush (v := (10 : Int32)) K dX12_wins_33 (by decide) ?_
        refine v_irem K dX12_wins_35 hM (fun hM => ?_)
        refine v_topi hM (fun x10 hM => ?_)
        refine x_Vi (As := [.int x9, .int x10]) (st := []) K uv_X12_winsBy qm_X12_260 dX12_wins_36 rv_X12 (fun _ h => c_X12_winsBy l  n x9 x10 s5 h) rfl ⟨(Nat.le_of_ble_eq_true rfl), (Nat.le_of_ble_eq_true rfl)⟩ (Nat.le_of_ble_eq_true rfl) hM (fun r12 s11 hM => ?_)
        refine v_goto (tgt := 50) K dX12_wins_39 (by decide) ?_
        exact v_iret K rfl dX12_wins_50 hM
    · refine v_iconst (v := (-1 : Int32)) K dX12_wins_17 (by decide) ?_
      exact v_iret K rfl dX12_wins_18 hM
noncomputable def F_X12_rowFault (n : Nat) (p1 : Int32) (σ : St) : Option (Int32 × St) := gd (vp_in p1 6) (if (gI σ 31 (p1).toNatClampNeg) = (-1 : Int32) then (some ((-11 : Int32), σ)) else (gd (vp_in p1 6) (if (gI σ 31 (p1).toNatClampNeg) = (-2 : Int32) then (some ((0 : Int32), σ)) else (some ((-12 : Int32), σ)))))
set_option maxHeartbeats 4000000 in
set_option maxRecDepth 20000 in
theorem c_X12_rowFault (l : Launch) {D : va_G} {A : Nat → Prop} {ad : Nat → Nat} {dA : Nat → ClassId}  (n : Nat) (p1 : Int32) (σ : St) {res : Int32 × St} (hM : F_X12_rowFault n p1 σ = some res) : MI l yX12_rowFault cX12_rowFault 2 (some .int) 1 D (tysR dA) (wdR ad dA) A [.ref (ad 0), .int p1] σ (QI D (wdR ad dA) A res) := by
  refine mk_met (by decide +kernel) (Nat.le_of_ble_eq_true rfl) (fun p e s m below meth c K => ?_)
  have K : Cx p s m _ meth c cX12_rowFault 2 (some .int) RX12 D (tysR dA) (wdR ad dA) A := K
  refine v_aload_n K dX12_rowFault_0 0 rfl ?_
  refine g_X12_54 K qf_X12_105 dX12_rowFault_1 ?_
  refine v_iload_n K dX12_rowFault_4 1 rfl ?_
  refine ld_R31 K dX12_rowFault_5 hM (fun hM => ?_)
  refine v_iconst (v := (-1 : Int32)) K dX12_rowFault_6 (by decide) ?_
  refine v_icmp_ne K 15 dX12_rowFault_7 (by decide) hM (fun hM => ?_) (fun hM => ?_)
  · refine v_aload_n K dX12_rowFault_15 0 rfl ?_
    refine g_X12_54 K qf_X12_105 dX12_rowFault_16 ?_
    refine v_iload_n K dX12_rowFault_19 1 rfl ?_
    refine ld_R31 K dX12_rowFault_20 hM (fun hM => ?_)
    refine v_bipush (v := (-2 : Int32)) K dX12_rowFault_21 (by decide) ?_
    refine v_icmp_ne K 30 dX12_rowFault_23 (by decide) hM (fun hM => ?_) (fun hM => ?_)
    · refine v_bipush (v := (-12 : Int32)) K dX12_rowFault_30 (by decide) ?_
      exact v_iret K rfl dX12_rowFault_32 hM
    · refine v_iconst (v := (0 : Int32)) K dX12_rowFault_26 (by decide) ?_
      refine v_goto (tgt := 32) K dX12_rowFault_27 (by decide) ?_
      exact v_iret K rfl dX12_rowFault_32 hM
  · refine v_bipush (v := (-11 : Int32)) K dX12_rowFault_10 (by decide) ?_
    refine v_goto (tgt := 32) K dX12_rowFault_12 (by decide) ?_
    exact v_iret K rfl dX12_rowFault_32 hM
noncomputable def F_X12_at (n : Nat) (p1 : Int32) (p2 : Int32) (σ : St) : Option (Int32 × St) := gd (vp_in (((60 : Int32) * p1) + p2) 360) (some ((((gL σ 33 ((((60 : Int32) * p1) + p2)).toNatClampNeg)).toInt32), σ))
set_option maxHeartbeats 4000000 in
set_option maxRecDepth 20000 in
theorem c_X12_at (l : Launch) {D : va_G} {A : Nat → Prop} {ad : Nat → Nat} {dA : Nat → ClassId}  (n : Nat) (p1 : Int32) (p2 : Int32) (σ : St) {res : Int32 × St} (hM : F_X12_at n p1 p2 σ = some res) : MI l yX12_at cX12_at 3 (some .int) 1 D (tysR dA) (wdR ad dA) A [.ref (ad 0), .int p1, .int p2] σ (QI D (wdR ad dA) A res) := by
  refine mk_met (by decide +kernel) (Nat.le_of_ble_eq_true rfl) (fun p e s m below meth c K => ?_)
  have K : Cx p s m _ meth c cX12_at 3 (some .int) RX12 D (tysR dA) (wdR ad dA) A := K
  refine v_aload_n K dX12_at_0 0 rfl ?_
  refine g_X12_56 K qf_X12_111 dX12_at_1 ?_
  refine v_bipush (v := (60 : Int32)) K dX12_at_4 (by decide) ?_
  refine v_iload_n K dX12_at_6 1 rfl ?_
  refine v_imul K dX12_at_7 ?_
  refine v_iload_n K dX12_at_8 2 rfl ?_
  refine v_iadd K dX12_at_9 ?_
  refine ld_R33 K dX12_at_10 hM (fun hM => ?_)
  refine v_l2i K dX12_at_11 ?_
  exact v_iret K rfl dX12_at_12 hM
noncomputable def B_X12_goCourse_1 (J : Nat → Int32 → Int32 → Int32 → Int32 → Int32 → Int32 → Int32 → St → Option (Int32 × St)) (n : Nat)  (l1 : Int32) (l2 : Int32) (σ : St) : Option (Int32 × St) := if (7 : Int32) ≤ l2 then (J 2 l1 (0 : Int32) 0 0 0 0 0 σ) else (gd (vp_in l2 7) (bnd (sI σ 19 (l2).toNatClampNeg (0 : Int32)) fun s3 => bnd (l2 + (1 : Int32)) fun x4 => J 1 l1 x4 0 0 0 0 0 s3))
noncomputable def B_X12_goCourse_2 (J : Nat → Int32 → Int32 → Int32 → Int32 → Int32 → Int32 → Int32 → St → Option (Int32 × St)) (n : Nat)  (l1 : Int32) (l2 : Int32) (σ : St) : Option (Int32 × St) := if (20 : Int32) ≤ l2 then (some ((20 : Int32), σ)) else (gd (vp_in l1 6) (if (((3 : Int32) * l2) + (2 : Int32)) < (gI σ 32 (l1).toNatClampNeg) then (bd (F_X12_at n l1 ((3 : Int32) * l2) σ) fun r6 s5 => bd (F_X12_at n l1 (((3 : Int32) * l2) + (1 : Int32)) s5) fun r8 s7 => bd (F_X12_at n l1 (((3 : Int32) * l2) + (2 : Int32)) s7) fun r10 s9 => bd (F_X12_isLet n r6 r8 s9) fun r12 s11 => if r12 = 0 then (some (l2, s11)) else (bd (F_X12_in n r10 (0 : Int32) (1 : Int32) s11) fun r14 s13 => if r14 = 0 then (some (l2, s13)) else (bd (F_X12_winsBy n r6 r8 s13) fun r16 s15 => bd (F_X12_twelfths n r16 r10 s15) fun r18 s17 => gd (¬ (12 : Int64) = 0) (bnd (((((gI s13 0 30)).toInt64) * ((r18).toInt64)) / (12 : Int64)) fun x19 => bnd (sI s17 0 30 ((x19).toInt32)) fun s20 => if r10 = (1 : Int32) then (if r10 = (1 : Int32) then (J 3 l1 l2 r6 r8 r10 r8 r6 s20) else (J 3 l1 l2 r6 r8 r10 r8 r8 s20)) else (if r10 = (1 : Int32) then (J 3 l1 l2 r6 r8 r10 r6 r6 s20) else (J 3 l1 l2 r6 r8 r10 r6 r8 s20)))))) else (some (l2, σ))))
noncomputable def B_X12_goCourse_3 (J : Nat → Int32 → Int32 → Int32 → Int32 → Int32 → Int32 → Int32 → St → Option (Int32 × St)) (n : Nat)  (l1 : Int32) (l2 : Int32) (l3 : Int32) (l4 : Int32) (l5 : Int32) (l6 : Int32) (k0 : Int32) (σ : St) : Option (Int32 × St) := gd (vp_in l6 7) (gd (vp_in l6 7) (gd (vp_in l6 7) (bnd (sI σ 19 (l6).toNatClampNeg ((gI σ 19 (l6).toNatClampNeg) - (gI σ 4 (l6).toNatClampNeg))) fun s21 => gd (vp_in k0 7) (gd (vp_in l6 7) (gd (vp_in k0 7) (bnd (sI s21 19 (k0).toNatClampNeg ((gI s21 19 (k0).toNatClampNeg) + (gI s21 4 (l6).toNatClampNeg))) fun s22 => bd (F_X12_goCase n l3 l4 l5 s22) fun _ s23 => bnd (l2 + (1 : Int32)) fun x24 => J 2 l1 x24 0 0 0 0 0 s23))))))
noncomputable def S_X12_goCourse  (n : Nat) (J : Nat → Int32 → Int32 → Int32 → Int32 → Int32 → Int32 → Int32 → St → Option (Int32 × St)) : Nat → Int32 → Int32 → Int32 → Int32 → Int32 → Int32 → Int32 → St → Option (Int32 × St) := fun lb a0 a1 a2 a3 a4 a5 a6 σ => match lb with
  | 1 => B_X12_goCourse_1 J n  a0 a1 σ
  | 2 => B_X12_goCourse_2 J n  a0 a1 σ
  | 3 => B_X12_goCourse_3 J n  a0 a1 a2 a3 a4 a5 a6 σ
  | _ => none
noncomputable def L_X12_goCourse  (n : Nat) : Nat → Int32 → Int32 → Int32 → Int32 → Int32 → Int32 → Int32 → St → Option (Int32 × St) := Nat.rec (fun _ _ _ _ _ _ _ _ _ => none) (fun n J => S_X12_goCourse  n J) n
noncomputable def F_X12_goCourse (n : Nat) (p1 : Int32) (σ : St) : Option (Int32 × St) := bd (F_X12_beginThought n  σ) fun _ s1 => bnd (sI s1 0 30 (1000000 : Int32)) fun s2 => L_X12_goCourse  n 1 p1 (0 : Int32) 0 0 0 0 0 s2
set_option maxHeartbeats 4000000 in
set_option maxRecDepth 20000 in
theorem t_X12_goCourse (l : Launch) {p : Program} {e : Env} {s : State} {m : MethodId} {args : Array Value} {below : List Frame} {meth : Method} {c : Code} {D : va_G} {A : Nat → Prop} {ad : Nat → Nat} {dA : Nat → ClassId}   (K : Cx p s m args meth c cX12_goCourse 8 (some .int) RX12 D (tysR dA) (wdR ad dA) A) {res : Int32 × St} (n : Nat) : (∀ (l1 : Int32) (l2 : Int32) (σ : St), L_X12_goCourse  n 1 l1 l2 0 0 0 0 0 σ = some res → V p l e (rmH 6) s m args below meth c 8 D (wdR ad dA) A (MQ below (QI D (wdR ad dA) A res) args s 0 0 A) 13 [(0, .ref (ad 0)), (1, .int l1), (2, .int l2)] [] σ) ∧ (∀ (l1 : Int32) (l2 : Int32) (σ : St), L_X12_goCourse  n 2 l1 l2 0 0 0 0 0 σ = some res → V p l e (rmH 6) s m args below meth c 8 D (wdR ad dA) A (MQ below (QI D (wdR ad dA) A res) args s 0 0 A) 34 [(0, .ref (ad 0)), (1, .int l1), (2, .int l2)] [] σ) ∧ (∀ (l1 : Int32) (l2 : Int32) (l3 : Int32) (l4 : Int32) (l5 : Int32) (l6 : Int32) (k0 : Int32) (σ : St), L_X12_goCourse  n 3 l1 l2 l3 l4 l5 l6 k0 σ = some res → V p l e (rmH 6) s m args below meth c 8 D (wdR ad dA) A (MQ below (QI D (wdR ad dA) A res) args s 0 0 A) 165 [(0, .ref (ad 0)), (1, .int l1), (2, .int l2), (3, .int l3), (4, .int l4), (5, .int l5), (6, .int l6)] [.int k0] σ) := by
  induction n with
  | zero => exact ⟨fun _ _ _ h => (by cases h), fun _ _ _ h => (by cases h), fun _ _ _ _ _ _ _ _ h => (by cases h)⟩
  | succ n ih =>
    obtain ⟨ih_1, ih_2, ih_3⟩ := ih
    refine ⟨?_, ?_, ?_⟩
    · intro l1 l2 σ hM
      have hM : B_X12_goCourse_1 (L_X12_goCourse  n) n  l1 l2 σ = some res := hM
      refine v_iload_n K dX12_goCourse_13 2 rfl ?_
      refine v_bipush (v := (7 : Int32)) K dX12_goCourse_14 (by decide) ?_
      refine v_icmp_ge K 32 dX12_goCourse_16 (by decide) hM (fun hM => ?_) (fun hM => ?_)
      · refine v_iconst (v := (0 : Int32)) K dX12_goCourse_32 (by decide) ?_
        refine v_istore_n K dX12_goCourse_33 rfl (by decide) [(2, .int (0 : Int32)), (0, .ref (ad 0)), (1, .int l1)] rfl ?_
        exact v_sub [1, 2, 0] rfl (ih_2 l1 (0 : Int32) σ hM)
      · refine v_aload_n K dX12_goCourse_19 0 rfl ?_
        refine g_X12_31 K qf_X12_68 dX12_goCourse_20 ?_
        refine v_iload_n K dX12_goCourse_23 2 rfl ?_
        refine v_iconst (v := (0 : Int32)) K dX12_goCourse_24 (by decide) ?_
        refine st_R19 K dX12_goCourse_25 hM (fun s3 hM => ?_)
        refine v_iinc K dX12_goCourse_26 2 rfl (v := (l2 + (1 : Int32))) rfl (by decide) hM (fun y => [(2, .int y), (0, .ref (ad 0)), (1, .int l1)]) (fun _ => rfl) (fun x4 hM => ?_)
        refine v_goto (tgt := 13) K dX12_goCourse_29 (by decide) ?_
        exact v_sub [1, 2, 0] rfl (ih_1 l1 x4 s3 hM)
    · intro l1 l2 σ hM
      have hM : B_X12_goCourse_2 (L_X12_goCourse  n) n  l1 l2 σ = some res := hM
      refine v_iload_n K dX12_goCourse_34 2 rfl ?_
      refine v_bipush (v := (20 : Int32)) K dX12_goCourse_35 (by decide) ?_
      refine v_icmp_ge K 216 dX12_goCourse_37 (by decide) hM (fun hM => ?_) (fun hM => ?_)
      · refine v_bipush (v := (20 : Int32)) K dX12_goCourse_216 (by decide) ?_
        exact v_iret K rfl dX12_goCourse_218 hM
      · refine v_iconst (v := (3 : Int32)) K dX12_goCourse_40 (by decide) ?_
        refine v_iload_n K dX12_goCourse_41 2 rfl ?_
        refine v_imul K dX12_goCourse_42 ?_
        refine v_iconst (v := (2 : Int32)) K dX12_goCourse_43 (by decide) ?_
        refine v_iadd K dX12_goCourse_44 ?_
        refine v_aload_n K dX12_goCourse_45 0 rfl ?_
        refine g_X12_55 K qf_X12_108 dX12_goCourse_46 ?_
        refine v_iload_n K dX12_goCourse_49 1 rfl ?_
        refine ld_R32 K dX12_goCourse_50 hM (fun hM => ?_)
        refine v_icmp_lt K 56 dX12_goCourse_51 (by decide) hM (fun hM => ?_) (fun hM => ?_)
        · refine v_aload_n K dX12_goCourse_56 0 rfl ?_
          refine v_iload_n K dX12_goCourse_57 1 rfl ?_
          refine v_iconst (v := (3 : Int32)) K dX12_goCourse_58 (by decide) ?_
          refine v_iload_n K dX12_goCourse_59 2 rfl ?_
          refine v_imul K dX12_goCourse_60 ?_
          refine x_Vi (As := [.int l1, .int ((3 : Int32) * l2)]) (st := []) K uv_X12_at qm_X12_267 dX12_goCourse_61 rv_X12 (fun _ h => c_X12_at l  n l1 ((3 : Int32) * l2) σ h) rfl ⟨(Nat.le_of_ble_eq_true rfl), (Nat.le_of_ble_eq_true rfl)⟩ (Nat.le_of_ble_eq_true rfl) hM (fun r6 s5 hM => ?_)
          refine v_istore_n K dX12_goCourse_64 rfl (by decide) [(3, .int r6), (0, .ref (ad 0)), (1, .int l1), (2, .int l2)] rfl ?_
          refine v_aload_n K dX12_goCourse_65 1 rfl ?_
          refine v_iload_n K dX12_goCourse_66 2 rfl ?_
          refine v_iconst (v := (3 : Int32)) K dX12_goCourse_67 (by decide) ?_
          refine v_iload_n K dX12_goCourse_68 3 rfl ?_
          refine v_imul K dX12_goCourse_69 ?_
          refine v_iconst (v := (1 : Int32)) K dX12_goCourse_70 (by decide) ?_
          refine v_iadd K dX12_goCourse_71 ?_
          refine x_Vi (As := [.int l1, .int (((3 : Int32) * l2) + (1 : Int32))]) (st := []) K uv_X12_at qm_X12_267 dX12_goCourse_72 rv_X12 (fun _ h => c_X12_at l  n l1 (((3 : Int32) * l2) + (1 : Int32)) s5 h) rfl ⟨(Nat.le_of_ble_eq_true rfl), (Nat.le_of_ble_eq_true rfl)⟩ (Nat.le_of_ble_eq_true rfl) hM (fun r8 s7 hM => ?_)
          refine v_istore K dX12_goCourse_75 (by decide) [(4, .int r8), (3, .int r6), (0, .ref (ad 0)), (1, .int l1), (2, .int l2)] rfl ?_
          refine v_aload_n K dX12_goCourse_77 2 rfl ?_
          refine v_iload_n K dX12_goCourse_78 3 rfl ?_
          refine v_iconst (v := (3 : Int32)) K dX12_goCourse_79 (by decide) ?_
          refine v_iload_n K dX12_goCourse_80 4 rfl ?_
          refine v_imul K dX12_goCourse_81 ?_
          refine v_iconst (v := (2 : Int32)) K dX12_goCourse_82 (by decide) ?_
          refine v_iadd K dX12_goCourse_83 ?_
          refine x_Vi (As := [.int l1, .int (((3 : Int32) * l2) + (2 : Int32))]) (st := []) K uv_X12_at qm_X12_267 dX12_goCourse_84 rv_X12 (fun _ h => c_X12_at l  n l1 (((3 : Int32) * l2) + (2 : Int32)) s7 h) rfl ⟨(Nat.le_of_ble_eq_true rfl), (Nat.le_of_ble_eq_true rfl)⟩ (Nat.le_of_ble_eq_true rfl) hM (fun r10 s9 hM => ?_)
          refine v_istore K dX12_goCourse_87 (by decide) [(5, .int r10), (4, .int r8), (3, .int r6), (0, .ref (ad 0)), (1, .int l1), (2, .int l2)] rfl ?_
          refine v_aload_n K dX12_goCourse_89 3 rfl ?_
          refine v_iload_n K dX12_goCourse_90 2 rfl ?_
          refine v_iload K dX12_goCourse_91 1 rfl ?_
          refine x_Vi (As := [.int r6, .int r8]) (st := []) K uv_X12_isLet qm_X12_270 dX12_goCourse_93 rv_X12 (fun _ h => c_X12_isLet l  n r6 r8 s9 h) rfl ⟨(Nat.le_of_ble_eq_true rfl), (Nat.le_of_ble_eq_true rfl)⟩ (Nat.le_of_ble_eq_true rfl) hM (fun r12 s11 hM => ?_)
          refine v_if_eq K 109 dX12_goCourse_96 (by decide) hM (fun hM => ?_) (fun hM => ?_)
          · refine v_iload_n K dX12_goCourse_109 5 rfl ?_
            exact v_iret K rfl dX12_goCourse_110 hM
          · refine v_iload K dX12_goCourse_99 0 rfl ?_
            refine v_iconst (v := (0 : Int32)) K dX12_goCourse_101 (by decide) ?_
            refine v_iconst (v := (1 : Int32)) K dX12_goCourse_102 (by decide) ?_
            refine x_Si (As := [.int r10, .int (0 : Int32), .int (1 : Int32)]) (st := []) K us_X12_in qm_X12_125 dX12_goCourse_103 (fun _ h => c_X12_in l  n r10 (0 : Int32) (1 : Int32) s11 h) rfl ⟨(Nat.le_of_ble_eq_true rfl), (Nat.le_of_ble_eq_true rfl)⟩ (Nat.le_of_ble_eq_true rfl) hM (fun r14 s13 hM => ?_)
            refine v_if_ne K 111 dX12_goCourse_106 (by decide) hM (fun hM => ?_) (fun hM => ?_)
            · refine v_aload_n K dX12_goCourse_111 3 rfl ?_
              refine v_aload_n K dX12_goCourse_112 3 rfl ?_
              refine g_X12_30 K qf_X12_264 dX12_goCourse_113 ?_
              refine v_i2l K dX12_goCourse_116 ?_
              refine v_aload_n K dX12_goCourse_117 3 rfl ?_
              refine v_iload_n K dX12_goCourse_118 2 rfl ?_
              refine v_iload K dX12_goCourse_119 1 rfl ?_
              refine x_Vi (As := [.int r6, .int r8]) (st := [.long (((gI s13 0 30)).toInt64), .ref (ad 0)]) K uv_X12_winsBy qm_X12_260 dX12_goCourse_121 rv_X12 (fun _ h => c_X12_winsBy l  n r6 r8 s13 h) rfl ⟨(Nat.le_of_ble_eq_true rfl), (Nat.le_of_ble_eq_true rfl)⟩ (Nat.le_of_ble_eq_true rfl) hM (fun r16 s15 hM => ?_)
              refine v_iload K dX12_goCourse_124 0 rfl ?_
              refine x_Si (As := [.int r16, .int r10]) (st := [.long (((gI s13 0 30)).toInt64), .ref (ad 0)]) K us_X12_twelfths qm_X12_273 dX12_goCourse_126 (fun _ h => c_X12_twelfths l  n r16 r10 s15 h) rfl ⟨(Nat.le_of_ble_eq_true rfl), (Nat.le_of_ble_eq_true rfl)⟩ (Nat.le_of_ble_eq_true rfl) hM (fun r18 s17 hM => ?_)
              refine v_i2l K dX12_goCourse_129 ?_
              refine v_lmul K dX12_goCourse_130 ?_
              refine v_ldc2 (v := (12 : Int64)) K ql_X12_276 dX12_goCourse_131 ?_
              refine v_ldiv K dX12_goCourse_134 hM (fun hM => ?_)
              refine v_topl hM (fun x19 hM => ?_)
              refine v_l2i K dX12_goCourse_135 ?_
              refine p_X12_30 K qf_X12_264 dX12_goCourse_136 hM (fun s20 hM => ?_)
              refine v_iload K dX12_goCourse_139 0 rfl ?_
              refine v_iconst (v := (1 : Int32)) K dX12_goCourse_141 (by decide) ?_
              refine v_icmp_ne K 150 dX12_goCourse_142 (by decide) hM (fun hM => ?_) (fun hM => ?_)
              · refine v_iload_n K dX12_goCourse_150 2 rfl ?_
                refine v_istore K dX12_goCourse_151 (by decide) [(6, .int r6), (5, .int r10), (4, .int r8), (3, .int r6), (0, .ref (ad 0)), (1, .int l1), (2, .int l2)] rfl ?_
                refine v_iload K dX12_goCourse_153 1 rfl ?_
                refine v_iconst (v := (1 : Int32)) K dX12_goCourse_155 (by decide) ?_
                refine v_icmp_ne K 163 dX12_goCourse_156 (by decide) hM (fun hM => ?_) (fun hM => ?_)
                · refine v_iload K dX12_goCourse_163 2 rfl ?_
                  exact v_sub [4, 5, 6, 3, 2, 1, 0] rfl (ih_3 l1 l2 r6 r8 r10 r6 r8 s20 hM)
                · refine v_iload_n K dX12_goCourse_159 3 rfl ?_
                  refine v_goto (tgt := 165) K dX12_goCourse_160 (by decide) ?_
                  exact v_sub [4, 5, 6, 3, 2, 1, 0] rfl (ih_3 l1 l2 r6 r8 r10 r6 r6 s20 hM)
              · refine v_iload K dX12_goCourse_145 1 rfl ?_
                refine v_goto (tgt := 151) K dX12_goCourse_147 (by decide) ?_
                refine v_istore K dX12_goCourse_151 (by decide) [(6, .int r8), (5, .int r10), (4, .int r8), (3, .int r6), (0, .ref (ad 0)), (1, .int l1), (2, .int l2)] rfl ?_
                refine v_iload K dX12_goCourse_153 1 rfl ?_
                refine v_iconst (v := (1 : Int32)) K dX12_goCourse_155 (by decide) ?_
                refine v_icmp_ne K 163 dX12_goCourse_156 (by decide) hM (fun hM => ?_) (fun hM => ?_)
                · refine v_iload K dX12_goCourse_163 2 rfl ?_
                  exact v_sub [4, 5, 6, 3, 2, 1, 0] rfl (ih_3 l1 l2 r6 r8 r10 r8 r8 s20 hM)
                · refine v_iload_n K dX12_goCourse_159 3 rfl ?_
                  refine v_goto (tgt := 165) K dX12_goCourse_160 (by decide) ?_
                  exact v_sub [4, 5, 6, 3, 2, 1, 0] rfl (ih_3 l1 l2 r6 r8 r10 r8 r6 s20 hM)
            · refine v_iload_n K dX12_goCourse_109 5 rfl ?_
              exact v_iret K rfl dX12_goCourse_110 hM
        · refine v_iload_n K dX12_goCourse_54 2 rfl ?_
          exact v_iret K rfl dX12_goCourse_55 hM
    · intro l1 l2 l3 l4 l5 l6 k0 σ hM
      have hM : B_X12_goCourse_3 (L_X12_goCourse  n) n  l1 l2 l3 l4 l5 l6 k0 σ = some res := hM
      refine v_istore K dX12_goCourse_165 (by decide) [(7, .int k0), (0, .ref (ad 0)), (1, .int l1), (2, .int l2), (3, .int l3), (4, .int l4), (5, .int l5), (6, .int l6)] rfl ?_
      refine v_aload_n K dX12_goCourse_167 1 rfl ?_
      refine g_X12_31 K qf_X12_68 dX12_goCourse_168 ?_
      refine v_iload K dX12_goCourse_171 7 rfl ?_
      refine v_dup2 K dX12_goCourse_173 rfl rfl ?_
      refine ld_R19 K dX12_goCourse_174 hM (fun hM => ?_)
      refine v_aload_n K dX12_goCourse_175 1 rfl ?_
      refine g_X12_5 K qf_X12_21 dX12_goCourse_176 ?_
      refine v_iload K dX12_goCourse_179 7 rfl ?_
      refine ld_R4 K dX12_goCourse_181 hM (fun hM => ?_)
      refine v_isub K dX12_goCourse_182 ?_
      refine st_R19 K dX12_goCourse_183 hM (fun s21 hM => ?_)
      refine v_aload_n K dX12_goCourse_184 1 rfl ?_
      refine g_X12_31 K qf_X12_68 dX12_goCourse_185 ?_
      refine v_iload K dX12_goCourse_188 0 rfl ?_
      refine v_dup2 K dX12_goCourse_190 rfl rfl ?_
      refine ld_R19 K dX12_goCourse_191 hM (fun hM => ?_)
      refine v_aload_n K dX12_goCourse_192 1 rfl ?_
      refine g_X12_5 K qf_X12_21 dX12_goCourse_193 ?_
      refine v_iload K dX12_goCourse_196 7 rfl ?_
      refine ld_R4 K dX12_goCourse_198 hM (fun hM => ?_)
      refine v_iadd K dX12_goCourse_199 ?_
      refine st_R19 K dX12_goCourse_200 hM (fun s22 hM => ?_)
      refine v_aload_n K dX12_goCourse_201 1 rfl ?_
      refine v_iload_n K dX12_goCourse_202 4 rfl ?_
      refine v_iload K dX12_goCourse_203 5 rfl ?_
      refine v_iload K dX12_goCourse_205 6 rfl ?_
      refine x_Vv (As := [.int l3, .int l4, .int l5]) (st := []) K uv_X12_goCase qm_X12_278 dX12_goCourse_207 rv_X12 (fun _ h => c_X12_goCase l  n l3 l4 l5 s22 h) rfl ⟨(Nat.le_of_ble_eq_true rfl), (Nat.le_of_ble_eq_true rfl)⟩ (Nat.le_of_ble_eq_true rfl) hM (fun s23 hM => ?_)
      refine v_iinc K dX12_goCourse_210 3 rfl (v := (l2 + (1 : Int32))) rfl (by decide) hM (fun y => [(2, .int y), (7, .int k0), (0, .ref (ad 0)), (1, .int l1), (3, .int l3), (4, .int l4), (5, .int l5), (6, .int l6)]) (fun _ => rfl) (fun x24 hM => ?_)
      refine v_goto (tgt := 34) K dX12_goCourse_213 (by decide) ?_
      exact v_sub [2, 3, 0] rfl (ih_2 l1 x24 s23 hM)
set_option maxHeartbeats 4000000 in
set_option maxRecDepth 20000 in
theorem c_X12_goCourse (l : Launch) {D : va_G} {A : Nat → Prop} {ad : Nat → Nat} {dA : Nat → ClassId}  (n : Nat) (p1 : Int32) (σ : St) {res : Int32 × St} (hM : F_X12_goCourse n p1 σ = some res) : MI l yX12_goCourse cX12_goCourse 8 (some .int) 6 D (tysR dA) (wdR ad dA) A [.ref (ad 0), .int p1] σ (QI D (wdR ad dA) A res) := by
  refine mk_met (by decide +kernel) (Nat.le_of_ble_eq_true rfl) (fun p e s m below meth c K => ?_)
  have K : Cx p s m _ meth c cX12_goCourse 8 (some .int) RX12 D (tysR dA) (wdR ad dA) A := K
  obtain ⟨ih_1, ih_2, ih_3⟩ := t_X12_goCourse l    K (res := res) n (below := below) (e := e)
  refine v_aload_n K dX12_goCourse_0 0 rfl ?_
  refine x_Vv (As := []) (st := []) K uv_X12_beginThought qm_X12_257 dX12_goCourse_1 rv_X12 (fun _ h => c_X12_beginThought l  n  σ h) rfl ⟨(Nat.le_of_ble_eq_true rfl), (Nat.le_of_ble_eq_true rfl)⟩ (Nat.le_of_ble_eq_true rfl) hM (fun s1 hM => ?_)
  refine v_aload_n K dX12_goCourse_4 0 rfl ?_
  refine v_ldcw (v := (1000000 : Int32)) K qc_X12_263 dX12_goCourse_5 ?_
  refine p_X12_30 K qf_X12_264 dX12_goCourse_8 hM (fun s2 hM => ?_)
  refine v_iconst (v := (0 : Int32)) K dX12_goCourse_11 (by decide) ?_
  refine v_istore_n K dX12_goCourse_12 rfl (by decide) [(2, .int (0 : Int32)), (0, .ref (ad 0)), (1, .int p1)] rfl ?_
  exact v_sub [1, 2, 0] rfl (ih_1 p1 (0 : Int32) s2 hM)
noncomputable def F_X12_course (n : Nat) (p1 : Int32) (p2 : Int32) (σ : St) : Option (Int32 × St) := bd (F_X12_isShelf n p1 σ) fun r2 s1 => if r2 = 0 then (some ((-2000000000 : Int32), s1)) else (bd (F_X12_in n p2 (-1 : Int32) ((gI s1 0 1) - (1 : Int32)) s1) fun r4 s3 => if r4 = 0 then (some ((-2000000000 : Int32), s3)) else (bd (F_X12_rowFault n p1 s3) fun r6 s5 => if 0 ≤ r6 then (bd (F_X12_goCourse n p1 s5) fun r8 s7 => if 0 ≤ p2 then (gd (vp_in p2 7) (some ((gI s7 17 (p2).toNatClampNeg), s7))) else (some (r8, s7))) else (some ((-2000000000 : Int32), s5))))
set_option maxHeartbeats 4000000 in
set_option maxRecDepth 20000 in
theorem c_X12_course (l : Launch) {D : va_G} {A : Nat → Prop} {ad : Nat → Nat} {dA : Nat → ClassId}  (n : Nat) (p1 : Int32) (p2 : Int32) (σ : St) {res : Int32 × St} (hM : F_X12_course n p1 p2 σ = some res) : MI l yX12_course cX12_course 4 (some .int) 7 D (tysR dA) (wdR ad dA) A [.ref (ad 0), .int p1, .int p2] σ (QI D (wdR ad dA) A res) := by
  refine mk_met (by decide +kernel) (Nat.le_of_ble_eq_true rfl) (fun p e s m below meth c K => ?_)
  have K : Cx p s m _ meth c cX12_course 4 (some .int) RX12 D (tysR dA) (wdR ad dA) A := K
  refine v_iload_n K dX12_course_0 1 rfl ?_
  refine x_Si (As := [.int p1]) (st := []) K us_X12_isShelf qm_X12_137 dX12_course_1 (fun _ h => c_X12_isShelf l  n p1 σ h) rfl ⟨(Nat.le_of_ble_eq_true rfl), (Nat.le_of_ble_eq_true rfl)⟩ (Nat.le_of_ble_eq_true rfl) hM (fun r2 s1 hM => ?_)
  refine v_if_eq K 29 dX12_course_4 (by decide) hM (fun hM => ?_) (fun hM => ?_)
  · refine v_ldc (v := (-2000000000 : Int32)) K qc_X12_163 dX12_course_29 ?_
    exact v_iret K rfl dX12_course_31 hM
  · refine v_iload_n K dX12_course_7 2 rfl ?_
    refine v_iconst (v := (-1 : Int32)) K dX12_course_8 (by decide) ?_
    refine v_aload_n K dX12_course_9 0 rfl ?_
    refine g_X12_1 K qf_X12_122 dX12_course_10 ?_
    refine v_iconst (v := (1 : Int32)) K dX12_course_13 (by decide) ?_
    refine v_isub K dX12_course_14 ?_
    refine x_Si (As := [.int p2, .int (-1 : Int32), .int ((gI s1 0 1) - (1 : Int32))]) (st := []) K us_X12_in qm_X12_125 dX12_course_15 (fun _ h => c_X12_in l  n p2 (-1 : Int32) ((gI s1 0 1) - (1 : Int32)) s1 h) rfl ⟨(Nat.le_of_ble_eq_true rfl), (Nat.le_of_ble_eq_true rfl)⟩ (Nat.le_of_ble_eq_true rfl) hM (fun r4 s3 hM => ?_)
    refine v_if_eq K 29 dX12_course_18 (by decide) hM (fun hM => ?_) (fun hM => ?_)
    · refine v_ldc (v := (-2000000000 : Int32)) K qc_X12_163 dX12_course_29 ?_
      exact v_iret K rfl dX12_course_31 hM
    · refine v_aload_n K dX12_course_21 0 rfl ?_
      refine v_iload_n K dX12_course_22 1 rfl ?_
      refine x_Vi (As := [.int p1]) (st := []) K uv_X12_rowFault qm_X12_281 dX12_course_23 rv_X12 (fun _ h => c_X12_rowFault l  n p1 s3 h) rfl ⟨(Nat.le_of_ble_eq_true rfl), (Nat.le_of_ble_eq_true rfl)⟩ (Nat.le_of_ble_eq_true rfl) hM (fun r6 s5 hM => ?_)
      refine v_if_ge K 32 dX12_course_26 (by decide) hM (fun hM => ?_) (fun hM => ?_)
      · refine v_aload_n K dX12_course_32 0 rfl ?_
        refine v_iload_n K dX12_course_33 1 rfl ?_
        refine x_Vi (As := [.int p1]) (st := []) K uv_X12_goCourse qm_X12_284 dX12_course_34 rv_X12 (fun _ h => c_X12_goCourse l  n p1 s5 h) rfl ⟨(Nat.le_of_ble_eq_true rfl), (Nat.le_of_ble_eq_true rfl)⟩ (Nat.le_of_ble_eq_true rfl) hM (fun r8 s7 hM => ?_)
        refine v_istore_n K dX12_course_37 rfl (by decide) [(3, .int r8), (0, .ref (ad 0)), (1, .int p1), (2, .int p2)] rfl ?_
        refine v_iload_n K dX12_course_38 3 rfl ?_
        refine v_if_ge K 46 dX12_course_39 (by decide) hM (fun hM => ?_) (fun hM => ?_)
        · refine v_aload_n K dX12_course_46 1 rfl ?_
          refine g_X12_26 K qf_X12_62 dX12_course_47 ?_
          refine v_iload_n K dX12_course_50 3 rfl ?_
          refine ld_R17 K dX12_course_51 hM (fun hM => ?_)
          exact v_iret K rfl dX12_course_52 hM
        · refine v_iload_n K dX12_course_42 0 rfl ?_
          refine v_goto (tgt := 52) K dX12_course_43 (by decide) ?_
          exact v_iret K rfl dX12_course_52 hM
      · refine v_ldc (v := (-2000000000 : Int32)) K qc_X12_163 dX12_course_29 ?_
        exact v_iret K rfl dX12_course_31 hM
noncomputable def F_X12_ends (n : Nat) (p1 : Int32) (p2 : Int32) (p3 : Int32) (σ : St) : Option (Int32 × St) := bd (F_X12_isShelf n p1 σ) fun r2 s1 => if r2 = 0 then (some ((-2000000000 : Int32), s1)) else (bd (F_X12_in n p3 (0 : Int32) (1 : Int32) s1) fun r4 s3 => if r4 = 0 then (some ((-2000000000 : Int32), s3)) else (bd (F_X12_isPerson n p2 s3) fun r6 s5 => if r6 = 0 then (some ((-2000000000 : Int32), s5)) else (bd (F_X12_rowFault n p1 s5) fun r8 s7 => if 0 ≤ r8 then (bd (F_X12_goCourse n p1 s7) fun r10 s9 => if p3 = 0 then (some ((gI s9 0 30), s9)) else (gd (vp_in p2 7) (some ((gI s9 19 (p2).toNatClampNeg), s9)))) else (some ((-2000000000 : Int32), s7)))))
set_option maxHeartbeats 4000000 in
set_option maxRecDepth 20000 in
theorem c_X12_ends (l : Launch) {D : va_G} {A : Nat → Prop} {ad : Nat → Nat} {dA : Nat → ClassId}  (n : Nat) (p1 : Int32) (p2 : Int32) (p3 : Int32) (σ : St) {res : Int32 × St} (hM : F_X12_ends n p1 p2 p3 σ = some res) : MI l yX12_ends cX12_ends 4 (some .int) 7 D (tysR dA) (wdR ad dA) A [.ref (ad 0), .int p1, .int p2, .int p3] σ (QI D (wdR ad dA) A res) := by
  refine mk_met (by decide +kernel) (Nat.le_of_ble_eq_true rfl) (fun p e s m below meth c K => ?_)
  have K : Cx p s m _ meth c cX12_ends 4 (some .int) RX12 D (tysR dA) (wdR ad dA) A := K
  refine v_iload_n K dX12_ends_0 1 rfl ?_
  refine x_Si (As := [.int p1]) (st := []) K us_X12_isShelf qm_X12_137 dX12_ends_1 (fun _ h => c_X12_isShelf l  n p1 σ h) rfl ⟨(Nat.le_of_ble_eq_true rfl), (Nat.le_of_ble_eq_true rfl)⟩ (Nat.le_of_ble_eq_true rfl) hM (fun r2 s1 hM => ?_)
  refine v_if_eq K 32 dX12_ends_4 (by decide) hM (fun hM => ?_) (fun hM => ?_)
  · refine v_ldc (v := (-2000000000 : Int32)) K qc_X12_163 dX12_ends_32 ?_
    exact v_iret K rfl dX12_ends_34 hM
  · refine v_iload_n K dX12_ends_7 3 rfl ?_
    refine v_iconst (v := (0 : Int32)) K dX12_ends_8 (by decide) ?_
    refine v_iconst (v := (1 : Int32)) K dX12_ends_9 (by decide) ?_
    refine x_Si (As := [.int p3, .int (0 : Int32), .int (1 : Int32)]) (st := []) K us_X12_in qm_X12_125 dX12_ends_10 (fun _ h => c_X12_in l  n p3 (0 : Int32) (1 : Int32) s1 h) rfl ⟨(Nat.le_of_ble_eq_true rfl), (Nat.le_of_ble_eq_true rfl)⟩ (Nat.le_of_ble_eq_true rfl) hM (fun r4 s3 hM => ?_)
    refine v_if_eq K 32 dX12_ends_13 (by decide) hM (fun hM => ?_) (fun hM => ?_)
    · refine v_ldc (v := (-2000000000 : Int32)) K qc_X12_163 dX12_ends_32 ?_
      exact v_iret K rfl dX12_ends_34 hM
    · refine v_aload_n K dX12_ends_16 0 rfl ?_
      refine v_iload_n K dX12_ends_17 2 rfl ?_
      refine x_Vi (As := [.int p2]) (st := []) K uv_X12_isPerson qm_X12_129 dX12_ends_18 rv_X12 (fun _ h => c_X12_isPerson l  n p2 s3 h) rfl ⟨(Nat.le_of_ble_eq_true rfl), (Nat.le_of_ble_eq_true rfl)⟩ (Nat.le_of_ble_eq_true rfl) hM (fun r6 s5 hM => ?_)
      refine v_if_eq K 32 dX12_ends_21 (by decide) hM (fun hM => ?_) (fun hM => ?_)
      · refine v_ldc (v := (-2000000000 : Int32)) K qc_X12_163 dX12_ends_32 ?_
        exact v_iret K rfl dX12_ends_34 hM
      · refine v_aload_n K dX12_ends_24 0 rfl ?_
        refine v_iload_n K dX12_ends_25 1 rfl ?_
        refine x_Vi (As := [.int p1]) (st := []) K uv_X12_rowFault qm_X12_281 dX12_ends_26 rv_X12 (fun _ h => c_X12_rowFault l  n p1 s5 h) rfl ⟨(Nat.le_of_ble_eq_true rfl), (Nat.le_of_ble_eq_true rfl)⟩ (Nat.le_of_ble_eq_true rfl) hM (fun r8 s7 hM => ?_)
        refine v_if_ge K 35 dX12_ends_29 (by decide) hM (fun hM => ?_) (fun hM => ?_)
        · refine v_aload_n K dX12_ends_35 0 rfl ?_
          refine v_iload_n K dX12_ends_36 1 rfl ?_
          refine x_Vi (As := [.int p1]) (st := []) K uv_X12_goCourse qm_X12_284 dX12_ends_37 rv_X12 (fun _ h => c_X12_goCourse l  n p1 s7 h) rfl ⟨(Nat.le_of_ble_eq_true rfl), (Nat.le_of_ble_eq_true rfl)⟩ (Nat.le_of_ble_eq_true rfl) hM (fun r10 s9 hM => ?_)
          refine v_pop K dX12_ends_40 rfl ?_
          refine v_iload_n K dX12_ends_41 3 rfl ?_
          refine v_if_ne K 52 dX12_ends_42 (by decide) hM (fun hM => ?_) (fun hM => ?_)
          · refine v_aload_n K dX12_ends_52 0 rfl ?_
            refine g_X12_31 K qf_X12_68 dX12_ends_53 ?_
            refine v_iload_n K dX12_ends_56 2 rfl ?_
            refine ld_R19 K dX12_ends_57 hM (fun hM => ?_)
            exact v_iret K rfl dX12_ends_58 hM
          · refine v_aload_n K dX12_ends_45 0 rfl ?_
            refine g_X12_30 K qf_X12_264 dX12_ends_46 ?_
            refine v_goto (tgt := 58) K dX12_ends_49 (by decide) ?_
            exact v_iret K rfl dX12_ends_58 hM
        · refine v_ldc (v := (-2000000000 : Int32)) K qc_X12_163 dX12_ends_32 ?_
          exact v_iret K rfl dX12_ends_34 hM
noncomputable def B_X12_best_1 (J : Nat → Int32 → Int32 → Int32 → Int32 → Int32 → Int32 → Int32 → St → Option (Int32 × St)) (n : Nat)  (l1 : Int32) (l2 : Int32) (l3 : Int32) (l4 : Int32) (l5 : Int32) (σ : St) : Option (Int32 × St) := if (gI σ 0 1) ≤ l5 then (some (l3, σ)) else (if l5 = l1 then (bnd (l5 + (1 : Int32)) fun x8 => J 1 l1 l2 l3 l4 x8 0 0 σ) else (bd (F_X12_winsBy n l1 l5 σ) fun r7 s6 => if l2 = 0 then (J 2 l1 l2 l3 l4 l5 (1 : Int32) r7 s6) else (J 2 l1 l2 l3 l4 l5 (0 : Int32) r7 s6)))
noncomputable def B_X12_best_2 (J : Nat → Int32 → Int32 → Int32 → Int32 → Int32 → Int32 → Int32 → St → Option (Int32 × St)) (n : Nat)  (l1 : Int32) (l2 : Int32) (l3 : Int32) (l4 : Int32) (l5 : Int32) (k0 : Int32) (k1 : Int32) (σ : St) : Option (Int32 × St) := bd (F_X12_twelfths n k1 k0 σ) fun r10 s9 => if l4 < r10 then (bnd (l5 + (1 : Int32)) fun x11 => J 1 l1 l2 l5 r10 x11 0 0 s9) else (bnd (l5 + (1 : Int32)) fun x12 => J 1 l1 l2 l3 l4 x12 0 0 s9)
noncomputable def S_X12_best  (n : Nat) (J : Nat → Int32 → Int32 → Int32 → Int32 → Int32 → Int32 → Int32 → St → Option (Int32 × St)) : Nat → Int32 → Int32 → Int32 → Int32 → Int32 → Int32 → Int32 → St → Option (Int32 × St) := fun lb a0 a1 a2 a3 a4 a5 a6 σ => match lb with
  | 1 => B_X12_best_1 J n  a0 a1 a2 a3 a4 σ
  | 2 => B_X12_best_2 J n  a0 a1 a2 a3 a4 a5 a6 σ
  | _ => none
noncomputable def L_X12_best  (n : Nat) : Nat → Int32 → Int32 → Int32 → Int32 → Int32 → Int32 → Int32 → St → Option (Int32 × St) := Nat.rec (fun _ _ _ _ _ _ _ _ _ => none) (fun n J => S_X12_best  n J) n
noncomputable def F_X12_best (n : Nat) (p1 : Int32) (p2 : Int32) (σ : St) : Option (Int32 × St) := bd (F_X12_isPerson n p1 σ) fun r2 s1 => if r2 = 0 then (some ((-1 : Int32), s1)) else (bd (F_X12_in n p2 (0 : Int32) (1 : Int32) s1) fun r4 s3 => if r4 = 0 then (some ((-1 : Int32), s3)) else (bd (F_X12_beginThought n  s3) fun _ s5 => gd (vp_in p1 7) (if (gI s5 17 (p1).toNatClampNeg) < 0 then (L_X12_best  n 1 p1 p2 (-2 : Int32) (-1 : Int32) (0 : Int32) 0 0 s5) else (some ((-2 : Int32), s5)))))
set_option maxHeartbeats 4000000 in
set_option maxRecDepth 20000 in
theorem t_X12_best (l : Launch) {p : Program} {e : Env} {s : State} {m : MethodId} {args : Array Value} {below : List Frame} {meth : Method} {c : Code} {D : va_G} {A : Nat → Prop} {ad : Nat → Nat} {dA : Nat → ClassId}   (K : Cx p s m args meth c cX12_best 7 (some .int) RX12 D (tysR dA) (wdR ad dA) A) {res : Int32 × St} (n : Nat) : (∀ (l1 : Int32) (l2 : Int32) (l3 : Int32) (l4 : Int32) (l5 : Int32) (σ : St), L_X12_best  n 1 l1 l2 l3 l4 l5 0 0 σ = some res → V p l e (rmH 6) s m args below meth c 7 D (wdR ad dA) A (MQ below (QI D (wdR ad dA) A res) args s 0 0 A) 44 [(0, .ref (ad 0)), (1, .int l1), (2, .int l2), (3, .int l3), (4, .int l4), (5, .int l5)] [] σ) ∧ (∀ (l1 : Int32) (l2 : Int32) (l3 : Int32) (l4 : Int32) (l5 : Int32) (k0 : Int32) (k1 : Int32) (σ : St), L_X12_best  n 2 l1 l2 l3 l4 l5 k0 k1 σ = some res → V p l e (rmH 6) s m args below meth c 7 D (wdR ad dA) A (MQ below (QI D (wdR ad dA) A res) args s 0 0 A) 78 [(0, .ref (ad 0)), (1, .int l1), (2, .int l2), (3, .int l3), (4, .int l4), (5, .int l5)] [.int k0, .int k1] σ) := by
  induction n with
  | zero => exact ⟨fun _ _ _ _ _ _ h => (by cases h), fun _ _ _ _ _ _ _ _ h => (by cases h)⟩
  | succ n ih =>
    obtain ⟨ih_1, ih_2⟩ := ih
    refine ⟨?_, ?_⟩
    · intro l1 l2 l3 l4 l5 σ hM
      have hM : B_X12_best_1 (L_X12_best  n) n  l1 l2 l3 l4 l5 σ = some res := hM
      refine v_iload K dX12_best_44 5 rfl ?_
      refine v_aload_n K dX12_best_46 0 rfl ?_
      refine g_X12_1 K qf_X12_122 dX12_best_47 ?_
      refine v_icmp_ge K 106 dX12_best_50 (by decide) hM (fun hM => ?_) (fun hM => ?_)
      · refine v_iload_n K dX12_best_106 3 rfl ?_
        exact v_iret K rfl dX12_best_107 hM
      · refine v_iload K dX12_best_53 5 rfl ?_
        refine v_iload_n K dX12_best_55 1 rfl ?_
        refine v_icmp_ne K 62 dX12_best_56 (by decide) hM (fun hM => ?_) (fun hM => ?_)
        · refine v_aload_n K dX12_best_62 0 rfl ?_
          refine v_iload_n K dX12_best_63 1 rfl ?_
          refine v_iload K dX12_best_64 5 rfl ?_
          refine x_Vi (As := [.int l1, .int l5]) (st := []) K uv_X12_winsBy qm_X12_260 dX12_best_66 rv_X12 (fun _ h => c_X12_winsBy l  n l1 l5 σ h) rfl ⟨(Nat.le_of_ble_eq_true rfl), (Nat.le_of_ble_eq_true rfl)⟩ (Nat.le_of_ble_eq_true rfl) hM (fun r7 s6 hM => ?_)
          refine v_iload_n K dX12_best_69 2 rfl ?_
          refine v_if_ne K 77 dX12_best_70 (by decide) hM (fun hM => ?_) (fun hM => ?_)
          · refine v_iconst (v := (0 : Int32)) K dX12_best_77 (by decide) ?_
            exact v_sub [0, 1, 2, 3, 4, 5] rfl (ih_2 l1 l2 l3 l4 l5 (0 : Int32) r7 s6 hM)
          · refine v_iconst (v := (1 : Int32)) K dX12_best_73 (by decide) ?_
            refine v_goto (tgt := 78) K dX12_best_74 (by decide) ?_
            exact v_sub [0, 1, 2, 3, 4, 5] rfl (ih_2 l1 l2 l3 l4 l5 (1 : Int32) r7 s6 hM)
        · refine v_goto (tgt := 100) K dX12_best_59 (by decide) ?_
          refine v_iinc K dX12_best_100 5 rfl (v := (l5 + (1 : Int32))) rfl (by decide) hM (fun y => [(5, .int y), (0, .ref (ad 0)), (1, .int l1), (2, .int l2), (3, .int l3), (4, .int l4)]) (fun _ => rfl) (fun x8 hM => ?_)
          refine v_goto (tgt := 44) K dX12_best_103 (by decide) ?_
          exact v_sub [1, 2, 3, 4, 5, 0] rfl (ih_1 l1 l2 l3 l4 x8 σ hM)
    · intro l1 l2 l3 l4 l5 k0 k1 σ hM
      have hM : B_X12_best_2 (L_X12_best  n) n  l1 l2 l3 l4 l5 k0 k1 σ = some res := hM
      refine x_Si (As := [.int k1, .int k0]) (st := []) K us_X12_twelfths qm_X12_273 dX12_best_78 (fun _ h => c_X12_twelfths l  n k1 k0 σ h) rfl ⟨(Nat.le_of_ble_eq_true rfl), (Nat.le_of_ble_eq_true rfl)⟩ (Nat.le_of_ble_eq_true rfl) hM (fun r10 s9 hM => ?_)
      refine v_istore K dX12_best_81 (by decide) [(6, .int r10), (0, .ref (ad 0)), (1, .int l1), (2, .int l2), (3, .int l3), (4, .int l4), (5, .int l5)] rfl ?_
      refine v_iload K dX12_best_83 0 rfl ?_
      refine v_iload K dX12_best_85 5 rfl ?_
      refine v_icmp_gt K 93 dX12_best_87 (by decide) hM (fun hM => ?_) (fun hM => ?_)
      · refine v_iload K dX12_best_93 6 rfl ?_
        refine v_istore_n K dX12_best_95 rfl (by decide) [(3, .int l5), (6, .int r10), (0, .ref (ad 0)), (1, .int l1), (2, .int l2), (4, .int l4), (5, .int l5)] rfl ?_
        refine v_iload K dX12_best_96 1 rfl ?_
        refine v_istore K dX12_best_98 (by decide) [(4, .int r10), (3, .int l5), (6, .int r10), (0, .ref (ad 0)), (1, .int l1), (2, .int l2), (5, .int l5)] rfl ?_
        refine v_iinc K dX12_best_100 6 rfl (v := (l5 + (1 : Int32))) rfl (by decide) hM (fun y => [(5, .int y), (4, .int r10), (3, .int l5), (6, .int r10), (0, .ref (ad 0)), (1, .int l1), (2, .int l2)]) (fun _ => rfl) (fun x11 hM => ?_)
        refine v_goto (tgt := 44) K dX12_best_103 (by decide) ?_
        exact v_sub [4, 5, 6, 2, 1, 0] rfl (ih_1 l1 l2 l5 r10 x11 s9 hM)
      · refine v_goto (tgt := 100) K dX12_best_90 (by decide) ?_
        refine v_iinc K dX12_best_100 6 rfl (v := (l5 + (1 : Int32))) rfl (by decide) hM (fun y => [(5, .int y), (6, .int r10), (0, .ref (ad 0)), (1, .int l1), (2, .int l2), (3, .int l3), (4, .int l4)]) (fun _ => rfl) (fun x12 hM => ?_)
        refine v_goto (tgt := 44) K dX12_best_103 (by decide) ?_
        exact v_sub [2, 3, 4, 5, 6, 0] rfl (ih_1 l1 l2 l3 l4 x12 s9 hM)
set_option maxHeartbeats 4000000 in
set_option maxRecDepth 20000 in
theorem c_X12_best (l : Launch) {D : va_G} {A : Nat → Prop} {ad : Nat → Nat} {dA : Nat → ClassId}  (n : Nat) (p1 : Int32) (p2 : Int32) (σ : St) {res : Int32 × St} (hM : F_X12_best n p1 p2 σ = some res) : MI l yX12_best cX12_best 7 (some .int) 6 D (tysR dA) (wdR ad dA) A [.ref (ad 0), .int p1, .int p2] σ (QI D (wdR ad dA) A res) := by
  refine mk_met (by decide +kernel) (Nat.le_of_ble_eq_true rfl) (fun p e s m below meth c K => ?_)
  have K : Cx p s m _ meth c cX12_best 7 (some .int) RX12 D (tysR dA) (wdR ad dA) A := K
  obtain ⟨ih_1, ih_2⟩ := t_X12_best l    K (res := res) n (below := below) (e := e)
  refine v_aload_n K dX12_best_0 0 rfl ?_
  refine v_iload_n K dX12_best_1 1 rfl ?_
  refine x_Vi (As := [.int p1]) (st := []) K uv_X12_isPerson qm_X12_129 dX12_best_2 rv_X12 (fun _ h => c_X12_isPerson l  n p1 σ h) rfl ⟨(Nat.le_of_ble_eq_true rfl), (Nat.le_of_ble_eq_true rfl)⟩ (Nat.le_of_ble_eq_true rfl) hM (fun r2 s1 hM => ?_)
  refine v_if_eq K 17 dX12_best_5 (by decide) hM (fun hM => ?_) (fun hM => ?_)
  · refine v_iconst (v := (-1 : Int32)) K dX12_best_17 (by decide) ?_
    exact v_iret K rfl dX12_best_18 hM
  · refine v_iload_n K dX12_best_8 2 rfl ?_
    refine v_iconst (v := (0 : Int32)) K dX12_best_9 (by decide) ?_
    refine v_iconst (v := (1 : Int32)) K dX12_best_10 (by decide) ?_
    refine x_Si (As := [.int p2, .int (0 : Int32), .int (1 : Int32)]) (st := []) K us_X12_in qm_X12_125 dX12_best_11 (fun _ h => c_X12_in l  n p2 (0 : Int32) (1 : Int32) s1 h) rfl ⟨(Nat.le_of_ble_eq_true rfl), (Nat.le_of_ble_eq_true rfl)⟩ (Nat.le_of_ble_eq_true rfl) hM (fun r4 s3 hM => ?_)
    refine v_if_ne K 19 dX12_best_14 (by decide) hM (fun hM => ?_) (fun hM => ?_)
    · refine v_aload_n K dX12_best_19 0 rfl ?_
      refine x_Vv (As := []) (st := []) K uv_X12_beginThought qm_X12_257 dX12_best_20 rv_X12 (fun _ h => c_X12_beginThought l  n  s3 h) rfl ⟨(Nat.le_of_ble_eq_true rfl), (Nat.le_of_ble_eq_true rfl)⟩ (Nat.le_of_ble_eq_true rfl) hM (fun s5 hM => ?_)
      refine v_aload_n K dX12_best_23 0 rfl ?_
      refine g_X12_26 K qf_X12_62 dX12_best_24 ?_
      refine v_iload_n K dX12_best_27 1 rfl ?_
      refine ld_R17 K dX12_best_28 hM (fun hM => ?_)
      refine v_if_lt K 35 dX12_best_29 (by decide) hM (fun hM => ?_) (fun hM => ?_)
      · refine v_bipush (v := (-2 : Int32)) K dX12_best_35 (by decide) ?_
        refine v_istore_n K dX12_best_37 rfl (by decide) [(3, .int (-2 : Int32)), (0, .ref (ad 0)), (1, .int p1), (2, .int p2)] rfl ?_
        refine v_iconst (v := (-1 : Int32)) K dX12_best_38 (by decide) ?_
        refine v_istore K dX12_best_39 (by decide) [(4, .int (-1 : Int32)), (3, .int (-2 : Int32)), (0, .ref (ad 0)), (1, .int p1), (2, .int p2)] rfl ?_
        refine v_iconst (v := (0 : Int32)) K dX12_best_41 (by decide) ?_
        refine v_istore K dX12_best_42 (by decide) [(5, .int (0 : Int32)), (4, .int (-1 : Int32)), (3, .int (-2 : Int32)), (0, .ref (ad 0)), (1, .int p1), (2, .int p2)] rfl ?_
        exact v_sub [3, 4, 5, 2, 1, 0] rfl (ih_1 p1 p2 (-2 : Int32) (-1 : Int32) (0 : Int32) s5 hM)
      · refine v_bipush (v := (-2 : Int32)) K dX12_best_32 (by decide) ?_
        exact v_iret K rfl dX12_best_34 hM
    · refine v_iconst (v := (-1 : Int32)) K dX12_best_17 (by decide) ?_
      exact v_iret K rfl dX12_best_18 hM
noncomputable def B_X12_asPart_1 (J : Nat → Int32 → Int64 → Int64 → Int64 → Int64 → St → Option (Int64 × St)) (n : Nat)  (l4 : Int32) (l0 : Int64) (l2 : Int64) (l5 : Int64) (l7 : Int64) (σ : St) : Option (Int64 × St) := if (lg_cmp l7 (0 : Int64)) = 0 then (if l4 = 0 then (gd (¬ l5 = 0) (bnd (l0 / l5) fun x2 => some (x2, σ))) else (gd (¬ l5 = 0) (bnd (l2 / l5) fun x1 => some (x1, σ)))) else (gd (¬ l7 = 0) (bnd (l5 - l5 / l7 * l7) fun x3 => J 1 l4 l0 l2 l7 x3 σ))
noncomputable def S_X12_asPart  (n : Nat) (J : Nat → Int32 → Int64 → Int64 → Int64 → Int64 → St → Option (Int64 × St)) : Nat → Int32 → Int64 → Int64 → Int64 → Int64 → St → Option (Int64 × St) := fun lb a0 a1 a2 a3 a4 σ => match lb with
  | 1 => B_X12_asPart_1 J n  a0 a1 a2 a3 a4 σ
  | _ => none
noncomputable def L_X12_asPart  (n : Nat) : Nat → Int32 → Int64 → Int64 → Int64 → Int64 → St → Option (Int64 × St) := Nat.rec (fun _ _ _ _ _ _ _ => none) (fun n J => S_X12_asPart  n J) n
noncomputable def F_X12_asPart (n : Nat) (p0 : Int64) (p2 : Int64) (p4 : Int32) (σ : St) : Option (Int64 × St) := L_X12_asPart  n 1 p4 p0 p2 p0 p2 σ
set_option maxHeartbeats 4000000 in
set_option maxRecDepth 20000 in
theorem t_X12_asPart (l : Launch) {p : Program} {e : Env} {s : State} {m : MethodId} {args : Array Value} {below : List Frame} {meth : Method} {c : Code} {D : va_G} {A : Nat → Prop} {ad : Nat → Nat} {dA : Nat → ClassId}   (K : Cx p s m args meth c cX12_asPart 11 (some .long) RX12 D (tysR dA) (wdR ad dA) A) {res : Int64 × St} (n : Nat) : (∀ (l0 : Int64) (l2 : Int64) (l4 : Int32) (l5 : Int64) (l7 : Int64) (σ : St), L_X12_asPart  n 1 l4 l0 l2 l5 l7 σ = some res → V p l e (rmH 1) s m args below meth c 11 D (wdR ad dA) A (MQ below (QL D (wdR ad dA) A res) args s 0 0 A) 6 [(0, .long l0), (2, .long l2), (4, .int l4), (5, .long l5), (7, .long l7)] [] σ) := by
  induction n with
  | zero => exact (fun _ _ _ _ _ _ h => (by cases h))
  | succ n ih =>
    have ih_1 := ih
    · intro l0 l2 l4 l5 l7 σ hM
      have hM : B_X12_asPart_1 (L_X12_asPart  n) n  l4 l0 l2 l5 l7 σ = some res := hM
      refine v_lload K dX12_asPart_6 4 rfl ?_
      refine v_lconst (v := (0 : Int64)) K dX12_asPart_8 (by decide) ?_
      refine v_lcmp K dX12_asPart_9 ?_
      refine v_if_eq K 31 dX12_asPart_10 (by decide) hM (fun hM => ?_) (fun hM => ?_)
      · refine v_iload K dX12_asPart_31 2 rfl ?_
        refine v_if_ne K 43 dX12_asPart_33 (by decide) hM (fun hM => ?_) (fun hM => ?_)
        · refine v_lload_n K dX12_asPart_43 1 rfl ?_
          refine v_lload K dX12_asPart_44 3 rfl ?_
          refine v_ldiv K dX12_asPart_46 hM (fun hM => ?_)
          refine v_topl hM (fun x1 hM => ?_)
          exact v_lret K rfl dX12_asPart_47 hM
        · refine v_lload_n K dX12_asPart_36 0 rfl ?_
          refine v_lload K dX12_asPart_37 3 rfl ?_
          refine v_ldiv K dX12_asPart_39 hM (fun hM => ?_)
          refine v_topl hM (fun x2 hM => ?_)
          refine v_goto (tgt := 47) K dX12_asPart_40 (by decide) ?_
          exact v_lret K rfl dX12_asPart_47 hM
      · refine v_lload K dX12_asPart_13 3 rfl ?_
        refine v_lload K dX12_asPart_15 4 rfl ?_
        refine v_lrem K dX12_asPart_17 hM (fun hM => ?_)
        refine v_topl hM (fun x3 hM => ?_)
        refine v_lstore K dX12_asPart_18 (by decide) [(9, .long x3), (0, .long l0), (2, .long l2), (4, .int l4), (5, .long l5), (7, .long l7)] rfl ?_
        refine v_lload K dX12_asPart_20 5 rfl ?_
        refine v_lstore K dX12_asPart_22 (by decide) [(5, .long l7), (9, .long x3), (0, .long l0), (2, .long l2), (4, .int l4), (7, .long l7)] rfl ?_
        refine v_lload K dX12_asPart_24 1 rfl ?_
        refine v_lstore K dX12_asPart_26 (by decide) [(7, .long x3), (5, .long l7), (9, .long x3), (0, .long l0), (2, .long l2), (4, .int l4)] rfl ?_
        refine v_goto (tgt := 6) K dX12_asPart_28 (by decide) ?_
        exact v_sub [3, 4, 5, 1, 0] rfl (ih_1 l0 l2 l4 l7 x3 σ hM)
set_option maxHeartbeats 4000000 in
set_option maxRecDepth 20000 in
theorem c_X12_asPart (l : Launch) {D : va_G} {A : Nat → Prop} {ad : Nat → Nat} {dA : Nat → ClassId}  (n : Nat) (p0 : Int64) (p2 : Int64) (p4 : Int32) (σ : St) {res : Int64 × St} (hM : F_X12_asPart n p0 p2 p4 σ = some res) : MI l yX12_asPart cX12_asPart 11 (some .long) 1 D (tysR dA) (wdR ad dA) A [.long p0, .long p2, .int p4] σ (QL D (wdR ad dA) A res) := by
  refine mk_met (by decide +kernel) (Nat.le_of_ble_eq_true rfl) (fun p e s m below meth c K => ?_)
  have K : Cx p s m _ meth c cX12_asPart 11 (some .long) RX12 D (tysR dA) (wdR ad dA) A := K
  have ih_1 := t_X12_asPart l    K (res := res) n (below := below) (e := e)
  refine v_lload_n K dX12_asPart_0 0 rfl ?_
  refine v_lstore K dX12_asPart_1 (by decide) [(5, .long p0), (0, .long p0), (2, .long p2), (4, .int p4)] rfl ?_
  refine v_lload_n K dX12_asPart_3 2 rfl ?_
  refine v_lstore K dX12_asPart_4 (by decide) [(7, .long p2), (5, .long p0), (0, .long p0), (2, .long p2), (4, .int p4)] rfl ?_
  exact v_sub [2, 3, 4, 1, 0] rfl (ih_1 p0 p2 p4 p0 p2 σ hM)
noncomputable def B_X12_beside_1 (J : Nat → Int32 → Int32 → St → Option (Int64 × St)) (n : Nat)  (l2 : Int32) (k0 : Int32) (σ : St) : Option (Int64 × St) := bd (F_X12_asPart n ((k0).toInt64) (12 : Int64) l2 σ) fun r15 s14 => some (r15, s14)
noncomputable def S_X12_beside  (n : Nat) (J : Nat → Int32 → Int32 → St → Option (Int64 × St)) : Nat → Int32 → Int32 → St → Option (Int64 × St) := fun lb a0 a1 σ => match lb with
  | 1 => B_X12_beside_1 J n  a0 a1 σ
  | _ => none
noncomputable def L_X12_beside  (n : Nat) : Nat → Int32 → Int32 → St → Option (Int64 × St) := Nat.rec (fun _ _ _ _ => none) (fun n J => S_X12_beside  n J) n
noncomputable def F_X12_beside (n : Nat) (p1 : Int32) (p2 : Int32) (σ : St) : Option (Int64 × St) := bd (F_X12_areTwo n p1 σ) fun r2 s1 => if r2 = 0 then (some ((-9223372036854775808 : Int64), s1)) else (bd (F_X12_in n p2 (0 : Int32) (1 : Int32) s1) fun r4 s3 => if r4 = 0 then (some ((-9223372036854775808 : Int64), s3)) else (bd (F_X12_beginThought n  s3) fun _ s5 => gd (¬ (10 : Int32) = 0) (bnd (p1 / (10 : Int32)) fun x6 => gd (¬ (10 : Int32) = 0) (bnd (p1 - p1 / (10 : Int32) * (10 : Int32)) fun x7 => bd (F_X12_isLet n x6 x7 s5) fun r9 s8 => if r9 = 0 then (L_X12_beside  n 1 p2 (0 : Int32) s8) else (gd (¬ (10 : Int32) = 0) (bnd (p1 / (10 : Int32)) fun x10 => gd (¬ (10 : Int32) = 0) (bnd (p1 - p1 / (10 : Int32) * (10 : Int32)) fun x11 => bd (F_X12_winsBy n x10 x11 s8) fun r13 s12 => L_X12_beside  n 1 p2 ((12 : Int32) - r13) s12)))))))
set_option maxHeartbeats 4000000 in
set_option maxRecDepth 20000 in
theorem t_X12_beside (l : Launch) {p : Program} {e : Env} {s : State} {m : MethodId} {args : Array Value} {below : List Frame} {meth : Method} {c : Code} {D : va_G} {A : Nat → Prop} {ad : Nat → Nat} {dA : Nat → ClassId}   (K : Cx p s m args meth c cX12_beside 4 (some .long) RX12 D (tysR dA) (wdR ad dA) A) {res : Int64 × St} (n : Nat) : (∀ (l2 : Int32) (k0 : Int32) (σ : St), L_X12_beside  n 1 l2 k0 σ = some res → V p l e (rmH 6) s m args below meth c 4 D (wdR ad dA) A (MQ below (QL D (wdR ad dA) A res) args s 0 0 A) 59 [(2, .int l2)] [.int k0] σ) := by
  induction n with
  | zero => exact (fun _ _ _ h => (by cases h))
  | succ n ih =>
    have ih_1 := ih
    · intro l2 k0 σ hM
      have hM : B_X12_beside_1 (L_X12_beside  n) n  l2 k0 σ = some res := hM
      refine v_istore_n K dX12_beside_59 rfl (by decide) [(3, .int k0), (2, .int l2)] rfl ?_
      refine v_iload_n K dX12_beside_60 0 rfl ?_
      refine v_i2l K dX12_beside_61 ?_
      refine v_ldc2 (v := (12 : Int64)) K ql_X12_276 dX12_beside_62 ?_
      refine v_iload_n K dX12_beside_65 1 rfl ?_
      refine x_Sl (As := [.long ((k0).toInt64), .long (12 : Int64), .int l2]) (st := []) K us_X12_asPart qm_X12_289 dX12_beside_66 (fun _ h => c_X12_asPart l  n ((k0).toInt64) (12 : Int64) l2 σ h) rfl ⟨(Nat.le_of_ble_eq_true rfl), (Nat.le_of_ble_eq_true rfl)⟩ (Nat.le_of_ble_eq_true rfl) hM (fun r15 s14 hM => ?_)
      exact v_lret K rfl dX12_beside_69 hM
set_option maxHeartbeats 4000000 in
set_option maxRecDepth 20000 in
theorem c_X12_beside (l : Launch) {D : va_G} {A : Nat → Prop} {ad : Nat → Nat} {dA : Nat → ClassId}  (n : Nat) (p1 : Int32) (p2 : Int32) (σ : St) {res : Int64 × St} (hM : F_X12_beside n p1 p2 σ = some res) : MI l yX12_beside cX12_beside 4 (some .long) 6 D (tysR dA) (wdR ad dA) A [.ref (ad 0), .int p1, .int p2] σ (QL D (wdR ad dA) A res) := by
  refine mk_met (by decide +kernel) (Nat.le_of_ble_eq_true rfl) (fun p e s m below meth c K => ?_)
  have K : Cx p s m _ meth c cX12_beside 4 (some .long) RX12 D (tysR dA) (wdR ad dA) A := K
  have ih_1 := t_X12_beside l    K (res := res) n (below := below) (e := e)
  refine v_aload_n K dX12_beside_0 0 rfl ?_
  refine v_iload_n K dX12_beside_1 1 rfl ?_
  refine x_Vi (As := [.int p1]) (st := []) K uv_X12_areTwo qm_X12_254 dX12_beside_2 rv_X12 (fun _ h => c_X12_areTwo l  n p1 σ h) rfl ⟨(Nat.le_of_ble_eq_true rfl), (Nat.le_of_ble_eq_true rfl)⟩ (Nat.le_of_ble_eq_true rfl) hM (fun r2 s1 hM => ?_)
  refine v_if_eq K 17 dX12_beside_5 (by decide) hM (fun hM => ?_) (fun hM => ?_)
  · refine v_ldc2 (v := (-9223372036854775808 : Int64)) K ql_X12_287 dX12_beside_17 ?_
    exact v_lret K rfl dX12_beside_20 hM
  · refine v_iload_n K dX12_beside_8 2 rfl ?_
    refine v_iconst (v := (0 : Int32)) K dX12_beside_9 (by decide) ?_
    refine v_iconst (v := (1 : Int32)) K dX12_beside_10 (by decide) ?_
    refine x_Si (As := [.int p2, .int (0 : Int32), .int (1 : Int32)]) (st := []) K us_X12_in qm_X12_125 dX12_beside_11 (fun _ h => c_X12_in l  n p2 (0 : Int32) (1 : Int32) s1 h) rfl ⟨(Nat.le_of_ble_eq_true rfl), (Nat.le_of_ble_eq_true rfl)⟩ (Nat.le_of_ble_eq_true rfl) hM (fun r4 s3 hM => ?_)
    refine v_if_ne K 21 dX12_beside_14 (by decide) hM (fun hM => ?_) (fun hM => ?_)
    · refine v_aload_n K dX12_beside_21 0 rfl ?_
      refine x_Vv (As := []) (st := []) K uv_X12_beginThought qm_X12_257 dX12_beside_22 rv_X12 (fun _ h => c_X12_beginThought l  n  s3 h) rfl ⟨(Nat.le_of_ble_eq_true rfl), (Nat.le_of_ble_eq_true rfl)⟩ (Nat.le_of_ble_eq_true rfl) hM (fun s5 hM => ?_)
      refine v_aload_n K dX12_beside_25 0 rfl ?_
      refine v_iload_n K dX12_beside_26 1 rfl ?_
      refine v_bipush (v := (10 : Int32)) K dX12_beside_27 (by decide) ?_
      refine v_idiv K dX12_beside_29 hM (fun hM => ?_)
      refine v_topi hM (fun x6 hM => ?_)
      refine v_iload_n K dX12_beside_30 1 rfl ?_
      refine v_bipush (v := (10 : Int32)) K dX12_beside_31 (by decide) ?_
      refine v_irem K dX12_beside_33 hM (fun hM => ?_)
      refine v_topi hM (fun x7 hM => ?_)
      refine x_Vi (As := [.int x6, .int x7]) (st := []) K uv_X12_isLet qm_X12_270 dX12_beside_34 rv_X12 (fun _ h => c_X12_isLet l  n x6 x7 s5 h) rfl ⟨(Nat.le_of_ble_eq_true rfl), (Nat.le_of_ble_eq_true rfl)⟩ (Nat.le_of_ble_eq_true rfl) hM (fun r9 s8 hM => ?_)
      refine v_if_eq K 58 dX12_beside_37 (by decide) hM (fun hM => ?_) (fun hM => ?_)
      · refine v_iconst (v := (0 : Int32)) K dX12_beside_58 (by decide) ?_
        exact v_sub [2] rfl (ih_1 p2 (0 : Int32) s8 hM)
      · refine v_bipush (v := (12 : Int32)) K dX12_beside_40 (by decide) ?_
        refine v_aload_n K dX12_beside_42 0 rfl ?_
        refine v_iload_n K dX12_beside_43 1 rfl ?_
        refine v_bipush (v := (10 : Int32)) K dX12_beside_44 (by decide) ?_
        refine v_idiv K dX12_beside_46 hM (fun hM => ?_)
        refine v_topi hM (fun x10 hM => ?_)
        refine v_iload_n K dX12_beside_47 1 rfl ?_
        refine v_bipush (v := (10 : Int32)) K dX12_beside_48 (by decide) ?_
        refine v_irem K dX12_beside_50 hM (fun hM => ?_)
        refine v_topi hM (fun x11 hM => ?_)
        refine x_Vi (As := [.int x10, .int x11]) (st := [.int (12 : Int32)]) K uv_X12_winsBy qm_X12_260 dX12_beside_51 rv_X12 (fun _ h => c_X12_winsBy l  n x10 x11 s8 h) rfl ⟨(Nat.le_of_ble_eq_true rfl), (Nat.le_of_ble_eq_true rfl)⟩ (Nat.le_of_ble_eq_true rfl) hM (fun r13 s12 hM => ?_)
        refine v_isub K dX12_beside_54 ?_
        refine v_goto (tgt := 59) K dX12_beside_55 (by decide) ?_
        exact v_sub [2] rfl (ih_1 p2 ((12 : Int32) - r13) s12 hM)
    · refine v_ldc2 (v := (-9223372036854775808 : Int64)) K ql_X12_287 dX12_beside_17 ?_
      exact v_lret K rfl dX12_beside_20 hM
noncomputable def B_X12_codeOf_1 (J : Nat → Int32 → Int32 → St → Option (Int32 × St)) (n : Nat)  (l1 : Int32) (l2 : Int32) (σ : St) : Option (Int32 × St) := if l2 < 0 then (some (l1, σ)) else (gd (vp_in l2 7) (bnd ((((5 : Int32) * l1) + (gI σ 17 (l2).toNatClampNeg)) + (1 : Int32)) fun x2 => bnd (l2 + (-1 : Int32)) fun x3 => J 1 x2 x3 σ))
noncomputable def S_X12_codeOf  (n : Nat) (J : Nat → Int32 → Int32 → St → Option (Int32 × St)) : Nat → Int32 → Int32 → St → Option (Int32 × St) := fun lb a0 a1 σ => match lb with
  | 1 => B_X12_codeOf_1 J n  a0 a1 σ
  | _ => none
noncomputable def L_X12_codeOf  (n : Nat) : Nat → Int32 → Int32 → St → Option (Int32 × St) := Nat.rec (fun _ _ _ _ => none) (fun n J => S_X12_codeOf  n J) n
noncomputable def F_X12_codeOf (n : Nat)  (σ : St) : Option (Int32 × St) := bnd ((gI σ 0 1) - (1 : Int32)) fun x1 => L_X12_codeOf  n 1 (0 : Int32) x1 σ
set_option maxHeartbeats 4000000 in
set_option maxRecDepth 20000 in
theorem t_X12_codeOf (l : Launch) {p : Program} {e : Env} {s : State} {m : MethodId} {args : Array Value} {below : List Frame} {meth : Method} {c : Code} {D : va_G} {A : Nat → Prop} {ad : Nat → Nat} {dA : Nat → ClassId}   (K : Cx p s m args meth c cX12_codeOf 3 (some .int) RX12 D (tysR dA) (wdR ad dA) A) {res : Int32 × St} (n : Nat) : (∀ (l1 : Int32) (l2 : Int32) (σ : St), L_X12_codeOf  n 1 l1 l2 σ = some res → V p l e (rmH 1) s m args below meth c 3 D (wdR ad dA) A (MQ below (QI D (wdR ad dA) A res) args s 0 0 A) 9 [(0, .ref (ad 0)), (1, .int l1), (2, .int l2)] [] σ) := by
  induction n with
  | zero => exact (fun _ _ _ h => (by cases h))
  | succ n ih =>
    have ih_1 := ih
    · intro l1 l2 σ hM
      have hM : B_X12_codeOf_1 (L_X12_codeOf  n) n  l1 l2 σ = some res := hM
      refine v_iload_n K dX12_codeOf_9 2 rfl ?_
      refine v_if_lt K 32 dX12_codeOf_10 (by decide) hM (fun hM => ?_) (fun hM => ?_)
      · refine v_iload_n K dX12_codeOf_32 1 rfl ?_
        exact v_iret K rfl dX12_codeOf_33 hM
      · refine v_iconst (v := (5 : Int32)) K dX12_codeOf_13 (by decide) ?_
        refine v_iload_n K dX12_codeOf_14 1 rfl ?_
        refine v_imul K dX12_codeOf_15 ?_
        refine v_aload_n K dX12_codeOf_16 0 rfl ?_
        refine g_X12_26 K qf_X12_62 dX12_codeOf_17 ?_
        refine v_iload_n K dX12_codeOf_20 2 rfl ?_
        refine ld_R17 K dX12_codeOf_21 hM (fun hM => ?_)
        refine v_iadd K dX12_codeOf_22 ?_
        refine v_iconst (v := (1 : Int32)) K dX12_codeOf_23 (by decide) ?_
        refine v_iadd K dX12_codeOf_24 ?_
        refine v_topi hM (fun x2 hM => ?_)
        refine v_istore_n K dX12_codeOf_25 rfl (by decide) [(1, .int x2), (0, .ref (ad 0)), (2, .int l2)] rfl ?_
        refine v_iinc K dX12_codeOf_26 2 rfl (v := (l2 + (-1 : Int32))) rfl (by decide) hM (fun y => [(2, .int y), (1, .int x2), (0, .ref (ad 0))]) (fun _ => rfl) (fun x3 hM => ?_)
        refine v_goto (tgt := 9) K dX12_codeOf_29 (by decide) ?_
        exact v_sub [2, 1, 0] rfl (ih_1 x2 x3 σ hM)
set_option maxHeartbeats 4000000 in
set_option maxRecDepth 20000 in
theorem c_X12_codeOf (l : Launch) {D : va_G} {A : Nat → Prop} {ad : Nat → Nat} {dA : Nat → ClassId}  (n : Nat)  (σ : St) {res : Int32 × St} (hM : F_X12_codeOf n  σ = some res) : MI l yX12_codeOf cX12_codeOf 3 (some .int) 1 D (tysR dA) (wdR ad dA) A [.ref (ad 0)] σ (QI D (wdR ad dA) A res) := by
  refine mk_met (by decide +kernel) (Nat.le_of_ble_eq_true rfl) (fun p e s m below meth c K => ?_)
  have K : Cx p s m _ meth c cX12_codeOf 3 (some .int) RX12 D (tysR dA) (wdR ad dA) A := K
  have ih_1 := t_X12_codeOf l    K (res := res) n (below := below) (e := e)
  refine v_iconst (v := (0 : Int32)) K dX12_codeOf_0 (by decide) ?_
  refine v_istore_n K dX12_codeOf_1 rfl (by decide) [(1, .int (0 : Int32)), (0, .ref (ad 0))] rfl ?_
  refine v_aload_n K dX12_codeOf_2 1 rfl ?_
  refine g_X12_1 K qf_X12_122 dX12_codeOf_3 ?_
  refine v_iconst (v := (1 : Int32)) K dX12_codeOf_6 (by decide) ?_
  refine v_isub K dX12_codeOf_7 ?_
  refine v_topi hM (fun x1 hM => ?_)
  refine v_istore_n K dX12_codeOf_8 rfl (by decide) [(2, .int x1), (1, .int (0 : Int32)), (0, .ref (ad 0))] rfl ?_
  exact v_sub [2, 1, 0] rfl (ih_1 (0 : Int32) x1 σ hM)
noncomputable def B_X12_layCode_1 (J : Nat → Int32 → Int32 → St → Option (Unit × St)) (n : Nat)  (l2 : Int32) (l3 : Int32) (σ : St) : Option (Unit × St) := if (gI σ 0 1) ≤ l3 then (some ((), σ)) else (gd (¬ (5 : Int32) = 0) (bnd (l2 - l2 / (5 : Int32) * (5 : Int32)) fun x1 => gd (vp_in l3 7) (bnd (sI σ 17 (l3).toNatClampNeg (x1 - (1 : Int32))) fun s2 => gd (¬ (5 : Int32) = 0) (bnd (l2 / (5 : Int32)) fun x3 => bnd (l3 + (1 : Int32)) fun x4 => J 1 x3 x4 s2))))
noncomputable def S_X12_layCode  (n : Nat) (J : Nat → Int32 → Int32 → St → Option (Unit × St)) : Nat → Int32 → Int32 → St → Option (Unit × St) := fun lb a0 a1 σ => match lb with
  | 1 => B_X12_layCode_1 J n  a0 a1 σ
  | _ => none
noncomputable def L_X12_layCode  (n : Nat) : Nat → Int32 → Int32 → St → Option (Unit × St) := Nat.rec (fun _ _ _ _ => none) (fun n J => S_X12_layCode  n J) n
noncomputable def F_X12_layCode (n : Nat) (p1 : Int32) (σ : St) : Option (Unit × St) := L_X12_layCode  n 1 p1 (0 : Int32) σ
set_option maxHeartbeats 4000000 in
set_option maxRecDepth 20000 in
theorem t_X12_layCode (l : Launch) {p : Program} {e : Env} {s : State} {m : MethodId} {args : Array Value} {below : List Frame} {meth : Method} {c : Code} {D : va_G} {A : Nat → Prop} {ad : Nat → Nat} {dA : Nat → ClassId}   (K : Cx p s m args meth c cX12_layCode 4 none RX12 D (tysR dA) (wdR ad dA) A) {res : Unit × St} (n : Nat) : (∀ (l2 : Int32) (l3 : Int32) (σ : St), L_X12_layCode  n 1 l2 l3 σ = some res → V p l e (rmH 1) s m args below meth c 4 D (wdR ad dA) A (MQ below (QV D (wdR ad dA) A res) args s 0 0 A) 4 [(0, .ref (ad 0)), (2, .int l2), (3, .int l3)] [] σ) := by
  induction n with
  | zero => exact (fun _ _ _ h => (by cases h))
  | succ n ih =>
    have ih_1 := ih
    · intro l2 l3 σ hM
      have hM : B_X12_layCode_1 (L_X12_layCode  n) n  l2 l3 σ = some res := hM
      refine v_iload_n K dX12_layCode_4 2 rfl ?_
      refine v_aload_n K dX12_layCode_5 0 rfl ?_
      refine g_X12_1 K qf_X12_122 dX12_layCode_6 ?_
      refine v_icmp_ge K 33 dX12_layCode_9 (by decide) hM (fun hM => ?_) (fun hM => ?_)
      · exact v_vret K rfl dX12_layCode_33 hM
      · refine v_aload_n K dX12_layCode_12 0 rfl ?_
        refine g_X12_26 K qf_X12_62 dX12_layCode_13 ?_
        refine v_iload_n K dX12_layCode_16 2 rfl ?_
        refine v_iload_n K dX12_layCode_17 1 rfl ?_
        refine v_iconst (v := (5 : Int32)) K dX12_layCode_18 (by decide) ?_
        refine v_irem K dX12_layCode_19 hM (fun hM => ?_)
        refine v_topi hM (fun x1 hM => ?_)
        refine v_iconst (v := (1 : Int32)) K dX12_layCode_20 (by decide) ?_
        refine v_isub K dX12_layCode_21 ?_
        refine st_R17 K dX12_layCode_22 hM (fun s2 hM => ?_)
        refine v_iload_n K dX12_layCode_23 1 rfl ?_
        refine v_iconst (v := (5 : Int32)) K dX12_layCode_24 (by decide) ?_
        refine v_idiv K dX12_layCode_25 hM (fun hM => ?_)
        refine v_topi hM (fun x3 hM => ?_)
        refine v_istore_n K dX12_layCode_26 rfl (by decide) [(2, .int x3), (0, .ref (ad 0)), (3, .int l3)] rfl ?_
        refine v_iinc K dX12_layCode_27 2 rfl (v := (l3 + (1 : Int32))) rfl (by decide) hM (fun y => [(3, .int y), (2, .int x3), (0, .ref (ad 0))]) (fun _ => rfl) (fun x4 hM => ?_)
        refine v_goto (tgt := 4) K dX12_layCode_30 (by decide) ?_
        exact v_sub [2, 1, 0] rfl (ih_1 x3 x4 s2 hM)
set_option maxHeartbeats 4000000 in
set_option maxRecDepth 20000 in
theorem c_X12_layCode (l : Launch) {D : va_G} {A : Nat → Prop} {ad : Nat → Nat} {dA : Nat → ClassId}  (n : Nat) (p1 : Int32) (σ : St) {res : Unit × St} (hM : F_X12_layCode n p1 σ = some res) : MI l yX12_layCode cX12_layCode 4 none 1 D (tysR dA) (wdR ad dA) A [.ref (ad 0), .int p1] σ (QV D (wdR ad dA) A res) := by
  refine mk_met (by decide +kernel) (Nat.le_of_ble_eq_true rfl) (fun p e s m below meth c K => ?_)
  have K : Cx p s m _ meth c cX12_layCode 4 none RX12 D (tysR dA) (wdR ad dA) A := K
  have ih_1 := t_X12_layCode l    K (res := res) n (below := below) (e := e)
  refine v_iload_n K dX12_layCode_0 1 rfl ?_
  refine v_istore_n K dX12_layCode_1 rfl (by decide) [(2, .int p1), (0, .ref (ad 0)), (1, .int p1)] rfl ?_
  refine v_iconst (v := (0 : Int32)) K dX12_layCode_2 (by decide) ?_
  refine v_istore_n K dX12_layCode_3 rfl (by decide) [(3, .int (0 : Int32)), (2, .int p1), (0, .ref (ad 0)), (1, .int p1)] rfl ?_
  exact v_sub [2, 1, 0] rfl (ih_1 p1 (0 : Int32) σ hM)
noncomputable def B_X12_goOn_1 (J : Nat → Int32 → Int32 → Int32 → Int32 → Int32 → St → Option (Unit × St)) (n : Nat)  (l1 : Int32) (l2 : Int32) (l3 : Int32) (l5 : Int32) (l6 : Int32) (σ : St) : Option (Unit × St) := if (2 : Int32) ≤ l6 then (some ((), σ)) else (bd (F_X12_twelfths n l5 l6 σ) fun r8 s7 => if r8 = 0 then (bnd (l6 + (1 : Int32)) fun x15 => J 1 l1 l2 l3 l5 x15 s7) else (bd (F_X12_layCode n l1 s7) fun _ s9 => bd (F_X12_goCase n l2 l3 l6 s9) fun _ s10 => bd (F_X12_codeOf n  s10) fun r12 s11 => gd (vp_in r12 625) (bnd (sI s11 21 (r12).toNatClampNeg (vp_nar .boolean (1 : Int32))) fun s13 => bnd (l6 + (1 : Int32)) fun x14 => J 1 l1 l2 l3 l5 x14 s13)))
noncomputable def S_X12_goOn  (n : Nat) (J : Nat → Int32 → Int32 → Int32 → Int32 → Int32 → St → Option (Unit × St)) : Nat → Int32 → Int32 → Int32 → Int32 → Int32 → St → Option (Unit × St) := fun lb a0 a1 a2 a3 a4 σ => match lb with
  | 1 => B_X12_goOn_1 J n  a0 a1 a2 a3 a4 σ
  | _ => none
noncomputable def L_X12_goOn  (n : Nat) : Nat → Int32 → Int32 → Int32 → Int32 → Int32 → St → Option (Unit × St) := Nat.rec (fun _ _ _ _ _ _ _ => none) (fun n J => S_X12_goOn  n J) n
noncomputable def F_X12_goOn (n : Nat) (p1 : Int32) (p2 : Int32) (p3 : Int32) (p4 : Int32) (σ : St) : Option (Unit × St) := bd (F_X12_layCode n p1 σ) fun _ s1 => bnd (sI s1 0 27 ((gI s1 0 29) + p4)) fun s2 => bd (F_X12_isLet n p2 p3 s2) fun r4 s3 => if r4 = 0 then (some ((), s3)) else (bd (F_X12_winsBy n p2 p3 s3) fun r6 s5 => L_X12_goOn  n 1 p1 p2 p3 r6 (0 : Int32) s5)
set_option maxHeartbeats 4000000 in
set_option maxRecDepth 20000 in
theorem t_X12_goOn (l : Launch) {p : Program} {e : Env} {s : State} {m : MethodId} {args : Array Value} {below : List Frame} {meth : Method} {c : Code} {D : va_G} {A : Nat → Prop} {ad : Nat → Nat} {dA : Nat → ClassId}   (K : Cx p s m args meth c cX12_goOn 7 none RX12 D (tysR dA) (wdR ad dA) A) {res : Unit × St} (n : Nat) : (∀ (l1 : Int32) (l2 : Int32) (l3 : Int32) (l5 : Int32) (l6 : Int32) (σ : St), L_X12_goOn  n 1 l1 l2 l3 l5 l6 σ = some res → V p l e (rmH 6) s m args below meth c 7 D (wdR ad dA) A (MQ below (QV D (wdR ad dA) A res) args s 0 0 A) 37 [(0, .ref (ad 0)), (1, .int l1), (2, .int l2), (3, .int l3), (5, .int l5), (6, .int l6)] [] σ) := by
  induction n with
  | zero => exact (fun _ _ _ _ _ _ h => (by cases h))
  | succ n ih =>
    have ih_1 := ih
    · intro l1 l2 l3 l5 l6 σ hM
      have hM : B_X12_goOn_1 (L_X12_goOn  n) n  l1 l2 l3 l5 l6 σ = some res := hM
      refine v_iload K dX12_goOn_37 5 rfl ?_
      refine v_iconst (v := (2 : Int32)) K dX12_goOn_39 (by decide) ?_
      refine v_icmp_ge K 85 dX12_goOn_40 (by decide) hM (fun hM => ?_) (fun hM => ?_)
      · exact v_vret K rfl dX12_goOn_85 hM
      · refine v_iload K dX12_goOn_43 4 rfl ?_
        refine v_iload K dX12_goOn_45 5 rfl ?_
        refine x_Si (As := [.int l5, .int l6]) (st := []) K us_X12_twelfths qm_X12_273 dX12_goOn_47 (fun _ h => c_X12_twelfths l  n l5 l6 σ h) rfl ⟨(Nat.le_of_ble_eq_true rfl), (Nat.le_of_ble_eq_true rfl)⟩ (Nat.le_of_ble_eq_true rfl) hM (fun r8 s7 hM => ?_)
        refine v_if_ne K 56 dX12_goOn_50 (by decide) hM (fun hM => ?_) (fun hM => ?_)
        · refine v_aload_n K dX12_goOn_56 0 rfl ?_
          refine v_iload_n K dX12_goOn_57 1 rfl ?_
          refine x_Vv (As := [.int l1]) (st := []) K uv_X12_layCode qm_X12_293 dX12_goOn_58 rv_X12 (fun _ h => c_X12_layCode l  n l1 s7 h) rfl ⟨(Nat.le_of_ble_eq_true rfl), (Nat.le_of_ble_eq_true rfl)⟩ (Nat.le_of_ble_eq_true rfl) hM (fun s9 hM => ?_)
          refine v_aload_n K dX12_goOn_61 0 rfl ?_
          refine v_iload_n K dX12_goOn_62 2 rfl ?_
          refine v_iload_n K dX12_goOn_63 3 rfl ?_
          refine v_iload K dX12_goOn_64 5 rfl ?_
          refine x_Vv (As := [.int l2, .int l3, .int l6]) (st := []) K uv_X12_goCase qm_X12_278 dX12_goOn_66 rv_X12 (fun _ h => c_X12_goCase l  n l2 l3 l6 s9 h) rfl ⟨(Nat.le_of_ble_eq_true rfl), (Nat.le_of_ble_eq_true rfl)⟩ (Nat.le_of_ble_eq_true rfl) hM (fun s10 hM => ?_)
          refine v_aload_n K dX12_goOn_69 0 rfl ?_
          refine g_X12_33 K qf_X12_75 dX12_goOn_70 ?_
          refine v_aload_n K dX12_goOn_73 0 rfl ?_
          refine x_Vi (As := []) (st := [.ref (ad 21)]) K uv_X12_codeOf qm_X12_297 dX12_goOn_74 rv_X12 (fun _ h => c_X12_codeOf l  n  s10 h) rfl ⟨(Nat.le_of_ble_eq_true rfl), (Nat.le_of_ble_eq_true rfl)⟩ (Nat.le_of_ble_eq_true rfl) hM (fun r12 s11 hM => ?_)
          refine v_iconst (v := (1 : Int32)) K dX12_goOn_77 (by decide) ?_
          refine st_R21 K dX12_goOn_78 hM (fun s13 hM => ?_)
          refine v_iinc K dX12_goOn_79 5 rfl (v := (l6 + (1 : Int32))) rfl (by decide) hM (fun y => [(6, .int y), (0, .ref (ad 0)), (1, .int l1), (2, .int l2), (3, .int l3), (5, .int l5)]) (fun _ => rfl) (fun x14 hM => ?_)
          refine v_goto (tgt := 37) K dX12_goOn_82 (by decide) ?_
          exact v_sub [1, 2, 3, 4, 5, 0] rfl (ih_1 l1 l2 l3 l5 x14 s13 hM)
        · refine v_goto (tgt := 79) K dX12_goOn_53 (by decide) ?_
          refine v_iinc K dX12_goOn_79 5 rfl (v := (l6 + (1 : Int32))) rfl (by decide) hM (fun y => [(6, .int y), (0, .ref (ad 0)), (1, .int l1), (2, .int l2), (3, .int l3), (5, .int l5)]) (fun _ => rfl) (fun x15 hM => ?_)
          refine v_goto (tgt := 37) K dX12_goOn_82 (by decide) ?_
          exact v_sub [1, 2, 3, 4, 5, 0] rfl (ih_1 l1 l2 l3 l5 x15 s7 hM)
set_option maxHeartbeats 4000000 in
set_option maxRecDepth 20000 in
theorem c_X12_goOn (l : Launch) {D : va_G} {A : Nat → Prop} {ad : Nat → Nat} {dA : Nat → ClassId}  (n : Nat) (p1 : Int32) (p2 : Int32) (p3 : Int32) (p4 : Int32) (σ : St) {res : Unit × St} (hM : F_X12_goOn n p1 p2 p3 p4 σ = some res) : MI l yX12_goOn cX12_goOn 7 none 6 D (tysR dA) (wdR ad dA) A [.ref (ad 0), .int p1, .int p2, .int p3, .int p4] σ (QV D (wdR ad dA) A res) := by
  refine mk_met (by decide +kernel) (Nat.le_of_ble_eq_true rfl) (fun p e s m below meth c K => ?_)
  have K : Cx p s m _ meth c cX12_goOn 7 none RX12 D (tysR dA) (wdR ad dA) A := K
  have ih_1 := t_X12_goOn l    K (res := res) n (below := below) (e := e)
  refine v_aload_n K dX12_goOn_0 0 rfl ?_
  refine v_iload_n K dX12_goOn_1 1 rfl ?_
  refine x_Vv (As := [.int p1]) (st := []) K uv_X12_layCode qm_X12_293 dX12_goOn_2 rv_X12 (fun _ h => c_X12_layCode l  n p1 σ h) rfl ⟨(Nat.le_of_ble_eq_true rfl), (Nat.le_of_ble_eq_true rfl)⟩ (Nat.le_of_ble_eq_true rfl) hM (fun s1 hM => ?_)
  refine v_aload_n K dX12_goOn_5 0 rfl ?_
  refine v_aload_n K dX12_goOn_6 0 rfl ?_
  refine g_X12_29 K qf_X12_235 dX12_goOn_7 ?_
  refine v_iload K dX12_goOn_10 4 rfl ?_
  refine v_iadd K dX12_goOn_12 ?_
  refine p_X12_27 K qf_X12_238 dX12_goOn_13 hM (fun s2 hM => ?_)
  refine v_aload_n K dX12_goOn_16 0 rfl ?_
  refine v_iload_n K dX12_goOn_17 2 rfl ?_
  refine v_iload_n K dX12_goOn_18 3 rfl ?_
  refine x_Vi (As := [.int p2, .int p3]) (st := []) K uv_X12_isLet qm_X12_270 dX12_goOn_19 rv_X12 (fun _ h => c_X12_isLet l  n p2 p3 s2 h) rfl ⟨(Nat.le_of_ble_eq_true rfl), (Nat.le_of_ble_eq_true rfl)⟩ (Nat.le_of_ble_eq_true rfl) hM (fun r4 s3 hM => ?_)
  refine v_if_ne K 26 dX12_goOn_22 (by decide) hM (fun hM => ?_) (fun hM => ?_)
  · refine v_aload_n K dX12_goOn_26 0 rfl ?_
    refine v_iload_n K dX12_goOn_27 2 rfl ?_
    refine v_iload_n K dX12_goOn_28 3 rfl ?_
    refine x_Vi (As := [.int p2, .int p3]) (st := []) K uv_X12_winsBy qm_X12_260 dX12_goOn_29 rv_X12 (fun _ h => c_X12_winsBy l  n p2 p3 s3 h) rfl ⟨(Nat.le_of_ble_eq_true rfl), (Nat.le_of_ble_eq_true rfl)⟩ (Nat.le_of_ble_eq_true rfl) hM (fun r6 s5 hM => ?_)
    refine v_istore K dX12_goOn_32 (by decide) [(5, .int r6), (0, .ref (ad 0)), (1, .int p1), (2, .int p2), (3, .int p3), (4, .int p4)] rfl ?_
    refine v_iconst (v := (0 : Int32)) K dX12_goOn_34 (by decide) ?_
    refine v_istore K dX12_goOn_35 (by decide) [(6, .int (0 : Int32)), (5, .int r6), (0, .ref (ad 0)), (1, .int p1), (2, .int p2), (3, .int p3), (4, .int p4)] rfl ?_
    exact v_sub [2, 3, 4, 5, 1, 0] rfl (ih_1 p1 p2 p3 r6 (0 : Int32) s5 hM)
  · exact v_vret K rfl dX12_goOn_25 hM
noncomputable def B_X12_goAll_1 (J : Nat → Int32 → Int32 → Int32 → Int32 → St → Option (Unit × St)) (n : Nat)  (l1 : Int32) (l2 : Int32) (σ : St) : Option (Unit × St) := if (625 : Int32) ≤ l2 then (J 2 l1 (0 : Int32) 0 0 σ) else (gd (vp_in l2 625) (bnd (sI σ 21 (l2).toNatClampNeg (vp_nar .boolean (0 : Int32))) fun s1 => bnd (l2 + (1 : Int32)) fun x2 => J 1 l1 x2 0 0 s1))
noncomputable def B_X12_goAll_2 (J : Nat → Int32 → Int32 → Int32 → Int32 → St → Option (Unit × St)) (n : Nat)  (l1 : Int32) (l2 : Int32) (σ : St) : Option (Unit × St) := if (625 : Int32) ≤ l2 then (J 3 (0 : Int32) 0 0 0 σ) else (gd (vp_in l2 625) (if (gI σ 20 (l2).toNatClampNeg) = 0 then (bnd (l2 + (1 : Int32)) fun x3 => J 2 l1 x3 0 0 σ) else (J 4 l1 l2 (0 : Int32) 0 σ)))
noncomputable def B_X12_goAll_3 (J : Nat → Int32 → Int32 → Int32 → Int32 → St → Option (Unit × St)) (n : Nat)  (l2 : Int32) (σ : St) : Option (Unit × St) := if (625 : Int32) ≤ l2 then (some ((), σ)) else (gd (vp_in l2 625) (gd (vp_in l2 625) (bnd (sI σ 20 (l2).toNatClampNeg (vp_nar .boolean (gI σ 21 (l2).toNatClampNeg))) fun s4 => bnd (l2 + (1 : Int32)) fun x5 => J 3 x5 0 0 0 s4)))
noncomputable def B_X12_goAll_4 (J : Nat → Int32 → Int32 → Int32 → Int32 → St → Option (Unit × St)) (n : Nat)  (l1 : Int32) (l2 : Int32) (l3 : Int32) (σ : St) : Option (Unit × St) := if (gI σ 0 1) ≤ l3 then (bnd (l2 + (1 : Int32)) fun x6 => J 2 l1 x6 0 0 σ) else (J 5 l1 l2 l3 (0 : Int32) σ)
noncomputable def B_X12_goAll_5 (J : Nat → Int32 → Int32 → Int32 → Int32 → St → Option (Unit × St)) (n : Nat)  (l1 : Int32) (l2 : Int32) (l3 : Int32) (l4 : Int32) (σ : St) : Option (Unit × St) := if (gI σ 0 1) ≤ l4 then (bnd (l3 + (1 : Int32)) fun x7 => J 4 l1 l2 x7 0 σ) else (bd (F_X12_goOn n l2 l3 l4 l1 σ) fun _ s8 => bnd (l4 + (1 : Int32)) fun x9 => J 5 l1 l2 l3 x9 s8)
noncomputable def S_X12_goAll  (n : Nat) (J : Nat → Int32 → Int32 → Int32 → Int32 → St → Option (Unit × St)) : Nat → Int32 → Int32 → Int32 → Int32 → St → Option (Unit × St) := fun lb a0 a1 a2 a3 σ => match lb with
  | 1 => B_X12_goAll_1 J n  a0 a1 σ
  | 2 => B_X12_goAll_2 J n  a0 a1 σ
  | 3 => B_X12_goAll_3 J n  a0 σ
  | 4 => B_X12_goAll_4 J n  a0 a1 a2 σ
  | 5 => B_X12_goAll_5 J n  a0 a1 a2 a3 σ
  | _ => none
noncomputable def L_X12_goAll  (n : Nat) : Nat → Int32 → Int32 → Int32 → Int32 → St → Option (Unit × St) := Nat.rec (fun _ _ _ _ _ _ => none) (fun n J => S_X12_goAll  n J) n
noncomputable def F_X12_goAll (n : Nat) (p1 : Int32) (σ : St) : Option (Unit × St) := L_X12_goAll  n 1 p1 (0 : Int32) 0 0 σ
set_option maxHeartbeats 4000000 in
set_option maxRecDepth 20000 in
theorem t_X12_goAll (l : Launch) {p : Program} {e : Env} {s : State} {m : MethodId} {args : Array Value} {below : List Frame} {meth : Method} {c : Code} {D : va_G} {A : Nat → Prop} {ad : Nat → Nat} {dA : Nat → ClassId}   (K : Cx p s m args meth c cX12_goAll 5 none RX12 D (tysR dA) (wdR ad dA) A) {res : Unit × St} (n : Nat) : (∀ (l1 : Int32) (l2 : Int32) (σ : St), L_X12_goAll  n 1 l1 l2 0 0 σ = some res → V p l e (rmH 7) s m args below meth c 5 D (wdR ad dA) A (MQ below (QV D (wdR ad dA) A res) args s 0 0 A) 2 [(0, .ref (ad 0)), (1, .int l1), (2, .int l2)] [] σ) ∧ (∀ (l1 : Int32) (l2 : Int32) (σ : St), L_X12_goAll  n 2 l1 l2 0 0 σ = some res → V p l e (rmH 7) s m args below meth c 5 D (wdR ad dA) A (MQ below (QV D (wdR ad dA) A res) args s 0 0 A) 24 [(0, .ref (ad 0)), (1, .int l1), (2, .int l2)] [] σ) ∧ (∀ (l2 : Int32) (σ : St), L_X12_goAll  n 3 l2 0 0 0 σ = some res → V p l e (rmH 7) s m args below meth c 5 D (wdR ad dA) A (MQ below (QV D (wdR ad dA) A res) args s 0 0 A) 94 [(0, .ref (ad 0)), (2, .int l2)] [] σ) ∧ (∀ (l1 : Int32) (l2 : Int32) (l3 : Int32) (σ : St), L_X12_goAll  n 4 l1 l2 l3 0 σ = some res → V p l e (rmH 7) s m args below meth c 5 D (wdR ad dA) A (MQ below (QV D (wdR ad dA) A res) args s 0 0 A) 45 [(0, .ref (ad 0)), (1, .int l1), (2, .int l2), (3, .int l3)] [] σ) ∧ (∀ (l1 : Int32) (l2 : Int32) (l3 : Int32) (l4 : Int32) (σ : St), L_X12_goAll  n 5 l1 l2 l3 l4 σ = some res → V p l e (rmH 7) s m args below meth c 5 D (wdR ad dA) A (MQ below (QV D (wdR ad dA) A res) args s 0 0 A) 56 [(0, .ref (ad 0)), (1, .int l1), (2, .int l2), (3, .int l3), (4, .int l4)] [] σ) := by
  induction n with
  | zero => exact ⟨fun _ _ _ h => (by cases h), fun _ _ _ h => (by cases h), fun _ _ h => (by cases h), fun _ _ _ _ h => (by cases h), fun _ _ _ _ _ h => (by cases h)⟩
  | succ n ih =>
    obtain ⟨ih_1, ih_2, ih_3, ih_4, ih_5⟩ := ih
    refine ⟨?_, ?_, ?_, ?_, ?_⟩
    · intro l1 l2 σ hM
      have hM : B_X12_goAll_1 (L_X12_goAll  n) n  l1 l2 σ = some res := hM
      refine v_iload_n K dX12_goAll_2 2 rfl ?_
      refine v_sipush (v := (625 : Int32)) K dX12_goAll_3 (by decide) ?_
      refine v_icmp_ge K 22 dX12_goAll_6 (by decide) hM (fun hM => ?_) (fun hM => ?_)
      · refine v_iconst (v := (0 : Int32)) K dX12_goAll_22 (by decide) ?_
        refine v_istore_n K dX12_goAll_23 rfl (by decide) [(2, .int (0 : Int32)), (0, .ref (ad 0)), (1, .int l1)] rfl ?_
        exact v_sub [1, 2, 0] rfl (ih_2 l1 (0 : Int32) σ hM)
      · refine v_aload_n K dX12_goAll_9 0 rfl ?_
        refine g_X12_33 K qf_X12_75 dX12_goAll_10 ?_
        refine v_iload_n K dX12_goAll_13 2 rfl ?_
        refine v_iconst (v := (0 : Int32)) K dX12_goAll_14 (by decide) ?_
        refine st_R21 K dX12_goAll_15 hM (fun s1 hM => ?_)
        refine v_iinc K dX12_goAll_16 2 rfl (v := (l2 + (1 : Int32))) rfl (by decide) hM (fun y => [(2, .int y), (0, .ref (ad 0)), (1, .int l1)]) (fun _ => rfl) (fun x2 hM => ?_)
        refine v_goto (tgt := 2) K dX12_goAll_19 (by decide) ?_
        exact v_sub [1, 2, 0] rfl (ih_1 l1 x2 s1 hM)
    · intro l1 l2 σ hM
      have hM : B_X12_goAll_2 (L_X12_goAll  n) n  l1 l2 σ = some res := hM
      refine v_iload_n K dX12_goAll_24 2 rfl ?_
      refine v_sipush (v := (625 : Int32)) K dX12_goAll_25 (by decide) ?_
      refine v_icmp_ge K 92 dX12_goAll_28 (by decide) hM (fun hM => ?_) (fun hM => ?_)
      · refine v_iconst (v := (0 : Int32)) K dX12_goAll_92 (by decide) ?_
        refine v_istore_n K dX12_goAll_93 rfl (by decide) [(2, .int (0 : Int32)), (0, .ref (ad 0)), (1, .int l1)] rfl ?_
        exact v_sub [1, 0] rfl (ih_3 (0 : Int32) σ hM)
      · refine v_aload_n K dX12_goAll_31 0 rfl ?_
        refine g_X12_32 K qf_X12_71 dX12_goAll_32 ?_
        refine v_iload_n K dX12_goAll_35 2 rfl ?_
        refine ld_R20 K dX12_goAll_36 hM (fun hM => ?_)
        refine v_if_ne K 43 dX12_goAll_37 (by decide) hM (fun hM => ?_) (fun hM => ?_)
        · refine v_iconst (v := (0 : Int32)) K dX12_goAll_43 (by decide) ?_
          refine v_istore_n K dX12_goAll_44 rfl (by decide) [(3, .int (0 : Int32)), (0, .ref (ad 0)), (1, .int l1), (2, .int l2)] rfl ?_
          exact v_sub [1, 2, 3, 0] rfl (ih_4 l1 l2 (0 : Int32) σ hM)
        · refine v_goto (tgt := 86) K dX12_goAll_40 (by decide) ?_
          refine v_iinc K dX12_goAll_86 2 rfl (v := (l2 + (1 : Int32))) rfl (by decide) hM (fun y => [(2, .int y), (0, .ref (ad 0)), (1, .int l1)]) (fun _ => rfl) (fun x3 hM => ?_)
          refine v_goto (tgt := 24) K dX12_goAll_89 (by decide) ?_
          exact v_sub [1, 2, 0] rfl (ih_2 l1 x3 σ hM)
    · intro l2 σ hM
      have hM : B_X12_goAll_3 (L_X12_goAll  n) n  l2 σ = some res := hM
      refine v_iload_n K dX12_goAll_94 1 rfl ?_
      refine v_sipush (v := (625 : Int32)) K dX12_goAll_95 (by decide) ?_
      refine v_icmp_ge K 119 dX12_goAll_98 (by decide) hM (fun hM => ?_) (fun hM => ?_)
      · exact v_vret K rfl dX12_goAll_119 hM
      · refine v_aload_n K dX12_goAll_101 0 rfl ?_
        refine g_X12_32 K qf_X12_71 dX12_goAll_102 ?_
        refine v_iload_n K dX12_goAll_105 1 rfl ?_
        refine v_aload_n K dX12_goAll_106 0 rfl ?_
        refine g_X12_33 K qf_X12_75 dX12_goAll_107 ?_
        refine v_iload_n K dX12_goAll_110 1 rfl ?_
        refine ld_R21 K dX12_goAll_111 hM (fun hM => ?_)
        refine st_R20 K dX12_goAll_112 hM (fun s4 hM => ?_)
        refine v_iinc K dX12_goAll_113 1 rfl (v := (l2 + (1 : Int32))) rfl (by decide) hM (fun y => [(2, .int y), (0, .ref (ad 0))]) (fun _ => rfl) (fun x5 hM => ?_)
        refine v_goto (tgt := 94) K dX12_goAll_116 (by decide) ?_
        exact v_sub [1, 0] rfl (ih_3 x5 s4 hM)
    · intro l1 l2 l3 σ hM
      have hM : B_X12_goAll_4 (L_X12_goAll  n) n  l1 l2 l3 σ = some res := hM
      refine v_iload_n K dX12_goAll_45 3 rfl ?_
      refine v_aload_n K dX12_goAll_46 0 rfl ?_
      refine g_X12_1 K qf_X12_122 dX12_goAll_47 ?_
      refine v_icmp_ge K 86 dX12_goAll_50 (by decide) hM (fun hM => ?_) (fun hM => ?_)
      · refine v_iinc K dX12_goAll_86 2 rfl (v := (l2 + (1 : Int32))) rfl (by decide) hM (fun y => [(2, .int y), (0, .ref (ad 0)), (1, .int l1), (3, .int l3)]) (fun _ => rfl) (fun x6 hM => ?_)
        refine v_goto (tgt := 24) K dX12_goAll_89 (by decide) ?_
        exact v_sub [1, 2, 0] rfl (ih_2 l1 x6 σ hM)
      · refine v_iconst (v := (0 : Int32)) K dX12_goAll_53 (by decide) ?_
        refine v_istore K dX12_goAll_54 (by decide) [(4, .int (0 : Int32)), (0, .ref (ad 0)), (1, .int l1), (2, .int l2), (3, .int l3)] rfl ?_
        exact v_sub [1, 2, 3, 4, 0] rfl (ih_5 l1 l2 l3 (0 : Int32) σ hM)
    · intro l1 l2 l3 l4 σ hM
      have hM : B_X12_goAll_5 (L_X12_goAll  n) n  l1 l2 l3 l4 σ = some res := hM
      refine v_iload K dX12_goAll_56 4 rfl ?_
      refine v_aload_n K dX12_goAll_58 0 rfl ?_
      refine g_X12_1 K qf_X12_122 dX12_goAll_59 ?_
      refine v_icmp_ge K 80 dX12_goAll_62 (by decide) hM (fun hM => ?_) (fun hM => ?_)
      · refine v_iinc K dX12_goAll_80 3 rfl (v := (l3 + (1 : Int32))) rfl (by decide) hM (fun y => [(3, .int y), (0, .ref (ad 0)), (1, .int l1), (2, .int l2), (4, .int l4)]) (fun _ => rfl) (fun x7 hM => ?_)
        refine v_goto (tgt := 45) K dX12_goAll_83 (by decide) ?_
        exact v_sub [1, 2, 3, 0] rfl (ih_4 l1 l2 x7 σ hM)
      · refine v_aload_n K dX12_goAll_65 0 rfl ?_
        refine v_iload_n K dX12_goAll_66 2 rfl ?_
        refine v_iload_n K dX12_goAll_67 3 rfl ?_
        refine v_iload K dX12_goAll_68 4 rfl ?_
        refine v_iload_n K dX12_goAll_70 1 rfl ?_
        refine x_Vv (As := [.int l2, .int l3, .int l4, .int l1]) (st := []) K uv_X12_goOn qm_X12_300 dX12_goAll_71 rv_X12 (fun _ h => c_X12_goOn l  n l2 l3 l4 l1 σ h) rfl ⟨(Nat.le_of_ble_eq_true rfl), (Nat.le_of_ble_eq_true rfl)⟩ (Nat.le_of_ble_eq_true rfl) hM (fun s8 hM => ?_)
        refine v_iinc K dX12_goAll_74 4 rfl (v := (l4 + (1 : Int32))) rfl (by decide) hM (fun y => [(4, .int y), (0, .ref (ad 0)), (1, .int l1), (2, .int l2), (3, .int l3)]) (fun _ => rfl) (fun x9 hM => ?_)
        refine v_goto (tgt := 56) K dX12_goAll_77 (by decide) ?_
        exact v_sub [1, 2, 3, 4, 0] rfl (ih_5 l1 l2 l3 x9 s8 hM)
set_option maxHeartbeats 4000000 in
set_option maxRecDepth 20000 in
theorem c_X12_goAll (l : Launch) {D : va_G} {A : Nat → Prop} {ad : Nat → Nat} {dA : Nat → ClassId}  (n : Nat) (p1 : Int32) (σ : St) {res : Unit × St} (hM : F_X12_goAll n p1 σ = some res) : MI l yX12_goAll cX12_goAll 5 none 7 D (tysR dA) (wdR ad dA) A [.ref (ad 0), .int p1] σ (QV D (wdR ad dA) A res) := by
  refine mk_met (by decide +kernel) (Nat.le_of_ble_eq_true rfl) (fun p e s m below meth c K => ?_)
  have K : Cx p s m _ meth c cX12_goAll 5 none RX12 D (tysR dA) (wdR ad dA) A := K
  obtain ⟨ih_1, ih_2, ih_3, ih_4, ih_5⟩ := t_X12_goAll l    K (res := res) n (below := below) (e := e)
  refine v_iconst (v := (0 : Int32)) K dX12_goAll_0 (by decide) ?_
  refine v_istore_n K dX12_goAll_1 rfl (by decide) [(2, .int (0 : Int32)), (0, .ref (ad 0)), (1, .int p1)] rfl ?_
  exact v_sub [1, 2, 0] rfl (ih_1 p1 (0 : Int32) σ hM)
noncomputable def B_X12_beginAll_1 (J : Nat → Int32 → St → Option (Int32 × St)) (n : Nat)  (l1 : Int32) (σ : St) : Option (Int32 × St) := if (625 : Int32) ≤ l1 then (bd (F_X12_codeOf n  σ) fun r3 s2 => gd (vp_in r3 625) (bnd (sI s2 20 (r3).toNatClampNeg (vp_nar .boolean (1 : Int32))) fun s4 => some (r3, s4))) else (gd (vp_in l1 625) (bnd (sI σ 20 (l1).toNatClampNeg (vp_nar .boolean (0 : Int32))) fun s5 => bnd (l1 + (1 : Int32)) fun x6 => J 1 x6 s5))
noncomputable def S_X12_beginAll  (n : Nat) (J : Nat → Int32 → St → Option (Int32 × St)) : Nat → Int32 → St → Option (Int32 × St) := fun lb a0 σ => match lb with
  | 1 => B_X12_beginAll_1 J n  a0 σ
  | _ => none
noncomputable def L_X12_beginAll  (n : Nat) : Nat → Int32 → St → Option (Int32 × St) := Nat.rec (fun _ _ _ => none) (fun n J => S_X12_beginAll  n J) n
noncomputable def F_X12_beginAll (n : Nat)  (σ : St) : Option (Int32 × St) := bd (F_X12_beginThought n  σ) fun _ s1 => L_X12_beginAll  n 1 (0 : Int32) s1
set_option maxHeartbeats 4000000 in
set_option maxRecDepth 20000 in
theorem t_X12_beginAll (l : Launch) {p : Program} {e : Env} {s : State} {m : MethodId} {args : Array Value} {below : List Frame} {meth : Method} {c : Code} {D : va_G} {A : Nat → Prop} {ad : Nat → Nat} {dA : Nat → ClassId}   (K : Cx p s m args meth c cX12_beginAll 2 (some .int) RX12 D (tysR dA) (wdR ad dA) A) {res : Int32 × St} (n : Nat) : (∀ (l1 : Int32) (σ : St), L_X12_beginAll  n 1 l1 σ = some res → V p l e (rmH 2) s m args below meth c 2 D (wdR ad dA) A (MQ below (QI D (wdR ad dA) A res) args s 0 0 A) 6 [(0, .ref (ad 0)), (1, .int l1)] [] σ) := by
  induction n with
  | zero => exact (fun _ _ h => (by cases h))
  | succ n ih =>
    have ih_1 := ih
    · intro l1 σ hM
      have hM : B_X12_beginAll_1 (L_X12_beginAll  n) n  l1 σ = some res := hM
      refine v_iload_n K dX12_beginAll_6 1 rfl ?_
      refine v_sipush (v := (625 : Int32)) K dX12_beginAll_7 (by decide) ?_
      refine v_icmp_ge K 26 dX12_beginAll_10 (by decide) hM (fun hM => ?_) (fun hM => ?_)
      · refine v_aload_n K dX12_beginAll_26 0 rfl ?_
        refine x_Vi (As := []) (st := []) K uv_X12_codeOf qm_X12_297 dX12_beginAll_27 rv_X12 (fun _ h => c_X12_codeOf l  n  σ h) rfl ⟨(Nat.le_of_ble_eq_true rfl), (Nat.le_of_ble_eq_true rfl)⟩ (Nat.le_of_ble_eq_true rfl) hM (fun r3 s2 hM => ?_)
        refine v_istore_n K dX12_beginAll_30 rfl (by decide) [(1, .int r3), (0, .ref (ad 0))] rfl ?_
        refine v_aload_n K dX12_beginAll_31 1 rfl ?_
        refine g_X12_32 K qf_X12_71 dX12_beginAll_32 ?_
        refine v_iload_n K dX12_beginAll_35 0 rfl ?_
        refine v_iconst (v := (1 : Int32)) K dX12_beginAll_36 (by decide) ?_
        refine st_R20 K dX12_beginAll_37 hM (fun s4 hM => ?_)
        refine v_iload_n K dX12_beginAll_38 0 rfl ?_
        exact v_iret K rfl dX12_beginAll_39 hM
      · refine v_aload_n K dX12_beginAll_13 0 rfl ?_
        refine g_X12_32 K qf_X12_71 dX12_beginAll_14 ?_
        refine v_iload_n K dX12_beginAll_17 1 rfl ?_
        refine v_iconst (v := (0 : Int32)) K dX12_beginAll_18 (by decide) ?_
        refine st_R20 K dX12_beginAll_19 hM (fun s5 hM => ?_)
        refine v_iinc K dX12_beginAll_20 1 rfl (v := (l1 + (1 : Int32))) rfl (by decide) hM (fun y => [(1, .int y), (0, .ref (ad 0))]) (fun _ => rfl) (fun x6 hM => ?_)
        refine v_goto (tgt := 6) K dX12_beginAll_23 (by decide) ?_
        exact v_sub [1, 0] rfl (ih_1 x6 s5 hM)
set_option maxHeartbeats 4000000 in
set_option maxRecDepth 20000 in
theorem c_X12_beginAll (l : Launch) {D : va_G} {A : Nat → Prop} {ad : Nat → Nat} {dA : Nat → ClassId}  (n : Nat)  (σ : St) {res : Int32 × St} (hM : F_X12_beginAll n  σ = some res) : MI l yX12_beginAll cX12_beginAll 2 (some .int) 2 D (tysR dA) (wdR ad dA) A [.ref (ad 0)] σ (QI D (wdR ad dA) A res) := by
  refine mk_met (by decide +kernel) (Nat.le_of_ble_eq_true rfl) (fun p e s m below meth c K => ?_)
  have K : Cx p s m _ meth c cX12_beginAll 2 (some .int) RX12 D (tysR dA) (wdR ad dA) A := K
  have ih_1 := t_X12_beginAll l    K (res := res) n (below := below) (e := e)
  refine v_aload_n K dX12_beginAll_0 0 rfl ?_
  refine x_Vv (As := []) (st := []) K uv_X12_beginThought qm_X12_257 dX12_beginAll_1 rv_X12 (fun _ h => c_X12_beginThought l  n  σ h) rfl ⟨(Nat.le_of_ble_eq_true rfl), (Nat.le_of_ble_eq_true rfl)⟩ (Nat.le_of_ble_eq_true rfl) hM (fun s1 hM => ?_)
  refine v_iconst (v := (0 : Int32)) K dX12_beginAll_4 (by decide) ?_
  refine v_istore_n K dX12_beginAll_5 rfl (by decide) [(1, .int (0 : Int32)), (0, .ref (ad 0))] rfl ?_
  exact v_sub [1, 0] rfl (ih_1 (0 : Int32) s1 hM)
noncomputable def F_X12_isBoundIn (n : Nat) (p1 : Int32) (p2 : Int32) (p3 : Int32) (σ : St) : Option (Int32 × St) := bd (F_X12_layCode n p1 σ) fun _ s1 => gd (vp_in p2 7) (if (gI s1 17 (p2).toNatClampNeg) = p3 then (some ((1 : Int32), s1)) else (some ((0 : Int32), s1)))
set_option maxHeartbeats 4000000 in
set_option maxRecDepth 20000 in
theorem c_X12_isBoundIn (l : Launch) {D : va_G} {A : Nat → Prop} {ad : Nat → Nat} {dA : Nat → ClassId}  (n : Nat) (p1 : Int32) (p2 : Int32) (p3 : Int32) (σ : St) {res : Int32 × St} (hM : F_X12_isBoundIn n p1 p2 p3 σ = some res) : MI l yX12_isBoundIn cX12_isBoundIn 4 (some .boolean) 2 D (tysR dA) (wdR ad dA) A [.ref (ad 0), .int p1, .int p2, .int p3] σ (QI D (wdR ad dA) A res) := by
  refine mk_met (by decide +kernel) (Nat.le_of_ble_eq_true rfl) (fun p e s m below meth c K => ?_)
  have K : Cx p s m _ meth c cX12_isBoundIn 4 (some .boolean) RX12 D (tysR dA) (wdR ad dA) A := K
  refine v_aload_n K dX12_isBoundIn_0 0 rfl ?_
  refine v_iload_n K dX12_isBoundIn_1 1 rfl ?_
  refine x_Vv (As := [.int p1]) (st := []) K uv_X12_layCode qm_X12_293 dX12_isBoundIn_2 rv_X12 (fun _ h => c_X12_layCode l  n p1 σ h) rfl ⟨(Nat.le_of_ble_eq_true rfl), (Nat.le_of_ble_eq_true rfl)⟩ (Nat.le_of_ble_eq_true rfl) hM (fun s1 hM => ?_)
  refine v_aload_n K dX12_isBoundIn_5 0 rfl ?_
  refine g_X12_26 K qf_X12_62 dX12_isBoundIn_6 ?_
  refine v_iload_n K dX12_isBoundIn_9 2 rfl ?_
  refine ld_R17 K dX12_isBoundIn_10 hM (fun hM => ?_)
  refine v_iload_n K dX12_isBoundIn_11 3 rfl ?_
  refine v_icmp_ne K 19 dX12_isBoundIn_12 (by decide) hM (fun hM => ?_) (fun hM => ?_)
  · refine v_iconst (v := (0 : Int32)) K dX12_isBoundIn_19 (by decide) ?_
    exact v_zret K rfl rfl dX12_isBoundIn_20 hM
  · refine v_iconst (v := (1 : Int32)) K dX12_isBoundIn_15 (by decide) ?_
    refine v_goto (tgt := 20) K dX12_isBoundIn_16 (by decide) ?_
    exact v_zret K rfl rfl dX12_isBoundIn_20 hM
noncomputable def B_X12_isReached_1 (J : Nat → Int32 → Int32 → Int32 → St → Option (Int32 × St)) (n : Nat)  (l1 : Int32) (l2 : Int32) (l3 : Int32) (σ : St) : Option (Int32 × St) := if (625 : Int32) ≤ l3 then (some ((0 : Int32), σ)) else (gd (vp_in l3 625) (if (gI σ 20 (l3).toNatClampNeg) = 0 then (bnd (l3 + (1 : Int32)) fun x1 => J 1 l1 l2 x1 σ) else (bd (F_X12_isBoundIn n l3 l1 l2 σ) fun r3 s2 => if r3 = 0 then (bnd (l3 + (1 : Int32)) fun x4 => J 1 l1 l2 x4 s2) else (some ((1 : Int32), s2)))))
noncomputable def S_X12_isReached  (n : Nat) (J : Nat → Int32 → Int32 → Int32 → St → Option (Int32 × St)) : Nat → Int32 → Int32 → Int32 → St → Option (Int32 × St) := fun lb a0 a1 a2 σ => match lb with
  | 1 => B_X12_isReached_1 J n  a0 a1 a2 σ
  | _ => none
noncomputable def L_X12_isReached  (n : Nat) : Nat → Int32 → Int32 → Int32 → St → Option (Int32 × St) := Nat.rec (fun _ _ _ _ _ => none) (fun n J => S_X12_isReached  n J) n
noncomputable def F_X12_isReached (n : Nat) (p1 : Int32) (p2 : Int32) (σ : St) : Option (Int32 × St) := L_X12_isReached  n 1 p1 p2 (0 : Int32) σ
set_option maxHeartbeats 4000000 in
set_option maxRecDepth 20000 in
theorem t_X12_isReached (l : Launch) {p : Program} {e : Env} {s : State} {m : MethodId} {args : Array Value} {below : List Frame} {meth : Method} {c : Code} {D : va_G} {A : Nat → Prop} {ad : Nat → Nat} {dA : Nat → ClassId}   (K : Cx p s m args meth c cX12_isReached 4 (some .boolean) RX12 D (tysR dA) (wdR ad dA) A) {res : Int32 × St} (n : Nat) : (∀ (l1 : Int32) (l2 : Int32) (l3 : Int32) (σ : St), L_X12_isReached  n 1 l1 l2 l3 σ = some res → V p l e (rmH 3) s m args below meth c 4 D (wdR ad dA) A (MQ below (QI D (wdR ad dA) A res) args s 0 0 A) 2 [(0, .ref (ad 0)), (1, .int l1), (2, .int l2), (3, .int l3)] [] σ) := by
  induction n with
  | zero => exact (fun _ _ _ _ h => (by cases h))
  | succ n ih =>
    have ih_1 := ih
    · intro l1 l2 l3 σ hM
      have hM : B_X12_isReached_1 (L_X12_isReached  n) n  l1 l2 l3 σ = some res := hM
      refine v_iload_n K dX12_isReached_2 3 rfl ?_
      refine v_sipush (v := (625 : Int32)) K dX12_isReached_3 (by decide) ?_
      refine v_icmp_ge K 36 dX12_isReached_6 (by decide) hM (fun hM => ?_) (fun hM => ?_)
      · refine v_iconst (v := (0 : Int32)) K dX12_isReached_36 (by decide) ?_
        exact v_zret K rfl rfl dX12_isReached_37 hM
      · refine v_aload_n K dX12_isReached_9 0 rfl ?_
        refine g_X12_32 K qf_X12_71 dX12_isReached_10 ?_
        refine v_iload_n K dX12_isReached_13 3 rfl ?_
        refine ld_R20 K dX12_isReached_14 hM (fun hM => ?_)
        refine v_if_eq K 30 dX12_isReached_15 (by decide) hM (fun hM => ?_) (fun hM => ?_)
        · refine v_iinc K dX12_isReached_30 3 rfl (v := (l3 + (1 : Int32))) rfl (by decide) hM (fun y => [(3, .int y), (0, .ref (ad 0)), (1, .int l1), (2, .int l2)]) (fun _ => rfl) (fun x1 hM => ?_)
          refine v_goto (tgt := 2) K dX12_isReached_33 (by decide) ?_
          exact v_sub [1, 2, 3, 0] rfl (ih_1 l1 l2 x1 σ hM)
        · refine v_aload_n K dX12_isReached_18 0 rfl ?_
          refine v_iload_n K dX12_isReached_19 3 rfl ?_
          refine v_iload_n K dX12_isReached_20 1 rfl ?_
          refine v_iload_n K dX12_isReached_21 2 rfl ?_
          refine x_Vi (As := [.int l3, .int l1, .int l2]) (st := []) K uv_X12_isBoundIn qm_X12_304 dX12_isReached_22 rv_X12 (fun _ h => c_X12_isBoundIn l  n l3 l1 l2 σ h) rfl ⟨(Nat.le_of_ble_eq_true rfl), (Nat.le_of_ble_eq_true rfl)⟩ (Nat.le_of_ble_eq_true rfl) hM (fun r3 s2 hM => ?_)
          refine v_if_eq K 30 dX12_isReached_25 (by decide) hM (fun hM => ?_) (fun hM => ?_)
          · refine v_iinc K dX12_isReached_30 3 rfl (v := (l3 + (1 : Int32))) rfl (by decide) hM (fun y => [(3, .int y), (0, .ref (ad 0)), (1, .int l1), (2, .int l2)]) (fun _ => rfl) (fun x4 hM => ?_)
            refine v_goto (tgt := 2) K dX12_isReached_33 (by decide) ?_
            exact v_sub [1, 2, 3, 0] rfl (ih_1 l1 l2 x4 s2 hM)
          · refine v_iconst (v := (1 : Int32)) K dX12_isReached_28 (by decide) ?_
            exact v_zret K rfl rfl dX12_isReached_29 hM
set_option maxHeartbeats 4000000 in
set_option maxRecDepth 20000 in
theorem c_X12_isReached (l : Launch) {D : va_G} {A : Nat → Prop} {ad : Nat → Nat} {dA : Nat → ClassId}  (n : Nat) (p1 : Int32) (p2 : Int32) (σ : St) {res : Int32 × St} (hM : F_X12_isReached n p1 p2 σ = some res) : MI l yX12_isReached cX12_isReached 4 (some .boolean) 3 D (tysR dA) (wdR ad dA) A [.ref (ad 0), .int p1, .int p2] σ (QI D (wdR ad dA) A res) := by
  refine mk_met (by decide +kernel) (Nat.le_of_ble_eq_true rfl) (fun p e s m below meth c K => ?_)
  have K : Cx p s m _ meth c cX12_isReached 4 (some .boolean) RX12 D (tysR dA) (wdR ad dA) A := K
  have ih_1 := t_X12_isReached l    K (res := res) n (below := below) (e := e)
  refine v_iconst (v := (0 : Int32)) K dX12_isReached_0 (by decide) ?_
  refine v_istore_n K dX12_isReached_1 rfl (by decide) [(3, .int (0 : Int32)), (0, .ref (ad 0)), (1, .int p1), (2, .int p2)] rfl ?_
  exact v_sub [1, 2, 3, 0] rfl (ih_1 p1 p2 (0 : Int32) σ hM)
noncomputable def B_X12_tillBound_1 (J : Nat → Int32 → Int32 → St → Option (Int32 × St)) (n : Nat)  (l1 : Int32) (l2 : Int32) (σ : St) : Option (Int32 × St) := if (8 : Int32) < l2 then (some ((-2 : Int32), σ)) else (gd (¬ (10 : Int32) = 0) (bnd (l1 / (10 : Int32)) fun x5 => gd (¬ (10 : Int32) = 0) (bnd (l1 - l1 / (10 : Int32) * (10 : Int32)) fun x6 => bd (F_X12_isReached n x5 x6 σ) fun r8 s7 => if r8 = 0 then (bd (F_X12_goAll n l2 s7) fun _ s9 => bnd (l2 + (1 : Int32)) fun x10 => J 1 l1 x10 s9) else (some (l2, s7)))))
noncomputable def S_X12_tillBound  (n : Nat) (J : Nat → Int32 → Int32 → St → Option (Int32 × St)) : Nat → Int32 → Int32 → St → Option (Int32 × St) := fun lb a0 a1 σ => match lb with
  | 1 => B_X12_tillBound_1 J n  a0 a1 σ
  | _ => none
noncomputable def L_X12_tillBound  (n : Nat) : Nat → Int32 → Int32 → St → Option (Int32 × St) := Nat.rec (fun _ _ _ _ => none) (fun n J => S_X12_tillBound  n J) n
noncomputable def F_X12_tillBound (n : Nat) (p1 : Int32) (σ : St) : Option (Int32 × St) := bd (F_X12_areTwo n p1 σ) fun r2 s1 => if r2 = 0 then (some ((-1 : Int32), s1)) else (if (gI s1 0 1) ≤ (4 : Int32) then (bd (F_X12_beginAll n  s1) fun r4 s3 => L_X12_tillBound  n 1 p1 (0 : Int32) s3) else (some ((-5 : Int32), s1)))
set_option maxHeartbeats 4000000 in
set_option maxRecDepth 20000 in
theorem t_X12_tillBound (l : Launch) {p : Program} {e : Env} {s : State} {m : MethodId} {args : Array Value} {below : List Frame} {meth : Method} {c : Code} {D : va_G} {A : Nat → Prop} {ad : Nat → Nat} {dA : Nat → ClassId}   (K : Cx p s m args meth c cX12_tillBound 3 (some .int) RX12 D (tysR dA) (wdR ad dA) A) {res : Int32 × St} (n : Nat) : (∀ (l1 : Int32) (l2 : Int32) (σ : St), L_X12_tillBound  n 1 l1 l2 σ = some res → V p l e (rmH 8) s m args below meth c 3 D (wdR ad dA) A (MQ below (QI D (wdR ad dA) A res) args s 0 0 A) 28 [(0, .ref (ad 0)), (1, .int l1), (2, .int l2)] [] σ) := by
  induction n with
  | zero => exact (fun _ _ _ h => (by cases h))
  | succ n ih =>
    have ih_1 := ih
    · intro l1 l2 σ hM
      have hM : B_X12_tillBound_1 (L_X12_tillBound  n) n  l1 l2 σ = some res := hM
      refine v_iload_n K dX12_tillBound_28 2 rfl ?_
      refine v_bipush (v := (8 : Int32)) K dX12_tillBound_29 (by decide) ?_
      refine v_icmp_gt K 62 dX12_tillBound_31 (by decide) hM (fun hM => ?_) (fun hM => ?_)
      · refine v_bipush (v := (-2 : Int32)) K dX12_tillBound_62 (by decide) ?_
        exact v_iret K rfl dX12_tillBound_64 hM
      · refine v_aload_n K dX12_tillBound_34 0 rfl ?_
        refine v_iload_n K dX12_tillBound_35 1 rfl ?_
        refine v_bipush (v := (10 : Int32)) K dX12_tillBound_36 (by decide) ?_
        refine v_idiv K dX12_tillBound_38 hM (fun hM => ?_)
        refine v_topi hM (fun x5 hM => ?_)
        refine v_iload_n K dX12_tillBound_39 1 rfl ?_
        refine v_bipush (v := (10 : Int32)) K dX12_tillBound_40 (by decide) ?_
        refine v_irem K dX12_tillBound_42 hM (fun hM => ?_)
        refine v_topi hM (fun x6 hM => ?_)
        refine x_Vi (As := [.int x5, .int x6]) (st := []) K uv_X12_isReached qm_X12_310 dX12_tillBound_43 rv_X12 (fun _ h => c_X12_isReached l  n x5 x6 σ h) rfl ⟨(Nat.le_of_ble_eq_true rfl), (Nat.le_of_ble_eq_true rfl)⟩ (Nat.le_of_ble_eq_true rfl) hM (fun r8 s7 hM => ?_)
        refine v_if_eq K 51 dX12_tillBound_46 (by decide) hM (fun hM => ?_) (fun hM => ?_)
        · refine v_aload_n K dX12_tillBound_51 0 rfl ?_
          refine v_iload_n K dX12_tillBound_52 2 rfl ?_
          refine x_Vv (As := [.int l2]) (st := []) K uv_X12_goAll qm_X12_313 dX12_tillBound_53 rv_X12 (fun _ h => c_X12_goAll l  n l2 s7 h) rfl ⟨(Nat.le_of_ble_eq_true rfl), (Nat.le_of_ble_eq_true rfl)⟩ (Nat.le_of_ble_eq_true rfl) hM (fun s9 hM => ?_)
          refine v_iinc K dX12_tillBound_56 2 rfl (v := (l2 + (1 : Int32))) rfl (by decide) hM (fun y => [(2, .int y), (0, .ref (ad 0)), (1, .int l1)]) (fun _ => rfl) (fun x10 hM => ?_)
          refine v_goto (tgt := 28) K dX12_tillBound_59 (by decide) ?_
          exact v_sub [1, 2, 0] rfl (ih_1 l1 x10 s9 hM)
        · refine v_iload_n K dX12_tillBound_49 2 rfl ?_
          exact v_iret K rfl dX12_tillBound_50 hM
set_option maxHeartbeats 4000000 in
set_option maxRecDepth 20000 in
theorem c_X12_tillBound (l : Launch) {D : va_G} {A : Nat → Prop} {ad : Nat → Nat} {dA : Nat → ClassId}  (n : Nat) (p1 : Int32) (σ : St) {res : Int32 × St} (hM : F_X12_tillBound n p1 σ = some res) : MI l yX12_tillBound cX12_tillBound 3 (some .int) 8 D (tysR dA) (wdR ad dA) A [.ref (ad 0), .int p1] σ (QI D (wdR ad dA) A res) := by
  refine mk_met (by decide +kernel) (Nat.le_of_ble_eq_true rfl) (fun p e s m below meth c K => ?_)
  have K : Cx p s m _ meth c cX12_tillBound 3 (some .int) RX12 D (tysR dA) (wdR ad dA) A := K
  have ih_1 := t_X12_tillBound l    K (res := res) n (below := below) (e := e)
  refine v_aload_n K dX12_tillBound_0 0 rfl ?_
  refine v_iload_n K dX12_tillBound_1 1 rfl ?_
  refine x_Vi (As := [.int p1]) (st := []) K uv_X12_areTwo qm_X12_254 dX12_tillBound_2 rv_X12 (fun _ h => c_X12_areTwo l  n p1 σ h) rfl ⟨(Nat.le_of_ble_eq_true rfl), (Nat.le_of_ble_eq_true rfl)⟩ (Nat.le_of_ble_eq_true rfl) hM (fun r2 s1 hM => ?_)
  refine v_if_ne K 10 dX12_tillBound_5 (by decide) hM (fun hM => ?_) (fun hM => ?_)
  · refine v_aload_n K dX12_tillBound_10 0 rfl ?_
    refine g_X12_1 K qf_X12_122 dX12_tillBound_11 ?_
    refine v_iconst (v := (4 : Int32)) K dX12_tillBound_14 (by decide) ?_
    refine v_icmp_le K 21 dX12_tillBound_15 (by decide) hM (fun hM => ?_) (fun hM => ?_)
    · refine v_aload_n K dX12_tillBound_21 0 rfl ?_
      refine x_Vi (As := []) (st := []) K uv_X12_beginAll qm_X12_307 dX12_tillBound_22 rv_X12 (fun _ h => c_X12_beginAll l  n  s1 h) rfl ⟨(Nat.le_of_ble_eq_true rfl), (Nat.le_of_ble_eq_true rfl)⟩ (Nat.le_of_ble_eq_true rfl) hM (fun r4 s3 hM => ?_)
      refine v_pop K dX12_tillBound_25 rfl ?_
      refine v_iconst (v := (0 : Int32)) K dX12_tillBound_26 (by decide) ?_
      refine v_istore_n K dX12_tillBound_27 rfl (by decide) [(2, .int (0 : Int32)), (0, .ref (ad 0)), (1, .int p1)] rfl ?_
      exact v_sub [1, 2, 0] rfl (ih_1 p1 (0 : Int32) s3 hM)
    · refine v_bipush (v := (-5 : Int32)) K dX12_tillBound_18 (by decide) ?_
      exact v_iret K rfl dX12_tillBound_20 hM
  · refine v_iconst (v := (-1 : Int32)) K dX12_tillBound_8 (by decide) ?_
    exact v_iret K rfl dX12_tillBound_9 hM
noncomputable def B_X12_round_1 (J : Nat → Int32 → Int32 → St → Option (Int32 × St)) (n : Nat)  (l1 : Int32) (l2 : Int32) (σ : St) : Option (Int32 × St) := if (8 : Int32) < l2 then (some ((-2 : Int32), σ)) else (bd (F_X12_goAll n (l2 - (1 : Int32)) σ) fun _ s3 => gd (vp_in l1 625) (if (gI s3 20 (l1).toNatClampNeg) = 0 then (bnd (l2 + (1 : Int32)) fun x4 => J 1 l1 x4 s3) else (some (l2, s3))))
noncomputable def S_X12_round  (n : Nat) (J : Nat → Int32 → Int32 → St → Option (Int32 × St)) : Nat → Int32 → Int32 → St → Option (Int32 × St) := fun lb a0 a1 σ => match lb with
  | 1 => B_X12_round_1 J n  a0 a1 σ
  | _ => none
noncomputable def L_X12_round  (n : Nat) : Nat → Int32 → Int32 → St → Option (Int32 × St) := Nat.rec (fun _ _ _ _ => none) (fun n J => S_X12_round  n J) n
noncomputable def F_X12_round (n : Nat)  (σ : St) : Option (Int32 × St) := if (gI σ 0 1) ≤ (4 : Int32) then (bd (F_X12_beginAll n  σ) fun r2 s1 => L_X12_round  n 1 r2 (1 : Int32) s1) else (some ((-5 : Int32), σ))
set_option maxHeartbeats 4000000 in
set_option maxRecDepth 20000 in
theorem t_X12_round (l : Launch) {p : Program} {e : Env} {s : State} {m : MethodId} {args : Array Value} {below : List Frame} {meth : Method} {c : Code} {D : va_G} {A : Nat → Prop} {ad : Nat → Nat} {dA : Nat → ClassId}   (K : Cx p s m args meth c cX12_round 3 (some .int) RX12 D (tysR dA) (wdR ad dA) A) {res : Int32 × St} (n : Nat) : (∀ (l1 : Int32) (l2 : Int32) (σ : St), L_X12_round  n 1 l1 l2 σ = some res → V p l e (rmH 8) s m args below meth c 3 D (wdR ad dA) A (MQ below (QI D (wdR ad dA) A res) args s 0 0 A) 18 [(0, .ref (ad 0)), (1, .int l1), (2, .int l2)] [] σ) := by
  induction n with
  | zero => exact (fun _ _ _ h => (by cases h))
  | succ n ih =>
    have ih_1 := ih
    · intro l1 l2 σ hM
      have hM : B_X12_round_1 (L_X12_round  n) n  l1 l2 σ = some res := hM
      refine v_iload_n K dX12_round_18 2 rfl ?_
      refine v_bipush (v := (8 : Int32)) K dX12_round_19 (by decide) ?_
      refine v_icmp_gt K 48 dX12_round_21 (by decide) hM (fun hM => ?_) (fun hM => ?_)
      · refine v_bipush (v := (-2 : Int32)) K dX12_round_48 (by decide) ?_
        exact v_iret K rfl dX12_round_50 hM
      · refine v_aload_n K dX12_round_24 0 rfl ?_
        refine v_iload_n K dX12_round_25 2 rfl ?_
        refine v_iconst (v := (1 : Int32)) K dX12_round_26 (by decide) ?_
        refine v_isub K dX12_round_27 ?_
        refine x_Vv (As := [.int (l2 - (1 : Int32))]) (st := []) K uv_X12_goAll qm_X12_313 dX12_round_28 rv_X12 (fun _ h => c_X12_goAll l  n (l2 - (1 : Int32)) σ h) rfl ⟨(Nat.le_of_ble_eq_true rfl), (Nat.le_of_ble_eq_true rfl)⟩ (Nat.le_of_ble_eq_true rfl) hM (fun s3 hM => ?_)
        refine v_aload_n K dX12_round_31 0 rfl ?_
        refine g_X12_32 K qf_X12_71 dX12_round_32 ?_
        refine v_iload_n K dX12_round_35 1 rfl ?_
        refine ld_R20 K dX12_round_36 hM (fun hM => ?_)
        refine v_if_eq K 42 dX12_round_37 (by decide) hM (fun hM => ?_) (fun hM => ?_)
        · refine v_iinc K dX12_round_42 2 rfl (v := (l2 + (1 : Int32))) rfl (by decide) hM (fun y => [(2, .int y), (0, .ref (ad 0)), (1, .int l1)]) (fun _ => rfl) (fun x4 hM => ?_)
          refine v_goto (tgt := 18) K dX12_round_45 (by decide) ?_
          exact v_sub [1, 2, 0] rfl (ih_1 l1 x4 s3 hM)
        · refine v_iload_n K dX12_round_40 2 rfl ?_
          exact v_iret K rfl dX12_round_41 hM
set_option maxHeartbeats 4000000 in
set_option maxRecDepth 20000 in
theorem c_X12_round (l : Launch) {D : va_G} {A : Nat → Prop} {ad : Nat → Nat} {dA : Nat → ClassId}  (n : Nat)  (σ : St) {res : Int32 × St} (hM : F_X12_round n  σ = some res) : MI l yX12_round cX12_round 3 (some .int) 8 D (tysR dA) (wdR ad dA) A [.ref (ad 0)] σ (QI D (wdR ad dA) A res) := by
  refine mk_met (by decide +kernel) (Nat.le_of_ble_eq_true rfl) (fun p e s m below meth c K => ?_)
  have K : Cx p s m _ meth c cX12_round 3 (some .int) RX12 D (tysR dA) (wdR ad dA) A := K
  have ih_1 := t_X12_round l    K (res := res) n (below := below) (e := e)
  refine v_aload_n K dX12_round_0 0 rfl ?_
  refine g_X12_1 K qf_X12_122 dX12_round_1 ?_
  refine v_iconst (v := (4 : Int32)) K dX12_round_4 (by decide) ?_
  refine v_icmp_le K 11 dX12_round_5 (by decide) hM (fun hM => ?_) (fun hM => ?_)
  · refine v_aload_n K dX12_round_11 0 rfl ?_
    refine x_Vi (As := []) (st := []) K uv_X12_beginAll qm_X12_307 dX12_round_12 rv_X12 (fun _ h => c_X12_beginAll l  n  σ h) rfl ⟨(Nat.le_of_ble_eq_true rfl), (Nat.le_of_ble_eq_true rfl)⟩ (Nat.le_of_ble_eq_true rfl) hM (fun r2 s1 hM => ?_)
    refine v_istore_n K dX12_round_15 rfl (by decide) [(1, .int r2), (0, .ref (ad 0))] rfl ?_
    refine v_iconst (v := (1 : Int32)) K dX12_round_16 (by decide) ?_
    refine v_istore_n K dX12_round_17 rfl (by decide) [(2, .int (1 : Int32)), (1, .int r2), (0, .ref (ad 0))] rfl ?_
    exact v_sub [2, 1, 0] rfl (ih_1 r2 (1 : Int32) s1 hM)
  · refine v_bipush (v := (-5 : Int32)) K dX12_round_8 (by decide) ?_
    exact v_iret K rfl dX12_round_10 hM
noncomputable def B_X12_sureFrom_1 (O : Nat → Nat → Int32 → Int32 → Int32 → Int32 → St → Option (Int32 × St)) (J : Nat → Int32 → Int32 → Int32 → Int32 → Int32 → Int32 → Int32 → St → Option (Int32 × St)) (n : Nat)  (l1 : Int32) (l2 : Int32) (l3 : Int32) (l4 : Int32) (l5 : Int32) (l6 : Int32) (σ : St) : Option (Int32 × St) := if (gI σ 0 1) ≤ l6 then (some (l5, σ)) else (bd (F_X12_layCode n l1 σ) fun _ s1 => bnd (sI s1 0 27 ((gI s1 0 29) + l4)) fun s2 => bd (F_X12_isLet n l2 l6 s2) fun r4 s3 => if r4 = 0 then (bnd (l6 + (1 : Int32)) fun x8 => J 1 l1 l2 l3 l4 l5 x8 0 s3) else (bd (F_X12_winsBy n l2 l6 s3) fun r6 s5 => if (12 : Int32) ≤ r6 then (J 2 l1 l2 l3 l4 l5 l6 r6 s5) else (if l6 = l3 then (J 2 l1 l2 l3 l4 l5 l6 r6 s5) else (bnd (l6 + (1 : Int32)) fun x7 => J 1 l1 l2 l3 l4 l5 x7 0 s5))))
noncomputable def B_X12_sureFrom_2 (O : Nat → Nat → Int32 → Int32 → Int32 → Int32 → St → Option (Int32 × St)) (J : Nat → Int32 → Int32 → Int32 → Int32 → Int32 → Int32 → Int32 → St → Option (Int32 × St)) (n : Nat)  (l1 : Int32) (l2 : Int32) (l3 : Int32) (l4 : Int32) (l5 : Int32) (l6 : Int32) (l7 : Int32) (σ : St) : Option (Int32 × St) := if l7 ≤ 0 then (J 3 l1 l2 l3 l4 l5 l6 (1 : Int32) σ) else (bd (F_X12_goCase n l2 l6 (1 : Int32) σ) fun _ s9 => bd (F_X12_codeOf n  s9) fun r11 s10 => bd (O 0 n r11 l2 l3 (l4 + (1 : Int32)) s10) fun r13 s12 => bnd ((1 : Int32) + r13) fun x14 => J 3 l1 l2 l3 l4 l5 l6 x14 s12)
noncomputable def B_X12_sureFrom_3 (O : Nat → Nat → Int32 → Int32 → Int32 → Int32 → St → Option (Int32 × St)) (J : Nat → Int32 → Int32 → Int32 → Int32 → Int32 → Int32 → Int32 → St → Option (Int32 × St)) (n : Nat)  (l1 : Int32) (l2 : Int32) (l3 : Int32) (l4 : Int32) (l5 : Int32) (l6 : Int32) (l8 : Int32) (σ : St) : Option (Int32 × St) := if l5 ≤ l8 then (bnd (l6 + (1 : Int32)) fun x15 => J 1 l1 l2 l3 l4 l5 x15 0 σ) else (bnd (l6 + (1 : Int32)) fun x16 => J 1 l1 l2 l3 l4 l8 x16 0 σ)
noncomputable def S_X12_sureFrom (O : Nat → Nat → Int32 → Int32 → Int32 → Int32 → St → Option (Int32 × St))  (n : Nat) (J : Nat → Int32 → Int32 → Int32 → Int32 → Int32 → Int32 → Int32 → St → Option (Int32 × St)) : Nat → Int32 → Int32 → Int32 → Int32 → Int32 → Int32 → Int32 → St → Option (Int32 × St) := fun lb a0 a1 a2 a3 a4 a5 a6 σ => match lb with
  | 1 => B_X12_sureFrom_1 O J n  a0 a1 a2 a3 a4 a5 σ
  | 2 => B_X12_sureFrom_2 O J n  a0 a1 a2 a3 a4 a5 a6 σ
  | 3 => B_X12_sureFrom_3 O J n  a0 a1 a2 a3 a4 a5 a6 σ
  | _ => none
noncomputable def L_X12_sureFrom (O : Nat → Nat → Int32 → Int32 → Int32 → Int32 → St → Option (Int32 × St))  (n : Nat) : Nat → Int32 → Int32 → Int32 → Int32 → Int32 → Int32 → Int32 → St → Option (Int32 × St) := Nat.rec (fun _ _ _ _ _ _ _ _ _ => none) (fun n J => S_X12_sureFrom O  n J) n
noncomputable def E_X12_sureFrom (O : Nat → Nat → Int32 → Int32 → Int32 → Int32 → St → Option (Int32 × St)) (n : Nat) (p1 : Int32) (p2 : Int32) (p3 : Int32) (p4 : Int32) (σ : St) : Option (Int32 × St) := if p4 = (6 : Int32) then (some ((7 : Int32), σ)) else (L_X12_sureFrom O  n 1 p1 p2 p3 p4 (7 : Int32) (0 : Int32) 0 σ)
set_option maxHeartbeats 4000000 in
set_option maxRecDepth 20000 in
theorem t_X12_sureFrom (l : Launch) {p : Program} {e : Env} {s : State} {m : MethodId} {args : Array Value} {below : List Frame} {meth : Method} {c : Code} {D : va_G} {A : Nat → Prop} {ad : Nat → Nat} {dA : Nat → ClassId}   (d : Nat) {O : Nat → Nat → Int32 → Int32 → Int32 → Int32 → St → Option (Int32 × St)} (ih_r0 : ∀ (n : Nat) (p1 : Int32) (p2 : Int32) (p3 : Int32) (p4 : Int32) (σ : St) {res : Int32 × St}, O 0 n p1 p2 p3 p4 σ = some res → MI l yX12_sureFrom cX12_sureFrom 9 (some .int) (6 + d) D (tysR dA) (wdR ad dA) A [.ref (ad 0), .int p1, .int p2, .int p3, .int p4] σ (QI D (wdR ad dA) A res)) (K : Cx p s m args meth c cX12_sureFrom 9 (some .int) RX12 D (tysR dA) (wdR ad dA) A) {res : Int32 × St} (n : Nat) : (∀ (l1 : Int32) (l2 : Int32) (l3 : Int32) (l4 : Int32) (l5 : Int32) (l6 : Int32) (σ : St), L_X12_sureFrom O  n 1 l1 l2 l3 l4 l5 l6 0 σ = some res → V p l e (rmH (6 + d + 1)) s m args below meth c 9 D (wdR ad dA) A (MQ below (QI D (wdR ad dA) A res) args s 0 0 A) 17 [(0, .ref (ad 0)), (1, .int l1), (2, .int l2), (3, .int l3), (4, .int l4), (5, .int l5), (6, .int l6)] [] σ) ∧ (∀ (l1 : Int32) (l2 : Int32) (l3 : Int32) (l4 : Int32) (l5 : Int32) (l6 : Int32) (l7 : Int32) (σ : St), L_X12_sureFrom O  n 2 l1 l2 l3 l4 l5 l6 l7 σ = some res → V p l e (rmH (6 + d + 1)) s m args below meth c 9 D (wdR ad dA) A (MQ below (QI D (wdR ad dA) A res) args s 0 0 A) 80 [(0, .ref (ad 0)), (1, .int l1), (2, .int l2), (3, .int l3), (4, .int l4), (5, .int l5), (6, .int l6), (7, .int l7)] [] σ) ∧ (∀ (l1 : Int32) (l2 : Int32) (l3 : Int32) (l4 : Int32) (l5 : Int32) (l6 : Int32) (l8 : Int32) (σ : St), L_X12_sureFrom O  n 3 l1 l2 l3 l4 l5 l6 l8 σ = some res → V p l e (rmH (6 + d + 1)) s m args below meth c 9 D (wdR ad dA) A (MQ below (QI D (wdR ad dA) A res) args s 0 0 A) 114 [(0, .ref (ad 0)), (1, .int l1), (2, .int l2), (3, .int l3), (4, .int l4), (5, .int l5), (6, .int l6), (8, .int l8)] [] σ) := by
  induction n with
  | zero => exact ⟨fun _ _ _ _ _ _ _ h => (by cases h), fun _ _ _ _ _ _ _ _ h => (by cases h), fun _ _ _ _ _ _ _ _ h => (by cases h)⟩
  | succ n ih =>
    obtain ⟨ih_1, ih_2, ih_3⟩ := ih
    refine ⟨?_, ?_, ?_⟩
    · intro l1 l2 l3 l4 l5 l6 σ hM
      have hM : B_X12_sureFrom_1 O (L_X12_sureFrom O  n) n  l1 l2 l3 l4 l5 l6 σ = some res := hM
      refine v_iload K dX12_sureFrom_17 6 rfl ?_
      refine v_aload_n K dX12_sureFrom_19 0 rfl ?_
      refine g_X12_1 K qf_X12_122 dX12_sureFrom_20 ?_
      refine v_icmp_ge K 131 dX12_sureFrom_23 (by decide) hM (fun hM => ?_) (fun hM => ?_)
      · refine v_iload K dX12_sureFrom_131 5 rfl ?_
        exact v_iret K rfl dX12_sureFrom_133 hM
      · refine v_aload_n K dX12_sureFrom_26 0 rfl ?_
        refine v_iload_n K dX12_sureFrom_27 1 rfl ?_
        refine x_Vv (As := [.int l1]) (st := []) K uv_X12_layCode qm_X12_293 dX12_sureFrom_28 rv_X12 (fun _ h => c_X12_layCode l  n l1 σ h) rfl ⟨(by simp only [rmH]; omega), (by simp only [rmH]; omega)⟩ (Nat.le_of_ble_eq_true rfl) hM (fun s1 hM => ?_)
        refine v_aload_n K dX12_sureFrom_31 0 rfl ?_
        refine v_aload_n K dX12_sureFrom_32 0 rfl ?_
        refine g_X12_29 K qf_X12_235 dX12_sureFrom_33 ?_
        refine v_iload K dX12_sureFrom_36 4 rfl ?_
        refine v_iadd K dX12_sureFrom_38 ?_
        refine p_X12_27 K qf_X12_238 dX12_sureFrom_39 hM (fun s2 hM => ?_)
        refine v_aload_n K dX12_sureFrom_42 0 rfl ?_
        refine v_iload_n K dX12_sureFrom_43 2 rfl ?_
        refine v_iload K dX12_sureFrom_44 6 rfl ?_
        refine x_Vi (As := [.int l2, .int l6]) (st := []) K uv_X12_isLet qm_X12_270 dX12_sureFrom_46 rv_X12 (fun _ h => c_X12_isLet l  n l2 l6 s2 h) rfl ⟨(by simp only [rmH]; omega), (by simp only [rmH]; omega)⟩ (Nat.le_of_ble_eq_true rfl) hM (fun r4 s3 hM => ?_)
        refine v_if_ne K 55 dX12_sureFrom_49 (by decide) hM (fun hM => ?_) (fun hM => ?_)
        · refine v_aload_n K dX12_sureFrom_55 0 rfl ?_
          refine v_iload_n K dX12_sureFrom_56 2 rfl ?_
          refine v_iload K dX12_sureFrom_57 6 rfl ?_
          refine x_Vi (As := [.int l2, .int l6]) (st := []) K uv_X12_winsBy qm_X12_260 dX12_sureFrom_59 rv_X12 (fun _ h => c_X12_winsBy l  n l2 l6 s3 h) rfl ⟨(by simp only [rmH]; omega), (by simp only [rmH]; omega)⟩ (Nat.le_of_ble_eq_true rfl) hM (fun r6 s5 hM => ?_)
          refine v_istore K dX12_sureFrom_62 (by decide) [(7, .int r6), (0, .ref (ad 0)), (1, .int l1), (2, .int l2), (3, .int l3), (4, .int l4), (5, .int l5), (6, .int l6)] rfl ?_
          refine v_iload K dX12_sureFrom_64 0 rfl ?_
          refine v_bipush (v := (12 : Int32)) K dX12_sureFrom_66 (by decide) ?_
          refine v_icmp_ge K 80 dX12_sureFrom_68 (by decide) hM (fun hM => ?_) (fun hM => ?_)
          · exact v_sub [1, 2, 3, 4, 5, 6, 7, 0] rfl (ih_2 l1 l2 l3 l4 l5 l6 r6 s5 hM)
          · refine v_iload K dX12_sureFrom_71 7 rfl ?_
            refine v_iload_n K dX12_sureFrom_73 4 rfl ?_
            refine v_icmp_eq K 80 dX12_sureFrom_74 (by decide) hM (fun hM => ?_) (fun hM => ?_)
            · exact v_sub [1, 2, 3, 4, 5, 6, 7, 0] rfl (ih_2 l1 l2 l3 l4 l5 l6 r6 s5 hM)
            · refine v_goto (tgt := 125) K dX12_sureFrom_77 (by decide) ?_
              refine v_iinc K dX12_sureFrom_125 7 rfl (v := (l6 + (1 : Int32))) rfl (by decide) hM (fun y => [(6, .int y), (7, .int r6), (0, .ref (ad 0)), (1, .int l1), (2, .int l2), (3, .int l3), (4, .int l4), (5, .int l5)]) (fun _ => rfl) (fun x7 hM => ?_)
              refine v_goto (tgt := 17) K dX12_sureFrom_128 (by decide) ?_
              exact v_sub [2, 3, 4, 5, 6, 7, 0] rfl (ih_1 l1 l2 l3 l4 l5 x7 s5 hM)
        · refine v_goto (tgt := 125) K dX12_sureFrom_52 (by decide) ?_
          refine v_iinc K dX12_sureFrom_125 6 rfl (v := (l6 + (1 : Int32))) rfl (by decide) hM (fun y => [(6, .int y), (0, .ref (ad 0)), (1, .int l1), (2, .int l2), (3, .int l3), (4, .int l4), (5, .int l5)]) (fun _ => rfl) (fun x8 hM => ?_)
          refine v_goto (tgt := 17) K dX12_sureFrom_128 (by decide) ?_
          exact v_sub [1, 2, 3, 4, 5, 6, 0] rfl (ih_1 l1 l2 l3 l4 l5 x8 s3 hM)
    · intro l1 l2 l3 l4 l5 l6 l7 σ hM
      have hM : B_X12_sureFrom_2 O (L_X12_sureFrom O  n) n  l1 l2 l3 l4 l5 l6 l7 σ = some res := hM
      refine v_iconst (v := (1 : Int32)) K dX12_sureFrom_80 (by decide) ?_
      refine v_istore K dX12_sureFrom_81 (by decide) [(8, .int (1 : Int32)), (0, .ref (ad 0)), (1, .int l1), (2, .int l2), (3, .int l3), (4, .int l4), (5, .int l5), (6, .int l6), (7, .int l7)] rfl ?_
      refine v_iload K dX12_sureFrom_83 8 rfl ?_
      refine v_if_le K 114 dX12_sureFrom_85 (by decide) hM (fun hM => ?_) (fun hM => ?_)
      · exact v_sub [1, 2, 3, 4, 5, 6, 7, 0] rfl (ih_3 l1 l2 l3 l4 l5 l6 (1 : Int32) σ hM)
      · refine v_aload_n K dX12_sureFrom_88 1 rfl ?_
        refine v_iload_n K dX12_sureFrom_89 3 rfl ?_
        refine v_iload K dX12_sureFrom_90 7 rfl ?_
        refine v_iconst (v := (1 : Int32)) K dX12_sureFrom_92 (by decide) ?_
        refine x_Vv (As := [.int l2, .int l6, .int (1 : Int32)]) (st := []) K uv_X12_goCase qm_X12_278 dX12_sureFrom_93 rv_X12 (fun _ h => c_X12_goCase l  n l2 l6 (1 : Int32) σ h) rfl ⟨(by simp only [rmH]; omega), (by simp only [rmH]; omega)⟩ (Nat.le_of_ble_eq_true rfl) hM (fun s9 hM => ?_)
        refine v_iconst (v := (1 : Int32)) K dX12_sureFrom_96 (by decide) ?_
        refine v_aload_n K dX12_sureFrom_97 1 rfl ?_
        refine v_aload_n K dX12_sureFrom_98 1 rfl ?_
        refine x_Vi (As := []) (st := [.ref (ad 0), .int (1 : Int32)]) K uv_X12_codeOf qm_X12_297 dX12_sureFrom_99 rv_X12 (fun _ h => c_X12_codeOf l  n  s9 h) rfl ⟨(by simp only [rmH]; omega), (by simp only [rmH]; omega)⟩ (Nat.le_of_ble_eq_true rfl) hM (fun r11 s10 hM => ?_)
        refine v_iload_n K dX12_sureFrom_102 3 rfl ?_
        refine v_iload_n K dX12_sureFrom_103 4 rfl ?_
        refine v_iload K dX12_sureFrom_104 5 rfl ?_
        refine v_iconst (v := (1 : Int32)) K dX12_sureFrom_106 (by decide) ?_
        refine v_iadd K dX12_sureFrom_107 ?_
        refine x_Vi (As := [.int r11, .int l2, .int l3, .int (l4 + (1 : Int32))]) (st := [.int (1 : Int32)]) K uv_X12_sureFrom qm_X12_316 dX12_sureFrom_108 rv_X12 (fun _ h => ih_r0 n r11 l2 l3 (l4 + (1 : Int32)) s10 h) rfl ⟨by simp only [rmH]; omega, by simp only [rmH]; omega⟩ (Nat.le_of_ble_eq_true rfl) hM (fun r13 s12 hM => ?_)
        refine v_iadd K dX12_sureFrom_111 ?_
        refine v_topi hM (fun x14 hM => ?_)
        refine v_istore K dX12_sureFrom_112 (by decide) [(8, .int x14), (0, .ref (ad 0)), (1, .int l1), (2, .int l2), (3, .int l3), (4, .int l4), (5, .int l5), (6, .int l6), (7, .int l7)] rfl ?_
        exact v_sub [1, 2, 3, 4, 5, 6, 7, 0] rfl (ih_3 l1 l2 l3 l4 l5 l6 x14 s12 hM)
    · intro l1 l2 l3 l4 l5 l6 l8 σ hM
      have hM : B_X12_sureFrom_3 O (L_X12_sureFrom O  n) n  l1 l2 l3 l4 l5 l6 l8 σ = some res := hM
      refine v_iload K dX12_sureFrom_114 7 rfl ?_
      refine v_iload K dX12_sureFrom_116 5 rfl ?_
      refine v_icmp_ge K 125 dX12_sureFrom_118 (by decide) hM (fun hM => ?_) (fun hM => ?_)
      · refine v_iinc K dX12_sureFrom_125 6 rfl (v := (l6 + (1 : Int32))) rfl (by decide) hM (fun y => [(6, .int y), (0, .ref (ad 0)), (1, .int l1), (2, .int l2), (3, .int l3), (4, .int l4), (5, .int l5), (8, .int l8)]) (fun _ => rfl) (fun x15 hM => ?_)
        refine v_goto (tgt := 17) K dX12_sureFrom_128 (by decide) ?_
        exact v_sub [1, 2, 3, 4, 5, 6, 0] rfl (ih_1 l1 l2 l3 l4 l5 x15 σ hM)
      · refine v_iload K dX12_sureFrom_121 7 rfl ?_
        refine v_istore K dX12_sureFrom_123 (by decide) [(5, .int l8), (0, .ref (ad 0)), (1, .int l1), (2, .int l2), (3, .int l3), (4, .int l4), (6, .int l6), (8, .int l8)] rfl ?_
        refine v_iinc K dX12_sureFrom_125 6 rfl (v := (l6 + (1 : Int32))) rfl (by decide) hM (fun y => [(6, .int y), (5, .int l8), (0, .ref (ad 0)), (1, .int l1), (2, .int l2), (3, .int l3), (4, .int l4), (8, .int l8)]) (fun _ => rfl) (fun x16 hM => ?_)
        refine v_goto (tgt := 17) K dX12_sureFrom_128 (by decide) ?_
        exact v_sub [2, 3, 4, 5, 6, 1, 0] rfl (ih_1 l1 l2 l3 l4 l8 x16 σ hM)
set_option maxHeartbeats 4000000 in
set_option maxRecDepth 20000 in
theorem e_X12_sureFrom (l : Launch) {D : va_G} {A : Nat → Prop} {ad : Nat → Nat} {dA : Nat → ClassId} (d : Nat) {O : Nat → Nat → Int32 → Int32 → Int32 → Int32 → St → Option (Int32 × St)} (ih_r0 : ∀ (n : Nat) (p1 : Int32) (p2 : Int32) (p3 : Int32) (p4 : Int32) (σ : St) {res : Int32 × St}, O 0 n p1 p2 p3 p4 σ = some res → MI l yX12_sureFrom cX12_sureFrom 9 (some .int) (6 + d) D (tysR dA) (wdR ad dA) A [.ref (ad 0), .int p1, .int p2, .int p3, .int p4] σ (QI D (wdR ad dA) A res))  (n : Nat) (p1 : Int32) (p2 : Int32) (p3 : Int32) (p4 : Int32) (σ : St) {res : Int32 × St} (hM : E_X12_sureFrom O n p1 p2 p3 p4 σ = some res) : MI l yX12_sureFrom cX12_sureFrom 9 (some .int) (6 + d + 1) D (tysR dA) (wdR ad dA) A [.ref (ad 0), .int p1, .int p2, .int p3, .int p4] σ (QI D (wdR ad dA) A res) := by
  refine mk_met (by decide +kernel) (Nat.le_of_ble_eq_true rfl) (fun p e s m below meth c K => ?_)
  have K : Cx p s m _ meth c cX12_sureFrom 9 (some .int) RX12 D (tysR dA) (wdR ad dA) A := K
  obtain ⟨ih_1, ih_2, ih_3⟩ := t_X12_sureFrom l   d ih_r0 K (res := res) n (below := below) (e := e)
  refine v_iload K dX12_sureFrom_0 4 rfl ?_
  refine v_bipush (v := (6 : Int32)) K dX12_sureFrom_2 (by decide) ?_
  refine v_icmp_ne K 10 dX12_sureFrom_4 (by decide) hM (fun hM => ?_) (fun hM => ?_)
  · refine v_bipush (v := (7 : Int32)) K dX12_sureFrom_10 (by decide) ?_
    refine v_istore K dX12_sureFrom_12 (by decide) [(5, .int (7 : Int32)), (0, .ref (ad 0)), (1, .int p1), (2, .int p2), (3, .int p3), (4, .int p4)] rfl ?_
    refine v_iconst (v := (0 : Int32)) K dX12_sureFrom_14 (by decide) ?_
    refine v_istore K dX12_sureFrom_15 (by decide) [(6, .int (0 : Int32)), (5, .int (7 : Int32)), (0, .ref (ad 0)), (1, .int p1), (2, .int p2), (3, .int p3), (4, .int p4)] rfl ?_
    exact v_sub [2, 3, 4, 5, 6, 1, 0] rfl (ih_1 p1 p2 p3 p4 (7 : Int32) (0 : Int32) σ hM)
  · refine v_bipush (v := (7 : Int32)) K dX12_sureFrom_7 (by decide) ?_
    exact v_iret K rfl dX12_sureFrom_9 hM
noncomputable def D_X12_sureFrom (O : Nat → Nat → Int32 → Int32 → Int32 → Int32 → St → Option (Int32 × St)) : Nat → Nat → Int32 → Int32 → Int32 → Int32 → St → Option (Int32 × St) := fun mi n a0 a1 a2 a3 σ => match mi with
  | 0 => E_X12_sureFrom O n a0 a1 a2 a3 σ
  | _ => none
noncomputable def F_X12_sureFrom (d : Nat) : Nat → Nat → Int32 → Int32 → Int32 → Int32 → St → Option (Int32 × St) := Nat.rec (fun _ _ _ _ _ _ _ => none) (fun _ O => D_X12_sureFrom O) d
theorem r_X12_sureFrom (l : Launch) {D : va_G} {A : Nat → Prop} {ad : Nat → Nat} {dA : Nat → ClassId} (d : Nat) : (∀ (n : Nat) (p1 : Int32) (p2 : Int32) (p3 : Int32) (p4 : Int32) (σ : St) {res : Int32 × St}, F_X12_sureFrom d 0 n p1 p2 p3 p4 σ = some res → MI l yX12_sureFrom cX12_sureFrom 9 (some .int) (6 + d) D (tysR dA) (wdR ad dA) A [.ref (ad 0), .int p1, .int p2, .int p3, .int p4] σ (QI D (wdR ad dA) A res)) := by
  induction d with
  | zero => exact (fun _ _ _ _ _ _ _ h => (by cases h))
  | succ d ih =>
    exact fun n p1 p2 p3 p4 σ _ hM => e_X12_sureFrom l d ih n p1 p2 p3 p4 σ hM
theorem c_X12_sureFrom (l : Launch) {D : va_G} {A : Nat → Prop} {ad : Nat → Nat} {dA : Nat → ClassId} (d n : Nat) (p1 : Int32) (p2 : Int32) (p3 : Int32) (p4 : Int32) (σ : St) {res : Int32 × St} (hM : F_X12_sureFrom d 0 n p1 p2 p3 p4 σ = some res) : MI l yX12_sureFrom cX12_sureFrom 9 (some .int) (6 + d) D (tysR dA) (wdR ad dA) A [.ref (ad 0), .int p1, .int p2, .int p3, .int p4] σ (QI D (wdR ad dA) A res) := (r_X12_sureFrom l d) n p1 p2 p3 p4 σ hM
noncomputable def F_X12_sure (n : Nat) (p1 : Int32) (σ : St) : Option (Int32 × St) := bd (F_X12_areTwo n p1 σ) fun r2 s1 => if r2 = 0 then (some ((-1 : Int32), s1)) else (if (4 : Int32) < (gI s1 0 1) then (some ((-5 : Int32), s1)) else (gd (¬ (10 : Int32) = 0) (bnd (p1 / (10 : Int32)) fun x3 => gd (vp_in x3 7) (if (gI s1 18 (x3).toNatClampNeg) < 0 then (bd (F_X12_beginAll n  s1) fun r5 s4 => gd (¬ (10 : Int32) = 0) (bnd (p1 / (10 : Int32)) fun x6 => gd (¬ (10 : Int32) = 0) (bnd (p1 - p1 / (10 : Int32) * (10 : Int32)) fun x7 => bd (F_X12_sureFrom 100 0 n r5 x6 x7 (0 : Int32) s4) fun r9 s8 => if r9 ≤ (6 : Int32) then (some (r9, s8)) else (some ((-2 : Int32), s8))))) else (some ((-5 : Int32), s1))))))
set_option maxHeartbeats 4000000 in
set_option maxRecDepth 20000 in
theorem c_X12_sure (l : Launch) {D : va_G} {A : Nat → Prop} {ad : Nat → Nat} {dA : Nat → ClassId}  (n : Nat) (p1 : Int32) (σ : St) {res : Int32 × St} (hM : F_X12_sure n p1 σ = some res) : MI l yX12_sure cX12_sure 3 (some .int) 107 D (tysR dA) (wdR ad dA) A [.ref (ad 0), .int p1] σ (QI D (wdR ad dA) A res) := by
  refine mk_met (by decide +kernel) (Nat.le_of_ble_eq_true rfl) (fun p e s m below meth c K => ?_)
  have K : Cx p s m _ meth c cX12_sure 3 (some .int) RX12 D (tysR dA) (wdR ad dA) A := K
  refine v_aload_n K dX12_sure_0 0 rfl ?_
  refine v_iload_n K dX12_sure_1 1 rfl ?_
  refine x_Vi (As := [.int p1]) (st := []) K uv_X12_areTwo qm_X12_254 dX12_sure_2 rv_X12 (fun _ h => c_X12_areTwo l  n p1 σ h) rfl ⟨(Nat.le_of_ble_eq_true rfl), (Nat.le_of_ble_eq_true rfl)⟩ (Nat.le_of_ble_eq_true rfl) hM (fun r2 s1 hM => ?_)
  refine v_if_ne K 10 dX12_sure_5 (by decide) hM (fun hM => ?_) (fun hM => ?_)
  · refine v_aload_n K dX12_sure_10 0 rfl ?_
    refine g_X12_1 K qf_X12_122 dX12_sure_11 ?_
    refine v_iconst (v := (4 : Int32)) K dX12_sure_14 (by decide) ?_
    refine v_icmp_gt K 30 dX12_sure_15 (by decide) hM (fun hM => ?_) (fun hM => ?_)
    · refine v_bipush (v := (-5 : Int32)) K dX12_sure_30 (by decide) ?_
      exact v_iret K rfl dX12_sure_32 hM
    · refine v_aload_n K dX12_sure_18 0 rfl ?_
      refine g_X12_28 K qf_X12_65 dX12_sure_19 ?_
      refine v_iload_n K dX12_sure_22 1 rfl ?_
      refine v_bipush (v := (10 : Int32)) K dX12_sure_23 (by decide) ?_
      refine v_idiv K dX12_sure_25 hM (fun hM => ?_)
      refine v_topi hM (fun x3 hM => ?_)
      refine ld_R18 K dX12_sure_26 hM (fun hM => ?_)
      refine v_if_lt K 33 dX12_sure_27 (by decide) hM (fun hM => ?_) (fun hM => ?_)
      · refine v_aload_n K dX12_sure_33 0 rfl ?_
        refine v_aload_n K dX12_sure_34 0 rfl ?_
        refine x_Vi (As := []) (st := [.ref (ad 0)]) K uv_X12_beginAll qm_X12_307 dX12_sure_35 rv_X12 (fun _ h => c_X12_beginAll l  n  s1 h) rfl ⟨(Nat.le_of_ble_eq_true rfl), (Nat.le_of_ble_eq_true rfl)⟩ (Nat.le_of_ble_eq_true rfl) hM (fun r5 s4 hM => ?_)
        refine v_iload_n K dX12_sure_38 1 rfl ?_
        refine v_bipush (v := (10 : Int32)) K dX12_sure_39 (by decide) ?_
        refine v_idiv K dX12_sure_41 hM (fun hM => ?_)
        refine v_topi hM (fun x6 hM => ?_)
        refine v_iload_n K dX12_sure_42 1 rfl ?_
        refine v_bipush (v := (10 : Int32)) K dX12_sure_43 (by decide) ?_
        refine v_irem K dX12_sure_45 hM (fun hM => ?_)
        refine v_topi hM (fun x7 hM => ?_)
        refine v_iconst (v := (0 : Int32)) K dX12_sure_46 (by decide) ?_
        refine x_Vi (As := [.int r5, .int x6, .int x7, .int (0 : Int32)]) (st := []) K uv_X12_sureFrom qm_X12_316 dX12_sure_47 rv_X12 (fun _ h => c_X12_sureFrom l 100 n r5 x6 x7 (0 : Int32) s4 h) rfl ⟨(Nat.le_of_ble_eq_true rfl), (Nat.le_of_ble_eq_true rfl)⟩ (Nat.le_of_ble_eq_true rfl) hM (fun r9 s8 hM => ?_)
        refine v_istore_n K dX12_sure_50 rfl (by decide) [(2, .int r9), (0, .ref (ad 0)), (1, .int p1)] rfl ?_
        refine v_iload_n K dX12_sure_51 0 rfl ?_
        refine v_bipush (v := (6 : Int32)) K dX12_sure_52 (by decide) ?_
        refine v_icmp_le K 62 dX12_sure_54 (by decide) hM (fun hM => ?_) (fun hM => ?_)
        · refine v_iload_n K dX12_sure_62 0 rfl ?_
          exact v_iret K rfl dX12_sure_63 hM
        · refine v_bipush (v := (-2 : Int32)) K dX12_sure_57 (by decide) ?_
          refine v_goto (tgt := 63) K dX12_sure_59 (by decide) ?_
          exact v_iret K rfl dX12_sure_63 hM
      · refine v_bipush (v := (-5 : Int32)) K dX12_sure_30 (by decide) ?_
        exact v_iret K rfl dX12_sure_32 hM
  · refine v_iconst (v := (-1 : Int32)) K dX12_sure_8 (by decide) ?_
    exact v_iret K rfl dX12_sure_9 hM
noncomputable def B_X12_layCharges_1 (J : Nat → Int32 → Int32 → St → Option (Unit × St)) (n : Nat)  (l1 : Int32) (l2 : Int32) (σ : St) : Option (Unit × St) := gd (vp_in l1 6) (if (gI σ 32 (l1).toNatClampNeg) ≤ (((2 : Int32) * l2) + (1 : Int32)) then (some ((), σ)) else (if (10 : Int32) ≤ l2 then (some ((), σ)) else (bd (F_X12_at n l1 ((2 : Int32) * l2) σ) fun r3 s2 => bd (F_X12_at n l1 (((2 : Int32) * l2) + (1 : Int32)) s2) fun r5 s4 => bd (F_X12_isPerson n r3 s4) fun r7 s6 => if r7 = 0 then (some ((), s6)) else (bd (F_X12_isPerson n r5 s6) fun r9 s8 => if r9 = 0 then (some ((), s8)) else (if r3 = r5 then (some ((), s8)) else (gd (vp_in l2 10) (bnd (sI s8 22 (l2).toNatClampNeg r3) fun s10 => gd (vp_in l2 10) (bnd (sI s10 23 (l2).toNatClampNeg r5) fun s11 => bnd (sI s11 0 36 ((gI s11 0 36) + (1 : Int32))) fun s12 => bnd (l2 + (1 : Int32)) fun x13 => J 1 l1 x13 s12))))))))
noncomputable def S_X12_layCharges  (n : Nat) (J : Nat → Int32 → Int32 → St → Option (Unit × St)) : Nat → Int32 → Int32 → St → Option (Unit × St) := fun lb a0 a1 σ => match lb with
  | 1 => B_X12_layCharges_1 J n  a0 a1 σ
  | _ => none
noncomputable def L_X12_layCharges  (n : Nat) : Nat → Int32 → Int32 → St → Option (Unit × St) := Nat.rec (fun _ _ _ _ => none) (fun n J => S_X12_layCharges  n J) n
noncomputable def F_X12_layCharges (n : Nat) (p1 : Int32) (σ : St) : Option (Unit × St) := bnd (sI σ 0 36 (0 : Int32)) fun s1 => L_X12_layCharges  n 1 p1 (0 : Int32) s1
set_option maxHeartbeats 4000000 in
set_option maxRecDepth 20000 in
theorem t_X12_layCharges (l : Launch) {p : Program} {e : Env} {s : State} {m : MethodId} {args : Array Value} {below : List Frame} {meth : Method} {c : Code} {D : va_G} {A : Nat → Prop} {ad : Nat → Nat} {dA : Nat → ClassId}   (K : Cx p s m args meth c cX12_layCharges 5 none RX12 D (tysR dA) (wdR ad dA) A) {res : Unit × St} (n : Nat) : (∀ (l1 : Int32) (l2 : Int32) (σ : St), L_X12_layCharges  n 1 l1 l2 σ = some res → V p l e (rmH 3) s m args below meth c 5 D (wdR ad dA) A (MQ below (QV D (wdR ad dA) A res) args s 0 0 A) 7 [(0, .ref (ad 0)), (1, .int l1), (2, .int l2)] [] σ) := by
  induction n with
  | zero => exact (fun _ _ _ h => (by cases h))
  | succ n ih =>
    have ih_1 := ih
    · intro l1 l2 σ hM
      have hM : B_X12_layCharges_1 (L_X12_layCharges  n) n  l1 l2 σ = some res := hM
      refine v_iconst (v := (2 : Int32)) K dX12_layCharges_7 (by decide) ?_
      refine v_iload_n K dX12_layCharges_8 2 rfl ?_
      refine v_imul K dX12_layCharges_9 ?_
      refine v_iconst (v := (1 : Int32)) K dX12_layCharges_10 (by decide) ?_
      refine v_iadd K dX12_layCharges_11 ?_
      refine v_aload_n K dX12_layCharges_12 0 rfl ?_
      refine g_X12_55 K qf_X12_108 dX12_layCharges_13 ?_
      refine v_iload_n K dX12_layCharges_16 1 rfl ?_
      refine ld_R32 K dX12_layCharges_17 hM (fun hM => ?_)
      refine v_icmp_ge K 103 dX12_layCharges_18 (by decide) hM (fun hM => ?_) (fun hM => ?_)
      · exact v_vret K rfl dX12_layCharges_103 hM
      · refine v_iload_n K dX12_layCharges_21 2 rfl ?_
        refine v_bipush (v := (10 : Int32)) K dX12_layCharges_22 (by decide) ?_
        refine v_icmp_ge K 103 dX12_layCharges_24 (by decide) hM (fun hM => ?_) (fun hM => ?_)
        · exact v_vret K rfl dX12_layCharges_103 hM
        · refine v_aload_n K dX12_layCharges_27 0 rfl ?_
          refine v_iload_n K dX12_layCharges_28 1 rfl ?_
          refine v_iconst (v := (2 : Int32)) K dX12_layCharges_29 (by decide) ?_
          refine v_iload_n K dX12_layCharges_30 2 rfl ?_
          refine v_imul K dX12_layCharges_31 ?_
          refine x_Vi (As := [.int l1, .int ((2 : Int32) * l2)]) (st := []) K uv_X12_at qm_X12_267 dX12_layCharges_32 rv_X12 (fun _ h => c_X12_at l  n l1 ((2 : Int32) * l2) σ h) rfl ⟨(Nat.le_of_ble_eq_true rfl), (Nat.le_of_ble_eq_true rfl)⟩ (Nat.le_of_ble_eq_true rfl) hM (fun r3 s2 hM => ?_)
          refine v_istore_n K dX12_layCharges_35 rfl (by decide) [(3, .int r3), (0, .ref (ad 0)), (1, .int l1), (2, .int l2)] rfl ?_
          refine v_aload_n K dX12_layCharges_36 1 rfl ?_
          refine v_iload_n K dX12_layCharges_37 2 rfl ?_
          refine v_iconst (v := (2 : Int32)) K dX12_layCharges_38 (by decide) ?_
          refine v_iload_n K dX12_layCharges_39 3 rfl ?_
          refine v_imul K dX12_layCharges_40 ?_
          refine v_iconst (v := (1 : Int32)) K dX12_layCharges_41 (by decide) ?_
          refine v_iadd K dX12_layCharges_42 ?_
          refine x_Vi (As := [.int l1, .int (((2 : Int32) * l2) + (1 : Int32))]) (st := []) K uv_X12_at qm_X12_267 dX12_layCharges_43 rv_X12 (fun _ h => c_X12_at l  n l1 (((2 : Int32) * l2) + (1 : Int32)) s2 h) rfl ⟨(Nat.le_of_ble_eq_true rfl), (Nat.le_of_ble_eq_true rfl)⟩ (Nat.le_of_ble_eq_true rfl) hM (fun r5 s4 hM => ?_)
          refine v_istore K dX12_layCharges_46 (by decide) [(4, .int r5), (3, .int r3), (0, .ref (ad 0)), (1, .int l1), (2, .int l2)] rfl ?_
          refine v_aload_n K dX12_layCharges_48 2 rfl ?_
          refine v_iload_n K dX12_layCharges_49 1 rfl ?_
          refine x_Vi (As := [.int r3]) (st := []) K uv_X12_isPerson qm_X12_129 dX12_layCharges_50 rv_X12 (fun _ h => c_X12_isPerson l  n r3 s4 h) rfl ⟨(Nat.le_of_ble_eq_true rfl), (Nat.le_of_ble_eq_true rfl)⟩ (Nat.le_of_ble_eq_true rfl) hM (fun r7 s6 hM => ?_)
          refine v_if_eq K 71 dX12_layCharges_53 (by decide) hM (fun hM => ?_) (fun hM => ?_)
          · exact v_vret K rfl dX12_layCharges_71 hM
          · refine v_aload_n K dX12_layCharges_56 2 rfl ?_
            refine v_iload K dX12_layCharges_57 0 rfl ?_
            refine x_Vi (As := [.int r5]) (st := []) K uv_X12_isPerson qm_X12_129 dX12_layCharges_59 rv_X12 (fun _ h => c_X12_isPerson l  n r5 s6 h) rfl ⟨(Nat.le_of_ble_eq_true rfl), (Nat.le_of_ble_eq_true rfl)⟩ (Nat.le_of_ble_eq_true rfl) hM (fun r9 s8 hM => ?_)
            refine v_if_eq K 71 dX12_layCharges_62 (by decide) hM (fun hM => ?_) (fun hM => ?_)
            · exact v_vret K rfl dX12_layCharges_71 hM
            · refine v_iload_n K dX12_layCharges_65 1 rfl ?_
              refine v_iload K dX12_layCharges_66 0 rfl ?_
              refine v_icmp_ne K 72 dX12_layCharges_68 (by decide) hM (fun hM => ?_) (fun hM => ?_)
              · refine v_aload_n K dX12_layCharges_72 2 rfl ?_
                refine g_X12_34 K qf_X12_78 dX12_layCharges_73 ?_
                refine v_iload_n K dX12_layCharges_76 4 rfl ?_
                refine v_iload_n K dX12_layCharges_77 1 rfl ?_
                refine st_R22 K dX12_layCharges_78 hM (fun s10 hM => ?_)
                refine v_aload_n K dX12_layCharges_79 2 rfl ?_
                refine g_X12_35 K qf_X12_81 dX12_layCharges_80 ?_
                refine v_iload_n K dX12_layCharges_83 4 rfl ?_
                refine v_iload K dX12_layCharges_84 0 rfl ?_
                refine st_R23 K dX12_layCharges_86 hM (fun s11 hM => ?_)
                refine v_aload_n K dX12_layCharges_87 2 rfl ?_
                refine v_dup K dX12_layCharges_88 rfl ?_
                refine g_X12_36 K qf_X12_319 dX12_layCharges_89 ?_
                refine v_iconst (v := (1 : Int32)) K dX12_layCharges_92 (by decide) ?_
                refine v_iadd K dX12_layCharges_93 ?_
                refine p_X12_36 K qf_X12_319 dX12_layCharges_94 hM (fun s12 hM => ?_)
                refine v_iinc K dX12_layCharges_97 4 rfl (v := (l2 + (1 : Int32))) rfl (by decide) hM (fun y => [(2, .int y), (4, .int r5), (3, .int r3), (0, .ref (ad 0)), (1, .int l1)]) (fun _ => rfl) (fun x13 hM => ?_)
                refine v_goto (tgt := 7) K dX12_layCharges_100 (by decide) ?_
                exact v_sub [3, 4, 0] rfl (ih_1 l1 x13 s12 hM)
              · exact v_vret K rfl dX12_layCharges_71 hM
set_option maxHeartbeats 4000000 in
set_option maxRecDepth 20000 in
theorem c_X12_layCharges (l : Launch) {D : va_G} {A : Nat → Prop} {ad : Nat → Nat} {dA : Nat → ClassId}  (n : Nat) (p1 : Int32) (σ : St) {res : Unit × St} (hM : F_X12_layCharges n p1 σ = some res) : MI l yX12_layCharges cX12_layCharges 5 none 3 D (tysR dA) (wdR ad dA) A [.ref (ad 0), .int p1] σ (QV D (wdR ad dA) A res) := by
  refine mk_met (by decide +kernel) (Nat.le_of_ble_eq_true rfl) (fun p e s m below meth c K => ?_)
  have K : Cx p s m _ meth c cX12_layCharges 5 none RX12 D (tysR dA) (wdR ad dA) A := K
  have ih_1 := t_X12_layCharges l    K (res := res) n (below := below) (e := e)
  refine v_aload_n K dX12_layCharges_0 0 rfl ?_
  refine v_iconst (v := (0 : Int32)) K dX12_layCharges_1 (by decide) ?_
  refine p_X12_36 K qf_X12_319 dX12_layCharges_2 hM (fun s1 hM => ?_)
  refine v_iconst (v := (0 : Int32)) K dX12_layCharges_5 (by decide) ?_
  refine v_istore_n K dX12_layCharges_6 rfl (by decide) [(2, .int (0 : Int32)), (0, .ref (ad 0)), (1, .int p1)] rfl ?_
  exact v_sub [1, 2, 0] rfl (ih_1 p1 (0 : Int32) s1 hM)
noncomputable def B_X12_isCharged_1 (J : Nat → Int32 → Int32 → Int32 → St → Option (Int32 × St)) (n : Nat)  (l1 : Int32) (l2 : Int32) (l3 : Int32) (σ : St) : Option (Int32 × St) := if (gI σ 0 36) ≤ l3 then (some ((0 : Int32), σ)) else (gd (vp_in l3 10) (if (gI σ 22 (l3).toNatClampNeg) = l1 then (gd (vp_in l3 10) (if (gI σ 23 (l3).toNatClampNeg) = l2 then (some ((1 : Int32), σ)) else (bnd (l3 + (1 : Int32)) fun x2 => J 1 l1 l2 x2 σ))) else (bnd (l3 + (1 : Int32)) fun x1 => J 1 l1 l2 x1 σ)))
noncomputable def S_X12_isCharged  (n : Nat) (J : Nat → Int32 → Int32 → Int32 → St → Option (Int32 × St)) : Nat → Int32 → Int32 → Int32 → St → Option (Int32 × St) := fun lb a0 a1 a2 σ => match lb with
  | 1 => B_X12_isCharged_1 J n  a0 a1 a2 σ
  | _ => none
noncomputable def L_X12_isCharged  (n : Nat) : Nat → Int32 → Int32 → Int32 → St → Option (Int32 × St) := Nat.rec (fun _ _ _ _ _ => none) (fun n J => S_X12_isCharged  n J) n
noncomputable def F_X12_isCharged (n : Nat) (p1 : Int32) (p2 : Int32) (σ : St) : Option (Int32 × St) := L_X12_isCharged  n 1 p1 p2 (0 : Int32) σ
set_option maxHeartbeats 4000000 in
set_option maxRecDepth 20000 in
theorem t_X12_isCharged (l : Launch) {p : Program} {e : Env} {s : State} {m : MethodId} {args : Array Value} {below : List Frame} {meth : Method} {c : Code} {D : va_G} {A : Nat → Prop} {ad : Nat → Nat} {dA : Nat → ClassId}   (K : Cx p s m args meth c cX12_isCharged 4 (some .boolean) RX12 D (tysR dA) (wdR ad dA) A) {res : Int32 × St} (n : Nat) : (∀ (l1 : Int32) (l2 : Int32) (l3 : Int32) (σ : St), L_X12_isCharged  n 1 l1 l2 l3 σ = some res → V p l e (rmH 1) s m args below meth c 4 D (wdR ad dA) A (MQ below (QI D (wdR ad dA) A res) args s 0 0 A) 2 [(0, .ref (ad 0)), (1, .int l1), (2, .int l2), (3, .int l3)] [] σ) := by
  induction n with
  | zero => exact (fun _ _ _ _ h => (by cases h))
  | succ n ih =>
    have ih_1 := ih
    · intro l1 l2 l3 σ hM
      have hM : B_X12_isCharged_1 (L_X12_isCharged  n) n  l1 l2 l3 σ = some res := hM
      refine v_iload_n K dX12_isCharged_2 3 rfl ?_
      refine v_aload_n K dX12_isCharged_3 0 rfl ?_
      refine g_X12_36 K qf_X12_319 dX12_isCharged_4 ?_
      refine v_icmp_ge K 38 dX12_isCharged_7 (by decide) hM (fun hM => ?_) (fun hM => ?_)
      · refine v_iconst (v := (0 : Int32)) K dX12_isCharged_38 (by decide) ?_
        exact v_zret K rfl rfl dX12_isCharged_39 hM
      · refine v_aload_n K dX12_isCharged_10 0 rfl ?_
        refine g_X12_34 K qf_X12_78 dX12_isCharged_11 ?_
        refine v_iload_n K dX12_isCharged_14 3 rfl ?_
        refine ld_R22 K dX12_isCharged_15 hM (fun hM => ?_)
        refine v_iload_n K dX12_isCharged_16 1 rfl ?_
        refine v_icmp_ne K 32 dX12_isCharged_17 (by decide) hM (fun hM => ?_) (fun hM => ?_)
        · refine v_iinc K dX12_isCharged_32 3 rfl (v := (l3 + (1 : Int32))) rfl (by decide) hM (fun y => [(3, .int y), (0, .ref (ad 0)), (1, .int l1), (2, .int l2)]) (fun _ => rfl) (fun x1 hM => ?_)
          refine v_goto (tgt := 2) K dX12_isCharged_35 (by decide) ?_
          exact v_sub [1, 2, 3, 0] rfl (ih_1 l1 l2 x1 σ hM)
        · refine v_aload_n K dX12_isCharged_20 0 rfl ?_
          refine g_X12_35 K qf_X12_81 dX12_isCharged_21 ?_
          refine v_iload_n K dX12_isCharged_24 3 rfl ?_
          refine ld_R23 K dX12_isCharged_25 hM (fun hM => ?_)
          refine v_iload_n K dX12_isCharged_26 2 rfl ?_
          refine v_icmp_ne K 32 dX12_isCharged_27 (by decide) hM (fun hM => ?_) (fun hM => ?_)
          · refine v_iinc K dX12_isCharged_32 3 rfl (v := (l3 + (1 : Int32))) rfl (by decide) hM (fun y => [(3, .int y), (0, .ref (ad 0)), (1, .int l1), (2, .int l2)]) (fun _ => rfl) (fun x2 hM => ?_)
            refine v_goto (tgt := 2) K dX12_isCharged_35 (by decide) ?_
            exact v_sub [1, 2, 3, 0] rfl (ih_1 l1 l2 x2 σ hM)
          · refine v_iconst (v := (1 : Int32)) K dX12_isCharged_30 (by decide) ?_
            exact v_zret K rfl rfl dX12_isCharged_31 hM
set_option maxHeartbeats 4000000 in
set_option maxRecDepth 20000 in
theorem c_X12_isCharged (l : Launch) {D : va_G} {A : Nat → Prop} {ad : Nat → Nat} {dA : Nat → ClassId}  (n : Nat) (p1 : Int32) (p2 : Int32) (σ : St) {res : Int32 × St} (hM : F_X12_isCharged n p1 p2 σ = some res) : MI l yX12_isCharged cX12_isCharged 4 (some .boolean) 1 D (tysR dA) (wdR ad dA) A [.ref (ad 0), .int p1, .int p2] σ (QI D (wdR ad dA) A res) := by
  refine mk_met (by decide +kernel) (Nat.le_of_ble_eq_true rfl) (fun p e s m below meth c K => ?_)
  have K : Cx p s m _ meth c cX12_isCharged 4 (some .boolean) RX12 D (tysR dA) (wdR ad dA) A := K
  have ih_1 := t_X12_isCharged l    K (res := res) n (below := below) (e := e)
  refine v_iconst (v := (0 : Int32)) K dX12_isCharged_0 (by decide) ?_
  refine v_istore_n K dX12_isCharged_1 rfl (by decide) [(3, .int (0 : Int32)), (0, .ref (ad 0)), (1, .int p1), (2, .int p2)] rfl ?_
  exact v_sub [1, 2, 3, 0] rfl (ih_1 p1 p2 (0 : Int32) σ hM)
noncomputable def B_X12_isAnyCharged_1 (J : Nat → Int32 → Int32 → St → Option (Int32 × St)) (n : Nat)  (l1 : Int32) (l2 : Int32) (σ : St) : Option (Int32 × St) := if (gI σ 0 36) ≤ l2 then (some ((0 : Int32), σ)) else (gd (vp_in l2 10) (if (gI σ 23 (l2).toNatClampNeg) = l1 then (some ((1 : Int32), σ)) else (bnd (l2 + (1 : Int32)) fun x1 => J 1 l1 x1 σ)))
noncomputable def S_X12_isAnyCharged  (n : Nat) (J : Nat → Int32 → Int32 → St → Option (Int32 × St)) : Nat → Int32 → Int32 → St → Option (Int32 × St) := fun lb a0 a1 σ => match lb with
  | 1 => B_X12_isAnyCharged_1 J n  a0 a1 σ
  | _ => none
noncomputable def L_X12_isAnyCharged  (n : Nat) : Nat → Int32 → Int32 → St → Option (Int32 × St) := Nat.rec (fun _ _ _ _ => none) (fun n J => S_X12_isAnyCharged  n J) n
noncomputable def F_X12_isAnyCharged (n : Nat) (p1 : Int32) (σ : St) : Option (Int32 × St) := L_X12_isAnyCharged  n 1 p1 (0 : Int32) σ
set_option maxHeartbeats 4000000 in
set_option maxRecDepth 20000 in
theorem t_X12_isAnyCharged (l : Launch) {p : Program} {e : Env} {s : State} {m : MethodId} {args : Array Value} {below : List Frame} {meth : Method} {c : Code} {D : va_G} {A : Nat → Prop} {ad : Nat → Nat} {dA : Nat → ClassId}   (K : Cx p s m args meth c cX12_isAnyCharged 3 (some .boolean) RX12 D (tysR dA) (wdR ad dA) A) {res : Int32 × St} (n : Nat) : (∀ (l1 : Int32) (l2 : Int32) (σ : St), L_X12_isAnyCharged  n 1 l1 l2 σ = some res → V p l e (rmH 1) s m args below meth c 3 D (wdR ad dA) A (MQ below (QI D (wdR ad dA) A res) args s 0 0 A) 2 [(0, .ref (ad 0)), (1, .int l1), (2, .int l2)] [] σ) := by
  induction n with
  | zero => exact (fun _ _ _ h => (by cases h))
  | succ n ih =>
    have ih_1 := ih
    · intro l1 l2 σ hM
      have hM : B_X12_isAnyCharged_1 (L_X12_isAnyCharged  n) n  l1 l2 σ = some res := hM
      refine v_iload_n K dX12_isAnyCharged_2 2 rfl ?_
      refine v_aload_n K dX12_isAnyCharged_3 0 rfl ?_
      refine g_X12_36 K qf_X12_319 dX12_isAnyCharged_4 ?_
      refine v_icmp_ge K 28 dX12_isAnyCharged_7 (by decide) hM (fun hM => ?_) (fun hM => ?_)
      · refine v_iconst (v := (0 : Int32)) K dX12_isAnyCharged_28 (by decide) ?_
        exact v_zret K rfl rfl dX12_isAnyCharged_29 hM
      · refine v_aload_n K dX12_isAnyCharged_10 0 rfl ?_
        refine g_X12_35 K qf_X12_81 dX12_isAnyCharged_11 ?_
        refine v_iload_n K dX12_isAnyCharged_14 2 rfl ?_
        refine ld_R23 K dX12_isAnyCharged_15 hM (fun hM => ?_)
        refine v_iload_n K dX12_isAnyCharged_16 1 rfl ?_
        refine v_icmp_ne K 22 dX12_isAnyCharged_17 (by decide) hM (fun hM => ?_) (fun hM => ?_)
        · refine v_iinc K dX12_isAnyCharged_22 2 rfl (v := (l2 + (1 : Int32))) rfl (by decide) hM (fun y => [(2, .int y), (0, .ref (ad 0)), (1, .int l1)]) (fun _ => rfl) (fun x1 hM => ?_)
          refine v_goto (tgt := 2) K dX12_isAnyCharged_25 (by decide) ?_
          exact v_sub [1, 2, 0] rfl (ih_1 l1 x1 σ hM)
        · refine v_iconst (v := (1 : Int32)) K dX12_isAnyCharged_20 (by decide) ?_
          exact v_zret K rfl rfl dX12_isAnyCharged_21 hM
set_option maxHeartbeats 4000000 in
set_option maxRecDepth 20000 in
theorem c_X12_isAnyCharged (l : Launch) {D : va_G} {A : Nat → Prop} {ad : Nat → Nat} {dA : Nat → ClassId}  (n : Nat) (p1 : Int32) (σ : St) {res : Int32 × St} (hM : F_X12_isAnyCharged n p1 σ = some res) : MI l yX12_isAnyCharged cX12_isAnyCharged 3 (some .boolean) 1 D (tysR dA) (wdR ad dA) A [.ref (ad 0), .int p1] σ (QI D (wdR ad dA) A res) := by
  refine mk_met (by decide +kernel) (Nat.le_of_ble_eq_true rfl) (fun p e s m below meth c K => ?_)
  have K : Cx p s m _ meth c cX12_isAnyCharged 3 (some .boolean) RX12 D (tysR dA) (wdR ad dA) A := K
  have ih_1 := t_X12_isAnyCharged l    K (res := res) n (below := below) (e := e)
  refine v_iconst (v := (0 : Int32)) K dX12_isAnyCharged_0 (by decide) ?_
  refine v_istore_n K dX12_isAnyCharged_1 rfl (by decide) [(2, .int (0 : Int32)), (0, .ref (ad 0)), (1, .int p1)] rfl ?_
  exact v_sub [1, 2, 0] rfl (ih_1 p1 (0 : Int32) σ hM)
noncomputable def B_X12_threes_1 (J : Nat → Int32 → Int32 → Int32 → Int32 → St → Option (Int32 × St)) (n : Nat)  (l1 : Int32) (l2 : Int32) (σ : St) : Option (Int32 × St) := if (gI σ 0 1) ≤ l2 then (some (l1, σ)) else (bnd (l2 + (1 : Int32)) fun x1 => J 2 l1 l2 x1 0 σ)
noncomputable def B_X12_threes_2 (J : Nat → Int32 → Int32 → Int32 → Int32 → St → Option (Int32 × St)) (n : Nat)  (l1 : Int32) (l2 : Int32) (l3 : Int32) (σ : St) : Option (Int32 × St) := if (gI σ 0 1) ≤ l3 then (bnd (l2 + (1 : Int32)) fun x2 => J 1 l1 x2 0 0 σ) else (bnd (l2 + (1 : Int32)) fun x3 => J 3 l1 l2 l3 x3 σ)
noncomputable def B_X12_threes_3 (J : Nat → Int32 → Int32 → Int32 → Int32 → St → Option (Int32 × St)) (n : Nat)  (l1 : Int32) (l2 : Int32) (l3 : Int32) (l4 : Int32) (σ : St) : Option (Int32 × St) := if (gI σ 0 1) ≤ l4 then (bnd (l3 + (1 : Int32)) fun x4 => J 2 l1 l2 x4 0 σ) else (if l4 = l3 then (bnd (l4 + (1 : Int32)) fun x5 => J 3 l1 l2 l3 x5 σ) else (bd (F_X12_isCharged n l2 l3 σ) fun r7 s6 => if r7 = 0 then (bnd (l4 + (1 : Int32)) fun x8 => J 3 l1 l2 l3 x8 s6) else (bd (F_X12_isCharged n l3 l4 s6) fun r10 s9 => if r10 = 0 then (bnd (l4 + (1 : Int32)) fun x11 => J 3 l1 l2 l3 x11 s9) else (bd (F_X12_isCharged n l4 l2 s9) fun r13 s12 => if r13 = 0 then (bnd (l4 + (1 : Int32)) fun x14 => J 3 l1 l2 l3 x14 s12) else (bnd (l1 + (1 : Int32)) fun x15 => bnd (l4 + (1 : Int32)) fun x16 => J 3 x15 l2 l3 x16 s12)))))
noncomputable def S_X12_threes  (n : Nat) (J : Nat → Int32 → Int32 → Int32 → Int32 → St → Option (Int32 × St)) : Nat → Int32 → Int32 → Int32 → Int32 → St → Option (Int32 × St) := fun lb a0 a1 a2 a3 σ => match lb with
  | 1 => B_X12_threes_1 J n  a0 a1 σ
  | 2 => B_X12_threes_2 J n  a0 a1 a2 σ
  | 3 => B_X12_threes_3 J n  a0 a1 a2 a3 σ
  | _ => none
noncomputable def L_X12_threes  (n : Nat) : Nat → Int32 → Int32 → Int32 → Int32 → St → Option (Int32 × St) := Nat.rec (fun _ _ _ _ _ _ => none) (fun n J => S_X12_threes  n J) n
noncomputable def F_X12_threes (n : Nat)  (σ : St) : Option (Int32 × St) := L_X12_threes  n 1 (0 : Int32) (0 : Int32) 0 0 σ
set_option maxHeartbeats 4000000 in
set_option maxRecDepth 20000 in
theorem t_X12_threes (l : Launch) {p : Program} {e : Env} {s : State} {m : MethodId} {args : Array Value} {below : List Frame} {meth : Method} {c : Code} {D : va_G} {A : Nat → Prop} {ad : Nat → Nat} {dA : Nat → ClassId}   (K : Cx p s m args meth c cX12_threes 5 (some .int) RX12 D (tysR dA) (wdR ad dA) A) {res : Int32 × St} (n : Nat) : (∀ (l1 : Int32) (l2 : Int32) (σ : St), L_X12_threes  n 1 l1 l2 0 0 σ = some res → V p l e (rmH 2) s m args below meth c 5 D (wdR ad dA) A (MQ below (QI D (wdR ad dA) A res) args s 0 0 A) 4 [(0, .ref (ad 0)), (1, .int l1), (2, .int l2)] [] σ) ∧ (∀ (l1 : Int32) (l2 : Int32) (l3 : Int32) (σ : St), L_X12_threes  n 2 l1 l2 l3 0 σ = some res → V p l e (rmH 2) s m args below meth c 5 D (wdR ad dA) A (MQ below (QI D (wdR ad dA) A res) args s 0 0 A) 16 [(0, .ref (ad 0)), (1, .int l1), (2, .int l2), (3, .int l3)] [] σ) ∧ (∀ (l1 : Int32) (l2 : Int32) (l3 : Int32) (l4 : Int32) (σ : St), L_X12_threes  n 3 l1 l2 l3 l4 σ = some res → V p l e (rmH 2) s m args below meth c 5 D (wdR ad dA) A (MQ below (QI D (wdR ad dA) A res) args s 0 0 A) 29 [(0, .ref (ad 0)), (1, .int l1), (2, .int l2), (3, .int l3), (4, .int l4)] [] σ) := by
  induction n with
  | zero => exact ⟨fun _ _ _ h => (by cases h), fun _ _ _ _ h => (by cases h), fun _ _ _ _ _ h => (by cases h)⟩
  | succ n ih =>
    obtain ⟨ih_1, ih_2, ih_3⟩ := ih
    refine ⟨?_, ?_, ?_⟩
    · intro l1 l2 σ hM
      have hM : B_X12_threes_1 (L_X12_threes  n) n  l1 l2 σ = some res := hM
      refine v_iload_n K dX12_threes_4 2 rfl ?_
      refine v_aload_n K dX12_threes_5 0 rfl ?_
      refine g_X12_1 K qf_X12_122 dX12_threes_6 ?_
      refine v_icmp_ge K 94 dX12_threes_9 (by decide) hM (fun hM => ?_) (fun hM => ?_)
      · refine v_iload_n K dX12_threes_94 1 rfl ?_
        exact v_iret K rfl dX12_threes_95 hM
      · refine v_iload_n K dX12_threes_12 2 rfl ?_
        refine v_iconst (v := (1 : Int32)) K dX12_threes_13 (by decide) ?_
        refine v_iadd K dX12_threes_14 ?_
        refine v_topi hM (fun x1 hM => ?_)
        refine v_istore_n K dX12_threes_15 rfl (by decide) [(3, .int x1), (0, .ref (ad 0)), (1, .int l1), (2, .int l2)] rfl ?_
        exact v_sub [1, 2, 3, 0] rfl (ih_2 l1 l2 x1 σ hM)
    · intro l1 l2 l3 σ hM
      have hM : B_X12_threes_2 (L_X12_threes  n) n  l1 l2 l3 σ = some res := hM
      refine v_iload_n K dX12_threes_16 3 rfl ?_
      refine v_aload_n K dX12_threes_17 0 rfl ?_
      refine g_X12_1 K qf_X12_122 dX12_threes_18 ?_
      refine v_icmp_ge K 88 dX12_threes_21 (by decide) hM (fun hM => ?_) (fun hM => ?_)
      · refine v_iinc K dX12_threes_88 2 rfl (v := (l2 + (1 : Int32))) rfl (by decide) hM (fun y => [(2, .int y), (0, .ref (ad 0)), (1, .int l1), (3, .int l3)]) (fun _ => rfl) (fun x2 hM => ?_)
        refine v_goto (tgt := 4) K dX12_threes_91 (by decide) ?_
        exact v_sub [1, 2, 0] rfl (ih_1 l1 x2 σ hM)
      · refine v_iload_n K dX12_threes_24 2 rfl ?_
        refine v_iconst (v := (1 : Int32)) K dX12_threes_25 (by decide) ?_
        refine v_iadd K dX12_threes_26 ?_
        refine v_topi hM (fun x3 hM => ?_)
        refine v_istore K dX12_threes_27 (by decide) [(4, .int x3), (0, .ref (ad 0)), (1, .int l1), (2, .int l2), (3, .int l3)] rfl ?_
        exact v_sub [1, 2, 3, 4, 0] rfl (ih_3 l1 l2 l3 x3 σ hM)
    · intro l1 l2 l3 l4 σ hM
      have hM : B_X12_threes_3 (L_X12_threes  n) n  l1 l2 l3 l4 σ = some res := hM
      refine v_iload K dX12_threes_29 4 rfl ?_
      refine v_aload_n K dX12_threes_31 0 rfl ?_
      refine g_X12_1 K qf_X12_122 dX12_threes_32 ?_
      refine v_icmp_ge K 82 dX12_threes_35 (by decide) hM (fun hM => ?_) (fun hM => ?_)
      · refine v_iinc K dX12_threes_82 3 rfl (v := (l3 + (1 : Int32))) rfl (by decide) hM (fun y => [(3, .int y), (0, .ref (ad 0)), (1, .int l1), (2, .int l2), (4, .int l4)]) (fun _ => rfl) (fun x4 hM => ?_)
        refine v_goto (tgt := 16) K dX12_threes_85 (by decide) ?_
        exact v_sub [1, 2, 3, 0] rfl (ih_2 l1 l2 x4 σ hM)
      · refine v_iload K dX12_threes_38 4 rfl ?_
        refine v_iload_n K dX12_threes_40 3 rfl ?_
        refine v_icmp_eq K 76 dX12_threes_41 (by decide) hM (fun hM => ?_) (fun hM => ?_)
        · refine v_iinc K dX12_threes_76 4 rfl (v := (l4 + (1 : Int32))) rfl (by decide) hM (fun y => [(4, .int y), (0, .ref (ad 0)), (1, .int l1), (2, .int l2), (3, .int l3)]) (fun _ => rfl) (fun x5 hM => ?_)
          refine v_goto (tgt := 29) K dX12_threes_79 (by decide) ?_
          exact v_sub [1, 2, 3, 4, 0] rfl (ih_3 l1 l2 l3 x5 σ hM)
        · refine v_aload_n K dX12_threes_44 0 rfl ?_
          refine v_iload_n K dX12_threes_45 2 rfl ?_
          refine v_iload_n K dX12_threes_46 3 rfl ?_
          refine x_Vi (As := [.int l2, .int l3]) (st := []) K uv_X12_isCharged qm_X12_322 dX12_threes_47 rv_X12 (fun _ h => c_X12_isCharged l  n l2 l3 σ h) rfl ⟨(Nat.le_of_ble_eq_true rfl), (Nat.le_of_ble_eq_true rfl)⟩ (Nat.le_of_ble_eq_true rfl) hM (fun r7 s6 hM => ?_)
          refine v_if_eq K 76 dX12_threes_50 (by decide) hM (fun hM => ?_) (fun hM => ?_)
          · refine v_iinc K dX12_threes_76 4 rfl (v := (l4 + (1 : Int32))) rfl (by decide) hM (fun y => [(4, .int y), (0, .ref (ad 0)), (1, .int l1), (2, .int l2), (3, .int l3)]) (fun _ => rfl) (fun x8 hM => ?_)
            refine v_goto (tgt := 29) K dX12_threes_79 (by decide) ?_
            exact v_sub [1, 2, 3, 4, 0] rfl (ih_3 l1 l2 l3 x8 s6 hM)
          · refine v_aload_n K dX12_threes_53 0 rfl ?_
            refine v_iload_n K dX12_threes_54 3 rfl ?_
            refine v_iload K dX12_threes_55 4 rfl ?_
            refine x_Vi (As := [.int l3, .int l4]) (st := []) K uv_X12_isCharged qm_X12_322 dX12_threes_57 rv_X12 (fun _ h => c_X12_isCharged l  n l3 l4 s6 h) rfl ⟨(Nat.le_of_ble_eq_true rfl), (Nat.le_of_ble_eq_true rfl)⟩ (Nat.le_of_ble_eq_true rfl) hM (fun r10 s9 hM => ?_)
            refine v_if_eq K 76 dX12_threes_60 (by decide) hM (fun hM => ?_) (fun hM => ?_)
            · refine v_iinc K dX12_threes_76 4 rfl (v := (l4 + (1 : Int32))) rfl (by decide) hM (fun y => [(4, .int y), (0, .ref (ad 0)), (1, .int l1), (2, .int l2), (3, .int l3)]) (fun _ => rfl) (fun x11 hM => ?_)
              refine v_goto (tgt := 29) K dX12_threes_79 (by decide) ?_
              exact v_sub [1, 2, 3, 4, 0] rfl (ih_3 l1 l2 l3 x11 s9 hM)
            · refine v_aload_n K dX12_threes_63 0 rfl ?_
              refine v_iload K dX12_threes_64 4 rfl ?_
              refine v_iload_n K dX12_threes_66 2 rfl ?_
              refine x_Vi (As := [.int l4, .int l2]) (st := []) K uv_X12_isCharged qm_X12_322 dX12_threes_67 rv_X12 (fun _ h => c_X12_isCharged l  n l4 l2 s9 h) rfl ⟨(Nat.le_of_ble_eq_true rfl), (Nat.le_of_ble_eq_true rfl)⟩ (Nat.le_of_ble_eq_true rfl) hM (fun r13 s12 hM => ?_)
              refine v_if_eq K 76 dX12_threes_70 (by decide) hM (fun hM => ?_) (fun hM => ?_)
              · refine v_iinc K dX12_threes_76 4 rfl (v := (l4 + (1 : Int32))) rfl (by decide) hM (fun y => [(4, .int y), (0, .ref (ad 0)), (1, .int l1), (2, .int l2), (3, .int l3)]) (fun _ => rfl) (fun x14 hM => ?_)
                refine v_goto (tgt := 29) K dX12_threes_79 (by decide) ?_
                exact v_sub [1, 2, 3, 4, 0] rfl (ih_3 l1 l2 l3 x14 s12 hM)
              · refine v_iinc K dX12_threes_73 1 rfl (v := (l1 + (1 : Int32))) rfl (by decide) hM (fun y => [(1, .int y), (0, .ref (ad 0)), (2, .int l2), (3, .int l3), (4, .int l4)]) (fun _ => rfl) (fun x15 hM => ?_)
                refine v_iinc K dX12_threes_76 4 rfl (v := (l4 + (1 : Int32))) rfl (by decide) hM (fun y => [(4, .int y), (1, .int x15), (0, .ref (ad 0)), (2, .int l2), (3, .int l3)]) (fun _ => rfl) (fun x16 hM => ?_)
                refine v_goto (tgt := 29) K dX12_threes_79 (by decide) ?_
                exact v_sub [2, 1, 3, 4, 0] rfl (ih_3 x15 l2 l3 x16 s12 hM)
set_option maxHeartbeats 4000000 in
set_option maxRecDepth 20000 in
theorem c_X12_threes (l : Launch) {D : va_G} {A : Nat → Prop} {ad : Nat → Nat} {dA : Nat → ClassId}  (n : Nat)  (σ : St) {res : Int32 × St} (hM : F_X12_threes n  σ = some res) : MI l yX12_threes cX12_threes 5 (some .int) 2 D (tysR dA) (wdR ad dA) A [.ref (ad 0)] σ (QI D (wdR ad dA) A res) := by
  refine mk_met (by decide +kernel) (Nat.le_of_ble_eq_true rfl) (fun p e s m below meth c K => ?_)
  have K : Cx p s m _ meth c cX12_threes 5 (some .int) RX12 D (tysR dA) (wdR ad dA) A := K
  obtain ⟨ih_1, ih_2, ih_3⟩ := t_X12_threes l    K (res := res) n (below := below) (e := e)
  refine v_iconst (v := (0 : Int32)) K dX12_threes_0 (by decide) ?_
  refine v_istore_n K dX12_threes_1 rfl (by decide) [(1, .int (0 : Int32)), (0, .ref (ad 0))] rfl ?_
  refine v_iconst (v := (0 : Int32)) K dX12_threes_2 (by decide) ?_
  refine v_istore_n K dX12_threes_3 rfl (by decide) [(2, .int (0 : Int32)), (1, .int (0 : Int32)), (0, .ref (ad 0))] rfl ?_
  exact v_sub [2, 1, 0] rfl (ih_1 (0 : Int32) (0 : Int32) σ hM)
noncomputable def B_X12_charges_1 (J : Nat → Int32 → Int32 → St → Option (Int32 × St)) (n : Nat)  (l3 : Int32) (l4 : Int32) (σ : St) : Option (Int32 × St) := if (gI σ 0 1) ≤ l4 then (some (l3, σ)) else (bd (F_X12_isAnyCharged n l4 σ) fun r13 s12 => if r13 = 0 then (bnd (l3 ||| ((1 : Int32) <<< (l4 &&& 31))) fun x15 => bnd (l4 + (1 : Int32)) fun x16 => J 1 x15 x16 s12) else (bnd (l4 + (1 : Int32)) fun x14 => J 1 l3 x14 s12))
noncomputable def S_X12_charges  (n : Nat) (J : Nat → Int32 → Int32 → St → Option (Int32 × St)) : Nat → Int32 → Int32 → St → Option (Int32 × St) := fun lb a0 a1 σ => match lb with
  | 1 => B_X12_charges_1 J n  a0 a1 σ
  | _ => none
noncomputable def L_X12_charges  (n : Nat) : Nat → Int32 → Int32 → St → Option (Int32 × St) := Nat.rec (fun _ _ _ _ => none) (fun n J => S_X12_charges  n J) n
noncomputable def F_X12_charges (n : Nat) (p1 : Int32) (p2 : Int32) (σ : St) : Option (Int32 × St) := bd (F_X12_isShelf n p1 σ) fun r2 s1 => if r2 = 0 then (some ((-1 : Int32), s1)) else (bd (F_X12_in n p2 (0 : Int32) (2 : Int32) s1) fun r4 s3 => if r4 = 0 then (some ((-1 : Int32), s3)) else (bd (F_X12_rowFault n p1 s3) fun r6 s5 => if 0 ≤ r6 then (bd (F_X12_layCharges n p1 s5) fun _ s7 => if p2 = (1 : Int32) then (bd (F_X12_threes n  s7) fun r9 s8 => some (r9, s8)) else (if p2 = (2 : Int32) then (some ((gI s7 0 36), s7)) else (L_X12_charges  n 1 (0 : Int32) (0 : Int32) s7))) else (bd (F_X12_rowFault n p1 s5) fun r11 s10 => some (r11, s10))))
set_option maxHeartbeats 4000000 in
set_option maxRecDepth 20000 in
theorem t_X12_charges (l : Launch) {p : Program} {e : Env} {s : State} {m : MethodId} {args : Array Value} {below : List Frame} {meth : Method} {c : Code} {D : va_G} {A : Nat → Prop} {ad : Nat → Nat} {dA : Nat → ClassId}   (K : Cx p s m args meth c cX12_charges 5 (some .int) RX12 D (tysR dA) (wdR ad dA) A) {res : Int32 × St} (n : Nat) : (∀ (l3 : Int32) (l4 : Int32) (σ : St), L_X12_charges  n 1 l3 l4 σ = some res → V p l e (rmH 4) s m args below meth c 5 D (wdR ad dA) A (MQ below (QI D (wdR ad dA) A res) args s 0 0 A) 62 [(0, .ref (ad 0)), (3, .int l3), (4, .int l4)] [] σ) := by
  induction n with
  | zero => exact (fun _ _ _ h => (by cases h))
  | succ n ih =>
    have ih_1 := ih
    · intro l3 l4 σ hM
      have hM : B_X12_charges_1 (L_X12_charges  n) n  l3 l4 σ = some res := hM
      refine v_iload K dX12_charges_62 2 rfl ?_
      refine v_aload_n K dX12_charges_64 0 rfl ?_
      refine g_X12_1 K qf_X12_122 dX12_charges_65 ?_
      refine v_icmp_ge K 93 dX12_charges_68 (by decide) hM (fun hM => ?_) (fun hM => ?_)
      · refine v_iload_n K dX12_charges_93 1 rfl ?_
        exact v_iret K rfl dX12_charges_94 hM
      · refine v_aload_n K dX12_charges_71 0 rfl ?_
        refine v_iload K dX12_charges_72 2 rfl ?_
        refine x_Vi (As := [.int l4]) (st := []) K uv_X12_isAnyCharged qm_X12_331 dX12_charges_74 rv_X12 (fun _ h => c_X12_isAnyCharged l  n l4 σ h) rfl ⟨(Nat.le_of_ble_eq_true rfl), (Nat.le_of_ble_eq_true rfl)⟩ (Nat.le_of_ble_eq_true rfl) hM (fun r13 s12 hM => ?_)
        refine v_if_ne K 87 dX12_charges_77 (by decide) hM (fun hM => ?_) (fun hM => ?_)
        · refine v_iinc K dX12_charges_87 2 rfl (v := (l4 + (1 : Int32))) rfl (by decide) hM (fun y => [(4, .int y), (0, .ref (ad 0)), (3, .int l3)]) (fun _ => rfl) (fun x14 hM => ?_)
          refine v_goto (tgt := 62) K dX12_charges_90 (by decide) ?_
          exact v_sub [1, 2, 0] rfl (ih_1 l3 x14 s12 hM)
        · refine v_iload_n K dX12_charges_80 1 rfl ?_
          refine v_iconst (v := (1 : Int32)) K dX12_charges_81 (by decide) ?_
          refine v_iload K dX12_charges_82 2 rfl ?_
          refine v_ishl K dX12_charges_84 ?_
          refine v_ior K dX12_charges_85 ?_
          refine v_topi hM (fun x15 hM => ?_)
          refine v_istore_n K dX12_charges_86 rfl (by decide) [(3, .int x15), (0, .ref (ad 0)), (4, .int l4)] rfl ?_
          refine v_iinc K dX12_charges_87 2 rfl (v := (l4 + (1 : Int32))) rfl (by decide) hM (fun y => [(4, .int y), (3, .int x15), (0, .ref (ad 0))]) (fun _ => rfl) (fun x16 hM => ?_)
          refine v_goto (tgt := 62) K dX12_charges_90 (by decide) ?_
          exact v_sub [2, 1, 0] rfl (ih_1 x15 x16 s12 hM)
set_option maxHeartbeats 4000000 in
set_option maxRecDepth 20000 in
theorem c_X12_charges (l : Launch) {D : va_G} {A : Nat → Prop} {ad : Nat → Nat} {dA : Nat → ClassId}  (n : Nat) (p1 : Int32) (p2 : Int32) (σ : St) {res : Int32 × St} (hM : F_X12_charges n p1 p2 σ = some res) : MI l yX12_charges cX12_charges 5 (some .int) 4 D (tysR dA) (wdR ad dA) A [.ref (ad 0), .int p1, .int p2] σ (QI D (wdR ad dA) A res) := by
  refine mk_met (by decide +kernel) (Nat.le_of_ble_eq_true rfl) (fun p e s m below meth c K => ?_)
  have K : Cx p s m _ meth c cX12_charges 5 (some .int) RX12 D (tysR dA) (wdR ad dA) A := K
  have ih_1 := t_X12_charges l    K (res := res) n (below := below) (e := e)
  refine v_iload_n K dX12_charges_0 1 rfl ?_
  refine x_Si (As := [.int p1]) (st := []) K us_X12_isShelf qm_X12_137 dX12_charges_1 (fun _ h => c_X12_isShelf l  n p1 σ h) rfl ⟨(Nat.le_of_ble_eq_true rfl), (Nat.le_of_ble_eq_true rfl)⟩ (Nat.le_of_ble_eq_true rfl) hM (fun r2 s1 hM => ?_)
  refine v_if_eq K 16 dX12_charges_4 (by decide) hM (fun hM => ?_) (fun hM => ?_)
  · refine v_iconst (v := (-1 : Int32)) K dX12_charges_16 (by decide) ?_
    exact v_iret K rfl dX12_charges_17 hM
  · refine v_iload_n K dX12_charges_7 2 rfl ?_
    refine v_iconst (v := (0 : Int32)) K dX12_charges_8 (by decide) ?_
    refine v_iconst (v := (2 : Int32)) K dX12_charges_9 (by decide) ?_
    refine x_Si (As := [.int p2, .int (0 : Int32), .int (2 : Int32)]) (st := []) K us_X12_in qm_X12_125 dX12_charges_10 (fun _ h => c_X12_in l  n p2 (0 : Int32) (2 : Int32) s1 h) rfl ⟨(Nat.le_of_ble_eq_true rfl), (Nat.le_of_ble_eq_true rfl)⟩ (Nat.le_of_ble_eq_true rfl) hM (fun r4 s3 hM => ?_)
    refine v_if_ne K 18 dX12_charges_13 (by decide) hM (fun hM => ?_) (fun hM => ?_)
    · refine v_aload_n K dX12_charges_18 0 rfl ?_
      refine v_iload_n K dX12_charges_19 1 rfl ?_
      refine x_Vi (As := [.int p1]) (st := []) K uv_X12_rowFault qm_X12_281 dX12_charges_20 rv_X12 (fun _ h => c_X12_rowFault l  n p1 s3 h) rfl ⟨(Nat.le_of_ble_eq_true rfl), (Nat.le_of_ble_eq_true rfl)⟩ (Nat.le_of_ble_eq_true rfl) hM (fun r6 s5 hM => ?_)
      refine v_if_ge K 32 dX12_charges_23 (by decide) hM (fun hM => ?_) (fun hM => ?_)
      · refine v_aload_n K dX12_charges_32 0 rfl ?_
        refine v_iload_n K dX12_charges_33 1 rfl ?_
        refine x_Vv (As := [.int p1]) (st := []) K uv_X12_layCharges qm_X12_325 dX12_charges_34 rv_X12 (fun _ h => c_X12_layCharges l  n p1 s5 h) rfl ⟨(Nat.le_of_ble_eq_true rfl), (Nat.le_of_ble_eq_true rfl)⟩ (Nat.le_of_ble_eq_true rfl) hM (fun s7 hM => ?_)
        refine v_iload_n K dX12_charges_37 2 rfl ?_
        refine v_iconst (v := (1 : Int32)) K dX12_charges_38 (by decide) ?_
        refine v_icmp_ne K 47 dX12_charges_39 (by decide) hM (fun hM => ?_) (fun hM => ?_)
        · refine v_iload_n K dX12_charges_47 2 rfl ?_
          refine v_iconst (v := (2 : Int32)) K dX12_charges_48 (by decide) ?_
          refine v_icmp_ne K 57 dX12_charges_49 (by decide) hM (fun hM => ?_) (fun hM => ?_)
          · refine v_iconst (v := (0 : Int32)) K dX12_charges_57 (by decide) ?_
            refine v_istore_n K dX12_charges_58 rfl (by decide) [(3, .int (0 : Int32)), (0, .ref (ad 0)), (1, .int p1), (2, .int p2)] rfl ?_
            refine v_iconst (v := (0 : Int32)) K dX12_charges_59 (by decide) ?_
            refine v_istore K dX12_charges_60 (by decide) [(4, .int (0 : Int32)), (3, .int (0 : Int32)), (0, .ref (ad 0)), (1, .int p1), (2, .int p2)] rfl ?_
            exact v_sub [2, 1, 0] rfl (ih_1 (0 : Int32) (0 : Int32) s7 hM)
          · refine v_aload_n K dX12_charges_52 0 rfl ?_
            refine g_X12_36 K qf_X12_319 dX12_charges_53 ?_
            exact v_iret K rfl dX12_charges_56 hM
        · refine v_aload_n K dX12_charges_42 0 rfl ?_
          refine x_Vi (As := []) (st := []) K uv_X12_threes qm_X12_328 dX12_charges_43 rv_X12 (fun _ h => c_X12_threes l  n  s7 h) rfl ⟨(Nat.le_of_ble_eq_true rfl), (Nat.le_of_ble_eq_true rfl)⟩ (Nat.le_of_ble_eq_true rfl) hM (fun r9 s8 hM => ?_)
          exact v_iret K rfl dX12_charges_46 hM
      · refine v_aload_n K dX12_charges_26 0 rfl ?_
        refine v_iload_n K dX12_charges_27 1 rfl ?_
        refine x_Vi (As := [.int p1]) (st := []) K uv_X12_rowFault qm_X12_281 dX12_charges_28 rv_X12 (fun _ h => c_X12_rowFault l  n p1 s5 h) rfl ⟨(Nat.le_of_ble_eq_true rfl), (Nat.le_of_ble_eq_true rfl)⟩ (Nat.le_of_ble_eq_true rfl) hM (fun r11 s10 hM => ?_)
        exact v_iret K rfl dX12_charges_31 hM
    · refine v_iconst (v := (-1 : Int32)) K dX12_charges_16 (by decide) ?_
      exact v_iret K rfl dX12_charges_17 hM
noncomputable def B_X12_mayHear_1 (J : Nat → Int32 → Int32 → St → Option (Int32 × St)) (n : Nat)  (l1 : Int32) (l2 : Int32) (σ : St) : Option (Int32 × St) := if l1 ≤ l2 then (some ((1 : Int32), σ)) else (gd (vp_in l2 6) (gd (vp_in l1 6) (if (gI σ 24 (l2).toNatClampNeg) = (gI σ 24 (l1).toNatClampNeg) then (gd (vp_in l2 10) (gd (vp_in l1 10) (if (gI σ 22 (l2).toNatClampNeg) = (gI σ 23 (l1).toNatClampNeg) then (some ((0 : Int32), σ)) else (gd (vp_in l2 10) (gd (vp_in l1 10) (if (gI σ 23 (l2).toNatClampNeg) = (gI σ 22 (l1).toNatClampNeg) then (some ((0 : Int32), σ)) else (bnd (l2 + (1 : Int32)) fun x2 => J 1 l1 x2 σ))))))) else (bnd (l2 + (1 : Int32)) fun x1 => J 1 l1 x1 σ))))
noncomputable def S_X12_mayHear  (n : Nat) (J : Nat → Int32 → Int32 → St → Option (Int32 × St)) : Nat → Int32 → Int32 → St → Option (Int32 × St) := fun lb a0 a1 σ => match lb with
  | 1 => B_X12_mayHear_1 J n  a0 a1 σ
  | _ => none
noncomputable def L_X12_mayHear  (n : Nat) : Nat → Int32 → Int32 → St → Option (Int32 × St) := Nat.rec (fun _ _ _ _ => none) (fun n J => S_X12_mayHear  n J) n
noncomputable def F_X12_mayHear (n : Nat) (p1 : Int32) (σ : St) : Option (Int32 × St) := L_X12_mayHear  n 1 p1 (0 : Int32) σ
set_option maxHeartbeats 4000000 in
set_option maxRecDepth 20000 in
theorem t_X12_mayHear (l : Launch) {p : Program} {e : Env} {s : State} {m : MethodId} {args : Array Value} {below : List Frame} {meth : Method} {c : Code} {D : va_G} {A : Nat → Prop} {ad : Nat → Nat} {dA : Nat → ClassId}   (K : Cx p s m args meth c cX12_mayHear 3 (some .boolean) RX12 D (tysR dA) (wdR ad dA) A) {res : Int32 × St} (n : Nat) : (∀ (l1 : Int32) (l2 : Int32) (σ : St), L_X12_mayHear  n 1 l1 l2 σ = some res → V p l e (rmH 1) s m args below meth c 3 D (wdR ad dA) A (MQ below (QI D (wdR ad dA) A res) args s 0 0 A) 2 [(0, .ref (ad 0)), (1, .int l1), (2, .int l2)] [] σ) := by
  induction n with
  | zero => exact (fun _ _ _ h => (by cases h))
  | succ n ih =>
    have ih_1 := ih
    · intro l1 l2 σ hM
      have hM : B_X12_mayHear_1 (L_X12_mayHear  n) n  l1 l2 σ = some res := hM
      refine v_iload_n K dX12_mayHear_2 2 rfl ?_
      refine v_iload_n K dX12_mayHear_3 1 rfl ?_
      refine v_icmp_ge K 60 dX12_mayHear_4 (by decide) hM (fun hM => ?_) (fun hM => ?_)
      · refine v_iconst (v := (1 : Int32)) K dX12_mayHear_60 (by decide) ?_
        exact v_zret K rfl rfl dX12_mayHear_61 hM
      · refine v_aload_n K dX12_mayHear_7 0 rfl ?_
        refine g_X12_37 K qf_X12_84 dX12_mayHear_8 ?_
        refine v_iload_n K dX12_mayHear_11 2 rfl ?_
        refine ld_R24 K dX12_mayHear_12 hM (fun hM => ?_)
        refine v_aload_n K dX12_mayHear_13 0 rfl ?_
        refine g_X12_37 K qf_X12_84 dX12_mayHear_14 ?_
        refine v_iload_n K dX12_mayHear_17 1 rfl ?_
        refine ld_R24 K dX12_mayHear_18 hM (fun hM => ?_)
        refine v_icmp_ne K 54 dX12_mayHear_19 (by decide) hM (fun hM => ?_) (fun hM => ?_)
        · refine v_iinc K dX12_mayHear_54 2 rfl (v := (l2 + (1 : Int32))) rfl (by decide) hM (fun y => [(2, .int y), (0, .ref (ad 0)), (1, .int l1)]) (fun _ => rfl) (fun x1 hM => ?_)
          refine v_goto (tgt := 2) K dX12_mayHear_57 (by decide) ?_
          exact v_sub [1, 2, 0] rfl (ih_1 l1 x1 σ hM)
        · refine v_aload_n K dX12_mayHear_22 0 rfl ?_
          refine g_X12_34 K qf_X12_78 dX12_mayHear_23 ?_
          refine v_iload_n K dX12_mayHear_26 2 rfl ?_
          refine ld_R22 K dX12_mayHear_27 hM (fun hM => ?_)
          refine v_aload_n K dX12_mayHear_28 0 rfl ?_
          refine g_X12_35 K qf_X12_81 dX12_mayHear_29 ?_
          refine v_iload_n K dX12_mayHear_32 1 rfl ?_
          refine ld_R23 K dX12_mayHear_33 hM (fun hM => ?_)
          refine v_icmp_eq K 52 dX12_mayHear_34 (by decide) hM (fun hM => ?_) (fun hM => ?_)
          · refine v_iconst (v := (0 : Int32)) K dX12_mayHear_52 (by decide) ?_
            exact v_zret K rfl rfl dX12_mayHear_53 hM
          · refine v_aload_n K dX12_mayHear_37 0 rfl ?_
            refine g_X12_35 K qf_X12_81 dX12_mayHear_38 ?_
            refine v_iload_n K dX12_mayHear_41 2 rfl ?_
            refine ld_R23 K dX12_mayHear_42 hM (fun hM => ?_)
            refine v_aload_n K dX12_mayHear_43 0 rfl ?_
            refine g_X12_34 K qf_X12_78 dX12_mayHear_44 ?_
            refine v_iload_n K dX12_mayHear_47 1 rfl ?_
            refine ld_R22 K dX12_mayHear_48 hM (fun hM => ?_)
            refine v_icmp_ne K 54 dX12_mayHear_49 (by decide) hM (fun hM => ?_) (fun hM => ?_)
            · refine v_iinc K dX12_mayHear_54 2 rfl (v := (l2 + (1 : Int32))) rfl (by decide) hM (fun y => [(2, .int y), (0, .ref (ad 0)), (1, .int l1)]) (fun _ => rfl) (fun x2 hM => ?_)
              refine v_goto (tgt := 2) K dX12_mayHear_57 (by decide) ?_
              exact v_sub [1, 2, 0] rfl (ih_1 l1 x2 σ hM)
            · refine v_iconst (v := (0 : Int32)) K dX12_mayHear_52 (by decide) ?_
              exact v_zret K rfl rfl dX12_mayHear_53 hM
set_option maxHeartbeats 4000000 in
set_option maxRecDepth 20000 in
theorem c_X12_mayHear (l : Launch) {D : va_G} {A : Nat → Prop} {ad : Nat → Nat} {dA : Nat → ClassId}  (n : Nat) (p1 : Int32) (σ : St) {res : Int32 × St} (hM : F_X12_mayHear n p1 σ = some res) : MI l yX12_mayHear cX12_mayHear 3 (some .boolean) 1 D (tysR dA) (wdR ad dA) A [.ref (ad 0), .int p1] σ (QI D (wdR ad dA) A res) := by
  refine mk_met (by decide +kernel) (Nat.le_of_ble_eq_true rfl) (fun p e s m below meth c K => ?_)
  have K : Cx p s m _ meth c cX12_mayHear 3 (some .boolean) RX12 D (tysR dA) (wdR ad dA) A := K
  have ih_1 := t_X12_mayHear l    K (res := res) n (below := below) (e := e)
  refine v_iconst (v := (0 : Int32)) K dX12_mayHear_0 (by decide) ?_
  refine v_istore_n K dX12_mayHear_1 rfl (by decide) [(2, .int (0 : Int32)), (0, .ref (ad 0)), (1, .int p1)] rfl ?_
  exact v_sub [1, 2, 0] rfl (ih_1 p1 (0 : Int32) σ hM)
noncomputable def B_X12_goDays_1 (O : Nat → Nat → Int32 → Int32 → St → Option (Unit × St)) (J : Nat → Int32 → Int32 → Int32 → St → Option (Unit × St)) (n : Nat)  (l1 : Int32) (l2 : Int32) (l3 : Int32) (σ : St) : Option (Unit × St) := if l2 < l3 then (some ((), σ)) else (gd (vp_in l1 6) (bnd (sI σ 24 (l1).toNatClampNeg l3) fun s2 => bd (F_X12_mayHear n l1 s2) fun r4 s3 => if r4 = 0 then (bnd (l3 + (1 : Int32)) fun x5 => J 1 l1 l2 x5 s3) else (if l3 = l2 then (bd (O 0 n (l1 + (1 : Int32)) (l2 + (1 : Int32)) s3) fun _ s8 => bnd (l3 + (1 : Int32)) fun x9 => J 1 l1 l2 x9 s8) else (bd (O 0 n (l1 + (1 : Int32)) l2 s3) fun _ s6 => bnd (l3 + (1 : Int32)) fun x7 => J 1 l1 l2 x7 s6))))
noncomputable def B_X12_goDays_2 (O : Nat → Nat → Int32 → Int32 → St → Option (Unit × St)) (J : Nat → Int32 → Int32 → Int32 → St → Option (Unit × St)) (n : Nat)  (l3 : Int32) (σ : St) : Option (Unit × St) := if (gI σ 0 36) ≤ l3 then (some ((), σ)) else (gd (vp_in l3 6) (gd (vp_in l3 6) (bnd (sI σ 25 (l3).toNatClampNeg (gI σ 24 (l3).toNatClampNeg)) fun s10 => bnd (l3 + (1 : Int32)) fun x11 => J 2 x11 0 0 s10)))
noncomputable def S_X12_goDays (O : Nat → Nat → Int32 → Int32 → St → Option (Unit × St))  (n : Nat) (J : Nat → Int32 → Int32 → Int32 → St → Option (Unit × St)) : Nat → Int32 → Int32 → Int32 → St → Option (Unit × St) := fun lb a0 a1 a2 σ => match lb with
  | 1 => B_X12_goDays_1 O J n  a0 a1 a2 σ
  | 2 => B_X12_goDays_2 O J n  a0 σ
  | _ => none
noncomputable def L_X12_goDays (O : Nat → Nat → Int32 → Int32 → St → Option (Unit × St))  (n : Nat) : Nat → Int32 → Int32 → Int32 → St → Option (Unit × St) := Nat.rec (fun _ _ _ _ _ => none) (fun n J => S_X12_goDays O  n J) n
noncomputable def E_X12_goDays (O : Nat → Nat → Int32 → Int32 → St → Option (Unit × St)) (n : Nat) (p1 : Int32) (p2 : Int32) (σ : St) : Option (Unit × St) := if p2 < (gI σ 0 39) then (if p1 = (gI σ 0 36) then (bnd (sI σ 0 39 p2) fun s1 => L_X12_goDays O  n 2 (0 : Int32) 0 0 s1) else (L_X12_goDays O  n 1 p1 p2 (0 : Int32) σ)) else (some ((), σ))
set_option maxHeartbeats 4000000 in
set_option maxRecDepth 20000 in
theorem t_X12_goDays (l : Launch) {p : Program} {e : Env} {s : State} {m : MethodId} {args : Array Value} {below : List Frame} {meth : Method} {c : Code} {D : va_G} {A : Nat → Prop} {ad : Nat → Nat} {dA : Nat → ClassId}   (d : Nat) {O : Nat → Nat → Int32 → Int32 → St → Option (Unit × St)} (ih_r0 : ∀ (n : Nat) (p1 : Int32) (p2 : Int32) (σ : St) {res : Unit × St}, O 0 n p1 p2 σ = some res → MI l yX12_goDays cX12_goDays 4 none (2 + d) D (tysR dA) (wdR ad dA) A [.ref (ad 0), .int p1, .int p2] σ (QV D (wdR ad dA) A res)) (K : Cx p s m args meth c cX12_goDays 4 none RX12 D (tysR dA) (wdR ad dA) A) {res : Unit × St} (n : Nat) : (∀ (l1 : Int32) (l2 : Int32) (l3 : Int32) (σ : St), L_X12_goDays O  n 1 l1 l2 l3 σ = some res → V p l e (rmH (2 + d + 1)) s m args below meth c 4 D (wdR ad dA) A (MQ below (QV D (wdR ad dA) A res) args s 0 0 A) 53 [(0, .ref (ad 0)), (1, .int l1), (2, .int l2), (3, .int l3)] [] σ) ∧ (∀ (l3 : Int32) (σ : St), L_X12_goDays O  n 2 l3 0 0 σ = some res → V p l e (rmH (2 + d + 1)) s m args below meth c 4 D (wdR ad dA) A (MQ below (QV D (wdR ad dA) A res) args s 0 0 A) 24 [(0, .ref (ad 0)), (3, .int l3)] [] σ) := by
  induction n with
  | zero => exact ⟨fun _ _ _ _ h => (by cases h), fun _ _ h => (by cases h)⟩
  | succ n ih =>
    obtain ⟨ih_1, ih_2⟩ := ih
    refine ⟨?_, ?_⟩
    · intro l1 l2 l3 σ hM
      have hM : B_X12_goDays_1 O (L_X12_goDays O  n) n  l1 l2 l3 σ = some res := hM
      refine v_iload_n K dX12_goDays_53 3 rfl ?_
      refine v_iload_n K dX12_goDays_54 2 rfl ?_
      refine v_icmp_gt K 98 dX12_goDays_55 (by decide) hM (fun hM => ?_) (fun hM => ?_)
      · exact v_vret K rfl dX12_goDays_98 hM
      · refine v_aload_n K dX12_goDays_58 0 rfl ?_
        refine g_X12_37 K qf_X12_84 dX12_goDays_59 ?_
        refine v_iload_n K dX12_goDays_62 1 rfl ?_
        refine v_iload_n K dX12_goDays_63 3 rfl ?_
        refine st_R24 K dX12_goDays_64 hM (fun s2 hM => ?_)
        refine v_aload_n K dX12_goDays_65 0 rfl ?_
        refine v_iload_n K dX12_goDays_66 1 rfl ?_
        refine x_Vi (As := [.int l1]) (st := []) K uv_X12_mayHear qm_X12_337 dX12_goDays_67 rv_X12 (fun _ h => c_X12_mayHear l  n l1 s2 h) rfl ⟨(by simp only [rmH]; omega), (by simp only [rmH]; omega)⟩ (Nat.le_of_ble_eq_true rfl) hM (fun r4 s3 hM => ?_)
        refine v_if_eq K 92 dX12_goDays_70 (by decide) hM (fun hM => ?_) (fun hM => ?_)
        · refine v_iinc K dX12_goDays_92 3 rfl (v := (l3 + (1 : Int32))) rfl (by decide) hM (fun y => [(3, .int y), (0, .ref (ad 0)), (1, .int l1), (2, .int l2)]) (fun _ => rfl) (fun x5 hM => ?_)
          refine v_goto (tgt := 53) K dX12_goDays_95 (by decide) ?_
          exact v_sub [1, 2, 3, 0] rfl (ih_1 l1 l2 x5 s3 hM)
        · refine v_aload_n K dX12_goDays_73 0 rfl ?_
          refine v_iload_n K dX12_goDays_74 1 rfl ?_
          refine v_iconst (v := (1 : Int32)) K dX12_goDays_75 (by decide) ?_
          refine v_iadd K dX12_goDays_76 ?_
          refine v_iload_n K dX12_goDays_77 3 rfl ?_
          refine v_iload_n K dX12_goDays_78 2 rfl ?_
          refine v_icmp_ne K 88 dX12_goDays_79 (by decide) hM (fun hM => ?_) (fun hM => ?_)
          · refine v_iload_n K dX12_goDays_88 2 rfl ?_
            refine x_Vv (As := [.int (l1 + (1 : Int32)), .int l2]) (st := []) K uv_X12_goDays qm_X12_340 dX12_goDays_89 rv_X12 (fun _ h => ih_r0 n (l1 + (1 : Int32)) l2 s3 h) rfl ⟨by simp only [rmH]; omega, by simp only [rmH]; omega⟩ (Nat.le_of_ble_eq_true rfl) hM (fun s6 hM => ?_)
            refine v_iinc K dX12_goDays_92 3 rfl (v := (l3 + (1 : Int32))) rfl (by decide) hM (fun y => [(3, .int y), (0, .ref (ad 0)), (1, .int l1), (2, .int l2)]) (fun _ => rfl) (fun x7 hM => ?_)
            refine v_goto (tgt := 53) K dX12_goDays_95 (by decide) ?_
            exact v_sub [1, 2, 3, 0] rfl (ih_1 l1 l2 x7 s6 hM)
          · refine v_iload_n K dX12_goDays_82 2 rfl ?_
            refine v_iconst (v := (1 : Int32)) K dX12_goDays_83 (by decide) ?_
            refine v_iadd K dX12_goDays_84 ?_
            refine v_goto (tgt := 89) K dX12_goDays_85 (by decide) ?_
            refine x_Vv (As := [.int (l1 + (1 : Int32)), .int (l2 + (1 : Int32))]) (st := []) K uv_X12_goDays qm_X12_340 dX12_goDays_89 rv_X12 (fun _ h => ih_r0 n (l1 + (1 : Int32)) (l2 + (1 : Int32)) s3 h) rfl ⟨by simp only [rmH]; omega, by simp only [rmH]; omega⟩ (Nat.le_of_ble_eq_true rfl) hM (fun s8 hM => ?_)
            refine v_iinc K dX12_goDays_92 3 rfl (v := (l3 + (1 : Int32))) rfl (by decide) hM (fun y => [(3, .int y), (0, .ref (ad 0)), (1, .int l1), (2, .int l2)]) (fun _ => rfl) (fun x9 hM => ?_)
            refine v_goto (tgt := 53) K dX12_goDays_95 (by decide) ?_
            exact v_sub [1, 2, 3, 0] rfl (ih_1 l1 l2 x9 s8 hM)
    · intro l3 σ hM
      have hM : B_X12_goDays_2 O (L_X12_goDays O  n) n  l3 σ = some res := hM
      refine v_iload_n K dX12_goDays_24 1 rfl ?_
      refine v_aload_n K dX12_goDays_25 0 rfl ?_
      refine g_X12_36 K qf_X12_319 dX12_goDays_26 ?_
      refine v_icmp_ge K 50 dX12_goDays_29 (by decide) hM (fun hM => ?_) (fun hM => ?_)
      · exact v_vret K rfl dX12_goDays_50 hM
      · refine v_aload_n K dX12_goDays_32 0 rfl ?_
        refine g_X12_38 K qf_X12_87 dX12_goDays_33 ?_
        refine v_iload_n K dX12_goDays_36 1 rfl ?_
        refine v_aload_n K dX12_goDays_37 0 rfl ?_
        refine g_X12_37 K qf_X12_84 dX12_goDays_38 ?_
        refine v_iload_n K dX12_goDays_41 1 rfl ?_
        refine ld_R24 K dX12_goDays_42 hM (fun hM => ?_)
        refine st_R25 K dX12_goDays_43 hM (fun s10 hM => ?_)
        refine v_iinc K dX12_goDays_44 1 rfl (v := (l3 + (1 : Int32))) rfl (by decide) hM (fun y => [(3, .int y), (0, .ref (ad 0))]) (fun _ => rfl) (fun x11 hM => ?_)
        refine v_goto (tgt := 24) K dX12_goDays_47 (by decide) ?_
        exact v_sub [1, 0] rfl (ih_2 x11 s10 hM)
set_option maxHeartbeats 4000000 in
set_option maxRecDepth 20000 in
theorem e_X12_goDays (l : Launch) {D : va_G} {A : Nat → Prop} {ad : Nat → Nat} {dA : Nat → ClassId} (d : Nat) {O : Nat → Nat → Int32 → Int32 → St → Option (Unit × St)} (ih_r0 : ∀ (n : Nat) (p1 : Int32) (p2 : Int32) (σ : St) {res : Unit × St}, O 0 n p1 p2 σ = some res → MI l yX12_goDays cX12_goDays 4 none (2 + d) D (tysR dA) (wdR ad dA) A [.ref (ad 0), .int p1, .int p2] σ (QV D (wdR ad dA) A res))  (n : Nat) (p1 : Int32) (p2 : Int32) (σ : St) {res : Unit × St} (hM : E_X12_goDays O n p1 p2 σ = some res) : MI l yX12_goDays cX12_goDays 4 none (2 + d + 1) D (tysR dA) (wdR ad dA) A [.ref (ad 0), .int p1, .int p2] σ (QV D (wdR ad dA) A res) := by
  refine mk_met (by decide +kernel) (Nat.le_of_ble_eq_true rfl) (fun p e s m below meth c K => ?_)
  have K : Cx p s m _ meth c cX12_goDays 4 none RX12 D (tysR dA) (wdR ad dA) A := K
  obtain ⟨ih_1, ih_2⟩ := t_X12_goDays l   d ih_r0 K (res := res) n (below := below) (e := e)
  refine v_iload_n K dX12_goDays_0 2 rfl ?_
  refine v_aload_n K dX12_goDays_1 0 rfl ?_
  refine g_X12_39 K qf_X12_334 dX12_goDays_2 ?_
  refine v_icmp_lt K 9 dX12_goDays_5 (by decide) hM (fun hM => ?_) (fun hM => ?_)
  · refine v_iload_n K dX12_goDays_9 1 rfl ?_
    refine v_aload_n K dX12_goDays_10 0 rfl ?_
    refine g_X12_36 K qf_X12_319 dX12_goDays_11 ?_
    refine v_icmp_ne K 51 dX12_goDays_14 (by decide) hM (fun hM => ?_) (fun hM => ?_)
    · refine v_iconst (v := (0 : Int32)) K dX12_goDays_51 (by decide) ?_
      refine v_istore_n K dX12_goDays_52 rfl (by decide) [(3, .int (0 : Int32)), (0, .ref (ad 0)), (1, .int p1), (2, .int p2)] rfl ?_
      exact v_sub [1, 2, 3, 0] rfl (ih_1 p1 p2 (0 : Int32) σ hM)
    · refine v_aload_n K dX12_goDays_17 0 rfl ?_
      refine v_iload_n K dX12_goDays_18 2 rfl ?_
      refine p_X12_39 K qf_X12_334 dX12_goDays_19 hM (fun s1 hM => ?_)
      refine v_iconst (v := (0 : Int32)) K dX12_goDays_22 (by decide) ?_
      refine v_istore_n K dX12_goDays_23 rfl (by decide) [(3, .int (0 : Int32)), (0, .ref (ad 0)), (1, .int p1), (2, .int p2)] rfl ?_
      exact v_sub [1, 0] rfl (ih_2 (0 : Int32) s1 hM)
  · exact v_vret K rfl dX12_goDays_8 hM
noncomputable def D_X12_goDays (O : Nat → Nat → Int32 → Int32 → St → Option (Unit × St)) : Nat → Nat → Int32 → Int32 → St → Option (Unit × St) := fun mi n a0 a1 σ => match mi with
  | 0 => E_X12_goDays O n a0 a1 σ
  | _ => none
noncomputable def F_X12_goDays (d : Nat) : Nat → Nat → Int32 → Int32 → St → Option (Unit × St) := Nat.rec (fun _ _ _ _ _ => none) (fun _ O => D_X12_goDays O) d
theorem r_X12_goDays (l : Launch) {D : va_G} {A : Nat → Prop} {ad : Nat → Nat} {dA : Nat → ClassId} (d : Nat) : (∀ (n : Nat) (p1 : Int32) (p2 : Int32) (σ : St) {res : Unit × St}, F_X12_goDays d 0 n p1 p2 σ = some res → MI l yX12_goDays cX12_goDays 4 none (2 + d) D (tysR dA) (wdR ad dA) A [.ref (ad 0), .int p1, .int p2] σ (QV D (wdR ad dA) A res)) := by
  induction d with
  | zero => exact (fun _ _ _ _ _ h => (by cases h))
  | succ d ih =>
    exact fun n p1 p2 σ _ hM => e_X12_goDays l d ih n p1 p2 σ hM
theorem c_X12_goDays (l : Launch) {D : va_G} {A : Nat → Prop} {ad : Nat → Nat} {dA : Nat → ClassId} (d n : Nat) (p1 : Int32) (p2 : Int32) (σ : St) {res : Unit × St} (hM : F_X12_goDays d 0 n p1 p2 σ = some res) : MI l yX12_goDays cX12_goDays 4 none (2 + d) D (tysR dA) (wdR ad dA) A [.ref (ad 0), .int p1, .int p2] σ (QV D (wdR ad dA) A res) := (r_X12_goDays l d) n p1 p2 σ hM
noncomputable def F_X12_days (n : Nat) (p1 : Int32) (p2 : Int32) (σ : St) : Option (Int32 × St) := bd (F_X12_isShelf n p1 σ) fun r2 s1 => if r2 = 0 then (some ((-1 : Int32), s1)) else (if (-1 : Int32) ≤ p2 then (bd (F_X12_rowFault n p1 s1) fun r4 s3 => if 0 ≤ r4 then (bd (F_X12_layCharges n p1 s3) fun _ s5 => if (gI s5 0 36) ≤ (6 : Int32) then (bnd (sI s5 0 39 (7 : Int32)) fun s6 => bd (F_X12_goDays 100 0 n (0 : Int32) (0 : Int32) s6) fun _ s7 => if 0 ≤ p2 then (if (gI s7 0 36) ≤ p2 then (some ((-2 : Int32), s7)) else (gd (vp_in p2 6) (some ((gI s7 25 (p2).toNatClampNeg), s7)))) else (some ((gI s7 0 39), s7))) else (some ((-5 : Int32), s5))) else (bd (F_X12_rowFault n p1 s3) fun r9 s8 => some (r9, s8))) else (some ((-1 : Int32), s1)))
set_option maxHeartbeats 4000000 in
set_option maxRecDepth 20000 in
theorem c_X12_days (l : Launch) {D : va_G} {A : Nat → Prop} {ad : Nat → Nat} {dA : Nat → ClassId}  (n : Nat) (p1 : Int32) (p2 : Int32) (σ : St) {res : Int32 × St} (hM : F_X12_days n p1 p2 σ = some res) : MI l yX12_days cX12_days 3 (some .int) 103 D (tysR dA) (wdR ad dA) A [.ref (ad 0), .int p1, .int p2] σ (QI D (wdR ad dA) A res) := by
  refine mk_met (by decide +kernel) (Nat.le_of_ble_eq_true rfl) (fun p e s m below meth c K => ?_)
  have K : Cx p s m _ meth c cX12_days 3 (some .int) RX12 D (tysR dA) (wdR ad dA) A := K
  refine v_iload_n K dX12_days_0 1 rfl ?_
  refine x_Si (As := [.int p1]) (st := []) K us_X12_isShelf qm_X12_137 dX12_days_1 (fun _ h => c_X12_isShelf l  n p1 σ h) rfl ⟨(Nat.le_of_ble_eq_true rfl), (Nat.le_of_ble_eq_true rfl)⟩ (Nat.le_of_ble_eq_true rfl) hM (fun r2 s1 hM => ?_)
  refine v_if_eq K 12 dX12_days_4 (by decide) hM (fun hM => ?_) (fun hM => ?_)
  · refine v_iconst (v := (-1 : Int32)) K dX12_days_12 (by decide) ?_
    exact v_iret K rfl dX12_days_13 hM
  · refine v_iload_n K dX12_days_7 2 rfl ?_
    refine v_iconst (v := (-1 : Int32)) K dX12_days_8 (by decide) ?_
    refine v_icmp_ge K 14 dX12_days_9 (by decide) hM (fun hM => ?_) (fun hM => ?_)
    · refine v_aload_n K dX12_days_14 0 rfl ?_
      refine v_iload_n K dX12_days_15 1 rfl ?_
      refine x_Vi (As := [.int p1]) (st := []) K uv_X12_rowFault qm_X12_281 dX12_days_16 rv_X12 (fun _ h => c_X12_rowFault l  n p1 s1 h) rfl ⟨(Nat.le_of_ble_eq_true rfl), (Nat.le_of_ble_eq_true rfl)⟩ (Nat.le_of_ble_eq_true rfl) hM (fun r4 s3 hM => ?_)
      refine v_if_ge K 28 dX12_days_19 (by decide) hM (fun hM => ?_) (fun hM => ?_)
      · refine v_aload_n K dX12_days_28 0 rfl ?_
        refine v_iload_n K dX12_days_29 1 rfl ?_
        refine x_Vv (As := [.int p1]) (st := []) K uv_X12_layCharges qm_X12_325 dX12_days_30 rv_X12 (fun _ h => c_X12_layCharges l  n p1 s3 h) rfl ⟨(Nat.le_of_ble_eq_true rfl), (Nat.le_of_ble_eq_true rfl)⟩ (Nat.le_of_ble_eq_true rfl) hM (fun s5 hM => ?_)
        refine v_aload_n K dX12_days_33 0 rfl ?_
        refine g_X12_36 K qf_X12_319 dX12_days_34 ?_
        refine v_bipush (v := (6 : Int32)) K dX12_days_37 (by decide) ?_
        refine v_icmp_le K 45 dX12_days_39 (by decide) hM (fun hM => ?_) (fun hM => ?_)
        · refine v_aload_n K dX12_days_45 0 rfl ?_
          refine v_bipush (v := (7 : Int32)) K dX12_days_46 (by decide) ?_
          refine p_X12_39 K qf_X12_334 dX12_days_48 hM (fun s6 hM => ?_)
          refine v_aload_n K dX12_days_51 0 rfl ?_
          refine v_iconst (v := (0 : Int32)) K dX12_days_52 (by decide) ?_
          refine v_iconst (v := (0 : Int32)) K dX12_days_53 (by decide) ?_
          refine x_Vv (As := [.int (0 : Int32), .int (0 : Int32)]) (st := []) K uv_X12_goDays qm_X12_340 dX12_days_54 rv_X12 (fun _ h => c_X12_goDays l 100 n (0 : Int32) (0 : Int32) s6 h) rfl ⟨(Nat.le_of_ble_eq_true rfl), (Nat.le_of_ble_eq_true rfl)⟩ (Nat.le_of_ble_eq_true rfl) hM (fun s7 hM => ?_)
          refine v_iload_n K dX12_days_57 2 rfl ?_
          refine v_if_ge K 68 dX12_days_58 (by decide) hM (fun hM => ?_) (fun hM => ?_)
          · refine v_iload_n K dX12_days_68 2 rfl ?_
            refine v_aload_n K dX12_days_69 0 rfl ?_
            refine g_X12_36 K qf_X12_319 dX12_days_70 ?_
            refine v_icmp_ge K 85 dX12_days_73 (by decide) hM (fun hM => ?_) (fun hM => ?_)
            · refine v_bipush (v := (-2 : Int32)) K dX12_days_85 (by decide) ?_
              exact v_iret K rfl dX12_days_87 hM
            · refine v_aload_n K dX12_days_76 0 rfl ?_
              refine g_X12_38 K qf_X12_87 dX12_days_77 ?_
              refine v_iload_n K dX12_days_80 2 rfl ?_
              refine ld_R25 K dX12_days_81 hM (fun hM => ?_)
              refine v_goto (tgt := 87) K dX12_days_82 (by decide) ?_
              exact v_iret K rfl dX12_days_87 hM
          · refine v_aload_n K dX12_days_61 0 rfl ?_
            refine g_X12_39 K qf_X12_334 dX12_days_62 ?_
            refine v_goto (tgt := 87) K dX12_days_65 (by decide) ?_
            exact v_iret K rfl dX12_days_87 hM
        · refine v_bipush (v := (-5 : Int32)) K dX12_days_42 (by decide) ?_
          exact v_iret K rfl dX12_days_44 hM
      · refine v_aload_n K dX12_days_22 0 rfl ?_
        refine v_iload_n K dX12_days_23 1 rfl ?_
        refine x_Vi (As := [.int p1]) (st := []) K uv_X12_rowFault qm_X12_281 dX12_days_24 rv_X12 (fun _ h => c_X12_rowFault l  n p1 s3 h) rfl ⟨(Nat.le_of_ble_eq_true rfl), (Nat.le_of_ble_eq_true rfl)⟩ (Nat.le_of_ble_eq_true rfl) hM (fun r9 s8 hM => ?_)
        exact v_iret K rfl dX12_days_27 hM
    · refine v_iconst (v := (-1 : Int32)) K dX12_days_12 (by decide) ?_
      exact v_iret K rfl dX12_days_13 hM
noncomputable def B_X12_quiet_1 (J : Nat → Int32 → Int32 → Int32 → Int32 → Int32 → Int32 → St → Option (Int32 × St)) (n : Nat)  (l1 : Int32) (l2 : Int32) (l3 : Int32) (l4 : Int32) (l5 : Int32) (σ : St) : Option (Int32 × St) := if (gI σ 0 1) ≤ l5 then (if l2 = 0 then (some (l3, σ)) else (gd (vp_in l1 7) (if 0 ≤ (gI σ 17 (l1).toNatClampNeg) then (some ((1 : Int32), σ)) else (if (12 : Int32) ≤ (l3 + l4) then (some ((0 : Int32), σ)) else (some ((1 : Int32), σ)))))) else (if l5 = l1 then (bnd (l5 + (1 : Int32)) fun x8 => J 1 l1 l2 l3 l4 x8 0 σ) else (bd (F_X12_winsBy n l1 l5 σ) fun r7 s6 => if l3 ≤ r7 then (J 2 l1 l2 l3 l4 l5 r7 s6) else (J 2 l1 l2 r7 l4 l5 r7 s6)))
noncomputable def B_X12_quiet_2 (J : Nat → Int32 → Int32 → Int32 → Int32 → Int32 → Int32 → St → Option (Int32 × St)) (n : Nat)  (l1 : Int32) (l2 : Int32) (l3 : Int32) (l4 : Int32) (l5 : Int32) (l6 : Int32) (σ : St) : Option (Int32 × St) := if l6 ≤ l4 then (bnd (l5 + (1 : Int32)) fun x9 => J 1 l1 l2 l3 l4 x9 0 σ) else (bnd (l5 + (1 : Int32)) fun x10 => J 1 l1 l2 l3 l6 x10 0 σ)
noncomputable def S_X12_quiet  (n : Nat) (J : Nat → Int32 → Int32 → Int32 → Int32 → Int32 → Int32 → St → Option (Int32 × St)) : Nat → Int32 → Int32 → Int32 → Int32 → Int32 → Int32 → St → Option (Int32 × St) := fun lb a0 a1 a2 a3 a4 a5 σ => match lb with
  | 1 => B_X12_quiet_1 J n  a0 a1 a2 a3 a4 σ
  | 2 => B_X12_quiet_2 J n  a0 a1 a2 a3 a4 a5 σ
  | _ => none
noncomputable def L_X12_quiet  (n : Nat) : Nat → Int32 → Int32 → Int32 → Int32 → Int32 → Int32 → St → Option (Int32 × St) := Nat.rec (fun _ _ _ _ _ _ _ _ => none) (fun n J => S_X12_quiet  n J) n
noncomputable def F_X12_quiet (n : Nat) (p1 : Int32) (p2 : Int32) (σ : St) : Option (Int32 × St) := bd (F_X12_isPerson n p1 σ) fun r2 s1 => if r2 = 0 then (some ((-1 : Int32), s1)) else (bd (F_X12_in n p2 (0 : Int32) (1 : Int32) s1) fun r4 s3 => if r4 = 0 then (some ((-1 : Int32), s3)) else (bd (F_X12_beginThought n  s3) fun _ s5 => if (gI s5 0 1) = (1 : Int32) then (L_X12_quiet  n 1 p1 p2 (12 : Int32) (12 : Int32) (0 : Int32) 0 s5) else (L_X12_quiet  n 1 p1 p2 (12 : Int32) (0 : Int32) (0 : Int32) 0 s5)))
set_option maxHeartbeats 4000000 in
set_option maxRecDepth 20000 in
theorem t_X12_quiet (l : Launch) {p : Program} {e : Env} {s : State} {m : MethodId} {args : Array Value} {below : List Frame} {meth : Method} {c : Code} {D : va_G} {A : Nat → Prop} {ad : Nat → Nat} {dA : Nat → ClassId}   (K : Cx p s m args meth c cX12_quiet 7 (some .int) RX12 D (tysR dA) (wdR ad dA) A) {res : Int32 × St} (n : Nat) : (∀ (l1 : Int32) (l2 : Int32) (l3 : Int32) (l4 : Int32) (l5 : Int32) (σ : St), L_X12_quiet  n 1 l1 l2 l3 l4 l5 0 σ = some res → V p l e (rmH 6) s m args below meth c 7 D (wdR ad dA) A (MQ below (QI D (wdR ad dA) A res) args s 0 0 A) 45 [(0, .ref (ad 0)), (1, .int l1), (2, .int l2), (3, .int l3), (4, .int l4), (5, .int l5)] [] σ) ∧ (∀ (l1 : Int32) (l2 : Int32) (l3 : Int32) (l4 : Int32) (l5 : Int32) (l6 : Int32) (σ : St), L_X12_quiet  n 2 l1 l2 l3 l4 l5 l6 σ = some res → V p l e (rmH 6) s m args below meth c 7 D (wdR ad dA) A (MQ below (QI D (wdR ad dA) A res) args s 0 0 A) 81 [(0, .ref (ad 0)), (1, .int l1), (2, .int l2), (3, .int l3), (4, .int l4), (5, .int l5), (6, .int l6)] [] σ) := by
  induction n with
  | zero => exact ⟨fun _ _ _ _ _ _ h => (by cases h), fun _ _ _ _ _ _ _ h => (by cases h)⟩
  | succ n ih =>
    obtain ⟨ih_1, ih_2⟩ := ih
    refine ⟨?_, ?_⟩
    · intro l1 l2 l3 l4 l5 σ hM
      have hM : B_X12_quiet_1 (L_X12_quiet  n) n  l1 l2 l3 l4 l5 σ = some res := hM
      refine v_iload K dX12_quiet_45 5 rfl ?_
      refine v_aload_n K dX12_quiet_47 0 rfl ?_
      refine g_X12_1 K qf_X12_122 dX12_quiet_48 ?_
      refine v_icmp_ge K 98 dX12_quiet_51 (by decide) hM (fun hM => ?_) (fun hM => ?_)
      · refine v_iload_n K dX12_quiet_98 2 rfl ?_
        refine v_if_ne K 104 dX12_quiet_99 (by decide) hM (fun hM => ?_) (fun hM => ?_)
        · refine v_aload_n K dX12_quiet_104 0 rfl ?_
          refine g_X12_26 K qf_X12_62 dX12_quiet_105 ?_
          refine v_iload_n K dX12_quiet_108 1 rfl ?_
          refine ld_R17 K dX12_quiet_109 hM (fun hM => ?_)
          refine v_if_ge K 122 dX12_quiet_110 (by decide) hM (fun hM => ?_) (fun hM => ?_)
          · refine v_iconst (v := (1 : Int32)) K dX12_quiet_122 (by decide) ?_
            refine v_goto (tgt := 127) K dX12_quiet_123 (by decide) ?_
            exact v_iret K rfl dX12_quiet_127 hM
          · refine v_iload_n K dX12_quiet_113 3 rfl ?_
            refine v_iload K dX12_quiet_114 4 rfl ?_
            refine v_iadd K dX12_quiet_116 ?_
            refine v_bipush (v := (12 : Int32)) K dX12_quiet_117 (by decide) ?_
            refine v_icmp_ge K 126 dX12_quiet_119 (by decide) hM (fun hM => ?_) (fun hM => ?_)
            · refine v_iconst (v := (0 : Int32)) K dX12_quiet_126 (by decide) ?_
              exact v_iret K rfl dX12_quiet_127 hM
            · refine v_iconst (v := (1 : Int32)) K dX12_quiet_122 (by decide) ?_
              refine v_goto (tgt := 127) K dX12_quiet_123 (by decide) ?_
              exact v_iret K rfl dX12_quiet_127 hM
        · refine v_iload_n K dX12_quiet_102 3 rfl ?_
          exact v_iret K rfl dX12_quiet_103 hM
      · refine v_iload K dX12_quiet_54 5 rfl ?_
        refine v_iload_n K dX12_quiet_56 1 rfl ?_
        refine v_icmp_ne K 63 dX12_quiet_57 (by decide) hM (fun hM => ?_) (fun hM => ?_)
        · refine v_aload_n K dX12_quiet_63 0 rfl ?_
          refine v_iload_n K dX12_quiet_64 1 rfl ?_
          refine v_iload K dX12_quiet_65 5 rfl ?_
          refine x_Vi (As := [.int l1, .int l5]) (st := []) K uv_X12_winsBy qm_X12_260 dX12_quiet_67 rv_X12 (fun _ h => c_X12_winsBy l  n l1 l5 σ h) rfl ⟨(Nat.le_of_ble_eq_true rfl), (Nat.le_of_ble_eq_true rfl)⟩ (Nat.le_of_ble_eq_true rfl) hM (fun r7 s6 hM => ?_)
          refine v_istore K dX12_quiet_70 (by decide) [(6, .int r7), (0, .ref (ad 0)), (1, .int l1), (2, .int l2), (3, .int l3), (4, .int l4), (5, .int l5)] rfl ?_
          refine v_iload K dX12_quiet_72 0 rfl ?_
          refine v_iload_n K dX12_quiet_74 4 rfl ?_
          refine v_icmp_ge K 81 dX12_quiet_75 (by decide) hM (fun hM => ?_) (fun hM => ?_)
          · exact v_sub [1, 2, 3, 4, 5, 6, 0] rfl (ih_2 l1 l2 l3 l4 l5 r7 s6 hM)
          · refine v_iload K dX12_quiet_78 0 rfl ?_
            refine v_istore_n K dX12_quiet_80 rfl (by decide) [(3, .int r7), (6, .int r7), (0, .ref (ad 0)), (1, .int l1), (2, .int l2), (4, .int l4), (5, .int l5)] rfl ?_
            exact v_sub [2, 3, 4, 0, 5, 6, 1] rfl (ih_2 l1 l2 r7 l4 l5 r7 s6 hM)
        · refine v_goto (tgt := 92) K dX12_quiet_60 (by decide) ?_
          refine v_iinc K dX12_quiet_92 5 rfl (v := (l5 + (1 : Int32))) rfl (by decide) hM (fun y => [(5, .int y), (0, .ref (ad 0)), (1, .int l1), (2, .int l2), (3, .int l3), (4, .int l4)]) (fun _ => rfl) (fun x8 hM => ?_)
          refine v_goto (tgt := 45) K dX12_quiet_95 (by decide) ?_
          exact v_sub [1, 2, 3, 4, 5, 0] rfl (ih_1 l1 l2 l3 l4 x8 σ hM)
    · intro l1 l2 l3 l4 l5 l6 σ hM
      have hM : B_X12_quiet_2 (L_X12_quiet  n) n  l1 l2 l3 l4 l5 l6 σ = some res := hM
      refine v_iload K dX12_quiet_81 6 rfl ?_
      refine v_iload K dX12_quiet_83 4 rfl ?_
      refine v_icmp_le K 92 dX12_quiet_85 (by decide) hM (fun hM => ?_) (fun hM => ?_)
      · refine v_iinc K dX12_quiet_92 5 rfl (v := (l5 + (1 : Int32))) rfl (by decide) hM (fun y => [(5, .int y), (0, .ref (ad 0)), (1, .int l1), (2, .int l2), (3, .int l3), (4, .int l4), (6, .int l6)]) (fun _ => rfl) (fun x9 hM => ?_)
        refine v_goto (tgt := 45) K dX12_quiet_95 (by decide) ?_
        exact v_sub [1, 2, 3, 4, 5, 0] rfl (ih_1 l1 l2 l3 l4 x9 σ hM)
      · refine v_iload K dX12_quiet_88 6 rfl ?_
        refine v_istore K dX12_quiet_90 (by decide) [(4, .int l6), (0, .ref (ad 0)), (1, .int l1), (2, .int l2), (3, .int l3), (5, .int l5), (6, .int l6)] rfl ?_
        refine v_iinc K dX12_quiet_92 5 rfl (v := (l5 + (1 : Int32))) rfl (by decide) hM (fun y => [(5, .int y), (4, .int l6), (0, .ref (ad 0)), (1, .int l1), (2, .int l2), (3, .int l3), (6, .int l6)]) (fun _ => rfl) (fun x10 hM => ?_)
        refine v_goto (tgt := 45) K dX12_quiet_95 (by decide) ?_
        exact v_sub [2, 3, 4, 5, 1, 0] rfl (ih_1 l1 l2 l3 l6 x10 σ hM)
set_option maxHeartbeats 4000000 in
set_option maxRecDepth 20000 in
theorem c_X12_quiet (l : Launch) {D : va_G} {A : Nat → Prop} {ad : Nat → Nat} {dA : Nat → ClassId}  (n : Nat) (p1 : Int32) (p2 : Int32) (σ : St) {res : Int32 × St} (hM : F_X12_quiet n p1 p2 σ = some res) : MI l yX12_quiet cX12_quiet 7 (some .int) 6 D (tysR dA) (wdR ad dA) A [.ref (ad 0), .int p1, .int p2] σ (QI D (wdR ad dA) A res) := by
  refine mk_met (by decide +kernel) (Nat.le_of_ble_eq_true rfl) (fun p e s m below meth c K => ?_)
  have K : Cx p s m _ meth c cX12_quiet 7 (some .int) RX12 D (tysR dA) (wdR ad dA) A := K
  obtain ⟨ih_1, ih_2⟩ := t_X12_quiet l    K (res := res) n (below := below) (e := e)
  refine v_aload_n K dX12_quiet_0 0 rfl ?_
  refine v_iload_n K dX12_quiet_1 1 rfl ?_
  refine x_Vi (As := [.int p1]) (st := []) K uv_X12_isPerson qm_X12_129 dX12_quiet_2 rv_X12 (fun _ h => c_X12_isPerson l  n p1 σ h) rfl ⟨(Nat.le_of_ble_eq_true rfl), (Nat.le_of_ble_eq_true rfl)⟩ (Nat.le_of_ble_eq_true rfl) hM (fun r2 s1 hM => ?_)
  refine v_if_eq K 17 dX12_quiet_5 (by decide) hM (fun hM => ?_) (fun hM => ?_)
  · refine v_iconst (v := (-1 : Int32)) K dX12_quiet_17 (by decide) ?_
    exact v_iret K rfl dX12_quiet_18 hM
  · refine v_iload_n K dX12_quiet_8 2 rfl ?_
    refine v_iconst (v := (0 : Int32)) K dX12_quiet_9 (by decide) ?_
    refine v_iconst (v := (1 : Int32)) K dX12_quiet_10 (by decide) ?_
    refine x_Si (As := [.int p2, .int (0 : Int32), .int (1 : Int32)]) (st := []) K us_X12_in qm_X12_125 dX12_quiet_11 (fun _ h => c_X12_in l  n p2 (0 : Int32) (1 : Int32) s1 h) rfl ⟨(Nat.le_of_ble_eq_true rfl), (Nat.le_of_ble_eq_true rfl)⟩ (Nat.le_of_ble_eq_true rfl) hM (fun r4 s3 hM => ?_)
    refine v_if_ne K 19 dX12_quiet_14 (by decide) hM (fun hM => ?_) (fun hM => ?_)
    · refine v_aload_n K dX12_quiet_19 0 rfl ?_
      refine x_Vv (As := []) (st := []) K uv_X12_beginThought qm_X12_257 dX12_quiet_20 rv_X12 (fun _ h => c_X12_beginThought l  n  s3 h) rfl ⟨(Nat.le_of_ble_eq_true rfl), (Nat.le_of_ble_eq_true rfl)⟩ (Nat.le_of_ble_eq_true rfl) hM (fun s5 hM => ?_)
      refine v_bipush (v := (12 : Int32)) K dX12_quiet_23 (by decide) ?_
      refine v_istore_n K dX12_quiet_25 rfl (by decide) [(3, .int (12 : Int32)), (0, .ref (ad 0)), (1, .int p1), (2, .int p2)] rfl ?_
      refine v_aload_n K dX12_quiet_26 1 rfl ?_
      refine g_X12_1 K qf_X12_122 dX12_quiet_27 ?_
      refine v_iconst (v := (1 : Int32)) K dX12_quiet_30 (by decide) ?_
      refine v_icmp_ne K 39 dX12_quiet_31 (by decide) hM (fun hM => ?_) (fun hM => ?_)
      · refine v_iconst (v := (0 : Int32)) K dX12_quiet_39 (by decide) ?_
        refine v_istore K dX12_quiet_40 (by decide) [(4, .int (0 : Int32)), (3, .int (12 : Int32)), (0, .ref (ad 0)), (1, .int p1), (2, .int p2)] rfl ?_
        refine v_iconst (v := (0 : Int32)) K dX12_quiet_42 (by decide) ?_
        refine v_istore K dX12_quiet_43 (by decide) [(5, .int (0 : Int32)), (4, .int (0 : Int32)), (3, .int (12 : Int32)), (0, .ref (ad 0)), (1, .int p1), (2, .int p2)] rfl ?_
        exact v_sub [3, 4, 5, 2, 1, 0] rfl (ih_1 p1 p2 (12 : Int32) (0 : Int32) (0 : Int32) s5 hM)
      · refine v_bipush (v := (12 : Int32)) K dX12_quiet_34 (by decide) ?_
        refine v_goto (tgt := 40) K dX12_quiet_36 (by decide) ?_
        refine v_istore K dX12_quiet_40 (by decide) [(4, .int (12 : Int32)), (3, .int (12 : Int32)), (0, .ref (ad 0)), (1, .int p1), (2, .int p2)] rfl ?_
        refine v_iconst (v := (0 : Int32)) K dX12_quiet_42 (by decide) ?_
        refine v_istore K dX12_quiet_43 (by decide) [(5, .int (0 : Int32)), (4, .int (12 : Int32)), (3, .int (12 : Int32)), (0, .ref (ad 0)), (1, .int p1), (2, .int p2)] rfl ?_
        exact v_sub [3, 4, 5, 2, 1, 0] rfl (ih_1 p1 p2 (12 : Int32) (12 : Int32) (0 : Int32) s5 hM)
    · refine v_iconst (v := (-1 : Int32)) K dX12_quiet_17 (by decide) ?_
      exact v_iret K rfl dX12_quiet_18 hM
noncomputable def B_X12_unknownMany_1 (J : Nat → Int32 → Int32 → Int32 → St → Option (Int32 × St)) (n : Nat)  (l1 : Int32) (l2 : Int32) (l3 : Int32) (σ : St) : Option (Int32 × St) := if (16 : Int32) ≤ l3 then (some (l2, σ)) else (gd (vp_in l1 6) (if (gI σ 32 (l1).toNatClampNeg) ≤ (((3 : Int32) * l3) + (2 : Int32)) then (some (l2, σ)) else (bd (F_X12_at n l1 (((3 : Int32) * l3) + (2 : Int32)) σ) fun r2 s1 => if r2 = (-1 : Int32) then (bd (F_X12_at n l1 ((3 : Int32) * l3) s1) fun r5 s4 => bd (F_X12_isPerson n r5 s4) fun r7 s6 => if r7 = 0 then (bnd (l3 + (1 : Int32)) fun x8 => J 1 l1 l2 x8 s6) else (bd (F_X12_at n l1 (((3 : Int32) * l3) + (1 : Int32)) s6) fun r10 s9 => bd (F_X12_isPerson n r10 s9) fun r12 s11 => if r12 = 0 then (bnd (l3 + (1 : Int32)) fun x13 => J 1 l1 l2 x13 s11) else (bnd (l2 + (1 : Int32)) fun x14 => bnd (l3 + (1 : Int32)) fun x15 => J 1 l1 x14 x15 s11))) else (bnd (l3 + (1 : Int32)) fun x3 => J 1 l1 l2 x3 s1))))
noncomputable def S_X12_unknownMany  (n : Nat) (J : Nat → Int32 → Int32 → Int32 → St → Option (Int32 × St)) : Nat → Int32 → Int32 → Int32 → St → Option (Int32 × St) := fun lb a0 a1 a2 σ => match lb with
  | 1 => B_X12_unknownMany_1 J n  a0 a1 a2 σ
  | _ => none
noncomputable def L_X12_unknownMany  (n : Nat) : Nat → Int32 → Int32 → Int32 → St → Option (Int32 × St) := Nat.rec (fun _ _ _ _ _ => none) (fun n J => S_X12_unknownMany  n J) n
noncomputable def F_X12_unknownMany (n : Nat) (p1 : Int32) (σ : St) : Option (Int32 × St) := L_X12_unknownMany  n 1 p1 (0 : Int32) (0 : Int32) σ
set_option maxHeartbeats 4000000 in
set_option maxRecDepth 20000 in
theorem t_X12_unknownMany (l : Launch) {p : Program} {e : Env} {s : State} {m : MethodId} {args : Array Value} {below : List Frame} {meth : Method} {c : Code} {D : va_G} {A : Nat → Prop} {ad : Nat → Nat} {dA : Nat → ClassId}   (K : Cx p s m args meth c cX12_unknownMany 4 (some .int) RX12 D (tysR dA) (wdR ad dA) A) {res : Int32 × St} (n : Nat) : (∀ (l1 : Int32) (l2 : Int32) (l3 : Int32) (σ : St), L_X12_unknownMany  n 1 l1 l2 l3 σ = some res → V p l e (rmH 3) s m args below meth c 4 D (wdR ad dA) A (MQ below (QI D (wdR ad dA) A res) args s 0 0 A) 4 [(0, .ref (ad 0)), (1, .int l1), (2, .int l2), (3, .int l3)] [] σ) := by
  induction n with
  | zero => exact (fun _ _ _ _ h => (by cases h))
  | succ n ih =>
    have ih_1 := ih
    · intro l1 l2 l3 σ hM
      have hM : B_X12_unknownMany_1 (L_X12_unknownMany  n) n  l1 l2 l3 σ = some res := hM
      refine v_iload_n K dX12_unknownMany_4 3 rfl ?_
      refine v_bipush (v := (16 : Int32)) K dX12_unknownMany_5 (by decide) ?_
      refine v_icmp_ge K 79 dX12_unknownMany_7 (by decide) hM (fun hM => ?_) (fun hM => ?_)
      · refine v_iload_n K dX12_unknownMany_79 2 rfl ?_
        exact v_iret K rfl dX12_unknownMany_80 hM
      · refine v_iconst (v := (3 : Int32)) K dX12_unknownMany_10 (by decide) ?_
        refine v_iload_n K dX12_unknownMany_11 3 rfl ?_
        refine v_imul K dX12_unknownMany_12 ?_
        refine v_iconst (v := (2 : Int32)) K dX12_unknownMany_13 (by decide) ?_
        refine v_iadd K dX12_unknownMany_14 ?_
        refine v_aload_n K dX12_unknownMany_15 0 rfl ?_
        refine g_X12_55 K qf_X12_108 dX12_unknownMany_16 ?_
        refine v_iload_n K dX12_unknownMany_19 1 rfl ?_
        refine ld_R32 K dX12_unknownMany_20 hM (fun hM => ?_)
        refine v_icmp_ge K 79 dX12_unknownMany_21 (by decide) hM (fun hM => ?_) (fun hM => ?_)
        · refine v_iload_n K dX12_unknownMany_79 2 rfl ?_
          exact v_iret K rfl dX12_unknownMany_80 hM
        · refine v_aload_n K dX12_unknownMany_24 0 rfl ?_
          refine v_iload_n K dX12_unknownMany_25 1 rfl ?_
          refine v_iconst (v := (3 : Int32)) K dX12_unknownMany_26 (by decide) ?_
          refine v_iload_n K dX12_unknownMany_27 3 rfl ?_
          refine v_imul K dX12_unknownMany_28 ?_
          refine v_iconst (v := (2 : Int32)) K dX12_unknownMany_29 (by decide) ?_
          refine v_iadd K dX12_unknownMany_30 ?_
          refine x_Vi (As := [.int l1, .int (((3 : Int32) * l3) + (2 : Int32))]) (st := []) K uv_X12_at qm_X12_267 dX12_unknownMany_31 rv_X12 (fun _ h => c_X12_at l  n l1 (((3 : Int32) * l3) + (2 : Int32)) σ h) rfl ⟨(Nat.le_of_ble_eq_true rfl), (Nat.le_of_ble_eq_true rfl)⟩ (Nat.le_of_ble_eq_true rfl) hM (fun r2 s1 hM => ?_)
          refine v_iconst (v := (-1 : Int32)) K dX12_unknownMany_34 (by decide) ?_
          refine v_icmp_ne K 73 dX12_unknownMany_35 (by decide) hM (fun hM => ?_) (fun hM => ?_)
          · refine v_iinc K dX12_unknownMany_73 3 rfl (v := (l3 + (1 : Int32))) rfl (by decide) hM (fun y => [(3, .int y), (0, .ref (ad 0)), (1, .int l1), (2, .int l2)]) (fun _ => rfl) (fun x3 hM => ?_)
            refine v_goto (tgt := 4) K dX12_unknownMany_76 (by decide) ?_
            exact v_sub [1, 2, 3, 0] rfl (ih_1 l1 l2 x3 s1 hM)
          · refine v_aload_n K dX12_unknownMany_38 0 rfl ?_
            refine v_aload_n K dX12_unknownMany_39 0 rfl ?_
            refine v_iload_n K dX12_unknownMany_40 1 rfl ?_
            refine v_iconst (v := (3 : Int32)) K dX12_unknownMany_41 (by decide) ?_
            refine v_iload_n K dX12_unknownMany_42 3 rfl ?_
            refine v_imul K dX12_unknownMany_43 ?_
            refine x_Vi (As := [.int l1, .int ((3 : Int32) * l3)]) (st := [.ref (ad 0)]) K uv_X12_at qm_X12_267 dX12_unknownMany_44 rv_X12 (fun _ h => c_X12_at l  n l1 ((3 : Int32) * l3) s1 h) rfl ⟨(Nat.le_of_ble_eq_true rfl), (Nat.le_of_ble_eq_true rfl)⟩ (Nat.le_of_ble_eq_true rfl) hM (fun r5 s4 hM => ?_)
            refine x_Vi (As := [.int r5]) (st := []) K uv_X12_isPerson qm_X12_129 dX12_unknownMany_47 rv_X12 (fun _ h => c_X12_isPerson l  n r5 s4 h) rfl ⟨(Nat.le_of_ble_eq_true rfl), (Nat.le_of_ble_eq_true rfl)⟩ (Nat.le_of_ble_eq_true rfl) hM (fun r7 s6 hM => ?_)
            refine v_if_eq K 73 dX12_unknownMany_50 (by decide) hM (fun hM => ?_) (fun hM => ?_)
            · refine v_iinc K dX12_unknownMany_73 3 rfl (v := (l3 + (1 : Int32))) rfl (by decide) hM (fun y => [(3, .int y), (0, .ref (ad 0)), (1, .int l1), (2, .int l2)]) (fun _ => rfl) (fun x8 hM => ?_)
              refine v_goto (tgt := 4) K dX12_unknownMany_76 (by decide) ?_
              exact v_sub [1, 2, 3, 0] rfl (ih_1 l1 l2 x8 s6 hM)
            · refine v_aload_n K dX12_unknownMany_53 0 rfl ?_
              refine v_aload_n K dX12_unknownMany_54 0 rfl ?_
              refine v_iload_n K dX12_unknownMany_55 1 rfl ?_
              refine v_iconst (v := (3 : Int32)) K dX12_unknownMany_56 (by decide) ?_
              refine v_iload_n K dX12_unknownMany_57 3 rfl ?_
              refine v_imul K dX12_unknownMany_58 ?_
              refine v_iconst (v := (1 : Int32)) K dX12_unknownMany_59 (by decide) ?_
              refine v_iadd K dX12_unknownMany_60 ?_
              refine x_Vi (As := [.int l1, .int (((3 : Int32) * l3) + (1 : Int32))]) (st := [.ref (ad 0)]) K uv_X12_at qm_X12_267 dX12_unknownMany_61 rv_X12 (fun _ h => c_X12_at l  n l1 (((3 : Int32) * l3) + (1 : Int32)) s6 h) rfl ⟨(Nat.le_of_ble_eq_true rfl), (Nat.le_of_ble_eq_true rfl)⟩ (Nat.le_of_ble_eq_true rfl) hM (fun r10 s9 hM => ?_)
              refine x_Vi (As := [.int r10]) (st := []) K uv_X12_isPerson qm_X12_129 dX12_unknownMany_64 rv_X12 (fun _ h => c_X12_isPerson l  n r10 s9 h) rfl ⟨(Nat.le_of_ble_eq_true rfl), (Nat.le_of_ble_eq_true rfl)⟩ (Nat.le_of_ble_eq_true rfl) hM (fun r12 s11 hM => ?_)
              refine v_if_eq K 73 dX12_unknownMany_67 (by decide) hM (fun hM => ?_) (fun hM => ?_)
              · refine v_iinc K dX12_unknownMany_73 3 rfl (v := (l3 + (1 : Int32))) rfl (by decide) hM (fun y => [(3, .int y), (0, .ref (ad 0)), (1, .int l1), (2, .int l2)]) (fun _ => rfl) (fun x13 hM => ?_)
                refine v_goto (tgt := 4) K dX12_unknownMany_76 (by decide) ?_
                exact v_sub [1, 2, 3, 0] rfl (ih_1 l1 l2 x13 s11 hM)
              · refine v_iinc K dX12_unknownMany_70 2 rfl (v := (l2 + (1 : Int32))) rfl (by decide) hM (fun y => [(2, .int y), (0, .ref (ad 0)), (1, .int l1), (3, .int l3)]) (fun _ => rfl) (fun x14 hM => ?_)
                refine v_iinc K dX12_unknownMany_73 3 rfl (v := (l3 + (1 : Int32))) rfl (by decide) hM (fun y => [(3, .int y), (2, .int x14), (0, .ref (ad 0)), (1, .int l1)]) (fun _ => rfl) (fun x15 hM => ?_)
                refine v_goto (tgt := 4) K dX12_unknownMany_76 (by decide) ?_
                exact v_sub [2, 3, 1, 0] rfl (ih_1 l1 x14 x15 s11 hM)
set_option maxHeartbeats 4000000 in
set_option maxRecDepth 20000 in
theorem c_X12_unknownMany (l : Launch) {D : va_G} {A : Nat → Prop} {ad : Nat → Nat} {dA : Nat → ClassId}  (n : Nat) (p1 : Int32) (σ : St) {res : Int32 × St} (hM : F_X12_unknownMany n p1 σ = some res) : MI l yX12_unknownMany cX12_unknownMany 4 (some .int) 3 D (tysR dA) (wdR ad dA) A [.ref (ad 0), .int p1] σ (QI D (wdR ad dA) A res) := by
  refine mk_met (by decide +kernel) (Nat.le_of_ble_eq_true rfl) (fun p e s m below meth c K => ?_)
  have K : Cx p s m _ meth c cX12_unknownMany 4 (some .int) RX12 D (tysR dA) (wdR ad dA) A := K
  have ih_1 := t_X12_unknownMany l    K (res := res) n (below := below) (e := e)
  refine v_iconst (v := (0 : Int32)) K dX12_unknownMany_0 (by decide) ?_
  refine v_istore_n K dX12_unknownMany_1 rfl (by decide) [(2, .int (0 : Int32)), (0, .ref (ad 0)), (1, .int p1)] rfl ?_
  refine v_iconst (v := (0 : Int32)) K dX12_unknownMany_2 (by decide) ?_
  refine v_istore_n K dX12_unknownMany_3 rfl (by decide) [(3, .int (0 : Int32)), (2, .int (0 : Int32)), (0, .ref (ad 0)), (1, .int p1)] rfl ?_
  exact v_sub [2, 3, 1, 0] rfl (ih_1 p1 (0 : Int32) (0 : Int32) σ hM)
noncomputable def F_X12_multiply (n : Nat) (p1 : Int32) (σ : St) : Option (Unit × St) := bnd (sL σ 0 41 ((gL σ 0 41) * ((p1).toInt64))) fun s1 => gd (¬ (1000000000 : Int64) = 0) (bnd ((gL s1 0 41) / (1000000000 : Int64)) fun x2 => bnd (sL s1 0 40 (((gL s1 0 40) * ((p1).toInt64)) + x2)) fun s3 => gd (¬ (1000000000 : Int64) = 0) (bnd ((gL s3 0 41) - (gL s3 0 41) / (1000000000 : Int64) * (1000000000 : Int64)) fun x4 => bnd (sL s3 0 41 x4) fun s5 => some ((), s5)))
set_option maxHeartbeats 4000000 in
set_option maxRecDepth 20000 in
theorem c_X12_multiply (l : Launch) {D : va_G} {A : Nat → Prop} {ad : Nat → Nat} {dA : Nat → ClassId}  (n : Nat) (p1 : Int32) (σ : St) {res : Unit × St} (hM : F_X12_multiply n p1 σ = some res) : MI l yX12_multiply cX12_multiply 2 none 1 D (tysR dA) (wdR ad dA) A [.ref (ad 0), .int p1] σ (QV D (wdR ad dA) A res) := by
  refine mk_met (by decide +kernel) (Nat.le_of_ble_eq_true rfl) (fun p e s m below meth c K => ?_)
  have K : Cx p s m _ meth c cX12_multiply 2 none RX12 D (tysR dA) (wdR ad dA) A := K
  refine v_aload_n K dX12_multiply_0 0 rfl ?_
  refine v_dup K dX12_multiply_1 rfl ?_
  refine g_X12_41 K qf_X12_343 dX12_multiply_2 ?_
  refine v_iload_n K dX12_multiply_5 1 rfl ?_
  refine v_i2l K dX12_multiply_6 ?_
  refine v_lmul K dX12_multiply_7 ?_
  refine p_X12_41 K qf_X12_343 dX12_multiply_8 hM (fun s1 hM => ?_)
  refine v_aload_n K dX12_multiply_11 0 rfl ?_
  refine v_aload_n K dX12_multiply_12 0 rfl ?_
  refine g_X12_40 K qf_X12_347 dX12_multiply_13 ?_
  refine v_iload_n K dX12_multiply_16 1 rfl ?_
  refine v_i2l K dX12_multiply_17 ?_
  refine v_lmul K dX12_multiply_18 ?_
  refine v_aload_n K dX12_multiply_19 0 rfl ?_
  refine g_X12_41 K qf_X12_343 dX12_multiply_20 ?_
  refine v_ldc2 (v := (1000000000 : Int64)) K ql_X12_350 dX12_multiply_23 ?_
  refine v_ldiv K dX12_multiply_26 hM (fun hM => ?_)
  refine v_topl hM (fun x2 hM => ?_)
  refine v_ladd K dX12_multiply_27 ?_
  refine p_X12_40 K qf_X12_347 dX12_multiply_28 hM (fun s3 hM => ?_)
  refine v_aload_n K dX12_multiply_31 0 rfl ?_
  refine v_dup K dX12_multiply_32 rfl ?_
  refine g_X12_41 K qf_X12_343 dX12_multiply_33 ?_
  refine v_ldc2 (v := (1000000000 : Int64)) K ql_X12_350 dX12_multiply_36 ?_
  refine v_lrem K dX12_multiply_39 hM (fun hM => ?_)
  refine v_topl hM (fun x4 hM => ?_)
  refine p_X12_41 K qf_X12_343 dX12_multiply_40 hM (fun s5 hM => ?_)
  exact v_vret K rfl dX12_multiply_43 hM
noncomputable def B_X12_wrongRoll_1 (J : Nat → Int32 → Int32 → Int32 → Int32 → Int32 → Int32 → Int32 → Int32 → St → Option (Int32 × St)) (n : Nat)  (l1 : Int32) (l2 : Int32) (l3 : Int32) (l4 : Int32) (σ : St) : Option (Int32 × St) := if (16 : Int32) ≤ l4 then (some ((-2 : Int32), σ)) else (gd (vp_in l1 6) (if (gI σ 32 (l1).toNatClampNeg) ≤ ((3 : Int32) * l4) then (some ((-2 : Int32), σ)) else (gd (vp_in l1 6) (if (((3 : Int32) * l4) + (2 : Int32)) < (gI σ 32 (l1).toNatClampNeg) then (bd (F_X12_at n l1 ((3 : Int32) * l4) σ) fun r6 s5 => bd (F_X12_at n l1 (((3 : Int32) * l4) + (1 : Int32)) s5) fun r8 s7 => bd (F_X12_at n l1 (((3 : Int32) * l4) + (2 : Int32)) s7) fun r10 s9 => bd (F_X12_in n r10 (-1 : Int32) (1 : Int32) s9) fun r12 s11 => if r12 = 0 then (some (l4, s11)) else (bd (F_X12_isLet n r6 r8 s11) fun r14 s13 => if r14 = 0 then (some (l4, s13)) else (bd (F_X12_winsBy n r6 r8 s13) fun r16 s15 => if 0 ≤ r10 then (J 2 l1 l2 l3 l4 r6 r8 r10 r16 s15) else (if 0 ≤ l2 then (bnd ((l2 >>> (l3 &&& 31)) &&& (1 : Int32)) fun x17 => bnd (l3 + (1 : Int32)) fun x18 => J 2 l1 l2 x18 l4 r6 r8 x17 r16 s15) else (if ((2 : Int32) * r16) < (12 : Int32) then (bnd (l3 + (1 : Int32)) fun x19 => J 2 l1 l2 x19 l4 r6 r8 (0 : Int32) r16 s15) else (bnd (l3 + (1 : Int32)) fun x20 => J 2 l1 l2 x20 l4 r6 r8 (1 : Int32) r16 s15)))))) else (some (l4, σ))))))
noncomputable def B_X12_wrongRoll_2 (J : Nat → Int32 → Int32 → Int32 → Int32 → Int32 → Int32 → Int32 → Int32 → St → Option (Int32 × St)) (n : Nat)  (l1 : Int32) (l2 : Int32) (l3 : Int32) (l4 : Int32) (l5 : Int32) (l6 : Int32) (l7 : Int32) (l8 : Int32) (σ : St) : Option (Int32 × St) := bd (F_X12_twelfths n l8 l7 σ) fun r22 s21 => if r22 = 0 then (some (l4, s21)) else (if 0 ≤ (gI s21 0 42) then (J 3 l1 l2 l3 l4 l5 l6 l7 r22 s21) else (if (12 : Int32) ≤ ((2 : Int32) * r22) then (J 3 l1 l2 l3 l4 l5 l6 l7 r22 s21) else (bnd (sI s21 0 42 l4) fun s23 => J 3 l1 l2 l3 l4 l5 l6 l7 r22 s23)))
noncomputable def B_X12_wrongRoll_3 (J : Nat → Int32 → Int32 → Int32 → Int32 → Int32 → Int32 → Int32 → Int32 → St → Option (Int32 × St)) (n : Nat)  (l1 : Int32) (l2 : Int32) (l3 : Int32) (l4 : Int32) (l5 : Int32) (l6 : Int32) (l7 : Int32) (l9 : Int32) (σ : St) : Option (Int32 × St) := bd (F_X12_multiply n l9 σ) fun _ s24 => bd (F_X12_goCase n l5 l6 l7 s24) fun _ s25 => bnd (l4 + (1 : Int32)) fun x26 => J 1 l1 l2 l3 x26 0 0 0 0 s25
noncomputable def S_X12_wrongRoll  (n : Nat) (J : Nat → Int32 → Int32 → Int32 → Int32 → Int32 → Int32 → Int32 → Int32 → St → Option (Int32 × St)) : Nat → Int32 → Int32 → Int32 → Int32 → Int32 → Int32 → Int32 → Int32 → St → Option (Int32 × St) := fun lb a0 a1 a2 a3 a4 a5 a6 a7 σ => match lb with
  | 1 => B_X12_wrongRoll_1 J n  a0 a1 a2 a3 σ
  | 2 => B_X12_wrongRoll_2 J n  a0 a1 a2 a3 a4 a5 a6 a7 σ
  | 3 => B_X12_wrongRoll_3 J n  a0 a1 a2 a3 a4 a5 a6 a7 σ
  | _ => none
noncomputable def L_X12_wrongRoll  (n : Nat) : Nat → Int32 → Int32 → Int32 → Int32 → Int32 → Int32 → Int32 → Int32 → St → Option (Int32 × St) := Nat.rec (fun _ _ _ _ _ _ _ _ _ _ => none) (fun n J => S_X12_wrongRoll  n J) n
noncomputable def F_X12_wrongRoll (n : Nat) (p1 : Int32) (p2 : Int32) (σ : St) : Option (Int32 × St) := bd (F_X12_beginThought n  σ) fun _ s1 => bnd (sL s1 0 40 (0 : Int64)) fun s2 => bnd (sL s2 0 41 (1 : Int64)) fun s3 => bnd (sI s3 0 42 (-2 : Int32)) fun s4 => L_X12_wrongRoll  n 1 p1 p2 (0 : Int32) (0 : Int32) 0 0 0 0 s4
set_option maxHeartbeats 4000000 in
set_option maxRecDepth 20000 in
theorem t_X12_wrongRoll (l : Launch) {p : Program} {e : Env} {s : State} {m : MethodId} {args : Array Value} {below : List Frame} {meth : Method} {c : Code} {D : va_G} {A : Nat → Prop} {ad : Nat → Nat} {dA : Nat → ClassId}   (K : Cx p s m args meth c cX12_wrongRoll 10 (some .int) RX12 D (tysR dA) (wdR ad dA) A) {res : Int32 × St} (n : Nat) : (∀ (l1 : Int32) (l2 : Int32) (l3 : Int32) (l4 : Int32) (σ : St), L_X12_wrongRoll  n 1 l1 l2 l3 l4 0 0 0 0 σ = some res → V p l e (rmH 6) s m args below meth c 10 D (wdR ad dA) A (MQ below (QI D (wdR ad dA) A res) args s 0 0 A) 25 [(0, .ref (ad 0)), (1, .int l1), (2, .int l2), (3, .int l3), (4, .int l4)] [] σ) ∧ (∀ (l1 : Int32) (l2 : Int32) (l3 : Int32) (l4 : Int32) (l5 : Int32) (l6 : Int32) (l7 : Int32) (l8 : Int32) (σ : St), L_X12_wrongRoll  n 2 l1 l2 l3 l4 l5 l6 l7 l8 σ = some res → V p l e (rmH 6) s m args below meth c 10 D (wdR ad dA) A (MQ below (QI D (wdR ad dA) A res) args s 0 0 A) 170 [(0, .ref (ad 0)), (1, .int l1), (2, .int l2), (3, .int l3), (4, .int l4), (5, .int l5), (6, .int l6), (7, .int l7), (8, .int l8)] [] σ) ∧ (∀ (l1 : Int32) (l2 : Int32) (l3 : Int32) (l4 : Int32) (l5 : Int32) (l6 : Int32) (l7 : Int32) (l9 : Int32) (σ : St), L_X12_wrongRoll  n 3 l1 l2 l3 l4 l5 l6 l7 l9 σ = some res → V p l e (rmH 6) s m args below meth c 10 D (wdR ad dA) A (MQ below (QI D (wdR ad dA) A res) args s 0 0 A) 209 [(0, .ref (ad 0)), (1, .int l1), (2, .int l2), (3, .int l3), (4, .int l4), (5, .int l5), (6, .int l6), (7, .int l7), (9, .int l9)] [] σ) := by
  induction n with
  | zero => exact ⟨fun _ _ _ _ _ h => (by cases h), fun _ _ _ _ _ _ _ _ _ h => (by cases h), fun _ _ _ _ _ _ _ _ _ h => (by cases h)⟩
  | succ n ih =>
    obtain ⟨ih_1, ih_2, ih_3⟩ := ih
    refine ⟨?_, ?_, ?_⟩
    · intro l1 l2 l3 l4 σ hM
      have hM : B_X12_wrongRoll_1 (L_X12_wrongRoll  n) n  l1 l2 l3 l4 σ = some res := hM
      refine v_iload K dX12_wrongRoll_25 4 rfl ?_
      refine v_bipush (v := (16 : Int32)) K dX12_wrongRoll_27 (by decide) ?_
      refine v_icmp_ge K 231 dX12_wrongRoll_29 (by decide) hM (fun hM => ?_) (fun hM => ?_)
      · refine v_bipush (v := (-2 : Int32)) K dX12_wrongRoll_231 (by decide) ?_
        exact v_iret K rfl dX12_wrongRoll_233 hM
      · refine v_iconst (v := (3 : Int32)) K dX12_wrongRoll_32 (by decide) ?_
        refine v_iload K dX12_wrongRoll_33 4 rfl ?_
        refine v_imul K dX12_wrongRoll_35 ?_
        refine v_aload_n K dX12_wrongRoll_36 0 rfl ?_
        refine g_X12_55 K qf_X12_108 dX12_wrongRoll_37 ?_
        refine v_iload_n K dX12_wrongRoll_40 1 rfl ?_
        refine ld_R32 K dX12_wrongRoll_41 hM (fun hM => ?_)
        refine v_icmp_ge K 231 dX12_wrongRoll_42 (by decide) hM (fun hM => ?_) (fun hM => ?_)
        · refine v_bipush (v := (-2 : Int32)) K dX12_wrongRoll_231 (by decide) ?_
          exact v_iret K rfl dX12_wrongRoll_233 hM
        · refine v_iconst (v := (3 : Int32)) K dX12_wrongRoll_45 (by decide) ?_
          refine v_iload K dX12_wrongRoll_46 4 rfl ?_
          refine v_imul K dX12_wrongRoll_48 ?_
          refine v_iconst (v := (2 : Int32)) K dX12_wrongRoll_49 (by decide) ?_
          refine v_iadd K dX12_wrongRoll_50 ?_
          refine v_aload_n K dX12_wrongRoll_51 0 rfl ?_
          refine g_X12_55 K qf_X12_108 dX12_wrongRoll_52 ?_
          refine v_iload_n K dX12_wrongRoll_55 1 rfl ?_
          refine ld_R32 K dX12_wrongRoll_56 hM (fun hM => ?_)
          refine v_icmp_lt K 63 dX12_wrongRoll_57 (by decide) hM (fun hM => ?_) (fun hM => ?_)
          · refine v_aload_n K dX12_wrongRoll_63 0 rfl ?_
            refine v_iload_n K dX12_wrongRoll_64 1 rfl ?_
            refine v_iconst (v := (3 : Int32)) K dX12_wrongRoll_65 (by decide) ?_
            refine v_iload K dX12_wrongRoll_66 4 rfl ?_
            refine v_imul K dX12_wrongRoll_68 ?_
            refine x_Vi (As := [.int l1, .int ((3 : Int32) * l4)]) (st := []) K uv_X12_at qm_X12_267 dX12_wrongRoll_69 rv_X12 (fun _ h => c_X12_at l  n l1 ((3 : Int32) * l4) σ h) rfl ⟨(Nat.le_of_ble_eq_true rfl), (Nat.le_of_ble_eq_true rfl)⟩ (Nat.le_of_ble_eq_true rfl) hM (fun r6 s5 hM => ?_)
            refine v_istore K dX12_wrongRoll_72 (by decide) [(5, .int r6), (0, .ref (ad 0)), (1, .int l1), (2, .int l2), (3, .int l3), (4, .int l4)] rfl ?_
            refine v_aload_n K dX12_wrongRoll_74 1 rfl ?_
            refine v_iload_n K dX12_wrongRoll_75 2 rfl ?_
            refine v_iconst (v := (3 : Int32)) K dX12_wrongRoll_76 (by decide) ?_
            refine v_iload K dX12_wrongRoll_77 5 rfl ?_
            refine v_imul K dX12_wrongRoll_79 ?_
            refine v_iconst (v := (1 : Int32)) K dX12_wrongRoll_80 (by decide) ?_
            refine v_iadd K dX12_wrongRoll_81 ?_
            refine x_Vi (As := [.int l1, .int (((3 : Int32) * l4) + (1 : Int32))]) (st := []) K uv_X12_at qm_X12_267 dX12_wrongRoll_82 rv_X12 (fun _ h => c_X12_at l  n l1 (((3 : Int32) * l4) + (1 : Int32)) s5 h) rfl ⟨(Nat.le_of_ble_eq_true rfl), (Nat.le_of_ble_eq_true rfl)⟩ (Nat.le_of_ble_eq_true rfl) hM (fun r8 s7 hM => ?_)
            refine v_istore K dX12_wrongRoll_85 (by decide) [(6, .int r8), (5, .int r6), (0, .ref (ad 0)), (1, .int l1), (2, .int l2), (3, .int l3), (4, .int l4)] rfl ?_
            refine v_aload_n K dX12_wrongRoll_87 2 rfl ?_
            refine v_iload_n K dX12_wrongRoll_88 3 rfl ?_
            refine v_iconst (v := (3 : Int32)) K dX12_wrongRoll_89 (by decide) ?_
            refine v_iload K dX12_wrongRoll_90 6 rfl ?_
            refine v_imul K dX12_wrongRoll_92 ?_
            refine v_iconst (v := (2 : Int32)) K dX12_wrongRoll_93 (by decide) ?_
            refine v_iadd K dX12_wrongRoll_94 ?_
            refine x_Vi (As := [.int l1, .int (((3 : Int32) * l4) + (2 : Int32))]) (st := []) K uv_X12_at qm_X12_267 dX12_wrongRoll_95 rv_X12 (fun _ h => c_X12_at l  n l1 (((3 : Int32) * l4) + (2 : Int32)) s7 h) rfl ⟨(Nat.le_of_ble_eq_true rfl), (Nat.le_of_ble_eq_true rfl)⟩ (Nat.le_of_ble_eq_true rfl) hM (fun r10 s9 hM => ?_)
            refine v_istore K dX12_wrongRoll_98 (by decide) [(7, .int r10), (6, .int r8), (5, .int r6), (0, .ref (ad 0)), (1, .int l1), (2, .int l2), (3, .int l3), (4, .int l4)] rfl ?_
            refine v_iload K dX12_wrongRoll_100 0 rfl ?_
            refine v_iconst (v := (-1 : Int32)) K dX12_wrongRoll_102 (by decide) ?_
            refine v_iconst (v := (1 : Int32)) K dX12_wrongRoll_103 (by decide) ?_
            refine x_Si (As := [.int r10, .int (-1 : Int32), .int (1 : Int32)]) (st := []) K us_X12_in qm_X12_125 dX12_wrongRoll_104 (fun _ h => c_X12_in l  n r10 (-1 : Int32) (1 : Int32) s9 h) rfl ⟨(Nat.le_of_ble_eq_true rfl), (Nat.le_of_ble_eq_true rfl)⟩ (Nat.le_of_ble_eq_true rfl) hM (fun r12 s11 hM => ?_)
            refine v_if_eq K 121 dX12_wrongRoll_107 (by decide) hM (fun hM => ?_) (fun hM => ?_)
            · refine v_iload K dX12_wrongRoll_121 7 rfl ?_
              exact v_iret K rfl dX12_wrongRoll_123 hM
            · refine v_aload_n K dX12_wrongRoll_110 3 rfl ?_
              refine v_iload K dX12_wrongRoll_111 2 rfl ?_
              refine v_iload K dX12_wrongRoll_113 1 rfl ?_
              refine x_Vi (As := [.int r6, .int r8]) (st := []) K uv_X12_isLet qm_X12_270 dX12_wrongRoll_115 rv_X12 (fun _ h => c_X12_isLet l  n r6 r8 s11 h) rfl ⟨(Nat.le_of_ble_eq_true rfl), (Nat.le_of_ble_eq_true rfl)⟩ (Nat.le_of_ble_eq_true rfl) hM (fun r14 s13 hM => ?_)
              refine v_if_ne K 124 dX12_wrongRoll_118 (by decide) hM (fun hM => ?_) (fun hM => ?_)
              · refine v_aload_n K dX12_wrongRoll_124 3 rfl ?_
                refine v_iload K dX12_wrongRoll_125 2 rfl ?_
                refine v_iload K dX12_wrongRoll_127 1 rfl ?_
                refine x_Vi (As := [.int r6, .int r8]) (st := []) K uv_X12_winsBy qm_X12_260 dX12_wrongRoll_129 rv_X12 (fun _ h => c_X12_winsBy l  n r6 r8 s13 h) rfl ⟨(Nat.le_of_ble_eq_true rfl), (Nat.le_of_ble_eq_true rfl)⟩ (Nat.le_of_ble_eq_true rfl) hM (fun r16 s15 hM => ?_)
                refine v_istore K dX12_wrongRoll_132 (by decide) [(8, .int r16), (7, .int r10), (6, .int r8), (5, .int r6), (0, .ref (ad 0)), (1, .int l1), (2, .int l2), (3, .int l3), (4, .int l4)] rfl ?_
                refine v_iload K dX12_wrongRoll_134 1 rfl ?_
                refine v_if_ge K 170 dX12_wrongRoll_136 (by decide) hM (fun hM => ?_) (fun hM => ?_)
                · exact v_sub [4, 5, 6, 7, 8, 3, 2, 1, 0] rfl (ih_2 l1 l2 l3 l4 r6 r8 r10 r16 s15 hM)
                · refine v_iload_n K dX12_wrongRoll_139 6 rfl ?_
                  refine v_if_ge K 160 dX12_wrongRoll_140 (by decide) hM (fun hM => ?_) (fun hM => ?_)
                  · refine v_iload_n K dX12_wrongRoll_160 6 rfl ?_
                    refine v_iload_n K dX12_wrongRoll_161 7 rfl ?_
                    refine v_ishr K dX12_wrongRoll_162 ?_
                    refine v_iconst (v := (1 : Int32)) K dX12_wrongRoll_163 (by decide) ?_
                    refine v_iand K dX12_wrongRoll_164 ?_
                    refine v_topi hM (fun x17 hM => ?_)
                    refine v_istore K dX12_wrongRoll_165 (by decide) [(7, .int x17), (8, .int r16), (6, .int r8), (5, .int r6), (0, .ref (ad 0)), (1, .int l1), (2, .int l2), (3, .int l3), (4, .int l4)] rfl ?_
                    refine v_iinc K dX12_wrongRoll_167 7 rfl (v := (l3 + (1 : Int32))) rfl (by decide) hM (fun y => [(3, .int y), (7, .int x17), (8, .int r16), (6, .int r8), (5, .int r6), (0, .ref (ad 0)), (1, .int l1), (2, .int l2), (4, .int l4)]) (fun _ => rfl) (fun x18 hM => ?_)
                    exact v_sub [5, 6, 7, 0, 8, 4, 3, 1, 2] rfl (ih_2 l1 l2 x18 l4 r6 r8 x17 r16 s15 hM)
                  · refine v_iconst (v := (2 : Int32)) K dX12_wrongRoll_143 (by decide) ?_
                    refine v_iload K dX12_wrongRoll_144 0 rfl ?_
                    refine v_imul K dX12_wrongRoll_146 ?_
                    refine v_bipush (v := (12 : Int32)) K dX12_wrongRoll_147 (by decide) ?_
                    refine v_icmp_lt K 156 dX12_wrongRoll_149 (by decide) hM (fun hM => ?_) (fun hM => ?_)
                    · refine v_iconst (v := (0 : Int32)) K dX12_wrongRoll_156 (by decide) ?_
                      refine v_goto (tgt := 165) K dX12_wrongRoll_157 (by decide) ?_
                      refine v_istore K dX12_wrongRoll_165 (by decide) [(7, .int (0 : Int32)), (8, .int r16), (6, .int r8), (5, .int r6), (0, .ref (ad 0)), (1, .int l1), (2, .int l2), (3, .int l3), (4, .int l4)] rfl ?_
                      refine v_iinc K dX12_wrongRoll_167 7 rfl (v := (l3 + (1 : Int32))) rfl (by decide) hM (fun y => [(3, .int y), (7, .int (0 : Int32)), (8, .int r16), (6, .int r8), (5, .int r6), (0, .ref (ad 0)), (1, .int l1), (2, .int l2), (4, .int l4)]) (fun _ => rfl) (fun x19 hM => ?_)
                      exact v_sub [5, 6, 7, 0, 8, 4, 3, 1, 2] rfl (ih_2 l1 l2 x19 l4 r6 r8 (0 : Int32) r16 s15 hM)
                    · refine v_iconst (v := (1 : Int32)) K dX12_wrongRoll_152 (by decide) ?_
                      refine v_goto (tgt := 165) K dX12_wrongRoll_153 (by decide) ?_
                      refine v_istore K dX12_wrongRoll_165 (by decide) [(7, .int (1 : Int32)), (8, .int r16), (6, .int r8), (5, .int r6), (0, .ref (ad 0)), (1, .int l1), (2, .int l2), (3, .int l3), (4, .int l4)] rfl ?_
                      refine v_iinc K dX12_wrongRoll_167 7 rfl (v := (l3 + (1 : Int32))) rfl (by decide) hM (fun y => [(3, .int y), (7, .int (1 : Int32)), (8, .int r16), (6, .int r8), (5, .int r6), (0, .ref (ad 0)), (1, .int l1), (2, .int l2), (4, .int l4)]) (fun _ => rfl) (fun x20 hM => ?_)
                      exact v_sub [5, 6, 7, 0, 8, 4, 3, 1, 2] rfl (ih_2 l1 l2 x20 l4 r6 r8 (1 : Int32) r16 s15 hM)
              · refine v_iload K dX12_wrongRoll_121 7 rfl ?_
                exact v_iret K rfl dX12_wrongRoll_123 hM
          · refine v_iload K dX12_wrongRoll_60 4 rfl ?_
            exact v_iret K rfl dX12_wrongRoll_62 hM
    · intro l1 l2 l3 l4 l5 l6 l7 l8 σ hM
      have hM : B_X12_wrongRoll_2 (L_X12_wrongRoll  n) n  l1 l2 l3 l4 l5 l6 l7 l8 σ = some res := hM
      refine v_iload K dX12_wrongRoll_170 8 rfl ?_
      refine v_iload K dX12_wrongRoll_172 7 rfl ?_
      refine x_Si (As := [.int l8, .int l7]) (st := []) K us_X12_twelfths qm_X12_273 dX12_wrongRoll_174 (fun _ h => c_X12_twelfths l  n l8 l7 σ h) rfl ⟨(Nat.le_of_ble_eq_true rfl), (Nat.le_of_ble_eq_true rfl)⟩ (Nat.le_of_ble_eq_true rfl) hM (fun r22 s21 hM => ?_)
      refine v_istore K dX12_wrongRoll_177 (by decide) [(9, .int r22), (0, .ref (ad 0)), (1, .int l1), (2, .int l2), (3, .int l3), (4, .int l4), (5, .int l5), (6, .int l6), (7, .int l7), (8, .int l8)] rfl ?_
      refine v_iload K dX12_wrongRoll_179 0 rfl ?_
      refine v_if_ne K 187 dX12_wrongRoll_181 (by decide) hM (fun hM => ?_) (fun hM => ?_)
      · refine v_aload_n K dX12_wrongRoll_187 1 rfl ?_
        refine g_X12_42 K qf_X12_352 dX12_wrongRoll_188 ?_
        refine v_if_ge K 209 dX12_wrongRoll_191 (by decide) hM (fun hM => ?_) (fun hM => ?_)
        · exact v_sub [1, 2, 3, 4, 5, 6, 7, 8, 0] rfl (ih_3 l1 l2 l3 l4 l5 l6 l7 r22 s21 hM)
        · refine v_iconst (v := (2 : Int32)) K dX12_wrongRoll_194 (by decide) ?_
          refine v_iload K dX12_wrongRoll_195 0 rfl ?_
          refine v_imul K dX12_wrongRoll_197 ?_
          refine v_bipush (v := (12 : Int32)) K dX12_wrongRoll_198 (by decide) ?_
          refine v_icmp_ge K 209 dX12_wrongRoll_200 (by decide) hM (fun hM => ?_) (fun hM => ?_)
          · exact v_sub [1, 2, 3, 4, 5, 6, 7, 8, 0] rfl (ih_3 l1 l2 l3 l4 l5 l6 l7 r22 s21 hM)
          · refine v_aload_n K dX12_wrongRoll_203 1 rfl ?_
            refine v_iload K dX12_wrongRoll_204 5 rfl ?_
            refine p_X12_42 K qf_X12_352 dX12_wrongRoll_206 hM (fun s23 hM => ?_)
            exact v_sub [1, 2, 3, 4, 5, 6, 7, 8, 0] rfl (ih_3 l1 l2 l3 l4 l5 l6 l7 r22 s23 hM)
      · refine v_iload K dX12_wrongRoll_184 5 rfl ?_
        exact v_iret K rfl dX12_wrongRoll_186 hM
    · intro l1 l2 l3 l4 l5 l6 l7 l9 σ hM
      have hM : B_X12_wrongRoll_3 (L_X12_wrongRoll  n) n  l1 l2 l3 l4 l5 l6 l7 l9 σ = some res := hM
      refine v_aload_n K dX12_wrongRoll_209 0 rfl ?_
      refine v_iload K dX12_wrongRoll_210 8 rfl ?_
      refine x_Vv (As := [.int l9]) (st := []) K uv_X12_multiply qm_X12_355 dX12_wrongRoll_212 rv_X12 (fun _ h => c_X12_multiply l  n l9 σ h) rfl ⟨(Nat.le_of_ble_eq_true rfl), (Nat.le_of_ble_eq_true rfl)⟩ (Nat.le_of_ble_eq_true rfl) hM (fun s24 hM => ?_)
      refine v_aload_n K dX12_wrongRoll_215 0 rfl ?_
      refine v_iload K dX12_wrongRoll_216 5 rfl ?_
      refine v_iload K dX12_wrongRoll_218 6 rfl ?_
      refine v_iload K dX12_wrongRoll_220 7 rfl ?_
      refine x_Vv (As := [.int l5, .int l6, .int l7]) (st := []) K uv_X12_goCase qm_X12_278 dX12_wrongRoll_222 rv_X12 (fun _ h => c_X12_goCase l  n l5 l6 l7 s24 h) rfl ⟨(Nat.le_of_ble_eq_true rfl), (Nat.le_of_ble_eq_true rfl)⟩ (Nat.le_of_ble_eq_true rfl) hM (fun s25 hM => ?_)
      refine v_iinc K dX12_wrongRoll_225 4 rfl (v := (l4 + (1 : Int32))) rfl (by decide) hM (fun y => [(4, .int y), (0, .ref (ad 0)), (1, .int l1), (2, .int l2), (3, .int l3), (5, .int l5), (6, .int l6), (7, .int l7), (9, .int l9)]) (fun _ => rfl) (fun x26 hM => ?_)
      refine v_goto (tgt := 25) K dX12_wrongRoll_228 (by decide) ?_
      exact v_sub [1, 2, 3, 4, 0] rfl (ih_1 l1 l2 l3 x26 s25 hM)
set_option maxHeartbeats 4000000 in
set_option maxRecDepth 20000 in
theorem c_X12_wrongRoll (l : Launch) {D : va_G} {A : Nat → Prop} {ad : Nat → Nat} {dA : Nat → ClassId}  (n : Nat) (p1 : Int32) (p2 : Int32) (σ : St) {res : Int32 × St} (hM : F_X12_wrongRoll n p1 p2 σ = some res) : MI l yX12_wrongRoll cX12_wrongRoll 10 (some .int) 6 D (tysR dA) (wdR ad dA) A [.ref (ad 0), .int p1, .int p2] σ (QI D (wdR ad dA) A res) := by
  refine mk_met (by decide +kernel) (Nat.le_of_ble_eq_true rfl) (fun p e s m below meth c K => ?_)
  have K : Cx p s m _ meth c cX12_wrongRoll 10 (some .int) RX12 D (tysR dA) (wdR ad dA) A := K
  obtain ⟨ih_1, ih_2, ih_3⟩ := t_X12_wrongRoll l    K (res := res) n (below := below) (e := e)
  refine v_aload_n K dX12_wrongRoll_0 0 rfl ?_
  refine x_Vv (As := []) (st := []) K uv_X12_beginThought qm_X12_257 dX12_wrongRoll_1 rv_X12 (fun _ h => c_X12_beginThought l  n  σ h) rfl ⟨(Nat.le_of_ble_eq_true rfl), (Nat.le_of_ble_eq_true rfl)⟩ (Nat.le_of_ble_eq_true rfl) hM (fun s1 hM => ?_)
  refine v_aload_n K dX12_wrongRoll_4 0 rfl ?_
  refine v_lconst (v := (0 : Int64)) K dX12_wrongRoll_5 (by decide) ?_
  refine p_X12_40 K qf_X12_347 dX12_wrongRoll_6 hM (fun s2 hM => ?_)
  refine v_aload_n K dX12_wrongRoll_9 0 rfl ?_
  refine v_lconst (v := (1 : Int64)) K dX12_wrongRoll_10 (by decide) ?_
  refine p_X12_41 K qf_X12_343 dX12_wrongRoll_11 hM (fun s3 hM => ?_)
  refine v_aload_n K dX12_wrongRoll_14 0 rfl ?_
  refine v_bipush (v := (-2 : Int32)) K dX12_wrongRoll_15 (by decide) ?_
  refine p_X12_42 K qf_X12_352 dX12_wrongRoll_17 hM (fun s4 hM => ?_)
  refine v_iconst (v := (0 : Int32)) K dX12_wrongRoll_20 (by decide) ?_
  refine v_istore_n K dX12_wrongRoll_21 rfl (by decide) [(3, .int (0 : Int32)), (0, .ref (ad 0)), (1, .int p1), (2, .int p2)] rfl ?_
  refine v_iconst (v := (0 : Int32)) K dX12_wrongRoll_22 (by decide) ?_
  refine v_istore K dX12_wrongRoll_23 (by decide) [(4, .int (0 : Int32)), (3, .int (0 : Int32)), (0, .ref (ad 0)), (1, .int p1), (2, .int p2)] rfl ?_
  exact v_sub [2, 3, 4, 1, 0] rfl (ih_1 p1 p2 (0 : Int32) (0 : Int32) s4 hM)
noncomputable def F_X12_judge (n : Nat) (p1 : Int32) (σ : St) : Option (Int32 × St) := bd (F_X12_isShelf n p1 σ) fun r2 s1 => if r2 = 0 then (some ((-1 : Int32), s1)) else (bd (F_X12_rowFault n p1 s1) fun r4 s3 => if 0 ≤ r4 then (bd (F_X12_wrongRoll n p1 (-1 : Int32) s3) fun r6 s5 => some (r6, s5)) else (bd (F_X12_rowFault n p1 s3) fun r8 s7 => some (r8, s7)))
set_option maxHeartbeats 4000000 in
set_option maxRecDepth 20000 in
theorem c_X12_judge (l : Launch) {D : va_G} {A : Nat → Prop} {ad : Nat → Nat} {dA : Nat → ClassId}  (n : Nat) (p1 : Int32) (σ : St) {res : Int32 × St} (hM : F_X12_judge n p1 σ = some res) : MI l yX12_judge cX12_judge 2 (some .int) 7 D (tysR dA) (wdR ad dA) A [.ref (ad 0), .int p1] σ (QI D (wdR ad dA) A res) := by
  refine mk_met (by decide +kernel) (Nat.le_of_ble_eq_true rfl) (fun p e s m below meth c K => ?_)
  have K : Cx p s m _ meth c cX12_judge 2 (some .int) RX12 D (tysR dA) (wdR ad dA) A := K
  refine v_iload_n K dX12_judge_0 1 rfl ?_
  refine x_Si (As := [.int p1]) (st := []) K us_X12_isShelf qm_X12_137 dX12_judge_1 (fun _ h => c_X12_isShelf l  n p1 σ h) rfl ⟨(Nat.le_of_ble_eq_true rfl), (Nat.le_of_ble_eq_true rfl)⟩ (Nat.le_of_ble_eq_true rfl) hM (fun r2 s1 hM => ?_)
  refine v_if_ne K 9 dX12_judge_4 (by decide) hM (fun hM => ?_) (fun hM => ?_)
  · refine v_aload_n K dX12_judge_9 0 rfl ?_
    refine v_iload_n K dX12_judge_10 1 rfl ?_
    refine x_Vi (As := [.int p1]) (st := []) K uv_X12_rowFault qm_X12_281 dX12_judge_11 rv_X12 (fun _ h => c_X12_rowFault l  n p1 s1 h) rfl ⟨(Nat.le_of_ble_eq_true rfl), (Nat.le_of_ble_eq_true rfl)⟩ (Nat.le_of_ble_eq_true rfl) hM (fun r4 s3 hM => ?_)
    refine v_if_ge K 25 dX12_judge_14 (by decide) hM (fun hM => ?_) (fun hM => ?_)
    · refine v_aload_n K dX12_judge_25 0 rfl ?_
      refine v_iload_n K dX12_judge_26 1 rfl ?_
      refine v_iconst (v := (-1 : Int32)) K dX12_judge_27 (by decide) ?_
      refine x_Vi (As := [.int p1, .int (-1 : Int32)]) (st := []) K uv_X12_wrongRoll qm_X12_358 dX12_judge_28 rv_X12 (fun _ h => c_X12_wrongRoll l  n p1 (-1 : Int32) s3 h) rfl ⟨(Nat.le_of_ble_eq_true rfl), (Nat.le_of_ble_eq_true rfl)⟩ (Nat.le_of_ble_eq_true rfl) hM (fun r6 s5 hM => ?_)
      exact v_iret K rfl dX12_judge_31 hM
    · refine v_aload_n K dX12_judge_17 0 rfl ?_
      refine v_iload_n K dX12_judge_18 1 rfl ?_
      refine x_Vi (As := [.int p1]) (st := []) K uv_X12_rowFault qm_X12_281 dX12_judge_19 rv_X12 (fun _ h => c_X12_rowFault l  n p1 s3 h) rfl ⟨(Nat.le_of_ble_eq_true rfl), (Nat.le_of_ble_eq_true rfl)⟩ (Nat.le_of_ble_eq_true rfl) hM (fun r8 s7 hM => ?_)
      refine v_goto (tgt := 31) K dX12_judge_22 (by decide) ?_
      exact v_iret K rfl dX12_judge_31 hM
  · refine v_iconst (v := (-1 : Int32)) K dX12_judge_7 (by decide) ?_
    exact v_iret K rfl dX12_judge_8 hM
noncomputable def B_X12_findWays_1 (J : Nat → Int32 → Int32 → Int64 → Int64 → St → Option (Unit × St)) (n : Nat)  (l1 : Int32) (l6 : Int32) (l2 : Int64) (l4 : Int64) (σ : St) : Option (Unit × St) := bd (F_X12_unknownMany n l1 σ) fun r4 s3 => if ((1 : Int32) <<< (r4 &&& 31)) ≤ l6 then (some ((), s3)) else (bd (F_X12_wrongRoll n l1 l6 s3) fun r6 s5 => if r6 < 0 then (bnd (sI s5 0 43 ((gI s5 0 43) + (1 : Int32))) fun s7 => if (lg_cmp (gL s7 0 40) l2) < 0 then (bnd (l6 + (1 : Int32)) fun x8 => J 1 l1 x8 l2 l4 s7) else (if (lg_cmp (gL s7 0 40) l2) = 0 then (if 0 < (lg_cmp (gL s7 0 41) l4) then (J 2 l1 l6 0 0 s7) else (bnd (l6 + (1 : Int32)) fun x9 => J 1 l1 x9 l2 l4 s7)) else (J 2 l1 l6 0 0 s7))) else (bnd (l6 + (1 : Int32)) fun x10 => J 1 l1 x10 l2 l4 s5))
noncomputable def B_X12_findWays_2 (J : Nat → Int32 → Int32 → Int64 → Int64 → St → Option (Unit × St)) (n : Nat)  (l1 : Int32) (l6 : Int32) (σ : St) : Option (Unit × St) := bnd (sI σ 0 44 l6) fun s11 => bnd (gL s11 0 40) fun x12 => bnd (gL s11 0 41) fun x13 => bnd (l6 + (1 : Int32)) fun x14 => J 1 l1 x14 x12 x13 s11
noncomputable def S_X12_findWays  (n : Nat) (J : Nat → Int32 → Int32 → Int64 → Int64 → St → Option (Unit × St)) : Nat → Int32 → Int32 → Int64 → Int64 → St → Option (Unit × St) := fun lb a0 a1 a2 a3 σ => match lb with
  | 1 => B_X12_findWays_1 J n  a0 a1 a2 a3 σ
  | 2 => B_X12_findWays_2 J n  a0 a1 σ
  | _ => none
noncomputable def L_X12_findWays  (n : Nat) : Nat → Int32 → Int32 → Int64 → Int64 → St → Option (Unit × St) := Nat.rec (fun _ _ _ _ _ _ => none) (fun n J => S_X12_findWays  n J) n
noncomputable def F_X12_findWays (n : Nat) (p1 : Int32) (σ : St) : Option (Unit × St) := bnd (sI σ 0 43 (0 : Int32)) fun s1 => bnd (sI s1 0 44 (-2 : Int32)) fun s2 => L_X12_findWays  n 1 p1 (0 : Int32) (0 : Int64) (0 : Int64) s2
set_option maxHeartbeats 4000000 in
set_option maxRecDepth 20000 in
theorem t_X12_findWays (l : Launch) {p : Program} {e : Env} {s : State} {m : MethodId} {args : Array Value} {below : List Frame} {meth : Method} {c : Code} {D : va_G} {A : Nat → Prop} {ad : Nat → Nat} {dA : Nat → ClassId}   (K : Cx p s m args meth c cX12_findWays 7 none RX12 D (tysR dA) (wdR ad dA) A) {res : Unit × St} (n : Nat) : (∀ (l1 : Int32) (l2 : Int64) (l4 : Int64) (l6 : Int32) (σ : St), L_X12_findWays  n 1 l1 l6 l2 l4 σ = some res → V p l e (rmH 7) s m args below meth c 7 D (wdR ad dA) A (MQ below (QV D (wdR ad dA) A res) args s 0 0 A) 19 [(0, .ref (ad 0)), (1, .int l1), (2, .long l2), (4, .long l4), (6, .int l6)] [] σ) ∧ (∀ (l1 : Int32) (l6 : Int32) (σ : St), L_X12_findWays  n 2 l1 l6 0 0 σ = some res → V p l e (rmH 7) s m args below meth c 7 D (wdR ad dA) A (MQ below (QV D (wdR ad dA) A res) args s 0 0 A) 85 [(0, .ref (ad 0)), (1, .int l1), (6, .int l6)] [] σ) := by
  induction n with
  | zero => exact ⟨fun _ _ _ _ _ h => (by cases h), fun _ _ _ h => (by cases h)⟩
  | succ n ih =>
    obtain ⟨ih_1, ih_2⟩ := ih
    refine ⟨?_, ?_⟩
    · intro l1 l2 l4 l6 σ hM
      have hM : B_X12_findWays_1 (L_X12_findWays  n) n  l1 l6 l2 l4 σ = some res := hM
      refine v_iload K dX12_findWays_19 4 rfl ?_
      refine v_iconst (v := (1 : Int32)) K dX12_findWays_21 (by decide) ?_
      refine v_aload_n K dX12_findWays_22 0 rfl ?_
      refine v_iload_n K dX12_findWays_23 1 rfl ?_
      refine x_Vi (As := [.int l1]) (st := [.int (1 : Int32), .int l6]) K uv_X12_unknownMany qm_X12_367 dX12_findWays_24 rv_X12 (fun _ h => c_X12_unknownMany l  n l1 σ h) rfl ⟨(Nat.le_of_ble_eq_true rfl), (Nat.le_of_ble_eq_true rfl)⟩ (Nat.le_of_ble_eq_true rfl) hM (fun r4 s3 hM => ?_)
      refine v_ishl K dX12_findWays_27 ?_
      refine v_icmp_ge K 108 dX12_findWays_28 (by decide) hM (fun hM => ?_) (fun hM => ?_)
      · exact v_vret K rfl dX12_findWays_108 hM
      · refine v_aload_n K dX12_findWays_31 0 rfl ?_
        refine v_iload_n K dX12_findWays_32 1 rfl ?_
        refine v_iload K dX12_findWays_33 4 rfl ?_
        refine x_Vi (As := [.int l1, .int l6]) (st := []) K uv_X12_wrongRoll qm_X12_358 dX12_findWays_35 rv_X12 (fun _ h => c_X12_wrongRoll l  n l1 l6 s3 h) rfl ⟨(Nat.le_of_ble_eq_true rfl), (Nat.le_of_ble_eq_true rfl)⟩ (Nat.le_of_ble_eq_true rfl) hM (fun r6 s5 hM => ?_)
        refine v_if_lt K 44 dX12_findWays_38 (by decide) hM (fun hM => ?_) (fun hM => ?_)
        · refine v_aload_n K dX12_findWays_44 0 rfl ?_
          refine v_dup K dX12_findWays_45 rfl ?_
          refine g_X12_43 K qf_X12_361 dX12_findWays_46 ?_
          refine v_iconst (v := (1 : Int32)) K dX12_findWays_49 (by decide) ?_
          refine v_iadd K dX12_findWays_50 ?_
          refine p_X12_43 K qf_X12_361 dX12_findWays_51 hM (fun s7 hM => ?_)
          refine v_aload_n K dX12_findWays_54 0 rfl ?_
          refine g_X12_40 K qf_X12_347 dX12_findWays_55 ?_
          refine v_lload_n K dX12_findWays_58 2 rfl ?_
          refine v_lcmp K dX12_findWays_59 ?_
          refine v_if_lt K 102 dX12_findWays_60 (by decide) hM (fun hM => ?_) (fun hM => ?_)
          · refine v_iinc K dX12_findWays_102 4 rfl (v := (l6 + (1 : Int32))) rfl (by decide) hM (fun y => [(6, .int y), (0, .ref (ad 0)), (1, .int l1), (2, .long l2), (4, .long l4)]) (fun _ => rfl) (fun x8 hM => ?_)
            refine v_goto (tgt := 19) K dX12_findWays_105 (by decide) ?_
            exact v_sub [1, 2, 3, 4, 0] rfl (ih_1 l1 l2 l4 x8 s7 hM)
          · refine v_aload_n K dX12_findWays_63 0 rfl ?_
            refine g_X12_40 K qf_X12_347 dX12_findWays_64 ?_
            refine v_lload_n K dX12_findWays_67 2 rfl ?_
            refine v_lcmp K dX12_findWays_68 ?_
            refine v_if_ne K 85 dX12_findWays_69 (by decide) hM (fun hM => ?_) (fun hM => ?_)
            · exact v_sub [0, 1, 4] rfl (ih_2 l1 l6 s7 hM)
            · refine v_aload_n K dX12_findWays_72 0 rfl ?_
              refine g_X12_41 K qf_X12_343 dX12_findWays_73 ?_
              refine v_lload K dX12_findWays_76 3 rfl ?_
              refine v_lcmp K dX12_findWays_78 ?_
              refine v_if_gt K 85 dX12_findWays_79 (by decide) hM (fun hM => ?_) (fun hM => ?_)
              · exact v_sub [0, 1, 4] rfl (ih_2 l1 l6 s7 hM)
              · refine v_goto (tgt := 102) K dX12_findWays_82 (by decide) ?_
                refine v_iinc K dX12_findWays_102 4 rfl (v := (l6 + (1 : Int32))) rfl (by decide) hM (fun y => [(6, .int y), (0, .ref (ad 0)), (1, .int l1), (2, .long l2), (4, .long l4)]) (fun _ => rfl) (fun x9 hM => ?_)
                refine v_goto (tgt := 19) K dX12_findWays_105 (by decide) ?_
                exact v_sub [1, 2, 3, 4, 0] rfl (ih_1 l1 l2 l4 x9 s7 hM)
        · refine v_goto (tgt := 102) K dX12_findWays_41 (by decide) ?_
          refine v_iinc K dX12_findWays_102 4 rfl (v := (l6 + (1 : Int32))) rfl (by decide) hM (fun y => [(6, .int y), (0, .ref (ad 0)), (1, .int l1), (2, .long l2), (4, .long l4)]) (fun _ => rfl) (fun x10 hM => ?_)
          refine v_goto (tgt := 19) K dX12_findWays_105 (by decide) ?_
          exact v_sub [1, 2, 3, 4, 0] rfl (ih_1 l1 l2 l4 x10 s5 hM)
    · intro l1 l6 σ hM
      have hM : B_X12_findWays_2 (L_X12_findWays  n) n  l1 l6 σ = some res := hM
      refine v_aload_n K dX12_findWays_85 0 rfl ?_
      refine v_iload K dX12_findWays_86 2 rfl ?_
      refine p_X12_44 K qf_X12_364 dX12_findWays_88 hM (fun s11 hM => ?_)
      refine v_aload_n K dX12_findWays_91 0 rfl ?_
      refine g_X12_40 K qf_X12_347 dX12_findWays_92 ?_
      refine v_topl hM (fun x12 hM => ?_)
      refine v_lstore_n K dX12_findWays_95 rfl (by decide) [(2, .long x12), (0, .ref (ad 0)), (1, .int l1), (6, .int l6)] rfl ?_
      refine v_aload_n K dX12_findWays_96 1 rfl ?_
      refine g_X12_41 K qf_X12_343 dX12_findWays_97 ?_
      refine v_topl hM (fun x13 hM => ?_)
      refine v_lstore K dX12_findWays_100 (by decide) [(4, .long x13), (2, .long x12), (0, .ref (ad 0)), (1, .int l1), (6, .int l6)] rfl ?_
      refine v_iinc K dX12_findWays_102 4 rfl (v := (l6 + (1 : Int32))) rfl (by decide) hM (fun y => [(6, .int y), (4, .long x13), (2, .long x12), (0, .ref (ad 0)), (1, .int l1)]) (fun _ => rfl) (fun x14 hM => ?_)
      refine v_goto (tgt := 19) K dX12_findWays_105 (by decide) ?_
      exact v_sub [3, 4, 2, 1, 0] rfl (ih_1 l1 x12 x13 x14 s11 hM)
set_option maxHeartbeats 4000000 in
set_option maxRecDepth 20000 in
theorem c_X12_findWays (l : Launch) {D : va_G} {A : Nat → Prop} {ad : Nat → Nat} {dA : Nat → ClassId}  (n : Nat) (p1 : Int32) (σ : St) {res : Unit × St} (hM : F_X12_findWays n p1 σ = some res) : MI l yX12_findWays cX12_findWays 7 none 7 D (tysR dA) (wdR ad dA) A [.ref (ad 0), .int p1] σ (QV D (wdR ad dA) A res) := by
  refine mk_met (by decide +kernel) (Nat.le_of_ble_eq_true rfl) (fun p e s m below meth c K => ?_)
  have K : Cx p s m _ meth c cX12_findWays 7 none RX12 D (tysR dA) (wdR ad dA) A := K
  obtain ⟨ih_1, ih_2⟩ := t_X12_findWays l    K (res := res) n (below := below) (e := e)
  refine v_aload_n K dX12_findWays_0 0 rfl ?_
  refine v_iconst (v := (0 : Int32)) K dX12_findWays_1 (by decide) ?_
  refine p_X12_43 K qf_X12_361 dX12_findWays_2 hM (fun s1 hM => ?_)
  refine v_aload_n K dX12_findWays_5 0 rfl ?_
  refine v_bipush (v := (-2 : Int32)) K dX12_findWays_6 (by decide) ?_
  refine p_X12_44 K qf_X12_364 dX12_findWays_8 hM (fun s2 hM => ?_)
  refine v_lconst (v := (0 : Int64)) K dX12_findWays_11 (by decide) ?_
  refine v_lstore_n K dX12_findWays_12 rfl (by decide) [(2, .long (0 : Int64)), (0, .ref (ad 0)), (1, .int p1)] rfl ?_
  refine v_lconst (v := (0 : Int64)) K dX12_findWays_13 (by decide) ?_
  refine v_lstore K dX12_findWays_14 (by decide) [(4, .long (0 : Int64)), (2, .long (0 : Int64)), (0, .ref (ad 0)), (1, .int p1)] rfl ?_
  refine v_iconst (v := (0 : Int32)) K dX12_findWays_16 (by decide) ?_
  refine v_istore K dX12_findWays_17 (by decide) [(6, .int (0 : Int32)), (4, .long (0 : Int64)), (2, .long (0 : Int64)), (0, .ref (ad 0)), (1, .int p1)] rfl ?_
  exact v_sub [3, 4, 2, 1, 0] rfl (ih_1 p1 (0 : Int64) (0 : Int64) (0 : Int32) s2 hM)
noncomputable def F_X12_roll (n : Nat) (p1 : Int32) (p2 : Int32) (σ : St) : Option (Int32 × St) := bd (F_X12_isShelf n p1 σ) fun r2 s1 => if r2 = 0 then (some ((-1 : Int32), s1)) else (bd (F_X12_in n p2 (0 : Int32) (1 : Int32) s1) fun r4 s3 => if r4 = 0 then (some ((-1 : Int32), s3)) else (bd (F_X12_rowFault n p1 s3) fun r6 s5 => if 0 ≤ r6 then (bd (F_X12_unknownMany n p1 s5) fun r8 s7 => if r8 ≤ (8 : Int32) then (bd (F_X12_findWays n p1 s7) fun _ s9 => if p2 = 0 then (some ((gI s9 0 43), s9)) else (some ((gI s9 0 44), s9))) else (some ((-5 : Int32), s7))) else (bd (F_X12_rowFault n p1 s5) fun r11 s10 => some (r11, s10))))
set_option maxHeartbeats 4000000 in
set_option maxRecDepth 20000 in
theorem c_X12_roll (l : Launch) {D : va_G} {A : Nat → Prop} {ad : Nat → Nat} {dA : Nat → ClassId}  (n : Nat) (p1 : Int32) (p2 : Int32) (σ : St) {res : Int32 × St} (hM : F_X12_roll n p1 p2 σ = some res) : MI l yX12_roll cX12_roll 3 (some .int) 8 D (tysR dA) (wdR ad dA) A [.ref (ad 0), .int p1, .int p2] σ (QI D (wdR ad dA) A res) := by
  refine mk_met (by decide +kernel) (Nat.le_of_ble_eq_true rfl) (fun p e s m below meth c K => ?_)
  have K : Cx p s m _ meth c cX12_roll 3 (some .int) RX12 D (tysR dA) (wdR ad dA) A := K
  refine v_iload_n K dX12_roll_0 1 rfl ?_
  refine x_Si (As := [.int p1]) (st := []) K us_X12_isShelf qm_X12_137 dX12_roll_1 (fun _ h => c_X12_isShelf l  n p1 σ h) rfl ⟨(Nat.le_of_ble_eq_true rfl), (Nat.le_of_ble_eq_true rfl)⟩ (Nat.le_of_ble_eq_true rfl) hM (fun r2 s1 hM => ?_)
  refine v_if_eq K 16 dX12_roll_4 (by decide) hM (fun hM => ?_) (fun hM => ?_)
  · refine v_iconst (v := (-1 : Int32)) K dX12_roll_16 (by decide) ?_
    exact v_iret K rfl dX12_roll_17 hM
  · refine v_iload_n K dX12_roll_7 2 rfl ?_
    refine v_iconst (v := (0 : Int32)) K dX12_roll_8 (by decide) ?_
    refine v_iconst (v := (1 : Int32)) K dX12_roll_9 (by decide) ?_
    refine x_Si (As := [.int p2, .int (0 : Int32), .int (1 : Int32)]) (st := []) K us_X12_in qm_X12_125 dX12_roll_10 (fun _ h => c_X12_in l  n p2 (0 : Int32) (1 : Int32) s1 h) rfl ⟨(Nat.le_of_ble_eq_true rfl), (Nat.le_of_ble_eq_true rfl)⟩ (Nat.le_of_ble_eq_true rfl) hM (fun r4 s3 hM => ?_)
    refine v_if_ne K 18 dX12_roll_13 (by decide) hM (fun hM => ?_) (fun hM => ?_)
    · refine v_aload_n K dX12_roll_18 0 rfl ?_
      refine v_iload_n K dX12_roll_19 1 rfl ?_
      refine x_Vi (As := [.int p1]) (st := []) K uv_X12_rowFault qm_X12_281 dX12_roll_20 rv_X12 (fun _ h => c_X12_rowFault l  n p1 s3 h) rfl ⟨(Nat.le_of_ble_eq_true rfl), (Nat.le_of_ble_eq_true rfl)⟩ (Nat.le_of_ble_eq_true rfl) hM (fun r6 s5 hM => ?_)
      refine v_if_ge K 32 dX12_roll_23 (by decide) hM (fun hM => ?_) (fun hM => ?_)
      · refine v_aload_n K dX12_roll_32 0 rfl ?_
        refine v_iload_n K dX12_roll_33 1 rfl ?_
        refine x_Vi (As := [.int p1]) (st := []) K uv_X12_unknownMany qm_X12_367 dX12_roll_34 rv_X12 (fun _ h => c_X12_unknownMany l  n p1 s5 h) rfl ⟨(Nat.le_of_ble_eq_true rfl), (Nat.le_of_ble_eq_true rfl)⟩ (Nat.le_of_ble_eq_true rfl) hM (fun r8 s7 hM => ?_)
        refine v_bipush (v := (8 : Int32)) K dX12_roll_37 (by decide) ?_
        refine v_icmp_le K 45 dX12_roll_39 (by decide) hM (fun hM => ?_) (fun hM => ?_)
        · refine v_aload_n K dX12_roll_45 0 rfl ?_
          refine v_iload_n K dX12_roll_46 1 rfl ?_
          refine x_Vv (As := [.int p1]) (st := []) K uv_X12_findWays qm_X12_370 dX12_roll_47 rv_X12 (fun _ h => c_X12_findWays l  n p1 s7 h) rfl ⟨(Nat.le_of_ble_eq_true rfl), (Nat.le_of_ble_eq_true rfl)⟩ (Nat.le_of_ble_eq_true rfl) hM (fun s9 hM => ?_)
          refine v_iload_n K dX12_roll_50 2 rfl ?_
          refine v_if_ne K 61 dX12_roll_51 (by decide) hM (fun hM => ?_) (fun hM => ?_)
          · refine v_aload_n K dX12_roll_61 0 rfl ?_
            refine g_X12_44 K qf_X12_364 dX12_roll_62 ?_
            exact v_iret K rfl dX12_roll_65 hM
          · refine v_aload_n K dX12_roll_54 0 rfl ?_
            refine g_X12_43 K qf_X12_361 dX12_roll_55 ?_
            refine v_goto (tgt := 65) K dX12_roll_58 (by decide) ?_
            exact v_iret K rfl dX12_roll_65 hM
        · refine v_bipush (v := (-5 : Int32)) K dX12_roll_42 (by decide) ?_
          exact v_iret K rfl dX12_roll_44 hM
      · refine v_aload_n K dX12_roll_26 0 rfl ?_
        refine v_iload_n K dX12_roll_27 1 rfl ?_
        refine x_Vi (As := [.int p1]) (st := []) K uv_X12_rowFault qm_X12_281 dX12_roll_28 rv_X12 (fun _ h => c_X12_rowFault l  n p1 s5 h) rfl ⟨(Nat.le_of_ble_eq_true rfl), (Nat.le_of_ble_eq_true rfl)⟩ (Nat.le_of_ble_eq_true rfl) hM (fun r11 s10 hM => ?_)
        exact v_iret K rfl dX12_roll_31 hM
    · refine v_iconst (v := (-1 : Int32)) K dX12_roll_16 (by decide) ?_
      exact v_iret K rfl dX12_roll_17 hM
noncomputable def F_X12_sold (n : Nat) (p1 : Int32) (σ : St) : Option (Int32 × St) := bd (F_X12_isShelf n p1 σ) fun r2 s1 => if r2 = 0 then (some ((-1 : Int32), s1)) else (bd (F_X12_rowFault n p1 s1) fun r4 s3 => if 0 ≤ r4 then (bd (F_X12_unknownMany n p1 s3) fun r6 s5 => if r6 ≤ (8 : Int32) then (bd (F_X12_findWays n p1 s5) fun _ s7 => if (gI s7 0 43) = 0 then (some ((-2 : Int32), s7)) else (bd (F_X12_wrongRoll n p1 (gI s7 0 44) s7) fun r9 s8 => some ((gI s8 0 42), s8))) else (some ((-5 : Int32), s5))) else (bd (F_X12_rowFault n p1 s3) fun r11 s10 => some (r11, s10)))
set_option maxHeartbeats 4000000 in
set_option maxRecDepth 20000 in
theorem c_X12_sold (l : Launch) {D : va_G} {A : Nat → Prop} {ad : Nat → Nat} {dA : Nat → ClassId}  (n : Nat) (p1 : Int32) (σ : St) {res : Int32 × St} (hM : F_X12_sold n p1 σ = some res) : MI l yX12_sold cX12_sold 2 (some .int) 8 D (tysR dA) (wdR ad dA) A [.ref (ad 0), .int p1] σ (QI D (wdR ad dA) A res) := by
  refine mk_met (by decide +kernel) (Nat.le_of_ble_eq_true rfl) (fun p e s m below meth c K => ?_)
  have K : Cx p s m _ meth c cX12_sold 2 (some .int) RX12 D (tysR dA) (wdR ad dA) A := K
  refine v_iload_n K dX12_sold_0 1 rfl ?_
  refine x_Si (As := [.int p1]) (st := []) K us_X12_isShelf qm_X12_137 dX12_sold_1 (fun _ h => c_X12_isShelf l  n p1 σ h) rfl ⟨(Nat.le_of_ble_eq_true rfl), (Nat.le_of_ble_eq_true rfl)⟩ (Nat.le_of_ble_eq_true rfl) hM (fun r2 s1 hM => ?_)
  refine v_if_ne K 9 dX12_sold_4 (by decide) hM (fun hM => ?_) (fun hM => ?_)
  · refine v_aload_n K dX12_sold_9 0 rfl ?_
    refine v_iload_n K dX12_sold_10 1 rfl ?_
    refine x_Vi (As := [.int p1]) (st := []) K uv_X12_rowFault qm_X12_281 dX12_sold_11 rv_X12 (fun _ h => c_X12_rowFault l  n p1 s1 h) rfl ⟨(Nat.le_of_ble_eq_true rfl), (Nat.le_of_ble_eq_true rfl)⟩ (Nat.le_of_ble_eq_true rfl) hM (fun r4 s3 hM => ?_)
    refine v_if_ge K 23 dX12_sold_14 (by decide) hM (fun hM => ?_) (fun hM => ?_)
    · refine v_aload_n K dX12_sold_23 0 rfl ?_
      refine v_iload_n K dX12_sold_24 1 rfl ?_
      refine x_Vi (As := [.int p1]) (st := []) K uv_X12_unknownMany qm_X12_367 dX12_sold_25 rv_X12 (fun _ h => c_X12_unknownMany l  n p1 s3 h) rfl ⟨(Nat.le_of_ble_eq_true rfl), (Nat.le_of_ble_eq_true rfl)⟩ (Nat.le_of_ble_eq_true rfl) hM (fun r6 s5 hM => ?_)
      refine v_bipush (v := (8 : Int32)) K dX12_sold_28 (by decide) ?_
      refine v_icmp_le K 36 dX12_sold_30 (by decide) hM (fun hM => ?_) (fun hM => ?_)
      · refine v_aload_n K dX12_sold_36 0 rfl ?_
        refine v_iload_n K dX12_sold_37 1 rfl ?_
        refine x_Vv (As := [.int p1]) (st := []) K uv_X12_findWays qm_X12_370 dX12_sold_38 rv_X12 (fun _ h => c_X12_findWays l  n p1 s5 h) rfl ⟨(Nat.le_of_ble_eq_true rfl), (Nat.le_of_ble_eq_true rfl)⟩ (Nat.le_of_ble_eq_true rfl) hM (fun s7 hM => ?_)
        refine v_aload_n K dX12_sold_41 0 rfl ?_
        refine g_X12_43 K qf_X12_361 dX12_sold_42 ?_
        refine v_if_ne K 51 dX12_sold_45 (by decide) hM (fun hM => ?_) (fun hM => ?_)
        · refine v_aload_n K dX12_sold_51 0 rfl ?_
          refine v_iload_n K dX12_sold_52 1 rfl ?_
          refine v_aload_n K dX12_sold_53 0 rfl ?_
          refine g_X12_44 K qf_X12_364 dX12_sold_54 ?_
          refine x_Vi (As := [.int p1, .int (gI s7 0 44)]) (st := []) K uv_X12_wrongRoll qm_X12_358 dX12_sold_57 rv_X12 (fun _ h => c_X12_wrongRoll l  n p1 (gI s7 0 44) s7 h) rfl ⟨(Nat.le_of_ble_eq_true rfl), (Nat.le_of_ble_eq_true rfl)⟩ (Nat.le_of_ble_eq_true rfl) hM (fun r9 s8 hM => ?_)
          refine v_pop K dX12_sold_60 rfl ?_
          refine v_aload_n K dX12_sold_61 0 rfl ?_
          refine g_X12_42 K qf_X12_352 dX12_sold_62 ?_
          exact v_iret K rfl dX12_sold_65 hM
        · refine v_bipush (v := (-2 : Int32)) K dX12_sold_48 (by decide) ?_
          exact v_iret K rfl dX12_sold_50 hM
      · refine v_bipush (v := (-5 : Int32)) K dX12_sold_33 (by decide) ?_
        exact v_iret K rfl dX12_sold_35 hM
    · refine v_aload_n K dX12_sold_17 0 rfl ?_
      refine v_iload_n K dX12_sold_18 1 rfl ?_
      refine x_Vi (As := [.int p1]) (st := []) K uv_X12_rowFault qm_X12_281 dX12_sold_19 rv_X12 (fun _ h => c_X12_rowFault l  n p1 s3 h) rfl ⟨(Nat.le_of_ble_eq_true rfl), (Nat.le_of_ble_eq_true rfl)⟩ (Nat.le_of_ble_eq_true rfl) hM (fun r11 s10 hM => ?_)
      exact v_iret K rfl dX12_sold_22 hM
  · refine v_iconst (v := (-1 : Int32)) K dX12_sold_7 (by decide) ?_
    exact v_iret K rfl dX12_sold_8 hM
noncomputable def F_X12_friend (n : Nat) (p1 : Int32) (p2 : Int32) (σ : St) : Option (Int32 × St) := bd (F_X12_areTwo n p1 σ) fun r2 s1 => if r2 = 0 then (some ((-2000000000 : Int32), s1)) else (bd (F_X12_in n p2 (0 : Int32) (9 : Int32) s1) fun r4 s3 => if r4 = 0 then (some ((-2000000000 : Int32), s3)) else (bd (F_X12_beginThought n  s3) fun _ s5 => gd (¬ (10 : Int32) = 0) (bnd (p1 / (10 : Int32)) fun x6 => gd (¬ (10 : Int32) = 0) (bnd (p1 - p1 / (10 : Int32) * (10 : Int32)) fun x7 => bd (F_X12_winsBy n x6 x7 s5) fun r9 s8 => gd (¬ (10 : Int32) = 0) (bnd (p1 / (10 : Int32)) fun x10 => gd (¬ (10 : Int32) = 0) (bnd (p1 - p1 / (10 : Int32) * (10 : Int32)) fun x11 => bd (F_X12_lawBy n x10 x11 p2 (0 : Int32) s8) fun r13 s12 => some ((r9 - r13), s12)))))))
set_option maxHeartbeats 4000000 in
set_option maxRecDepth 20000 in
theorem c_X12_friend (l : Launch) {D : va_G} {A : Nat → Prop} {ad : Nat → Nat} {dA : Nat → ClassId}  (n : Nat) (p1 : Int32) (p2 : Int32) (σ : St) {res : Int32 × St} (hM : F_X12_friend n p1 p2 σ = some res) : MI l yX12_friend cX12_friend 3 (some .int) 6 D (tysR dA) (wdR ad dA) A [.ref (ad 0), .int p1, .int p2] σ (QI D (wdR ad dA) A res) := by
  refine mk_met (by decide +kernel) (Nat.le_of_ble_eq_true rfl) (fun p e s m below meth c K => ?_)
  have K : Cx p s m _ meth c cX12_friend 3 (some .int) RX12 D (tysR dA) (wdR ad dA) A := K
  refine v_aload_n K dX12_friend_0 0 rfl ?_
  refine v_iload_n K dX12_friend_1 1 rfl ?_
  refine x_Vi (As := [.int p1]) (st := []) K uv_X12_areTwo qm_X12_254 dX12_friend_2 rv_X12 (fun _ h => c_X12_areTwo l  n p1 σ h) rfl ⟨(Nat.le_of_ble_eq_true rfl), (Nat.le_of_ble_eq_true rfl)⟩ (Nat.le_of_ble_eq_true rfl) hM (fun r2 s1 hM => ?_)
  refine v_if_eq K 18 dX12_friend_5 (by decide) hM (fun hM => ?_) (fun hM => ?_)
  · refine v_ldc (v := (-2000000000 : Int32)) K qc_X12_163 dX12_friend_18 ?_
    exact v_iret K rfl dX12_friend_20 hM
  · refine v_iload_n K dX12_friend_8 2 rfl ?_
    refine v_iconst (v := (0 : Int32)) K dX12_friend_9 (by decide) ?_
    refine v_bipush (v := (9 : Int32)) K dX12_friend_10 (by decide) ?_
    refine x_Si (As := [.int p2, .int (0 : Int32), .int (9 : Int32)]) (st := []) K us_X12_in qm_X12_125 dX12_friend_12 (fun _ h => c_X12_in l  n p2 (0 : Int32) (9 : Int32) s1 h) rfl ⟨(Nat.le_of_ble_eq_true rfl), (Nat.le_of_ble_eq_true rfl)⟩ (Nat.le_of_ble_eq_true rfl) hM (fun r4 s3 hM => ?_)
    refine v_if_ne K 21 dX12_friend_15 (by decide) hM (fun hM => ?_) (fun hM => ?_)
    · refine v_aload_n K dX12_friend_21 0 rfl ?_
      refine x_Vv (As := []) (st := []) K uv_X12_beginThought qm_X12_257 dX12_friend_22 rv_X12 (fun _ h => c_X12_beginThought l  n  s3 h) rfl ⟨(Nat.le_of_ble_eq_true rfl), (Nat.le_of_ble_eq_true rfl)⟩ (Nat.le_of_ble_eq_true rfl) hM (fun s5 hM => ?_)
      refine v_aload_n K dX12_friend_25 0 rfl ?_
      refine v_iload_n K dX12_friend_26 1 rfl ?_
      refine v_bipush (v := (10 : Int32)) K dX12_friend_27 (by decide) ?_
      refine v_idiv K dX12_friend_29 hM (fun hM => ?_)
      refine v_topi hM (fun x6 hM => ?_)
      refine v_iload_n K dX12_friend_30 1 rfl ?_
      refine v_bipush (v := (10 : Int32)) K dX12_friend_31 (by decide) ?_
      refine v_irem K dX12_friend_33 hM (fun hM => ?_)
      refine v_topi hM (fun x7 hM => ?_)
      refine x_Vi (As := [.int x6, .int x7]) (st := []) K uv_X12_winsBy qm_X12_260 dX12_friend_34 rv_X12 (fun _ h => c_X12_winsBy l  n x6 x7 s5 h) rfl ⟨(Nat.le_of_ble_eq_true rfl), (Nat.le_of_ble_eq_true rfl)⟩ (Nat.le_of_ble_eq_true rfl) hM (fun r9 s8 hM => ?_)
      refine v_aload_n K dX12_friend_37 0 rfl ?_
      refine v_iload_n K dX12_friend_38 1 rfl ?_
      refine v_bipush (v := (10 : Int32)) K dX12_friend_39 (by decide) ?_
      refine v_idiv K dX12_friend_41 hM (fun hM => ?_)
      refine v_topi hM (fun x10 hM => ?_)
      refine v_iload_n K dX12_friend_42 1 rfl ?_
      refine v_bipush (v := (10 : Int32)) K dX12_friend_43 (by decide) ?_
      refine v_irem K dX12_friend_45 hM (fun hM => ?_)
      refine v_topi hM (fun x11 hM => ?_)
      refine v_iload_n K dX12_friend_46 2 rfl ?_
      refine v_iconst (v := (0 : Int32)) K dX12_friend_47 (by decide) ?_
      refine x_Vi (As := [.int x10, .int x11, .int p2, .int (0 : Int32)]) (st := [.int r9]) K uv_X12_lawBy qm_X12_250 dX12_friend_48 rv_X12 (fun _ h => c_X12_lawBy l  n x10 x11 p2 (0 : Int32) s8 h) rfl ⟨(Nat.le_of_ble_eq_true rfl), (Nat.le_of_ble_eq_true rfl)⟩ (Nat.le_of_ble_eq_true rfl) hM (fun r13 s12 hM => ?_)
      refine v_isub K dX12_friend_51 ?_
      exact v_iret K rfl dX12_friend_52 hM
    · refine v_ldc (v := (-2000000000 : Int32)) K qc_X12_163 dX12_friend_18 ?_
      exact v_iret K rfl dX12_friend_20 hM
noncomputable def B_X12_drawn_1 (J : Nat → Int32 → Int32 → Int32 → Int32 → Int32 → Int32 → Int32 → Int32 → Int32 → Int32 → Int32 → Int32 → St → Option (Int32 × St)) (n : Nat)  (l1 : Int32) (l2 : Int32) (l3 : Int32) (l4 : Int32) (σ : St) : Option (Int32 × St) := if (2 : Int32) ≤ (gI σ 0 1) then (J 2 l2 l3 l4 l1 (0 : Int32) (0 : Int32) (0 : Int32) (0 : Int32) 0 0 0 0 σ) else (some ((0 : Int32), σ))
noncomputable def B_X12_drawn_2 (J : Nat → Int32 → Int32 → Int32 → Int32 → Int32 → Int32 → Int32 → Int32 → Int32 → Int32 → Int32 → Int32 → St → Option (Int32 × St)) (n : Nat)  (l2 : Int32) (l3 : Int32) (l4 : Int32) (l5 : Int32) (l6 : Int32) (l7 : Int32) (l8 : Int32) (l9 : Int32) (σ : St) : Option (Int32 × St) := gd (¬ (100 : Int32) = 0) (bnd (l2 / (100 : Int32)) fun x11 => if x11 ≤ l9 then (if l3 = 0 then (some (l6, σ)) else (if l3 = (1 : Int32) then (some (l7, σ)) else (some (l8, σ)))) else (bd (F_X12_beginThought n  σ) fun _ s12 => J 3 l2 l3 l4 l5 l6 l7 l8 l9 (0 : Int32) 0 0 0 s12))
noncomputable def B_X12_drawn_3 (J : Nat → Int32 → Int32 → Int32 → Int32 → Int32 → Int32 → Int32 → Int32 → Int32 → Int32 → Int32 → Int32 → St → Option (Int32 × St)) (n : Nat)  (l2 : Int32) (l3 : Int32) (l4 : Int32) (l5 : Int32) (l6 : Int32) (l7 : Int32) (l8 : Int32) (l9 : Int32) (l10 : Int32) (σ : St) : Option (Int32 × St) := gd (¬ (100 : Int32) = 0) (bnd (l2 - l2 / (100 : Int32) * (100 : Int32)) fun x13 => if x13 ≤ l10 then (bd (F_X12_boundMany n  σ) fun r15 s14 => bnd (l8 + r15) fun x16 => bnd (l9 + (1 : Int32)) fun x17 => J 2 l2 l3 l4 l5 l6 l7 x16 x17 0 0 0 0 s14) else (bnd ((l5 * (1103515245 : Int32)) + (12345 : Int32)) fun x18 => gd (¬ (gI σ 0 1) = 0) (bnd (((x18.toUInt32 >>> ((4 : Int32).toUInt32 &&& Int32.toUInt32 31)).toInt32) - ((x18.toUInt32 >>> ((4 : Int32).toUInt32 &&& Int32.toUInt32 31)).toInt32) / (gI σ 0 1) * (gI σ 0 1)) fun x19 => gd (¬ ((gI σ 0 1) - (1 : Int32)) = 0) (bnd (((x18.toUInt32 >>> ((12 : Int32).toUInt32 &&& Int32.toUInt32 31)).toInt32) - ((x18.toUInt32 >>> ((12 : Int32).toUInt32 &&& Int32.toUInt32 31)).toInt32) / ((gI σ 0 1) - (1 : Int32)) * ((gI σ 0 1) - (1 : Int32))) fun x20 => if x20 < x19 then (J 4 l2 l3 l4 x18 l6 l7 l8 l9 l10 x19 x20 0 σ) else (bnd (x20 + (1 : Int32)) fun x21 => J 4 l2 l3 l4 x18 l6 l7 l8 l9 l10 x19 x21 0 σ)))))
noncomputable def B_X12_drawn_4 (J : Nat → Int32 → Int32 → Int32 → Int32 → Int32 → Int32 → Int32 → Int32 → Int32 → Int32 → Int32 → Int32 → St → Option (Int32 × St)) (n : Nat)  (l2 : Int32) (l3 : Int32) (l4 : Int32) (l5 : Int32) (l6 : Int32) (l7 : Int32) (l8 : Int32) (l9 : Int32) (l10 : Int32) (l11 : Int32) (l12 : Int32) (σ : St) : Option (Int32 × St) := gd (vp_in l11 7) (if (gI σ 17 (l11).toNatClampNeg) < 0 then (gd (¬ (12 : Int32) = 0) (bnd (((l5.toUInt32 >>> ((20 : Int32).toUInt32 &&& Int32.toUInt32 31)).toInt32) - ((l5.toUInt32 >>> ((20 : Int32).toUInt32 &&& Int32.toUInt32 31)).toInt32) / (12 : Int32) * (12 : Int32)) fun x22 => bd (F_X12_winsBy n l11 l12 σ) fun r24 s23 => if r24 ≤ x22 then (J 5 l2 l3 l4 l5 l6 l7 l8 l9 l10 l11 l12 (0 : Int32) s23) else (J 5 l2 l3 l4 l5 l6 l7 l8 l9 l10 l11 l12 (1 : Int32) s23))) else (bnd (l10 + (1 : Int32)) fun x25 => J 3 l2 l3 l4 l5 l6 l7 l8 l9 x25 0 0 0 σ))
noncomputable def B_X12_drawn_5 (J : Nat → Int32 → Int32 → Int32 → Int32 → Int32 → Int32 → Int32 → Int32 → Int32 → Int32 → Int32 → Int32 → St → Option (Int32 × St)) (n : Nat)  (l2 : Int32) (l3 : Int32) (l4 : Int32) (l5 : Int32) (l6 : Int32) (l7 : Int32) (l8 : Int32) (l9 : Int32) (l10 : Int32) (l11 : Int32) (l12 : Int32) (k0 : Int32) (σ : St) : Option (Int32 × St) := bnd (l6 + (1 : Int32)) fun x26 => if k0 = (1 : Int32) then (if l11 = l4 then (bnd (l7 + (1 : Int32)) fun x27 => J 6 l2 l3 l4 l5 x26 x27 l8 l9 l10 l11 l12 k0 σ) else (J 6 l2 l3 l4 l5 x26 l7 l8 l9 l10 l11 l12 k0 σ)) else (J 6 l2 l3 l4 l5 x26 l7 l8 l9 l10 l11 l12 k0 σ)
noncomputable def B_X12_drawn_6 (J : Nat → Int32 → Int32 → Int32 → Int32 → Int32 → Int32 → Int32 → Int32 → Int32 → Int32 → Int32 → Int32 → St → Option (Int32 × St)) (n : Nat)  (l2 : Int32) (l3 : Int32) (l4 : Int32) (l5 : Int32) (l6 : Int32) (l7 : Int32) (l8 : Int32) (l9 : Int32) (l10 : Int32) (l11 : Int32) (l12 : Int32) (l13 : Int32) (σ : St) : Option (Int32 × St) := bd (F_X12_goCase n l11 l12 l13 σ) fun _ s28 => bnd (l10 + (1 : Int32)) fun x29 => J 3 l2 l3 l4 l5 l6 l7 l8 l9 x29 0 0 0 s28
noncomputable def S_X12_drawn  (n : Nat) (J : Nat → Int32 → Int32 → Int32 → Int32 → Int32 → Int32 → Int32 → Int32 → Int32 → Int32 → Int32 → Int32 → St → Option (Int32 × St)) : Nat → Int32 → Int32 → Int32 → Int32 → Int32 → Int32 → Int32 → Int32 → Int32 → Int32 → Int32 → Int32 → St → Option (Int32 × St) := fun lb a0 a1 a2 a3 a4 a5 a6 a7 a8 a9 a10 a11 σ => match lb with
  | 1 => B_X12_drawn_1 J n  a0 a1 a2 a3 σ
  | 2 => B_X12_drawn_2 J n  a0 a1 a2 a3 a4 a5 a6 a7 σ
  | 3 => B_X12_drawn_3 J n  a0 a1 a2 a3 a4 a5 a6 a7 a8 σ
  | 4 => B_X12_drawn_4 J n  a0 a1 a2 a3 a4 a5 a6 a7 a8 a9 a10 σ
  | 5 => B_X12_drawn_5 J n  a0 a1 a2 a3 a4 a5 a6 a7 a8 a9 a10 a11 σ
  | 6 => B_X12_drawn_6 J n  a0 a1 a2 a3 a4 a5 a6 a7 a8 a9 a10 a11 σ
  | _ => none
noncomputable def L_X12_drawn  (n : Nat) : Nat → Int32 → Int32 → Int32 → Int32 → Int32 → Int32 → Int32 → Int32 → Int32 → Int32 → Int32 → Int32 → St → Option (Int32 × St) := Nat.rec (fun _ _ _ _ _ _ _ _ _ _ _ _ _ _ => none) (fun n J => S_X12_drawn  n J) n
noncomputable def F_X12_drawn (n : Nat) (p1 : Int32) (p2 : Int32) (p3 : Int32) (p4 : Int32) (σ : St) : Option (Int32 × St) := if p2 < 0 then (some ((-1 : Int32), σ)) else (gd (¬ (100 : Int32) = 0) (bnd (p2 / (100 : Int32)) fun x1 => bd (F_X12_in n x1 (1 : Int32) (30 : Int32) σ) fun r3 s2 => if r3 = 0 then (some ((-1 : Int32), s2)) else (gd (¬ (100 : Int32) = 0) (bnd (p2 - p2 / (100 : Int32) * (100 : Int32)) fun x4 => bd (F_X12_in n x4 (1 : Int32) (60 : Int32) s2) fun r6 s5 => if r6 = 0 then (some ((-1 : Int32), s5)) else (bd (F_X12_in n p3 (0 : Int32) (2 : Int32) s5) fun r8 s7 => if r8 = 0 then (some ((-1 : Int32), s7)) else (if p3 = (1 : Int32) then (bd (F_X12_isPerson n p4 s7) fun r10 s9 => if r10 = 0 then (some ((-1 : Int32), s9)) else (L_X12_drawn  n 1 p1 p2 p3 p4 0 0 0 0 0 0 0 0 s9)) else (L_X12_drawn  n 1 p1 p2 p3 p4 0 0 0 0 0 0 0 0 s7)))))))
set_option maxHeartbeats 4000000 in
set_option maxRecDepth 20000 in
theorem t_X12_drawn (l : Launch) {p : Program} {e : Env} {s : State} {m : MethodId} {args : Array Value} {below : List Frame} {meth : Method} {c : Code} {D : va_G} {A : Nat → Prop} {ad : Nat → Nat} {dA : Nat → ClassId}   (K : Cx p s m args meth c cX12_drawn 14 (some .int) RX12 D (tysR dA) (wdR ad dA) A) {res : Int32 × St} (n : Nat) : (∀ (l1 : Int32) (l2 : Int32) (l3 : Int32) (l4 : Int32) (σ : St), L_X12_drawn  n 1 l1 l2 l3 l4 0 0 0 0 0 0 0 0 σ = some res → V p l e (rmH 6) s m args below meth c 14 D (wdR ad dA) A (MQ below (QI D (wdR ad dA) A res) args s 0 0 A) 55 [(0, .ref (ad 0)), (1, .int l1), (2, .int l2), (3, .int l3), (4, .int l4)] [] σ) ∧ (∀ (l2 : Int32) (l3 : Int32) (l4 : Int32) (l5 : Int32) (l6 : Int32) (l7 : Int32) (l8 : Int32) (l9 : Int32) (σ : St), L_X12_drawn  n 2 l2 l3 l4 l5 l6 l7 l8 l9 0 0 0 0 σ = some res → V p l e (rmH 6) s m args below meth c 14 D (wdR ad dA) A (MQ below (QI D (wdR ad dA) A res) args s 0 0 A) 80 [(0, .ref (ad 0)), (2, .int l2), (3, .int l3), (4, .int l4), (5, .int l5), (6, .int l6), (7, .int l7), (8, .int l8), (9, .int l9)] [] σ) ∧ (∀ (l2 : Int32) (l3 : Int32) (l4 : Int32) (l5 : Int32) (l6 : Int32) (l7 : Int32) (l8 : Int32) (l9 : Int32) (l10 : Int32) (σ : St), L_X12_drawn  n 3 l2 l3 l4 l5 l6 l7 l8 l9 l10 0 0 0 σ = some res → V p l e (rmH 6) s m args below meth c 14 D (wdR ad dA) A (MQ below (QI D (wdR ad dA) A res) args s 0 0 A) 96 [(0, .ref (ad 0)), (2, .int l2), (3, .int l3), (4, .int l4), (5, .int l5), (6, .int l6), (7, .int l7), (8, .int l8), (9, .int l9), (10, .int l10)] [] σ) ∧ (∀ (l2 : Int32) (l3 : Int32) (l4 : Int32) (l5 : Int32) (l6 : Int32) (l7 : Int32) (l8 : Int32) (l9 : Int32) (l10 : Int32) (l11 : Int32) (l12 : Int32) (σ : St), L_X12_drawn  n 4 l2 l3 l4 l5 l6 l7 l8 l9 l10 l11 l12 0 σ = some res → V p l e (rmH 6) s m args below meth c 14 D (wdR ad dA) A (MQ below (QI D (wdR ad dA) A res) args s 0 0 A) 152 [(0, .ref (ad 0)), (2, .int l2), (3, .int l3), (4, .int l4), (5, .int l5), (6, .int l6), (7, .int l7), (8, .int l8), (9, .int l9), (10, .int l10), (11, .int l11), (12, .int l12)] [] σ) ∧ (∀ (l2 : Int32) (l3 : Int32) (l4 : Int32) (l5 : Int32) (l6 : Int32) (l7 : Int32) (l8 : Int32) (l9 : Int32) (l10 : Int32) (l11 : Int32) (l12 : Int32) (k0 : Int32) (σ : St), L_X12_drawn  n 5 l2 l3 l4 l5 l6 l7 l8 l9 l10 l11 l12 k0 σ = some res → V p l e (rmH 6) s m args below meth c 14 D (wdR ad dA) A (MQ below (QI D (wdR ad dA) A res) args s 0 0 A) 189 [(0, .ref (ad 0)), (2, .int l2), (3, .int l3), (4, .int l4), (5, .int l5), (6, .int l6), (7, .int l7), (8, .int l8), (9, .int l9), (10, .int l10), (11, .int l11), (12, .int l12)] [.int k0] σ) ∧ (∀ (l2 : Int32) (l3 : Int32) (l4 : Int32) (l5 : Int32) (l6 : Int32) (l7 : Int32) (l8 : Int32) (l9 : Int32) (l10 : Int32) (l11 : Int32) (l12 : Int32) (l13 : Int32) (σ : St), L_X12_drawn  n 6 l2 l3 l4 l5 l6 l7 l8 l9 l10 l11 l12 l13 σ = some res → V p l e (rmH 6) s m args below meth c 14 D (wdR ad dA) A (MQ below (QI D (wdR ad dA) A res) args s 0 0 A) 210 [(0, .ref (ad 0)), (2, .int l2), (3, .int l3), (4, .int l4), (5, .int l5), (6, .int l6), (7, .int l7), (8, .int l8), (9, .int l9), (10, .int l10), (11, .int l11), (12, .int l12), (13, .int l13)] [] σ) := by
  induction n with
  | zero => exact ⟨fun _ _ _ _ _ h => (by cases h), fun _ _ _ _ _ _ _ _ _ h => (by cases h), fun _ _ _ _ _ _ _ _ _ _ h => (by cases h), fun _ _ _ _ _ _ _ _ _ _ _ _ h => (by cases h), fun _ _ _ _ _ _ _ _ _ _ _ _ _ h => (by cases h), fun _ _ _ _ _ _ _ _ _ _ _ _ _ h => (by cases h)⟩
  | succ n ih =>
    obtain ⟨ih_1, ih_2, ih_3, ih_4, ih_5, ih_6⟩ := ih
    refine ⟨?_, ?_, ?_, ?_, ?_, ?_⟩
    · intro l1 l2 l3 l4 σ hM
      have hM : B_X12_drawn_1 (L_X12_drawn  n) n  l1 l2 l3 l4 σ = some res := hM
      refine v_aload_n K dX12_drawn_55 0 rfl ?_
      refine g_X12_1 K qf_X12_122 dX12_drawn_56 ?_
      refine v_iconst (v := (2 : Int32)) K dX12_drawn_59 (by decide) ?_
      refine v_icmp_ge K 65 dX12_drawn_60 (by decide) hM (fun hM => ?_) (fun hM => ?_)
      · refine v_iload_n K dX12_drawn_65 1 rfl ?_
        refine v_istore K dX12_drawn_66 (by decide) [(5, .int l1), (0, .ref (ad 0)), (1, .int l1), (2, .int l2), (3, .int l3), (4, .int l4)] rfl ?_
        refine v_iconst (v := (0 : Int32)) K dX12_drawn_68 (by decide) ?_
        refine v_istore K dX12_drawn_69 (by decide) [(6, .int (0 : Int32)), (5, .int l1), (0, .ref (ad 0)), (1, .int l1), (2, .int l2), (3, .int l3), (4, .int l4)] rfl ?_
        refine v_iconst (v := (0 : Int32)) K dX12_drawn_71 (by decide) ?_
        refine v_istore K dX12_drawn_72 (by decide) [(7, .int (0 : Int32)), (6, .int (0 : Int32)), (5, .int l1), (0, .ref (ad 0)), (1, .int l1), (2, .int l2), (3, .int l3), (4, .int l4)] rfl ?_
        refine v_iconst (v := (0 : Int32)) K dX12_drawn_74 (by decide) ?_
        refine v_istore K dX12_drawn_75 (by decide) [(8, .int (0 : Int32)), (7, .int (0 : Int32)), (6, .int (0 : Int32)), (5, .int l1), (0, .ref (ad 0)), (1, .int l1), (2, .int l2), (3, .int l3), (4, .int l4)] rfl ?_
        refine v_iconst (v := (0 : Int32)) K dX12_drawn_77 (by decide) ?_
        refine v_istore K dX12_drawn_78 (by decide) [(9, .int (0 : Int32)), (8, .int (0 : Int32)), (7, .int (0 : Int32)), (6, .int (0 : Int32)), (5, .int l1), (0, .ref (ad 0)), (1, .int l1), (2, .int l2), (3, .int l3), (4, .int l4)] rfl ?_
        exact v_sub [5, 7, 8, 9, 4, 3, 2, 1, 0] rfl (ih_2 l2 l3 l4 l1 (0 : Int32) (0 : Int32) (0 : Int32) (0 : Int32) σ hM)
      · refine v_iconst (v := (0 : Int32)) K dX12_drawn_63 (by decide) ?_
        exact v_iret K rfl dX12_drawn_64 hM
    · intro l2 l3 l4 l5 l6 l7 l8 l9 σ hM
      have hM : B_X12_drawn_2 (L_X12_drawn  n) n  l2 l3 l4 l5 l6 l7 l8 l9 σ = some res := hM
      refine v_iload K dX12_drawn_80 8 rfl ?_
      refine v_iload_n K dX12_drawn_82 1 rfl ?_
      refine v_bipush (v := (100 : Int32)) K dX12_drawn_83 (by decide) ?_
      refine v_idiv K dX12_drawn_85 hM (fun hM => ?_)
      refine v_topi hM (fun x11 hM => ?_)
      refine v_icmp_ge K 241 dX12_drawn_86 (by decide) hM (fun hM => ?_) (fun hM => ?_)
      · refine v_iload_n K dX12_drawn_241 2 rfl ?_
        refine v_if_ne K 250 dX12_drawn_242 (by decide) hM (fun hM => ?_) (fun hM => ?_)
        · refine v_iload_n K dX12_drawn_250 2 rfl ?_
          refine v_iconst (v := (1 : Int32)) K dX12_drawn_251 (by decide) ?_
          refine v_icmp_ne K 260 dX12_drawn_252 (by decide) hM (fun hM => ?_) (fun hM => ?_)
          · refine v_iload K dX12_drawn_260 7 rfl ?_
            exact v_iret K rfl dX12_drawn_262 hM
          · refine v_iload K dX12_drawn_255 6 rfl ?_
            refine v_goto (tgt := 262) K dX12_drawn_257 (by decide) ?_
            exact v_iret K rfl dX12_drawn_262 hM
        · refine v_iload K dX12_drawn_245 5 rfl ?_
          refine v_goto (tgt := 262) K dX12_drawn_247 (by decide) ?_
          exact v_iret K rfl dX12_drawn_262 hM
      · refine v_aload_n K dX12_drawn_89 0 rfl ?_
        refine x_Vv (As := []) (st := []) K uv_X12_beginThought qm_X12_257 dX12_drawn_90 rv_X12 (fun _ h => c_X12_beginThought l  n  σ h) rfl ⟨(Nat.le_of_ble_eq_true rfl), (Nat.le_of_ble_eq_true rfl)⟩ (Nat.le_of_ble_eq_true rfl) hM (fun s12 hM => ?_)
        refine v_iconst (v := (0 : Int32)) K dX12_drawn_93 (by decide) ?_
        refine v_istore K dX12_drawn_94 (by decide) [(10, .int (0 : Int32)), (0, .ref (ad 0)), (2, .int l2), (3, .int l3), (4, .int l4), (5, .int l5), (6, .int l6), (7, .int l7), (8, .int l8), (9, .int l9)] rfl ?_
        exact v_sub [1, 2, 3, 4, 5, 6, 7, 8, 9, 0] rfl (ih_3 l2 l3 l4 l5 l6 l7 l8 l9 (0 : Int32) s12 hM)
    · intro l2 l3 l4 l5 l6 l7 l8 l9 l10 σ hM
      have hM : B_X12_drawn_3 (L_X12_drawn  n) n  l2 l3 l4 l5 l6 l7 l8 l9 l10 σ = some res := hM
      refine v_iload K dX12_drawn_96 9 rfl ?_
      refine v_iload_n K dX12_drawn_98 1 rfl ?_
      refine v_bipush (v := (100 : Int32)) K dX12_drawn_99 (by decide) ?_
      refine v_irem K dX12_drawn_101 hM (fun hM => ?_)
      refine v_topi hM (fun x13 hM => ?_)
      refine v_icmp_ge K 226 dX12_drawn_102 (by decide) hM (fun hM => ?_) (fun hM => ?_)
      · refine v_iload K dX12_drawn_226 7 rfl ?_
        refine v_aload_n K dX12_drawn_228 0 rfl ?_
        refine x_Vi (As := []) (st := [.int l8]) K uv_X12_boundMany qm_X12_241 dX12_drawn_229 rv_X12 (fun _ h => c_X12_boundMany l  n  σ h) rfl ⟨(Nat.le_of_ble_eq_true rfl), (Nat.le_of_ble_eq_true rfl)⟩ (Nat.le_of_ble_eq_true rfl) hM (fun r15 s14 hM => ?_)
        refine v_iadd K dX12_drawn_232 ?_
        refine v_topi hM (fun x16 hM => ?_)
        refine v_istore K dX12_drawn_233 (by decide) [(8, .int x16), (0, .ref (ad 0)), (2, .int l2), (3, .int l3), (4, .int l4), (5, .int l5), (6, .int l6), (7, .int l7), (9, .int l9), (10, .int l10)] rfl ?_
        refine v_iinc K dX12_drawn_235 8 rfl (v := (l9 + (1 : Int32))) rfl (by decide) hM (fun y => [(9, .int y), (8, .int x16), (0, .ref (ad 0)), (2, .int l2), (3, .int l3), (4, .int l4), (5, .int l5), (6, .int l6), (7, .int l7), (10, .int l10)]) (fun _ => rfl) (fun x17 hM => ?_)
        refine v_goto (tgt := 80) K dX12_drawn_238 (by decide) ?_
        exact v_sub [2, 3, 4, 5, 6, 7, 8, 1, 0] rfl (ih_2 l2 l3 l4 l5 l6 l7 x16 x17 s14 hM)
      · refine v_iload K dX12_drawn_105 4 rfl ?_
        refine v_ldcw (v := (1103515245 : Int32)) K qc_X12_373 dX12_drawn_107 ?_
        refine v_imul K dX12_drawn_110 ?_
        refine v_sipush (v := (12345 : Int32)) K dX12_drawn_111 (by decide) ?_
        refine v_iadd K dX12_drawn_114 ?_
        refine v_topi hM (fun x18 hM => ?_)
        refine v_istore K dX12_drawn_115 (by decide) [(5, .int x18), (0, .ref (ad 0)), (2, .int l2), (3, .int l3), (4, .int l4), (6, .int l6), (7, .int l7), (8, .int l8), (9, .int l9), (10, .int l10)] rfl ?_
        refine v_iload K dX12_drawn_117 0 rfl ?_
        refine v_iconst (v := (4 : Int32)) K dX12_drawn_119 (by decide) ?_
        refine v_iushr K dX12_drawn_120 ?_
        refine v_aload_n K dX12_drawn_121 1 rfl ?_
        refine g_X12_1 K qf_X12_122 dX12_drawn_122 ?_
        refine v_irem K dX12_drawn_125 hM (fun hM => ?_)
        refine v_topi hM (fun x19 hM => ?_)
        refine v_istore K dX12_drawn_126 (by decide) [(11, .int x19), (5, .int x18), (0, .ref (ad 0)), (2, .int l2), (3, .int l3), (4, .int l4), (6, .int l6), (7, .int l7), (8, .int l8), (9, .int l9), (10, .int l10)] rfl ?_
        refine v_iload K dX12_drawn_128 1 rfl ?_
        refine v_bipush (v := (12 : Int32)) K dX12_drawn_130 (by decide) ?_
        refine v_iushr K dX12_drawn_132 ?_
        refine v_aload_n K dX12_drawn_133 2 rfl ?_
        refine g_X12_1 K qf_X12_122 dX12_drawn_134 ?_
        refine v_iconst (v := (1 : Int32)) K dX12_drawn_137 (by decide) ?_
        refine v_isub K dX12_drawn_138 ?_
        refine v_irem K dX12_drawn_139 hM (fun hM => ?_)
        refine v_topi hM (fun x20 hM => ?_)
        refine v_istore K dX12_drawn_140 (by decide) [(12, .int x20), (11, .int x19), (5, .int x18), (0, .ref (ad 0)), (2, .int l2), (3, .int l3), (4, .int l4), (6, .int l6), (7, .int l7), (8, .int l8), (9, .int l9), (10, .int l10)] rfl ?_
        refine v_iload K dX12_drawn_142 0 rfl ?_
        refine v_iload K dX12_drawn_144 1 rfl ?_
        refine v_icmp_lt K 152 dX12_drawn_146 (by decide) hM (fun hM => ?_) (fun hM => ?_)
        · exact v_sub [3, 4, 5, 6, 2, 7, 8, 9, 10, 11, 1, 0] rfl (ih_4 l2 l3 l4 x18 l6 l7 l8 l9 l10 x19 x20 σ hM)
        · refine v_iinc K dX12_drawn_149 0 rfl (v := (x20 + (1 : Int32))) rfl (by decide) hM (fun y => [(12, .int y), (11, .int x19), (5, .int x18), (0, .ref (ad 0)), (2, .int l2), (3, .int l3), (4, .int l4), (6, .int l6), (7, .int l7), (8, .int l8), (9, .int l9), (10, .int l10)]) (fun _ => rfl) (fun x21 hM => ?_)
          exact v_sub [3, 4, 5, 6, 2, 7, 8, 9, 10, 11, 1, 0] rfl (ih_4 l2 l3 l4 x18 l6 l7 l8 l9 l10 x19 x21 σ hM)
    · intro l2 l3 l4 l5 l6 l7 l8 l9 l10 l11 l12 σ hM
      have hM : B_X12_drawn_4 (L_X12_drawn  n) n  l2 l3 l4 l5 l6 l7 l8 l9 l10 l11 l12 σ = some res := hM
      refine v_aload_n K dX12_drawn_152 0 rfl ?_
      refine g_X12_26 K qf_X12_62 dX12_drawn_153 ?_
      refine v_iload K dX12_drawn_156 10 rfl ?_
      refine ld_R17 K dX12_drawn_158 hM (fun hM => ?_)
      refine v_if_lt K 165 dX12_drawn_159 (by decide) hM (fun hM => ?_) (fun hM => ?_)
      · refine v_iload K dX12_drawn_165 4 rfl ?_
        refine v_bipush (v := (20 : Int32)) K dX12_drawn_167 (by decide) ?_
        refine v_iushr K dX12_drawn_169 ?_
        refine v_bipush (v := (12 : Int32)) K dX12_drawn_170 (by decide) ?_
        refine v_irem K dX12_drawn_172 hM (fun hM => ?_)
        refine v_topi hM (fun x22 hM => ?_)
        refine v_aload_n K dX12_drawn_173 0 rfl ?_
        refine v_iload K dX12_drawn_174 10 rfl ?_
        refine v_iload K dX12_drawn_176 11 rfl ?_
        refine x_Vi (As := [.int l11, .int l12]) (st := [.int x22]) K uv_X12_winsBy qm_X12_260 dX12_drawn_178 rv_X12 (fun _ h => c_X12_winsBy l  n l11 l12 σ h) rfl ⟨(Nat.le_of_ble_eq_true rfl), (Nat.le_of_ble_eq_true rfl)⟩ (Nat.le_of_ble_eq_true rfl) hM (fun r24 s23 hM => ?_)
        refine v_icmp_ge K 188 dX12_drawn_181 (by decide) hM (fun hM => ?_) (fun hM => ?_)
        · refine v_iconst (v := (0 : Int32)) K dX12_drawn_188 (by decide) ?_
          exact v_sub [0, 1, 2, 3, 4, 5, 6, 7, 8, 9, 10, 11] rfl (ih_5 l2 l3 l4 l5 l6 l7 l8 l9 l10 l11 l12 (0 : Int32) s23 hM)
        · refine v_iconst (v := (1 : Int32)) K dX12_drawn_184 (by decide) ?_
          refine v_goto (tgt := 189) K dX12_drawn_185 (by decide) ?_
          exact v_sub [0, 1, 2, 3, 4, 5, 6, 7, 8, 9, 10, 11] rfl (ih_5 l2 l3 l4 l5 l6 l7 l8 l9 l10 l11 l12 (1 : Int32) s23 hM)
      · refine v_goto (tgt := 220) K dX12_drawn_162 (by decide) ?_
        refine v_iinc K dX12_drawn_220 9 rfl (v := (l10 + (1 : Int32))) rfl (by decide) hM (fun y => [(10, .int y), (0, .ref (ad 0)), (2, .int l2), (3, .int l3), (4, .int l4), (5, .int l5), (6, .int l6), (7, .int l7), (8, .int l8), (9, .int l9), (11, .int l11), (12, .int l12)]) (fun _ => rfl) (fun x25 hM => ?_)
        refine v_goto (tgt := 96) K dX12_drawn_223 (by decide) ?_
        exact v_sub [1, 2, 3, 4, 5, 6, 7, 8, 9, 0] rfl (ih_3 l2 l3 l4 l5 l6 l7 l8 l9 x25 σ hM)
    · intro l2 l3 l4 l5 l6 l7 l8 l9 l10 l11 l12 k0 σ hM
      have hM : B_X12_drawn_5 (L_X12_drawn  n) n  l2 l3 l4 l5 l6 l7 l8 l9 l10 l11 l12 k0 σ = some res := hM
      refine v_istore K dX12_drawn_189 (by decide) [(13, .int k0), (0, .ref (ad 0)), (2, .int l2), (3, .int l3), (4, .int l4), (5, .int l5), (6, .int l6), (7, .int l7), (8, .int l8), (9, .int l9), (10, .int l10), (11, .int l11), (12, .int l12)] rfl ?_
      refine v_iinc K dX12_drawn_191 6 rfl (v := (l6 + (1 : Int32))) rfl (by decide) hM (fun y => [(6, .int y), (13, .int k0), (0, .ref (ad 0)), (2, .int l2), (3, .int l3), (4, .int l4), (5, .int l5), (7, .int l7), (8, .int l8), (9, .int l9), (10, .int l10), (11, .int l11), (12, .int l12)]) (fun _ => rfl) (fun x26 hM => ?_)
      refine v_iload K dX12_drawn_194 1 rfl ?_
      refine v_iconst (v := (1 : Int32)) K dX12_drawn_196 (by decide) ?_
      refine v_icmp_ne K 210 dX12_drawn_197 (by decide) hM (fun hM => ?_) (fun hM => ?_)
      · exact v_sub [2, 3, 4, 5, 6, 0, 7, 8, 9, 10, 11, 12, 1] rfl (ih_6 l2 l3 l4 l5 x26 l7 l8 l9 l10 l11 l12 k0 σ hM)
      · refine v_iload K dX12_drawn_200 11 rfl ?_
        refine v_iload K dX12_drawn_202 5 rfl ?_
        refine v_icmp_ne K 210 dX12_drawn_204 (by decide) hM (fun hM => ?_) (fun hM => ?_)
        · exact v_sub [2, 3, 4, 5, 6, 0, 7, 8, 9, 10, 11, 12, 1] rfl (ih_6 l2 l3 l4 l5 x26 l7 l8 l9 l10 l11 l12 k0 σ hM)
        · refine v_iinc K dX12_drawn_207 7 rfl (v := (l7 + (1 : Int32))) rfl (by decide) hM (fun y => [(7, .int y), (6, .int x26), (13, .int k0), (0, .ref (ad 0)), (2, .int l2), (3, .int l3), (4, .int l4), (5, .int l5), (8, .int l8), (9, .int l9), (10, .int l10), (11, .int l11), (12, .int l12)]) (fun _ => rfl) (fun x27 hM => ?_)
          exact v_sub [3, 4, 5, 6, 7, 1, 0, 8, 9, 10, 11, 12, 2] rfl (ih_6 l2 l3 l4 l5 x26 x27 l8 l9 l10 l11 l12 k0 σ hM)
    · intro l2 l3 l4 l5 l6 l7 l8 l9 l10 l11 l12 l13 σ hM
      have hM : B_X12_drawn_6 (L_X12_drawn  n) n  l2 l3 l4 l5 l6 l7 l8 l9 l10 l11 l12 l13 σ = some res := hM
      refine v_aload_n K dX12_drawn_210 0 rfl ?_
      refine v_iload K dX12_drawn_211 10 rfl ?_
      refine v_iload K dX12_drawn_213 11 rfl ?_
      refine v_iload K dX12_drawn_215 12 rfl ?_
      refine x_Vv (As := [.int l11, .int l12, .int l13]) (st := []) K uv_X12_goCase qm_X12_278 dX12_drawn_217 rv_X12 (fun _ h => c_X12_goCase l  n l11 l12 l13 σ h) rfl ⟨(Nat.le_of_ble_eq_true rfl), (Nat.le_of_ble_eq_true rfl)⟩ (Nat.le_of_ble_eq_true rfl) hM (fun s28 hM => ?_)
      refine v_iinc K dX12_drawn_220 9 rfl (v := (l10 + (1 : Int32))) rfl (by decide) hM (fun y => [(10, .int y), (0, .ref (ad 0)), (2, .int l2), (3, .int l3), (4, .int l4), (5, .int l5), (6, .int l6), (7, .int l7), (8, .int l8), (9, .int l9), (11, .int l11), (12, .int l12), (13, .int l13)]) (fun _ => rfl) (fun x29 hM => ?_)
      refine v_goto (tgt := 96) K dX12_drawn_223 (by decide) ?_
      exact v_sub [1, 2, 3, 4, 5, 6, 7, 8, 9, 0] rfl (ih_3 l2 l3 l4 l5 l6 l7 l8 l9 x29 s28 hM)
set_option maxHeartbeats 4000000 in
set_option maxRecDepth 20000 in
theorem c_X12_drawn (l : Launch) {D : va_G} {A : Nat → Prop} {ad : Nat → Nat} {dA : Nat → ClassId}  (n : Nat) (p1 : Int32) (p2 : Int32) (p3 : Int32) (p4 : Int32) (σ : St) {res : Int32 × St} (hM : F_X12_drawn n p1 p2 p3 p4 σ = some res) : MI l yX12_drawn cX12_drawn 14 (some .int) 6 D (tysR dA) (wdR ad dA) A [.ref (ad 0), .int p1, .int p2, .int p3, .int p4] σ (QI D (wdR ad dA) A res) := by
  refine mk_met (by decide +kernel) (Nat.le_of_ble_eq_true rfl) (fun p e s m below meth c K => ?_)
  have K : Cx p s m _ meth c cX12_drawn 14 (some .int) RX12 D (tysR dA) (wdR ad dA) A := K
  obtain ⟨ih_1, ih_2, ih_3, ih_4, ih_5, ih_6⟩ := t_X12_drawn l    K (res := res) n (below := below) (e := e)
  refine v_iload_n K dX12_drawn_0 2 rfl ?_
  refine v_if_lt K 53 dX12_drawn_1 (by decide) hM (fun hM => ?_) (fun hM => ?_)
  · refine v_iconst (v := (-1 : Int32)) K dX12_drawn_53 (by decide) ?_
    exact v_iret K rfl dX12_drawn_54 hM
  · refine v_iload_n K dX12_drawn_4 2 rfl ?_
    refine v_bipush (v := (100 : Int32)) K dX12_drawn_5 (by decide) ?_
    refine v_idiv K dX12_drawn_7 hM (fun hM => ?_)
    refine v_topi hM (fun x1 hM => ?_)
    refine v_iconst (v := (1 : Int32)) K dX12_drawn_8 (by decide) ?_
    refine v_bipush (v := (30 : Int32)) K dX12_drawn_9 (by decide) ?_
    refine x_Si (As := [.int x1, .int (1 : Int32), .int (30 : Int32)]) (st := []) K us_X12_in qm_X12_125 dX12_drawn_11 (fun _ h => c_X12_in l  n x1 (1 : Int32) (30 : Int32) σ h) rfl ⟨(Nat.le_of_ble_eq_true rfl), (Nat.le_of_ble_eq_true rfl)⟩ (Nat.le_of_ble_eq_true rfl) hM (fun r3 s2 hM => ?_)
    refine v_if_eq K 53 dX12_drawn_14 (by decide) hM (fun hM => ?_) (fun hM => ?_)
    · refine v_iconst (v := (-1 : Int32)) K dX12_drawn_53 (by decide) ?_
      exact v_iret K rfl dX12_drawn_54 hM
    · refine v_iload_n K dX12_drawn_17 2 rfl ?_
      refine v_bipush (v := (100 : Int32)) K dX12_drawn_18 (by decide) ?_
      refine v_irem K dX12_drawn_20 hM (fun hM => ?_)
      refine v_topi hM (fun x4 hM => ?_)
      refine v_iconst (v := (1 : Int32)) K dX12_drawn_21 (by decide) ?_
      refine v_bipush (v := (60 : Int32)) K dX12_drawn_22 (by decide) ?_
      refine x_Si (As := [.int x4, .int (1 : Int32), .int (60 : Int32)]) (st := []) K us_X12_in qm_X12_125 dX12_drawn_24 (fun _ h => c_X12_in l  n x4 (1 : Int32) (60 : Int32) s2 h) rfl ⟨(Nat.le_of_ble_eq_true rfl), (Nat.le_of_ble_eq_true rfl)⟩ (Nat.le_of_ble_eq_true rfl) hM (fun r6 s5 hM => ?_)
      refine v_if_eq K 53 dX12_drawn_27 (by decide) hM (fun hM => ?_) (fun hM => ?_)
      · refine v_iconst (v := (-1 : Int32)) K dX12_drawn_53 (by decide) ?_
        exact v_iret K rfl dX12_drawn_54 hM
      · refine v_iload_n K dX12_drawn_30 3 rfl ?_
        refine v_iconst (v := (0 : Int32)) K dX12_drawn_31 (by decide) ?_
        refine v_iconst (v := (2 : Int32)) K dX12_drawn_32 (by decide) ?_
        refine x_Si (As := [.int p3, .int (0 : Int32), .int (2 : Int32)]) (st := []) K us_X12_in qm_X12_125 dX12_drawn_33 (fun _ h => c_X12_in l  n p3 (0 : Int32) (2 : Int32) s5 h) rfl ⟨(Nat.le_of_ble_eq_true rfl), (Nat.le_of_ble_eq_true rfl)⟩ (Nat.le_of_ble_eq_true rfl) hM (fun r8 s7 hM => ?_)
        refine v_if_eq K 53 dX12_drawn_36 (by decide) hM (fun hM => ?_) (fun hM => ?_)
        · refine v_iconst (v := (-1 : Int32)) K dX12_drawn_53 (by decide) ?_
          exact v_iret K rfl dX12_drawn_54 hM
        · refine v_iload_n K dX12_drawn_39 3 rfl ?_
          refine v_iconst (v := (1 : Int32)) K dX12_drawn_40 (by decide) ?_
          refine v_icmp_ne K 55 dX12_drawn_41 (by decide) hM (fun hM => ?_) (fun hM => ?_)
          · exact v_sub [0, 1, 2, 3, 4] rfl (ih_1 p1 p2 p3 p4 s7 hM)
          · refine v_aload_n K dX12_drawn_44 0 rfl ?_
            refine v_iload K dX12_drawn_45 4 rfl ?_
            refine x_Vi (As := [.int p4]) (st := []) K uv_X12_isPerson qm_X12_129 dX12_drawn_47 rv_X12 (fun _ h => c_X12_isPerson l  n p4 s7 h) rfl ⟨(Nat.le_of_ble_eq_true rfl), (Nat.le_of_ble_eq_true rfl)⟩ (Nat.le_of_ble_eq_true rfl) hM (fun r10 s9 hM => ?_)
            refine v_if_ne K 55 dX12_drawn_50 (by decide) hM (fun hM => ?_) (fun hM => ?_)
            · exact v_sub [0, 1, 2, 3, 4] rfl (ih_1 p1 p2 p3 p4 s9 hM)
            · refine v_iconst (v := (-1 : Int32)) K dX12_drawn_53 (by decide) ?_
              exact v_iret K rfl dX12_drawn_54 hM
noncomputable def B_X12_hold_1 (J : Nat → Int32 → Int32 → Int32 → Int32 → Int32 → St → Option (Int32 × St)) (n : Nat)  (l2 : Int32) (l3 : Int32) (l4 : Int32) (l5 : Int32) (l6 : Int32) (σ : St) : Option (Int32 × St) := if (gI σ 0 1) ≤ l6 then (bnd (sI σ 0 29 ((gI σ 0 29) + (1 : Int32))) fun s13 => gd (vp_in (0 : Int32) 5) (gd (vp_in (0 : Int32) 5) (bnd (sI s13 26 ((0 : Int32)).toNatClampNeg ((gI s13 26 ((0 : Int32)).toNatClampNeg) + (1 : Int32))) fun s14 => gd (vp_in (1 : Int32) 5) (gd (vp_in (1 : Int32) 5) (bnd (sI s14 26 ((1 : Int32)).toNatClampNeg ((gI s14 26 ((1 : Int32)).toNatClampNeg) + l2)) fun s15 => gd (vp_in (4 : Int32) 5) (if l2 = (1 : Int32) then (gd (vp_in l4 7) (gd (vp_in (4 : Int32) 5) (bnd (sI s15 26 ((4 : Int32)).toNatClampNeg ((gI s15 26 ((4 : Int32)).toNatClampNeg) + (gI s15 4 (l4).toNatClampNeg))) fun s17 => some (l5, s17)))) else (gd (vp_in l3 7) (gd (vp_in (4 : Int32) 5) (bnd (sI s15 26 ((4 : Int32)).toNatClampNeg ((gI s15 26 ((4 : Int32)).toNatClampNeg) + (gI s15 4 (l3).toNatClampNeg))) fun s16 => some (l5, s16)))))))))) else (gd (vp_in l6 7) (gd (vp_in l6 7) (bnd (sI σ 18 (l6).toNatClampNeg (gI σ 17 (l6).toNatClampNeg)) fun s18 => bnd (l6 + (1 : Int32)) fun x19 => J 1 l2 l3 l4 l5 x19 s18)))
noncomputable def S_X12_hold  (n : Nat) (J : Nat → Int32 → Int32 → Int32 → Int32 → Int32 → St → Option (Int32 × St)) : Nat → Int32 → Int32 → Int32 → Int32 → Int32 → St → Option (Int32 × St) := fun lb a0 a1 a2 a3 a4 σ => match lb with
  | 1 => B_X12_hold_1 J n  a0 a1 a2 a3 a4 σ
  | _ => none
noncomputable def L_X12_hold  (n : Nat) : Nat → Int32 → Int32 → Int32 → Int32 → Int32 → St → Option (Int32 × St) := Nat.rec (fun _ _ _ _ _ _ _ => none) (fun n J => S_X12_hold  n J) n
noncomputable def F_X12_hold (n : Nat) (p1 : Int32) (p2 : Int32) (σ : St) : Option (Int32 × St) := bd (F_X12_areTwo n p1 σ) fun r2 s1 => if r2 = 0 then (some ((-1 : Int32), s1)) else (bd (F_X12_in n p2 (0 : Int32) (1 : Int32) s1) fun r4 s3 => if r4 = 0 then (some ((-1 : Int32), s3)) else (bd (F_X12_beginThought n  s3) fun _ s5 => gd (¬ (10 : Int32) = 0) (bnd (p1 / (10 : Int32)) fun x6 => gd (¬ (10 : Int32) = 0) (bnd (p1 - p1 / (10 : Int32) * (10 : Int32)) fun x7 => bd (F_X12_isLet n x6 x7 s5) fun r9 s8 => if r9 = 0 then (some ((-5 : Int32), s8)) else (bd (F_X12_speaker n x7 s8) fun r11 s10 => bd (F_X12_goCase n x6 x7 p2 s10) fun _ s12 => L_X12_hold  n 1 p2 x6 x7 r11 (0 : Int32) s12)))))
set_option maxHeartbeats 4000000 in
set_option maxRecDepth 20000 in
theorem t_X12_hold (l : Launch) {p : Program} {e : Env} {s : State} {m : MethodId} {args : Array Value} {below : List Frame} {meth : Method} {c : Code} {D : va_G} {A : Nat → Prop} {ad : Nat → Nat} {dA : Nat → ClassId}   (K : Cx p s m args meth c cX12_hold 7 (some .int) RX12 D (tysR dA) (wdR ad dA) A) {res : Int32 × St} (n : Nat) : (∀ (l2 : Int32) (l3 : Int32) (l4 : Int32) (l5 : Int32) (l6 : Int32) (σ : St), L_X12_hold  n 1 l2 l3 l4 l5 l6 σ = some res → V p l e (rmH 4) s m args below meth c 7 D (wdR ad dA) A (MQ below (QI D (wdR ad dA) A res) args s 0 0 A) 66 [(0, .ref (ad 0)), (2, .int l2), (3, .int l3), (4, .int l4), (5, .int l5), (6, .int l6)] [] σ) := by
  induction n with
  | zero => exact (fun _ _ _ _ _ _ h => (by cases h))
  | succ n ih =>
    have ih_1 := ih
    · intro l2 l3 l4 l5 l6 σ hM
      have hM : B_X12_hold_1 (L_X12_hold  n) n  l2 l3 l4 l5 l6 σ = some res := hM
      refine v_iload K dX12_hold_66 5 rfl ?_
      refine v_aload_n K dX12_hold_68 0 rfl ?_
      refine g_X12_1 K qf_X12_122 dX12_hold_69 ?_
      refine v_icmp_ge K 95 dX12_hold_72 (by decide) hM (fun hM => ?_) (fun hM => ?_)
      · refine v_aload_n K dX12_hold_95 0 rfl ?_
        refine v_dup K dX12_hold_96 rfl ?_
        refine g_X12_29 K qf_X12_235 dX12_hold_97 ?_
        refine v_iconst (v := (1 : Int32)) K dX12_hold_100 (by decide) ?_
        refine v_iadd K dX12_hold_101 ?_
        refine p_X12_29 K qf_X12_235 dX12_hold_102 hM (fun s13 hM => ?_)
        refine v_aload_n K dX12_hold_105 0 rfl ?_
        refine g_X12_45 K qf_X12_90 dX12_hold_106 ?_
        refine v_iconst (v := (0 : Int32)) K dX12_hold_109 (by decide) ?_
        refine v_dup2 K dX12_hold_110 rfl rfl ?_
        refine ld_R26 K dX12_hold_111 hM (fun hM => ?_)
        refine v_iconst (v := (1 : Int32)) K dX12_hold_112 (by decide) ?_
        refine v_iadd K dX12_hold_113 ?_
        refine st_R26 K dX12_hold_114 hM (fun s14 hM => ?_)
        refine v_aload_n K dX12_hold_115 0 rfl ?_
        refine g_X12_45 K qf_X12_90 dX12_hold_116 ?_
        refine v_iconst (v := (1 : Int32)) K dX12_hold_119 (by decide) ?_
        refine v_dup2 K dX12_hold_120 rfl rfl ?_
        refine ld_R26 K dX12_hold_121 hM (fun hM => ?_)
        refine v_iload_n K dX12_hold_122 1 rfl ?_
        refine v_iadd K dX12_hold_123 ?_
        refine st_R26 K dX12_hold_124 hM (fun s15 hM => ?_)
        refine v_aload_n K dX12_hold_125 0 rfl ?_
        refine g_X12_45 K qf_X12_90 dX12_hold_126 ?_
        refine v_iconst (v := (4 : Int32)) K dX12_hold_129 (by decide) ?_
        refine v_dup2 K dX12_hold_130 rfl rfl ?_
        refine ld_R26 K dX12_hold_131 hM (fun hM => ?_)
        refine v_aload_n K dX12_hold_132 0 rfl ?_
        refine g_X12_5 K qf_X12_21 dX12_hold_133 ?_
        refine v_iload_n K dX12_hold_136 1 rfl ?_
        refine v_iconst (v := (1 : Int32)) K dX12_hold_137 (by decide) ?_
        refine v_icmp_ne K 146 dX12_hold_138 (by decide) hM (fun hM => ?_) (fun hM => ?_)
        · refine v_iload_n K dX12_hold_146 2 rfl ?_
          refine ld_R4 K dX12_hold_147 hM (fun hM => ?_)
          refine v_iadd K dX12_hold_148 ?_
          refine st_R26 K dX12_hold_149 hM (fun s16 hM => ?_)
          refine v_iload K dX12_hold_150 4 rfl ?_
          exact v_iret K rfl dX12_hold_152 hM
        · refine v_iload K dX12_hold_141 3 rfl ?_
          refine v_goto (tgt := 147) K dX12_hold_143 (by decide) ?_
          refine ld_R4 K dX12_hold_147 hM (fun hM => ?_)
          refine v_iadd K dX12_hold_148 ?_
          refine st_R26 K dX12_hold_149 hM (fun s17 hM => ?_)
          refine v_iload K dX12_hold_150 4 rfl ?_
          exact v_iret K rfl dX12_hold_152 hM
      · refine v_aload_n K dX12_hold_75 0 rfl ?_
        refine g_X12_28 K qf_X12_65 dX12_hold_76 ?_
        refine v_iload K dX12_hold_79 5 rfl ?_
        refine v_aload_n K dX12_hold_81 0 rfl ?_
        refine g_X12_26 K qf_X12_62 dX12_hold_82 ?_
        refine v_iload K dX12_hold_85 5 rfl ?_
        refine ld_R17 K dX12_hold_87 hM (fun hM => ?_)
        refine st_R18 K dX12_hold_88 hM (fun s18 hM => ?_)
        refine v_iinc K dX12_hold_89 5 rfl (v := (l6 + (1 : Int32))) rfl (by decide) hM (fun y => [(6, .int y), (0, .ref (ad 0)), (2, .int l2), (3, .int l3), (4, .int l4), (5, .int l5)]) (fun _ => rfl) (fun x19 hM => ?_)
        refine v_goto (tgt := 66) K dX12_hold_92 (by decide) ?_
        exact v_sub [1, 2, 3, 4, 5, 0] rfl (ih_1 l2 l3 l4 l5 x19 s18 hM)
set_option maxHeartbeats 4000000 in
set_option maxRecDepth 20000 in
theorem c_X12_hold (l : Launch) {D : va_G} {A : Nat → Prop} {ad : Nat → Nat} {dA : Nat → ClassId}  (n : Nat) (p1 : Int32) (p2 : Int32) (σ : St) {res : Int32 × St} (hM : F_X12_hold n p1 p2 σ = some res) : MI l yX12_hold cX12_hold 7 (some .int) 4 D (tysR dA) (wdR ad dA) A [.ref (ad 0), .int p1, .int p2] σ (QI D (wdR ad dA) A res) := by
  refine mk_met (by decide +kernel) (Nat.le_of_ble_eq_true rfl) (fun p e s m below meth c K => ?_)
  have K : Cx p s m _ meth c cX12_hold 7 (some .int) RX12 D (tysR dA) (wdR ad dA) A := K
  have ih_1 := t_X12_hold l    K (res := res) n (below := below) (e := e)
  refine v_aload_n K dX12_hold_0 0 rfl ?_
  refine v_iload_n K dX12_hold_1 1 rfl ?_
  refine x_Vi (As := [.int p1]) (st := []) K uv_X12_areTwo qm_X12_254 dX12_hold_2 rv_X12 (fun _ h => c_X12_areTwo l  n p1 σ h) rfl ⟨(Nat.le_of_ble_eq_true rfl), (Nat.le_of_ble_eq_true rfl)⟩ (Nat.le_of_ble_eq_true rfl) hM (fun r2 s1 hM => ?_)
  refine v_if_eq K 17 dX12_hold_5 (by decide) hM (fun hM => ?_) (fun hM => ?_)
  · refine v_iconst (v := (-1 : Int32)) K dX12_hold_17 (by decide) ?_
    exact v_iret K rfl dX12_hold_18 hM
  · refine v_iload_n K dX12_hold_8 2 rfl ?_
    refine v_iconst (v := (0 : Int32)) K dX12_hold_9 (by decide) ?_
    refine v_iconst (v := (1 : Int32)) K dX12_hold_10 (by decide) ?_
    refine x_Si (As := [.int p2, .int (0 : Int32), .int (1 : Int32)]) (st := []) K us_X12_in qm_X12_125 dX12_hold_11 (fun _ h => c_X12_in l  n p2 (0 : Int32) (1 : Int32) s1 h) rfl ⟨(Nat.le_of_ble_eq_true rfl), (Nat.le_of_ble_eq_true rfl)⟩ (Nat.le_of_ble_eq_true rfl) hM (fun r4 s3 hM => ?_)
    refine v_if_ne K 19 dX12_hold_14 (by decide) hM (fun hM => ?_) (fun hM => ?_)
    · refine v_aload_n K dX12_hold_19 0 rfl ?_
      refine x_Vv (As := []) (st := []) K uv_X12_beginThought qm_X12_257 dX12_hold_20 rv_X12 (fun _ h => c_X12_beginThought l  n  s3 h) rfl ⟨(Nat.le_of_ble_eq_true rfl), (Nat.le_of_ble_eq_true rfl)⟩ (Nat.le_of_ble_eq_true rfl) hM (fun s5 hM => ?_)
      refine v_iload_n K dX12_hold_23 1 rfl ?_
      refine v_bipush (v := (10 : Int32)) K dX12_hold_24 (by decide) ?_
      refine v_idiv K dX12_hold_26 hM (fun hM => ?_)
      refine v_topi hM (fun x6 hM => ?_)
      refine v_istore_n K dX12_hold_27 rfl (by decide) [(3, .int x6), (0, .ref (ad 0)), (1, .int p1), (2, .int p2)] rfl ?_
      refine v_iload_n K dX12_hold_28 2 rfl ?_
      refine v_bipush (v := (10 : Int32)) K dX12_hold_29 (by decide) ?_
      refine v_irem K dX12_hold_31 hM (fun hM => ?_)
      refine v_topi hM (fun x7 hM => ?_)
      refine v_istore K dX12_hold_32 (by decide) [(4, .int x7), (3, .int x6), (0, .ref (ad 0)), (1, .int p1), (2, .int p2)] rfl ?_
      refine v_aload_n K dX12_hold_34 2 rfl ?_
      refine v_iload_n K dX12_hold_35 1 rfl ?_
      refine v_iload K dX12_hold_36 0 rfl ?_
      refine x_Vi (As := [.int x6, .int x7]) (st := []) K uv_X12_isLet qm_X12_270 dX12_hold_38 rv_X12 (fun _ h => c_X12_isLet l  n x6 x7 s5 h) rfl ⟨(Nat.le_of_ble_eq_true rfl), (Nat.le_of_ble_eq_true rfl)⟩ (Nat.le_of_ble_eq_true rfl) hM (fun r9 s8 hM => ?_)
      refine v_if_ne K 47 dX12_hold_41 (by decide) hM (fun hM => ?_) (fun hM => ?_)
      · refine v_aload_n K dX12_hold_47 2 rfl ?_
        refine v_iload K dX12_hold_48 0 rfl ?_
        refine x_Vi (As := [.int x7]) (st := []) K uv_X12_speaker qm_X12_247 dX12_hold_50 rv_X12 (fun _ h => c_X12_speaker l  n x7 s8 h) rfl ⟨(Nat.le_of_ble_eq_true rfl), (Nat.le_of_ble_eq_true rfl)⟩ (Nat.le_of_ble_eq_true rfl) hM (fun r11 s10 hM => ?_)
        refine v_istore K dX12_hold_53 (by decide) [(5, .int r11), (4, .int x7), (3, .int x6), (0, .ref (ad 0)), (1, .int p1), (2, .int p2)] rfl ?_
        refine v_aload_n K dX12_hold_55 3 rfl ?_
        refine v_iload_n K dX12_hold_56 2 rfl ?_
        refine v_iload K dX12_hold_57 1 rfl ?_
        refine v_iload_n K dX12_hold_59 5 rfl ?_
        refine x_Vv (As := [.int x6, .int x7, .int p2]) (st := []) K uv_X12_goCase qm_X12_278 dX12_hold_60 rv_X12 (fun _ h => c_X12_goCase l  n x6 x7 p2 s10 h) rfl ⟨(Nat.le_of_ble_eq_true rfl), (Nat.le_of_ble_eq_true rfl)⟩ (Nat.le_of_ble_eq_true rfl) hM (fun s12 hM => ?_)
        refine v_iconst (v := (0 : Int32)) K dX12_hold_63 (by decide) ?_
        refine v_istore K dX12_hold_64 (by decide) [(6, .int (0 : Int32)), (5, .int r11), (4, .int x7), (3, .int x6), (0, .ref (ad 0)), (1, .int p1), (2, .int p2)] rfl ?_
        exact v_sub [4, 6, 3, 2, 1, 0] rfl (ih_1 p2 x6 x7 r11 (0 : Int32) s12 hM)
      · refine v_bipush (v := (-5 : Int32)) K dX12_hold_44 (by decide) ?_
        exact v_iret K rfl dX12_hold_46 hM
    · refine v_iconst (v := (-1 : Int32)) K dX12_hold_17 (by decide) ?_
      exact v_iret K rfl dX12_hold_18 hM
noncomputable def F_X12_release (n : Nat) (p1 : Int32) (σ : St) : Option (Int32 × St) := bd (F_X12_isPerson n p1 σ) fun r2 s1 => if r2 = 0 then (some ((-2000000000 : Int32), s1)) else (gd (vp_in p1 7) (bnd (gI s1 18 (p1).toNatClampNeg) fun x3 => gd (vp_in p1 7) (bnd (sI s1 18 (p1).toNatClampNeg (-1 : Int32)) fun s4 => gd (vp_in (3 : Int32) 5) (gd (vp_in (3 : Int32) 5) (bnd (sI s4 26 ((3 : Int32)).toNatClampNeg ((gI s4 26 ((3 : Int32)).toNatClampNeg) + (1 : Int32))) fun s5 => some (x3, s5))))))
set_option maxHeartbeats 4000000 in
set_option maxRecDepth 20000 in
theorem c_X12_release (l : Launch) {D : va_G} {A : Nat → Prop} {ad : Nat → Nat} {dA : Nat → ClassId}  (n : Nat) (p1 : Int32) (σ : St) {res : Int32 × St} (hM : F_X12_release n p1 σ = some res) : MI l yX12_release cX12_release 3 (some .int) 3 D (tysR dA) (wdR ad dA) A [.ref (ad 0), .int p1] σ (QI D (wdR ad dA) A res) := by
  refine mk_met (by decide +kernel) (Nat.le_of_ble_eq_true rfl) (fun p e s m below meth c K => ?_)
  have K : Cx p s m _ meth c cX12_release 3 (some .int) RX12 D (tysR dA) (wdR ad dA) A := K
  refine v_aload_n K dX12_release_0 0 rfl ?_
  refine v_iload_n K dX12_release_1 1 rfl ?_
  refine x_Vi (As := [.int p1]) (st := []) K uv_X12_isPerson qm_X12_129 dX12_release_2 rv_X12 (fun _ h => c_X12_isPerson l  n p1 σ h) rfl ⟨(Nat.le_of_ble_eq_true rfl), (Nat.le_of_ble_eq_true rfl)⟩ (Nat.le_of_ble_eq_true rfl) hM (fun r2 s1 hM => ?_)
  refine v_if_ne K 11 dX12_release_5 (by decide) hM (fun hM => ?_) (fun hM => ?_)
  · refine v_aload_n K dX12_release_11 0 rfl ?_
    refine g_X12_28 K qf_X12_65 dX12_release_12 ?_
    refine v_iload_n K dX12_release_15 1 rfl ?_
    refine ld_R18 K dX12_release_16 hM (fun hM => ?_)
    refine v_topi hM (fun x3 hM => ?_)
    refine v_istore_n K dX12_release_17 rfl (by decide) [(2, .int x3), (0, .ref (ad 0)), (1, .int p1)] rfl ?_
    refine v_aload_n K dX12_release_18 1 rfl ?_
    refine g_X12_28 K qf_X12_65 dX12_release_19 ?_
    refine v_iload_n K dX12_release_22 2 rfl ?_
    refine v_iconst (v := (-1 : Int32)) K dX12_release_23 (by decide) ?_
    refine st_R18 K dX12_release_24 hM (fun s4 hM => ?_)
    refine v_aload_n K dX12_release_25 1 rfl ?_
    refine g_X12_45 K qf_X12_90 dX12_release_26 ?_
    refine v_iconst (v := (3 : Int32)) K dX12_release_29 (by decide) ?_
    refine v_dup2 K dX12_release_30 rfl rfl ?_
    refine ld_R26 K dX12_release_31 hM (fun hM => ?_)
    refine v_iconst (v := (1 : Int32)) K dX12_release_32 (by decide) ?_
    refine v_iadd K dX12_release_33 ?_
    refine st_R26 K dX12_release_34 hM (fun s5 hM => ?_)
    refine v_iload_n K dX12_release_35 0 rfl ?_
    exact v_iret K rfl dX12_release_36 hM
  · refine v_ldc (v := (-2000000000 : Int32)) K qc_X12_163 dX12_release_8 ?_
    exact v_iret K rfl dX12_release_10 hM
noncomputable def B_X12_year_1 (J : Nat → Int32 → Int32 → St → Option (Int32 × St)) (n : Nat)  (l1 : Int32) (l2 : Int32) (σ : St) : Option (Int32 × St) := if (gI σ 0 1) ≤ l2 then (bnd (sI σ 0 29 (0 : Int32)) fun s4 => gd (vp_in (2 : Int32) 5) (gd (vp_in (2 : Int32) 5) (bnd (sI s4 26 ((2 : Int32)).toNatClampNeg ((gI s4 26 ((2 : Int32)).toNatClampNeg) + (1 : Int32))) fun s5 => some (l1, s5)))) else (gd (vp_in l2 7) (bnd (sI σ 18 (l2).toNatClampNeg (-1 : Int32)) fun s6 => bnd (l2 + (1 : Int32)) fun x7 => J 1 l1 x7 s6))
noncomputable def S_X12_year  (n : Nat) (J : Nat → Int32 → Int32 → St → Option (Int32 × St)) : Nat → Int32 → Int32 → St → Option (Int32 × St) := fun lb a0 a1 σ => match lb with
  | 1 => B_X12_year_1 J n  a0 a1 σ
  | _ => none
noncomputable def L_X12_year  (n : Nat) : Nat → Int32 → Int32 → St → Option (Int32 × St) := Nat.rec (fun _ _ _ _ => none) (fun n J => S_X12_year  n J) n
noncomputable def F_X12_year (n : Nat)  (σ : St) : Option (Int32 × St) := bd (F_X12_beginThought n  σ) fun _ s1 => bd (F_X12_boundMany n  s1) fun r3 s2 => L_X12_year  n 1 r3 (0 : Int32) s2
set_option maxHeartbeats 4000000 in
set_option maxRecDepth 20000 in
theorem t_X12_year (l : Launch) {p : Program} {e : Env} {s : State} {m : MethodId} {args : Array Value} {below : List Frame} {meth : Method} {c : Code} {D : va_G} {A : Nat → Prop} {ad : Nat → Nat} {dA : Nat → ClassId}   (K : Cx p s m args meth c cX12_year 3 (some .int) RX12 D (tysR dA) (wdR ad dA) A) {res : Int32 × St} (n : Nat) : (∀ (l1 : Int32) (l2 : Int32) (σ : St), L_X12_year  n 1 l1 l2 σ = some res → V p l e (rmH 2) s m args below meth c 3 D (wdR ad dA) A (MQ below (QI D (wdR ad dA) A res) args s 0 0 A) 11 [(0, .ref (ad 0)), (1, .int l1), (2, .int l2)] [] σ) := by
  induction n with
  | zero => exact (fun _ _ _ h => (by cases h))
  | succ n ih =>
    have ih_1 := ih
    · intro l1 l2 σ hM
      have hM : B_X12_year_1 (L_X12_year  n) n  l1 l2 σ = some res := hM
      refine v_iload_n K dX12_year_11 2 rfl ?_
      refine v_aload_n K dX12_year_12 0 rfl ?_
      refine g_X12_1 K qf_X12_122 dX12_year_13 ?_
      refine v_icmp_ge K 32 dX12_year_16 (by decide) hM (fun hM => ?_) (fun hM => ?_)
      · refine v_aload_n K dX12_year_32 0 rfl ?_
        refine v_iconst (v := (0 : Int32)) K dX12_year_33 (by decide) ?_
        refine p_X12_29 K qf_X12_235 dX12_year_34 hM (fun s4 hM => ?_)
        refine v_aload_n K dX12_year_37 0 rfl ?_
        refine g_X12_45 K qf_X12_90 dX12_year_38 ?_
        refine v_iconst (v := (2 : Int32)) K dX12_year_41 (by decide) ?_
        refine v_dup2 K dX12_year_42 rfl rfl ?_
        refine ld_R26 K dX12_year_43 hM (fun hM => ?_)
        refine v_iconst (v := (1 : Int32)) K dX12_year_44 (by decide) ?_
        refine v_iadd K dX12_year_45 ?_
        refine st_R26 K dX12_year_46 hM (fun s5 hM => ?_)
        refine v_iload_n K dX12_year_47 1 rfl ?_
        exact v_iret K rfl dX12_year_48 hM
      · refine v_aload_n K dX12_year_19 0 rfl ?_
        refine g_X12_28 K qf_X12_65 dX12_year_20 ?_
        refine v_iload_n K dX12_year_23 2 rfl ?_
        refine v_iconst (v := (-1 : Int32)) K dX12_year_24 (by decide) ?_
        refine st_R18 K dX12_year_25 hM (fun s6 hM => ?_)
        refine v_iinc K dX12_year_26 2 rfl (v := (l2 + (1 : Int32))) rfl (by decide) hM (fun y => [(2, .int y), (0, .ref (ad 0)), (1, .int l1)]) (fun _ => rfl) (fun x7 hM => ?_)
        refine v_goto (tgt := 11) K dX12_year_29 (by decide) ?_
        exact v_sub [1, 2, 0] rfl (ih_1 l1 x7 s6 hM)
set_option maxHeartbeats 4000000 in
set_option maxRecDepth 20000 in
theorem c_X12_year (l : Launch) {D : va_G} {A : Nat → Prop} {ad : Nat → Nat} {dA : Nat → ClassId}  (n : Nat)  (σ : St) {res : Int32 × St} (hM : F_X12_year n  σ = some res) : MI l yX12_year cX12_year 3 (some .int) 2 D (tysR dA) (wdR ad dA) A [.ref (ad 0)] σ (QI D (wdR ad dA) A res) := by
  refine mk_met (by decide +kernel) (Nat.le_of_ble_eq_true rfl) (fun p e s m below meth c K => ?_)
  have K : Cx p s m _ meth c cX12_year 3 (some .int) RX12 D (tysR dA) (wdR ad dA) A := K
  have ih_1 := t_X12_year l    K (res := res) n (below := below) (e := e)
  refine v_aload_n K dX12_year_0 0 rfl ?_
  refine x_Vv (As := []) (st := []) K uv_X12_beginThought qm_X12_257 dX12_year_1 rv_X12 (fun _ h => c_X12_beginThought l  n  σ h) rfl ⟨(Nat.le_of_ble_eq_true rfl), (Nat.le_of_ble_eq_true rfl)⟩ (Nat.le_of_ble_eq_true rfl) hM (fun s1 hM => ?_)
  refine v_aload_n K dX12_year_4 0 rfl ?_
  refine x_Vi (As := []) (st := []) K uv_X12_boundMany qm_X12_241 dX12_year_5 rv_X12 (fun _ h => c_X12_boundMany l  n  s1 h) rfl ⟨(Nat.le_of_ble_eq_true rfl), (Nat.le_of_ble_eq_true rfl)⟩ (Nat.le_of_ble_eq_true rfl) hM (fun r3 s2 hM => ?_)
  refine v_istore_n K dX12_year_8 rfl (by decide) [(1, .int r3), (0, .ref (ad 0))] rfl ?_
  refine v_iconst (v := (0 : Int32)) K dX12_year_9 (by decide) ?_
  refine v_istore_n K dX12_year_10 rfl (by decide) [(2, .int (0 : Int32)), (1, .int r3), (0, .ref (ad 0))] rfl ?_
  exact v_sub [2, 1, 0] rfl (ih_1 r3 (0 : Int32) s2 hM)
noncomputable def F_X12_led (n : Nat) (p1 : Int32) (σ : St) : Option (Int32 × St) := bd (F_X12_in n p1 (0 : Int32) (4 : Int32) σ) fun r2 s1 => if r2 = 0 then (some ((-1 : Int32), s1)) else (gd (vp_in p1 5) (some ((gI s1 26 (p1).toNatClampNeg), s1)))
set_option maxHeartbeats 4000000 in
set_option maxRecDepth 20000 in
theorem c_X12_led (l : Launch) {D : va_G} {A : Nat → Prop} {ad : Nat → Nat} {dA : Nat → ClassId}  (n : Nat) (p1 : Int32) (σ : St) {res : Int32 × St} (hM : F_X12_led n p1 σ = some res) : MI l yX12_led cX12_led 2 (some .int) 2 D (tysR dA) (wdR ad dA) A [.ref (ad 0), .int p1] σ (QI D (wdR ad dA) A res) := by
  refine mk_met (by decide +kernel) (Nat.le_of_ble_eq_true rfl) (fun p e s m below meth c K => ?_)
  have K : Cx p s m _ meth c cX12_led 2 (some .int) RX12 D (tysR dA) (wdR ad dA) A := K
  refine v_iload_n K dX12_led_0 1 rfl ?_
  refine v_iconst (v := (0 : Int32)) K dX12_led_1 (by decide) ?_
  refine v_iconst (v := (4 : Int32)) K dX12_led_2 (by decide) ?_
  refine x_Si (As := [.int p1, .int (0 : Int32), .int (4 : Int32)]) (st := []) K us_X12_in qm_X12_125 dX12_led_3 (fun _ h => c_X12_in l  n p1 (0 : Int32) (4 : Int32) σ h) rfl ⟨(Nat.le_of_ble_eq_true rfl), (Nat.le_of_ble_eq_true rfl)⟩ (Nat.le_of_ble_eq_true rfl) hM (fun r2 s1 hM => ?_)
  refine v_if_eq K 18 dX12_led_6 (by decide) hM (fun hM => ?_) (fun hM => ?_)
  · refine v_iconst (v := (-1 : Int32)) K dX12_led_18 (by decide) ?_
    exact v_iret K rfl dX12_led_19 hM
  · refine v_aload_n K dX12_led_9 0 rfl ?_
    refine g_X12_45 K qf_X12_90 dX12_led_10 ?_
    refine v_iload_n K dX12_led_13 1 rfl ?_
    refine ld_R26 K dX12_led_14 hM (fun hM => ?_)
    refine v_goto (tgt := 19) K dX12_led_15 (by decide) ?_
    exact v_iret K rfl dX12_led_19 hM
noncomputable def B_X12_image_1 (J : Nat → Int32 → St → Option (Int32 × St)) (n : Nat)  (l1 : Int32) (σ : St) : Option (Int32 × St) := if (7 : Int32) ≤ l1 then (J 2 (0 : Int32) σ) else (if (gI σ 0 1) ≤ l1 then (gd (vp_in l1 7) (bnd (sI σ 27 (l1).toNatClampNeg (-1 : Int32)) fun s3 => bnd (l1 + (1 : Int32)) fun x4 => J 1 x4 s3)) else (gd (vp_in l1 7) (gd (vp_in l1 7) (bnd (sI σ 27 (l1).toNatClampNeg (gI σ 18 (l1).toNatClampNeg)) fun s5 => bnd (l1 + (1 : Int32)) fun x6 => J 1 x6 s5))))
noncomputable def B_X12_image_2 (J : Nat → Int32 → St → Option (Int32 × St)) (n : Nat)  (l1 : Int32) (σ : St) : Option (Int32 × St) := if (5 : Int32) ≤ l1 then (gd (vp_in (0 : Int32) 5) (some ((gI σ 26 ((0 : Int32)).toNatClampNeg), σ))) else (gd (vp_in l1 5) (gd (vp_in l1 5) (bnd (sI σ 28 (l1).toNatClampNeg (gI σ 26 (l1).toNatClampNeg)) fun s7 => bnd (l1 + (1 : Int32)) fun x8 => J 2 x8 s7)))
noncomputable def S_X12_image  (n : Nat) (J : Nat → Int32 → St → Option (Int32 × St)) : Nat → Int32 → St → Option (Int32 × St) := fun lb a0 σ => match lb with
  | 1 => B_X12_image_1 J n  a0 σ
  | 2 => B_X12_image_2 J n  a0 σ
  | _ => none
noncomputable def L_X12_image  (n : Nat) : Nat → Int32 → St → Option (Int32 × St) := Nat.rec (fun _ _ _ => none) (fun n J => S_X12_image  n J) n
noncomputable def F_X12_image (n : Nat)  (σ : St) : Option (Int32 × St) := bnd (sI σ 0 46 (1 : Int32)) fun s1 => bnd (sI s1 0 47 (gI s1 0 29)) fun s2 => L_X12_image  n 1 (0 : Int32) s2
set_option maxHeartbeats 4000000 in
set_option maxRecDepth 20000 in
theorem t_X12_image (l : Launch) {p : Program} {e : Env} {s : State} {m : MethodId} {args : Array Value} {below : List Frame} {meth : Method} {c : Code} {D : va_G} {A : Nat → Prop} {ad : Nat → Nat} {dA : Nat → ClassId}   (K : Cx p s m args meth c cX12_image 2 (some .int) RX12 D (tysR dA) (wdR ad dA) A) {res : Int32 × St} (n : Nat) : (∀ (l1 : Int32) (σ : St), L_X12_image  n 1 l1 σ = some res → V p l e (rmH 1) s m args below meth c 2 D (wdR ad dA) A (MQ below (QI D (wdR ad dA) A res) args s 0 0 A) 15 [(0, .ref (ad 0)), (1, .int l1)] [] σ) ∧ (∀ (l1 : Int32) (σ : St), L_X12_image  n 2 l1 σ = some res → V p l e (rmH 1) s m args below meth c 2 D (wdR ad dA) A (MQ below (QI D (wdR ad dA) A res) args s 0 0 A) 53 [(0, .ref (ad 0)), (1, .int l1)] [] σ) := by
  induction n with
  | zero => exact ⟨fun _ _ h => (by cases h), fun _ _ h => (by cases h)⟩
  | succ n ih =>
    obtain ⟨ih_1, ih_2⟩ := ih
    refine ⟨?_, ?_⟩
    · intro l1 σ hM
      have hM : B_X12_image_1 (L_X12_image  n) n  l1 σ = some res := hM
      refine v_iload_n K dX12_image_15 1 rfl ?_
      refine v_bipush (v := (7 : Int32)) K dX12_image_16 (by decide) ?_
      refine v_icmp_ge K 51 dX12_image_18 (by decide) hM (fun hM => ?_) (fun hM => ?_)
      · refine v_iconst (v := (0 : Int32)) K dX12_image_51 (by decide) ?_
        refine v_istore_n K dX12_image_52 rfl (by decide) [(1, .int (0 : Int32)), (0, .ref (ad 0))] rfl ?_
        exact v_sub [1, 0] rfl (ih_2 (0 : Int32) σ hM)
      · refine v_aload_n K dX12_image_21 0 rfl ?_
        refine g_X12_48 K qf_X12_93 dX12_image_22 ?_
        refine v_iload_n K dX12_image_25 1 rfl ?_
        refine v_iload_n K dX12_image_26 1 rfl ?_
        refine v_aload_n K dX12_image_27 0 rfl ?_
        refine g_X12_1 K qf_X12_122 dX12_image_28 ?_
        refine v_icmp_ge K 43 dX12_image_31 (by decide) hM (fun hM => ?_) (fun hM => ?_)
        · refine v_iconst (v := (-1 : Int32)) K dX12_image_43 (by decide) ?_
          refine st_R27 K dX12_image_44 hM (fun s3 hM => ?_)
          refine v_iinc K dX12_image_45 1 rfl (v := (l1 + (1 : Int32))) rfl (by decide) hM (fun y => [(1, .int y), (0, .ref (ad 0))]) (fun _ => rfl) (fun x4 hM => ?_)
          refine v_goto (tgt := 15) K dX12_image_48 (by decide) ?_
          exact v_sub [1, 0] rfl (ih_1 x4 s3 hM)
        · refine v_aload_n K dX12_image_34 0 rfl ?_
          refine g_X12_28 K qf_X12_65 dX12_image_35 ?_
          refine v_iload_n K dX12_image_38 1 rfl ?_
          refine ld_R18 K dX12_image_39 hM (fun hM => ?_)
          refine v_goto (tgt := 44) K dX12_image_40 (by decide) ?_
          refine st_R27 K dX12_image_44 hM (fun s5 hM => ?_)
          refine v_iinc K dX12_image_45 1 rfl (v := (l1 + (1 : Int32))) rfl (by decide) hM (fun y => [(1, .int y), (0, .ref (ad 0))]) (fun _ => rfl) (fun x6 hM => ?_)
          refine v_goto (tgt := 15) K dX12_image_48 (by decide) ?_
          exact v_sub [1, 0] rfl (ih_1 x6 s5 hM)
    · intro l1 σ hM
      have hM : B_X12_image_2 (L_X12_image  n) n  l1 σ = some res := hM
      refine v_iload_n K dX12_image_53 1 rfl ?_
      refine v_iconst (v := (5 : Int32)) K dX12_image_54 (by decide) ?_
      refine v_icmp_ge K 76 dX12_image_55 (by decide) hM (fun hM => ?_) (fun hM => ?_)
      · refine v_aload_n K dX12_image_76 0 rfl ?_
        refine g_X12_45 K qf_X12_90 dX12_image_77 ?_
        refine v_iconst (v := (0 : Int32)) K dX12_image_80 (by decide) ?_
        refine ld_R26 K dX12_image_81 hM (fun hM => ?_)
        exact v_iret K rfl dX12_image_82 hM
      · refine v_aload_n K dX12_image_58 0 rfl ?_
        refine g_X12_49 K qf_X12_96 dX12_image_59 ?_
        refine v_iload_n K dX12_image_62 1 rfl ?_
        refine v_aload_n K dX12_image_63 0 rfl ?_
        refine g_X12_45 K qf_X12_90 dX12_image_64 ?_
        refine v_iload_n K dX12_image_67 1 rfl ?_
        refine ld_R26 K dX12_image_68 hM (fun hM => ?_)
        refine st_R28 K dX12_image_69 hM (fun s7 hM => ?_)
        refine v_iinc K dX12_image_70 1 rfl (v := (l1 + (1 : Int32))) rfl (by decide) hM (fun y => [(1, .int y), (0, .ref (ad 0))]) (fun _ => rfl) (fun x8 hM => ?_)
        refine v_goto (tgt := 53) K dX12_image_73 (by decide) ?_
        exact v_sub [1, 0] rfl (ih_2 x8 s7 hM)
set_option maxHeartbeats 4000000 in
set_option maxRecDepth 20000 in
theorem c_X12_image (l : Launch) {D : va_G} {A : Nat → Prop} {ad : Nat → Nat} {dA : Nat → ClassId}  (n : Nat)  (σ : St) {res : Int32 × St} (hM : F_X12_image n  σ = some res) : MI l yX12_image cX12_image 2 (some .int) 1 D (tysR dA) (wdR ad dA) A [.ref (ad 0)] σ (QI D (wdR ad dA) A res) := by
  refine mk_met (by decide +kernel) (Nat.le_of_ble_eq_true rfl) (fun p e s m below meth c K => ?_)
  have K : Cx p s m _ meth c cX12_image 2 (some .int) RX12 D (tysR dA) (wdR ad dA) A := K
  obtain ⟨ih_1, ih_2⟩ := t_X12_image l    K (res := res) n (below := below) (e := e)
  refine v_aload_n K dX12_image_0 0 rfl ?_
  refine v_iconst (v := (1 : Int32)) K dX12_image_1 (by decide) ?_
  refine p_X12_46 K qf_X12_374 rfl rfl dX12_image_2 hM (fun s1 hM => ?_)
  refine v_aload_n K dX12_image_5 0 rfl ?_
  refine v_aload_n K dX12_image_6 0 rfl ?_
  refine g_X12_29 K qf_X12_235 dX12_image_7 ?_
  refine p_X12_47 K qf_X12_377 dX12_image_10 hM (fun s2 hM => ?_)
  refine v_iconst (v := (0 : Int32)) K dX12_image_13 (by decide) ?_
  refine v_istore_n K dX12_image_14 rfl (by decide) [(1, .int (0 : Int32)), (0, .ref (ad 0))] rfl ?_
  exact v_sub [1, 0] rfl (ih_1 (0 : Int32) s2 hM)
noncomputable def B_X12_back_1 (J : Nat → Int32 → St → Option (Int32 × St)) (n : Nat)  (l1 : Int32) (σ : St) : Option (Int32 × St) := if (7 : Int32) ≤ l1 then (J 2 (0 : Int32) σ) else (gd (vp_in l1 7) (gd (vp_in l1 7) (bnd (sI σ 18 (l1).toNatClampNeg (gI σ 27 (l1).toNatClampNeg)) fun s2 => bnd (l1 + (1 : Int32)) fun x3 => J 1 x3 s2)))
noncomputable def B_X12_back_2 (J : Nat → Int32 → St → Option (Int32 × St)) (n : Nat)  (l1 : Int32) (σ : St) : Option (Int32 × St) := if (5 : Int32) ≤ l1 then (gd (vp_in (0 : Int32) 5) (some ((gI σ 26 ((0 : Int32)).toNatClampNeg), σ))) else (gd (vp_in l1 5) (gd (vp_in l1 5) (bnd (sI σ 26 (l1).toNatClampNeg (gI σ 28 (l1).toNatClampNeg)) fun s4 => bnd (l1 + (1 : Int32)) fun x5 => J 2 x5 s4)))
noncomputable def S_X12_back  (n : Nat) (J : Nat → Int32 → St → Option (Int32 × St)) : Nat → Int32 → St → Option (Int32 × St) := fun lb a0 σ => match lb with
  | 1 => B_X12_back_1 J n  a0 σ
  | 2 => B_X12_back_2 J n  a0 σ
  | _ => none
noncomputable def L_X12_back  (n : Nat) : Nat → Int32 → St → Option (Int32 × St) := Nat.rec (fun _ _ _ => none) (fun n J => S_X12_back  n J) n
noncomputable def F_X12_back (n : Nat)  (σ : St) : Option (Int32 × St) := if (gI σ 0 46) = 0 then (some ((-5 : Int32), σ)) else (bnd (sI σ 0 29 (gI σ 0 47)) fun s1 => L_X12_back  n 1 (0 : Int32) s1)
set_option maxHeartbeats 4000000 in
set_option maxRecDepth 20000 in
theorem t_X12_back (l : Launch) {p : Program} {e : Env} {s : State} {m : MethodId} {args : Array Value} {below : List Frame} {meth : Method} {c : Code} {D : va_G} {A : Nat → Prop} {ad : Nat → Nat} {dA : Nat → ClassId}   (K : Cx p s m args meth c cX12_back 2 (some .int) RX12 D (tysR dA) (wdR ad dA) A) {res : Int32 × St} (n : Nat) : (∀ (l1 : Int32) (σ : St), L_X12_back  n 1 l1 σ = some res → V p l e (rmH 1) s m args below meth c 2 D (wdR ad dA) A (MQ below (QI D (wdR ad dA) A res) args s 0 0 A) 20 [(0, .ref (ad 0)), (1, .int l1)] [] σ) ∧ (∀ (l1 : Int32) (σ : St), L_X12_back  n 2 l1 σ = some res → V p l e (rmH 1) s m args below meth c 2 D (wdR ad dA) A (MQ below (QI D (wdR ad dA) A res) args s 0 0 A) 46 [(0, .ref (ad 0)), (1, .int l1)] [] σ) := by
  induction n with
  | zero => exact ⟨fun _ _ h => (by cases h), fun _ _ h => (by cases h)⟩
  | succ n ih =>
    obtain ⟨ih_1, ih_2⟩ := ih
    refine ⟨?_, ?_⟩
    · intro l1 σ hM
      have hM : B_X12_back_1 (L_X12_back  n) n  l1 σ = some res := hM
      refine v_iload_n K dX12_back_20 1 rfl ?_
      refine v_bipush (v := (7 : Int32)) K dX12_back_21 (by decide) ?_
      refine v_icmp_ge K 44 dX12_back_23 (by decide) hM (fun hM => ?_) (fun hM => ?_)
      · refine v_iconst (v := (0 : Int32)) K dX12_back_44 (by decide) ?_
        refine v_istore_n K dX12_back_45 rfl (by decide) [(1, .int (0 : Int32)), (0, .ref (ad 0))] rfl ?_
        exact v_sub [1, 0] rfl (ih_2 (0 : Int32) σ hM)
      · refine v_aload_n K dX12_back_26 0 rfl ?_
        refine g_X12_28 K qf_X12_65 dX12_back_27 ?_
        refine v_iload_n K dX12_back_30 1 rfl ?_
        refine v_aload_n K dX12_back_31 0 rfl ?_
        refine g_X12_48 K qf_X12_93 dX12_back_32 ?_
        refine v_iload_n K dX12_back_35 1 rfl ?_
        refine ld_R27 K dX12_back_36 hM (fun hM => ?_)
        refine st_R18 K dX12_back_37 hM (fun s2 hM => ?_)
        refine v_iinc K dX12_back_38 1 rfl (v := (l1 + (1 : Int32))) rfl (by decide) hM (fun y => [(1, .int y), (0, .ref (ad 0))]) (fun _ => rfl) (fun x3 hM => ?_)
        refine v_goto (tgt := 20) K dX12_back_41 (by decide) ?_
        exact v_sub [1, 0] rfl (ih_1 x3 s2 hM)
    · intro l1 σ hM
      have hM : B_X12_back_2 (L_X12_back  n) n  l1 σ = some res := hM
      refine v_iload_n K dX12_back_46 1 rfl ?_
      refine v_iconst (v := (5 : Int32)) K dX12_back_47 (by decide) ?_
      refine v_icmp_ge K 69 dX12_back_48 (by decide) hM (fun hM => ?_) (fun hM => ?_)
      · refine v_aload_n K dX12_back_69 0 rfl ?_
        refine g_X12_45 K qf_X12_90 dX12_back_70 ?_
        refine v_iconst (v := (0 : Int32)) K dX12_back_73 (by decide) ?_
        refine ld_R26 K dX12_back_74 hM (fun hM => ?_)
        exact v_iret K rfl dX12_back_75 hM
      · refine v_aload_n K dX12_back_51 0 rfl ?_
        refine g_X12_45 K qf_X12_90 dX12_back_52 ?_
        refine v_iload_n K dX12_back_55 1 rfl ?_
        refine v_aload_n K dX12_back_56 0 rfl ?_
        refine g_X12_49 K qf_X12_96 dX12_back_57 ?_
        refine v_iload_n K dX12_back_60 1 rfl ?_
        refine ld_R28 K dX12_back_61 hM (fun hM => ?_)
        refine st_R26 K dX12_back_62 hM (fun s4 hM => ?_)
        refine v_iinc K dX12_back_63 1 rfl (v := (l1 + (1 : Int32))) rfl (by decide) hM (fun y => [(1, .int y), (0, .ref (ad 0))]) (fun _ => rfl) (fun x5 hM => ?_)
        refine v_goto (tgt := 46) K dX12_back_66 (by decide) ?_
        exact v_sub [1, 0] rfl (ih_2 x5 s4 hM)
set_option maxHeartbeats 4000000 in
set_option maxRecDepth 20000 in
theorem c_X12_back (l : Launch) {D : va_G} {A : Nat → Prop} {ad : Nat → Nat} {dA : Nat → ClassId}  (n : Nat)  (σ : St) {res : Int32 × St} (hM : F_X12_back n  σ = some res) : MI l yX12_back cX12_back 2 (some .int) 1 D (tysR dA) (wdR ad dA) A [.ref (ad 0)] σ (QI D (wdR ad dA) A res) := by
  refine mk_met (by decide +kernel) (Nat.le_of_ble_eq_true rfl) (fun p e s m below meth c K => ?_)
  have K : Cx p s m _ meth c cX12_back 2 (some .int) RX12 D (tysR dA) (wdR ad dA) A := K
  obtain ⟨ih_1, ih_2⟩ := t_X12_back l    K (res := res) n (below := below) (e := e)
  refine v_aload_n K dX12_back_0 0 rfl ?_
  refine g_X12_46 K qf_X12_374 dX12_back_1 ?_
  refine v_if_ne K 10 dX12_back_4 (by decide) hM (fun hM => ?_) (fun hM => ?_)
  · refine v_aload_n K dX12_back_10 0 rfl ?_
    refine v_aload_n K dX12_back_11 0 rfl ?_
    refine g_X12_47 K qf_X12_377 dX12_back_12 ?_
    refine p_X12_29 K qf_X12_235 dX12_back_15 hM (fun s1 hM => ?_)
    refine v_iconst (v := (0 : Int32)) K dX12_back_18 (by decide) ?_
    refine v_istore_n K dX12_back_19 rfl (by decide) [(1, .int (0 : Int32)), (0, .ref (ad 0))] rfl ?_
    exact v_sub [1, 0] rfl (ih_1 (0 : Int32) s1 hM)
  · refine v_bipush (v := (-5 : Int32)) K dX12_back_7 (by decide) ?_
    exact v_iret K rfl dX12_back_9 hM
noncomputable def F_X12_isBody (n : Nat) (p1 : Int32) (σ : St) : Option (Int32 × St) := bd (F_X12_in n p1 (0 : Int32) ((gI σ 0 50) - (1 : Int32)) σ) fun r2 s1 => gd (narrow .boolean (.int r2) = .int r2) (some (r2, s1))
set_option maxHeartbeats 4000000 in
set_option maxRecDepth 20000 in
theorem c_X12_isBody (l : Launch) {D : va_G} {A : Nat → Prop} {ad : Nat → Nat} {dA : Nat → ClassId}  (n : Nat) (p1 : Int32) (σ : St) {res : Int32 × St} (hM : F_X12_isBody n p1 σ = some res) : MI l yX12_isBody cX12_isBody 2 (some .boolean) 2 D (tysR dA) (wdR ad dA) A [.ref (ad 0), .int p1] σ (QI D (wdR ad dA) A res) := by
  refine mk_met (by decide +kernel) (Nat.le_of_ble_eq_true rfl) (fun p e s m below meth c K => ?_)
  have K : Cx p s m _ meth c cX12_isBody 2 (some .boolean) RX12 D (tysR dA) (wdR ad dA) A := K
  refine v_iload_n K dX12_isBody_0 1 rfl ?_
  refine v_iconst (v := (0 : Int32)) K dX12_isBody_1 (by decide) ?_
  refine v_aload_n K dX12_isBody_2 0 rfl ?_
  refine g_X12_50 K qf_X12_380 dX12_isBody_3 ?_
  refine v_iconst (v := (1 : Int32)) K dX12_isBody_6 (by decide) ?_
  refine v_isub K dX12_isBody_7 ?_
  refine x_Si (As := [.int p1, .int (0 : Int32), .int ((gI σ 0 50) - (1 : Int32))]) (st := []) K us_X12_in qm_X12_125 dX12_isBody_8 (fun _ h => c_X12_in l  n p1 (0 : Int32) ((gI σ 0 50) - (1 : Int32)) σ h) rfl ⟨(Nat.le_of_ble_eq_true rfl), (Nat.le_of_ble_eq_true rfl)⟩ (Nat.le_of_ble_eq_true rfl) hM (fun r2 s1 hM => ?_)
  exact v_zretG K rfl dX12_isBody_11 hM
noncomputable def F_X12_ran (n : Nat) (p1 : Int32) (σ : St) : Option (Unit × St) := if (24 : Int32) ≤ (gI σ 0 52) then (bnd (sI σ 0 52 ((gI σ 0 52) + (1 : Int32))) fun s1 => some ((), s1)) else (gd (vp_in (gI σ 0 52) 24) (bnd (sI σ 30 ((gI σ 0 52)).toNatClampNeg p1) fun s2 => bnd (sI s2 0 52 ((gI s2 0 52) + (1 : Int32))) fun s3 => some ((), s3)))
set_option maxHeartbeats 4000000 in
set_option maxRecDepth 20000 in
theorem c_X12_ran (l : Launch) {D : va_G} {A : Nat → Prop} {ad : Nat → Nat} {dA : Nat → ClassId}  (n : Nat) (p1 : Int32) (σ : St) {res : Unit × St} (hM : F_X12_ran n p1 σ = some res) : MI l yX12_ran cX12_ran 2 none 1 D (tysR dA) (wdR ad dA) A [.ref (ad 0), .int p1] σ (QV D (wdR ad dA) A res) := by
  refine mk_met (by decide +kernel) (Nat.le_of_ble_eq_true rfl) (fun p e s m below meth c K => ?_)
  have K : Cx p s m _ meth c cX12_ran 2 none RX12 D (tysR dA) (wdR ad dA) A := K
  refine v_aload_n K dX12_ran_0 0 rfl ?_
  refine g_X12_52 K qf_X12_383 dX12_ran_1 ?_
  refine v_bipush (v := (24 : Int32)) K dX12_ran_4 (by decide) ?_
  refine v_icmp_ge K 19 dX12_ran_6 (by decide) hM (fun hM => ?_) (fun hM => ?_)
  · refine v_aload_n K dX12_ran_19 0 rfl ?_
    refine v_dup K dX12_ran_20 rfl ?_
    refine g_X12_52 K qf_X12_383 dX12_ran_21 ?_
    refine v_iconst (v := (1 : Int32)) K dX12_ran_24 (by decide) ?_
    refine v_iadd K dX12_ran_25 ?_
    refine p_X12_52 K qf_X12_383 dX12_ran_26 hM (fun s1 hM => ?_)
    exact v_vret K rfl dX12_ran_29 hM
  · refine v_aload_n K dX12_ran_9 0 rfl ?_
    refine g_X12_53 K qf_X12_102 dX12_ran_10 ?_
    refine v_aload_n K dX12_ran_13 0 rfl ?_
    refine g_X12_52 K qf_X12_383 dX12_ran_14 ?_
    refine v_iload_n K dX12_ran_17 1 rfl ?_
    refine st_R30 K dX12_ran_18 hM (fun s2 hM => ?_)
    refine v_aload_n K dX12_ran_19 0 rfl ?_
    refine v_dup K dX12_ran_20 rfl ?_
    refine g_X12_52 K qf_X12_383 dX12_ran_21 ?_
    refine v_iconst (v := (1 : Int32)) K dX12_ran_24 (by decide) ?_
    refine v_iadd K dX12_ran_25 ?_
    refine p_X12_52 K qf_X12_383 dX12_ran_26 hM (fun s3 hM => ?_)
    exact v_vret K rfl dX12_ran_29 hM
noncomputable def F_X12_trace (n : Nat) (p1 : Int32) (σ : St) : Option (Int32 × St) := if p1 < 0 then (some ((-1 : Int32), σ)) else (if (gI σ 0 52) ≤ p1 then (some ((-1 : Int32), σ)) else (if (24 : Int32) ≤ p1 then (some ((-1 : Int32), σ)) else (gd (vp_in p1 24) (some ((gI σ 30 (p1).toNatClampNeg), σ)))))
set_option maxHeartbeats 4000000 in
set_option maxRecDepth 20000 in
theorem c_X12_trace (l : Launch) {D : va_G} {A : Nat → Prop} {ad : Nat → Nat} {dA : Nat → ClassId}  (n : Nat) (p1 : Int32) (σ : St) {res : Int32 × St} (hM : F_X12_trace n p1 σ = some res) : MI l yX12_trace cX12_trace 2 (some .int) 1 D (tysR dA) (wdR ad dA) A [.ref (ad 0), .int p1] σ (QI D (wdR ad dA) A res) := by
  refine mk_met (by decide +kernel) (Nat.le_of_ble_eq_true rfl) (fun p e s m below meth c K => ?_)
  have K : Cx p s m _ meth c cX12_trace 2 (some .int) RX12 D (tysR dA) (wdR ad dA) A := K
  refine v_iload_n K dX12_trace_0 1 rfl ?_
  refine v_if_lt K 27 dX12_trace_1 (by decide) hM (fun hM => ?_) (fun hM => ?_)
  · refine v_iconst (v := (-1 : Int32)) K dX12_trace_27 (by decide) ?_
    exact v_iret K rfl dX12_trace_28 hM
  · refine v_iload_n K dX12_trace_4 1 rfl ?_
    refine v_aload_n K dX12_trace_5 0 rfl ?_
    refine g_X12_52 K qf_X12_383 dX12_trace_6 ?_
    refine v_icmp_ge K 27 dX12_trace_9 (by decide) hM (fun hM => ?_) (fun hM => ?_)
    · refine v_iconst (v := (-1 : Int32)) K dX12_trace_27 (by decide) ?_
      exact v_iret K rfl dX12_trace_28 hM
    · refine v_iload_n K dX12_trace_12 1 rfl ?_
      refine v_bipush (v := (24 : Int32)) K dX12_trace_13 (by decide) ?_
      refine v_icmp_ge K 27 dX12_trace_15 (by decide) hM (fun hM => ?_) (fun hM => ?_)
      · refine v_iconst (v := (-1 : Int32)) K dX12_trace_27 (by decide) ?_
        exact v_iret K rfl dX12_trace_28 hM
      · refine v_aload_n K dX12_trace_18 0 rfl ?_
        refine g_X12_53 K qf_X12_102 dX12_trace_19 ?_
        refine v_iload_n K dX12_trace_22 1 rfl ?_
        refine ld_R30 K dX12_trace_23 hM (fun hM => ?_)
        refine v_goto (tgt := 28) K dX12_trace_24 (by decide) ?_
        exact v_iret K rfl dX12_trace_28 hM
noncomputable def F_X12_body (n : Nat) (p1 : Int32) (σ : St) : Option (Int32 × St) := bd (F_X12_in n p1 (0 : Int32) (7 : Int32) σ) fun r2 s1 => if r2 = 0 then (some ((-1 : Int32), s1)) else (if (gI s1 0 50) = (50 : Int32) then (some ((-3 : Int32), s1)) else (gd (vp_in (gI s1 0 50) 50) (bnd (sI s1 29 ((gI s1 0 50)).toNatClampNeg p1) fun s3 => bnd (sI s3 0 50 ((gI s3 0 50) + (1 : Int32))) fun s4 => some (((gI s4 0 50) - (1 : Int32)), s4))))
set_option maxHeartbeats 4000000 in
set_option maxRecDepth 20000 in
theorem c_X12_body (l : Launch) {D : va_G} {A : Nat → Prop} {ad : Nat → Nat} {dA : Nat → ClassId}  (n : Nat) (p1 : Int32) (σ : St) {res : Int32 × St} (hM : F_X12_body n p1 σ = some res) : MI l yX12_body cX12_body 2 (some .int) 2 D (tysR dA) (wdR ad dA) A [.ref (ad 0), .int p1] σ (QI D (wdR ad dA) A res) := by
  refine mk_met (by decide +kernel) (Nat.le_of_ble_eq_true rfl) (fun p e s m below meth c K => ?_)
  have K : Cx p s m _ meth c cX12_body 2 (some .int) RX12 D (tysR dA) (wdR ad dA) A := K
  refine v_iload_n K dX12_body_0 1 rfl ?_
  refine v_iconst (v := (0 : Int32)) K dX12_body_1 (by decide) ?_
  refine v_bipush (v := (7 : Int32)) K dX12_body_2 (by decide) ?_
  refine x_Si (As := [.int p1, .int (0 : Int32), .int (7 : Int32)]) (st := []) K us_X12_in qm_X12_125 dX12_body_4 (fun _ h => c_X12_in l  n p1 (0 : Int32) (7 : Int32) σ h) rfl ⟨(Nat.le_of_ble_eq_true rfl), (Nat.le_of_ble_eq_true rfl)⟩ (Nat.le_of_ble_eq_true rfl) hM (fun r2 s1 hM => ?_)
  refine v_if_ne K 12 dX12_body_7 (by decide) hM (fun hM => ?_) (fun hM => ?_)
  · refine v_aload_n K dX12_body_12 0 rfl ?_
    refine g_X12_50 K qf_X12_380 dX12_body_13 ?_
    refine v_bipush (v := (50 : Int32)) K dX12_body_16 (by decide) ?_
    refine v_icmp_ne K 24 dX12_body_18 (by decide) hM (fun hM => ?_) (fun hM => ?_)
    · refine v_aload_n K dX12_body_24 0 rfl ?_
      refine g_X12_51 K qf_X12_99 dX12_body_25 ?_
      refine v_aload_n K dX12_body_28 0 rfl ?_
      refine g_X12_50 K qf_X12_380 dX12_body_29 ?_
      refine v_iload_n K dX12_body_32 1 rfl ?_
      refine st_R29 K dX12_body_33 hM (fun s3 hM => ?_)
      refine v_aload_n K dX12_body_34 0 rfl ?_
      refine v_dup K dX12_body_35 rfl ?_
      refine g_X12_50 K qf_X12_380 dX12_body_36 ?_
      refine v_iconst (v := (1 : Int32)) K dX12_body_39 (by decide) ?_
      refine v_iadd K dX12_body_40 ?_
      refine p_X12_50 K qf_X12_380 dX12_body_41 hM (fun s4 hM => ?_)
      refine v_aload_n K dX12_body_44 0 rfl ?_
      refine g_X12_50 K qf_X12_380 dX12_body_45 ?_
      refine v_iconst (v := (1 : Int32)) K dX12_body_48 (by decide) ?_
      refine v_isub K dX12_body_49 ?_
      exact v_iret K rfl dX12_body_50 hM
    · refine v_bipush (v := (-3 : Int32)) K dX12_body_21 (by decide) ?_
      exact v_iret K rfl dX12_body_23 hM
  · refine v_iconst (v := (-1 : Int32)) K dX12_body_10 (by decide) ?_
    exact v_iret K rfl dX12_body_11 hM
noncomputable def B_X12_isUnder_1 (J : Nat → Int32 → Int32 → St → Option (Int32 × St)) (n : Nat)  (l0 : Int32) (l1 : Int32) (σ : St) : Option (Int32 × St) := if l1 = (2 : Int32) then (if l0 = (3 : Int32) then (some ((1 : Int32), σ)) else (if l0 = (5 : Int32) then (some ((1 : Int32), σ)) else (J 2 l0 l1 σ))) else (J 2 l0 l1 σ)
noncomputable def B_X12_isUnder_2 (J : Nat → Int32 → Int32 → St → Option (Int32 × St)) (n : Nat)  (l0 : Int32) (l1 : Int32) (σ : St) : Option (Int32 × St) := if l1 = (3 : Int32) then (if l0 = (5 : Int32) then (some ((1 : Int32), σ)) else (J 3 l0 l1 σ)) else (J 3 l0 l1 σ)
noncomputable def B_X12_isUnder_3 (J : Nat → Int32 → Int32 → St → Option (Int32 × St)) (n : Nat)  (l0 : Int32) (l1 : Int32) (σ : St) : Option (Int32 × St) := if l1 = (6 : Int32) then (if l0 = (7 : Int32) then (some ((1 : Int32), σ)) else (some ((0 : Int32), σ))) else (some ((0 : Int32), σ))
noncomputable def S_X12_isUnder  (n : Nat) (J : Nat → Int32 → Int32 → St → Option (Int32 × St)) : Nat → Int32 → Int32 → St → Option (Int32 × St) := fun lb a0 a1 σ => match lb with
  | 1 => B_X12_isUnder_1 J n  a0 a1 σ
  | 2 => B_X12_isUnder_2 J n  a0 a1 σ
  | 3 => B_X12_isUnder_3 J n  a0 a1 σ
  | _ => none
noncomputable def L_X12_isUnder  (n : Nat) : Nat → Int32 → Int32 → St → Option (Int32 × St) := Nat.rec (fun _ _ _ _ => none) (fun n J => S_X12_isUnder  n J) n
noncomputable def F_X12_isUnder (n : Nat) (p0 : Int32) (p1 : Int32) (σ : St) : Option (Int32 × St) := if p1 = 0 then (some ((1 : Int32), σ)) else (if p0 = p1 then (some ((1 : Int32), σ)) else (if p1 = (1 : Int32) then (if p0 = (4 : Int32) then (some ((1 : Int32), σ)) else (L_X12_isUnder  n 1 p0 p1 σ)) else (L_X12_isUnder  n 1 p0 p1 σ)))
set_option maxHeartbeats 4000000 in
set_option maxRecDepth 20000 in
theorem t_X12_isUnder (l : Launch) {p : Program} {e : Env} {s : State} {m : MethodId} {args : Array Value} {below : List Frame} {meth : Method} {c : Code} {D : va_G} {A : Nat → Prop} {ad : Nat → Nat} {dA : Nat → ClassId}   (K : Cx p s m args meth c cX12_isUnder 2 (some .boolean) RX12 D (tysR dA) (wdR ad dA) A) {res : Int32 × St} (n : Nat) : (∀ (l0 : Int32) (l1 : Int32) (σ : St), L_X12_isUnder  n 1 l0 l1 σ = some res → V p l e (rmH 1) s m args below meth c 2 D (wdR ad dA) A (MQ below (QI D (wdR ad dA) A res) args s 0 0 A) 19 [(0, .int l0), (1, .int l1)] [] σ) ∧ (∀ (l0 : Int32) (l1 : Int32) (σ : St), L_X12_isUnder  n 2 l0 l1 σ = some res → V p l e (rmH 1) s m args below meth c 2 D (wdR ad dA) A (MQ below (QI D (wdR ad dA) A res) args s 0 0 A) 34 [(0, .int l0), (1, .int l1)] [] σ) ∧ (∀ (l0 : Int32) (l1 : Int32) (σ : St), L_X12_isUnder  n 3 l0 l1 σ = some res → V p l e (rmH 1) s m args below meth c 2 D (wdR ad dA) A (MQ below (QI D (wdR ad dA) A res) args s 0 0 A) 44 [(0, .int l0), (1, .int l1)] [] σ) := by
  induction n with
  | zero => exact ⟨fun _ _ _ h => (by cases h), fun _ _ _ h => (by cases h), fun _ _ _ h => (by cases h)⟩
  | succ n ih =>
    obtain ⟨ih_1, ih_2, ih_3⟩ := ih
    refine ⟨?_, ?_, ?_⟩
    · intro l0 l1 σ hM
      have hM : B_X12_isUnder_1 (L_X12_isUnder  n) n  l0 l1 σ = some res := hM
      refine v_iload_n K dX12_isUnder_19 1 rfl ?_
      refine v_iconst (v := (2 : Int32)) K dX12_isUnder_20 (by decide) ?_
      refine v_icmp_ne K 34 dX12_isUnder_21 (by decide) hM (fun hM => ?_) (fun hM => ?_)
      · exact v_sub [0, 1] rfl (ih_2 l0 l1 σ hM)
      · refine v_iload_n K dX12_isUnder_24 0 rfl ?_
        refine v_iconst (v := (3 : Int32)) K dX12_isUnder_25 (by decide) ?_
        refine v_icmp_eq K 56 dX12_isUnder_26 (by decide) hM (fun hM => ?_) (fun hM => ?_)
        · refine v_iconst (v := (1 : Int32)) K dX12_isUnder_56 (by decide) ?_
          refine v_goto (tgt := 61) K dX12_isUnder_57 (by decide) ?_
          exact v_zret K rfl rfl dX12_isUnder_61 hM
        · refine v_iload_n K dX12_isUnder_29 0 rfl ?_
          refine v_iconst (v := (5 : Int32)) K dX12_isUnder_30 (by decide) ?_
          refine v_icmp_eq K 56 dX12_isUnder_31 (by decide) hM (fun hM => ?_) (fun hM => ?_)
          · refine v_iconst (v := (1 : Int32)) K dX12_isUnder_56 (by decide) ?_
            refine v_goto (tgt := 61) K dX12_isUnder_57 (by decide) ?_
            exact v_zret K rfl rfl dX12_isUnder_61 hM
          · exact v_sub [0, 1] rfl (ih_2 l0 l1 σ hM)
    · intro l0 l1 σ hM
      have hM : B_X12_isUnder_2 (L_X12_isUnder  n) n  l0 l1 σ = some res := hM
      refine v_iload_n K dX12_isUnder_34 1 rfl ?_
      refine v_iconst (v := (3 : Int32)) K dX12_isUnder_35 (by decide) ?_
      refine v_icmp_ne K 44 dX12_isUnder_36 (by decide) hM (fun hM => ?_) (fun hM => ?_)
      · exact v_sub [0, 1] rfl (ih_3 l0 l1 σ hM)
      · refine v_iload_n K dX12_isUnder_39 0 rfl ?_
        refine v_iconst (v := (5 : Int32)) K dX12_isUnder_40 (by decide) ?_
        refine v_icmp_eq K 56 dX12_isUnder_41 (by decide) hM (fun hM => ?_) (fun hM => ?_)
        · refine v_iconst (v := (1 : Int32)) K dX12_isUnder_56 (by decide) ?_
          refine v_goto (tgt := 61) K dX12_isUnder_57 (by decide) ?_
          exact v_zret K rfl rfl dX12_isUnder_61 hM
        · exact v_sub [0, 1] rfl (ih_3 l0 l1 σ hM)
    · intro l0 l1 σ hM
      have hM : B_X12_isUnder_3 (L_X12_isUnder  n) n  l0 l1 σ = some res := hM
      refine v_iload_n K dX12_isUnder_44 1 rfl ?_
      refine v_bipush (v := (6 : Int32)) K dX12_isUnder_45 (by decide) ?_
      refine v_icmp_ne K 60 dX12_isUnder_47 (by decide) hM (fun hM => ?_) (fun hM => ?_)
      · refine v_iconst (v := (0 : Int32)) K dX12_isUnder_60 (by decide) ?_
        exact v_zret K rfl rfl dX12_isUnder_61 hM
      · refine v_iload_n K dX12_isUnder_50 0 rfl ?_
        refine v_bipush (v := (7 : Int32)) K dX12_isUnder_51 (by decide) ?_
        refine v_icmp_ne K 60 dX12_isUnder_53 (by decide) hM (fun hM => ?_) (fun hM => ?_)
        · refine v_iconst (v := (0 : Int32)) K dX12_isUnder_60 (by decide) ?_
          exact v_zret K rfl rfl dX12_isUnder_61 hM
        · refine v_iconst (v := (1 : Int32)) K dX12_isUnder_56 (by decide) ?_
          refine v_goto (tgt := 61) K dX12_isUnder_57 (by decide) ?_
          exact v_zret K rfl rfl dX12_isUnder_61 hM
set_option maxHeartbeats 4000000 in
set_option maxRecDepth 20000 in
theorem c_X12_isUnder (l : Launch) {D : va_G} {A : Nat → Prop} {ad : Nat → Nat} {dA : Nat → ClassId}  (n : Nat) (p0 : Int32) (p1 : Int32) (σ : St) {res : Int32 × St} (hM : F_X12_isUnder n p0 p1 σ = some res) : MI l yX12_isUnder cX12_isUnder 2 (some .boolean) 1 D (tysR dA) (wdR ad dA) A [.int p0, .int p1] σ (QI D (wdR ad dA) A res) := by
  refine mk_met (by decide +kernel) (Nat.le_of_ble_eq_true rfl) (fun p e s m below meth c K => ?_)
  have K : Cx p s m _ meth c cX12_isUnder 2 (some .boolean) RX12 D (tysR dA) (wdR ad dA) A := K
  obtain ⟨ih_1, ih_2, ih_3⟩ := t_X12_isUnder l    K (res := res) n (below := below) (e := e)
  refine v_iload_n K dX12_isUnder_0 1 rfl ?_
  refine v_if_eq K 56 dX12_isUnder_1 (by decide) hM (fun hM => ?_) (fun hM => ?_)
  · refine v_iconst (v := (1 : Int32)) K dX12_isUnder_56 (by decide) ?_
    refine v_goto (tgt := 61) K dX12_isUnder_57 (by decide) ?_
    exact v_zret K rfl rfl dX12_isUnder_61 hM
  · refine v_iload_n K dX12_isUnder_4 0 rfl ?_
    refine v_iload_n K dX12_isUnder_5 1 rfl ?_
    refine v_icmp_eq K 56 dX12_isUnder_6 (by decide) hM (fun hM => ?_) (fun hM => ?_)
    · refine v_iconst (v := (1 : Int32)) K dX12_isUnder_56 (by decide) ?_
      refine v_goto (tgt := 61) K dX12_isUnder_57 (by decide) ?_
      exact v_zret K rfl rfl dX12_isUnder_61 hM
    · refine v_iload_n K dX12_isUnder_9 1 rfl ?_
      refine v_iconst (v := (1 : Int32)) K dX12_isUnder_10 (by decide) ?_
      refine v_icmp_ne K 19 dX12_isUnder_11 (by decide) hM (fun hM => ?_) (fun hM => ?_)
      · exact v_sub [0, 1] rfl (ih_1 p0 p1 σ hM)
      · refine v_iload_n K dX12_isUnder_14 0 rfl ?_
        refine v_iconst (v := (4 : Int32)) K dX12_isUnder_15 (by decide) ?_
        refine v_icmp_eq K 56 dX12_isUnder_16 (by decide) hM (fun hM => ?_) (fun hM => ?_)
        · refine v_iconst (v := (1 : Int32)) K dX12_isUnder_56 (by decide) ?_
          refine v_goto (tgt := 61) K dX12_isUnder_57 (by decide) ?_
          exact v_zret K rfl rfl dX12_isUnder_61 hM
        · exact v_sub [0, 1] rfl (ih_1 p0 p1 σ hM)
noncomputable def F_X12_plainBrings (n : Nat) (p1 : Int32) (p2 : Int32) (σ : St) : Option (Int32 × St) := bd (F_X12_ran n (1 : Int32) σ) fun _ s1 => some ((p2 + p1), s1)
set_option maxHeartbeats 4000000 in
set_option maxRecDepth 20000 in
theorem c_X12_plainBrings (l : Launch) {D : va_G} {A : Nat → Prop} {ad : Nat → Nat} {dA : Nat → ClassId}  (n : Nat) (p1 : Int32) (p2 : Int32) (σ : St) {res : Int32 × St} (hM : F_X12_plainBrings n p1 p2 σ = some res) : MI l yX12_plainBrings cX12_plainBrings 3 (some .int) 2 D (tysR dA) (wdR ad dA) A [.ref (ad 0), .int p1, .int p2] σ (QI D (wdR ad dA) A res) := by
  refine mk_met (by decide +kernel) (Nat.le_of_ble_eq_true rfl) (fun p e s m below meth c K => ?_)
  have K : Cx p s m _ meth c cX12_plainBrings 3 (some .int) RX12 D (tysR dA) (wdR ad dA) A := K
  refine v_aload_n K dX12_plainBrings_0 0 rfl ?_
  refine v_iconst (v := (1 : Int32)) K dX12_plainBrings_1 (by decide) ?_
  refine x_Vv (As := [.int (1 : Int32)]) (st := []) K uv_X12_ran qm_X12_386 dX12_plainBrings_2 rv_X12 (fun _ h => c_X12_ran l  n (1 : Int32) σ h) rfl ⟨(Nat.le_of_ble_eq_true rfl), (Nat.le_of_ble_eq_true rfl)⟩ (Nat.le_of_ble_eq_true rfl) hM (fun s1 hM => ?_)
  refine v_iload_n K dX12_plainBrings_5 2 rfl ?_
  refine v_iload_n K dX12_plainBrings_6 1 rfl ?_
  refine v_iadd K dX12_plainBrings_7 ?_
  exact v_iret K rfl dX12_plainBrings_8 hM
noncomputable def F_X12_soldBrings (n : Nat) (p1 : Int32) (p2 : Int32) (σ : St) : Option (Int32 × St) := bd (F_X12_ran n (70 : Int32) σ) fun _ s1 => bd (F_X12_plainBrings n p1 p2 s1) fun r3 s2 => some ((r3 * (2 : Int32)), s2)
set_option maxHeartbeats 4000000 in
set_option maxRecDepth 20000 in
theorem c_X12_soldBrings (l : Launch) {D : va_G} {A : Nat → Prop} {ad : Nat → Nat} {dA : Nat → ClassId}  (n : Nat) (p1 : Int32) (p2 : Int32) (σ : St) {res : Int32 × St} (hM : F_X12_soldBrings n p1 p2 σ = some res) : MI l yX12_soldBrings cX12_soldBrings 3 (some .int) 3 D (tysR dA) (wdR ad dA) A [.ref (ad 0), .int p1, .int p2] σ (QI D (wdR ad dA) A res) := by
  refine mk_met (by decide +kernel) (Nat.le_of_ble_eq_true rfl) (fun p e s m below meth c K => ?_)
  have K : Cx p s m _ meth c cX12_soldBrings 3 (some .int) RX12 D (tysR dA) (wdR ad dA) A := K
  refine v_aload_n K dX12_soldBrings_0 0 rfl ?_
  refine v_bipush (v := (70 : Int32)) K dX12_soldBrings_1 (by decide) ?_
  refine x_Vv (As := [.int (70 : Int32)]) (st := []) K uv_X12_ran qm_X12_386 dX12_soldBrings_3 rv_X12 (fun _ h => c_X12_ran l  n (70 : Int32) σ h) rfl ⟨(Nat.le_of_ble_eq_true rfl), (Nat.le_of_ble_eq_true rfl)⟩ (Nat.le_of_ble_eq_true rfl) hM (fun s1 hM => ?_)
  refine v_aload_n K dX12_soldBrings_6 0 rfl ?_
  refine v_iload_n K dX12_soldBrings_7 1 rfl ?_
  refine v_iload_n K dX12_soldBrings_8 2 rfl ?_
  refine x_Vi (As := [.int p1, .int p2]) (st := []) K uv_X12_plainBrings qm_X12_389 dX12_soldBrings_9 rv_X12 (fun _ h => c_X12_plainBrings l  n p1 p2 s1 h) rfl ⟨(Nat.le_of_ble_eq_true rfl), (Nat.le_of_ble_eq_true rfl)⟩ (Nat.le_of_ble_eq_true rfl) hM (fun r3 s2 hM => ?_)
  refine v_iconst (v := (2 : Int32)) K dX12_soldBrings_12 (by decide) ?_
  refine v_imul K dX12_soldBrings_13 ?_
  exact v_iret K rfl dX12_soldBrings_14 hM
noncomputable def F_X12_bringing (n : Nat) (p1 : Int32) (p2 : Int32) (σ : St) : Option (Int32 × St) := gd (vp_in p1 50) (bd (F_X12_isUnder n (gI σ 29 (p1).toNatClampNeg) (1 : Int32) σ) fun r2 s1 => if r2 = 0 then (gd (vp_in p1 50) (if (gI s1 29 (p1).toNatClampNeg) = (7 : Int32) then (bd (F_X12_ran n (81 : Int32) s1) fun _ s7 => bd (F_X12_soldBrings n p1 p2 s7) fun r9 s8 => some ((r9 - (1 : Int32)), s8)) else (gd (vp_in p1 50) (if (gI s1 29 (p1).toNatClampNeg) = (6 : Int32) then (bd (F_X12_soldBrings n p1 p2 s1) fun r6 s5 => some (r6, s5)) else (bd (F_X12_plainBrings n p1 p2 s1) fun r4 s3 => some (r4, s3)))))) else (bd (F_X12_ran n (20 : Int32) s1) fun _ s10 => bd (F_X12_plainBrings n p1 p2 s10) fun r12 s11 => some ((r12 + (3 : Int32)), s11)))
set_option maxHeartbeats 4000000 in
set_option maxRecDepth 20000 in
theorem c_X12_bringing (l : Launch) {D : va_G} {A : Nat → Prop} {ad : Nat → Nat} {dA : Nat → ClassId}  (n : Nat) (p1 : Int32) (p2 : Int32) (σ : St) {res : Int32 × St} (hM : F_X12_bringing n p1 p2 σ = some res) : MI l yX12_bringing cX12_bringing 3 (some .int) 4 D (tysR dA) (wdR ad dA) A [.ref (ad 0), .int p1, .int p2] σ (QI D (wdR ad dA) A res) := by
  refine mk_met (by decide +kernel) (Nat.le_of_ble_eq_true rfl) (fun p e s m below meth c K => ?_)
  have K : Cx p s m _ meth c cX12_bringing 3 (some .int) RX12 D (tysR dA) (wdR ad dA) A := K
  refine v_aload_n K dX12_bringing_0 0 rfl ?_
  refine g_X12_51 K qf_X12_99 dX12_bringing_1 ?_
  refine v_iload_n K dX12_bringing_4 1 rfl ?_
  refine ld_R29 K dX12_bringing_5 hM (fun hM => ?_)
  refine v_iconst (v := (1 : Int32)) K dX12_bringing_6 (by decide) ?_
  refine x_Si (As := [.int (gI σ 29 (p1).toNatClampNeg), .int (1 : Int32)]) (st := []) K us_X12_isUnder qm_X12_392 dX12_bringing_7 (fun _ h => c_X12_isUnder l  n (gI σ 29 (p1).toNatClampNeg) (1 : Int32) σ h) rfl ⟨(Nat.le_of_ble_eq_true rfl), (Nat.le_of_ble_eq_true rfl)⟩ (Nat.le_of_ble_eq_true rfl) hM (fun r2 s1 hM => ?_)
  refine v_if_eq K 28 dX12_bringing_10 (by decide) hM (fun hM => ?_) (fun hM => ?_)
  · refine v_aload_n K dX12_bringing_28 0 rfl ?_
    refine g_X12_51 K qf_X12_99 dX12_bringing_29 ?_
    refine v_iload_n K dX12_bringing_32 1 rfl ?_
    refine ld_R29 K dX12_bringing_33 hM (fun hM => ?_)
    refine v_bipush (v := (7 : Int32)) K dX12_bringing_34 (by decide) ?_
    refine v_icmp_ne K 54 dX12_bringing_36 (by decide) hM (fun hM => ?_) (fun hM => ?_)
    · refine v_aload_n K dX12_bringing_54 0 rfl ?_
      refine g_X12_51 K qf_X12_99 dX12_bringing_55 ?_
      refine v_iload_n K dX12_bringing_58 1 rfl ?_
      refine ld_R29 K dX12_bringing_59 hM (fun hM => ?_)
      refine v_bipush (v := (6 : Int32)) K dX12_bringing_60 (by decide) ?_
      refine v_icmp_ne K 74 dX12_bringing_62 (by decide) hM (fun hM => ?_) (fun hM => ?_)
      · refine v_aload_n K dX12_bringing_74 0 rfl ?_
        refine v_iload_n K dX12_bringing_75 1 rfl ?_
        refine v_iload_n K dX12_bringing_76 2 rfl ?_
        refine x_Vi (As := [.int p1, .int p2]) (st := []) K uv_X12_plainBrings qm_X12_389 dX12_bringing_77 rv_X12 (fun _ h => c_X12_plainBrings l  n p1 p2 s1 h) rfl ⟨(Nat.le_of_ble_eq_true rfl), (Nat.le_of_ble_eq_true rfl)⟩ (Nat.le_of_ble_eq_true rfl) hM (fun r4 s3 hM => ?_)
        exact v_iret K rfl dX12_bringing_80 hM
      · refine v_aload_n K dX12_bringing_65 0 rfl ?_
        refine v_iload_n K dX12_bringing_66 1 rfl ?_
        refine v_iload_n K dX12_bringing_67 2 rfl ?_
        refine x_Vi (As := [.int p1, .int p2]) (st := []) K uv_X12_soldBrings qm_X12_395 dX12_bringing_68 rv_X12 (fun _ h => c_X12_soldBrings l  n p1 p2 s1 h) rfl ⟨(Nat.le_of_ble_eq_true rfl), (Nat.le_of_ble_eq_true rfl)⟩ (Nat.le_of_ble_eq_true rfl) hM (fun r6 s5 hM => ?_)
        refine v_goto (tgt := 80) K dX12_bringing_71 (by decide) ?_
        exact v_iret K rfl dX12_bringing_80 hM
    · refine v_aload_n K dX12_bringing_39 0 rfl ?_
      refine v_bipush (v := (81 : Int32)) K dX12_bringing_40 (by decide) ?_
      refine x_Vv (As := [.int (81 : Int32)]) (st := []) K uv_X12_ran qm_X12_386 dX12_bringing_42 rv_X12 (fun _ h => c_X12_ran l  n (81 : Int32) s1 h) rfl ⟨(Nat.le_of_ble_eq_true rfl), (Nat.le_of_ble_eq_true rfl)⟩ (Nat.le_of_ble_eq_true rfl) hM (fun s7 hM => ?_)
      refine v_aload_n K dX12_bringing_45 0 rfl ?_
      refine v_iload_n K dX12_bringing_46 1 rfl ?_
      refine v_iload_n K dX12_bringing_47 2 rfl ?_
      refine x_Vi (As := [.int p1, .int p2]) (st := []) K uv_X12_soldBrings qm_X12_395 dX12_bringing_48 rv_X12 (fun _ h => c_X12_soldBrings l  n p1 p2 s7 h) rfl ⟨(Nat.le_of_ble_eq_true rfl), (Nat.le_of_ble_eq_true rfl)⟩ (Nat.le_of_ble_eq_true rfl) hM (fun r9 s8 hM => ?_)
      refine v_iconst (v := (1 : Int32)) K dX12_bringing_51 (by decide) ?_
      refine v_isub K dX12_bringing_52 ?_
      exact v_iret K rfl dX12_bringing_53 hM
  · refine v_aload_n K dX12_bringing_13 0 rfl ?_
    refine v_bipush (v := (20 : Int32)) K dX12_bringing_14 (by decide) ?_
    refine x_Vv (As := [.int (20 : Int32)]) (st := []) K uv_X12_ran qm_X12_386 dX12_bringing_16 rv_X12 (fun _ h => c_X12_ran l  n (20 : Int32) s1 h) rfl ⟨(Nat.le_of_ble_eq_true rfl), (Nat.le_of_ble_eq_true rfl)⟩ (Nat.le_of_ble_eq_true rfl) hM (fun s10 hM => ?_)
    refine v_aload_n K dX12_bringing_19 0 rfl ?_
    refine v_iload_n K dX12_bringing_20 1 rfl ?_
    refine v_iload_n K dX12_bringing_21 2 rfl ?_
    refine x_Vi (As := [.int p1, .int p2]) (st := []) K uv_X12_plainBrings qm_X12_389 dX12_bringing_22 rv_X12 (fun _ h => c_X12_plainBrings l  n p1 p2 s10 h) rfl ⟨(Nat.le_of_ble_eq_true rfl), (Nat.le_of_ble_eq_true rfl)⟩ (Nat.le_of_ble_eq_true rfl) hM (fun r12 s11 hM => ?_)
    refine v_iconst (v := (3 : Int32)) K dX12_bringing_25 (by decide) ?_
    refine v_iadd K dX12_bringing_26 ?_
    exact v_iret K rfl dX12_bringing_27 hM
noncomputable def F_X12_plainSpeaks (n : Nat) (p1 : Int32) (p2 : Int32) (σ : St) : Option (Int32 × St) := bd (F_X12_ran n (10 : Int32) σ) fun _ s1 => bd (F_X12_bringing n p1 p2 s1) fun r3 s2 => some ((r3 * (2 : Int32)), s2)
set_option maxHeartbeats 4000000 in
set_option maxRecDepth 20000 in
theorem c_X12_plainSpeaks (l : Launch) {D : va_G} {A : Nat → Prop} {ad : Nat → Nat} {dA : Nat → ClassId}  (n : Nat) (p1 : Int32) (p2 : Int32) (σ : St) {res : Int32 × St} (hM : F_X12_plainSpeaks n p1 p2 σ = some res) : MI l yX12_plainSpeaks cX12_plainSpeaks 3 (some .int) 5 D (tysR dA) (wdR ad dA) A [.ref (ad 0), .int p1, .int p2] σ (QI D (wdR ad dA) A res) := by
  refine mk_met (by decide +kernel) (Nat.le_of_ble_eq_true rfl) (fun p e s m below meth c K => ?_)
  have K : Cx p s m _ meth c cX12_plainSpeaks 3 (some .int) RX12 D (tysR dA) (wdR ad dA) A := K
  refine v_aload_n K dX12_plainSpeaks_0 0 rfl ?_
  refine v_bipush (v := (10 : Int32)) K dX12_plainSpeaks_1 (by decide) ?_
  refine x_Vv (As := [.int (10 : Int32)]) (st := []) K uv_X12_ran qm_X12_386 dX12_plainSpeaks_3 rv_X12 (fun _ h => c_X12_ran l  n (10 : Int32) σ h) rfl ⟨(Nat.le_of_ble_eq_true rfl), (Nat.le_of_ble_eq_true rfl)⟩ (Nat.le_of_ble_eq_true rfl) hM (fun s1 hM => ?_)
  refine v_aload_n K dX12_plainSpeaks_6 0 rfl ?_
  refine v_iload_n K dX12_plainSpeaks_7 1 rfl ?_
  refine v_iload_n K dX12_plainSpeaks_8 2 rfl ?_
  refine x_Vi (As := [.int p1, .int p2]) (st := []) K uv_X12_bringing qm_X12_398 dX12_plainSpeaks_9 rv_X12 (fun _ h => c_X12_bringing l  n p1 p2 s1 h) rfl ⟨(Nat.le_of_ble_eq_true rfl), (Nat.le_of_ble_eq_true rfl)⟩ (Nat.le_of_ble_eq_true rfl) hM (fun r3 s2 hM => ?_)
  refine v_iconst (v := (2 : Int32)) K dX12_plainSpeaks_12 (by decide) ?_
  refine v_imul K dX12_plainSpeaks_13 ?_
  exact v_iret K rfl dX12_plainSpeaks_14 hM
noncomputable def F_X12_speechSpeaks (n : Nat) (p1 : Int32) (p2 : Int32) (σ : St) : Option (Int32 × St) := bd (F_X12_ran n (30 : Int32) σ) fun _ s1 => bd (F_X12_plainSpeaks n p1 p2 s1) fun r3 s2 => some ((-r3), s2)
set_option maxHeartbeats 4000000 in
set_option maxRecDepth 20000 in
theorem c_X12_speechSpeaks (l : Launch) {D : va_G} {A : Nat → Prop} {ad : Nat → Nat} {dA : Nat → ClassId}  (n : Nat) (p1 : Int32) (p2 : Int32) (σ : St) {res : Int32 × St} (hM : F_X12_speechSpeaks n p1 p2 σ = some res) : MI l yX12_speechSpeaks cX12_speechSpeaks 3 (some .int) 6 D (tysR dA) (wdR ad dA) A [.ref (ad 0), .int p1, .int p2] σ (QI D (wdR ad dA) A res) := by
  refine mk_met (by decide +kernel) (Nat.le_of_ble_eq_true rfl) (fun p e s m below meth c K => ?_)
  have K : Cx p s m _ meth c cX12_speechSpeaks 3 (some .int) RX12 D (tysR dA) (wdR ad dA) A := K
  refine v_aload_n K dX12_speechSpeaks_0 0 rfl ?_
  refine v_bipush (v := (30 : Int32)) K dX12_speechSpeaks_1 (by decide) ?_
  refine x_Vv (As := [.int (30 : Int32)]) (st := []) K uv_X12_ran qm_X12_386 dX12_speechSpeaks_3 rv_X12 (fun _ h => c_X12_ran l  n (30 : Int32) σ h) rfl ⟨(Nat.le_of_ble_eq_true rfl), (Nat.le_of_ble_eq_true rfl)⟩ (Nat.le_of_ble_eq_true rfl) hM (fun s1 hM => ?_)
  refine v_aload_n K dX12_speechSpeaks_6 0 rfl ?_
  refine v_iload_n K dX12_speechSpeaks_7 1 rfl ?_
  refine v_iload_n K dX12_speechSpeaks_8 2 rfl ?_
  refine x_Vi (As := [.int p1, .int p2]) (st := []) K uv_X12_plainSpeaks qm_X12_401 dX12_speechSpeaks_9 rv_X12 (fun _ h => c_X12_plainSpeaks l  n p1 p2 s1 h) rfl ⟨(Nat.le_of_ble_eq_true rfl), (Nat.le_of_ble_eq_true rfl)⟩ (Nat.le_of_ble_eq_true rfl) hM (fun r3 s2 hM => ?_)
  refine v_ineg K dX12_speechSpeaks_12 ?_
  exact v_iret K rfl dX12_speechSpeaks_13 hM
noncomputable def F_X12_plainBinds (n : Nat) (p1 : Int32) (p2 : Int32) (σ : St) : Option (Int32 × St) := bd (F_X12_ran n (11 : Int32) σ) fun _ s1 => some ((p2 ^^^ p1), s1)
set_option maxHeartbeats 4000000 in
set_option maxRecDepth 20000 in
theorem c_X12_plainBinds (l : Launch) {D : va_G} {A : Nat → Prop} {ad : Nat → Nat} {dA : Nat → ClassId}  (n : Nat) (p1 : Int32) (p2 : Int32) (σ : St) {res : Int32 × St} (hM : F_X12_plainBinds n p1 p2 σ = some res) : MI l yX12_plainBinds cX12_plainBinds 3 (some .int) 2 D (tysR dA) (wdR ad dA) A [.ref (ad 0), .int p1, .int p2] σ (QI D (wdR ad dA) A res) := by
  refine mk_met (by decide +kernel) (Nat.le_of_ble_eq_true rfl) (fun p e s m below meth c K => ?_)
  have K : Cx p s m _ meth c cX12_plainBinds 3 (some .int) RX12 D (tysR dA) (wdR ad dA) A := K
  refine v_aload_n K dX12_plainBinds_0 0 rfl ?_
  refine v_bipush (v := (11 : Int32)) K dX12_plainBinds_1 (by decide) ?_
  refine x_Vv (As := [.int (11 : Int32)]) (st := []) K uv_X12_ran qm_X12_386 dX12_plainBinds_3 rv_X12 (fun _ h => c_X12_ran l  n (11 : Int32) σ h) rfl ⟨(Nat.le_of_ble_eq_true rfl), (Nat.le_of_ble_eq_true rfl)⟩ (Nat.le_of_ble_eq_true rfl) hM (fun s1 hM => ?_)
  refine v_iload_n K dX12_plainBinds_6 2 rfl ?_
  refine v_iload_n K dX12_plainBinds_7 1 rfl ?_
  refine v_ixor K dX12_plainBinds_8 ?_
  exact v_iret K rfl dX12_plainBinds_9 hM
noncomputable def F_X12_friendBinds (n : Nat) (p1 : Int32) (p2 : Int32) (σ : St) : Option (Int32 × St) := bd (F_X12_ran n (40 : Int32) σ) fun _ s1 => bd (F_X12_plainBinds n p1 p2 s1) fun r3 s2 => some ((r3 * (3 : Int32)), s2)
set_option maxHeartbeats 4000000 in
set_option maxRecDepth 20000 in
theorem c_X12_friendBinds (l : Launch) {D : va_G} {A : Nat → Prop} {ad : Nat → Nat} {dA : Nat → ClassId}  (n : Nat) (p1 : Int32) (p2 : Int32) (σ : St) {res : Int32 × St} (hM : F_X12_friendBinds n p1 p2 σ = some res) : MI l yX12_friendBinds cX12_friendBinds 3 (some .int) 3 D (tysR dA) (wdR ad dA) A [.ref (ad 0), .int p1, .int p2] σ (QI D (wdR ad dA) A res) := by
  refine mk_met (by decide +kernel) (Nat.le_of_ble_eq_true rfl) (fun p e s m below meth c K => ?_)
  have K : Cx p s m _ meth c cX12_friendBinds 3 (some .int) RX12 D (tysR dA) (wdR ad dA) A := K
  refine v_aload_n K dX12_friendBinds_0 0 rfl ?_
  refine v_bipush (v := (40 : Int32)) K dX12_friendBinds_1 (by decide) ?_
  refine x_Vv (As := [.int (40 : Int32)]) (st := []) K uv_X12_ran qm_X12_386 dX12_friendBinds_3 rv_X12 (fun _ h => c_X12_ran l  n (40 : Int32) σ h) rfl ⟨(Nat.le_of_ble_eq_true rfl), (Nat.le_of_ble_eq_true rfl)⟩ (Nat.le_of_ble_eq_true rfl) hM (fun s1 hM => ?_)
  refine v_aload_n K dX12_friendBinds_6 0 rfl ?_
  refine v_iload_n K dX12_friendBinds_7 1 rfl ?_
  refine v_iload_n K dX12_friendBinds_8 2 rfl ?_
  refine x_Vi (As := [.int p1, .int p2]) (st := []) K uv_X12_plainBinds qm_X12_410 dX12_friendBinds_9 rv_X12 (fun _ h => c_X12_plainBinds l  n p1 p2 s1 h) rfl ⟨(Nat.le_of_ble_eq_true rfl), (Nat.le_of_ble_eq_true rfl)⟩ (Nat.le_of_ble_eq_true rfl) hM (fun r3 s2 hM => ?_)
  refine v_iconst (v := (3 : Int32)) K dX12_friendBinds_12 (by decide) ?_
  refine v_imul K dX12_friendBinds_13 ?_
  exact v_iret K rfl dX12_friendBinds_14 hM
noncomputable def F_X12_binding (n : Nat) (p1 : Int32) (p2 : Int32) (σ : St) : Option (Int32 × St) := gd (vp_in p1 50) (if (gI σ 29 (p1).toNatClampNeg) = (5 : Int32) then (bd (F_X12_ran n (60 : Int32) σ) fun _ s5 => bd (F_X12_friendBinds n p1 p2 s5) fun r7 s6 => bd (F_X12_bringing n p1 (2 : Int32) s6) fun r9 s8 => some ((r7 - r9), s8)) else (gd (vp_in p1 50) (if (gI σ 29 (p1).toNatClampNeg) = (3 : Int32) then (bd (F_X12_friendBinds n p1 p2 σ) fun r4 s3 => some (r4, s3)) else (bd (F_X12_plainBinds n p1 p2 σ) fun r2 s1 => some (r2, s1)))))
set_option maxHeartbeats 4000000 in
set_option maxRecDepth 20000 in
theorem c_X12_binding (l : Launch) {D : va_G} {A : Nat → Prop} {ad : Nat → Nat} {dA : Nat → ClassId}  (n : Nat) (p1 : Int32) (p2 : Int32) (σ : St) {res : Int32 × St} (hM : F_X12_binding n p1 p2 σ = some res) : MI l yX12_binding cX12_binding 4 (some .int) 5 D (tysR dA) (wdR ad dA) A [.ref (ad 0), .int p1, .int p2] σ (QI D (wdR ad dA) A res) := by
  refine mk_met (by decide +kernel) (Nat.le_of_ble_eq_true rfl) (fun p e s m below meth c K => ?_)
  have K : Cx p s m _ meth c cX12_binding 4 (some .int) RX12 D (tysR dA) (wdR ad dA) A := K
  refine v_aload_n K dX12_binding_0 0 rfl ?_
  refine g_X12_51 K qf_X12_99 dX12_binding_1 ?_
  refine v_iload_n K dX12_binding_4 1 rfl ?_
  refine ld_R29 K dX12_binding_5 hM (fun hM => ?_)
  refine v_iconst (v := (5 : Int32)) K dX12_binding_6 (by decide) ?_
  refine v_icmp_ne K 32 dX12_binding_7 (by decide) hM (fun hM => ?_) (fun hM => ?_)
  · refine v_aload_n K dX12_binding_32 0 rfl ?_
    refine g_X12_51 K qf_X12_99 dX12_binding_33 ?_
    refine v_iload_n K dX12_binding_36 1 rfl ?_
    refine ld_R29 K dX12_binding_37 hM (fun hM => ?_)
    refine v_iconst (v := (3 : Int32)) K dX12_binding_38 (by decide) ?_
    refine v_icmp_ne K 51 dX12_binding_39 (by decide) hM (fun hM => ?_) (fun hM => ?_)
    · refine v_aload_n K dX12_binding_51 0 rfl ?_
      refine v_iload_n K dX12_binding_52 1 rfl ?_
      refine v_iload_n K dX12_binding_53 2 rfl ?_
      refine x_Vi (As := [.int p1, .int p2]) (st := []) K uv_X12_plainBinds qm_X12_410 dX12_binding_54 rv_X12 (fun _ h => c_X12_plainBinds l  n p1 p2 σ h) rfl ⟨(Nat.le_of_ble_eq_true rfl), (Nat.le_of_ble_eq_true rfl)⟩ (Nat.le_of_ble_eq_true rfl) hM (fun r2 s1 hM => ?_)
      exact v_iret K rfl dX12_binding_57 hM
    · refine v_aload_n K dX12_binding_42 0 rfl ?_
      refine v_iload_n K dX12_binding_43 1 rfl ?_
      refine v_iload_n K dX12_binding_44 2 rfl ?_
      refine x_Vi (As := [.int p1, .int p2]) (st := []) K uv_X12_friendBinds qm_X12_413 dX12_binding_45 rv_X12 (fun _ h => c_X12_friendBinds l  n p1 p2 σ h) rfl ⟨(Nat.le_of_ble_eq_true rfl), (Nat.le_of_ble_eq_true rfl)⟩ (Nat.le_of_ble_eq_true rfl) hM (fun r4 s3 hM => ?_)
      refine v_goto (tgt := 57) K dX12_binding_48 (by decide) ?_
      exact v_iret K rfl dX12_binding_57 hM
  · refine v_aload_n K dX12_binding_10 0 rfl ?_
    refine v_bipush (v := (60 : Int32)) K dX12_binding_11 (by decide) ?_
    refine x_Vv (As := [.int (60 : Int32)]) (st := []) K uv_X12_ran qm_X12_386 dX12_binding_13 rv_X12 (fun _ h => c_X12_ran l  n (60 : Int32) σ h) rfl ⟨(Nat.le_of_ble_eq_true rfl), (Nat.le_of_ble_eq_true rfl)⟩ (Nat.le_of_ble_eq_true rfl) hM (fun s5 hM => ?_)
    refine v_aload_n K dX12_binding_16 0 rfl ?_
    refine v_iload_n K dX12_binding_17 1 rfl ?_
    refine v_iload_n K dX12_binding_18 2 rfl ?_
    refine x_Vi (As := [.int p1, .int p2]) (st := []) K uv_X12_friendBinds qm_X12_413 dX12_binding_19 rv_X12 (fun _ h => c_X12_friendBinds l  n p1 p2 s5 h) rfl ⟨(Nat.le_of_ble_eq_true rfl), (Nat.le_of_ble_eq_true rfl)⟩ (Nat.le_of_ble_eq_true rfl) hM (fun r7 s6 hM => ?_)
    refine v_istore_n K dX12_binding_22 rfl (by decide) [(3, .int r7), (0, .ref (ad 0)), (1, .int p1), (2, .int p2)] rfl ?_
    refine v_iload_n K dX12_binding_23 0 rfl ?_
    refine v_aload_n K dX12_binding_24 1 rfl ?_
    refine v_iload_n K dX12_binding_25 2 rfl ?_
    refine v_iconst (v := (2 : Int32)) K dX12_binding_26 (by decide) ?_
    refine x_Vi (As := [.int p1, .int (2 : Int32)]) (st := [.int r7]) K uv_X12_bringing qm_X12_398 dX12_binding_27 rv_X12 (fun _ h => c_X12_bringing l  n p1 (2 : Int32) s6 h) rfl ⟨(Nat.le_of_ble_eq_true rfl), (Nat.le_of_ble_eq_true rfl)⟩ (Nat.le_of_ble_eq_true rfl) hM (fun r9 s8 hM => ?_)
    refine v_isub K dX12_binding_30 ?_
    exact v_iret K rfl dX12_binding_31 hM
noncomputable def F_X12_speaking (n : Nat) (p1 : Int32) (p2 : Int32) (σ : St) : Option (Int32 × St) := gd (vp_in p1 50) (bd (F_X12_isUnder n (gI σ 29 (p1).toNatClampNeg) (3 : Int32) σ) fun r2 s1 => if r2 = 0 then (gd (vp_in p1 50) (if (gI s1 29 (p1).toNatClampNeg) = (7 : Int32) then (bd (F_X12_ran n (80 : Int32) s1) fun _ s7 => bd (F_X12_plainSpeaks n p1 p2 s7) fun r9 s8 => bd (F_X12_binding n p1 (2 : Int32) s8) fun r11 s10 => some ((r9 + r11), s10)) else (gd (vp_in p1 50) (if (gI s1 29 (p1).toNatClampNeg) = (2 : Int32) then (bd (F_X12_speechSpeaks n p1 p2 s1) fun r6 s5 => some (r6, s5)) else (bd (F_X12_plainSpeaks n p1 p2 s1) fun r4 s3 => some (r4, s3)))))) else (bd (F_X12_ran n (41 : Int32) s1) fun _ s12 => bd (F_X12_speechSpeaks n p1 (p2 + (1 : Int32)) s12) fun r14 s13 => some (r14, s13)))
set_option maxHeartbeats 4000000 in
set_option maxRecDepth 20000 in
theorem c_X12_speaking (l : Launch) {D : va_G} {A : Nat → Prop} {ad : Nat → Nat} {dA : Nat → ClassId}  (n : Nat) (p1 : Int32) (p2 : Int32) (σ : St) {res : Int32 × St} (hM : F_X12_speaking n p1 p2 σ = some res) : MI l yX12_speaking cX12_speaking 4 (some .int) 7 D (tysR dA) (wdR ad dA) A [.ref (ad 0), .int p1, .int p2] σ (QI D (wdR ad dA) A res) := by
  refine mk_met (by decide +kernel) (Nat.le_of_ble_eq_true rfl) (fun p e s m below meth c K => ?_)
  have K : Cx p s m _ meth c cX12_speaking 4 (some .int) RX12 D (tysR dA) (wdR ad dA) A := K
  refine v_aload_n K dX12_speaking_0 0 rfl ?_
  refine g_X12_51 K qf_X12_99 dX12_speaking_1 ?_
  refine v_iload_n K dX12_speaking_4 1 rfl ?_
  refine ld_R29 K dX12_speaking_5 hM (fun hM => ?_)
  refine v_iconst (v := (3 : Int32)) K dX12_speaking_6 (by decide) ?_
  refine x_Si (As := [.int (gI σ 29 (p1).toNatClampNeg), .int (3 : Int32)]) (st := []) K us_X12_isUnder qm_X12_392 dX12_speaking_7 (fun _ h => c_X12_isUnder l  n (gI σ 29 (p1).toNatClampNeg) (3 : Int32) σ h) rfl ⟨(Nat.le_of_ble_eq_true rfl), (Nat.le_of_ble_eq_true rfl)⟩ (Nat.le_of_ble_eq_true rfl) hM (fun r2 s1 hM => ?_)
  refine v_if_eq K 28 dX12_speaking_10 (by decide) hM (fun hM => ?_) (fun hM => ?_)
  · refine v_aload_n K dX12_speaking_28 0 rfl ?_
    refine g_X12_51 K qf_X12_99 dX12_speaking_29 ?_
    refine v_iload_n K dX12_speaking_32 1 rfl ?_
    refine ld_R29 K dX12_speaking_33 hM (fun hM => ?_)
    refine v_bipush (v := (7 : Int32)) K dX12_speaking_34 (by decide) ?_
    refine v_icmp_ne K 61 dX12_speaking_36 (by decide) hM (fun hM => ?_) (fun hM => ?_)
    · refine v_aload_n K dX12_speaking_61 0 rfl ?_
      refine g_X12_51 K qf_X12_99 dX12_speaking_62 ?_
      refine v_iload_n K dX12_speaking_65 1 rfl ?_
      refine ld_R29 K dX12_speaking_66 hM (fun hM => ?_)
      refine v_iconst (v := (2 : Int32)) K dX12_speaking_67 (by decide) ?_
      refine v_icmp_ne K 80 dX12_speaking_68 (by decide) hM (fun hM => ?_) (fun hM => ?_)
      · refine v_aload_n K dX12_speaking_80 0 rfl ?_
        refine v_iload_n K dX12_speaking_81 1 rfl ?_
        refine v_iload_n K dX12_speaking_82 2 rfl ?_
        refine x_Vi (As := [.int p1, .int p2]) (st := []) K uv_X12_plainSpeaks qm_X12_401 dX12_speaking_83 rv_X12 (fun _ h => c_X12_plainSpeaks l  n p1 p2 s1 h) rfl ⟨(Nat.le_of_ble_eq_true rfl), (Nat.le_of_ble_eq_true rfl)⟩ (Nat.le_of_ble_eq_true rfl) hM (fun r4 s3 hM => ?_)
        exact v_iret K rfl dX12_speaking_86 hM
      · refine v_aload_n K dX12_speaking_71 0 rfl ?_
        refine v_iload_n K dX12_speaking_72 1 rfl ?_
        refine v_iload_n K dX12_speaking_73 2 rfl ?_
        refine x_Vi (As := [.int p1, .int p2]) (st := []) K uv_X12_speechSpeaks qm_X12_404 dX12_speaking_74 rv_X12 (fun _ h => c_X12_speechSpeaks l  n p1 p2 s1 h) rfl ⟨(Nat.le_of_ble_eq_true rfl), (Nat.le_of_ble_eq_true rfl)⟩ (Nat.le_of_ble_eq_true rfl) hM (fun r6 s5 hM => ?_)
        refine v_goto (tgt := 86) K dX12_speaking_77 (by decide) ?_
        exact v_iret K rfl dX12_speaking_86 hM
    · refine v_aload_n K dX12_speaking_39 0 rfl ?_
      refine v_bipush (v := (80 : Int32)) K dX12_speaking_40 (by decide) ?_
      refine x_Vv (As := [.int (80 : Int32)]) (st := []) K uv_X12_ran qm_X12_386 dX12_speaking_42 rv_X12 (fun _ h => c_X12_ran l  n (80 : Int32) s1 h) rfl ⟨(Nat.le_of_ble_eq_true rfl), (Nat.le_of_ble_eq_true rfl)⟩ (Nat.le_of_ble_eq_true rfl) hM (fun s7 hM => ?_)
      refine v_aload_n K dX12_speaking_45 0 rfl ?_
      refine v_iload_n K dX12_speaking_46 1 rfl ?_
      refine v_iload_n K dX12_speaking_47 2 rfl ?_
      refine x_Vi (As := [.int p1, .int p2]) (st := []) K uv_X12_plainSpeaks qm_X12_401 dX12_speaking_48 rv_X12 (fun _ h => c_X12_plainSpeaks l  n p1 p2 s7 h) rfl ⟨(Nat.le_of_ble_eq_true rfl), (Nat.le_of_ble_eq_true rfl)⟩ (Nat.le_of_ble_eq_true rfl) hM (fun r9 s8 hM => ?_)
      refine v_istore_n K dX12_speaking_51 rfl (by decide) [(3, .int r9), (0, .ref (ad 0)), (1, .int p1), (2, .int p2)] rfl ?_
      refine v_iload_n K dX12_speaking_52 0 rfl ?_
      refine v_aload_n K dX12_speaking_53 1 rfl ?_
      refine v_iload_n K dX12_speaking_54 2 rfl ?_
      refine v_iconst (v := (2 : Int32)) K dX12_speaking_55 (by decide) ?_
      refine x_Vi (As := [.int p1, .int (2 : Int32)]) (st := [.int r9]) K uv_X12_binding qm_X12_407 dX12_speaking_56 rv_X12 (fun _ h => c_X12_binding l  n p1 (2 : Int32) s8 h) rfl ⟨(Nat.le_of_ble_eq_true rfl), (Nat.le_of_ble_eq_true rfl)⟩ (Nat.le_of_ble_eq_true rfl) hM (fun r11 s10 hM => ?_)
      refine v_iadd K dX12_speaking_59 ?_
      exact v_iret K rfl dX12_speaking_60 hM
  · refine v_aload_n K dX12_speaking_13 0 rfl ?_
    refine v_bipush (v := (41 : Int32)) K dX12_speaking_14 (by decide) ?_
    refine x_Vv (As := [.int (41 : Int32)]) (st := []) K uv_X12_ran qm_X12_386 dX12_speaking_16 rv_X12 (fun _ h => c_X12_ran l  n (41 : Int32) s1 h) rfl ⟨(Nat.le_of_ble_eq_true rfl), (Nat.le_of_ble_eq_true rfl)⟩ (Nat.le_of_ble_eq_true rfl) hM (fun s12 hM => ?_)
    refine v_aload_n K dX12_speaking_19 0 rfl ?_
    refine v_iload_n K dX12_speaking_20 1 rfl ?_
    refine v_iload_n K dX12_speaking_21 2 rfl ?_
    refine v_iconst (v := (1 : Int32)) K dX12_speaking_22 (by decide) ?_
    refine v_iadd K dX12_speaking_23 ?_
    refine x_Vi (As := [.int p1, .int (p2 + (1 : Int32))]) (st := []) K uv_X12_speechSpeaks qm_X12_404 dX12_speaking_24 rv_X12 (fun _ h => c_X12_speechSpeaks l  n p1 (p2 + (1 : Int32)) s12 h) rfl ⟨(Nat.le_of_ble_eq_true rfl), (Nat.le_of_ble_eq_true rfl)⟩ (Nat.le_of_ble_eq_true rfl) hM (fun r14 s13 hM => ?_)
    exact v_iret K rfl dX12_speaking_27 hM
noncomputable def F_X12_plainTells (n : Nat) (p1 : Int32) (p2 : Int32) (σ : St) : Option (Int32 × St) := bd (F_X12_ran n (2 : Int32) σ) fun _ s1 => bd (F_X12_speaking n p1 p2 s1) fun r3 s2 => bd (F_X12_binding n p1 (1 : Int32) s2) fun r5 s4 => some ((r3 - r5), s4)
set_option maxHeartbeats 4000000 in
set_option maxRecDepth 20000 in
theorem c_X12_plainTells (l : Launch) {D : va_G} {A : Nat → Prop} {ad : Nat → Nat} {dA : Nat → ClassId}  (n : Nat) (p1 : Int32) (p2 : Int32) (σ : St) {res : Int32 × St} (hM : F_X12_plainTells n p1 p2 σ = some res) : MI l yX12_plainTells cX12_plainTells 4 (some .int) 8 D (tysR dA) (wdR ad dA) A [.ref (ad 0), .int p1, .int p2] σ (QI D (wdR ad dA) A res) := by
  refine mk_met (by decide +kernel) (Nat.le_of_ble_eq_true rfl) (fun p e s m below meth c K => ?_)
  have K : Cx p s m _ meth c cX12_plainTells 4 (some .int) RX12 D (tysR dA) (wdR ad dA) A := K
  refine v_aload_n K dX12_plainTells_0 0 rfl ?_
  refine v_iconst (v := (2 : Int32)) K dX12_plainTells_1 (by decide) ?_
  refine x_Vv (As := [.int (2 : Int32)]) (st := []) K uv_X12_ran qm_X12_386 dX12_plainTells_2 rv_X12 (fun _ h => c_X12_ran l  n (2 : Int32) σ h) rfl ⟨(Nat.le_of_ble_eq_true rfl), (Nat.le_of_ble_eq_true rfl)⟩ (Nat.le_of_ble_eq_true rfl) hM (fun s1 hM => ?_)
  refine v_aload_n K dX12_plainTells_5 0 rfl ?_
  refine v_iload_n K dX12_plainTells_6 1 rfl ?_
  refine v_iload_n K dX12_plainTells_7 2 rfl ?_
  refine x_Vi (As := [.int p1, .int p2]) (st := []) K uv_X12_speaking qm_X12_416 dX12_plainTells_8 rv_X12 (fun _ h => c_X12_speaking l  n p1 p2 s1 h) rfl ⟨(Nat.le_of_ble_eq_true rfl), (Nat.le_of_ble_eq_true rfl)⟩ (Nat.le_of_ble_eq_true rfl) hM (fun r3 s2 hM => ?_)
  refine v_istore_n K dX12_plainTells_11 rfl (by decide) [(3, .int r3), (0, .ref (ad 0)), (1, .int p1), (2, .int p2)] rfl ?_
  refine v_iload_n K dX12_plainTells_12 0 rfl ?_
  refine v_aload_n K dX12_plainTells_13 1 rfl ?_
  refine v_iload_n K dX12_plainTells_14 2 rfl ?_
  refine v_iconst (v := (1 : Int32)) K dX12_plainTells_15 (by decide) ?_
  refine x_Vi (As := [.int p1, .int (1 : Int32)]) (st := [.int r3]) K uv_X12_binding qm_X12_407 dX12_plainTells_16 rv_X12 (fun _ h => c_X12_binding l  n p1 (1 : Int32) s2 h) rfl ⟨(Nat.le_of_ble_eq_true rfl), (Nat.le_of_ble_eq_true rfl)⟩ (Nat.le_of_ble_eq_true rfl) hM (fun r5 s4 hM => ?_)
  refine v_isub K dX12_plainTells_19 ?_
  exact v_iret K rfl dX12_plainTells_20 hM
noncomputable def F_X12_telling (n : Nat) (p1 : Int32) (p2 : Int32) (σ : St) : Option (Int32 × St) := gd (vp_in p1 50) (if (gI σ 29 (p1).toNatClampNeg) = (4 : Int32) then (bd (F_X12_ran n (50 : Int32) σ) fun _ s6 => bd (F_X12_plainTells n p1 p2 s6) fun r8 s7 => some ((r8 ^^^ (5 : Int32)), s7)) else (gd (vp_in p1 50) (if (gI σ 29 (p1).toNatClampNeg) = (5 : Int32) then (bd (F_X12_ran n (61 : Int32) σ) fun _ s3 => bd (F_X12_plainTells n p1 p2 s3) fun r5 s4 => some ((r5 + (1 : Int32)), s4)) else (bd (F_X12_plainTells n p1 p2 σ) fun r2 s1 => some (r2, s1)))))
set_option maxHeartbeats 4000000 in
set_option maxRecDepth 20000 in
theorem c_X12_telling (l : Launch) {D : va_G} {A : Nat → Prop} {ad : Nat → Nat} {dA : Nat → ClassId}  (n : Nat) (p1 : Int32) (p2 : Int32) (σ : St) {res : Int32 × St} (hM : F_X12_telling n p1 p2 σ = some res) : MI l yX12_telling cX12_telling 3 (some .int) 9 D (tysR dA) (wdR ad dA) A [.ref (ad 0), .int p1, .int p2] σ (QI D (wdR ad dA) A res) := by
  refine mk_met (by decide +kernel) (Nat.le_of_ble_eq_true rfl) (fun p e s m below meth c K => ?_)
  have K : Cx p s m _ meth c cX12_telling 3 (some .int) RX12 D (tysR dA) (wdR ad dA) A := K
  refine v_aload_n K dX12_telling_0 0 rfl ?_
  refine g_X12_51 K qf_X12_99 dX12_telling_1 ?_
  refine v_iload_n K dX12_telling_4 1 rfl ?_
  refine ld_R29 K dX12_telling_5 hM (fun hM => ?_)
  refine v_iconst (v := (4 : Int32)) K dX12_telling_6 (by decide) ?_
  refine v_icmp_ne K 25 dX12_telling_7 (by decide) hM (fun hM => ?_) (fun hM => ?_)
  · refine v_aload_n K dX12_telling_25 0 rfl ?_
    refine g_X12_51 K qf_X12_99 dX12_telling_26 ?_
    refine v_iload_n K dX12_telling_29 1 rfl ?_
    refine ld_R29 K dX12_telling_30 hM (fun hM => ?_)
    refine v_iconst (v := (5 : Int32)) K dX12_telling_31 (by decide) ?_
    refine v_icmp_ne K 50 dX12_telling_32 (by decide) hM (fun hM => ?_) (fun hM => ?_)
    · refine v_aload_n K dX12_telling_50 0 rfl ?_
      refine v_iload_n K dX12_telling_51 1 rfl ?_
      refine v_iload_n K dX12_telling_52 2 rfl ?_
      refine x_Vi (As := [.int p1, .int p2]) (st := []) K uv_X12_plainTells qm_X12_419 dX12_telling_53 rv_X12 (fun _ h => c_X12_plainTells l  n p1 p2 σ h) rfl ⟨(Nat.le_of_ble_eq_true rfl), (Nat.le_of_ble_eq_true rfl)⟩ (Nat.le_of_ble_eq_true rfl) hM (fun r2 s1 hM => ?_)
      exact v_iret K rfl dX12_telling_56 hM
    · refine v_aload_n K dX12_telling_35 0 rfl ?_
      refine v_bipush (v := (61 : Int32)) K dX12_telling_36 (by decide) ?_
      refine x_Vv (As := [.int (61 : Int32)]) (st := []) K uv_X12_ran qm_X12_386 dX12_telling_38 rv_X12 (fun _ h => c_X12_ran l  n (61 : Int32) σ h) rfl ⟨(Nat.le_of_ble_eq_true rfl), (Nat.le_of_ble_eq_true rfl)⟩ (Nat.le_of_ble_eq_true rfl) hM (fun s3 hM => ?_)
      refine v_aload_n K dX12_telling_41 0 rfl ?_
      refine v_iload_n K dX12_telling_42 1 rfl ?_
      refine v_iload_n K dX12_telling_43 2 rfl ?_
      refine x_Vi (As := [.int p1, .int p2]) (st := []) K uv_X12_plainTells qm_X12_419 dX12_telling_44 rv_X12 (fun _ h => c_X12_plainTells l  n p1 p2 s3 h) rfl ⟨(Nat.le_of_ble_eq_true rfl), (Nat.le_of_ble_eq_true rfl)⟩ (Nat.le_of_ble_eq_true rfl) hM (fun r5 s4 hM => ?_)
      refine v_iconst (v := (1 : Int32)) K dX12_telling_47 (by decide) ?_
      refine v_iadd K dX12_telling_48 ?_
      exact v_iret K rfl dX12_telling_49 hM
  · refine v_aload_n K dX12_telling_10 0 rfl ?_
    refine v_bipush (v := (50 : Int32)) K dX12_telling_11 (by decide) ?_
    refine x_Vv (As := [.int (50 : Int32)]) (st := []) K uv_X12_ran qm_X12_386 dX12_telling_13 rv_X12 (fun _ h => c_X12_ran l  n (50 : Int32) σ h) rfl ⟨(Nat.le_of_ble_eq_true rfl), (Nat.le_of_ble_eq_true rfl)⟩ (Nat.le_of_ble_eq_true rfl) hM (fun s6 hM => ?_)
    refine v_aload_n K dX12_telling_16 0 rfl ?_
    refine v_iload_n K dX12_telling_17 1 rfl ?_
    refine v_iload_n K dX12_telling_18 2 rfl ?_
    refine x_Vi (As := [.int p1, .int p2]) (st := []) K uv_X12_plainTells qm_X12_419 dX12_telling_19 rv_X12 (fun _ h => c_X12_plainTells l  n p1 p2 s6 h) rfl ⟨(Nat.le_of_ble_eq_true rfl), (Nat.le_of_ble_eq_true rfl)⟩ (Nat.le_of_ble_eq_true rfl) hM (fun r8 s7 hM => ?_)
    refine v_iconst (v := (5 : Int32)) K dX12_telling_22 (by decide) ?_
    refine v_ixor K dX12_telling_23 ?_
    exact v_iret K rfl dX12_telling_24 hM
noncomputable def F_X12_act (n : Nat) (p1 : Int32) (p2 : Int32) (p3 : Int32) (σ : St) : Option (Int32 × St) := bnd (sI σ 0 52 (0 : Int32)) fun s1 => bd (F_X12_isBody n p1 s1) fun r3 s2 => if r3 = 0 then (some ((0 : Int32), s2)) else (bd (F_X12_in n p2 (0 : Int32) (3 : Int32) s2) fun r5 s4 => if r5 = 0 then (some ((0 : Int32), s4)) else (if p2 = 0 then (bd (F_X12_bringing n p1 p3 s4) fun r13 s12 => some (r13, s12)) else (if p2 = (1 : Int32) then (bd (F_X12_speaking n p1 p3 s4) fun r11 s10 => some (r11, s10)) else (if p2 = (2 : Int32) then (bd (F_X12_binding n p1 p3 s4) fun r9 s8 => some (r9, s8)) else (bd (F_X12_telling n p1 p3 s4) fun r7 s6 => some (r7, s6))))))
set_option maxHeartbeats 4000000 in
set_option maxRecDepth 20000 in
theorem c_X12_act (l : Launch) {D : va_G} {A : Nat → Prop} {ad : Nat → Nat} {dA : Nat → ClassId}  (n : Nat) (p1 : Int32) (p2 : Int32) (p3 : Int32) (σ : St) {res : Int32 × St} (hM : F_X12_act n p1 p2 p3 σ = some res) : MI l yX12_act cX12_act 4 (some .int) 10 D (tysR dA) (wdR ad dA) A [.ref (ad 0), .int p1, .int p2, .int p3] σ (QI D (wdR ad dA) A res) := by
  refine mk_met (by decide +kernel) (Nat.le_of_ble_eq_true rfl) (fun p e s m below meth c K => ?_)
  have K : Cx p s m _ meth c cX12_act 4 (some .int) RX12 D (tysR dA) (wdR ad dA) A := K
  refine v_aload_n K dX12_act_0 0 rfl ?_
  refine v_iconst (v := (0 : Int32)) K dX12_act_1 (by decide) ?_
  refine p_X12_52 K qf_X12_383 dX12_act_2 hM (fun s1 hM => ?_)
  refine v_aload_n K dX12_act_5 0 rfl ?_
  refine v_iload_n K dX12_act_6 1 rfl ?_
  refine x_Vi (As := [.int p1]) (st := []) K uv_X12_isBody qm_X12_422 dX12_act_7 rv_X12 (fun _ h => c_X12_isBody l  n p1 s1 h) rfl ⟨(Nat.le_of_ble_eq_true rfl), (Nat.le_of_ble_eq_true rfl)⟩ (Nat.le_of_ble_eq_true rfl) hM (fun r3 s2 hM => ?_)
  refine v_if_eq K 22 dX12_act_10 (by decide) hM (fun hM => ?_) (fun hM => ?_)
  · refine v_iconst (v := (0 : Int32)) K dX12_act_22 (by decide) ?_
    exact v_iret K rfl dX12_act_23 hM
  · refine v_iload_n K dX12_act_13 2 rfl ?_
    refine v_iconst (v := (0 : Int32)) K dX12_act_14 (by decide) ?_
    refine v_iconst (v := (3 : Int32)) K dX12_act_15 (by decide) ?_
    refine x_Si (As := [.int p2, .int (0 : Int32), .int (3 : Int32)]) (st := []) K us_X12_in qm_X12_125 dX12_act_16 (fun _ h => c_X12_in l  n p2 (0 : Int32) (3 : Int32) s2 h) rfl ⟨(Nat.le_of_ble_eq_true rfl), (Nat.le_of_ble_eq_true rfl)⟩ (Nat.le_of_ble_eq_true rfl) hM (fun r5 s4 hM => ?_)
    refine v_if_ne K 24 dX12_act_19 (by decide) hM (fun hM => ?_) (fun hM => ?_)
    · refine v_iload_n K dX12_act_24 2 rfl ?_
      refine v_if_ne K 37 dX12_act_25 (by decide) hM (fun hM => ?_) (fun hM => ?_)
      · refine v_iload_n K dX12_act_37 2 rfl ?_
        refine v_iconst (v := (1 : Int32)) K dX12_act_38 (by decide) ?_
        refine v_icmp_ne K 51 dX12_act_39 (by decide) hM (fun hM => ?_) (fun hM => ?_)
        · refine v_iload_n K dX12_act_51 2 rfl ?_
          refine v_iconst (v := (2 : Int32)) K dX12_act_52 (by decide) ?_
          refine v_icmp_ne K 65 dX12_act_53 (by decide) hM (fun hM => ?_) (fun hM => ?_)
          · refine v_aload_n K dX12_act_65 0 rfl ?_
            refine v_iload_n K dX12_act_66 1 rfl ?_
            refine v_iload_n K dX12_act_67 3 rfl ?_
            refine x_Vi (As := [.int p1, .int p3]) (st := []) K uv_X12_telling qm_X12_425 dX12_act_68 rv_X12 (fun _ h => c_X12_telling l  n p1 p3 s4 h) rfl ⟨(Nat.le_of_ble_eq_true rfl), (Nat.le_of_ble_eq_true rfl)⟩ (Nat.le_of_ble_eq_true rfl) hM (fun r7 s6 hM => ?_)
            exact v_iret K rfl dX12_act_71 hM
          · refine v_aload_n K dX12_act_56 0 rfl ?_
            refine v_iload_n K dX12_act_57 1 rfl ?_
            refine v_iload_n K dX12_act_58 3 rfl ?_
            refine x_Vi (As := [.int p1, .int p3]) (st := []) K uv_X12_binding qm_X12_407 dX12_act_59 rv_X12 (fun _ h => c_X12_binding l  n p1 p3 s4 h) rfl ⟨(Nat.le_of_ble_eq_true rfl), (Nat.le_of_ble_eq_true rfl)⟩ (Nat.le_of_ble_eq_true rfl) hM (fun r9 s8 hM => ?_)
            refine v_goto (tgt := 71) K dX12_act_62 (by decide) ?_
            exact v_iret K rfl dX12_act_71 hM
        · refine v_aload_n K dX12_act_42 0 rfl ?_
          refine v_iload_n K dX12_act_43 1 rfl ?_
          refine v_iload_n K dX12_act_44 3 rfl ?_
          refine x_Vi (As := [.int p1, .int p3]) (st := []) K uv_X12_speaking qm_X12_416 dX12_act_45 rv_X12 (fun _ h => c_X12_speaking l  n p1 p3 s4 h) rfl ⟨(Nat.le_of_ble_eq_true rfl), (Nat.le_of_ble_eq_true rfl)⟩ (Nat.le_of_ble_eq_true rfl) hM (fun r11 s10 hM => ?_)
          refine v_goto (tgt := 71) K dX12_act_48 (by decide) ?_
          exact v_iret K rfl dX12_act_71 hM
      · refine v_aload_n K dX12_act_28 0 rfl ?_
        refine v_iload_n K dX12_act_29 1 rfl ?_
        refine v_iload_n K dX12_act_30 3 rfl ?_
        refine x_Vi (As := [.int p1, .int p3]) (st := []) K uv_X12_bringing qm_X12_398 dX12_act_31 rv_X12 (fun _ h => c_X12_bringing l  n p1 p3 s4 h) rfl ⟨(Nat.le_of_ble_eq_true rfl), (Nat.le_of_ble_eq_true rfl)⟩ (Nat.le_of_ble_eq_true rfl) hM (fun r13 s12 hM => ?_)
        refine v_goto (tgt := 71) K dX12_act_34 (by decide) ?_
        exact v_iret K rfl dX12_act_71 hM
    · refine v_iconst (v := (0 : Int32)) K dX12_act_22 (by decide) ?_
      exact v_iret K rfl dX12_act_23 hM
noncomputable def F_X12_count (n : Nat) (p1 : Int32) (σ : St) : Option (Int32 × St) := if p1 = (0 : Int32) then (some ((gI σ 0 1), σ)) else (if p1 = (1 : Int32) then (bd (F_X12_beginThought n  σ) fun _ s2 => bd (F_X12_boundMany n  s2) fun r4 s3 => some (r4, s3)) else (if p1 = (2 : Int32) then (some ((gI σ 0 13), σ)) else (if p1 = (3 : Int32) then (some ((gI σ 0 6), σ)) else (if p1 = (4 : Int32) then (some ((gI σ 0 50), σ)) else (if p1 = (5 : Int32) then (some ((gI σ 0 52), σ)) else (some ((-1 : Int32), σ)))))))
set_option maxHeartbeats 4000000 in
set_option maxRecDepth 20000 in
theorem c_X12_count (l : Launch) {D : va_G} {A : Nat → Prop} {ad : Nat → Nat} {dA : Nat → ClassId}  (n : Nat) (p1 : Int32) (σ : St) {res : Int32 × St} (hM : F_X12_count n p1 σ = some res) : MI l yX12_count cX12_count 2 (some .int) 2 D (tysR dA) (wdR ad dA) A [.ref (ad 0), .int p1] σ (QI D (wdR ad dA) A res) := by
  refine mk_met (by decide +kernel) (Nat.le_of_ble_eq_true rfl) (fun p e s m below meth c K => ?_)
  have K : Cx p s m _ meth c cX12_count 2 (some .int) RX12 D (tysR dA) (wdR ad dA) A := K
  refine v_iload_n K dX12_count_0 1 rfl ?_
  rcases ite_inv hM with ⟨hx1, hM⟩ | ⟨hx1, hM⟩
  · refine v_tabI K dX12_count_1 (k := (0 : Int32)) hx1 (by decide) (by decide) (off := 39) (by decide) (tgt := 40) (by decide) ?_
    refine v_aload_n K dX12_count_40 0 rfl ?_
    refine g_X12_1 K qf_X12_122 dX12_count_41 ?_
    exact v_iret K rfl dX12_count_44 hM
  rcases ite_inv hM with ⟨hx5, hM⟩ | ⟨hx5, hM⟩
  · refine v_tabI K dX12_count_1 (k := (1 : Int32)) hx5 (by decide) (by decide) (off := 44) (by decide) (tgt := 45) (by decide) ?_
    refine v_aload_n K dX12_count_45 0 rfl ?_
    refine x_Vv (As := []) (st := []) K uv_X12_beginThought qm_X12_257 dX12_count_46 rv_X12 (fun _ h => c_X12_beginThought l  n  σ h) rfl ⟨(Nat.le_of_ble_eq_true rfl), (Nat.le_of_ble_eq_true rfl)⟩ (Nat.le_of_ble_eq_true rfl) hM (fun s2 hM => ?_)
    refine v_aload_n K dX12_count_49 0 rfl ?_
    refine x_Vi (As := []) (st := []) K uv_X12_boundMany qm_X12_241 dX12_count_50 rv_X12 (fun _ h => c_X12_boundMany l  n  s2 h) rfl ⟨(Nat.le_of_ble_eq_true rfl), (Nat.le_of_ble_eq_true rfl)⟩ (Nat.le_of_ble_eq_true rfl) hM (fun r4 s3 hM => ?_)
    exact v_iret K rfl dX12_count_53 hM
  rcases ite_inv hM with ⟨hx6, hM⟩ | ⟨hx6, hM⟩
  · refine v_tabI K dX12_count_1 (k := (2 : Int32)) hx6 (by decide) (by decide) (off := 53) (by decide) (tgt := 54) (by decide) ?_
    refine v_aload_n K dX12_count_54 0 rfl ?_
    refine g_X12_13 K qf_X12_164 dX12_count_55 ?_
    exact v_iret K rfl dX12_count_58 hM
  rcases ite_inv hM with ⟨hx7, hM⟩ | ⟨hx7, hM⟩
  · refine v_tabI K dX12_count_1 (k := (3 : Int32)) hx7 (by decide) (by decide) (off := 58) (by decide) (tgt := 59) (by decide) ?_
    refine v_aload_n K dX12_count_59 0 rfl ?_
    refine g_X12_6 K qf_X12_149 dX12_count_60 ?_
    exact v_iret K rfl dX12_count_63 hM
  rcases ite_inv hM with ⟨hx8, hM⟩ | ⟨hx8, hM⟩
  · refine v_tabI K dX12_count_1 (k := (4 : Int32)) hx8 (by decide) (by decide) (off := 63) (by decide) (tgt := 64) (by decide) ?_
    refine v_aload_n K dX12_count_64 0 rfl ?_
    refine g_X12_50 K qf_X12_380 dX12_count_65 ?_
    exact v_iret K rfl dX12_count_68 hM
  rcases ite_inv hM with ⟨hx9, hM⟩ | ⟨hx9, hM⟩
  · refine v_tabI K dX12_count_1 (k := (5 : Int32)) hx9 (by decide) (by decide) (off := 68) (by decide) (tgt := 69) (by decide) ?_
    refine v_aload_n K dX12_count_69 0 rfl ?_
    refine g_X12_52 K qf_X12_383 dX12_count_70 ?_
    exact v_iret K rfl dX12_count_73 hM
  refine v_tabO K dX12_count_1 (by have a0 : p1.toInt ≠ 0 := ne_toInt hx1; have a1 : p1.toInt ≠ 1 := ne_toInt hx5; have a2 : p1.toInt ≠ 2 := ne_toInt hx6; have a3 : p1.toInt ≠ 3 := ne_toInt hx7; have a4 : p1.toInt ≠ 4 := ne_toInt hx8; have a5 : p1.toInt ≠ 5 := ne_toInt hx9; omega) (tgt := 74) (by decide) ?_
  refine v_iconst (v := (-1 : Int32)) K dX12_count_74 (by decide) ?_
  exact v_iret K rfl dX12_count_75 hM
noncomputable def F_X12_keep (n : Nat) (p1 : Int32) (p2 : Int32) (σ : St) : Option (Int32 × St) := bd (F_X12_isShelf n p1 σ) fun r2 s1 => if r2 = 0 then (some ((-1 : Int32), s1)) else (if p2 = (-1 : Int32) then (gd (vp_in p1 6) (bnd (sI s1 31 (p1).toNatClampNeg p2) fun s3 => some ((1 : Int32), s3))) else (bd (F_X12_isBody n p2 s1) fun r5 s4 => if r5 = 0 then (some ((-1 : Int32), s4)) else (gd (vp_in p1 6) (bnd (sI s4 31 (p1).toNatClampNeg p2) fun s6 => some ((1 : Int32), s6)))))
set_option maxHeartbeats 4000000 in
set_option maxRecDepth 20000 in
theorem c_X12_keep (l : Launch) {D : va_G} {A : Nat → Prop} {ad : Nat → Nat} {dA : Nat → ClassId}  (n : Nat) (p1 : Int32) (p2 : Int32) (σ : St) {res : Int32 × St} (hM : F_X12_keep n p1 p2 σ = some res) : MI l yX12_keep cX12_keep 3 (some .int) 3 D (tysR dA) (wdR ad dA) A [.ref (ad 0), .int p1, .int p2] σ (QI D (wdR ad dA) A res) := by
  refine mk_met (by decide +kernel) (Nat.le_of_ble_eq_true rfl) (fun p e s m below meth c K => ?_)
  have K : Cx p s m _ meth c cX12_keep 3 (some .int) RX12 D (tysR dA) (wdR ad dA) A := K
  refine v_iload_n K dX12_keep_0 1 rfl ?_
  refine x_Si (As := [.int p1]) (st := []) K us_X12_isShelf qm_X12_137 dX12_keep_1 (fun _ h => c_X12_isShelf l  n p1 σ h) rfl ⟨(Nat.le_of_ble_eq_true rfl), (Nat.le_of_ble_eq_true rfl)⟩ (Nat.le_of_ble_eq_true rfl) hM (fun r2 s1 hM => ?_)
  refine v_if_eq K 20 dX12_keep_4 (by decide) hM (fun hM => ?_) (fun hM => ?_)
  · refine v_iconst (v := (-1 : Int32)) K dX12_keep_20 (by decide) ?_
    exact v_iret K rfl dX12_keep_21 hM
  · refine v_iload_n K dX12_keep_7 2 rfl ?_
    refine v_iconst (v := (-1 : Int32)) K dX12_keep_8 (by decide) ?_
    refine v_icmp_eq K 22 dX12_keep_9 (by decide) hM (fun hM => ?_) (fun hM => ?_)
    · refine v_aload_n K dX12_keep_22 0 rfl ?_
      refine g_X12_54 K qf_X12_105 dX12_keep_23 ?_
      refine v_iload_n K dX12_keep_26 1 rfl ?_
      refine v_iload_n K dX12_keep_27 2 rfl ?_
      refine st_R31 K dX12_keep_28 hM (fun s3 hM => ?_)
      refine v_iconst (v := (1 : Int32)) K dX12_keep_29 (by decide) ?_
      exact v_iret K rfl dX12_keep_30 hM
    · refine v_aload_n K dX12_keep_12 0 rfl ?_
      refine v_iload_n K dX12_keep_13 2 rfl ?_
      refine x_Vi (As := [.int p2]) (st := []) K uv_X12_isBody qm_X12_422 dX12_keep_14 rv_X12 (fun _ h => c_X12_isBody l  n p2 s1 h) rfl ⟨(Nat.le_of_ble_eq_true rfl), (Nat.le_of_ble_eq_true rfl)⟩ (Nat.le_of_ble_eq_true rfl) hM (fun r5 s4 hM => ?_)
      refine v_if_ne K 22 dX12_keep_17 (by decide) hM (fun hM => ?_) (fun hM => ?_)
      · refine v_aload_n K dX12_keep_22 0 rfl ?_
        refine g_X12_54 K qf_X12_105 dX12_keep_23 ?_
        refine v_iload_n K dX12_keep_26 1 rfl ?_
        refine v_iload_n K dX12_keep_27 2 rfl ?_
        refine st_R31 K dX12_keep_28 hM (fun s6 hM => ?_)
        refine v_iconst (v := (1 : Int32)) K dX12_keep_29 (by decide) ?_
        exact v_iret K rfl dX12_keep_30 hM
      · refine v_iconst (v := (-1 : Int32)) K dX12_keep_20 (by decide) ?_
        exact v_iret K rfl dX12_keep_21 hM
noncomputable def B_X12_row_1 (J : Nat → Int32 → Int32 → St → Option (Int32 × St)) (n : Nat)  (l1 : Int32) (l4 : Int32) (σ : St) : Option (Int32 × St) := if (((60 : Int32) * l1) + (60 : Int32)) ≤ l4 then (some ((1 : Int32), σ)) else (gd (vp_in l4 360) (bnd (sL σ 33 (l4).toNatClampNeg (0 : Int64)) fun s8 => bnd (l4 + (1 : Int32)) fun x9 => J 1 l1 x9 s8))
noncomputable def S_X12_row  (n : Nat) (J : Nat → Int32 → Int32 → St → Option (Int32 × St)) : Nat → Int32 → Int32 → St → Option (Int32 × St) := fun lb a0 a1 σ => match lb with
  | 1 => B_X12_row_1 J n  a0 a1 σ
  | _ => none
noncomputable def L_X12_row  (n : Nat) : Nat → Int32 → Int32 → St → Option (Int32 × St) := Nat.rec (fun _ _ _ _ => none) (fun n J => S_X12_row  n J) n
noncomputable def F_X12_row (n : Nat) (p1 : Int32) (p2 : Int32) (p3 : Int32) (σ : St) : Option (Int32 × St) := bd (F_X12_isShelf n p1 σ) fun r2 s1 => if r2 = 0 then (some ((-1 : Int32), s1)) else (bd (F_X12_in n p2 (0 : Int32) (4 : Int32) s1) fun r4 s3 => if r4 = 0 then (some ((-1 : Int32), s3)) else (if p3 ≤ (60 : Int32) then (if 0 ≤ p3 then (gd (vp_in p1 6) (bnd (sI s3 31 (p1).toNatClampNeg ((-2 : Int32) - p2)) fun s5 => gd (vp_in p1 6) (bnd (sI s5 32 (p1).toNatClampNeg p3) fun s6 => bnd ((60 : Int32) * p1) fun x7 => L_X12_row  n 1 p1 x7 s6))) else (some ((-14 : Int32), s3))) else (some ((-1 : Int32), s3))))
set_option maxHeartbeats 4000000 in
set_option maxRecDepth 20000 in
theorem t_X12_row (l : Launch) {p : Program} {e : Env} {s : State} {m : MethodId} {args : Array Value} {below : List Frame} {meth : Method} {c : Code} {D : va_G} {A : Nat → Prop} {ad : Nat → Nat} {dA : Nat → ClassId}   (K : Cx p s m args meth c cX12_row 5 (some .int) RX12 D (tysR dA) (wdR ad dA) A) {res : Int32 × St} (n : Nat) : (∀ (l1 : Int32) (l4 : Int32) (σ : St), L_X12_row  n 1 l1 l4 σ = some res → V p l e (rmH 3) s m args below meth c 5 D (wdR ad dA) A (MQ below (QI D (wdR ad dA) A res) args s 0 0 A) 54 [(0, .ref (ad 0)), (1, .int l1), (4, .int l4)] [] σ) := by
  induction n with
  | zero => exact (fun _ _ _ h => (by cases h))
  | succ n ih =>
    have ih_1 := ih
    · intro l1 l4 σ hM
      have hM : B_X12_row_1 (L_X12_row  n) n  l1 l4 σ = some res := hM
      refine v_iload K dX12_row_54 2 rfl ?_
      refine v_bipush (v := (60 : Int32)) K dX12_row_56 (by decide) ?_
      refine v_iload_n K dX12_row_58 1 rfl ?_
      refine v_imul K dX12_row_59 ?_
      refine v_bipush (v := (60 : Int32)) K dX12_row_60 (by decide) ?_
      refine v_iadd K dX12_row_62 ?_
      refine v_icmp_ge K 80 dX12_row_63 (by decide) hM (fun hM => ?_) (fun hM => ?_)
      · refine v_iconst (v := (1 : Int32)) K dX12_row_80 (by decide) ?_
        exact v_iret K rfl dX12_row_81 hM
      · refine v_aload_n K dX12_row_66 0 rfl ?_
        refine g_X12_56 K qf_X12_111 dX12_row_67 ?_
        refine v_iload K dX12_row_70 2 rfl ?_
        refine v_lconst (v := (0 : Int64)) K dX12_row_72 (by decide) ?_
        refine st_R33 K dX12_row_73 hM (fun s8 hM => ?_)
        refine v_iinc K dX12_row_74 2 rfl (v := (l4 + (1 : Int32))) rfl (by decide) hM (fun y => [(4, .int y), (0, .ref (ad 0)), (1, .int l1)]) (fun _ => rfl) (fun x9 hM => ?_)
        refine v_goto (tgt := 54) K dX12_row_77 (by decide) ?_
        exact v_sub [1, 2, 0] rfl (ih_1 l1 x9 s8 hM)
set_option maxHeartbeats 4000000 in
set_option maxRecDepth 20000 in
theorem c_X12_row (l : Launch) {D : va_G} {A : Nat → Prop} {ad : Nat → Nat} {dA : Nat → ClassId}  (n : Nat) (p1 : Int32) (p2 : Int32) (p3 : Int32) (σ : St) {res : Int32 × St} (hM : F_X12_row n p1 p2 p3 σ = some res) : MI l yX12_row cX12_row 5 (some .int) 3 D (tysR dA) (wdR ad dA) A [.ref (ad 0), .int p1, .int p2, .int p3] σ (QI D (wdR ad dA) A res) := by
  refine mk_met (by decide +kernel) (Nat.le_of_ble_eq_true rfl) (fun p e s m below meth c K => ?_)
  have K : Cx p s m _ meth c cX12_row 5 (some .int) RX12 D (tysR dA) (wdR ad dA) A := K
  have ih_1 := t_X12_row l    K (res := res) n (below := below) (e := e)
  refine v_iload_n K dX12_row_0 1 rfl ?_
  refine x_Si (As := [.int p1]) (st := []) K us_X12_isShelf qm_X12_137 dX12_row_1 (fun _ h => c_X12_isShelf l  n p1 σ h) rfl ⟨(Nat.le_of_ble_eq_true rfl), (Nat.le_of_ble_eq_true rfl)⟩ (Nat.le_of_ble_eq_true rfl) hM (fun r2 s1 hM => ?_)
  refine v_if_eq K 22 dX12_row_4 (by decide) hM (fun hM => ?_) (fun hM => ?_)
  · refine v_iconst (v := (-1 : Int32)) K dX12_row_22 (by decide) ?_
    exact v_iret K rfl dX12_row_23 hM
  · refine v_iload_n K dX12_row_7 2 rfl ?_
    refine v_iconst (v := (0 : Int32)) K dX12_row_8 (by decide) ?_
    refine v_iconst (v := (4 : Int32)) K dX12_row_9 (by decide) ?_
    refine x_Si (As := [.int p2, .int (0 : Int32), .int (4 : Int32)]) (st := []) K us_X12_in qm_X12_125 dX12_row_10 (fun _ h => c_X12_in l  n p2 (0 : Int32) (4 : Int32) s1 h) rfl ⟨(Nat.le_of_ble_eq_true rfl), (Nat.le_of_ble_eq_true rfl)⟩ (Nat.le_of_ble_eq_true rfl) hM (fun r4 s3 hM => ?_)
    refine v_if_eq K 22 dX12_row_13 (by decide) hM (fun hM => ?_) (fun hM => ?_)
    · refine v_iconst (v := (-1 : Int32)) K dX12_row_22 (by decide) ?_
      exact v_iret K rfl dX12_row_23 hM
    · refine v_iload_n K dX12_row_16 3 rfl ?_
      refine v_bipush (v := (60 : Int32)) K dX12_row_17 (by decide) ?_
      refine v_icmp_le K 24 dX12_row_19 (by decide) hM (fun hM => ?_) (fun hM => ?_)
      · refine v_iload_n K dX12_row_24 3 rfl ?_
        refine v_if_ge K 31 dX12_row_25 (by decide) hM (fun hM => ?_) (fun hM => ?_)
        · refine v_aload_n K dX12_row_31 0 rfl ?_
          refine g_X12_54 K qf_X12_105 dX12_row_32 ?_
          refine v_iload_n K dX12_row_35 1 rfl ?_
          refine v_bipush (v := (-2 : Int32)) K dX12_row_36 (by decide) ?_
          refine v_iload_n K dX12_row_38 2 rfl ?_
          refine v_isub K dX12_row_39 ?_
          refine st_R31 K dX12_row_40 hM (fun s5 hM => ?_)
          refine v_aload_n K dX12_row_41 0 rfl ?_
          refine g_X12_55 K qf_X12_108 dX12_row_42 ?_
          refine v_iload_n K dX12_row_45 1 rfl ?_
          refine v_iload_n K dX12_row_46 3 rfl ?_
          refine st_R32 K dX12_row_47 hM (fun s6 hM => ?_)
          refine v_bipush (v := (60 : Int32)) K dX12_row_48 (by decide) ?_
          refine v_iload_n K dX12_row_50 1 rfl ?_
          refine v_imul K dX12_row_51 ?_
          refine v_topi hM (fun x7 hM => ?_)
          refine v_istore K dX12_row_52 (by decide) [(4, .int x7), (0, .ref (ad 0)), (1, .int p1), (2, .int p2), (3, .int p3)] rfl ?_
          exact v_sub [1, 2, 0] rfl (ih_1 p1 x7 s6 hM)
        · refine v_bipush (v := (-14 : Int32)) K dX12_row_28 (by decide) ?_
          exact v_iret K rfl dX12_row_30 hM
      · refine v_iconst (v := (-1 : Int32)) K dX12_row_22 (by decide) ?_
        exact v_iret K rfl dX12_row_23 hM
noncomputable def F_X12_whyNoPlace (n : Nat) (p1 : Int32) (p2 : Int32) (σ : St) : Option (Int32 × St) := bd (F_X12_isShelf n p1 σ) fun r2 s1 => if r2 = 0 then (some ((-1 : Int32), s1)) else (gd (vp_in p1 6) (if (gI s1 31 (p1).toNatClampNeg) = (-1 : Int32) then (some ((-11 : Int32), s1)) else (gd (vp_in p1 6) (if (gI s1 31 (p1).toNatClampNeg) < 0 then (gd (vp_in p1 6) (bd (F_X12_in n p2 (0 : Int32) ((gI s1 32 (p1).toNatClampNeg) - (1 : Int32)) s1) fun r4 s3 => if r4 = 0 then (some ((-13 : Int32), s3)) else (some ((0 : Int32), s3)))) else (some ((-12 : Int32), s1))))))
set_option maxHeartbeats 4000000 in
set_option maxRecDepth 20000 in
theorem c_X12_whyNoPlace (l : Launch) {D : va_G} {A : Nat → Prop} {ad : Nat → Nat} {dA : Nat → ClassId}  (n : Nat) (p1 : Int32) (p2 : Int32) (σ : St) {res : Int32 × St} (hM : F_X12_whyNoPlace n p1 p2 σ = some res) : MI l yX12_whyNoPlace cX12_whyNoPlace 3 (some .int) 3 D (tysR dA) (wdR ad dA) A [.ref (ad 0), .int p1, .int p2] σ (QI D (wdR ad dA) A res) := by
  refine mk_met (by decide +kernel) (Nat.le_of_ble_eq_true rfl) (fun p e s m below meth c K => ?_)
  have K : Cx p s m _ meth c cX12_whyNoPlace 3 (some .int) RX12 D (tysR dA) (wdR ad dA) A := K
  refine v_iload_n K dX12_whyNoPlace_0 1 rfl ?_
  refine x_Si (As := [.int p1]) (st := []) K us_X12_isShelf qm_X12_137 dX12_whyNoPlace_1 (fun _ h => c_X12_isShelf l  n p1 σ h) rfl ⟨(Nat.le_of_ble_eq_true rfl), (Nat.le_of_ble_eq_true rfl)⟩ (Nat.le_of_ble_eq_true rfl) hM (fun r2 s1 hM => ?_)
  refine v_if_ne K 9 dX12_whyNoPlace_4 (by decide) hM (fun hM => ?_) (fun hM => ?_)
  · refine v_aload_n K dX12_whyNoPlace_9 0 rfl ?_
    refine g_X12_54 K qf_X12_105 dX12_whyNoPlace_10 ?_
    refine v_iload_n K dX12_whyNoPlace_13 1 rfl ?_
    refine ld_R31 K dX12_whyNoPlace_14 hM (fun hM => ?_)
    refine v_iconst (v := (-1 : Int32)) K dX12_whyNoPlace_15 (by decide) ?_
    refine v_icmp_ne K 22 dX12_whyNoPlace_16 (by decide) hM (fun hM => ?_) (fun hM => ?_)
    · refine v_aload_n K dX12_whyNoPlace_22 0 rfl ?_
      refine g_X12_54 K qf_X12_105 dX12_whyNoPlace_23 ?_
      refine v_iload_n K dX12_whyNoPlace_26 1 rfl ?_
      refine ld_R31 K dX12_whyNoPlace_27 hM (fun hM => ?_)
      refine v_if_lt K 34 dX12_whyNoPlace_28 (by decide) hM (fun hM => ?_) (fun hM => ?_)
      · refine v_iload_n K dX12_whyNoPlace_34 2 rfl ?_
        refine v_iconst (v := (0 : Int32)) K dX12_whyNoPlace_35 (by decide) ?_
        refine v_aload_n K dX12_whyNoPlace_36 0 rfl ?_
        refine g_X12_55 K qf_X12_108 dX12_whyNoPlace_37 ?_
        refine v_iload_n K dX12_whyNoPlace_40 1 rfl ?_
        refine ld_R32 K dX12_whyNoPlace_41 hM (fun hM => ?_)
        refine v_iconst (v := (1 : Int32)) K dX12_whyNoPlace_42 (by decide) ?_
        refine v_isub K dX12_whyNoPlace_43 ?_
        refine x_Si (As := [.int p2, .int (0 : Int32), .int ((gI s1 32 (p1).toNatClampNeg) - (1 : Int32))]) (st := []) K us_X12_in qm_X12_125 dX12_whyNoPlace_44 (fun _ h => c_X12_in l  n p2 (0 : Int32) ((gI s1 32 (p1).toNatClampNeg) - (1 : Int32)) s1 h) rfl ⟨(Nat.le_of_ble_eq_true rfl), (Nat.le_of_ble_eq_true rfl)⟩ (Nat.le_of_ble_eq_true rfl) hM (fun r4 s3 hM => ?_)
        refine v_if_eq K 54 dX12_whyNoPlace_47 (by decide) hM (fun hM => ?_) (fun hM => ?_)
        · refine v_bipush (v := (-13 : Int32)) K dX12_whyNoPlace_54 (by decide) ?_
          exact v_iret K rfl dX12_whyNoPlace_56 hM
        · refine v_iconst (v := (0 : Int32)) K dX12_whyNoPlace_50 (by decide) ?_
          refine v_goto (tgt := 56) K dX12_whyNoPlace_51 (by decide) ?_
          exact v_iret K rfl dX12_whyNoPlace_56 hM
      · refine v_bipush (v := (-12 : Int32)) K dX12_whyNoPlace_31 (by decide) ?_
        exact v_iret K rfl dX12_whyNoPlace_33 hM
    · refine v_bipush (v := (-11 : Int32)) K dX12_whyNoPlace_19 (by decide) ?_
      exact v_iret K rfl dX12_whyNoPlace_21 hM
  · refine v_iconst (v := (-1 : Int32)) K dX12_whyNoPlace_7 (by decide) ?_
    exact v_iret K rfl dX12_whyNoPlace_8 hM
noncomputable def F_X12_put (n : Nat) (p1 : Int32) (p2 : Int32) (p3 : Int64) (σ : St) : Option (Int32 × St) := bd (F_X12_whyNoPlace n p1 p2 σ) fun r2 s1 => if 0 ≤ r2 then (gd (vp_in p1 6) (bnd ((-2 : Int32) - (gI s1 31 (p1).toNatClampNeg)) fun x3 => if x3 = 0 then (gd (vp_in (((60 : Int32) * p1) + p2) 360) (bnd (sL s1 33 ((((60 : Int32) * p1) + p2)).toNatClampNeg ((((((p3).toInt32)).toInt8.toInt32)).toInt64)) fun s9 => some ((1 : Int32), s9))) else (if x3 = (1 : Int32) then (gd (vp_in (((60 : Int32) * p1) + p2) 360) (bnd (sL s1 33 ((((60 : Int32) * p1) + p2)).toNatClampNeg ((((((p3).toInt32)).toInt16.toInt32)).toInt64)) fun s8 => some ((1 : Int32), s8))) else (if x3 = (2 : Int32) then (gd (vp_in (((60 : Int32) * p1) + p2) 360) (bnd (sL s1 33 ((((60 : Int32) * p1) + p2)).toNatClampNeg ((((p3).toInt32)).toInt64)) fun s7 => some ((1 : Int32), s7))) else (if x3 = (3 : Int32) then (gd (vp_in (((60 : Int32) * p1) + p2) 360) (bnd (sL s1 33 ((((60 : Int32) * p1) + p2)).toNatClampNeg p3) fun s6 => some ((1 : Int32), s6))) else (if (lg_cmp p3 (0 : Int64)) = 0 then (gd (vp_in (((60 : Int32) * p1) + p2) 360) (bnd (sL s1 33 ((((60 : Int32) * p1) + p2)).toNatClampNeg (0 : Int64)) fun s4 => some ((1 : Int32), s4))) else (gd (vp_in (((60 : Int32) * p1) + p2) 360) (bnd (sL s1 33 ((((60 : Int32) * p1) + p2)).toNatClampNeg (1 : Int64)) fun s5 => some ((1 : Int32), s5))))))))) else (some (r2, s1))
set_option maxHeartbeats 4000000 in
set_option maxRecDepth 20000 in
theorem c_X12_put (l : Launch) {D : va_G} {A : Nat → Prop} {ad : Nat → Nat} {dA : Nat → ClassId}  (n : Nat) (p1 : Int32) (p2 : Int32) (p3 : Int64) (σ : St) {res : Int32 × St} (hM : F_X12_put n p1 p2 p3 σ = some res) : MI l yX12_put cX12_put 7 (some .int) 4 D (tysR dA) (wdR ad dA) A [.ref (ad 0), .int p1, .int p2, .long p3] σ (QI D (wdR ad dA) A res) := by
  refine mk_met (by decide +kernel) (Nat.le_of_ble_eq_true rfl) (fun p e s m below meth c K => ?_)
  have K : Cx p s m _ meth c cX12_put 7 (some .int) RX12 D (tysR dA) (wdR ad dA) A := K
  refine v_aload_n K dX12_put_0 0 rfl ?_
  refine v_iload_n K dX12_put_1 1 rfl ?_
  refine v_iload_n K dX12_put_2 2 rfl ?_
  refine x_Vi (As := [.int p1, .int p2]) (st := []) K uv_X12_whyNoPlace qm_X12_428 dX12_put_3 rv_X12 (fun _ h => c_X12_whyNoPlace l  n p1 p2 σ h) rfl ⟨(Nat.le_of_ble_eq_true rfl), (Nat.le_of_ble_eq_true rfl)⟩ (Nat.le_of_ble_eq_true rfl) hM (fun r2 s1 hM => ?_)
  refine v_istore K dX12_put_6 (by decide) [(5, .int r2), (0, .ref (ad 0)), (1, .int p1), (2, .int p2), (3, .long p3)] rfl ?_
  refine v_iload K dX12_put_8 0 rfl ?_
  refine v_if_ge K 16 dX12_put_10 (by decide) hM (fun hM => ?_) (fun hM => ?_)
  · refine v_bipush (v := (-2 : Int32)) K dX12_put_16 (by decide) ?_
    refine v_aload_n K dX12_put_18 1 rfl ?_
    refine g_X12_54 K qf_X12_105 dX12_put_19 ?_
    refine v_iload_n K dX12_put_22 2 rfl ?_
    refine ld_R31 K dX12_put_23 hM (fun hM => ?_)
    refine v_isub K dX12_put_24 ?_
    refine v_topi hM (fun x3 hM => ?_)
    refine v_istore K dX12_put_25 (by decide) [(6, .int x3), (5, .int r2), (0, .ref (ad 0)), (1, .int p1), (2, .int p2), (3, .long p3)] rfl ?_
    refine v_aload_n K dX12_put_27 2 rfl ?_
    refine g_X12_56 K qf_X12_111 dX12_put_28 ?_
    refine v_bipush (v := (60 : Int32)) K dX12_put_31 (by decide) ?_
    refine v_iload_n K dX12_put_33 3 rfl ?_
    refine v_imul K dX12_put_34 ?_
    refine v_iload_n K dX12_put_35 4 rfl ?_
    refine v_iadd K dX12_put_36 ?_
    refine v_iload K dX12_put_37 0 rfl ?_
    refine v_if_ne K 49 dX12_put_39 (by decide) hM (fun hM => ?_) (fun hM => ?_)
    · refine v_iload K dX12_put_49 0 rfl ?_
      refine v_iconst (v := (1 : Int32)) K dX12_put_51 (by decide) ?_
      refine v_icmp_ne K 62 dX12_put_52 (by decide) hM (fun hM => ?_) (fun hM => ?_)
      · refine v_iload K dX12_put_62 0 rfl ?_
        refine v_iconst (v := (2 : Int32)) K dX12_put_64 (by decide) ?_
        refine v_icmp_ne K 74 dX12_put_65 (by decide) hM (fun hM => ?_) (fun hM => ?_)
        · refine v_iload K dX12_put_74 0 rfl ?_
          refine v_iconst (v := (3 : Int32)) K dX12_put_76 (by decide) ?_
          refine v_icmp_ne K 84 dX12_put_77 (by decide) hM (fun hM => ?_) (fun hM => ?_)
          · refine v_lload_n K dX12_put_84 5 rfl ?_
            refine v_lconst (v := (0 : Int64)) K dX12_put_85 (by decide) ?_
            refine v_lcmp K dX12_put_86 ?_
            refine v_if_eq K 94 dX12_put_87 (by decide) hM (fun hM => ?_) (fun hM => ?_)
            · refine v_lconst (v := (0 : Int64)) K dX12_put_94 (by decide) ?_
              refine st_R33 K dX12_put_95 hM (fun s4 hM => ?_)
              refine v_iconst (v := (1 : Int32)) K dX12_put_96 (by decide) ?_
              exact v_iret K rfl dX12_put_97 hM
            · refine v_lconst (v := (1 : Int64)) K dX12_put_90 (by decide) ?_
              refine v_goto (tgt := 95) K dX12_put_91 (by decide) ?_
              refine st_R33 K dX12_put_95 hM (fun s5 hM => ?_)
              refine v_iconst (v := (1 : Int32)) K dX12_put_96 (by decide) ?_
              exact v_iret K rfl dX12_put_97 hM
          · refine v_lload_n K dX12_put_80 5 rfl ?_
            refine v_goto (tgt := 95) K dX12_put_81 (by decide) ?_
            refine st_R33 K dX12_put_95 hM (fun s6 hM => ?_)
            refine v_iconst (v := (1 : Int32)) K dX12_put_96 (by decide) ?_
            exact v_iret K rfl dX12_put_97 hM
        · refine v_lload_n K dX12_put_68 5 rfl ?_
          refine v_l2i K dX12_put_69 ?_
          refine v_i2l K dX12_put_70 ?_
          refine v_goto (tgt := 95) K dX12_put_71 (by decide) ?_
          refine st_R33 K dX12_put_95 hM (fun s7 hM => ?_)
          refine v_iconst (v := (1 : Int32)) K dX12_put_96 (by decide) ?_
          exact v_iret K rfl dX12_put_97 hM
      · refine v_lload_n K dX12_put_55 5 rfl ?_
        refine v_l2i K dX12_put_56 ?_
        refine v_i2s K dX12_put_57 ?_
        refine v_i2l K dX12_put_58 ?_
        refine v_goto (tgt := 95) K dX12_put_59 (by decide) ?_
        refine st_R33 K dX12_put_95 hM (fun s8 hM => ?_)
        refine v_iconst (v := (1 : Int32)) K dX12_put_96 (by decide) ?_
        exact v_iret K rfl dX12_put_97 hM
    · refine v_lload_n K dX12_put_42 5 rfl ?_
      refine v_l2i K dX12_put_43 ?_
      refine v_i2b K dX12_put_44 ?_
      refine v_i2l K dX12_put_45 ?_
      refine v_goto (tgt := 95) K dX12_put_46 (by decide) ?_
      refine st_R33 K dX12_put_95 hM (fun s9 hM => ?_)
      refine v_iconst (v := (1 : Int32)) K dX12_put_96 (by decide) ?_
      exact v_iret K rfl dX12_put_97 hM
  · refine v_iload K dX12_put_13 0 rfl ?_
    exact v_iret K rfl dX12_put_15 hM
noncomputable def F_X12_element (n : Nat) (p1 : Int32) (p2 : Int32) (σ : St) : Option (Int64 × St) := bd (F_X12_whyNoPlace n p1 p2 σ) fun r2 s1 => if 0 ≤ r2 then (gd (vp_in (((60 : Int32) * p1) + p2) 360) (some ((gL s1 33 ((((60 : Int32) * p1) + p2)).toNatClampNeg), s1))) else (some ((-9223372036854775808 : Int64), s1))
set_option maxHeartbeats 4000000 in
set_option maxRecDepth 20000 in
theorem c_X12_element (l : Launch) {D : va_G} {A : Nat → Prop} {ad : Nat → Nat} {dA : Nat → ClassId}  (n : Nat) (p1 : Int32) (p2 : Int32) (σ : St) {res : Int64 × St} (hM : F_X12_element n p1 p2 σ = some res) : MI l yX12_element cX12_element 3 (some .long) 4 D (tysR dA) (wdR ad dA) A [.ref (ad 0), .int p1, .int p2] σ (QL D (wdR ad dA) A res) := by
  refine mk_met (by decide +kernel) (Nat.le_of_ble_eq_true rfl) (fun p e s m below meth c K => ?_)
  have K : Cx p s m _ meth c cX12_element 3 (some .long) RX12 D (tysR dA) (wdR ad dA) A := K
  refine v_aload_n K dX12_element_0 0 rfl ?_
  refine v_iload_n K dX12_element_1 1 rfl ?_
  refine v_iload_n K dX12_element_2 2 rfl ?_
  refine x_Vi (As := [.int p1, .int p2]) (st := []) K uv_X12_whyNoPlace qm_X12_428 dX12_element_3 rv_X12 (fun _ h => c_X12_whyNoPlace l  n p1 p2 σ h) rfl ⟨(Nat.le_of_ble_eq_true rfl), (Nat.le_of_ble_eq_true rfl)⟩ (Nat.le_of_ble_eq_true rfl) hM (fun r2 s1 hM => ?_)
  refine v_if_ge K 15 dX12_element_6 (by decide) hM (fun hM => ?_) (fun hM => ?_)
  · refine v_aload_n K dX12_element_15 0 rfl ?_
    refine g_X12_56 K qf_X12_111 dX12_element_16 ?_
    refine v_bipush (v := (60 : Int32)) K dX12_element_19 (by decide) ?_
    refine v_iload_n K dX12_element_21 1 rfl ?_
    refine v_imul K dX12_element_22 ?_
    refine v_iload_n K dX12_element_23 2 rfl ?_
    refine v_iadd K dX12_element_24 ?_
    refine ld_R33 K dX12_element_25 hM (fun hM => ?_)
    exact v_lret K rfl dX12_element_26 hM
  · refine v_ldc2 (v := (-9223372036854775808 : Int64)) K ql_X12_287 dX12_element_9 ?_
    refine v_goto (tgt := 26) K dX12_element_12 (by decide) ?_
    exact v_lret K rfl dX12_element_26 hM
noncomputable def B_X12_shift_1 (J : Nat → Int32 → Int32 → Int32 → Int32 → Int32 → Int32 → St → Option (Int32 × St)) (n : Nat)  (l1 : Int32) (l2 : Int32) (l3 : Int32) (l4 : Int32) (l5 : Int32) (l6 : Int32) (σ : St) : Option (Int32 × St) := if l5 ≤ l6 then (J 2 l3 l4 l5 (0 : Int32) 0 0 σ) else (gd (vp_in ((((60 : Int32) * l1) + l2) + l6) 360) (gd (vp_in l6 60) (bnd (sL σ 34 (l6).toNatClampNeg (gL σ 33 (((((60 : Int32) * l1) + l2) + l6)).toNatClampNeg)) fun s5 => bnd (l6 + (1 : Int32)) fun x6 => J 1 l1 l2 l3 l4 l5 x6 s5)))
noncomputable def B_X12_shift_2 (J : Nat → Int32 → Int32 → Int32 → Int32 → Int32 → Int32 → St → Option (Int32 × St)) (n : Nat)  (l3 : Int32) (l4 : Int32) (l5 : Int32) (l6 : Int32) (σ : St) : Option (Int32 × St) := if l5 ≤ l6 then (some (l5, σ)) else (gd (vp_in l6 60) (gd (vp_in ((((60 : Int32) * l3) + l4) + l6) 360) (bnd (sL σ 33 (((((60 : Int32) * l3) + l4) + l6)).toNatClampNeg (gL σ 34 (l6).toNatClampNeg)) fun s7 => bnd (l6 + (1 : Int32)) fun x8 => J 2 l3 l4 l5 x8 0 0 s7)))
noncomputable def S_X12_shift  (n : Nat) (J : Nat → Int32 → Int32 → Int32 → Int32 → Int32 → Int32 → St → Option (Int32 × St)) : Nat → Int32 → Int32 → Int32 → Int32 → Int32 → Int32 → St → Option (Int32 × St) := fun lb a0 a1 a2 a3 a4 a5 σ => match lb with
  | 1 => B_X12_shift_1 J n  a0 a1 a2 a3 a4 a5 σ
  | 2 => B_X12_shift_2 J n  a0 a1 a2 a3 σ
  | _ => none
noncomputable def L_X12_shift  (n : Nat) : Nat → Int32 → Int32 → Int32 → Int32 → Int32 → Int32 → St → Option (Int32 × St) := Nat.rec (fun _ _ _ _ _ _ _ _ => none) (fun n J => S_X12_shift  n J) n
noncomputable def F_X12_shift (n : Nat) (p1 : Int32) (p2 : Int32) (p3 : Int32) (p4 : Int32) (p5 : Int32) (σ : St) : Option (Int32 × St) := bd (F_X12_isShelf n p1 σ) fun r2 s1 => if r2 = 0 then (some ((-1 : Int32), s1)) else (bd (F_X12_isShelf n p3 s1) fun r4 s3 => if r4 = 0 then (some ((-1 : Int32), s3)) else (gd (vp_in p1 6) (if (gI s3 31 (p1).toNatClampNeg) = (-1 : Int32) then (some ((-11 : Int32), s3)) else (gd (vp_in p3 6) (if (gI s3 31 (p3).toNatClampNeg) = (-1 : Int32) then (some ((-11 : Int32), s3)) else (gd (vp_in p1 6) (if 0 ≤ (gI s3 31 (p1).toNatClampNeg) then (some ((-12 : Int32), s3)) else (gd (vp_in p1 6) (gd (vp_in p3 6) (if (gI s3 31 (p1).toNatClampNeg) = (gI s3 31 (p3).toNatClampNeg) then (if p5 < 0 then (some ((-13 : Int32), s3)) else (if p2 < 0 then (some ((-13 : Int32), s3)) else (if p4 < 0 then (some ((-13 : Int32), s3)) else (gd (vp_in p1 6) (if ((gI s3 32 (p1).toNatClampNeg) - p5) < p2 then (some ((-13 : Int32), s3)) else (gd (vp_in p3 6) (if p4 ≤ ((gI s3 32 (p3).toNatClampNeg) - p5) then (L_X12_shift  n 1 p1 p2 p3 p4 p5 (0 : Int32) s3) else (some ((-13 : Int32), s3))))))))) else (some ((-12 : Int32), s3))))))))))))
set_option maxHeartbeats 4000000 in
set_option maxRecDepth 20000 in
theorem t_X12_shift (l : Launch) {p : Program} {e : Env} {s : State} {m : MethodId} {args : Array Value} {below : List Frame} {meth : Method} {c : Code} {D : va_G} {A : Nat → Prop} {ad : Nat → Nat} {dA : Nat → ClassId}   (K : Cx p s m args meth c cX12_shift 7 (some .int) RX12 D (tysR dA) (wdR ad dA) A) {res : Int32 × St} (n : Nat) : (∀ (l1 : Int32) (l2 : Int32) (l3 : Int32) (l4 : Int32) (l5 : Int32) (l6 : Int32) (σ : St), L_X12_shift  n 1 l1 l2 l3 l4 l5 l6 σ = some res → V p l e (rmH 3) s m args below meth c 7 D (wdR ad dA) A (MQ below (QI D (wdR ad dA) A res) args s 0 0 A) 113 [(0, .ref (ad 0)), (1, .int l1), (2, .int l2), (3, .int l3), (4, .int l4), (5, .int l5), (6, .int l6)] [] σ) ∧ (∀ (l3 : Int32) (l4 : Int32) (l5 : Int32) (l6 : Int32) (σ : St), L_X12_shift  n 2 l3 l4 l5 l6 0 0 σ = some res → V p l e (rmH 3) s m args below meth c 7 D (wdR ad dA) A (MQ below (QI D (wdR ad dA) A res) args s 0 0 A) 150 [(0, .ref (ad 0)), (3, .int l3), (4, .int l4), (5, .int l5), (6, .int l6)] [] σ) := by
  induction n with
  | zero => exact ⟨fun _ _ _ _ _ _ _ h => (by cases h), fun _ _ _ _ _ h => (by cases h)⟩
  | succ n ih =>
    obtain ⟨ih_1, ih_2⟩ := ih
    refine ⟨?_, ?_⟩
    · intro l1 l2 l3 l4 l5 l6 σ hM
      have hM : B_X12_shift_1 (L_X12_shift  n) n  l1 l2 l3 l4 l5 l6 σ = some res := hM
      refine v_iload K dX12_shift_113 6 rfl ?_
      refine v_iload K dX12_shift_115 5 rfl ?_
      refine v_icmp_ge K 147 dX12_shift_117 (by decide) hM (fun hM => ?_) (fun hM => ?_)
      · refine v_iconst (v := (0 : Int32)) K dX12_shift_147 (by decide) ?_
        refine v_istore K dX12_shift_148 (by decide) [(6, .int (0 : Int32)), (0, .ref (ad 0)), (1, .int l1), (2, .int l2), (3, .int l3), (4, .int l4), (5, .int l5)] rfl ?_
        exact v_sub [1, 4, 5, 6, 0] rfl (ih_2 l3 l4 l5 (0 : Int32) σ hM)
      · refine v_aload_n K dX12_shift_120 0 rfl ?_
        refine g_X12_57 K qf_X12_115 dX12_shift_121 ?_
        refine v_iload K dX12_shift_124 6 rfl ?_
        refine v_aload_n K dX12_shift_126 0 rfl ?_
        refine g_X12_56 K qf_X12_111 dX12_shift_127 ?_
        refine v_bipush (v := (60 : Int32)) K dX12_shift_130 (by decide) ?_
        refine v_iload_n K dX12_shift_132 1 rfl ?_
        refine v_imul K dX12_shift_133 ?_
        refine v_iload_n K dX12_shift_134 2 rfl ?_
        refine v_iadd K dX12_shift_135 ?_
        refine v_iload K dX12_shift_136 6 rfl ?_
        refine v_iadd K dX12_shift_138 ?_
        refine ld_R33 K dX12_shift_139 hM (fun hM => ?_)
        refine st_R34 K dX12_shift_140 hM (fun s5 hM => ?_)
        refine v_iinc K dX12_shift_141 6 rfl (v := (l6 + (1 : Int32))) rfl (by decide) hM (fun y => [(6, .int y), (0, .ref (ad 0)), (1, .int l1), (2, .int l2), (3, .int l3), (4, .int l4), (5, .int l5)]) (fun _ => rfl) (fun x6 hM => ?_)
        refine v_goto (tgt := 113) K dX12_shift_144 (by decide) ?_
        exact v_sub [1, 2, 3, 4, 5, 6, 0] rfl (ih_1 l1 l2 l3 l4 l5 x6 s5 hM)
    · intro l3 l4 l5 l6 σ hM
      have hM : B_X12_shift_2 (L_X12_shift  n) n  l3 l4 l5 l6 σ = some res := hM
      refine v_iload K dX12_shift_150 4 rfl ?_
      refine v_iload K dX12_shift_152 3 rfl ?_
      refine v_icmp_ge K 185 dX12_shift_154 (by decide) hM (fun hM => ?_) (fun hM => ?_)
      · refine v_iload K dX12_shift_185 3 rfl ?_
        exact v_iret K rfl dX12_shift_187 hM
      · refine v_aload_n K dX12_shift_157 0 rfl ?_
        refine g_X12_56 K qf_X12_111 dX12_shift_158 ?_
        refine v_bipush (v := (60 : Int32)) K dX12_shift_161 (by decide) ?_
        refine v_iload_n K dX12_shift_163 1 rfl ?_
        refine v_imul K dX12_shift_164 ?_
        refine v_iload K dX12_shift_165 2 rfl ?_
        refine v_iadd K dX12_shift_167 ?_
        refine v_iload K dX12_shift_168 4 rfl ?_
        refine v_iadd K dX12_shift_170 ?_
        refine v_aload_n K dX12_shift_171 0 rfl ?_
        refine g_X12_57 K qf_X12_115 dX12_shift_172 ?_
        refine v_iload K dX12_shift_175 4 rfl ?_
        refine ld_R34 K dX12_shift_177 hM (fun hM => ?_)
        refine st_R33 K dX12_shift_178 hM (fun s7 hM => ?_)
        refine v_iinc K dX12_shift_179 4 rfl (v := (l6 + (1 : Int32))) rfl (by decide) hM (fun y => [(6, .int y), (0, .ref (ad 0)), (3, .int l3), (4, .int l4), (5, .int l5)]) (fun _ => rfl) (fun x8 hM => ?_)
        refine v_goto (tgt := 150) K dX12_shift_182 (by decide) ?_
        exact v_sub [1, 2, 3, 4, 0] rfl (ih_2 l3 l4 l5 x8 s7 hM)
set_option maxHeartbeats 4000000 in
set_option maxRecDepth 20000 in
theorem c_X12_shift (l : Launch) {D : va_G} {A : Nat → Prop} {ad : Nat → Nat} {dA : Nat → ClassId}  (n : Nat) (p1 : Int32) (p2 : Int32) (p3 : Int32) (p4 : Int32) (p5 : Int32) (σ : St) {res : Int32 × St} (hM : F_X12_shift n p1 p2 p3 p4 p5 σ = some res) : MI l yX12_shift cX12_shift 7 (some .int) 3 D (tysR dA) (wdR ad dA) A [.ref (ad 0), .int p1, .int p2, .int p3, .int p4, .int p5] σ (QI D (wdR ad dA) A res) := by
  refine mk_met (by decide +kernel) (Nat.le_of_ble_eq_true rfl) (fun p e s m below meth c K => ?_)
  have K : Cx p s m _ meth c cX12_shift 7 (some .int) RX12 D (tysR dA) (wdR ad dA) A := K
  obtain ⟨ih_1, ih_2⟩ := t_X12_shift l    K (res := res) n (below := below) (e := e)
  refine v_iload_n K dX12_shift_0 1 rfl ?_
  refine x_Si (As := [.int p1]) (st := []) K us_X12_isShelf qm_X12_137 dX12_shift_1 (fun _ h => c_X12_isShelf l  n p1 σ h) rfl ⟨(Nat.le_of_ble_eq_true rfl), (Nat.le_of_ble_eq_true rfl)⟩ (Nat.le_of_ble_eq_true rfl) hM (fun r2 s1 hM => ?_)
  refine v_if_eq K 14 dX12_shift_4 (by decide) hM (fun hM => ?_) (fun hM => ?_)
  · refine v_iconst (v := (-1 : Int32)) K dX12_shift_14 (by decide) ?_
    exact v_iret K rfl dX12_shift_15 hM
  · refine v_iload_n K dX12_shift_7 3 rfl ?_
    refine x_Si (As := [.int p3]) (st := []) K us_X12_isShelf qm_X12_137 dX12_shift_8 (fun _ h => c_X12_isShelf l  n p3 s1 h) rfl ⟨(Nat.le_of_ble_eq_true rfl), (Nat.le_of_ble_eq_true rfl)⟩ (Nat.le_of_ble_eq_true rfl) hM (fun r4 s3 hM => ?_)
    refine v_if_ne K 16 dX12_shift_11 (by decide) hM (fun hM => ?_) (fun hM => ?_)
    · refine v_aload_n K dX12_shift_16 0 rfl ?_
      refine g_X12_54 K qf_X12_105 dX12_shift_17 ?_
      refine v_iload_n K dX12_shift_20 1 rfl ?_
      refine ld_R31 K dX12_shift_21 hM (fun hM => ?_)
      refine v_iconst (v := (-1 : Int32)) K dX12_shift_22 (by decide) ?_
      refine v_icmp_eq K 36 dX12_shift_23 (by decide) hM (fun hM => ?_) (fun hM => ?_)
      · refine v_bipush (v := (-11 : Int32)) K dX12_shift_36 (by decide) ?_
        exact v_iret K rfl dX12_shift_38 hM
      · refine v_aload_n K dX12_shift_26 0 rfl ?_
        refine g_X12_54 K qf_X12_105 dX12_shift_27 ?_
        refine v_iload_n K dX12_shift_30 3 rfl ?_
        refine ld_R31 K dX12_shift_31 hM (fun hM => ?_)
        refine v_iconst (v := (-1 : Int32)) K dX12_shift_32 (by decide) ?_
        refine v_icmp_ne K 39 dX12_shift_33 (by decide) hM (fun hM => ?_) (fun hM => ?_)
        · refine v_aload_n K dX12_shift_39 0 rfl ?_
          refine g_X12_54 K qf_X12_105 dX12_shift_40 ?_
          refine v_iload_n K dX12_shift_43 1 rfl ?_
          refine ld_R31 K dX12_shift_44 hM (fun hM => ?_)
          refine v_if_ge K 63 dX12_shift_45 (by decide) hM (fun hM => ?_) (fun hM => ?_)
          · refine v_bipush (v := (-12 : Int32)) K dX12_shift_63 (by decide) ?_
            exact v_iret K rfl dX12_shift_65 hM
          · refine v_aload_n K dX12_shift_48 0 rfl ?_
            refine g_X12_54 K qf_X12_105 dX12_shift_49 ?_
            refine v_iload_n K dX12_shift_52 1 rfl ?_
            refine ld_R31 K dX12_shift_53 hM (fun hM => ?_)
            refine v_aload_n K dX12_shift_54 0 rfl ?_
            refine g_X12_54 K qf_X12_105 dX12_shift_55 ?_
            refine v_iload_n K dX12_shift_58 3 rfl ?_
            refine ld_R31 K dX12_shift_59 hM (fun hM => ?_)
            refine v_icmp_eq K 66 dX12_shift_60 (by decide) hM (fun hM => ?_) (fun hM => ?_)
            · refine v_iload K dX12_shift_66 5 rfl ?_
              refine v_if_lt K 107 dX12_shift_68 (by decide) hM (fun hM => ?_) (fun hM => ?_)
              · refine v_bipush (v := (-13 : Int32)) K dX12_shift_107 (by decide) ?_
                exact v_iret K rfl dX12_shift_109 hM
              · refine v_iload_n K dX12_shift_71 2 rfl ?_
                refine v_if_lt K 107 dX12_shift_72 (by decide) hM (fun hM => ?_) (fun hM => ?_)
                · refine v_bipush (v := (-13 : Int32)) K dX12_shift_107 (by decide) ?_
                  exact v_iret K rfl dX12_shift_109 hM
                · refine v_iload K dX12_shift_75 4 rfl ?_
                  refine v_if_lt K 107 dX12_shift_77 (by decide) hM (fun hM => ?_) (fun hM => ?_)
                  · refine v_bipush (v := (-13 : Int32)) K dX12_shift_107 (by decide) ?_
                    exact v_iret K rfl dX12_shift_109 hM
                  · refine v_iload_n K dX12_shift_80 2 rfl ?_
                    refine v_aload_n K dX12_shift_81 0 rfl ?_
                    refine g_X12_55 K qf_X12_108 dX12_shift_82 ?_
                    refine v_iload_n K dX12_shift_85 1 rfl ?_
                    refine ld_R32 K dX12_shift_86 hM (fun hM => ?_)
                    refine v_iload K dX12_shift_87 5 rfl ?_
                    refine v_isub K dX12_shift_89 ?_
                    refine v_icmp_gt K 107 dX12_shift_90 (by decide) hM (fun hM => ?_) (fun hM => ?_)
                    · refine v_bipush (v := (-13 : Int32)) K dX12_shift_107 (by decide) ?_
                      exact v_iret K rfl dX12_shift_109 hM
                    · refine v_iload K dX12_shift_93 4 rfl ?_
                      refine v_aload_n K dX12_shift_95 0 rfl ?_
                      refine g_X12_55 K qf_X12_108 dX12_shift_96 ?_
                      refine v_iload_n K dX12_shift_99 3 rfl ?_
                      refine ld_R32 K dX12_shift_100 hM (fun hM => ?_)
                      refine v_iload K dX12_shift_101 5 rfl ?_
                      refine v_isub K dX12_shift_103 ?_
                      refine v_icmp_le K 110 dX12_shift_104 (by decide) hM (fun hM => ?_) (fun hM => ?_)
                      · refine v_iconst (v := (0 : Int32)) K dX12_shift_110 (by decide) ?_
                        refine v_istore K dX12_shift_111 (by decide) [(6, .int (0 : Int32)), (0, .ref (ad 0)), (1, .int p1), (2, .int p2), (3, .int p3), (4, .int p4), (5, .int p5)] rfl ?_
                        exact v_sub [1, 2, 3, 4, 5, 6, 0] rfl (ih_1 p1 p2 p3 p4 p5 (0 : Int32) s3 hM)
                      · refine v_bipush (v := (-13 : Int32)) K dX12_shift_107 (by decide) ?_
                        exact v_iret K rfl dX12_shift_109 hM
            · refine v_bipush (v := (-12 : Int32)) K dX12_shift_63 (by decide) ?_
              exact v_iret K rfl dX12_shift_65 hM
        · refine v_bipush (v := (-11 : Int32)) K dX12_shift_36 (by decide) ?_
          exact v_iret K rfl dX12_shift_38 hM
    · refine v_iconst (v := (-1 : Int32)) K dX12_shift_14 (by decide) ?_
      exact v_iret K rfl dX12_shift_15 hM
noncomputable def F_X12_taken (n : Nat) (p1 : Int32) (p2 : Int32) (σ : St) : Option (Int32 × St) := bd (F_X12_isShelf n p1 σ) fun r2 s1 => if r2 = 0 then (some ((-1 : Int32), s1)) else (bd (F_X12_in n p2 (0 : Int32) (7 : Int32) s1) fun r4 s3 => if r4 = 0 then (some ((-1 : Int32), s3)) else (gd (vp_in p1 6) (if (gI s3 31 (p1).toNatClampNeg) = (-1 : Int32) then (some ((-11 : Int32), s3)) else (gd (vp_in p1 6) (if (gI s3 31 (p1).toNatClampNeg) < 0 then (some ((-12 : Int32), s3)) else (gd (vp_in p1 6) (gd (vp_in (gI s3 31 (p1).toNatClampNeg) 50) (bd (F_X12_isUnder n (gI s3 29 ((gI s3 31 (p1).toNatClampNeg)).toNatClampNeg) p2 s3) fun r6 s5 => if r6 = 0 then (some ((-12 : Int32), s5)) else (gd (vp_in p1 6) (gd (vp_in (gI s5 31 (p1).toNatClampNeg) 50) (some ((gI s5 29 ((gI s5 31 (p1).toNatClampNeg)).toNatClampNeg), s5))))))))))))
set_option maxHeartbeats 4000000 in
set_option maxRecDepth 20000 in
theorem c_X12_taken (l : Launch) {D : va_G} {A : Nat → Prop} {ad : Nat → Nat} {dA : Nat → ClassId}  (n : Nat) (p1 : Int32) (p2 : Int32) (σ : St) {res : Int32 × St} (hM : F_X12_taken n p1 p2 σ = some res) : MI l yX12_taken cX12_taken 3 (some .int) 3 D (tysR dA) (wdR ad dA) A [.ref (ad 0), .int p1, .int p2] σ (QI D (wdR ad dA) A res) := by
  refine mk_met (by decide +kernel) (Nat.le_of_ble_eq_true rfl) (fun p e s m below meth c K => ?_)
  have K : Cx p s m _ meth c cX12_taken 3 (some .int) RX12 D (tysR dA) (wdR ad dA) A := K
  refine v_iload_n K dX12_taken_0 1 rfl ?_
  refine x_Si (As := [.int p1]) (st := []) K us_X12_isShelf qm_X12_137 dX12_taken_1 (fun _ h => c_X12_isShelf l  n p1 σ h) rfl ⟨(Nat.le_of_ble_eq_true rfl), (Nat.le_of_ble_eq_true rfl)⟩ (Nat.le_of_ble_eq_true rfl) hM (fun r2 s1 hM => ?_)
  refine v_if_eq K 17 dX12_taken_4 (by decide) hM (fun hM => ?_) (fun hM => ?_)
  · refine v_iconst (v := (-1 : Int32)) K dX12_taken_17 (by decide) ?_
    exact v_iret K rfl dX12_taken_18 hM
  · refine v_iload_n K dX12_taken_7 2 rfl ?_
    refine v_iconst (v := (0 : Int32)) K dX12_taken_8 (by decide) ?_
    refine v_bipush (v := (7 : Int32)) K dX12_taken_9 (by decide) ?_
    refine x_Si (As := [.int p2, .int (0 : Int32), .int (7 : Int32)]) (st := []) K us_X12_in qm_X12_125 dX12_taken_11 (fun _ h => c_X12_in l  n p2 (0 : Int32) (7 : Int32) s1 h) rfl ⟨(Nat.le_of_ble_eq_true rfl), (Nat.le_of_ble_eq_true rfl)⟩ (Nat.le_of_ble_eq_true rfl) hM (fun r4 s3 hM => ?_)
    refine v_if_ne K 19 dX12_taken_14 (by decide) hM (fun hM => ?_) (fun hM => ?_)
    · refine v_aload_n K dX12_taken_19 0 rfl ?_
      refine g_X12_54 K qf_X12_105 dX12_taken_20 ?_
      refine v_iload_n K dX12_taken_23 1 rfl ?_
      refine ld_R31 K dX12_taken_24 hM (fun hM => ?_)
      refine v_iconst (v := (-1 : Int32)) K dX12_taken_25 (by decide) ?_
      refine v_icmp_ne K 32 dX12_taken_26 (by decide) hM (fun hM => ?_) (fun hM => ?_)
      · refine v_aload_n K dX12_taken_32 0 rfl ?_
        refine g_X12_54 K qf_X12_105 dX12_taken_33 ?_
        refine v_iload_n K dX12_taken_36 1 rfl ?_
        refine ld_R31 K dX12_taken_37 hM (fun hM => ?_)
        refine v_if_lt K 73 dX12_taken_38 (by decide) hM (fun hM => ?_) (fun hM => ?_)
        · refine v_bipush (v := (-12 : Int32)) K dX12_taken_73 (by decide) ?_
          exact v_iret K rfl dX12_taken_75 hM
        · refine v_aload_n K dX12_taken_41 0 rfl ?_
          refine g_X12_51 K qf_X12_99 dX12_taken_42 ?_
          refine v_aload_n K dX12_taken_45 0 rfl ?_
          refine g_X12_54 K qf_X12_105 dX12_taken_46 ?_
          refine v_iload_n K dX12_taken_49 1 rfl ?_
          refine ld_R31 K dX12_taken_50 hM (fun hM => ?_)
          refine ld_R29 K dX12_taken_51 hM (fun hM => ?_)
          refine v_iload_n K dX12_taken_52 2 rfl ?_
          refine x_Si (As := [.int (gI s3 29 ((gI s3 31 (p1).toNatClampNeg)).toNatClampNeg), .int p2]) (st := []) K us_X12_isUnder qm_X12_392 dX12_taken_53 (fun _ h => c_X12_isUnder l  n (gI s3 29 ((gI s3 31 (p1).toNatClampNeg)).toNatClampNeg) p2 s3 h) rfl ⟨(Nat.le_of_ble_eq_true rfl), (Nat.le_of_ble_eq_true rfl)⟩ (Nat.le_of_ble_eq_true rfl) hM (fun r6 s5 hM => ?_)
          refine v_if_eq K 73 dX12_taken_56 (by decide) hM (fun hM => ?_) (fun hM => ?_)
          · refine v_bipush (v := (-12 : Int32)) K dX12_taken_73 (by decide) ?_
            exact v_iret K rfl dX12_taken_75 hM
          · refine v_aload_n K dX12_taken_59 0 rfl ?_
            refine g_X12_51 K qf_X12_99 dX12_taken_60 ?_
            refine v_aload_n K dX12_taken_63 0 rfl ?_
            refine g_X12_54 K qf_X12_105 dX12_taken_64 ?_
            refine v_iload_n K dX12_taken_67 1 rfl ?_
            refine ld_R31 K dX12_taken_68 hM (fun hM => ?_)
            refine ld_R29 K dX12_taken_69 hM (fun hM => ?_)
            refine v_goto (tgt := 75) K dX12_taken_70 (by decide) ?_
            exact v_iret K rfl dX12_taken_75 hM
      · refine v_bipush (v := (-11 : Int32)) K dX12_taken_29 (by decide) ?_
        exact v_iret K rfl dX12_taken_31 hM
    · refine v_iconst (v := (-1 : Int32)) K dX12_taken_17 (by decide) ?_
      exact v_iret K rfl dX12_taken_18 hM
