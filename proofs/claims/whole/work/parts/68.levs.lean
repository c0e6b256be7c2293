/-! the law read: the levels -/
section LEVS
variable {v : Nat → Nat} {T : Nat}
theorem sg0 (c : Nat) : sgT 0 c = true ↔ c = 124 := by unfold sgT; simp
theorem sg1 (c : Nat) : sgT 1 c = true ↔ c = 38 := by unfold sgT; simp
theorem sg2 (c : Nat) : sgT 2 c = true ↔ (c = 60 ∨ c = 61) ∨ c = 62 := by unfold sgT; simp
theorem sg3 (c : Nat) : sgT 3 c = true ↔ c = 43 ∨ c = 45 := by unfold sgT; simp
theorem sg4 (c : Nat) : sgT 4 c = true ↔ (c = 42 ∨ c = 47) ∨ c = 37 := by unfold sgT; simp
/-- what is looked at: a byte, or the end -/
theorem lookC (hT : T ≤ 120) (hv : ∀ q, q < T → v q < 256) {h j : Nat} {τ : St} (hh : h ≤ T) (hR : RT v T h j τ) : ∃ x : Int32, (∀ n, F_X12_look n τ = some (x, τ)) ∧ ∀ q, q < 128 → (x = nI q ↔ h < T ∧ v h = q) := by
  by_cases c : h < T
  · refine ⟨sb (v h), fun n => look12 hR hT c n, fun q hq => ?_⟩
    rw [sb_eq (hv h c) hq]
    exact ⟨fun e => ⟨c, e⟩, fun e => e.2⟩
  · refine ⟨-1, fun n => lookE hR hT (by omega) n, fun q hq => ⟨fun e => ?_, fun e => absurd e.1 c⟩⟩
    exact absurd e.symm (nI_nm1 (by omega))
theorem flt {τ : St} {x : Nat} (hx : x < 2147483648) (h : gI τ 0 15 = nI x) : 0 ≤ gI τ 0 15 := by rw [h, i_le, i_n hx, t0]; omega
theorem nflt {h o j : Nat} {τ : St} (hR : RS v T h o j τ) : ¬ 0 ≤ gI τ 0 15 := by rw [hR.2.1]; decide
theorem lr_0 (hT : T ≤ 120) (hv : ∀ q, q < T → v q < 256) : LRok v T 0 1 (fun D m τ => L_X12_either (F_X12_either D) m 1 τ) := by
  refine ⟨fun D m τ x hx h => ?_, fun D m τ h o j hh hR hn => ?_, fun D m τ h o j hR c cs => ?_⟩
  · show B_X12_either_1 (F_X12_either D) (L_X12_either (F_X12_either D) m) m τ = _
    unfold B_X12_either_1
    rw [if_pos (flt hx h)]
  · show B_X12_either_1 (F_X12_either D) (L_X12_either (F_X12_either D) m) m τ = _
    unfold B_X12_either_1
    obtain ⟨x, k1, k2⟩ := lookC hT hv hh hR.1
    rw [if_neg (nflt hR), k1, bd_some, if_neg (fun e => hn (by have := (k2 124 (by decide)).mp e; exact ⟨this.1, (sg0 _).mpr this.2⟩))]
  · show B_X12_either_1 (F_X12_either D) (L_X12_either (F_X12_either D) m) m τ = _
    unfold B_X12_either_1
    have e := (sg0 _).mp cs
    rw [if_neg (nflt hR), look12 hR.1 hT c, bd_some, if_pos (by rw [e]; decide), hR.1.2.2.1, n_a1, bnd_eq, show sb (v h) = (124 : Int32) by rw [e]; decide]
theorem lr_1 (hT : T ≤ 120) (hv : ∀ q, q < T → v q < 256) : LRok v T 1 1 (fun D m τ => L_X12_both (F_X12_either D) m 1 τ) := by
  refine ⟨fun D m τ x hx h => ?_, fun D m τ h o j hh hR hn => ?_, fun D m τ h o j hR c cs => ?_⟩
  · show B_X12_both_1 (F_X12_either D) (L_X12_both (F_X12_either D) m) m τ = _
    unfold B_X12_both_1
    rw [if_pos (flt hx h)]
  · show B_X12_both_1 (F_X12_either D) (L_X12_both (F_X12_either D) m) m τ = _
    unfold B_X12_both_1
    obtain ⟨x, k1, k2⟩ := lookC hT hv hh hR.1
    rw [if_neg (nflt hR), k1, bd_some, if_neg (fun e => hn (by have := (k2 38 (by decide)).mp e; exact ⟨this.1, (sg1 _).mpr this.2⟩))]
  · show B_X12_both_1 (F_X12_either D) (L_X12_both (F_X12_either D) m) m τ = _
    unfold B_X12_both_1
    have e := (sg1 _).mp cs
    rw [if_neg (nflt hR), look12 hR.1 hT c, bd_some, if_pos (by rw [e]; decide), hR.1.2.2.1, n_a1, bnd_eq, show sb (v h) = (38 : Int32) by rw [e]; decide]
theorem lr_3 (hT : T ≤ 120) (hv : ∀ q, q < T → v q < 256) : LRok v T 3 2 (fun D m τ => L_X12_sum (F_X12_either D) m 1 τ) := by
  refine ⟨fun D m τ x hx h => ?_, fun D m τ h o j hh hR hn => ?_, fun D m τ h o j hR c cs => ?_⟩
  · show B_X12_sum_1 (F_X12_either D) (L_X12_sum (F_X12_either D) m) m τ = _
    unfold B_X12_sum_1
    rw [if_pos (flt hx h)]
  · show B_X12_sum_1 (F_X12_either D) (L_X12_sum (F_X12_either D) m) m τ = _
    unfold B_X12_sum_1
    obtain ⟨x, k1, k2⟩ := lookC hT hv hh hR.1
    rw [if_neg (nflt hR), k1, bd_some, if_neg (fun e => hn (by have := (k2 43 (by decide)).mp e; exact ⟨this.1, (sg3 _).mpr (Or.inl this.2)⟩)), k1, bd_some, if_neg (fun e => hn (by have := (k2 45 (by decide)).mp e; exact ⟨this.1, (sg3 _).mpr (Or.inr this.2)⟩))]
  · have k1 := fun n => look12 hR.1 hT c n
    have e2 : L_X12_sum (F_X12_either D) (m + 1) 2 τ = bd (F_X12_either D (3 + 1) m (sI τ 0 14 (nI (h + 1)))) fun _ s5 => bd (F_X12_addStep m (sb (v h)) 0 s5) fun _ s6 => L_X12_sum (F_X12_either D) m 1 s6 := by
      show B_X12_sum_2 (F_X12_either D) (L_X12_sum (F_X12_either D) m) m τ = _
      unfold B_X12_sum_2
      rw [k1, bd_some, hR.1.2.2.1, n_a1, bnd_eq]
    show B_X12_sum_1 (F_X12_either D) (L_X12_sum (F_X12_either D) (m + 1)) (m + 1) τ = _
    unfold B_X12_sum_1
    rw [if_neg (nflt hR), k1, bd_some, k1, bd_some, e2]
    rcases (sg3 _).mp cs with e | e
    · rw [if_pos (show sb (v h) = (43 : Int32) by rw [e]; decide)]
    · rw [if_neg (show ¬ sb (v h) = (43 : Int32) by rw [e]; decide), if_pos (show sb (v h) = (45 : Int32) by rw [e]; decide)]
theorem lr_4 (hT : T ≤ 120) (hv : ∀ q, q < T → v q < 256) : LRok v T 4 2 (fun D m τ => L_X12_product (F_X12_either D) m 1 τ) := by
  refine ⟨fun D m τ x hx h => ?_, fun D m τ h o j hh hR hn => ?_, fun D m τ h o j hR c cs => ?_⟩
  · show B_X12_product_1 (F_X12_either D) (L_X12_product (F_X12_either D) m) m τ = _
    unfold B_X12_product_1
    rw [if_pos (flt hx h)]
  · show B_X12_product_1 (F_X12_either D) (L_X12_product (F_X12_either D) m) m τ = _
    unfold B_X12_product_1
    obtain ⟨x, k1, k2⟩ := lookC hT hv hh hR.1
    rw [if_neg (nflt hR), k1, bd_some, if_neg (fun e => hn (by have := (k2 42 (by decide)).mp e; exact ⟨this.1, (sg4 _).mpr (Or.inl (Or.inl this.2))⟩)), k1, bd_some, if_neg (fun e => hn (by have := (k2 47 (by decide)).mp e; exact ⟨this.1, (sg4 _).mpr (Or.inl (Or.inr this.2))⟩)), k1, bd_some, if_neg (fun e => hn (by have := (k2 37 (by decide)).mp e; exact ⟨this.1, (sg4 _).mpr (Or.inr this.2)⟩))]
  · have k1 := fun n => look12 hR.1 hT c n
    have e2 : L_X12_product (F_X12_either D) (m + 1) 2 τ = bd (F_X12_either D (4 + 1) m (sI τ 0 14 (nI (h + 1)))) fun _ s5 => bd (F_X12_addStep m (sb (v h)) 0 s5) fun _ s6 => L_X12_product (F_X12_either D) m 1 s6 := by
      show B_X12_product_2 (F_X12_either D) (L_X12_product (F_X12_either D) m) m τ = _
      unfold B_X12_product_2
      rw [k1, bd_some, hR.1.2.2.1, n_a1, bnd_eq]
    show B_X12_product_1 (F_X12_either D) (L_X12_product (F_X12_either D) (m + 1)) (m + 1) τ = _
    unfold B_X12_product_1
    rw [if_neg (nflt hR), k1, bd_some, k1, bd_some, k1, bd_some, e2]
    rcases (sg4 _).mp cs with (e | e) | e
    · rw [if_pos (show sb (v h) = (42 : Int32) by rw [e]; decide)]
    · rw [if_neg (show ¬ sb (v h) = (42 : Int32) by rw [e]; decide), if_pos (show sb (v h) = (47 : Int32) by rw [e]; decide)]
    · rw [if_neg (show ¬ sb (v h) = (42 : Int32) by rw [e]; decide), if_neg (show ¬ sb (v h) = (47 : Int32) by rw [e]; decide), if_pos (show sb (v h) = (37 : Int32) by rw [e]; decide)]
/-- a comparison is not joined again -/
theorem cmpXR {o : Nat} (hv : ∀ q, q < T → v q < 256) (hP : PJ v T 3 o) : PJ v T 2 o := by
  intro h j k σ τ hX hR hk hj
  have hT := hX.2.1
  have h120 := hX.1
  have EX : ∀ D m, F_X8_readJoined (D + 1) 0 m (nI 2) (nI o) σ = bd (F_X8_readJoined D 0 m (nI 3) (nI o) σ) fun r2 s1 => L_X8_readJoined (F_X8_readJoined D) m 1 (nI 2) (nI o) r2 (nI 1) (nI 0) s1 := fun D m => by
    show E_X8_readJoined (F_X8_readJoined D) m (nI 2) (nI o) σ = _
    unfold E_X8_readJoined
    have e2 : nI 2 = (2 : Int32) := rfl
    rw [if_pos (by decide), n_a1]
    simp only [if_pos e2]
    rfl
  have ER : ∀ D m τ, F_X12_either (D + 1) 2 m τ = E_X12_compared (F_X12_either D) m τ := fun _ _ _ => rfl
  have ed : 7 * (6 - o) + (6 - 2) = 7 * (6 - o) + (6 - 3) + 1 := by omega
  rcases hP h j k σ τ hX hR hk hj with ⟨C0, h', n, σ2, τ2, ⟨g1, g2, g3, g4, g5, g6, g7, g8, g9⟩, f1, f2⟩ | ⟨C0, h', j', p, σ2, τ2, gB, f1, f2⟩
  · by_cases c : h' < T ∧ sgT 2 (v h') = true
    · have k1 := fun n => look12 g6.1 h120 c.1 n
      have goR : ∀ D m, 7 * (6 - o) + (6 - 3) < D → C0 ≤ m + 1 → F_X12_either (D + 1) 2 (m + 1) τ = bd (F_X12_either D (2 + 1) m (sI τ2 0 14 (nI (h' + 1)))) fun _ s5 => F_X12_addStep m (sb (v h')) 0 s5 := fun D m hD hm => by
        rw [ER]
        unfold E_X12_compared
        refine Eq.trans (congrArg (fun z => bd z _) (f2 D (m + 1) hD hm)) ?_
        have e2 : L_X12_compared (F_X12_either D) (m + 1) 1 (sb (v h')) τ2 = bd (F_X12_either D (2 + 1) m (sI τ2 0 14 (nI (h' + 1)))) fun _ s5 => F_X12_addStep m (sb (v h')) 0 s5 := by
          show B_X12_compared_1 (F_X12_either D) (L_X12_compared (F_X12_either D) m) m (sb (v h')) τ2 = _
          unfold B_X12_compared_1
          have u1 : ∀ (x : Option (Unit × St)), (bd x fun _ s13 => some ((), s13)) = x := fun x => bd_id x
          rw [g6.1.2.2.1, n_a1, bnd_eq]
          simp only [u1]
        rw [bd_some, k1, bd_some, if_neg (nflt g6), e2]
        rcases (sg2 _).mp c.2 with (e | e) | e
        · rw [if_pos (show sb (v h') = (60 : Int32) by rw [e]; decide)]
        · rw [if_neg (show ¬ sb (v h') = (60 : Int32) by rw [e]; decide), if_pos (show sb (v h') = (61 : Int32) by rw [e]; decide)]
        · rw [if_neg (show ¬ sb (v h') = (60 : Int32) by rw [e]; decide), if_neg (show ¬ sb (v h') = (61 : Int32) by rw [e]; decide), if_pos (show sb (v h') = (62 : Int32) by rw [e]; decide)]
      rcases joinS (t := 2) (i := 0) (by decide) hP g5 g6 g3 (by omega) (by omega) g7 g8 g9 hk hj c.1 c.2 (nI 1) (by decide) with ⟨C1, h3, n3, σ3, τ3, gG, gh, q1, q2⟩ | ⟨C1, h3, j3, p3, σ3, τ3, gB, q1, q2⟩
      · refine Or.inl ⟨C0 + C1 + 2, h3, n3, σ3, τ3, gG, fun D m hD hm => ?_, fun D m hD hm => ?_⟩
        · obtain ⟨D, rfl⟩ : ∃ q, D = q + 1 := ⟨D - 1, by omega⟩
          obtain ⟨m, rfl⟩ : ∃ q, m = q + 1 + 1 := ⟨m - 2, by omega⟩
          refine (EX D (m + 1 + 1)).trans ?_
          refine Eq.trans (congrArg (fun z => bd z _) (f1 D (m + 1 + 1) (by omega) (by omega))) ?_
          rw [bd_some]
          refine (q1 D (m + 1) (by omega) (by omega)).trans ?_
          show B_X8_readJoined_1 (F_X8_readJoined D) (L_X8_readJoined (F_X8_readJoined D) m) m (nI 2) (nI o) (nI (k + n3 - 1)) (nI 1) (nI (0 + 1)) σ3 = _
          unfold B_X8_readJoined_1
          rw [if_pos (by decide)]
        · obtain ⟨D, rfl⟩ : ∃ q, D = q + 1 := ⟨D - 1, by omega⟩
          obtain ⟨m, rfl⟩ : ∃ q, m = q + 1 := ⟨m - 1, by omega⟩
          exact (goR D m (by omega) (by omega)).trans (q2 D m (by omega) (by omega))
      · refine Or.inr ⟨C0 + C1 + 2, h3, j3, p3, σ3, τ3, gB, fun D m hD hm => ?_, fun D m hD hm => ?_⟩
        · obtain ⟨D, rfl⟩ : ∃ q, D = q + 1 := ⟨D - 1, by omega⟩
          obtain ⟨m, rfl⟩ : ∃ q, m = q + 1 + 1 := ⟨m - 2, by omega⟩
          refine (EX D (m + 1 + 1)).trans ?_
          refine Eq.trans (congrArg (fun z => bd z _) (f1 D (m + 1 + 1) (by omega) (by omega))) ?_
          rw [bd_some]
          refine (q1 D (m + 1) (by omega) (by omega)).trans ?_
          show B_X8_readJoined_1 (F_X8_readJoined D) (L_X8_readJoined (F_X8_readJoined D) m) m (nI 2) (nI o) p3 (nI 1) (nI (0 + 1)) σ3 = _
          unfold B_X8_readJoined_1
          rw [if_pos (by decide)]
        · obtain ⟨D, rfl⟩ : ∃ q, D = q + 1 := ⟨D - 1, by omega⟩
          obtain ⟨m, rfl⟩ : ∃ q, m = q + 1 := ⟨m - 1, by omega⟩
          exact (goR D m (by omega) (by omega)).trans (q2 D m (by omega) (by omega))
    · obtain ⟨x, k1, k2⟩ := lookC h120 hv g2 g6.1
      refine Or.inl ⟨C0 + 2, h', n, σ2, τ2, ⟨g1, g2, g3, g4, g5, g6, g7, g8, g9⟩, fun D m hD hm => ?_, fun D m hD hm => ?_⟩
      · obtain ⟨D, rfl⟩ : ∃ q, D = q + 1 := ⟨D - 1, by omega⟩
        obtain ⟨m, rfl⟩ : ∃ q, m = q + 1 := ⟨m - 1, by omega⟩
        refine (EX D (m + 1)).trans ?_
        refine Eq.trans (congrArg (fun z => bd z _) (f1 D (m + 1) (by omega) (by omega))) ?_
        rw [bd_some]
        exact stopX (by decide) g5 (Or.inr c) _ _ _
      · obtain ⟨D, rfl⟩ : ∃ q, D = q + 1 := ⟨D - 1, by omega⟩
        refine (ER D m τ).trans ?_
        unfold E_X12_compared
        refine Eq.trans (congrArg (fun z => bd z _) (f2 D m (by omega) (by omega))) ?_
        rw [bd_some, k1, bd_some, if_neg (nflt g6), if_neg (fun e => c (by have := (k2 60 (by decide)).mp e; exact ⟨this.1, (sg2 _).mpr (Or.inl (Or.inl this.2))⟩)), if_neg (fun e => c (by have := (k2 61 (by decide)).mp e; exact ⟨this.1, (sg2 _).mpr (Or.inl (Or.inr this.2))⟩)), if_neg (fun e => c (by have := (k2 62 (by decide)).mp e; exact ⟨this.1, (sg2 _).mpr (Or.inr this.2)⟩))]
  · obtain ⟨x, k1, k2⟩ := lookC h120 hv gB.2.1 gB.2.2.2.2.1.1
    refine Or.inr ⟨C0 + 2, h', j', p, σ2, τ2, gB, fun D m hD hm => ?_, fun D m hD hm => ?_⟩
    · obtain ⟨D, rfl⟩ : ∃ q, D = q + 1 := ⟨D - 1, by omega⟩
      obtain ⟨m, rfl⟩ : ∃ q, m = q + 1 := ⟨m - 1, by omega⟩
      refine (EX D (m + 1)).trans ?_
      refine Eq.trans (congrArg (fun z => bd z _) (f1 D (m + 1) (by omega) (by omega))) ?_
      rw [bd_some]
      obtain ⟨k3, gX⟩ := gB.2.2.2.1
      exact stopX (by decide) gX (gB.2.2.2.2.2.2.2.imp id (fun z => fun y => dg_sg (gX.2.2.2.2.1 h' z.1).1 z.2 (by decide) y.2)) _ _ _
    · obtain ⟨D, rfl⟩ : ∃ q, D = q + 1 := ⟨D - 1, by omega⟩
      refine (ER D m τ).trans ?_
      unfold E_X12_compared
      refine Eq.trans (congrArg (fun z => bd z _) (f2 D m (by omega) (by omega))) ?_
      rw [bd_some, k1, bd_some, if_pos (flt (by have := gB.2.1; omega) gB.2.2.2.2.1.2)]
theorem lev5 {o : Nat} (hP : PO v T o) : PJ v T 5 o := by
  intro h j k σ τ hX hR hk hj
  have EX : ∀ D m, F_X8_readJoined (D + 1) 0 m (nI 5) (nI o) σ = F_X8_readJoined D 1 m (nI o) 0 σ := fun D m => by
    show E_X8_readJoined (F_X8_readJoined D) m (nI 5) (nI o) σ = _
    unfold E_X8_readJoined
    rw [if_neg (by decide), bd_id]
  rcases hP h j k σ τ hX hR hk hj with ⟨C0, h', n, σ2, τ2, gG, f1, f2⟩ | ⟨C0, h', j', p, σ2, τ2, gB, f1, f2⟩
  · refine Or.inl ⟨C0, h', n, σ2, τ2, gG, fun D m hD hm => ?_, fun D m hD hm => f2 D m (by omega) hm⟩
    obtain ⟨D, rfl⟩ : ∃ q, D = q + 1 := ⟨D - 1, by omega⟩
    exact (EX D m).trans (f1 D m (by omega) hm)
  · refine Or.inr ⟨C0, h', j', p, σ2, τ2, gB, fun D m hD hm => ?_, fun D m hD hm => f2 D m (by omega) hm⟩
    obtain ⟨D, rfl⟩ : ∃ q, D = q + 1 := ⟨D - 1, by omega⟩
    exact (EX D m).trans (f1 D m (by omega) hm)
theorem levAll (hT : T ≤ 120) (hv : ∀ q, q < T → v q < 256) {o : Nat} (hP : PO v T o) : PJ v T 0 o :=
  levXR (by decide) (by decide) (lr_0 hT hv) (fun _ _ _ => rfl) (levXR (by decide) (by decide) (lr_1 hT hv) (fun _ _ _ => rfl) (cmpXR hv (levXR (by decide) (by decide) (lr_3 hT hv) (fun _ _ _ => rfl) (levXR (by decide) (by decide) (lr_4 hT hv) (fun _ _ _ => rfl) (lev5 hP)))))
theorem allPO (hT : T ≤ 120) (hv : ∀ q, q < T → v q < 256) : ∀ (w o : Nat), o + w = 6 → PO v T o
  | 0, o, h => operXR (by omega) (fun c => by omega) (fun c => by omega)
  | w + 1, o, h => operXR (by omega) (fun c => levAll hT hv (allPO hT hv w (o + 1) (by omega))) (fun c => allPO hT hv w (o + 1) (by omega))
theorem eXR (hT : T ≤ 120) (hv : ∀ q, q < T → v q < 256) : PJ v T 0 0 := levAll hT hv (allPO hT hv 6 0 rfl)
end LEVS
