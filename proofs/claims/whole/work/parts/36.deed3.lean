/-! pairs -/
def pr (N : Nat) (p : Int32) : Prop := ∃ k : Nat, k < 2147483648 ∧ p = nI k ∧ k / 10 < N ∧ k % 10 < N ∧ k / 10 ≠ k % 10
theorem n_d10 {k : Nat} (h : k < 2147483648) : nI k / 10 = nI (k / 10) := pk_div (d := 10) h (by decide) (by decide)
theorem n_r10 {k : Nat} (h : k < 2147483648) : nI k - nI k / 10 * 10 = nI (k % 10) := pk_rem (d := 10) h (by decide) (by decide)
theorem n_q10 {k : Nat} (h : k < 2147483648) : nI k - nI (k / 10) * 10 = nI (k % 10) := by rw [← n_d10 h]; exact n_r10 h
theorem ten0 : ¬ (10 : Int32) = 0 := by decide
theorem unl6 {σ : St} {N : Nat} (hN : gI σ 4 1 = nI N) (h7 : N ≤ 7) (n : Nat) {a b : Nat} (ha : a < 2147483648) (hb : b < 2147483648) : F_X6_areUnlike n (nI a) (nI b) σ = some (if a < N ∧ b < N ∧ a ≠ b then 1 else 0, σ) := by
  unfold F_X6_areUnlike
  rw [has6 hN h7, bd_some, i_n ha, one0, has6 hN h7, bd_some, i_n hb, one0]
  by_cases c1 : a < N
  · rw [if_pos (show (0 : Int) ≤ a ∧ (a : Int) < N by omega)]
    by_cases c2 : b < N
    · rw [if_pos (show (0 : Int) ≤ b ∧ (b : Int) < N by omega)]
      by_cases c3 : a = b
      · subst c3
        rw [if_pos rfl, if_neg (by omega)]
      · rw [if_neg (by rw [nI_inj ha hb]; exact c3), if_pos ⟨c1, c2, c3⟩]
    · rw [if_neg (show ¬ ((0 : Int) ≤ b ∧ (b : Int) < N) by omega), if_neg (show ¬ (a < N ∧ b < N ∧ a ≠ b) by omega)]
  · rw [if_neg (show ¬ ((0 : Int) ≤ a ∧ (a : Int) < N) by omega), if_neg (show ¬ (a < N ∧ b < N ∧ a ≠ b) by omega)]
theorem pairX {σ : St} {N : Nat} (hN : gI σ 4 1 = nI N) (h7 : N ≤ 7) (p : Int32) : (pr N p ∧ ∀ n, F_X11_isPair n p σ = some (1, σ)) ∨ (¬ pr N p ∧ ∀ n, F_X11_isPair n p σ = some (0, σ)) := by
  by_cases h : p < 0
  · refine Or.inr ⟨fun ⟨k, h1, h2, _⟩ => ?_, fun n => ?_⟩
    · rw [h2, i_lt, i_n h1, t0] at h; omega
    · unfold F_X11_isPair; rw [if_pos h]
  · obtain ⟨k, h1, rfl, h3⟩ := i_nat (x := p) (by rw [i_lt, t0] at h; omega)
    have e : ∀ n, F_X11_isPair n (nI k) σ = some (if k / 10 < N ∧ k % 10 < N ∧ k / 10 ≠ k % 10 then 1 else 0, σ) := fun n => by
      unfold F_X11_isPair
      rw [if_neg h, gd_eq ten0, bnd_eq, gd_eq ten0, bnd_eq, n_r10 h1, n_d10 h1, unl6 hN h7 n (by omega) (by omega), bd_some, one0]
      split <;> rfl
    by_cases c : k / 10 < N ∧ k % 10 < N ∧ k / 10 ≠ k % 10
    · exact Or.inl ⟨⟨k, h1, rfl, c⟩, fun n => by rw [e, if_pos c]⟩
    · refine Or.inr ⟨fun ⟨q, g1, g2, g3⟩ => c ?_, fun n => by rw [e, if_neg c]⟩
      rw [nI_inj h1 g1] at g2
      subst g2
      exact g3
theorem pairR {τ : St} {N : Nat} (hN : gI τ 0 1 = nI N) (h7 : N ≤ 7) (n : Nat) {k : Nat} (h1 : k < 2147483648) : F_X12_areTwo n (nI k) τ = some (if k / 10 < N ∧ k % 10 < N ∧ k / 10 ≠ k % 10 then 1 else 0, τ) := by
  unfold F_X12_areTwo
  rw [if_neg (by rw [i_lt, i_n h1, t0]; omega)]
  simp only [gd_eq ten0, bnd_eq, n_d10 h1, n_q10 h1, isP12 hN h7, bd_some, i_n (show k / 10 < 2147483648 by omega), i_n (show k % 10 < 2147483648 by omega), one0]
  by_cases c1 : k / 10 < N
  · rw [if_pos (by omega)]
    by_cases c2 : k % 10 < N
    · rw [if_pos (by omega)]
      by_cases c3 : k / 10 = k % 10
      · rw [if_pos (by rw [c3]), if_neg (by omega)]
      · rw [if_neg (by rw [nI_inj (by omega) (by omega)]; exact c3), if_pos ⟨c1, c2, c3⟩]
    · rw [if_neg (by omega), if_neg (by omega)]
  · rw [if_neg (by omega), if_neg (by omega)]
theorem pairR0 {τ : St} {N : Nat} (hN : gI τ 0 1 = nI N) (h7 : N ≤ 7) {p : Int32} (h : ¬ pr N p) (n : Nat) : F_X12_areTwo n p τ = some (0, τ) := by
  by_cases c : p < 0
  · unfold F_X12_areTwo; rw [if_pos c]
  · obtain ⟨k, h1, rfl, h3⟩ := i_nat (x := p) (by rw [i_lt, t0] at c; omega)
    rw [pairR hN h7 n h1, if_neg (fun q => h ⟨k, h1, rfl, q⟩)]
/-! a whole year -/
theorem yrL (b : Nat) (hb : b ≠ b + 1) : ∀ (m i : Nat) (σ : St), i + m = 7 → ∃ σ', (∀ n, m + 1 ≤ n → L_X1_beginYear b n 1 (nI i) σ = some ((), σ')) ∧ gI σ' b 1 = 0 ∧ (∀ j, i ≤ j → j < 7 → gI σ' (b + 1) j = -1) ∧ (∀ j, j < i → gI σ' (b + 1) j = gI σ (b + 1) j) ∧ (∀ c k, c ≠ b → c ≠ b + 1 → gI σ' c k = gI σ c k) ∧ ∀ c k, gL σ' c k = gL σ c k
  | 0, i, σ, hi => by
    refine ⟨sI σ b 1 0, fun n hn => ?_, by simp [gI_sI], fun j a c => by omega, fun j _ => by rw [gI_sI, if_neg (by omega)], fun c k h1 h2 => by rw [gI_sI, if_neg h1], fun c k => rfl⟩
    obtain ⟨n, rfl⟩ : ∃ q, n = q + 1 := ⟨n - 1, by omega⟩
    show B_X1_beginYear_1 (L_X1_beginYear b n) n b (nI i) σ = _
    unfold B_X1_beginYear_1
    rw [if_pos (by rw [i_le, i_n (by omega), t7]; omega), bnd_eq]
  | m + 1, i, σ, hi => by
    obtain ⟨σ', e1, e2, e3, e4, e5, e6⟩ := yrL b hb m (i + 1) (sI σ (b + 1) i (-1)) (by omega)
    refine ⟨σ', fun n hn => ?_, e2, fun j a c => ?_, fun j a => ?_, fun c k h1 h2 => ?_, fun c k => e6 c k⟩
    · obtain ⟨n, rfl⟩ : ∃ q, n = q + 1 := ⟨n - 1, by omega⟩
      show B_X1_beginYear_1 (L_X1_beginYear b n) n b (nI i) σ = _
      unfold B_X1_beginYear_1
      rw [if_neg (by rw [i_le, i_n (by omega), t7]; omega), gd_eq (nIin (by omega) (by decide)), nIc (by omega), bnd_eq, bnd_eq, n_a1]
      exact e1 n (by omega)
    · by_cases e : j = i
      · subst e
        rw [e4 j (by omega), gI_sI, if_pos rfl, if_pos rfl]
      · exact e3 j (by omega) c
    · rw [e4 j (by omega), gI_sI, if_pos rfl, if_neg (by omega)]
    · rw [e5 c k h1 h2, gI_sI, if_neg h2]
theorem yr1 (b : Nat) (σ : St) : ∃ σ', (∀ n, 8 ≤ n → F_X1_beginYear n b σ = some ((), σ')) ∧ gI σ' b 1 = 0 ∧ (∀ j, j < 7 → gI σ' (b + 1) j = -1) ∧ (∀ c k, c ≠ b → c ≠ b + 1 → gI σ' c k = gI σ c k) ∧ ∀ c k, gL σ' c k = gL σ c k := by
  obtain ⟨σ', e1, e2, e3, e4, e5, e6⟩ := yrL b (by omega) 7 0 σ rfl
  exact ⟨σ', fun n hn => e1 n hn, e2, fun j hj => e3 j (by omega) hj, e5, e6⟩
theorem yr12L {N : Nat} (h7 : N ≤ 7) (r : Int32) : ∀ (m i : Nat) (τ : St), gI τ 0 1 = nI N → i + m = N → ∃ τ', (∀ n, m + 1 ≤ n → L_X12_year n 1 r (nI i) τ = some (r, τ')) ∧ gI τ' 0 29 = 0 ∧ gI τ' 26 2 = gI τ 26 2 + 1 ∧ (∀ k, k ≠ 2 → gI τ' 26 k = gI τ 26 k) ∧ (∀ j, i ≤ j → j < N → gI τ' 18 j = -1) ∧ (∀ j, j < i → gI τ' 18 j = gI τ 18 j) ∧ (∀ c k, c ≠ 0 → c ≠ 18 → c ≠ 26 → gI τ' c k = gI τ c k) ∧ (∀ k, k ≠ 29 → gI τ' 0 k = gI τ 0 k) ∧ ∀ c k, gL τ' c k = gL τ c k
  | 0, i, τ, hN, hi => by
    refine ⟨sI (sI τ 0 29 0) 26 2 (gI τ 26 2 + 1), fun n hn => ?_, rfl, rfl, fun k hk => by simp [gI_sI, hk], fun j a b => by omega, fun j _ => rfl, fun c k h1 h2 h3 => by simp [gI_sI, h1, h3], fun k hk => by simp [gI_sI, hk], fun c k => rfl⟩
    obtain ⟨n, rfl⟩ : ∃ q, n = q + 1 := ⟨n - 1, by omega⟩
    show B_X12_year_1 (L_X12_year n) n r (nI i) τ = _
    unfold B_X12_year_1
    rw [hN, if_pos (by rw [i_le, i_n (by omega), i_n (by omega)]; omega), bnd_eq, gd_eq v25, gd_eq v25, bnd_eq]
    rfl
  | m + 1, i, τ, hN, hi => by
    obtain ⟨τ', e1, e2, e3, e4, e5, e6, e7, e8, e9⟩ := yr12L h7 r m (i + 1) (sI τ 18 i (-1)) hN (by omega)
    refine ⟨τ', fun n hn => ?_, e2, e3, e4, fun j a b => ?_, fun j a => ?_, fun c k h1 h2 h3 => ?_, e8, e9⟩
    · obtain ⟨n, rfl⟩ : ∃ q, n = q + 1 := ⟨n - 1, by omega⟩
      show B_X12_year_1 (L_X12_year n) n r (nI i) τ = _
      unfold B_X12_year_1
      rw [hN, if_neg (by rw [i_le, i_n (by omega), i_n (by omega)]; omega), gd_eq (nIin (by omega) (by decide)), nIc (by omega), bnd_eq, bnd_eq, n_a1]
      exact e1 n (by omega)
    · by_cases e : j = i
      · subst e
        rw [e6 j (by omega), gI_sI, if_pos rfl, if_pos rfl]
      · exact e5 j (by omega) b
    · rw [e6 j (by omega), gI_sI, if_pos rfl, if_neg (by omega)]
    · rw [e7 c k h1 h2 h3, gI_sI, if_neg h2]
theorem b_year : MStp Inv (fun n σ => F_X11_year n σ) (fun n τ => F_X12_year n τ) := mstp_of (fun σ τ hI => by
  obtain ⟨N, B, h1, h2, h3, h4, h5, h6, h7, h8, h9⟩ := id hI
  obtain ⟨a1, a2, a3, a4⟩ := id h1
  obtain ⟨σ1, f1, f2, f3, f4, f5⟩ := yr1 37 σ
  obtain ⟨τ1, g1, g2, g3⟩ := beg12 h1 h3
  have gN : gI τ1 0 1 = nI N := (g2.2 1 (by decide)).trans a3
  obtain ⟨τ2, k1, k2, k3, k4, k5, k6, k7, k8, k9⟩ := yr12L a1 (nI (cnt (gI σ 38) 7 0)) N 0 τ1 gN (by omega)
  have r0 := fun k (hk : k ≠ 29) (h : k ∈ coreR0) => (k8 k hk).trans (g2.2 k h)
  have rc := fun c k (h1 : c ≠ 0) (h2 : c ≠ 18) (h3 : c ≠ 26) (h : c ∈ coreR) => (k7 c k h1 h2 h3).trans (g2.g c h k)
  refine ⟨nI (cnt (gI σ 38) 7 0), sI σ1 1 2 (gI σ1 1 2 + 1), τ2, ⟨8, fun n hn => ?_⟩, ⟨9, fun n hn => ?_⟩, N, B, ?_, ?_, ?_, ?_, ?_, ?_, ?_, ?_, ?_⟩
  · simp only [F_X11_year, cnt1 37 σ n hn, bd_some, f1 n hn, gd_eq v25, bnd_eq]
    rfl
  · simp only [F_X12_year, g1 n (by omega), bd_some, cnt12 a1 τ1 gN g3.bk n (by omega), ← g3.ct a1]
    exact k1 n (by omega)
  · refine ⟨a1, by rw [gI_sI, if_neg (by decide), f4 4 1 (by decide) (by decide)]; exact a2, by rw [r0 1 (by decide) (by decide)]; exact a3, fun i hi => ?_⟩
    have q := a4 i hi
    simp only [gI_sI]
    simp only [show (5 : Nat) ≠ 1 by decide, if_false, f4 5 _ (by decide) (by decide), rc 1 i (by decide) (by decide) (by decide) (by decide), rc 2 i (by decide) (by decide) (by decide) (by decide), rc 3 i (by decide) (by decide) (by decide) (by decide), rc 4 i (by decide) (by decide) (by decide) (by decide)]
    exact q
  · obtain ⟨d, u, b1, b2, b3, b4, b5, b6⟩ := h2
    refine ⟨d, u, b1, (f4 4 5 (by decide) (by decide)).trans b2, (r0 6 (by decide) (by decide)).trans b3, (f4 4 6 (by decide) (by decide)).trans b4, (r0 7 (by decide) (by decide)).trans b5, fun k hk => ?_⟩
    obtain ⟨i, w, c1, c2, c3, c4, c5, c6, c7⟩ := b6 k hk
    exact ⟨i, w, c1, c2, (f4 6 k (by decide) (by decide)).trans c3, (rc 5 k (by decide) (by decide) (by decide) (by decide)).trans c4, (rc 6 k (by decide) (by decide) (by decide) (by decide)).trans c5, (f4 7 k (by decide) (by decide)).trans (c6.trans (rc 7 k (by decide) (by decide) (by decide) (by decide)).symm), (f4 8 k (by decide) (by decide)).trans (c7.trans (rc 8 k (by decide) (by decide) (by decide) (by decide)).symm)⟩
  · refine ⟨f2.trans k2.symm, fun i hi => ⟨(f3 i (by omega)).trans (k5 i (by omega) hi).symm, Or.inl (f3 i (by omega))⟩, fun i e1 e2 => f3 i e2⟩
  · rcases h4 with ⟨c1, c2⟩ | ⟨c1, c2, c3, c4, c5, c6⟩
    · exact Or.inl ⟨(f4 0 8 (by decide) (by decide)).trans c1, (r0 46 (by decide) (by decide)).trans c2⟩
    · refine Or.inr ⟨(f4 0 8 (by decide) (by decide)).trans c1, (r0 46 (by decide) (by decide)).trans c2, (f4 39 1 (by decide) (by decide)).trans (c3.trans (r0 47 (by decide) (by decide)).symm), fun i hi => ?_, fun i e1 e2 => (f4 40 i (by decide) (by decide)).trans (c5 i e1 e2), fun k hk => ?_⟩
      · rw [show gI (sI σ1 1 2 (gI σ1 1 2 + 1)) 40 i = gI σ 40 i from f4 40 i (by decide) (by decide), rc 27 i (by decide) (by decide) (by decide) (by decide)]
        exact c4 i hi
      · exact (f4 2 k (by decide) (by decide)).trans ((c6 k hk).trans (rc 28 k (by decide) (by decide) (by decide) (by decide)).symm)
  · intro k hk
    have e26 : ∀ k, gI τ1 26 k = gI τ 26 k := fun k => g2.g 26 (by decide) k
    by_cases e : k = 2
    · subst e
      rw [k3, e26, gI_sI, if_pos rfl, if_pos rfl, f4 1 2 (by decide) (by decide), h5 2 (by decide)]
    · rw [k4 k e, e26, gI_sI, if_pos rfl, if_neg e, f4 1 k (by decide) (by decide), h5 k hk]
  · obtain ⟨q, c1, c2, c3, c4, c4f⟩ := h6
    refine ⟨q, c1, (f4 9 1 (by decide) (by decide)).trans c2, (r0 13 (by decide) (by decide)).trans c3, fun k hk => ?_, fun i hi => by rw [gI_sI, if_neg (by decide), f4 33 i (by decide) (by decide)]; exact c4f i hi⟩
    obtain ⟨v, d1, d2, d3⟩ := c4 k hk
    exact ⟨v, d1, (f4 10 k (by decide) (by decide)).trans d2, (rc 9 k (by decide) (by decide) (by decide) (by decide)).trans d3⟩
  · obtain ⟨c1, c2, c3, c4, q, c5, c6, c7, c8⟩ := h7
    refine ⟨c1, (f4 24 1 (by decide) (by decide)).trans c2, (r0 50 (by decide) (by decide)).trans c3, fun k hk => ?_, q, c5, (f4 24 3 (by decide) (by decide)).trans c6, (r0 52 (by decide) (by decide)).trans c7, fun k e1 e2 => ?_⟩
    · obtain ⟨v, d1, d2, d3⟩ := c4 k hk
      exact ⟨v, d1, (f4 25 k (by decide) (by decide)).trans d2, (rc 29 k (by decide) (by decide) (by decide) (by decide)).trans d3⟩
    · exact (f4 26 k (by decide) (by decide)).trans ((c8 k e1 e2).trans (rc 30 k (by decide) (by decide) (by decide) (by decide)).symm)
  · exact h8.at (xs_sI (by decide) (fun c k hc => ⟨f4 c k (by omega) (by omega), f5 c k⟩)) (fun k => ⟨rc 31 k (by decide) (by decide) (by decide) (by decide), rc 32 k (by decide) (by decide) (by decide) (by decide), (k9 33 k).trans (g2.1 33 (by decide) k).2⟩)
  · exact h9.at (f4 27 4 (by decide) (by decide)) (fun k => ⟨f4 28 k (by decide) (by decide), f4 29 k (by decide) (by decide), f4 30 k (by decide) (by decide), f4 31 k (by decide) (by decide)⟩) (r0 25 (by decide) (by decide)) (rc 12 0 (by decide) (by decide) (by decide) (by decide)) (fun k => ⟨rc 10 k (by decide) (by decide) (by decide) (by decide), rc 11 k (by decide) (by decide) (by decide) (by decide), rc 13 k (by decide) (by decide) (by decide) (by decide), rc 14 k (by decide) (by decide) (by decide) (by decide)⟩))
