theorem Pp.at {N : Nat} {σ τ σ' τ' : St} (h : Pp N σ τ) (x4 : gI σ' 4 1 = gI σ 4 1) (x5 : ∀ k, gI σ' 5 k = gI σ 5 k) (r0 : gI τ' 0 1 = gI τ 0 1) (r : ∀ k, gI τ' 1 k = gI τ 1 k ∧ gI τ' 2 k = gI τ 2 k ∧ gI τ' 3 k = gI τ 3 k ∧ gI τ' 4 k = gI τ 4 k) : Pp N σ' τ' := by
  refine ⟨h.1, x4.trans h.2.1, r0.trans h.2.2.1, fun i hi => ?_⟩
  rw [x5, x5, x5, x5, (r i).1, (r i).2.1, (r i).2.2.1, (r i).2.2.2]
  exact h.2.2.2 i hi
theorem Pch.at {N : Nat} {σ τ σ' τ' : St} (h : Pch N σ τ) (x5 : gI σ' 4 5 = gI σ 4 5) (x6 : gI σ' 4 6 = gI σ 4 6) (x : ∀ k, gI σ' 6 k = gI σ 6 k ∧ gI σ' 7 k = gI σ 7 k ∧ gI σ' 8 k = gI σ 8 k) (r6 : gI τ' 0 6 = gI τ 0 6) (r7 : gI τ' 0 7 = gI τ 0 7) (r : ∀ k, gI τ' 5 k = gI τ 5 k ∧ gI τ' 6 k = gI τ 6 k ∧ gI τ' 7 k = gI τ 7 k ∧ gI τ' 8 k = gI τ 8 k) : Pch N σ' τ' := by
  obtain ⟨d, u, b1, b2, b3, b4, b5, b6⟩ := h
  refine ⟨d, u, b1, x5.trans b2, r6.trans b3, x6.trans b4, r7.trans b5, fun k hk => ?_⟩
  obtain ⟨i, w, c⟩ := b6 k hk
  refine ⟨i, w, ?_⟩
  rw [(x k).1, (x k).2.1, (x k).2.2, (r k).1, (r k).2.1, (r k).2.2.1, (r k).2.2.2]
  exact c
theorem Pk.at {N : Nat} {σ τ σ' τ' : St} (h : Pk N σ τ) (x0 : gI σ' 0 8 = gI σ 0 8) (x1 : gI σ' 39 1 = gI σ 39 1) (x : ∀ k, gI σ' 40 k = gI σ 40 k ∧ gI σ' 2 k = gI σ 2 k) (r0 : gI τ' 0 46 = gI τ 0 46) (r1 : gI τ' 0 47 = gI τ 0 47) (r : ∀ k, gI τ' 27 k = gI τ 27 k ∧ gI τ' 28 k = gI τ 28 k) : Pk N σ' τ' := by
  unfold Pk at h ⊢
  simp only [x0, x1, (x _).1, (x _).2, r0, r1, (r _).1, (r _).2]
  exact h
theorem Pb.at {N : Nat} {σ τ σ' τ' : St} (h : Pb N σ τ) (x0 : gI σ' 37 1 = gI σ 37 1) (x : ∀ k, gI σ' 38 k = gI σ 38 k) (r0 : gI τ' 0 29 = gI τ 0 29) (r : ∀ k, gI τ' 18 k = gI τ 18 k) : Pb N σ' τ' := by
  unfold Pb at h ⊢
  simp only [x0, x, r0, r]
  exact h
theorem Pt.at {σ τ σ' τ' : St} (h : Pt σ τ) (x : ∀ k, gI σ' 1 k = gI σ 1 k) (r : ∀ k, gI τ' 26 k = gI τ 26 k) : Pt σ' τ' := by
  unfold Pt at h ⊢
  simp only [x, r]
  exact h
theorem Ptp.at {σ τ σ' τ' : St} (h : Ptp σ τ) (x0 : gI σ' 9 1 = gI σ 9 1) (x : ∀ k, gI σ' 10 k = gI σ 10 k) (xf : ∀ k, gI σ' 33 k = gI σ 33 k) (r0 : gI τ' 0 13 = gI τ 0 13) (r : ∀ k, gI τ' 9 k = gI τ 9 k) : Ptp σ' τ' := by
  unfold Ptp at h ⊢
  simp only [x0, x, xf, r0, r]
  exact h
theorem Pa.at {B : Nat} {σ τ σ' τ' : St} (h : Pa B σ τ) (x1 : gI σ' 24 1 = gI σ 24 1) (x3 : gI σ' 24 3 = gI σ 24 3) (x : ∀ k, gI σ' 25 k = gI σ 25 k ∧ gI σ' 26 k = gI σ 26 k) (r1 : gI τ' 0 50 = gI τ 0 50) (r3 : gI τ' 0 52 = gI τ 0 52) (r : ∀ k, gI τ' 29 k = gI τ 29 k ∧ gI τ' 30 k = gI τ 30 k) : Pa B σ' τ' := by
  unfold Pa at h ⊢
  simp only [x1, x3, (x _).1, (x _).2, r1, r3, (r _).1, (r _).2]
  exact h
/-! image -/
theorem im1L {N : Nat} (h7 : N ≤ 7) : ∀ (m i : Nat) (τ : St), gI τ 0 1 = nI N → i + m = 7 → ∃ τ', (∀ n, n ≥ 0 → L_X12_image (n + m + 1) 1 (nI i) τ = L_X12_image n 2 0 τ') ∧ (∀ j, i ≤ j → j < 7 → gI τ' 27 j = if j < N then gI τ 18 j else -1) ∧ (∀ j, j < i → gI τ' 27 j = gI τ 27 j) ∧ (∀ c k, c ≠ 27 → gI τ' c k = gI τ c k) ∧ ∀ c k, gL τ' c k = gL τ c k
  | 0, i, τ, hN, hi => by
    refine ⟨τ, fun n hn => ?_, fun j a b => by omega, fun j _ => rfl, fun c k _ => rfl, fun c k => rfl⟩
    show B_X12_image_1 (L_X12_image n) n (nI i) τ = _
    unfold B_X12_image_1
    rw [if_pos (by rw [i_le, i_n (by omega), t7]; omega)]
  | m + 1, i, τ, hN, hi => by
    obtain ⟨τ', e1, e2, e3, e4, e5⟩ := im1L h7 m (i + 1) (sI τ 27 i (if i < N then gI τ 18 i else -1)) hN (by omega)
    refine ⟨τ', fun n hn => ?_, fun j a b => ?_, fun j a => ?_, fun c k h => ?_, e5⟩
    · show B_X12_image_1 (L_X12_image (n + m + 1)) (n + m + 1) (nI i) τ = _
      unfold B_X12_image_1
      rw [if_neg (by rw [i_le, i_n (by omega), t7]; omega), hN]
      by_cases c : i < N
      · rw [if_neg (by rw [i_le, i_n (by omega), i_n (by omega)]; omega), gd_eq (nIin (by omega) (by decide)), gd_eq (nIin (by omega) (by decide)), nIc (by omega), bnd_eq, bnd_eq, n_a1, ← e1 n hn, if_pos c]
      · rw [if_pos (by rw [i_le, i_n (by omega), i_n (by omega)]; omega), gd_eq (nIin (by omega) (by decide)), nIc (by omega), bnd_eq, bnd_eq, n_a1, ← e1 n hn, if_neg c]
    · by_cases e : j = i
      · subst e
        rw [e3 j (by omega), gI_sI, if_pos rfl, if_pos rfl]
      · exact e2 j (by omega) b
    · rw [e3 j (by omega), gI_sI, if_pos rfl, if_neg (by omega)]
    · rw [e4 c k h, gI_sI, if_neg h]
theorem im2L : ∀ (m i : Nat) (τ : St), i + m = 5 → ∃ τ', (∀ n, n ≥ 0 → L_X12_image (n + m + 1) 2 (nI i) τ = some (gI τ 26 0, τ')) ∧ (∀ j, i ≤ j → j < 5 → gI τ' 28 j = gI τ 26 j) ∧ (∀ j, j < i → gI τ' 28 j = gI τ 28 j) ∧ (∀ c k, c ≠ 28 → gI τ' c k = gI τ c k) ∧ ∀ c k, gL τ' c k = gL τ c k
  | 0, i, τ, hi => by
    refine ⟨τ, fun n hn => ?_, fun j a b => by omega, fun j _ => rfl, fun c k _ => rfl, fun c k => rfl⟩
    show B_X12_image_2 (L_X12_image n) n (nI i) τ = _
    unfold B_X12_image_2
    rw [if_pos (by rw [i_le, i_n (by omega), t5]; omega), gd_eq v05]
    rfl
  | m + 1, i, τ, hi => by
    obtain ⟨τ', e1, e2, e3, e4, e5⟩ := im2L m (i + 1) (sI τ 28 i (gI τ 26 i)) (by omega)
    refine ⟨τ', fun n hn => ?_, fun j a b => ?_, fun j a => ?_, fun c k h => ?_, e5⟩
    · show B_X12_image_2 (L_X12_image (n + m + 1)) (n + m + 1) (nI i) τ = _
      unfold B_X12_image_2
      rw [if_neg (by rw [i_le, i_n (by omega), t5]; omega), gd_eq (nIin (by omega) (by decide)), gd_eq (nIin (by omega) (by decide)), nIc (by omega), bnd_eq, bnd_eq, n_a1, e1 n hn]
      rfl
    · by_cases e : j = i
      · subst e
        rw [e3 j (by omega), gI_sI, if_pos rfl, if_pos rfl]
      · exact e2 j (by omega) b
    · rw [e3 j (by omega), gI_sI, if_pos rfl, if_neg (by omega)]
    · rw [e4 c k h, gI_sI, if_neg h]
theorem b_image : MStp Inv (fun n σ => F_X11_image n σ) (fun n τ => F_X12_image n τ) := mstp_of (fun σ τ hI => by
  obtain ⟨N, B, h1, h2, h3, h4, h5, h6, h7, h8, h9⟩ := id hI
  obtain ⟨a1, a2, a3, a4⟩ := id h1
  obtain ⟨τ1, e1, e2, e3, e4, e5⟩ := im1L a1 7 0 (sI (sI τ 0 46 1) 0 47 (gI τ 0 29)) a3 rfl
  obtain ⟨τ2, f1, f2, f3, f4, f5⟩ := im2L 5 0 τ1 rfl
  have rc : ∀ c k, c ≠ 0 → c ≠ 27 → c ≠ 28 → gI τ2 c k = gI τ c k := fun c k h1 h2 h3 => by rw [f4 c k h3, e4 c k h2, gI_sI, if_neg h1, gI_sI, if_neg h1]
  have r0 : ∀ k, k ≠ 46 → k ≠ 47 → gI τ2 0 k = gI τ 0 k := fun k g1 g2 => by rw [f4 0 k (by decide), e4 0 k (by decide), gI_sI, if_pos rfl, if_neg g2, gI_sI, if_pos rfl, if_neg g1]
  have rL : ∀ c k, gL τ2 c k = gL τ c k := fun c k => (f5 c k).trans (e5 c k)
  have xc : ∀ c k, c ≠ 39 → c ≠ 40 → c ≠ 2 → c ≠ 0 → gI (sI (cI (cpX σ 39 37) 1 2 0 0 5) 0 8 1) c k = gI σ c k := fun c k g1 g2 g3 g4 => by rw [gI_sI, if_neg g4, gI_cI, if_neg g3, cpX_o σ 39 37 g1 g2]
  refine ⟨gI σ 1 0, sI (cI (cpX σ 39 37) 1 2 0 0 5) 0 8 1, τ2, Ev.const (fun n => ?_), ⟨14, fun n hn => ?_⟩, N, B, ?_, ?_, ?_, ?_, ?_, ?_, ?_, ?_, ?_⟩
  · unfold F_X11_image
    rw [cp1 n σ 39 37 (by decide), bd_some, gd_eq ⟨by decide, by decide, by decide, by decide, by decide, fun i _ => rfl⟩, bnd_eq, bnd_eq, gd_eq v05]
    rfl
  · show F_X12_image n τ = _
    unfold F_X12_image
    rw [bnd_eq, bnd_eq]
    obtain ⟨q, rfl⟩ : ∃ q, n = (q + 5 + 1) + 7 + 1 := ⟨n - 14, by omega⟩
    refine (e1 (q + 5 + 1) (by omega)).trans ((f1 q (by omega)).trans ?_)
    rw [e4 26 0 (by decide), h5 0 (by decide)]
    rfl
  · exact h1.at (xc 4 1 (by decide) (by decide) (by decide) (by decide)) (fun k => xc 5 k (by decide) (by decide) (by decide) (by decide)) (r0 1 (by decide) (by decide)) (fun k => ⟨rc 1 k (by decide) (by decide) (by decide), rc 2 k (by decide) (by decide) (by decide), rc 3 k (by decide) (by decide) (by decide), rc 4 k (by decide) (by decide) (by decide)⟩)
  · exact h2.at (xc 4 5 (by decide) (by decide) (by decide) (by decide)) (xc 4 6 (by decide) (by decide) (by decide) (by decide)) (fun k => ⟨xc 6 k (by decide) (by decide) (by decide) (by decide), xc 7 k (by decide) (by decide) (by decide) (by decide), xc 8 k (by decide) (by decide) (by decide) (by decide)⟩) (r0 6 (by decide) (by decide)) (r0 7 (by decide) (by decide)) (fun k => ⟨rc 5 k (by decide) (by decide) (by decide), rc 6 k (by decide) (by decide) (by decide), rc 7 k (by decide) (by decide) (by decide), rc 8 k (by decide) (by decide) (by decide)⟩)
  · exact h3.at (xc 37 1 (by decide) (by decide) (by decide) (by decide)) (fun k => xc 38 k (by decide) (by decide) (by decide) (by decide)) (r0 29 (by decide) (by decide)) (fun k => rc 18 k (by decide) (by decide) (by decide))
  · have g40 : ∀ i, i < 7 → gI (sI (cI (cpX σ 39 37) 1 2 0 0 5) 0 8 1) 40 i = gI σ 38 i := fun i hi => cpX_g σ 39 37 i hi
    refine Or.inr ⟨rfl, ?_, ?_, fun i hi => ?_, fun i c1 c2 => (g40 i c2).trans (h3.2.2 i c1 c2), fun k hk => ?_⟩
    · rw [f4 0 46 (by decide), e4 0 46 (by decide)]
      rfl
    · rw [f4 0 47 (by decide), e4 0 47 (by decide)]
      exact (cpX_1 σ 39 37).trans h3.1
    · rw [g40 i hi, f4 27 i (by decide), e2 i (by omega) hi]
      by_cases c : i < N
      · rw [if_pos c]
        exact ⟨(h3.2.1 i c).1, (h3.2.1 i c).2⟩
      · rw [if_neg c]
        have := h3.2.2 i (by omega) hi
        exact ⟨this, Or.inl this⟩
    · rw [f2 k (by omega) hk, e4 26 k (by decide)]
      show gI (cI (cpX σ 39 37) 1 2 0 0 5) 2 k = gI τ 26 k
      rw [gI_cI, if_pos rfl, if_pos (by omega), cpX_o σ 39 37 (by decide) (by decide)]
      simpa using h5 k hk
  · exact h5.at (fun k => xc 1 k (by decide) (by decide) (by decide) (by decide)) (fun k => rc 26 k (by decide) (by decide) (by decide))
  · exact h6.at (xc 9 1 (by decide) (by decide) (by decide) (by decide)) (fun k => xc 10 k (by decide) (by decide) (by decide) (by decide)) (fun k => xc 33 k (by decide) (by decide) (by decide) (by decide)) (r0 13 (by decide) (by decide)) (fun k => rc 9 k (by decide) (by decide) (by decide))
  · exact h7.at (xc 24 1 (by decide) (by decide) (by decide) (by decide)) (xc 24 3 (by decide) (by decide) (by decide) (by decide)) (fun k => ⟨xc 25 k (by decide) (by decide) (by decide) (by decide), xc 26 k (by decide) (by decide) (by decide) (by decide)⟩) (r0 50 (by decide) (by decide)) (r0 52 (by decide) (by decide)) (fun k => ⟨rc 29 k (by decide) (by decide) (by decide), rc 30 k (by decide) (by decide) (by decide)⟩)
  · exact h8.at (fun c k hc => ⟨xc c k (by omega) (by omega) (by omega) (by omega), rfl⟩) (fun k => ⟨rc 31 k (by decide) (by decide) (by decide), rc 32 k (by decide) (by decide) (by decide), rL 33 k⟩)
  · exact h9.at (xc 27 4 (by decide) (by decide) (by decide) (by decide)) (fun k => ⟨xc 28 k (by decide) (by decide) (by decide) (by decide), xc 29 k (by decide) (by decide) (by decide) (by decide), xc 30 k (by decide) (by decide) (by decide) (by decide), xc 31 k (by decide) (by decide) (by decide) (by decide)⟩) (r0 25 (by decide) (by decide)) (rc 12 0 (by decide) (by decide) (by decide)) (fun k => ⟨rc 10 k (by decide) (by decide) (by decide), rc 11 k (by decide) (by decide) (by decide), rc 13 k (by decide) (by decide) (by decide), rc 14 k (by decide) (by decide) (by decide)⟩))
/-! back -/
theorem bk1L : ∀ (m i : Nat) (τ : St), i + m = 7 → ∃ τ', (∀ n, n ≥ 0 → L_X12_back (n + m + 1) 1 (nI i) τ = L_X12_back n 2 0 τ') ∧ (∀ j, i ≤ j → j < 7 → gI τ' 18 j = gI τ 27 j) ∧ (∀ j, j < i → gI τ' 18 j = gI τ 18 j) ∧ (∀ c k, c ≠ 18 → gI τ' c k = gI τ c k) ∧ ∀ c k, gL τ' c k = gL τ c k
  | 0, i, τ, hi => by
    refine ⟨τ, fun n hn => ?_, fun j a b => by omega, fun j _ => rfl, fun c k _ => rfl, fun c k => rfl⟩
    show B_X12_back_1 (L_X12_back n) n (nI i) τ = _
    unfold B_X12_back_1
    rw [if_pos (by rw [i_le, i_n (by omega), t7]; omega)]
  | m + 1, i, τ, hi => by
    obtain ⟨τ', e1, e2, e3, e4, e5⟩ := bk1L m (i + 1) (sI τ 18 i (gI τ 27 i)) (by omega)
    refine ⟨τ', fun n hn => ?_, fun j a b => ?_, fun j a => ?_, fun c k h => ?_, e5⟩
    · show B_X12_back_1 (L_X12_back (n + m + 1)) (n + m + 1) (nI i) τ = _
      unfold B_X12_back_1
      rw [if_neg (by rw [i_le, i_n (by omega), t7]; omega), gd_eq (nIin (by omega) (by decide)), gd_eq (nIin (by omega) (by decide)), nIc (by omega), bnd_eq, bnd_eq, n_a1, e1 n hn]
    · by_cases e : j = i
      · subst e
        rw [e3 j (by omega), gI_sI, if_pos rfl, if_pos rfl]
      · exact e2 j (by omega) b
    · rw [e3 j (by omega), gI_sI, if_pos rfl, if_neg (by omega)]
    · rw [e4 c k h, gI_sI, if_neg h]
theorem bk2L : ∀ (m i : Nat) (τ : St), i + m = 5 → ∃ τ', (∀ n, n ≥ 0 → L_X12_back (n + m + 1) 2 (nI i) τ = some (gI τ' 26 0, τ')) ∧ (∀ j, i ≤ j → j < 5 → gI τ' 26 j = gI τ 28 j) ∧ (∀ j, j < i → gI τ' 26 j = gI τ 26 j) ∧ (∀ c k, c ≠ 26 → gI τ' c k = gI τ c k) ∧ ∀ c k, gL τ' c k = gL τ c k
  | 0, i, τ, hi => by
    refine ⟨τ, fun n hn => ?_, fun j a b => by omega, fun j _ => rfl, fun c k _ => rfl, fun c k => rfl⟩
    show B_X12_back_2 (L_X12_back n) n (nI i) τ = _
    unfold B_X12_back_2
    rw [if_pos (by rw [i_le, i_n (by omega), t5]; omega), gd_eq v05]
    rfl
  | m + 1, i, τ, hi => by
    obtain ⟨τ', e1, e2, e3, e4, e5⟩ := bk2L m (i + 1) (sI τ 26 i (gI τ 28 i)) (by omega)
    refine ⟨τ', fun n hn => ?_, fun j a b => ?_, fun j a => ?_, fun c k h => ?_, e5⟩
    · show B_X12_back_2 (L_X12_back (n + m + 1)) (n + m + 1) (nI i) τ = _
      unfold B_X12_back_2
      rw [if_neg (by rw [i_le, i_n (by omega), t5]; omega), gd_eq (nIin (by omega) (by decide)), gd_eq (nIin (by omega) (by decide)), nIc (by omega), bnd_eq, bnd_eq, n_a1, e1 n hn]
    · by_cases e : j = i
      · subst e
        rw [e3 j (by omega), gI_sI, if_pos rfl, if_pos rfl]
      · exact e2 j (by omega) b
    · rw [e3 j (by omega), gI_sI, if_pos rfl, if_neg (by omega)]
    · rw [e4 c k h, gI_sI, if_neg h]
theorem b_back : MStp Inv (fun n σ => F_X11_back n σ) (fun n τ => F_X12_back n τ) := mstp_of (fun σ τ hI => by
  obtain ⟨N, B, h1, h2, h3, h4, h5, h6, h7, h8, h9⟩ := id hI
  obtain ⟨a1, a2, a3, a4⟩ := id h1
  rcases id h4 with ⟨c1, c2⟩ | ⟨c1, c2, c3, c4, c5, c6⟩
  · refine ⟨-5, σ, τ, Ev.const (fun n => ?_), Ev.const (fun n => ?_), hI⟩
    · unfold F_X11_back
      rw [if_pos c1]
    · unfold F_X12_back
      rw [if_pos c2]
  · obtain ⟨τ1, e1, e2, e3, e4, e5⟩ := bk1L 7 0 (sI τ 0 29 (gI τ 0 47)) rfl
    obtain ⟨τ2, f1, f2, f3, f4, f5⟩ := bk2L 5 0 τ1 rfl
    have rc : ∀ c k, c ≠ 0 → c ≠ 18 → c ≠ 26 → gI τ2 c k = gI τ c k := fun c k h1 h2 h3 => by rw [f4 c k h3, e4 c k h2, gI_sI, if_neg h1]
    have r0 : ∀ k, k ≠ 29 → gI τ2 0 k = gI τ 0 k := fun k g1 => by rw [f4 0 k (by decide), e4 0 k (by decide), gI_sI, if_pos rfl, if_neg g1]
    have rL : ∀ c k, gL τ2 c k = gL τ c k := fun c k => (f5 c k).trans (e5 c k)
    have xc : ∀ c k, c ≠ 37 → c ≠ 38 → c ≠ 1 → gI (cI (cpX σ 37 39) 2 1 0 0 5) c k = gI σ c k := fun c k g1 g2 g3 => by rw [gI_cI, if_neg g3, cpX_o σ 37 39 g1 g2]
    have x1 : ∀ k, k < 5 → gI (cI (cpX σ 37 39) 2 1 0 0 5) 1 k = gI τ2 26 k := fun k hk => by
      rw [f2 k (by omega) hk, e4 28 k (by decide), gI_cI, if_pos rfl, if_pos (by omega), cpX_o σ 37 39 (by decide) (by decide)]
      show gI σ 2 (0 + (k - 0)) = gI τ 28 k
      rw [Nat.zero_add, Nat.sub_zero]
      exact c6 k hk
    refine ⟨gI τ2 26 0, cI (cpX σ 37 39) 2 1 0 0 5, τ2, Ev.const (fun n => ?_), ⟨14, fun n hn => ?_⟩, N, B, ?_, ?_, ?_, ?_, ?_, ?_, ?_, ?_, ?_⟩
    · unfold F_X11_back
      rw [if_neg (by rw [c1]; decide), cp1 n σ 37 39 (by decide), bd_some, gd_eq ⟨by decide, by decide, by decide, by decide, by decide, fun i _ => rfl⟩, bnd_eq, gd_eq v05, ← x1 0 (by decide)]
      rfl
    · show F_X12_back n τ = _
      unfold F_X12_back
      rw [if_neg (by rw [c2]; decide), bnd_eq]
      obtain ⟨q, rfl⟩ : ∃ q, n = (q + 5 + 1) + 7 + 1 := ⟨n - 14, by omega⟩
      exact (e1 (q + 5 + 1) (by omega)).trans (f1 q (by omega))
    · exact h1.at (xc 4 1 (by decide) (by decide) (by decide)) (fun k => xc 5 k (by decide) (by decide) (by decide)) (r0 1 (by decide)) (fun k => ⟨rc 1 k (by decide) (by decide) (by decide), rc 2 k (by decide) (by decide) (by decide), rc 3 k (by decide) (by decide) (by decide), rc 4 k (by decide) (by decide) (by decide)⟩)
    · exact h2.at (xc 4 5 (by decide) (by decide) (by decide)) (xc 4 6 (by decide) (by decide) (by decide)) (fun k => ⟨xc 6 k (by decide) (by decide) (by decide), xc 7 k (by decide) (by decide) (by decide), xc 8 k (by decide) (by decide) (by decide)⟩) (r0 6 (by decide)) (r0 7 (by decide)) (fun k => ⟨rc 5 k (by decide) (by decide) (by decide), rc 6 k (by decide) (by decide) (by decide), rc 7 k (by decide) (by decide) (by decide), rc 8 k (by decide) (by decide) (by decide)⟩)
    · have g38 : ∀ i, i < 7 → gI (cI (cpX σ 37 39) 2 1 0 0 5) 38 i = gI σ 40 i := fun i hi => cpX_g σ 37 39 i hi
      refine ⟨?_, fun i hi => ?_, fun i d1 d2 => (g38 i d2).trans (c5 i d1 d2)⟩
      · rw [f4 0 29 (by decide), e4 0 29 (by decide)]
        exact (cpX_1 σ 37 39).trans c3
      · rw [g38 i (by omega), f4 18 i (by decide), e2 i (by omega) (by omega)]
        exact c4 i (by omega)
    · exact h4.at (xc 0 8 (by decide) (by decide) (by decide)) (xc 39 1 (by decide) (by decide) (by decide)) (fun k => ⟨xc 40 k (by decide) (by decide) (by decide), xc 2 k (by decide) (by decide) (by decide)⟩) (r0 46 (by decide)) (r0 47 (by decide)) (fun k => ⟨rc 27 k (by decide) (by decide) (by decide), rc 28 k (by decide) (by decide) (by decide)⟩)
    · exact x1
    · exact h6.at (xc 9 1 (by decide) (by decide) (by decide)) (fun k => xc 10 k (by decide) (by decide) (by decide)) (fun k => xc 33 k (by decide) (by decide) (by decide)) (r0 13 (by decide)) (fun k => rc 9 k (by decide) (by decide) (by decide))
    · exact h7.at (xc 24 1 (by decide) (by decide) (by decide)) (xc 24 3 (by decide) (by decide) (by decide)) (fun k => ⟨xc 25 k (by decide) (by decide) (by decide), xc 26 k (by decide) (by decide) (by decide)⟩) (r0 50 (by decide)) (r0 52 (by decide)) (fun k => ⟨rc 29 k (by decide) (by decide) (by decide), rc 30 k (by decide) (by decide) (by decide)⟩)
    · exact h8.at (fun c k hc => ⟨xc c k (by omega) (by omega) (by omega), rfl⟩) (fun k => ⟨rc 31 k (by decide) (by decide) (by decide), rc 32 k (by decide) (by decide) (by decide), rL 33 k⟩)
    · exact h9.at (xc 27 4 (by decide) (by decide) (by decide)) (fun k => ⟨xc 28 k (by decide) (by decide) (by decide), xc 29 k (by decide) (by decide) (by decide), xc 30 k (by decide) (by decide) (by decide), xc 31 k (by decide) (by decide) (by decide)⟩) (r0 25 (by decide)) (rc 12 0 (by decide) (by decide) (by decide)) (fun k => ⟨rc 10 k (by decide) (by decide) (by decide), rc 11 k (by decide) (by decide) (by decide), rc 13 k (by decide) (by decide) (by decide), rc 14 k (by decide) (by decide) (by decide)⟩))
