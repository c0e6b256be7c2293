/-! mend, undo, redo -/
theorem layO {τ : St} {w i : Nat} {v : Int32} (hw : w < 4) {c : Nat} (hc : c = 0 ∨ 5 ≤ c) (k : Nat) : gI (sI τ (1 + w) i v) c k = gI τ c k := by rw [gI_sI, if_neg (by omega)]
theorem Pp.lay {N : Nat} {σ τ : St} (h : Pp N σ τ) {i w : Nat} (hi : i < N) (hw : w < 4) (v : Int32) : Pp N (sI σ 5 (4 * i + w) v) (sI τ (1 + w) i v) := by
  refine ⟨h.1, h.2.1, by rw [layO hw (by omega)]; exact h.2.2.1, fun j hj => ?_⟩
  have key : ∀ u, u < 4 → gI (sI σ 5 (4 * i + w) v) 5 (4 * j + u) = gI (sI τ (1 + w) i v) (1 + u) j := fun u hu => by
    rw [gI_sI, if_pos rfl, gI_sI]
    by_cases e : j = i ∧ u = w
    · rw [if_pos (by omega), if_pos (by omega), if_pos (by omega)]
    · rw [if_neg (by omega), h.num hj hu]
      by_cases e2 : 1 + u = 1 + w
      · rw [if_pos e2, if_neg (by omega)]
      · rw [if_neg e2]
  exact ⟨key 0 (by decide), key 1 (by decide), key 2 (by decide), key 3 (by decide)⟩
theorem lay12 (n : Nat) (τ : St) {w i : Nat} (hw : w < 4) (hi : i < 7) (v : Int32) : F_X12_lays n (nI w) (nI i) v τ = some ((), sI τ (1 + w) i v) := by
  unfold F_X12_lays
  match w, hw with
  | 0, _ => rw [if_pos (by decide), gd_eq (nIin hi (by decide)), nIc (by omega), bnd_eq]
  | 1, _ => rw [if_neg (by decide), if_pos (by decide), gd_eq (nIin hi (by decide)), nIc (by omega), bnd_eq]
  | 2, _ => rw [if_neg (by decide), if_neg (by decide), if_pos (by decide), gd_eq (nIin hi (by decide)), nIc (by omega), bnd_eq]
  | 3, _ => rw [if_neg (by decide), if_neg (by decide), if_neg (by decide), gd_eq (nIin hi (by decide)), nIc (by omega), bnd_eq]
  | w + 4, h => exact absurd h (by omega)
theorem may12 (n : Nat) (τ : St) {w : Nat} (hw : w < 4) (v : Int32) : F_X12_mayBe n (nI w) v τ = some (if 0 ≤ v.toInt ∧ v.toInt ≤ (st_hi w).toInt then 1 else 0, τ) := by
  unfold F_X12_mayBe
  match w, hw with
  | 0, _ => rw [if_neg (by decide), if_neg (by decide), in12, bd_some, gd_eq nbI]; rfl
  | 1, _ => rw [if_neg (by decide), if_neg (by decide), in12, bd_some, gd_eq nbI]; rfl
  | 2, _ => rw [if_pos (by decide), in12, bd_some, gd_eq nbI]; rfl
  | 3, _ => rw [if_neg (by decide), if_pos (by decide), in12, bd_some, gd_eq nbI]; rfl
  | w + 4, h => exact absurd h (by omega)
/-- the rest of the coupling, when numbers and changes alone have moved -/
theorem rest39 {N B : Nat} {σ τ σ' τ' : St} (h3 : Pb N σ τ) (h4 : Pk N σ τ) (h5 : Pt σ τ) (h6 : Ptp σ τ) (h7 : Pa B σ τ) (h8 : Psh B σ τ) (h9 : Plaw σ τ) (x : ∀ c k, (c < 4 ∨ 9 ≤ c) → gI σ' c k = gI σ c k ∧ gL σ' c k = gL σ c k) (r : ∀ c k, 9 ≤ c → gI τ' c k = gI τ c k ∧ gL τ' c k = gL τ c k) (r0 : ∀ k, k ≠ 6 → k ≠ 7 → gI τ' 0 k = gI τ 0 k) : Pb N σ' τ' ∧ Pk N σ' τ' ∧ Pt σ' τ' ∧ Ptp σ' τ' ∧ Pa B σ' τ' ∧ Psh B σ' τ' ∧ Plaw σ' τ' := by
  have y := fun c k (h : c < 4 ∨ 9 ≤ c) => (x c k h).1
  have q := fun c k (h : 9 ≤ c) => (r c k h).1
  exact ⟨h3.at (y 37 1 (by decide)) (fun k => y 38 k (by decide)) (r0 29 (by decide) (by decide)) (fun k => q 18 k (by decide)), h4.at (y 0 8 (by decide)) (y 39 1 (by decide)) (fun k => ⟨y 40 k (by decide), y 2 k (by decide)⟩) (r0 46 (by decide) (by decide)) (r0 47 (by decide) (by decide)) (fun k => ⟨q 27 k (by decide), q 28 k (by decide)⟩), h5.at (fun k => y 1 k (by decide)) (fun k => q 26 k (by decide)), h6.at (y 9 1 (by decide)) (fun k => y 10 k (by decide)) (fun k => y 33 k (by decide)) (r0 13 (by decide) (by decide)) (fun k => q 9 k (by decide)), h7.at (y 24 1 (by decide)) (y 24 3 (by decide)) (fun k => ⟨y 25 k (by decide), y 26 k (by decide)⟩) (r0 50 (by decide) (by decide)) (r0 52 (by decide) (by decide)) (fun k => ⟨q 29 k (by decide), q 30 k (by decide)⟩), h8.at (fun c k hc => x c k (by omega)) (fun k => ⟨q 31 k (by decide), q 32 k (by decide), (r 33 k (by decide)).2⟩), h9.at (y 27 4 (by decide)) (fun k => ⟨y 28 k (by decide), y 29 k (by decide), y 30 k (by decide), y 31 k (by decide)⟩) (r0 25 (by decide) (by decide)) (q 12 0 (by decide)) (fun k => ⟨q 10 k (by decide), q 11 k (by decide), q 13 k (by decide), q 14 k (by decide)⟩)⟩
theorem nIs1 {d : Nat} (h : 0 < d) : nI d - 1 = nI (d - 1) := by
  obtain ⟨e, rfl⟩ : ∃ e, d = e + 1 := ⟨d - 1, by omega⟩
  rw [n_s1]
  rfl
theorem b_undo : MStp Inv (fun n σ => F_X11_undo n σ) (fun n τ => F_X12_undo n τ) := mstp_of (fun σ τ hI => by
  obtain ⟨N, B, h1, h2, h3, h4, h5, h6, h7, h8, h9⟩ := id hI
  obtain ⟨d, u, b1, b2, b3, b4, b5, b6⟩ := id h2
  have h7' := h1.1
  have hd := i_n (show d < 2147483648 by omega)
  by_cases c : d = 0
  · subst c
    exact ⟨-5, σ, τ, Ev.const (fun n => by simp only [F_X11_undo, F_X6_undoable, b2, bd_some]; rfl), Ev.const (fun n => by simp only [F_X12_undo, b3]; rfl), hI⟩
  · obtain ⟨i, w, e1, e2, e3, e4, e5, e6, e7⟩ := b6 (d - 1) (by omega)
    have d1 := nIs1 (show 0 < d by omega)
    refine ⟨nI (d - 1), sI (sI (sI σ 4 5 (nI (d - 1))) 4 6 (nI (u + 1))) 5 (4 * i + w) (gI σ 7 (d - 1)), sI (sI (sI τ 0 6 (nI (d - 1))) 0 7 (nI (u + 1))) (1 + w) i (gI τ 7 (d - 1)), Ev.const (fun n => ?_), Ev.const (fun n => ?_), N, B, ?_, ?_, rest39 h3 h4 h5 h6 h7 h8 h9 ?_ ?_ ?_⟩
    · unfold F_X11_undo F_X6_undoable F_X6_stepBack
      rw [bd_some, b2, if_neg (by rw [i_eq, hd, t0]; omega), if_neg (by rw [i_le, hd, t0]; omega), bnd_eq, bnd_eq, d1]
      simp (disch := omega) [gI_sI, b4, n_a1, gd_T, nIin, nIc, e3, bnd_eq, bd_some]
    · unfold F_X12_undo
      rw [b3, if_neg (by rw [i_eq, hd, t0]; omega), bnd_eq, bnd_eq, d1]
      simp (disch := omega) [gI_sI, b5, n_a1, gd_T, nIin, nIc, e4, e5, lay12, bd_some, show ¬ 0 = 1 + w by omega]
    · rw [e6]
      have g : Pp N (sI (sI σ 4 5 (nI (d - 1))) 4 6 (nI (u + 1))) (sI (sI τ 0 6 (nI (d - 1))) 0 7 (nI (u + 1))) := h1
      exact g.lay e1 e2 _
    · refine ⟨d - 1, u + 1, by omega, rfl, by rw [layO e2 (by omega)]; rfl, rfl, by rw [layO e2 (by omega)]; rfl, fun k hk => ?_⟩
      obtain ⟨i', w', f1⟩ := b6 k (by omega)
      refine ⟨i', w', ?_⟩
      rw [layO e2 (by omega), layO e2 (by omega), layO e2 (by omega), layO e2 (by omega)]
      exact f1
    · intro c k hc
      exact ⟨by rw [gI_sI, if_neg (by omega), gI_sI, if_neg (by omega), gI_sI, if_neg (by omega)], rfl⟩
    · intro c k hc
      exact ⟨by rw [layO e2 (by omega), gI_sI, if_neg (by omega), gI_sI, if_neg (by omega)], rfl⟩
    · intro k g1 g2
      rw [layO e2 (by omega), gI_sI, if_pos rfl, if_neg g2, gI_sI, if_pos rfl, if_neg g1])
theorem b_redo : MStp Inv (fun n σ => F_X11_redo n σ) (fun n τ => F_X12_redo n τ) := mstp_of (fun σ τ hI => by
  obtain ⟨N, B, h1, h2, h3, h4, h5, h6, h7, h8, h9⟩ := id hI
  obtain ⟨d, u, b1, b2, b3, b4, b5, b6⟩ := id h2
  have h7' := h1.1
  have hd := i_n (show d < 2147483648 by omega)
  have hu := i_n (show u < 2147483648 by omega)
  by_cases c : u = 0
  · subst c
    exact ⟨-5, σ, τ, Ev.const (fun n => by simp only [F_X11_redo, F_X6_redoable, b4, bd_some]; rfl), Ev.const (fun n => by simp only [F_X12_redo, b5]; rfl), hI⟩
  · obtain ⟨i, w, e1, e2, e3, e4, e5, e6, e7⟩ := b6 d (by omega)
    have d1 := nIs1 (show 0 < u by omega)
    refine ⟨nI (u - 1), sI (sI (sI σ 5 (4 * i + w) (gI σ 8 d)) 4 5 (nI (d + 1))) 4 6 (nI (u - 1)), sI (sI (sI τ (1 + w) i (gI τ 8 d)) 0 6 (nI (d + 1))) 0 7 (nI (u - 1)), Ev.const (fun n => ?_), Ev.const (fun n => ?_), N, B, ?_, ?_, rest39 h3 h4 h5 h6 h7 h8 h9 ?_ ?_ ?_⟩
    · unfold F_X11_redo F_X6_redoable F_X6_stepAgain
      rw [bd_some, b4, if_neg (by rw [i_eq, hu, t0]; omega), if_neg (by rw [i_le, hu, t0]; omega), b2, if_neg (by rw [i_le, hd, t40]; omega)]
      simp (disch := omega) [gI_sI, b4, b2, n_a1, d1, gd_T, nIin, nIc, e3, bnd_eq, bd_some]
    · unfold F_X12_redo
      rw [b5, if_neg (by rw [i_eq, hu, t0]; omega), b3]
      simp (disch := omega) [gI_sI, b5, b3, n_a1, d1, gd_T, nIin, nIc, e4, e5, lay12, bd_some, bnd_eq, show ¬ 0 = 1 + w by omega]
    · rw [e7]
      have g := h1.lay e1 e2 (gI τ 8 d)
      exact g
    · refine ⟨d + 1, u - 1, by omega, rfl, rfl, rfl, rfl, fun k hk => ?_⟩
      obtain ⟨i', w', f1⟩ := b6 k (by omega)
      refine ⟨i', w', ?_⟩
      simp only [gI_sI]
      simp only [show (5 : Nat) ≠ 0 by decide, show (6 : Nat) ≠ 0 by decide, show (7 : Nat) ≠ 0 by decide, show (8 : Nat) ≠ 0 by decide, if_false, if_neg (show ¬ 5 = 1 + w by omega), if_neg (show ¬ 6 = 1 + w by omega), if_neg (show ¬ 7 = 1 + w by omega), if_neg (show ¬ 8 = 1 + w by omega)]
      exact f1
    · intro c k hc
      exact ⟨by rw [gI_sI, if_neg (by omega), gI_sI, if_neg (by omega), gI_sI, if_neg (by omega)], rfl⟩
    · intro c k hc
      exact ⟨by rw [gI_sI, if_neg (by omega), gI_sI, if_neg (by omega), layO e2 (by omega)], rfl⟩
    · intro k g1 g2
      rw [gI_sI, if_pos rfl, if_neg g2, gI_sI, if_pos rfl, if_neg g1, layO e2 (by omega)])
/-- a change is noted, and its number laid: from any state with d < 40 changes -/
def ntX (σ : St) (d i w : Nat) (was v : Int32) : St := sI (sI (sI (sI (sI (sI σ 6 d (nI (4 * i + w))) 7 d was) 8 d v) 4 5 (nI (d + 1))) 4 6 0) 5 (4 * i + w) v
def ntR (τ : St) (d i w : Nat) (was v : Int32) : St := sI (sI (sI (sI (sI (sI τ 5 d (nI w)) 6 d (nI i)) 7 d was) 8 d v) 0 6 (nI (d + 1))) (1 + w) i v
theorem nt6 {σ : St} {d : Nat} (hd : d < 40) (h : gI σ 4 5 = nI d) (n : Nat) (hn : 1 ≤ n) (pl was v : Int32) : L_X6_noteChange n 1 pl was v σ = some ((), sI (sI (sI (sI (sI σ 6 d pl) 7 d was) 8 d v) 4 5 (nI (d + 1))) 4 6 0) := by
  obtain ⟨n, rfl⟩ : ∃ q, n = q + 1 := ⟨n - 1, by omega⟩
  show B_X6_noteChange_1 (L_X6_noteChange n) n pl was v σ = _
  unfold B_X6_noteChange_1
  simp (disch := omega) [gI_sI, h, n_a1, gd_T, nIin, nIc, bnd_eq]
theorem nt12 {τ : St} {d i w : Nat} (hd : d < 40) (hi : i < 7) (hw : w < 4) (h : gI τ 0 6 = nI d) (n : Nat) (hn : 1 ≤ n) (was v : Int32) : L_X12_changes n 1 (nI w) (nI i) v was 0 τ = some (was, ntR τ d i w was v) := by
  obtain ⟨n, rfl⟩ : ∃ q, n = q + 1 := ⟨n - 1, by omega⟩
  show B_X12_changes_1 (L_X12_changes n) n (nI w) (nI i) v was τ = _
  unfold B_X12_changes_1 ntR
  simp (disch := omega) [gI_sI, h, n_a1, gd_T, nIin, nIc, bnd_eq, lay12, bd_some]
theorem ntInv {N B : Nat} {σ τ σ0 τ0 : St} {d i w : Nat} {was v : Int32} (hd : d < 40) (hi : i < N) (hw : w < 4) (h1 : Pp N σ0 τ0) (hc : ∀ k, k < d → Pc1 N σ0 τ0 k) (hu : gI τ0 0 7 = 0) (h3 : Pb N σ τ) (h4 : Pk N σ τ) (h5 : Pt σ τ) (h6 : Ptp σ τ) (h7 : Pa B σ τ) (h8 : Psh B σ τ) (h9 : Plaw σ τ) (x : ∀ c k, (c < 4 ∨ 9 ≤ c) → gI σ0 c k = gI σ c k ∧ gL σ0 c k = gL σ c k) (r : ∀ c k, 9 ≤ c → gI τ0 c k = gI τ c k ∧ gL τ0 c k = gL τ c k) (r0 : ∀ k, k ≠ 6 → k ≠ 7 → gI τ0 0 k = gI τ 0 k) : Inv (ntX σ0 d i w was v) (ntR τ0 d i w was v) := by
  refine ⟨N, B, ?_, ?_, rest39 h3 h4 h5 h6 h7 h8 h9 ?_ ?_ ?_⟩
  · have g : Pp N (sI (sI (sI (sI (sI σ0 6 d (nI (4 * i + w))) 7 d was) 8 d v) 4 5 (nI (d + 1))) 4 6 0) (sI (sI (sI (sI (sI τ0 5 d (nI w)) 6 d (nI i)) 7 d was) 8 d v) 0 6 (nI (d + 1))) := h1
    exact g.lay hi hw v
  · refine ⟨d + 1, 0, by omega, rfl, ?_, rfl, ?_, fun k hk => ?_⟩
    · unfold ntR
      rw [layO hw (by omega)]
      rfl
    · unfold ntR
      rw [layO hw (by omega)]
      exact hu
    · unfold Pc1 ntX ntR
      simp only [layO hw (show (5 : Nat) = 0 ∨ 5 ≤ 5 by omega), layO hw (show (6 : Nat) = 0 ∨ 5 ≤ 6 by omega), layO hw (show (7 : Nat) = 0 ∨ 5 ≤ 7 by omega), layO hw (show (8 : Nat) = 0 ∨ 5 ≤ 8 by omega), gI_sI]
      by_cases e : k = d
      · subst e
        exact ⟨i, w, hi, hw, by simp⟩
      · obtain ⟨i', w', f⟩ := hc k (by omega)
        exact ⟨i', w', by simp [e]; exact f⟩
  · intro c k hc
    unfold ntX
    exact ⟨by rw [gI_sI, if_neg (by omega), gI_sI, if_neg (by omega), gI_sI, if_neg (by omega), gI_sI, if_neg (by omega), gI_sI, if_neg (by omega), gI_sI, if_neg (by omega)]; exact (x c k hc).1, (x c k hc).2⟩
  · intro c k hc
    unfold ntR
    exact ⟨by rw [layO hw (by omega), gI_sI, if_neg (by omega), gI_sI, if_neg (by omega), gI_sI, if_neg (by omega), gI_sI, if_neg (by omega), gI_sI, if_neg (by omega)]; exact (r c k hc).1, (r c k hc).2⟩
  · intro k g1 g2
    unfold ntR
    rw [layO hw (by omega), gI_sI, if_pos rfl, if_neg g1, gI_sI, if_neg (by decide), gI_sI, if_neg (by decide), gI_sI, if_neg (by decide), gI_sI, if_neg (by decide)]
    exact r0 k g1 g2
theorem dr6 (n b : Nat) (σ : St) : F_X6_dropOldest n b σ = some ((), cI σ b b 1 0 39) := by
  unfold F_X6_dropOldest
  rw [gd_eq ⟨by decide, by decide, by decide, by decide, by decide, fun i _ => rfl⟩, bnd_eq]
  rfl
theorem dr12L (i w : Nat) (v was : Int32) : ∀ (m k : Nat) (τ : St), k + m = 40 → 1 ≤ k → ∃ τ', (∀ n, m + 1 ≤ n → L_X12_changes n 2 (nI w) (nI i) v was (nI k) τ = L_X12_changes (n - m - 1) 1 (nI w) (nI i) v was 0 τ') ∧ gI τ' 0 6 = gI τ 0 6 - 1 ∧ (∀ c, c = 5 ∨ c = 6 ∨ c = 7 ∨ c = 8 → ∀ j, (k - 1 ≤ j → j < 39 → gI τ' c j = gI τ c (j + 1)) ∧ (j < k - 1 → gI τ' c j = gI τ c j)) ∧ (∀ c j, c ≠ 0 → (c < 5 ∨ 9 ≤ c) → gI τ' c j = gI τ c j) ∧ (∀ j, j ≠ 6 → gI τ' 0 j = gI τ 0 j) ∧ ∀ c j, gL τ' c j = gL τ c j
  | 0, k, τ, hk, h1 => by
    refine ⟨sI τ 0 6 (gI τ 0 6 - 1), fun n hn => ?_, rfl, fun c hc j => ⟨fun a b => by omega, fun a => by rw [gI_sI, if_neg (by omega)]⟩, fun c j g1 g2 => by rw [gI_sI, if_neg g1], fun j g => by rw [gI_sI, if_pos rfl, if_neg g], fun c j => rfl⟩
    obtain ⟨n, rfl⟩ : ∃ q, n = q + 1 := ⟨n - 1, by omega⟩
    show B_X12_changes_2 (L_X12_changes n) n (nI w) (nI i) v was (nI k) τ = _
    unfold B_X12_changes_2
    rw [if_pos (by rw [i_le, i_n (by omega), t40]; omega), bnd_eq]
    rfl
  | m + 1, k, τ, hk, h1 => by
    obtain ⟨τ', e1, e2, e3, e4, e5, e6⟩ := dr12L i w v was m (k + 1) (sI (sI (sI (sI τ 5 (k - 1) (gI τ 5 k)) 6 (k - 1) (gI τ 6 k)) 7 (k - 1) (gI τ 7 k)) 8 (k - 1) (gI τ 8 k)) (by omega) (by omega)
    refine ⟨τ', fun n hn => ?_, e2, fun c hc j => ?_, fun c j g1 g2 => ?_, e5, e6⟩
    · obtain ⟨n, rfl⟩ : ∃ q, n = q + 1 := ⟨n - 1, by omega⟩
      show B_X12_changes_2 (L_X12_changes n) n (nI w) (nI i) v was (nI k) τ = _
      unfold B_X12_changes_2
      rw [if_neg (by rw [i_le, i_n (by omega), t40]; omega), nIs1 (show 0 < k by omega)]
      have g1 : vp_in (nI k) 40 := nIin (by omega) (by decide)
      have g2 : vp_in (nI (k - 1)) 40 := nIin (by omega) (by decide)
      simp only [gd_eq g1, gd_eq g2, bnd_eq, n_a1, nIc (show k < 2147483648 by omega), nIc (show k - 1 < 2147483648 by omega)]
      have g := e1 n (by omega)
      rw [show n + 1 - (m + 1) - 1 = n - m - 1 by omega, ← g]
      rfl
    · obtain ⟨f1, f2⟩ := e3 c hc j
      refine ⟨fun a b => ?_, fun a => ?_⟩
      · by_cases e : j = k - 1
        · subst e
          rw [f2 (by omega), show k - 1 + 1 = k by omega]
          rcases hc with rfl | rfl | rfl | rfl <;> simp [gI_sI]
        · rw [f1 (by omega) b]
          rcases hc with rfl | rfl | rfl | rfl <;> simp [gI_sI, show j + 1 ≠ k - 1 by omega]
      · rw [f2 (by omega)]
        rcases hc with rfl | rfl | rfl | rfl <;> simp [gI_sI, show j ≠ k - 1 by omega]
    · rw [e4 c j g1 g2]
      simp [gI_sI, show c ≠ 5 by omega, show c ≠ 6 by omega, show c ≠ 7 by omega, show c ≠ 8 by omega]
theorem b_mend (p1 p2 p3 : Int32) : MStp Inv (fun n σ => F_X11_mend n p1 p2 p3 σ) (fun n τ => F_X12_mend n p1 p2 p3 τ) := mstp_of (fun σ τ hI => by
  obtain ⟨N, B, h1, h2, h3, h4, h5, h6, h7, h8, h9⟩ := id hI
  obtain ⟨a1, a2, a3, a4⟩ := id h1
  obtain ⟨d, u, b1, b2, b3, b4, b5, b6⟩ := id h2
  rcases per (N := N) p1 with ⟨i, hi, rfl⟩ | c1
  · by_cases c2 : 0 ≤ p2.toInt ∧ p2.toInt < 4
    · obtain ⟨w, hw, rfl⟩ := i_natlt (n := 4) c2.1 c2.2
      have ew : (nI w).toInt = w := i_n (by omega)
      by_cases c3 : 0 ≤ p3.toInt ∧ p3.toInt ≤ (st_hi w).toInt
      · have hnum := h1.num hi hw
        by_cases c4 : p3 = gI σ 5 (4 * i + w)
        · refine ⟨gI σ 5 (4 * i + w), σ, τ, Ev.const (fun n => ?_), Ev.const (fun n => ?_), hI⟩
          · simp only [F_X11_mend, F_X6_change, has6 a2 a1, bd_some, if_pos (perI hi a1), allows6 n w hw, if_pos c3, num6 a2 a1 n hi hw, if_pos c4]
            rfl
          · simp only [F_X12_mend, F_X12_changes, isP12 a3 a1, bd_some, if_pos (perI hi a1), in12, may12 n τ hw, if_pos c3, val12 n τ (show i < 7 by omega) hw, t0, t3, ew, if_pos (show (0 : Int) ≤ w ∧ (w : Int) ≤ 3 by omega), ← hnum, if_pos c4.symm]
            rfl
        · have hX : ∀ n, F_X11_mend n (nI i) (nI w) p3 σ = bd (bd (F_X6_noteChange n (nI (4 * i + w)) (gI σ 5 (4 * i + w)) p3 σ) fun _ s7 => some (gI σ 5 (4 * i + w), sI s7 5 (4 * i + w) p3)) fun r6 s5 => some (r6, s5) := fun n => by
            simp only [F_X11_mend, F_X6_change, has6 a2 a1, bd_some, if_pos (perI hi a1), allows6 n w hw, if_pos c3, num6 a2 a1 n hi hw, if_neg c4, n_mul4, nI_add, gd_eq (nIin (show 4 * i + w < 28 by omega) (by decide)), nIc (show 4 * i + w < 2147483648 by omega), bnd_eq]
            rfl
          have hR : ∀ n, F_X12_mend n (nI i) (nI w) p3 τ = bd (if gI (sI τ 0 7 0) 0 6 = 40 then L_X12_changes n 2 (nI w) (nI i) p3 (gI σ 5 (4 * i + w)) 1 (sI τ 0 7 0) else L_X12_changes n 1 (nI w) (nI i) p3 (gI σ 5 (4 * i + w)) 0 (sI τ 0 7 0)) fun r8 s7 => some (r8, s7) := fun n => by
            simp only [F_X12_mend, F_X12_changes, isP12 a3 a1, bd_some, if_pos (perI hi a1), in12, may12 n τ hw, if_pos c3, val12 n τ (show i < 7 by omega) hw, t0, t3, ew, if_pos (show (0 : Int) ≤ w ∧ (w : Int) ≤ 3 by omega), ← hnum, if_neg (Ne.symm c4), bnd_eq]
            rfl
          by_cases c5 : d < 40
          · refine ⟨gI σ 5 (4 * i + w), ntX σ d i w (gI σ 5 (4 * i + w)) p3, ntR (sI τ 0 7 0) d i w (gI σ 5 (4 * i + w)) p3, ⟨1, fun n hn => ?_⟩, ⟨1, fun n hn => ?_⟩, ntInv (σ := σ) (τ := τ) c5 hi hw h1 (fun k hk => b6 k (by omega)) rfl h3 h4 h5 h6 h7 h8 h9 (fun c k _ => ⟨rfl, rfl⟩) (fun c k hc => ⟨by rw [gI_sI, if_neg (by omega)], rfl⟩) (fun k g1 g2 => by rw [gI_sI, if_pos rfl, if_neg g2])⟩
            · refine (hX n).trans ?_
              unfold F_X6_noteChange
              rw [b2, if_pos (by rw [i_lt, i_n (by omega), t40]; omega), nt6 c5 b2 n hn]
              rfl
            · refine (hR n).trans ?_
              rw [if_neg (by rw [show gI (sI τ 0 7 0) 0 6 = nI d from b3, i_eq, i_n (by omega), t40]; omega), nt12 (τ := sI τ 0 7 0) c5 (show i < 7 by omega) hw b3 n hn]
              rfl
          · have hd : d = 40 := by omega
            subst hd
            obtain ⟨τ0, e1, e2, e3, e4, e5, e6⟩ := dr12L i w p3 (gI σ 5 (4 * i + w)) 39 1 (sI τ 0 7 0) rfl (by decide)
            have q6 : gI τ0 0 6 = nI 39 := by rw [e2, show gI (sI τ 0 7 0) 0 6 = nI 40 from b3]; decide
            have x0 : ∀ c k, c ≠ 4 → c ≠ 6 → c ≠ 7 → c ≠ 8 → gI (sI (cI (cI (cI σ 6 6 1 0 39) 7 7 1 0 39) 8 8 1 0 39) 4 5 39) c k = gI σ c k := fun c k g1 g2 g3 g4 => by rw [gI_sI, if_neg g1, gI_cI, if_neg g4, gI_cI, if_neg g3, gI_cI, if_neg g2]
            have xd : ∀ c, c = 6 ∨ c = 7 ∨ c = 8 → ∀ k, k < 39 → gI (sI (cI (cI (cI σ 6 6 1 0 39) 7 7 1 0 39) 8 8 1 0 39) 4 5 39) c k = gI σ c (k + 1) := fun c hc k hk => by
              rcases hc with rfl | rfl | rfl <;> simp [gI_sI, gI_cI, hk, Nat.add_comm]
            refine ⟨gI σ 5 (4 * i + w), ntX (sI (cI (cI (cI σ 6 6 1 0 39) 7 7 1 0 39) 8 8 1 0 39) 4 5 39) 39 i w (gI σ 5 (4 * i + w)) p3, ntR τ0 39 i w (gI σ 5 (4 * i + w)) p3, ⟨1, fun n hn => ?_⟩, ⟨41, fun n hn => ?_⟩, ntInv (σ := σ) (τ := τ) (by decide) hi hw ?_ (fun k hk => ?_) ?_ h3 h4 h5 h6 h7 h8 h9 (fun c k hc => ⟨x0 c k (by omega) (by omega) (by omega) (by omega), rfl⟩) (fun c k hc => ⟨by rw [e4 c k (by omega) (by omega), gI_sI, if_neg (by omega)], e6 c k⟩) (fun k g1 g2 => by rw [e5 k g1, gI_sI, if_pos rfl, if_neg g2])⟩
            · refine (hX n).trans ?_
              unfold F_X6_noteChange
              rw [b2, if_neg (by decide), dr6, bd_some, dr6, bd_some, dr6, bd_some, bnd_eq, nt6 (d := 39) (by decide) rfl n hn]
              rfl
            · refine (hR n).trans ?_
              rw [if_pos (by rw [show gI (sI τ 0 7 0) 0 6 = nI 40 from b3]; decide), show (1 : Int32) = nI 1 from rfl, e1 n (by omega), nt12 (d := 39) (by decide) (show i < 7 by omega) hw q6 (n - 39 - 1) (by omega)]
              rfl
            · refine h1.at rfl (fun k => x0 5 k (by decide) (by decide) (by decide) (by decide)) ?_ (fun k => ⟨e4 1 k (by decide) (by decide), e4 2 k (by decide) (by decide), e4 3 k (by decide) (by decide), e4 4 k (by decide) (by decide)⟩)
              rw [e5 1 (by decide)]
              rfl
            · obtain ⟨i', w', f1, f2, f3, f4, f5, f6, f7⟩ := b6 (k + 1) (by omega)
              refine ⟨i', w', f1, f2, (xd 6 (by omega) k hk).trans f3, ?_, ?_, ?_, ?_⟩
              · rw [(e3 5 (by omega) k).1 (by omega) hk]; exact f4
              · rw [(e3 6 (by omega) k).1 (by omega) hk]; exact f5
              · rw [xd 7 (by omega) k hk, (e3 7 (by omega) k).1 (by omega) hk]; exact f6
              · rw [xd 8 (by omega) k hk, (e3 8 (by omega) k).1 (by omega) hk]; exact f7
            · rw [e5 7 (by decide)]
              rfl
      · refine ⟨-1, σ, τ, Ev.const (fun n => ?_), Ev.const (fun n => ?_), hI⟩
        · simp only [F_X11_mend, has6 a2 a1, bd_some, if_pos (perI hi a1), allows6 n w hw, if_neg c3]
          rfl
        · simp only [F_X12_mend, isP12 a3 a1, bd_some, if_pos (perI hi a1), in12, may12 n τ hw, if_neg c3, t0, t3, ew, if_pos (show (0 : Int) ≤ w ∧ (w : Int) ≤ 3 by omega)]
          rfl
    · refine ⟨-1, σ, τ, Ev.const (fun n => ?_), Ev.const (fun n => ?_), hI⟩
      · simp only [F_X11_mend, has6 a2 a1, bd_some, if_pos (perI hi a1), allowsO n p2 p3 σ c2]
        rfl
      · simp only [F_X12_mend, isP12 a3 a1, bd_some, if_pos (perI hi a1), in12, t0, t3, if_neg (show ¬ (0 ≤ p2.toInt ∧ p2.toInt ≤ 3) by omega)]
        rfl
  · refine ⟨-1, σ, τ, Ev.const (fun n => ?_), Ev.const (fun n => ?_), hI⟩
    · simp only [F_X11_mend, has6 a2 a1, bd_some, if_neg c1]
      rfl
    · simp only [F_X12_mend, isP12 a3 a1, bd_some, if_neg c1]
      rfl)
