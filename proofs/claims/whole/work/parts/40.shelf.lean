/-! shelves -/
theorem sh11 (n : Nat) (p : Int32) (σ : St) : F_X11_isShelf n p σ = some (if 0 ≤ p.toInt ∧ p.toInt < (6 : Nat) then 1 else 0, σ) := by
  unfold F_X11_isShelf
  simp only [i_lt, i_le, t0, t6]
  split
  · rw [if_neg (by omega)]
  · split
    · rw [if_neg (by omega)]
    · rw [if_pos (by omega)]
theorem sh12 (n : Nat) (p : Int32) (τ : St) : F_X12_isShelf n p τ = some (if 0 ≤ p.toInt ∧ p.toInt < (6 : Nat) then 1 else 0, τ) := by
  unfold F_X12_isShelf
  have e2 : (if (0 : Int32).toInt ≤ p.toInt ∧ p.toInt ≤ (5 : Int32).toInt then (1 : Int32) else 0) = if 0 ≤ p.toInt ∧ p.toInt < (6 : Nat) then 1 else 0 := by
    rw [t5, t0]
    split
    · rw [if_pos (by omega)]
    · rw [if_neg (by omega)]
  rw [in12, bd_some, e2, gd_eq nbI]
theorem shI {s : Nat} (hs : s < 6) : 0 ≤ (nI s).toInt ∧ (nI s).toInt < (6 : Nat) := by rw [i_n (by omega)]; omega
theorem Psh.up {B : Nat} {σ τ σ' τ' : St} (h : Psh B σ τ) {s : Nat} (hn : Ps1 B (gI σ' (63 + 2 * s) 1) (gI σ' (63 + 2 * s) 2) (gI σ' (63 + 2 * s) 3) (gI τ' 31 s) (gI τ' 32 s) (fun i => gL σ' (63 + 2 * s + 1) i) (fun i => gL τ' 33 (60 * s + i))) (x : ∀ c k, 63 ≤ c → c ≠ 63 + 2 * s → c ≠ 63 + 2 * s + 1 → gI σ' c k = gI σ c k ∧ gL σ' c k = gL σ c k) (r : ∀ k, k ≠ s → gI τ' 31 k = gI τ 31 k ∧ gI τ' 32 k = gI τ 32 k) (r33 : ∀ k, k < 60 * s ∨ 60 * s + 60 ≤ k → gL τ' 33 k = gL τ 33 k) : Psh B σ' τ' := fun q hq => by
  by_cases e : q = s
  · subst e; exact hn
  · have h := h q hq
    rw [(x _ _ (show 63 ≤ 63 + 2 * q by omega) (by omega) (by omega)).1, (x _ _ (show 63 ≤ 63 + 2 * q by omega) (by omega) (by omega)).1, (x _ _ (show 63 ≤ 63 + 2 * q by omega) (by omega) (by omega)).1, (r q e).1, (r q e).2]
    rcases h with h | h | ⟨a, n, h1, h2, h3, h4, h5, h6, h7, h8⟩
    · exact Or.inl h
    · exact Or.inr (Or.inl h)
    · refine Or.inr (Or.inr ⟨a, n, h1, h2, h3, h4, h5, h6, h7, fun i hi => ?_⟩)
      have := h8 i hi
      dsimp only at this ⊢
      rw [(x _ _ (show 63 ≤ 63 + 2 * q + 1 by omega) (by omega) (by omega)).2, r33 _ (by omega)]
      exact this
/-- the coupling, when shelves alone have moved -/
theorem restS {N B : Nat} {σ τ σ' τ' : St} (h1 : Pp N σ τ) (h2 : Pch N σ τ) (h3 : Pb N σ τ) (h4 : Pk N σ τ) (h5 : Pt σ τ) (h6 : Ptp σ τ) (h7 : Pa B σ τ) (h8 : Psh B σ' τ') (h9 : Plaw σ τ) (x : ∀ c k, c < 63 → gI σ' c k = gI σ c k) (r : ∀ c k, c < 31 → gI τ' c k = gI τ c k) : Inv σ' τ' :=
  ⟨N, B, h1.at (x 4 1 (by decide)) (fun k => x 5 k (by decide)) (r 0 1 (by decide)) (fun k => ⟨r 1 k (by decide), r 2 k (by decide), r 3 k (by decide), r 4 k (by decide)⟩), h2.at (x 4 5 (by decide)) (x 4 6 (by decide)) (fun k => ⟨x 6 k (by decide), x 7 k (by decide), x 8 k (by decide)⟩) (r 0 6 (by decide)) (r 0 7 (by decide)) (fun k => ⟨r 5 k (by decide), r 6 k (by decide), r 7 k (by decide), r 8 k (by decide)⟩), h3.at (x 37 1 (by decide)) (fun k => x 38 k (by decide)) (r 0 29 (by decide)) (fun k => r 18 k (by decide)), h4.at (x 0 8 (by decide)) (x 39 1 (by decide)) (fun k => ⟨x 40 k (by decide), x 2 k (by decide)⟩) (r 0 46 (by decide)) (r 0 47 (by decide)) (fun k => ⟨r 27 k (by decide), r 28 k (by decide)⟩), h5.at (fun k => x 1 k (by decide)) (fun k => r 26 k (by decide)), h6.at (x 9 1 (by decide)) (fun k => x 10 k (by decide)) (fun k => x 33 k (by decide)) (r 0 13 (by decide)) (fun k => r 9 k (by decide)), h7.at (x 24 1 (by decide)) (x 24 3 (by decide)) (fun k => ⟨x 25 k (by decide), x 26 k (by decide)⟩) (r 0 50 (by decide)) (r 0 52 (by decide)) (fun k => ⟨r 29 k (by decide), r 30 k (by decide)⟩), h8, h9.at (x 27 4 (by decide)) (fun k => ⟨x 28 k (by decide), x 29 k (by decide), x 30 k (by decide), x 31 k (by decide)⟩) (r 0 25 (by decide)) (r 12 0 (by decide)) (fun k => ⟨r 10 k (by decide), r 11 k (by decide), r 13 k (by decide), r 14 k (by decide)⟩)⟩
theorem hasB {σ : St} {B : Nat} (hB : gI σ 24 1 = nI B) (h5 : B ≤ 50) (n : Nat) (p : Int32) : F_X0_has n p σ = some (if 0 ≤ p.toInt ∧ p.toInt < B then 1 else 0, σ) := by
  unfold F_X0_has
  simp only [hB, i_lt, i_le, t0, i_n (show B < 2147483648 by omega)]
  split
  · rw [if_neg (by omega)]
  · split
    · rw [if_neg (by omega)]
    · rw [if_pos (by omega)]
theorem isB12 {τ : St} {B : Nat} (hB : gI τ 0 50 = nI B) (h5 : B ≤ 50) (n : Nat) (p : Int32) : F_X12_isBody n p τ = some (if 0 ≤ p.toInt ∧ p.toInt < B then 1 else 0, τ) := by
  unfold F_X12_isBody
  have e : (nI B - 1).toInt = (B : Int) - 1 := by rw [i_sub] <;> rw [i_n (by omega)] <;> simp only [t1] <;> omega
  have e2 : (if (0 : Int32).toInt ≤ p.toInt ∧ p.toInt ≤ (nI B - 1).toInt then (1 : Int32) else 0) = if 0 ≤ p.toInt ∧ p.toInt < B then 1 else 0 := by
    rw [e, t0]
    split
    · rw [if_pos (by omega)]
    · rw [if_neg (by omega)]
  rw [in12, hB, bd_some, e2, gd_eq nbI]
def clX (σ : St) (c : Nat) : St := sI (sI (sI σ c 1 0) c 2 (-1)) c 3 (-1)
theorem cl10 (n c : Nat) (σ : St) : F_X10_clear n c σ = some ((), clX σ c) := rfl
theorem v6 {s : Nat} (hs : s < 6) : vp_in (nI s) 6 := nIin hs (by decide)
theorem b_keep (p1 p2 : Int32) : MStp Inv (fun n σ => F_X11_keep n p1 p2 σ) (fun n τ => F_X12_keep n p1 p2 τ) := mstp_of (fun σ τ hI => by
  obtain ⟨N, B, h1, h2, h3, h4, h5, h6, h7, h8, h9⟩ := id hI
  obtain ⟨g1, g2, g3, g4, g5⟩ := id h7
  rcases per (N := 6) p1 with ⟨s, hs, rfl⟩ | c1
  · have es : (nI s).toNatClampNeg = s := nIc (by omega)
    by_cases c2 : p2 = -1
    · subst c2
      refine ⟨1, clX σ (63 + 2 * s), sI τ 31 s (-1), ⟨1, fun n hn => ?_⟩, Ev.const (fun n => ?_), restS h1 h2 h3 h4 h5 h6 h7 (h8.up (s := s) (Or.inl (by simp [clX, gI_sI])) ?_ ?_ (fun k _ => rfl)) h9 ?_ ?_⟩
      · obtain ⟨n, rfl⟩ : ∃ q, n = q + 1 := ⟨n - 1, by omega⟩
        show F_X11_keep (n + 1) (nI s) (-1) σ = _
        unfold F_X11_keep
        rw [sh11, bd_some, one0, if_pos (shI hs), if_pos rfl]
        show B_X11_keep_1 (L_X11_keep n) n (nI s) (-1) σ = _
        unfold B_X11_keep_1
        rw [if_pos rfl, gd_eq (v6 hs), es, cl10, bd_some]
      · unfold F_X12_keep
        rw [sh12, bd_some, one0, if_pos (shI hs), if_pos rfl, gd_eq (v6 hs), es, bnd_eq]
      · intro c k q1 q2 q3
        exact ⟨by simp [clX, gI_sI, q2], rfl⟩
      · intro k hk
        exact ⟨by simp [gI_sI, hk], by simp [gI_sI]⟩
      · intro c k hc
        simp [clX, gI_sI, show c ≠ 63 + 2 * s by omega]
      · intro c k hc
        simp [gI_sI, show c ≠ 31 by omega]
    · rcases per (N := B) p2 with ⟨b, hb, rfl⟩ | c3
      · have eb : 0 ≤ (nI b).toInt ∧ (nI b).toInt < B := by rw [i_n (by omega)]; omega
        refine ⟨1, sI (clX σ (63 + 2 * s)) (63 + 2 * s) 3 (nI b), sI τ 31 s (nI b), ⟨1, fun n hn => ?_⟩, Ev.const (fun n => ?_), restS h1 h2 h3 h4 h5 h6 h7 (h8.up (s := s) (Or.inr (Or.inl ⟨by simp [clX, gI_sI], b, hb, by simp [gI_sI], by simp [gI_sI]⟩)) ?_ ?_ (fun k _ => rfl)) h9 ?_ ?_⟩
        · obtain ⟨n, rfl⟩ : ∃ q, n = q + 1 := ⟨n - 1, by omega⟩
          show F_X11_keep (n + 1) (nI s) (nI b) σ = _
          unfold F_X11_keep
          rw [sh11, bd_some, one0, if_pos (shI hs), if_neg c2, hasB g2 g1, bd_some, one0, if_pos eb]
          show B_X11_keep_1 (L_X11_keep n) n (nI s) (nI b) σ = _
          unfold B_X11_keep_1 F_X10_holdBody
          rw [if_neg c2, gd_eq (v6 hs), es, cl10, bd_some, bnd_eq, bd_some]
        · unfold F_X12_keep
          rw [sh12, bd_some, one0, if_pos (shI hs), if_neg c2, isB12 g3 g1, bd_some, one0, if_pos eb, gd_eq (v6 hs), es, bnd_eq]
        · intro c k q1 q2 q3
          exact ⟨by simp [clX, gI_sI, q2], rfl⟩
        · intro k hk
          exact ⟨by simp [gI_sI, hk], by simp [gI_sI]⟩
        · intro c k hc
          simp [clX, gI_sI, show c ≠ 63 + 2 * s by omega]
        · intro c k hc
          simp [gI_sI, show c ≠ 31 by omega]
      · refine ⟨-1, σ, τ, Ev.const (fun n => ?_), Ev.const (fun n => ?_), hI⟩
        · simp only [F_X11_keep, sh11, bd_some, if_pos (shI hs), if_neg c2, hasB g2 g1, if_neg c3]
          rfl
        · simp only [F_X12_keep, sh12, bd_some, if_pos (shI hs), if_neg c2, isB12 g3 g1, if_neg c3]
          rfl
  · refine ⟨-1, σ, τ, Ev.const (fun n => ?_), Ev.const (fun n => ?_), hI⟩
    · simp only [F_X11_keep, sh11, bd_some, if_neg c1]
      rfl
    · simp only [F_X12_keep, sh12, bd_some, if_neg c1]
      rfl)
theorem rwXL (c m : Nat) (hm : m ≤ 60) : ∀ (r i : Nat) (σ : St), gI σ c 1 = nI m → i + r = m → ∃ σ', (∀ n, r + 1 ≤ n → L_X10_holdRow c n 1 (nI i) σ = some ((), σ')) ∧ (∀ a k, gI σ' a k = gI σ a k) ∧ (∀ a k, a ≠ c + 1 → gL σ' a k = gL σ a k) ∧ (∀ k, i ≤ k → k < m → gL σ' (c + 1) k = 0) ∧ ∀ k, k < i → gL σ' (c + 1) k = gL σ (c + 1) k
  | 0, i, σ, hN, hi => by
    refine ⟨σ, fun n hn => ?_, fun a k => rfl, fun a k _ => rfl, fun k a b => by omega, fun k _ => rfl⟩
    obtain ⟨n, rfl⟩ : ∃ q, n = q + 1 := ⟨n - 1, by omega⟩
    show B_X10_holdRow_1 (L_X10_holdRow c n) n c (nI i) σ = _
    unfold B_X10_holdRow_1
    rw [hN, if_pos (by rw [i_le, i_n (by omega), i_n (by omega)]; omega)]
  | r + 1, i, σ, hN, hi => by
    obtain ⟨σ', e1, e2, e3, e4, e5⟩ := rwXL c m hm r (i + 1) (sL σ (c + 1) i 0) hN (by omega)
    refine ⟨σ', fun n hn => ?_, e2, fun a k ha => ?_, fun k a b => ?_, fun k a => ?_⟩
    · obtain ⟨n, rfl⟩ : ∃ q, n = q + 1 := ⟨n - 1, by omega⟩
      show B_X10_holdRow_1 (L_X10_holdRow c n) n c (nI i) σ = _
      unfold B_X10_holdRow_1
      rw [hN, if_neg (by rw [i_le, i_n (by omega), i_n (by omega)]; omega), gd_eq (nIin (by omega) (by decide)), nIc (by omega), bnd_eq, bnd_eq, n_a1]
      exact e1 n (by omega)
    · rw [e3 a k ha, gL_sL, if_neg ha]
    · by_cases e : k = i
      · subst e
        rw [e5 k (by omega), gL_sL, if_pos rfl, if_pos rfl]
      · exact e4 k (by omega) b
    · rw [e5 k (by omega), gL_sL, if_pos rfl, if_neg (by omega)]
theorem n_m60 (a : Nat) : (60 : Int32) * nI a = nI (60 * a) := pk_mul 60 a
theorem n_p60 (a : Nat) : nI a + 60 = nI (a + 60) := nI_add a 60
theorem rwRL (s : Nat) (hs : s < 6) : ∀ (r i : Nat) (τ : St), i + r = 60 → ∃ τ', (∀ n, r + 1 ≤ n → L_X12_row n 1 (nI s) (nI (60 * s + i)) τ = some (1, τ')) ∧ (∀ a k, gI τ' a k = gI τ a k) ∧ (∀ k, k < 60 * s + i ∨ 60 * s + 60 ≤ k → gL τ' 33 k = gL τ 33 k) ∧ ∀ k, 60 * s + i ≤ k → k < 60 * s + 60 → gL τ' 33 k = 0
  | 0, i, τ, hi => by
    refine ⟨τ, fun n hn => ?_, fun a k => rfl, fun k _ => rfl, fun k a b => by omega⟩
    obtain ⟨n, rfl⟩ : ∃ q, n = q + 1 := ⟨n - 1, by omega⟩
    show B_X12_row_1 (L_X12_row n) n (nI s) (nI (60 * s + i)) τ = _
    unfold B_X12_row_1
    rw [n_m60, n_p60, if_pos (by rw [i_le, i_n (by omega), i_n (by omega)]; omega)]
  | r + 1, i, τ, hi => by
    obtain ⟨τ', e1, e2, e3, e4⟩ := rwRL s hs r (i + 1) (sL τ 33 (60 * s + i) 0) (by omega)
    refine ⟨τ', fun n hn => ?_, e2, fun k hk => ?_, fun k a b => ?_⟩
    · obtain ⟨n, rfl⟩ : ∃ q, n = q + 1 := ⟨n - 1, by omega⟩
      show B_X12_row_1 (L_X12_row n) n (nI s) (nI (60 * s + i)) τ = _
      unfold B_X12_row_1
      rw [n_m60, n_p60, if_neg (by rw [i_le, i_n (by omega), i_n (by omega)]; omega), gd_eq (nIin (by omega) (by decide)), nIc (by omega), bnd_eq, bnd_eq, n_a1]
      exact e1 n (by omega)
    · rw [e3 k (by omega), gL_sL, if_pos rfl, if_neg (by omega)]
    · by_cases e : k = 60 * s + i
      · subst e
        rw [e3 _ (by omega), gL_sL, if_pos rfl, if_pos rfl]
      · exact e4 k (by omega) b
theorem so10 (n : Nat) (p2 : Int32) (σ : St) : F_X10_isSort n p2 σ = some (if 0 ≤ p2.toInt ∧ p2.toInt < (5 : Nat) then 1 else 0, σ) := by
  unfold F_X10_isSort
  simp only [i_lt, t0, t4]
  split
  · rw [if_neg (by omega)]
  · split
    · rw [if_neg (by omega)]
    · rw [if_pos (by omega)]
theorem so12 (n : Nat) (p2 : Int32) (τ : St) : F_X12_in n p2 0 4 τ = some (if 0 ≤ p2.toInt ∧ p2.toInt < (5 : Nat) then 1 else 0, τ) := by
  rw [in12, t0, t4]
  by_cases c : 0 ≤ p2.toInt ∧ p2.toInt < (5 : Nat)
  · rw [if_pos c, if_pos (by omega)]
  · rw [if_neg c, if_neg (by omega)]
theorem rwX {s q m : Nat} (hs : s < 6) (hq : q < 5) (hm : m ≤ 60) (σ : St) : ∃ σ', (∀ n, 62 ≤ n → F_X11_row n (nI s) (nI q) (nI m) σ = some (1, σ')) ∧ gI σ' (63 + 2 * s) 1 = nI m ∧ gI σ' (63 + 2 * s) 2 = nI q ∧ gI σ' (63 + 2 * s) 3 = -1 ∧ (∀ c k, c ≠ 63 + 2 * s → gI σ' c k = gI σ c k) ∧ (∀ c k, c ≠ 63 + 2 * s + 1 → gL σ' c k = gL σ c k) ∧ ∀ k, k < m → gL σ' (63 + 2 * s + 1) k = 0 := by
  have es : (nI s).toNatClampNeg = s := nIc (by omega)
  have eq : 0 ≤ (nI q).toInt ∧ (nI q).toInt < (5 : Nat) := by rw [i_n (by omega)]; omega
  have em : (nI m).toInt = m := i_n (by omega)
  have em1 : (if nI m < (60 : Int32) then nI m else 60) = nI m := by
    by_cases g : m < 60
    · rw [if_pos (by rw [i_lt, em, t60]; omega)]
    · have e : m = 60 := by omega
      rw [if_neg (by rw [i_lt, em, t60]; omega), e]
      rfl
  have em2 : (if (0 : Int32) < nI m then nI m else 0) = nI m := by
    by_cases g : 0 < m
    · rw [if_pos (by rw [i_lt, em, t0]; omega)]
    · have e : m = 0 := by omega
      rw [if_neg (by rw [i_lt, em, t0]; omega), e]
      rfl
  generalize hc : 63 + 2 * s = c
  obtain ⟨σ1, e1, e2, e3, e4, e5⟩ := rwXL c m hm m 0 (sI (sI (clX σ c) c 2 (nI q)) c 1 (nI m)) (by simp [gI_sI]) (by omega)
  refine ⟨σ1, fun n hn => ?_, by rw [e2]; simp [gI_sI], by rw [e2]; simp [gI_sI], by rw [e2]; simp [clX, gI_sI], fun a k ha => by rw [e2]; simp [clX, gI_sI, ha], fun a k ha => by rw [e3 a k ha]; rfl, fun k hk => e4 k (by omega) hk⟩
  have e1' := e1 n (by omega)
  rw [show nI 0 = (0 : Int32) from rfl] at e1'
  unfold F_X11_row F_X10_holdRow
  rw [sh11, bd_some, one0, if_pos (shI hs), so10, bd_some, one0, if_pos eq, if_pos (by rw [i_le, em, t60]; omega), if_pos (by rw [i_le, em, t0]; omega), gd_eq (v6 hs), es, hc, cl10, bd_some, bnd_eq, bnd_eq, em1, bnd_eq, em2, bnd_eq, e1', bd_some]
theorem rwR0 {s q m : Nat} (hs : s < 6) (hq : q < 5) (hm : m ≤ 60) (τ τ1 : St) (n : Nat) (f1' : L_X12_row n 1 (nI s) (nI (60 * s)) (sI (sI τ 31 s (-2 - nI q)) 32 s (nI m)) = some (1, τ1)) : F_X12_row n (nI s) (nI q) (nI m) τ = some (1, τ1) := by
  have es : (nI s).toNatClampNeg = s := nIc (by omega)
  have eq : 0 ≤ (nI q).toInt ∧ (nI q).toInt < (5 : Nat) := by rw [i_n (by omega)]; omega
  have em : (nI m).toInt = m := i_n (by omega)
  have k1 : nI m ≤ 60 := by rw [i_le, em, t60]; omega
  have k2 : 0 ≤ nI m := by rw [i_le, em, t0]; omega
  unfold F_X12_row
  rw [sh12, bd_some, one0, if_pos (shI hs), so12, bd_some, one0, if_pos eq, if_pos k1, if_pos k2, gd_eq (v6 hs), es, bnd_eq, gd_eq (v6 hs), bnd_eq, bnd_eq, n_m60]
  exact f1'
theorem rwR {s q m : Nat} (hs : s < 6) (hq : q < 5) (hm : m ≤ 60) (τ : St) : ∃ τ', (∀ n, 62 ≤ n → F_X12_row n (nI s) (nI q) (nI m) τ = some (1, τ')) ∧ gI τ' 31 s = -2 - nI q ∧ gI τ' 32 s = nI m ∧ (∀ k, k ≠ s → gI τ' 31 k = gI τ 31 k ∧ gI τ' 32 k = gI τ 32 k) ∧ (∀ c k, c ≠ 31 → c ≠ 32 → gI τ' c k = gI τ c k) ∧ (∀ k, k < 60 * s ∨ 60 * s + 60 ≤ k → gL τ' 33 k = gL τ 33 k) ∧ ∀ i, i < 60 → gL τ' 33 (60 * s + i) = 0 := by
  obtain ⟨τ1, f1, f2, f3, f4⟩ := rwRL s hs 60 0 (sI (sI τ 31 s (-2 - nI q)) 32 s (nI m)) (by omega)
  have g31 : ∀ k, gI τ1 31 k = if k = s then -2 - nI q else gI τ 31 k := fun k => by rw [f2, gI_sI, if_neg (by decide), gI_sI, if_pos rfl]
  have g32 : ∀ k, gI τ1 32 k = if k = s then nI m else gI τ 32 k := fun k => by rw [f2, gI_sI, if_pos rfl, gI_sI, if_neg (show ¬ (32 : Nat) = 31 by decide)]
  refine ⟨τ1, fun n hn => rwR0 hs hq hm τ τ1 n ?_, by rw [g31, if_pos rfl], by rw [g32, if_pos rfl], fun k hk => ⟨by rw [g31, if_neg hk], by rw [g32, if_neg hk]⟩, fun c k g1 g2 => by rw [f2, gI_sI, if_neg g2, gI_sI, if_neg g1], fun k hk => (f3 k (by omega)).trans rfl, fun i hi => f4 _ (by omega) (by omega)⟩
  exact f1 n (by omega)
theorem b_row (p1 p2 p3 : Int32) : MStp Inv (fun n σ => F_X11_row n p1 p2 p3 σ) (fun n τ => F_X12_row n p1 p2 p3 τ) := mstp_of (fun σ τ hI => by
  obtain ⟨N, B, h1, h2, h3, h4, h5, h6, h7, h8, h9⟩ := id hI
  rcases per (N := 6) p1 with ⟨s, hs, rfl⟩ | c1
  · rcases per (N := 5) p2 with ⟨q, hq, rfl⟩ | c2
    · have eq : 0 ≤ (nI q).toInt ∧ (nI q).toInt < (5 : Nat) := by rw [i_n (by omega)]; omega
      by_cases c3 : p3.toInt ≤ 60
      · by_cases c4 : 0 ≤ p3.toInt
        · obtain ⟨m, hm, rfl⟩ := i_natlt (n := 61) c4 (by omega)
          obtain ⟨σ1, e1, e2, e3, e4, e5, e6, e7⟩ := rwX hs hq (show m ≤ 60 by omega) σ
          obtain ⟨τ1, f1, f2, f3, f4, f5, f6, f7⟩ := rwR hs hq (show m ≤ 60 by omega) τ
          exact ⟨1, σ1, τ1, ⟨62, e1⟩, ⟨62, f1⟩, restS h1 h2 h3 h4 h5 h6 h7 (h8.up (s := s) (Or.inr (Or.inr ⟨q, m, hq, by omega, e3, e4, f2, e2, f3, fun i hi => (e7 i hi).trans (f7 i (by omega)).symm⟩)) (fun c k q1 q2 q3 => ⟨e5 c k q2, e6 c k q3⟩) f4 f6) h9 (fun c k hc => e5 c k (by omega)) (fun c k hc => f5 c k (by omega) (by omega))⟩
        · refine ⟨-14, σ, τ, Ev.const (fun n => ?_), Ev.const (fun n => ?_), hI⟩
          · unfold F_X11_row
            rw [sh11, bd_some, one0, if_pos (shI hs), so10, bd_some, one0, if_pos eq, if_pos (by rw [i_le, t60]; exact c3), if_neg (by rw [i_le, t0]; exact c4)]
          · unfold F_X12_row
            rw [sh12, bd_some, one0, if_pos (shI hs), so12, bd_some, one0, if_pos eq, if_pos (by rw [i_le, t60]; exact c3), if_neg (by rw [i_le, t0]; exact c4)]
      · refine ⟨-1, σ, τ, Ev.const (fun n => ?_), Ev.const (fun n => ?_), hI⟩
        · unfold F_X11_row
          rw [sh11, bd_some, one0, if_pos (shI hs), so10, bd_some, one0, if_pos eq, if_neg (by rw [i_le, t60]; exact c3)]
        · unfold F_X12_row
          rw [sh12, bd_some, one0, if_pos (shI hs), so12, bd_some, one0, if_pos eq, if_neg (by rw [i_le, t60]; exact c3)]
    · refine ⟨-1, σ, τ, Ev.const (fun n => ?_), Ev.const (fun n => ?_), hI⟩
      · unfold F_X11_row
        rw [sh11, bd_some, one0, if_pos (shI hs), so10, bd_some, one0, if_neg c2]
      · unfold F_X12_row
        rw [sh12, bd_some, one0, if_pos (shI hs), so12, bd_some, one0, if_neg c2]
  · refine ⟨-1, σ, τ, Ev.const (fun n => ?_), Ev.const (fun n => ?_), hI⟩
    · simp only [F_X11_row, sh11, bd_some, if_neg c1]
      rfl
    · simp only [F_X12_row, sh12, bd_some, if_neg c1]
      rfl)
theorem nI_nm1 {k : Nat} (h : k < 2147483648) : ¬ nI k = -1 := by rw [i_eq, i_n h, tm1]; omega
theorem ho_nm1 : ∀ q, q < 5 → ¬ (-2 : Int32) - nI q = -1 := by decide
theorem ho_lt : ∀ q, q < 5 → (-2 : Int32) - nI q < 0 := by decide
theorem ho_q : ∀ q, q < 5 → (-2 : Int32) - (-2 - nI q) = nI q := by decide
theorem ho_m2 : ∀ q, q < 5 → ((-2 : Int32) - nI q = -2 ↔ q = 0) := by decide
theorem q_0 : ∀ q, q < 5 → (nI q = 0 ↔ q = 0) := by decide
/-- what refuses a place, on both sides -/
theorem refuse {B : Nat} {σ τ : St} {s : Nat} (hs : s < 6) (h : Psh B σ τ) (hB : B ≤ 50) (p : Int32) : (∃ r : Int32, r.toInt < 0 ∧ (∀ n, F_X10_refusalOfPlace n (63 + 2 * s) p σ = some (r, σ)) ∧ ∀ n, F_X12_whyNoPlace n (nI s) p τ = some (r, τ)) ∨ ∃ q m i : Nat, q < 5 ∧ m ≤ 60 ∧ i < m ∧ p = nI i ∧ gI σ (63 + 2 * s) 2 = nI q ∧ gI τ 31 s = -2 - nI q ∧ gI σ (63 + 2 * s) 1 = nI m ∧ gI τ 32 s = nI m ∧ (∀ i, i < m → gL σ (63 + 2 * s + 1) i = gL τ 33 (60 * s + i)) ∧ (∀ n, F_X10_refusalOfPlace n (63 + 2 * s) p σ = some (0, σ)) ∧ ∀ n, F_X12_whyNoPlace n (nI s) p τ = some (0, τ) := by
  have es : (nI s).toNatClampNeg = s := nIc (by omega)
  rcases h s hs with ⟨a1, a2, a3⟩ | ⟨a1, b, a2, a3, a4⟩ | ⟨q, m, a1, a2, a3, a4, a5, a6, a7, a8⟩
  · refine Or.inl ⟨-11, by decide, fun n => ?_, fun n => ?_⟩
    · unfold F_X10_refusalOfPlace F_X10_isEmpty
      rw [if_pos a1, if_pos a2, bd_some, if_neg (by decide)]
    · unfold F_X12_whyNoPlace
      rw [sh12, bd_some, one0, if_pos (shI hs), gd_eq (v6 hs), es, if_pos a3]
  · refine Or.inl ⟨-12, by decide, fun n => ?_, fun n => ?_⟩
    · unfold F_X10_refusalOfPlace F_X10_isEmpty
      rw [if_pos a1, if_neg (by rw [a3]; exact nI_nm1 (by omega)), bd_some, if_pos rfl, if_pos a1]
    · unfold F_X12_whyNoPlace
      rw [sh12, bd_some, one0, if_pos (shI hs), gd_eq (v6 hs), es, if_neg (by rw [a4]; exact nI_nm1 (by omega)), gd_eq (v6 hs), if_neg (by rw [a4, i_lt, i_n (by omega), t0]; omega)]
  · have hm := i_n (show m < 2147483648 by omega)
    have hmm : (nI m - 1).toInt = (m : Int) - 1 := by rw [i_sub] <;> rw [hm] <;> simp only [t1] <;> omega
    have hX : ∀ n, F_X10_refusalOfPlace n (63 + 2 * s) p σ = some (if 0 ≤ p.toInt ∧ p.toInt < m then 0 else -13, σ) := fun n => by
      unfold F_X10_refusalOfPlace F_X10_isEmpty
      rw [if_neg (by rw [a3]; exact nI_nm1 (by omega)), bd_some, if_pos rfl, if_neg (by rw [a3]; exact nI_nm1 (by omega)), a6]
      simp only [i_lt, t0, hm]
      split
      · rw [if_neg (by omega)]
      · split
        · rw [if_pos (by omega)]
        · rw [if_neg (by omega)]
    have hR : ∀ n, F_X12_whyNoPlace n (nI s) p τ = some (if 0 ≤ p.toInt ∧ p.toInt < m then 0 else -13, τ) := fun n => by
      unfold F_X12_whyNoPlace
      rw [sh12, bd_some, one0, if_pos (shI hs), gd_eq (v6 hs), es, if_neg (by rw [a5]; exact ho_nm1 q a1), gd_eq (v6 hs), if_pos (by rw [a5]; exact ho_lt q a1), gd_eq (v6 hs), a7, in12, bd_some, one0, hmm, t0]
      by_cases c : 0 ≤ p.toInt ∧ p.toInt < m
      · rw [if_pos (by omega), if_pos c]
      · rw [if_neg (by omega), if_neg c]
    by_cases c : 0 ≤ p.toInt ∧ p.toInt < m
    · obtain ⟨i, hi, rfl⟩ := i_natlt c.1 c.2
      exact Or.inr ⟨q, m, i, a1, a2, hi, rfl, a3, a5, a6, a7, a8, fun n => by rw [hX, if_pos c], fun n => by rw [hR, if_pos c]⟩
    · exact Or.inl ⟨-13, by decide, fun n => by rw [hX, if_neg c], fun n => by rw [hR, if_neg c]⟩
theorem why12 (n : Nat) (p q : Int32) (τ : St) (h : ¬ (0 ≤ p.toInt ∧ p.toInt < (6 : Nat))) : F_X12_whyNoPlace n p q τ = some (-1, τ) := by
  unfold F_X12_whyNoPlace
  rw [sh12, bd_some, one0, if_neg h]
theorem b_element (p1 p2 : Int32) : MStp Inv (fun n σ => F_X11_element n p1 p2 σ) (fun n τ => F_X12_element n p1 p2 τ) := mstp_of (fun σ τ hI => by
  obtain ⟨N, B, h1, h2, h3, h4, h5, h6, h7, h8, h9⟩ := id hI
  rcases per (N := 6) p1 with ⟨s, hs, rfl⟩ | c1
  · have es : (nI s).toNatClampNeg = s := nIc (by omega)
    rcases refuse hs h8 h7.1 p2 with ⟨r, r1, r2, r3⟩ | ⟨q, m, i, a1, a2, a3, rfl, a4, a5, a6, a7, a8, a9, a10⟩
    · refine ⟨-9223372036854775808, σ, τ, Ev.const (fun n => ?_), Ev.const (fun n => ?_), hI⟩
      · unfold F_X11_element
        rw [sh11, bd_some, one0, if_pos (shI hs), gd_eq (v6 hs), es, r2, bd_some, if_neg (by rw [i_le, t0]; omega)]
      · unfold F_X12_element
        rw [r3, bd_some, if_neg (by rw [i_le, t0]; omega)]
    · refine ⟨gL σ (63 + 2 * s + 1) i, σ, τ, Ev.const (fun n => ?_), Ev.const (fun n => ?_), hI⟩
      · unfold F_X11_element F_X10_get
        rw [sh11, bd_some, one0, if_pos (shI hs), gd_eq (v6 hs), es, a9, bd_some, if_pos (by decide), gd_eq (v6 hs), if_neg (by rw [i_lt, i_n (by omega), t0]; omega), if_neg (by rw [a6, i_le, i_n (by omega), i_n (by omega)]; omega), gd_eq (nIin (by omega) (by decide)), nIc (by omega), bd_some]
      · unfold F_X12_element
        rw [a10, bd_some, if_pos (by decide), n_m60, nI_add, gd_eq (nIin (by omega) (by decide)), nIc (by omega), a8 i a3]
  · refine ⟨-9223372036854775808, σ, τ, Ev.const (fun n => ?_), Ev.const (fun n => ?_), hI⟩
    · simp only [F_X11_element, sh11, bd_some, if_neg c1]
      rfl
    · simp only [F_X12_element, why12 n p1 p2 τ c1, bd_some]
      rfl)
def low (q : Nat) (v : Int64) : Int64 := if q = 0 then v.toInt32.toInt8.toInt32.toInt64 else if q = 1 then v.toInt32.toInt16.toInt32.toInt64 else if q = 2 then v.toInt32.toInt64 else if q = 3 then v else if lg_cmp v 0 = 0 then 0 else 1
theorem b_put (p1 p2 : Int32) (p3 : Int64) : MStp Inv (fun n σ => F_X11_put n p1 p2 p3 σ) (fun n τ => F_X12_put n p1 p2 p3 τ) := mstp_of (fun σ τ hI => by
  obtain ⟨N, B, h1, h2, h3, h4, h5, h6, h7, h8, h9⟩ := id hI
  rcases per (N := 6) p1 with ⟨s, hs, rfl⟩ | c1
  · have es : (nI s).toNatClampNeg = s := nIc (by omega)
    rcases refuse hs h8 h7.1 p2 with ⟨r, r1, r2, r3⟩ | ⟨q, m, i, a1, a2, a3, rfl, a4, a5, a6, a7, a8, a9, a10⟩
    · refine ⟨r, σ, τ, Ev.const (fun n => ?_), Ev.const (fun n => ?_), hI⟩
      · unfold F_X11_put
        rw [sh11, bd_some, one0, if_pos (shI hs), gd_eq (v6 hs), es, r2, bd_some, if_neg (by rw [i_le, t0]; omega)]
      · unfold F_X12_put
        rw [r3, bd_some, if_neg (by rw [i_le, t0]; omega)]
    · have hl : ∀ n, F_X10_lowestBits n (63 + 2 * s) p3 σ = some (low q p3, σ) := fun n => by
        unfold F_X10_lowestBits low
        rw [bnd_eq, a4]
        rcases (show q = 0 ∨ q = 1 ∨ q = 2 ∨ q = 3 ∨ q = 4 by omega) with e | e | e | e | e
        · rw [e, if_pos (by decide), if_pos rfl]
        · rw [e, if_neg (by decide), if_pos (by decide), if_neg (by decide), if_pos rfl]
        · rw [e, if_neg (by decide), if_neg (by decide), if_pos (by decide), if_neg (by decide), if_neg (by decide), if_pos rfl]
        · rw [e, if_neg (by decide), if_neg (by decide), if_neg (by decide), if_pos (by decide), if_neg (by decide), if_neg (by decide), if_neg (by decide), if_pos rfl]
        · rw [e, if_neg (show ¬ nI 4 = 0 by decide), if_neg (show ¬ nI 4 = 1 by decide), if_neg (show ¬ nI 4 = 2 by decide), if_neg (show ¬ nI 4 = 3 by decide), if_neg (show ¬ 4 = 0 by decide), if_neg (show ¬ 4 = 1 by decide), if_neg (show ¬ 4 = 2 by decide), if_neg (show ¬ 4 = 3 by decide)]
          split <;> rfl
      have hg : vp_in (nI (60 * s + i)) 360 := nIin (by omega) (by decide)
      refine ⟨1, sL σ (63 + 2 * s + 1) i (low q p3), sL τ 33 (60 * s + i) (low q p3), Ev.const (fun n => ?_), Ev.const (fun n => ?_), restS h1 h2 h3 h4 h5 h6 h7 (h8.up (s := s) ?_ (fun c k q1 q2 q3 => ⟨rfl, by rw [gL_sL, if_neg q3]⟩) (fun k hk => ⟨rfl, rfl⟩) (fun k hk => by rw [gL_sL, if_pos rfl, if_neg (by omega)])) h9 (fun c k hc => rfl) (fun c k hc => rfl)⟩
      · unfold F_X11_put F_X10_set
        rw [sh11, bd_some, one0, if_pos (shI hs), gd_eq (v6 hs), es, a9, bd_some, if_pos (by decide), gd_eq (v6 hs), if_neg (by rw [i_lt, i_n (by omega), t0]; omega), if_neg (by rw [a6, i_le, i_n (by omega), i_n (by omega)]; omega), hl, bd_some, gd_eq (nIin (by omega) (by decide)), nIc (by omega), bnd_eq, bd_some]
      · unfold F_X12_put low
        rw [a10, bd_some, if_pos (by decide), gd_eq (v6 hs), es, a5, ho_q q a1, bnd_eq]
        simp only [n_m60, nI_add, gd_eq hg, nIc (show 60 * s + i < 2147483648 by omega), bnd_eq]
        generalize 60 * s + i = z
        rcases (show q = 0 ∨ q = 1 ∨ q = 2 ∨ q = 3 ∨ q = 4 by omega) with e | e | e | e | e
        · rw [e, if_pos (by decide), if_pos rfl]
        · rw [e, if_neg (by decide), if_pos (by decide), if_neg (by decide), if_pos rfl]
        · rw [e, if_neg (by decide), if_neg (by decide), if_pos (by decide), if_neg (by decide), if_neg (by decide), if_pos rfl]
        · rw [e, if_neg (by decide), if_neg (by decide), if_neg (by decide), if_pos (by decide), if_neg (by decide), if_neg (by decide), if_neg (by decide), if_pos rfl]
        · rw [e, if_neg (show ¬ nI 4 = 0 by decide), if_neg (show ¬ nI 4 = 1 by decide), if_neg (show ¬ nI 4 = 2 by decide), if_neg (show ¬ nI 4 = 3 by decide), if_neg (show ¬ 4 = 0 by decide), if_neg (show ¬ 4 = 1 by decide), if_neg (show ¬ 4 = 2 by decide), if_neg (show ¬ 4 = 3 by decide)]
          split <;> rfl
      · rcases h8 s hs with ⟨b1, b2, b3⟩ | ⟨b1, b2⟩ | ⟨q', m', b1, b2, b3, b4, b5, b6, b7, b8⟩
        · rw [a4] at b1; exact absurd b1 (nI_nm1 (by omega))
        · rw [a4] at b1; exact absurd b1 (nI_nm1 (by omega))
        · refine Or.inr (Or.inr ⟨q', m', b1, b2, b3, b4, b5, b6, b7, fun j hj => ?_⟩)
          show gL (sL σ (63 + 2 * s + 1) i (low q p3)) (63 + 2 * s + 1) j = gL (sL τ 33 (60 * s + i) (low q p3)) 33 (60 * s + j)
          rw [gL_sL, if_pos rfl, gL_sL, if_pos rfl]
          by_cases e : j = i
          · rw [if_pos e, if_pos (by omega)]
          · rw [if_neg e, if_neg (by omega)]
            exact b8 j hj
  · refine ⟨-1, σ, τ, Ev.const (fun n => ?_), Ev.const (fun n => ?_), hI⟩
    · simp only [F_X11_put, sh11, bd_some, if_neg c1]
      rfl
    · simp only [F_X12_put, why12 n p1 p2 τ c1, bd_some]
      rfl)
