/-! hold -/
theorem hd12L {N : Nat} (h7 : N ≤ 7) {a b : Nat} (ha : a < 7) (hb : b < 7) (won : Bool) (r : Int32) : ∀ (m i : Nat) (τ : St), gI τ 0 1 = nI N → i + m = N → ∃ τ', (∀ n, m + 1 ≤ n → L_X12_hold n 1 (if won then 1 else 0) (nI a) (nI b) r (nI i) τ = some (r, τ')) ∧ gI τ' 0 29 = gI τ 0 29 + 1 ∧ gI τ' 26 0 = gI τ 26 0 + 1 ∧ gI τ' 26 1 = gI τ 26 1 + (if won then 1 else 0) ∧ gI τ' 26 4 = gI τ 26 4 + gI τ 4 (if won then b else a) ∧ gI τ' 26 2 = gI τ 26 2 ∧ gI τ' 26 3 = gI τ 26 3 ∧ (∀ j, i ≤ j → j < N → gI τ' 18 j = gI τ 17 j) ∧ (∀ j, j < i → gI τ' 18 j = gI τ 18 j) ∧ (∀ c k, c ≠ 0 → c ≠ 18 → c ≠ 26 → gI τ' c k = gI τ c k) ∧ (∀ k, k ≠ 29 → gI τ' 0 k = gI τ 0 k) ∧ ∀ c k, gL τ' c k = gL τ c k
  | 0, i, τ, hN, hi => by
    refine ⟨sI (sI (sI (sI τ 0 29 (gI τ 0 29 + 1)) 26 0 (gI τ 26 0 + 1)) 26 1 (gI τ 26 1 + (if won then 1 else 0))) 26 4 (gI τ 26 4 + gI τ 4 (if won then b else a)), fun n hn => ?_, rfl, rfl, rfl, rfl, rfl, rfl, fun j a b => by omega, fun j _ => rfl, fun c k h1 h2 h3 => by simp [gI_sI, h1, h3], fun k hk => by simp [gI_sI, hk], fun c k => rfl⟩
    obtain ⟨n, rfl⟩ : ∃ q, n = q + 1 := ⟨n - 1, by omega⟩
    show B_X12_hold_1 (L_X12_hold n) n (if won then 1 else 0) (nI a) (nI b) r (nI i) τ = _
    unfold B_X12_hold_1
    rw [hN, if_pos (by rw [i_le, i_n (by omega), i_n (by omega)]; omega), bnd_eq, gd_eq v05, gd_eq v05, bnd_eq, gd_eq v15, gd_eq v15, bnd_eq, gd_eq v45]
    cases won
    · rw [if_neg (by decide), gd_eq (nIin ha (by decide)), gd_eq v45, bnd_eq, nIc (by omega)]
      rfl
    · rw [if_pos (by decide), gd_eq (nIin hb (by decide)), gd_eq v45, bnd_eq, nIc (by omega)]
      rfl
  | m + 1, i, τ, hN, hi => by
    obtain ⟨τ', e1, e2, e3, e4, e5, e6, e7, e8, e9, e10, e11, e12⟩ := hd12L h7 ha hb won r m (i + 1) (sI τ 18 i (gI τ 17 i)) hN (by omega)
    refine ⟨τ', fun n hn => ?_, e2, e3, e4, e5, e6, e7, fun j a b => ?_, fun j a => ?_, fun c k h1 h2 h3 => ?_, e11, e12⟩
    · obtain ⟨n, rfl⟩ : ∃ q, n = q + 1 := ⟨n - 1, by omega⟩
      show B_X12_hold_1 (L_X12_hold n) n (if won then 1 else 0) (nI a) (nI b) r (nI i) τ = _
      unfold B_X12_hold_1
      rw [hN, if_neg (by rw [i_le, i_n (by omega), i_n (by omega)]; omega), gd_eq (nIin (by omega) (by decide)), gd_eq (nIin (by omega) (by decide)), nIc (by omega), bnd_eq, bnd_eq, n_a1]
      exact e1 n (by omega)
    · by_cases e : j = i
      · subst e
        rw [e9 j (by omega), gI_sI, if_pos rfl, if_pos rfl]
      · exact e8 j (by omega) b
    · rw [e9 j (by omega), gI_sI, if_pos rfl, if_neg (by omega)]
    · rw [e10 c k h1 h2 h3, gI_sI, if_neg h2]
theorem let12 {N : Nat} (h7 : N ≤ 7) {τ : St} (hN : gI τ 0 1 = nI N) (hb : ∀ i, i < N → bok N (gI τ 17 i)) (n : Nat) {a b : Nat} (ha : a < N) (hbN : b < N) (hab : a ≠ b) : F_X12_isLet n (nI a) (nI b) τ = some (if gI τ 17 a = -1 then 1 else 0, τ) := by
  unfold F_X12_isLet
  have hge : (0 ≤ gI τ 17 a) ↔ ¬ gI τ 17 a = -1 := by
    rw [← bok_lt (hb a ha) h7, i_lt, i_le]
    omega
  rw [isP12 hN h7, bd_some, one0, if_pos (perI ha h7), isP12 hN h7, bd_some, one0, if_pos (perI hbN h7), if_neg (by rw [nI_inj (by omega) (by omega)]; exact hab), gd_eq (nIin (by omega) (by decide)), nIc (by omega)]
  simp only [hge]
  by_cases c : gI τ 17 a = -1
  · rw [if_neg (by simp [c]), if_pos c]
  · rw [if_pos c, if_neg c]
theorem b01 (p : Int32) : (∃ won : Bool, p = (if won then 1 else 0)) ∨ ¬ (0 ≤ p.toInt ∧ p.toInt ≤ 1) := by
  by_cases h : 0 ≤ p.toInt ∧ p.toInt ≤ 1
  · by_cases c : p.toInt = 1
    · exact Or.inl ⟨true, by rw [if_pos rfl, i_eq, t1]; exact c⟩
    · exact Or.inl ⟨false, by rw [if_neg (by decide), i_eq, t0]; omega⟩
  · exact Or.inr h
theorem b01t (won : Bool) : 0 ≤ (if won then (1 : Int32) else 0).toInt ∧ (if won then (1 : Int32) else 0).toInt ≤ 1 := by cases won <;> decide
theorem b_hold (p1 p2 : Int32) : MStp Inv (fun n σ => F_X11_hold n p1 p2 σ) (fun n τ => F_X12_hold n p1 p2 τ) := mstp_of (fun σ τ hI => by
  obtain ⟨N, B, h1, h2, h3, h4, h5, h6, h7, h8, h9⟩ := id hI
  obtain ⟨a1, a2, a3, a4⟩ := id h1
  rcases pairX a2 a1 p1 with ⟨⟨k, k1, rfl, k2, k3, k4⟩, q⟩ | ⟨q0, q⟩
  · have qr := fun n => (pairR a3 a1 n k1).trans (by rw [if_pos ⟨k2, k3, k4⟩])
    rcases b01 p2 with ⟨won, rfl⟩ | c1
    · obtain ⟨τ1, g1, g2, g3⟩ := beg12 h1 h3
      have gN : gI τ1 0 1 = nI N := (g2.2 1 (by decide)).trans a3
      generalize hA : k / 10 = A at k2 k4
      generalize hC : k % 10 = C at k3 k4
      have eA : nI k / 10 = nI A := by rw [n_d10 k1, hA]
      have eC : nI k - nI A * 10 = nI C := by rw [← hA, n_q10 k1, hC]
      have hT := (g3.2.1 A k2).1
      by_cases c2 : gI σ 38 A = -1
      · have hsp := g3.sp a1 k3
        have hsN : spk (gI τ1 17) C N 0 < N := spk_lt _ k3 N 0 (by omega)
        have gT := g3.set a1 k2 k3 won
        have sN : gI (setR τ1 N A C won) 0 1 = nI N := by rw [setR_0, if_neg (by decide)]; exact gN
        obtain ⟨τ2, e1, e2, e3, e4, e5, e6, e7, e8, e9, e10, e11, e12⟩ := hd12L a1 (a := A) (b := C) (by omega) (by omega) won (nI (spk (gI τ1 17) C N 0)) N 0 (setR τ1 N A C won) sN (by omega)
        have rc : ∀ c k, c ≠ 0 → c ≠ 18 → c ≠ 26 → c ≠ 17 → c ∈ coreR → gI τ2 c k = gI τ c k := fun c k d1 d2 d3 d4 d5 => by rw [e10 c k d1 d2 d3, setR_o _ _ _ _ _ d1 d4]; exact g2.g c d5 k
        have r0 : ∀ k, k ≠ 29 → k ≠ 27 → k ∈ coreR0 → gI τ2 0 k = gI τ 0 k := fun k d1 d2 d3 => by rw [e11 k d1, setR_0, if_neg d2]; exact g2.2 k d3
        have rL : ∀ k, gL τ2 33 k = gL τ 33 k := fun k => by rw [e12, setR_L]; exact (g2.1 33 (by decide) k).2
        have r26 : ∀ k, gI (setR τ1 N A C won) 26 k = gI τ 26 k := fun k => by rw [setR_o _ _ _ _ _ (by decide) (by decide)]; exact g2.g 26 (by decide) k
        have x5 : ∀ c k, c ≠ 37 → c ≠ 38 → gI (setX σ 37 A C won) c k = gI σ c k := fun c k d1 d2 => setX_o σ 37 A C won d1 d2 k
        have hfee : gI σ 5 (4 * (if won then C else A) + 3) = gI (setR τ1 N A C won) 4 (if won then C else A) := by
          rw [setR_o _ _ _ _ _ (by decide) (by decide), g2.g 4 (by decide)]
          cases won
          · exact h1.num (w := 3) k2 (by decide)
          · exact h1.num (w := 3) k3 (by decide)
        have xN : gI (setX σ 37 A C won) 4 1 = nI N := (x5 4 1 (by decide) (by decide)).trans a2
        refine ⟨nI (spk (gI τ1 17) C N 0), sI (sI (sI (setX σ 37 A C won) 1 0 (gI σ 1 0 + 1)) 1 1 (gI σ 1 1 + (if won then 1 else 0))) 1 4 (gI σ 1 4 + gI σ 5 (4 * (if won then C else A) + 3)), τ2, ⟨12, fun n hn => ?_⟩, ⟨12, fun n hn => ?_⟩, N, B, ?_, ?_, ?_, ?_, ?_, ?_, ?_, ?_, ?_⟩
        · show F_X11_hold n (nI k) _ σ = _
          unfold F_X11_hold
          rw [q, bd_some, if_neg (by decide), if_neg (by rw [i_lt, t0]; have := (b01t won).1; omega), if_pos (by rw [i_le, t1]; exact (b01t won).2), gd_eq ten0, bnd_eq, gd_eq ten0, bnd_eq, eA, eC, free1 n 37 (by omega), bd_some, if_pos c2, if_neg (by decide), spk1 37 σ (by omega) n (by omega), bd_some]
          rw [show spk (gI σ (37 + 1)) C 7 0 = spk (gI τ1 17) C N 0 from hsp]
          have hw : (if (if won then (1 : Int32) else 0) = 1 then L_X11_hold n 1 (if won then 1 else 0) (nI A) (nI C) (nI (spk (gI τ1 17) C N 0)) 1 (nI C) (nI A) σ else L_X11_hold n 1 (if won then 1 else 0) (nI A) (nI C) (nI (spk (gI τ1 17) C N 0)) 0 (nI C) (nI A) σ) = L_X11_hold n 1 (if won then 1 else 0) (nI A) (nI C) (nI (spk (gI τ1 17) C N 0)) (if won then 1 else 0) (nI C) (nI A) σ := by cases won <;> rfl
          rw [hw]
          obtain ⟨n, rfl⟩ : ∃ q, n = q + 2 := ⟨n - 2, by omega⟩
          show B_X11_hold_1 (L_X11_hold (n + 1)) (n + 1) _ _ _ _ _ _ _ σ = _
          unfold B_X11_hold_1
          rw [set1 37 σ (by omega) (by omega) won (n + 1) (by omega), bd_some, gd_eq v05, gd_eq v05, bnd_eq, gd_eq v15, gd_eq v15, bnd_eq, gd_eq v45]
          have hj : ∀ (w : Nat), w < N → ∀ ρ : St, gI ρ 4 1 = nI N → L_X11_hold (n + 1) 2 (nI (spk (gI τ1 17) C N 0)) (nI w) (gI ρ 1 (4 : Int32).toNatClampNeg) 4 0 0 0 ρ = some (nI (spk (gI τ1 17) C N 0), sI ρ 1 4 (gI ρ 1 4 + gI ρ 5 (4 * w + 3))) := fun w hw ρ hρ => by
            show B_X11_hold_2 (L_X11_hold n) n _ _ _ _ ρ = _
            unfold B_X11_hold_2
            rw [show (3 : Int32) = nI 3 from rfl, num6 hρ a1 n hw (by decide), bd_some, gd_eq v45, bnd_eq]
            rfl
          have e0 : gI (setX σ 37 A C won) 1 0 = gI σ 1 0 := x5 1 0 (by decide) (by decide)
          have e1' : gI (setX σ 37 A C won) 1 1 = gI σ 1 1 := x5 1 1 (by decide) (by decide)
          have e4' : gI (setX σ 37 A C won) 1 4 = gI σ 1 4 := x5 1 4 (by decide) (by decide)
          cases won
          · rw [if_neg (by decide)]
            refine (hj A k2 _ ?_).trans ?_
            · exact xN
            simp [gI_sI, e0, e1', e4', x5 5 (4 * A + 3) (by decide) (by decide), show (0 : Int32).toNatClampNeg = 0 from rfl, show (1 : Int32).toNatClampNeg = 1 from rfl]
          · rw [if_pos (by decide)]
            refine (hj C k3 _ ?_).trans ?_
            · exact xN
            simp [gI_sI, e0, e1', e4', x5 5 (4 * C + 3) (by decide) (by decide), show (0 : Int32).toNatClampNeg = 0 from rfl, show (1 : Int32).toNatClampNeg = 1 from rfl]
        · show F_X12_hold n (nI k) _ τ = _
          unfold F_X12_hold
          rw [qr, bd_some, if_neg (by decide), in12, bd_some, one0, t0, t1, if_pos (b01t won), g1 n (by omega), bd_some, gd_eq ten0, bnd_eq, gd_eq ten0, bnd_eq, eA, eC, let12 a1 gN g3.bk n k2 k3 k4, bd_some, one0, if_pos (by rw [← hT]; exact c2), spk12 a1 τ1 gN k3 n (by omega), bd_some, go12 a1 τ1 gN k2 k3 won n (by omega), bd_some]
          exact e1 n (by omega)
        · exact h1.at (x5 4 1 (by decide) (by decide)) (fun k => x5 5 k (by decide) (by decide)) (r0 1 (by decide) (by decide) (by decide)) (fun k => ⟨rc 1 k (by decide) (by decide) (by decide) (by decide) (by decide), rc 2 k (by decide) (by decide) (by decide) (by decide) (by decide), rc 3 k (by decide) (by decide) (by decide) (by decide) (by decide), rc 4 k (by decide) (by decide) (by decide) (by decide) (by decide)⟩)
        · exact h2.at (x5 4 5 (by decide) (by decide)) (x5 4 6 (by decide) (by decide)) (fun k => ⟨x5 6 k (by decide) (by decide), x5 7 k (by decide) (by decide), x5 8 k (by decide) (by decide)⟩) (r0 6 (by decide) (by decide) (by decide)) (r0 7 (by decide) (by decide) (by decide)) (fun k => ⟨rc 5 k (by decide) (by decide) (by decide) (by decide) (by decide), rc 6 k (by decide) (by decide) (by decide) (by decide) (by decide), rc 7 k (by decide) (by decide) (by decide) (by decide) (by decide), rc 8 k (by decide) (by decide) (by decide) (by decide) (by decide)⟩)
        · refine ⟨?_, fun i hi => ?_, fun i d1 d2 => gT.2.2 i d1 d2⟩
          · have e29 : gI (setR τ1 N A C won) 0 29 = gI τ 0 29 := by rw [setR_0, if_neg (by decide)]; exact g2.2 29 (by decide)
            rw [e2, e29, ← h3.1]
            exact setX_1 σ 37 A C won
          · rw [e8 i (by omega) hi]
            exact gT.2.1 i hi
        · exact h4.at (x5 0 8 (by decide) (by decide)) (x5 39 1 (by decide) (by decide)) (fun k => ⟨x5 40 k (by decide) (by decide), x5 2 k (by decide) (by decide)⟩) (r0 46 (by decide) (by decide) (by decide)) (r0 47 (by decide) (by decide) (by decide)) (fun k => ⟨rc 27 k (by decide) (by decide) (by decide) (by decide) (by decide), rc 28 k (by decide) (by decide) (by decide) (by decide) (by decide)⟩)
        · intro j hj
          match j, hj with
          | 0, _ => rw [e3, r26, ← h5 0 (by decide)]; rfl
          | 1, _ => rw [e4, r26, ← h5 1 (by decide)]; rfl
          | 2, _ => rw [e6, r26, ← h5 2 (by decide)]; exact x5 1 2 (by decide) (by decide)
          | 3, _ => rw [e7, r26, ← h5 3 (by decide)]; exact x5 1 3 (by decide) (by decide)
          | 4, _ => rw [e5, r26, ← h5 4 (by decide), ← hfee]; rfl
          | j + 5, h => exact absurd h (by omega)
        · exact h6.at (x5 9 1 (by decide) (by decide)) (fun k => x5 10 k (by decide) (by decide)) (fun k => x5 33 k (by decide) (by decide)) (r0 13 (by decide) (by decide) (by decide)) (fun k => rc 9 k (by decide) (by decide) (by decide) (by decide) (by decide))
        · exact h7.at (x5 24 1 (by decide) (by decide)) (x5 24 3 (by decide) (by decide)) (fun k => ⟨x5 25 k (by decide) (by decide), x5 26 k (by decide) (by decide)⟩) (r0 50 (by decide) (by decide) (by decide)) (r0 52 (by decide) (by decide) (by decide)) (fun k => ⟨rc 29 k (by decide) (by decide) (by decide) (by decide) (by decide), rc 30 k (by decide) (by decide) (by decide) (by decide) (by decide)⟩)
        · exact h8.at (xs_sI (by decide) (xs_sI (by decide) (xs_sI (by decide) (fun c k hc => ⟨x5 c k (by omega) (by omega), setX_L σ 37 A C won c k⟩)))) (fun k => ⟨rc 31 k (by decide) (by decide) (by decide) (by decide) (by decide), rc 32 k (by decide) (by decide) (by decide) (by decide) (by decide), rL k⟩)
        · exact h9.at (x5 27 4 (by decide) (by decide)) (fun k => ⟨x5 28 k (by decide) (by decide), x5 29 k (by decide) (by decide), x5 30 k (by decide) (by decide), x5 31 k (by decide) (by decide)⟩) (r0 25 (by decide) (by decide) (by decide)) (rc 12 0 (by decide) (by decide) (by decide) (by decide) (by decide)) (fun k => ⟨rc 10 k (by decide) (by decide) (by decide) (by decide) (by decide), rc 11 k (by decide) (by decide) (by decide) (by decide) (by decide), rc 13 k (by decide) (by decide) (by decide) (by decide) (by decide), rc 14 k (by decide) (by decide) (by decide) (by decide) (by decide)⟩)
      · refine ⟨-5, σ, τ1, ⟨12, fun n hn => ?_⟩, ⟨12, fun n hn => ?_⟩, hI.eq (EqX.rf σ) g2⟩
        · show F_X11_hold n (nI k) _ σ = _
          unfold F_X11_hold
          rw [q, bd_some, if_neg (by decide), if_neg (by rw [i_lt, t0]; have := (b01t won).1; omega), if_pos (by rw [i_le, t1]; exact (b01t won).2), gd_eq ten0, bnd_eq, gd_eq ten0, bnd_eq, eA, free1 n 37 (by omega), bd_some, if_neg c2, if_pos rfl]
        · show F_X12_hold n (nI k) _ τ = _
          unfold F_X12_hold
          rw [qr, bd_some, if_neg (by decide), in12, bd_some, one0, t0, t1, if_pos (b01t won), g1 n (by omega), bd_some, gd_eq ten0, bnd_eq, gd_eq ten0, bnd_eq, eA, eC, let12 a1 gN g3.bk n k2 k3 k4, bd_some, one0, if_neg (by rw [← hT]; exact c2)]
    · refine ⟨-1, σ, τ, Ev.const (fun n => ?_), Ev.const (fun n => ?_), hI⟩
      · simp only [F_X11_hold, q, bd_some, i_lt, i_le, t0, t1]
        rw [if_neg (by decide)]
        split
        · rfl
        · rw [if_neg (by omega)]
      · simp only [F_X12_hold, qr, bd_some, in12, t0, t1, if_neg c1]
        rfl
  · refine ⟨-1, σ, τ, Ev.const (fun n => ?_), Ev.const (fun n => ?_), hI⟩
    · simp only [F_X11_hold, q, bd_some]
      rfl
    · simp only [F_X12_hold, pairR0 a3 a1 q0, bd_some]
      rfl)
/-! feed, body, trace, count -/
theorem chr256 : ∀ v : Nat, v < 256 → vp_nar .char (((nI v).toUInt32 % 65536).toInt32) = nI v ∧ vp_nar .byte ((nI v).toInt8.toInt32) = (nI v).toInt8.toInt32 := by decide +kernel
theorem b_feed (p1 : Int32) : MStp Inv (fun n σ => F_X11_feed n p1 σ) (fun n τ => F_X12_feed n p1 τ) := mstp_of (fun σ τ hI => by
  obtain ⟨N, B, h1, h2, h3, h4, h5, h6, h7, h8, h9⟩ := id hI
  obtain ⟨q, c1, c2, c3, c4, c4f⟩ := id h6
  have hq := i_n (show q < 2147483648 by omega)
  have hF : ∀ n, F_X8_isFull n σ = some (if q < 120 then 0 else 1, σ) := fun n => by
    unfold F_X8_isFull
    rw [c2]
    by_cases c5 : q < 120
    · rw [if_pos (by rw [i_lt, hq, t120]; omega), if_pos c5]
    · rw [if_neg (by rw [i_lt, hq, t120]; omega), if_neg c5]
  by_cases c : 0 ≤ p1.toInt ∧ p1.toInt < 256
  · obtain ⟨v, hv, rfl⟩ := i_natlt (n := 256) c.1 c.2
    have e : (nI v).toInt = v := i_n (by omega)
    obtain ⟨k1, k2⟩ := chr256 v hv
    by_cases c5 : q < 120
    · refine ⟨nI (q + 1), sI (sI σ 10 q (nI v)) 9 1 (nI (q + 1)), sI (sI τ 9 q ((nI v).toInt8.toInt32)) 0 13 (nI (q + 1)), Ev.const (fun n => ?_), Ev.const (fun n => ?_), N, B, h1, h2, h3, h4, h5, ?_, h7, h8.at (xs_sI (by decide) (xs_sI (by decide) xs_id)) (fun k => ⟨rfl, rfl, rfl⟩), h9.at rfl (fun k => ⟨rfl, rfl, rfl, rfl⟩) rfl rfl (fun k => ⟨rfl, rfl, rfl, rfl⟩)⟩
      · unfold F_X11_feed F_X8_take
        rw [if_neg (by rw [i_lt, e, t0]; omega), if_pos (by rw [i_le, e]; show (v : Int) ≤ 255; omega), hF, bd_some, if_pos c5, if_pos rfl, hF, bd_some, if_pos c5, if_pos rfl, gd_eq (by rw [c2]; exact nIin c5 (by decide)), c2, nIc (by omega), bnd_eq, bnd_eq, k1]
        simp [bd_some, gI_sI, c2, n_a1]
      · unfold F_X12_feed
        rw [in12, bd_some, one0, e, if_pos (by show (0 : Int) ≤ v ∧ (v : Int) ≤ 255; omega), if_neg (by rw [c3, i_eq, hq, t120]; omega), gd_eq (by rw [c3]; exact nIin c5 (by decide)), c3, nIc (by omega), bnd_eq, bnd_eq, k2]
        simp [gI_sI, c3, n_a1]
      · refine ⟨q + 1, by omega, rfl, rfl, fun k hk => ?_, c4f⟩
        by_cases e : k = q
        · subst e
          exact ⟨v, hv, by simp [gI_sI], by simp [gI_sI]⟩
        · obtain ⟨w, d1, d2, d3⟩ := c4 k (by omega)
          exact ⟨w, d1, by simp [gI_sI, e, d2], by simp [gI_sI, e, d3]⟩
    · refine ⟨-3, σ, τ, Ev.const (fun n => ?_), Ev.const (fun n => ?_), hI⟩
      · unfold F_X11_feed
        rw [if_neg (by rw [i_lt, e, t0]; omega), if_pos (by rw [i_le, e]; show (v : Int) ≤ 255; omega), hF, bd_some, if_neg c5, if_neg (by decide)]
      · unfold F_X12_feed
        rw [in12, bd_some, one0, e, if_pos (by show (0 : Int) ≤ v ∧ (v : Int) ≤ 255; omega), if_pos (by rw [c3, i_eq, hq, t120]; omega)]
  · refine ⟨-1, σ, τ, Ev.const (fun n => ?_), Ev.const (fun n => ?_), hI⟩
    · simp only [F_X11_feed, i_lt, i_le, t0, t255]
      split
      · rfl
      · rw [if_neg (by omega)]
    · simp only [F_X12_feed, in12, bd_some, t0, t255, if_neg (show ¬ (0 ≤ p1.toInt ∧ p1.toInt ≤ 255) by omega)]
      rfl)
theorem kind0 (n : Nat) (p : Int32) (σ : St) : F_X0_isKind n p σ = some (if 0 ≤ p.toInt ∧ p.toInt < 8 then 1 else 0, σ) := by
  unfold F_X0_isKind
  simp only [i_lt, i_le, t0, t8]
  split
  · rw [if_neg (by omega)]
  · split
    · rw [if_neg (by omega)]
    · rw [if_pos (by omega)]
theorem b_body (p1 : Int32) : MStp Inv (fun n σ => F_X11_body n p1 σ) (fun n τ => F_X12_body n p1 τ) := mstp_of (fun σ τ hI => by
  obtain ⟨N, B, h1, h2, h3, h4, h5, h6, h7, h8, h9⟩ := id hI
  obtain ⟨c1, c2, c3, c4, q, c5, c6, c7, c8⟩ := id h7
  have hB := i_n (show B < 2147483648 by omega)
  have hF : ∀ n, F_X0_isFull n σ = some (if B < 50 then 0 else 1, σ) := fun n => by
    unfold F_X0_isFull
    rw [c2]
    by_cases c5 : B < 50
    · rw [if_pos (by rw [i_lt, hB, t50]; omega), if_pos c5]
    · rw [if_neg (by rw [i_lt, hB, t50]; omega), if_neg c5]
  by_cases c : 0 ≤ p1.toInt ∧ p1.toInt < 8
  · obtain ⟨v, hv, rfl⟩ := i_natlt (n := 8) c.1 c.2
    have e : (nI v).toInt = v := i_n (by omega)
    by_cases d : B < 50
    · refine ⟨nI B, sI (sI σ 25 B (nI v)) 24 1 (nI (B + 1)), sI (sI τ 29 B (nI v)) 0 50 (nI (B + 1)), Ev.const (fun n => ?_), Ev.const (fun n => ?_), N, B + 1, h1, h2, h3, h4, h5, h6, ?_, ?_, h9.at rfl (fun k => ⟨rfl, rfl, rfl, rfl⟩) rfl rfl (fun k => ⟨rfl, rfl, rfl, rfl⟩)⟩
      · unfold F_X11_body F_X0_make
        rw [kind0, bd_some, one0, if_pos c, hF, bd_some, if_pos d, if_pos rfl, hF, bd_some, if_pos d, if_pos rfl, gd_eq (by rw [c2]; exact nIin d (by decide)), c2, nIc (by omega), bnd_eq, bnd_eq]
        simp [bd_some, gI_sI, c2, n_a1, n_s1]
      · unfold F_X12_body
        rw [in12, bd_some, one0, if_pos (by rw [e, t0, t7]; omega), if_neg (by rw [c3, i_eq, hB, t50]; omega), gd_eq (by rw [c3]; exact nIin d (by decide)), c3, nIc (by omega), bnd_eq, bnd_eq]
        simp [gI_sI, c3, n_a1, n_s1]
      · refine ⟨by omega, rfl, rfl, fun k hk => ?_, q, c5, c6, c7, c8⟩
        by_cases e : k = B
        · subst e
          exact ⟨v, hv, by simp [gI_sI], by simp [gI_sI]⟩
        · obtain ⟨w, d1, d2, d3⟩ := c4 k (by omega)
          exact ⟨w, d1, by simp [gI_sI, e, d2], by simp [gI_sI, e, d3]⟩
      · have h8' : Psh (B + 1) σ τ := fun s hs => by
          rcases h8 s hs with h | ⟨h, b, g1, g2⟩ | h
          · exact Or.inl h
          · exact Or.inr (Or.inl ⟨h, b, by omega, g2⟩)
          · exact Or.inr (Or.inr h)
        exact h8'.at (xs_sI (by decide) (xs_sI (by decide) xs_id)) (fun k => ⟨rfl, rfl, rfl⟩)
    · refine ⟨-3, σ, τ, Ev.const (fun n => ?_), Ev.const (fun n => ?_), hI⟩
      · unfold F_X11_body
        rw [kind0, bd_some, one0, if_pos c, hF, bd_some, if_neg d, if_neg (by decide)]
      · unfold F_X12_body
        rw [in12, bd_some, one0, if_pos (by rw [e, t0, t7]; omega), if_pos (by rw [c3, i_eq, hB, t50]; omega)]
  · refine ⟨-1, σ, τ, Ev.const (fun n => ?_), Ev.const (fun n => ?_), hI⟩
    · simp only [F_X11_body, kind0, bd_some, if_neg c]
      rfl
    · simp only [F_X12_body, in12, bd_some, t0, t7, if_neg (show ¬ (0 ≤ p1.toInt ∧ p1.toInt ≤ 7) by omega)]
      rfl)
theorem b_trace (p1 : Int32) : MStp Inv (fun n σ => F_X11_trace n p1 σ) (fun n τ => F_X12_trace n p1 τ) := mstp_of (fun σ τ hI => by
  obtain ⟨N, B, h1, h2, h3, h4, h5, h6, h7, h8, h9⟩ := id hI
  obtain ⟨c1, c2, c3, c4, q, c5, c6, c7, c8⟩ := id h7
  have hq := i_n (show q < 2147483648 by omega)
  have htr : ∀ n, F_X0_traced n σ = some (nI (min q 24), σ) := fun n => by
    unfold F_X0_traced
    rw [bnd_eq, c6]
    by_cases d : 24 < q
    · rw [if_pos (by rw [i_lt, hq, t24]; omega), show min q 24 = 24 by omega]
      rfl
    · rw [if_neg (by rw [i_lt, hq, t24]; omega), show min q 24 = q by omega]
  have hm := i_n (show min q 24 < 2147483648 by omega)
  by_cases c : 0 ≤ p1.toInt ∧ p1.toInt < (min q 24 : Nat)
  · obtain ⟨v, hv, rfl⟩ := i_natlt c.1 c.2
    have e : (nI v).toInt = v := i_n (by omega)
    refine ⟨gI σ 26 v, σ, τ, Ev.const (fun n => ?_), Ev.const (fun n => ?_), hI⟩
    · unfold F_X11_trace F_X0_tracedAt
      rw [if_neg (by rw [i_lt, e, t0]; omega), htr, bd_some, if_pos (by rw [i_lt, e, hm]; omega), if_neg (by rw [i_lt, e, t0]; omega), htr, bd_some, if_neg (by rw [i_le, e, hm]; omega), gd_eq (nIin (by omega) (by decide)), nIc (by omega), bd_some]
    · unfold F_X12_trace
      rw [if_neg (by rw [i_lt, e, t0]; omega), if_neg (by rw [c7, i_le, e, hq]; omega), if_neg (by rw [i_le, e, t24]; omega), gd_eq (nIin (by omega) (by decide)), nIc (by omega), c8 v (by omega) (by omega)]
  · refine ⟨-1, σ, τ, Ev.const (fun n => ?_), Ev.const (fun n => ?_), hI⟩
    · simp only [F_X11_trace, htr, bd_some, i_lt, t0, hm]
      split
      · rfl
      · rw [if_neg (by omega)]
    · simp only [F_X12_trace, c7, i_lt, i_le, t0, hq, t24]
      split
      · rfl
      · split
        · rfl
        · rw [if_pos (by omega)])
theorem b_count (p1 : Int32) : MStp Inv (fun n σ => F_X11_count n p1 σ) (fun n τ => F_X12_count n p1 τ) := mstp_of (fun σ τ hI => by
  obtain ⟨N, B, h1, h2, h3, h4, h5, h6, h7, h8, h9⟩ := id hI
  obtain ⟨a1, a2, a3, a4⟩ := id h1
  by_cases z0 : p1 = 0
  · subst z0
    exact ⟨nI N, σ, τ, Ev.const (fun n => by simp only [F_X11_count, F_X6_size, a2]; rfl), Ev.const (fun n => by simp only [F_X12_count, a3]; rfl), hI⟩
  · by_cases z1 : p1 = 1
    · subst z1
      obtain ⟨τ1, g1, g2, g3⟩ := beg12 h1 h3
      have gN : gI τ1 0 1 = nI N := (g2.2 1 (by decide)).trans a3
      refine ⟨nI (cnt (gI σ 38) 7 0), σ, τ1, ⟨8, fun n hn => ?_⟩, ⟨8, fun n hn => ?_⟩, hI.eq (EqX.rf σ) g2⟩
      · simp only [F_X11_count, cnt1 37 σ n hn]
        rfl
      · simp only [F_X12_count, g1 n hn, bd_some, cnt12 a1 τ1 gN g3.bk n hn, ← g3.ct a1]
        rfl
    · by_cases z2 : p1 = 2
      · subst z2
        obtain ⟨q, c1, c2, c3, c4, c4f⟩ := id h6
        exact ⟨nI q, σ, τ, Ev.const (fun n => by simp only [F_X11_count, F_X8_letters, c2]; rfl), Ev.const (fun n => by simp only [F_X12_count, c3]; rfl), hI⟩
      · by_cases z3 : p1 = 3
        · subst z3
          obtain ⟨d, u, b1, b2, b3, b4⟩ := id h2
          exact ⟨nI d, σ, τ, Ev.const (fun n => by simp only [F_X11_count, F_X6_undoable, b2]; rfl), Ev.const (fun n => by simp only [F_X12_count, b3]; rfl), hI⟩
        · obtain ⟨c1, c2, c3, c4, q, c5, c6, c7, c8⟩ := id h7
          by_cases z4 : p1 = 4
          · subst z4
            exact ⟨nI B, σ, τ, Ev.const (fun n => by simp only [F_X11_count, F_X0_size, c2]; rfl), Ev.const (fun n => by simp only [F_X12_count, c3]; rfl), hI⟩
          · by_cases z5 : p1 = 5
            · subst z5
              exact ⟨nI q, σ, τ, Ev.const (fun n => by simp only [F_X11_count, F_X0_ran, c6]; rfl), Ev.const (fun n => by simp only [F_X12_count, c7]; rfl), hI⟩
            · exact ⟨-1, σ, τ, Ev.const (fun n => by simp only [F_X11_count, if_neg z0, if_neg z1, if_neg z2, if_neg z3, if_neg z4, if_neg z5]), Ev.const (fun n => by simp only [F_X12_count, if_neg z0, if_neg z1, if_neg z2, if_neg z3, if_neg z4, if_neg z5]), hI⟩)
