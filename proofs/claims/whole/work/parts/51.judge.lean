/-! judge, roll, sold: the calls -/
theorem begL2 {N : Nat} (h7 : N ≤ 7) : ∀ (m i : Nat) (τ : St), gI τ 0 1 = nI N → i + m = N → ∃ τ', (∀ n, m + 1 ≤ n → L_X12_beginThought n 1 (nI i) τ = some ((), τ')) ∧ (∀ c k, c ≠ 17 → (c ≠ 0 ∨ k ≠ 27) → gI τ' c k = gI τ c k) ∧ (∀ c k, gL τ' c k = gL τ c k) ∧ gI τ' 0 27 = gI τ 0 29 ∧ (∀ j, i ≤ j → j < N → gI τ' 17 j = gI τ 18 j) ∧ ∀ j, j < i → gI τ' 17 j = gI τ 17 j
  | 0, i, τ, hN, hi => by
    refine ⟨sI τ 0 27 (gI τ 0 29), fun n hn => ?_, fun c k h1 h2 => ?_, fun _ _ => rfl, rfl, fun j a b => by omega, fun j _ => rfl⟩
    · obtain ⟨n, rfl⟩ : ∃ q, n = q + 1 := ⟨n - 1, by omega⟩
      show B_X12_beginThought_1 (L_X12_beginThought n) n (nI i) τ = _
      unfold B_X12_beginThought_1
      rw [hN, if_pos (by rw [i_le, i_n (by omega), i_n (by omega)]; omega), bnd_eq]
    · rw [gI_sI]
      split
      · rw [if_neg (by omega)]
      · rfl
  | m + 1, i, τ, hN, hi => by
    obtain ⟨τ', e1, e2, e2', e3, e4, e5⟩ := begL2 h7 m (i + 1) (sI τ 17 i (gI τ 18 i)) hN (by omega)
    refine ⟨τ', fun n hn => ?_, fun c k h1 h2 => by rw [e2 c k h1 h2, gI_sI, if_neg h1], fun c k => e2' c k, e3, fun j a b => ?_, fun j a => ?_⟩
    · obtain ⟨n, rfl⟩ : ∃ q, n = q + 1 := ⟨n - 1, by omega⟩
      show B_X12_beginThought_1 (L_X12_beginThought n) n (nI i) τ = _
      unfold B_X12_beginThought_1
      rw [hN, if_neg (by rw [i_le, i_n (by omega), i_n (by omega)]; omega), gd_eq (nIin (by omega) (by decide)), gd_eq (nIin (by omega) (by decide)), nIc (by omega), bnd_eq, bnd_eq, n_a1]
      exact e1 n (by omega)
    · by_cases e : j = i
      · subst e
        rw [e5 j (by omega), gI_sI, if_pos rfl, if_pos rfl]
      · exact e4 j (by omega) b
    · rw [e5 j (by omega), gI_sI, if_pos rfl, if_neg (by omega)]
theorem beg13 {N : Nat} {σ τ : St} (hp : Pp N σ τ) (hb : Pb N σ τ) : ∃ τ', (∀ n, 8 ≤ n → F_X12_beginThought n τ = some ((), τ')) ∧ EqR τ τ' ∧ Th N σ τ' 37 ∧ (∀ c k, c ≠ 17 → (c ≠ 0 ∨ k ≠ 27) → gI τ' c k = gI τ c k) ∧ ∀ c k, gL τ' c k = gL τ c k := by
  obtain ⟨a1, a2, a3, a4⟩ := id hp
  obtain ⟨τ', e1, e2, e2', e3, e4, e5⟩ := begL2 a1 N 0 τ a3 (by omega)
  refine ⟨τ', fun n hn => e1 n (by omega), ⟨fun c hc k => ⟨e2 c k (nin hc (by decide)) (Or.inl (nin hc (by decide))), e2' c k⟩, fun k hk => e2 0 k (by decide) (Or.inr (nin hk (by decide)))⟩, ⟨hb.1.trans e3.symm, fun i hi => ⟨((hb.2.1 i hi).1).trans (e4 i (by omega) hi).symm, (hb.2.1 i hi).2⟩, hb.2.2⟩, e2, e2'⟩
theorem walkXR {N s m : Nat} {r : Nat → Int32} {σ τ σ' τ' : St} (h1 : Pp N σ τ) (h3 : Pb N σ τ) {G : Nat → Nat → Int32 → Int32 → Nat → Int32 → Nat} (hG : Crt N σ τ G) (hs : s < 6) (hR : Rw s m r σ τ) (hx : EqX σ σ') (hr : EqR τ τ') (way : Int32) (hw : way = -1 ∨ 0 ≤ way.toInt) : ∃ (C P' : Nat) (w : Int32) (σ'' τ'' : St), (∀ n, C ≤ n → F_X2_walk n (63 + 2 * s) 37 way σ' = some ((), σ'')) ∧ (∀ n, C ≤ n → F_X12_wrongRoll n (nI s) way τ' = some (w, τ'')) ∧ EqX σ' σ'' ∧ EqR τ' τ'' ∧ gI σ'' 13 5 = w ∧ (w = -2 ∨ ∃ q, q < 16 ∧ w = nI q) ∧ gI σ'' 13 6 = gI τ'' 0 42 ∧ Pd P' σ'' τ'' ∧ P' ≤ 12 ^ 16 ∧ Ke σ' σ'' τ' τ'' := by
  obtain ⟨a1, a2, a3, a4⟩ := id h1
  have h1' : Pp N σ' τ' := h1.at (hx.g 4 (by decide) 1) (fun k => hx.g 5 (by decide) k) (hr.2 1 (by decide)) (fun k => ⟨hr.g 1 (by decide) k, hr.g 2 (by decide) k, hr.g 3 (by decide) k, hr.g 4 (by decide) k⟩)
  have h3' : Pb N σ' τ' := h3.at (hx.g 37 (by decide) 1) (fun k => hx.g 38 (by decide) k) (hr.2 29 (by decide)) (fun k => hr.g 18 (by decide) k)
  obtain ⟨τ1, g1, g2, g3, g4, g5⟩ := beg13 h1' h3'
  have T1 := g3.cp 41 a1
  have x1 : EqX σ' (sL (sI (sI (cpX σ' 41 37) 13 5 (-2)) 13 6 (-2)) 13 7 1) := (((cpX_eq σ' 41 37 (by decide) (by decide) (by decide) (by decide)).trans EqX.o13).trans EqX.o13).trans (EqX.ofL (by decide))
  have y1 : EqR τ' (sI (sL (sL τ1 0 40 0) 0 41 1) 0 42 (-2)) := ((g2.trans (EqR.ofL (by decide))).trans (EqR.ofL (by decide))).trans (EqR.of0 (by decide))
  have T2' : Th N (sL (sI (sI (cpX σ' 41 37) 13 5 (-2)) 13 6 (-2)) 13 7 1) (sI (sL (sL τ1 0 40 0) 0 41 1) 0 42 (-2)) 41 := T1.at (by rw [gI_sL, gI_sI, if_neg (by decide), gI_sI, if_neg (by decide)]) (fun i => by rw [gI_sL, gI_sI, if_neg (by decide), gI_sI, if_neg (by decide)]) (by rw [gI_sI, if_pos rfl, if_neg (by decide)]; rfl) (fun i => by rw [gI_sI, if_neg (by decide)]; rfl)
  have s5 : gI (sL (sI (sI (cpX σ' 41 37) 13 5 (-2)) 13 6 (-2)) 13 7 1) 13 5 = -2 := by rw [gI_sL, gI_sI, if_pos rfl, if_neg (by decide), gI_sI, if_pos rfl, if_pos rfl]
  have s6 : gI (sL (sI (sI (cpX σ' 41 37) 13 5 (-2)) 13 6 (-2)) 13 7 1) 13 6 = -2 := by rw [gI_sL, gI_sI, if_pos rfl, if_pos rfl]
  have r42 : gI (sI (sL (sL τ1 0 40 0) 0 41 1) 0 42 (-2)) 0 42 = -2 := by rw [gI_sI, if_pos rfl, if_pos rfl]
  have pd : Pd 1 (sL (sI (sI (cpX σ' 41 37) 13 5 (-2)) 13 6 (-2)) 13 7 1) (sI (sL (sL τ1 0 40 0) 0 41 1) 0 42 (-2)) := ⟨by rw [gL_sL, if_pos rfl, if_pos rfl]; rfl, by rw [gL_sI, gL_sL, if_pos rfl, if_neg (by decide), gL_sL, if_pos rfl, if_pos rfl]; rfl, by rw [gL_sI, gL_sL, if_pos rfl, if_pos rfl]; rfl, Nat.le_refl _⟩
  obtain ⟨C, P', w, σ5, τ5, z1, z2, z3, z4, z5, z6, z7, z8, z9, z10⟩ := walkL hG h1 hs hR way hw 16 0 0 1 _ _ rfl (Nat.le_refl _) (hx.trans x1) (hr.trans y1) T2' s5 ⟨s6.trans r42.symm, Or.inl r42⟩ pd (by decide)
  refine ⟨C + 8, P', w, σ5, τ5, fun n hn => ?_, fun n hn => ?_, x1.trans z3, y1.trans z4, z5, z6, z7, z8, z9, ?_⟩
  · unfold F_X2_walk
    rw [cp1 n σ' 41 37 (by decide), bd_some, bnd_eq, bnd_eq, bnd_eq]
    exact z1 n (by omega)
  · unfold F_X12_wrongRoll
    rw [g1 n (by omega), bd_some, bnd_eq, bnd_eq, bnd_eq]
    exact z2 n (by omega)
  · refine ⟨z10.1.trans ?_, z10.2.1.trans ?_, z10.2.2.1.trans ?_, z10.2.2.2.trans ?_⟩
    · rw [gI_sL, gI_sI, if_pos rfl, if_neg (by decide), gI_sI, if_pos rfl, if_neg (by decide), cpX_o _ _ _ (by decide) (by decide)]
    · rw [gI_sL, gI_sI, if_pos rfl, if_neg (by decide), gI_sI, if_pos rfl, if_neg (by decide), cpX_o _ _ _ (by decide) (by decide)]
    · rw [gI_sI, if_pos rfl, if_neg (by decide)]
      exact g4 0 43 (by decide) (by decide)
    · rw [gI_sI, if_pos rfl, if_neg (by decide)]
      exact g4 0 44 (by decide) (by decide)
theorem b_judge (p1 : Int32) : MStp Inv (fun n σ => F_X11_judge n p1 σ) (fun n τ => F_X12_judge n p1 τ) := mstp_of (fun σ τ hI => by
  obtain ⟨N, B, h1, h2, h3, h4, h5, h6, h7, h8, h9⟩ := id hI
  rcases per (N := 6) p1 with ⟨s, hs, rfl⟩ | c1
  · have es : (nI s).toNatClampNeg = s := nIc (by omega)
    rcases rowC hs h7.1 h8 with ⟨q, q1, q2, q3, q4⟩ | ⟨⟨m, r, hR⟩, q2, q3, q4⟩
    · refine ⟨q, σ, τ, Ev.const (fun n => ?_), Ev.const (fun n => ?_), hI⟩
      · unfold F_X11_judge
        rw [sh11, bd_some, one0, if_pos (shI hs), gd_eq (v6 hs), es, q2, bd_some, if_neg q1]
      · unfold F_X12_judge
        rw [sh12, bd_some, one0, if_pos (shI hs), q4, bd_some, if_neg q1, q4, bd_some]
    · obtain ⟨G, hG⟩ := crt h1 h9
      obtain ⟨C, P', w, σ2, τ2, z1, z2, z3, z4, z5, _⟩ := walkXR h1 h3 hG hs hR (EqX.rf σ) (EqR.rf τ) (-1) (Or.inl rfl)
      refine ⟨w, σ2, τ2, ⟨C, fun n hn => ?_⟩, ⟨C, fun n hn => ?_⟩, hI.eq z3 z4⟩
      · show F_X11_judge n (nI s) σ = _
        unfold F_X11_judge F_X2_firstWrong
        rw [sh11, bd_some, one0, if_pos (shI hs), gd_eq (v6 hs), es, q2, bd_some, if_pos (by decide), gd_eq (v6 hs), z1 n hn, bd_some, z5, bd_some]
      · show F_X12_judge n (nI s) τ = _
        unfold F_X12_judge
        rw [sh12, bd_some, one0, if_pos (shI hs), q4, bd_some, if_pos (by decide), z2 n hn, bd_some]
  · refine ⟨-1, σ, τ, Ev.const (fun n => ?_), Ev.const (fun n => ?_), hI⟩
    · unfold F_X11_judge
      rw [sh11, bd_some, one0, if_neg c1]
    · unfold F_X12_judge
      rw [sh12, bd_some, one0, if_neg c1])
/-- what the ways that were gone through have left -/
def Bw (M w : Nat) (σ τ : St) : Prop := gI σ 13 8 = gI τ 0 43 ∧ gI σ 13 9 = gI τ 0 44 ∧ ((M = 0 ∧ gI τ 0 43 = 0 ∧ gI τ 0 44 = -2) ∨ ∃ q b : Nat, 1 ≤ q ∧ q ≤ w ∧ b < 256 ∧ gI τ 0 43 = nI q ∧ gI τ 0 44 = nI b)
theorem l_lt (a b : Int64) : a < b ↔ a.toInt < b.toInt := Int64.lt_iff_toInt_lt
theorem l_le (a b : Int64) : a ≤ b ↔ a.toInt ≤ b.toInt := Int64.le_iff_toInt_le
theorem weighL {N s m : Nat} {r : Nat → Int32} {σ τ : St} (h1 : Pp N σ τ) (h3 : Pb N σ τ) {G : Nat → Nat → Int32 → Int32 → Nat → Int32 → Nat} (hG : Crt N σ τ G) (hs : s < 6) (hR : Rw s m r σ τ) {U : Nat} (hU : uk N m r 16 0 0 = U) (hU8 : U ≤ 8) : ∀ (j w M : Nat) (σ' τ' : St), w + j = 2 ^ U → EqX σ σ' → EqR τ τ' → M ≤ 12 ^ 16 → Bw M w σ' τ' → ∃ (C : Nat) (σ'' τ'' : St), (∀ n, C ≤ n → L_X2_weighWays (63 + 2 * s) 37 n 1 (nI (2 ^ U)) (nI w) (nL M) σ' = some ((), σ'')) ∧ (∀ n, C ≤ n → L_X12_findWays n 1 (nI s) (nI w) (nL (M / 1000000000)) (nL (M % 1000000000)) τ' = some ((), τ'')) ∧ EqX σ' σ'' ∧ EqR τ' τ'' ∧ ∃ M', Bw M' (2 ^ U) σ'' τ''
  | 0, w, M, σ', τ', hw, hx, hr, hM, hB => by
    have hR' := hR.eq hs hx hr
    have p8 : 2 ^ U ≤ 2 ^ 8 := Nat.pow_le_pow_right (by decide) hU8
    have hw' : w = 2 ^ U := by omega
    refine ⟨20, σ', τ', fun n hn => ?_, fun n hn => ?_, EqX.rf _, EqR.rf _, M, by rw [← hw']; exact hB⟩
    · obtain ⟨n, rfl⟩ : ∃ q, n = q + 1 := ⟨n - 1, by omega⟩
      show B_X2_weighWays_1 (L_X2_weighWays (63 + 2 * s) 37 n) n (63 + 2 * s) 37 (nI (2 ^ U)) (nI w) (nL M) σ' = _
      unfold B_X2_weighWays_1
      rw [if_pos (by rw [hw']; exact Int32.le_refl _)]
    · obtain ⟨n, rfl⟩ : ∃ q, n = q + 1 := ⟨n - 1, by omega⟩
      show B_X12_findWays_1 (L_X12_findWays n) n (nI s) (nI w) _ _ τ' = _
      unfold B_X12_findWays_1 F_X12_unknownMany
      have := ukR ((hr.2 1 (by decide)).trans h1.2.2.1) h1.1 hs hR' 16 0 0 rfl (Nat.le_refl _) n (by omega)
      rw [hU] at this
      rw [show (0 : Int32) = nI 0 from rfl, this, bd_some, sh1 U (by omega), if_pos (by rw [hw']; exact Int32.le_refl _)]
  | j + 1, w, M, σ', τ', hw, hx, hr, hM, hB => by
    have hR' := hR.eq hs hx hr
    have p8 : 2 ^ U ≤ 2 ^ 8 := Nat.pow_le_pow_right (by decide) hU8
    rw [show (2 : Nat) ^ 8 = 256 from rfl] at p8
    obtain ⟨C, P, wr, σ1, τ1, z1, z2, z3, z4, z5, z6, z7, z8, z9, z10⟩ := walkXR h1 h3 hG hs hR hx hr (nI w) (Or.inr (by rw [i_n (by omega)]; omega))
    have nX : ¬ nI (2 ^ U) ≤ nI w := by rw [i_le, i_n (by omega), i_n (by omega)]; omega
    have EX : ∀ n, L_X2_weighWays (63 + 2 * s) 37 (n + 1) 1 (nI (2 ^ U)) (nI w) (nL M) σ' = B_X2_weighWays_1 (L_X2_weighWays (63 + 2 * s) 37 n) n (63 + 2 * s) 37 (nI (2 ^ U)) (nI w) (nL M) σ' := fun _ => rfl
    have ER : ∀ n, L_X12_findWays (n + 1) 1 (nI s) (nI w) (nL (M / 1000000000)) (nL (M % 1000000000)) τ' = B_X12_findWays_1 (L_X12_findWays n) n (nI s) (nI w) (nL (M / 1000000000)) (nL (M % 1000000000)) τ' := fun _ => rfl
    have uR : ∀ n, 18 ≤ n → F_X12_unknownMany n (nI s) τ' = some (nI U, τ') := fun n hn => by
      have := ukR ((hr.2 1 (by decide)).trans h1.2.2.1) h1.1 hs hR' 16 0 0 rfl (Nat.le_refl _) n (by omega)
      rw [hU] at this
      exact this
    have k8 : gI σ1 13 8 = gI τ1 0 43 := z10.1.trans (hB.1.trans z10.2.2.1.symm)
    have k9 : gI σ1 13 9 = gI τ1 0 44 := z10.2.1.trans (hB.2.1.trans z10.2.2.2.symm)
    rw [pow12] at hM z9
    by_cases cw : wr = -2
    · obtain ⟨P1, P2, P3, P4⟩ := id z8
      have q43 : ∃ q : Nat, q ≤ w ∧ gI τ1 0 43 = nI q ∧ (q = 0 → M = 0 ∧ gI τ1 0 44 = -2) ∧ (1 ≤ q → ∃ b, b < 256 ∧ gI τ1 0 44 = nI b) := by
        rw [z10.2.2.1, z10.2.2.2]
        rcases hB.2.2 with ⟨e1, e2, e3⟩ | ⟨q, b, e1, e2, e3, e4, e5⟩
        · exact ⟨0, by omega, e2, fun _ => ⟨e1, e3⟩, fun h => by omega⟩
        · exact ⟨q, e2, e4, fun h => by omega, fun _ => ⟨b, e3, e5⟩⟩
      obtain ⟨q, qw, qe, qz, qn⟩ := q43
      have a43 : gI τ1 0 43 + 1 = nI (q + 1) := by rw [qe, n_a1]
      have a13 : gI σ1 13 8 + 1 = nI (q + 1) := by rw [k8, a43]
      by_cases cP : P ≤ M
      · -- no better one
        have q1 : 1 ≤ q := by
          rcases Nat.eq_zero_or_pos q with h | h
          · have := (qz h).1
            omega
          · exact h
        obtain ⟨b, b1, b2⟩ := qn q1
        obtain ⟨C', σ2, τ2, y1, y2, y3, y4, y5⟩ := weighL h1 h3 hG hs hR hU hU8 j (w + 1) M (sI σ1 13 8 (nI (q + 1))) (sI τ1 0 43 (nI (q + 1))) (by omega) ((hx.trans z3).trans EqX.o13) ((hr.trans z4).trans (EqR.of0 (by decide))) (by rw [pow12]; exact hM) ⟨by rw [gI_sI, if_pos rfl, if_pos rfl, gI_sI, if_pos rfl, if_pos rfl], by rw [gI_sI, if_pos rfl, if_neg (by decide), gI_sI, if_pos rfl, if_neg (by decide)]; exact k9, Or.inr ⟨q + 1, b, by omega, by omega, b1, by rw [gI_sI, if_pos rfl, if_pos rfl], by rw [gI_sI, if_pos rfl, if_neg (by decide)]; exact b2⟩⟩
        refine ⟨C + C' + 24, σ2, τ2, fun n hn => ?_, fun n hn => ?_, (z3.trans EqX.o13).trans y3, (z4.trans (EqR.of0 (by decide))).trans y4, y5⟩
        · obtain ⟨n, rfl⟩ : ∃ q, n = q + 1 := ⟨n - 1, by omega⟩
          rw [EX]
          unfold B_X2_weighWays_1
          rw [if_neg nX, z1 n (by omega), bd_some, if_pos (z5.trans cw), bnd_eq, a13, gL_sI, P1, if_pos ((lg_cmp_le _ _).mpr (by rw [l_le, l_n (by omega), l_n (by omega)]; omega)), bnd_eq, n_a1]
          exact y1 n (by omega)
        · obtain ⟨n, rfl⟩ : ∃ q, n = q + 1 := ⟨n - 1, by omega⟩
          rw [ER]
          unfold B_X12_findWays_1
          rw [uR n (by omega), bd_some, sh1 U (by omega), if_neg nX, z2 n (by omega), bd_some, if_pos (by rw [cw]; decide), bnd_eq, a43, gL_sI, gL_sI, P2, P3]
          by_cases d1 : P / 1000000000 < M / 1000000000
          · rw [if_pos ((lg_cmp_lt _ _).mpr (by rw [l_lt, l_n (by omega), l_n (by omega)]; omega)), bnd_eq, n_a1]
            exact y2 n (by omega)
          · rw [if_neg (fun e => by have := (lg_cmp_lt _ _).mp e; rw [l_lt, l_n (by omega), l_n (by omega)] at this; omega), if_pos ((lg_cmp_eq _ _).mpr (by rw [l_eq, l_n (by omega), l_n (by omega)]; omega)), if_neg (fun e => by have := (lg_cmp_gt _ _).mp e; rw [l_lt, l_n (by omega), l_n (by omega)] at this; omega), bnd_eq, n_a1]
            exact y2 n (by omega)
      · obtain ⟨C', σ2, τ2, y1, y2, y3, y4, y5⟩ := weighL h1 h3 hG hs hR hU hU8 j (w + 1) P (sI (sI σ1 13 8 (nI (q + 1))) 13 9 (nI w)) (sI (sI τ1 0 43 (nI (q + 1))) 0 44 (nI w)) (by omega) (((hx.trans z3).trans EqX.o13).trans EqX.o13) (((hr.trans z4).trans (EqR.of0 (by decide))).trans (EqR.of0 (by decide))) (by rw [pow12]; exact z9) ⟨by simp [gI_sI], by simp [gI_sI], Or.inr ⟨q + 1, w, by omega, by omega, by omega, by simp [gI_sI], by simp [gI_sI]⟩⟩
        refine ⟨C + C' + 24, σ2, τ2, fun n hn => ?_, fun n hn => ?_, ((z3.trans EqX.o13).trans EqX.o13).trans y3, ((z4.trans (EqR.of0 (by decide))).trans (EqR.of0 (by decide))).trans y4, y5⟩
        · obtain ⟨n, rfl⟩ : ∃ q, n = q + 1 := ⟨n - 1, by omega⟩
          rw [EX]
          unfold B_X2_weighWays_1
          rw [if_neg nX, z1 n (by omega), bd_some, if_pos (z5.trans cw), bnd_eq, a13, gL_sI, P1, if_neg (fun e => by have := (lg_cmp_le _ _).mp e; rw [l_le, l_n (by omega), l_n (by omega)] at this; omega), bnd_eq, bnd_eq, bnd_eq, n_a1]
          exact y1 n (by omega)
        · obtain ⟨n, rfl⟩ : ∃ q, n = q + 2 := ⟨n - 2, by omega⟩
          have E2 : L_X12_findWays (n + 1) 2 (nI s) (nI w) 0 0 (sI τ1 0 43 (nI (q + 1))) = some ((), τ2) := by
            show B_X12_findWays_2 (L_X12_findWays n) n (nI s) (nI w) (sI τ1 0 43 (nI (q + 1))) = _
            unfold B_X12_findWays_2
            rw [bnd_eq, bnd_eq, bnd_eq, bnd_eq, n_a1, gL_sI, gL_sI, gL_sI, gL_sI, P2, P3]
            exact y2 n (by omega)
          rw [ER]
          unfold B_X12_findWays_1
          rw [uR (n + 1) (by omega), bd_some, sh1 U (by omega), if_neg nX, z2 (n + 1) (by omega), bd_some, if_pos (by rw [cw]; decide), bnd_eq, a43, gL_sI, gL_sI, P2, P3]
          rw [if_neg (fun e => by have := (lg_cmp_lt _ _).mp e; rw [l_lt, l_n (by omega), l_n (by omega)] at this; omega)]
          by_cases d1 : P / 1000000000 = M / 1000000000
          · rw [if_pos ((lg_cmp_eq _ _).mpr (by rw [l_eq, l_n (by omega), l_n (by omega)]; omega)), if_pos ((lg_cmp_gt _ _).mpr (by rw [l_lt, l_n (by omega), l_n (by omega)]; omega))]
            exact E2
          · rw [if_neg (fun e => by have := (lg_cmp_eq _ _).mp e; rw [l_eq, l_n (by omega), l_n (by omega)] at this; omega)]
            exact E2
    · obtain ⟨q, hq, hq2⟩ := z6.resolve_left cw
      obtain ⟨C', σ2, τ2, y1, y2, y3, y4, y5⟩ := weighL h1 h3 hG hs hR hU hU8 j (w + 1) M σ1 τ1 (by omega) (hx.trans z3) (hr.trans z4) (by rw [pow12]; exact hM) ⟨k8, k9, by
        rw [z10.2.2.1, z10.2.2.2]
        rcases hB.2.2 with e | ⟨q, b, e1, e2, e3, e4, e5⟩
        · exact Or.inl e
        · exact Or.inr ⟨q, b, e1, by omega, e3, e4, e5⟩⟩
      refine ⟨C + C' + 24, σ2, τ2, fun n hn => ?_, fun n hn => ?_, z3.trans y3, z4.trans y4, y5⟩
      · obtain ⟨n, rfl⟩ : ∃ q, n = q + 1 := ⟨n - 1, by omega⟩
        rw [EX]
        unfold B_X2_weighWays_1
        rw [if_neg nX, z1 n (by omega), bd_some, if_neg (by rw [z5]; exact cw), bnd_eq, n_a1]
        exact y1 n (by omega)
      · obtain ⟨n, rfl⟩ : ∃ q, n = q + 1 := ⟨n - 1, by omega⟩
        rw [ER]
        unfold B_X12_findWays_1
        rw [uR n (by omega), bd_some, sh1 U (by omega), if_neg nX, z2 n (by omega), bd_some, if_neg (by rw [hq2, i_lt, i_n (by omega), t0]; omega), bnd_eq, n_a1]
        exact y2 n (by omega)
theorem weighXR {N s m : Nat} {r : Nat → Int32} {σ τ : St} (h1 : Pp N σ τ) (h3 : Pb N σ τ) {G : Nat → Nat → Int32 → Int32 → Nat → Int32 → Nat} (hG : Crt N σ τ G) (hs : s < 6) (hR : Rw s m r σ τ) (hU8 : uk N m r 16 0 0 ≤ 8) : ∃ (C : Nat) (σ'' τ'' : St), (∀ n, C ≤ n → F_X2_weighWays n (63 + 2 * s) 37 σ = some ((), σ'')) ∧ (∀ n, C ≤ n → F_X12_findWays n (nI s) τ = some ((), τ'')) ∧ EqX σ σ'' ∧ EqR τ τ'' ∧ ∃ M' w', Bw M' w' σ'' τ'' ∧ w' ≤ 256 := by
  generalize hU : uk N m r 16 0 0 = U at hU8
  have p8 : 2 ^ U ≤ 2 ^ 8 := Nat.pow_le_pow_right (by decide) hU8
  obtain ⟨C, σ2, τ2, y1, y2, y3, y4, M', y5⟩ := weighL h1 h3 hG hs hR hU hU8 (2 ^ U) 0 0 (sI (sI σ 13 8 0) 13 9 (-2)) (sI (sI τ 0 43 0) 0 44 (-2)) (by omega) (EqX.o13.trans EqX.o13) ((EqR.of0 (by decide)).trans (EqR.of0 (by decide))) (by decide) ⟨by simp [gI_sI], by simp [gI_sI], Or.inl ⟨rfl, by simp [gI_sI], by simp [gI_sI]⟩⟩
  refine ⟨C + 20, σ2, τ2, fun n hn => ?_, fun n hn => ?_, (EqX.o13.trans EqX.o13).trans y3, ((EqR.of0 (by decide)).trans (EqR.of0 (by decide))).trans y4, M', 2 ^ U, y5, p8⟩
  · unfold F_X2_weighWays F_X2_countUnknown
    have := ukX h1.2.1 h1.1 hR 16 0 0 rfl (Nat.le_refl _) n (by omega)
    rw [hU] at this
    have e : L_X2_countUnknown (63 + 2 * s) n 1 0 0 σ = some (nI U, σ) := this
    have e2 : (if nI U < (8 : Int32) then nI U else 8) = nI U := by
      by_cases c : U < 8
      · rw [if_pos (by rw [i_lt, i_n (by omega), t8]; omega)]
      · rw [if_neg (by rw [i_lt, i_n (by omega), t8]; omega), show U = 8 by omega]
        rfl
    rw [e, bd_some, bnd_eq, e2, bnd_eq, bnd_eq, bnd_eq, sh1 U (by omega)]
    exact y1 n (by omega)
  · unfold F_X12_findWays
    rw [bnd_eq, bnd_eq]
    exact y2 n (by omega)
theorem rollX {N s m : Nat} {r : Nat → Int32} {σ τ : St} (h1 : Pp N σ τ) (hs : s < 6) (hR : Rw s m r σ τ) (q2 : ∀ n, F_X10_refusalOfBytes n (63 + 2 * s) σ = some (0, σ)) (n : Nat) (hn : 20 ≤ n) : F_X11_refusalOfRoll n (nI s) σ = some (if uk N m r 16 0 0 ≤ 8 then 0 else -5, σ) := by
  have es : (nI s).toNatClampNeg = s := nIc (by omega)
  have hu := uk_le N m r 16 0 0
  have := ukX h1.2.1 h1.1 hR 16 0 0 rfl (Nat.le_refl _) n (by omega)
  have e : L_X2_countUnknown (63 + 2 * s) n 1 0 0 σ = some (nI (uk N m r 16 0 0), σ) := this
  unfold F_X11_refusalOfRoll F_X2_countUnknown
  rw [gd_eq (v6 hs), es, q2, bd_some, if_pos (by decide), gd_eq (v6 hs), e, bd_some]
  by_cases c : uk N m r 16 0 0 ≤ 8
  · rw [if_pos (by rw [i_le, i_n (by omega), t8]; omega), if_pos c]
  · rw [if_neg (by rw [i_le, i_n (by omega), t8]; omega), if_neg c]
theorem rollR {N s m : Nat} {r : Nat → Int32} {σ τ : St} (h1 : Pp N σ τ) (hs : s < 6) (hR : Rw s m r σ τ) (n : Nat) (hn : 20 ≤ n) : F_X12_unknownMany n (nI s) τ = some (nI (uk N m r 16 0 0), τ) := ukR h1.2.2.1 h1.1 hs hR 16 0 0 rfl (Nat.le_refl _) n (by omega)
theorem b_roll (p1 p2 : Int32) : MStp Inv (fun n σ => F_X11_roll n p1 p2 σ) (fun n τ => F_X12_roll n p1 p2 τ) := mstp_of (fun σ τ hI => by
  obtain ⟨N, B, h1, h2, h3, h4, h5, h6, h7, h8, h9⟩ := id hI
  rcases per (N := 6) p1 with ⟨s, hs, rfl⟩ | c1
  · have es : (nI s).toNatClampNeg = s := nIc (by omega)
    by_cases c2 : 0 ≤ p2.toInt ∧ p2.toInt ≤ 1
    · have hc : ∀ {β : Type} (a b : β), (if p2 < 0 then a else if p2 ≤ 1 then b else a) = b := fun a b => by
        rw [if_neg (by rw [i_lt, t0]; omega), if_pos (by rw [i_le, t1]; omega)]
      rcases rowC hs h7.1 h8 with ⟨q, q1, q2, q3, q4⟩ | ⟨⟨m, r, hR⟩, q2, q3, q4⟩
      · refine ⟨q, σ, τ, Ev.const (fun n => ?_), Ev.const (fun n => ?_), hI⟩
        · unfold F_X11_roll F_X11_refusalOfRoll
          rw [sh11, bd_some, one0, if_pos (shI hs), hc, gd_eq (v6 hs), es, q2, bd_some, if_neg q1, bd_some, if_neg q1]
        · unfold F_X12_roll
          rw [sh12, bd_some, one0, if_pos (shI hs), in01, bd_some, one0, if_pos c2, q4, bd_some, if_neg q1, q4, bd_some]
      · have hu := uk_le N m r 16 0 0
        by_cases c8 : uk N m r 16 0 0 ≤ 8
        · obtain ⟨G, hG⟩ := crt h1 h9
          obtain ⟨C, σ2, τ2, y1, y2, y3, y4, M', w', y5, _⟩ := weighXR h1 h3 hG hs hR c8
          refine ⟨if p2 = 0 then gI τ2 0 43 else gI τ2 0 44, σ2, τ2, ⟨C + 20, fun n hn => ?_⟩, ⟨C + 20, fun n hn => ?_⟩, hI.eq y3 y4⟩
          · show F_X11_roll n (nI s) p2 σ = _
            unfold F_X11_roll F_X2_ways F_X2_likeliestWay
            rw [sh11, bd_some, one0, if_pos (shI hs), hc, rollX h1 hs hR q2 n (by omega), if_pos c8, bd_some, if_pos (by decide), gd_eq (v6 hs), es, y1 n (by omega), bd_some, bd_some, bd_some, y5.1, y5.2.1]
            split <;> rfl
          · show F_X12_roll n (nI s) p2 τ = _
            unfold F_X12_roll
            rw [sh12, bd_some, one0, if_pos (shI hs), in01, bd_some, one0, if_pos c2, q4, bd_some, if_pos (by decide), rollR h1 hs hR n (by omega), bd_some, if_pos (by rw [i_le, i_n (by omega), t8]; omega), y2 n (by omega), bd_some]
            split <;> rfl
        · refine ⟨-5, σ, τ, ⟨20, fun n hn => ?_⟩, ⟨20, fun n hn => ?_⟩, hI⟩
          · show F_X11_roll n (nI s) p2 σ = _
            unfold F_X11_roll
            rw [sh11, bd_some, one0, if_pos (shI hs), hc, rollX h1 hs hR q2 n (by omega), if_neg c8, bd_some, if_neg (by decide)]
          · show F_X12_roll n (nI s) p2 τ = _
            unfold F_X12_roll
            rw [sh12, bd_some, one0, if_pos (shI hs), in01, bd_some, one0, if_pos c2, q4, bd_some, if_pos (by decide), rollR h1 hs hR n (by omega), bd_some, if_neg (by rw [i_le, i_n (by omega), t8]; omega)]
    · refine ⟨-1, σ, τ, Ev.const (fun n => ?_), Ev.const (fun n => ?_), hI⟩
      · unfold F_X11_roll
        rw [sh11, bd_some, one0, if_pos (shI hs), out01 c2]
      · unfold F_X12_roll
        rw [sh12, bd_some, one0, if_pos (shI hs), in01, bd_some, one0, if_neg c2]
  · refine ⟨-1, σ, τ, Ev.const (fun n => ?_), Ev.const (fun n => ?_), hI⟩
    · unfold F_X11_roll
      rw [sh11, bd_some, one0, if_neg c1]
    · unfold F_X12_roll
      rw [sh12, bd_some, one0, if_neg c1])
theorem b_sold (p1 : Int32) : MStp Inv (fun n σ => F_X11_sold n p1 σ) (fun n τ => F_X12_sold n p1 τ) := mstp_of (fun σ τ hI => by
  obtain ⟨N, B, h1, h2, h3, h4, h5, h6, h7, h8, h9⟩ := id hI
  rcases per (N := 6) p1 with ⟨s, hs, rfl⟩ | c1
  · have es : (nI s).toNatClampNeg = s := nIc (by omega)
    rcases rowC hs h7.1 h8 with ⟨q, q1, q2, q3, q4⟩ | ⟨⟨m, r, hR⟩, q2, q3, q4⟩
    · refine ⟨q, σ, τ, Ev.const (fun n => ?_), Ev.const (fun n => ?_), hI⟩
      · unfold F_X11_sold F_X11_refusalOfRoll
        rw [sh11, bd_some, one0, if_pos (shI hs), gd_eq (v6 hs), es, q2, bd_some, if_neg q1, bd_some, if_neg q1]
      · unfold F_X12_sold
        rw [sh12, bd_some, one0, if_pos (shI hs), q4, bd_some, if_neg q1, q4, bd_some]
    · have hu := uk_le N m r 16 0 0
      by_cases c8 : uk N m r 16 0 0 ≤ 8
      · obtain ⟨G, hG⟩ := crt h1 h9
        obtain ⟨C, σ2, τ2, y1, y2, y3, y4, M', w', y5, y6⟩ := weighXR h1 h3 hG hs hR c8
        rcases y5.2.2 with ⟨e1, e2, e3⟩ | ⟨q, b, e1, e2, e3, e4, e5⟩
        · refine ⟨-2, σ2, τ2, ⟨C + 20, fun n hn => ?_⟩, ⟨C + 20, fun n hn => ?_⟩, hI.eq y3 y4⟩
          · show F_X11_sold n (nI s) σ = _
            unfold F_X11_sold F_X2_firstSold
            rw [sh11, bd_some, one0, if_pos (shI hs), rollX h1 hs hR q2 n (by omega), if_pos c8, bd_some, if_pos (by decide), gd_eq (v6 hs), es, y1 n (by omega), bd_some, gd_eq (v6 hs), if_pos (y5.2.1.trans e3), bd_some]
          · show F_X12_sold n (nI s) τ = _
            unfold F_X12_sold
            rw [sh12, bd_some, one0, if_pos (shI hs), q4, bd_some, if_pos (by decide), rollR h1 hs hR n (by omega), bd_some, if_pos (by rw [i_le, i_n (by omega), t8]; omega), y2 n (by omega), bd_some, if_pos e2]
        · obtain ⟨C', P', w, σ3, τ3, z1, z2, z3, z4, z5, z6, z7, _⟩ := walkXR h1 h3 hG hs hR y3 y4 (nI b) (Or.inr (by rw [i_n (by omega)]; omega))
          refine ⟨gI τ3 0 42, σ3, τ3, ⟨C + C' + 20, fun n hn => ?_⟩, ⟨C + C' + 20, fun n hn => ?_⟩, hI.eq (y3.trans z3) (y4.trans z4)⟩
          · show F_X11_sold n (nI s) σ = _
            unfold F_X11_sold F_X2_firstSold
            rw [sh11, bd_some, one0, if_pos (shI hs), rollX h1 hs hR q2 n (by omega), if_pos c8, bd_some, if_pos (by decide), gd_eq (v6 hs), es, y1 n (by omega), bd_some, gd_eq (v6 hs), y5.2.1, e5, if_neg (by rw [i_eq, i_n (by omega), tm2]; omega), z1 n (by omega), bd_some, bd_some, z7]
          · show F_X12_sold n (nI s) τ = _
            unfold F_X12_sold
            rw [sh12, bd_some, one0, if_pos (shI hs), q4, bd_some, if_pos (by decide), rollR h1 hs hR n (by omega), bd_some, if_pos (by rw [i_le, i_n (by omega), t8]; omega), y2 n (by omega), bd_some, e4, if_neg (by rw [i_eq, i_n (by omega), t0]; omega), e5, z2 n (by omega), bd_some]
      · refine ⟨-5, σ, τ, ⟨20, fun n hn => ?_⟩, ⟨20, fun n hn => ?_⟩, hI⟩
        · show F_X11_sold n (nI s) σ = _
          unfold F_X11_sold
          rw [sh11, bd_some, one0, if_pos (shI hs), rollX h1 hs hR q2 n (by omega), if_neg c8, bd_some, if_neg (by decide)]
        · show F_X12_sold n (nI s) τ = _
          unfold F_X12_sold
          rw [sh12, bd_some, one0, if_pos (shI hs), q4, bd_some, if_pos (by decide), rollR h1 hs hR n (by omega), bd_some, if_neg (by rw [i_le, i_n (by omega), t8]; omega)]
  · refine ⟨-1, σ, τ, Ev.const (fun n => ?_), Ev.const (fun n => ?_), hI⟩
    · unfold F_X11_sold
      rw [sh11, bd_some, one0, if_neg c1]
    · unfold F_X12_sold
      rw [sh12, bd_some, one0, if_neg c1])
