/-! tillBound, round -/
section TILL
variable {N : Nat} {σ0 τ0 : St} {G : Nat → Nat → Int32 → Int32 → Nat → Int32 → Nat}
theorem fnNow (h4 : N ≤ 4) {σ τ : St} (h3 : Pb N σ τ) : Fn N (gI σ 38) := ⟨h4, fun i hi => (h3.2.1 i hi).2, fun i i1 i2 => h3.2.2 i i1 i2⟩
theorem begXL (b : Nat) : ∀ (j i : Nat) (σ : St), i + j = 625 → ∃ σ', (∀ n, L_X9_begin b (n + j + 1) 1 (nI i) σ = bd (F_X9_reach n b (0 : Int32) σ') fun _ s1 => some ((), s1)) ∧ (∀ q, i ≤ q → q < 625 → gI σ' 15 q = 0) ∧ (∀ q, q < i → gI σ' 15 q = gI σ 15 q) ∧ (∀ c k, c ≠ 15 → gI σ' c k = gI σ c k) ∧ ∀ c k, gL σ' c k = gL σ c k := by
  intro j
  induction j with
  | zero =>
    intro i σ hi
    obtain rfl : i = 625 := by omega
    refine ⟨σ, fun n => ?_, fun q a b => by omega, fun _ _ => rfl, fun _ _ _ => rfl, fun _ _ => rfl⟩
    show B_X9_begin_1 (L_X9_begin b n) n b (nI 625) σ = _
    unfold B_X9_begin_1
    rw [if_pos (by decide)]
  | succ j ih =>
    intro i σ hi
    obtain ⟨σ', e1, e2, e3, e4, e5⟩ := ih (i + 1) (sI σ 15 i 0) (by omega)
    refine ⟨σ', fun n => ?_, fun q a b => ?_, fun q hq => ?_, fun c k hc => by rw [e4 c k hc, gI_sI, if_neg hc], fun c k => e5 c k⟩
    · show B_X9_begin_1 (L_X9_begin b (n + j + 1)) (n + j + 1) b (nI i) σ = _
      unfold B_X9_begin_1
      rw [if_neg (by rw [i_le, i_n (by omega), t625]; omega), gd_eq (nIin (by omega) (by decide)), nIc (by omega), bnd_eq, n_a1, bnd_eq]
      exact e1 n
    · by_cases c : q = i
      · subst c
        rw [e3 q (by omega), gI_sI, if_pos rfl, if_pos rfl]
      · exact e2 q (by omega) b
    · rw [e3 q (by omega), gI_sI, if_pos rfl, if_neg (by omega)]
theorem begRL : ∀ (j i : Nat) (τ : St), i + j = 625 → ∃ τ', (∀ n, L_X12_beginAll (n + j + 1) 1 (nI i) τ = bd (F_X12_codeOf n τ') fun r3 s2 => gd (vp_in r3 625) (some (r3, sI s2 20 (r3).toNatClampNeg 1))) ∧ (∀ q, i ≤ q → q < 625 → gI τ' 20 q = 0) ∧ (∀ q, q < i → gI τ' 20 q = gI τ 20 q) ∧ (∀ c k, c ≠ 20 → gI τ' c k = gI τ c k) ∧ ∀ c k, gL τ' c k = gL τ c k := by
  intro j
  induction j with
  | zero =>
    intro i τ hi
    obtain rfl : i = 625 := by omega
    refine ⟨τ, fun n => ?_, fun q a b => by omega, fun _ _ => rfl, fun _ _ _ => rfl, fun _ _ => rfl⟩
    show B_X12_beginAll_1 (L_X12_beginAll n) n (nI 625) τ = _
    unfold B_X12_beginAll_1
    rw [if_pos (by decide)]
    simp only [vb1, bnd_eq]
  | succ j ih =>
    intro i τ hi
    obtain ⟨τ', e1, e2, e3, e4, e5⟩ := ih (i + 1) (sI τ 20 i 0) (by omega)
    refine ⟨τ', fun n => ?_, fun q a b => ?_, fun q hq => ?_, fun c k hc => by rw [e4 c k hc, gI_sI, if_neg hc], fun c k => e5 c k⟩
    · show B_X12_beginAll_1 (L_X12_beginAll (n + j + 1)) (n + j + 1) (nI i) τ = _
      unfold B_X12_beginAll_1
      rw [if_neg (by rw [i_le, i_n (by omega), t625]; omega), gd_eq (nIin (by omega) (by decide)), nIc (by omega), vb0, bnd_eq, n_a1, bnd_eq]
      exact e1 n
    · by_cases c : q = i
      · subst c
        rw [e3 q (by omega), gI_sI, if_pos rfl, if_pos rfl]
      · exact e2 q (by omega) b
    · rw [e3 q (by omega), gI_sI, if_pos rfl, if_neg (by omega)]
theorem beginXR (h1 : Pp N σ0 τ0) (h3 : Pb N σ0 τ0) (h4 : N ≤ 4) : ∃ (C0 : Nat) (σ' τ' : St), (∀ n, C0 ≤ n → F_X9_begin n 37 σ0 = some ((), σ')) ∧ (∀ n, C0 ≤ n → F_X12_beginAll n τ0 = some (nI (cdn (gI σ0 38) N 0), τ')) ∧ Pj N σ0 τ0 0 σ' τ' ∧ ∀ v, v < 625 → gI τ' 20 v = if v = cdn (gI σ0 38) N 0 then 1 else 0 := by
  have hf := fnNow h4 h3
  obtain ⟨σ1, a1, a2, a3, a4, a5⟩ := begXL 37 625 0 σ0 rfl
  have x1 : EqX σ0 σ1 := ⟨fun y hy k => ⟨a4 y k (nin hy (by decide)), a5 y k⟩, fun k _ => a4 31 k (by decide)⟩
  have hX : Xp (fun _ => 0) σ1 := fun v hv => ⟨(a2 v (by omega) hv).trans rfl, by show 0 < 1024; decide⟩
  have hrc := fun n hn => reachX hf (b := 37) (t := 0) hX (fun i hi => a4 38 i (by decide)) (by decide) n hn
  obtain ⟨τ1, b1, b2, b3, b4⟩ := beg13 h1 h3
  obtain ⟨τ2, c1, c2, c3, c4, c5⟩ := begRL 625 0 τ1 rfl
  have r2 : EqR τ1 τ2 := ⟨fun y hy k => ⟨c4 y k (nin hy (by decide)), c5 y k⟩, fun k hk => c4 0 k (by decide)⟩
  have tN : gI τ2 0 1 = nI N := ((b2.trans r2).2 1 (by decide)).trans h1.2.2.1
  have h17 : ∀ i, i < N → gI τ2 17 i = gI σ0 38 i := fun i hi => (c4 17 i (by decide)).trans (b3.2.1 i hi).1.symm
  have lt := hf.lt
  refine ⟨1000, sI σ1 15 (cdn (gI σ0 38) N 0) (nI (0 ||| 2 ^ 0)), sI τ2 20 (cdn (gI σ0 38) N 0) 1, fun n hn => ?_, fun n hn => ?_, ⟨x1.trans (EqX.ofI (by decide) (by decide)), (b2.trans r2).trans (EqR.ofI (by decide) (by decide)), fun v => if v = cdn (gI σ0 38) N 0 then 1 else 0, fun v hv => ?_⟩, fun v hv => ?_⟩
  · obtain ⟨n, rfl⟩ : ∃ q, n = q + 625 + 1 := ⟨n - 626, by omega⟩
    refine (a1 n).trans ?_
    refine Eq.trans (congrArg (fun z => bd z _) (hrc n (by omega))) ?_
    rw [bd_some]
  · unfold F_X12_beginAll
    rw [b1 n (by omega), bd_some]
    obtain ⟨n, rfl⟩ : ∃ q, n = q + 625 + 1 := ⟨n - 626, by omega⟩
    refine (c1 n).trans ?_
    rw [codR hf τ2 tN h17 n (by omega), bd_some, gd_eq (nIin lt (by decide)), nIc (by omega)]
  · by_cases e : v = cdn (gI σ0 38) N 0
    · simp only [if_pos e]
      refine ⟨?_, by decide, ?_, fun _ => ⟨_, hf, e⟩⟩
      · rw [gI_sI, if_pos rfl, if_pos e]
        rfl
      · rw [gI_sI, if_pos rfl, if_pos e]
        rfl
    · simp only [if_neg e]
      refine ⟨?_, by decide, ?_, fun h => absurd h (by decide)⟩
      · rw [gI_sI, if_pos rfl, if_neg e, a2 v (by omega) hv]
        rfl
      · rw [gI_sI, if_pos rfl, if_neg e, c2 v (by omega) hv]
        rfl
  · rw [gI_sI, if_pos rfl]
    by_cases e : v = cdn (gI σ0 38) N 0
    · rw [if_pos e, if_pos e]
    · rw [if_neg e, if_neg e, c2 v (by omega) hv]
theorem cdn_inj {τ : St} (hN : gI τ 0 1 = nI N) {f g : Nat → Int32} (hf : Fn N f) (hg : Fn N g) (e : cdn f N 0 = cdn g N 0) : ∀ i, i < N → f i = g i := fun i hi => by
  obtain ⟨τ3, g1, g2, _⟩ := layR hg τ hN
  obtain ⟨τ4, g3, g4, _⟩ := layR hf τ hN
  have z1 := g1 8 (Nat.le_refl _)
  have z2 := g3 8 (Nat.le_refl _)
  rw [← e, z2] at z1
  have z3 : τ4 = τ3 := (Prod.mk.inj (Option.some.inj z1)).2
  have z4 := g2 i hi
  rw [← z3, g4 i hi] at z4
  exact z4
theorem Pj.R {s : Nat} {σ τ τ' : St} (h : Pj N σ0 τ0 s σ τ) (h2 : ∀ c k, c ≠ 17 → gI τ' c k = gI τ c k) (h3 : ∀ c k, gL τ' c k = gL τ c k) : Pj N σ0 τ0 s σ τ' := by
  obtain ⟨hx, hr, M, hM⟩ := h
  have r1 : EqR τ τ' := ⟨fun y hy k => ⟨h2 y k (nin hy (by decide)), h3 y k⟩, fun k hk => h2 0 k (by decide)⟩
  exact ⟨hx, hr.trans r1, M, fun v hv => by rw [h2 20 v (by decide)]; exact hM v hv⟩
theorem Pj.X {s : Nat} {σ τ σ' : St} (h : Pj N σ0 τ0 s σ τ) (h2 : ∀ c k, c ≠ 43 → c ≠ 44 → gI σ' c k = gI σ c k) (h3 : ∀ c k, gL σ' c k = gL σ c k) : Pj N σ0 τ0 s σ' τ := by
  obtain ⟨hx, hr, M, hM⟩ := h
  have x1 : EqX σ σ' := ⟨fun y hy k => ⟨h2 y k (nin hy (by decide)) (nin hy (by decide)), h3 y k⟩, fun k _ => h2 31 k (by decide) (by decide)⟩
  exact ⟨hx.trans x1, hr, M, fun v hv => by rw [h2 15 v (by decide) (by decide)]; exact hM v hv⟩
/-- whether one is bound somewhere, in both -/
theorem bsXR (h1 : Pp N σ0 τ0) {s a b : Nat} (hs : s ≤ 9) (ha : a < N) (hb : b < N) (h7 : N ≤ 4) : ∀ (j v : Nat) (σ τ : St), v + j = 625 → Pj N σ0 τ0 s σ τ → ∃ (C0 : Nat) (r : Int32) (σ' τ' : St), (r = 0 ∨ r = 1) ∧ (∀ n, C0 ≤ n → L_X9_isBoundSomewhere n 1 (nI s) (nI a) (nI b) (nI v) σ = some (r, σ')) ∧ (∀ n, C0 ≤ n → L_X12_isReached n 1 (nI a) (nI b) (nI v) τ = some (r, τ')) ∧ Pj N σ0 τ0 s σ' τ' ∧ (∀ c k, c ≠ 17 → gI τ' c k = gI τ c k) ∧ (∀ c k, gL τ' c k = gL τ c k) ∧ (r = 1 ↔ ∃ f, Fn N f ∧ v ≤ cdn f N 0 ∧ gI τ 20 (cdn f N 0) = 1 ∧ f a = nI b) := by
  intro j
  induction j with
  | zero =>
    intro v σ τ hv hP
    obtain rfl : v = 625 := by omega
    refine ⟨1, 0, σ, τ, Or.inl rfl, fun n hn => ?_, fun n hn => ?_, hP, fun _ _ _ => rfl, fun _ _ => rfl, ⟨fun h => absurd h (by decide), fun ⟨f, hf, h, _⟩ => by have := hf.lt; omega⟩⟩
    · obtain ⟨n, rfl⟩ : ∃ q, n = q + 1 := ⟨n - 1, by omega⟩
      show B_X9_isBoundSomewhere_1 (L_X9_isBoundSomewhere n) n (nI s) (nI a) (nI b) (nI 625) σ = _
      unfold B_X9_isBoundSomewhere_1
      rw [if_pos (by decide)]
    · obtain ⟨n, rfl⟩ : ∃ q, n = q + 1 := ⟨n - 1, by omega⟩
      show B_X12_isReached_1 (L_X12_isReached n) n (nI a) (nI b) (nI 625) τ = _
      unfold B_X12_isReached_1
      rw [if_pos (by decide)]
  | succ j ih =>
    intro v σ τ hv hP
    have hv2 : v < 625 := by omega
    obtain ⟨hx, hr, M, hM⟩ := id hP
    obtain ⟨m1, m2, m3, m4⟩ := hM v hv2
    have p10 : 2 ^ (s + 1) ≤ 1024 := Nat.le_trans (Nat.pow_le_pow_right (by decide) (show s + 1 ≤ 10 by omega)) (by decide)
    have tN : gI τ 0 1 = nI N := (hr.2 1 (by decide)).trans h1.2.2.1
    have nX : ¬ (625 : Int32) ≤ nI v := by rw [i_le, i_n (by omega), t625]; omega
    have EX : ∀ n, L_X9_isBoundSomewhere (n + 1) 1 (nI s) (nI a) (nI b) (nI v) σ = B_X9_isBoundSomewhere_1 (L_X9_isBoundSomewhere n) n (nI s) (nI a) (nI b) (nI v) σ := fun _ => rfl
    have ER : ∀ n, L_X12_isReached (n + 1) 1 (nI a) (nI b) (nI v) τ = B_X12_isReached_1 (L_X12_isReached n) n (nI a) (nI b) (nI v) τ := fun _ => rfl
    by_cases c : (M v).testBit s = true
    · obtain ⟨f, hf, rfl⟩ := m4 c
      obtain ⟨σ1, f1, f2, f3, f4, f5⟩ := frmX hf 43 0 σ
      obtain ⟨τ1, l1, l2, l3, l4⟩ := layR hf τ tN
      have hP1 := (hP.X f4 f5).R l3 l4
      have preX : ∀ n, 8 ≤ n → L_X9_isBoundSomewhere (n + 1) 1 (nI s) (nI a) (nI b) (nI (cdn f N 0)) σ = if f a = nI b then some (1, σ1) else L_X9_isBoundSomewhere n 1 (nI s) (nI a) (nI b) (nI (cdn f N 0 + 1)) σ1 := fun n hn => by
        rw [EX]
        unfold B_X9_isBoundSomewhere_1
        rw [if_neg nX, isRX hv2 m1 (by omega) (by omega), if_pos c, bd_some, if_neg (by decide), f1 n hn, bd_some, bound1 n 43 (by omega), bd_some, f3 a (by omega), bnd_eq, n_a1]
      have preR : ∀ n, 8 ≤ n → L_X12_isReached (n + 1) 1 (nI a) (nI b) (nI (cdn f N 0)) τ = if f a = nI b then some (1, τ1) else L_X12_isReached n 1 (nI a) (nI b) (nI (cdn f N 0 + 1)) τ1 := fun n hn => by
        rw [ER]
        unfold B_X12_isReached_1 F_X12_isBoundIn
        rw [if_neg nX, gd_eq (nIin hv2 (by decide)), nIc (by omega), m3, if_pos c, if_neg (by decide), l1 n hn, bd_some, gd_eq (nIin (by omega) (by decide)), nIc (by omega), l2 a ha]
        by_cases e : f a = nI b
        · rw [if_pos e, if_pos e, bd_some, if_neg (by decide)]
        · rw [if_neg e, if_neg e, bd_some, if_pos rfl, bnd_eq, n_a1]
      by_cases e : f a = nI b
      · refine ⟨20, 1, σ1, τ1, Or.inr rfl, fun n hn => ?_, fun n hn => ?_, hP1, l3, l4, ⟨fun _ => ⟨f, hf, Nat.le_refl _, by rw [m3, if_pos c], e⟩, fun _ => rfl⟩⟩
        · obtain ⟨n, rfl⟩ : ∃ q, n = q + 1 := ⟨n - 1, by omega⟩
          rw [preX n (by omega), if_pos e]
        · obtain ⟨n, rfl⟩ : ∃ q, n = q + 1 := ⟨n - 1, by omega⟩
          rw [preR n (by omega), if_pos e]
      · obtain ⟨C0, r, σ2, τ2, i0, i1, i2, i3, i5, i6, i4⟩ := ih (cdn f N 0 + 1) σ1 τ1 (by omega) hP1
        refine ⟨C0 + 20, r, σ2, τ2, i0, fun n hn => ?_, fun n hn => ?_, i3, fun c k h => (i5 c k h).trans (l3 c k h), fun c k => (i6 c k).trans (l4 c k), ?_⟩
        · obtain ⟨n, rfl⟩ : ∃ q, n = q + 1 := ⟨n - 1, by omega⟩
          rw [preX n (by omega), if_neg e]
          exact i1 n (by omega)
        · obtain ⟨n, rfl⟩ : ∃ q, n = q + 1 := ⟨n - 1, by omega⟩
          rw [preR n (by omega), if_neg e]
          exact i2 n (by omega)
        · rw [i4]
          constructor
          · rintro ⟨g, hg, q1, q2, q3⟩
            exact ⟨g, hg, by omega, by rw [← l3 20 _ (by decide)]; exact q2, q3⟩
          · rintro ⟨g, hg, q1, q2, q3⟩
            refine ⟨g, hg, ?_, by rw [l3 20 _ (by decide)]; exact q2, q3⟩
            by_cases eq : cdn f N 0 = cdn g N 0
            · exfalso
              exact e ((cdn_inj tN hf hg eq a ha).trans q3)
            · omega
    · have m30 : gI τ 20 v = 0 := by rw [m3, if_neg c]
      obtain ⟨C0, r, σ2, τ2, i0, i1, i2, i3, i5, i6, i4⟩ := ih (v + 1) σ τ (by omega) hP
      refine ⟨C0 + 20, r, σ2, τ2, i0, fun n hn => ?_, fun n hn => ?_, i3, i5, i6, ?_⟩
      · obtain ⟨n, rfl⟩ : ∃ q, n = q + 1 := ⟨n - 1, by omega⟩
        rw [EX]
        unfold B_X9_isBoundSomewhere_1
        rw [if_neg nX, isRX hv2 m1 (by omega) (by omega), if_neg c, bd_some, if_pos rfl, bnd_eq, n_a1]
        exact i1 n (by omega)
      · obtain ⟨n, rfl⟩ : ∃ q, n = q + 1 := ⟨n - 1, by omega⟩
        rw [ER]
        unfold B_X12_isReached_1
        rw [if_neg nX, gd_eq (nIin hv2 (by decide)), nIc (by omega), m30, if_pos rfl, bnd_eq, n_a1]
        exact i2 n (by omega)
      · rw [i4]
        constructor
        · rintro ⟨g, hg, q1, q2, q3⟩
          exact ⟨g, hg, by omega, q2, q3⟩
        · rintro ⟨g, hg, q1, q2, q3⟩
          refine ⟨g, hg, ?_, q2, q3⟩
          by_cases eq : v = cdn g N 0
          · rw [← eq, m30] at q2
            exact absurd q2 (by decide)
          · omega
theorem tillL (hG : Crt N σ0 τ0 G) (h1 : Pp N σ0 τ0) (h3 : Pb N σ0 τ0) (h4 : N ≤ 4) {p1 : Int32} {a b : Nat} (ha : a < N) (hb : b < N) (e1 : p1 / 10 = nI a) (e2 : p1 - p1 / 10 * 10 = nI b) : ∀ (j s : Nat) (σ τ : St), s + j = 8 → Pj N σ0 τ0 s σ τ → ∃ (C0 : Nat) (r : Int32) (σ' τ' : St), (∀ n, C0 ≤ n → L_X9_fewestTillBound 37 n 1 (nI a) (nI b) (nI (s + 1)) σ = some (r, σ')) ∧ (∀ n, C0 ≤ n → (bd (F_X12_goAll n (nI s) τ) fun _ s9 => L_X12_tillBound n 1 p1 (nI (s + 1)) s9) = some (r, τ')) ∧ EqX σ0 σ' ∧ EqR τ0 τ' := by
  intro j
  induction j with
  | zero =>
    intro s σ τ hs hP
    obtain rfl : s = 8 := by omega
    obtain ⟨C0, σ1, τ1, f1, f2, f3⟩ := spreadXR hG h1 h4 rfl (Nat.le_refl 8) hP
    refine ⟨C0 + 1, -2, σ, τ1, fun n hn => ?_, fun n hn => ?_, hP.1, f3.2.1⟩
    · obtain ⟨n, rfl⟩ : ∃ q, n = q + 1 := ⟨n - 1, by omega⟩
      show B_X9_fewestTillBound_1 (L_X9_fewestTillBound 37 n) n 37 (nI a) (nI b) (nI (8 + 1)) σ = _
      unfold B_X9_fewestTillBound_1
      rw [if_pos (by decide)]
    · rw [f2 n (by omega), bd_some]
      obtain ⟨n, rfl⟩ : ∃ q, n = q + 1 := ⟨n - 1, by omega⟩
      show B_X12_tillBound_1 (L_X12_tillBound n) n p1 (nI (8 + 1)) τ1 = _
      unfold B_X12_tillBound_1
      rw [if_pos (by decide)]
  | succ j ih =>
    intro s σ τ hs hP
    obtain ⟨C0, σ1, τ1, f1, f2, f3⟩ := spreadXR hG h1 h4 rfl (show s ≤ 8 by omega) hP
    obtain ⟨C1, r, σ2, τ2, g0, g1, g2, g3, g5, g6, g4⟩ := bsXR h1 (show s + 1 ≤ 9 by omega) ha hb h4 625 0 σ1 τ1 rfl f3
    have x37 : gI σ 37 1 = gI τ0 0 29 := (hP.1.g 37 (by decide) 1).trans h3.1
    have ea : (gI σ 37 1 + nI (s + 1)) - 1 = gI τ0 0 29 + nI s := by
      rw [x37, ← n_a1, ← Int32.add_assoc, Int32.add_sub_cancel]
    have preX : ∀ n, C0 + C1 ≤ n → L_X9_fewestTillBound 37 (n + 1) 1 (nI a) (nI b) (nI (s + 1)) σ = if r = 0 then L_X9_fewestTillBound 37 n 1 (nI a) (nI b) (nI (s + 1 + 1)) σ2 else some (nI (s + 1), σ2) := fun n hn => by
      show B_X9_fewestTillBound_1 (L_X9_fewestTillBound 37 n) n 37 (nI a) (nI b) (nI (s + 1)) σ = _
      unfold B_X9_fewestTillBound_1 F_X1_casesAhead
      rw [if_neg (by rw [i_lt, i_n (by omega), t8]; omega), bd_some, n_s1, ea, f1 n (by omega), bd_some]
      refine Eq.trans (congrArg (fun z => bd z _) (g1 n (by omega))) ?_
      rw [bd_some, bnd_eq, n_a1]
    have preR : ∀ n, C0 + C1 ≤ n → L_X12_tillBound (n + 1) 1 p1 (nI (s + 1)) τ1 = if r = 0 then (bd (F_X12_goAll n (nI (s + 1)) τ2) fun _ s9 => L_X12_tillBound n 1 p1 (nI (s + 1 + 1)) s9) else some (nI (s + 1), τ2) := fun n hn => by
      show B_X12_tillBound_1 (L_X12_tillBound n) n p1 (nI (s + 1)) τ1 = _
      unfold B_X12_tillBound_1
      rw [if_neg (by rw [i_lt, i_n (by omega), t8]; omega), gd_eq ten0, bnd_eq, gd_eq ten0, bnd_eq, e2, e1]
      refine Eq.trans (congrArg (fun z => bd z _) (g2 n (by omega))) ?_
      rw [bd_some]
      simp only [bnd_eq, n_a1]
    by_cases c : r = 0
    · obtain ⟨C2, r2, σ3, τ3, i1, i2, i3, i4⟩ := ih (s + 1) σ2 τ2 (by omega) g3
      refine ⟨C0 + C1 + C2 + 2, r2, σ3, τ3, fun n hn => ?_, fun n hn => ?_, i3, i4⟩
      · obtain ⟨n, rfl⟩ : ∃ q, n = q + 1 := ⟨n - 1, by omega⟩
        rw [preX n (by omega), if_pos c]
        exact i1 n (by omega)
      · rw [f2 n (by omega), bd_some]
        obtain ⟨n, rfl⟩ : ∃ q, n = q + 1 := ⟨n - 1, by omega⟩
        rw [preR n (by omega), if_pos c]
        exact i2 n (by omega)
    · refine ⟨C0 + C1 + 2, nI (s + 1), σ2, τ2, fun n hn => ?_, fun n hn => ?_, g3.1, g3.2.1⟩
      · obtain ⟨n, rfl⟩ : ∃ q, n = q + 1 := ⟨n - 1, by omega⟩
        rw [preX n (by omega), if_neg c]
      · rw [f2 n (by omega), bd_some]
        obtain ⟨n, rfl⟩ : ∃ q, n = q + 1 := ⟨n - 1, by omega⟩
        rw [preR n (by omega), if_neg c]
theorem roundL (hG : Crt N σ0 τ0 G) (h1 : Pp N σ0 τ0) (h3 : Pb N σ0 τ0) (h4 : N ≤ 4) : ∀ (j s : Nat) (σ τ : St), s + j = 8 → Pj N σ0 τ0 s σ τ → ∃ (C0 : Nat) (r : Int32) (σ' τ' : St), (∀ n, C0 ≤ n → L_X9_fewestRound 37 n 1 (nI (s + 1)) σ = some (r, σ')) ∧ (∀ n, C0 ≤ n → L_X12_round n 1 (nI (cdn (gI σ0 38) N 0)) (nI (s + 1)) τ = some (r, τ')) ∧ EqX σ0 σ' ∧ EqR τ0 τ' := by
  intro j
  induction j with
  | zero =>
    intro s σ τ hs hP
    obtain rfl : s = 8 := by omega
    refine ⟨1, -2, σ, τ, fun n hn => ?_, fun n hn => ?_, hP.1, hP.2.1⟩
    · obtain ⟨n, rfl⟩ : ∃ q, n = q + 1 := ⟨n - 1, by omega⟩
      show B_X9_fewestRound_1 (L_X9_fewestRound 37 n) n 37 (nI (8 + 1)) σ = _
      unfold B_X9_fewestRound_1
      rw [if_pos (by decide)]
    · obtain ⟨n, rfl⟩ : ∃ q, n = q + 1 := ⟨n - 1, by omega⟩
      show B_X12_round_1 (L_X12_round n) n (nI (cdn (gI σ0 38) N 0)) (nI (8 + 1)) τ = _
      unfold B_X12_round_1
      rw [if_pos (by decide)]
  | succ j ih =>
    intro s σ τ hs hP
    have hf := fnNow h4 h3
    have lt := hf.lt
    obtain ⟨C0, σ1, τ1, f1, f2, f3⟩ := spreadXR hG h1 h4 rfl (show s ≤ 8 by omega) hP
    obtain ⟨hx1, hr1, M, hM⟩ := id f3
    obtain ⟨m1, m2, m3, m4⟩ := hM _ lt
    have p10 : 2 ^ (s + 1 + 1) ≤ 1024 := Nat.le_trans (Nat.pow_le_pow_right (by decide) (show s + 1 + 1 ≤ 10 by omega)) (by decide)
    have x37 : gI σ 37 1 = gI τ0 0 29 := (hP.1.g 37 (by decide) 1).trans h3.1
    have ea : (gI σ 37 1 + nI (s + 1)) - 1 = gI τ0 0 29 + nI s := by
      rw [x37, ← n_a1, ← Int32.add_assoc, Int32.add_sub_cancel]
    have e38 : ∀ i, i < 7 → gI σ1 (37 + 1) i = gI σ0 38 i := fun i hi => hx1.g 38 (by decide) i
    have preX : ∀ n, C0 + 20 ≤ n → L_X9_fewestRound 37 (n + 1) 1 (nI (s + 1)) σ = if (M (cdn (gI σ0 38) N 0)).testBit (s + 1) = true then some (nI (s + 1), σ1) else L_X9_fewestRound 37 n 1 (nI (s + 1 + 1)) σ1 := fun n hn => by
      show B_X9_fewestRound_1 (L_X9_fewestRound 37 n) n 37 (nI (s + 1)) σ = _
      unfold B_X9_fewestRound_1 F_X1_casesAhead
      rw [if_neg (by rw [i_lt, i_n (by omega), t8]; omega), bd_some, n_s1, ea, f1 n (by omega), bd_some, codX hf 37 σ1 e38 n (by omega), bd_some, isRX lt m1 (by omega) (by omega), bd_some, one0, bnd_eq, n_a1]
    have preR : ∀ n, C0 + 20 ≤ n → L_X12_round (n + 1) 1 (nI (cdn (gI σ0 38) N 0)) (nI (s + 1)) τ = if (M (cdn (gI σ0 38) N 0)).testBit (s + 1) = true then some (nI (s + 1), τ1) else L_X12_round n 1 (nI (cdn (gI σ0 38) N 0)) (nI (s + 1 + 1)) τ1 := fun n hn => by
      show B_X12_round_1 (L_X12_round n) n _ (nI (s + 1)) τ = _
      unfold B_X12_round_1
      rw [if_neg (by rw [i_lt, i_n (by omega), t8]; omega), n_s1, f2 n (by omega), bd_some, gd_eq (nIin lt (by decide)), nIc (by omega), m3, one0, bnd_eq, n_a1]
    by_cases c : (M (cdn (gI σ0 38) N 0)).testBit (s + 1) = true
    · refine ⟨C0 + 22, nI (s + 1), σ1, τ1, fun n hn => ?_, fun n hn => ?_, f3.1, f3.2.1⟩
      · obtain ⟨n, rfl⟩ : ∃ q, n = q + 1 := ⟨n - 1, by omega⟩
        rw [preX n (by omega), if_pos c]
      · obtain ⟨n, rfl⟩ : ∃ q, n = q + 1 := ⟨n - 1, by omega⟩
        rw [preR n (by omega), if_pos c]
    · obtain ⟨C2, r2, σ3, τ3, i1, i2, i3, i4⟩ := ih (s + 1) σ1 τ1 (by omega) f3
      refine ⟨C0 + C2 + 22, r2, σ3, τ3, fun n hn => ?_, fun n hn => ?_, i3, i4⟩
      · obtain ⟨n, rfl⟩ : ∃ q, n = q + 1 := ⟨n - 1, by omega⟩
        rw [preX n (by omega), if_neg c]
        exact i1 n (by omega)
      · obtain ⟨n, rfl⟩ : ∃ q, n = q + 1 := ⟨n - 1, by omega⟩
        rw [preR n (by omega), if_neg c]
        exact i2 n (by omega)
end TILL
theorem b_round : MStp Inv (fun n σ => F_X11_round n σ) (fun n τ => F_X12_round n τ) := mstp_of (fun σ τ hI => by
  obtain ⟨N, B, h1, h2, h3, h4, h5, h6, h7, h8, h9⟩ := id hI
  obtain ⟨a1, a2, a3, a4⟩ := id h1
  by_cases c : N ≤ 4
  · obtain ⟨G, hG⟩ := crt h1 h9
    obtain ⟨C0, σ1, τ1, e1, e2, e3, e4⟩ := beginXR h1 h3 c
    obtain ⟨C1, r, σ2, τ2, i1, i2, i3, i4⟩ := roundL hG h1 h3 c 8 0 σ1 τ1 rfl e3
    refine ⟨r, σ2, τ2, ⟨C0 + C1, fun n hn => ?_⟩, ⟨C0 + C1, fun n hn => ?_⟩, hI.eq i3 i4⟩
    · show F_X11_round n σ = _
      unfold F_X11_round F_X6_size F_X9_fewestRound
      rw [bd_some, a2, if_pos (by rw [i_le, i_n (by omega), t4]; omega), e1 n (by omega), bd_some]
      refine Eq.trans (congrArg (fun z => bd z _) (i1 n (by omega))) ?_
      rw [bd_some]
    · show F_X12_round n τ = _
      unfold F_X12_round
      rw [a3, if_pos (by rw [i_le, i_n (by omega), t4]; omega), e2 n (by omega), bd_some]
      exact i2 n (by omega)
  · refine ⟨-5, σ, τ, Ev.const (fun n => ?_), Ev.const (fun n => ?_), hI⟩
    · unfold F_X11_round F_X6_size
      rw [bd_some, a2, if_neg (by rw [i_le, i_n (by omega), t4]; omega)]
    · unfold F_X12_round
      rw [a3, if_neg (by rw [i_le, i_n (by omega), t4]; omega)])
theorem b_tillBound (p1 : Int32) : MStp Inv (fun n σ => F_X11_tillBound n p1 σ) (fun n τ => F_X12_tillBound n p1 τ) := mstp_of (fun σ τ hI => by
  obtain ⟨N, B, h1, h2, h3, h4, h5, h6, h7, h8, h9⟩ := id hI
  obtain ⟨a1, a2, a3, a4⟩ := id h1
  rcases pairX a2 a1 p1 with ⟨⟨k, k1, rfl, k3, k4, k5⟩, pX⟩ | ⟨np, pX⟩
  · have pR : ∀ n, F_X12_areTwo n (nI k) τ = some (1, τ) := fun n => by rw [pairR a3 a1 n k1, if_pos ⟨k3, k4, k5⟩]
    by_cases c : N ≤ 4
    · obtain ⟨G, hG⟩ := crt h1 h9
      have hf := fnNow c h3
      have lt := hf.lt
      obtain ⟨C0, σ1, τ1, e1, e2, e3, e4⟩ := beginXR h1 h3 c
      obtain ⟨C1, r, σ2, τ2, g0, g1, g2, g3, g5, g6, g4⟩ := bsXR h1 (show 0 ≤ 9 by omega) k3 k4 c 625 0 σ1 τ1 rfl e3
      obtain ⟨C2, r2, σ3, τ3, i1, i2, i3, i4⟩ := tillL hG h1 h3 c k3 k4 (n_d10 k1) (n_r10 k1) 8 0 σ1 τ2 rfl (e3.R g5 g6)
      have tN1 : gI τ1 0 1 = nI N := (e3.2.1.2 1 (by decide)).trans a3
      have hr1 : r = 1 ↔ gI σ 38 (k / 10) = nI (k % 10) := by
        rw [g4]
        constructor
        · rintro ⟨f, hff, _, q2, q3⟩
          rw [e4 _ hff.lt] at q2
          by_cases e : cdn f N 0 = cdn (gI σ 38) N 0
          · rw [← q3]
            exact (cdn_inj tN1 hff hf e _ k3).symm
          · rw [if_neg e] at q2
            exact absurd q2 (by decide)
        · intro h
          exact ⟨gI σ 38, hf, Nat.zero_le _, by rw [e4 _ lt, if_pos rfl], h⟩
      have preX : ∀ n, F_X11_tillBound n (nI k) σ = F_X9_fewestTillBound n 37 (nI (k / 10)) (nI (k % 10)) σ := fun n => by
        unfold F_X11_tillBound F_X6_size
        rw [pX, bd_some, if_neg (by decide), bd_some, a2, if_pos (by rw [i_le, i_n (by omega), t4]; omega), gd_eq ten0, bnd_eq, gd_eq ten0, bnd_eq, n_r10 k1, n_d10 k1, bd_id]
      have preR : ∀ n, C0 + C1 + 2 ≤ n → F_X12_tillBound n (nI k) τ = if r = 0 then (bd (F_X12_goAll (n - 1) (nI 0) τ2) fun _ s9 => L_X12_tillBound (n - 1) 1 (nI k) (nI 1) s9) else some (0, τ2) := fun n hn => by
        obtain ⟨n, rfl⟩ : ∃ q, n = q + 1 := ⟨n - 1, by omega⟩
        unfold F_X12_tillBound
        rw [pR, bd_some, if_neg (by decide), a3, if_pos (by rw [i_le, i_n (by omega), t4]; omega), e2 (n + 1) (by omega), bd_some]
        show B_X12_tillBound_1 (L_X12_tillBound n) n (nI k) 0 τ1 = _
        unfold B_X12_tillBound_1
        rw [if_neg (by decide), gd_eq ten0, bnd_eq, gd_eq ten0, bnd_eq, n_r10 k1, n_d10 k1]
        refine Eq.trans (congrArg (fun z => bd z _) (g2 n (by omega))) ?_
        rw [bd_some]
        simp only [bnd_eq]
        rfl
      by_cases ce : gI σ 38 (k / 10) = nI (k % 10)
      · refine ⟨0, σ, τ2, Ev.const (fun n => ?_), ⟨C0 + C1 + 2, fun n hn => ?_⟩, hI.eq (EqX.rf σ) (e3.R g5 g6).2.1⟩
        · rw [preX]
          unfold F_X9_fewestTillBound
          rw [bound1 n 37 (by omega), bd_some, if_pos ce]
        · show F_X12_tillBound n (nI k) τ = _
          rw [preR n hn, hr1.mpr ce, if_neg (by decide)]
      · have r0 : r = 0 := g0.resolve_right (fun h => ce (hr1.mp h))
        refine ⟨r2, σ3, τ3, ⟨C0 + C2, fun n hn => ?_⟩, ⟨C0 + C1 + C2 + 2, fun n hn => ?_⟩, hI.eq i3 i4⟩
        · show F_X11_tillBound n (nI k) σ = _
          rw [preX]
          unfold F_X9_fewestTillBound
          rw [bound1 n 37 (by omega), bd_some, if_neg ce, e1 n (by omega), bd_some]
          exact i1 n (by omega)
        · show F_X12_tillBound n (nI k) τ = _
          rw [preR n (by omega), if_pos r0]
          exact i2 (n - 1) (by omega)
    · refine ⟨-5, σ, τ, Ev.const (fun n => ?_), Ev.const (fun n => ?_), hI⟩
      · unfold F_X11_tillBound F_X6_size
        rw [pX, bd_some, if_neg (by decide), bd_some, a2, if_neg (by rw [i_le, i_n (by omega), t4]; omega)]
      · unfold F_X12_tillBound
        rw [pR, bd_some, if_neg (by decide), a3, if_neg (by rw [i_le, i_n (by omega), t4]; omega)]
  · refine ⟨-1, σ, τ, Ev.const (fun n => ?_), Ev.const (fun n => ?_), hI⟩
    · unfold F_X11_tillBound
      rw [pX, bd_some, if_pos rfl]
    · unfold F_X12_tillBound
      rw [pairR0 a3 a1 np, bd_some, if_pos rfl])
