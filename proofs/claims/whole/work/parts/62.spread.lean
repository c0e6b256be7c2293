/-! the search: all charges, in both -/
def Gd (N v : Nat) : Prop := ∃ f, Fn N f ∧ v = cdn f N 0
def Jm (N s : Nat) (σ τ : St) : Prop := ∃ M : Nat → Nat, ∀ v, v < 625 → gI σ 15 v = nI (M v) ∧ M v < 2 ^ (s + 2) ∧ (gI τ 20 v = if (M v).testBit s = true then 1 else 0) ∧ (gI τ 21 v = if (M v).testBit (s + 1) = true then 1 else 0) ∧ ((M v).testBit s = true ∨ (M v).testBit (s + 1) = true → Gd N v)
section SPREAD
variable {N : Nat} {σ0 τ0 : St} {G : Nat → Nat → Int32 → Int32 → Nat → Int32 → Nat} {ah : Int32} {s : Nat}
def Jj (N : Nat) (σ0 τ0 : St) (G : Nat → Nat → Int32 → Int32 → Nat → Int32 → Nat) (ah : Int32) (s : Nat) (σ τ : St) : Prop := EqX σ0 σ ∧ EqR τ0 τ ∧ Ch G (gI τ0 2) ah σ ∧ Jm N s σ τ
theorem stepXR (hG : Crt N σ0 τ0 G) (h1 : Pp N σ0 τ0) (hah : ah = gI τ0 0 29 + nI s) (hs : s ≤ 8) {f : Nat → Int32} (hf : Fn N f) {a c : Nat} (ha : a < N) (hc : c < N) {σ τ : St} (hJ : Jj N σ0 τ0 G ah s σ τ) (hB : Bn f ah 43 σ) : ∃ (C0 k : Nat) (σ' τ' : St), (∀ n, C0 ≤ n → L_X9_spreadFrom (n + k) 2 (nI s) (nI N) (nI a) (nI c) 0 σ = L_X9_spreadFrom n 2 (nI s) (nI N) (nI a) (nI (c + 1)) 0 σ') ∧ (∀ n, C0 ≤ n → F_X12_goOn n (nI (cdn f N 0)) (nI a) (nI c) (nI s) τ = some ((), τ')) ∧ Jj N σ0 τ0 G ah s σ' τ' ∧ Bn f ah 43 σ' := by
  have h4 := hf.1
  obtain ⟨hx, hr, hC, M, hM⟩ := hJ
  obtain ⟨CR, τ', r1, r2, r3, r4⟩ := goR hG h1 hf hr hah ha hc
  have EX : ∀ n, L_X9_spreadFrom (n + 1) 2 (nI s) (nI N) (nI a) (nI c) 0 σ = B_X9_spreadFrom_2 (L_X9_spreadFrom n) n (nI s) (nI N) (nI a) (nI c) σ := fun _ => rfl
  have nN : ¬ nI N ≤ nI c := by rw [i_le, i_n (by omega), i_n (by omega)]; omega
  rcases r4 with ⟨q1, q2⟩ | ⟨q1, q2⟩
  · refine ⟨CR, 1, σ, τ', fun n hn => ?_, r1, ⟨hx, hr.trans r2, hC, M, fun v hv => ?_⟩, hB⟩
    · rw [EX]
      unfold B_X9_spreadFrom_2
      rw [if_neg nN]
      by_cases ce : a = c
      · rw [if_pos (by rw [ce]), bnd_eq, n_a1]
      · rw [if_neg (by rw [nI_inj (by omega) (by omega)]; exact ce), free1 n 43 (by omega), hB.2 a (by omega), if_neg (fun h => q1 ⟨ce, h⟩), bd_some, if_pos rfl, bnd_eq, n_a1]
    · rw [r3, q2]
      exact hM v hv
  · obtain ⟨CX, σ1, x1, x2, x3, x4, x5⟩ := tgX hG h1 hf hx hB hC ha hc
    have x12 : wv N G (gI τ0 2) f ah a c ≤ 12 := wv_le hG _ _ _ _ _
    generalize wv N G (gI τ0 2) f ah a c = x at q2 x1 x12
    have p10 := pw10 s hs
    have hX0 : Xp M σ1 := fun v hv => ⟨(x4 v).trans (hM v hv).1, by have := (hM v hv).2.1; omega⟩
    -- won
    obtain ⟨σ2, M2, y1, y2, y3, y4, y5, y6⟩ : ∃ (σ2 : St) (M2 : Nat → Nat), (∀ n, 20 ≤ n → (if nI x ≤ 0 then L_X9_spreadFrom n 3 (nI s) (nI N) (nI a) (nI c) (nI x) σ1 else (bd (F_X9_lead n (nI a) (nI c) (1 : Int32) (nI s) σ1) fun _ s10 => L_X9_spreadFrom n 3 (nI s) (nI N) (nI a) (nI c) (nI x) s10)) = L_X9_spreadFrom n 3 (nI s) (nI N) (nI a) (nI c) (nI x) σ2) ∧ EqX σ1 σ2 ∧ Bn f ah 43 σ2 ∧ (∀ k, gI σ2 16 k = gI σ1 16 k) ∧ Xp M2 σ2 ∧ ∀ v, M2 v = if 0 < x then adm M (cdn (stf N f a c true) N 0) (s + 1) v else M v := by
      by_cases c0 : 0 < x
      · obtain ⟨σ2, l1, l2, l3, l4, l5⟩ := leadX hf hX0 x3 ha hc true hs
        refine ⟨σ2, _, fun n hn => ?_, l2, l3, l4, l5, fun v => by rw [if_pos c0]⟩
        rw [if_neg (by rw [i_le, i_n (by omega), t0]; omega)]
        refine Eq.trans (congrArg (fun z => bd z _) (l1 n hn)) ?_
        rw [bd_some]
      · refine ⟨σ1, M, fun n hn => ?_, EqX.rf _, x3, fun _ => rfl, hX0, fun v => by rw [if_neg c0]⟩
        rw [if_pos (by rw [i_le, i_n (by omega), t0]; omega)]
    obtain ⟨σ3, M3, z1, z2, z3, z4, z5, z6⟩ : ∃ (σ3 : St) (M3 : Nat → Nat), (∀ n, 20 ≤ n → L_X9_spreadFrom (n + 1) 3 (nI s) (nI N) (nI a) (nI c) (nI x) σ2 = L_X9_spreadFrom n 2 (nI s) (nI N) (nI a) (nI (c + 1)) 0 σ3) ∧ EqX σ2 σ3 ∧ Bn f ah 43 σ3 ∧ (∀ k, gI σ3 16 k = gI σ2 16 k) ∧ Xp M3 σ3 ∧ ∀ v, M3 v = if x < 12 then adm M2 (cdn (stf N f a c false) N 0) (s + 1) v else M2 v := by
      have E3 : ∀ n, L_X9_spreadFrom (n + 1) 3 (nI s) (nI N) (nI a) (nI c) (nI x) σ2 = B_X9_spreadFrom_3 (L_X9_spreadFrom n) n (nI s) (nI N) (nI a) (nI c) (nI x) σ2 := fun _ => rfl
      by_cases c0 : x < 12
      · obtain ⟨σ3, l1, l2, l3, l4, l5⟩ := leadX hf y5 y3 ha hc false hs
        refine ⟨σ3, _, fun n hn => ?_, l2, l3, l4, l5, fun v => by rw [if_pos c0]⟩
        rw [E3]
        unfold B_X9_spreadFrom_3
        rw [if_neg (by rw [i_le, i_n (by omega), t12]; omega)]
        refine Eq.trans (congrArg (fun z => bd z _) (l1 n hn)) ?_
        rw [bd_some, bnd_eq, n_a1]
      · refine ⟨σ2, M2, fun n hn => ?_, EqX.rf _, y3, fun _ => rfl, y5, fun v => by rw [if_neg c0]⟩
        rw [E3]
        unfold B_X9_spreadFrom_3
        rw [if_pos (by rw [i_le, i_n (by omega), t12]; omega), bnd_eq, n_a1]
    refine ⟨CX + CR + 40, 2, σ3, τ', fun n hn => ?_, fun n hn => r1 n (by omega), ⟨((hx.trans x2).trans y2).trans z2, hr.trans r2, fun a' c' p' q' g1 g2 g3 g4 => ?_, M3, fun v hv => ?_⟩, z3⟩
    · rw [show n + 2 = (n + 1) + 1 by omega, EX]
      unfold B_X9_spreadFrom_2
      rw [if_neg nN, if_neg (by rw [nI_inj (by omega) (by omega)]; exact q1.1), free1 (n + 1) 43 (by omega), hB.2 a (by omega), if_pos q1.2, bd_some, if_neg (by decide), x1 (n + 1) (by omega), bd_some]
      exact (y1 (n + 1) (by omega)).trans (z1 n (by omega))
    · rw [z4, y4]
      exact x5 a' c' p' q' g1 g2 g3 g4
    · obtain ⟨m1, m2, m3, m4, m5⟩ := hM v hv
      have bs : ∀ u, ((M3 v).testBit u = true ↔ ((M v).testBit u = true ∨ (u = s + 1 ∧ ((v = cdn (stf N f a c true) N 0 ∧ 0 < x) ∨ (v = cdn (stf N f a c false) N 0 ∧ x < 12))))) := fun u => by
        have b2 : (M2 v).testBit u = true ↔ ((M v).testBit u = true ∨ (u = s + 1 ∧ v = cdn (stf N f a c true) N 0 ∧ 0 < x)) := by
          rw [y6]
          by_cases c0 : 0 < x
          · rw [if_pos c0, adm_bit]
            constructor
            · rintro (h | ⟨h, h'⟩)
              · exact Or.inl h
              · exact Or.inr ⟨h'.symm, h, c0⟩
            · rintro (h | ⟨h, h', _⟩)
              · exact Or.inl h
              · exact Or.inr ⟨h', h.symm⟩
          · rw [if_neg c0]
            constructor
            · exact Or.inl
            · rintro (h | ⟨_, _, h⟩)
              · exact h
              · exact absurd h c0
        rw [z6]
        by_cases c0 : x < 12
        · rw [if_pos c0, adm_bit, b2]
          constructor
          · rintro ((h | ⟨h, h'⟩) | ⟨h, h'⟩)
            · exact Or.inl h
            · exact Or.inr ⟨h, Or.inl h'⟩
            · exact Or.inr ⟨h'.symm, Or.inr ⟨h, c0⟩⟩
          · rintro (h | ⟨h, h' | h'⟩)
            · exact Or.inl (Or.inl h)
            · exact Or.inl (Or.inr ⟨h, h'⟩)
            · exact Or.inr ⟨h'.1, h.symm⟩
        · rw [if_neg c0, b2]
          constructor
          · rintro (h | ⟨h, h'⟩)
            · exact Or.inl h
            · exact Or.inr ⟨h, Or.inl h'⟩
          · rintro (h | ⟨h, h' | h'⟩)
            · exact Or.inl h
            · exact Or.inr ⟨h, h'⟩
            · exact absurd h'.2 c0
      have l2 : M2 v < 2 ^ (s + 2) := by
        rw [y6]
        split
        · exact adm_lt m2 (by omega)
        · exact m2
      refine ⟨(z5 v hv).1, ?_, ?_, ?_, fun h => ?_⟩
      · rw [z6]
        split
        · exact adm_lt l2 (by omega)
        · exact l2
      · rw [r3, m3]
        by_cases e : (M v).testBit s = true
        · rw [if_pos e, if_pos ((bs s).mpr (Or.inl e))]
        · rw [if_neg e, if_neg (fun h => e (((bs s).mp h).elim id (fun h => by omega)))]
      · rw [q2, m4]
        by_cases e : (v = cdn (stf N f a c true) N 0 ∧ 0 < x) ∨ (v = cdn (stf N f a c false) N 0 ∧ x < 12)
        · rw [if_pos e, if_pos ((bs (s + 1)).mpr (Or.inr ⟨rfl, e⟩))]
        · rw [if_neg e]
          by_cases e2 : (M v).testBit (s + 1) = true
          · rw [if_pos e2, if_pos ((bs (s + 1)).mpr (Or.inl e2))]
          · rw [if_neg e2, if_neg (fun h => ((bs (s + 1)).mp h).elim e2 (fun h => e h.2))]
      · have new : (M v).testBit s = true ∨ (M v).testBit (s + 1) = true ∨ (v = cdn (stf N f a c true) N 0 ∧ 0 < x) ∨ (v = cdn (stf N f a c false) N 0 ∧ x < 12) := by
          rcases h with h | h
          · exact Or.inl (((bs s).mp h).elim id (fun h => by omega))
          · rcases (bs (s + 1)).mp h with h | ⟨_, h⟩
            · exact Or.inr (Or.inl h)
            · exact Or.inr (Or.inr h)
        rcases new with h | h | h | h
        · exact m5 (Or.inl h)
        · exact m5 (Or.inr h)
        · exact ⟨_, hf.st ha hc true, h.1⟩
        · exact ⟨_, hf.st ha hc false, h.1⟩
theorem spB (hG : Crt N σ0 τ0 G) (h1 : Pp N σ0 τ0) (hah : ah = gI τ0 0 29 + nI s) (hs : s ≤ 8) {f : Nat → Int32} (hf : Fn N f) {a : Nat} (ha : a < N) : ∀ (j c : Nat) (σ τ : St), c + j = N → Jj N σ0 τ0 G ah s σ τ → Bn f ah 43 σ → ∃ (C0 kX kR : Nat) (σ' τ' : St), (∀ n, C0 ≤ n → L_X9_spreadFrom (n + kX) 2 (nI s) (nI N) (nI a) (nI c) 0 σ = L_X9_spreadFrom n 1 (nI s) (nI N) (nI (a + 1)) 0 0 σ') ∧ (∀ n, C0 ≤ n → L_X12_goAll (n + kR) 5 (nI s) (nI (cdn f N 0)) (nI a) (nI c) τ = L_X12_goAll n 4 (nI s) (nI (cdn f N 0)) (nI (a + 1)) 0 τ') ∧ Jj N σ0 τ0 G ah s σ' τ' ∧ Bn f ah 43 σ'
  | 0, c, σ, τ, hc, hJ, hB => by
    have h4 := hf.1
    have tN : gI τ 0 1 = nI N := (hJ.2.1.2 1 (by decide)).trans h1.2.2.1
    refine ⟨0, 1, 1, σ, τ, fun n hn => ?_, fun n hn => ?_, hJ, hB⟩
    · show B_X9_spreadFrom_2 (L_X9_spreadFrom n) n (nI s) (nI N) (nI a) (nI c) σ = _
      unfold B_X9_spreadFrom_2
      rw [if_pos (by rw [i_le, i_n (by omega), i_n (by omega)]; omega), bnd_eq, n_a1]
    · show B_X12_goAll_5 (L_X12_goAll n) n (nI s) (nI (cdn f N 0)) (nI a) (nI c) τ = _
      unfold B_X12_goAll_5
      rw [tN, if_pos (by rw [i_le, i_n (by omega), i_n (by omega)]; omega), bnd_eq, n_a1]
  | j + 1, c, σ, τ, hc, hJ, hB => by
    have h4 := hf.1
    have tN : gI τ 0 1 = nI N := (hJ.2.1.2 1 (by decide)).trans h1.2.2.1
    obtain ⟨C1, k, σ1, τ1, e1, e2, e3, e4⟩ := stepXR hG h1 hah hs hf ha (show c < N by omega) hJ hB
    obtain ⟨C2, kX, kR, σ2, τ2, i1, i2, i3, i4⟩ := spB hG h1 hah hs hf ha j (c + 1) σ1 τ1 (by omega) e3 e4
    refine ⟨C1 + C2, kX + k, kR + 1, σ2, τ2, fun n hn => ?_, fun n hn => ?_, i3, i4⟩
    · rw [← Nat.add_assoc, e1 (n + kX) (by omega)]
      exact i1 n (by omega)
    · show B_X12_goAll_5 (L_X12_goAll (n + kR)) (n + kR) (nI s) (nI (cdn f N 0)) (nI a) (nI c) τ = _
      unfold B_X12_goAll_5
      rw [tN, if_neg (by rw [i_le, i_n (by omega), i_n (by omega)]; omega), e2 (n + kR) (by omega), bd_some, bnd_eq, n_a1]
      exact i2 n (by omega)
theorem spA (hG : Crt N σ0 τ0 G) (h1 : Pp N σ0 τ0) (hah : ah = gI τ0 0 29 + nI s) (hs : s ≤ 8) {f : Nat → Int32} (hf : Fn N f) : ∀ (j a : Nat) (σ τ : St), a + j = N → Jj N σ0 τ0 G ah s σ τ → Bn f ah 43 σ → ∃ (C0 kR : Nat) (σ' τ' : St), (∀ n, C0 ≤ n → L_X9_spreadFrom n 1 (nI s) (nI N) (nI a) 0 0 σ = some ((), σ')) ∧ (∀ n, C0 ≤ n → L_X12_goAll (n + kR) 4 (nI s) (nI (cdn f N 0)) (nI a) 0 τ = L_X12_goAll n 2 (nI s) (nI (cdn f N 0 + 1)) 0 0 τ') ∧ Jj N σ0 τ0 G ah s σ' τ'
  | 0, a, σ, τ, ha, hJ, hB => by
    have h4 := hf.1
    have tN : gI τ 0 1 = nI N := (hJ.2.1.2 1 (by decide)).trans h1.2.2.1
    refine ⟨1, 1, σ, τ, fun n hn => ?_, fun n hn => ?_, hJ⟩
    · obtain ⟨n, rfl⟩ : ∃ q, n = q + 1 := ⟨n - 1, by omega⟩
      show B_X9_spreadFrom_1 (L_X9_spreadFrom n) n (nI s) (nI N) (nI a) σ = _
      unfold B_X9_spreadFrom_1
      rw [if_pos (by rw [i_le, i_n (by omega), i_n (by omega)]; omega)]
    · show B_X12_goAll_4 (L_X12_goAll n) n (nI s) (nI (cdn f N 0)) (nI a) τ = _
      unfold B_X12_goAll_4
      rw [tN, if_pos (by rw [i_le, i_n (by omega), i_n (by omega)]; omega), bnd_eq, n_a1]
  | j + 1, a, σ, τ, ha, hJ, hB => by
    have h4 := hf.1
    have tN : gI τ 0 1 = nI N := (hJ.2.1.2 1 (by decide)).trans h1.2.2.1
    obtain ⟨C1, kX, kR, σ1, τ1, e1, e2, e3, e4⟩ := spB hG h1 hah hs hf (show a < N by omega) N 0 σ τ (by omega) hJ hB
    obtain ⟨C2, kR2, σ2, τ2, i1, i2, i3⟩ := spA hG h1 hah hs hf j (a + 1) σ1 τ1 (by omega) e3 e4
    refine ⟨C1 + C2 + kX + 1, kR2 + kR + 1, σ2, τ2, fun n hn => ?_, fun n hn => ?_, i3⟩
    · obtain ⟨n, rfl⟩ : ∃ q, n = q + kX + 1 := ⟨n - kX - 1, by omega⟩
      show B_X9_spreadFrom_1 (L_X9_spreadFrom (n + kX)) (n + kX) (nI s) (nI N) (nI a) σ = _
      unfold B_X9_spreadFrom_1
      rw [if_neg (by rw [i_le, i_n (by omega), i_n (by omega)]; omega)]
      exact (e1 n (by omega)).trans (i1 n (by omega))
    · show B_X12_goAll_4 (L_X12_goAll (n + (kR2 + kR))) (n + (kR2 + kR)) (nI s) (nI (cdn f N 0)) (nI a) τ = _
      unfold B_X12_goAll_4
      rw [tN, if_neg (by rw [i_le, i_n (by omega), i_n (by omega)]; omega), ← Nat.add_assoc]
      exact (e2 (n + kR2) (by omega)).trans (i2 n (by omega))
theorem isRX {M : Nat → Nat} {σ : St} {v t : Nat} (hv : v < 625) (h : gI σ 15 v = nI (M v)) (hM : M v < 1024) (ht : t < 10) (n : Nat) : F_X9_isReached n (nI v) (nI t) σ = some (if (M v).testBit t = true then 1 else 0, σ) := by
  unfold F_X9_isReached
  rw [if_neg (by rw [i_lt, i_n (by omega), t0]; omega), if_neg (by rw [i_le, i_n (by omega), t625]; omega), gd_eq (nIin hv (by decide)), nIc (by omega), h]
  by_cases c : (M v).testBit t = true
  · rw [if_pos ((b9_tst _ hM t ht).mpr c), if_pos c]
  · rw [if_neg (fun e => c ((b9_tst _ hM t ht).mp e)), if_neg c]
theorem spV (hG : Crt N σ0 τ0 G) (h1 : Pp N σ0 τ0) (h4 : N ≤ 4) (hah : ah = gI τ0 0 29 + nI s) (hs : s ≤ 8) : ∀ (j v : Nat) (σ τ : St), v + j = 625 → Jj N σ0 τ0 G ah s σ τ → ∃ (C0 kR : Nat) (σ' τ' : St), (∀ n, C0 ≤ n → L_X9_spread n 2 (nI s) ah (nI v) σ = some ((), σ')) ∧ (∀ n, C0 ≤ n → L_X12_goAll (n + kR) 2 (nI s) (nI v) 0 0 τ = L_X12_goAll n 3 0 0 0 0 τ') ∧ Jj N σ0 τ0 G ah s σ' τ' := by
  intro j
  induction j with
  | zero =>
    intro v σ τ hv hJ
    obtain rfl : v = 625 := by omega
    refine ⟨1, 1, σ, τ, fun n hn => ?_, fun n hn => ?_, hJ⟩
    · obtain ⟨n, rfl⟩ : ∃ q, n = q + 1 := ⟨n - 1, by omega⟩
      show B_X9_spread_2 (L_X9_spread n) n (nI s) ah (nI 625) σ = _
      unfold B_X9_spread_2
      rw [if_pos (by decide)]
    · show B_X12_goAll_2 (L_X12_goAll n) n (nI s) (nI 625) τ = _
      unfold B_X12_goAll_2
      rw [if_pos (by decide)]
  | succ j ih =>
    intro v σ τ hv hJ
    have hv2 : v < 625 := by omega
    obtain ⟨hx, hr, hC, M, hM⟩ := id hJ
    obtain ⟨m1, m2, m3, m4, m5⟩ := hM v hv2
    have p10 := pw10 s hs
    have xN : gI σ 4 1 = nI N := (hx.g 4 (by decide) 1).trans h1.2.1
    have nX : ¬ (625 : Int32) ≤ nI v := by rw [i_le, i_n (by omega), t625]; omega
    have EX : ∀ n, L_X9_spread (n + 1) 2 (nI s) ah (nI v) σ = B_X9_spread_2 (L_X9_spread n) n (nI s) ah (nI v) σ := fun _ => rfl
    have ER : ∀ n, L_X12_goAll (n + 1) 2 (nI s) (nI v) 0 0 τ = B_X12_goAll_2 (L_X12_goAll n) n (nI s) (nI v) τ := fun _ => rfl
    by_cases c : (M v).testBit s = true
    · obtain ⟨f, hf, rfl⟩ := m5 (Or.inl c)
      obtain ⟨σ1, f1, f2, f3, f4, f5⟩ := frmX hf 43 ah σ
      have x1 : EqX σ σ1 := ⟨fun y hy k => ⟨f4 y k (nin hy (by decide)) (nin hy (by decide)), f5 y k⟩, fun k _ => f4 31 k (by decide) (by decide)⟩
      have hJ1 : Jj N σ0 τ0 G ah s σ1 τ := ⟨hx.trans x1, hr, fun a' c' p' q' g1 g2 g3 g4 => by rw [f4 16 _ (by decide) (by decide)]; exact hC a' c' p' q' g1 g2 g3 g4, M, fun v hv => by rw [f4 15 v (by decide) (by decide)]; exact hM v hv⟩
      obtain ⟨C1, kR, σ2, τ2, a1, a2, a3⟩ := spA hG h1 hah hs hf N 0 σ1 τ (by omega) hJ1 ⟨f2, f3⟩
      obtain ⟨C2, kR2, σ3, τ3, i1, i2, i3⟩ := ih (cdn f N 0 + 1) σ2 τ2 (by omega) a3
      have xN1 : gI σ1 4 1 = nI N := (f4 4 1 (by decide) (by decide)).trans xN
      refine ⟨C1 + C2 + 20, kR2 + kR + 1, σ3, τ3, fun n hn => ?_, fun n hn => ?_, i3⟩
      · obtain ⟨n, rfl⟩ : ∃ q, n = q + 1 := ⟨n - 1, by omega⟩
        rw [EX]
        unfold B_X9_spread_2 F_X9_spreadFrom F_X6_size
        rw [if_neg nX, isRX hv2 m1 (by omega) (by omega), if_pos c, bd_some, if_neg (by decide), f1 n (by omega), bd_some, bd_some, xN1]
        refine Eq.trans (congrArg (fun z => bd z _) (a1 n (by omega))) ?_
        rw [bd_some, bnd_eq, n_a1]
        exact i1 n (by omega)
      · rw [← Nat.add_assoc, ER]
        unfold B_X12_goAll_2
        rw [if_neg nX, gd_eq (nIin hv2 (by decide)), nIc (by omega), m3, if_pos c, if_neg (by decide), ← Nat.add_assoc]
        exact (a2 (n + kR2) (by omega)).trans (i2 n (by omega))
    · obtain ⟨C2, kR2, σ3, τ3, i1, i2, i3⟩ := ih (v + 1) σ τ (by omega) hJ
      refine ⟨C2 + 20, kR2 + 1, σ3, τ3, fun n hn => ?_, fun n hn => ?_, i3⟩
      · obtain ⟨n, rfl⟩ : ∃ q, n = q + 1 := ⟨n - 1, by omega⟩
        rw [EX]
        unfold B_X9_spread_2
        rw [if_neg nX, isRX hv2 m1 (by omega) (by omega), if_neg c, bd_some, if_pos rfl, bnd_eq, n_a1]
        exact i1 n (by omega)
      · rw [← Nat.add_assoc, ER]
        unfold B_X12_goAll_2
        rw [if_neg nX, gd_eq (nIin hv2 (by decide)), nIc (by omega), m3, if_neg c, if_pos rfl, bnd_eq, n_a1]
        exact i2 n (by omega)
theorem cl1X (ah : Int32) (s : Nat) : ∀ (j i : Nat) (σ : St), i + j = 320 → ∃ σ', (∀ n, L_X9_spread (n + j + 1) 1 (nI s) ah (nI i) σ = L_X9_spread n 2 (nI s) ah 0 σ') ∧ (∀ q, i ≤ q → q < 320 → gI σ' 16 q = -2) ∧ (∀ q, q < i → gI σ' 16 q = gI σ 16 q) ∧ (∀ c k, c ≠ 16 → gI σ' c k = gI σ c k) ∧ ∀ c k, gL σ' c k = gL σ c k := by
  intro j
  induction j with
  | zero =>
    intro i σ hi
    obtain rfl : i = 320 := by omega
    refine ⟨σ, fun n => ?_, fun q a b => by omega, fun _ _ => rfl, fun _ _ _ => rfl, fun _ _ => rfl⟩
    show B_X9_spread_1 (L_X9_spread n) n (nI s) ah (nI 320) σ = _
    unfold B_X9_spread_1
    rw [if_pos (by decide)]
  | succ j ih =>
    intro i σ hi
    obtain ⟨σ', e1, e2, e3, e4, e5⟩ := ih (i + 1) (sI σ 16 i (-2)) (by omega)
    refine ⟨σ', fun n => ?_, fun q a b => ?_, fun q hq => ?_, fun c k hc => by rw [e4 c k hc, gI_sI, if_neg hc], fun c k => e5 c k⟩
    · show B_X9_spread_1 (L_X9_spread (n + j + 1)) (n + j + 1) (nI s) ah (nI i) σ = _
      unfold B_X9_spread_1
      rw [if_neg (by rw [i_le, i_n (by omega), t320]; omega), gd_eq (nIin (by omega) (by decide)), nIc (by omega), bnd_eq, n_a1, bnd_eq]
      exact e1 n
    · by_cases c : q = i
      · subst c
        rw [e3 q (by omega), gI_sI, if_pos rfl, if_pos rfl]
      · exact e2 q (by omega) b
    · rw [e3 q (by omega), gI_sI, if_pos rfl, if_neg (by omega)]
theorem cl1R (s : Nat) : ∀ (j i : Nat) (τ : St), i + j = 625 → ∃ τ', (∀ n, L_X12_goAll (n + j + 1) 1 (nI s) (nI i) 0 0 τ = L_X12_goAll n 2 (nI s) 0 0 0 τ') ∧ (∀ q, i ≤ q → q < 625 → gI τ' 21 q = 0) ∧ (∀ q, q < i → gI τ' 21 q = gI τ 21 q) ∧ (∀ c k, c ≠ 21 → gI τ' c k = gI τ c k) ∧ ∀ c k, gL τ' c k = gL τ c k := by
  intro j
  induction j with
  | zero =>
    intro i τ hi
    obtain rfl : i = 625 := by omega
    refine ⟨τ, fun n => ?_, fun q a b => by omega, fun _ _ => rfl, fun _ _ _ => rfl, fun _ _ => rfl⟩
    show B_X12_goAll_1 (L_X12_goAll n) n (nI s) (nI 625) τ = _
    unfold B_X12_goAll_1
    rw [if_pos (by decide)]
  | succ j ih =>
    intro i τ hi
    obtain ⟨τ', e1, e2, e3, e4, e5⟩ := ih (i + 1) (sI τ 21 i 0) (by omega)
    refine ⟨τ', fun n => ?_, fun q a b => ?_, fun q hq => ?_, fun c k hc => by rw [e4 c k hc, gI_sI, if_neg hc], fun c k => e5 c k⟩
    · show B_X12_goAll_1 (L_X12_goAll (n + j + 1)) (n + j + 1) (nI s) (nI i) τ = _
      unfold B_X12_goAll_1
      rw [if_neg (by rw [i_le, i_n (by omega), t625]; omega), gd_eq (nIin (by omega) (by decide)), nIc (by omega), vb0, bnd_eq, n_a1, bnd_eq]
      exact e1 n
    · by_cases c : q = i
      · subst c
        rw [e3 q (by omega), gI_sI, if_pos rfl, if_pos rfl]
      · exact e2 q (by omega) b
    · rw [e3 q (by omega), gI_sI, if_pos rfl, if_neg (by omega)]
theorem vbI {P : Prop} [Decidable P] : vp_nar .boolean (if P then (1 : Int32) else 0) = if P then 1 else 0 := by
  split
  · exact vb1
  · exact vb0
theorem cp3R {W : Nat → Prop} [∀ v, Decidable (W v)] : ∀ (j i : Nat) (τ : St), i + j = 625 → (∀ v, v < 625 → gI τ 21 v = if W v then 1 else 0) → ∃ τ', (∀ n, j + 1 ≤ n → L_X12_goAll n 3 (nI i) 0 0 0 τ = some ((), τ')) ∧ (∀ q, i ≤ q → q < 625 → gI τ' 20 q = if W q then 1 else 0) ∧ (∀ q, q < i → gI τ' 20 q = gI τ 20 q) ∧ (∀ c k, c ≠ 20 → gI τ' c k = gI τ c k) ∧ ∀ c k, gL τ' c k = gL τ c k := by
  intro j
  induction j with
  | zero =>
    intro i τ hi hW
    obtain rfl : i = 625 := by omega
    refine ⟨τ, fun n hn => ?_, fun q a b => by omega, fun _ _ => rfl, fun _ _ _ => rfl, fun _ _ => rfl⟩
    obtain ⟨n, rfl⟩ : ∃ q, n = q + 1 := ⟨n - 1, by omega⟩
    show B_X12_goAll_3 (L_X12_goAll n) n (nI 625) τ = _
    unfold B_X12_goAll_3
    rw [if_pos (by decide)]
  | succ j ih =>
    intro i τ hi hW
    obtain ⟨τ', e1, e2, e3, e4, e5⟩ := ih (i + 1) (sI τ 20 i (if W i then 1 else 0)) (by omega) (fun v hv => hW v hv)
    refine ⟨τ', fun n hn => ?_, fun q a b => ?_, fun q hq => ?_, fun c k hc => by rw [e4 c k hc, gI_sI, if_neg hc], fun c k => e5 c k⟩
    · obtain ⟨n, rfl⟩ : ∃ q, n = q + 1 := ⟨n - 1, by omega⟩
      show B_X12_goAll_3 (L_X12_goAll n) n (nI i) τ = _
      unfold B_X12_goAll_3
      rw [if_neg (by rw [i_le, i_n (by omega), t625]; omega), gd_eq (nIin (by omega) (by decide)), gd_eq (nIin (by omega) (by decide)), nIc (by omega), hW i (by omega), vbI, bnd_eq, n_a1, bnd_eq]
      exact e1 n (by omega)
    · by_cases c : q = i
      · subst c
        rw [e3 q (by omega), gI_sI, if_pos rfl, if_pos rfl]
      · exact e2 q (by omega) b
    · rw [e3 q (by omega), gI_sI, if_pos rfl, if_neg (by omega)]
/-- between two steps -/
def Pj (N : Nat) (σ0 τ0 : St) (s : Nat) (σ τ : St) : Prop := EqX σ0 σ ∧ EqR τ0 τ ∧ ∃ M : Nat → Nat, ∀ v, v < 625 → gI σ 15 v = nI (M v) ∧ M v < 2 ^ (s + 1) ∧ (gI τ 20 v = if (M v).testBit s = true then 1 else 0) ∧ ((M v).testBit s = true → Gd N v)
theorem spreadXR (hG : Crt N σ0 τ0 G) (h1 : Pp N σ0 τ0) (h4 : N ≤ 4) (hah : ah = gI τ0 0 29 + nI s) (hs : s ≤ 8) {σ τ : St} (hP : Pj N σ0 τ0 s σ τ) : ∃ (C0 : Nat) (σ' τ' : St), (∀ n, C0 ≤ n → F_X9_spread n (nI s) ah σ = some ((), σ')) ∧ (∀ n, C0 ≤ n → F_X12_goAll n (nI s) τ = some ((), τ')) ∧ Pj N σ0 τ0 (s + 1) σ' τ' := by
  obtain ⟨hx, hr, M, hM⟩ := hP
  obtain ⟨σ1, a1, a2, a3, a4, a5⟩ := cl1X ah s 320 0 σ rfl
  obtain ⟨τ1, b1, b2, b3, b4, b5⟩ := cl1R s 625 0 τ rfl
  have x1 : EqX σ σ1 := ⟨fun y hy k => ⟨a4 y k (nin hy (by decide)), a5 y k⟩, fun k _ => a4 31 k (by decide)⟩
  have r1 : EqR τ τ1 := ⟨fun y hy k => ⟨b4 y k (nin hy (by decide)), b5 y k⟩, fun k hk => b4 0 k (by decide)⟩
  have hJ1 : Jj N σ0 τ0 G ah s σ1 τ1 := ⟨hx.trans x1, hr.trans r1, fun a' c' p' q' g1 g2 g3 g4 => Or.inl (a2 _ (by omega) (by unfold key; omega)), M, fun v hv => by
    obtain ⟨m1, m2, m3, m4⟩ := hM v hv
    have no : ¬ (M v).testBit (s + 1) = true := by
      rw [Nat.testBit_lt_two_pow m2]
      decide
    refine ⟨(a4 15 v (by decide)).trans m1, ?_, (b4 20 v (by decide)).trans m3, ?_, fun h => h.elim m4 (fun h => absurd h no)⟩
    · exact Nat.lt_trans m2 (Nat.pow_lt_pow_right (by decide) (by omega))
    · rw [b2 v (by omega) hv, if_neg no]⟩
  obtain ⟨C1, kR, σ2, τ2, c1, c2, c3⟩ := spV hG h1 h4 hah hs 625 0 σ1 τ1 rfl hJ1
  obtain ⟨hx2, hr2, hC2, M2, hM2⟩ := c3
  obtain ⟨τ3, d1, d2, d3, d4, d5⟩ := cp3R (W := fun v => (M2 v).testBit (s + 1) = true) 625 0 τ2 rfl (fun v hv => (hM2 v hv).2.2.2.1)
  have r3 : EqR τ2 τ3 := ⟨fun y hy k => ⟨d4 y k (nin hy (by decide)), d5 y k⟩, fun k hk => d4 0 k (by decide)⟩
  refine ⟨C1 + kR + 2000, σ2, τ3, fun n hn => ?_, fun n hn => ?_, hx2, hr2.trans r3, M2, fun v hv => ?_⟩
  · obtain ⟨n, rfl⟩ : ∃ q, n = q + 320 + 1 := ⟨n - 321, by omega⟩
    exact (a1 n).trans (c1 n (by omega))
  · obtain ⟨n, rfl⟩ : ∃ q, n = q + kR + 625 + 1 := ⟨n - kR - 626, by omega⟩
    exact (b1 (n + kR)).trans ((c2 n (by omega)).trans (d1 n (by omega)))
  · obtain ⟨m1, m2, m3, m4, m5⟩ := hM2 v hv
    exact ⟨m1, m2, d2 v (by omega) hv, fun h => m5 (Or.inr h)⟩
end SPREAD
