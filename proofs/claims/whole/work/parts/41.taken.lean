/-! taken -/
def abn (k : Nat) : Nat := [0, 0, 0, 2, 1, 3, 0, 6].getD k 0
def und : Nat → Nat → Nat → Bool
  | 0, _, _ => false
  | m + 1, k, up => if k = up then true else if k = 0 then false else und m (abn k) up
theorem abn_lt : ∀ k, k < 8 → abn k < 8 := by decide
theorem ab_n : ∀ k, k < 8 → k ≠ 0 → st_ab k = nI (abn k) := by decide
theorem ab_0 : st_ab 0 = -1 := rfl
theorem undL (σ : St) {up : Nat} (hu : up < 8) : ∀ (m i k : Nat), i + m = 8 → k < 8 → ∀ n, m + 1 ≤ n → L_X0_isUnder n 1 (nI up) (nI k) (nI i) σ = some (if und m k up then 1 else 0, σ)
  | 0, i, k, hi, hk, n, hn => by
    obtain ⟨n, rfl⟩ : ∃ q, n = q + 1 := ⟨n - 1, by omega⟩
    show B_X0_isUnder_1 (L_X0_isUnder n) n (nI up) (nI k) (nI i) σ = _
    unfold B_X0_isUnder_1
    rw [if_pos (by rw [i_le, i_n (by omega), t8]; omega)]
    rfl
  | m + 1, i, k, hi, hk, n, hn => by
    obtain ⟨n, rfl⟩ : ∃ q, n = q + 1 := ⟨n - 1, by omega⟩
    show B_X0_isUnder_1 (L_X0_isUnder n) n (nI up) (nI k) (nI i) σ = _
    unfold B_X0_isUnder_1 und
    have ek : 0 ≤ (nI k).toInt ∧ (nI k).toInt < 8 := by rw [i_n (by omega)]; omega
    rw [if_neg (by rw [i_le, i_n (by omega), t8]; omega), kind0, bd_some, one0, if_pos ek]
    by_cases c : k = up
    · rw [if_pos (by rw [c]), if_pos c]
      rfl
    · rw [if_neg (by rw [nI_inj (by omega) (by omega)]; exact c), if_neg c, gd_eq (nIin hk (by decide)), nIc (by omega), bnd_eq, bnd_eq, n_a1]
      by_cases c0 : k = 0
      · subst c0
        rw [if_pos rfl, ab_0]
        obtain ⟨n, rfl⟩ : ∃ q, n = q + 1 := ⟨n - 1, by omega⟩
        show B_X0_isUnder_1 (L_X0_isUnder n) n (nI up) (-1) (nI (i + 1)) σ = _
        unfold B_X0_isUnder_1
        by_cases c8 : i + 1 = 8
        · rw [if_pos (by rw [i_le, i_n (by omega), t8]; omega)]
          rfl
        · rw [if_neg (by rw [i_le, i_n (by omega), t8]; omega), kind0, bd_some, one0, if_neg (by decide)]
          rfl
      · rw [if_neg c0, ab_n k hk c0]
        exact undL σ hu m (i + 1) (abn k) (by omega) (abn_lt k hk) n (by omega)
theorem und_eqF : ∀ k : Fin 8, ∀ up : Fin 8, und 8 k.1 up.1 = decide (up.1 = 0 ∨ k.1 = up.1 ∨ (up.1 = 1 ∧ k.1 = 4) ∨ (up.1 = 2 ∧ (k.1 = 3 ∨ k.1 = 5)) ∨ (up.1 = 3 ∧ k.1 = 5) ∨ (up.1 = 6 ∧ k.1 = 7)) := by decide
theorem und_eq : ∀ k, k < 8 → ∀ up, up < 8 → (und 8 k up = true ↔ (up = 0 ∨ k = up ∨ (up = 1 ∧ k = 4) ∨ (up = 2 ∧ (k = 3 ∨ k = 5)) ∨ (up = 3 ∧ k = 5) ∨ (up = 6 ∧ k = 7))) := fun k hk up hu => by
  rw [und_eqF ⟨k, hk⟩ ⟨up, hu⟩]
  exact decide_eq_true_iff
theorem und12 (τ : St) {k up : Nat} (hk : k < 8) (hu : up < 8) (n : Nat) (hn : 4 ≤ n) : F_X12_isUnder n (nI k) (nI up) τ = some (if und 8 k up then 1 else 0, τ) := by
  obtain ⟨n, rfl⟩ : ∃ q, n = q + 3 := ⟨n - 3, by omega⟩
  have L3 : ∀ n, L_X12_isUnder (n + 1) 3 (nI k) (nI up) τ = some (if up = 6 ∧ k = 7 then 1 else 0, τ) := fun n => by
    show B_X12_isUnder_3 (L_X12_isUnder n) n (nI k) (nI up) τ = _
    unfold B_X12_isUnder_3
    rw [show (6 : Int32) = nI 6 from rfl, show (7 : Int32) = nI 7 from rfl]
    simp only [nI_inj (show up < 2147483648 by omega) (show 6 < 2147483648 by decide), nI_inj (show k < 2147483648 by omega) (show 7 < 2147483648 by decide)]
    split
    · split
      · rw [if_pos (by omega)]
      · rw [if_neg (by omega)]
    · rw [if_neg (by omega)]
  have L2 : ∀ n, L_X12_isUnder (n + 2) 2 (nI k) (nI up) τ = some (if (up = 3 ∧ k = 5) ∨ (up = 6 ∧ k = 7) then 1 else 0, τ) := fun n => by
    show B_X12_isUnder_2 (L_X12_isUnder (n + 1)) (n + 1) (nI k) (nI up) τ = _
    unfold B_X12_isUnder_2
    rw [L3, show (3 : Int32) = nI 3 from rfl, show (5 : Int32) = nI 5 from rfl]
    simp only [nI_inj (show up < 2147483648 by omega) (show 3 < 2147483648 by decide), nI_inj (show k < 2147483648 by omega) (show 5 < 2147483648 by decide)]
    by_cases c : up = 3 ∧ k = 5
    · rw [if_pos c.1, if_pos c.2, if_pos (Or.inl c)]
    · by_cases c2 : up = 6 ∧ k = 7
      · rw [if_neg (show ¬ up = 3 by omega), if_pos c2, if_pos (Or.inr c2)]
      · rw [if_neg c2]
        have e : (if (up = 3 ∧ k = 5) ∨ (up = 6 ∧ k = 7) then (1 : Int32) else 0) = 0 := if_neg (by omega)
        rw [e]
        split
        · rw [if_neg (by omega)]
        · rfl
  have L1 : L_X12_isUnder (n + 3) 1 (nI k) (nI up) τ = some (if (up = 2 ∧ (k = 3 ∨ k = 5)) ∨ (up = 3 ∧ k = 5) ∨ (up = 6 ∧ k = 7) then 1 else 0, τ) := by
    show B_X12_isUnder_1 (L_X12_isUnder (n + 2)) (n + 2) (nI k) (nI up) τ = _
    unfold B_X12_isUnder_1
    rw [L2, show (2 : Int32) = nI 2 from rfl, show (3 : Int32) = nI 3 from rfl, show (5 : Int32) = nI 5 from rfl]
    simp only [nI_inj (show up < 2147483648 by omega) (show 2 < 2147483648 by decide), nI_inj (show k < 2147483648 by omega) (show 3 < 2147483648 by decide), nI_inj (show k < 2147483648 by omega) (show 5 < 2147483648 by decide)]
    by_cases c : up = 2
    · rw [if_pos c]
      by_cases c3 : k = 3
      · rw [if_pos c3, if_pos (by omega)]
      · rw [if_neg c3]
        by_cases c5 : k = 5
        · rw [if_pos c5, if_pos (by omega)]
        · rw [if_neg c5, if_neg (by omega), if_neg (by omega)]
    · rw [if_neg c]
      by_cases c2 : (up = 3 ∧ k = 5) ∨ (up = 6 ∧ k = 7)
      · rw [if_pos c2, if_pos (Or.inr c2)]
      · rw [if_neg c2, if_neg (by omega)]
  have key : (if und 8 k up then (1 : Int32) else 0) = if up = 0 ∨ k = up ∨ (up = 1 ∧ k = 4) ∨ (up = 2 ∧ (k = 3 ∨ k = 5)) ∨ (up = 3 ∧ k = 5) ∨ (up = 6 ∧ k = 7) then 1 else 0 := by
    by_cases c : und 8 k up = true
    · rw [if_pos c, if_pos ((und_eq k hk up hu).mp c)]
    · rw [if_neg c, if_neg (fun h => c ((und_eq k hk up hu).mpr h))]
  rw [key]
  unfold F_X12_isUnder
  rw [L1, show (0 : Int32) = nI 0 from rfl, show (1 : Int32) = nI 1 from rfl, show (4 : Int32) = nI 4 from rfl]
  simp only [nI_inj (show up < 2147483648 by omega) (show 0 < 2147483648 by decide), nI_inj (show up < 2147483648 by omega) (show 1 < 2147483648 by decide), nI_inj (show k < 2147483648 by omega) (show 4 < 2147483648 by decide), nI_inj (show k < 2147483648 by omega) (show up < 2147483648 by omega)]
  by_cases c0 : up = 0
  · rw [if_pos c0, if_pos (Or.inl c0)]
  · rw [if_neg c0]
    by_cases c1 : k = up
    · rw [if_pos c1, if_pos (by omega)]
    · rw [if_neg c1]
      by_cases c2 : up = 1 ∧ k = 4
      · rw [if_pos c2.1, if_pos c2.2, if_pos (by omega)]
      · by_cases c3 : (up = 2 ∧ (k = 3 ∨ k = 5)) ∨ (up = 3 ∧ k = 5) ∨ (up = 6 ∧ k = 7)
        · rw [if_neg (show ¬ up = 1 by omega), if_pos c3, if_pos (by omega)]
        · rw [if_neg c3]
          have e : (if up = 0 ∨ k = up ∨ (up = 1 ∧ k = 4) ∨ (up = 2 ∧ (k = 3 ∨ k = 5)) ∨ (up = 3 ∧ k = 5) ∨ (up = 6 ∧ k = 7) then nI 1 else nI 0) = nI 0 := if_neg (by omega)
          rw [e]
          split
          · rw [if_neg (by omega)]
          · rfl
theorem b_taken (p1 p2 : Int32) : MStp Inv (fun n σ => F_X11_taken n p1 p2 σ) (fun n τ => F_X12_taken n p1 p2 τ) := mstp_of (fun σ τ hI => by
  obtain ⟨N, B, h1, h2, h3, h4, h5, h6, h7, h8, h9⟩ := id hI
  obtain ⟨g1, g2, g3, g4, g5⟩ := id h7
  have hin : ∀ n τ, F_X12_in n p2 0 7 τ = some (if 0 ≤ p2.toInt ∧ p2.toInt < 8 then 1 else 0, τ) := fun n τ => by
    rw [in12, t0, t7]
    by_cases c : 0 ≤ p2.toInt ∧ p2.toInt < 8
    · rw [if_pos c, if_pos (by omega)]
    · rw [if_neg c, if_neg (by omega)]
  rcases per (N := 6) p1 with ⟨s, hs, rfl⟩ | c1
  · have es : (nI s).toNatClampNeg = s := nIc (by omega)
    by_cases c2 : 0 ≤ p2.toInt ∧ p2.toInt < 8
    · obtain ⟨u, hu, rfl⟩ := i_natlt (n := 8) c2.1 c2.2
      rcases h8 s hs with ⟨a1, a2, a3⟩ | ⟨a1, b, a2, a3, a4⟩ | ⟨q, m, a1, a2, a3, a4, a5, a6, a7, a8⟩
      · refine ⟨-11, σ, τ, Ev.const (fun n => ?_), Ev.const (fun n => ?_), hI⟩
        · unfold F_X11_taken F_X10_isEmpty
          rw [sh11, bd_some, one0, if_pos (shI hs), kind0, bd_some, one0, if_pos c2, gd_eq (v6 hs), es, if_pos a1, if_pos a2, bd_some, if_neg (by decide)]
        · unfold F_X12_taken
          rw [sh12, bd_some, one0, if_pos (shI hs), hin, bd_some, one0, if_pos c2, gd_eq (v6 hs), es, if_pos a3]
      · obtain ⟨v, v1, v2, v3⟩ := g4 b a2
        have eb : 0 ≤ (nI b).toInt ∧ (nI b).toInt < B := by rw [i_n (by omega)]; omega
        have hX : ∀ n, 9 ≤ n → F_X11_taken n (nI s) (nI u) σ = some (if und 8 v u then nI v else -12, σ) := fun n hn => by
          unfold F_X11_taken F_X10_isEmpty F_X10_heldBody F_X0_kindOf F_X0_isUnder
          rw [sh11, bd_some, one0, if_pos (shI hs), kind0, bd_some, one0, if_pos c2, gd_eq (v6 hs), es, if_pos a1, if_neg (by rw [a3]; exact nI_nm1 (by omega)), bd_some, if_pos rfl, gd_eq (v6 hs), bd_some, a3, hasB g2 g1, bd_some, one0, if_pos eb, gd_eq (nIin (by omega) (by decide)), nIc (by omega), v2, bd_some]
          have := undL σ hu 8 0 v rfl v1 n hn
          rw [show nI 0 = (0 : Int32) from rfl] at this
          rw [this, bd_some]
          cases und 8 v u <;> rfl
        have hR : ∀ n, 9 ≤ n → F_X12_taken n (nI s) (nI u) τ = some (if und 8 v u then nI v else -12, τ) := fun n hn => by
          unfold F_X12_taken
          rw [sh12, bd_some, one0, if_pos (shI hs), hin, bd_some, one0, if_pos c2, gd_eq (v6 hs), es, a4, if_neg (nI_nm1 (by omega)), gd_eq (v6 hs), if_neg (by rw [i_lt, i_n (by omega), t0]; omega), gd_eq (v6 hs), gd_eq (nIin (by omega) (by decide)), nIc (by omega), v3, und12 τ v1 hu n (by omega), bd_some]
          cases und 8 v u
          · rfl
          · rw [if_pos rfl, if_neg (by decide), gd_eq (v6 hs), a4, gd_eq (nIin (by omega) (by decide)), nIc (by omega), v3]
            rfl
        exact ⟨_, σ, τ, ⟨9, hX⟩, ⟨9, hR⟩, hI⟩
      · refine ⟨-12, σ, τ, ⟨9, fun n hn => ?_⟩, Ev.const (fun n => ?_), hI⟩
        · show F_X11_taken n (nI s) (nI u) σ = _
          unfold F_X11_taken F_X10_isEmpty F_X10_heldBody F_X0_kindOf F_X0_isUnder
          rw [sh11, bd_some, one0, if_pos (shI hs), kind0, bd_some, one0, if_pos c2, gd_eq (v6 hs), es, if_neg (by rw [a3]; exact nI_nm1 (by omega)), bd_some, if_pos rfl, gd_eq (v6 hs), bd_some, a4, hasB g2 g1, bd_some, one0, if_neg (by rw [tm1]; omega), bd_some]
          obtain ⟨n, rfl⟩ : ∃ q, n = q + 1 := ⟨n - 1, by omega⟩
          have : L_X0_isUnder (n + 1) 1 (nI u) (-1) 0 σ = some (0, σ) := by
            show B_X0_isUnder_1 (L_X0_isUnder n) n (nI u) (-1) 0 σ = _
            unfold B_X0_isUnder_1
            rw [if_neg (by decide), kind0, bd_some, one0, if_neg (by decide)]
          rw [this, bd_some, if_pos rfl]
        · unfold F_X12_taken
          rw [sh12, bd_some, one0, if_pos (shI hs), hin, bd_some, one0, if_pos c2, gd_eq (v6 hs), es, a5, if_neg (ho_nm1 q a1), gd_eq (v6 hs), if_pos (ho_lt q a1)]
    · refine ⟨-1, σ, τ, Ev.const (fun n => ?_), Ev.const (fun n => ?_), hI⟩
      · unfold F_X11_taken
        rw [sh11, bd_some, one0, if_pos (shI hs), kind0, bd_some, one0, if_neg c2]
      · unfold F_X12_taken
        rw [sh12, bd_some, one0, if_pos (shI hs), hin, bd_some, one0, if_neg c2]
  · refine ⟨-1, σ, τ, Ev.const (fun n => ?_), Ev.const (fun n => ?_), hI⟩
    · simp only [F_X11_taken, sh11, bd_some, if_neg c1]
      rfl
    · simp only [F_X12_taken, sh12, bd_some, if_neg c1]
      rfl)
