/-! judge, roll, sold -/
theorem pow12 : (12 : Nat) ^ 16 = 184884258895036416 := rfl
theorem walkL {N s m : Nat} {r : Nat → Int32} {σ τ : St} {G : Nat → Nat → Int32 → Int32 → Nat → Int32 → Nat} (hG : Crt N σ τ G) (h1 : Pp N σ τ) (hs : s < 6) (hR : Rw s m r σ τ) (way : Int32) (hw : way = -1 ∨ 0 ≤ way.toInt) : ∀ (j k u P : Nat) (σ' τ' : St), k + j = 16 → u ≤ k → EqX σ σ' → EqR τ τ' → Th N σ' τ' 41 → gI σ' 13 5 = -2 → So σ' τ' → Pd P σ' τ' → P ≤ 12 ^ k →
    ∃ (C P' : Nat) (w : Int32) (σ'' τ'' : St), (∀ n, C ≤ n → L_X2_walk (63 + 2 * s) 37 n 1 way (nI u) (nI k) 0 0 σ' = some ((), σ'')) ∧ (∀ n, C ≤ n → L_X12_wrongRoll n 1 (nI s) way (nI u) (nI k) 0 0 0 0 τ' = some (w, τ'')) ∧ EqX σ' σ'' ∧ EqR τ' τ'' ∧ gI σ'' 13 5 = w ∧ (w = -2 ∨ ∃ q, q < 16 ∧ w = nI q) ∧ gI σ'' 13 6 = gI τ'' 0 42 ∧ Pd P' σ'' τ'' ∧ P' ≤ 12 ^ 16 ∧ Ke σ' σ'' τ' τ''
  | 0, k, u, P, σ', τ', hk, hu, hx, hr, hT, e5, hS, hP, hP2 => by
    obtain rfl : k = 16 := by omega
    have hR' := hR.eq hs hx hr
    refine ⟨1, P, -2, σ', τ', fun n hn => ?_, fun n hn => ?_, EqX.rf _, EqR.rf _, e5, Or.inl rfl, hS.1, hP, hP2, rfl, rfl, rfl, rfl⟩
    · obtain ⟨n, rfl⟩ : ∃ q, n = q + 1 := ⟨n - 1, by omega⟩
      show B_X2_walk_1 (L_X2_walk (63 + 2 * s) 37 n) n (63 + 2 * s) 37 way (nI u) (nI 16) σ' = _
      unfold B_X2_walk_1
      rw [casX hR', bd_some, if_pos]
      have : (if (m + 2) / 3 < 16 then (m + 2) / 3 else 16) ≤ 16 := by split <;> omega
      rw [i_le, i_n (by omega), i_n (by omega)]
      omega
    · obtain ⟨n, rfl⟩ : ∃ q, n = q + 1 := ⟨n - 1, by omega⟩
      show B_X12_wrongRoll_1 (L_X12_wrongRoll n) n (nI s) way (nI u) (nI 16) τ' = _
      unfold B_X12_wrongRoll_1
      rw [if_pos (by decide)]
  | j + 1, k, u, P, σ', τ', hk, hu, hx, hr, hT, e5, hS, hP, hP2 => by
    obtain ⟨a1, a2, a3, a4⟩ := id h1
    have hR' := hR.eq hs hx hr
    have m60 := hR.1
    have xN : gI σ' 4 1 = nI N := (hx.g 4 (by decide) 1).trans a2
    have tN : gI τ' 0 1 = nI N := (hr.2 1 (by decide)).trans a3
    have pk : P * 12 ≤ 12 ^ (k + 1) := by rw [Nat.pow_succ]; exact Nat.mul_le_mul_right 12 hP2
    have p16 : (12 : Nat) ^ k ≤ 12 ^ 16 := Nat.pow_le_pow_right (by decide) (by omega)
    have p16' : (12 : Nat) ^ (k + 1) ≤ 12 ^ 16 := Nat.pow_le_pow_right (by decide) (by omega)
    rw [pow12] at p16 p16'
    have EX : ∀ n, L_X2_walk (63 + 2 * s) 37 (n + 1) 1 way (nI u) (nI k) 0 0 σ' = B_X2_walk_1 (L_X2_walk (63 + 2 * s) 37 n) n (63 + 2 * s) 37 way (nI u) (nI k) σ' := fun _ => rfl
    have ER : ∀ n, L_X12_wrongRoll (n + 1) 1 (nI s) way (nI u) (nI k) 0 0 0 0 τ' = B_X12_wrongRoll_1 (L_X12_wrongRoll n) n (nI s) way (nI u) (nI k) τ' := fun _ => rfl
    have n16 : ¬ (16 : Int32) ≤ nI k := by rw [i_le, t16, i_n (by omega)]; omega
    by_cases c0 : 3 * k < m
    · have lt : k < (if (m + 2) / 3 < 16 then (m + 2) / 3 else 16) := by split <;> omega
      have cs16 : (if (m + 2) / 3 < 16 then (m + 2) / 3 else 16) ≤ 16 := by split <;> omega
      have nX : ¬ nI (if (m + 2) / 3 < 16 then (m + 2) / 3 else 16) ≤ nI k := by rw [i_le, i_n (by omega), i_n (by omega)]; omega
      obtain ⟨i1, i2, i3⟩ := isLetX xN a1 hR' (k := k) (by omega)
      have stop : (∀ n, F_X2_isLet n (63 + 2 * s) (nI k) σ' = some (0, σ')) → (∀ n, B_X12_wrongRoll_1 (L_X12_wrongRoll n) n (nI s) way (nI u) (nI k) τ' = some (nI k, τ')) → ∃ (C P' : Nat) (w : Int32) (σ'' τ'' : St), (∀ n, C ≤ n → L_X2_walk (63 + 2 * s) 37 n 1 way (nI u) (nI k) 0 0 σ' = some ((), σ'')) ∧ (∀ n, C ≤ n → L_X12_wrongRoll n 1 (nI s) way (nI u) (nI k) 0 0 0 0 τ' = some (w, τ'')) ∧ EqX σ' σ'' ∧ EqR τ' τ'' ∧ gI σ'' 13 5 = w ∧ (w = -2 ∨ ∃ q, q < 16 ∧ w = nI q) ∧ gI σ'' 13 6 = gI τ'' 0 42 ∧ Pd P' σ'' τ'' ∧ P' ≤ 12 ^ 16 ∧ Ke σ' σ'' τ' τ'' := fun q1 q2 => by
        refine ⟨1, P, nI k, sI σ' 13 5 (nI k), τ', fun n hn => ?_, fun n hn => ?_, EqX.o13, EqR.rf _, by rw [gI_sI, if_pos rfl, if_pos rfl], Or.inr ⟨k, by omega, rfl⟩, by rw [gI_sI, if_pos rfl, if_neg (by decide)]; exact hS.1, hP, by rw [pow12]; omega, by rw [gI_sI, if_pos rfl, if_neg (by decide)], by rw [gI_sI, if_pos rfl, if_neg (by decide)], rfl, rfl⟩
        · obtain ⟨n, rfl⟩ : ∃ q, n = q + 1 := ⟨n - 1, by omega⟩
          rw [EX]
          unfold B_X2_walk_1
          rw [casX hR', bd_some, if_neg nX, q1, bd_some, if_pos rfl, bnd_eq]
        · obtain ⟨n, rfl⟩ : ∃ q, n = q + 1 := ⟨n - 1, by omega⟩
          rw [ER]
          exact q2 n
      by_cases c : 3 * k + 3 ≤ m
      · by_cases ce : -1 ≤ (r (3 * k + 2)).toInt ∧ (r (3 * k + 2)).toInt ≤ 1
        · by_cases d : T2 N (r (3 * k)) (r (3 * k + 1))
          · obtain ⟨a, b, ha, hb, hab, f1, f2⟩ := d
            have hTa := (hT.2.1 a ha).1
            have il := i3 c a b ha hb hab f1 f2
            by_cases cf : gI σ' 42 a = -1
            · obtain ⟨x, K, σ1, τ1, hx12, g1, g2, g3, g4, g5, _⟩ := hG.tw h1 hx hr (b := 41) (by decide) hT ha hb
              have hR1 := hR'.eq hs g3.eq g4.eq
              obtain ⟨won, u', hu', w1, w2⟩ := endC hR1 (u := u) c hx12 (nI a) (nI b) way hw ce
              have oX : ∀ n, K ≤ n → L_X2_walk (63 + 2 * s) 37 (n + 2) 1 way (nI u) (nI k) 0 0 σ' = L_X2_walk (63 + 2 * s) 37 n 3 way (nI u') (nI k) (nI x) (if won then 1 else 0) σ1 := fun n hn => by
                rw [EX]
                unfold B_X2_walk_1
                rw [casX hR', bd_some, if_neg nX, il, bd_some, one0, if_pos ⟨cf, ce⟩, chgX hR' c, bd_some, chdX hR' c, bd_some, f1, f2, g1 (n + 1) (by omega), bd_some, endX hR1 c, bd_some]
                exact w1 n
              have oR : ∀ n, K ≤ n → L_X12_wrongRoll (n + 1) 1 (nI s) way (nI u) (nI k) 0 0 0 0 τ' = L_X12_wrongRoll n 2 (nI s) way (nI u') (nI k) (nI a) (nI b) (if won then 1 else 0) (nI x) τ1 := fun n hn => by
                rw [ER]
                unfold B_X12_wrongRoll_1
                rw [if_neg n16, gd_eq (v6 hs), nIc (by omega), hR'.2.2.1, n_m3, if_neg (by rw [i_le, i_n (by omega), i_n (by omega)]; omega), gd_eq (v6 hs), n_a2, if_pos (by rw [i_lt, i_n (by omega), i_n (by omega)]; omega), getR hs hR' (by omega), bd_some, n_a1, getR hs hR' (by omega), bd_some, getR hs hR' (by omega), bd_some, in12, tm1, t1, bd_some, one0, if_pos ce, f1, f2, let12 a1 tN hT.bk _ ha hb hab, bd_some, one0, if_pos (by rw [← hTa]; exact cf), g2 n hn, bd_some]
                exact w2 n
              generalize hsh : (if won then x else 12 - x) = sh
              have hsh12 : sh ≤ 12 := by rw [← hsh]; split <;> omega
              by_cases cs0 : sh = 0
              · have z : nI sh = 0 := by rw [cs0]; rfl
                refine ⟨K + 4, P, nI k, sI σ1 13 5 (nI k), τ1, fun n hn => ?_, fun n hn => ?_, g3.eq.trans EqX.o13, g4.eq, by rw [gI_sI, if_pos rfl, if_pos rfl], Or.inr ⟨k, by omega, rfl⟩, ?_, ?_, by rw [pow12]; omega, ?_⟩
                · obtain ⟨n, rfl⟩ : ∃ q, n = q + 1 + 2 := ⟨n - 3, by omega⟩
                  rw [oX (n + 1) (by omega)]
                  show B_X2_walk_3 (L_X2_walk (63 + 2 * s) 37 n) n (63 + 2 * s) 37 way (nI u') (nI k) (nI x) _ σ1 = _
                  unfold B_X2_walk_3
                  rw [shX _ won hx12, bd_some, hsh, if_pos z, bnd_eq]
                · obtain ⟨n, rfl⟩ : ∃ q, n = q + 1 + 1 := ⟨n - 2, by omega⟩
                  rw [oR (n + 1) (by omega)]
                  show B_X12_wrongRoll_2 (L_X12_wrongRoll n) n (nI s) way (nI u') (nI k) (nI a) (nI b) _ (nI x) τ1 = _
                  unfold B_X12_wrongRoll_2
                  rw [shR _ won hx12, bd_some, hsh, if_pos z]
                · rw [gI_sI, if_pos rfl, if_neg (by decide), g3.1 13 6 (by decide) (by decide), g4.1 0 42 (by decide) (by decide)]
                  exact hS.1
                · exact ⟨(g3.2.2 13 7).trans hP.1, (g4.2 0 40).trans hP.2.1, (g4.2 0 41).trans hP.2.2.1, hP.2.2.2⟩
                · exact ⟨by rw [gI_sI, if_pos rfl, if_neg (by decide)]; exact g3.1 13 8 (by decide) (by decide), by rw [gI_sI, if_pos rfl, if_neg (by decide)]; exact g3.1 13 9 (by decide) (by decide), g4.1 0 43 (by decide) (by decide), g4.1 0 44 (by decide) (by decide)⟩
              · have nz : ¬ nI sh = 0 := by rw [i_eq, i_n (by omega), t0]; omega
                have s6X : gI σ1 13 6 = gI τ' 0 42 := (g3.1 13 6 (by decide) (by decide)).trans hS.1
                have s6R : gI τ1 0 42 = gI τ' 0 42 := g4.1 0 42 (by decide) (by decide)
                -- the case that was sold first
                let sv : Int32 := if gI τ' 0 42 = -2 ∧ sh < 6 then nI k else gI τ' 0 42
                let σ2 := if gI τ' 0 42 = -2 ∧ sh < 6 then sI σ1 13 6 (nI k) else σ1
                let τ2 := if gI τ' 0 42 = -2 ∧ sh < 6 then sI τ1 0 42 (nI k) else τ1
                have s2o : ∀ cc i, (cc ≠ 13 ∨ i ≠ 6) → gI σ2 cc i = gI σ1 cc i := fun cc i h => by
                  show gI (if gI τ' 0 42 = -2 ∧ sh < 6 then sI σ1 13 6 (nI k) else σ1) cc i = _
                  split
                  · rw [gI_sI]
                    split
                    · rw [if_neg (by omega)]
                    · rfl
                  · rfl
                have t2o : ∀ cc i, (cc ≠ 0 ∨ i ≠ 42) → gI τ2 cc i = gI τ1 cc i := fun cc i h => by
                  show gI (if gI τ' 0 42 = -2 ∧ sh < 6 then sI τ1 0 42 (nI k) else τ1) cc i = _
                  split
                  · rw [gI_sI]
                    split
                    · rw [if_neg (by omega)]
                    · rfl
                  · rfl
                have s2L : ∀ cc i, gL σ2 cc i = gL σ1 cc i := fun cc i => by
                  show gL (if gI τ' 0 42 = -2 ∧ sh < 6 then sI σ1 13 6 (nI k) else σ1) cc i = _
                  split <;> rfl
                have t2L : ∀ cc i, gL τ2 cc i = gL τ1 cc i := fun cc i => by
                  show gL (if gI τ' 0 42 = -2 ∧ sh < 6 then sI τ1 0 42 (nI k) else τ1) cc i = _
                  split <;> rfl
                have s26 : gI σ2 13 6 = sv := by
                  show gI (if gI τ' 0 42 = -2 ∧ sh < 6 then sI σ1 13 6 (nI k) else σ1) 13 6 = if gI τ' 0 42 = -2 ∧ sh < 6 then nI k else gI τ' 0 42
                  split
                  · rw [gI_sI, if_pos rfl, if_pos rfl]
                  · exact s6X
                have t242 : gI τ2 0 42 = sv := by
                  show gI (if gI τ' 0 42 = -2 ∧ sh < 6 then sI τ1 0 42 (nI k) else τ1) 0 42 = if gI τ' 0 42 = -2 ∧ sh < 6 then nI k else gI τ' 0 42
                  split
                  · rw [gI_sI, if_pos rfl, if_pos rfl]
                  · exact s6R
                have hsv : sv = -2 ∨ ∃ q, q < 16 ∧ sv = nI q := by
                  show (if gI τ' 0 42 = -2 ∧ sh < 6 then nI k else gI τ' 0 42) = -2 ∨ ∃ q, q < 16 ∧ (if gI τ' 0 42 = -2 ∧ sh < 6 then nI k else gI τ' 0 42) = nI q
                  split
                  · exact Or.inr ⟨k, by omega, rfl⟩
                  · exact hS.2
                have x2 : EqX σ1 σ2 := by
                  show EqX σ1 (if gI τ' 0 42 = -2 ∧ sh < 6 then sI σ1 13 6 (nI k) else σ1)
                  split
                  · exact EqX.o13
                  · exact EqX.rf _
                have y2 : EqR τ1 τ2 := by
                  show EqR τ1 (if gI τ' 0 42 = -2 ∧ sh < 6 then sI τ1 0 42 (nI k) else τ1)
                  split
                  · exact EqR.of0 (by decide)
                  · exact EqR.rf _
                have oX3 : ∀ n, L_X2_walk (63 + 2 * s) 37 (n + 1) 3 way (nI u') (nI k) (nI x) (if won then 1 else 0) σ1 = L_X2_walk (63 + 2 * s) 37 n 4 way (nI u') (nI k) (if won then 1 else 0) (nI sh) σ2 := fun n => by
                  show B_X2_walk_3 (L_X2_walk (63 + 2 * s) 37 n) n (63 + 2 * s) 37 way (nI u') (nI k) (nI x) _ σ1 = L_X2_walk (63 + 2 * s) 37 n 4 way (nI u') (nI k) (if won then 1 else 0) (nI sh) (if gI τ' 0 42 = -2 ∧ sh < 6 then sI σ1 13 6 (nI k) else σ1)
                  unfold B_X2_walk_3
                  rw [shX _ won hx12, bd_some, hsh, if_neg nz, s6X]
                  by_cases q1 : gI τ' 0 42 = -2
                  · rw [if_pos q1]
                    by_cases q2 : sh < 6
                    · rw [if_neg (by rw [i_le, i_n (by omega), t6]; omega), if_pos (show gI τ' 0 42 = -2 ∧ sh < 6 from ⟨q1, q2⟩), bnd_eq]
                    · rw [if_pos (by rw [i_le, i_n (by omega), t6]; omega), if_neg (show ¬ (gI τ' 0 42 = -2 ∧ sh < 6) from fun e => q2 e.2)]
                  · rw [if_neg q1, if_neg (show ¬ (gI τ' 0 42 = -2 ∧ sh < 6) from fun e => q1 e.1)]
                have oR3 : ∀ n, L_X12_wrongRoll (n + 1) 2 (nI s) way (nI u') (nI k) (nI a) (nI b) (if won then 1 else 0) (nI x) τ1 = L_X12_wrongRoll n 3 (nI s) way (nI u') (nI k) (nI a) (nI b) (if won then 1 else 0) (nI sh) τ2 := fun n => by
                  show B_X12_wrongRoll_2 (L_X12_wrongRoll n) n (nI s) way (nI u') (nI k) (nI a) (nI b) _ (nI x) τ1 = L_X12_wrongRoll n 3 (nI s) way (nI u') (nI k) (nI a) (nI b) (if won then 1 else 0) (nI sh) (if gI τ' 0 42 = -2 ∧ sh < 6 then sI τ1 0 42 (nI k) else τ1)
                  unfold B_X12_wrongRoll_2
                  have dbl : (2 : Int32) * nI sh = nI (2 * sh) := pk_mul 2 sh
                  rw [shR _ won hx12, bd_some, hsh, if_neg nz, s6R, dbl]
                  rcases hS.2 with q1 | ⟨q, q1, q2⟩
                  · rw [if_neg (by rw [q1]; decide)]
                    by_cases q2 : sh < 6
                    · rw [if_neg (by rw [i_le, i_n (by omega), t12]; omega), if_pos (show gI τ' 0 42 = -2 ∧ sh < 6 from ⟨q1, q2⟩), bnd_eq]
                    · rw [if_pos (by rw [i_le, i_n (by omega), t12]; omega), if_neg (show ¬ (gI τ' 0 42 = -2 ∧ sh < 6) from fun e => q2 e.2)]
                  · rw [if_pos (by rw [q2, i_le, i_n (by omega), t0]; omega), if_neg (show ¬ (gI τ' 0 42 = -2 ∧ sh < 6) from fun e => by
                      have := e.1
                      rw [q2, i_eq, i_n (by omega), tm2] at this
                      omega)]
                have P12 : P ≤ 184884258895036416 := by omega
                have m40 : gL τ2 0 40 = nL (P / 1000000000) := (t2L 0 40).trans ((g4.2 0 40).trans hP.2.1)
                have m41 : gL τ2 0 41 = nL (P % 1000000000) := (t2L 0 41).trans ((g4.2 0 41).trans hP.2.2.1)
                obtain ⟨τ3, v1, v2, v3, v4, v5⟩ := mulR m40 m41 P12 hsh12 0
                have v1' : ∀ n, F_X12_multiply n (nI sh) τ2 = some ((), τ3) := fun n => v1
                let σ3 := sL σ2 13 7 (nL (P * sh))
                have psh : P * sh ≤ P * 12 := Nat.mul_le_mul_left P hsh12
                have ps1 : 1 ≤ P * sh := Nat.mul_pos hP.2.2.2 (by omega)
                have x3 : EqX σ' σ3 := (g3.eq.trans x2).trans (EqX.ofL (by decide))
                have y3 : EqR τ' τ3 := (g4.eq.trans y2).trans v5
                have T3 : Th N σ3 τ3 41 := g5.at (s2o 41 1 (by decide)) (fun i => s2o 42 i (Or.inl (by decide))) (by rw [v4, t2o 0 27 (by decide)]) (fun i => by rw [v4, t2o 17 i (Or.inl (by decide))])
                have R3 : Rw s m r σ3 τ3 := hR'.eq hs x3 y3
                have N3 : gI τ3 0 1 = nI N := (y3.2 1 (by decide)).trans tN
                have x4 : EqX σ' (setX σ3 41 a b won) := x3.trans (setX_eq σ3 41 a b won (by decide) (by decide) (by decide) (by decide))
                have y4 : EqR τ' (setR τ3 N a b won) := y3.trans (setR_eq τ3 N a b won)
                have k13 : ∀ i, i ≠ 6 → gI (setX σ3 41 a b won) 13 i = gI σ' 13 i := fun i hi => by
                  rw [setX_o _ _ _ _ _ (by decide) (by decide)]
                  show gI σ2 13 i = _
                  rw [s2o 13 i (Or.inr hi)]
                  exact g3.1 13 i (by decide) (by decide)
                have k0 : ∀ i, i ≠ 42 → i ≠ 27 → gI (setR τ3 N a b won) 0 i = gI τ' 0 i := fun i hi hi' => by
                  rw [setR_0, if_neg hi', v4, t2o 0 i (Or.inr hi)]
                  exact g4.1 0 i (by decide) (by decide)
                have so4 : So (setX σ3 41 a b won) (setR τ3 N a b won) := by
                  unfold So
                  rw [setX_o _ _ _ _ _ (by decide) (by decide), setR_0, if_neg (by decide), v4, t242]
                  exact ⟨s26, hsv⟩
                have pd4 : Pd (P * sh) (setX σ3 41 a b won) (setR τ3 N a b won) := ⟨by rw [setX_L]; show gL (sL σ2 13 7 _) 13 7 = _; rw [gL_sL, if_pos rfl, if_pos rfl], by rw [setR_L]; exact v2, by rw [setR_L]; exact v3, ps1⟩
                obtain ⟨C, P', w, σ5, τ5, z1, z2, z3, z4, z5, z6, z7, z8, z9, z10⟩ := walkL hG h1 hs hR way hw j (k + 1) u' (P * sh) (setX σ3 41 a b won) (setR τ3 N a b won) (by omega) (by omega) (hx.trans x4) (hr.trans y4) (T3.set a1 ha hb won) ((k13 5 (by decide)).trans e5) so4 pd4 (by omega)
                refine ⟨K + C + 16, P', w, σ5, τ5, fun n hn => ?_, fun n hn => ?_, x4.trans z3, y4.trans z4, z5, z6, z7, z8, z9, ?_⟩
                · obtain ⟨n, rfl⟩ : ∃ q, n = q + 1 + 1 + 2 := ⟨n - 4, by omega⟩
                  rw [oX (n + 1 + 1) (by omega), oX3 (n + 1)]
                  show B_X2_walk_4 (L_X2_walk (63 + 2 * s) 37 n) n (63 + 2 * s) 37 way (nI u') (nI k) _ (nI sh) σ2 = _
                  unfold B_X2_walk_4
                  have e7 : gL σ2 13 7 = nL P := (s2L 13 7).trans ((g3.2.2 13 7).trans hP.1)
                  rw [e7, nIL (by omega), l_mul (by omega) (by omega) (by omega), bnd_eq]
                  show bd (F_X2_chargerOf n (63 + 2 * s) (nI k) σ3) _ = _
                  rw [chgX R3 c, bd_some, chdX R3 c, bd_some, f1, f2, set1 41 σ3 (by omega) (by omega) won n (by omega), bd_some, bnd_eq, n_a1]
                  exact z1 n (by omega)
                · obtain ⟨n, rfl⟩ : ∃ q, n = q + 1 + 1 + 1 := ⟨n - 3, by omega⟩
                  rw [oR (n + 1 + 1) (by omega), oR3 (n + 1)]
                  show B_X12_wrongRoll_3 (L_X12_wrongRoll n) n (nI s) way (nI u') (nI k) (nI a) (nI b) _ (nI sh) τ2 = _
                  unfold B_X12_wrongRoll_3
                  rw [v1', bd_some, go12 a1 τ3 N3 ha hb won n (by omega), bd_some, bnd_eq, n_a1]
                  exact z2 n (by omega)
                · exact ⟨z10.1.trans (k13 8 (by decide)), z10.2.1.trans (k13 9 (by decide)), z10.2.2.1.trans (k0 43 (by decide) (by decide)), z10.2.2.2.trans (k0 44 (by decide) (by decide))⟩
            · refine stop (fun n => ?_) (fun n => ?_)
              · rw [il, if_neg (fun h => cf h.1)]
              · unfold B_X12_wrongRoll_1
                rw [if_neg n16, gd_eq (v6 hs), nIc (by omega), hR'.2.2.1, n_m3, if_neg (by rw [i_le, i_n (by omega), i_n (by omega)]; omega), gd_eq (v6 hs), n_a2, if_pos (by rw [i_lt, i_n (by omega), i_n (by omega)]; omega), getR hs hR' (by omega), bd_some, n_a1, getR hs hR' (by omega), bd_some, getR hs hR' (by omega), bd_some, in12, tm1, t1, bd_some, one0, if_pos ce, f1, f2, let12 a1 tN hT.bk _ ha hb hab, bd_some, one0, if_neg (by rw [← hTa]; exact cf)]
          · refine stop (i2 c d) (fun n => ?_)
            unfold B_X12_wrongRoll_1
            rw [if_neg n16, gd_eq (v6 hs), nIc (by omega), hR'.2.2.1, n_m3, if_neg (by rw [i_le, i_n (by omega), i_n (by omega)]; omega), gd_eq (v6 hs), n_a2, if_pos (by rw [i_lt, i_n (by omega), i_n (by omega)]; omega), getR hs hR' (by omega), bd_some, n_a1, getR hs hR' (by omega), bd_some, getR hs hR' (by omega), bd_some, in12, tm1, t1, bd_some, one0, if_pos ce, let12G a1 tN d, bd_some, if_pos rfl]
        · refine stop (fun n => ?_) (fun n => ?_)
          · by_cases d : T2 N (r (3 * k)) (r (3 * k + 1))
            · obtain ⟨a, b, ha, hb, hab, f1, f2⟩ := d
              rw [i3 c a b ha hb hab f1 f2, if_neg (fun h => ce h.2)]
            · exact i2 c d n
          · unfold B_X12_wrongRoll_1
            rw [if_neg n16, gd_eq (v6 hs), nIc (by omega), hR'.2.2.1, n_m3, if_neg (by rw [i_le, i_n (by omega), i_n (by omega)]; omega), gd_eq (v6 hs), n_a2, if_pos (by rw [i_lt, i_n (by omega), i_n (by omega)]; omega), getR hs hR' (by omega), bd_some, n_a1, getR hs hR' (by omega), bd_some, getR hs hR' (by omega), bd_some, in12, tm1, t1, bd_some, one0, if_neg ce]
      · refine stop (i1 c) (fun n => ?_)
        unfold B_X12_wrongRoll_1
        rw [if_neg n16, gd_eq (v6 hs), nIc (by omega), hR'.2.2.1, n_m3, if_neg (by rw [i_le, i_n (by omega), i_n (by omega)]; omega), gd_eq (v6 hs), n_a2, if_neg (by rw [i_lt, i_n (by omega), i_n (by omega)]; omega)]
    · refine ⟨1, P, -2, σ', τ', fun n hn => ?_, fun n hn => ?_, EqX.rf _, EqR.rf _, e5, Or.inl rfl, hS.1, hP, by rw [pow12]; omega, rfl, rfl, rfl, rfl⟩
      · obtain ⟨n, rfl⟩ : ∃ q, n = q + 1 := ⟨n - 1, by omega⟩
        rw [EX]
        unfold B_X2_walk_1
        rw [casX hR', bd_some, if_pos]
        have : (if (m + 2) / 3 < 16 then (m + 2) / 3 else 16) ≤ k := by split <;> omega
        rw [i_le, i_n (by omega), i_n (by omega)]
        omega
      · obtain ⟨n, rfl⟩ : ∃ q, n = q + 1 := ⟨n - 1, by omega⟩
        rw [ER]
        unfold B_X12_wrongRoll_1
        rw [if_neg n16, gd_eq (v6 hs), nIc (by omega), hR'.2.2.1, n_m3, if_pos (by rw [i_le, i_n (by omega), i_n (by omega)]; omega)]
