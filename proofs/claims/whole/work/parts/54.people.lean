/-! people -/
theorem l_addI (a b : Int64) (h1 : -9223372036854775808 ≤ a.toInt + b.toInt) (h2 : a.toInt + b.toInt < 9223372036854775808) : (a + b).toInt = a.toInt + b.toInt := by
  rw [Int64.toInt_add]; exact Int.bmod_eq_of_le (by omega) (by omega)
theorem p3k : ∀ k, k < 8 → (3 : Int64) * (nI k).toInt64 = ((3 : Int32) * nI k).toInt64 := by decide
theorem p3i : ∀ k, k < 8 → ((3 : Int32) * nI k).toInt64.toInt = 3 * (k : Int) := fun k hk => by
  rw [n_m3, Int32.toInt_toInt64, i_n (by omega)]; omega
theorem l0 : (0 : Int64).toInt = 0 := rfl
theorem l2t : (2 : Int64).toInt = 2 := rfl
theorem l3t : (3 : Int64).toInt = 3 := rfl
theorem plc (p : Int32) {k : Nat} (hk : k < 8) : (p.toInt64 + ((3 : Int32) * nI k).toInt64).toInt = p.toInt + 3 * k := by
  have h := i_rng p
  have e := p3i k hk
  rw [l_addI] <;> rw [Int32.toInt_toInt64, e] <;> omega
theorem p_32 {x : Int64} {k : Nat} (h : x.toInt = k) (hk : k < 2147483648) : x.toInt32 = nI k := by
  rw [i_eq, Int64.toInt_toInt32, h, i_n hk]
  exact Int.bmod_eq_of_le (by omega) (by omega)
theorem Rw.add {s m N : Nat} {r : Nat → Int32} {σ τ : St} {a b c : Int32} (hs : s < 6) (h : Rw s m r σ τ) : Rw s m r (addX σ N a b c) (addR τ N a b c) :=
  ⟨h.1, by rw [show gI (addX σ N a b c) (63 + 2 * s) 1 = gI σ (63 + 2 * s) 1 by simp only [addX, gI_sI, if_neg (show ¬ 63 + 2 * s = 4 by omega), if_neg (show ¬ 63 + 2 * s = 5 by omega)]]; exact h.2.1, h.2.2.1, h.2.2.2⟩
theorem pplL {B s m P : Nat} {r : Nat → Int32} (hs : s < 6) (hP : P ≤ 7) (p2 : Int32) : ∀ (d k N : Nat) (σ τ : St), k + d = P → Rw s m r σ τ → Pp N σ τ → Pch N σ τ → Pb N σ τ → Pk N σ τ → Pt σ τ → Ptp σ τ → Pa B σ τ → Psh B σ τ → Plaw σ τ → ∃ (v : Int32) (σ' τ' : St), (∀ n, d + 1 ≤ n → L_X11_people n 1 (63 + 2 * s) p2 (nI P) (nI k) σ = some (v, σ')) ∧ (∀ n, d + 1 ≤ n → L_X12_people n 2 (nI s) p2 (nI P) (nI k) τ = some (v, τ')) ∧ Inv σ' τ'
  | 0, k, N, σ, τ, hk, hR, h1, h2, h3, h4, h5, h6, h7, h8, h9 => by
    obtain rfl : k = P := by omega
    refine ⟨nI k, σ, τ, fun n hn => ?_, fun n hn => ?_, N, B, h1, h2, h3, h4, h5, h6, h7, h8, h9⟩
    · obtain ⟨n, rfl⟩ : ∃ q, n = q + 1 := ⟨n - 1, by omega⟩
      show B_X11_people_1 (L_X11_people n) n (63 + 2 * s) p2 (nI k) (nI k) σ = _
      unfold B_X11_people_1
      rw [if_pos (by rw [i_le]; omega)]
    · obtain ⟨n, rfl⟩ : ∃ q, n = q + 1 := ⟨n - 1, by omega⟩
      show B_X12_people_2 (L_X12_people n) n (nI s) p2 (nI k) (nI k) τ = _
      unfold B_X12_people_2
      rw [if_pos (by rw [i_le]; omega)]
  | d + 1, k, N, σ, τ, hk, hR, h1, h2, h3, h4, h5, h6, h7, h8, h9 => by
    obtain ⟨a1, a2, a3, a4⟩ := id h1
    have m60 := hR.1
    have es : (nI s).toNatClampNeg = s := nIc (by omega)
    have ht := plc p2 (show k < 8 by omega)
    have hrg := i_rng p2
    have stop : (∀ n, F_X6_welcomeFrom n (63 + 2 * s) (p2.toInt64 + ((3 : Int32) * nI k).toInt64) σ = some (0, σ)) → (∀ J n, B_X12_people_2 J n (nI s) p2 (nI P) (nI k) τ = some (nI k, τ)) → ∃ (v : Int32) (σ' τ' : St), (∀ n, d + 1 + 1 ≤ n → L_X11_people n 1 (63 + 2 * s) p2 (nI P) (nI k) σ = some (v, σ')) ∧ (∀ n, d + 1 + 1 ≤ n → L_X12_people n 2 (nI s) p2 (nI P) (nI k) τ = some (v, τ')) ∧ Inv σ' τ' := fun q1 q2 => by
      refine ⟨nI k, σ, τ, fun n hn => ?_, fun n hn => ?_, N, B, h1, h2, h3, h4, h5, h6, h7, h8, h9⟩
      · obtain ⟨n, rfl⟩ : ∃ q, n = q + 1 := ⟨n - 1, by omega⟩
        show B_X11_people_1 (L_X11_people n) n (63 + 2 * s) p2 (nI P) (nI k) σ = _
        unfold B_X11_people_1
        rw [if_neg (by rw [i_le, i_n (by omega), i_n (by omega)]; omega), p3k k (by omega), q1, bd_some, if_pos rfl]
      · obtain ⟨n, rfl⟩ : ∃ q, n = q + 1 := ⟨n - 1, by omega⟩
        exact q2 _ _
    have hB : ∀ (J : Nat → Int32 → Int32 → Int32 → Int32 → St → Option (Int32 × St)) n, B_X12_people_2 J n (nI s) p2 (nI P) (nI k) τ = bnd ((p2.toInt64) + ((((3 : Int32) * nI k)).toInt64)) fun x5 => if (lg_cmp x5 (0 : Int64)) < 0 then (some (nI k, τ)) else (if 0 ≤ (lg_cmp (x5 + (2 : Int64)) ((nI m).toInt64)) then (some (nI k, τ)) else (if nI N = (7 : Int32) then (some (nI k, τ)) else (bnd (((60 : Int32) * nI s) + ((x5).toInt32)) fun x6 => gd (vp_in x6 360) (bd (F_X12_in n (((gL τ 33 (x6).toNatClampNeg)).toInt32) (0 : Int32) (9 : Int32) τ) fun r8 s7 => if r8 = 0 then (some (nI k, s7)) else (gd (vp_in (x6 + (1 : Int32)) 360) (bd (F_X12_in n (((gL s7 33 ((x6 + (1 : Int32))).toNatClampNeg)).toInt32) (0 : Int32) (9 : Int32) s7) fun r10 s9 => if r10 = 0 then (some (nI k, s9)) else (gd (vp_in (x6 + (2 : Int32)) 360) (bd (F_X12_in n (((gL s9 33 ((x6 + (2 : Int32))).toNatClampNeg)).toInt32) (0 : Int32) (6 : Int32) s9) fun r12 s11 => if r12 = 0 then (some (nI k, s11)) else (gd (vp_in x6 360) (gd (vp_in (x6 + (1 : Int32)) 360) (gd (vp_in (x6 + (2 : Int32)) 360) (bd (F_X12_addPerson n (((gL s11 33 (x6).toNatClampNeg)).toInt32) (((gL s11 33 ((x6 + (1 : Int32))).toNatClampNeg)).toInt32) (((gL s11 33 ((x6 + (2 : Int32))).toNatClampNeg)).toInt32) s11) fun r14 s13 => bnd (nI k + (1 : Int32)) fun x15 => J 2 (nI s) p2 (nI P) x15 s13)))))))))))) := fun J n => by
      unfold B_X12_people_2
      rw [if_neg (by rw [i_le, i_n (by omega), i_n (by omega)]; omega)]
      simp only [gd_eq (v6 hs), es, hR.2.2.1, a3]
    have l2m : ∀ z : Nat, z ≤ 60 → ((nI z).toInt64).toInt = z := fun z hz => by rw [Int32.toInt_toInt64, i_n (by omega)]
    by_cases c7 : N < 7
    · have n7 : ¬ nI N = 7 := by rw [nI7 a1]; omega
      by_cases c1 : 0 ≤ p2.toInt + 3 * k ∧ p2.toInt + 3 * k + 3 ≤ m
      · obtain ⟨z, hz⟩ : ∃ z : Nat, p2.toInt + 3 * k = z := ⟨(p2.toInt + 3 * k).toNat, by omega⟩
        rw [hz] at ht
        generalize hx : p2.toInt64 + ((3 : Int32) * nI k).toInt64 = x at ht stop hB
        have e32 : x.toInt32 = nI z := p_32 ht (by omega)
        have g0 : ∀ i, i < 3 → z + i < m := fun i hi => by omega
        have ex : ∀ v : Int64, v.toInt = 2 ∨ v.toInt = 3 → (x + v).toInt = z + v.toInt := fun v hv => by
          rw [l_addI] <;> rw [ht] <;> omega
        have w1 : ∀ n, F_X6_welcomeFrom n (63 + 2 * s) x σ = (bd (F_X6_allows n (0 : Int32) (r z) σ) fun r13 s12 => if r13 = 0 then (some ((0 : Int32), s12)) else (bd (F_X6_allows n (1 : Int32) (r (z + 1)) s12) fun r15 s14 => if r15 = 0 then (some ((0 : Int32), s14)) else (bd (F_X6_allows n (2 : Int32) (r (z + 2)) s14) fun r17 s16 => if r17 = 0 then (some ((0 : Int32), s16)) else (bd (F_X6_add n (r z) (r (z + 1)) (r (z + 2)) s16) fun r19 s18 => some ((1 : Int32), s18))))) := fun n => by
          unfold F_X6_welcomeFrom F_X10_size
          rw [full6 a2 a1, bd_some, if_pos c7, if_pos rfl, if_neg (fun e => by have := (lg_cmp_lt _ _).mp e; rw [l_lt, ht, l0] at this; omega), bd_some, hR.2.1, if_pos ((lg_cmp_le _ _).mpr (by rw [l_le, ex 3 (Or.inr rfl), l2m m m60, l3t]; omega)), bnd_eq, e32, getX hR (by omega), bd_some, n_a1, getX hR (by omega), bd_some, n_a2, getX hR (by omega), bd_some]
        have eR : ∀ i, i < 3 → (gL τ 33 (60 * s + (z + i))).toInt32 = r (z + i) := fun i hi => (hR.2.2.2 (z + i) (g0 i hi)).2
        have eR0 := eR 0 (by decide)
        have eR1 := eR 1 (by decide)
        have eR2 := eR 2 (by decide)
        have w2 : ∀ (J : Nat → Int32 → Int32 → Int32 → Int32 → St → Option (Int32 × St)) n, B_X12_people_2 J n (nI s) p2 (nI P) (nI k) τ = (bd (F_X12_in n (r z) (0 : Int32) (9 : Int32) τ) fun r8 s7 => if r8 = 0 then (some (nI k, s7)) else ((bd (F_X12_in n (((gL s7 33 (60 * s + (z + 1)))).toInt32) (0 : Int32) (9 : Int32) s7) fun r10 s9 => if r10 = 0 then (some (nI k, s9)) else ((bd (F_X12_in n (((gL s9 33 (60 * s + (z + 2)))).toInt32) (0 : Int32) (6 : Int32) s9) fun r12 s11 => if r12 = 0 then (some (nI k, s11)) else (((bd (F_X12_addPerson n (((gL s11 33 (60 * s + (z + 0)))).toInt32) (((gL s11 33 (60 * s + (z + 1)))).toInt32) (((gL s11 33 (60 * s + (z + 2)))).toInt32) s11) fun r14 s13 => bnd (nI k + (1 : Int32)) fun x15 => J 2 (nI s) p2 (nI P) x15 s13)))))))) := fun J n => by
          have v0 : vp_in (nI (60 * s + (z + 0))) 360 := nIin (by omega) (by decide)
          have v1 : vp_in (nI (60 * s + (z + 1))) 360 := nIin (by omega) (by decide)
          have v2 : vp_in (nI (60 * s + (z + 2))) 360 := nIin (by omega) (by decide)
          rw [hB, bnd_eq, if_neg (fun e => by have := (lg_cmp_lt _ _).mp e; rw [l_lt, ht, l0] at this; omega), if_neg (fun e => by have := (lg_cmp_ge _ _).mp e; rw [l_le, ex 2 (Or.inl rfl), l2m m m60, l2t] at this; omega), if_neg n7, bnd_eq, e32, n_m60, nI_add, n_a1, n_a2]
          rw [show 60 * s + z = 60 * s + (z + 0) from rfl, show 60 * s + (z + 0) + 1 = 60 * s + (z + 1) by omega, show 60 * s + (z + 0) + 2 = 60 * s + (z + 2) by omega]
          simp only [gd_eq v0, gd_eq v1, gd_eq v2, nIc (show 60 * s + (z + 0) < 2147483648 by omega), nIc (show 60 * s + (z + 1) < 2147483648 by omega), nIc (show 60 * s + (z + 2) < 2147483648 by omega)]
          rw [eR0]
          rfl
        by_cases d0 : 0 ≤ (r z).toInt ∧ (r z).toInt ≤ 9
        · by_cases d1 : 0 ≤ (r (z + 1)).toInt ∧ (r (z + 1)).toInt ≤ 9
          · by_cases d2 : 0 ≤ (r (z + 2)).toInt ∧ (r (z + 2)).toInt ≤ 6
            · obtain ⟨i1, i2, i3, i4, i5, i6, i7, i8, i9⟩ := addInv (a := r z) (b := r (z + 1)) (c := r (z + 2)) c7 h1 h2 h3 h4 h5 h6 h7 h8 h9
              obtain ⟨v, σ', τ', f1, f2, f3⟩ := pplL (B := B) hs hP p2 d (k + 1) (N + 1) (addX σ N (r z) (r (z + 1)) (r (z + 2))) (addR τ N (r z) (r (z + 1)) (r (z + 2))) (by omega) (hR.add hs) i1 i2 i3 i4 i5 i6 i7 i8 i9
              refine ⟨v, σ', τ', fun n hn => ?_, fun n hn => ?_, f3⟩
              · obtain ⟨n, rfl⟩ : ∃ q, n = q + 1 := ⟨n - 1, by omega⟩
                show B_X11_people_1 (L_X11_people n) n (63 + 2 * s) p2 (nI P) (nI k) σ = _
                unfold B_X11_people_1
                rw [if_neg (by rw [i_le, i_n (by omega), i_n (by omega)]; omega), p3k k (by omega), hx, w1, al0, bd_some, one0, if_pos d0, al1, bd_some, one0, if_pos d1, al2, bd_some, one0, if_pos d2, add6 a2 c7, bd_some, bd_some, if_neg (by decide), bnd_eq, n_a1]
                exact f1 n (by omega)
              · obtain ⟨n, rfl⟩ : ∃ q, n = q + 1 := ⟨n - 1, by omega⟩
                refine (w2 _ _).trans ?_
                rw [in12, bd_some, one0, t0, t9, if_pos d0, eR1, in12, bd_some, one0, t0, t9, if_pos d1, eR2, in12, bd_some, one0, t0, t6, if_pos d2, eR0, eR1, eR2, add12 a3 c7, bd_some, bnd_eq, n_a1]
                exact f2 n (by omega)
            · refine stop (fun n => ?_) (fun J n => ?_)
              · rw [w1, al0, bd_some, one0, if_pos d0, al1, bd_some, one0, if_pos d1, al2, bd_some, one0, if_neg d2]
              · rw [w2, in12, bd_some, one0, t0, t9, if_pos d0, eR1, in12, bd_some, one0, t0, t9, if_pos d1, eR2, in12, bd_some, one0, t0, t6, if_neg d2]
          · refine stop (fun n => ?_) (fun J n => ?_)
            · rw [w1, al0, bd_some, one0, if_pos d0, al1, bd_some, one0, if_neg d1]
            · rw [w2, in12, bd_some, one0, t0, t9, if_pos d0, eR1, in12, bd_some, one0, t0, t9, if_neg d1]
        · refine stop (fun n => ?_) (fun J n => ?_)
          · rw [w1, al0, bd_some, one0, if_neg d0]
          · rw [w2, in12, bd_some, one0, t0, t9, if_neg d0]
      · generalize hx : p2.toInt64 + ((3 : Int32) * nI k).toInt64 = x at ht stop hB
        by_cases c2 : 0 ≤ p2.toInt + 3 * k
        · have ex : ∀ v : Int64, v.toInt = 2 ∨ v.toInt = 3 → (x + v).toInt = p2.toInt + 3 * k + v.toInt := fun v hv => by
            rw [l_addI] <;> rw [ht] <;> omega
          refine stop (fun n => ?_) (fun J n => ?_)
          · unfold F_X6_welcomeFrom F_X10_size
            rw [full6 a2 a1, bd_some, if_pos c7, if_pos rfl, if_neg (fun e => by have := (lg_cmp_lt _ _).mp e; rw [l_lt, ht, l0] at this; omega), bd_some, hR.2.1, if_neg (fun e => by have := (lg_cmp_le _ _).mp e; rw [l_le, ex 3 (Or.inr rfl), l2m m m60, l3t] at this; omega)]
          · rw [hB, bnd_eq, if_neg (fun e => by have := (lg_cmp_lt _ _).mp e; rw [l_lt, ht, l0] at this; omega), if_pos ((lg_cmp_ge _ _).mpr (by rw [l_le, ex 2 (Or.inl rfl), l2m m m60, l2t]; omega))]
        · refine stop (fun n => ?_) (fun J n => ?_)
          · unfold F_X6_welcomeFrom
            rw [full6 a2 a1, bd_some, if_pos c7, if_pos rfl, if_pos ((lg_cmp_lt _ _).mpr (by rw [l_lt, ht, l0]; omega))]
          · rw [hB, bnd_eq, if_pos ((lg_cmp_lt _ _).mpr (by rw [l_lt, ht, l0]; omega))]
    · refine stop (fun n => ?_) (fun J n => ?_)
      · unfold F_X6_welcomeFrom
        rw [full6 a2 a1, bd_some, if_neg c7, if_neg (by decide)]
      · rw [hB, bnd_eq]
        split
        · rfl
        · split
          · rfl
          · rw [if_pos (by rw [nI7 a1]; omega)]
theorem b_people (p1 p2 p3 : Int32) : MStp Inv (fun n σ => F_X11_people n p1 p2 p3 σ) (fun n τ => F_X12_people n p1 p2 p3 τ) := mstp_of (fun σ τ hI => by
  obtain ⟨N, B, h1, h2, h3, h4, h5, h6, h7, h8, h9⟩ := id hI
  rcases per (N := 6) p1 with ⟨s, hs, rfl⟩ | c1
  · have es : (nI s).toNatClampNeg = s := nIc (by omega)
    by_cases c2 : 1 ≤ p3.toInt ∧ p3.toInt ≤ 7
    · obtain ⟨P, hP, rfl⟩ := i_natlt (n := 8) (x := p3) (by omega) (by omega)
      rw [i_n (by omega)] at c2
      have hX : ∀ n, F_X11_people n (nI s) p2 (nI P) σ = (bd (F_X10_isEmpty n (63 + 2 * s) σ) fun r5 s4 => if r5 = 0 then (bd (F_X10_hasBytes n (63 + 2 * s) s4) fun r7 s6 => if r7 = 0 then (some ((-12 : Int32), s6)) else (L_X11_people  n 1 (63 + 2 * s) p2 (nI P) (0 : Int32) s6)) else (some ((0 : Int32), s4))) := fun n => by
        unfold F_X11_people
        rw [sh11, bd_some, one0, if_pos (shI hs), if_neg (by rw [i_lt, i_n (by omega), t1]; omega), if_pos (by rw [i_le, i_n (by omega), t7]; omega), gd_eq (v6 hs), es]
      have hR : ∀ n, F_X12_people n (nI s) p2 (nI P) τ = (if (gI τ 31 s) = (-1 : Int32) then (L_X12_people  n 1 (nI s) p2 (nI P) 0 τ) else ((if (gI τ 31 s) = (-2 : Int32) then (L_X12_people  n 1 (nI s) p2 (nI P) 0 τ) else (some ((-12 : Int32), τ))))) := fun n => by
        unfold F_X12_people
        rw [sh12, bd_some, one0, if_pos (shI hs), in12, bd_some, one0, if_pos (by rw [t1, t7, i_n (by omega)]; omega), gd_eq (v6 hs), gd_eq (v6 hs), es]
      have hR1 : ∀ n, L_X12_people (n + 1) 1 (nI s) p2 (nI P) 0 τ = (if (gI τ 31 s) = (-1 : Int32) then (some ((0 : Int32), τ)) else (L_X12_people n 2 (nI s) p2 (nI P) (0 : Int32) τ)) := fun n => by
        show B_X12_people_1 (L_X12_people n) n (nI s) p2 (nI P) τ = _
        unfold B_X12_people_1
        rw [gd_eq (v6 hs), es]
      rcases sCl hs h8 h7.1 with ⟨a1, a2⟩ | ⟨a1, a2, b, a3, a4⟩ | ⟨q, m, a1, a2, a3, a4, a5, a6, a7, a8, a9⟩
      · refine ⟨0, σ, τ, Ev.const (fun n => ?_), ⟨1, fun n hn => ?_⟩, hI⟩
        · rw [hX, a1, bd_some, if_neg (by decide)]
        · obtain ⟨n, rfl⟩ : ∃ q, n = q + 1 := ⟨n - 1, by omega⟩
          show F_X12_people (n + 1) (nI s) p2 (nI P) τ = _
          rw [hR, if_pos a2, hR1, if_pos a2]
      · refine ⟨-12, σ, τ, Ev.const (fun n => ?_), Ev.const (fun n => ?_), hI⟩
        · unfold F_X10_hasBytes at hX
          rw [hX, a1, bd_some, if_pos rfl, a2, if_neg (by decide), bd_some, if_pos rfl]
        · rw [hR, a4, if_neg (nI_nm1 (by omega)), if_neg (by rw [i_eq, i_n (by omega), tm2]; omega)]
      · by_cases c : q = 0
        · subst c
          have hRw : Rw s m (fun i => (gL σ (63 + 2 * s + 1) i).toInt32) σ τ := ⟨a2, a7, a8, fun i hi => ⟨rfl, congrArg Int64.toInt32 (a9 i hi).symm⟩⟩
          obtain ⟨v, σ', τ', f1, f2, f3⟩ := pplL (B := B) hs (show P ≤ 7 by omega) p2 P 0 N σ τ (by omega) hRw h1 h2 h3 h4 h5 h6 h7 h8 h9
          refine ⟨v, σ', τ', ⟨P + 1, fun n hn => ?_⟩, ⟨P + 2, fun n hn => ?_⟩, f3⟩
          · unfold F_X10_hasBytes at hX
            show F_X11_people n (nI s) p2 (nI P) σ = _
            rw [hX, a3, bd_some, if_pos rfl, a4, if_pos (show nI 0 = 0 from rfl), bd_some, if_neg (by decide)]
            exact f1 n hn
          · obtain ⟨n, rfl⟩ : ∃ q, n = q + 1 := ⟨n - 1, by omega⟩
            show F_X12_people (n + 1) (nI s) p2 (nI P) τ = _
            rw [hR, a6, if_neg (by decide), if_pos (by decide), hR1, a6, if_neg (by decide)]
            exact f2 n (by omega)
        · refine ⟨-12, σ, τ, Ev.const (fun n => ?_), Ev.const (fun n => ?_), hI⟩
          · unfold F_X10_hasBytes at hX
            rw [hX, a3, bd_some, if_pos rfl, a4, if_neg (fun e => c ((q_0 q a1).mp e)), bd_some, if_pos rfl]
          · rw [hR, a6, if_neg (ho_nm1 q a1), if_neg (fun e => c ((ho_m2 q a1).mp e))]
    · refine ⟨-1, σ, τ, Ev.const (fun n => ?_), Ev.const (fun n => ?_), hI⟩
      · unfold F_X11_people
        rw [sh11, bd_some, one0, if_pos (shI hs)]
        by_cases c3 : p3.toInt < 1
        · rw [if_pos (by rw [i_lt, t1]; omega)]
        · rw [if_neg (by rw [i_lt, t1]; omega), if_neg (by rw [i_le, t7]; omega)]
      · unfold F_X12_people
        rw [sh12, bd_some, one0, if_pos (shI hs), in12, bd_some, one0, if_neg (by rw [t1, t7]; omega)]
  · refine ⟨-1, σ, τ, Ev.const (fun n => ?_), Ev.const (fun n => ?_), hI⟩
    · unfold F_X11_people
      rw [sh11, bd_some, one0, if_neg c1]
    · unfold F_X12_people
      rw [sh12, bd_some, one0, if_neg c1])
