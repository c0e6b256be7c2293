/-! course, ends -/
theorem folL {N s m : Nat} {r : Nat → Int32} {σ τ : St} {G : Nat → Nat → Int32 → Int32 → Nat → Int32 → Nat} (hG : Crt N σ τ G) (h1 : Pp N σ τ) (hs : s < 6) (hR : Rw s m r σ τ) (p : Int32) : ∀ (j k L : Nat) (σ' τ' : St), k + j = 20 → EqX σ σ' → EqR τ τ' → Th N σ' τ' 41 → gI σ' 13 2 = nI k → L ≤ 1000000 → gI σ' 13 3 = nI L → gI τ' 0 30 = nI L → Ge N p σ' τ' →
    ∃ (C k' : Nat) (σ'' τ'' : St), (∀ n, C ≤ n → L_X2_follow (63 + 2 * s) 37 n 1 p σ' = some ((), σ'')) ∧ (∀ n, C ≤ n → L_X12_goCourse n 2 (nI s) (nI k) 0 0 0 0 0 τ' = some (nI k', τ'')) ∧ EqX σ' σ'' ∧ EqR τ' τ'' ∧ Th N σ'' τ'' 41 ∧ gI σ'' 13 2 = nI k' ∧ gI σ'' 13 3 = gI τ'' 0 30 ∧ Ge N p σ'' τ''
  | 0, k, L, σ', τ', hk, hx, hr, hT, e2, hL, l1, l2, hg => by
    obtain rfl : k = 20 := by omega
    refine ⟨1, 20, σ', τ', fun n hn => ?_, fun n hn => ?_, EqX.rf _, EqR.rf _, hT, e2, l1.trans l2.symm, hg⟩
    · obtain ⟨n, rfl⟩ : ∃ q, n = q + 1 := ⟨n - 1, by omega⟩
      show B_X2_follow_1 (L_X2_follow (63 + 2 * s) 37 n) n (63 + 2 * s) 37 p σ' = _
      unfold B_X2_follow_1
      rw [e2, if_pos (by decide)]
    · obtain ⟨n, rfl⟩ : ∃ q, n = q + 1 := ⟨n - 1, by omega⟩
      show B_X12_goCourse_2 (L_X12_goCourse n) n (nI s) (nI 20) τ' = _
      unfold B_X12_goCourse_2
      rw [if_pos (by decide)]
      rfl
  | j + 1, k, L, σ', τ', hk, hx, hr, hT, e2, hL, l1, l2, hg => by
    obtain ⟨a1, a2, a3, a4⟩ := id h1
    have hR' := hR.eq hs hx hr
    have m60 := hR.1
    have xN : gI σ' 4 1 = nI N := (hx.g 4 (by decide) 1).trans a2
    have tN : gI τ' 0 1 = nI N := (hr.2 1 (by decide)).trans a3
    have n20 : ¬ (20 : Int32) ≤ nI k := by rw [i_le, i_n (by omega), t20]; omega
    obtain ⟨i1, i2, i3⟩ := isLetX xN a1 hR' (k := k) (by omega)
    have EX : ∀ n, L_X2_follow (63 + 2 * s) 37 (n + 1) 1 p σ' = B_X2_follow_1 (L_X2_follow (63 + 2 * s) 37 n) n (63 + 2 * s) 37 p σ' := fun _ => rfl
    have ER : ∀ n, L_X12_goCourse (n + 1) 2 (nI s) (nI k) 0 0 0 0 0 τ' = B_X12_goCourse_2 (L_X12_goCourse n) n (nI s) (nI k) τ' := fun _ => rfl
    have stop : (∀ n, F_X2_isLet n (63 + 2 * s) (nI k) σ' = some (0, σ')) → (∀ n, B_X12_goCourse_2 (L_X12_goCourse n) n (nI s) (nI k) τ' = some (nI k, τ')) → ∃ (C k' : Nat) (σ'' τ'' : St), (∀ n, C ≤ n → L_X2_follow (63 + 2 * s) 37 n 1 p σ' = some ((), σ'')) ∧ (∀ n, C ≤ n → L_X12_goCourse n 2 (nI s) (nI k) 0 0 0 0 0 τ' = some (nI k', τ'')) ∧ EqX σ' σ'' ∧ EqR τ' τ'' ∧ Th N σ'' τ'' 41 ∧ gI σ'' 13 2 = nI k' ∧ gI σ'' 13 3 = gI τ'' 0 30 ∧ Ge N p σ'' τ'' := fun q1 q2 => by
      refine ⟨1, k, σ', τ', fun n hn => ?_, fun n hn => ?_, EqX.rf _, EqR.rf _, hT, e2, l1.trans l2.symm, hg⟩
      · obtain ⟨n, rfl⟩ : ∃ q, n = q + 1 := ⟨n - 1, by omega⟩
        rw [EX]
        unfold B_X2_follow_1
        rw [e2, if_neg n20, q1, bd_some, if_pos rfl]
      · obtain ⟨n, rfl⟩ : ∃ q, n = q + 1 := ⟨n - 1, by omega⟩
        rw [ER]
        exact q2 n
    by_cases c : 3 * k + 3 ≤ m
    · have pre : ∀ (J : Nat → Int32 → Int32 → Int32 → Int32 → Int32 → Int32 → Int32 → St → Option (Int32 × St)) n, B_X12_goCourse_2 J n (nI s) (nI k) τ' = bd (F_X12_isLet n (r (3 * k)) (r (3 * k + 1)) τ') fun r12 s11 => if r12 = 0 then (some (nI k, s11)) else (bd (F_X12_in n (r (3 * k + 2)) (0 : Int32) (1 : Int32) s11) fun r14 s13 => if r14 = 0 then (some (nI k, s13)) else (bd (F_X12_winsBy n (r (3 * k)) (r (3 * k + 1)) s13) fun r16 s15 => bd (F_X12_twelfths n r16 (r (3 * k + 2)) s15) fun r18 s17 => gd (¬ (12 : Int64) = 0) (bnd (((((gI s13 0 30)).toInt64) * ((r18).toInt64)) / (12 : Int64)) fun x19 => bnd (sI s17 0 30 ((x19).toInt32)) fun s20 => if r (3 * k + 2) = (1 : Int32) then (if r (3 * k + 2) = (1 : Int32) then (J 3 (nI s) (nI k) (r (3 * k)) (r (3 * k + 1)) (r (3 * k + 2)) (r (3 * k + 1)) (r (3 * k)) s20) else (J 3 (nI s) (nI k) (r (3 * k)) (r (3 * k + 1)) (r (3 * k + 2)) (r (3 * k + 1)) (r (3 * k + 1)) s20)) else (if r (3 * k + 2) = (1 : Int32) then (J 3 (nI s) (nI k) (r (3 * k)) (r (3 * k + 1)) (r (3 * k + 2)) (r (3 * k)) (r (3 * k)) s20) else (J 3 (nI s) (nI k) (r (3 * k)) (r (3 * k + 1)) (r (3 * k + 2)) (r (3 * k)) (r (3 * k + 1)) s20))))) := fun J n => by
        unfold B_X12_goCourse_2
        rw [if_neg n20, gd_eq (v6 hs), nIc (by omega), hR'.2.2.1, n_m3, n_a2, if_pos (by rw [i_lt, i_n (by omega), i_n (by omega)]; omega), getR hs hR' (by omega), bd_some, n_a1, getR hs hR' (by omega), bd_some, getR hs hR' (by omega), bd_some]
      by_cases d : T2 N (r (3 * k)) (r (3 * k + 1))
      · obtain ⟨a, b, ha, hb, hab, f1, f2⟩ := d
        have hTa := (hT.2.1 a ha).1
        have il := i3 c a b ha hb hab f1 f2
        rcases b01 (r (3 * k + 2)) with ⟨won, ew⟩ | c1
        · obtain ⟨C, L', σ2, τ2, q1, q2, q3, q4, q5, q6, q7, q8, q9, q10⟩ := hearXR hG h1 hs hR' hx hr hT c won ha hb hab f1 f2 ew hL l1 l2 p hg
          by_cases cf : gI σ' 42 a = -1
          · have q3' : EqX σ' (sI σ2 13 2 (nI (k + 1))) := q3.trans EqX.o13
            obtain ⟨C', k', σ3, τ3, w1, w2, w3, w4, w5, w6, w7, w8⟩ := folL hG h1 hs hR p j (k + 1) L' (sI σ2 13 2 (nI (k + 1))) τ2 (by omega) (hx.trans q3') (hr.trans q4) (q5.at (by rw [gI_sI, if_neg (by decide)]) (fun i => by rw [gI_sI, if_neg (by decide)]) rfl (fun _ => rfl)) (by rw [gI_sI, if_pos rfl, if_pos rfl]) q6 (by rw [gI_sI, if_pos rfl, if_neg (by decide)]; exact q7) q8 (fun o ho hp => by rw [gI_sI, if_pos rfl, if_neg (by decide)]; exact q10 o ho hp)
            refine ⟨C + C' + 2, k', σ3, τ3, fun n hn => ?_, fun n hn => ?_, q3'.trans w3, q4.trans w4, w5, w6, w7, w8⟩
            · obtain ⟨n, rfl⟩ : ∃ q, n = q + 1 := ⟨n - 1, by omega⟩
              rw [EX]
              unfold B_X2_follow_1
              have rng : gI σ' 42 a = -1 ∧ -1 ≤ (r (3 * k + 2)).toInt ∧ (r (3 * k + 2)).toInt ≤ 1 := ⟨cf, by rw [ew]; have := (b01t won).1; omega, by rw [ew]; exact (b01t won).2⟩
              rw [e2, if_neg n20, il, bd_some, one0, if_pos rng, e2, endX hR' c, bd_some, ew, if_neg (by cases won <;> decide), e2, q1 n (by omega), bd_some, q9, e2, n_a1, bnd_eq]
              exact w1 n (by omega)
            · obtain ⟨n, rfl⟩ : ∃ q, n = q + 2 := ⟨n - 2, by omega⟩
              rw [ER, q2 n (by omega), if_neg n20, if_pos (by rw [← hTa]; exact cf)]
              exact w2 n (by omega)
          · refine stop (fun n => ?_) (fun n => ?_)
            · rw [il, if_neg (fun h => cf h.1)]
            · rw [pre, f1, f2, let12 a1 tN hT.bk _ ha hb hab, if_neg (by rw [← hTa]; exact cf), bd_some, if_pos rfl]
        · by_cases cf : gI σ' 42 a = -1 ∧ -1 ≤ (r (3 * k + 2)).toInt ∧ (r (3 * k + 2)).toInt ≤ 1
          · have em : r (3 * k + 2) = -1 := by rw [i_eq, tm1]; omega
            refine ⟨1, k, σ', τ', fun n hn => ?_, fun n hn => ?_, EqX.rf _, EqR.rf _, hT, e2, l1.trans l2.symm, hg⟩
            · obtain ⟨n, rfl⟩ : ∃ q, n = q + 1 := ⟨n - 1, by omega⟩
              rw [EX]
              unfold B_X2_follow_1
              rw [e2, if_neg n20, il, bd_some, one0, if_pos cf, e2, endX hR' c, bd_some, if_pos em]
            · obtain ⟨n, rfl⟩ : ∃ q, n = q + 1 := ⟨n - 1, by omega⟩
              rw [ER, pre, f1, f2, let12 a1 tN hT.bk _ ha hb hab, bd_some, one0, if_pos (by rw [← hTa]; exact cf.1), in01, bd_some, one0, if_neg c1]
          · refine stop (fun n => ?_) (fun n => ?_)
            · rw [il, if_neg cf]
            · rw [pre, f1, f2, let12 a1 tN hT.bk _ ha hb hab, bd_some, one0, in01, bd_some, one0, if_neg c1]
              split <;> rfl
      · refine stop (i2 c d) (fun n => ?_)
        rw [pre, let12G a1 tN d, bd_some, if_pos rfl]
    · refine stop (i1 c) (fun n => ?_)
      unfold B_X12_goCourse_2
      rw [if_neg n20, gd_eq (v6 hs), nIc (by omega), hR'.2.2.1, n_m3, n_a2, if_neg (by rw [i_lt, i_n (by omega), i_n (by omega)]; omega)]
theorem feeL (s : Int32) : ∀ (j i : Nat) (τ : St), i + j = 7 → ∃ τ', (∀ n, L_X12_goCourse (n + j + 1) 1 s (nI i) 0 0 0 0 0 τ = L_X12_goCourse n 2 s 0 0 0 0 0 0 τ') ∧ (∀ q, i ≤ q → q < 7 → gI τ' 19 q = 0) ∧ (∀ q, q < i → gI τ' 19 q = gI τ 19 q) ∧ (∀ c k, c ≠ 19 → gI τ' c k = gI τ c k) ∧ EqR τ τ'
  | 0, i, τ, hi => by
    obtain rfl : i = 7 := by omega
    refine ⟨τ, fun n => ?_, fun q h1 h2 => by omega, fun _ _ => rfl, fun _ _ _ => rfl, EqR.rf _⟩
    show B_X12_goCourse_1 (L_X12_goCourse n) n s (nI 7) τ = _
    unfold B_X12_goCourse_1
    rw [if_pos (by decide)]
  | j + 1, i, τ, hi => by
    obtain ⟨τ', e1, e2, e2', e3, e4⟩ := feeL s j (i + 1) (sI τ 19 i 0) (by omega)
    refine ⟨τ', fun n => ?_, fun q h1 h2 => ?_, fun q hq => by rw [e2' q (by omega), gI_sI, if_pos rfl, if_neg (by omega)], fun c k hc => ?_, (EqR.ofI (by decide) (by decide)).trans e4⟩
    · show B_X12_goCourse_1 (L_X12_goCourse (n + j + 1)) (n + j + 1) s (nI i) τ = _
      unfold B_X12_goCourse_1
      rw [if_neg (by rw [i_le, i_n (by omega), t7]; omega), gd_eq (nIin (by omega) (by decide)), nIc (by omega), bnd_eq, bnd_eq, n_a1]
      exact e1 n
    · by_cases c : q = i
      · rw [c, e2' i (by omega), gI_sI, if_pos rfl, if_pos rfl]
      · exact e2 q (by omega) h2
    · rw [e3 c k hc, gI_sI, if_neg hc]
theorem crsXR {N s m : Nat} {r : Nat → Int32} {σ τ : St} (h1 : Pp N σ τ) (h3 : Pb N σ τ) (h9 : Plaw σ τ) (hs : s < 6) (hR : Rw s m r σ τ) (p : Int32) : ∃ (C k' : Nat) (σ'' τ'' : St), (∀ n, C ≤ n → F_X2_follow n (63 + 2 * s) 37 p σ = some ((), σ'')) ∧ (∀ n, C ≤ n → F_X12_goCourse n (nI s) τ = some (nI k', τ'')) ∧ EqX σ σ'' ∧ EqR τ τ'' ∧ Th N σ'' τ'' 41 ∧ gI σ'' 13 2 = nI k' ∧ gI σ'' 13 3 = gI τ'' 0 30 ∧ Ge N p σ'' τ'' := by
  obtain ⟨a1, a2, a3, a4⟩ := id h1
  obtain ⟨G, hG⟩ := crt h1 h9
  obtain ⟨τ1, g1, g2, g3⟩ := beg12 h1 h3
  obtain ⟨τ2, e1, e2, _, e3, e4⟩ := feeL (nI s) 7 0 (sI τ1 0 30 1000000) rfl
  have T1 := g3.cp 41 a1
  have x1 : EqX σ (sI (sI (sI (cpX σ 41 37) 13 2 0) 13 3 1000000) 13 4 0) := (((cpX_eq σ 41 37 (by decide) (by decide) (by decide) (by decide)).trans EqX.o13).trans EqX.o13).trans EqX.o13
  have y1 : EqR τ τ2 := (g2.trans (EqR.of0 (by decide))).trans e4
  obtain ⟨C, k', σ3, τ3, w1, w2, w3, w4, w5, w6, w7, w8⟩ := folL hG h1 hs hR p 20 0 1000000 (sI (sI (sI (cpX σ 41 37) 13 2 0) 13 3 1000000) 13 4 0) τ2 rfl x1 y1 (T1.at (by simp [gI_sI]) (fun i => by simp [gI_sI]) (by rw [e3 0 27 (by decide), gI_sI, if_pos rfl, if_neg (by decide)]) (fun i => by rw [e3 17 i (by decide), gI_sI, if_neg (by decide)])) (by simp [gI_sI]; rfl) (by decide) (by simp [gI_sI]; rfl) (by rw [e3 0 30 (by decide), gI_sI, if_pos rfl, if_pos rfl]; rfl) (fun o ho hp => by rw [e2 o (by omega) (by omega), gI_sI, if_pos rfl, if_pos rfl])
  refine ⟨C + 16, k', σ3, τ3, fun n hn => ?_, fun n hn => ?_, x1.trans w3, y1.trans w4, w5, w6, w7, w8⟩
  · unfold F_X2_follow
    rw [cp1 n σ 41 37 (by decide), bd_some, bnd_eq, bnd_eq, bnd_eq]
    exact w1 n (by omega)
  · unfold F_X12_goCourse
    rw [g1 n (by omega), bd_some, bnd_eq]
    obtain ⟨n, rfl⟩ : ∃ q, n = q + 7 + 1 := ⟨n - 8, by omega⟩
    exact (e1 n).trans (w2 n (by omega))
theorem inN {τ : St} {N : Nat} (hN : gI τ 0 1 = nI N) (h7 : N ≤ 7) (n : Nat) (p : Int32) : F_X12_in n p (-1) (gI τ 0 1 - 1) τ = some (if -1 ≤ p.toInt ∧ p.toInt < N then 1 else 0, τ) := by
  have e : (nI N - 1).toInt = (N : Int) - 1 := by rw [i_sub _ _ (by rw [i_n (by omega), t1]; omega) (by rw [i_n (by omega), t1]; omega), i_n (by omega), t1]
  rw [in12, hN, e, tm1]
  by_cases c : -1 ≤ p.toInt ∧ p.toInt < N
  · rw [if_pos c, if_pos (by omega)]
  · rw [if_neg c, if_neg (by omega)]
theorem b_course (p1 p2 : Int32) : MStp Inv (fun n σ => F_X11_course n p1 p2 σ) (fun n τ => F_X12_course n p1 p2 τ) := mstp_of (fun σ τ hI => by
  obtain ⟨N, B, h1, h2, h3, h4, h5, h6, h7, h8, h9⟩ := id hI
  obtain ⟨a1, a2, a3, a4⟩ := id h1
  rcases per (N := 6) p1 with ⟨s, hs, rfl⟩ | c1
  · have es : (nI s).toNatClampNeg = s := nIc (by omega)
    by_cases c2 : -1 ≤ p2.toInt ∧ p2.toInt < N
    · have hX : ∀ n, F_X11_course n (nI s) p2 σ = L_X11_course n 1 (nI s) p2 σ := fun n => by
        unfold F_X11_course
        rw [sh11, bd_some, one0, if_pos (shI hs)]
        by_cases c : p2 = -1
        · rw [if_pos c]
        · rw [if_neg c, has6 a2 a1, bd_some, one0, if_pos]
          rw [i_eq, tm1] at c
          omega
      rcases rowC hs h7.1 h8 with ⟨q, q1, q2, q3, q4⟩ | ⟨⟨m, r, hR⟩, q2, q3, q4⟩
      · refine ⟨-2000000000, σ, τ, ⟨2, fun n hn => ?_⟩, Ev.const (fun n => ?_), hI⟩
        · show F_X11_course n (nI s) p2 σ = _
          obtain ⟨n, rfl⟩ : ∃ q, n = q + 1 := ⟨n - 1, by omega⟩
          rw [hX]
          show B_X11_course_1 (L_X11_course n) n (nI s) p2 σ = _
          unfold B_X11_course_1
          rw [gd_eq (v6 hs), es, q3, bd_some, if_pos rfl]
        · unfold F_X12_course
          rw [sh12, bd_some, one0, if_pos (shI hs), inN a3 a1, bd_some, one0, if_pos c2, q4, bd_some, if_neg q1]
      · obtain ⟨C, k', σ2, τ2, w1, w2, w3, w4, w5, w6, w7, w8⟩ := crsXR h1 h3 h9 hs hR p2
        have pX : ∀ n, C ≤ n → F_X11_course (n + 1) (nI s) p2 σ = if p2 = -1 then some (nI k', σ2) else bd (F_X2_boundTo n p2 σ2) fun r11 s10 => some (r11, s10) := fun n hn => by
          rw [hX]
          show B_X11_course_1 (L_X11_course n) n (nI s) p2 σ = _
          unfold B_X11_course_1 F_X2_heard
          rw [gd_eq (v6 hs), es, q3, bd_some, if_neg (by decide), gd_eq (v6 hs), w1 n hn, bd_some, w6]
          rfl
        have pR : ∀ n, C ≤ n → F_X12_course n (nI s) p2 τ = if 0 ≤ p2 then gd (vp_in p2 7) (some (gI τ2 17 p2.toNatClampNeg, τ2)) else some (nI k', τ2) := fun n hn => by
          unfold F_X12_course
          rw [sh12, bd_some, one0, if_pos (shI hs), inN a3 a1, bd_some, one0, if_pos c2, q4, bd_some, if_pos (by decide), w2 n hn, bd_some]
        by_cases c : p2 = -1
        · refine ⟨nI k', σ2, τ2, ⟨C + 1, fun n hn => ?_⟩, ⟨C, fun n hn => ?_⟩, hI.eq w3 w4⟩
          · show F_X11_course n (nI s) p2 σ = _
            obtain ⟨n, rfl⟩ : ∃ q, n = q + 1 := ⟨n - 1, by omega⟩
            rw [pX n (by omega), if_pos c]
          · show F_X12_course n (nI s) p2 τ = _
            rw [pR n hn, if_neg (by rw [c]; decide)]
        · obtain ⟨o, ho, rfl⟩ : ∃ o, o < N ∧ p2 = nI o := i_natlt (by rw [i_eq, tm1] at c; omega) c2.2
          refine ⟨gI τ2 17 o, σ2, τ2, ⟨C + 1, fun n hn => ?_⟩, ⟨C, fun n hn => ?_⟩, hI.eq w3 w4⟩
          · show F_X11_course n (nI s) (nI o) σ = _
            obtain ⟨n, rfl⟩ : ∃ q, n = q + 1 := ⟨n - 1, by omega⟩
            rw [pX n (by omega), if_neg c]
            unfold F_X2_boundTo
            rw [bound1 n 41 (by omega), bd_some, bd_some, (w5.2.1 o ho).1]
          · show F_X12_course n (nI s) (nI o) τ = _
            rw [pR n hn, if_pos (by rw [i_le, i_n (by omega), t0]; omega), gd_eq (nIin (by omega) (by decide)), nIc (by omega)]
    · refine ⟨-2000000000, σ, τ, Ev.const (fun n => ?_), Ev.const (fun n => ?_), hI⟩
      · unfold F_X11_course
        rw [sh11, bd_some, one0, if_pos (shI hs), if_neg (by rw [i_eq, tm1]; omega), has6 a2 a1, bd_some, one0, if_neg (by omega)]
      · unfold F_X12_course
        rw [sh12, bd_some, one0, if_pos (shI hs), inN a3 a1, bd_some, one0, if_neg c2]
  · refine ⟨-2000000000, σ, τ, Ev.const (fun n => ?_), Ev.const (fun n => ?_), hI⟩
    · unfold F_X11_course
      rw [sh11, bd_some, one0, if_neg c1]
    · unfold F_X12_course
      rw [sh12, bd_some, one0, if_neg c1])
theorem out01' {p : Int32} (h : ¬ (0 ≤ p.toInt ∧ p.toInt ≤ 1)) {β : Type} (a b : β) : (if p < 0 then a else if 1 < p then a else b) = a := by
  by_cases c : p < 0
  · rw [if_pos c]
  · rw [if_neg c, if_pos]
    rw [i_lt, t0] at c
    rw [i_lt, t1]
    omega
theorem in01' {p : Int32} (h : 0 ≤ p.toInt ∧ p.toInt ≤ 1) {β : Type} (a b : β) : (if p < 0 then a else if 1 < p then a else b) = b := by
  rw [if_neg (by rw [i_lt, t0]; omega), if_neg (by rw [i_lt, t1]; omega)]
theorem b_ends (p1 p2 p3 : Int32) : MStp Inv (fun n σ => F_X11_ends n p1 p2 p3 σ) (fun n τ => F_X12_ends n p1 p2 p3 τ) := mstp_of (fun σ τ hI => by
  obtain ⟨N, B, h1, h2, h3, h4, h5, h6, h7, h8, h9⟩ := id hI
  obtain ⟨a1, a2, a3, a4⟩ := id h1
  rcases per (N := 6) p1 with ⟨s, hs, rfl⟩ | c1
  · have es : (nI s).toNatClampNeg = s := nIc (by omega)
    rcases per (N := N) p2 with ⟨o, ho, rfl⟩ | c2
    · have pO := perI ho a1
      by_cases c3 : 0 ≤ p3.toInt ∧ p3.toInt ≤ 1
      · rcases rowC hs h7.1 h8 with ⟨q, q1, q2, q3, q4⟩ | ⟨⟨m, r, hR⟩, q2, q3, q4⟩
        · refine ⟨-2000000000, σ, τ, Ev.const (fun n => ?_), Ev.const (fun n => ?_), hI⟩
          · unfold F_X11_ends
            rw [sh11, bd_some, one0, if_pos (shI hs), has6 a2 a1, bd_some, one0, if_pos pO, in01' c3, gd_eq (v6 hs), es, q3, bd_some, if_pos rfl]
          · unfold F_X12_ends
            rw [sh12, bd_some, one0, if_pos (shI hs), in01, bd_some, one0, if_pos c3, isP12 a3 a1, bd_some, one0, if_pos pO, q4, bd_some, if_neg q1]
        · obtain ⟨C, k', σ2, τ2, w1, w2, w3, w4, w5, w6, w7, w8⟩ := crsXR h1 h3 h9 hs hR (nI o)
          refine ⟨if p3 = 0 then gI τ2 0 30 else gI τ2 19 o, σ2, τ2, ⟨C, fun n hn => ?_⟩, ⟨C, fun n hn => ?_⟩, hI.eq w3 w4⟩
          · show F_X11_ends n (nI s) (nI o) p3 σ = _
            unfold F_X11_ends F_X2_millionths F_X2_gained
            rw [sh11, bd_some, one0, if_pos (shI hs), has6 a2 a1, bd_some, one0, if_pos pO, in01' c3, gd_eq (v6 hs), es, q3, bd_some, if_neg (by decide), gd_eq (v6 hs), w1 n hn, bd_some, w7, w8 o ho rfl]
            split <;> rfl
          · show F_X12_ends n (nI s) (nI o) p3 τ = _
            unfold F_X12_ends
            rw [sh12, bd_some, one0, if_pos (shI hs), in01, bd_some, one0, if_pos c3, isP12 a3 a1, bd_some, one0, if_pos pO, q4, bd_some, if_pos (by decide), w2 n hn, bd_some]
            split
            · rfl
            · rw [gd_eq (nIin (by omega) (by decide)), nIc (by omega)]
      · refine ⟨-2000000000, σ, τ, Ev.const (fun n => ?_), Ev.const (fun n => ?_), hI⟩
        · unfold F_X11_ends
          rw [sh11, bd_some, one0, if_pos (shI hs), has6 a2 a1, bd_some, one0, if_pos pO, out01' c3]
        · unfold F_X12_ends
          rw [sh12, bd_some, one0, if_pos (shI hs), in01, bd_some, one0, if_neg c3]
    · refine ⟨-2000000000, σ, τ, Ev.const (fun n => ?_), Ev.const (fun n => ?_), hI⟩
      · unfold F_X11_ends
        rw [sh11, bd_some, one0, if_pos (shI hs), has6 a2 a1, bd_some, one0, if_neg c2]
      · unfold F_X12_ends
        rw [sh12, bd_some, one0, if_pos (shI hs), in01, bd_some, one0, isP12 a3 a1, bd_some, one0, if_neg c2]
        split <;> rfl
  · refine ⟨-2000000000, σ, τ, Ev.const (fun n => ?_), Ev.const (fun n => ?_), hI⟩
    · unfold F_X11_ends
      rw [sh11, bd_some, one0, if_neg c1]
    · unfold F_X12_ends
      rw [sh12, bd_some, one0, if_neg c1])
