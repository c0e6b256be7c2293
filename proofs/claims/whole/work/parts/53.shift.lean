/-! shift, people -/
/-- what a shelf holds, on both sides -/
theorem sCl {B : Nat} {σ τ : St} {s : Nat} (hs : s < 6) (h : Psh B σ τ) (hB : B ≤ 50) : ((∀ n, F_X10_isEmpty n (63 + 2 * s) σ = some (1, σ)) ∧ gI τ 31 s = -1) ∨ ((∀ n, F_X10_isEmpty n (63 + 2 * s) σ = some (0, σ)) ∧ gI σ (63 + 2 * s) 2 = -1 ∧ ∃ b : Nat, b < 50 ∧ gI τ 31 s = nI b) ∨ ∃ q m : Nat, q < 5 ∧ m ≤ 60 ∧ (∀ n, F_X10_isEmpty n (63 + 2 * s) σ = some (0, σ)) ∧ gI σ (63 + 2 * s) 2 = nI q ∧ gI σ (63 + 2 * s) 3 = -1 ∧ gI τ 31 s = -2 - nI q ∧ gI σ (63 + 2 * s) 1 = nI m ∧ gI τ 32 s = nI m ∧ ∀ i, i < m → gL σ (63 + 2 * s + 1) i = gL τ 33 (60 * s + i) := by
  rcases h s hs with ⟨a1, a2, a3⟩ | ⟨a1, b, a2, a3, a4⟩ | ⟨q, m, a1, a2, a3, a4, a5, a6, a7, a8⟩
  · refine Or.inl ⟨fun n => ?_, a3⟩
    unfold F_X10_isEmpty
    rw [if_pos a1, if_pos a2]
  · refine Or.inr (Or.inl ⟨fun n => ?_, a1, b, by omega, a4⟩)
    unfold F_X10_isEmpty
    rw [if_pos a1, if_neg (by rw [a3]; exact nI_nm1 (by omega))]
  · refine Or.inr (Or.inr ⟨q, m, a1, a2, fun n => ?_, a3, a4, a5, a6, a7, a8⟩)
    unfold F_X10_isEmpty
    rw [if_neg (by rw [a3]; exact nI_nm1 (by omega))]
theorem sh1L {s i o j m : Nat} (hs : s < 6) (hi : i + m ≤ 60) : ∀ (d k : Nat) (τ : St), k + d = m → ∃ τ', (∀ n, L_X12_shift (n + d + 1) 1 (nI s) (nI i) (nI o) (nI j) (nI m) (nI k) τ = L_X12_shift n 2 (nI o) (nI j) (nI m) 0 0 0 τ') ∧ (∀ q, k ≤ q → q < m → gL τ' 34 q = gL τ 33 (60 * s + i + q)) ∧ (∀ q, q < k → gL τ' 34 q = gL τ 34 q) ∧ (∀ c q, gI τ' c q = gI τ c q) ∧ ∀ c q, c ≠ 34 → gL τ' c q = gL τ c q
  | 0, k, τ, hk => by
    refine ⟨τ, fun n => ?_, fun q h1 h2 => by omega, fun _ _ => rfl, fun _ _ => rfl, fun _ _ _ => rfl⟩
    show B_X12_shift_1 (L_X12_shift n) n (nI s) (nI i) (nI o) (nI j) (nI m) (nI k) τ = _
    unfold B_X12_shift_1
    rw [if_pos (by rw [i_le, i_n (by omega), i_n (by omega)]; omega)]
  | d + 1, k, τ, hk => by
    obtain ⟨τ', e1, e2, e3, e4, e5⟩ := sh1L (o := o) (j := j) hs hi d (k + 1) (sL τ 34 k (gL τ 33 (60 * s + i + k))) (by omega)
    refine ⟨τ', fun n => ?_, fun q h1 h2 => ?_, fun q hq => ?_, fun c q => e4 c q, fun c q hc => ?_⟩
    · show B_X12_shift_1 (L_X12_shift (n + d + 1)) (n + d + 1) (nI s) (nI i) (nI o) (nI j) (nI m) (nI k) τ = _
      unfold B_X12_shift_1
      rw [if_neg (by rw [i_le, i_n (by omega), i_n (by omega)]; omega), n_m60, nI_add, nI_add, gd_eq (nIin (by omega) (by decide)), gd_eq (nIin (by omega) (by decide)), nIc (by omega), nIc (by omega), bnd_eq, n_a1, bnd_eq]
      exact e1 n
    · by_cases c : q = k
      · subst c
        rw [e3 q (by omega), gL_sL, if_pos rfl, if_pos rfl]
      · rw [e2 q (by omega) h2, gL_sL, if_neg (by decide)]
    · rw [e3 q (by omega), gL_sL, if_pos rfl, if_neg (by omega)]
    · rw [e5 c q hc, gL_sL, if_neg hc]
theorem sh2L {o j m : Nat} (ho : o < 6) (hj : j + m ≤ 60) : ∀ (d k : Nat) (τ : St), k + d = m → ∃ τ', (∀ n, d + 1 ≤ n → L_X12_shift n 2 (nI o) (nI j) (nI m) (nI k) 0 0 τ = some (nI m, τ')) ∧ (∀ q, k ≤ q → q < m → gL τ' 33 (60 * o + j + q) = gL τ 34 q) ∧ (∀ x, x < 60 * o + j + k ∨ 60 * o + j + m ≤ x → gL τ' 33 x = gL τ 33 x) ∧ (∀ c q, gI τ' c q = gI τ c q) ∧ ∀ c q, c ≠ 33 → gL τ' c q = gL τ c q
  | 0, k, τ, hk => by
    refine ⟨τ, fun n hn => ?_, fun q h1 h2 => by omega, fun _ _ => rfl, fun _ _ => rfl, fun _ _ _ => rfl⟩
    obtain ⟨n, rfl⟩ : ∃ q, n = q + 1 := ⟨n - 1, by omega⟩
    show B_X12_shift_2 (L_X12_shift n) n (nI o) (nI j) (nI m) (nI k) τ = _
    unfold B_X12_shift_2
    rw [if_pos (by rw [i_le, i_n (by omega), i_n (by omega)]; omega)]
  | d + 1, k, τ, hk => by
    obtain ⟨τ', e1, e2, e3, e4, e5⟩ := sh2L ho hj d (k + 1) (sL τ 33 (60 * o + j + k) (gL τ 34 k)) (by omega)
    refine ⟨τ', fun n hn => ?_, fun q h1 h2 => ?_, fun x hx => ?_, fun c q => e4 c q, fun c q hc => ?_⟩
    · obtain ⟨n, rfl⟩ : ∃ q, n = q + 1 := ⟨n - 1, by omega⟩
      show B_X12_shift_2 (L_X12_shift n) n (nI o) (nI j) (nI m) (nI k) τ = _
      unfold B_X12_shift_2
      rw [if_neg (by rw [i_le, i_n (by omega), i_n (by omega)]; omega), n_m60, nI_add, nI_add, gd_eq (nIin (by omega) (by decide)), gd_eq (nIin (by omega) (by decide)), nIc (by omega), nIc (by omega), bnd_eq, n_a1, bnd_eq]
      exact e1 n (by omega)
    · by_cases c : q = k
      · subst c
        rw [e3 _ (by omega), gL_sL, if_pos rfl, if_pos rfl]
      · rw [e2 q (by omega) h2, gL_sL, if_neg (by decide)]
    · rw [e3 x (by omega), gL_sL, if_pos rfl, if_neg (by omega)]
    · rw [e5 c q hc, gL_sL, if_neg hc]
/-- a part that is there -/
def prt (m : Nat) (p k : Int32) : Prop := 0 ≤ p.toInt ∧ 0 ≤ k.toInt ∧ p.toInt + k.toInt ≤ m
theorem sz_sub {m : Nat} (hm : m ≤ 60) {k : Int32} (hk : 0 ≤ k.toInt) : (nI m - k).toInt = (m : Int) - k.toInt := by
  have := i_rng k
  rw [i_sub] <;> rw [i_n (by omega)] <;> omega
theorem part10 {σ : St} {c m : Nat} (hm : m ≤ 60) (h : gI σ c 1 = nI m) (p k : Int32) : (prt m p k ∧ ∀ n, F_X10_hasPart n c p k σ = some (1, σ)) ∨ (¬ prt m p k ∧ ∀ n, F_X10_hasPart n c p k σ = some (0, σ)) := by
  have key : ∀ n, F_X10_hasPart n c p k σ = if p < 0 then (some ((0 : Int32), σ)) else (if k < 0 then (some ((0 : Int32), σ)) else (if nI m < k then (some ((0 : Int32), σ)) else (if nI m - k < p then (some ((0 : Int32), σ)) else (some ((1 : Int32), σ))))) := fun n => by
    unfold F_X10_hasPart
    rw [h]
  by_cases c1 : 0 ≤ p.toInt
  · by_cases c2 : 0 ≤ k.toInt
    · have e := sz_sub hm c2
      by_cases c3 : p.toInt + k.toInt ≤ m
      · exact Or.inl ⟨⟨c1, c2, c3⟩, fun n => by rw [key, if_neg (by rw [i_lt, t0]; omega), if_neg (by rw [i_lt, t0]; omega), if_neg (by rw [i_lt, i_n (by omega)]; omega), if_neg (by rw [i_lt, e]; omega)]⟩
      · refine Or.inr ⟨fun h => c3 h.2.2, fun n => ?_⟩
        rw [key, if_neg (by rw [i_lt, t0]; omega), if_neg (by rw [i_lt, t0]; omega)]
        split
        · rfl
        · rw [if_pos (by rw [i_lt, e]; omega)]
    · exact Or.inr ⟨fun h => c2 h.2.1, fun n => by rw [key, if_neg (by rw [i_lt, t0]; omega), if_pos (by rw [i_lt, t0]; omega)]⟩
  · exact Or.inr ⟨fun h => c1 h.1, fun n => by rw [key, if_pos (by rw [i_lt, t0]; omega)]⟩
theorem ho_inj : ∀ q, q < 5 → ∀ q', q' < 5 → ((-2 : Int32) - nI q = -2 - nI q' ↔ q = q') := by decide
theorem ho_ne (q b : Nat) (hq : q < 5) (hb : b < 50) : ¬ (-2 : Int32) - nI q = nI b := fun e => by
  have := ho_lt q hq
  rw [e, i_lt, i_n (by omega), t0] at this
  omega
theorem b_shift (p1 p2 p3 p4 p5 : Int32) : MStp Inv (fun n σ => F_X11_shift n p1 p2 p3 p4 p5 σ) (fun n τ => F_X12_shift n p1 p2 p3 p4 p5 τ) := mstp_of (fun σ τ hI => by
  obtain ⟨N, B, h1, h2, h3, h4, h5, h6, h7, h8, h9⟩ := id hI
  rcases per (N := 6) p1 with ⟨s, hs, rfl⟩ | c1
  · rcases per (N := 6) p3 with ⟨o, ho, rfl⟩ | c2
    · have es : (nI s).toNatClampNeg = s := nIc (by omega)
      have eo : (nI o).toNatClampNeg = o := nIc (by omega)
      have hX : ∀ n, F_X11_shift n (nI s) p2 (nI o) p4 p5 σ = bd (F_X10_isEmpty n (63 + 2 * s) σ) fun r8 s7 => if r8 = 0 then (bd (F_X10_isEmpty n (63 + 2 * o) s7) fun r10 s9 => if r10 = 0 then (bd (F_X10_isLike n (63 + 2 * s) (63 + 2 * o) s9) fun r12 s11 => if r12 = 0 then (some ((-12 : Int32), s11)) else (bd (F_X10_hasPart n (63 + 2 * s) p2 p5 s11) fun r14 s13 => if r14 = 0 then (some ((-13 : Int32), s13)) else (bd (F_X10_hasPart n (63 + 2 * o) p4 p5 s13) fun r16 s15 => if r16 = 0 then (some ((-13 : Int32), s15)) else (bd (F_X10_copyPart n (63 + 2 * s) (63 + 2 * o) p2 p4 p5 s15) fun _ s17 => some (p5, s17))))) else (some ((-11 : Int32), s9))) else (some ((-11 : Int32), s7)) := fun n => by
        unfold F_X11_shift
        rw [sh11, bd_some, one0, if_pos (shI hs), sh11, bd_some, one0, if_pos (shI ho), gd_eq (v6 hs), gd_eq (v6 ho), es, eo]
      have hR : ∀ n, F_X12_shift n (nI s) p2 (nI o) p4 p5 τ = if (gI τ 31 s) = (-1 : Int32) then (some ((-11 : Int32), τ)) else (if (gI τ 31 o) = (-1 : Int32) then (some ((-11 : Int32), τ)) else (if 0 ≤ (gI τ 31 s) then (some ((-12 : Int32), τ)) else (if (gI τ 31 s) = (gI τ 31 o) then (if p5 < 0 then (some ((-13 : Int32), τ)) else (if p2 < 0 then (some ((-13 : Int32), τ)) else (if p4 < 0 then (some ((-13 : Int32), τ)) else (if ((gI τ 32 s) - p5) < p2 then (some ((-13 : Int32), τ)) else (if p4 ≤ ((gI τ 32 o) - p5) then (L_X12_shift  n 1 (nI s) p2 (nI o) p4 p5 (0 : Int32) τ) else (some ((-13 : Int32), τ))))))) else (some ((-12 : Int32), τ))))) := fun n => by
        unfold F_X12_shift
        rw [sh12, bd_some, one0, if_pos (shI hs), sh12, bd_some, one0, if_pos (shI ho)]
        simp only [gd_eq (v6 hs), gd_eq (v6 ho), es, eo]
      rcases sCl hs h8 h7.1 with ⟨a1, a2⟩ | ⟨a1, a2, b, a3, a4⟩ | ⟨q, m, a1, a2, a3, a4, a5, a6, a7, a8, a9⟩
      · exact ⟨-11, σ, τ, Ev.const (fun n => by rw [hX, a1, bd_some, if_neg (by decide)]), Ev.const (fun n => by rw [hR, if_pos a2]), hI⟩
      · have nb := nI_nm1 (show b < 2147483648 by omega)
        rcases sCl ho h8 h7.1 with ⟨b1, b2⟩ | ⟨b1, b2⟩ | ⟨q', m', b1, b2, b3, b4⟩
        · exact ⟨-11, σ, τ, Ev.const (fun n => by rw [hX, a1, bd_some, if_pos rfl, b1, bd_some, if_neg (by decide)]), Ev.const (fun n => by rw [hR, a4, if_neg nb, if_pos b2]), hI⟩
        · obtain ⟨b3, b', b4, b5⟩ := b2
          refine ⟨-12, σ, τ, Ev.const (fun n => ?_), Ev.const (fun n => ?_), hI⟩
          · unfold F_X10_isLike at hX
            rw [hX, a1, bd_some, if_pos rfl, b1, bd_some, if_pos rfl, if_pos a2, bd_some, if_pos rfl]
          · rw [hR, a4, b5, if_neg nb, if_neg (nI_nm1 (by omega)), if_pos (by rw [i_le, t0, i_n (by omega)]; omega)]
        · obtain ⟨b5, b6, b7⟩ := b4
          refine ⟨-12, σ, τ, Ev.const (fun n => ?_), Ev.const (fun n => ?_), hI⟩
          · unfold F_X10_isLike at hX
            rw [hX, a1, bd_some, if_pos rfl, b3, bd_some, if_pos rfl, if_pos a2, bd_some, if_pos rfl]
          · rw [hR, a4, b7.1, if_neg nb, if_neg (ho_nm1 q' b1), if_pos (by rw [i_le, t0, i_n (by omega)]; omega)]
      · have nq : ¬ nI q = -1 := nI_nm1 (by omega)
        have n0 : ¬ 0 ≤ (-2 : Int32) - nI q := by have := ho_lt q a1; rw [i_le]; rw [i_lt] at this; omega
        rcases sCl ho h8 h7.1 with ⟨b1, b2⟩ | ⟨b1, b2, b, b3, b4⟩ | ⟨q', m', b1, b2, b3, b4, b5, b6, b7, b8, b9⟩
        · exact ⟨-11, σ, τ, Ev.const (fun n => by rw [hX, a3, bd_some, if_pos rfl, b1, bd_some, if_neg (by decide)]), Ev.const (fun n => by rw [hR, a6, if_neg (ho_nm1 q a1), if_pos b2]), hI⟩
        · refine ⟨-12, σ, τ, Ev.const (fun n => ?_), Ev.const (fun n => ?_), hI⟩
          · unfold F_X10_isLike at hX
            rw [hX, a3, bd_some, if_pos rfl, b1, bd_some, if_pos rfl, a4, if_neg nq, b2, if_neg nq, bd_some, if_pos rfl]
          · rw [hR, a6, b4, if_neg (ho_nm1 q a1), if_neg (nI_nm1 (by omega)), if_neg n0, if_neg (ho_ne q b a1 b3)]
        · by_cases cq : q = q'
          · subst cq
            have hX2 : ∀ n, F_X11_shift n (nI s) p2 (nI o) p4 p5 σ = (bd (F_X10_hasPart n (63 + 2 * s) p2 p5 σ) fun r14 s13 => if r14 = 0 then (some ((-13 : Int32), s13)) else (bd (F_X10_hasPart n (63 + 2 * o) p4 p5 s13) fun r16 s15 => if r16 = 0 then (some ((-13 : Int32), s15)) else (bd (F_X10_copyPart n (63 + 2 * s) (63 + 2 * o) p2 p4 p5 s15) fun _ s17 => some (p5, s17)))) := fun n => by
              unfold F_X10_isLike at hX
              rw [hX, a3, bd_some, if_pos rfl, b3, bd_some, if_pos rfl, a4, if_neg nq, b4, if_pos rfl, bd_some, if_neg (by decide)]
            have hR2 : ∀ n, F_X12_shift n (nI s) p2 (nI o) p4 p5 τ = (if p5 < 0 then (some ((-13 : Int32), τ)) else (if p2 < 0 then (some ((-13 : Int32), τ)) else (if p4 < 0 then (some ((-13 : Int32), τ)) else (if (nI m - p5) < p2 then (some ((-13 : Int32), τ)) else (if p4 ≤ (nI m' - p5) then (L_X12_shift  n 1 (nI s) p2 (nI o) p4 p5 (0 : Int32) τ) else (some ((-13 : Int32), τ))))))) := fun n => by
              rw [hR, a6, b6, if_neg (ho_nm1 q a1), if_neg (ho_nm1 q a1), if_neg n0, if_pos rfl, a8, b8]
            have bad : ¬ (prt m p2 p5 ∧ prt m' p4 p5) → ∀ n, F_X12_shift n (nI s) p2 (nI o) p4 p5 τ = some (-13, τ) := fun hb n => by
              rw [hR2]
              by_cases d1 : 0 ≤ p5.toInt
              · rw [if_neg (by rw [i_lt, t0]; omega)]
                by_cases d2 : 0 ≤ p2.toInt
                · rw [if_neg (by rw [i_lt, t0]; omega)]
                  by_cases d3 : 0 ≤ p4.toInt
                  · rw [if_neg (by rw [i_lt, t0]; omega)]
                    have e1 := sz_sub a2 d1
                    have e2 := sz_sub b2 d1
                    by_cases d4 : p2.toInt + p5.toInt ≤ m
                    · have d5 : ¬ p4.toInt + p5.toInt ≤ m' := fun h => hb ⟨⟨d2, d1, d4⟩, ⟨d3, d1, h⟩⟩
                      rw [if_neg (by rw [i_lt, e1]; omega), if_neg (by rw [i_le, e2]; omega)]
                    · rw [if_pos (by rw [i_lt, e1]; omega)]
                  · rw [if_pos (by rw [i_lt, t0]; omega)]
                · rw [if_pos (by rw [i_lt, t0]; omega)]
              · rw [if_pos (by rw [i_lt, t0]; omega)]
            rcases part10 (σ := σ) (c := 63 + 2 * s) a2 a7 p2 p5 with ⟨w1, w2⟩ | ⟨w1, w2⟩
            · rcases part10 (σ := σ) (c := 63 + 2 * o) b2 b7 p4 p5 with ⟨w3, w4⟩ | ⟨w3, w4⟩
              · obtain ⟨i, hi, rfl, hi2⟩ := i_nat w1.1
                obtain ⟨k, hk, rfl, hk2⟩ := i_nat w1.2.1
                obtain ⟨j, hj, rfl, hj2⟩ := i_nat w3.1
                have l1 : i + k ≤ m := by have := w1.2.2; omega
                have l2 : j + k ≤ m' := by have := w3.2.2; omega
                obtain ⟨τ1, e1, e2, e3, e4, e5⟩ := sh1L (o := o) (j := j) hs (show i + k ≤ 60 by omega) k 0 τ (by omega)
                obtain ⟨τ2, f1, f2, f3, f4, f5⟩ := sh2L ho (show j + k ≤ 60 by omega) k 0 τ1 (by omega)
                refine ⟨nI k, cL σ (63 + 2 * s + 1) (63 + 2 * o + 1) i j k, τ2, Ev.const (fun n => ?_), ⟨2 * k + 2, fun n hn => ?_⟩, restS h1 h2 h3 h4 h5 h6 h7 (h8.up (s := o) ?_ (fun c x q1 q2 q3 => ⟨rfl, by rw [gL_cL, if_neg q3]⟩) (fun x hx => ⟨(f4 _ _).trans (e4 _ _), (f4 _ _).trans (e4 _ _)⟩) (fun x hx => by rw [f3 x (by omega), e5 33 x (by decide)])) h9 (fun c x hc => rfl) (fun c x hc => (f4 _ _).trans (e4 _ _))⟩
                · rw [hX2, w2, bd_some, if_neg (by decide), w4, bd_some, if_neg (by decide)]
                  unfold F_X10_copyPart
                  rw [w2, bd_some, if_neg (by decide), w4, bd_some, if_neg (by decide), nIc hi, nIc hj, nIc hk, gd_eq ⟨by rw [i_lt, t0]; omega, by rw [i_lt, t0]; omega, by rw [i_lt, t0]; omega, by omega, by omega⟩, bnd_eq, bd_some]
                · show F_X12_shift n (nI s) (nI i) (nI o) (nI j) (nI k) τ = _
                  rw [hR2, if_neg (by rw [i_lt, t0]; omega), if_neg (by rw [i_lt, t0]; omega), if_neg (by rw [i_lt, t0]; omega), if_neg (by rw [i_lt, sz_sub a2 w1.2.1]; omega), if_pos (by rw [i_le, sz_sub b2 w1.2.1]; omega)]
                  obtain ⟨n, rfl⟩ : ∃ q, n = q + k + 1 := ⟨n - k - 1, by omega⟩
                  exact (e1 n).trans (f1 n (by omega))
                · refine Or.inr (Or.inr ⟨q, m', a1, b2, b4, b5, ((f4 _ _).trans (e4 _ _)).trans b6, b7, ((f4 _ _).trans (e4 _ _)).trans b8, fun x hx => ?_⟩)
                  show gL (cL σ (63 + 2 * s + 1) (63 + 2 * o + 1) i j k) (63 + 2 * o + 1) x = gL τ2 33 (60 * o + x)
                  rw [gL_cL, if_pos rfl]
                  by_cases c : j ≤ x ∧ x < j + k
                  · rw [if_pos c, a9 _ (by omega)]
                    have g1 := f2 (x - j) (by omega) (by omega)
                    rw [show 60 * o + j + (x - j) = 60 * o + x by omega] at g1
                    rw [g1, e2 (x - j) (by omega) (by omega), show 60 * s + i + (x - j) = 60 * s + (i + (x - j)) by omega]
                  · rw [if_neg c, f3 _ (by omega), e5 33 _ (by decide)]
                    exact b9 x hx
              · exact ⟨-13, σ, τ, Ev.const (fun n => by rw [hX2, w2, bd_some, if_neg (by decide), w4, bd_some, if_pos rfl]), Ev.const (fun n => bad (fun h => w3 h.2) n), hI⟩
            · exact ⟨-13, σ, τ, Ev.const (fun n => by rw [hX2, w2, bd_some, if_pos rfl]), Ev.const (fun n => bad (fun h => w1 h.1) n), hI⟩
          · refine ⟨-12, σ, τ, Ev.const (fun n => ?_), Ev.const (fun n => ?_), hI⟩
            · unfold F_X10_isLike at hX
              rw [hX, a3, bd_some, if_pos rfl, b3, bd_some, if_pos rfl, a4, if_neg nq, b4, if_neg (by rw [nI_inj (by omega) (by omega)]; exact cq), bd_some, if_pos rfl]
            · rw [hR, a6, b6, if_neg (ho_nm1 q a1), if_neg (ho_nm1 q' b1), if_neg n0, if_neg (fun e => cq ((ho_inj q a1 q' b1).mp e))]
    · refine ⟨-1, σ, τ, Ev.const (fun n => ?_), Ev.const (fun n => ?_), hI⟩
      · unfold F_X11_shift
        rw [sh11, bd_some, one0, if_pos (shI hs), sh11, bd_some, one0, if_neg c2]
      · unfold F_X12_shift
        rw [sh12, bd_some, one0, if_pos (shI hs), sh12, bd_some, one0, if_neg c2]
  · refine ⟨-1, σ, τ, Ev.const (fun n => ?_), Ev.const (fun n => ?_), hI⟩
    · unfold F_X11_shift
      rw [sh11, bd_some, one0, if_neg c1]
    · unfold F_X12_shift
      rw [sh12, bd_some, one0, if_neg c1])
