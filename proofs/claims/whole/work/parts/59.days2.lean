/-! days: the reference -/
def F24 (τ τ' : St) : Prop := (∀ c q, c ≠ 24 → c ≠ 25 → (c ≠ 0 ∨ q ≠ 39) → gI τ' c q = gI τ c q) ∧ ∀ c q, gL τ' c q = gL τ c q
theorem F24.rf (σ : St) : F24 σ σ := ⟨fun _ _ _ _ _ => rfl, fun _ _ => rfl⟩
theorem F24.tr {a b c : St} (h : F24 a b) (h2 : F24 b c) : F24 a c := ⟨fun x q h3 h4 h5 => (h2.1 x q h3 h4 h5).trans (h.1 x q h3 h4 h5), fun x q => (h2.2 x q).trans (h.2 x q)⟩
theorem F24.s (σ : St) (k : Nat) (v : Int32) : F24 σ (sI σ 24 k v) := ⟨fun c q h1 h2 h3 => by rw [gI_sI, if_neg h1], fun _ _ => rfl⟩
theorem F24.s5 (σ : St) (k : Nat) (v : Int32) : F24 σ (sI σ 25 k v) := ⟨fun c q h1 h2 h3 => by rw [gI_sI, if_neg h2], fun _ _ => rfl⟩
theorem F24.s0 (σ : St) (v : Int32) : F24 σ (sI σ 0 39 v) := ⟨fun c q h1 h2 h3 => by
  by_cases e : c = 0
  · subst e
    rw [gI_sI, if_pos rfl, if_neg (by omega)]
  · rw [gI_sI, if_neg e], fun _ _ => rfl⟩
theorem F24.eq {σ σ' : St} (h : F24 σ σ') : EqR σ σ' := ⟨fun c hc k => ⟨h.1 c k (nin hc (by decide)) (nin hc (by decide)) (Or.inl (nin hc (by decide))), h.2 c k⟩, fun k hk => h.1 0 k (by decide) (by decide) (Or.inr (nin hk (by decide)))⟩
theorem DR.fr {K : Nat} {A C : Nat → Nat} {σ σ' : St} (h : DR K A C σ) (hf : F24 σ σ') : DR K A C σ' := ⟨(hf.1 0 36 (by decide) (by decide) (Or.inr (by decide))).trans h.1, fun i hi => ⟨(h.2 i hi).1, (h.2 i hi).2.1, (hf.1 22 i (by decide) (by decide) (Or.inl (by decide))).trans (h.2 i hi).2.2.1, (hf.1 23 i (by decide) (by decide) (Or.inl (by decide))).trans (h.2 i hi).2.2.2⟩⟩
section DAYSR
variable {K : Nat} {A C : Nat → Nat}
theorem hearL {τ : St} {k x : Nat} {d : Nat → Nat} (hK : K ≤ 6) (hD : DR K A C τ) (hk : k < K) (hx : x < 8) (hxk : gI τ 24 k = nI x) (hd : ∀ i, i < k → d i < 8 ∧ gI τ 24 i = nI (d i)) : ∀ (j i : Nat), i + j = k → ((∀ q, i ≤ q → q < k → ¬ (d q = x ∧ mtt A C q k)) ∧ ∀ n, j + 1 ≤ n → L_X12_mayHear n 1 (nI k) (nI i) τ = some (1, τ)) ∨ ((¬ ∀ q, i ≤ q → q < k → ¬ (d q = x ∧ mtt A C q k)) ∧ ∀ n, j + 1 ≤ n → L_X12_mayHear n 1 (nI k) (nI i) τ = some (0, τ))
  | 0, i, hi => by
    refine Or.inl ⟨fun q q1 q2 => by omega, fun n hn => ?_⟩
    obtain ⟨n, rfl⟩ : ∃ q, n = q + 1 := ⟨n - 1, by omega⟩
    show B_X12_mayHear_1 (L_X12_mayHear n) n (nI k) (nI i) τ = _
    unfold B_X12_mayHear_1
    rw [if_pos (by rw [i_le, i_n (by omega), i_n (by omega)]; omega)]
  | j + 1, i, hi => by
    have ih := hearL hK hD hk hx hxk hd j (i + 1) (by omega)
    obtain ⟨a1, a2, a3, a4⟩ := hD.2 i (by omega)
    obtain ⟨b1, b2, b3, b4⟩ := hD.2 k hk
    obtain ⟨d1, d2⟩ := hd i (by omega)
    have pre : ∀ n, L_X12_mayHear (n + 1) 1 (nI k) (nI i) τ = if d i = x then (if A i = C k then some (0, τ) else if C i = A k then some (0, τ) else L_X12_mayHear n 1 (nI k) (nI (i + 1)) τ) else L_X12_mayHear n 1 (nI k) (nI (i + 1)) τ := fun n => by
      show B_X12_mayHear_1 (L_X12_mayHear n) n (nI k) (nI i) τ = _
      unfold B_X12_mayHear_1
      rw [if_neg (by rw [i_le, i_n (by omega), i_n (by omega)]; omega)]
      simp only [gd_eq (show vp_in (nI i) 10 from nIin (by omega) (by decide)), gd_eq (show vp_in (nI k) 10 from nIin (by omega) (by decide)), gd_eq (show vp_in (nI i) 6 from nIin (by omega) (by decide)), gd_eq (show vp_in (nI k) 6 from nIin (by omega) (by decide)), nIc (show i < 2147483648 by omega), nIc (show k < 2147483648 by omega), a3, a4, b3, b4, d2, hxk, nI_inj (show A i < 2147483648 by omega) (show C k < 2147483648 by omega), nI_inj (show C i < 2147483648 by omega) (show A k < 2147483648 by omega), nI_inj (show d i < 2147483648 by omega) (show x < 2147483648 by omega), bnd_eq, n_a1]
    by_cases c : d i = x ∧ mtt A C i k
    · refine Or.inr ⟨fun h => h i (by omega) (by omega) c, fun n hn => ?_⟩
      obtain ⟨n, rfl⟩ : ∃ q, n = q + 1 := ⟨n - 1, by omega⟩
      rw [pre, if_pos c.1]
      by_cases c1 : A i = C k
      · rw [if_pos c1]
      · rw [if_neg c1, if_pos (c.2.resolve_left c1)]
    · have go : ∀ n, L_X12_mayHear (n + 1) 1 (nI k) (nI i) τ = L_X12_mayHear n 1 (nI k) (nI (i + 1)) τ := fun n => by
        rw [pre]
        by_cases c1 : d i = x
        · rw [if_pos c1, if_neg (fun h => c ⟨c1, Or.inl h⟩), if_neg (fun h => c ⟨c1, Or.inr h⟩)]
        · rw [if_neg c1]
      rcases ih with ⟨i1, i2⟩ | ⟨i1, i2⟩
      · refine Or.inl ⟨fun q q1 q2 => ?_, fun n hn => ?_⟩
        · by_cases e : q = i
          · rw [e]; exact c
          · exact i1 q (by omega) q2
        · obtain ⟨n, rfl⟩ : ∃ q, n = q + 1 := ⟨n - 1, by omega⟩
          rw [go]
          exact i2 n (by omega)
      · refine Or.inr ⟨fun h => i1 (fun q q1 q2 => h q (by omega) q2), fun n hn => ?_⟩
        obtain ⟨n, rfl⟩ : ∃ q, n = q + 1 := ⟨n - 1, by omega⟩
        rw [go]
        exact i2 n (by omega)
theorem bestL (O : Nat → Nat → Int32 → Int32 → St → Option (Unit × St)) (hK : K ≤ 6) : ∀ (j i : Nat) (τ : St), i + j = K → gI τ 0 36 = nI K → ∃ τ', F24 τ τ' ∧ (∀ q, gI τ' 24 q = gI τ 24 q) ∧ gI τ' 0 39 = gI τ 0 39 ∧ (∀ q, i ≤ q → q < K → gI τ' 25 q = gI τ 24 q) ∧ (∀ q, q < i → gI τ' 25 q = gI τ 25 q) ∧ ∀ n, j + 1 ≤ n → L_X12_goDays O n 2 (nI i) 0 0 τ = some ((), τ')
  | 0, i, τ, hi, hN => by
    refine ⟨τ, F24.rf τ, fun _ => rfl, rfl, fun q q1 q2 => by omega, fun _ _ => rfl, fun n hn => ?_⟩
    obtain ⟨n, rfl⟩ : ∃ q, n = q + 1 := ⟨n - 1, by omega⟩
    show B_X12_goDays_2 O (L_X12_goDays O n) n (nI i) τ = _
    unfold B_X12_goDays_2
    rw [hN, if_pos (by rw [i_le, i_n (by omega), i_n (by omega)]; omega)]
  | j + 1, i, τ, hi, hN => by
    obtain ⟨τ', e1, e2, e3, e4, e5, e6⟩ := bestL O hK j (i + 1) (sI τ 25 i (gI τ 24 i)) (by omega) hN
    refine ⟨τ', (F24.s5 τ i _).tr e1, fun q => (e2 q).trans rfl, e3.trans rfl, fun q q1 q2 => ?_, fun q hq => ?_, fun n hn => ?_⟩
    · by_cases c : q = i
      · subst c
        rw [e5 q (by omega), gI_sI, if_pos rfl, if_pos rfl]
      · exact (e4 q (by omega) q2).trans rfl
    · rw [e5 q (by omega), gI_sI, if_pos rfl, if_neg (by omega)]
    · obtain ⟨n, rfl⟩ : ∃ q, n = q + 1 := ⟨n - 1, by omega⟩
      show B_X12_goDays_2 O (L_X12_goDays O n) n (nI i) τ = _
      unfold B_X12_goDays_2
      rw [hN, if_neg (by rw [i_le, i_n (by omega), i_n (by omega)]; omega), gd_eq (nIin (by omega) (by decide)), gd_eq (nIin (by omega) (by decide)), nIc (by omega), bnd_eq, n_a1, bnd_eq]
      exact e6 n (by omega)
/-- what going on from a place comes to: the fewest days before and behind, and the best -/
def Gl (A C : Nat → Nat) (K j k w x : Nat) (d : Nat → Nat) (F F' : Nat) (τ τ' : St) : Prop := F24 τ τ' ∧ gI τ' 0 39 = nI F' ∧ (∀ i, i < k → gI τ' 24 i = nI (d i)) ∧ ((F' = F ∧ (∀ q, gI τ' 25 q = gI τ 25 q) ∧ ∀ e, Rx A C K j k w d e → (k < K → x ≤ e k) → F ≤ uwd e j k w) ∨ (F' < F ∧ ∃ e, Rx A C K j k w d e ∧ (k < K → x ≤ e k) ∧ uwd e j k w = F' ∧ (∀ i, i < K → gI τ' 25 i = nI (e i)) ∧ ∀ e', Rx A C K j k w d e' → (k < K → x ≤ e' k) → F' ≤ uwd e' j k w ∧ (uwd e' j k w = F' → lx e e' k K)))
theorem goD (hK : K ≤ 6) : ∀ (j k w F : Nat) (d : Nat → Nat) (τ : St), k + j = K → w ≤ k → F ≤ 7 → DR K A C τ → gI τ 0 39 = nI F → (∀ i, i < k → d i < 8 ∧ gI τ 24 i = nI (d i)) → ∃ (C0 F' : Nat) (τ' : St), Gl A C K j k w 0 d F F' τ τ' ∧ ∀ D n, j < D → C0 ≤ n → F_X12_goDays D 0 n (nI k) (nI w) τ = some ((), τ') := by
  intro j
  induction j with
  | zero =>
    intro k w F d τ hk hw hF hD h39 hd
    have EX : ∀ D n, F_X12_goDays (D + 1) 0 n (nI k) (nI w) τ = E_X12_goDays (F_X12_goDays D) n (nI k) (nI w) τ := fun _ _ => rfl
    by_cases c : w < F
    · have hN0 : gI (sI τ 0 39 (nI w)) 0 36 = nI K := hD.1
      have key : ∀ D, ∃ τ', F24 (sI τ 0 39 (nI w)) τ' ∧ (∀ q, gI τ' 24 q = gI (sI τ 0 39 (nI w)) 24 q) ∧ gI τ' 0 39 = gI (sI τ 0 39 (nI w)) 0 39 ∧ (∀ q, 0 ≤ q → q < K → gI τ' 25 q = gI (sI τ 0 39 (nI w)) 24 q) ∧ (∀ q, q < 0 → gI τ' 25 q = gI (sI τ 0 39 (nI w)) 25 q) ∧ ∀ n, K + 1 ≤ n → L_X12_goDays (F_X12_goDays D) n 2 (nI 0) 0 0 (sI τ 0 39 (nI w)) = some ((), τ') := fun D => bestL (F_X12_goDays D) hK K 0 _ (by omega) hN0
      have all : ∀ (O : Nat → Nat → Int32 → Int32 → St → Option (Unit × St)) (j i : Nat) (τ : St), i + j = K → gI τ 0 36 = nI K → ∀ n, j + 1 ≤ n → L_X12_goDays O n 2 (nI i) 0 0 τ = L_X12_goDays (F_X12_goDays 0) n 2 (nI i) 0 0 τ := by
        intro O j
        induction j with
        | zero =>
          intro i τ hi hN n hn
          obtain ⟨n, rfl⟩ : ∃ q, n = q + 1 := ⟨n - 1, by omega⟩
          show B_X12_goDays_2 O (L_X12_goDays O n) n (nI i) τ = B_X12_goDays_2 (F_X12_goDays 0) (L_X12_goDays (F_X12_goDays 0) n) n (nI i) τ
          unfold B_X12_goDays_2
          rw [hN, if_pos (by rw [i_le, i_n (by omega), i_n (by omega)]; omega), if_pos (by rw [i_le, i_n (by omega), i_n (by omega)]; omega)]
        | succ j ih =>
          intro i τ hi hN n hn
          obtain ⟨n, rfl⟩ : ∃ q, n = q + 1 := ⟨n - 1, by omega⟩
          show B_X12_goDays_2 O (L_X12_goDays O n) n (nI i) τ = B_X12_goDays_2 (F_X12_goDays 0) (L_X12_goDays (F_X12_goDays 0) n) n (nI i) τ
          unfold B_X12_goDays_2
          have vi : vp_in (nI i) 6 := nIin (by omega) (by decide)
          rw [hN, if_neg (by rw [i_le, i_n (by omega), i_n (by omega)]; omega), if_neg (by rw [i_le, i_n (by omega), i_n (by omega)]; omega), gd_eq vi, gd_eq vi, gd_eq vi, gd_eq vi, bnd_eq, bnd_eq, bnd_eq, bnd_eq, n_a1]
          exact ih (i + 1) _ (by omega) (by rw [gI_sI, if_neg (by decide)]; exact hN) n (by omega)
      obtain ⟨τ', e1, e2, e3, e4, e5, e6⟩ := key 0
      refine ⟨K + 1, w, τ', ⟨(F24.s0 τ (nI w)).tr e1, e3.trans rfl, fun i hi => (e2 i).trans (hd i hi).2, Or.inr ⟨c, d, ⟨fun _ _ => rfl, trivial, fun i i1 i2 => by omega⟩, fun h => by omega, rfl, fun i hi => (e4 i (by omega) hi).trans (hd i (by omega)).2, fun e' h1 h2 => ⟨Nat.le_refl _, fun _ => Or.inl (fun i i1 i2 => by omega)⟩⟩⟩, fun D n hj hn => ?_⟩
      obtain ⟨D, rfl⟩ : ∃ q, D = q + 1 := ⟨D - 1, by omega⟩
      rw [EX]
      unfold E_X12_goDays
      rw [h39, if_pos (by rw [i_lt, i_n (by omega), i_n (by omega)]; omega), hD.1, if_pos (by rw [show k = K by omega]), bnd_eq]
      exact (all (F_X12_goDays D) K 0 _ (by omega) hN0 n hn).trans (e6 n hn)
    · refine ⟨0, F, τ, ⟨F24.rf τ, h39, fun i hi => (hd i hi).2, Or.inl ⟨rfl, fun _ => rfl, fun e h1 h2 => by show F ≤ w; omega⟩⟩, fun D n hj hn => ?_⟩
      obtain ⟨D, rfl⟩ : ∃ q, D = q + 1 := ⟨D - 1, by omega⟩
      rw [EX]
      unfold E_X12_goDays
      rw [h39, if_neg (by rw [i_lt, i_n (by omega), i_n (by omega)]; omega)]
  | succ j ihj =>
    intro k w F d τ hk hw hF hD h39 hd
    have EX : ∀ D n, F_X12_goDays (D + 1) 0 n (nI k) (nI w) τ = E_X12_goDays (F_X12_goDays D) n (nI k) (nI w) τ := fun _ _ => rfl
    have loop : ∀ (y x F : Nat) (τ : St), x + y = w + 1 → F ≤ 7 → DR K A C τ → gI τ 0 39 = nI F → (∀ i, i < k → d i < 8 ∧ gI τ 24 i = nI (d i)) → ∃ (C0 F' : Nat) (τ' : St), Gl A C K (j + 1) k w x d F F' τ τ' ∧ ∀ D n, j < D → C0 ≤ n → L_X12_goDays (F_X12_goDays D) n 1 (nI k) (nI w) (nI x) τ = some ((), τ') := by
      intro y
      induction y with
      | zero =>
        intro x F τ hx hF hD h39 hd
        refine ⟨1, F, τ, ⟨F24.rf τ, h39, fun i hi => (hd i hi).2, Or.inl ⟨rfl, fun _ => rfl, fun e h1 h2 => ?_⟩⟩, fun D n hj hn => ?_⟩
        · have := h2 (by omega)
          have := h1.2.1.1
          omega
        · obtain ⟨n, rfl⟩ : ∃ q, n = q + 1 := ⟨n - 1, by omega⟩
          show B_X12_goDays_1 (F_X12_goDays D) (L_X12_goDays (F_X12_goDays D) n) n (nI k) (nI w) (nI x) τ = _
          unfold B_X12_goDays_1
          rw [if_pos (by rw [i_lt, i_n (by omega), i_n (by omega)]; omega)]
      | succ y ih =>
        intro x F τ hx hF hD h39 hd
        have nx : ¬ nI w < nI x := by rw [i_lt, i_n (by omega), i_n (by omega)]; omega
        have vk : vp_in (nI k) 6 := nIin (by omega) (by decide)
        have fs := F24.s τ k (nI x)
        have hd1 : ∀ i, i < k → d i < 8 ∧ gI (sI τ 24 k (nI x)) 24 i = nI (d i) := fun i hi => ⟨(hd i hi).1, by rw [gI_sI, if_pos rfl, if_neg (by omega)]; exact (hd i hi).2⟩
        have low : ∀ e', Rx A C K (j + 1) k w d e' → (k < K → x ≤ e' k) → e' k ≠ x → k < K → x + 1 ≤ e' k := fun e' h1 h2 h3 hk' => by
          have := h2 hk'
          omega
        rcases hearL hK (hD.fr fs) (show k < K by omega) (show x < 8 by omega) (by rw [gI_sI, if_pos rfl, if_pos rfl]) hd1 k 0 (by omega) with ⟨f1, f2⟩ | ⟨f1, f2⟩
        · have hd2 : ∀ i, i < k + 1 → up1 d k x i < 8 ∧ gI (sI τ 24 k (nI x)) 24 i = nI (up1 d k x i) := fun i hi => by
            by_cases c : i = k
            · subst c
              rw [up_k, gI_sI, if_pos rfl, if_pos rfl]
              exact ⟨by omega, rfl⟩
            · rw [up_o d c]
              exact hd1 i (by omega)
          obtain ⟨C1, F1, τ1, ⟨g1, g2, g3, g4⟩, g5⟩ := ihj (k + 1) (if x = w then w + 1 else w) F (up1 d k x) (sI τ 24 k (nI x)) (by omega) (by split <;> omega) hF (hD.fr fs) (h39) hd2
          have F1le : F1 ≤ F := by
            rcases g4 with ⟨q, _⟩ | ⟨q, _⟩ <;> omega
          have kp : ∀ i, i < k → gI τ1 24 i = nI (d i) := fun i hi => by rw [g3 i (by omega), up_o d (by omega)]
          obtain ⟨C2, F2, τ2, ⟨i1, i2, i3, i4⟩, i5⟩ := ih (x + 1) F1 τ1 (by omega) (by omega) ((hD.fr fs).fr g1) g2 (fun i hi => ⟨(hd i hi).1, kp i hi⟩)
          -- from the longer prefix and back
          have dn : ∀ e', Rx A C K (j + 1) k w d e' → e' k = x → Rx A C K j (k + 1) (if x = w then w + 1 else w) (up1 d k x) e' ∧ uwd e' (j + 1) k w = uwd e' j (k + 1) (if x = w then w + 1 else w) := fun e' h1 h2 => by
            refine ⟨⟨fun i hi => ?_, ?_, fun i i1 i2 => h1.2.2 i (by omega) i2⟩, ?_⟩
            · by_cases c : i = k
              · rw [c, up_k, h2]
              · rw [up_o d c]
                exact h1.1 i (by omega)
            · have := h1.2.1.2
              rw [h2] at this
              exact this
            · show uwd e' j (k + 1) (if e' k = w then w + 1 else w) = _
              rw [h2]
          have upw : ∀ e', Rx A C K j (k + 1) (if x = w then w + 1 else w) (up1 d k x) e' → e' k = x ∧ Rx A C K (j + 1) k w d e' ∧ uwd e' (j + 1) k w = uwd e' j (k + 1) (if x = w then w + 1 else w) := fun e' h1 => by
            have ek : e' k = x := by rw [h1.1 k (by omega), up_k]
            refine ⟨ek, ⟨fun i hi => by rw [h1.1 i (by omega), up_o d (by omega)], ⟨by omega, by rw [ek]; exact h1.2.1⟩, fun i i1 i2 => ?_⟩, ?_⟩
            · by_cases c : i = k
              · subst c
                intro q hq h
                refine f1 q (by omega) hq ⟨?_, h.2⟩
                rw [← ek, ← h.1, h1.1 q (by omega), up_o d (by omega)]
              · exact h1.2.2 i (by omega) i2
            · show uwd e' j (k + 1) (if e' k = w then w + 1 else w) = _
              rw [ek]
          refine ⟨C1 + C2 + 21, F2, τ2, ⟨(fs.tr g1).tr i1, i2, i3, ?_⟩, fun D n hj hn => ?_⟩
          · rcases i4 with ⟨q1, q2, q3⟩ | ⟨q1, e2, q2, q3, q4, q5, q6⟩
            · rcases g4 with ⟨p1, p2, p3⟩ | ⟨p1, e1, p2, p3, p4, p5, p6⟩
              · refine Or.inl ⟨by omega, fun q => ((q2 q).trans (p2 q)).trans rfl, fun e' h1 h2 => ?_⟩
                by_cases c : e' k = x
                · have z := dn e' h1 c
                  rw [z.2]
                  exact p3 e' z.1 (fun _ => by omega)
                · have := q3 e' h1 (low e' h1 h2 c)
                  omega
              · obtain ⟨u1, u2, u3⟩ := upw e1 p2
                refine Or.inr ⟨by omega, e1, u2, fun _ => by omega, by omega, fun i hi => (q2 i).trans (p5 i hi), fun e' h1 h2 => ?_⟩
                by_cases c : e' k = x
                · have z := dn e' h1 c
                  have z2 := p6 e' z.1 (fun _ => by omega)
                  rw [z.2]
                  exact ⟨by omega, fun hh => lx_step (by omega) (by rw [u1, c]) (z2.2 (by omega))⟩
                · have := q3 e' h1 (low e' h1 h2 c)
                  exact ⟨by omega, fun _ => lx_lt (by omega) (by have := h2 (by omega); omega)⟩
            · refine Or.inr ⟨by omega, e2, q2, fun h => by have := q3 h; omega, q4, q5, fun e' h1 h2 => ?_⟩
              by_cases c : e' k = x
              · have z := dn e' h1 c
                have lo : F1 ≤ uwd e' (j + 1) k w := by
                  rw [z.2]
                  rcases g4 with ⟨p1, p2, p3⟩ | ⟨p1, e1, p2, p3, p4, p5, p6⟩
                  · have := p3 e' z.1 (fun _ => by omega)
                    omega
                  · exact (p6 e' z.1 (fun _ => by omega)).1
                exact ⟨by omega, fun hh => by omega⟩
              · exact q6 e' h1 (low e' h1 h2 c)
          · obtain ⟨n, rfl⟩ : ∃ q, n = q + 1 := ⟨n - 1, by omega⟩
            show B_X12_goDays_1 (F_X12_goDays D) (L_X12_goDays (F_X12_goDays D) n) n (nI k) (nI w) (nI x) τ = _
            unfold B_X12_goDays_1
            have g6 := g5 D n hj (by omega)
            rw [if_neg nx, gd_eq vk, nIc (by omega), bnd_eq, show F_X12_mayHear n (nI k) (sI τ 24 k (nI x)) = some (1, sI τ 24 k (nI x)) from f2 n (by omega), bd_some, if_neg (by decide), n_a1, n_a1]
            by_cases c : x = w
            · rw [if_pos c] at g6
              rw [if_pos (by rw [c]), g6, bd_some, n_a1, bnd_eq]
              exact i5 D n hj (by omega)
            · rw [if_neg c] at g6
              rw [if_neg (by rw [nI_inj (by omega) (by omega)]; exact c), g6, bd_some, n_a1, bnd_eq]
              exact i5 D n hj (by omega)
        · obtain ⟨C2, F2, τ2, ⟨i1, i2, i3, i4⟩, i5⟩ := ih (x + 1) F (sI τ 24 k (nI x)) (by omega) hF (hD.fr fs) h39 hd1
          have nok : ∀ e', Rx A C K (j + 1) k w d e' → e' k ≠ x := fun e' h1 c => f1 (fun q q1 q2 h => h1.2.2 k (by omega) (by omega) q q2 ⟨by rw [h1.1 q q2, c]; exact h.1, h.2⟩)
          refine ⟨C2 + 21, F2, τ2, ⟨fs.tr i1, i2, i3, ?_⟩, fun D n hj hn => ?_⟩
          · rcases i4 with ⟨q1, q2, q3⟩ | ⟨q1, e2, q2, q3, q4, q5, q6⟩
            · exact Or.inl ⟨q1, fun q => (q2 q).trans rfl, fun e' h1 h2 => q3 e' h1 (low e' h1 h2 (nok e' h1))⟩
            · exact Or.inr ⟨q1, e2, q2, fun h => by have := q3 h; omega, q4, q5, fun e' h1 h2 => q6 e' h1 (low e' h1 h2 (nok e' h1))⟩
          · obtain ⟨n, rfl⟩ : ∃ q, n = q + 1 := ⟨n - 1, by omega⟩
            show B_X12_goDays_1 (F_X12_goDays D) (L_X12_goDays (F_X12_goDays D) n) n (nI k) (nI w) (nI x) τ = _
            unfold B_X12_goDays_1
            rw [if_neg nx, gd_eq vk, nIc (by omega), bnd_eq, show F_X12_mayHear n (nI k) (sI τ 24 k (nI x)) = some (0, sI τ 24 k (nI x)) from f2 n (by omega), bd_some, if_pos rfl, n_a1, bnd_eq]
            exact i5 D n hj (by omega)
    by_cases c : w < F
    · obtain ⟨C0, F', τ', l1, l2⟩ := loop (w + 1) 0 F τ (by omega) hF hD h39 hd
      refine ⟨C0, F', τ', l1, fun D n hj hn => ?_⟩
      obtain ⟨D, rfl⟩ : ∃ q, D = q + 1 := ⟨D - 1, by omega⟩
      rw [EX]
      unfold E_X12_goDays
      rw [h39, if_pos (by rw [i_lt, i_n (by omega), i_n (by omega)]; omega), hD.1, if_neg (by rw [nI_inj (by omega) (by omega)]; omega)]
      exact l2 D n (by omega) hn
    · refine ⟨0, F, τ, ⟨F24.rf τ, h39, fun i hi => (hd i hi).2, Or.inl ⟨rfl, fun _ => rfl, fun e h1 h2 => ?_⟩⟩, fun D n hj hn => ?_⟩
      · have := uw_ge e (j + 1) k w
        omega
      · obtain ⟨D, rfl⟩ : ∃ q, D = q + 1 := ⟨D - 1, by omega⟩
        rw [EX]
        unfold E_X12_goDays
        rw [h39, if_neg (by rw [i_lt, i_n (by omega), i_n (by omega)]; omega)]
end DAYSR
/-- both come to the same days -/
theorem daysXR {K : Nat} {A C : Nat → Nat} {σ τ : St} (hK : K ≤ 6) (hX : DX K A C σ) (hR : DR K A C τ) : ∃ (C0 M : Nat) (σ' τ' : St) (e : Nat → Nat), F22 σ σ' ∧ F24 τ τ' ∧ (∀ n, C0 ≤ n → F_X4_dealDays n σ = some (nI M, σ')) ∧ (∀ n, C0 ≤ n → F_X12_goDays 100 0 n 0 0 (sI τ 0 39 7) = some ((), τ')) ∧ gI τ' 0 39 = nI M ∧ (∀ i, i < K → gI σ' 22 i = nI (e i)) ∧ ∀ i, i < K → gI τ' 25 i = nI (e i) := by
  obtain ⟨C1, M, σ', e, x1, x2, x3, x4, x5, x6, x7⟩ := ddX (A := A) (C := C) hK 6 0 σ rfl hX (fun m' hm' => by omega)
  obtain ⟨C2, F', τ', ⟨r1, r2, r3, r4⟩, r5⟩ := goD (A := A) (C := C) hK K 0 0 7 (fun i => i) (sI τ 0 39 7) (by omega) (by omega) (by omega) (hR.fr (F24.s0 τ 7)) rfl (fun i hi => by omega)
  have eRg : rg e K 0 0 := rg_of ⟨x5.1, x5.2⟩ (fun e' h => x7 e' ⟨fun _ _ => rfl, h.2⟩) K 0 0 (by omega) (by omega) (fun i hi => by omega)
  have eRx : Rx A C K K 0 0 (fun i => i) e := ⟨fun i hi => by omega, eRg, fun i i1 i2 => (x5.2 i i1 i2).2⟩
  have eUw : uwd e K 0 0 ≤ M := uw_le e M K 0 0 (by omega) (fun i i1 i2 => (x5.2 i i1 (by omega)).1)
  rcases r4 with ⟨q1, q2, q3⟩ | ⟨q1, b, q2, q3, q4, q5, q6⟩
  · have := q3 e eRx (fun _ => by omega)
    omega
  · have bAx : Ax A C K 0 F' b b := ⟨fun _ _ => rfl, fun i i1 i2 => ⟨by rw [← q4]; exact rg_lt b K 0 0 q2.2.1 i i1 (by omega), q2.2.2 i i1 i2⟩⟩
    have l1 : M ≤ F' := by
      by_cases c : M ≤ F'
      · exact c
      · exact absurd bAx (x4 F' (by omega) b)
    have l2 := (q6 e eRx (fun _ => by omega)).1
    have hM : F' = M := by omega
    subst hM
    have lx1 := (q6 e eRx (fun _ => by omega)).2 (by omega)
    have lx2 := x7 b bAx
    have same := lx_anti lx2 lx1
    refine ⟨C1 + C2, F', σ', τ', e, x1, (F24.s0 τ 7).tr r1, fun n hn => x3 n (by omega), fun n hn => r5 100 n (by omega) (by omega), r2, x6, fun i hi => by rw [same i (by omega) hi]; exact q5 i hi⟩
theorem b_days (p1 p2 : Int32) : MStp Inv (fun n σ => F_X11_days n p1 p2 σ) (fun n τ => F_X12_days n p1 p2 τ) := mstp_of (fun σ τ hI => by
  obtain ⟨N, B, h1, h2, h3, h4, h5, h6, h7, h8, h9⟩ := id hI
  obtain ⟨a1, a2, a3, a4⟩ := id h1
  rcases per (N := 6) p1 with ⟨s, hs, rfl⟩ | c1
  · have es : (nI s).toNatClampNeg = s := nIc (by omega)
    by_cases c2 : -1 ≤ p2.toInt
    · have hX : ∀ n, F_X11_days n (nI s) p2 σ = (bd (F_X10_refusalOfBytes n (63 + 2 * s) σ) fun r5 s4 => if 0 ≤ r5 then ((bd (F_X4_read n (63 + 2 * s) s4) fun _ s7 => bd (F_X4_size n  s7) fun r9 s8 => if r9 ≤ (6 : Int32) then (bd (F_X4_size n  s8) fun r11 s10 => if p2 < r11 then (bd (F_X4_dealDays n  s10) fun r13 s12 => if p2 = (-1 : Int32) then (some (r13, s12)) else (F_X4_dayOf n p2 s12)) else (some ((-2 : Int32), s10))) else (some ((-5 : Int32), s8)))) else (some (r5, s4))) := fun n => by
        unfold F_X11_days
        rw [sh11, bd_some, one0, if_pos (shI hs), if_pos (by rw [i_le, tm1]; exact c2)]
        simp only [gd_eq (v6 hs), es, bd_id]
      have hR : ∀ n, F_X12_days n (nI s) p2 τ = (bd (F_X12_rowFault n (nI s) τ) fun r4 s3 => if 0 ≤ r4 then (bd (F_X12_layCharges n (nI s) s3) fun _ s5 => if (gI s5 0 36) ≤ (6 : Int32) then (bnd (sI s5 0 39 (7 : Int32)) fun s6 => bd (F_X12_goDays 100 0 n (0 : Int32) (0 : Int32) s6) fun _ s7 => if 0 ≤ p2 then (if (gI s7 0 36) ≤ p2 then (some ((-2 : Int32), s7)) else (gd (vp_in p2 6) (some ((gI s7 25 (p2).toNatClampNeg), s7)))) else (some ((gI s7 0 39), s7))) else (some ((-5 : Int32), s5))) else (F_X12_rowFault n (nI s) s3)) := fun n => by
        unfold F_X12_days
        rw [sh12, bd_some, one0, if_pos (shI hs), if_pos (by rw [i_le, tm1]; exact c2)]
        simp only [bd_id]
      rcases rowC hs h7.1 h8 with ⟨r, r1, r2, r3, r4⟩ | ⟨⟨m, r, hRw⟩, r2, r3, r4⟩
      · exact ⟨r, σ, τ, Ev.const (fun n => by rw [hX, r2, bd_some, if_neg r1]), Ev.const (fun n => by rw [hR, r4, bd_some, if_neg r1, r4]), hI⟩
      · obtain ⟨C0, K, A, C, σ1, τ1, e1, e2, e3, e4, e5⟩ := chgXR h1 hs hRw
        obtain ⟨d1, d2, d3, d4, d5⟩ := e5
        have hI1 : Inv σ1 τ1 := hI.eq e3 e4
        have pX : ∀ n, C0 ≤ n → F_X11_days n (nI s) p2 σ = if nI K ≤ (6 : Int32) then (if p2 < nI K then (bd (F_X4_dealDays n  σ1) fun r13 s12 => if p2 = (-1 : Int32) then (some (r13, s12)) else (F_X4_dayOf n p2 s12)) else (some ((-2 : Int32), σ1))) else (some ((-5 : Int32), σ1)) := fun n hn => by
          rw [hX, r2, bd_some, if_pos (by decide), e1 n hn, bd_some]
          unfold F_X4_size
          rw [bd_some, bd_some, d2]
        have pR : ∀ n, C0 ≤ n → F_X12_days n (nI s) p2 τ = if nI K ≤ (6 : Int32) then (bd (F_X12_goDays 100 0 n (0 : Int32) (0 : Int32) (sI τ1 0 39 7)) fun _ s7 => if 0 ≤ p2 then (if (gI s7 0 36) ≤ p2 then (some ((-2 : Int32), s7)) else (gd (vp_in p2 6) (some ((gI s7 25 (p2).toNatClampNeg), s7)))) else (some ((gI s7 0 39), s7))) else (some ((-5 : Int32), τ1)) := fun n hn => by
          rw [hR, r4, bd_some, if_pos (by decide), e2 n hn, bd_some, d3, bnd_eq]
        by_cases cK : K ≤ 6
        · have k6 : nI K ≤ (6 : Int32) := by rw [i_le, i_n (by omega), t6]; omega
          obtain ⟨C1, M, σ2, τ2, e, x1, x2, x3, x4, x5, x6, x7⟩ := daysXR cK (show DX K A C σ1 from ⟨d2, fun i hi => ⟨by have := (d4 i hi).1; omega, by have := (d4 i hi).2.1; omega, (d4 i hi).2.2.2.1, (d4 i hi).2.2.2.2.1⟩⟩) (show DR K A C τ1 from ⟨d3, fun i hi => ⟨by have := (d4 i hi).1; omega, by have := (d4 i hi).2.1; omega, (d4 i hi).2.2.2.2.2.1, (d4 i hi).2.2.2.2.2.2⟩⟩)
          have t36 : gI τ2 0 36 = nI K := (x2.1 0 36 (by decide) (by decide) (Or.inr (by decide))).trans d3
          by_cases ck : p2.toInt < K
          · by_cases cm : p2 = -1
            · subst cm
              refine ⟨nI M, σ2, τ2, ⟨C0 + C1, fun n hn => ?_⟩, ⟨C0 + C1, fun n hn => ?_⟩, hI1.eq x1.eq x2.eq⟩
              · show F_X11_days n (nI s) (-1) σ = _
                rw [pX n (by omega), if_pos k6, if_pos (by rw [i_lt, i_n (by omega)]; exact ck), x3 n (by omega), bd_some, if_pos rfl]
              · show F_X12_days n (nI s) (-1) τ = _
                rw [pR n (by omega), if_pos k6, x4 n (by omega), bd_some, if_neg (by decide), x5]
            · have c0 : 0 ≤ p2.toInt := by
                have : p2.toInt ≠ -1 := fun h => cm (by rw [i_eq, tm1]; exact h)
                omega
              obtain ⟨k, hk, rfl⟩ := i_natlt c0 ck
              refine ⟨nI (e k), σ2, τ2, ⟨C0 + C1, fun n hn => ?_⟩, ⟨C0 + C1, fun n hn => ?_⟩, hI1.eq x1.eq x2.eq⟩
              · show F_X11_days n (nI s) (nI k) σ = _
                rw [pX n (by omega), if_pos k6, if_pos (by rw [i_lt, i_n (by omega), i_n (by omega)]; omega), x3 n (by omega), bd_some, if_neg cm]
                unfold F_X4_dayOf
                rw [x1.1 18 2 (by decide), d2, if_neg (by rw [i_lt, i_n (by omega), t0]; omega), if_neg (by rw [i_le, i_n (by omega), i_n (by omega)]; omega), if_neg (by rw [i_le, i_n (by omega), t6]; omega), gd_eq (nIin (by omega) (by decide)), nIc (by omega), x6 k hk]
              · show F_X12_days n (nI s) (nI k) τ = _
                rw [pR n (by omega), if_pos k6, x4 n (by omega), bd_some, if_pos (by rw [i_le, i_n (by omega), t0]; omega), t36, if_neg (by rw [i_le, i_n (by omega), i_n (by omega)]; omega), gd_eq (nIin (by omega) (by decide)), nIc (by omega), x7 k hk]
          · refine ⟨-2, σ1, τ2, ⟨C0, fun n hn => ?_⟩, ⟨C0 + C1, fun n hn => ?_⟩, hI1.eq (EqX.rf _) x2.eq⟩
            · show F_X11_days n (nI s) p2 σ = _
              rw [pX n (by omega), if_pos k6, if_neg (by rw [i_lt, i_n (by omega)]; exact ck)]
            · show F_X12_days n (nI s) p2 τ = _
              rw [pR n (by omega), if_pos k6, x4 n (by omega), bd_some, if_pos (by rw [i_le, t0]; omega), t36, if_pos (by rw [i_le, i_n (by omega)]; omega)]
        · refine ⟨-5, σ1, τ1, ⟨C0, fun n hn => ?_⟩, ⟨C0, fun n hn => ?_⟩, hI1⟩
          · show F_X11_days n (nI s) p2 σ = _
            rw [pX n (by omega), if_neg (by rw [i_le, i_n (by omega), t6]; omega)]
          · show F_X12_days n (nI s) p2 τ = _
            rw [pR n (by omega), if_neg (by rw [i_le, i_n (by omega), t6]; omega)]
    · refine ⟨-1, σ, τ, Ev.const (fun n => ?_), Ev.const (fun n => ?_), hI⟩
      · unfold F_X11_days
        rw [sh11, bd_some, one0, if_pos (shI hs), if_neg (by rw [i_le, tm1]; exact c2)]
      · unfold F_X12_days
        rw [sh12, bd_some, one0, if_pos (shI hs), if_neg (by rw [i_le, tm1]; exact c2)]
  · refine ⟨-1, σ, τ, Ev.const (fun n => ?_), Ev.const (fun n => ?_), hI⟩
    · unfold F_X11_days
      rw [sh11, bd_some, one0, if_neg c1]
    · unfold F_X12_days
      rw [sh12, bd_some, one0, if_neg c1])
