/-! days: what both look for -/
def mtt (A C : Nat → Nat) (q i : Nat) : Prop := A q = C i ∨ C q = A i
def okd (A C : Nat → Nat) (e : Nat → Nat) (i : Nat) : Prop := ∀ q, q < i → ¬ (e q = e i ∧ mtt A C q i)
def lx (e e' : Nat → Nat) (k K : Nat) : Prop := (∀ i, k ≤ i → i < K → e i = e' i) ∨ ∃ j, k ≤ j ∧ j < K ∧ (∀ i, k ≤ i → i < j → e i = e' i) ∧ e j < e' j
theorem lx_anti {e e' : Nat → Nat} {k K : Nat} (h1 : lx e e' k K) (h2 : lx e' e k K) : ∀ i, k ≤ i → i < K → e i = e' i := by
  rcases h1 with h1 | ⟨j, a1, a2, a3, a4⟩
  · exact h1
  · rcases h2 with h2 | ⟨j', b1, b2, b3, b4⟩
    · exact fun i i1 i2 => (h2 i i1 i2).symm
    · by_cases c : j < j'
      · have := b3 j a1 c
        omega
      · by_cases c2 : j' < j
        · have := a3 j' b1 c2
          omega
        · have : j = j' := by omega
          subst this
          omega
theorem lx_step {e e' : Nat → Nat} {k K : Nat} (hk : k < K) (h : e k = e' k) (h2 : lx e e' (k + 1) K) : lx e e' k K := by
  rcases h2 with h2 | ⟨j, a1, a2, a3, a4⟩
  · refine Or.inl (fun i i1 i2 => ?_)
    by_cases c : i = k
    · rw [c]; exact h
    · exact h2 i (by omega) i2
  · refine Or.inr ⟨j, by omega, a2, fun i i1 i2 => ?_, a4⟩
    by_cases c : i = k
    · rw [c]; exact h
    · exact a3 i (by omega) i2
theorem lx_lt {e e' : Nat → Nat} {k K : Nat} (hk : k < K) (h : e k < e' k) : lx e e' k K := Or.inr ⟨k, by omega, hk, fun i i1 i2 => by omega, h⟩
def up1 (d : Nat → Nat) (k x : Nat) : Nat → Nat := fun i => if i = k then x else d i
theorem up_k (d : Nat → Nat) (k x : Nat) : up1 d k x k = x := if_pos rfl
theorem up_o (d : Nat → Nat) {k x i : Nat} (h : i ≠ k) : up1 d k x i = d i := if_neg h
def Ax (A C : Nat → Nat) (K k m : Nat) (d e : Nat → Nat) : Prop := (∀ i, i < k → e i = d i) ∧ ∀ i, k ≤ i → i < K → e i < m ∧ okd A C e i
def uwd (e : Nat → Nat) : Nat → Nat → Nat → Nat
  | 0, _, w => w
  | j + 1, k, w => uwd e j (k + 1) (if e k = w then w + 1 else w)
def rg (e : Nat → Nat) : Nat → Nat → Nat → Prop
  | 0, _, _ => True
  | j + 1, k, w => e k ≤ w ∧ rg e j (k + 1) (if e k = w then w + 1 else w)
theorem uw_ge (e : Nat → Nat) : ∀ j k w, w ≤ uwd e j k w
  | 0, _, _ => Nat.le_refl _
  | j + 1, k, w => by
    have := uw_ge e j (k + 1) (if e k = w then w + 1 else w)
    show w ≤ uwd e j (k + 1) (if e k = w then w + 1 else w)
    split at this
    · rename_i h
      rw [if_pos h]
      omega
    · rename_i h
      rw [if_neg h]
      exact this
theorem rg_lt (e : Nat → Nat) : ∀ j k w, rg e j k w → ∀ i, k ≤ i → i < k + j → e i < uwd e j k w
  | 0, k, w, _, i, h1, h2 => by omega
  | j + 1, k, w, h, i, h1, h2 => by
    show e i < uwd e j (k + 1) (if e k = w then w + 1 else w)
    by_cases c : i = k
    · subst c
      have g := uw_ge e j (i + 1) (if e i = w then w + 1 else w)
      have hh := h.1
      by_cases c2 : e i = w
      · rw [if_pos c2] at g ⊢
        omega
      · rw [if_neg c2] at g ⊢
        omega
    · exact rg_lt e j (k + 1) _ h.2 i (by omega) (by omega)
theorem uw_le (e : Nat → Nat) (m : Nat) : ∀ j k w, w ≤ m → (∀ i, k ≤ i → i < k + j → e i < m) → uwd e j k w ≤ m
  | 0, _, _, h, _ => h
  | j + 1, k, w, h, h2 => by
    show uwd e j (k + 1) (if e k = w then w + 1 else w) ≤ m
    have := h2 k (by omega) (by omega)
    exact uw_le e m j (k + 1) _ (by split <;> omega) (fun i i1 i2 => h2 i (by omega) (by omega))
def Rx (A C : Nat → Nat) (K j k w : Nat) (d e : Nat → Nat) : Prop := (∀ i, i < k → e i = d i) ∧ rg e j k w ∧ ∀ i, k ≤ i → i < K → okd A C e i
/-- two values change their places -/
def swp (a b x : Nat) : Nat := if x = a then b else if x = b then a else x
theorem swp_inj {a b x y : Nat} (h : swp a b x = swp a b y) : x = y := by
  unfold swp at h
  split at h <;> split at h <;> (try split at h) <;> (try split at h) <;> omega
/-- the first of all assignments to so many days counts its days as they come -/
theorem rg_of {A C : Nat → Nat} {K m : Nat} {e : Nat → Nat} (hv : Ax A C K 0 m e e) (hm : ∀ e', Ax A C K 0 m e e' → lx e e' 0 K) : ∀ j k w, k + j = K → w ≤ m → (∀ i, i < k → e i < w) → rg e j k w
  | 0, _, _, _, _, _ => trivial
  | j + 1, k, w, hk, hw, hb => by
    have ek := hv.2 k (by omega) (by omega)
    have hle : e k ≤ w := by
      by_cases c : e k ≤ w
      · exact c
      · exfalso
        have lt : w < e k := by omega
        have hs : Ax A C K 0 m e (fun i => swp w (e k) (e i)) := by
          refine ⟨fun i hi => by omega, fun i i1 i2 => ⟨?_, fun q hq h => ?_⟩⟩
          · have := (hv.2 i (by omega) i2).1
            show swp w (e k) (e i) < m
            unfold swp
            split
            · omega
            · split
              · omega
              · exact this
          · exact (hv.2 i (by omega) i2).2 q hq ⟨swp_inj h.1, h.2⟩
        rcases hm _ hs with h | ⟨q, q1, q2, q3, q4⟩
        · have : e k = swp w (e k) (e k) := h k (by omega) (by omega)
          unfold swp at this
          rw [if_neg (by omega), if_pos rfl] at this
          omega
        · have q4' : e q < swp w (e k) (e q) := q4
          by_cases cq : q < k
          · have := hb q cq
            unfold swp at q4'
            rw [if_neg (by omega), if_neg (by omega)] at q4'
            omega
          · by_cases cq2 : q = k
            · subst cq2
              unfold swp at q4'
              rw [if_neg (by omega), if_pos rfl] at q4'
              omega
            · have := q3 k (by omega) (by omega)
              dsimp only at this
              unfold swp at this
              rw [if_neg (by omega), if_pos rfl] at this
              omega
    refine ⟨hle, rg_of hv hm j (k + 1) _ (by omega) ?_ (fun i hi => ?_)⟩
    · split <;> omega
    · by_cases c : i = k
      · subst c
        split <;> omega
      · have := hb i (by omega)
        split <;> omega
/-! days: the class -/
def DX (K : Nat) (A C : Nat → Nat) (σ : St) : Prop := gI σ 18 2 = nI K ∧ ∀ i, i < K → A i < 7 ∧ C i < 7 ∧ gI σ 19 i = nI (A i) ∧ gI σ 20 i = nI (C i)
def DR (K : Nat) (A C : Nat → Nat) (τ : St) : Prop := gI τ 0 36 = nI K ∧ ∀ i, i < K → A i < 7 ∧ C i < 7 ∧ gI τ 22 i = nI (A i) ∧ gI τ 23 i = nI (C i)
def F22 (σ σ' : St) : Prop := (∀ c q, c ≠ 22 → gI σ' c q = gI σ c q) ∧ ∀ c q, gL σ' c q = gL σ c q
theorem F22.rf (σ : St) : F22 σ σ := ⟨fun _ _ _ => rfl, fun _ _ => rfl⟩
theorem F22.tr {a b c : St} (h : F22 a b) (h2 : F22 b c) : F22 a c := ⟨fun x q hx => (h2.1 x q hx).trans (h.1 x q hx), fun x q => (h2.2 x q).trans (h.2 x q)⟩
theorem F22.s (σ : St) (k : Nat) (v : Int32) : F22 σ (sI σ 22 k v) := ⟨fun c q hc => by rw [gI_sI, if_neg hc], fun _ _ => rfl⟩
theorem F22.eq {σ σ' : St} (h : F22 σ σ') : EqX σ σ' := ⟨fun c hc k => ⟨h.1 c k (nin hc (by decide)), h.2 c k⟩, fun k _ => h.1 31 k (by decide)⟩
theorem DX.fr {K : Nat} {A C : Nat → Nat} {σ σ' : St} (h : DX K A C σ) (hf : F22 σ σ') : DX K A C σ' := ⟨(hf.1 18 2 (by decide)).trans h.1, fun i hi => ⟨(h.2 i hi).1, (h.2 i hi).2.1, (hf.1 19 i (by decide)).trans (h.2 i hi).2.2.1, (hf.1 20 i (by decide)).trans (h.2 i hi).2.2.2⟩⟩
section DAYSX
variable {K : Nat} {A C : Nat → Nat}
theorem fitL {σ : St} {k x : Nat} {d : Nat → Nat} (hK : K ≤ 6) (hD : DX K A C σ) (hk : k < K) (hx : x < 7) (hd : ∀ i, i < k → d i < 7 ∧ gI σ 22 i = nI (d i)) : ∀ (j i : Nat), i + j = k → ((∀ q, i ≤ q → q < k → ¬ (d q = x ∧ mtt A C q k)) ∧ ∀ n, 2 * j + 1 ≤ n → L_X4_fits n 1 (nI k) (nI x) (nI i) 0 σ = some (1, σ)) ∨ ((¬ ∀ q, i ≤ q → q < k → ¬ (d q = x ∧ mtt A C q k)) ∧ ∀ n, 2 * j + 1 ≤ n → L_X4_fits n 1 (nI k) (nI x) (nI i) 0 σ = some (0, σ))
  | 0, i, hi => by
    refine Or.inl ⟨fun q q1 q2 => by omega, fun n hn => ?_⟩
    obtain ⟨n, rfl⟩ : ∃ q, n = q + 1 := ⟨n - 1, by omega⟩
    show B_X4_fits_1 (L_X4_fits n) n (nI k) (nI x) (nI i) σ = _
    unfold B_X4_fits_1
    rw [if_pos (by rw [i_le, i_n (by omega), i_n (by omega)]; omega)]
  | j + 1, i, hi => by
    have ih := fitL hK hD hk hx hd j (i + 1) (by omega)
    obtain ⟨a1, a2, a3, a4⟩ := hD.2 i (by omega)
    obtain ⟨b1, b2, b3, b4⟩ := hD.2 k hk
    obtain ⟨d1, d2⟩ := hd i (by omega)
    have vi : vp_in (nI i) 10 := nIin (by omega) (by decide)
    have vk : vp_in (nI k) 10 := nIin (by omega) (by decide)
    have w2 : ∀ n (f : Int32), L_X4_fits (n + 1) 2 (nI k) (nI x) (nI i) f σ = if d i = x ∧ ¬ f = 0 then some (0, σ) else L_X4_fits n 1 (nI k) (nI x) (nI (i + 1)) 0 σ := fun n f => by
      show B_X4_fits_2 (L_X4_fits n) n (nI k) (nI x) (nI i) f σ = _
      unfold B_X4_fits_2
      rw [gd_eq (nIin (by omega) (by decide)), nIc (by omega), d2]
      simp only [nI_inj (show d i < 2147483648 by omega) (show x < 2147483648 by omega), bnd_eq, n_a1]
      by_cases c1 : d i = x
      · by_cases c2 : f = 0
        · rw [if_pos c1, if_pos c2, if_neg (fun h => h.2 c2)]
        · rw [if_pos c1, if_neg c2, if_pos ⟨c1, c2⟩]
      · rw [if_neg c1, if_neg (fun h => c1 h.1)]
    have w1 : (mtt A C i k ∧ ∀ n, L_X4_fits (n + 1) 1 (nI k) (nI x) (nI i) 0 σ = L_X4_fits n 2 (nI k) (nI x) (nI i) 1 σ) ∨ (¬ mtt A C i k ∧ ∀ n, L_X4_fits (n + 1) 1 (nI k) (nI x) (nI i) 0 σ = L_X4_fits n 2 (nI k) (nI x) (nI i) 0 σ) := by
      have pre : ∀ n, L_X4_fits (n + 1) 1 (nI k) (nI x) (nI i) 0 σ = if A i = C k then L_X4_fits n 2 (nI k) (nI x) (nI i) 1 σ else if C i = A k then L_X4_fits n 2 (nI k) (nI x) (nI i) 1 σ else L_X4_fits n 2 (nI k) (nI x) (nI i) 0 σ := fun n => by
        show B_X4_fits_1 (L_X4_fits n) n (nI k) (nI x) (nI i) σ = _
        unfold B_X4_fits_1
        rw [if_neg (by rw [i_le, i_n (by omega), i_n (by omega)]; omega), gd_eq vi, gd_eq vk, gd_eq vi, gd_eq vk, nIc (show i < 2147483648 by omega), nIc (show k < 2147483648 by omega), a3, b4, a4, b3]
        simp only [nI_inj (show A i < 2147483648 by omega) (show C k < 2147483648 by omega), nI_inj (show C i < 2147483648 by omega) (show A k < 2147483648 by omega)]
      by_cases c1 : A i = C k
      · exact Or.inl ⟨Or.inl c1, fun n => by rw [pre, if_pos c1]⟩
      · by_cases c2 : C i = A k
        · exact Or.inl ⟨Or.inr c2, fun n => by rw [pre, if_neg c1, if_pos c2]⟩
        · exact Or.inr ⟨fun h => h.elim c1 c2, fun n => by rw [pre, if_neg c1, if_neg c2]⟩
    have go : ¬ (d i = x ∧ mtt A C i k) → (∀ n, L_X4_fits (n + 2) 1 (nI k) (nI x) (nI i) 0 σ = L_X4_fits n 1 (nI k) (nI x) (nI (i + 1)) 0 σ) := fun hc n => by
      rcases w1 with ⟨m1, m2⟩ | ⟨m1, m2⟩
      · rw [m2 (n + 1), w2, if_neg (fun h => hc ⟨h.1, m1⟩)]
      · rw [m2 (n + 1), w2, if_neg (fun h => h.2 rfl)]
    by_cases c : d i = x ∧ mtt A C i k
    · refine Or.inr ⟨fun h => h i (by omega) (by omega) c, fun n hn => ?_⟩
      obtain ⟨n, rfl⟩ : ∃ q, n = q + 2 := ⟨n - 2, by omega⟩
      rcases w1 with ⟨m1, m2⟩ | ⟨m1, m2⟩
      · rw [m2 (n + 1), w2, if_pos ⟨c.1, by decide⟩]
      · exact absurd c.2 m1
    · rcases ih with ⟨i1, i2⟩ | ⟨i1, i2⟩
      · refine Or.inl ⟨fun q q1 q2 => ?_, fun n hn => ?_⟩
        · by_cases e : q = i
          · rw [e]; exact c
          · exact i1 q (by omega) q2
        · obtain ⟨n, rfl⟩ : ∃ q, n = q + 2 := ⟨n - 2, by omega⟩
          rw [go c]
          exact i2 n (by omega)
      · refine Or.inr ⟨fun h => i1 (fun q q1 q2 => h q (by omega) q2), fun n hn => ?_⟩
        obtain ⟨n, rfl⟩ : ∃ q, n = q + 2 := ⟨n - 2, by omega⟩
        rw [go c]
        exact i2 n (by omega)
/-- what dealing from a place on comes to -/
def Dl (A C : Nat → Nat) (K k m x : Nat) (d : Nat → Nat) (σ σ' : St) (r : Int32) : Prop := F22 σ σ' ∧ (∀ i, i < k → gI σ' 22 i = nI (d i)) ∧ ((r = 1 ∧ ∃ e, Ax A C K k m d e ∧ (k < K → x ≤ e k) ∧ (∀ i, i < K → gI σ' 22 i = nI (e i)) ∧ ∀ e', Ax A C K k m d e' → (k < K → x ≤ e' k) → lx e e' k K) ∨ (r = 0 ∧ ∀ e, Ax A C K k m d e → (k < K → x ≤ e k) → False))
theorem dealX (hK : K ≤ 6) : ∀ (j k m : Nat) (d : Nat → Nat) (σ : St), k + j = K → m ≤ 6 → DX K A C σ → (∀ i, i < k → d i < 7 ∧ gI σ 22 i = nI (d i)) → ∃ (C0 : Nat) (r : Int32) (σ' : St), Dl A C K k m 0 d σ σ' r ∧ ∀ D n, j < D → C0 ≤ n → F_X4_dealFrom D 0 n (nI k) (nI m) σ = some (r, σ')
  | 0, k, m, d, σ, hk, hm, hD, hd => by
    refine ⟨0, 1, σ, ⟨F22.rf σ, fun i hi => (hd i hi).2, Or.inl ⟨rfl, d, ⟨fun _ _ => rfl, fun i i1 i2 => by omega⟩, fun h => by omega, fun i hi => (hd i (by omega)).2, fun e' _ _ => Or.inl (fun i i1 i2 => by omega)⟩⟩, fun D n hj hn => ?_⟩
    obtain ⟨D, rfl⟩ : ∃ q, D = q + 1 := ⟨D - 1, by omega⟩
    show E_X4_dealFrom (F_X4_dealFrom D) n (nI k) (nI m) σ = _
    unfold E_X4_dealFrom
    rw [hD.1, if_pos (by rw [i_le, i_n (by omega), i_n (by omega)]; omega)]
  | j + 1, k, m, d, σ, hk, hm, hD, hd => by
    have loop : ∀ (y x : Nat) (σ : St), x + y = m → DX K A C σ → (∀ i, i < k → d i < 7 ∧ gI σ 22 i = nI (d i)) → ∃ (C0 : Nat) (r : Int32) (σ' : St), Dl A C K k m x d σ σ' r ∧ ∀ D n, j < D → C0 ≤ n → L_X4_dealFrom (F_X4_dealFrom D) n 1 (nI k) (nI m) (nI x) σ = some (r, σ') := by
      intro y
      induction y with
      | zero =>
        intro x σ hx hD hd
        refine ⟨1, 0, σ, ⟨F22.rf σ, fun i hi => (hd i hi).2, Or.inr ⟨rfl, fun e h1 h2 => ?_⟩⟩, fun D n hj hn => ?_⟩
        · have := h2 (by omega)
          have := (h1.2 k (by omega) (by omega)).1
          omega
        · obtain ⟨n, rfl⟩ : ∃ q, n = q + 1 := ⟨n - 1, by omega⟩
          show B_X4_dealFrom_1 (F_X4_dealFrom D) (L_X4_dealFrom (F_X4_dealFrom D) n) n (nI k) (nI m) (nI x) σ = _
          unfold B_X4_dealFrom_1
          rw [if_pos (by rw [i_le, i_n (by omega), i_n (by omega)]; omega)]
      | succ y ih =>
        intro x σ hx hD hd
        have EX : ∀ D n, L_X4_dealFrom (F_X4_dealFrom D) (n + 1) 1 (nI k) (nI m) (nI x) σ = B_X4_dealFrom_1 (F_X4_dealFrom D) (L_X4_dealFrom (F_X4_dealFrom D) n) n (nI k) (nI m) (nI x) σ := fun _ _ => rfl
        have nx : ¬ nI m ≤ nI x := by rw [i_le, i_n (by omega), i_n (by omega)]; omega
        rcases fitL hK hD (show k < K by omega) (show x < 7 by omega) hd k 0 (by omega) with ⟨f1, f2⟩ | ⟨f1, f2⟩
        · have hd2 : ∀ i, i < k + 1 → up1 d k x i < 7 ∧ gI (sI σ 22 k (nI x)) 22 i = nI (up1 d k x i) := fun i hi => by
            by_cases c : i = k
            · subst c
              rw [up_k, gI_sI, if_pos rfl, if_pos rfl]
              exact ⟨by omega, rfl⟩
            · rw [up_o d c, gI_sI, if_pos rfl, if_neg c]
              exact hd i (by omega)
          obtain ⟨C1, r1, σ1, ⟨g1, g2, g3⟩, g4⟩ := dealX hK j (k + 1) m (up1 d k x) (sI σ 22 k (nI x)) (by omega) hm (hD.fr (F22.s σ k (nI x))) hd2
          have kp : ∀ i, i < k → gI σ1 22 i = nI (d i) := fun i hi => by rw [g2 i (by omega), up_o d (by omega)]
          have pre : ∀ D n, j < D → C1 + 20 ≤ n → L_X4_dealFrom (F_X4_dealFrom D) (n + 1) 1 (nI k) (nI m) (nI x) σ = if r1 = 0 then L_X4_dealFrom (F_X4_dealFrom D) n 1 (nI k) (nI m) (nI (x + 1)) σ1 else some (1, σ1) := fun D n hj hn => by
            rw [EX]
            unfold B_X4_dealFrom_1
            rw [if_neg nx, show F_X4_fits n (nI k) (nI x) σ = some (1, σ) from f2 n (by omega), bd_some, if_neg (by decide), gd_eq (nIin (by omega) (by decide)), nIc (by omega), bnd_eq, n_a1, g4 D n hj (by omega), bd_some, bnd_eq, n_a1]
          rcases g3 with ⟨rfl, e, e1, e2, e3, e4⟩ | ⟨rfl, e1⟩
          · have ek : e k = x := by rw [e1.1 k (by omega), up_k]
            refine ⟨C1 + 21, 1, σ1, ⟨(F22.s σ k (nI x)).tr g1, kp, Or.inl ⟨rfl, e, ⟨fun i hi => by rw [e1.1 i (by omega), up_o d (by omega)], fun i i1 i2 => ?_⟩, fun _ => by omega, e3, fun e' h1 h2 => ?_⟩⟩, fun D n hj hn => ?_⟩
            · by_cases c : i = k
              · subst c
                refine ⟨by omega, fun q hq h => f1 q (by omega) hq ⟨?_, h.2⟩⟩
                rw [← ek, ← h.1, e1.1 q (by omega), up_o d (by omega)]
              · exact e1.2 i (by omega) i2
            · by_cases c : e' k = x
              · refine lx_step (by omega) (by rw [ek, c]) (e4 e' ⟨fun i hi => ?_, fun i i1 i2 => h1.2 i (by omega) i2⟩ (fun _ => by omega))
                by_cases c2 : i = k
                · rw [c2, up_k, c]
                · rw [up_o d c2]
                  exact h1.1 i (by omega)
              · have := h2 (by omega)
                exact lx_lt (by omega) (by omega)
            · obtain ⟨n, rfl⟩ : ∃ q, n = q + 1 := ⟨n - 1, by omega⟩
              rw [pre D n hj (by omega), if_neg (by decide)]
          · obtain ⟨C2, r2, σ2, ⟨i1, i2, i3⟩, i4⟩ := ih (x + 1) σ1 (by omega) ((hD.fr (F22.s σ k (nI x))).fr g1) (fun i hi => ⟨(hd i hi).1, kp i hi⟩)
            refine ⟨C1 + C2 + 21, r2, σ2, ⟨((F22.s σ k (nI x)).tr g1).tr i1, i2, ?_⟩, fun D n hj hn => ?_⟩
            · have low : ∀ e', Ax A C K k m d e' → (k < K → x ≤ e' k) → k < K → x + 1 ≤ e' k := fun e' h1 h2 hk' => by
                have := h2 hk'
                by_cases c : e' k = x
                · exfalso
                  refine e1 e' ⟨fun i hi => ?_, fun i i1 i2 => h1.2 i (by omega) i2⟩ (fun _ => by omega)
                  by_cases c2 : i = k
                  · rw [c2, up_k, c]
                  · rw [up_o d c2]
                    exact h1.1 i (by omega)
                · omega
              rcases i3 with ⟨rfl, e, q1, q2, q3, q4⟩ | ⟨rfl, q1⟩
              · exact Or.inl ⟨rfl, e, q1, fun h => by have := q2 h; omega, q3, fun e' h1 h2 => q4 e' h1 (low e' h1 h2)⟩
              · exact Or.inr ⟨rfl, fun e' h1 h2 => q1 e' h1 (low e' h1 h2)⟩
            · obtain ⟨n, rfl⟩ : ∃ q, n = q + 1 := ⟨n - 1, by omega⟩
              rw [pre D n hj (by omega), if_pos rfl]
              exact i4 D n hj (by omega)
        · obtain ⟨C2, r2, σ2, ⟨i1, i2, i3⟩, i4⟩ := ih (x + 1) σ (by omega) hD hd
          refine ⟨C2 + 21, r2, σ2, ⟨i1, i2, ?_⟩, fun D n hj hn => ?_⟩
          · have low : ∀ e', Ax A C K k m d e' → (k < K → x ≤ e' k) → k < K → x + 1 ≤ e' k := fun e' h1 h2 hk' => by
              have := h2 hk'
              by_cases c : e' k = x
              · exfalso
                refine f1 (fun q q1 q2 h => (h1.2 k (by omega) (by omega)).2 q q2 ⟨?_, h.2⟩)
                rw [h1.1 q q2, c]
                exact h.1
              · omega
            rcases i3 with ⟨rfl, e, q1, q2, q3, q4⟩ | ⟨rfl, q1⟩
            · exact Or.inl ⟨rfl, e, q1, fun h => by have := q2 h; omega, q3, fun e' h1 h2 => q4 e' h1 (low e' h1 h2)⟩
            · exact Or.inr ⟨rfl, fun e' h1 h2 => q1 e' h1 (low e' h1 h2)⟩
          · obtain ⟨n, rfl⟩ : ∃ q, n = q + 1 := ⟨n - 1, by omega⟩
            rw [EX]
            unfold B_X4_dealFrom_1
            rw [if_neg nx, show F_X4_fits n (nI k) (nI x) σ = some (0, σ) from f2 n (by omega), bd_some, if_pos rfl, bnd_eq, n_a1]
            exact i4 D n hj (by omega)
    obtain ⟨C0, r, σ', l1, l2⟩ := loop m 0 σ (by omega) hD hd
    refine ⟨C0, r, σ', l1, fun D n hj hn => ?_⟩
    obtain ⟨D, rfl⟩ : ∃ q, D = q + 1 := ⟨D - 1, by omega⟩
    show E_X4_dealFrom (F_X4_dealFrom D) n (nI k) (nI m) σ = _
    unfold E_X4_dealFrom
    rw [hD.1, if_neg (by rw [i_le, i_n (by omega), i_n (by omega)]; omega), if_pos (by rw [i_lt, i_n (by omega), t6]; omega)]
    exact l2 D n (by omega) hn
/-- the fewest days, and what is dealt -/
theorem ddX (hK : K ≤ 6) : ∀ (j m : Nat) (σ : St), m + j = 6 → DX K A C σ → (∀ m', m' < m → ∀ e, ¬ Ax A C K 0 m' e e) → ∃ (C0 M : Nat) (σ' : St) (e : Nat → Nat), F22 σ σ' ∧ M ≤ 6 ∧ (∀ n, C0 ≤ n → L_X4_dealDays n 1 (nI m) σ = some (nI M, σ')) ∧ (∀ m', m' < M → ∀ e, ¬ Ax A C K 0 m' e e) ∧ Ax A C K 0 M e e ∧ (∀ i, i < K → gI σ' 22 i = nI (e i)) ∧ ∀ e', Ax A C K 0 M e' e' → lx e e' 0 K := by
  intro j
  induction j with
  | zero =>
    intro m σ hm hD hno
    obtain rfl : m = 6 := by omega
    obtain ⟨C0, r, σ', ⟨g1, g2, g3⟩, g4⟩ := dealX hK K 0 6 (fun i => i) σ (by omega) (by omega) hD (fun i hi => by omega)
    rcases g3 with ⟨rfl, e, e1, e2, e3, e4⟩ | ⟨rfl, e1⟩
    · refine ⟨C0 + 1, 6, σ', e, g1, by omega, fun n hn => ?_, hno, ⟨fun _ _ => rfl, e1.2⟩, e3, fun e' h => e4 e' ⟨fun i hi => by omega, h.2⟩ (fun _ => by omega)⟩
      obtain ⟨n, rfl⟩ : ∃ q, n = q + 1 := ⟨n - 1, by omega⟩
      show B_X4_dealDays_1 (L_X4_dealDays n) n (nI 6) σ = _
      unfold B_X4_dealDays_1
      rw [if_neg (by decide), show (0 : Int32) = nI 0 from rfl, g4 100 n (by omega) (by omega), bd_some, if_neg (by decide)]
    · exfalso
      refine e1 (fun i => i) ⟨fun _ _ => rfl, fun i i1 i2 => ⟨by show i < 6; omega, fun q hq h => ?_⟩⟩ (fun _ => by omega)
      have : q = i := h.1
      omega
  | succ j ih =>
    intro m σ hm hD hno
    obtain ⟨C0, r, σ', ⟨g1, g2, g3⟩, g4⟩ := dealX hK K 0 m (fun i => i) σ (by omega) (by omega) hD (fun i hi => by omega)
    have EX : ∀ n, C0 ≤ n → L_X4_dealDays (n + 1) 1 (nI m) σ = if r = 0 then L_X4_dealDays n 1 (nI (m + 1)) σ' else some (nI m, σ') := fun n hn => by
      show B_X4_dealDays_1 (L_X4_dealDays n) n (nI m) σ = _
      unfold B_X4_dealDays_1
      rw [if_neg (by rw [i_lt, i_n (by omega), t6]; omega)]
      have g := g4 100 n (by omega) hn
      refine Eq.trans (congrArg (fun z => bd z _) g) ?_
      rw [bd_some, bnd_eq, n_a1]
    rcases g3 with ⟨rfl, e, e1, e2, e3, e4⟩ | ⟨rfl, e1⟩
    · refine ⟨C0 + 1, m, σ', e, g1, by omega, fun n hn => ?_, hno, ⟨fun _ _ => rfl, e1.2⟩, e3, fun e' h => e4 e' ⟨fun i hi => by omega, h.2⟩ (fun _ => by omega)⟩
      obtain ⟨n, rfl⟩ : ∃ q, n = q + 1 := ⟨n - 1, by omega⟩
      rw [EX n (by omega), if_neg (by decide)]
    · obtain ⟨C1, M, σ2, e, h1, h2, h3, h4, h5, h6, h7⟩ := ih (m + 1) σ' (by omega) (hD.fr g1) (fun m' hm' e he => by
        by_cases c : m' = m
        · subst c
          exact e1 e ⟨fun i hi => by omega, he.2⟩ (fun _ => by omega)
        · exact hno m' (by omega) e he)
      refine ⟨C0 + C1 + 1, M, σ2, e, g1.tr h1, h2, fun n hn => ?_, h4, h5, h6, h7⟩
      obtain ⟨n, rfl⟩ : ∃ q, n = q + 1 := ⟨n - 1, by omega⟩
      rw [EX n (by omega), if_pos rfl]
      exact h3 n (by omega)
end DAYSX
