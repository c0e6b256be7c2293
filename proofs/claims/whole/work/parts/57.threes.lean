/-! charges: threes, never -/
def sm (f : Nat → Nat) : Nat → Nat → Nat
  | 0, _ => 0
  | m + 1, i => f i + sm f m (i + 1)
theorem sm_cut {f g : Nat → Nat} {r : Nat} : ∀ (m i : Nat), (∀ j, i ≤ j → j < i + m → f j = g j) → (∀ j, i + m ≤ j → j < i + m + r → f j = 0) → sm f (m + r) i = sm g m i
  | 0, i, _, h2 => by
    have z : ∀ (r i : Nat), (∀ j, i ≤ j → j < i + r → f j = 0) → sm f r i = 0 := by
      intro r
      induction r with
      | zero => intro i _; rfl
      | succ r ih =>
        intro i h
        show f i + sm f r (i + 1) = 0
        rw [h i (by omega) (by omega), ih (i + 1) (fun j a b => h j (by omega) (by omega))]
    rw [Nat.zero_add]
    exact z r i (fun j a b => h2 j (by omega) (by omega))
  | m + 1, i, h1, h2 => by
    rw [show m + 1 + r = (m + r) + 1 by omega]
    show f i + sm f (m + r) (i + 1) = g i + sm g m (i + 1)
    rw [h1 i (by omega) (by omega), sm_cut m (i + 1) (fun j a b => h1 j (by omega) (by omega)) (fun j a b => h2 j (by omega) (by omega))]
def tr3 (H : Nat → Nat → Bool) (a b c : Nat) : Nat := if H a b = true ∧ H b c = true ∧ H c a = true then 1 else 0
section THREES
variable {N K : Nat} {A C : Nat → Nat} {σ τ : St}
theorem th3X (h7 : N ≤ 7) (h : Dk N K A C σ τ) {a b : Nat} (ha : a < 7) (hb : b < 7) : ∀ (j c acc : Nat), c + j = 7 → ∀ n, L_X4_threes (n + j + 1) 3 (nI acc) (nI a) (nI b) (nI c) σ = L_X4_threes n 2 (nI (acc + sm (tr3 (fun x y => (ag A C K x).testBit y) a b) j c)) (nI a) (nI (b + 1)) 0 σ
  | 0, c, acc, hc, n => by
    show B_X4_threes_3 (L_X4_threes n) n (nI acc) (nI a) (nI b) (nI c) σ = _
    unfold B_X4_threes_3
    rw [if_pos (by rw [i_le, i_n (by omega), t7]; omega), bnd_eq, n_a1]
    rfl
  | j + 1, c, acc, hc, n => by
    have key : L_X4_threes (n + (j + 1) + 1) 3 (nI acc) (nI a) (nI b) (nI c) σ = L_X4_threes (n + j + 1) 3 (nI (acc + tr3 (fun x y => (ag A C K x).testBit y) a b c)) (nI a) (nI b) (nI (c + 1)) σ := by
      show B_X4_threes_3 (L_X4_threes (n + j + 1)) (n + j + 1) (nI acc) (nI a) (nI b) (nI c) σ = _
      unfold B_X4_threes_3
      rw [if_neg (by rw [i_le, i_n (by omega), t7]; omega), hasX h7 h ha hb, bd_some, one0, hasX h7 h hb (by omega), bd_some, one0, hasX h7 h (by omega) ha, bd_some, one0]
      simp only [bnd_eq, n_a1]
      unfold tr3
      by_cases c1 : (ag A C K a).testBit b = true
      · by_cases c2 : (ag A C K b).testBit c = true
        · by_cases c3 : (ag A C K c).testBit a = true
          · rw [if_pos c1, if_pos c2, if_pos c3, if_pos ⟨c1, c2, c3⟩]
          · rw [if_pos c1, if_pos c2, if_neg c3, if_neg (fun e => c3 e.2.2)]
            rfl
        · rw [if_pos c1, if_neg c2, if_neg (fun e => c2 e.2.1)]
          rfl
      · rw [if_neg c1, if_neg (fun e => c1 e.1)]
        rfl
    rw [key, th3X h7 h ha hb j (c + 1) _ (by omega) n]
    show _ = L_X4_threes n 2 (nI (acc + (tr3 (fun x y => (ag A C K x).testBit y) a b c + sm (tr3 (fun x y => (ag A C K x).testBit y) a b) j (c + 1)))) (nI a) (nI (b + 1)) 0 σ
    rw [Nat.add_assoc]
theorem th2X (h7 : N ≤ 7) (h : Dk N K A C σ τ) {a : Nat} (ha : a < 7) : ∀ (j b acc : Nat), b + j = 7 → ∃ C0, ∀ n, L_X4_threes (n + C0) 2 (nI acc) (nI a) (nI b) 0 σ = L_X4_threes n 1 (nI (acc + sm (fun b => sm (tr3 (fun x y => (ag A C K x).testBit y) a b) (7 - (a + 1)) (a + 1)) j b)) (nI (a + 1)) 0 0 σ
  | 0, b, acc, hb => ⟨1, fun n => by
    show B_X4_threes_2 (L_X4_threes n) n (nI acc) (nI a) (nI b) σ = _
    unfold B_X4_threes_2
    rw [if_pos (by rw [i_le, i_n (by omega), t7]; omega), bnd_eq, n_a1]
    rfl⟩
  | j + 1, b, acc, hb => by
    obtain ⟨C0, ih⟩ := th2X h7 h ha j (b + 1) (acc + sm (tr3 (fun x y => (ag A C K x).testBit y) a b) (7 - (a + 1)) (a + 1)) (by omega)
    refine ⟨C0 + (7 - (a + 1)) + 1 + 1, fun n => ?_⟩
    show B_X4_threes_2 (L_X4_threes (n + (C0 + (7 - (a + 1)) + 1))) (n + (C0 + (7 - (a + 1)) + 1)) (nI acc) (nI a) (nI b) σ = _
    unfold B_X4_threes_2
    rw [if_neg (by rw [i_le, i_n (by omega), t7]; omega), bnd_eq, n_a1, show n + (C0 + (7 - (a + 1)) + 1) = (n + C0) + (7 - (a + 1)) + 1 by omega, th3X h7 h ha (by omega) (7 - (a + 1)) (a + 1) acc (by omega), ih n, Nat.add_assoc]
    rfl
theorem th1X (h7 : N ≤ 7) (h : Dk N K A C σ τ) : ∀ (j a acc : Nat), a + j = 7 → ∃ C0, ∀ n, C0 ≤ n → L_X4_threes n 1 (nI acc) (nI a) 0 0 σ = some (nI (acc + sm (fun a => sm (fun b => sm (tr3 (fun x y => (ag A C K x).testBit y) a b) (7 - (a + 1)) (a + 1)) (7 - (a + 1)) (a + 1)) j a), σ)
  | 0, a, acc, ha => ⟨1, fun n hn => by
    obtain ⟨n, rfl⟩ : ∃ q, n = q + 1 := ⟨n - 1, by omega⟩
    show B_X4_threes_1 (L_X4_threes n) n (nI acc) (nI a) σ = _
    unfold B_X4_threes_1
    rw [if_pos (by rw [i_le, i_n (by omega), t7]; omega)]
    rfl⟩
  | j + 1, a, acc, ha => by
    obtain ⟨C1, e1⟩ := th2X h7 h (show a < 7 by omega) (7 - (a + 1)) (a + 1) acc (by omega)
    obtain ⟨C0, ih⟩ := th1X h7 h j (a + 1) (acc + sm (fun b => sm (tr3 (fun x y => (ag A C K x).testBit y) a b) (7 - (a + 1)) (a + 1)) (7 - (a + 1)) (a + 1)) (by omega)
    refine ⟨C0 + C1 + 1, fun n hn => ?_⟩
    obtain ⟨n, rfl⟩ : ∃ q, n = q + C1 + 1 := ⟨n - C1 - 1, by omega⟩
    show B_X4_threes_1 (L_X4_threes (n + C1)) (n + C1) (nI acc) (nI a) σ = _
    unfold B_X4_threes_1
    rw [if_neg (by rw [i_le, i_n (by omega), t7]; omega), bnd_eq, n_a1, e1 n, ih n (by omega), Nat.add_assoc]
    rfl
theorem agNb (h : Dk N K A C σ τ) {a b : Nat} (e : (ag A C K a).testBit b = true) : a < N ∧ b < N ∧ a ≠ b := by
  obtain ⟨i, h1, h2, h3⟩ := (ag_bit a b K).mp e
  obtain ⟨q1, q2, q3, _⟩ := h.2.2.2.1 i h1
  rw [h2] at q1 q3
  rw [h3] at q2 q3
  exact ⟨q1, q2, q3⟩
theorem th3R (h7 : N ≤ 7) (hN : gI τ 0 1 = nI N) (h : Dk N K A C σ τ) {a b : Nat} (ha : a < N) (hb : b < N) : ∀ (j c acc : Nat), c + j = N → ∀ n, 11 ≤ n → L_X12_threes (n + j + 1) 3 (nI acc) (nI a) (nI b) (nI c) τ = L_X12_threes n 2 (nI (acc + sm (tr3 (fun x y => (ag A C K x).testBit y) a b) j c)) (nI a) (nI (b + 1)) 0 τ
  | 0, c, acc, hc, n, hn => by
    show B_X12_threes_3 (L_X12_threes n) n (nI acc) (nI a) (nI b) (nI c) τ = _
    unfold B_X12_threes_3
    rw [hN, if_pos (by rw [i_le, i_n (by omega), i_n (by omega)]; omega), bnd_eq, n_a1]
    rfl
  | j + 1, c, acc, hc, n, hn => by
    have key : L_X12_threes (n + (j + 1) + 1) 3 (nI acc) (nI a) (nI b) (nI c) τ = L_X12_threes (n + j + 1) 3 (nI (acc + tr3 (fun x y => (ag A C K x).testBit y) a b c)) (nI a) (nI b) (nI (c + 1)) τ := by
      show B_X12_threes_3 (L_X12_threes (n + j + 1)) (n + j + 1) (nI acc) (nI a) (nI b) (nI c) τ = _
      unfold B_X12_threes_3
      rw [hN, if_neg (by rw [i_le, i_n (by omega), i_n (by omega)]; omega)]
      by_cases ce : c = b
      · subst ce
        have z : tr3 (fun x y => (ag A C K x).testBit y) a c c = 0 := if_neg (fun e => (agNb h e.2.1).2.2 rfl)
        rw [if_pos rfl, bnd_eq, n_a1, z]
        rfl
      · rw [if_neg (by rw [nI_inj (by omega) (by omega)]; exact ce), isCR h7 h (by omega) (by omega) _ (by omega), bd_some, one0, isCR h7 h (by omega) (by omega) _ (by omega), bd_some, one0, isCR h7 h (by omega) (by omega) _ (by omega), bd_some, one0]
        simp only [bnd_eq, n_a1]
        unfold tr3
        by_cases c1 : (ag A C K a).testBit b = true
        · by_cases c2 : (ag A C K b).testBit c = true
          · by_cases c3 : (ag A C K c).testBit a = true
            · rw [if_pos c1, if_pos c2, if_pos c3, if_pos ⟨c1, c2, c3⟩]
            · rw [if_pos c1, if_pos c2, if_neg c3, if_neg (fun e => c3 e.2.2)]
              rfl
          · rw [if_pos c1, if_neg c2, if_neg (fun e => c2 e.2.1)]
            rfl
        · rw [if_neg c1, if_neg (fun e => c1 e.1)]
          rfl
    rw [key, th3R h7 hN h ha hb j (c + 1) _ (by omega) n hn]
    show _ = L_X12_threes n 2 (nI (acc + (tr3 (fun x y => (ag A C K x).testBit y) a b c + sm (tr3 (fun x y => (ag A C K x).testBit y) a b) j (c + 1)))) (nI a) (nI (b + 1)) 0 τ
    rw [Nat.add_assoc]
theorem th2R (h7 : N ≤ 7) (hN : gI τ 0 1 = nI N) (h : Dk N K A C σ τ) {a : Nat} (ha : a < N) : ∀ (j b acc : Nat), b + j = N → ∃ C0, ∀ n, 11 ≤ n → L_X12_threes (n + C0) 2 (nI acc) (nI a) (nI b) 0 τ = L_X12_threes n 1 (nI (acc + sm (fun b => sm (tr3 (fun x y => (ag A C K x).testBit y) a b) (N - (a + 1)) (a + 1)) j b)) (nI (a + 1)) 0 0 τ
  | 0, b, acc, hb => ⟨1, fun n hn => by
    show B_X12_threes_2 (L_X12_threes n) n (nI acc) (nI a) (nI b) τ = _
    unfold B_X12_threes_2
    rw [hN, if_pos (by rw [i_le, i_n (by omega), i_n (by omega)]; omega), bnd_eq, n_a1]
    rfl⟩
  | j + 1, b, acc, hb => by
    obtain ⟨C0, ih⟩ := th2R h7 hN h ha j (b + 1) (acc + sm (tr3 (fun x y => (ag A C K x).testBit y) a b) (N - (a + 1)) (a + 1)) (by omega)
    refine ⟨C0 + (N - (a + 1)) + 1 + 1, fun n hn => ?_⟩
    show B_X12_threes_2 (L_X12_threes (n + (C0 + (N - (a + 1)) + 1))) (n + (C0 + (N - (a + 1)) + 1)) (nI acc) (nI a) (nI b) τ = _
    unfold B_X12_threes_2
    rw [hN, if_neg (by rw [i_le, i_n (by omega), i_n (by omega)]; omega), bnd_eq, n_a1, show n + (C0 + (N - (a + 1)) + 1) = (n + C0) + (N - (a + 1)) + 1 by omega, th3R h7 hN h ha (by omega) (N - (a + 1)) (a + 1) acc (by omega) _ (by omega), ih n hn, Nat.add_assoc]
    rfl
theorem th1R (h7 : N ≤ 7) (hN : gI τ 0 1 = nI N) (h : Dk N K A C σ τ) : ∀ (j a acc : Nat), a + j = N → ∃ C0, ∀ n, C0 ≤ n → L_X12_threes n 1 (nI acc) (nI a) 0 0 τ = some (nI (acc + sm (fun a => sm (fun b => sm (tr3 (fun x y => (ag A C K x).testBit y) a b) (N - (a + 1)) (a + 1)) (N - (a + 1)) (a + 1)) j a), τ)
  | 0, a, acc, ha => ⟨1, fun n hn => by
    obtain ⟨n, rfl⟩ : ∃ q, n = q + 1 := ⟨n - 1, by omega⟩
    show B_X12_threes_1 (L_X12_threes n) n (nI acc) (nI a) τ = _
    unfold B_X12_threes_1
    rw [hN, if_pos (by rw [i_le, i_n (by omega), i_n (by omega)]; omega)]
    rfl⟩
  | j + 1, a, acc, ha => by
    obtain ⟨C1, e1⟩ := th2R h7 hN h (show a < N by omega) (N - (a + 1)) (a + 1) acc (by omega)
    obtain ⟨C0, ih⟩ := th1R h7 hN h j (a + 1) (acc + sm (fun b => sm (tr3 (fun x y => (ag A C K x).testBit y) a b) (N - (a + 1)) (a + 1)) (N - (a + 1)) (a + 1)) (by omega)
    refine ⟨C0 + C1 + 12, fun n hn => ?_⟩
    obtain ⟨n, rfl⟩ : ∃ q, n = q + C1 + 1 := ⟨n - C1 - 1, by omega⟩
    show B_X12_threes_1 (L_X12_threes (n + C1)) (n + C1) (nI acc) (nI a) τ = _
    unfold B_X12_threes_1
    rw [hN, if_neg (by rw [i_le, i_n (by omega), i_n (by omega)]; omega), bnd_eq, n_a1, e1 n (by omega), ih n (by omega), Nat.add_assoc]
    rfl
theorem sm_ext {f g : Nat → Nat} (m i : Nat) (h : ∀ j, i ≤ j → j < i + m → f j = g j) : sm f m i = sm g m i := sm_cut (r := 0) m i h (fun j a b => by omega)
theorem sm_0 {f : Nat → Nat} (m i : Nat) (h : ∀ j, i ≤ j → j < i + m → f j = 0) : sm f m i = 0 := by
  have e := sm_cut (f := f) (g := f) (r := m) 0 i (fun j a b => by omega) (fun j a b => h j (by omega) (by omega))
  rw [Nat.zero_add] at e
  exact e
theorem thXR (h7 : N ≤ 7) (h : Dk N K A C σ τ) : sm (fun a => sm (fun b => sm (tr3 (fun x y => (ag A C K x).testBit y) a b) (7 - (a + 1)) (a + 1)) (7 - (a + 1)) (a + 1)) 7 0 = sm (fun a => sm (fun b => sm (tr3 (fun x y => (ag A C K x).testBit y) a b) (N - (a + 1)) (a + 1)) (N - (a + 1)) (a + 1)) N 0 := by
  have z : ∀ a b c, N ≤ a ∨ N ≤ b ∨ N ≤ c → tr3 (fun x y => (ag A C K x).testBit y) a b c = 0 := fun a b c hc => if_neg (fun e => by
    have q1 := agNb h e.1
    have q2 := agNb h e.2.1
    omega)
  rw [show 7 = N + (7 - N) by omega]
  refine sm_cut N 0 (fun a a1 a2 => ?_) (fun a a1 a2 => ?_)
  · rw [show N + (7 - N) - (a + 1) = (N - (a + 1)) + (7 - N) by omega]
    refine sm_cut (N - (a + 1)) (a + 1) (fun b b1 b2 => ?_) (fun b b1 b2 => ?_)
    · exact sm_cut (N - (a + 1)) (a + 1) (fun c c1 c2 => rfl) (fun c c1 c2 => z a b c (by omega))
    · exact sm_0 _ _ (fun c c1 c2 => z a b c (by omega))
  · exact sm_0 _ _ (fun b b1 b2 => sm_0 _ _ (fun c c1 c2 => z a b c (by omega)))
/-! never -/
def nv (g : Nat → Nat) : Nat → Nat → Nat → Nat
  | 0, _, x => x
  | j + 1, i, x => nv g j (i + 1) (x &&& (g i ^^^ 127))
theorem nv_lt (g : Nat → Nat) : ∀ j i x, x < 128 → nv g j i x < 128
  | 0, _, _, h => h
  | j + 1, i, x, h => nv_lt g j (i + 1) _ (Nat.lt_of_le_of_lt Nat.and_le_left h)
theorem nvX (h7 : N ≤ 7) (h : Dk N K A C σ τ) : ∀ (j i x : Nat), i + j = 7 → x < 128 → ∀ n, j + 1 ≤ n → L_X4_neverCharged n 1 (nI x) (nI i) σ = some (nI (nv (ag A C K) j i x), σ)
  | 0, i, x, hi, hx, n, hn => by
    obtain ⟨n, rfl⟩ : ∃ q, n = q + 1 := ⟨n - 1, by omega⟩
    show B_X4_neverCharged_1 (L_X4_neverCharged n) n (nI x) (nI i) σ = _
    unfold B_X4_neverCharged_1
    rw [if_pos (by rw [i_le, i_n (by omega), t7]; omega)]
    rfl
  | j + 1, i, x, hi, hx, n, hn => by
    obtain ⟨n, rfl⟩ : ∃ q, n = q + 1 := ⟨n - 1, by omega⟩
    have lg : ag A C K i < 128 := ag_lt i K (fun q hq => by have := (h.2.2.2.1 q hq).2.1; omega)
    show B_X4_neverCharged_1 (L_X4_neverCharged n) n (nI x) (nI i) σ = _
    unfold B_X4_neverCharged_1
    rw [if_neg (by rw [i_le, i_n (by omega), t7]; omega), gd_eq (nIin (by omega) (by decide)), nIc (by omega), h.2.2.2.2 i (by omega), b_and x hx _ lg, bnd_eq, n_a1, bnd_eq]
    exact nvX h7 h j (i + 1) _ (by omega) (Nat.lt_of_le_of_lt Nat.and_le_left hx) n (by omega)
theorem nv_bit (g : Nat → Nat) {b : Nat} (hb : b < 7) : ∀ j i x, ((nv g j i x).testBit b = true ↔ x.testBit b = true ∧ ∀ q, i ≤ q → q < i + j → ¬ (g q).testBit b = true)
  | 0, i, x => ⟨fun h => ⟨h, fun q a b => by omega⟩, fun h => h.1⟩
  | j + 1, i, x => by
    have e127 : (127 : Nat).testBit b = true := by
      rw [show (127 : Nat) = 2 ^ 7 - 1 from rfl, Nat.testBit_two_pow_sub_one]
      exact decide_eq_true hb
    show (nv g j (i + 1) (x &&& (g i ^^^ 127))).testBit b = true ↔ _
    rw [nv_bit g hb j (i + 1), Nat.testBit_and, Nat.testBit_xor, e127, Bool.and_eq_true]
    constructor
    · rintro ⟨⟨h1, h2⟩, h3⟩
      refine ⟨h1, fun q a1 a2 => ?_⟩
      by_cases e : q = i
      · subst e
        intro h
        rw [h] at h2
        exact absurd h2 (by decide)
      · exact h3 q (by omega) (by omega)
    · rintro ⟨h1, h2⟩
      refine ⟨⟨h1, ?_⟩, fun q a1 a2 => h2 q (by omega) (by omega)⟩
      have := h2 i (by omega) (by omega)
      cases hq : (g i).testBit b with
      | true => exact absurd hq this
      | false => rfl
theorem anyL (h7 : N ≤ 7) (h : Dk N K A C σ τ) {b : Nat} (hb : b < 7) : ∀ (j k : Nat), k + j = K → ((∃ i, k ≤ i ∧ i < K ∧ C i = b) ∧ ∀ n, j + 1 ≤ n → L_X12_isAnyCharged n 1 (nI b) (nI k) τ = some (1, τ)) ∨ ((¬ ∃ i, k ≤ i ∧ i < K ∧ C i = b) ∧ ∀ n, j + 1 ≤ n → L_X12_isAnyCharged n 1 (nI b) (nI k) τ = some (0, τ))
  | 0, k, hk => by
    obtain ⟨d1, d2, d3, d4, d5⟩ := h
    refine Or.inr ⟨fun ⟨i, h1, h2, _⟩ => by omega, fun n hn => ?_⟩
    obtain ⟨n, rfl⟩ : ∃ q, n = q + 1 := ⟨n - 1, by omega⟩
    show B_X12_isAnyCharged_1 (L_X12_isAnyCharged n) n (nI b) (nI k) τ = _
    unfold B_X12_isAnyCharged_1
    rw [d3, if_pos (by rw [i_le, i_n (by omega), i_n (by omega)]; omega)]
  | j + 1, k, hk => by
    have ih := anyL h7 h hb j (k + 1) (by omega)
    obtain ⟨d1, d2, d3, d4, d5⟩ := id h
    obtain ⟨q1, q2, q3, q4, q5, q6, q7⟩ := d4 k (by omega)
    have pre : ∀ (J : Nat → Int32 → Int32 → St → Option (Int32 × St)) n, B_X12_isAnyCharged_1 J n (nI b) (nI k) τ = if C k = b then some (1, τ) else J 1 (nI b) (nI (k + 1)) τ := fun J n => by
      unfold B_X12_isAnyCharged_1
      have vk : vp_in (nI k) 10 := nIin (by omega) (by decide)
      rw [d3, if_neg (by rw [i_le, i_n (by omega), i_n (by omega)]; omega), gd_eq vk, nIc (by omega), q7]
      simp only [nI_inj (show C k < 2147483648 by omega) (show b < 2147483648 by omega), bnd_eq, n_a1]
    have ER : ∀ n, L_X12_isAnyCharged (n + 1) 1 (nI b) (nI k) τ = B_X12_isAnyCharged_1 (L_X12_isAnyCharged n) n (nI b) (nI k) τ := fun _ => rfl
    by_cases c : C k = b
    · refine Or.inl ⟨⟨k, by omega, by omega, c⟩, fun n hn => ?_⟩
      obtain ⟨n, rfl⟩ : ∃ q, n = q + 1 := ⟨n - 1, by omega⟩
      rw [ER, pre, if_pos c]
    · rcases ih with ⟨⟨i, i1, i2, i3⟩, i4⟩ | ⟨i1, i4⟩
      · refine Or.inl ⟨⟨i, by omega, i2, i3⟩, fun n hn => ?_⟩
        obtain ⟨n, rfl⟩ : ∃ q, n = q + 1 := ⟨n - 1, by omega⟩
        rw [ER, pre, if_neg c]
        exact i4 n (by omega)
      · refine Or.inr ⟨fun ⟨i, h1, h2, h3⟩ => ?_, fun n hn => ?_⟩
        · by_cases e : i = k
          · subst e
            exact c h3
          · exact i1 ⟨i, by omega, h2, h3⟩
        · obtain ⟨n, rfl⟩ : ∃ q, n = q + 1 := ⟨n - 1, by omega⟩
          rw [ER, pre, if_neg c]
          exact i4 n (by omega)
theorem nvR (h7 : N ≤ 7) (hN : gI τ 0 1 = nI N) (h : Dk N K A C σ τ) : ∀ (j p x : Nat), p + j = N → x < 128 → ∃ x', x' < 128 ∧ (∀ n, j + 12 ≤ n → L_X12_charges n 1 (nI x) (nI p) τ = some (nI x', τ)) ∧ ∀ b, b < 7 → (x'.testBit b = true ↔ x.testBit b = true ∨ (p ≤ b ∧ b < N ∧ ¬ ∃ i, i < K ∧ C i = b))
  | 0, p, x, hp, hx => by
    refine ⟨x, hx, fun n hn => ?_, fun b hb => ⟨Or.inl, fun e => e.elim id (fun e => by omega)⟩⟩
    obtain ⟨n, rfl⟩ : ∃ q, n = q + 1 := ⟨n - 1, by omega⟩
    show B_X12_charges_1 (L_X12_charges n) n (nI x) (nI p) τ = _
    unfold B_X12_charges_1
    rw [hN, if_pos (by rw [i_le, i_n (by omega), i_n (by omega)]; omega)]
  | j + 1, p, x, hp, hx => by
    have k10 := h.1
    have ER : ∀ n, L_X12_charges (n + 1) 1 (nI x) (nI p) τ = B_X12_charges_1 (L_X12_charges n) n (nI x) (nI p) τ := fun _ => rfl
    rcases anyL h7 h (show p < 7 by omega) K 0 (by omega) with ⟨⟨i, i1, i2, i3⟩, i4⟩ | ⟨i1, i4⟩
    · obtain ⟨x', e1, e2, e3⟩ := nvR h7 hN h j (p + 1) x (by omega) hx
      refine ⟨x', e1, fun n hn => ?_, fun b hb => ?_⟩
      · obtain ⟨n, rfl⟩ : ∃ q, n = q + 1 := ⟨n - 1, by omega⟩
        rw [ER]
        unfold B_X12_charges_1
        rw [hN, if_neg (by rw [i_le, i_n (by omega), i_n (by omega)]; omega), show F_X12_isAnyCharged n (nI p) τ = some (1, τ) from i4 n (by omega), bd_some, if_neg (by decide), bnd_eq, n_a1]
        exact e2 n (by omega)
      · rw [e3 b hb]
        constructor
        · rintro (e | ⟨a1, a2, a3⟩)
          · exact Or.inl e
          · exact Or.inr ⟨by omega, a2, a3⟩
        · rintro (e | ⟨a1, a2, a3⟩)
          · exact Or.inl e
          · by_cases c : b = p
            · subst c
              exact absurd ⟨i, i2, i3⟩ a3
            · exact Or.inr ⟨by omega, a2, a3⟩
    · have hlt : x ||| 2 ^ p < 128 := Nat.or_lt_two_pow (n := 7) hx (pow7 _ (by omega))
      obtain ⟨x', e1, e2, e3⟩ := nvR h7 hN h j (p + 1) (x ||| 2 ^ p) (by omega) hlt
      refine ⟨x', e1, fun n hn => ?_, fun b hb => ?_⟩
      · obtain ⟨n, rfl⟩ : ∃ q, n = q + 1 := ⟨n - 1, by omega⟩
        rw [ER]
        unfold B_X12_charges_1
        rw [hN, if_neg (by rw [i_le, i_n (by omega), i_n (by omega)]; omega), show F_X12_isAnyCharged n (nI p) τ = some (0, τ) from i4 n (by omega), bd_some, if_pos rfl, b_or x hx p (by omega), bnd_eq, n_a1, bnd_eq]
        exact e2 n (by omega)
      · rw [e3 b hb, Nat.testBit_or, Bool.or_eq_true, Nat.testBit_two_pow]
        constructor
        · rintro ((e | e) | ⟨a1, a2, a3⟩)
          · exact Or.inl e
          · have := of_decide_eq_true e
            subst this
            exact Or.inr ⟨by omega, by omega, fun ⟨i, j1, j2⟩ => i1 ⟨i, by omega, j1, j2⟩⟩
          · exact Or.inr ⟨by omega, a2, a3⟩
        · rintro (e | ⟨a1, a2, a3⟩)
          · exact Or.inl (Or.inl e)
          · by_cases c : b = p
            · exact Or.inl (Or.inr (decide_eq_true c.symm))
            · exact Or.inr ⟨by omega, a2, a3⟩
theorem p2N : ∀ N, N < 8 → 2 ^ N - 1 < 128 := by decide
theorem nvXR (h7 : N ≤ 7) (hN : gI τ 0 1 = nI N) (h : Dk N K A C σ τ) : ∃ v : Int32, (∀ n, 20 ≤ n → L_X4_neverCharged n 1 (nI (2 ^ N - 1)) 0 σ = some (v, σ)) ∧ ∀ n, 20 ≤ n → L_X12_charges n 1 0 0 τ = some (v, τ) := by
  obtain ⟨x', e1, e2, e3⟩ := nvR h7 hN h N 0 0 (by omega) (by decide)
  have l1 := p2N N (by omega)
  have hX := nvX h7 h 7 0 (2 ^ N - 1) rfl l1
  have hEq : nv (ag A C K) 7 0 (2 ^ N - 1) = x' := by
    have l2 := nv_lt (ag A C K) 7 0 _ l1
    apply Nat.eq_of_testBit_eq
    intro b
    by_cases hb : b < 7
    · have q1 := nv_bit (ag A C K) hb 7 0 (2 ^ N - 1)
      have q2 := e3 b hb
      rw [Nat.testBit_two_pow_sub_one] at q1
      have q3 : (nv (ag A C K) 7 0 (2 ^ N - 1)).testBit b = true ↔ x'.testBit b = true := by
        rw [q1, q2]
        constructor
        · rintro ⟨a1, a2⟩
          refine Or.inr ⟨by omega, of_decide_eq_true a1, fun ⟨i, j1, j2⟩ => ?_⟩
          have a7 := (h.2.2.2.1 i j1).1
          exact a2 (A i) (by omega) (by omega) ((ag_bit _ _ K).mpr ⟨i, j1, rfl, j2⟩)
        · rintro (e | ⟨a1, a2, a3⟩)
          · rw [Nat.zero_testBit] at e
            exact absurd e (by decide)
          · exact ⟨decide_eq_true a2, fun q _ _ hq => by
              obtain ⟨i, j1, j2, j3⟩ := (ag_bit _ _ K).mp hq
              exact a3 ⟨i, j1, j3⟩⟩
      cases u1 : (nv (ag A C K) 7 0 (2 ^ N - 1)).testBit b with
      | true => exact (q3.mp u1).symm
      | false =>
        cases u2 : x'.testBit b with
        | true => rw [q3.mpr u2] at u1; exact absurd u1 (by decide)
        | false => rfl
    · rw [Nat.testBit_lt_two_pow (Nat.lt_of_lt_of_le l2 (Nat.pow_le_pow_right (n := 2) (by decide) (show 7 ≤ b by omega))), Nat.testBit_lt_two_pow (Nat.lt_of_lt_of_le e1 (Nat.pow_le_pow_right (n := 2) (by decide) (show 7 ≤ b by omega)))]
  exact ⟨nI x', fun n hn => by rw [← hEq]; exact hX n (by omega), fun n hn => e2 n (by omega)⟩
end THREES
theorem out02 {p : Int32} (h : ¬ (0 ≤ p.toInt ∧ p.toInt ≤ 2)) {β : Type} (a b : β) : (if p < 0 then a else if p ≤ 2 then b else a) = a := by
  by_cases c : p.toInt < 0
  · rw [if_pos (by rw [i_lt, t0]; exact c)]
  · rw [if_neg (by rw [i_lt, t0]; exact c), if_neg (by rw [i_le, t2]; omega)]
theorem b_charges (p1 p2 : Int32) : MStp Inv (fun n σ => F_X11_charges n p1 p2 σ) (fun n τ => F_X12_charges n p1 p2 τ) := mstp_of (fun σ τ hI => by
  obtain ⟨N, B, h1, h2, h3, h4, h5, h6, h7, h8, h9⟩ := id hI
  obtain ⟨a1, a2, a3, a4⟩ := id h1
  rcases per (N := 6) p1 with ⟨s, hs, rfl⟩ | c1
  · have es : (nI s).toNatClampNeg = s := nIc (by omega)
    by_cases c2 : 0 ≤ p2.toInt ∧ p2.toInt ≤ 2
    · have hX : ∀ n, F_X11_charges n (nI s) p2 σ = (bd (F_X10_refusalOfBytes n (63 + 2 * s) σ) fun r5 s4 => if 0 ≤ r5 then ((bd (F_X4_read n (63 + 2 * s) s4) fun _ s7 => if p2 = 0 then (F_X4_neverCharged n  s7) else (if p2 = (1 : Int32) then (F_X4_threes n  s7) else (F_X4_size n  s7)))) else (some (r5, s4))) := fun n => by
        unfold F_X11_charges
        rw [sh11, bd_some, one0, if_pos (shI hs), if_neg (by rw [i_lt, t0]; omega), if_pos (by rw [i_le, t2]; omega)]
        simp only [gd_eq (v6 hs), es, bd_id]
      have hR : ∀ n, F_X12_charges n (nI s) p2 τ = (bd (F_X12_rowFault n (nI s) τ) fun r6 s5 => if 0 ≤ r6 then (bd (F_X12_layCharges n (nI s) s5) fun _ s7 => if p2 = (1 : Int32) then (F_X12_threes n  s7) else (if p2 = (2 : Int32) then (some ((gI s7 0 36), s7)) else (L_X12_charges  n 1 (0 : Int32) (0 : Int32) s7))) else (F_X12_rowFault n (nI s) s5)) := fun n => by
        unfold F_X12_charges
        rw [sh12, bd_some, one0, if_pos (shI hs), in12, bd_some, one0, t0, t2, if_pos c2]
        simp only [bd_id]
      rcases rowC hs h7.1 h8 with ⟨r, r1, r2, r3, r4⟩ | ⟨⟨m, r, hRw⟩, r2, r3, r4⟩
      · exact ⟨r, σ, τ, Ev.const (fun n => by rw [hX, r2, bd_some, if_neg r1]), Ev.const (fun n => by rw [hR, r4, bd_some, if_neg r1, r4]), hI⟩
      · obtain ⟨C0, K, A, C, σ1, τ1, e1, e2, e3, e4, e5⟩ := chgXR h1 hs hRw
        have tN : gI τ1 0 1 = nI N := (e4.2 1 (by decide)).trans a3
        have xN : gI σ1 4 1 = nI N := (e3.g 4 (by decide) 1).trans a2
        have hI1 : Inv σ1 τ1 := hI.eq e3 e4
        rcases (show p2 = 0 ∨ p2 = 1 ∨ p2 = 2 by rw [i_eq, i_eq, i_eq, t0, t1, t2]; omega) with e | e | e
        · subst e
          obtain ⟨v, f1, f2⟩ := nvXR a1 tN e5
          refine ⟨v, σ1, τ1, ⟨C0 + 20, fun n hn => ?_⟩, ⟨C0 + 20, fun n hn => ?_⟩, hI1⟩
          · show F_X11_charges n (nI s) 0 σ = _
            rw [hX, r2, bd_some, if_pos (by decide), e1 n (by omega), bd_some, if_pos rfl]
            unfold F_X4_neverCharged F_X6_size
            rw [bd_some, xN, b_all N (by omega), bnd_eq]
            exact f1 n (by omega)
          · show F_X12_charges n (nI s) 0 τ = _
            rw [hR, r4, bd_some, if_pos (by decide), e2 n (by omega), bd_some, if_neg (by decide), if_neg (by decide)]
            exact f2 n (by omega)
        · subst e
          obtain ⟨CX, fX⟩ := th1X a1 e5 7 0 0 rfl
          obtain ⟨CR, fR⟩ := th1R a1 tN e5 N 0 0 (by omega)
          rw [thXR a1 e5] at fX
          obtain ⟨v, gX, gR⟩ : ∃ v : Int32, (∀ n, CX ≤ n → L_X4_threes n 1 (nI 0) (nI 0) 0 0 σ1 = some (v, σ1)) ∧ ∀ n, CR ≤ n → L_X12_threes n 1 (nI 0) (nI 0) 0 0 τ1 = some (v, τ1) := ⟨_, fX, fR⟩
          refine ⟨v, σ1, τ1, ⟨C0 + CX, fun n hn => ?_⟩, ⟨C0 + CR, fun n hn => ?_⟩, hI1⟩
          · show F_X11_charges n (nI s) 1 σ = _
            rw [hX, r2, bd_some, if_pos (by decide), e1 n (by omega), bd_some, if_neg (by decide), if_pos rfl]
            exact gX n (by omega)
          · show F_X12_charges n (nI s) 1 τ = _
            rw [hR, r4, bd_some, if_pos (by decide), e2 n (by omega), bd_some, if_pos rfl]
            exact gR n (by omega)
        · subst e
          refine ⟨nI K, σ1, τ1, ⟨C0, fun n hn => ?_⟩, ⟨C0, fun n hn => ?_⟩, hI1⟩
          · show F_X11_charges n (nI s) 2 σ = _
            rw [hX, r2, bd_some, if_pos (by decide), e1 n (by omega), bd_some, if_neg (by decide), if_neg (by decide)]
            unfold F_X4_size
            rw [e5.2.1]
          · show F_X12_charges n (nI s) 2 τ = _
            rw [hR, r4, bd_some, if_pos (by decide), e2 n (by omega), bd_some, if_neg (by decide), if_pos rfl, e5.2.2.1]
    · refine ⟨-1, σ, τ, Ev.const (fun n => ?_), Ev.const (fun n => ?_), hI⟩
      · unfold F_X11_charges
        rw [sh11, bd_some, one0, if_pos (shI hs), out02 c2]
      · unfold F_X12_charges
        rw [sh12, bd_some, one0, if_pos (shI hs), in12, bd_some, one0, t0, t2, if_neg c2]
  · refine ⟨-1, σ, τ, Ev.const (fun n => ?_), Ev.const (fun n => ?_), hI⟩
    · unfold F_X11_charges
      rw [sh11, bd_some, one0, if_neg c1]
    · unfold F_X12_charges
      rw [sh12, bd_some, one0, if_neg c1])
