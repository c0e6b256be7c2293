/-! the law's value -/
def two (ch a b : Int32) : Int32 := if ch = 37 then (if b = 0 then 0 else a - a / b * b) else if ch = 38 then (if a = 0 then 0 else if b = 0 then 0 else 1) else if ch = 42 then a * b else if ch = 43 then a + b else if ch = 45 then a - b else if ch = 47 then (if b = 0 then 0 else a / b) else if ch = 60 then (if b ≤ a then 0 else 1) else if ch = 61 then (if a = b then 1 else 0) else if ch = 62 then (if a ≤ b then 0 else 1) else (if a = 0 then (if b = 0 then 0 else 1) else 1)
theorem div_m1 (a : Int32) : a / -1 = -a := by
  rw [i_eq, Int32.toInt_div, tm1, Int32.toInt_neg, Int.tdiv_neg, Int.tdiv_one]
theorem rem_m1 (a : Int32) : a - a / -1 * -1 = 0 := by
  rw [div_m1, Int32.neg_mul_neg, Int32.mul_one, Int32.sub_self]
theorem sgn_cases {ch : Int32} (h : ch ∈ sgns) : ch = 43 ∨ ch = 45 ∨ ch = 42 ∨ ch = 47 ∨ ch = 37 ∨ ch = 60 ∨ ch = 61 ∨ ch = 62 ∨ ch = 38 ∨ ch = 124 := by
  simpa [sgns] using h
theorem two12 (n : Nat) {ch : Int32} (h : ch ∈ sgns) (a b : Int32) (τ : St) : F_X12_twoOf n ch a b τ = some (two ch a b, τ) := by
  rcases sgn_cases h with rfl | rfl | rfl | rfl | rfl | rfl | rfl | rfl | rfl | rfl
  · rfl
  · rfl
  · rfl
  · show (if b = 0 then some ((0 : Int32), τ) else if b = -1 then some (-a, τ) else gd (¬ b = 0) (bnd (a / b) fun x => some (x, τ))) = some (if b = 0 then 0 else a / b, τ)
    by_cases c : b = 0
    · rw [if_pos c, if_pos c]
    · rw [if_neg c, if_neg c]
      by_cases c2 : b = -1
      · rw [if_pos c2, c2, div_m1]
      · rw [if_neg c2, gd_eq c]
        rfl
  · show (if b = 0 then some ((0 : Int32), τ) else if b = -1 then some (0, τ) else gd (¬ b = 0) (bnd (a - a / b * b) fun x => some (x, τ))) = some (if b = 0 then 0 else a - a / b * b, τ)
    by_cases c : b = 0
    · rw [if_pos c, if_pos c]
    · rw [if_neg c, if_neg c]
      by_cases c2 : b = -1
      · rw [if_pos c2, c2, rem_m1]
      · rw [if_neg c2, gd_eq c]
        rfl
  · show (if b ≤ a then some ((0 : Int32), τ) else some (1, τ)) = some (if b ≤ a then 0 else 1, τ)
    split <;> rfl
  · show (if a = b then some ((1 : Int32), τ) else some (0, τ)) = some (if a = b then 1 else 0, τ)
    split <;> rfl
  · show (if a ≤ b then some ((0 : Int32), τ) else some (1, τ)) = some (if a ≤ b then 0 else 1, τ)
    split <;> rfl
  · show (if a = 0 then some ((0 : Int32), τ) else if b = 0 then some (0, τ) else some (1, τ)) = some (if a = 0 then 0 else if b = 0 then 0 else 1, τ)
    split
    · rfl
    · split <;> rfl
  · show (if a = 0 then (if b = 0 then some ((0 : Int32), τ) else some (1, τ)) else some (1, τ)) = some (if a = 0 then (if b = 0 then 0 else 1) else 1, τ)
    split
    · split <;> rfl
    · rfl
def OkX (f : Nat → Int32) (σ σ' : St) : Prop := (∀ k, gI σ' (27 + 1) k = gI σ (27 + 1) k ∧ gI σ' (27 + 2) k = gI σ (27 + 2) k ∧ gI σ' (27 + 3) k = gI σ (27 + 3) k) ∧ (∀ k, gI σ (27 + 1) k = 48 → gI σ' (27 + 4) k = gI σ (27 + 4) k) ∧ gI σ' 27 4 = gI σ 27 4 ∧ ∀ i, i < 6 → gI σ' 12 i = f i
def FrX (σ σ' σ'' : St) : Prop := (∀ c k, c ≠ 31 → gI σ'' c k = gI σ' c k) ∧ (∀ k, gI σ (27 + 1) k = 48 → gI σ'' 31 k = gI σ' 31 k) ∧ ∀ c k, gL σ'' c k = gL σ' c k
def OkR (f : Nat → Int32) (τ τ' : St) : Prop := (∀ k, gI τ' 10 k = gI τ 10 k ∧ gI τ' 11 k = gI τ 11 k ∧ gI τ' 13 k = gI τ 13 k ∧ gI τ' 14 k = gI τ 14 k) ∧ gI τ' 12 0 = gI τ 12 0 ∧ ∀ i, i < 6 → gI τ' 15 i = f i
def FrR (τ' τ'' : St) : Prop := (∀ c k, c ≠ 16 → gI τ'' c k = gI τ' c k) ∧ ∀ c k, gL τ'' c k = gL τ' c k
theorem FrX.rf (σ σ' : St) : FrX σ σ' σ' := ⟨fun _ _ _ => rfl, fun _ _ => rfl, fun _ _ => rfl⟩
theorem FrR.rf (τ : St) : FrR τ τ := ⟨fun _ _ _ => rfl, fun _ _ => rfl⟩
theorem FrX.tr {σ a b c : St} (h : FrX σ a b) (h2 : FrX σ b c) : FrX σ a c := ⟨fun x k e => (h2.1 x k e).trans (h.1 x k e), fun k e => (h2.2.1 k e).trans (h.2.1 k e), fun x k => (h2.2.2 x k).trans (h.2.2 x k)⟩
theorem FrR.tr {a b c : St} (h : FrR a b) (h2 : FrR b c) : FrR a c := ⟨fun x k e => (h2.1 x k e).trans (h.1 x k e), fun x k => (h2.2 x k).trans (h.2 x k)⟩
theorem OkX.fr {f : Nat → Int32} {σ a b : St} (h : OkX f σ a) (h2 : FrX σ a b) : OkX f σ b := ⟨fun k => ⟨(h2.1 28 k (by decide)).trans (h.1 k).1, (h2.1 29 k (by decide)).trans (h.1 k).2.1, (h2.1 30 k (by decide)).trans (h.1 k).2.2⟩, fun k e => (h2.2.1 k e).trans (h.2.1 k e), (h2.1 27 4 (by decide)).trans h.2.2.1, fun i e => (h2.1 12 i (by decide)).trans (h.2.2.2 i e)⟩
theorem OkR.fr {f : Nat → Int32} {σ a b : St} (h : OkR f σ a) (h2 : FrR a b) : OkR f σ b := ⟨fun k => ⟨(h2.1 10 k (by decide)).trans (h.1 k).1, (h2.1 11 k (by decide)).trans (h.1 k).2.1, (h2.1 13 k (by decide)).trans (h.1 k).2.2.1, (h2.1 14 k (by decide)).trans (h.1 k).2.2.2⟩, (h2.1 12 0 (by decide)).trans h.2.1, fun i e => (h2.1 15 i (by decide)).trans (h.2.2 i e)⟩
def Vl (σ : St) : List Nat → List Int32 → Prop
  | [], t => t = []
  | p :: s, t => ∃ r, t = gI σ 31 p :: r ∧ Vl σ s r
def Pil (τ : St) : List Int32 → Prop
  | [] => True
  | v :: r => gI τ 16 r.length = v ∧ Pil τ r
theorem Vl.mono {σ σ' : St} : ∀ {s : List Nat} {t : List Int32}, Vl σ s t → (∀ p, p ∈ s → gI σ' 31 p = gI σ 31 p) → Vl σ' s t
  | [], _, h, _ => h
  | p :: s, _, ⟨r, e, h⟩, g => ⟨r, by rw [g p (List.mem_cons_self ..)]; exact e, h.mono (fun q hq => g q (List.mem_cons_of_mem _ hq))⟩
theorem Pil.mono {τ τ' : St} : ∀ {t : List Int32}, Pil τ t → (∀ i, i < t.length → gI τ' 16 i = gI τ 16 i) → Pil τ' t
  | [], _, _ => trivial
  | v :: r, ⟨h1, h2⟩, g => ⟨(g _ (by simp)).trans h1, h2.mono (fun i hi => g i (by simp; omega))⟩
/-- the class's loop at a step that is no number -/
theorem wX {σ : St} {k ke nx a c : Nat} {ch : Int32} (h4 : gI σ 27 4 = nI ke) (hk : k < ke) (he : ke ≤ 242) (hx : nx ≤ k) (h1 : gI σ (27 + 1) k = ch) (h48 : ¬ ch = 48) (h2 : gI σ (27 + 2) k = nI a) (ha : a < 242) (h3 : gI σ (27 + 3) k = nI c) (hc : c < 242) (n : Nat) :
    (ch ∈ sgns → L_X7_worth 27 (n + 1) 1 (nI nx) (nI k) σ = L_X7_worth 27 n 1 (nI nx) (nI (k + 1)) (sI σ 31 k (two ch (gI σ 31 a) (gI σ 31 c)))) ∧
    (ch = 33 → L_X7_worth 27 (n + 1) 1 (nI nx) (nI k) σ = L_X7_worth 27 n 1 (nI nx) (nI (k + 1)) (sI σ 31 k (if gI σ 31 a = 0 then 1 else 0))) ∧
    (ch = 95 → L_X7_worth 27 (n + 1) 1 (nI nx) (nI k) σ = L_X7_worth 27 n 1 (nI nx) (nI (k + 1)) (sI σ 31 k (-(gI σ 31 a)))) ∧
    (ch = 97 → a < 6 → L_X7_worth 27 (n + 1) 1 (nI nx) (nI k) σ = L_X7_worth 27 n 1 (nI nx) (nI (k + 1)) (sI σ 31 k (gI σ 12 a))) ∧
    (ch = 59 → L_X7_worth 27 (n + 1) 1 (nI nx) (nI k) σ = some (gI σ 31 a, σ)) ∧
    (ch = 63 → L_X7_worth 27 (n + 1) 1 (nI nx) (nI k) σ = if gI σ 31 a = 0 then L_X7_worth 27 n 1 (nI c) (nI (k + 1)) σ else L_X7_worth 27 n 1 (nI k) (nI (k + 1)) σ) := by
  have v : vp_in (nI k) 242 := nIin (by omega) (by decide)
  have e : L_X7_worth 27 (n + 1) 1 (nI nx) (nI k) σ = B_X7_worth_1 (L_X7_worth 27 n) n 27 (nI nx) (nI k) σ := rfl
  rw [e]
  unfold B_X7_worth_1
  rw [if_neg (show ¬ gI σ 27 4 ≤ nI k by rw [h4, i_le, i_n (by omega), i_n (by omega)]; omega), if_neg (show ¬ nI k < nI nx by rw [i_lt, i_n (by omega), i_n (by omega)]; omega)]
  simp only [gd_eq v, nIc (show k < 2147483648 by omega), h1, h2, h3, nIc (show a < 2147483648 by omega), nIc (show c < 2147483648 by omega), gd_eq (nIin ha (by decide)), gd_eq (nIin hc (by decide)), bnd_eq, n_a1]
  rw [if_neg h48]
  generalize gI σ 31 a = x
  generalize gI σ 31 c = y
  refine ⟨fun h => ?_, fun h => ?_, fun h => ?_, fun h ha6 => ?_, fun h => ?_, fun h => ?_⟩
  · have key : ∀ v, sI σ (27 + 4) k v = sI σ 31 k v := fun _ => rfl
    clear h1 h48
    rcases sgn_cases h with rfl | rfl | rfl | rfl | rfl | rfl | rfl | rfl | rfl | rfl
    · rfl
    · rfl
    · rfl
    · show (if y = 0 then _ else gd (¬ y = 0) _) = L_X7_worth 27 n 1 (nI nx) (nI (k + 1)) (sI σ 31 k (if y = 0 then 0 else x / y))
      by_cases c : y = 0
      · rw [if_pos c, if_pos c]
      · rw [if_neg c, if_neg c, gd_eq c]
    · show (if y = 0 then _ else gd (¬ y = 0) _) = L_X7_worth 27 n 1 (nI nx) (nI (k + 1)) (sI σ 31 k (if y = 0 then 0 else x - x / y * y))
      by_cases c : y = 0
      · rw [if_pos c, if_pos c]
      · rw [if_neg c, if_neg c, gd_eq c]
    · show (if y ≤ x then _ else _) = L_X7_worth 27 n 1 (nI nx) (nI (k + 1)) (sI σ 31 k (if y ≤ x then 0 else 1))
      split <;> rfl
    · show (if x = y then _ else _) = L_X7_worth 27 n 1 (nI nx) (nI (k + 1)) (sI σ 31 k (if x = y then 1 else 0))
      split <;> rfl
    · show (if x ≤ y then _ else _) = L_X7_worth 27 n 1 (nI nx) (nI (k + 1)) (sI σ 31 k (if x ≤ y then 0 else 1))
      split <;> rfl
    · show (if x = 0 then _ else if y = 0 then _ else _) = L_X7_worth 27 n 1 (nI nx) (nI (k + 1)) (sI σ 31 k (if x = 0 then 0 else if y = 0 then 0 else 1))
      split
      · rfl
      · split <;> rfl
    · show (if x = 0 then (if y = 0 then _ else _) else _) = L_X7_worth 27 n 1 (nI nx) (nI (k + 1)) (sI σ 31 k (if x = 0 then (if y = 0 then 0 else 1) else 1))
      split
      · split <;> rfl
      · rfl
  · rw [h]
    show (if x = 0 then _ else _) = _
    split <;> rfl
  · rw [h]
    rfl
  · rw [h]
    show (if (6 : Int32) ≤ nI a then _ else gd (vp_in (nI a) 6) _) = _
    rw [if_neg (by rw [i_le, i_n (by omega), t6]; omega), gd_eq (nIin ha6 (by decide))]
  · rw [h]
    rfl
  · rw [h]
    rfl
theorem wN {σ : St} {k ke nx : Nat} (h4 : gI σ 27 4 = nI ke) (hk : k < ke) (he : ke ≤ 242) (hx : nx ≤ k) (h1 : gI σ (27 + 1) k = 48) (n : Nat) : L_X7_worth 27 (n + 1) 1 (nI nx) (nI k) σ = L_X7_worth 27 n 1 (nI nx) (nI (k + 1)) σ := by
  have v : vp_in (nI k) 242 := nIin (by omega) (by decide)
  have e : L_X7_worth 27 (n + 1) 1 (nI nx) (nI k) σ = B_X7_worth_1 (L_X7_worth 27 n) n 27 (nI nx) (nI k) σ := rfl
  rw [e]
  unfold B_X7_worth_1
  rw [if_neg (show ¬ gI σ 27 4 ≤ nI k by rw [h4, i_le, i_n (by omega), i_n (by omega)]; omega), if_neg (show ¬ nI k < nI nx by rw [i_lt, i_n (by omega), i_n (by omega)]; omega), gd_eq v, nIc (by omega), if_pos h1, bnd_eq, n_a1]
theorem wS {σ : St} {ke nx : Nat} (h4 : gI σ 27 4 = nI ke) (he : ke ≤ 242) (hx : nx ≤ ke) : ∀ (m k : Nat), k + m = nx → ∀ n, L_X7_worth 27 (n + m) 1 (nI nx) (nI k) σ = L_X7_worth 27 n 1 (nI nx) (nI nx) σ
  | 0, k, h, n => by rw [show nx = k by omega]; rfl
  | m + 1, k, h, n => by
    have e : L_X7_worth 27 (n + (m + 1)) 1 (nI nx) (nI k) σ = B_X7_worth_1 (L_X7_worth 27 (n + m)) (n + m) 27 (nI nx) (nI k) σ := rfl
    rw [e]
    unfold B_X7_worth_1
    rw [if_neg (show ¬ gI σ 27 4 ≤ nI k by rw [h4, i_le, i_n (by omega), i_n (by omega)]; omega), if_pos (show nI k < nI nx by rw [i_lt, i_n (by omega), i_n (by omega)]; omega), bnd_eq, n_a1]
    exact wS h4 he hx m (k + 1) (by omega) n
theorem z130 (e : Int32) : (130 : Int32) * 0 + e = e := by rw [Int32.mul_zero, Int32.zero_add]
/-- the reference's loop -/
theorem kR {τ : St} {e j c : Nat} (hj : j < e) (he : e ≤ 130) (n : Nat) {ac : Int32} (h1 : gI τ 10 j = ac) :
    (ac = 1 → c < 130 → L_X12_worked (n + 2) 1 0 (nI e) (nI c) (nI j) 0 τ = L_X12_worked n 1 0 (nI e) (nI (c + 1)) (nI (j + 1)) 0 (sI τ 16 c (gI τ 11 j))) ∧
    (∀ i, i < 6 → ac = 2 → gI τ 11 j = nI i → c < 130 → L_X12_worked (n + 2) 1 0 (nI e) (nI c) (nI j) 0 τ = L_X12_worked n 1 0 (nI e) (nI (c + 1)) (nI (j + 1)) 0 (sI τ 16 c (gI τ 15 i))) ∧
    (ac = 3 → c < 130 → L_X12_worked (n + 1) 1 0 (nI e) (nI (c + 1)) (nI j) 0 τ = L_X12_worked n 1 0 (nI e) (nI (c + 1)) (nI (j + 1)) 0 (sI τ 16 c (if gI τ 16 c = 0 then 1 else 0))) ∧
    (ac = 4 → c < 130 → L_X12_worked (n + 1) 1 0 (nI e) (nI (c + 1)) (nI j) 0 τ = L_X12_worked n 1 0 (nI e) (nI (c + 1)) (nI (j + 1)) 0 (sI τ 16 c (-(gI τ 16 c)))) ∧
    (ac ∈ sgns → c + 1 < 130 → L_X12_worked (n + 1) 1 0 (nI e) (nI (c + 2)) (nI j) 0 τ = L_X12_worked n 1 0 (nI e) (nI (c + 1)) (nI (j + 1)) 0 (sI τ 16 c (two ac (gI τ 16 c) (gI τ 16 (c + 1))))) := by
  have v : vp_in (nI j) 260 := nIin (by omega) (by decide)
  have E : ∀ n (x : Int32), L_X12_worked (n + 1) 1 0 (nI e) x (nI j) 0 τ = B_X12_worked_1 (L_X12_worked n) n 0 (nI e) x (nI j) τ := fun _ _ => rfl
  have E2 : ∀ n (x y : Int32), L_X12_worked (n + 1) 2 0 (nI e) x (nI j) y τ = B_X12_worked_2 (L_X12_worked n) n 0 (nI e) x (nI j) y τ := fun _ _ _ => rfl
  have nle : ¬ (130 : Int32) * 0 + nI e ≤ nI j := by rw [z130, i_le, i_n (by omega), i_n (by omega)]; omega
  refine ⟨fun h hc => ?_, fun i hi h h2 hc => ?_, fun h hc => ?_, fun h hc => ?_, fun h hc => ?_⟩
  · rw [E]
    unfold B_X12_worked_1
    rw [if_neg nle, gd_eq v, nIc (by omega), h1, bnd_eq, if_pos h, E2]
    unfold B_X12_worked_2
    rw [if_pos h, gd_eq v, gd_eq (nIin hc (by decide)), nIc (by omega), nIc (by omega), bnd_eq, bnd_eq, bnd_eq, n_a1, n_a1]
  · rw [E]
    unfold B_X12_worked_1
    rw [if_neg nle, gd_eq v, nIc (by omega), h1, bnd_eq, h, if_neg (by decide), if_pos rfl, E2]
    unfold B_X12_worked_2
    rw [if_neg (by decide), gd_eq v, nIc (show j < 2147483648 by omega), h2, gd_eq (nIin hi (by decide)), gd_eq (nIin hc (by decide)), nIc (by omega), nIc (by omega), bnd_eq, bnd_eq, bnd_eq, n_a1, n_a1]
  · rw [E]
    unfold B_X12_worked_1
    rw [if_neg nle, gd_eq v, nIc (by omega), h1, bnd_eq, h, if_neg (by decide), if_neg (by decide), if_pos rfl, n_s1, gd_eq (nIin hc (by decide)), nIc (by omega)]
    split
    · rw [gd_eq (nIin hc (by decide)), bnd_eq, bnd_eq, n_a1]
    · rw [gd_eq (nIin hc (by decide)), bnd_eq, bnd_eq, n_a1]
  · rw [E]
    unfold B_X12_worked_1
    rw [if_neg nle, gd_eq v, nIc (by omega), h1, bnd_eq, h, if_neg (by decide), if_neg (by decide), if_neg (by decide), if_pos rfl, n_s1, gd_eq (nIin hc (by decide)), gd_eq (nIin hc (by decide)), nIc (by omega), bnd_eq, bnd_eq, n_a1]
  · rw [E]
    unfold B_X12_worked_1
    have h0 : ¬ ac = 1 ∧ ¬ ac = 2 ∧ ¬ ac = 3 ∧ ¬ ac = 4 := by
      rcases sgn_cases h with rfl | rfl | rfl | rfl | rfl | rfl | rfl | rfl | rfl | rfl <;> decide
    have hm : nI (c + 2) + (-1) = nI (c + 1) := by rw [i_eq, i_add _ _ (by rw [i_n (by omega), tm1]; omega) (by rw [i_n (by omega), tm1]; omega), i_n (by omega), i_n (by omega), tm1]; omega
    rw [if_neg nle, gd_eq v, nIc (show j < 2147483648 by omega), h1, bnd_eq, if_neg h0.1, if_neg h0.2.1, if_neg h0.2.2.1, if_neg h0.2.2.2, bnd_eq, hm, n_s1, gd_eq (nIin (by omega) (by decide)), gd_eq (nIin hc (by decide)), two12 _ h, bd_some, gd_eq (nIin (by omega) (by decide)), bnd_eq, bnd_eq, nIc (by omega), nIc (by omega), n_a1]
