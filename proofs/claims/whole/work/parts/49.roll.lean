/-! rolls -/
def nL (k : Nat) : Int64 := Int64.ofNat k
theorem l_n {k : Nat} (h : k < 9223372036854775808) : (nL k).toInt = k := lg_ofNat_toInt h
theorem l_eq (a b : Int64) : a = b ↔ a.toInt = b.toInt := Int64.toInt_inj.symm
theorem nIL {k : Nat} (h : k < 2147483648) : (nI k).toInt64 = nL k := by rw [l_eq, Int32.toInt_toInt64, i_n h, l_n (by omega)]
theorem l_mul {a b : Nat} (h : a * b < 9223372036854775808) (ha : a < 9223372036854775808) (hb : b < 9223372036854775808) : nL a * nL b = nL (a * b) := by
  have e : ((a * b : Nat) : Int) = (a : Int) * b := by simp
  rw [l_eq, Int64.toInt_mul, l_n ha, l_n hb, l_n h, ← e]
  exact Int.bmod_eq_of_le (by omega) (by omega)
theorem l_add {a b : Nat} (h : a + b < 9223372036854775808) : nL a + nL b = nL (a + b) := by
  rw [l_eq, Int64.toInt_add, l_n (by omega), l_n (by omega), l_n h]
  have e : ((a + b : Nat) : Int) = (a : Int) + b := by simp
  rw [← e]
  exact Int.bmod_eq_of_le (by omega) (by omega)
theorem l_div {a : Nat} (h : a < 9223372036854775808) : nL a / 1000000000 = nL (a / 1000000000) := by
  rw [l_eq, lg_ldiv_nonneg (by rw [l_n h]; omega) (by decide), l_n h, l_n (by omega)]
  show (a : Int) / 1000000000 = _
  omega
theorem l_rem {a : Nat} (h : a < 9223372036854775808) : nL a - nL a / 1000000000 * 1000000000 = nL (a % 1000000000) := by
  rw [l_div h, show (1000000000 : Int64) = nL 1000000000 from rfl, l_mul (by omega) (by omega) (by decide), l_eq, Int64.toInt_sub, l_n h, l_n (by omega), l_n (by omega)]
  have e : (a : Int) - ((a / 1000000000 * 1000000000 : Nat) : Int) = ((a % 1000000000 : Nat) : Int) := by omega
  rw [e]
  exact Int.bmod_eq_of_le (by omega) (by omega)
theorem and1 (y : Int32) : y &&& 1 = 0 ∨ y &&& 1 = 1 := by
  have h : (y &&& 1).toBitVec = y.toBitVec &&& 1#32 := rfl
  rw [BitVec.and_one_eq_setWidth_ofBool_getLsbD] at h
  cases hb : y.toBitVec.getLsbD 0
  · rw [hb] at h
    exact Or.inl (Int32.toBitVec_inj.mp h)
  · rw [hb] at h
    exact Or.inr (Int32.toBitVec_inj.mp h)
theorem sh1 : ∀ U, U < 9 → (1 : Int32) <<< (nI U &&& 31) = nI (2 ^ U) := by decide
def Ps (N : Nat) (x : Int32) : Bool := decide (0 ≤ x.toInt ∧ x.toInt < N)
theorem Ps_if (N : Nat) (x : Int32) : (if 0 ≤ x.toInt ∧ x.toInt < N then (1 : Int32) else 0) = if Ps N x = true then 1 else 0 := by
  unfold Ps
  by_cases c : 0 ≤ x.toInt ∧ x.toInt < N
  · rw [if_pos c, if_pos (decide_eq_true c)]
  · rw [if_neg c, if_neg (by rw [decide_eq_false c]; decide)]
def uk (N m : Nat) (r : Nat → Int32) : Nat → Nat → Nat → Nat
  | 0, _, acc => acc
  | j + 1, k, acc => if 3 * k + 3 ≤ m then uk N m r j (k + 1) (if r (3 * k + 2) = -1 ∧ Ps N (r (3 * k)) ∧ Ps N (r (3 * k + 1)) then acc + 1 else acc) else acc
theorem uk_le (N m : Nat) (r : Nat → Int32) : ∀ j k acc, uk N m r j k acc ≤ acc + j
  | 0, _, _ => Nat.le_refl _
  | j + 1, k, acc => by
    unfold uk
    split
    · split
      · have := uk_le N m r j (k + 1) (acc + 1)
        omega
      · have := uk_le N m r j (k + 1) acc
        omega
    · omega
theorem casX {s m : Nat} {r : Nat → Int32} {σ τ : St} (h : Rw s m r σ τ) (n : Nat) : F_X2_casesOf n (63 + 2 * s) σ = some (nI (if (m + 2) / 3 < 16 then (m + 2) / 3 else 16), σ) := by
  have := h.1
  unfold F_X2_casesOf F_X10_size
  rw [bd_some, h.2.1, gd_eq (by decide), bnd_eq, n_a2, show nI (m + 2) / 3 = nI ((m + 2) / 3) from pk_div (d := 3) (by omega) (by decide) (by decide), bnd_eq]
  by_cases c : (m + 2) / 3 < 16
  · rw [if_pos (by rw [i_lt, i_n (by omega)]; show _ < (16 : Int); omega), if_pos c]
  · rw [if_neg (by rw [i_lt, i_n (by omega)]; show ¬ _ < (16 : Int); omega), if_neg c]
    rfl
theorem t16 : (16 : Int32).toInt = 16 := rfl
theorem ukX {N s m : Nat} {r : Nat → Int32} {σ τ : St} (hN : gI σ 4 1 = nI N) (h7 : N ≤ 7) (h : Rw s m r σ τ) : ∀ (j k acc : Nat), k + j = 16 → acc ≤ k → ∀ n, j + 2 ≤ n → L_X2_countUnknown (63 + 2 * s) n 1 (nI acc) (nI k) σ = some (nI (uk N m r j k acc), σ)
  | 0, k, acc, hk, ha, n, hn => by
    obtain ⟨n, rfl⟩ : ∃ q, n = q + 1 := ⟨n - 1, by omega⟩
    show B_X2_countUnknown_1 (L_X2_countUnknown (63 + 2 * s) n) n (63 + 2 * s) (nI acc) (nI k) σ = _
    unfold B_X2_countUnknown_1
    rw [casX h, bd_some, if_pos]
    · rfl
    · have : (if (m + 2) / 3 < 16 then (m + 2) / 3 else 16) ≤ 16 := by split <;> omega
      rw [i_le, i_n (by omega), i_n (by omega)]
      omega
  | j + 1, k, acc, hk, ha, n, hn => by
    have m60 := h.1
    obtain ⟨n, rfl⟩ : ∃ q, n = q + 1 := ⟨n - 1, by omega⟩
    show B_X2_countUnknown_1 (L_X2_countUnknown (63 + 2 * s) n) n (63 + 2 * s) (nI acc) (nI k) σ = _
    unfold B_X2_countUnknown_1 uk
    have cs16 : (if (m + 2) / 3 < 16 then (m + 2) / 3 else 16) ≤ 16 := by split <;> omega
    rw [casX h, bd_some]
    by_cases c : 3 * k + 3 ≤ m
    · have lt : k < (if (m + 2) / 3 < 16 then (m + 2) / 3 else 16) := by split <;> omega
      rw [if_neg (by rw [i_le, i_n (by omega), i_n (by omega)]; omega), whoX h (by omega), bd_some, one0, if_pos c, if_pos c, endX h c, bd_some]
      have hh : ∀ x : Int32, F_X6_has n x σ = some (if Ps N x then 1 else 0, σ) := fun x => by rw [has6 hN h7 n x, Ps_if]
      by_cases c1 : r (3 * k + 2) = -1
      · rw [if_pos c1, chgX h c, bd_some, hh, bd_some, one0]
        by_cases c2 : Ps N (r (3 * k))
        · rw [if_pos c2, chdX h c, bd_some, hh, bd_some, one0]
          by_cases c3 : Ps N (r (3 * k + 1))
          · rw [if_pos c3, bnd_eq, bnd_eq, n_a1, n_a1, if_pos ⟨c1, c2, c3⟩]
            exact ukX hN h7 h j (k + 1) (acc + 1) (by omega) (by omega) n (by omega)
          · rw [if_neg c3, bnd_eq, n_a1, if_neg (fun e => c3 e.2.2)]
            exact ukX hN h7 h j (k + 1) acc (by omega) (by omega) n (by omega)
        · rw [if_neg c2, bnd_eq, n_a1, if_neg (fun e => c2 e.2.1)]
          exact ukX hN h7 h j (k + 1) acc (by omega) (by omega) n (by omega)
      · rw [if_neg c1, bnd_eq, n_a1, if_neg (fun e => c1 e.1)]
        exact ukX hN h7 h j (k + 1) acc (by omega) (by omega) n (by omega)
    · rw [if_neg c]
      by_cases c' : k < (if (m + 2) / 3 < 16 then (m + 2) / 3 else 16)
      · rw [if_neg (by rw [i_le, i_n (by omega), i_n (by omega)]; omega), whoX h (by omega), bd_some, one0, if_neg c, bnd_eq, n_a1]
        obtain ⟨n, rfl⟩ : ∃ q, n = q + 1 := ⟨n - 1, by omega⟩
        show B_X2_countUnknown_1 (L_X2_countUnknown (63 + 2 * s) n) n (63 + 2 * s) (nI acc) (nI (k + 1)) σ = _
        unfold B_X2_countUnknown_1
        rw [casX h, bd_some, if_pos]
        have : (if (m + 2) / 3 < 16 then (m + 2) / 3 else 16) ≤ k + 1 := by split <;> omega
        rw [i_le, i_n (by omega), i_n (by omega)]
        omega
      · rw [if_pos (by rw [i_le, i_n (by omega), i_n (by omega)]; omega)]
theorem ukR {N s m : Nat} {r : Nat → Int32} {σ τ : St} (hN : gI τ 0 1 = nI N) (h7 : N ≤ 7) (hs : s < 6) (h : Rw s m r σ τ) : ∀ (j k acc : Nat), k + j = 16 → acc ≤ k → ∀ n, j + 2 ≤ n → L_X12_unknownMany n 1 (nI s) (nI acc) (nI k) τ = some (nI (uk N m r j k acc), τ)
  | 0, k, acc, hk, ha, n, hn => by
    obtain ⟨n, rfl⟩ : ∃ q, n = q + 1 := ⟨n - 1, by omega⟩
    show B_X12_unknownMany_1 (L_X12_unknownMany n) n (nI s) (nI acc) (nI k) τ = _
    unfold B_X12_unknownMany_1
    rw [if_pos]
    · rfl
    · rw [i_le, t16, i_n (by omega)]
      omega
  | j + 1, k, acc, hk, ha, n, hn => by
    have m60 := h.1
    obtain ⟨n, rfl⟩ : ∃ q, n = q + 1 := ⟨n - 1, by omega⟩
    show B_X12_unknownMany_1 (L_X12_unknownMany n) n (nI s) (nI acc) (nI k) τ = _
    unfold B_X12_unknownMany_1 uk
    rw [if_neg (by rw [i_le, t16, i_n (by omega)]; omega), gd_eq (v6 hs), nIc (by omega), h.2.2.1, n_m3, n_a2]
    by_cases c : 3 * k + 3 ≤ m
    · rw [if_neg (by rw [i_le, i_n (by omega), i_n (by omega)]; omega), if_pos c, getR hs h (by omega), bd_some]
      have hh : ∀ x : Int32, F_X12_isPerson n x τ = some (if Ps N x then 1 else 0, τ) := fun x => by rw [isP12 hN h7 n x, Ps_if]
      by_cases c1 : r (3 * k + 2) = -1
      · rw [if_pos c1, getR hs h (by omega), bd_some, hh, bd_some, one0]
        by_cases c2 : Ps N (r (3 * k))
        · rw [if_pos c2, n_a1, getR hs h (by omega), bd_some, hh, bd_some, one0]
          by_cases c3 : Ps N (r (3 * k + 1))
          · rw [if_pos c3, bnd_eq, bnd_eq, n_a1, n_a1, if_pos ⟨c1, c2, c3⟩]
            exact ukR hN h7 hs h j (k + 1) (acc + 1) (by omega) (by omega) n (by omega)
          · rw [if_neg c3, bnd_eq, n_a1, if_neg (fun e => c3 e.2.2)]
            exact ukR hN h7 hs h j (k + 1) acc (by omega) (by omega) n (by omega)
        · rw [if_neg c2, bnd_eq, n_a1, if_neg (fun e => c2 e.2.1)]
          exact ukR hN h7 hs h j (k + 1) acc (by omega) (by omega) n (by omega)
      · rw [if_neg c1, bnd_eq, n_a1, if_neg (fun e => c1 e.1)]
        exact ukR hN h7 hs h j (k + 1) acc (by omega) (by omega) n (by omega)
    · rw [if_pos (by rw [i_le, i_n (by omega), i_n (by omega)]; omega), if_neg c]
/-! a walk through a roll -/
def So (σ τ : St) : Prop := gI σ 13 6 = gI τ 0 42 ∧ (gI τ 0 42 = -2 ∨ ∃ q, q < 16 ∧ gI τ 0 42 = nI q)
def Pd (P : Nat) (σ τ : St) : Prop := gL σ 13 7 = nL P ∧ gL τ 0 40 = nL (P / 1000000000) ∧ gL τ 0 41 = nL (P % 1000000000) ∧ 1 ≤ P
def Ke (σ σ' τ τ' : St) : Prop := gI σ' 13 8 = gI σ 13 8 ∧ gI σ' 13 9 = gI σ 13 9 ∧ gI τ' 0 43 = gI τ 0 43 ∧ gI τ' 0 44 = gI τ 0 44
theorem endC {s m : Nat} {r : Nat → Int32} {σ1 τ1 : St} (hR : Rw s m r σ1 τ1) {k u x : Nat} (hk : 3 * k + 3 ≤ m) (hx : x ≤ 12) (a c : Int32) (way : Int32) (hw : way = -1 ∨ 0 ≤ way.toInt) (he : -1 ≤ (r (3 * k + 2)).toInt ∧ (r (3 * k + 2)).toInt ≤ 1) : ∃ (won : Bool) (u' : Nat), u' ≤ u + 1 ∧
    (∀ n, (if r (3 * k + 2) = 1 then L_X2_walk (63 + 2 * s) 37 (n + 1) 2 way (nI u) (nI k) (nI x) 1 σ1 else L_X2_walk (63 + 2 * s) 37 (n + 1) 2 way (nI u) (nI k) (nI x) 0 σ1) = L_X2_walk (63 + 2 * s) 37 n 3 way (nI u') (nI k) (nI x) (if won then 1 else 0) σ1) ∧
    ∀ n, (if 0 ≤ r (3 * k + 2) then (L_X12_wrongRoll n 2 (nI s) way (nI u) (nI k) a c (r (3 * k + 2)) (nI x) τ1) else (if 0 ≤ way then (bnd ((way >>> (nI u &&& 31)) &&& (1 : Int32)) fun x17 => bnd (nI u + (1 : Int32)) fun x18 => L_X12_wrongRoll n 2 (nI s) way x18 (nI k) a c x17 (nI x) τ1) else (if ((2 : Int32) * nI x) < (12 : Int32) then (bnd (nI u + (1 : Int32)) fun x19 => L_X12_wrongRoll n 2 (nI s) way x19 (nI k) a c (0 : Int32) (nI x) τ1) else (bnd (nI u + (1 : Int32)) fun x20 => L_X12_wrongRoll n 2 (nI s) way x20 (nI k) a c (1 : Int32) (nI x) τ1)))) = L_X12_wrongRoll n 2 (nI s) way (nI u') (nI k) a c (if won then 1 else 0) (nI x) τ1 := by
  have E2 : ∀ n y, L_X2_walk (63 + 2 * s) 37 (n + 1) 2 way (nI u) (nI k) (nI x) y σ1 = B_X2_walk_2 (L_X2_walk (63 + 2 * s) 37 n) n (63 + 2 * s) 37 way (nI u) (nI k) (nI x) y σ1 := fun _ _ => rfl
  have dbl : (2 : Int32) * nI x = nI (2 * x) := pk_mul 2 x
  rcases b012 (r (3 * k + 2)) with e | e | e
  · refine ⟨false, u, by omega, fun n => ?_, fun n => ?_⟩
    · rw [e, if_neg (by decide), E2]
      unfold B_X2_walk_2
      rw [endX hR hk, bd_some, e, if_neg (by decide)]
      rfl
    · rw [e, if_pos (by decide)]
      rfl
  · refine ⟨true, u, by omega, fun n => ?_, fun n => ?_⟩
    · rw [e, if_pos rfl, E2]
      unfold B_X2_walk_2
      rw [endX hR hk, bd_some, e, if_neg (by decide)]
      rfl
    · rw [e, if_pos (by decide)]
      rfl
  · have em : r (3 * k + 2) = -1 := by rw [i_eq, tm1]; omega
    rcases hw with hw | hw
    · by_cases c6 : x < 6
      · refine ⟨false, u + 1, by omega, fun n => ?_, fun n => ?_⟩
        · rw [em, if_neg (by decide), E2]
          unfold B_X2_walk_2
          rw [endX hR hk, bd_some, em, if_pos rfl, if_pos hw, if_pos (by rw [i_lt, i_n (by omega), t6]; omega), bnd_eq, n_a1]
          rfl
        · rw [em, if_neg (by decide), if_neg (by rw [hw]; decide), dbl, if_pos (by rw [i_lt, i_n (by omega), t12]; omega), bnd_eq, n_a1]
          rfl
      · refine ⟨true, u + 1, by omega, fun n => ?_, fun n => ?_⟩
        · rw [em, if_neg (by decide), E2]
          unfold B_X2_walk_2
          rw [endX hR hk, bd_some, em, if_pos rfl, if_pos hw, if_neg (by rw [i_lt, i_n (by omega), t6]; omega), bnd_eq, n_a1]
          rfl
        · rw [em, if_neg (by decide), if_neg (by rw [hw]; decide), dbl, if_neg (by rw [i_lt, i_n (by omega), t12]; omega), bnd_eq, n_a1]
          rfl
    · have hwn : ¬ way = -1 := by rw [i_eq, tm1]; omega
      have hw0 : 0 ≤ way := by rw [i_le, t0]; exact hw
      rcases and1 (way >>> (nI u &&& 31)) with hb | hb
      · refine ⟨false, u + 1, by omega, fun n => ?_, fun n => ?_⟩
        · rw [em, if_neg (by decide), E2]
          unfold B_X2_walk_2
          rw [endX hR hk, bd_some, em, if_pos rfl, if_neg hwn, hb, if_neg (by decide), bnd_eq, n_a1]
          rfl
        · rw [em, if_neg (by decide), if_pos hw0, hb, bnd_eq, bnd_eq, n_a1]
          rfl
      · refine ⟨true, u + 1, by omega, fun n => ?_, fun n => ?_⟩
        · rw [em, if_neg (by decide), E2]
          unfold B_X2_walk_2
          rw [endX hR hk, bd_some, em, if_pos rfl, if_neg hwn, hb, if_pos rfl, bnd_eq, n_a1]
          rfl
        · rw [em, if_neg (by decide), if_pos hw0, hb, bnd_eq, bnd_eq, n_a1]
          rfl
theorem mulR {τ : St} {P x : Nat} (h40 : gL τ 0 40 = nL (P / 1000000000)) (h41 : gL τ 0 41 = nL (P % 1000000000)) (hP : P ≤ 184884258895036416) (hx : x ≤ 12) (n : Nat) : ∃ τ', F_X12_multiply n (nI x) τ = some ((), τ') ∧ gL τ' 0 40 = nL (P * x / 1000000000) ∧ gL τ' 0 41 = nL (P * x % 1000000000) ∧ (∀ c k, gI τ' c k = gI τ c k) ∧ EqR τ τ' := by
  have m1 : P % 1000000000 * x ≤ 1000000000 * 12 := Nat.mul_le_mul (by omega) hx
  have m2 : P / 1000000000 * x ≤ 184884259 * 12 := Nat.mul_le_mul (by omega) hx
  have e0 : P * x = (P / 1000000000) * x * 1000000000 + P % 1000000000 * x := by
    have := Nat.div_add_mod P 1000000000
    calc P * x = (1000000000 * (P / 1000000000) + P % 1000000000) * x := by rw [this]
      _ = _ := by rw [Nat.add_mul, Nat.mul_comm 1000000000, Nat.mul_assoc, Nat.mul_comm 1000000000, ← Nat.mul_assoc]
  have e1 : P * x / 1000000000 = P / 1000000000 * x + P % 1000000000 * x / 1000000000 := by omega
  have e2 : P * x % 1000000000 = P % 1000000000 * x % 1000000000 := by omega
  have f : F_X12_multiply n (nI x) τ = some ((), sL (sL (sL τ 0 41 (nL (P % 1000000000 * x))) 0 40 (nL (P * x / 1000000000))) 0 41 (nL (P * x % 1000000000))) := by
    unfold F_X12_multiply
    rw [bnd_eq, gd_eq (by decide), bnd_eq, bnd_eq, gd_eq (by decide), bnd_eq, bnd_eq, nIL (by omega), h41, l_mul (by omega) (by omega) (by omega)]
    have g1 : gL (sL τ 0 41 (nL (P % 1000000000 * x))) 0 41 = nL (P % 1000000000 * x) := by rw [gL_sL, if_pos rfl, if_pos rfl]
    have g2 : gL (sL τ 0 41 (nL (P % 1000000000 * x))) 0 40 = nL (P / 1000000000) := by rw [gL_sL, if_pos rfl, if_neg (by decide), h40]
    rw [g1, g2, l_mul (by omega) (by omega) (by omega), l_div (by omega), l_add (by omega), ← e1]
    have g3 : gL (sL (sL τ 0 41 (nL (P % 1000000000 * x))) 0 40 (nL (P * x / 1000000000))) 0 41 = nL (P % 1000000000 * x) := by rw [gL_sL, if_pos rfl, if_neg (by decide), g1]
    rw [g3, l_rem (by omega), ← e2]
  refine ⟨_, f, ?_, ?_, fun _ _ => rfl, ((EqR.ofL (by decide)).trans (EqR.ofL (by decide))).trans (EqR.ofL (by decide))⟩
  · rw [gL_sL, if_pos rfl, if_neg (by decide), gL_sL, if_pos rfl, if_pos rfl]
  · rw [gL_sL, if_pos rfl, if_pos rfl]
