/-! benches as numbers of five -/
def dg (v : Int32) : Nat := (v.toInt + 1).toNat
def cdn (f : Nat → Int32) : Nat → Nat → Nat
  | 0, _ => 0
  | j + 1, i => dg (f i) + 5 * cdn f j (i + 1)
theorem dg_m1 : dg (-1) = 0 := rfl
theorem dg_n {k : Nat} (h : k < 2147483648) : dg (nI k) = k + 1 := by
  unfold dg
  rw [i_n h]
  omega
theorem bok_dg {N : Nat} {v : Int32} (h : bok N v) (hN : N ≤ 7) : dg v ≤ N ∧ nI (dg v) - 1 = v := by
  rcases h with rfl | ⟨k, hk, rfl⟩
  · exact ⟨by rw [dg_m1]; omega, by decide⟩
  · rw [dg_n (by omega)]
    exact ⟨by omega, n_s1 k⟩
theorem cdn_cut {f g : Nat → Int32} {r : Nat} : ∀ (m i : Nat), (∀ j, i ≤ j → j < i + m → f j = g j) → (∀ j, i + m ≤ j → j < i + m + r → f j = -1) → cdn f (m + r) i = cdn g m i
  | 0, i, _, h2 => by
    induction r generalizing i with
    | zero => rfl
    | succ r ih =>
      rw [Nat.zero_add]
      unfold cdn
      rw [h2 i (by omega) (by omega), dg_m1]
      have := ih (i + 1) (fun j a b => by omega) (fun j a b => h2 j (by omega) (by omega))
      rw [Nat.zero_add] at this
      rw [this]
      rfl
  | m + 1, i, h1, h2 => by
    rw [show m + 1 + r = (m + r) + 1 by omega]
    unfold cdn
    rw [h1 i (by omega) (by omega), cdn_cut m (i + 1) (fun j a b => h1 j (by omega) (by omega)) (fun j a b => h2 j (by omega) (by omega))]
theorem cdn_lt {f : Nat → Int32} : ∀ (m i : Nat), (∀ j, i ≤ j → j < i + m → dg (f j) ≤ 4) → cdn f m i < 5 ^ m
  | 0, i, _ => by unfold cdn; decide
  | m + 1, i, h => by
    have h1 := h i (by omega) (by omega)
    have h2 := cdn_lt m (i + 1) (fun j a b => h j (by omega) (by omega))
    unfold cdn
    rw [Nat.pow_succ]
    omega
/-- who is bound to whom, of four at most -/
def Fn (N : Nat) (f : Nat → Int32) : Prop := N ≤ 4 ∧ (∀ i, i < N → bok N (f i)) ∧ ∀ i, N ≤ i → i < 7 → f i = -1
theorem Fn.d {N : Nat} {f : Nat → Int32} (h : Fn N f) {i : Nat} (hi : i < 7) : dg (f i) ≤ 4 ∧ nI (dg (f i)) - 1 = f i := by
  have h4 := h.1
  by_cases c : i < N
  · have := bok_dg (h.2.1 i c) (by omega)
    exact ⟨by omega, this.2⟩
  · rw [h.2.2 i (by omega) hi]
    exact ⟨by decide, by decide⟩
theorem Fn.cut {N : Nat} {f : Nat → Int32} (h : Fn N f) : cdn f 4 0 = cdn f N 0 := by
  have h4 := h.1
  have := cdn_cut (f := f) (g := f) (r := 4 - N) N 0 (fun j a b => rfl) (fun j a b => h.2.2 j (by omega) (by omega))
  rw [show N + (4 - N) = 4 by omega] at this
  exact this
theorem Fn.lt {N : Nat} {f : Nat → Int32} (h : Fn N f) : cdn f N 0 < 625 := by
  rw [← h.cut]
  exact cdn_lt 4 0 (fun j a b => (h.d (by omega)).1)
theorem dg5 {c d : Nat} {v : Int32} (h : nI d - 1 = v) : (nI c * 5 + v) + 1 = nI (d + 5 * c) ∧ (5 * nI c + v) + 1 = nI (d + 5 * c) := by
  have e1 : (5 : Int32) * nI c = nI (5 * c) := pk_mul 5 c
  have e2 : nI c * 5 = nI (5 * c) := by rw [Int32.mul_comm]; exact e1
  have e3 : nI (5 * c) + v + 1 = nI (d + 5 * c) := by
    rw [← h, Int32.add_assoc, Int32.sub_add_cancel, nI_add, Nat.add_comm]
  exact ⟨by rw [e2]; exact e3, by rw [e1]; exact e3⟩
theorem nm1 (j : Nat) : nI j + (-1) = nI j - 1 := by rw [Int32.sub_eq_add_neg]
theorem tcX (b : Nat) (σ : St) (hd : ∀ i, i < 7 → nI (dg (gI σ (b + 1) i)) - 1 = gI σ (b + 1) i) : ∀ (j : Nat), j ≤ 4 → ∀ n, j + 1 ≤ n → L_X1_toCode b n 1 (nI (cdn (gI σ (b + 1)) (4 - j) j)) (nI j - 1) σ = some (nI (cdn (gI σ (b + 1)) 4 0), σ)
  | 0, _, n, hn => by
    obtain ⟨n, rfl⟩ : ∃ q, n = q + 1 := ⟨n - 1, by omega⟩
    show B_X1_toCode_1 (L_X1_toCode b n) n b _ (nI 0 - 1) σ = _
    unfold B_X1_toCode_1
    rw [if_pos (by decide)]
  | j + 1, hj, n, hn => by
    obtain ⟨n, rfl⟩ : ∃ q, n = q + 1 := ⟨n - 1, by omega⟩
    show B_X1_toCode_1 (L_X1_toCode b n) n b _ (nI (j + 1) - 1) σ = _
    unfold B_X1_toCode_1
    rw [n_s1, if_neg (by rw [i_lt, i_n (by omega), t0]; omega), gd_eq (nIin (by omega) (by decide)), nIc (by omega), (dg5 (hd j (by omega))).1, bnd_eq, nm1, bnd_eq]
    have := tcX b σ hd j (by omega) n (by omega)
    rw [show 4 - j = (4 - (j + 1)) + 1 by omega] at this
    exact this
theorem codX {N : Nat} {f : Nat → Int32} (hf : Fn N f) (b : Nat) (σ : St) (h : ∀ i, i < 7 → gI σ (b + 1) i = f i) (n : Nat) (hn : 5 ≤ n) : F_X1_toCode n b σ = some (nI (cdn f N 0), σ) := by
  have e : cdn (gI σ (b + 1)) 4 0 = cdn f N 0 := by
    rw [← hf.cut]
    exact cdn_cut (r := 0) 4 0 (fun j a c => h j (by omega)) (fun j a c => by omega)
  rw [← e]
  exact tcX b σ (fun i hi => by rw [h i hi]; exact (hf.d hi).2) 4 (Nat.le_refl _) n hn
theorem tcR {N : Nat} (h4 : N ≤ 4) (τ : St) (hd : ∀ i, i < N → nI (dg (gI τ 17 i)) - 1 = gI τ 17 i) : ∀ (j : Nat), j ≤ N → ∀ n, j + 1 ≤ n → L_X12_codeOf n 1 (nI (cdn (gI τ 17) (N - j) j)) (nI j - 1) τ = some (nI (cdn (gI τ 17) N 0), τ)
  | 0, _, n, hn => by
    obtain ⟨n, rfl⟩ : ∃ q, n = q + 1 := ⟨n - 1, by omega⟩
    show B_X12_codeOf_1 (L_X12_codeOf n) n _ (nI 0 - 1) τ = _
    unfold B_X12_codeOf_1
    rw [if_pos (by decide)]
    rfl
  | j + 1, hj, n, hn => by
    obtain ⟨n, rfl⟩ : ∃ q, n = q + 1 := ⟨n - 1, by omega⟩
    show B_X12_codeOf_1 (L_X12_codeOf n) n _ (nI (j + 1) - 1) τ = _
    unfold B_X12_codeOf_1
    rw [n_s1, if_neg (by rw [i_lt, i_n (by omega), t0]; omega), gd_eq (nIin (by omega) (by decide)), nIc (by omega), (dg5 (hd j (by omega))).2, bnd_eq, nm1, bnd_eq]
    have := tcR h4 τ hd j (by omega) n (by omega)
    rw [show N - j = (N - (j + 1)) + 1 by omega] at this
    exact this
theorem codR {N : Nat} {f : Nat → Int32} (hf : Fn N f) (τ : St) (hN : gI τ 0 1 = nI N) (h : ∀ i, i < N → gI τ 17 i = f i) (n : Nat) (hn : 5 ≤ n) : F_X12_codeOf n τ = some (nI (cdn f N 0), τ) := by
  have h4 := hf.1
  have e : cdn (gI τ 17) N 0 = cdn f N 0 := cdn_cut (r := 0) N 0 (fun j a c => h j (by omega)) (fun j a c => by omega)
  rw [← e]
  unfold F_X12_codeOf
  rw [hN, bnd_eq]
  have := tcR h4 τ (fun i hi => by rw [h i hi]; exact (hf.d (by omega)).2) N (Nat.le_refl _) n (by omega)
  rw [Nat.sub_self] at this
  exact this
theorem div5 {d r : Nat} (hd : d ≤ 4) : (d + 5 * r) % 5 = d ∧ (d + 5 * r) / 5 = r := by omega
theorem five0 : ¬ (5 : Int32) = 0 := by decide
theorem fcL {N : Nat} {f : Nat → Int32} (hf : Fn N f) (b : Nat) (ah : Int32) : ∀ (j i : Nat) (σ : St), i + j = 4 → ∃ σ', (∀ n, j + 1 ≤ n → L_X1_fromCode b n 1 ah (nI (cdn f j i)) (nI i) σ = some ((), σ')) ∧ gI σ' b 1 = ah ∧ (∀ q, i ≤ q → q < 4 → gI σ' (b + 1) q = f q) ∧ (∀ q, q < i ∨ 4 ≤ q → gI σ' (b + 1) q = gI σ (b + 1) q) ∧ (∀ c k, c ≠ b → c ≠ b + 1 → gI σ' c k = gI σ c k) ∧ ∀ c k, gL σ' c k = gL σ c k
  | 0, i, σ, hi => by
    refine ⟨sI σ b 1 ah, fun n hn => ?_, by rw [gI_sI, if_pos rfl, if_pos rfl], fun q a c => by omega, fun q _ => by rw [gI_sI, if_neg (by omega)], fun c k c1 c2 => by rw [gI_sI, if_neg c1], fun _ _ => rfl⟩
    obtain ⟨n, rfl⟩ : ∃ q, n = q + 1 := ⟨n - 1, by omega⟩
    show B_X1_fromCode_1 (L_X1_fromCode b n) n b ah _ (nI i) σ = _
    unfold B_X1_fromCode_1
    rw [if_pos (by rw [i_le, i_n (by omega), t4]; omega), bnd_eq]
  | j + 1, i, σ, hi => by
    obtain ⟨d1, d2⟩ := hf.d (show i < 7 by omega)
    obtain ⟨σ', e1, e2, e3, e4, e5, e6⟩ := fcL hf b ah j (i + 1) (sI σ (b + 1) i (f i)) (by omega)
    have lt : cdn f j (i + 1) < 5 ^ j := cdn_lt j (i + 1) (fun q a c => (hf.d (by omega)).1)
    have p5 : 5 ^ j ≤ 5 ^ 4 := Nat.pow_le_pow_right (by decide) (by omega)
    have lt2 : cdn f j (i + 1) < 625 := Nat.lt_of_lt_of_le lt p5
    have ev : cdn f (j + 1) i = dg (f i) + 5 * cdn f j (i + 1) := rfl
    obtain ⟨v1, v2⟩ := div5 (r := cdn f j (i + 1)) d1
    refine ⟨σ', fun n hn => ?_, e2, fun q a c => ?_, fun q hq => ?_, fun c k c1 c2 => by rw [e5 c k c1 c2, gI_sI, if_neg c2], fun c k => e6 c k⟩
    · obtain ⟨n, rfl⟩ : ∃ q, n = q + 1 := ⟨n - 1, by omega⟩
      show B_X1_fromCode_1 (L_X1_fromCode b n) n b ah (nI (cdn f (j + 1) i)) (nI i) σ = _
      unfold B_X1_fromCode_1
      have r5 : nI (cdn f (j + 1) i) - nI (cdn f (j + 1) i) / 5 * 5 = nI (dg (f i)) := by
        have := pk_rem (d := 5) (show cdn f (j + 1) i < 2147483648 by omega) (by decide) (by decide)
        rw [ev, v1] at this
        rw [ev]
        exact this
      have q5 : nI (cdn f (j + 1) i) / 5 = nI (cdn f j (i + 1)) := by
        have := pk_div (d := 5) (show cdn f (j + 1) i < 2147483648 by omega) (by decide) (by decide)
        rw [ev, v2] at this
        rw [ev]
        exact this
      rw [if_neg (by rw [i_le, i_n (by omega), t4]; omega), gd_eq five0, r5, bnd_eq, gd_eq (nIin (by omega) (by decide)), nIc (by omega), d2, bnd_eq, gd_eq five0, q5, bnd_eq, n_a1, bnd_eq]
      exact e1 n (by omega)
    · by_cases e : q = i
      · subst e
        rw [e4 q (by omega), gI_sI, if_pos rfl, if_pos rfl]
      · exact e3 q (by omega) c
    · rw [e4 q (by omega), gI_sI, if_pos rfl, if_neg (by omega)]
theorem frmX {N : Nat} {f : Nat → Int32} (hf : Fn N f) (b : Nat) (ah : Int32) (σ : St) : ∃ σ', (∀ n, 8 ≤ n → F_X1_fromCode n b (nI (cdn f N 0)) ah σ = some ((), σ')) ∧ gI σ' b 1 = ah ∧ (∀ i, i < 7 → gI σ' (b + 1) i = f i) ∧ (∀ c k, c ≠ b → c ≠ b + 1 → gI σ' c k = gI σ c k) ∧ ∀ c k, gL σ' c k = gL σ c k := by
  obtain ⟨σ1, a1, a2, a3, a4, a5⟩ := yr1 b σ
  obtain ⟨σ2, e1, e2, e3, e4, e5, e6⟩ := fcL hf b ah 4 0 σ1 rfl
  have h4 := hf.1
  refine ⟨σ2, fun n hn => ?_, e2, fun i hi => ?_, fun c k c1 c2 => (e5 c k c1 c2).trans (a4 c k c1 c2), fun c k => (e6 c k).trans (a5 c k)⟩
  · unfold F_X1_fromCode
    rw [a1 n (by omega), bd_some, ← hf.cut]
    exact e1 n (by omega)
  · by_cases c : i < 4
    · exact e3 i (by omega) c
    · rw [e4 i (by omega), a3 i hi, hf.2.2 i (by omega) hi]
theorem lcL {N : Nat} {f : Nat → Int32} (hf : Fn N f) : ∀ (j i : Nat) (τ : St), i + j = N → gI τ 0 1 = nI N → ∃ τ', (∀ n, j + 1 ≤ n → L_X12_layCode n 1 (nI (cdn f j i)) (nI i) τ = some ((), τ')) ∧ (∀ q, i ≤ q → q < N → gI τ' 17 q = f q) ∧ (∀ q, q < i → gI τ' 17 q = gI τ 17 q) ∧ (∀ c k, c ≠ 17 → gI τ' c k = gI τ c k) ∧ ∀ c k, gL τ' c k = gL τ c k
  | 0, i, τ, hi, hN => by
    have h4 := hf.1
    refine ⟨τ, fun n hn => ?_, fun q a c => by omega, fun _ _ => rfl, fun _ _ _ => rfl, fun _ _ => rfl⟩
    obtain ⟨n, rfl⟩ : ∃ q, n = q + 1 := ⟨n - 1, by omega⟩
    show B_X12_layCode_1 (L_X12_layCode n) n _ (nI i) τ = _
    unfold B_X12_layCode_1
    rw [hN, if_pos (by rw [i_le, i_n (by omega), i_n (by omega)]; omega)]
  | j + 1, i, τ, hi, hN => by
    have h4 := hf.1
    obtain ⟨d1, d2⟩ := hf.d (show i < 7 by omega)
    obtain ⟨τ', e1, e3, e4, e5, e6⟩ := lcL hf j (i + 1) (sI τ 17 i (f i)) (by omega) hN
    have lt : cdn f j (i + 1) < 5 ^ j := cdn_lt j (i + 1) (fun q a c => (hf.d (by omega)).1)
    have p5 : 5 ^ j ≤ 5 ^ 4 := Nat.pow_le_pow_right (by decide) (by omega)
    have lt2 : cdn f j (i + 1) < 625 := Nat.lt_of_lt_of_le lt p5
    have ev : cdn f (j + 1) i = dg (f i) + 5 * cdn f j (i + 1) := rfl
    obtain ⟨v1, v2⟩ := div5 (r := cdn f j (i + 1)) d1
    refine ⟨τ', fun n hn => ?_, fun q a c => ?_, fun q hq => ?_, fun c k c1 => by rw [e5 c k c1, gI_sI, if_neg c1], fun c k => e6 c k⟩
    · obtain ⟨n, rfl⟩ : ∃ q, n = q + 1 := ⟨n - 1, by omega⟩
      show B_X12_layCode_1 (L_X12_layCode n) n (nI (cdn f (j + 1) i)) (nI i) τ = _
      unfold B_X12_layCode_1
      have r5 : nI (cdn f (j + 1) i) - nI (cdn f (j + 1) i) / 5 * 5 = nI (dg (f i)) := by
        have := pk_rem (d := 5) (show cdn f (j + 1) i < 2147483648 by omega) (by decide) (by decide)
        rw [ev, v1] at this
        rw [ev]
        exact this
      have q5 : nI (cdn f (j + 1) i) / 5 = nI (cdn f j (i + 1)) := by
        have := pk_div (d := 5) (show cdn f (j + 1) i < 2147483648 by omega) (by decide) (by decide)
        rw [ev, v2] at this
        rw [ev]
        exact this
      rw [hN, if_neg (by rw [i_le, i_n (by omega), i_n (by omega)]; omega), gd_eq five0, r5, bnd_eq, gd_eq (nIin (by omega) (by decide)), nIc (by omega), d2, bnd_eq, gd_eq five0, q5, bnd_eq, n_a1, bnd_eq]
      exact e1 n (by omega)
    · by_cases e : q = i
      · subst e
        rw [e4 q (by omega), gI_sI, if_pos rfl, if_pos rfl]
      · exact e3 q (by omega) c
    · rw [e4 q (by omega), gI_sI, if_pos rfl, if_neg (by omega)]
theorem layR {N : Nat} {f : Nat → Int32} (hf : Fn N f) (τ : St) (hN : gI τ 0 1 = nI N) : ∃ τ', (∀ n, 8 ≤ n → F_X12_layCode n (nI (cdn f N 0)) τ = some ((), τ')) ∧ (∀ q, q < N → gI τ' 17 q = f q) ∧ (∀ c k, c ≠ 17 → gI τ' c k = gI τ c k) ∧ ∀ c k, gL τ' c k = gL τ c k := by
  have h4 := hf.1
  obtain ⟨τ', e1, e3, e4, e5, e6⟩ := lcL hf N 0 τ (by omega) hN
  exact ⟨τ', fun n hn => e1 n (by omega), fun q hq => e3 q (by omega) hq, e5, e6⟩
/-- the bench behind a case, as a function -/
def stf (N : Nat) (f : Nat → Int32) (a c : Nat) (won : Bool) (i : Nat) : Int32 := if won then (if i = c then -1 else if i = spk f c N 0 then nI (spk f c N 0) else f i) else (if i = a then nI c else if i = spk f c N 0 then -1 else f i)
theorem Fn.st {N : Nat} {f : Nat → Int32} (h : Fn N f) {a c : Nat} (ha : a < N) (hc : c < N) (won : Bool) : Fn N (stf N f a c won) := by
  have h4 := h.1
  have hs : spk f c N 0 < N := spk_lt f hc N 0 (by omega)
  refine ⟨h4, fun i hi => ?_, fun i i1 i2 => ?_⟩
  · unfold stf
    cases won
    · rw [if_neg (by decide)]
      split
      · exact bokN hc
      · split
        · exact bokM
        · exact h.2.1 i hi
    · rw [if_pos rfl]
      split
      · exact bokM
      · split
        · exact bokN hs
        · exact h.2.1 i hi
  · unfold stf
    cases won
    · rw [if_neg (by decide), if_neg (by omega), if_neg (by omega)]
      exact h.2.2 i i1 i2
    · rw [if_pos rfl, if_neg (by omega), if_neg (by omega)]
      exact h.2.2 i i1 i2
theorem Fn.sp {N : Nat} {f g : Nat → Int32} (h : Fn N f) {c : Nat} (hc : c < N) (e : ∀ i, i < 7 → g i = f i) : spk g c 7 0 = spk f c N 0 := by
  have h4 := h.1
  have := spk_cut (f := g) (g := f) (k := c) (r := 7 - N) N 0 (fun j a b => e j (by omega)) (fun j a b => by
    rw [e j (by omega), h.2.2 j (by omega) (by omega)]
    exact fun hh => nI_nm1 (show c < 2147483648 by omega) hh.symm)
  rw [show N + (7 - N) = 7 by omega] at this
  exact this
theorem Fn.sp2 {N : Nat} {f g : Nat → Int32} {c : Nat} (e : ∀ i, i < N → g i = f i) : spk g c N 0 = spk f c N 0 := spk_cut (r := 0) N 0 (fun j a b => e j (by omega)) (fun j a b => by omega)
theorem Fn.setX {N : Nat} {f : Nat → Int32} (h : Fn N f) {σ : St} {b a c : Nat} (hc : c < N) (won : Bool) (e : ∀ i, i < 7 → gI σ (b + 1) i = f i) : ∀ i, i < 7 → gI (setX σ b a c won) (b + 1) i = stf N f a c won i := fun i hi => by
  rw [setX_g, h.sp hc e, e i hi]
  rfl
theorem Fn.setR {N : Nat} {f : Nat → Int32} {τ : St} {a c : Nat} (won : Bool) (e : ∀ i, i < N → gI τ 17 i = f i) : ∀ i, i < N → gI (setR τ N a c won) 17 i = stf N f a c won i := fun i hi => by
  rw [setR_g, Fn.sp2 e, e i hi]
  rfl
