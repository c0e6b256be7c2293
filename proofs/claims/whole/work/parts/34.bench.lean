/-! benches: the class's (cell b, its row b + 1), the reference's bound (17) -/
theorem L1s {α : Type} (z : α) (f : Nat → α → α) (n : Nat) : (Nat.rec z f (n + 1) : α) = f n (Nat.rec z f n) := rfl
def spk (f : Nat → Int32) (k : Nat) : Nat → Nat → Nat
  | 0, _ => k
  | m + 1, i => if f i = nI k then i else spk f k m (i + 1)
theorem spk_lt (f : Nat → Int32) {k M : Nat} (hk : k < M) : ∀ (m i : Nat), i + m ≤ M → spk f k m i < M
  | 0, _, _ => hk
  | m + 1, i, h => by
    unfold spk
    split
    · omega
    · exact spk_lt f hk m (i + 1) (by omega)
theorem spk_eq (f : Nat → Int32) (k : Nat) : ∀ (m i : Nat), spk f k m i = k ∨ (i ≤ spk f k m i ∧ spk f k m i < i + m ∧ f (spk f k m i) = nI k)
  | 0, _ => Or.inl rfl
  | m + 1, i => by
    unfold spk
    split
    · rename_i h
      exact Or.inr ⟨by omega, by omega, h⟩
    · rcases spk_eq f k m (i + 1) with h | ⟨h1, h2, h3⟩
      · exact Or.inl h
      · exact Or.inr ⟨by omega, by omega, h3⟩
theorem spk_cut {f g : Nat → Int32} {k r : Nat} : ∀ (m i : Nat), (∀ j, i ≤ j → j < i + m → f j = g j) → (∀ j, i + m ≤ j → j < i + m + r → ¬ f j = nI k) → spk f k (m + r) i = spk g k m i
  | 0, i, _, h2 => by
    induction r generalizing i with
    | zero => rfl
    | succ r ih =>
      rw [Nat.zero_add]
      unfold spk
      rw [if_neg (h2 i (by omega) (by omega))]
      have := ih (i + 1) (fun j a b => by omega) (fun j a b => h2 j (by omega) (by omega))
      rw [Nat.zero_add] at this
      exact this
  | m + 1, i, h1, h2 => by
    rw [show m + 1 + r = (m + r) + 1 by omega]
    unfold spk
    rw [h1 i (by omega) (by omega)]
    split
    · rfl
    · exact spk_cut m (i + 1) (fun j a b => h1 j (by omega) (by omega)) (fun j a b => h2 j (by omega) (by omega))
def cnt (f : Nat → Int32) : Nat → Nat → Nat
  | 0, _ => 0
  | m + 1, i => (if f i = -1 then 0 else 1) + cnt f m (i + 1)
theorem cnt_le (f : Nat → Int32) : ∀ m i, cnt f m i ≤ m
  | 0, _ => Nat.le_refl _
  | m + 1, i => by
    have := cnt_le f m (i + 1)
    unfold cnt
    split <;> omega
theorem cnt_cut {f g : Nat → Int32} {r : Nat} : ∀ (m i : Nat), (∀ j, i ≤ j → j < i + m → f j = g j) → (∀ j, i + m ≤ j → j < i + m + r → f j = -1) → cnt f (m + r) i = cnt g m i
  | 0, i, _, h2 => by
    induction r generalizing i with
    | zero => rfl
    | succ r ih =>
      rw [Nat.zero_add]
      unfold cnt
      rw [if_pos (h2 i (by omega) (by omega))]
      have := ih (i + 1) (fun j a b => by omega) (fun j a b => h2 j (by omega) (by omega))
      rw [Nat.zero_add] at this
      rw [this]
      rfl
  | m + 1, i, h1, h2 => by
    rw [show m + 1 + r = (m + r) + 1 by omega]
    unfold cnt
    rw [h1 i (by omega) (by omega), cnt_cut m (i + 1) (fun j a b => h1 j (by omega) (by omega)) (fun j a b => h2 j (by omega) (by omega))]
theorem seat1 (n : Nat) (p : Int32) (σ : St) : F_X1_isSeat n p σ = some (if 0 ≤ p.toInt ∧ p.toInt < 7 then 1 else 0, σ) := by
  unfold F_X1_isSeat
  simp only [i_lt, i_le, t0, t7]
  split
  · rw [if_neg (by omega)]
  · split
    · rw [if_neg (by omega)]
    · rw [if_pos (by omega)]
theorem seat1n (n : Nat) {i : Nat} (hi : i < 7) (σ : St) : F_X1_isSeat n (nI i) σ = some (1, σ) := by rw [seat1, i_n (by omega), if_pos (by omega)]
theorem bound1 (n b : Nat) {i : Nat} (hi : i < 7) (σ : St) : F_X1_boundTo n b (nI i) σ = some (gI σ (b + 1) i, σ) := by
  unfold F_X1_boundTo
  rw [seat1n n hi, bd_some, if_neg (by decide), gd_eq (nIin hi (by decide)), nIc (by omega)]
theorem free1 (n b : Nat) {i : Nat} (hi : i < 7) (σ : St) : F_X1_isFree n b (nI i) σ = some (if gI σ (b + 1) i = -1 then 1 else 0, σ) := by
  unfold F_X1_isFree
  rw [seat1n n hi, bd_some, if_neg (by decide), gd_eq (nIin hi (by decide)), nIc (by omega)]
  split <;> rfl
theorem spkL (b : Nat) (σ : St) {k : Nat} (hk : k < 7) : ∀ (m i : Nat), i + m = 7 → ∀ n, m + 1 ≤ n → L_X1_speakerFor b n 1 (nI k) (nI i) σ = some (nI (spk (gI σ (b + 1)) k m i), σ)
  | 0, i, hi, n, hn => by
    obtain ⟨n, rfl⟩ : ∃ q, n = q + 1 := ⟨n - 1, by omega⟩
    show B_X1_speakerFor_1 (L_X1_speakerFor b n) n b (nI k) (nI i) σ = _
    unfold B_X1_speakerFor_1
    rw [if_pos (by rw [i_le, i_n (by omega), t7]; omega)]
    rfl
  | m + 1, i, hi, n, hn => by
    obtain ⟨n, rfl⟩ : ∃ q, n = q + 1 := ⟨n - 1, by omega⟩
    show B_X1_speakerFor_1 (L_X1_speakerFor b n) n b (nI k) (nI i) σ = _
    unfold B_X1_speakerFor_1
    rw [if_neg (by rw [i_le, i_n (by omega), t7]; omega), gd_eq (nIin (by omega) (by decide)), nIc (by omega)]
    unfold spk
    split
    · rfl
    · rw [bnd_eq, n_a1]
      exact spkL b σ hk m (i + 1) (by omega) n (by omega)
theorem spk1 (b : Nat) (σ : St) {k : Nat} (hk : k < 7) (n : Nat) (hn : 8 ≤ n) : F_X1_speakerFor n b (nI k) σ = some (nI (spk (gI σ (b + 1)) k 7 0), σ) := spkL b σ hk 7 0 rfl n hn
theorem cntL (b : Nat) (σ : St) : ∀ (m i c : Nat), i + m = 7 → c ≤ i → ∀ n, m + 1 ≤ n → L_X1_howManyBound b n 1 (nI c) (nI i) σ = some (nI (c + cnt (gI σ (b + 1)) m i), σ)
  | 0, i, c, hi, hc, n, hn => by
    obtain ⟨n, rfl⟩ : ∃ q, n = q + 1 := ⟨n - 1, by omega⟩
    show B_X1_howManyBound_1 (L_X1_howManyBound b n) n b (nI c) (nI i) σ = _
    unfold B_X1_howManyBound_1
    rw [if_pos (by rw [i_le, i_n (by omega), t7]; omega)]
    rfl
  | m + 1, i, c, hi, hc, n, hn => by
    obtain ⟨n, rfl⟩ : ∃ q, n = q + 1 := ⟨n - 1, by omega⟩
    show B_X1_howManyBound_1 (L_X1_howManyBound b n) n b (nI c) (nI i) σ = _
    unfold B_X1_howManyBound_1
    rw [if_neg (by rw [i_le, i_n (by omega), t7]; omega), gd_eq (nIin (by omega) (by decide)), nIc (by omega)]
    unfold cnt
    split
    · rw [bnd_eq, n_a1, cntL b σ m (i + 1) c (by omega) (by omega) n (by omega), Nat.zero_add]
    · rw [bnd_eq, bnd_eq, n_a1, n_a1, cntL b σ m (i + 1) (c + 1) (by omega) (by omega) n (by omega), show c + (1 + cnt (gI σ (b + 1)) m (i + 1)) = c + 1 + cnt (gI σ (b + 1)) m (i + 1) by omega]
theorem cnt1 (b : Nat) (σ : St) (n : Nat) (hn : 8 ≤ n) : F_X1_howManyBound n b σ = some (nI (cnt (gI σ (b + 1)) 7 0), σ) := by
  have := cntL b σ 7 0 0 rfl (by omega) n hn
  rw [Nat.zero_add] at this
  exact this
/-- the bench behind a case -/
def setX (σ : St) (b a c : Nat) (won : Bool) : St :=
  let s := spk (gI σ (b + 1)) c 7 0
  sI (if won then sI (sI σ (b + 1) s (nI s)) (b + 1) c (-1) else sI (sI σ (b + 1) s (-1)) (b + 1) a (nI c)) b 1 (gI σ b 1 + 1)
theorem set1 (b : Nat) (σ : St) {a c : Nat} (ha : a < 7) (hc : c < 7) (won : Bool) (n : Nat) (hn : 8 ≤ n) : F_X1_settle n b (nI a) (nI c) (if won then 1 else 0) σ = some ((), setX σ b a c won) := by
  have hs : spk (gI σ (b + 1)) c 7 0 < 7 := spk_lt _ hc 7 0 (by omega)
  have hne : ¬ b = b + 1 := by omega
  unfold F_X1_settle setX
  rw [seat1n n ha, bd_some, if_neg (by decide), seat1n n hc, bd_some, if_neg (by decide), spk1 b σ hc n hn, bd_some]
  cases won
  · simp only [Bool.false_eq_true, if_false, if_true, bnd_eq]
    rw [gd_eq (nIin hs (by decide)), gd_eq (nIin ha (by decide)), nIc (by omega), nIc (by omega)]
    simp only [gI_sI, if_neg hne]
  · simp only [if_true, bnd_eq]
    rw [if_neg (by decide), gd_eq (nIin hs (by decide)), gd_eq (nIin hc (by decide)), nIc (by omega), nIc (by omega)]
    simp only [gI_sI, if_neg hne]
/-! the reference -/
theorem spk12L {N : Nat} (h7 : N ≤ 7) (τ : St) (hN : gI τ 0 1 = nI N) {k : Nat} (hk : k < N) : ∀ (m i : Nat), i + m = N → ∀ n, m + 1 ≤ n → L_X12_speaker n 1 (nI k) (nI i) τ = some (nI (spk (gI τ 17) k m i), τ)
  | 0, i, hi, n, hn => by
    obtain ⟨n, rfl⟩ : ∃ q, n = q + 1 := ⟨n - 1, by omega⟩
    show B_X12_speaker_1 (L_X12_speaker n) n (nI k) (nI i) τ = _
    unfold B_X12_speaker_1
    rw [hN, if_pos (by rw [i_le, i_n (by omega), i_n (by omega)]; omega)]
    rfl
  | m + 1, i, hi, n, hn => by
    obtain ⟨n, rfl⟩ : ∃ q, n = q + 1 := ⟨n - 1, by omega⟩
    show B_X12_speaker_1 (L_X12_speaker n) n (nI k) (nI i) τ = _
    unfold B_X12_speaker_1
    rw [hN, if_neg (by rw [i_le, i_n (by omega), i_n (by omega)]; omega), gd_eq (nIin (by omega) (by decide)), nIc (by omega)]
    unfold spk
    split
    · rfl
    · rw [bnd_eq, n_a1]
      exact spk12L h7 τ hN hk m (i + 1) (by omega) n (by omega)
theorem spk12 {N : Nat} (h7 : N ≤ 7) (τ : St) (hN : gI τ 0 1 = nI N) {k : Nat} (hk : k < N) (n : Nat) (hn : 8 ≤ n) : F_X12_speaker n (nI k) τ = some (nI (spk (gI τ 17) k N 0), τ) := spk12L h7 τ hN hk N 0 (by omega) n (by omega)
theorem bok_lt {N : Nat} {v : Int32} (h : bok N v) (hN : N ≤ 7) : v < 0 ↔ v = -1 := by
  rcases h with h | ⟨k, hk, h⟩
  · subst h; decide
  · subst h
    rw [i_lt, i_eq, i_n (by omega), t0, tm1]
    omega
theorem cnt12L {N : Nat} (h7 : N ≤ 7) (τ : St) (hN : gI τ 0 1 = nI N) (hb : ∀ i, i < N → bok N (gI τ 17 i)) : ∀ (m i c : Nat), i + m = N → c ≤ i → ∀ n, m + 1 ≤ n → L_X12_boundMany n 1 (nI c) (nI i) τ = some (nI (c + cnt (gI τ 17) m i), τ)
  | 0, i, c, hi, hc, n, hn => by
    obtain ⟨n, rfl⟩ : ∃ q, n = q + 1 := ⟨n - 1, by omega⟩
    show B_X12_boundMany_1 (L_X12_boundMany n) n (nI c) (nI i) τ = _
    unfold B_X12_boundMany_1
    rw [hN, if_pos (by rw [i_le, i_n (by omega), i_n (by omega)]; omega)]
    rfl
  | m + 1, i, c, hi, hc, n, hn => by
    obtain ⟨n, rfl⟩ : ∃ q, n = q + 1 := ⟨n - 1, by omega⟩
    show B_X12_boundMany_1 (L_X12_boundMany n) n (nI c) (nI i) τ = _
    unfold B_X12_boundMany_1
    rw [hN, if_neg (by rw [i_le, i_n (by omega), i_n (by omega)]; omega), gd_eq (nIin (by omega) (by decide)), nIc (by omega)]
    unfold cnt
    simp only [bok_lt (hb i (by omega)) h7]
    split
    · rw [bnd_eq, n_a1, cnt12L h7 τ hN hb m (i + 1) c (by omega) (by omega) n (by omega), Nat.zero_add]
    · rw [bnd_eq, bnd_eq, n_a1, n_a1, cnt12L h7 τ hN hb m (i + 1) (c + 1) (by omega) (by omega) n (by omega), show c + (1 + cnt (gI τ 17) m (i + 1)) = c + 1 + cnt (gI τ 17) m (i + 1) by omega]
theorem cnt12 {N : Nat} (h7 : N ≤ 7) (τ : St) (hN : gI τ 0 1 = nI N) (hb : ∀ i, i < N → bok N (gI τ 17 i)) (n : Nat) (hn : 8 ≤ n) : F_X12_boundMany n τ = some (nI (cnt (gI τ 17) N 0), τ) := by
  have := cnt12L h7 τ hN hb N 0 0 (by omega) (by omega) n (by omega)
  rw [Nat.zero_add] at this
  exact this
/-- beginThought: bound becomes boundNow, caseMany casesNow; nothing else that counts -/
theorem begL {N : Nat} (h7 : N ≤ 7) : ∀ (m i : Nat) (τ : St), gI τ 0 1 = nI N → i + m = N → ∃ τ', (∀ n, m + 1 ≤ n → L_X12_beginThought n 1 (nI i) τ = some ((), τ')) ∧ EqR τ τ' ∧ gI τ' 0 27 = gI τ 0 29 ∧ (∀ j, i ≤ j → j < N → gI τ' 17 j = gI τ 18 j) ∧ ∀ j, j < i → gI τ' 17 j = gI τ 17 j
  | 0, i, τ, hN, hi => by
    refine ⟨sI τ 0 27 (gI τ 0 29), fun n hn => ?_, EqR.of0 (by decide), rfl, fun j a b => by omega, fun j _ => rfl⟩
    obtain ⟨n, rfl⟩ : ∃ q, n = q + 1 := ⟨n - 1, by omega⟩
    show B_X12_beginThought_1 (L_X12_beginThought n) n (nI i) τ = _
    unfold B_X12_beginThought_1
    rw [hN, if_pos (by rw [i_le, i_n (by omega), i_n (by omega)]; omega), bnd_eq]
  | m + 1, i, τ, hN, hi => by
    obtain ⟨τ', e1, e2, e3, e4, e5⟩ := begL h7 m (i + 1) (sI τ 17 i (gI τ 18 i)) hN (by omega)
    refine ⟨τ', fun n hn => ?_, (EqR.ofI (by decide) (by decide)).trans e2, e3, fun j a b => ?_, fun j a => ?_⟩
    · obtain ⟨n, rfl⟩ : ∃ q, n = q + 1 := ⟨n - 1, by omega⟩
      show B_X12_beginThought_1 (L_X12_beginThought n) n (nI i) τ = _
      unfold B_X12_beginThought_1
      rw [hN, if_neg (by rw [i_le, i_n (by omega), i_n (by omega)]; omega), gd_eq (nIin (by omega) (by decide)), gd_eq (nIin (by omega) (by decide)), nIc (by omega), bnd_eq, bnd_eq, n_a1]
      exact e1 n (by omega)
    · by_cases e : j = i
      · subst e
        rw [e5 j (by omega), gI_sI, if_pos rfl, if_pos rfl]
      · exact e4 j (by omega) b
    · rw [e5 j (by omega), gI_sI, if_pos rfl, if_neg (by omega)]
/-- a thought: the class's bench b beside the reference's bound -/
def Th (N : Nat) (σ τ : St) (b : Nat) : Prop := gI σ b 1 = gI τ 0 27 ∧ (∀ i, i < N → gI σ (b + 1) i = gI τ 17 i ∧ bok N (gI σ (b + 1) i)) ∧ ∀ i, N ≤ i → i < 7 → gI σ (b + 1) i = -1
theorem beg12 {N : Nat} {σ τ : St} (hp : Pp N σ τ) (hb : Pb N σ τ) : ∃ τ', (∀ n, 8 ≤ n → F_X12_beginThought n τ = some ((), τ')) ∧ EqR τ τ' ∧ Th N σ τ' 37 := by
  obtain ⟨τ', e1, e2, e3, e4, e5⟩ := begL hp.1 N 0 τ hp.2.2.1 (by omega)
  have h7 := hp.1
  refine ⟨τ', fun n hn => e1 n (by omega), e2, hb.1.trans e3.symm, fun i hi => ⟨(hb.2.1 i hi).1.trans (e4 i (by omega) hi).symm, (hb.2.1 i hi).2⟩, hb.2.2⟩
theorem Th.sp {N : Nat} {σ τ : St} {b : Nat} (h : Th N σ τ b) (h7 : N ≤ 7) {k : Nat} (hk : k < N) : spk (gI σ (b + 1)) k 7 0 = spk (gI τ 17) k N 0 := by
  have e := spk_cut (f := gI σ (b + 1)) (g := gI τ 17) (k := k) (r := 7 - N) N 0 (fun j _ hj => (h.2.1 j (by omega)).1) (fun j a b' => by
    rw [h.2.2 j (by omega) (by omega), i_eq, i_n (by omega), tm1]
    omega)
  rw [show N + (7 - N) = 7 by omega] at e
  exact e
theorem Th.ct {N : Nat} {σ τ : St} {b : Nat} (h : Th N σ τ b) (h7 : N ≤ 7) : cnt (gI σ (b + 1)) 7 0 = cnt (gI τ 17) N 0 := by
  have e := cnt_cut (f := gI σ (b + 1)) (g := gI τ 17) (r := 7 - N) N 0 (fun j _ hj => (h.2.1 j (by omega)).1) (fun j a b' => h.2.2 j (by omega) (by omega))
  rw [show N + (7 - N) = 7 by omega] at e
  exact e
theorem Th.bk {N : Nat} {σ τ : St} {b : Nat} (h : Th N σ τ b) : ∀ i, i < N → bok N (gI τ 17 i) := fun i hi => by rw [← (h.2.1 i hi).1]; exact (h.2.1 i hi).2
/-- goCase -/
def setR (τ : St) (N a c : Nat) (won : Bool) : St :=
  let s := spk (gI τ 17) c N 0
  sI (if won then (if s = c then sI τ 17 c (-1) else sI (sI τ 17 s (nI s)) 17 c (-1)) else sI (sI τ 17 s (-1)) 17 a (nI c)) 0 27 (gI τ 0 27 + 1)
theorem go12 {N : Nat} (h7 : N ≤ 7) (τ : St) (hN : gI τ 0 1 = nI N) {a c : Nat} (ha : a < N) (hc : c < N) (won : Bool) (n : Nat) (hn : 8 ≤ n) : F_X12_goCase n (nI a) (nI c) (if won then 1 else 0) τ = some ((), setR τ N a c won) := by
  have hs : spk (gI τ 17) c N 0 < N := spk_lt _ hc N 0 (by omega)
  unfold F_X12_goCase setR
  rw [spk12 h7 τ hN hc n hn, bd_some]
  obtain ⟨n, rfl⟩ : ∃ q, n = q + 1 := ⟨n - 1, by omega⟩
  have hL : ∀ ρ : St, L_X12_goCase (n + 1) 1 (nI c) ρ = some ((), sI (sI ρ 17 c (-1)) 0 27 (gI ρ 0 27 + 1)) := fun ρ => by
    show B_X12_goCase_1 (L_X12_goCase n) n (nI c) ρ = _
    unfold B_X12_goCase_1
    rw [gd_eq (nIin (by omega) (by decide)), nIc (by omega), bnd_eq, bnd_eq]
    rfl
  cases won
  · simp only [Bool.false_eq_true, if_false, bnd_eq]
    rw [if_neg (by decide), gd_eq (nIin (by omega) (by decide)), gd_eq (nIin (by omega) (by decide)), nIc (by omega), nIc (by omega)]
    rfl
  · simp only [if_true, nI_inj (show spk (gI τ 17) c N 0 < 2147483648 by omega) (show c < 2147483648 by omega)]
    split
    · rw [hL]
    · rw [gd_eq (nIin (by omega) (by decide)), nIc (by omega), bnd_eq, hL]
      rfl
