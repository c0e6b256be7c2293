/-! PURE PART: basics -/
theorem bnd_eq {α β : Type} (v : α) (f : α → Option β) : bnd v f = f v := rfl
theorem bd_some {α β : Type} (a : α) (σ : St) (f : α → St → Option β) : bd (some (a, σ)) f = f a σ := rfl
theorem gd_eq {β : Type} {P : Prop} {E : Option β} (h : P) : gd P E = E := gd_of h
theorem gI_sI (σ : St) (c k : Nat) (v : Int32) (c' k' : Nat) : gI (sI σ c k v) c' k' = if c' = c then (if k' = k then v else gI σ c' k') else gI σ c' k' := rfl
theorem gL_sI (σ : St) (c k : Nat) (v : Int32) (c' k' : Nat) : gL (sI σ c k v) c' k' = gL σ c' k' := rfl
theorem gI_sL (σ : St) (c k : Nat) (v : Int64) (c' k' : Nat) : gI (sL σ c k v) c' k' = gI σ c' k' := rfl
theorem gL_sL (σ : St) (c k : Nat) (v : Int64) (c' k' : Nat) : gL (sL σ c k v) c' k' = if c' = c then (if k' = k then v else gL σ c' k') else gL σ c' k' := rfl
theorem gI_cI (σ : St) (c0 c1 sp dp n c' k' : Nat) : gI (cI σ c0 c1 sp dp n) c' k' = if c' = c1 then (if dp ≤ k' ∧ k' < dp + n then gI σ c0 (sp + (k' - dp)) else gI σ c1 k') else gI σ c' k' := rfl
theorem gL_cI (σ : St) (c0 c1 sp dp n c' k' : Nat) : gL (cI σ c0 c1 sp dp n) c' k' = gL σ c' k' := rfl
theorem gI_cL (σ : St) (c0 c1 sp dp n c' k' : Nat) : gI (cL σ c0 c1 sp dp n) c' k' = gI σ c' k' := rfl
theorem gL_cL (σ : St) (c0 c1 sp dp n c' k' : Nat) : gL (cL σ c0 c1 sp dp n) c' k' = if c' = c1 then (if dp ≤ k' ∧ k' < dp + n then gL σ c0 (sp + (k' - dp)) else gL σ c1 k') else gL σ c' k' := rfl
theorem nIc {n : Nat} (h : n < 2147483648) : (nI n).toNatClampNeg = n := nI_clamp h
theorem nIin {k n : Nat} (h : k < n) (hn : n < 2147483648) : vp_in (nI k) n := vp_in_nI h hn
theorem i_lt (a b : Int32) : a < b ↔ a.toInt < b.toInt := Int32.lt_iff_toInt_lt
theorem i_le (a b : Int32) : a ≤ b ↔ a.toInt ≤ b.toInt := Int32.le_iff_toInt_le
theorem i_eq (a b : Int32) : a = b ↔ a.toInt = b.toInt := Int32.toInt_inj.symm
theorem i_n {n : Nat} (h : n < 2147483648) : (nI n).toInt = (n : Int) := nI_toInt h
theorem i_rng (x : Int32) : -2147483648 ≤ x.toInt ∧ x.toInt < 2147483648 := ⟨Int32.le_toInt x, Int32.toInt_lt x⟩
theorem i_nat {x : Int32} (h : 0 ≤ x.toInt) : ∃ k : Nat, k < 2147483648 ∧ x = nI k ∧ x.toInt = (k : Int) := by
  have h2 := (i_rng x).2
  refine ⟨x.toInt.toNat, by omega, ?_, by omega⟩
  rw [i_eq, i_n (by omega)]
  omega
theorem i_natlt {x : Int32} {n : Nat} (h : 0 ≤ x.toInt) (h2 : x.toInt < n) : ∃ k : Nat, k < n ∧ x = nI k := by
  obtain ⟨k, h3, h4, h5⟩ := i_nat h
  exact ⟨k, by omega, h4⟩
theorem i_add (a b : Int32) (h1 : -2147483648 ≤ a.toInt + b.toInt) (h2 : a.toInt + b.toInt < 2147483648) : (a + b).toInt = a.toInt + b.toInt := by
  rw [Int32.toInt_add]; exact Int.bmod_eq_of_le (by omega) (by omega)
theorem i_sub (a b : Int32) (h1 : -2147483648 ≤ a.toInt - b.toInt) (h2 : a.toInt - b.toInt < 2147483648) : (a - b).toInt = a.toInt - b.toInt := by
  rw [Int32.toInt_sub]; exact Int.bmod_eq_of_le (by omega) (by omega)
theorem i_mul (a b : Int32) (h1 : -2147483648 ≤ a.toInt * b.toInt) (h2 : a.toInt * b.toInt < 2147483648) : (a * b).toInt = a.toInt * b.toInt := by
  rw [Int32.toInt_mul]; exact Int.bmod_eq_of_le (by omega) (by omega)
theorem nIlit (n : Nat) : (OfNat.ofNat n : Int32) = nI n := rfl
theorem nI_inj {a b : Nat} (ha : a < 2147483648) (hb : b < 2147483648) : nI a = nI b ↔ a = b := by rw [i_eq, i_n ha, i_n hb]; omega
theorem ev1 {α : Type} {f : Nat → Option α} {a : α} (h : ∀ n, f n = some a) : ∃ n, f n = some a := ⟨0, h 0⟩
/-- eventually -/
def Ev {α : Type} (f : Nat → Option α) (a : α) : Prop := ∃ N, ∀ n, N ≤ n → f n = some a
theorem Ev.const {α : Type} {f : Nat → Option α} {a : α} (h : ∀ n, f n = some a) : Ev f a := ⟨0, fun n _ => h n⟩
theorem Ev.mono {α β : Type} {f : Nat → Option α} {g : Nat → Option β} {a : α} {b : β} (h : Ev f a) (hg : ∀ n, f n = some a → g n = some b) : Ev g b := by
  obtain ⟨N, hN⟩ := h
  exact ⟨N, fun n hn => hg n (hN n hn)⟩
theorem Ev.mono2 {α β γ : Type} {f : Nat → Option α} {f2 : Nat → Option γ} {g : Nat → Option β} {a : α} {b : β} {c : γ} (h : Ev f a) (h2 : Ev f2 c) (hg : ∀ n, f n = some a → f2 n = some c → g n = some b) : Ev g b := by
  obtain ⟨N, hN⟩ := h
  obtain ⟨M, hM⟩ := h2
  exact ⟨max N M, fun n hn => hg n (hN n (by omega)) (hM n (by omega))⟩
theorem Ev.succ {α β : Type} {f : Nat → Option α} {g : Nat → Option β} {a : α} {b : β} (h : Ev f a) (hg : ∀ n, f n = some a → g (n + 1) = some b) : Ev g b := by
  obtain ⟨N, hN⟩ := h
  refine ⟨N + 1, fun n hn => ?_⟩
  obtain ⟨k, rfl⟩ : ∃ k, n = k + 1 := ⟨n - 1, by omega⟩
  exact hg k (hN k (by omega))
theorem Ev.succ2 {α β γ : Type} {f : Nat → Option α} {f2 : Nat → Option γ} {g : Nat → Option β} {a : α} {b : β} {c : γ} (h : Ev f a) (h2 : Ev f2 c) (hg : ∀ n, f n = some a → f2 n = some c → g (n + 1) = some b) : Ev g b := by
  obtain ⟨N, hN⟩ := h
  obtain ⟨M, hM⟩ := h2
  refine ⟨max N M + 1, fun n hn => ?_⟩
  obtain ⟨k, rfl⟩ : ∃ k, n = k + 1 := ⟨n - 1, by omega⟩
  exact hg k (hN k (by omega)) (hM k (by omega))
theorem mstp_of {α : Type} {Inv : St → St → Prop} {F G : Nat → St → Option (α × St)} (h : ∀ σ τ, Inv σ τ → ∃ (r : α) (σ' τ' : St), Ev (fun n => F n σ) (r, σ') ∧ Ev (fun n => G n τ) (r, τ') ∧ Inv σ' τ') : MStp Inv F G := fun σ τ hI => by
  obtain ⟨r, σ', τ', ⟨N, hN⟩, ⟨M, hM⟩, hI'⟩ := h σ τ hI
  exact ⟨max N M, r, σ', τ', hN _ (by omega), hM _ (by omega), hI'⟩
/-! the parts of the coupling -/
def bok (N : Nat) (v : Int32) : Prop := v = -1 ∨ ∃ k : Nat, k < N ∧ v = nI k
def Pp (N : Nat) (σ τ : St) : Prop := N ≤ 7 ∧ gI σ 4 1 = nI N ∧ gI τ 0 1 = nI N ∧ ∀ i, i < N → gI σ 5 (4 * i) = gI τ 1 i ∧ gI σ 5 (4 * i + 1) = gI τ 2 i ∧ gI σ 5 (4 * i + 2) = gI τ 3 i ∧ gI σ 5 (4 * i + 3) = gI τ 4 i
def Pc1 (N : Nat) (σ τ : St) (k : Nat) : Prop := ∃ i w : Nat, i < N ∧ w < 4 ∧ gI σ 6 k = nI (4 * i + w) ∧ gI τ 5 k = nI w ∧ gI τ 6 k = nI i ∧ gI σ 7 k = gI τ 7 k ∧ gI σ 8 k = gI τ 8 k
def Pch (N : Nat) (σ τ : St) : Prop := ∃ d u : Nat, d + u ≤ 40 ∧ gI σ 4 5 = nI d ∧ gI τ 0 6 = nI d ∧ gI σ 4 6 = nI u ∧ gI τ 0 7 = nI u ∧ ∀ k, k < d + u → Pc1 N σ τ k
def Pb (N : Nat) (σ τ : St) : Prop := gI σ 37 1 = gI τ 0 29 ∧ (∀ i, i < N → gI σ 38 i = gI τ 18 i ∧ bok N (gI σ 38 i)) ∧ ∀ i, N ≤ i → i < 7 → gI σ 38 i = -1
def Pk (N : Nat) (σ τ : St) : Prop := (gI σ 0 8 = 0 ∧ gI τ 0 46 = 0) ∨ (gI σ 0 8 = 1 ∧ gI τ 0 46 = 1 ∧ gI σ 39 1 = gI τ 0 47 ∧ (∀ i, i < 7 → gI σ 40 i = gI τ 27 i ∧ bok N (gI σ 40 i)) ∧ (∀ i, N ≤ i → i < 7 → gI σ 40 i = -1) ∧ ∀ k, k < 5 → gI σ 2 k = gI τ 28 k)
def Pt (σ τ : St) : Prop := ∀ k, k < 5 → gI σ 1 k = gI τ 26 k
def Ptp (σ τ : St) : Prop := ∃ t : Nat, t ≤ 120 ∧ gI σ 9 1 = nI t ∧ gI τ 0 13 = nI t ∧ (∀ k, k < t → ∃ v : Nat, v < 256 ∧ gI σ 10 k = nI v ∧ gI τ 9 k = (nI v).toInt8.toInt32) ∧ ∀ i, i < 242 → fits .char (.int (gI σ 33 i)) = true
def Pa (B : Nat) (σ τ : St) : Prop := B ≤ 50 ∧ gI σ 24 1 = nI B ∧ gI τ 0 50 = nI B ∧ (∀ k, k < B → ∃ v : Nat, v < 8 ∧ gI σ 25 k = nI v ∧ gI τ 29 k = nI v) ∧ ∃ t : Nat, t < 1000 ∧ gI σ 24 3 = nI t ∧ gI τ 0 52 = nI t ∧ ∀ k, k < t → k < 24 → gI σ 26 k = gI τ 30 k
/-- a shelf: its size, sort and body (z, so, he) beside holds and size of the reference (ho, sz), by their elements -/
def Ps1 (B : Nat) (z so he ho sz : Int32) (f g : Nat → Int64) : Prop := (so = -1 ∧ he = -1 ∧ ho = -1) ∨ (so = -1 ∧ ∃ b : Nat, b < B ∧ he = nI b ∧ ho = nI b) ∨ ∃ q n : Nat, q < 5 ∧ n ≤ 60 ∧ so = nI q ∧ he = -1 ∧ ho = -2 - nI q ∧ z = nI n ∧ sz = nI n ∧ ∀ i, i < n → f i = g i
def Psh (B : Nat) (σ τ : St) : Prop := ∀ s, s < 6 → Ps1 B (gI σ (63 + 2 * s) 1) (gI σ (63 + 2 * s) 2) (gI σ (63 + 2 * s) 3) (gI τ 31 s) (gI τ 32 s) (fun i => gL σ (63 + 2 * s + 1) i) (fun i => gL τ 33 (60 * s + i))
