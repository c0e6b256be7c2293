/-! act -/
def hof : Nat → Nat → Nat → Nat
  | 0, k, _ => k
  | m + 1, k, a => if st_ow (4 * k + a) = 0 then hof m (abn k) a else k
def dpk (k : Nat) : Nat := [0, 1, 1, 2, 2, 3, 1, 2].getD k 0
theorem dpk_s : ∀ k, k < 8 → k ≠ 0 → dpk (abn k) + 1 = dpk k := by decide
theorem dpk_0 : ∀ k, k < 8 → dpk k = 0 → k = 0 := by decide
theorem ow_0 : ∀ a, a < 4 → ¬ st_ow (4 * 0 + a) = 0 := by decide
theorem hofL (σ : St) {a : Nat} (ha : a < 4) : ∀ (m i k : Nat), i + m ≤ 7 → k < 8 → dpk k ≤ m → ∀ n, m + 1 ≤ n → L_X0_holderFrom n 1 (nI a) (nI k) (nI i) σ = some (nI (hof m k a), σ) := by
  intro m
  induction m with
  | zero =>
    intro i k hi hk hd n hn
    obtain ⟨n, rfl⟩ : ∃ q, n = q + 1 := ⟨n - 1, by omega⟩
    obtain rfl := dpk_0 k hk (by omega)
    show B_X0_holderFrom_1 (L_X0_holderFrom n) n (nI a) (nI 0) (nI i) σ = _
    unfold B_X0_holderFrom_1 hof
    rw [if_neg (by rw [i_le, i_n (by omega), t8]; omega), kind0, bd_some, one0, if_pos (by decide), n_mul4, nI_add, gd_eq (nIin (by omega) (by decide)), nIc (by omega), if_neg (ow_0 a ha)]
  | succ m ih =>
    intro i k hi hk hd n hn
    obtain ⟨n, rfl⟩ : ∃ q, n = q + 1 := ⟨n - 1, by omega⟩
    show B_X0_holderFrom_1 (L_X0_holderFrom n) n (nI a) (nI k) (nI i) σ = _
    unfold B_X0_holderFrom_1 hof
    have ek : 0 ≤ (nI k).toInt ∧ (nI k).toInt < 8 := by rw [i_n (by omega)]; omega
    rw [if_neg (by rw [i_le, i_n (by omega), t8]; omega), kind0, bd_some, one0, if_pos ek, n_mul4, nI_add, gd_eq (nIin (by omega) (by decide)), nIc (by omega)]
    by_cases c : st_ow (4 * k + a) = 0
    · have k0 : k ≠ 0 := fun e => ow_0 a ha (by rw [← e]; exact c)
      have := dpk_s k hk k0
      rw [if_pos c, if_pos c, gd_eq (nIin hk (by decide)), nIc (by omega), bnd_eq, bnd_eq, ab_n k hk k0, n_a1]
      exact ih (i + 1) (abn k) (by omega) (abn_lt k hk) (by omega) n (by omega)
    · rw [if_neg c, if_neg c]
theorem dpk_3 : ∀ k, k < 8 → dpk k ≤ 3 := by decide
theorem hofF (σ : St) {a k : Nat} (ha : a < 4) (hk : k < 8) (n : Nat) (hn : 20 ≤ n) : F_X0_holderFrom n (nI k) (nI a) σ = some (nI (hof 3 k a), σ) := hofL σ ha 3 0 k (by omega) hk (dpk_3 k hk) n (by omega)
noncomputable def CH (O : Nat → Nat → Int32 → Int32 → Int32 → Int32 → St → Option (Int32 × St)) (n : Nat) (x4 x6 p3 x7 : Int32) (s8 : St) : Option (Int32 × St) := if x4 = (1 : Int32) then (some ((p3 + (gI s8 24 4)), s8)) else (if x4 = (2 : Int32) then (bd (O 0 n (gI s8 24 5) (1 : Int32) p3 x7 s8) fun r11 s10 => bd (O 0 n (gI s10 24 5) (2 : Int32) (1 : Int32) x7 s10) fun r13 s12 => some ((r11 - r13), s12)) else (if x4 = (10 : Int32) then (bd (O 0 n (gI s8 24 5) (0 : Int32) p3 x7 s8) fun r16 s15 => some ((r16 * (2 : Int32)), s15)) else (if x4 = (11 : Int32) then (some ((p3 ^^^ (gI s8 24 4)), s8)) else (if x4 = (20 : Int32) then (bd (O 0 n x6 (0 : Int32) p3 x7 s8) fun r20 s19 => some ((r20 + (3 : Int32)), s19)) else (if x4 = (30 : Int32) then (bd (O 0 n x6 (1 : Int32) p3 x7 s8) fun r23 s22 => some ((-r23), s22)) else (if x4 = (40 : Int32) then (bd (O 0 n x6 (2 : Int32) p3 x7 s8) fun r26 s25 => some ((r26 * (3 : Int32)), s25)) else (if x4 = (41 : Int32) then (bd (O 0 n x6 (1 : Int32) (p3 + (1 : Int32)) x7 s8) fun r29 s28 => some (r29, s28)) else (if x4 = (50 : Int32) then (bd (O 0 n x6 (3 : Int32) p3 x7 s8) fun r32 s31 => some ((r32 ^^^ (5 : Int32)), s31)) else (if x4 = (60 : Int32) then (bd (O 0 n x6 (2 : Int32) p3 x7 s8) fun r35 s34 => bd (O 0 n (gI s34 24 5) (0 : Int32) (2 : Int32) x7 s34) fun r37 s36 => some ((r35 - r37), s36)) else (if x4 = (61 : Int32) then (bd (O 0 n x6 (3 : Int32) p3 x7 s8) fun r40 s39 => some ((r40 + (1 : Int32)), s39)) else (if x4 = (70 : Int32) then (bd (O 0 n x6 (0 : Int32) p3 x7 s8) fun r43 s42 => some ((r43 * (2 : Int32)), s42)) else (if x4 = (80 : Int32) then (bd (O 0 n x6 (1 : Int32) p3 x7 s8) fun r46 s45 => bd (O 0 n (gI s45 24 5) (2 : Int32) (2 : Int32) x7 s45) fun r48 s47 => some ((r46 + r48), s47)) else (if x4 = (81 : Int32) then (bd (O 0 n x6 (0 : Int32) p3 x7 s8) fun r51 s50 => some ((r51 - (1 : Int32)), s50)) else (some ((0 : Int32), s8)))))))))))))))
theorem rfX (d n : Nat) {F A w ab : Int32} {f a h dep : Nat} (eF : F = nI f) (eA : A = nI a) (hf : f < 8) (ha : a < 4) (hh : hof 3 f a = h) (hh8 : h < 8) (hw : st_ow (4 * h + a) = w) (hab : st_ab h = ab) (hd : dep ≤ 40) (hn : 20 ≤ n) (x : Int32) (σ : St) : F_X0_runFrom (d + 1) 0 n F A x (nI dep) σ = bd (F_X0_noteRun n w σ) fun _ s8 => CH (F_X0_runFrom d) n w ab x (nI (dep + 1)) s8 := by
  subst eF eA hw hab
  show E_X0_runFrom (F_X0_runFrom d) n (nI f) (nI a) x (nI dep) σ = _
  unfold E_X0_runFrom
  rw [hofF σ ha hf n hn, bd_some, hh, if_neg (by rw [i_lt, i_n (by omega), t0]; omega), if_pos (by rw [i_le, i_n (by omega), t40]; omega), n_mul4, nI_add, gd_eq (nIin (by omega) (by decide)), nIc (by omega), bnd_eq, gd_eq (nIin hh8 (by decide)), nIc (by omega), bnd_eq, bnd_eq, n_a1]
  rfl
theorem ch_1 (O : Nat → Nat → Int32 → Int32 → Int32 → Int32 → St → Option (Int32 × St)) (n : Nat) (x6 p3 x7 : Int32) (s8 : St) : CH O n 1 x6 p3 x7 s8 = (some ((p3 + (gI s8 24 4)), s8)) := by
  unfold CH
  rw [if_pos rfl]
theorem ch_2 (O : Nat → Nat → Int32 → Int32 → Int32 → Int32 → St → Option (Int32 × St)) (n : Nat) (x6 p3 x7 : Int32) (s8 : St) : CH O n 2 x6 p3 x7 s8 = (bd (O 0 n (gI s8 24 5) (1 : Int32) p3 x7 s8) fun r11 s10 => bd (O 0 n (gI s10 24 5) (2 : Int32) (1 : Int32) x7 s10) fun r13 s12 => some ((r11 - r13), s12)) := by
  unfold CH
  rw [if_neg (by decide), if_pos rfl]
theorem ch_10 (O : Nat → Nat → Int32 → Int32 → Int32 → Int32 → St → Option (Int32 × St)) (n : Nat) (x6 p3 x7 : Int32) (s8 : St) : CH O n 10 x6 p3 x7 s8 = (bd (O 0 n (gI s8 24 5) (0 : Int32) p3 x7 s8) fun r16 s15 => some ((r16 * (2 : Int32)), s15)) := by
  unfold CH
  rw [if_neg (by decide), if_neg (by decide), if_pos rfl]
theorem ch_11 (O : Nat → Nat → Int32 → Int32 → Int32 → Int32 → St → Option (Int32 × St)) (n : Nat) (x6 p3 x7 : Int32) (s8 : St) : CH O n 11 x6 p3 x7 s8 = (some ((p3 ^^^ (gI s8 24 4)), s8)) := by
  unfold CH
  rw [if_neg (by decide), if_neg (by decide), if_neg (by decide), if_pos rfl]
theorem ch_20 (O : Nat → Nat → Int32 → Int32 → Int32 → Int32 → St → Option (Int32 × St)) (n : Nat) (x6 p3 x7 : Int32) (s8 : St) : CH O n 20 x6 p3 x7 s8 = (bd (O 0 n x6 (0 : Int32) p3 x7 s8) fun r20 s19 => some ((r20 + (3 : Int32)), s19)) := by
  unfold CH
  rw [if_neg (by decide), if_neg (by decide), if_neg (by decide), if_neg (by decide), if_pos rfl]
theorem ch_30 (O : Nat → Nat → Int32 → Int32 → Int32 → Int32 → St → Option (Int32 × St)) (n : Nat) (x6 p3 x7 : Int32) (s8 : St) : CH O n 30 x6 p3 x7 s8 = (bd (O 0 n x6 (1 : Int32) p3 x7 s8) fun r23 s22 => some ((-r23), s22)) := by
  unfold CH
  rw [if_neg (by decide), if_neg (by decide), if_neg (by decide), if_neg (by decide), if_neg (by decide), if_pos rfl]
theorem ch_40 (O : Nat → Nat → Int32 → Int32 → Int32 → Int32 → St → Option (Int32 × St)) (n : Nat) (x6 p3 x7 : Int32) (s8 : St) : CH O n 40 x6 p3 x7 s8 = (bd (O 0 n x6 (2 : Int32) p3 x7 s8) fun r26 s25 => some ((r26 * (3 : Int32)), s25)) := by
  unfold CH
  rw [if_neg (by decide), if_neg (by decide), if_neg (by decide), if_neg (by decide), if_neg (by decide), if_neg (by decide), if_pos rfl]
theorem ch_41 (O : Nat → Nat → Int32 → Int32 → Int32 → Int32 → St → Option (Int32 × St)) (n : Nat) (x6 p3 x7 : Int32) (s8 : St) : CH O n 41 x6 p3 x7 s8 = (bd (O 0 n x6 (1 : Int32) (p3 + (1 : Int32)) x7 s8) fun r29 s28 => some (r29, s28)) := by
  unfold CH
  rw [if_neg (by decide), if_neg (by decide), if_neg (by decide), if_neg (by decide), if_neg (by decide), if_neg (by decide), if_neg (by decide), if_pos rfl]
theorem ch_50 (O : Nat → Nat → Int32 → Int32 → Int32 → Int32 → St → Option (Int32 × St)) (n : Nat) (x6 p3 x7 : Int32) (s8 : St) : CH O n 50 x6 p3 x7 s8 = (bd (O 0 n x6 (3 : Int32) p3 x7 s8) fun r32 s31 => some ((r32 ^^^ (5 : Int32)), s31)) := by
  unfold CH
  rw [if_neg (by decide), if_neg (by decide), if_neg (by decide), if_neg (by decide), if_neg (by decide), if_neg (by decide), if_neg (by decide), if_neg (by decide), if_pos rfl]
theorem ch_60 (O : Nat → Nat → Int32 → Int32 → Int32 → Int32 → St → Option (Int32 × St)) (n : Nat) (x6 p3 x7 : Int32) (s8 : St) : CH O n 60 x6 p3 x7 s8 = (bd (O 0 n x6 (2 : Int32) p3 x7 s8) fun r35 s34 => bd (O 0 n (gI s34 24 5) (0 : Int32) (2 : Int32) x7 s34) fun r37 s36 => some ((r35 - r37), s36)) := by
  unfold CH
  rw [if_neg (by decide), if_neg (by decide), if_neg (by decide), if_neg (by decide), if_neg (by decide), if_neg (by decide), if_neg (by decide), if_neg (by decide), if_neg (by decide), if_pos rfl]
theorem ch_61 (O : Nat → Nat → Int32 → Int32 → Int32 → Int32 → St → Option (Int32 × St)) (n : Nat) (x6 p3 x7 : Int32) (s8 : St) : CH O n 61 x6 p3 x7 s8 = (bd (O 0 n x6 (3 : Int32) p3 x7 s8) fun r40 s39 => some ((r40 + (1 : Int32)), s39)) := by
  unfold CH
  rw [if_neg (by decide), if_neg (by decide), if_neg (by decide), if_neg (by decide), if_neg (by decide), if_neg (by decide), if_neg (by decide), if_neg (by decide), if_neg (by decide), if_neg (by decide), if_pos rfl]
theorem ch_70 (O : Nat → Nat → Int32 → Int32 → Int32 → Int32 → St → Option (Int32 × St)) (n : Nat) (x6 p3 x7 : Int32) (s8 : St) : CH O n 70 x6 p3 x7 s8 = (bd (O 0 n x6 (0 : Int32) p3 x7 s8) fun r43 s42 => some ((r43 * (2 : Int32)), s42)) := by
  unfold CH
  rw [if_neg (by decide), if_neg (by decide), if_neg (by decide), if_neg (by decide), if_neg (by decide), if_neg (by decide), if_neg (by decide), if_neg (by decide), if_neg (by decide), if_neg (by decide), if_neg (by decide), if_pos rfl]
theorem ch_80 (O : Nat → Nat → Int32 → Int32 → Int32 → Int32 → St → Option (Int32 × St)) (n : Nat) (x6 p3 x7 : Int32) (s8 : St) : CH O n 80 x6 p3 x7 s8 = (bd (O 0 n x6 (1 : Int32) p3 x7 s8) fun r46 s45 => bd (O 0 n (gI s45 24 5) (2 : Int32) (2 : Int32) x7 s45) fun r48 s47 => some ((r46 + r48), s47)) := by
  unfold CH
  rw [if_neg (by decide), if_neg (by decide), if_neg (by decide), if_neg (by decide), if_neg (by decide), if_neg (by decide), if_neg (by decide), if_neg (by decide), if_neg (by decide), if_neg (by decide), if_neg (by decide), if_neg (by decide), if_pos rfl]
theorem ch_81 (O : Nat → Nat → Int32 → Int32 → Int32 → Int32 → St → Option (Int32 × St)) (n : Nat) (x6 p3 x7 : Int32) (s8 : St) : CH O n 81 x6 p3 x7 s8 = (bd (O 0 n x6 (0 : Int32) p3 x7 s8) fun r51 s50 => some ((r51 - (1 : Int32)), s50)) := by
  unfold CH
  rw [if_neg (by decide), if_neg (by decide), if_neg (by decide), if_neg (by decide), if_neg (by decide), if_neg (by decide), if_neg (by decide), if_neg (by decide), if_neg (by decide), if_neg (by decide), if_neg (by decide), if_neg (by decide), if_neg (by decide), if_pos rfl]
def AC (σ0 τ0 : St) (b v t : Nat) (σ τ : St) : Prop := t < 1000 ∧ gI σ 24 3 = nI t ∧ gI τ 0 52 = nI t ∧ (∀ k, k < t → k < 24 → gI σ 26 k = gI τ 30 k) ∧ gI σ 24 4 = nI b ∧ gI σ 24 5 = nI v ∧ gI σ 24 1 = gI σ0 24 1 ∧ (∀ c k, c ≠ 24 → c ≠ 26 → gI σ c k = gI σ0 c k) ∧ (∀ c k, gL σ c k = gL σ0 c k) ∧ (∀ c k, c ≠ 30 → (c ≠ 0 ∨ k ≠ 52) → gI τ c k = gI τ0 c k) ∧ ∀ c k, gL τ c k = gL τ0 c k
theorem noteAC {σ0 τ0 : St} {b v t : Nat} {σ τ : St} (h : AC σ0 τ0 b v t σ τ) (ht : t + 1 < 1000) (w : Int32) : ∃ σ' τ', (∀ n, F_X0_noteRun n w σ = some ((), σ')) ∧ (∀ n, F_X12_ran n w τ = some ((), τ')) ∧ AC σ0 τ0 b v (t + 1) σ' τ' := by
  obtain ⟨h1, h2, h3, h4, h5, h6, h7, h8, h9, h10, h11⟩ := h
  by_cases c : t < 24
  · refine ⟨sI (sI σ 26 t w) 24 3 (nI (t + 1)), sI (sI τ 30 t w) 0 52 (nI (t + 1)), fun n => ?_, fun n => ?_, ht, ?_, ?_, fun k k1 k2 => ?_, ?_, ?_, ?_, fun c k c1 c2 => ?_, h9, fun c k c1 c2 => ?_, h11⟩
    · unfold F_X0_noteRun
      rw [h2, if_neg (by rw [i_le, i_n (by omega), t24]; omega), gd_eq (nIin c (by decide)), nIc (by omega), bnd_eq, bnd_eq, gI_sI, if_neg (by decide), h2, n_a1]
    · unfold F_X12_ran
      rw [h3, if_neg (by rw [i_le, i_n (by omega), t24]; omega), gd_eq (nIin c (by decide)), nIc (by omega), bnd_eq, bnd_eq, gI_sI, if_neg (by decide), h3, n_a1]
    · rw [gI_sI, if_pos rfl, if_pos rfl]
    · rw [gI_sI, if_pos rfl, if_pos rfl]
    · show (if k = t then w else gI σ 26 k) = (if k = t then w else gI τ 30 k)
      by_cases e : k = t
      · rw [if_pos e, if_pos e]
      · rw [if_neg e, if_neg e]
        exact h4 k (by omega) k2
    · rw [gI_sI, if_pos rfl, if_neg (by decide), gI_sI, if_neg (by decide), h5]
    · rw [gI_sI, if_pos rfl, if_neg (by decide), gI_sI, if_neg (by decide), h6]
    · rw [gI_sI, if_pos rfl, if_neg (by decide), gI_sI, if_neg (by decide), h7]
    · rw [gI_sI, if_neg c1, gI_sI, if_neg c2, h8 c k c1 c2]
    · by_cases e : c = 0
      · subst e
        rw [gI_sI, if_pos rfl, if_neg (by omega), gI_sI, if_neg (by decide), h10 0 k c1 c2]
      · rw [gI_sI, if_neg e, gI_sI, if_neg c1, h10 c k c1 c2]
  · refine ⟨sI σ 24 3 (nI (t + 1)), sI τ 0 52 (nI (t + 1)), fun n => ?_, fun n => ?_, ht, ?_, ?_, fun k k1 k2 => ?_, ?_, ?_, ?_, fun c k c1 c2 => ?_, h9, fun c k c1 c2 => ?_, h11⟩
    · unfold F_X0_noteRun
      rw [h2, if_pos (by rw [i_le, i_n (by omega), t24]; omega), bnd_eq, n_a1]
    · unfold F_X12_ran
      rw [h3, if_pos (by rw [i_le, i_n (by omega), t24]; omega), bnd_eq, n_a1]
    · rw [gI_sI, if_pos rfl, if_pos rfl]
    · rw [gI_sI, if_pos rfl, if_pos rfl]
    · rw [gI_sI, if_neg (by decide), gI_sI, if_neg (by decide)]
      exact h4 k (by omega) k2
    · rw [gI_sI, if_pos rfl, if_neg (by decide), h5]
    · rw [gI_sI, if_pos rfl, if_neg (by decide), h6]
    · rw [gI_sI, if_pos rfl, if_neg (by decide), h7]
    · rw [gI_sI, if_neg c1, h8 c k c1 c2]
    · by_cases e : c = 0
      · subst e
        rw [gI_sI, if_pos rfl, if_neg (by omega), h10 0 k c1 c2]
      · rw [gI_sI, if_neg e, h10 c k c1 c2]
def Rn (σ0 τ0 : St) (b v k : Nat) (FX FR : Nat → St → Option (Int32 × St)) : Prop := ∀ t σ τ, AC σ0 τ0 b v t σ τ → t + k < 1000 → ∃ (r : Int32) (σ' τ' : St) (t' : Nat), t' ≤ t + k ∧ AC σ0 τ0 b v t' σ' τ' ∧ (∀ n, 20 ≤ n → FX n σ = some (r, σ')) ∧ ∀ n, 20 ≤ n → FR n τ = some (r, τ')
section RUNS
variable {σ0 τ0 : St} {b v k k2 : Nat} {FX FR FX2 FR2 : Nat → St → Option (Int32 × St)}
theorem Rn.note (h : Rn σ0 τ0 b v k FX FR) (w : Int32) : Rn σ0 τ0 b v (k + 1) (fun n σ => bd (F_X0_noteRun n w σ) fun _ s => FX n s) (fun n τ => bd (F_X12_ran n w τ) fun _ s => FR n s) := fun t σ τ hA ht => by
  obtain ⟨σ1, τ1, e1, e2, e3⟩ := noteAC hA (by omega) w
  obtain ⟨r, σ2, τ2, t2, f1, f2, f3, f4⟩ := h (t + 1) σ1 τ1 e3 (by omega)
  exact ⟨r, σ2, τ2, t2, by omega, f2, fun n hn => by (try dsimp only); rw [e1, bd_some]; exact f3 n hn, fun n hn => by (try dsimp only); rw [e2, bd_some]; exact f4 n hn⟩
theorem Rn.map (h : Rn σ0 τ0 b v k FX FR) (f : Int32 → Int32) : Rn σ0 τ0 b v k (fun n σ => bd (FX n σ) fun r s => some (f r, s)) (fun n τ => bd (FR n τ) fun r s => some (f r, s)) := fun t σ τ hA ht => by
  obtain ⟨r, σ2, τ2, t2, f1, f2, f3, f4⟩ := h t σ τ hA ht
  exact ⟨f r, σ2, τ2, t2, f1, f2, fun n hn => by (try dsimp only); rw [f3 n hn, bd_some], fun n hn => by (try dsimp only); rw [f4 n hn, bd_some]⟩
theorem Rn.two (h : Rn σ0 τ0 b v k FX FR) (h2 : Rn σ0 τ0 b v k2 FX2 FR2) (f : Int32 → Int32 → Int32) : Rn σ0 τ0 b v (k + k2) (fun n σ => bd (FX n σ) fun r s => bd (FX2 n s) fun r2 s2 => some (f r r2, s2)) (fun n τ => bd (FR n τ) fun r s => bd (FR2 n s) fun r2 s2 => some (f r r2, s2)) := fun t σ τ hA ht => by
  obtain ⟨r, σ2, τ2, t2, f1, f2, f3, f4⟩ := h t σ τ hA (by omega)
  obtain ⟨r3, σ3, τ3, t3, g1, g2, g3, g4⟩ := h2 t2 σ2 τ2 f2 (by omega)
  exact ⟨f r r3, σ3, τ3, t3, by omega, g2, fun n hn => by (try dsimp only); rw [f3 n hn, bd_some, g3 n hn, bd_some], fun n hn => by (try dsimp only); rw [f4 n hn, bd_some, g4 n hn, bd_some]⟩
theorem Rn.cg (h : Rn σ0 τ0 b v k FX FR) (e1 : ∀ t σ τ, AC σ0 τ0 b v t σ τ → ∀ n, 20 ≤ n → FX2 n σ = FX n σ) (e2 : ∀ t σ τ, AC σ0 τ0 b v t σ τ → ∀ n, 20 ≤ n → FR2 n τ = FR n τ) : Rn σ0 τ0 b v k FX2 FR2 := fun t σ τ hA ht => by
  obtain ⟨r, σ2, τ2, t2, f1, f2, f3, f4⟩ := h t σ τ hA ht
  exact ⟨r, σ2, τ2, t2, f1, f2, fun n hn => (e1 t σ τ hA n hn).trans (f3 n hn), fun n hn => (e2 t σ τ hA n hn).trans (f4 n hn)⟩
theorem Rn.le (h : Rn σ0 τ0 b v k FX FR) (hk : k ≤ k2) : Rn σ0 τ0 b v k2 FX FR := fun t σ τ hA ht => by
  obtain ⟨r, σ2, τ2, t2, f1, f2, f3, f4⟩ := h t σ τ hA (by omega)
  exact ⟨r, σ2, τ2, t2, by omega, f2, f3, f4⟩
theorem Rn.kX {d : Nat} {A x D : Int32} (h : Rn σ0 τ0 b v k (fun n σ => F_X0_runFrom d 0 n (nI v) A x D σ) FR) : Rn σ0 τ0 b v k (fun n σ => F_X0_runFrom d 0 n (gI σ 24 5) A x D σ) FR := h.cg (fun t σ τ hA n hn => by (try dsimp only); rw [hA.2.2.2.2.2.1]) (fun _ _ _ _ _ _ => rfl)
theorem rn_1 {f : Nat} (hf : f < 8) (hh : hof 3 f 0 = 0) (d dep : Nat) (hd : dep + 1 ≤ 40) (x : Int32) : Rn σ0 τ0 b v 1 (fun n σ => F_X0_runFrom (d + 1) 0 n (nI f) 0 x (nI dep) σ) (fun n τ => F_X12_plainBrings n (nI b) x τ) :=
  Rn.cg (Rn.note (k := 0) (FX := fun _ s => some (x + gI s 24 4, s)) (FR := fun _ s => some (x + nI b, s)) (fun t σ τ hA ht => ⟨x + gI σ 24 4, σ, τ, t, by omega, hA, fun _ _ => rfl, fun _ _ => by rw [hA.2.2.2.2.1]⟩) 1) (fun t σ τ hA n hn => (rfX d n (f := f) (a := 0) (h := 0) (w := 1) (ab := -1) rfl rfl hf (by decide) hh (by decide) rfl rfl (by omega) hn x σ).trans (by simp only [ch_1])) (fun _ _ _ _ _ _ => rfl)
theorem rn_11 {f : Nat} (hf : f < 8) (hh : hof 3 f 2 = 0) (d dep : Nat) (hd : dep + 1 ≤ 40) (x : Int32) : Rn σ0 τ0 b v 1 (fun n σ => F_X0_runFrom (d + 1) 0 n (nI f) 2 x (nI dep) σ) (fun n τ => F_X12_plainBinds n (nI b) x τ) :=
  Rn.cg (Rn.note (k := 0) (FX := fun _ s => some (x ^^^ gI s 24 4, s)) (FR := fun _ s => some (x ^^^ nI b, s)) (fun t σ τ hA ht => ⟨x ^^^ gI σ 24 4, σ, τ, t, by omega, hA, fun _ _ => rfl, fun _ _ => by rw [hA.2.2.2.2.1]⟩) 11) (fun t σ τ hA n hn => (rfX d n (f := f) (a := 2) (h := 0) (w := 11) (ab := -1) rfl rfl hf (by decide) hh (by decide) rfl rfl (by omega) hn x σ).trans (by simp only [ch_11])) (fun _ _ _ _ _ _ => rfl)
theorem rn_70 (d dep : Nat) (hd : dep + 2 ≤ 40) (x : Int32) : Rn σ0 τ0 b v 2 (fun n σ => F_X0_runFrom (d + 2) 0 n (nI 6) 0 x (nI dep) σ) (fun n τ => F_X12_soldBrings n (nI b) x τ) :=
  (((rn_1 (f := 0) (by decide) (by decide) d (dep + 1) (by omega) x).map (fun r => r * 2)).note 70).cg (fun t σ τ hA n hn => (rfX (d + 1) n (f := 6) (a := 0) (h := 6) (w := 70) (ab := nI 0) rfl rfl (by decide) (by decide) (by decide) (by decide) rfl rfl (by omega) hn x σ).trans (by simp only [ch_70])) (fun _ _ _ _ _ _ => rfl)
theorem rn_20 {f : Nat} (hf : f < 8) (hh : hof 3 f 0 = 1) (d dep : Nat) (hd : dep + 2 ≤ 40) (x : Int32) : Rn σ0 τ0 b v 2 (fun n σ => F_X0_runFrom (d + 2) 0 n (nI f) 0 x (nI dep) σ) (fun n τ => bd (F_X12_ran n (20 : Int32) τ) fun _ s10 => bd (F_X12_plainBrings n (nI b) x s10) fun r12 s11 => some ((r12 + (3 : Int32)), s11)) :=
  (((rn_1 (f := 0) (by decide) (by decide) d (dep + 1) (by omega) x).map (fun r => r + 3)).note 20).cg (fun t σ τ hA n hn => (rfX (d + 1) n (f := f) (a := 0) (h := 1) (w := 20) (ab := nI 0) rfl rfl hf (by decide) hh (by decide) rfl rfl (by omega) hn x σ).trans (by simp only [ch_20])) (fun _ _ _ _ _ _ => rfl)
theorem rn_81 (d dep : Nat) (hd : dep + 3 ≤ 40) (x : Int32) : Rn σ0 τ0 b v 3 (fun n σ => F_X0_runFrom (d + 3) 0 n (nI 7) 0 x (nI dep) σ) (fun n τ => bd (F_X12_ran n (81 : Int32) τ) fun _ s7 => bd (F_X12_soldBrings n (nI b) x s7) fun r9 s8 => some ((r9 - (1 : Int32)), s8)) :=
  (((rn_70  d (dep + 1) (by omega) x).map (fun r => r - 1)).note 81).cg (fun t σ τ hA n hn => (rfX (d + 2) n (f := 7) (a := 0) (h := 7) (w := 81) (ab := nI 6) rfl rfl (by decide) (by decide) (by decide) (by decide) rfl rfl (by omega) hn x σ).trans (by simp only [ch_81])) (fun _ _ _ _ _ _ => rfl)
theorem kRa {t : Nat} {σ τ : St} (hA : AC σ0 τ0 b v t σ τ) (hv : gI τ0 29 b = nI v) : gI τ 29 b = nI v := (hA.2.2.2.2.2.2.2.2.2.1 29 b (by decide) (Or.inl (by decide))).trans hv
theorem unR {τ : St} (hv8 : v < 8) {up : Nat} {U : Int32} (hU : U = nI up) (hu : up < 8) (n : Nat) (hn : 20 ≤ n) : F_X12_isUnder n (nI v) U τ = some (if und 8 v up then 1 else 0, τ) := by
  subst hU
  exact und12 τ hv8 hu n (by omega)
theorem bd_id {α : Type} (y : Option (α × St)) : (bd y fun r s => some (r, s)) = y := by
  cases y with
  | none => rfl
  | some q => rfl
theorem eqL {w : Nat} {W : Int32} (hW : W = nI w) (hw : w < 2147483648) (hv8 : v < 8) : nI v = W ↔ v = w := by
  subst hW
  exact nI_inj (by omega) hw
/-- the forms of the reference's calls by the kind -/
theorem bgR {t : Nat} {σ τ : St} (hA : AC σ0 τ0 b v t σ τ) (hb : b < 50) (hv : gI τ0 29 b = nI v) (hv8 : v < 8) (n : Nat) (hn : 20 ≤ n) (x : Int32) : F_X12_bringing n (nI b) x τ = if v = 1 ∨ v = 4 then (bd (F_X12_ran n (20 : Int32) τ) fun _ s10 => bd (F_X12_plainBrings n (nI b) x s10) fun r12 s11 => some ((r12 + (3 : Int32)), s11)) else if v = 7 then (bd (F_X12_ran n (81 : Int32) τ) fun _ s7 => bd (F_X12_soldBrings n (nI b) x s7) fun r9 s8 => some ((r9 - (1 : Int32)), s8)) else if v = 6 then F_X12_soldBrings n (nI b) x τ else F_X12_plainBrings n (nI b) x τ := by
  unfold F_X12_bringing
  have hg : vp_in (nI b) 50 := nIin hb (by decide)
  simp only [gd_eq hg, nIc (show b < 2147483648 by omega), bd_id]
  rw [kRa hA hv, unR hv8 (up := 1) (U := 1) rfl (by decide) n hn, bd_some, one0, kRa hA hv]
  simp only [eqL (v := v) (w := 7) (W := 7) rfl (by decide) hv8, eqL (v := v) (w := 6) (W := 6) rfl (by decide) hv8]
  by_cases c : v = 1 ∨ v = 4
  · rw [if_pos c, if_pos ((und_eq v hv8 1 (by decide)).mpr (by omega))]
  · rw [if_neg c, if_neg (fun h => c (by have := (und_eq v hv8 1 (by decide)).mp h; omega))]
theorem bnR {t : Nat} {σ τ : St} (hA : AC σ0 τ0 b v t σ τ) (hb : b < 50) (hv : gI τ0 29 b = nI v) (hv8 : v < 8) (n : Nat) (x : Int32) : F_X12_binding n (nI b) x τ = if v = 5 then (bd (F_X12_ran n (60 : Int32) τ) fun _ s5 => bd (F_X12_friendBinds n (nI b) x s5) fun r7 s6 => bd (F_X12_bringing n (nI b) (2 : Int32) s6) fun r9 s8 => some ((r7 - r9), s8)) else if v = 3 then F_X12_friendBinds n (nI b) x τ else F_X12_plainBinds n (nI b) x τ := by
  unfold F_X12_binding
  have hg : vp_in (nI b) 50 := nIin hb (by decide)
  simp only [gd_eq hg, nIc (show b < 2147483648 by omega), bd_id]
  rw [kRa hA hv]
  simp only [eqL (v := v) (w := 5) (W := 5) rfl (by decide) hv8, eqL (v := v) (w := 3) (W := 3) rfl (by decide) hv8]
theorem spR {t : Nat} {σ τ : St} (hA : AC σ0 τ0 b v t σ τ) (hb : b < 50) (hv : gI τ0 29 b = nI v) (hv8 : v < 8) (n : Nat) (hn : 20 ≤ n) (x : Int32) : F_X12_speaking n (nI b) x τ = if v = 3 ∨ v = 5 then (bd (F_X12_ran n (41 : Int32) τ) fun _ s12 => F_X12_speechSpeaks n (nI b) (x + (1 : Int32)) s12) else if v = 7 then (bd (F_X12_ran n (80 : Int32) τ) fun _ s7 => bd (F_X12_plainSpeaks n (nI b) x s7) fun r9 s8 => bd (F_X12_binding n (nI b) (2 : Int32) s8) fun r11 s10 => some ((r9 + r11), s10)) else if v = 2 then F_X12_speechSpeaks n (nI b) x τ else F_X12_plainSpeaks n (nI b) x τ := by
  unfold F_X12_speaking
  have hg : vp_in (nI b) 50 := nIin hb (by decide)
  simp only [gd_eq hg, nIc (show b < 2147483648 by omega), bd_id]
  rw [kRa hA hv, unR hv8 (up := 3) (U := 3) rfl (by decide) n hn, bd_some, one0, kRa hA hv]
  simp only [eqL (v := v) (w := 7) (W := 7) rfl (by decide) hv8, eqL (v := v) (w := 2) (W := 2) rfl (by decide) hv8]
  by_cases c : v = 3 ∨ v = 5
  · rw [if_pos c, if_pos ((und_eq v hv8 3 (by decide)).mpr (by omega))]
  · rw [if_neg c, if_neg (fun h => c (by have := (und_eq v hv8 3 (by decide)).mp h; omega))]
theorem tlR {t : Nat} {σ τ : St} (hA : AC σ0 τ0 b v t σ τ) (hb : b < 50) (hv : gI τ0 29 b = nI v) (hv8 : v < 8) (n : Nat) (x : Int32) : F_X12_telling n (nI b) x τ = if v = 4 then (bd (F_X12_ran n (50 : Int32) τ) fun _ s6 => bd (F_X12_plainTells n (nI b) x s6) fun r8 s7 => some ((r8 ^^^ (5 : Int32)), s7)) else if v = 5 then (bd (F_X12_ran n (61 : Int32) τ) fun _ s3 => bd (F_X12_plainTells n (nI b) x s3) fun r5 s4 => some ((r5 + (1 : Int32)), s4)) else F_X12_plainTells n (nI b) x τ := by
  unfold F_X12_telling
  have hg : vp_in (nI b) 50 := nIin hb (by decide)
  simp only [gd_eq hg, nIc (show b < 2147483648 by omega), bd_id]
  rw [kRa hA hv]
  simp only [eqL (v := v) (w := 5) (W := 5) rfl (by decide) hv8, eqL (v := v) (w := 4) (W := 4) rfl (by decide) hv8]
theorem rnB (hb : b < 50) (hv : gI τ0 29 b = nI v) (hv8 : v < 8) (d dep : Nat) (hd : dep + 3 ≤ 40) (x : Int32) : Rn σ0 τ0 b v 3 (fun n σ => F_X0_runFrom (d + 3) 0 n (nI v) 0 x (nI dep) σ) (fun n τ => F_X12_bringing n (nI b) x τ) := by
  by_cases c0 : v = 1 ∨ v = 4
  · have hh : hof 3 v 0 = 1 := by rcases c0 with e | e <;> subst e <;> decide
    have q : Rn σ0 τ0 b v 3 (fun n σ => F_X0_runFrom (d + 3) 0 n (nI v) 0 x (nI dep) σ) (fun n τ => F_X12_bringing n (nI b) x τ) := ((rn_20 hv8 hh (d + 1) dep (by omega) x).le (k2 := 3) (by omega)).cg (FR2 := fun n τ => F_X12_bringing n (nI b) x τ) (fun _ _ _ _ _ _ => rfl) (fun t σ τ hA n hn => by (try dsimp only); rw [bgR hA hb hv hv8 n hn x, if_pos c0])
    exact q
  · have n0 := c0
    by_cases c1 : v = 7
    · have hh : v = 7 := c1
      have q : Rn σ0 τ0 b v 3 (fun n σ => F_X0_runFrom (d + 3) 0 n (nI 7) 0 x (nI dep) σ) (fun n τ => F_X12_bringing n (nI b) x τ) := ((rn_81 d dep (by omega) x).le (k2 := 3) (by omega)).cg (FR2 := fun n τ => F_X12_bringing n (nI b) x τ) (fun _ _ _ _ _ _ => rfl) (fun t σ τ hA n hn => by (try dsimp only); rw [bgR hA hb hv hv8 n hn x, if_neg n0, if_pos c1])
      exact q.cg (fun _ _ _ _ _ _ => by rw [hh]) (fun _ _ _ _ _ _ => rfl)
    · have n1 := c1
      by_cases c2 : v = 6
      · have hh : v = 6 := c2
        have q : Rn σ0 τ0 b v 3 (fun n σ => F_X0_runFrom (d + 3) 0 n (nI 6) 0 x (nI dep) σ) (fun n τ => F_X12_bringing n (nI b) x τ) := ((rn_70 (d + 1) dep (by omega) x).le (k2 := 3) (by omega)).cg (FR2 := fun n τ => F_X12_bringing n (nI b) x τ) (fun _ _ _ _ _ _ => rfl) (fun t σ τ hA n hn => by (try dsimp only); rw [bgR hA hb hv hv8 n hn x, if_neg n0, if_neg n1, if_pos c2])
        exact q.cg (fun _ _ _ _ _ _ => by rw [hh]) (fun _ _ _ _ _ _ => rfl)
      · have n2 := c2
        have hh : hof 3 v 0 = 0 := by
          rcases (show v = 0 ∨ v = 1 ∨ v = 2 ∨ v = 3 ∨ v = 4 ∨ v = 5 ∨ v = 6 ∨ v = 7 by omega) with e | e | e | e | e | e | e | e <;> subst e <;> first | (exfalso; omega) | decide
        exact ((rn_1 hv8 hh (d + 2) dep (by omega) x).le (by omega)).cg (fun _ _ _ _ _ _ => rfl) (fun t σ τ hA n hn => by (try dsimp only); rw [bgR hA hb hv hv8 n hn x, if_neg n0, if_neg n1, if_neg n2])
theorem rn_10 (hb : b < 50) (hv : gI τ0 29 b = nI v) (hv8 : v < 8) {f : Nat} (hf : f < 8) (hh : hof 3 f 1 = 0) (d dep : Nat) (hd : dep + 4 ≤ 40) (x : Int32) : Rn σ0 τ0 b v 4 (fun n σ => F_X0_runFrom (d + 4) 0 n (nI f) 1 x (nI dep) σ) (fun n τ => F_X12_plainSpeaks n (nI b) x τ) :=
  (((rnB hb hv hv8 d (dep + 1) (by omega) x).kX.map (fun r => r * 2)).note 10).cg (fun t σ τ hA n hn => (rfX (d + 3) n (f := f) (a := 1) (h := 0) (w := 10) (ab := -1) rfl rfl hf (by decide) hh (by decide) rfl rfl (by omega) hn x σ).trans (by simp only [ch_10])) (fun _ _ _ _ _ _ => rfl)
theorem rn_30 (hb : b < 50) (hv : gI τ0 29 b = nI v) (hv8 : v < 8) (d dep : Nat) (hd : dep + 5 ≤ 40) (x : Int32) : Rn σ0 τ0 b v 5 (fun n σ => F_X0_runFrom (d + 5) 0 n (nI 2) 1 x (nI dep) σ) (fun n τ => F_X12_speechSpeaks n (nI b) x τ) :=
  (((rn_10 hb hv hv8 (f := 0) (by decide) (by decide) d (dep + 1) (by omega) x).map (fun r => -r)).note 30).cg (fun t σ τ hA n hn => (rfX (d + 4) n (f := 2) (a := 1) (h := 2) (w := 30) (ab := nI 0) rfl rfl (by decide) (by decide) (by decide) (by decide) rfl rfl (by omega) hn x σ).trans (by simp only [ch_30])) (fun _ _ _ _ _ _ => rfl)
theorem rn_41 (hb : b < 50) (hv : gI τ0 29 b = nI v) (hv8 : v < 8) {f : Nat} (hf : f < 8) (hh : hof 3 f 1 = 3) (d dep : Nat) (hd : dep + 6 ≤ 40) (x : Int32) : Rn σ0 τ0 b v 6 (fun n σ => F_X0_runFrom (d + 6) 0 n (nI f) 1 x (nI dep) σ) (fun n τ => bd (F_X12_ran n (41 : Int32) τ) fun _ s12 => F_X12_speechSpeaks n (nI b) (x + (1 : Int32)) s12) :=
  (((rn_30 hb hv hv8 d (dep + 1) (by omega) (x + 1))).note 41).cg (fun t σ τ hA n hn => (rfX (d + 5) n (f := f) (a := 1) (h := 3) (w := 41) (ab := nI 2) rfl rfl hf (by decide) hh (by decide) rfl rfl (by omega) hn x σ).trans (by simp only [ch_41, bd_id])) (fun _ _ _ _ _ _ => rfl)
theorem rn_40 (d dep : Nat) (hd : dep + 2 ≤ 40) (x : Int32) : Rn σ0 τ0 b v 2 (fun n σ => F_X0_runFrom (d + 2) 0 n (nI 3) 2 x (nI dep) σ) (fun n τ => F_X12_friendBinds n (nI b) x τ) :=
  (((rn_11 (f := 2) (by decide) (by decide) d (dep + 1) (by omega) x).map (fun r => r * 3)).note 40).cg (fun t σ τ hA n hn => (rfX (d + 1) n (f := 3) (a := 2) (h := 3) (w := 40) (ab := nI 2) rfl rfl (by decide) (by decide) (by decide) (by decide) rfl rfl (by omega) hn x σ).trans (by simp only [ch_40])) (fun _ _ _ _ _ _ => rfl)
theorem rn_60 (hb : b < 50) (hv : gI τ0 29 b = nI v) (hv8 : v < 8) (d dep : Nat) (hd : dep + 4 ≤ 40) (x : Int32) : Rn σ0 τ0 b v 6 (fun n σ => F_X0_runFrom (d + 4) 0 n (nI 5) 2 x (nI dep) σ) (fun n τ => bd (F_X12_ran n (60 : Int32) τ) fun _ s5 => bd (F_X12_friendBinds n (nI b) x s5) fun r7 s6 => bd (F_X12_bringing n (nI b) (2 : Int32) s6) fun r9 s8 => some ((r7 - r9), s8)) :=
  (((rn_40 (d + 1) (dep + 1) (by omega) x).two (rnB hb hv hv8 d (dep + 1) (by omega) 2).kX (fun r r2 => r - r2)).note 60).cg (fun t σ τ hA n hn => (rfX (d + 3) n (f := 5) (a := 2) (h := 5) (w := 60) (ab := nI 3) rfl rfl (by decide) (by decide) (by decide) (by decide) rfl rfl (by omega) hn x σ).trans (by simp only [ch_60])) (fun _ _ _ _ _ _ => rfl)
theorem rnD (hb : b < 50) (hv : gI τ0 29 b = nI v) (hv8 : v < 8) (d dep : Nat) (hd : dep + 4 ≤ 40) (x : Int32) : Rn σ0 τ0 b v 6 (fun n σ => F_X0_runFrom (d + 4) 0 n (nI v) 2 x (nI dep) σ) (fun n τ => F_X12_binding n (nI b) x τ) := by
  by_cases c0 : v = 5
  · have hh : v = 5 := c0
    have q : Rn σ0 τ0 b v 6 (fun n σ => F_X0_runFrom (d + 4) 0 n (nI 5) 2 x (nI dep) σ) (fun n τ => F_X12_binding n (nI b) x τ) := ((rn_60 hb hv hv8 d dep (by omega) x).le (k2 := 6) (by omega)).cg (FR2 := fun n τ => F_X12_binding n (nI b) x τ) (fun _ _ _ _ _ _ => rfl) (fun t σ τ hA n hn => by (try dsimp only); rw [bnR hA hb hv hv8 n x, if_pos c0])
    exact q.cg (fun _ _ _ _ _ _ => by rw [hh]) (fun _ _ _ _ _ _ => rfl)
  · have n0 := c0
    by_cases c1 : v = 3
    · have hh : v = 3 := c1
      have q : Rn σ0 τ0 b v 6 (fun n σ => F_X0_runFrom (d + 4) 0 n (nI 3) 2 x (nI dep) σ) (fun n τ => F_X12_binding n (nI b) x τ) := ((rn_40 (d + 2) dep (by omega) x).le (k2 := 6) (by omega)).cg (FR2 := fun n τ => F_X12_binding n (nI b) x τ) (fun _ _ _ _ _ _ => rfl) (fun t σ τ hA n hn => by (try dsimp only); rw [bnR hA hb hv hv8 n x, if_neg n0, if_pos c1])
      exact q.cg (fun _ _ _ _ _ _ => by rw [hh]) (fun _ _ _ _ _ _ => rfl)
    · have n1 := c1
      have hh : hof 3 v 2 = 0 := by
        rcases (show v = 0 ∨ v = 1 ∨ v = 2 ∨ v = 3 ∨ v = 4 ∨ v = 5 ∨ v = 6 ∨ v = 7 by omega) with e | e | e | e | e | e | e | e <;> subst e <;> first | (exfalso; omega) | decide
      exact ((rn_11 hv8 hh (d + 3) dep (by omega) x).le (by omega)).cg (fun _ _ _ _ _ _ => rfl) (fun t σ τ hA n hn => by (try dsimp only); rw [bnR hA hb hv hv8 n x, if_neg n0, if_neg n1])
theorem rn_80 (hb : b < 50) (hv : gI τ0 29 b = nI v) (hv8 : v < 8) (d dep : Nat) (hd : dep + 5 ≤ 40) (x : Int32) : Rn σ0 τ0 b v 11 (fun n σ => F_X0_runFrom (d + 5) 0 n (nI 7) 1 x (nI dep) σ) (fun n τ => bd (F_X12_ran n (80 : Int32) τ) fun _ s7 => bd (F_X12_plainSpeaks n (nI b) x s7) fun r9 s8 => bd (F_X12_binding n (nI b) (2 : Int32) s8) fun r11 s10 => some ((r9 + r11), s10)) :=
  (((rn_10 hb hv hv8 (f := 6) (by decide) (by decide) d (dep + 1) (by omega) x).two (rnD hb hv hv8 d (dep + 1) (by omega) 2).kX (fun r r2 => r + r2)).note 80).cg (fun t σ τ hA n hn => (rfX (d + 4) n (f := 7) (a := 1) (h := 7) (w := 80) (ab := nI 6) rfl rfl (by decide) (by decide) (by decide) (by decide) rfl rfl (by omega) hn x σ).trans (by simp only [ch_80])) (fun _ _ _ _ _ _ => rfl)
theorem rnS (hb : b < 50) (hv : gI τ0 29 b = nI v) (hv8 : v < 8) (d dep : Nat) (hd : dep + 6 ≤ 40) (x : Int32) : Rn σ0 τ0 b v 11 (fun n σ => F_X0_runFrom (d + 6) 0 n (nI v) 1 x (nI dep) σ) (fun n τ => F_X12_speaking n (nI b) x τ) := by
  by_cases c0 : v = 3 ∨ v = 5
  · have hh : hof 3 v 1 = 3 := by rcases c0 with e | e <;> subst e <;> decide
    have q : Rn σ0 τ0 b v 11 (fun n σ => F_X0_runFrom (d + 6) 0 n (nI v) 1 x (nI dep) σ) (fun n τ => F_X12_speaking n (nI b) x τ) := ((rn_41 hb hv hv8 hv8 hh d dep (by omega) x).le (k2 := 11) (by omega)).cg (FR2 := fun n τ => F_X12_speaking n (nI b) x τ) (fun _ _ _ _ _ _ => rfl) (fun t σ τ hA n hn => by (try dsimp only); rw [spR hA hb hv hv8 n hn x, if_pos c0])
    exact q
  · have n0 := c0
    by_cases c1 : v = 7
    · have hh : v = 7 := c1
      have q : Rn σ0 τ0 b v 11 (fun n σ => F_X0_runFrom (d + 6) 0 n (nI 7) 1 x (nI dep) σ) (fun n τ => F_X12_speaking n (nI b) x τ) := ((rn_80 hb hv hv8 (d + 1) dep (by omega) x).le (k2 := 11) (by omega)).cg (FR2 := fun n τ => F_X12_speaking n (nI b) x τ) (fun _ _ _ _ _ _ => rfl) (fun t σ τ hA n hn => by (try dsimp only); rw [spR hA hb hv hv8 n hn x, if_neg n0, if_pos c1])
      exact q.cg (fun _ _ _ _ _ _ => by rw [hh]) (fun _ _ _ _ _ _ => rfl)
    · have n1 := c1
      by_cases c2 : v = 2
      · have hh : v = 2 := c2
        have q : Rn σ0 τ0 b v 11 (fun n σ => F_X0_runFrom (d + 6) 0 n (nI 2) 1 x (nI dep) σ) (fun n τ => F_X12_speaking n (nI b) x τ) := ((rn_30 hb hv hv8 (d + 1) dep (by omega) x).le (k2 := 11) (by omega)).cg (FR2 := fun n τ => F_X12_speaking n (nI b) x τ) (fun _ _ _ _ _ _ => rfl) (fun t σ τ hA n hn => by (try dsimp only); rw [spR hA hb hv hv8 n hn x, if_neg n0, if_neg n1, if_pos c2])
        exact q.cg (fun _ _ _ _ _ _ => by rw [hh]) (fun _ _ _ _ _ _ => rfl)
      · have n2 := c2
        have hh : hof 3 v 1 = 0 := by
          rcases (show v = 0 ∨ v = 1 ∨ v = 2 ∨ v = 3 ∨ v = 4 ∨ v = 5 ∨ v = 6 ∨ v = 7 by omega) with e | e | e | e | e | e | e | e <;> subst e <;> first | (exfalso; omega) | decide
        exact ((rn_10 hb hv hv8 hv8 hh (d + 2) dep (by omega) x).le (by omega)).cg (fun _ _ _ _ _ _ => rfl) (fun t σ τ hA n hn => by (try dsimp only); rw [spR hA hb hv hv8 n hn x, if_neg n0, if_neg n1, if_neg n2])
theorem rn_2 (hb : b < 50) (hv : gI τ0 29 b = nI v) (hv8 : v < 8) {f : Nat} (hf : f < 8) (hh : hof 3 f 3 = 0) (d dep : Nat) (hd : dep + 7 ≤ 40) (x : Int32) : Rn σ0 τ0 b v 18 (fun n σ => F_X0_runFrom (d + 7) 0 n (nI f) 3 x (nI dep) σ) (fun n τ => F_X12_plainTells n (nI b) x τ) :=
  (((rnS hb hv hv8 d (dep + 1) (by omega) x).kX.two (rnD hb hv hv8 (d + 2) (dep + 1) (by omega) 1).kX (fun r r2 => r - r2)).note 2).cg (fun t σ τ hA n hn => (rfX (d + 6) n (f := f) (a := 3) (h := 0) (w := 2) (ab := -1) rfl rfl hf (by decide) hh (by decide) rfl rfl (by omega) hn x σ).trans (by simp only [ch_2])) (fun _ _ _ _ _ _ => rfl)
theorem rn_50 (hb : b < 50) (hv : gI τ0 29 b = nI v) (hv8 : v < 8) (d dep : Nat) (hd : dep + 8 ≤ 40) (x : Int32) : Rn σ0 τ0 b v 19 (fun n σ => F_X0_runFrom (d + 8) 0 n (nI 4) 3 x (nI dep) σ) (fun n τ => bd (F_X12_ran n (50 : Int32) τ) fun _ s6 => bd (F_X12_plainTells n (nI b) x s6) fun r8 s7 => some ((r8 ^^^ (5 : Int32)), s7)) :=
  (((rn_2 hb hv hv8 (f := 1) (by decide) (by decide) d (dep + 1) (by omega) x).map (fun r => r ^^^ 5)).note 50).cg (fun t σ τ hA n hn => (rfX (d + 7) n (f := 4) (a := 3) (h := 4) (w := 50) (ab := nI 1) rfl rfl (by decide) (by decide) (by decide) (by decide) rfl rfl (by omega) hn x σ).trans (by simp only [ch_50])) (fun _ _ _ _ _ _ => rfl)
theorem rn_61 (hb : b < 50) (hv : gI τ0 29 b = nI v) (hv8 : v < 8) (d dep : Nat) (hd : dep + 8 ≤ 40) (x : Int32) : Rn σ0 τ0 b v 19 (fun n σ => F_X0_runFrom (d + 8) 0 n (nI 5) 3 x (nI dep) σ) (fun n τ => bd (F_X12_ran n (61 : Int32) τ) fun _ s3 => bd (F_X12_plainTells n (nI b) x s3) fun r5 s4 => some ((r5 + (1 : Int32)), s4)) :=
  (((rn_2 hb hv hv8 (f := 3) (by decide) (by decide) d (dep + 1) (by omega) x).map (fun r => r + 1)).note 61).cg (fun t σ τ hA n hn => (rfX (d + 7) n (f := 5) (a := 3) (h := 5) (w := 61) (ab := nI 3) rfl rfl (by decide) (by decide) (by decide) (by decide) rfl rfl (by omega) hn x σ).trans (by simp only [ch_61])) (fun _ _ _ _ _ _ => rfl)
theorem rnT (hb : b < 50) (hv : gI τ0 29 b = nI v) (hv8 : v < 8) (d dep : Nat) (hd : dep + 8 ≤ 40) (x : Int32) : Rn σ0 τ0 b v 19 (fun n σ => F_X0_runFrom (d + 8) 0 n (nI v) 3 x (nI dep) σ) (fun n τ => F_X12_telling n (nI b) x τ) := by
  by_cases c0 : v = 4
  · have hh : v = 4 := c0
    have q : Rn σ0 τ0 b v 19 (fun n σ => F_X0_runFrom (d + 8) 0 n (nI 4) 3 x (nI dep) σ) (fun n τ => F_X12_telling n (nI b) x τ) := ((rn_50 hb hv hv8 d dep (by omega) x).le (k2 := 19) (by omega)).cg (FR2 := fun n τ => F_X12_telling n (nI b) x τ) (fun _ _ _ _ _ _ => rfl) (fun t σ τ hA n hn => by (try dsimp only); rw [tlR hA hb hv hv8 n x, if_pos c0])
    exact q.cg (fun _ _ _ _ _ _ => by rw [hh]) (fun _ _ _ _ _ _ => rfl)
  · have n0 := c0
    by_cases c1 : v = 5
    · have hh : v = 5 := c1
      have q : Rn σ0 τ0 b v 19 (fun n σ => F_X0_runFrom (d + 8) 0 n (nI 5) 3 x (nI dep) σ) (fun n τ => F_X12_telling n (nI b) x τ) := ((rn_61 hb hv hv8 d dep (by omega) x).le (k2 := 19) (by omega)).cg (FR2 := fun n τ => F_X12_telling n (nI b) x τ) (fun _ _ _ _ _ _ => rfl) (fun t σ τ hA n hn => by (try dsimp only); rw [tlR hA hb hv hv8 n x, if_neg n0, if_pos c1])
      exact q.cg (fun _ _ _ _ _ _ => by rw [hh]) (fun _ _ _ _ _ _ => rfl)
    · have n1 := c1
      have hh : hof 3 v 3 = 0 := by
        rcases (show v = 0 ∨ v = 1 ∨ v = 2 ∨ v = 3 ∨ v = 4 ∨ v = 5 ∨ v = 6 ∨ v = 7 by omega) with e | e | e | e | e | e | e | e <;> subst e <;> first | (exfalso; omega) | decide
      exact ((rn_2 hb hv hv8 hv8 hh (d + 1) dep (by omega) x).le (by omega)).cg (fun _ _ _ _ _ _ => rfl) (fun t σ τ hA n hn => by (try dsimp only); rw [tlR hA hb hv hv8 n x, if_neg n0, if_neg n1])
end RUNS
theorem actInv {N B t : Nat} {σ τ σ' τ' : St} (h1 : Pp N σ τ) (h2 : Pch N σ τ) (h3 : Pb N σ τ) (h4 : Pk N σ τ) (h5 : Pt σ τ) (h6 : Ptp σ τ) (h7 : Pa B σ τ) (h8 : Psh B σ τ) (h9 : Plaw σ τ) (x : ∀ c k, c ≠ 24 → c ≠ 26 → gI σ' c k = gI σ c k) (xL : ∀ c k, gL σ' c k = gL σ c k) (x1 : gI σ' 24 1 = gI σ 24 1) (r : ∀ c k, c ≠ 30 → (c ≠ 0 ∨ k ≠ 52) → gI τ' c k = gI τ c k) (rL : ∀ c k, gL τ' c k = gL τ c k) (ht : t < 1000) (e1 : gI σ' 24 3 = nI t) (e2 : gI τ' 0 52 = nI t) (e3 : ∀ k, k < t → k < 24 → gI σ' 26 k = gI τ' 30 k) : Inv σ' τ' := by
  have y : ∀ c k, c ≠ 24 ∧ c ≠ 26 → gI σ' c k = gI σ c k := fun c k h => x c k h.1 h.2
  have q : ∀ c k, c ≠ 30 ∧ c ≠ 0 → gI τ' c k = gI τ c k := fun c k h => r c k h.1 (Or.inl h.2)
  have q0 : ∀ k, k ≠ 52 → gI τ' 0 k = gI τ 0 k := fun k h => r 0 k (by decide) (Or.inr h)
  obtain ⟨g1, g2, g3, g4, g5⟩ := h7
  exact ⟨N, B, h1.at (y 4 1 (by decide)) (fun k => y 5 k (by decide)) (q0 1 (by decide)) (fun k => ⟨q 1 k (by decide), q 2 k (by decide), q 3 k (by decide), q 4 k (by decide)⟩), h2.at (y 4 5 (by decide)) (y 4 6 (by decide)) (fun k => ⟨y 6 k (by decide), y 7 k (by decide), y 8 k (by decide)⟩) (q0 6 (by decide)) (q0 7 (by decide)) (fun k => ⟨q 5 k (by decide), q 6 k (by decide), q 7 k (by decide), q 8 k (by decide)⟩), h3.at (y 37 1 (by decide)) (fun k => y 38 k (by decide)) (q0 29 (by decide)) (fun k => q 18 k (by decide)), h4.at (y 0 8 (by decide)) (y 39 1 (by decide)) (fun k => ⟨y 40 k (by decide), y 2 k (by decide)⟩) (q0 46 (by decide)) (q0 47 (by decide)) (fun k => ⟨q 27 k (by decide), q 28 k (by decide)⟩), h5.at (fun k => y 1 k (by decide)) (fun k => q 26 k (by decide)), h6.at (y 9 1 (by decide)) (fun k => y 10 k (by decide)) (fun k => y 33 k (by decide)) (q0 13 (by decide)) (fun k => q 9 k (by decide)),
    ⟨g1, x1.trans g2, (q0 50 (by decide)).trans g3, fun k hk => by
      obtain ⟨v, v1, v2, v3⟩ := g4 k hk
      exact ⟨v, v1, (y 25 k (by decide)).trans v2, (q 29 k (by decide)).trans v3⟩, t, ht, e1, e2, e3⟩,
    h8.at (fun c k hc => ⟨y c k (by omega), xL c k⟩) (fun k => ⟨q 31 k (by decide), q 32 k (by decide), rL 33 k⟩), h9.at (y 27 4 (by decide)) (fun k => ⟨y 28 k (by decide), y 29 k (by decide), y 30 k (by decide), y 31 k (by decide)⟩) (q0 25 (by decide)) (q 12 0 (by decide)) (fun k => ⟨q 10 k (by decide), q 11 k (by decide), q 13 k (by decide), q 14 k (by decide)⟩)⟩
theorem b_act (p1 p2 p3 : Int32) : MStp Inv (fun n σ => F_X11_act n p1 p2 p3 σ) (fun n τ => F_X12_act n p1 p2 p3 τ) := mstp_of (fun σ τ hI => by
  obtain ⟨N, B, h1, h2, h3, h4, h5, h6, h7, h8, h9⟩ := id hI
  obtain ⟨g1, g2, g3, g4, g5⟩ := id h7
  have hX0 : gI (sI σ 24 3 0) 24 1 = nI B := g2
  have hR0 : gI (sI τ 0 52 0) 0 50 = nI B := g3
  have bad : Inv (sI σ 24 3 0) (sI τ 0 52 0) := actInv (t := 0) h1 h2 h3 h4 h5 h6 h7 h8 h9 (fun c k c1 c2 => by rw [gI_sI, if_neg c1]) (fun _ _ => rfl) rfl (fun c k c1 c2 => by
    by_cases e : c = 0
    · subst e
      rw [gI_sI, if_pos rfl, if_neg (by omega)]
    · rw [gI_sI, if_neg e]) (fun _ _ => rfl) (by decide) rfl rfl (fun k hk => by omega)
  by_cases c1 : 0 ≤ p1.toInt ∧ p1.toInt < B
  · obtain ⟨b, hb, rfl⟩ := i_natlt c1.1 c1.2
    obtain ⟨v, hv8, v1, v2⟩ := g4 b hb
    by_cases c2 : 0 ≤ p2.toInt ∧ p2.toInt ≤ 3
    · obtain ⟨a, ha, rfl⟩ := i_natlt (n := 4) (x := p2) c2.1 (by omega)
      have hA : AC σ τ b v 0 (sI (sI (sI σ 24 3 0) 24 4 (nI b)) 24 5 (nI v)) (sI τ 0 52 0) := ⟨by decide, rfl, rfl, fun k hk => by omega, rfl, rfl, rfl, fun c k q1 q2 => by rw [gI_sI, if_neg q1, gI_sI, if_neg q1, gI_sI, if_neg q1], fun _ _ => rfl, fun c k q1 q2 => by
        by_cases e : c = 0
        · subst e
          rw [gI_sI, if_pos rfl, if_neg (by omega)]
        · rw [gI_sI, if_neg e], fun _ _ => rfl⟩
      have b50 : b < 50 := by omega
      have main : ∃ FR : Nat → St → Option (Int32 × St), Rn σ τ b v 19 (fun n s => F_X0_runFrom 100 0 n (nI v) (nI a) p3 (nI 0) s) FR ∧ ∀ n, F_X12_act n (nI b) (nI a) p3 τ = FR n (sI τ 0 52 0) := by
        have pre : ∀ n, F_X12_act n (nI b) (nI a) p3 τ = if nI a = 0 then F_X12_bringing n (nI b) p3 (sI τ 0 52 0) else if nI a = (1 : Int32) then F_X12_speaking n (nI b) p3 (sI τ 0 52 0) else if nI a = (2 : Int32) then F_X12_binding n (nI b) p3 (sI τ 0 52 0) else F_X12_telling n (nI b) p3 (sI τ 0 52 0) := fun n => by
          unfold F_X12_act
          rw [bnd_eq, isB12 hR0 g1, bd_some, one0, if_pos c1, in12, bd_some, one0, t0, t3, if_pos c2]
          simp only [bd_id]
        rcases (show a = 0 ∨ a = 1 ∨ a = 2 ∨ a = 3 by omega) with e | e | e | e
        · subst e
          exact ⟨_, (rnB b50 v2 hv8 97 0 (by omega) p3).le (by omega), fun n => by rw [pre, if_pos (by decide)]⟩
        · subst e
          exact ⟨_, (rnS b50 v2 hv8 94 0 (by omega) p3).le (by omega), fun n => by rw [pre, if_neg (by decide), if_pos (by decide)]⟩
        · subst e
          exact ⟨_, (rnD b50 v2 hv8 96 0 (by omega) p3).le (by omega), fun n => by rw [pre, if_neg (by decide), if_neg (by decide), if_pos (by decide)]⟩
        · subst e
          exact ⟨_, (rnT b50 v2 hv8 92 0 (by omega) p3).le (by omega), fun n => by rw [pre, if_neg (by decide), if_neg (by decide), if_neg (by decide)]⟩
      obtain ⟨FR, m1, m2⟩ := main
      obtain ⟨r, σ', τ', t', f1, f2, f3, f4⟩ := m1 0 _ _ hA (by omega)
      refine ⟨r, σ', τ', ⟨20, fun n hn => ?_⟩, ⟨20, fun n hn => (m2 n).trans (f4 n hn)⟩, actInv h1 h2 h3 h4 h5 h6 h7 h8 h9 f2.2.2.2.2.2.2.2.1 f2.2.2.2.2.2.2.2.2.1 f2.2.2.2.2.2.2.1 f2.2.2.2.2.2.2.2.2.2.1 f2.2.2.2.2.2.2.2.2.2.2 f2.1 f2.2.1 f2.2.2.1 f2.2.2.2.1⟩
      have hs : sI (sI (sI σ 24 3 0) 24 4 (nI b)) 24 5 (gI (sI (sI σ 24 3 0) 24 4 (nI b)) 25 b) = sI (sI (sI σ 24 3 0) 24 4 (nI b)) 24 5 (nI v) := by rw [show gI (sI (sI σ 24 3 0) 24 4 (nI b)) 25 b = gI σ 25 b from rfl, v1]
      show F_X11_act n (nI b) (nI a) p3 σ = _
      unfold F_X11_act F_X0_perform
      rw [bnd_eq, hasB hX0 g1, bd_some, one0, if_pos c1, if_neg (by rw [i_lt, t0]; omega), if_pos (by rw [i_lt, t4]; omega), bnd_eq, gd_eq (nIin b50 (by decide)), nIc (by omega), bnd_eq, hs, bd_id, bd_id, show gI (sI (sI (sI σ 24 3 0) 24 4 (nI b)) 24 5 (nI v)) 24 5 = nI v from rfl]
      exact f3 n hn
    · refine ⟨0, _, _, Ev.const (fun n => ?_), Ev.const (fun n => ?_), bad⟩
      · unfold F_X11_act F_X0_perform
        rw [bnd_eq, hasB hX0 g1, bd_some, one0, if_pos c1]
        by_cases c3 : p2.toInt < 0
        · rw [if_pos (by rw [i_lt, t0]; omega), bd_some]
        · rw [if_neg (by rw [i_lt, t0]; omega), if_neg (by rw [i_lt, t4]; omega), bd_some]
      · unfold F_X12_act
        rw [bnd_eq, isB12 hR0 g1, bd_some, one0, if_pos c1, in12, bd_some, one0, t0, t3, if_neg c2]
  · refine ⟨0, _, _, Ev.const (fun n => ?_), Ev.const (fun n => ?_), bad⟩
    · unfold F_X11_act F_X0_perform
      rw [bnd_eq, hasB hX0 g1, bd_some, one0, if_neg c1, bd_some]
    · unfold F_X12_act
      rw [bnd_eq, isB12 hR0 g1, bd_some, one0, if_neg c1])
