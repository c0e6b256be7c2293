theorem t0 : (0 : Int32).toInt = 0 := rfl
theorem t1 : (1 : Int32).toInt = 1 := rfl
theorem t2 : (2 : Int32).toInt = 2 := rfl
theorem t3 : (3 : Int32).toInt = 3 := rfl
theorem t4 : (4 : Int32).toInt = 4 := rfl
theorem t5 : (5 : Int32).toInt = 5 := rfl
theorem t6 : (6 : Int32).toInt = 6 := rfl
theorem t7 : (7 : Int32).toInt = 7 := rfl
theorem t8 : (8 : Int32).toInt = 8 := rfl
theorem t9 : (9 : Int32).toInt = 9 := rfl
theorem t10 : (10 : Int32).toInt = 10 := rfl
theorem t11 : (11 : Int32).toInt = 11 := rfl
theorem t12 : (12 : Int32).toInt = 12 := rfl
theorem t13 : (13 : Int32).toInt = 13 := rfl
theorem t20 : (20 : Int32).toInt = 20 := rfl
theorem t24 : (24 : Int32).toInt = 24 := rfl
theorem t30 : (30 : Int32).toInt = 30 := rfl
theorem t39 : (39 : Int32).toInt = 39 := rfl
theorem t40 : (40 : Int32).toInt = 40 := rfl
theorem t48 : (48 : Int32).toInt = 48 := rfl
theorem t50 : (50 : Int32).toInt = 50 := rfl
theorem t57 : (57 : Int32).toInt = 57 := rfl
theorem t59 : (59 : Int32).toInt = 59 := rfl
theorem t60 : (60 : Int32).toInt = 60 := rfl
theorem t99 : (99 : Int32).toInt = 99 := rfl
theorem t100 : (100 : Int32).toInt = 100 := rfl
theorem t119 : (119 : Int32).toInt = 119 := rfl
theorem t120 : (120 : Int32).toInt = 120 := rfl
theorem t125 : (125 : Int32).toInt = 125 := rfl
theorem t240 : (240 : Int32).toInt = 240 := rfl
theorem t255 : (255 : Int32).toInt = 255 := rfl
theorem t320 : (320 : Int32).toInt = 320 := rfl
theorem t360 : (360 : Int32).toInt = 360 := rfl
theorem t624 : (624 : Int32).toInt = 624 := rfl
theorem t625 : (625 : Int32).toInt = 625 := rfl
theorem tm1 : (-1 : Int32).toInt = -1 := rfl
theorem tm2 : (-2 : Int32).toInt = -2 := rfl
theorem tm3 : (-3 : Int32).toInt = -3 := rfl
theorem tm5 : (-5 : Int32).toInt = -5 := rfl
theorem tm11 : (-11 : Int32).toInt = -11 := rfl
theorem tm12 : (-12 : Int32).toInt = -12 := rfl
theorem tm13 : (-13 : Int32).toInt = -13 := rfl
theorem tm14 : (-14 : Int32).toInt = -14 := rfl
theorem tm2000000000 : (-2000000000 : Int32).toInt = -2000000000 := rfl
theorem in12 (n : Nat) (p a b : Int32) (σ : St) : F_X12_in n p a b σ = some (if a.toInt ≤ p.toInt ∧ p.toInt ≤ b.toInt then 1 else 0, σ) := by
  unfold F_X12_in
  simp only [i_lt]
  split
  · rw [if_neg (by omega)]
  · split
    · rw [if_neg (by omega)]
    · rw [if_pos (by omega)]
theorem nb1 : narrow .boolean (.int 1) = .int 1 := rfl
theorem nb0 : narrow .boolean (.int 0) = .int 0 := rfl
theorem nbI {P : Prop} [Decidable P] : narrow .boolean (.int (if P then 1 else 0)) = .int (if P then 1 else 0) := by split <;> rfl
theorem has6 {σ : St} {N : Nat} (hN : gI σ 4 1 = nI N) (h7 : N ≤ 7) (n : Nat) (p : Int32) : F_X6_has n p σ = some (if 0 ≤ p.toInt ∧ p.toInt < N then 1 else 0, σ) := by
  unfold F_X6_has
  simp only [hN, i_lt, i_le, t0, i_n (show N < 2147483648 by omega)]
  split
  · rw [if_neg (by omega)]
  · split
    · rw [if_neg (by omega)]
    · rw [if_pos (by omega)]
theorem isP12 {τ : St} {N : Nat} (hN : gI τ 0 1 = nI N) (h7 : N ≤ 7) (n : Nat) (p : Int32) : F_X12_isPerson n p τ = some (if 0 ≤ p.toInt ∧ p.toInt < N then 1 else 0, τ) := by
  unfold F_X12_isPerson
  have e : (nI N - 1).toInt = (N : Int) - 1 := by rw [i_sub] <;> rw [i_n (by omega)] <;> simp only [t1] <;> omega
  have e2 : (if (0 : Int32).toInt ≤ p.toInt ∧ p.toInt ≤ (nI N - 1).toInt then (1 : Int32) else 0) = if 0 ≤ p.toInt ∧ p.toInt < N then 1 else 0 := by
    rw [e, t0]
    split
    · rw [if_pos (by omega)]
    · rw [if_neg (by omega)]
  rw [in12, hN, bd_some, e2, gd_eq nbI]
theorem gd_T0 {β : Type} {E : Option β} : gd True E = E := gd_of trivial
theorem one0 {P : Prop} [Decidable P] {β : Type} {E F : β} : (if (if P then (1 : Int32) else 0) = 0 then E else F) = if P then F else E := by
  by_cases hp : P
  · rw [if_pos hp, if_pos hp, if_neg (by decide)]
  · rw [if_neg hp, if_neg hp, if_pos rfl]
theorem hi_0 : st_hi 0 = 9 := rfl
theorem hi_1 : st_hi 1 = 9 := rfl
theorem hi_2 : st_hi 2 = 6 := rfl
theorem hi_3 : st_hi 3 = 99 := rfl
theorem allows6 (n w : Nat) (hw : w < 4) (v : Int32) (σ : St) : F_X6_allows n (nI w) v σ = some (if 0 ≤ v.toInt ∧ v.toInt ≤ (st_hi w).toInt then 1 else 0, σ) := by
  unfold F_X6_allows
  rw [if_neg (by rw [i_lt, i_n (by omega), t0]; omega), if_neg (by rw [i_le, i_n (by omega), t4]; omega), gd_eq (nIin hw (by decide)), nIc (by omega)]
  simp only [i_lt, t0]
  split
  · rw [if_neg (by omega)]
  · split
    · rw [if_neg (by omega)]
    · rw [if_pos (by omega)]
theorem allowsO (n : Nat) (w v : Int32) (σ : St) (h : ¬ (0 ≤ w.toInt ∧ w.toInt < 4)) : F_X6_allows n w v σ = some (0, σ) := by
  unfold F_X6_allows
  simp only [i_lt, i_le, t0, t4]
  split
  · rfl
  · split
    · rfl
    · omega
theorem full6 {σ : St} {N : Nat} (hN : gI σ 4 1 = nI N) (h7 : N ≤ 7) (n : Nat) : F_X6_isFull n σ = some (if N < 7 then 0 else 1, σ) := by
  unfold F_X6_isFull
  simp only [hN, i_lt, t7, i_n (show N < 2147483648 by omega)]
  split
  · rw [if_pos (by omega)]
  · rw [if_neg (by omega)]
theorem n_mul4 (a : Nat) : (4 : Int32) * nI a = nI (4 * a) := pk_mul 4 a
theorem n_a1 (a : Nat) : nI a + 1 = nI (a + 1) := nI_1 a
theorem n_a0 (a : Nat) : nI a + 0 = nI a := nI_add a 0
theorem n_a2 (a : Nat) : nI a + 2 = nI (a + 2) := nI_add a 2
theorem n_a3 (a : Nat) : nI a + 3 = nI (a + 3) := nI_add a 3
theorem n_s1 (a : Nat) : nI (a + 1) - 1 = nI a := nI_pred a
def addX (σ : St) (N : Nat) (a b c : Int32) : St := sI (sI (sI (sI (sI σ 5 (4 * N) a) 5 (4 * N + 1) b) 5 (4 * N + 2) c) 5 (4 * N + 3) 5) 4 1 (nI (N + 1))
theorem add6 {σ : St} {N : Nat} (hN : gI σ 4 1 = nI N) (h7 : N < 7) (n : Nat) (a b c : Int32) : F_X6_add n a b c σ = some (nI N, addX σ N a b c) := by
  unfold F_X6_add
  have h1 : gI (sI (sI (sI (sI σ 5 (4 * N) a) 5 (4 * N + 1) b) 5 (4 * N + 2) c) 5 (4 * N + 3) 5) 4 1 = nI N := hN
  simp only [hN, bnd_eq, n_mul4, n_a0, n_a1, n_a2, n_a3]
  rw [gd_eq (nIin (by omega) (by decide)), gd_eq (nIin (by omega) (by decide)), gd_eq (nIin (by omega) (by decide)), gd_eq (nIin (by omega) (by decide))]
  simp only [nIc (show 4 * N < 2147483648 by omega), nIc (show 4 * N + 1 < 2147483648 by omega), nIc (show 4 * N + 2 < 2147483648 by omega), nIc (show 4 * N + 3 < 2147483648 by omega), h1, n_a1]
  rw [gI_sI, if_pos rfl, if_pos rfl, n_s1]
  rfl
def addR (τ : St) (N : Nat) (a b c : Int32) : St := sI (sI (sI (sI (sI (sI τ 1 N a) 2 N b) 3 N c) 4 N 5) 18 N (-1)) 0 1 (nI (N + 1))
theorem add12 {τ : St} {N : Nat} (hN : gI τ 0 1 = nI N) (h7 : N < 7) (n : Nat) (a b c : Int32) : F_X12_addPerson n a b c τ = some (nI N, addR τ N a b c) := by
  unfold F_X12_addPerson
  simp (disch := omega) [bnd_eq, gI_sI, hN, gd_T0, nIin, nIc, n_a1, n_s1, addR]

