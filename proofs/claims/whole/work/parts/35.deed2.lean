/-! settle beside goCase -/
theorem bokN {N k : Nat} (h : k < N) : bok N (nI k) := Or.inr ⟨k, h, rfl⟩
theorem bokM {N : Nat} : bok N (-1) := Or.inl rfl
theorem setX_g (σ : St) (b a c : Nat) (won : Bool) (i : Nat) : gI (setX σ b a c won) (b + 1) i = if won then (if i = c then -1 else if i = spk (gI σ (b + 1)) c 7 0 then nI (spk (gI σ (b + 1)) c 7 0) else gI σ (b + 1) i) else (if i = a then nI c else if i = spk (gI σ (b + 1)) c 7 0 then -1 else gI σ (b + 1) i) := by
  have hne : ¬ b + 1 = b := by omega
  unfold setX
  cases won <;> simp [gI_sI, hne]
theorem setX_o (σ : St) (b a c : Nat) (won : Bool) {c0 : Nat} (h1 : c0 ≠ b) (h2 : c0 ≠ b + 1) (i : Nat) : gI (setX σ b a c won) c0 i = gI σ c0 i := by
  unfold setX
  cases won <;> simp [gI_sI, h1, h2]
theorem setX_L (σ : St) (b a c : Nat) (won : Bool) (c0 i : Nat) : gL (setX σ b a c won) c0 i = gL σ c0 i := by
  unfold setX
  cases won <;> rfl
theorem setX_1 (σ : St) (b a c : Nat) (won : Bool) : gI (setX σ b a c won) b 1 = gI σ b 1 + 1 := by
  unfold setX
  simp [gI_sI]
theorem setR_g (τ : St) (N a c : Nat) (won : Bool) (i : Nat) : gI (setR τ N a c won) 17 i = if won then (if i = c then -1 else if i = spk (gI τ 17) c N 0 then nI (spk (gI τ 17) c N 0) else gI τ 17 i) else (if i = a then nI c else if i = spk (gI τ 17) c N 0 then -1 else gI τ 17 i) := by
  unfold setR
  cases won
  · simp [gI_sI]
  · simp only [if_true, gI_sI]
    by_cases e : spk (gI τ 17) c N 0 = c
    · simp only [if_pos e, gI_sI, if_true, e]
      by_cases h : i = c <;> simp [h]
    · simp only [if_neg e, gI_sI, if_true]
      simp
theorem setR_o (τ : St) (N a c : Nat) (won : Bool) {c0 : Nat} (h1 : c0 ≠ 0) (h2 : c0 ≠ 17) (i : Nat) : gI (setR τ N a c won) c0 i = gI τ c0 i := by
  unfold setR
  cases won
  · simp [gI_sI, h1, h2]
  · by_cases e : spk (gI τ 17) c N 0 = c <;> simp [gI_sI, h1, h2, e]
theorem setR_0 (τ : St) (N a c : Nat) (won : Bool) (i : Nat) : gI (setR τ N a c won) 0 i = if i = 27 then gI τ 0 27 + 1 else gI τ 0 i := by
  unfold setR
  cases won
  · simp [gI_sI]
  · by_cases e : spk (gI τ 17) c N 0 = c <;> simp [gI_sI, e]
theorem setR_L (τ : St) (N a c : Nat) (won : Bool) (c0 i : Nat) : gL (setR τ N a c won) c0 i = gL τ c0 i := by
  unfold setR
  cases won
  · rfl
  · by_cases e : spk (gI τ 17) c N 0 = c <;> simp [gL_sI, e]
theorem setR_eq (τ : St) (N a c : Nat) (won : Bool) : EqR τ (setR τ N a c won) := ⟨fun x hx k => ⟨setR_o τ N a c won (nin hx (by decide)) (nin hx (by decide)) k, setR_L τ N a c won x k⟩, fun k hk => by rw [setR_0, if_neg (nin hk (by decide))]⟩
theorem Th.set {N : Nat} {σ τ : St} {b : Nat} (h : Th N σ τ b) (h7 : N ≤ 7) {a c : Nat} (ha : a < N) (hc : c < N) (won : Bool) : Th N (setX σ b a c won) (setR τ N a c won) b := by
  have hs := h.sp h7 hc
  have hsl : spk (gI τ 17) c N 0 < N := spk_lt _ hc N 0 (by omega)
  obtain ⟨h1, h2, h3⟩ := h
  refine ⟨by rw [setX_1, setR_0, if_pos rfl, h1], fun i hi => ?_, fun i e1 e2 => ?_⟩
  · rw [setX_g, setR_g, hs, (h2 i hi).1]
    refine ⟨rfl, ?_⟩
    cases won
    · simp only [Bool.false_eq_true, if_false]
      split
      · exact bokN hc
      · split
        · exact bokM
        · rw [← (h2 i hi).1]; exact (h2 i hi).2
    · simp only [if_true]
      split
      · exact bokM
      · split
        · exact bokN hsl
        · rw [← (h2 i hi).1]; exact (h2 i hi).2
  · rw [setX_g, hs]
    cases won <;> simp [show i ≠ c by omega, show i ≠ a by omega, show i ≠ spk (gI τ 17) c N 0 by omega, h3 i e1 e2]
theorem fint (x : Int32) : fits .int (.int x) = true := rfl
/-- copyFrom -/
def cpX (σ : St) (b0 b1 : Nat) : St := sI (cI σ (b1 + 1) (b0 + 1) 0 0 7) b0 1 (gI σ b1 1)
theorem cp1 (n : Nat) (σ : St) (b0 b1 : Nat) (h : b1 ≠ b0 + 1) : F_X1_copyFrom n b0 b1 σ = some ((), cpX σ b0 b1) := by
  unfold F_X1_copyFrom cpX
  rw [gd_eq ⟨by decide, by decide, by decide, by decide, by decide, fun i _ => rfl⟩, bnd_eq, bnd_eq]
  have e : gI (cI σ (b1 + 1) (b0 + 1) (0 : Int32).toNatClampNeg (0 : Int32).toNatClampNeg (7 : Int32).toNatClampNeg) b1 1 = gI σ b1 1 := by rw [gI_cI, if_neg h]
  rw [e]
  rfl
theorem cpX_g (σ : St) (b0 b1 i : Nat) (hi : i < 7) : gI (cpX σ b0 b1) (b0 + 1) i = gI σ (b1 + 1) i := by
  unfold cpX
  rw [gI_sI, if_neg (by omega), gI_cI, if_pos rfl, if_pos (by omega)]
  simp
theorem cpX_1 (σ : St) (b0 b1 : Nat) : gI (cpX σ b0 b1) b0 1 = gI σ b1 1 := by unfold cpX; rw [gI_sI, if_pos rfl, if_pos rfl]
theorem cpX_o (σ : St) (b0 b1 : Nat) {c : Nat} (h1 : c ≠ b0) (h2 : c ≠ b0 + 1) (i : Nat) : gI (cpX σ b0 b1) c i = gI σ c i := by unfold cpX; rw [gI_sI, if_neg h1, gI_cI, if_neg h2]
theorem cpX_L (σ : St) (b0 b1 c i : Nat) : gL (cpX σ b0 b1) c i = gL σ c i := rfl
theorem cpX_eq (σ : St) (b0 b1 : Nat) (h1 : b0 ∉ coreX) (h2 : b0 + 1 ∉ coreX) (h3 : b0 ≠ 31) (h4 : b0 + 1 ≠ 31) : EqX σ (cpX σ b0 b1) := (EqX.ofC h2 h4).trans (EqX.ofI h1 h3)
theorem Th.cp {N : Nat} {σ τ : St} {b1 : Nat} (h : Th N σ τ b1) (b0 : Nat) (h7 : N ≤ 7) : Th N (cpX σ b0 b1) τ b0 := ⟨(cpX_1 σ b0 b1).trans h.1, fun i hi => by rw [cpX_g σ b0 b1 i (by omega)]; exact h.2.1 i hi, fun i e1 e2 => by rw [cpX_g σ b0 b1 i e2]; exact h.2.2 i e1 e2⟩
theorem setX_eq (σ : St) (b a c : Nat) (won : Bool) (h1 : b ∉ coreX) (h2 : b + 1 ∉ coreX) (h3 : b ≠ 31) (h4 : b + 1 ≠ 31) : EqX σ (setX σ b a c won) := ⟨fun x hx k => ⟨setX_o σ b a c won (nin hx h1) (nin hx h2) k, setX_L σ b a c won x k⟩, fun k _ => setX_o σ b a c won (fun e => h3 e.symm) (fun e => h4 e.symm) k⟩
/-! deeds on one person -/
theorem per {N : Nat} (p : Int32) : (∃ i : Nat, i < N ∧ p = nI i) ∨ ¬ (0 ≤ p.toInt ∧ p.toInt < N) := by
  by_cases h : 0 ≤ p.toInt ∧ p.toInt < N
  · exact Or.inl (i_natlt h.1 h.2)
  · exact Or.inr h
theorem perI {N i : Nat} (hi : i < N) (h7 : N ≤ 7) : 0 ≤ (nI i).toInt ∧ (nI i).toInt < N := by rw [i_n (by omega)]; omega
theorem num6 {σ : St} {N : Nat} (hN : gI σ 4 1 = nI N) (h7 : N ≤ 7) (n : Nat) {i w : Nat} (hi : i < N) (hw : w < 4) : F_X6_numberOf n (nI i) (nI w) σ = some (gI σ 5 (4 * i + w), σ) := by
  unfold F_X6_numberOf
  rw [if_neg (by rw [i_lt, i_n (by omega), t0]; omega), if_neg (by rw [hN, i_le, i_n (by omega), i_n (by omega)]; omega), if_neg (by rw [i_lt, i_n (by omega), t0]; omega), if_neg (by rw [i_le, i_n (by omega), t4]; omega)]
  show B_X6_numberOf_1 (L_X6_numberOf n) n (nI i) (nI w) 1 σ = _
  unfold B_X6_numberOf_1
  rw [if_neg (by decide), n_mul4, nI_add, gd_eq (nIin (by omega) (by decide)), nIc (by omega)]
theorem val12 (n : Nat) (τ : St) {i w : Nat} (hi : i < 7) (hw : w < 4) : F_X12_valueAt n (nI w) (nI i) τ = some (gI τ (1 + w) i, τ) := by
  unfold F_X12_valueAt
  match w, hw with
  | 0, _ => rw [if_pos (by decide), gd_eq (nIin hi (by decide)), nIc (by omega)]
  | 1, _ => rw [if_neg (by decide), if_pos (by decide), gd_eq (nIin hi (by decide)), nIc (by omega)]
  | 2, _ => rw [if_neg (by decide), if_neg (by decide), if_pos (by decide), gd_eq (nIin hi (by decide)), nIc (by omega)]
  | 3, _ => rw [if_neg (by decide), if_neg (by decide), if_neg (by decide), gd_eq (nIin hi (by decide)), nIc (by omega)]
  | w + 4, h => exact absurd h (by omega)
theorem Pp.num {N : Nat} {σ τ : St} (h : Pp N σ τ) {i w : Nat} (hi : i < N) (hw : w < 4) : gI σ 5 (4 * i + w) = gI τ (1 + w) i := by
  obtain ⟨b1, b2, b3, b4⟩ := h.2.2.2 i hi
  match w, hw with
  | 0, _ => exact b1
  | 1, _ => exact b2
  | 2, _ => exact b3
  | 3, _ => exact b4
  | w + 4, h => exact absurd h (by omega)
theorem b_of (p1 p2 : Int32) : MStp Inv (fun n σ => F_X11_of n p1 p2 σ) (fun n τ => F_X12_of n p1 p2 τ) := mstp_of (fun σ τ hI => by
  obtain ⟨N, B, h1, h2, h3, h4, h5, h6, h7, h8, h9⟩ := id hI
  obtain ⟨a1, a2, a3, a4⟩ := id h1
  rcases per (N := N) p1 with ⟨i, hi, rfl⟩ | c1
  · by_cases c2 : 0 ≤ p2.toInt ∧ p2.toInt < 5
    · obtain ⟨w, hw, rfl⟩ := i_natlt (n := 5) c2.1 c2.2
      by_cases c3 : w = 4
      · subst c3
        refine ⟨gI σ 38 i, σ, τ, Ev.const (fun n => ?_), Ev.const (fun n => ?_), hI⟩
        · simp only [F_X11_of, has6 a2 a1, bd_some, if_pos (perI hi a1), bound1 n 37 (show i < 7 by omega)]
          rfl
        · simp only [F_X12_of, isP12 a3 a1, bd_some, if_pos (perI hi a1), in12]
          rw [if_neg (by decide), if_neg (by decide), if_pos (by decide), gd_eq (nIin (by omega) (by decide)), nIc (by omega), (h3.2.1 i hi).1]
      · refine ⟨gI σ 5 (4 * i + w), σ, τ, Ev.const (fun n => ?_), Ev.const (fun n => ?_), hI⟩
        · simp only [F_X11_of, has6 a2 a1, bd_some, if_pos (perI hi a1), num6 a2 a1 n hi (show w < 4 by omega)]
          rw [if_neg (by decide), if_neg (by rw [i_lt, i_n (by omega), t0]; omega), if_pos (by rw [i_le, i_n (by omega), t4]; omega), if_pos (by rw [i_le, i_n (by omega), t3]; omega)]
        · simp only [F_X12_of, isP12 a3 a1, bd_some, if_pos (perI hi a1), in12, val12 n τ (show i < 7 by omega) (show w < 4 by omega)]
          rw [if_neg (by decide), if_neg (by rw [if_pos (by rw [i_n (by omega), t0, t4]; omega)]; decide), if_neg (by rw [i_eq, i_n (by omega), t4]; omega), h1.num hi (by omega)]
    · refine ⟨-2000000000, σ, τ, Ev.const (fun n => ?_), Ev.const (fun n => ?_), hI⟩
      · simp only [F_X11_of, has6 a2 a1, bd_some, if_pos (perI hi a1), i_lt, i_le, t0, t4]
        rw [if_neg (by decide)]
        split
        · rfl
        · rw [if_neg (by omega)]
      · simp only [F_X12_of, isP12 a3 a1, bd_some, if_pos (perI hi a1), in12, t0, t4, if_neg (show ¬ (0 ≤ p2.toInt ∧ p2.toInt ≤ 4) by omega)]
        rfl
  · refine ⟨-2000000000, σ, τ, Ev.const (fun n => ?_), Ev.const (fun n => ?_), hI⟩
    · simp only [F_X11_of, has6 a2 a1, bd_some, if_neg c1]
      rfl
    · simp only [F_X12_of, isP12 a3 a1, bd_some, if_neg c1]
      rfl)
theorem v05 : vp_in 0 5 := nIin (k := 0) (by decide) (by decide)
theorem v15 : vp_in 1 5 := nIin (k := 1) (by decide) (by decide)
theorem v25 : vp_in 2 5 := nIin (k := 2) (by decide) (by decide)
theorem v35 : vp_in 3 5 := nIin (k := 3) (by decide) (by decide)
theorem v45 : vp_in 4 5 := nIin (k := 4) (by decide) (by decide)
theorem b_release (p1 : Int32) : MStp Inv (fun n σ => F_X11_release n p1 σ) (fun n τ => F_X12_release n p1 τ) := mstp_of (fun σ τ hI => by
  obtain ⟨N, B, h1, h2, h3, h4, h5, h6, h7, h8, h9⟩ := id hI
  obtain ⟨a1, a2, a3, a4⟩ := id h1
  rcases per (N := N) p1 with ⟨i, hi, rfl⟩ | c1
  · refine ⟨gI σ 38 i, sI (sI σ 38 i (-1)) 1 3 (gI σ 1 3 + 1), sI (sI τ 18 i (-1)) 26 3 (gI τ 26 3 + 1), Ev.const (fun n => ?_), Ev.const (fun n => ?_), N, B, h1, h2, ?_, h4, ?_, h6, h7, h8.at (xs_sI (by decide) (xs_sI (by decide) xs_id)) (fun k => ⟨rfl, rfl, rfl⟩), h9.at rfl (fun k => ⟨rfl, rfl, rfl, rfl⟩) rfl rfl (fun k => ⟨rfl, rfl, rfl, rfl⟩)⟩
    · simp only [F_X11_release, has6 a2 a1, bd_some, if_pos (perI hi a1), bound1 n 37 (show i < 7 by omega), F_X1_setFree, seat1n n (show i < 7 by omega), bnd_eq, gd_eq v35, gd_eq (nIin (show i < 7 by omega) (by decide)), nIc (show i < 2147483648 by omega)]
      rfl
    · simp only [F_X12_release, isP12 a3 a1, bd_some, if_pos (perI hi a1), bnd_eq, gd_eq v35, gd_eq (nIin (show i < 7 by omega) (by decide)), nIc (show i < 2147483648 by omega), (h3.2.1 i hi).1]
      rfl
    · refine ⟨h3.1, fun j hj => ?_, fun j e1 e2 => ?_⟩
      · simp only [gI_sI]
        by_cases e : j = i
        · subst e
          simp [bokM]
        · simp [e]
          exact h3.2.1 j hj
      · simp only [gI_sI]
        simp [h3.2.2 j e1 e2]
    · intro k hk
      simp only [gI_sI]
      by_cases e : k = 3
      · subst e
        simp [h5 3 (by decide)]
      · simp [e, h5 k hk]
  · refine ⟨-2000000000, σ, τ, Ev.const (fun n => ?_), Ev.const (fun n => ?_), hI⟩
    · simp only [F_X11_release, has6 a2 a1, bd_some, if_neg c1]
      rfl
    · simp only [F_X12_release, isP12 a3 a1, bd_some, if_neg c1]
      rfl)
