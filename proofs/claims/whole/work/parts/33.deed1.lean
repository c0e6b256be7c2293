theorem gd_T {β : Type} {E : Option β} : gd True E = E := gd_of trivial
theorem bok.mono {N M : Nat} {v : Int32} (h : bok N v) (hM : N ≤ M) : bok M v := h.elim Or.inl (fun ⟨k, a, b⟩ => Or.inr ⟨k, by omega, b⟩)
theorem Pch.mono {N M : Nat} {σ τ : St} (h : Pch N σ τ) (hM : N ≤ M) : Pch M σ τ := by
  obtain ⟨d, u, a1, a2, a3, a4, a5, a6⟩ := h
  refine ⟨d, u, a1, a2, a3, a4, a5, fun k hk => ?_⟩
  obtain ⟨i, w, b1, b2⟩ := a6 k hk
  exact ⟨i, w, by omega, b2⟩
theorem Pk.mono {N : Nat} {σ τ : St} (h : Pk N σ τ) : Pk (N + 1) σ τ := by
  rcases h with h | ⟨a1, a2, a3, a4, a5, a6⟩
  · exact Or.inl h
  · exact Or.inr ⟨a1, a2, a3, fun i hi => ⟨(a4 i hi).1, (a4 i hi).2.mono (by omega)⟩, fun i h1 h2 => a5 i (by omega) h2, a6⟩
theorem Plaw.at {σ τ σ' τ' : St} (h : Plaw σ τ) (x1 : gI σ' 27 4 = gI σ 27 4) (x : ∀ k, gI σ' 28 k = gI σ 28 k ∧ gI σ' 29 k = gI σ 29 k ∧ gI σ' 30 k = gI σ 30 k ∧ gI σ' 31 k = gI σ 31 k) (r0 : gI τ' 0 25 = gI τ 0 25) (r1 : gI τ' 12 0 = gI τ 12 0) (r : ∀ k, gI τ' 10 k = gI τ 10 k ∧ gI τ' 11 k = gI τ 11 k ∧ gI τ' 13 k = gI τ 13 k ∧ gI τ' 14 k = gI τ 14 k) : Plaw σ' τ' := by
  unfold Plaw at h ⊢
  rw [r0, x1, r1]
  rcases h with h | ⟨h1, m, fe, ke, h2, h3, h4, h5, h6, h7, h8⟩
  · exact Or.inl h
  · exact Or.inr ⟨h1, m, fe, ke, h2, h3, h4, h5, h6, h7, h8.eq (fun i => ⟨(x i).1, (x i).2.1, (x i).2.2.1, fun _ => (x i).2.2.2⟩) r⟩
theorem Psh.at {B : Nat} {σ τ σ' τ' : St} (h : Psh B σ τ) (x : ∀ c k, 63 ≤ c → gI σ' c k = gI σ c k ∧ gL σ' c k = gL σ c k) (r : ∀ k, gI τ' 31 k = gI τ 31 k ∧ gI τ' 32 k = gI τ 32 k ∧ gL τ' 33 k = gL τ 33 k) : Psh B σ' τ' := fun s hs => by
  have h := h s hs
  simp only [(x _ _ (show 63 ≤ 63 + 2 * s by omega)).1, (x _ _ (show 63 ≤ 63 + 2 * s + 1 by omega)).2, (r _).1, (r _).2.1, (r _).2.2]
  exact h
theorem xs_id {σ : St} : ∀ c k, 63 ≤ c → gI σ c k = gI σ c k ∧ gL σ c k = gL σ c k := fun _ _ _ => ⟨rfl, rfl⟩
theorem xs_sI {σ ρ : St} {a b : Nat} {v : Int32} (ha : a < 63) (h : ∀ c k, 63 ≤ c → gI ρ c k = gI σ c k ∧ gL ρ c k = gL σ c k) : ∀ c k, 63 ≤ c → gI (sI ρ a b v) c k = gI σ c k ∧ gL (sI ρ a b v) c k = gL σ c k := fun c k hc => ⟨by rw [gI_sI, if_neg (by omega)]; exact (h c k hc).1, (h c k hc).2⟩
theorem xs_cI {σ ρ : St} {a0 a sp dp n : Nat} (ha : a < 63) (h : ∀ c k, 63 ≤ c → gI ρ c k = gI σ c k ∧ gL ρ c k = gL σ c k) : ∀ c k, 63 ≤ c → gI (cI ρ a0 a sp dp n) c k = gI σ c k ∧ gL (cI ρ a0 a sp dp n) c k = gL σ c k := fun c k hc => ⟨by rw [gI_cI, if_neg (by omega)]; exact (h c k hc).1, (h c k hc).2⟩
theorem addX_5 (σ : St) (N : Nat) (a b c : Int32) (k : Nat) : gI (addX σ N a b c) 5 k = if k = 4 * N + 3 then 5 else if k = 4 * N + 2 then c else if k = 4 * N + 1 then b else if k = 4 * N then a else gI σ 5 k := by simp [addX, gI_sI]
theorem addInv {σ τ : St} {N B : Nat} {a b c : Int32} (h7 : N < 7) (h1 : Pp N σ τ) (h2 : Pch N σ τ) (h3 : Pb N σ τ) (h4 : Pk N σ τ) (h5 : Pt σ τ) (h6 : Ptp σ τ) (h7a : Pa B σ τ) (h8 : Psh B σ τ) (h9 : Plaw σ τ) : Pp (N + 1) (addX σ N a b c) (addR τ N a b c) ∧ Pch (N + 1) (addX σ N a b c) (addR τ N a b c) ∧ Pb (N + 1) (addX σ N a b c) (addR τ N a b c) ∧ Pk (N + 1) (addX σ N a b c) (addR τ N a b c) ∧ Pt (addX σ N a b c) (addR τ N a b c) ∧ Ptp (addX σ N a b c) (addR τ N a b c) ∧ Pa B (addX σ N a b c) (addR τ N a b c) ∧ Psh B (addX σ N a b c) (addR τ N a b c) ∧ Plaw (addX σ N a b c) (addR τ N a b c) := by
  have ex : ∀ (c0 k : Nat), c0 ≠ 4 → c0 ≠ 5 → gI (addX σ N a b c) c0 k = gI σ c0 k := fun c0 k e1 e2 => by simp [addX, gI_sI, e1, e2]
  have er : ∀ (c0 k : Nat), c0 ≠ 0 → c0 ≠ 1 → c0 ≠ 2 → c0 ≠ 3 → c0 ≠ 4 → c0 ≠ 18 → gI (addR τ N a b c) c0 k = gI τ c0 k := fun c0 k e0 e1 e2 e3 e4 e5 => by simp [addR, gI_sI, e0, e1, e2, e3, e4, e5]
  refine ⟨?_, ?_, ?_, h4.mono, h5, h6, h7a, ?_, ?_⟩
  · obtain ⟨a1, a2, a3, a4⟩ := h1
    refine ⟨by omega, by simp [addX, gI_sI], by simp [addR, gI_sI], fun i hi => ?_⟩
    simp only [addX_5]
    by_cases e : i = N
    · subst e
      simp [addR, gI_sI]
    · have hlt : i < N := by omega
      obtain ⟨b1, b2, b3, b4⟩ := a4 i hlt
      rw [if_neg (by omega), if_neg (by omega), if_neg (by omega), if_neg (by omega), if_neg (by omega), if_neg (by omega), if_neg (by omega), if_neg (by omega), if_neg (by omega), if_neg (by omega), if_neg (by omega), if_neg (by omega), if_neg (by omega), if_neg (by omega), if_neg (by omega), if_neg (by omega)]
      simp [addR, gI_sI, e, b1, b2, b3, b4]
  · exact (h2.mono (by omega) : Pch (N + 1) σ τ)
  · obtain ⟨a1, a2, a3⟩ := h3
    refine ⟨a1, fun i hi => ?_, fun i e1 e2 => a3 i (by omega) e2⟩
    by_cases e : i = N
    · subst e
      have := a3 i (by omega) (by omega)
      exact ⟨by rw [ex 38 i (by decide) (by decide), this]; simp [addR, gI_sI], Or.inl this⟩
    · obtain ⟨b1, b2⟩ := a2 i (by omega)
      exact ⟨by rw [ex 38 i (by decide) (by decide), b1]; simp [addR, gI_sI, e], b2.mono (by omega)⟩
  · intro s hs
    have h := h8 s hs
    rw [ex _ _ (by omega) (by omega), ex _ _ (by omega) (by omega), ex _ _ (by omega) (by omega)]
    exact h
  · exact h9.at rfl (fun k => ⟨rfl, rfl, rfl, rfl⟩) rfl rfl (fun k => ⟨rfl, rfl, rfl, rfl⟩)
theorem al0 (n : Nat) (v : Int32) (σ : St) : F_X6_allows n 0 v σ = some (if 0 ≤ v.toInt ∧ v.toInt ≤ 9 then 1 else 0, σ) := allows6 n 0 (by decide) v σ
theorem al1 (n : Nat) (v : Int32) (σ : St) : F_X6_allows n 1 v σ = some (if 0 ≤ v.toInt ∧ v.toInt ≤ 9 then 1 else 0, σ) := allows6 n 1 (by decide) v σ
theorem al2 (n : Nat) (v : Int32) (σ : St) : F_X6_allows n 2 v σ = some (if 0 ≤ v.toInt ∧ v.toInt ≤ 6 then 1 else 0, σ) := allows6 n 2 (by decide) v σ
theorem nI7 {N : Nat} (h : N ≤ 7) : nI N = 7 ↔ N = 7 := by rw [i_eq, i_n (by omega), t7]; omega
theorem b_person (p1 p2 : Int32) : MStp Inv (fun n σ => F_X11_person n p1 p2 σ) (fun n τ => F_X12_person n p1 p2 τ) := mstp_of (fun σ τ hI => by
  obtain ⟨N, B, h1, h2, h3, h4, h5, h6, h7, h8, h9⟩ := id hI
  obtain ⟨a1, a2, a3, a4⟩ := id h1
  by_cases c1 : 0 ≤ p1.toInt ∧ p1.toInt ≤ 9
  · by_cases c2 : 0 ≤ p2.toInt ∧ p2.toInt ≤ 9
    · by_cases c3 : N < 7
      · refine ⟨nI N, _, _, Ev.const (fun n => ?_), Ev.const (fun n => ?_), N + 1, B, addInv (a := p1) (b := p2) (c := nI N) c3 h1 h2 h3 h4 h5 h6 h7 h8 h9⟩
        · simp only [F_X11_person, F_X6_welcome, al0, al1, full6 a2 a1, bd_some, if_pos c1, if_pos c2, if_pos c3, a2, add6 a2 c3]
          rfl
        · simp only [F_X12_person, in12, bd_some, t0, t9, if_pos c1, if_pos c2, a3, nI7 a1, if_neg (show ¬ N = 7 by omega), add12 a3 c3]
          rfl
      · refine ⟨-3, σ, τ, Ev.const (fun n => ?_), Ev.const (fun n => ?_), hI⟩
        · simp only [F_X11_person, al0, al1, full6 a2 a1, bd_some, if_pos c1, if_pos c2, if_neg c3]
          rfl
        · simp only [F_X12_person, in12, bd_some, t0, t9, if_pos c1, if_pos c2, a3, nI7 a1, if_pos (show N = 7 by omega)]
          rfl
    · refine ⟨-1, σ, τ, Ev.const (fun n => ?_), Ev.const (fun n => ?_), hI⟩
      · simp only [F_X11_person, al0, al1, bd_some, if_pos c1, if_neg c2]
        rfl
      · simp only [F_X12_person, in12, bd_some, t0, t9, if_pos c1, if_neg c2]
        rfl
  · refine ⟨-1, σ, τ, Ev.const (fun n => ?_), Ev.const (fun n => ?_), hI⟩
    · simp only [F_X11_person, al0, bd_some, if_neg c1]
      rfl
    · simp only [F_X12_person, in12, bd_some, t0, t9, if_neg c1]
      rfl)
theorem b_led (p1 : Int32) : MStp Inv (fun n σ => F_X11_led n p1 σ) (fun n τ => F_X12_led n p1 τ) := mstp_of (fun σ τ hI => by
  obtain ⟨N, B, h1, h2, h3, h4, h5, h6, h7, h8, h9⟩ := id hI
  by_cases c1 : 0 ≤ p1.toInt ∧ p1.toInt < 5
  · obtain ⟨k, hk, rfl⟩ := i_natlt (n := 5) c1.1 c1.2
    refine ⟨gI σ 1 k, σ, τ, Ev.const (fun n => ?_), Ev.const (fun n => ?_), hI⟩
    · simp (disch := omega) only [F_X11_led, i_lt, t0, t5, i_n, if_neg (show ¬ (k : Int) < 0 by omega), if_pos (show (k : Int) < 5 by omega), gd_eq (nIin hk (by decide)), nIc]
    · simp (disch := omega) only [F_X12_led, in12, bd_some, t0, t4, i_n, if_pos (show (0 : Int) ≤ k ∧ (k : Int) ≤ 4 by omega), gd_eq (nIin hk (by decide)), nIc, h5 k hk]
      rfl
  · refine ⟨-1, σ, τ, Ev.const (fun n => ?_), Ev.const (fun n => ?_), hI⟩
    · simp only [F_X11_led, i_lt, t0, t5]
      split
      · rfl
      · rw [if_neg (by omega)]
    · simp only [F_X12_led, in12, bd_some, t0, t4, if_neg (show ¬ (0 ≤ p1.toInt ∧ p1.toInt ≤ 4) by omega)]
      rfl)

