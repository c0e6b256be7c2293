/-! the law read: states, bytes, steps -/
def sb (c : Nat) : Int32 := (nI c).toInt8.toInt32
theorem sb_i : ∀ c, c < 256 → (sb c).toInt = if c < 128 then (c : Int) else (c : Int) - 256 := by decide +kernel
theorem sb_eq {c q : Nat} (hc : c < 256) (hq : q < 128) : sb c = nI q ↔ c = q := by
  rw [i_eq, sb_i c hc, i_n (by omega)]
  split <;> omega
theorem sb_lo {c : Nat} (hc : c < 128) : sb c = nI c := (sb_eq (by omega) hc).mpr rfl
theorem ite_some {α β : Type} {P : Prop} [Decidable P] (a b : α) (t : β) : (if P then some (a, t) else some (b, t)) = some (if P then a else b, t) := by split <;> rfl
def tgI (x : Int32) : Int32 := if x = (37 : Int32) then 4 else if x = (38 : Int32) then 1 else if x = (42 : Int32) then 4 else if x = (43 : Int32) then 3 else if x = (45 : Int32) then 3 else if x = (47 : Int32) then 4 else if x = (60 : Int32) then 2 else if x = (61 : Int32) then 2 else if x = (62 : Int32) then 2 else if x = (124 : Int32) then 0 else -1
theorem tgX8 (n : Nat) (x : Int32) (σ : St) : F_X8_tightnessOf n x σ = some (tgI x, σ) := by
  unfold F_X8_tightnessOf tgI
  simp only [ite_some]
def sgT (t c : Nat) : Bool := if t = 0 then c == 124 else if t = 1 then c == 38 else if t = 2 then (c == 60 || c == 61 || c == 62) else if t = 3 then (c == 43 || c == 45) else (c == 42 || c == 47 || c == 37)
theorem tg_sg : ∀ t, t < 5 → ∀ c, c < 256 → (tgI (nI c) = nI t ↔ sgT t c = true) := by decide +kernel
theorem tg_dg : ∀ c, c < 256 → 48 ≤ c → c ≤ 57 → tgI (nI c) = -1 := by decide +kernel
theorem sg_mem : ∀ t, t < 5 → ∀ c, c < 256 → sgT t c = true → sb c ∈ sgns ∧ c < 128 ∧ ¬ (48 ≤ c ∧ c ≤ 57) := by decide +kernel
def nmI (x : Int32) : Int32 := if x = (97 : Int32) then 0 else if x = (98 : Int32) then 4 else if x = (99 : Int32) then -1 else if x = (100 : Int32) then 1 else if x = (101 : Int32) then -1 else if x = (102 : Int32) then -1 else if x = (103 : Int32) then -1 else if x = (104 : Int32) then 3 else if x = (105 : Int32) then -1 else if x = (106 : Int32) then -1 else if x = (107 : Int32) then -1 else if x = (108 : Int32) then -1 else if x = (109 : Int32) then -1 else if x = (110 : Int32) then 5 else if x = (111 : Int32) then 2 else -1
theorem nm12 (n : Nat) (x : Int32) (τ : St) : F_X12_nameOf n x τ = some (nmI x, τ) := by
  unfold F_X12_nameOf nmI
  simp only [ite_some]
theorem ix_nm : ∀ c, c < 256 → ixL (nI c) = nmI (sb c) := by decide +kernel
theorem nm_cs : ∀ c, c < 256 → nmI (sb c) = -1 ∨ (nmI (sb c) = nI 0 ∨ nmI (sb c) = nI 1 ∨ nmI (sb c) = nI 2 ∨ nmI (sb c) = nI 3 ∨ nmI (sb c) = nI 4 ∨ nmI (sb c) = nI 5) := by decide +kernel
theorem nm_i {c : Nat} (hc : c < 256) (h : ¬ nmI (sb c) = -1) : ∃ i, i < 6 ∧ nmI (sb c) = nI i := by
  rcases (nm_cs c hc).resolve_left h with e | e | e | e | e | e
  · exact ⟨0, by decide, e⟩
  · exact ⟨1, by decide, e⟩
  · exact ⟨2, by decide, e⟩
  · exact ⟨3, by decide, e⟩
  · exact ⟨4, by decide, e⟩
  · exact ⟨5, by decide, e⟩
theorem nm_no : ∀ c, c < 256 → (48 ≤ c ∧ c ≤ 57) ∨ c = 40 ∨ c = 33 ∨ c = 45 → nmI (sb c) = -1 := by decide +kernel
theorem nm_m1 : nmI (-1) = -1 := by decide
theorem byt : ∀ c, c < 256 → vp_nar .byte ((sb c).toInt8.toInt32) = sb c := by decide +kernel
theorem byt1 : ∀ q, q < 5 → vp_nar .byte ((nI q).toInt8.toInt32) = nI q := by decide
theorem chr1 : ∀ c, c < 256 → vp_nar .char (nI c) = nI c ∧ fits .char (.int (nI c)) = true := by decide +kernel
/-- the class's reader at a place, with so many steps -/
def XS (v : Nat → Nat) (T h k : Nat) (σ : St) : Prop := T ≤ 120 ∧ h ≤ T ∧ k ≤ 242 ∧ gI σ 9 1 = nI T ∧ (∀ q, q < T → v q < 256 ∧ gI σ 10 q = nI (v q)) ∧ gI σ 9 2 = nI h ∧ gI σ 32 4 = nI k ∧ ∀ i, i < 242 → fits .char (.int (gI σ 33 i)) = true
def RT (v : Nat → Nat) (T h j : Nat) (τ : St) : Prop := gI τ 0 13 = nI T ∧ (∀ q, q < T → gI τ 9 q = sb (v q)) ∧ gI τ 0 14 = nI h ∧ gI τ 0 17 = nI j
def RS (v : Nat → Nat) (T h o j : Nat) (τ : St) : Prop := RT v T h j τ ∧ gI τ 0 15 = -1 ∧ gI τ 0 16 = nI o
def RB (v : Nat → Nat) (T h j : Nat) (τ : St) : Prop := RT v T h j τ ∧ gI τ 0 15 = nI h
def XB (v : Nat → Nat) (T h : Nat) (σ : St) : Prop := ∃ k, XS v T h k σ
def KX (k : Nat) (σ σ' : St) : Prop := (∀ c q, c ≠ 9 → (c < 32 ∨ 36 < c) → gI σ' c q = gI σ c q) ∧ (∀ c q, 33 ≤ c → c ≤ 36 → q < k → gI σ' c q = gI σ c q) ∧ ∀ c q, gL σ' c q = gL σ c q
def KR (j : Nat) (τ τ' : St) : Prop := (∀ c q, c ≠ 0 → c ≠ 10 → c ≠ 11 → gI τ' c q = gI τ c q) ∧ (∀ q, q < 14 ∨ 17 < q → gI τ' 0 q = gI τ 0 q) ∧ (∀ q, q < 130 + j → gI τ' 10 q = gI τ 10 q ∧ gI τ' 11 q = gI τ 11 q) ∧ ∀ c q, gL τ' c q = gL τ c q
theorem KX.rf (k : Nat) (σ : St) : KX k σ σ := ⟨fun _ _ _ _ => rfl, fun _ _ _ _ _ => rfl, fun _ _ => rfl⟩
theorem KR.rf (j : Nat) (τ : St) : KR j τ τ := ⟨fun _ _ _ _ _ => rfl, fun _ _ => rfl, fun _ _ => ⟨rfl, rfl⟩, fun _ _ => rfl⟩
theorem KX.tr {k k' : Nat} {a b c : St} (h : KX k a b) (h2 : KX k' b c) (hk : k ≤ k') : KX k a c := ⟨fun x q x1 x2 => (h2.1 x q x1 x2).trans (h.1 x q x1 x2), fun x q x1 x2 x3 => (h2.2.1 x q x1 x2 (by omega)).trans (h.2.1 x q x1 x2 x3), fun x q => (h2.2.2 x q).trans (h.2.2 x q)⟩
theorem KR.tr {k k' : Nat} {a b c : St} (h : KR k a b) (h2 : KR k' b c) (hk : k ≤ k') : KR k a c := ⟨fun x q x1 x2 x3 => (h2.1 x q x1 x2 x3).trans (h.1 x q x1 x2 x3), fun q hq => (h2.2.1 q hq).trans (h.2.1 q hq), fun q hq => ⟨(h2.2.2.1 q (by omega)).1.trans (h.2.2.1 q hq).1, (h2.2.2.1 q (by omega)).2.trans (h.2.2.1 q hq).2⟩, fun x q => (h2.2.2.2 x q).trans (h.2.2.2 x q)⟩
theorem KX.lo {k k' : Nat} {a b : St} (h : KX k a b) (hk : k' ≤ k) : KX k' a b := ⟨h.1, fun c q c1 c2 c3 => h.2.1 c q c1 c2 (by omega), h.2.2⟩
theorem KR.lo {k k' : Nat} {a b : St} (h : KR k a b) (hk : k' ≤ k) : KR k' a b := ⟨h.1, h.2.1, fun q hq => h.2.2.1 q (by omega), h.2.2.2⟩
theorem KX.s9 (k : Nat) (σ : St) (x : Int32) : KX k σ (sI σ 9 2 x) := ⟨fun c q c1 c2 => by rw [gI_sI, if_neg c1], fun c q c1 c2 c3 => by rw [gI_sI, if_neg (by omega)], fun _ _ => rfl⟩
theorem KR.s0 (j : Nat) (τ : St) {q0 : Nat} (h1 : 14 ≤ q0) (h2 : q0 ≤ 17) (x : Int32) : KR j τ (sI τ 0 q0 x) := ⟨fun c q c1 c2 c3 => by rw [gI_sI, if_neg c1], fun q hq => by rw [gI_sI, if_pos rfl, if_neg (by omega)], fun q hq => ⟨rfl, rfl⟩, fun _ _ => rfl⟩
theorem XS.to {v : Nat → Nat} {T h k h' : Nat} {σ : St} (s : XS v T h k σ) (hh : h' ≤ T) : XS v T h' k (sI σ 9 2 (nI h')) := ⟨s.1, hh, s.2.2.1, s.2.2.2.1, s.2.2.2.2.1, rfl, s.2.2.2.2.2.2.1, s.2.2.2.2.2.2.2⟩
theorem RT.to {v : Nat → Nat} {T h j h' : Nat} {τ : St} (s : RT v T h j τ) : RT v T h' j (sI τ 0 14 (nI h')) := ⟨s.1, s.2.1, rfl, s.2.2.2⟩
theorem RS.to {v : Nat → Nat} {T h o j h' : Nat} {τ : St} (s : RS v T h o j τ) : RS v T h' o j (sI τ 0 14 (nI h')) := ⟨s.1.to, s.2.1, s.2.2⟩
def apX (σ : St) (k : Nat) (p1 p2 p3 p4 : Int32) : St := sI (sI (sI (sI (sI σ 33 k p1) 34 k p2) 35 k p3) 36 k p4) 32 4 (nI (k + 1))
theorem ap7 {σ : St} {k : Nat} (h : gI σ 32 4 = nI k) (hk : k < 242) {p1 : Int32} (hp : vp_nar .char p1 = p1) (n : Nat) (p2 p3 p4 : Int32) : F_X7_append n 32 p1 p2 p3 p4 σ = some (nI k, apX σ k p1 p2 p3 p4) := by
  unfold F_X7_append
  have vk : vp_in (nI k) 242 := nIin hk (by decide)
  rw [h, if_pos (by rw [i_lt, i_n (by omega)]; show (k : Int) < 242; omega), gd_eq vk, nIc (by omega), hp, bnd_eq]
  rw [show gI (sI σ (32 + 1) k p1) 32 4 = nI k from h, gd_eq vk, nIc (by omega), bnd_eq]
  rw [show gI (sI (sI σ (32 + 1) k p1) (32 + 2) k p2) 32 4 = nI k from h, gd_eq vk, nIc (by omega), bnd_eq]
  rw [show gI (sI (sI (sI σ (32 + 1) k p1) (32 + 2) k p2) (32 + 3) k p3) 32 4 = nI k from h, gd_eq vk, nIc (by omega), bnd_eq]
  rw [show gI (sI (sI (sI (sI σ (32 + 1) k p1) (32 + 2) k p2) (32 + 3) k p3) (32 + 4) k p4) 32 4 = nI k from h, bnd_eq, n_a1, gI_sI, if_pos rfl, if_pos rfl, n_s1]
  rfl
theorem apX_33 (σ : St) (k : Nat) (p1 p2 p3 p4 : Int32) (q : Nat) : gI (apX σ k p1 p2 p3 p4) 33 q = if q = k then p1 else gI σ 33 q := rfl
theorem apX_34 (σ : St) (k : Nat) (p1 p2 p3 p4 : Int32) (q : Nat) : gI (apX σ k p1 p2 p3 p4) 34 q = if q = k then p2 else gI σ 34 q := rfl
theorem apX_35 (σ : St) (k : Nat) (p1 p2 p3 p4 : Int32) (q : Nat) : gI (apX σ k p1 p2 p3 p4) 35 q = if q = k then p3 else gI σ 35 q := rfl
theorem apX_36 (σ : St) (k : Nat) (p1 p2 p3 p4 : Int32) (q : Nat) : gI (apX σ k p1 p2 p3 p4) 36 q = if q = k then p4 else gI σ 36 q := rfl
theorem apX_k (σ : St) (k : Nat) (p1 p2 p3 p4 : Int32) : KX k σ (apX σ k p1 p2 p3 p4) := by
  refine ⟨fun c q c1 c2 => ?_, fun c q c1 c2 c3 => ?_, fun _ _ => rfl⟩
  · unfold apX
    rw [gI_sI, if_neg (by omega), gI_sI, if_neg (by omega), gI_sI, if_neg (by omega), gI_sI, if_neg (by omega), gI_sI, if_neg (by omega)]
  · rcases (show c = 33 ∨ c = 34 ∨ c = 35 ∨ c = 36 by omega) with e | e | e | e
    · subst e; rw [apX_33, if_neg (by omega)]
    · subst e; rw [apX_34, if_neg (by omega)]
    · subst e; rw [apX_35, if_neg (by omega)]
    · subst e; rw [apX_36, if_neg (by omega)]
theorem XS.ap {v : Nat → Nat} {T h k : Nat} {σ : St} (s : XS v T h k σ) (hk : k < 242) {p1 : Int32} (hp : fits .char (.int p1) = true) (p2 p3 p4 : Int32) : XS v T h (k + 1) (apX σ k p1 p2 p3 p4) := ⟨s.1, s.2.1, by omega, s.2.2.2.1, s.2.2.2.2.1, s.2.2.2.2.2.1, rfl, fun i hi => by
  rw [apX_33]
  split
  · exact hp
  · exact s.2.2.2.2.2.2.2 i hi⟩
theorem add7 {σ : St} {k a b : Nat} (h : gI σ 32 4 = nI k) (hk : k < 242) (ha : a < k) (hb : b < k) {p1 : Int32} (hp : vp_nar .char p1 = p1) (n : Nat) : F_X7_add n 32 p1 (nI a) (nI b) σ = some (nI k, apX σ k p1 (nI a) (nI b) 0) := by
  unfold F_X7_add
  rw [h, if_neg (by rw [i_lt, i_n (by omega), t0]; omega), if_neg (by rw [i_le, i_n (by omega), i_n (by omega)]; omega), if_neg (by rw [i_lt, i_n (by omega), t0]; omega), if_pos (by rw [i_lt, i_n (by omega), i_n (by omega)]; omega), ap7 h hk hp, bd_some]
/-- a step that is laid where nothing counts any more -/
theorem addB {v : Nat → Nat} {T h : Nat} {σ : St} (s : XB v T h σ) {c : Nat} (hc : c < 256) (x y : Int32) : ∃ p σ', (∀ n, F_X7_add n 32 (nI c) x y σ = some (p, σ')) ∧ XB v T h σ' ∧ KX 0 σ σ' := by
  obtain ⟨k, s⟩ := s
  obtain ⟨c1, c2⟩ := chr1 c hc
  have key : (∀ n, F_X7_add n 32 (nI c) x y σ = some (-1, σ)) ∨ ∀ n, F_X7_add n 32 (nI c) x y σ = F_X7_append n 32 (nI c) x y 0 σ := by
    by_cases d1 : x < 0
    · exact Or.inl (fun n => by unfold F_X7_add; rw [if_pos d1])
    · by_cases d2 : gI σ 32 4 ≤ x
      · exact Or.inl (fun n => by unfold F_X7_add; rw [if_neg d1, if_pos d2])
      · by_cases d3 : y < 0
        · exact Or.inl (fun n => by unfold F_X7_add; rw [if_neg d1, if_neg d2, if_pos d3])
        · by_cases d4 : y < gI σ 32 4
          · exact Or.inr (fun n => by unfold F_X7_add; rw [if_neg d1, if_neg d2, if_neg d3, if_pos d4, bd_id])
          · exact Or.inl (fun n => by unfold F_X7_add; rw [if_neg d1, if_neg d2, if_neg d3, if_neg d4])
  rcases key with e | e
  · exact ⟨-1, σ, e, ⟨k, s⟩, KX.rf 0 σ⟩
  · by_cases hk : k < 242
    · exact ⟨nI k, _, fun n => by rw [e, ap7 s.2.2.2.2.2.2.1 hk c1], ⟨k + 1, s.ap hk c2 _ _ _⟩, (apX_k σ k _ _ _ _).lo (by omega)⟩
    · refine ⟨-1, σ, fun n => ?_, ⟨k, s⟩, KX.rf 0 σ⟩
      have := s.2.2.1
      rw [e]
      unfold F_X7_append
      rw [s.2.2.2.2.2.2.1, if_neg (by rw [i_lt, i_n (by omega)]; show ¬ (k : Int) < 242; omega)]
def asR (τ : St) (j : Nat) (a w : Int32) : St := sI (sI (sI τ 10 (130 + j) a) 11 (130 + j) w) 0 17 (nI (j + 1))
theorem as12 {τ : St} {j : Nat} (h : gI τ 0 17 = nI j) (hj : j < 130) {p a : Int32} (hp : vp_nar .byte (p.toInt8.toInt32) = a) (n : Nat) (w : Int32) : F_X12_addStep n p w τ = some ((), asR τ j a w) := by
  unfold F_X12_addStep
  have e : (130 : Int32) + nI j = nI (130 + j) := nI_add 130 j
  have vk : vp_in (nI (130 + j)) 260 := nIin (by omega) (by decide)
  rw [h, e, gd_eq vk, nIc (by omega), hp, bnd_eq]
  rw [show gI (sI τ 10 (130 + j) a) 0 17 = nI j from h, e, gd_eq vk, nIc (by omega), bnd_eq]
  rw [show gI (sI (sI τ 10 (130 + j) a) 11 (130 + j) w) 0 17 = nI j from h, n_a1, bnd_eq]
  rfl
theorem asR_10 (τ : St) (j : Nat) (a w : Int32) (q : Nat) : gI (asR τ j a w) 10 q = if q = 130 + j then a else gI τ 10 q := rfl
theorem asR_11 (τ : St) (j : Nat) (a w : Int32) (q : Nat) : gI (asR τ j a w) 11 q = if q = 130 + j then w else gI τ 11 q := rfl
theorem asR_k (τ : St) (j : Nat) (a w : Int32) : KR j τ (asR τ j a w) := by
  refine ⟨fun c q c1 c2 c3 => ?_, fun q hq => ?_, fun q hq => ⟨?_, ?_⟩, fun _ _ => rfl⟩
  · unfold asR
    rw [gI_sI, if_neg c1, gI_sI, if_neg c3, gI_sI, if_neg c2]
  · unfold asR
    rw [gI_sI, if_pos rfl, if_neg (by omega)]
    rfl
  · rw [asR_10, if_neg (by omega)]
  · rw [asR_11, if_neg (by omega)]
theorem RT.as {v : Nat → Nat} {T h j : Nat} {τ : St} (s : RT v T h j τ) (a w : Int32) : RT v T h (j + 1) (asR τ j a w) := ⟨s.1, s.2.1, s.2.2.1, rfl⟩
theorem RS.as {v : Nat → Nat} {T h o j : Nat} {τ : St} (s : RS v T h o j τ) (a w : Int32) : RS v T h o (j + 1) (asR τ j a w) := ⟨s.1.as a w, s.2.1, s.2.2⟩
theorem RB.as {v : Nat → Nat} {T h j : Nat} {τ : St} (s : RB v T h j τ) (a w : Int32) : RB v T h (j + 1) (asR τ j a w) := ⟨s.1.as a w, s.2⟩
theorem wr12 {v : Nat → Nat} {T h o j : Nat} {τ : St} (s : RS v T h o j τ) (n : Nat) : F_X12_wrong n τ = some ((), sI τ 0 15 (nI h)) := by
  unfold F_X12_wrong
  rw [s.2.1, if_neg (by decide), s.1.2.2.1, bnd_eq]
theorem RS.wr {v : Nat → Nat} {T h o j : Nat} {τ : St} (s : RS v T h o j τ) : RB v T h j (sI τ 0 15 (nI h)) := ⟨⟨s.1.1, s.1.2.1, s.1.2.2.1, s.1.2.2.2⟩, rfl⟩
theorem look12 {v : Nat → Nat} {T h j : Nat} {τ : St} (s : RT v T h j τ) (hT : T ≤ 120) (hh : h < T) (n : Nat) : F_X12_look n τ = some (sb (v h), τ) := by
  unfold F_X12_look
  rw [s.1, s.2.2.1, if_neg (by rw [i_le, i_n (by omega), i_n (by omega)]; omega), gd_eq (nIin (by omega) (by decide)), nIc (by omega), s.2.1 h hh]
theorem lookE {v : Nat → Nat} {T h j : Nat} {τ : St} (s : RT v T h j τ) (hT : T ≤ 120) (hh : h = T) (n : Nat) : F_X12_look n τ = some (-1, τ) := by
  unfold F_X12_look
  rw [s.1, s.2.2.1, if_pos (by rw [hh, i_le]; omega)]
theorem tks8 {v : Nat → Nat} {T h k : Nat} {σ : St} (s : XS v T h k σ) {Q : Int32} {q : Nat} (hQ : Q = nI q) (hq : q < 256) (n : Nat) : F_X8_takes n Q σ = if h < T ∧ v h = q then some (1, sI σ 9 2 (nI (h + 1))) else some (0, σ) := by
  subst hQ
  obtain ⟨s1, s2, s3, s4, s5, s6, s7, s8⟩ := s
  unfold F_X8_takes
  rw [s4, s6]
  by_cases c : h < T
  · obtain ⟨c1, c2⟩ := s5 h c
    rw [if_neg (by rw [i_le, i_n (by omega), i_n (by omega)]; omega), gd_eq (nIin (by omega) (by decide)), nIc (by omega), c2]
    by_cases e : v h = q
    · rw [if_pos (by rw [e]), if_pos ⟨c, e⟩, n_a1, bnd_eq]
    · rw [if_neg (by rw [nI_inj (by omega) (by omega)]; exact e), if_neg (fun z => e z.2)]
  · rw [if_pos (by rw [i_le, i_n (by omega), i_n (by omega)]; omega), if_neg (fun z => c z.1)]
theorem dig8 (n : Nat) {c : Nat} (hc : c < 256) (σ : St) : F_X8_isDigit n (nI c) σ = some (if 48 ≤ c ∧ c ≤ 57 then 1 else 0, σ) := by
  unfold F_X8_isDigit
  simp only [i_lt, i_n (show c < 2147483648 by omega), t48, t57]
  by_cases e : 48 ≤ c ∧ c ≤ 57
  · rw [if_neg (by omega), if_neg (by omega), if_pos e]
  · rw [if_neg e]
    split
    · rfl
    · rw [if_pos (by omega)]
theorem in48 (n : Nat) {c : Nat} (hc : c < 256) (τ : St) : F_X12_in n (sb c) 48 57 τ = some (if 48 ≤ c ∧ c ≤ 57 then 1 else 0, τ) := by
  rw [in12, sb_i c hc, t48, t57]
  by_cases e : 48 ≤ c ∧ c ≤ 57
  · rw [if_pos e, if_pos (by rw [if_pos (by omega)]; omega)]
  · rw [if_neg e, if_neg (by split <;> omega)]
theorem inM1 (n : Nat) (τ : St) : F_X12_in n (-1) 48 57 τ = some (0, τ) := by
  rw [in12, if_neg (by decide)]
theorem sgn8 {v : Nat → Nat} {T h k : Nat} {σ : St} (s : XS v T h k σ) {t : Nat} (ht : t < 5) (n : Nat) : F_X8_isAtSign n (nI t) σ = some (if h < T ∧ sgT t (v h) = true then 1 else 0, σ) := by
  obtain ⟨s1, s2, s3, s4, s5, s6, s7, s8⟩ := s
  unfold F_X8_isAtSign
  rw [s4, s6]
  by_cases c : h < T
  · obtain ⟨c1, c2⟩ := s5 h c
    have k1 := tg_sg t ht (v h) c1
    rw [if_neg (by rw [i_le, i_n (by omega), i_n (by omega)]; omega), gd_eq (nIin (by omega) (by decide)), nIc (by omega), c2, tgX8, bd_some]
    by_cases e : sgT t (v h) = true
    · rw [if_pos (k1.mpr e), if_pos ⟨c, e⟩]
    · rw [if_neg (fun z => e (k1.mp z)), if_neg (fun z => e z.2)]
  · rw [if_pos (by rw [i_le, i_n (by omega), i_n (by omega)]; omega), if_neg (fun z => c z.1)]
/-! outcomes -/
def OG (v : Nat → Nat) (T o h j k : Nat) (σ τ : St) (h' n : Nat) (σ' τ' : St) : Prop := h < h' ∧ h' ≤ T ∧ 1 ≤ n ∧ n ≤ h' - h ∧ XS v T h' (k + n) σ' ∧ RS v T h' o (j + n) τ' ∧ KX k σ σ' ∧ KR j τ τ' ∧ ∀ s, Seg 32 130 σ' τ' n j k s ((k + n - 1) :: s)
def OB (v : Nat → Nat) (T h j : Nat) (σ τ : St) (h' j' : Nat) (p : Int32) (σ' τ' : St) : Prop := h ≤ h' ∧ h' ≤ T ∧ j' ≤ j + (h' - h) + 1 ∧ XB v T h' σ' ∧ RB v T h' j' τ' ∧ KX 0 σ σ' ∧ KR 0 τ τ' ∧ (p = -1 ∨ (h' < T ∧ 48 ≤ v h' ∧ v h' ≤ 57))
def OC (v : Nat → Nat) (T o h j k : Nat) (σ τ : St) (d : Nat) (FX : Nat → Nat → Option (Int32 × St)) (FR : Nat → Nat → Option (Unit × St)) : Prop :=
  (∃ (C0 h' n : Nat) (σ' τ' : St), OG v T o h j k σ τ h' n σ' τ' ∧ (∀ D m, d < D → C0 ≤ m → FX D m = some (nI (k + n - 1), σ')) ∧ ∀ D m, d < D → C0 ≤ m → FR D m = some ((), τ')) ∨
  (∃ (C0 h' j' : Nat) (p : Int32) (σ' τ' : St), OB v T h j σ τ h' j' p σ' τ' ∧ (∀ D m, d < D → C0 ≤ m → FX D m = some (p, σ')) ∧ ∀ D m, d < D → C0 ≤ m → FR D m = some ((), τ'))
theorem Seg.app {b ro : Nat} {σ τ : St} : ∀ {n1 n2 j k : Nat} {s s1 s2 : List Nat}, Seg b ro σ τ n1 j k s s1 → Seg b ro σ τ n2 (j + n1) (k + n1) s1 s2 → Seg b ro σ τ (n1 + n2) j k s s2
  | 0, n2, j, k, s, s1, s2, h1, h2 => by
    have e : s1 = s := h1
    subst e
    rw [Nat.zero_add]
    exact h2
  | n1 + 1, n2, j, k, s, s1, s2, ⟨q, a, c⟩, h2 => by
    rw [show n1 + 1 + n2 = (n1 + n2) + 1 by omega]
    exact ⟨q, a, c.app (by rw [show j + 1 + n1 = j + (n1 + 1) by omega, show k + 1 + n1 = k + (n1 + 1) by omega]; exact h2)⟩
theorem Seg.one {b ro : Nat} {σ τ : St} {j k : Nat} {s s1 : List Nat} (h : Tok b ro σ τ j k s s1) : Seg b ro σ τ 1 j k s s1 := ⟨s1, h, rfl⟩
/-- earlier steps stay -/
theorem Seg.kp {σ τ σ' τ' : St} {n j k : Nat} {s s' : List Nat} (h : Seg 32 130 σ τ n j k s s') {k' j' : Nat} (hx : KX k' σ σ') (hr : KR j' τ τ') (hk : k + n ≤ k') (hj : j + n ≤ j') : Seg 32 130 σ' τ' n j k s s' :=
  h.eq (fun i i1 i2 => ⟨hx.2.1 33 i (by omega) (by omega) (by omega), hx.2.1 34 i (by omega) (by omega) (by omega), hx.2.1 35 i (by omega) (by omega) (by omega), fun _ => hx.2.1 36 i (by omega) (by omega) (by omega)⟩) (fun i i1 i2 => ⟨(hr.2.2.1 (130 + i) (by omega)).1, (hr.2.2.1 (130 + i) (by omega)).2⟩)
