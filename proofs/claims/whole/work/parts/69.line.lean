/-! the law read: a line -/
theorem shr1 : ∀ j, j < 200 → vp_nar .short ((nI j).toInt16.toInt32) = nI j ∧ vp_nar .short (nI j) = nI j := by decide +kernel
theorem chr_59 : vp_nar .char (59 : Int32) = 59 ∧ fits .char (.int (59 : Int32)) = true := by decide
theorem chr_63 : vp_nar .char (63 : Int32) = 63 ∧ fits .char (.int (63 : Int32)) = true := by decide
section LINE
variable {v : Nat → Nat} {T : Nat}
/-- a line's frame in the reference -/
def KL (j l : Nat) (τ τ' : St) : Prop := (∀ c q, c ≠ 0 → c ≠ 10 → c ≠ 11 → c ≠ 12 → c ≠ 13 → c ≠ 14 → gI τ' c q = gI τ c q) ∧ (∀ q, q < 14 ∨ 17 < q → gI τ' 0 q = gI τ 0 q) ∧ (∀ q, q < 130 + j → gI τ' 10 q = gI τ 10 q ∧ gI τ' 11 q = gI τ 11 q) ∧ gI τ' 12 0 = gI τ 12 0 ∧ (∀ q, q < 61 + l → gI τ' 13 q = gI τ 13 q ∧ gI τ' 14 q = gI τ 14 q) ∧ ∀ c q, gL τ' c q = gL τ c q
theorem KL.tr {j l j' l' : Nat} {a b c : St} (h : KL j l a b) (h2 : KL j' l' b c) (hj : j ≤ j') (hl : l ≤ l') : KL j l a c := ⟨fun x q x1 x2 x3 x4 x5 x6 => (h2.1 x q x1 x2 x3 x4 x5 x6).trans (h.1 x q x1 x2 x3 x4 x5 x6), fun q hq => (h2.2.1 q hq).trans (h.2.1 q hq), fun q hq => ⟨(h2.2.2.1 q (by omega)).1.trans (h.2.2.1 q hq).1, (h2.2.2.1 q (by omega)).2.trans (h.2.2.1 q hq).2⟩, h2.2.2.2.1.trans h.2.2.2.1, fun q hq => ⟨(h2.2.2.2.2.1 q (by omega)).1.trans (h.2.2.2.2.1 q hq).1, (h2.2.2.2.2.1 q (by omega)).2.trans (h.2.2.2.2.1 q hq).2⟩, fun x q => (h2.2.2.2.2.2 x q).trans (h.2.2.2.2.2 x q)⟩
theorem KL.lo {j l j' l' : Nat} {a b : St} (h : KL j l a b) (hj : j' ≤ j) (hl : l' ≤ l) : KL j' l' a b := ⟨h.1, h.2.1, fun q hq => h.2.2.1 q (by omega), h.2.2.2.1, fun q hq => h.2.2.2.2.1 q (by omega), h.2.2.2.2.2⟩
theorem KR.kl {j : Nat} {a b : St} (h : KR j a b) (l : Nat) : KL j l a b := ⟨fun c q c1 c2 c3 _ _ _ => h.1 c q c1 c2 c3, h.2.1, h.2.2.1, h.1 12 0 (by decide) (by decide) (by decide), fun q _ => ⟨h.1 13 q (by decide) (by decide) (by decide), h.1 14 q (by decide) (by decide) (by decide)⟩, h.2.2.2⟩
theorem KL.s13 (j : Nat) {l q0 : Nat} (h : 61 + l ≤ q0) (τ : St) (x : Int32) : KL j l τ (sI τ 13 q0 x) := ⟨fun c q _ _ _ _ c5 _ => by rw [gI_sI, if_neg c5], fun _ _ => rfl, fun _ _ => ⟨rfl, rfl⟩, rfl, fun q hq => ⟨by rw [gI_sI, if_pos rfl, if_neg (by omega)], rfl⟩, fun _ _ => rfl⟩
theorem KL.s14 (j : Nat) {l q0 : Nat} (h : 61 + l ≤ q0) (τ : St) (x : Int32) : KL j l τ (sI τ 14 q0 x) := ⟨fun c q _ _ _ _ _ c5 => by rw [gI_sI, if_neg c5], fun _ _ => rfl, fun _ _ => ⟨rfl, rfl⟩, rfl, fun q hq => ⟨rfl, by rw [gI_sI, if_pos rfl, if_neg (by omega)]⟩, fun _ _ => rfl⟩
theorem KL.s12 (j l : Nat) (τ : St) (x : Int32) : KL j l τ (sI τ 12 1 x) := ⟨fun c q _ _ _ c5 _ _ => by rw [gI_sI, if_neg c5], fun _ _ => rfl, fun _ _ => ⟨rfl, rfl⟩, rfl, fun q hq => ⟨rfl, rfl⟩, fun _ _ => rfl⟩
theorem RT.o {h j : Nat} {τ : St} (s : RT v T h j τ) (c k : Nat) (x : Int32) (hc : c = 12 ∨ c = 13 ∨ c = 14) : RT v T h j (sI τ c k x) := by
  rcases hc with e | e | e
  · subst e; exact ⟨s.1, s.2.1, s.2.2.1, s.2.2.2⟩
  · subst e; exact ⟨s.1, s.2.1, s.2.2.1, s.2.2.2⟩
  · subst e; exact ⟨s.1, s.2.1, s.2.2.1, s.2.2.2⟩
theorem RS.o {h o j : Nat} {τ : St} (s : RS v T h o j τ) (c k : Nat) (x : Int32) (hc : c = 12 ∨ c = 13 ∨ c = 14) : RS v T h o j (sI τ c k x) := ⟨s.1.o c k x hc, by rcases hc with e | e | e <;> subst e <;> exact s.2.1, by rcases hc with e | e | e <;> subst e <;> exact s.2.2⟩
theorem RB.o {h j : Nat} {τ : St} (s : RB v T h j τ) (c k : Nat) (x : Int32) (hc : c = 12 ∨ c = 13 ∨ c = 14) : RB v T h j (sI τ c k x) := ⟨s.1.o c k x hc, by rcases hc with e | e | e <;> subst e <;> exact s.2⟩
/-- the end of a line in the reference -/
theorem lnR {l j : Nat} {τ : St} (hl : l ≤ 60) (hj : j < 200) (h12 : gI τ 12 1 = nI l) (h17 : gI τ 0 17 = nI j) (m : Nat) : L_X12_line (m + 1) 1 (nI (61 + l)) τ = some ((), sI (sI τ 14 (61 + l) (nI j)) 12 1 (nI (l + 1))) := by
  show B_X12_line_1 (L_X12_line m) m (nI (61 + l)) τ = _
  unfold B_X12_line_1
  have v1 : vp_in (1 : Int32) 2 := nIin (k := 1) (by decide) (by decide)
  have e1 : (1 : Int32).toNatClampNeg = 1 := rfl
  rw [gd_eq (nIin (by omega) (by decide)), nIc (by omega), h17, (shr1 j hj).1, bnd_eq, gd_eq v1, gd_eq v1, e1, show gI (sI τ 14 (61 + l) (nI j)) 12 1 = nI l from h12, n_a1, bnd_eq]
theorem aim7 {σ : St} {K p : Nat} (h : gI σ 32 4 = nI K) (hK : K < 242) (hp : p < K) (n : Nat) : F_X7_aimHere n 32 (nI p) σ = some ((), sI σ 35 p (nI K)) := by
  unfold F_X7_aimHere
  rw [h, if_neg (by rw [i_lt, i_n (by omega), t0]; omega), if_neg (by rw [i_le, i_n (by omega), i_n (by omega)]; omega), if_neg (by rw [i_le, i_n (by omega)]; show ¬ (242 : Int) ≤ K; omega), gd_eq (nIin (by omega) (by decide)), nIc (by omega), bnd_eq]
theorem aimM (n : Nat) (σ : St) : F_X7_aimHere n 32 (-1) σ = some ((), σ) := by
  unfold F_X7_aimHere
  rw [if_pos (by decide)]
theorem aimB {h : Nat} {σ : St} (s : XB v T h σ) (a : Int32) : ∃ σ', (∀ n, F_X7_aimHere n 32 a σ = some ((), σ')) ∧ XB v T h σ' ∧ KX 0 σ σ' := by
  obtain ⟨k, s⟩ := s
  have k2 := s.2.2.1
  by_cases d1 : a < 0
  · exact ⟨σ, fun n => by unfold F_X7_aimHere; rw [if_pos d1], ⟨k, s⟩, KX.rf 0 σ⟩
  · by_cases d2 : gI σ 32 4 ≤ a
    · exact ⟨σ, fun n => by unfold F_X7_aimHere; rw [if_neg d1, if_pos d2], ⟨k, s⟩, KX.rf 0 σ⟩
    · by_cases d3 : (242 : Int32) ≤ gI σ 32 4
      · exact ⟨σ, fun n => by unfold F_X7_aimHere; rw [if_neg d1, if_neg d2, if_pos d3], ⟨k, s⟩, KX.rf 0 σ⟩
      · rw [i_lt, t0] at d1
        rw [s.2.2.2.2.2.2.1, i_le, i_n (by omega)] at d2
        obtain ⟨p, hp, rfl⟩ := i_natlt (n := k) (x := a) (by omega) (by omega)
        rw [s.2.2.2.2.2.2.1, i_le, i_n (by omega)] at d3
        have d3' : ¬ (242 : Int) ≤ k := d3
        refine ⟨sI σ 35 p (nI k), fun n => aim7 s.2.2.2.2.2.2.1 (by omega) hp n, ⟨k, s.1, s.2.1, s.2.2.1, s.2.2.2.1, s.2.2.2.2.1, s.2.2.2.2.2.1, s.2.2.2.2.2.2.1, s.2.2.2.2.2.2.2⟩, fun c q c1 c2 => by rw [gI_sI, if_neg (by omega)], fun c q c1 c2 c3 => by omega, fun _ _ => rfl⟩
/-- the end of a line in the class -/
theorem lnXB {h : Nat} {σ : St} (s : XB v T h σ) (p a : Int32) : ∃ σ', (∀ m, L_X8_readLine (m + 1) 1 p a σ = some (if p = -1 then 0 else 1, σ')) ∧ XB v T h σ' ∧ KX 0 σ σ' := by
  have E : ∀ m, L_X8_readLine (m + 1) 1 p a σ = B_X8_readLine_1 (L_X8_readLine m) m p a σ := fun _ => rfl
  by_cases c : p = -1
  · refine ⟨σ, fun m => ?_, s, KX.rf 0 σ⟩
    rw [E]
    unfold B_X8_readLine_1
    rw [if_pos c, if_pos c]
  · obtain ⟨p', σ1, a1, a2, a3⟩ := addB s (c := 59) (by decide) p 0
    obtain ⟨σ2, b1, b2, b3⟩ := aimB a2 a
    refine ⟨σ2, fun m => ?_, b2, a3.tr b3 (Nat.le_refl _)⟩
    rw [E]
    unfold B_X8_readLine_1
    rw [if_neg c, if_neg c]
    refine Eq.trans (congrArg (fun z => bd z _) (a1 m)) ?_
    rw [bd_some, b1, bd_some]
def LG (v : Nat → Nat) (T h j k l : Nat) (σ τ : St) (h' j' k' : Nat) (σ' τ' : St) : Prop := h < h' ∧ h' ≤ T ∧ k < k' ∧ k' ≤ h' + 1 ∧ j < j' ∧ j' ≤ h' ∧ XS v T h' k' σ' ∧ RS v T h' 0 j' τ' ∧ KX k σ σ' ∧ KL j l τ τ' ∧ gI τ' 12 1 = nI (l + 1) ∧ Lin 32 130 61 σ' τ' l j k j' k'
def LB (v : Nat → Nat) (T h : Nat) (σ τ : St) (h' : Nat) (r : Int32) (σ' τ' : St) : Prop := h' ≤ T ∧ XB v T h' σ' ∧ gI τ' 0 15 = nI h' ∧ KX 0 σ σ' ∧ KL 0 0 τ τ' ∧ (r = 0 ∨ (r = 1 ∧ h' < T ∧ 48 ≤ v h' ∧ v h' ≤ 57))
theorem lineXR {h j k l : Nat} {σ τ : St} (hX : XS v T h k σ) (hR : RS v T h 0 j τ) (hk : k ≤ h) (hj : j ≤ h) (h12 : gI τ 12 1 = nI l) (hl : l ≤ 60) :
    (∃ (C0 h' j' k' : Nat) (σ' τ' : St), LG v T h j k l σ τ h' j' k' σ' τ' ∧ (∀ m, C0 ≤ m → F_X8_readLine m σ = some (1, σ')) ∧ ∀ m, C0 ≤ m → F_X12_line m τ = some ((), τ')) ∨
    (∃ (C0 h' : Nat) (r : Int32) (σ' τ' : St), LB v T h σ τ h' r σ' τ' ∧ (∀ m, C0 ≤ m → F_X8_readLine m σ = some (r, σ')) ∧ ∀ m, C0 ≤ m → F_X12_line m τ = some ((), τ')) := by
  obtain ⟨s1, s2, s3, s4, s5, s6, s7, s8⟩ := id hX
  have hE : PJ v T 0 0 := eXR s1 (fun q hq => (s5 q hq).1)
  have v1 : vp_in (1 : Int32) 2 := nIin (k := 1) (by decide) (by decide)
  have vx : vp_in (nI (61 + l)) 122 := nIin (by omega) (by decide)
  have preR : ∀ m, F_X12_line m τ = bd (F_X12_either 100 0 m (sI τ 13 (61 + l) (nI j))) fun _ s3 => if 0 ≤ (gI s3 0 15) then (L_X12_line  m 1 (nI (61 + l)) s3) else (bd (F_X12_look m  s3) fun r5 s4 => if r5 = (63 : Int32) then (bd (F_X12_either 100 0 m  (sI (sI s4 0 14 ((gI s4 0 14) + (1 : Int32))) 13 (61 + l) (vp_nar .short (((gI (sI s4 0 14 ((gI s4 0 14) + (1 : Int32))) 0 17)).toInt16.toInt32)))) fun _ s8 => L_X12_line  m 1 (nI (61 + l)) s8) else (L_X12_line  m 1 (nI (61 + l)) s4)) := fun m => by
    unfold F_X12_line
    rw [gd_eq v1, show (1 : Int32).toNatClampNeg = 1 from rfl, h12, show (61 : Int32) + nI l = nI (61 + l) from nI_add 61 l, bnd_eq, gd_eq vx, nIc (by omega), hR.1.2.2.2, (shr1 j (by omega)).1, bnd_eq]
    simp only [gd_eq vx, nIc (show 61 + l < 2147483648 by omega), bnd_eq]
  have hR0 : RS v T h 0 j (sI τ 13 (61 + l) (nI j)) := hR.o 13 _ _ (by omega)
  have h120 : gI (sI τ 13 (61 + l) (nI j)) 12 1 = nI l := h12
  have kl0 : ∀ q, KL q l τ (sI τ 13 (61 + l) (nI j)) := fun q => KL.s13 q (Nat.le_refl _) τ _
  rcases hE h j k σ _ hX hR0 hk hj with ⟨C0, h1, n1, σ1, τ1, ⟨g1, g2, g3, g4, g5, g6, g7, g8, g9⟩, f1, f2⟩ | ⟨C0, h1, j1, p, σ1, τ1, ⟨g1, g2, g3, g4, g5, g6, g7, g8⟩, f1, f2⟩
  · have nf : ¬ 0 ≤ gI τ1 0 15 := nflt g6
    have t12 : gI τ1 12 1 = nI l := (g8.1 12 1 (by decide) (by decide) (by decide)).trans h120
    by_cases cq : h1 < T ∧ v h1 = 63
    · -- with a test
      have hX2 : XS v T (h1 + 1) (k + n1) (sI σ1 9 2 (nI (h1 + 1))) := g5.to (by omega)
      have hX3 := hX2.ap (by omega) chr_63.2 (nI (k + n1 - 1)) 0 0
      have hR2 : RS v T (h1 + 1) 0 (j + n1) (sI (sI τ1 0 14 (nI (h1 + 1))) 13 (61 + l) (nI (j + n1))) := g6.to.o 13 _ _ (by omega)
      have kx2 : KX (k + n1) σ1 (apX (sI σ1 9 2 (nI (h1 + 1))) (k + n1) 63 (nI (k + n1 - 1)) 0 0) := (KX.s9 (k + n1) σ1 _).tr (apX_k _ (k + n1) _ _ _ _) (Nat.le_refl _)
      have kl2 : KL (j + n1) l τ1 (sI (sI τ1 0 14 (nI (h1 + 1))) 13 (61 + l) (nI (j + n1))) := ((KR.s0 (j + n1) τ1 (by omega) (by omega) _).kl l).tr (KL.s13 (j + n1) (Nat.le_refl _) _ _) (Nat.le_refl _) (Nat.le_refl _)
      have goX : ∀ m, C0 ≤ m → F_X8_readLine m σ = bd (F_X8_readJoined 100 0 m (nI 0) (nI 0) (apX (sI σ1 9 2 (nI (h1 + 1))) (k + n1) 63 (nI (k + n1 - 1)) 0 0)) fun r8 s7 => L_X8_readLine  m 1 r8 (nI (k + n1)) s7 := fun m hm => by
        unfold F_X8_readLine
        refine Eq.trans (congrArg (fun z => bd z _) (f1 100 m (by omega) hm)) ?_
        have e7 : F_X7_add m 32 63 (nI (k + n1 - 1)) 0 (sI σ1 9 2 (nI (h1 + 1))) = some (nI (k + n1), apX (sI σ1 9 2 (nI (h1 + 1))) (k + n1) 63 (nI (k + n1 - 1)) 0 0) := add7 (a := k + n1 - 1) (b := 0) hX2.2.2.2.2.2.2.1 (by omega) (by omega) (by omega) chr_63.1 m
        rw [bd_some, if_neg (nI_nm1 (by omega)), tks8 g5 (Q := 63) (q := 63) rfl (by decide), if_pos cq, bd_some, if_neg (by decide), e7, bd_some]
        rfl
      have goR : ∀ m, C0 ≤ m → F_X12_line m τ = bd (F_X12_either 100 0 m (sI (sI τ1 0 14 (nI (h1 + 1))) 13 (61 + l) (nI (j + n1)))) fun _ s8 => L_X12_line  m 1 (nI (61 + l)) s8 := fun m hm => by
        rw [preR]
        refine Eq.trans (congrArg (fun z => bd z _) (f2 100 m (by omega) hm)) ?_
        rw [bd_some, if_neg nf, look12 g6.1 s1 cq.1, bd_some, if_pos (by rw [cq.2]; decide), g6.1.2.2.1, n_a1, show gI (sI τ1 0 14 (nI (h1 + 1))) 0 17 = nI (j + n1) from g6.1.2.2.2, (shr1 (j + n1) (by omega)).1]
      rcases hE (h1 + 1) (j + n1) (k + n1 + 1) _ _ hX3 hR2 (by omega) (by omega) with ⟨C1, h2, n2, σ2, τ2, ⟨q1, q2, q3, q4, q5, q6, q7, q8, q9⟩, e1, e2⟩ | ⟨C1, h2, j2, p, σ2, τ2, ⟨q1, q2, q3, q4, q5, q6, q7, q8⟩, e1, e2⟩
      · have t122 : gI τ2 12 1 = nI l := (q8.1 12 1 (by decide) (by decide) (by decide)).trans t12
        have xs := q5.ap (by omega) chr_59.2 (nI (k + n1 + 1 + n2 - 1)) 0 0
        have kx3 : KX (k + n1 + 1) (apX (sI σ1 9 2 (nI (h1 + 1))) (k + n1) 63 (nI (k + n1 - 1)) 0 0) (apX σ2 (k + n1 + 1 + n2) 59 (nI (k + n1 + 1 + n2 - 1)) 0 0) := q7.tr (apX_k σ2 (k + n1 + 1 + n2) _ _ _ _) (by omega)
        refine Or.inl ⟨C0 + C1 + 2, h2, j + n1 + n2, k + n1 + 1 + n2 + 1, sI (apX σ2 (k + n1 + 1 + n2) 59 (nI (k + n1 + 1 + n2 - 1)) 0 0) 35 (k + n1) (nI (k + n1 + 1 + n2 + 1)), sI (sI τ2 14 (61 + l) (nI (j + n1 + n2))) 12 1 (nI (l + 1)), ⟨by omega, q2, by omega, by omega, by omega, by omega, ⟨xs.1, xs.2.1, xs.2.2.1, xs.2.2.2.1, xs.2.2.2.2.1, xs.2.2.2.2.2.1, xs.2.2.2.2.2.2.1, xs.2.2.2.2.2.2.2⟩, (q6.o 14 _ _ (by omega)).o 12 _ _ (by omega), ?_, ?_, rfl, ?_⟩, fun m hm => ?_, fun m hm => ?_⟩
        · refine ((g7.tr kx2 (by omega)).tr kx3 (by omega)).tr (k' := k) ⟨fun c q c1 c2 => by rw [gI_sI, if_neg (by omega)], fun c q c1 c2 c3 => ?_, fun _ _ => rfl⟩ (Nat.le_refl _)
          rw [gI_sI]
          by_cases e : c = 35
          · rw [if_pos e, if_neg (by omega)]
          · rw [if_neg e]
        · exact ((((((kl0 j).tr (g8.kl l) (Nat.le_refl _) (Nat.le_refl _)).tr kl2 (by omega) (Nat.le_refl _)).tr (q8.kl l) (by omega) (Nat.le_refl _)).tr (KL.s14 j (Nat.le_refl _) _ _) (Nat.le_refl _) (Nat.le_refl _)).tr (KL.s12 j l _ _) (Nat.le_refl _) (Nat.le_refl _))
        · -- the line as both hold it
          have A33 : ∀ q, q ≠ k + n1 → gI (sI (apX σ2 (k + n1 + 1 + n2) 59 (nI (k + n1 + 1 + n2 - 1)) 0 0) 35 (k + n1) (nI (k + n1 + 1 + n2 + 1))) 35 q = gI (apX σ2 (k + n1 + 1 + n2) 59 (nI (k + n1 + 1 + n2 - 1)) 0 0) 35 q := fun q hq => by rw [gI_sI, if_pos rfl, if_neg hq]
          refine ⟨j + n1, ?_, ?_, by omega, by omega, Or.inr ⟨by omega, k + n1 - 1, k + n1 + 1 + n2 - 1, ?_, ?_, ?_, ?_, ?_, ?_, ?_, ?_, ?_⟩⟩
          · show gI τ2 13 (61 + l) = _
            rw [q8.1 13 _ (by decide) (by decide) (by decide), gI_sI, if_pos rfl, if_pos rfl]
          · show gI (sI τ2 14 (61 + l) (nI (j + n1 + n2))) 14 (61 + l) = _
            rw [gI_sI, if_pos rfl, if_pos rfl]
          · rw [show j + n1 - j = n1 by omega]
            refine (g9 []).eq (fun i i1 i2 => ⟨?_, ?_, ?_, fun _ => ?_⟩) (fun i i1 i2 => ⟨?_, ?_⟩)
            · exact (kx3.2.1 33 i (by omega) (by omega) (by omega)).trans (kx2.2.1 33 i (by omega) (by omega) (by omega))
            · exact (kx3.2.1 34 i (by omega) (by omega) (by omega)).trans (kx2.2.1 34 i (by omega) (by omega) (by omega))
            · exact (A33 i (by omega)).trans ((kx3.2.1 35 i (by omega) (by omega) (by omega)).trans (kx2.2.1 35 i (by omega) (by omega) (by omega)))
            · exact (kx3.2.1 36 i (by omega) (by omega) (by omega)).trans (kx2.2.1 36 i (by omega) (by omega) (by omega))
            · exact (q8.2.2.1 (130 + i) (by omega)).1.trans rfl
            · exact (q8.2.2.1 (130 + i) (by omega)).2.trans rfl
          · rw [show k + (j + n1 - j) = k + n1 by omega]
            show gI (apX σ2 (k + n1 + 1 + n2) 59 (nI (k + n1 + 1 + n2 - 1)) 0 0) 33 (k + n1) = 63
            rw [kx3.2.1 33 (k + n1) (by omega) (by omega) (by omega), apX_33, if_pos rfl]
          · rw [show k + (j + n1 - j) = k + n1 by omega]
            show gI (apX σ2 (k + n1 + 1 + n2) 59 (nI (k + n1 + 1 + n2 - 1)) 0 0) 34 (k + n1) = _
            rw [kx3.2.1 34 (k + n1) (by omega) (by omega) (by omega), apX_34, if_pos rfl]
          · rw [show k + (j + n1 - j) = k + n1 by omega]
            show gI (sI (apX σ2 (k + n1 + 1 + n2) 59 (nI (k + n1 + 1 + n2 - 1)) 0 0) 35 (k + n1) (nI (k + n1 + 1 + n2 + 1))) 35 (k + n1) = _
            rw [gI_sI, if_pos rfl, if_pos rfl]
          · rw [show j + n1 + n2 - (j + n1) = n2 by omega, show k + (j + n1 - j) + 1 = k + n1 + 1 by omega]
            refine (q9 []).eq (fun i i1 i2 => ⟨?_, ?_, ?_, fun _ => ?_⟩) (fun i i1 i2 => ⟨rfl, rfl⟩)
            · exact (apX_k σ2 (k + n1 + 1 + n2) 59 (nI (k + n1 + 1 + n2 - 1)) 0 0).2.1 33 i (by omega) (by omega) (by omega)
            · exact (apX_k σ2 (k + n1 + 1 + n2) 59 (nI (k + n1 + 1 + n2 - 1)) 0 0).2.1 34 i (by omega) (by omega) (by omega)
            · exact (A33 i (by omega)).trans ((apX_k σ2 (k + n1 + 1 + n2) 59 (nI (k + n1 + 1 + n2 - 1)) 0 0).2.1 35 i (by omega) (by omega) (by omega))
            · exact (apX_k σ2 (k + n1 + 1 + n2) 59 (nI (k + n1 + 1 + n2 - 1)) 0 0).2.1 36 i (by omega) (by omega) (by omega)
          · rw [show k + (j + n1 - j) + 1 + (j + n1 + n2 - (j + n1)) = k + n1 + 1 + n2 by omega]
            show gI (apX σ2 (k + n1 + 1 + n2) 59 (nI (k + n1 + 1 + n2 - 1)) 0 0) 33 _ = 59
            rw [apX_33, if_pos rfl]
          · rw [show k + (j + n1 - j) + 1 + (j + n1 + n2 - (j + n1)) = k + n1 + 1 + n2 by omega]
            show gI (apX σ2 (k + n1 + 1 + n2) 59 (nI (k + n1 + 1 + n2 - 1)) 0 0) 34 _ = _
            rw [apX_34, if_pos rfl]
          · rw [show k + (j + n1 - j) + 1 + (j + n1 + n2 - (j + n1)) = k + n1 + 1 + n2 by omega]
            refine (A33 _ (by omega)).trans ?_
            rw [apX_35, if_pos rfl]
          · omega
        · refine (goX m (by omega)).trans ?_
          obtain ⟨m, rfl⟩ : ∃ q, m = q + 1 := ⟨m - 1, by omega⟩
          refine Eq.trans (congrArg (fun z => bd z _) (e1 100 (m + 1) (by omega) (by omega))) ?_
          rw [bd_some]
          show B_X8_readLine_1 (L_X8_readLine m) m (nI (k + n1 + 1 + n2 - 1)) (nI (k + n1)) σ2 = _
          unfold B_X8_readLine_1
          have e7 : F_X7_add m 32 59 (nI (k + n1 + 1 + n2 - 1)) 0 σ2 = some (nI (k + n1 + 1 + n2), apX σ2 (k + n1 + 1 + n2) 59 (nI (k + n1 + 1 + n2 - 1)) 0 0) := add7 (a := k + n1 + 1 + n2 - 1) (b := 0) q5.2.2.2.2.2.2.1 (by omega) (by omega) (by omega) chr_59.1 m
          rw [if_neg (nI_nm1 (by omega)), e7, bd_some, aim7 xs.2.2.2.2.2.2.1 (by omega) (by omega), bd_some]
        · refine (goR m (by omega)).trans ?_
          obtain ⟨m, rfl⟩ : ∃ q, m = q + 1 := ⟨m - 1, by omega⟩
          refine Eq.trans (congrArg (fun z => bd z _) (e2 100 (m + 1) (by omega) (by omega))) ?_
          rw [bd_some]
          exact lnR hl (by omega) t122 q6.1.2.2.2 m
      · obtain ⟨σ3, b1, b2, b3⟩ := lnXB q4 p (nI (k + n1))
        have t122 : gI τ2 12 1 = nI l := (q7.1 12 1 (by decide) (by decide) (by decide)).trans t12
        refine Or.inr ⟨C0 + C1 + 2, h2, if p = -1 then 0 else 1, σ3, sI (sI τ2 14 (61 + l) (nI j2)) 12 1 (nI (l + 1)), ⟨q2, b2, q5.2, ((((g7.lo (by omega)).tr (kx2.lo (by omega)) (Nat.le_refl _)).tr q6 (Nat.le_refl _)).tr b3 (Nat.le_refl _)), ?_, ?_⟩, fun m hm => ?_, fun m hm => ?_⟩
        · exact (((((((kl0 0).tr ((g8.kl l).lo (by omega) (Nat.le_refl _)) (Nat.le_refl _) (Nat.le_refl _)).tr (kl2.lo (by omega) (Nat.le_refl _)) (Nat.le_refl _) (Nat.le_refl _)).tr (q7.kl l) (Nat.le_refl _) (Nat.le_refl _)).tr (KL.s14 0 (Nat.le_refl _) _ _) (Nat.le_refl _) (Nat.le_refl _)).tr (KL.s12 0 l _ _) (Nat.le_refl _) (Nat.le_refl _))).lo (Nat.le_refl _) (by omega)
        · by_cases e : p = -1
          · exact Or.inl (if_pos e)
          · exact Or.inr ⟨if_neg e, q8.resolve_left e⟩
        · refine (goX m (by omega)).trans ?_
          obtain ⟨m, rfl⟩ : ∃ q, m = q + 1 := ⟨m - 1, by omega⟩
          refine Eq.trans (congrArg (fun z => bd z _) (e1 100 (m + 1) (by omega) (by omega))) ?_
          rw [bd_some]
          exact b1 m
        · refine (goR m (by omega)).trans ?_
          obtain ⟨m, rfl⟩ : ∃ q, m = q + 1 := ⟨m - 1, by omega⟩
          refine Eq.trans (congrArg (fun z => bd z _) (e2 100 (m + 1) (by omega) (by omega))) ?_
          rw [bd_some]
          exact lnR hl (by omega) t122 q5.1.2.2.2 m
    · -- without a test
      have xs := g5.ap (by omega) chr_59.2 (nI (k + n1 - 1)) 0 0
      obtain ⟨x, k1, k2⟩ := lookC s1 (fun q hq => (s5 q hq).1) g2 g6.1
      refine Or.inl ⟨C0 + 2, h1, j + n1, k + n1 + 1, apX σ1 (k + n1) 59 (nI (k + n1 - 1)) 0 0, sI (sI τ1 14 (61 + l) (nI (j + n1))) 12 1 (nI (l + 1)), ⟨g1, g2, by omega, by omega, by omega, by omega, xs, (g6.o 14 _ _ (by omega)).o 12 _ _ (by omega), g7.tr (apX_k σ1 (k + n1) _ _ _ _) (by omega), ((((kl0 j).tr (g8.kl l) (Nat.le_refl _) (Nat.le_refl _)).tr (KL.s14 j (Nat.le_refl _) _ _) (Nat.le_refl _) (Nat.le_refl _)).tr (KL.s12 j l _ _) (Nat.le_refl _) (Nat.le_refl _)), rfl, j, ?_, ?_, Nat.le_refl _, by omega, Or.inl ⟨rfl, k + n1 - 1, ?_, ?_, ?_, ?_, by omega⟩⟩, fun m hm => ?_, fun m hm => ?_⟩
      · show gI τ1 13 (61 + l) = _
        rw [g8.1 13 _ (by decide) (by decide) (by decide), gI_sI, if_pos rfl, if_pos rfl]
      · show gI (sI τ1 14 (61 + l) (nI (j + n1))) 14 (61 + l) = _
        rw [gI_sI, if_pos rfl, if_pos rfl]
      · rw [show j + n1 - j = n1 by omega]
        exact (g9 []).eq (fun i i1 i2 => ⟨(apX_k σ1 (k + n1) 59 (nI (k + n1 - 1)) 0 0).2.1 33 i (by omega) (by omega) (by omega), (apX_k σ1 (k + n1) 59 (nI (k + n1 - 1)) 0 0).2.1 34 i (by omega) (by omega) (by omega), (apX_k σ1 (k + n1) 59 (nI (k + n1 - 1)) 0 0).2.1 35 i (by omega) (by omega) (by omega), fun _ => (apX_k σ1 (k + n1) 59 (nI (k + n1 - 1)) 0 0).2.1 36 i (by omega) (by omega) (by omega)⟩) (fun i i1 i2 => ⟨rfl, rfl⟩)
      · rw [show k + (j + n1 - j) = k + n1 by omega]
        show gI (apX σ1 (k + n1) 59 (nI (k + n1 - 1)) 0 0) 33 _ = 59
        rw [apX_33, if_pos rfl]
      · rw [show k + (j + n1 - j) = k + n1 by omega]
        show gI (apX σ1 (k + n1) 59 (nI (k + n1 - 1)) 0 0) 34 _ = _
        rw [apX_34, if_pos rfl]
      · rw [show k + (j + n1 - j) = k + n1 by omega]
        show gI (apX σ1 (k + n1) 59 (nI (k + n1 - 1)) 0 0) 35 _ = _
        rw [apX_35, if_pos rfl]
      · unfold F_X8_readLine
        refine Eq.trans (congrArg (fun z => bd z _) (f1 100 m (by omega) (by omega))) ?_
        rw [bd_some, if_neg (nI_nm1 (by omega)), tks8 g5 (Q := 63) (q := 63) rfl (by decide), if_neg cq, bd_some, if_pos rfl]
        obtain ⟨m, rfl⟩ : ∃ q, m = q + 1 := ⟨m - 1, by omega⟩
        show B_X8_readLine_1 (L_X8_readLine m) m (nI (k + n1 - 1)) (-1) σ1 = _
        unfold B_X8_readLine_1
        have e7 : F_X7_add m 32 59 (nI (k + n1 - 1)) 0 σ1 = some (nI (k + n1), apX σ1 (k + n1) 59 (nI (k + n1 - 1)) 0 0) := add7 (a := k + n1 - 1) (b := 0) g5.2.2.2.2.2.2.1 (by omega) (by omega) (by omega) chr_59.1 m
        rw [if_neg (nI_nm1 (by omega)), e7, bd_some, aimM, bd_some]
      · rw [preR]
        refine Eq.trans (congrArg (fun z => bd z _) (f2 100 m (by omega) (by omega))) ?_
        rw [bd_some, if_neg nf, k1, bd_some, if_neg (show ¬ x = (63 : Int32) from fun e => cq ((k2 63 (by decide)).mp e))]
        obtain ⟨m, rfl⟩ : ∃ q, m = q + 1 := ⟨m - 1, by omega⟩
        exact lnR hl (by omega) t12 g6.1.2.2.2 m
  · -- a fault in the first
    obtain ⟨σ3, b1, b2, b3⟩ := lnXB g4 p (-1)
    have t12 : gI τ1 12 1 = nI l := (g7.1 12 1 (by decide) (by decide) (by decide)).trans h120
    refine Or.inr ⟨C0 + 2, h1, if p = -1 then 0 else 1, σ3, sI (sI τ1 14 (61 + l) (nI j1)) 12 1 (nI (l + 1)), ⟨g2, b2, g5.2, g6.tr b3 (Nat.le_refl _), ?_, ?_⟩, fun m hm => ?_, fun m hm => ?_⟩
    · exact (((((kl0 0).tr (g7.kl l) (Nat.le_refl _) (Nat.le_refl _)).tr (KL.s14 0 (Nat.le_refl _) _ _) (Nat.le_refl _) (Nat.le_refl _)).tr (KL.s12 0 l _ _) (Nat.le_refl _) (Nat.le_refl _))).lo (Nat.le_refl _) (by omega)
    · by_cases e : p = -1
      · exact Or.inl (if_pos e)
      · exact Or.inr ⟨if_neg e, g8.resolve_left e⟩
    · unfold F_X8_readLine
      refine Eq.trans (congrArg (fun z => bd z _) (f1 100 m (by omega) (by omega))) ?_
      obtain ⟨m, rfl⟩ : ∃ q, m = q + 1 := ⟨m - 1, by omega⟩
      rw [bd_some]
      by_cases e : p = -1
      · rw [if_pos e]
        exact b1 m
      · obtain ⟨k4, g4'⟩ := g4
        have z := g8.resolve_left e
        rw [if_neg e, tks8 g4' (Q := 63) (q := 63) rfl (by decide), if_neg (by omega), bd_some, if_pos rfl]
        exact b1 m
    · rw [preR]
      refine Eq.trans (congrArg (fun z => bd z _) (f2 100 m (by omega) (by omega))) ?_
      rw [bd_some, if_pos (flt (by omega) g5.2)]
      obtain ⟨m, rfl⟩ : ∃ q, m = q + 1 := ⟨m - 1, by omega⟩
      exact lnR hl (by omega) t12 g5.1.2.2.2 m
end LINE
