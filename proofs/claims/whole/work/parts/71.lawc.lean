/-! law -/
theorem restL {N B : Nat} {σ τ σ' τ' : St} (h1 : Pp N σ τ) (h2 : Pch N σ τ) (h3 : Pb N σ τ) (h4 : Pk N σ τ) (h5 : Pt σ τ) (h6 : Ptp σ' τ') (h7 : Pa B σ τ) (h8 : Psh B σ τ) (h9 : Plaw σ' τ') (x : ∀ c k, c < 9 ∨ (9 < c ∧ c < 27) ∨ 36 < c → gI σ' c k = gI σ c k) (xL : ∀ c k, gL σ' c k = gL σ c k) (r : ∀ c k, (1 ≤ c ∧ c < 10) ∨ 14 < c → gI τ' c k = gI τ c k) (r0 : ∀ k, k < 13 ∨ (17 < k ∧ k ≠ 25) → gI τ' 0 k = gI τ 0 k) (rL : ∀ c k, gL τ' c k = gL τ c k) : Inv σ' τ' :=
  ⟨N, B, h1.at (x 4 1 (by decide)) (fun k => x 5 k (by decide)) (r0 1 (by decide)) (fun k => ⟨r 1 k (by decide), r 2 k (by decide), r 3 k (by decide), r 4 k (by decide)⟩), h2.at (x 4 5 (by decide)) (x 4 6 (by decide)) (fun k => ⟨x 6 k (by decide), x 7 k (by decide), x 8 k (by decide)⟩) (r0 6 (by decide)) (r0 7 (by decide)) (fun k => ⟨r 5 k (by decide), r 6 k (by decide), r 7 k (by decide), r 8 k (by decide)⟩), h3.at (x 37 1 (by decide)) (fun k => x 38 k (by decide)) (r0 29 (by decide)) (fun k => r 18 k (by decide)), h4.at (x 0 8 (by decide)) (x 39 1 (by decide)) (fun k => ⟨x 40 k (by decide), x 2 k (by decide)⟩) (r0 46 (by decide)) (r0 47 (by decide)) (fun k => ⟨r 27 k (by decide), r 28 k (by decide)⟩), h5.at (fun k => x 1 k (by decide)) (fun k => r 26 k (by decide)), h6, h7.at (x 24 1 (by decide)) (x 24 3 (by decide)) (fun k => ⟨x 25 k (by decide), x 26 k (by decide)⟩) (r0 50 (by decide)) (r0 52 (by decide)) (fun k => ⟨r 29 k (by decide), r 30 k (by decide)⟩), h8.at (fun c k hc => ⟨x c k (by omega), xL c k⟩) (fun k => ⟨r 31 k (by decide), r 32 k (by decide), rL 33 k⟩), h9⟩
def cpL (S : St) (K : Int32) : St := sI (cI (cI (cI (cI S 33 28 0 0 242) 34 29 0 0 242) 35 30 0 0 242) 36 31 0 0 242) 27 4 K
theorem cp7 {S : St} (hf : ∀ i, i < 242 → fits .char (.int (gI S 33 i)) = true) (n : Nat) : F_X7_copyFrom n 27 32 S = some ((), cpL S (gI S 32 4)) := by
  unfold F_X7_copyFrom
  have e0 : (0 : Int32).toNatClampNeg = 0 := rfl
  have e2 : (242 : Int32).toNatClampNeg = 242 := by decide
  rw [e0, e2]
  rw [gd_eq ⟨by decide, by decide, by decide, by decide, by decide, fun i hi => by rw [Nat.zero_add]; exact hf i hi⟩, bnd_eq]
  rw [gd_eq ⟨by decide, by decide, by decide, by decide, by decide, fun i hi => fint _⟩, bnd_eq]
  rw [gd_eq ⟨by decide, by decide, by decide, by decide, by decide, fun i hi => fint _⟩, bnd_eq]
  rw [gd_eq ⟨by decide, by decide, by decide, by decide, by decide, fun i hi => fint _⟩, bnd_eq, bnd_eq]
  rfl
theorem cpL_o (S : St) (K : Int32) {c : Nat} (h : c < 27 ∨ 31 < c) (k : Nat) : gI (cpL S K) c k = gI S c k := by
  unfold cpL
  rw [gI_sI, if_neg (by omega), gI_cI, if_neg (by omega), gI_cI, if_neg (by omega), gI_cI, if_neg (by omega), gI_cI, if_neg (by omega)]
theorem cpL_28 (S : St) (K : Int32) {i : Nat} (hi : i < 242) : gI (cpL S K) 28 i = gI S 33 i := by
  show (if 0 ≤ i ∧ i < 0 + 242 then gI S 33 (0 + (i - 0)) else gI S 28 i) = _
  rw [if_pos (by omega), Nat.zero_add, Nat.sub_zero]
theorem cpL_29 (S : St) (K : Int32) {i : Nat} (hi : i < 242) : gI (cpL S K) 29 i = gI S 34 i := by
  show (if 0 ≤ i ∧ i < 0 + 242 then gI S 34 (0 + (i - 0)) else gI S 29 i) = _
  rw [if_pos (by omega), Nat.zero_add, Nat.sub_zero]
theorem cpL_30 (S : St) (K : Int32) {i : Nat} (hi : i < 242) : gI (cpL S K) 30 i = gI S 35 i := by
  show (if 0 ≤ i ∧ i < 0 + 242 then gI S 35 (0 + (i - 0)) else gI S 30 i) = _
  rw [if_pos (by omega), Nat.zero_add, Nat.sub_zero]
theorem cpL_31 (S : St) (K : Int32) {i : Nat} (hi : i < 242) : gI (cpL S K) 31 i = gI S 36 i := by
  show (if 0 ≤ i ∧ i < 0 + 242 then gI S 36 (0 + (i - 0)) else gI S 31 i) = _
  rw [if_pos (by omega), Nat.zero_add, Nat.sub_zero]
theorem b_law : MStp Inv (fun n σ => F_X11_law n σ) (fun n τ => F_X12_law n τ) := mstp_of (fun σ τ hI => by
  obtain ⟨N, B, h1, h2, h3, h4, h5, h6, h7, h8, h9⟩ := id hI
  obtain ⟨T, t1, t2, t3, t4, t5⟩ := h6
  let v : Nat → Nat := fun q => (gI σ 10 q).toInt.toNat
  have hv : ∀ q, q < T → v q < 256 ∧ gI σ 10 q = nI (v q) ∧ gI τ 9 q = sb (v q) := fun q hq => by
    obtain ⟨w, w1, w2, w3⟩ := t4 q hq
    have ew : v q = w := by
      show (gI σ 10 q).toInt.toNat = w
      rw [w2, tn_n (by omega)]
    rw [ew]
    exact ⟨w1, w2, w3⟩
  have hX : XS v T 0 0 (sI (sI σ 9 2 0) 32 4 0) := ⟨t1, by omega, by omega, t2, fun q hq => ⟨(hv q hq).1, (hv q hq).2.1⟩, rfl, rfl, t5⟩
  have hR : RS v T 0 0 0 (sI (sI (sI (sI (sI τ 0 14 0) 0 15 (-1)) 0 16 0) 0 17 0) 12 1 0) := ⟨⟨t3, fun q hq => (hv q hq).2.2, rfl, rfl⟩, rfl, rfl⟩
  have kx : KX 0 σ (sI (sI σ 9 2 0) 32 4 0) := ⟨fun c q c1 c2 => by rw [gI_sI, if_neg (by omega), gI_sI, if_neg c1], fun c q c1 c2 c3 => by omega, fun _ _ => rfl⟩
  have kl : KL 0 0 τ (sI (sI (sI (sI (sI τ 0 14 0) 0 15 (-1)) 0 16 0) 0 17 0) 12 1 0) := ((((((KR.s0 0 τ (by omega) (by omega) _).tr (KR.s0 0 _ (by omega) (by omega) _) (Nat.le_refl _)).tr (KR.s0 0 _ (by omega) (by omega) _) (Nat.le_refl _)).tr (KR.s0 0 _ (by omega) (by omega) _) (Nat.le_refl _)).kl 0).tr (KL.s12 0 0 _ _) (Nat.le_refl _) (Nat.le_refl _))
  have goX : ∀ n, F_X11_law n σ = bd (L_X8_readText n 1 (nI 0) (sI (sI σ 9 2 0) 32 4 0)) fun r4 s3 => bd (if r4 = 0 then (some ((gI (sI s3 9 1 0) 9 2), sI s3 9 1 0)) else (bd (F_X7_copyFrom n 27 32 (sI s3 9 1 0)) fun _ s6 => some ((-1 : Int32), s6))) fun r2 s1 => if 0 ≤ r2 then (some (((-100 : Int32) - r2), s1)) else (some ((1 : Int32), s1)) := fun n => by
    have ba : ∀ {α β γ : Type} (x : Option (α × St)) (k1 : α → St → Option (β × St)) (k2 : β → St → Option γ), bd (bd x k1) k2 = bd x fun a s => bd (k1 a s) k2 := fun x k1 k2 => by
      cases x with
      | none => rfl
      | some q => rfl
    unfold F_X11_law F_X8_readInto F_X7_clear F_X8_readText
    simp only [bnd_eq, bd_some, ba]
    rfl
  have goR : ∀ n, F_X12_law n τ = bd (bd (F_X12_line n (sI (sI (sI (sI (sI τ 0 14 0) 0 15 (-1)) 0 16 0) 0 17 0) 12 1 0)) fun _ s6 => L_X12_readText n 1 0 0 s6) fun r2 s1 => if r2 < 0 then (some ((1 : Int32), sI s1 0 25 1)) else (some (((-100 : Int32) - r2), s1)) := fun n => by
    unfold F_X12_law F_X12_readText
    simp only [bnd_eq, gd_eq (show vp_in (1 : Int32) 2 from nIin (k := 1) (by decide) (by decide))]
    rfl
  rcases textXR T 0 0 0 0 _ _ (by omega) hX hR (by omega) (by omega) (by omega) rfl ⟨rfl, rfl⟩ with ⟨C0, m, j', k', σ', τ1, τ', q1, q2, q3, q4, q5, q6, q7, q8, q9, q10, q11⟩ | ⟨C0, h', σ', τ', q0, q1, q2, q3, q4, q5⟩
  · -- the text becomes the law
    obtain ⟨u1, u2, u3, u4, u5, u6, u7⟩ := q11
    have KX2 := kx.tr q8 (Nat.le_refl _)
    have KL2 := kl.tr q9 (Nat.le_refl _) (Nat.le_refl _)
    have hf : ∀ i, i < 242 → fits .char (.int (gI (sI σ' 9 1 0) 33 i)) = true := q7.2.2.2.2.2.2.2
    refine ⟨1, cpL (sI σ' 9 1 0) (nI k'), sI τ' 0 25 1, ⟨C0, fun n hn => ?_⟩, ⟨C0, fun n hn => ?_⟩, restL h1 h2 h3 h4 h5 ⟨0, by omega, ?_, u4, fun k hk => by omega, fun i hi => ?_⟩ h7 h8 (Or.inr ⟨rfl, m, j', k', q3, q4, q5, q6, u3, rfl, ?_⟩) (fun c k hc => ?_) (fun c k => KX2.2.2 c k) (fun c k hc => ?_) (fun k hk => ?_) (fun c k => (u7 c k).trans (KL2.2.2.2.2.2 c k))⟩
    · show F_X11_law n σ = _
      rw [goX, q1 n hn, bd_some, if_neg (by decide), cp7 hf, bd_some, bd_some, if_neg (by decide), show gI (sI σ' 9 1 0) 32 4 = nI k' from q7.2.2.2.2.2.2.1]
    · show F_X12_law n τ = _
      rw [goR, q2 n hn, bd_some, if_pos (by decide)]
    · rw [cpL_o _ _ (by omega)]
      rfl
    · rw [cpL_o _ _ (by omega)]
      exact hf i hi
    · refine q10.tp (fun i _ i2 => ⟨?_, ?_, ?_, ?_⟩) (fun i _ i2 => ?_) (fun i _ i2 => ?_)
      · exact (cpL_28 _ _ (by omega)).trans rfl
      · exact (cpL_29 _ _ (by omega)).trans rfl
      · exact (cpL_30 _ _ (by omega)).trans rfl
      · exact (cpL_31 _ _ (by omega)).trans rfl
      · rw [Nat.zero_add]
        exact u1 i i2
      · rw [Nat.zero_add]
        exact u2 i (by omega)
    · rw [cpL_o _ _ (by omega), gI_sI, if_neg (by omega)]
      exact KX2.1 c k (by omega) (by omega)
    · rw [gI_sI, if_neg (by omega), u6 c k (by omega) (by omega) (by omega) (by omega) (by omega) (by omega)]
      exact KL2.1 c k (by omega) (by omega) (by omega) (by omega) (by omega) (by omega)
    · rw [gI_sI, if_pos rfl, if_neg (by omega), u5 k (by omega)]
      exact KL2.2.1 k (by omega)
  · -- a fault
    have KX2 := kx.tr q4 (Nat.le_refl _)
    have KL2 := kl.tr q5 (Nat.le_refl _) (Nat.le_refl _)
    obtain ⟨k', q3⟩ := q3
    have hp : (0 : Int32) ≤ nI h' := by rw [i_le, i_n (by omega), t0]; omega
    refine ⟨-100 - nI h', sI σ' 9 1 0, sI τ' 0 13 0, ⟨C0, fun n hn => ?_⟩, ⟨C0, fun n hn => ?_⟩, restL h1 h2 h3 h4 h5 ⟨0, by omega, rfl, rfl, fun k hk => by omega, q3.2.2.2.2.2.2.2⟩ h7 h8 ?_ (fun c k hc => ?_) (fun c k => KX2.2.2 c k) (fun c k hc => ?_) (fun k hk => ?_) (fun c k => KL2.2.2.2.2.2 c k)⟩
    · show F_X11_law n σ = _
      rw [goX, q1 n hn, bd_some, if_pos rfl, bd_some, show gI (sI σ' 9 1 0) 9 2 = nI h' from q3.2.2.2.2.2.1, if_pos hp]
    · show F_X12_law n τ = _
      rw [goR, q2 n hn, bd_some, if_neg (by rw [i_lt, i_n (by omega), t0]; omega)]
    · have x27 : ∀ c k, 27 ≤ c → c < 32 → gI (sI σ' 9 1 0) c k = gI σ c k := fun c k c1 c2 => by
        rw [gI_sI, if_neg (by omega)]
        exact KX2.1 c k (by omega) (by omega)
      have e25 : gI (sI τ' 0 13 0) 0 25 = gI τ 0 25 := KL2.2.1 25 (by omega)
      have e12 : gI (sI τ' 0 13 0) 12 0 = gI τ 12 0 := KL2.2.2.2.1
      rcases h9 with ⟨a1, a2⟩ | ⟨a1, m, fe, ke, a2, a3, a4, a5, a6, a7, a8⟩
      · exact Or.inl ⟨e25.trans a1, (x27 27 4 (by omega) (by omega)).trans a2⟩
      · refine Or.inr ⟨e25.trans a1, m, fe, ke, a2, a3, a4, a5, e12.trans a6, (x27 27 4 (by omega) (by omega)).trans a7, a8.tp (fun i _ i2 => ⟨x27 28 i (by omega) (by omega), x27 29 i (by omega) (by omega), x27 30 i (by omega) (by omega), x27 31 i (by omega) (by omega)⟩) (fun i _ i2 => ?_) (fun i _ i2 => ?_)⟩
        · exact KL2.2.2.1 (0 + i) (by omega)
        · exact KL2.2.2.2.2.1 (0 + i) (by omega)
    · rw [gI_sI, if_neg (by omega)]
      exact KX2.1 c k (by omega) (by omega)
    · rw [gI_sI, if_neg (by omega)]
      exact KL2.1 c k (by omega) (by omega) (by omega) (by omega) (by omega) (by omega)
    · rw [gI_sI, if_pos rfl, if_neg (by omega)]
      exact KL2.2.1 k (by omega))
