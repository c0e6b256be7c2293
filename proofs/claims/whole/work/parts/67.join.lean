/-! the law read: what is joined by signs -/
section JOIN
variable {v : Nat → Nat} {T : Nat}
def LRok (v : Nat → Nat) (T t κ : Nat) (LR : Nat → Nat → St → Option (Unit × St)) : Prop := (∀ D m τ x, x < 2147483648 → gI τ 0 15 = nI x → LR D (m + 1) τ = some ((), τ)) ∧ (∀ D m τ h o j, h ≤ T → RS v T h o j τ → ¬ (h < T ∧ sgT t (v h) = true) → LR D (m + 1) τ = some ((), τ)) ∧ ∀ D m τ h o j, RS v T h o j τ → h < T → sgT t (v h) = true → LR D (m + κ) τ = bd (F_X12_either D (t + 1) m (sI τ 0 14 (nI (h + 1)))) fun _ s5 => bd (F_X12_addStep m (sb (v h)) 0 s5) fun _ s6 => LR D m s6
/-- the loop of the class, where nothing more is joined -/
theorem stopX {h k t o i : Nat} {p : Int32} {σ : St} (ht : t < 5) (hX : XS v T h k σ) (h2 : p = -1 ∨ ¬ (h < T ∧ sgT t (v h) = true)) (most : Int32) (O : Nat → Nat → Int32 → Int32 → St → Option (Int32 × St)) (m : Nat) : L_X8_readJoined O (m + 1) 1 (nI t) (nI o) p most (nI i) σ = some (p, σ) := by
  show B_X8_readJoined_1 O (L_X8_readJoined O m) m (nI t) (nI o) p most (nI i) σ = _
  unfold B_X8_readJoined_1
  by_cases c1 : most ≤ nI i
  · rw [if_pos c1]
  · rw [if_neg c1]
    by_cases c2 : p = -1
    · rw [if_pos c2]
    · rw [if_neg c2, sgn8 hX ht, if_neg (h2.resolve_left c2), bd_some, if_pos rfl]
theorem dg_sg {h : Nat} (hc : v h < 256) (d : 48 ≤ v h ∧ v h ≤ 57) {t : Nat} (ht : t < 5) : ¬ sgT t (v h) = true := fun e => (sg_mem t ht (v h) hc e).2.2 d
/-- one joining -/
theorem joinS {t o h0 j0 k0 h i n : Nat} {σ0 τ0 σ τ : St} (ht : t < 5) (hP : PJ v T (t + 1) o) (hX : XS v T h (k0 + n) σ) (hR : RS v T h o (j0 + n) τ) (hn : 1 ≤ n) (hh : h0 + n ≤ h) (hi : i ≤ h) (kx : KX k0 σ0 σ) (kr : KR j0 τ0 τ) (sg : ∀ s, Seg 32 130 σ τ n j0 k0 s ((k0 + n - 1) :: s)) (hk : k0 ≤ h0) (hj : j0 ≤ h0) (c : h < T) (cs : sgT t (v h) = true) (most : Int32) (hm : ¬ most ≤ nI i) :
    (∃ (C0 h' n' : Nat) (σ' τ' : St), OG v T o h0 j0 k0 σ0 τ0 h' n' σ' τ' ∧ h + 1 < h' ∧ (∀ D m, 7 * (6 - o) + (6 - (t + 1)) < D → C0 ≤ m → L_X8_readJoined (F_X8_readJoined D) (m + 1) 1 (nI t) (nI o) (nI (k0 + n - 1)) most (nI i) σ = L_X8_readJoined (F_X8_readJoined D) m 1 (nI t) (nI o) (nI (k0 + n' - 1)) most (nI (i + 1)) σ') ∧ (∀ D m, 7 * (6 - o) + (6 - (t + 1)) < D → C0 ≤ m → (bd (F_X12_either D (t + 1) m (sI τ 0 14 (nI (h + 1)))) fun _ s5 => F_X12_addStep m (sb (v h)) 0 s5) = some ((), τ'))) ∨
    (∃ (C0 h' j' : Nat) (p : Int32) (σ' τ' : St), OB v T h0 j0 σ0 τ0 h' j' p σ' τ' ∧ (∀ D m, 7 * (6 - o) + (6 - (t + 1)) < D → C0 ≤ m → L_X8_readJoined (F_X8_readJoined D) (m + 1) 1 (nI t) (nI o) (nI (k0 + n - 1)) most (nI i) σ = L_X8_readJoined (F_X8_readJoined D) m 1 (nI t) (nI o) p most (nI (i + 1)) σ') ∧ (∀ D m, 7 * (6 - o) + (6 - (t + 1)) < D → C0 ≤ m → (bd (F_X12_either D (t + 1) m (sI τ 0 14 (nI (h + 1)))) fun _ s5 => F_X12_addStep m (sb (v h)) 0 s5) = some ((), τ'))) := by
  obtain ⟨s1, s2, s3, s4, s5, s6, s7, s8⟩ := id hX
  obtain ⟨c1, c2⟩ := s5 h c
  obtain ⟨m1, m2, m3⟩ := sg_mem t ht (v h) c1 cs
  have ch := chr1 (v h) c1
  have hX1 : XS v T (h + 1) (k0 + n) (sI σ 9 2 (nI (h + 1))) := hX.to (by omega)
  have hR1 : RS v T (h + 1) o (j0 + n) (sI τ 0 14 (nI (h + 1))) := hR.to
  have vh : vp_in (nI h) 120 := nIin (by omega) (by decide)
  have preX : ∀ D m, L_X8_readJoined (F_X8_readJoined D) (m + 1) 1 (nI t) (nI o) (nI (k0 + n - 1)) most (nI i) σ = bd (F_X8_readJoined D 0 m (nI (t + 1)) (nI o) (sI σ 9 2 (nI (h + 1)))) fun r10 s9 => if r10 = (-1 : Int32) then (L_X8_readJoined (F_X8_readJoined D) m 1 (nI t) (nI o) (-1 : Int32) most (nI (i + 1)) s9) else (bd (F_X7_add m 32 (nI (v h)) (nI (k0 + n - 1)) r10 s9) fun r12 s11 => L_X8_readJoined (F_X8_readJoined D) m 1 (nI t) (nI o) r12 most (nI (i + 1)) s11) := fun D m => by
    show B_X8_readJoined_1 (F_X8_readJoined D) (L_X8_readJoined (F_X8_readJoined D) m) m (nI t) (nI o) (nI (k0 + n - 1)) most (nI i) σ = _
    unfold B_X8_readJoined_1
    rw [if_neg hm, if_neg (nI_nm1 (by omega)), sgn8 hX ht, if_pos ⟨c, cs⟩, bd_some, if_neg (by decide), s6, gd_eq vh, nIc (by omega), c2, bnd_eq, n_a1, n_a1, bnd_eq]
    simp only [bnd_eq, n_a1]
  rcases hP (h + 1) (j0 + n) (k0 + n) _ _ hX1 hR1 (by omega) (by omega) with ⟨C0, h', n', σ2, τ2, ⟨g1, g2, g3, g4, g5, g6, g7, g8, g9⟩, f1, f2⟩ | ⟨C0, h', j', p, σ2, τ2, ⟨g1, g2, g3, g4, g5, g6, g7, g8⟩, f1, f2⟩
  · have ks : k0 + n + n' ≤ 121 := by omega
    have e0 : k0 + n + n' = k0 + (n + n' + 1) - 1 := by omega
    refine Or.inl ⟨C0, h', n + n' + 1, apX σ2 (k0 + n + n') (nI (v h)) (nI (k0 + n - 1)) (nI (k0 + n + n' - 1)) 0, asR τ2 (j0 + n + n') (sb (v h)) 0, ⟨by omega, g2, by omega, by omega, ?_, ?_, (kx.tr ((KX.s9 (k0 + n) σ _).tr g7 (Nat.le_refl _)) (by omega)).tr (apX_k σ2 (k0 + n + n') _ _ _ _) (by omega), (kr.tr ((KR.s0 (j0 + n) τ (by omega) (by omega) _).tr g8 (Nat.le_refl _)) (by omega)).tr (asR_k τ2 (j0 + n + n') _ _) (by omega), fun s => ?_⟩, by omega, fun D m hD hm' => ?_, fun D m hD hm' => ?_⟩
    · have := g5.ap (by omega) ch.2 (nI (k0 + n - 1)) (nI (k0 + n + n' - 1)) 0
      rw [show k0 + (n + n' + 1) = k0 + n + n' + 1 by omega]
      exact this
    · have := g6.as (sb (v h)) 0
      rw [show j0 + (n + n' + 1) = j0 + n + n' + 1 by omega]
      exact this
    · have a1 : Seg 32 130 (apX σ2 (k0 + n + n') (nI (v h)) (nI (k0 + n - 1)) (nI (k0 + n + n' - 1)) 0) (asR τ2 (j0 + n + n') (sb (v h)) 0) n j0 k0 s ((k0 + n - 1) :: s) := (sg s).kp (((KX.s9 (k0 + n) σ _).tr g7 (Nat.le_refl _)).tr (apX_k σ2 (k0 + n + n') _ _ _ _) (by omega)) (((KR.s0 (j0 + n) τ (by omega) (by omega) _).tr g8 (Nat.le_refl _)).tr (asR_k τ2 (j0 + n + n') _ _) (by omega)) (Nat.le_refl _) (Nat.le_refl _)
      have a2 : Seg 32 130 (apX σ2 (k0 + n + n') (nI (v h)) (nI (k0 + n - 1)) (nI (k0 + n + n' - 1)) 0) (asR τ2 (j0 + n + n') (sb (v h)) 0) n' (j0 + n) (k0 + n) ((k0 + n - 1) :: s) ((k0 + n + n' - 1) :: (k0 + n - 1) :: s) := (g9 ((k0 + n - 1) :: s)).kp (apX_k σ2 (k0 + n + n') _ _ _ _) (asR_k τ2 (j0 + n + n') _ _) (Nat.le_refl _) (Nat.le_refl _)
      refine (a1.app a2).app (Seg.one ?_)
      rw [show j0 + (n + n') = j0 + n + n' by omega, show k0 + (n + n') = k0 + n + n' by omega]
      have z10 : gI (asR τ2 (j0 + n + n') (sb (v h)) 0) 10 (130 + (j0 + n + n')) = sb (v h) := by rw [asR_10, if_pos rfl]
      have z33 : gI (apX σ2 (k0 + n + n') (nI (v h)) (nI (k0 + n - 1)) (nI (k0 + n + n' - 1)) 0) (32 + 1) (k0 + n + n') = nI (v h) := by
        show gI (apX σ2 (k0 + n + n') _ _ _ _) 33 (k0 + n + n') = _
        rw [apX_33, if_pos rfl]
      have z34 : gI (apX σ2 (k0 + n + n') (nI (v h)) (nI (k0 + n - 1)) (nI (k0 + n + n' - 1)) 0) (32 + 2) (k0 + n + n') = nI (k0 + n - 1) := by
        show gI (apX σ2 (k0 + n + n') _ _ _ _) 34 (k0 + n + n') = _
        rw [apX_34, if_pos rfl]
      have z35 : gI (apX σ2 (k0 + n + n') (nI (v h)) (nI (k0 + n - 1)) (nI (k0 + n + n' - 1)) 0) (32 + 3) (k0 + n + n') = nI (k0 + n + n' - 1) := by
        show gI (apX σ2 (k0 + n + n') _ _ _ _) 35 (k0 + n + n') = _
        rw [apX_35, if_pos rfl]
      unfold Tok
      rw [z10, z33, z34, z35]
      exact Or.inr (Or.inr (Or.inr (Or.inr ⟨k0 + n - 1, k0 + n + n' - 1, s, sb (v h), rfl, m1, rfl, (sb_lo m2).symm, rfl, rfl, by rw [← e0]⟩)))
    · rw [preX]
      refine Eq.trans (congrArg (fun z => bd z _) (f1 D m hD hm')) ?_
      rw [bd_some, if_neg (nI_nm1 (by omega)), add7 g5.2.2.2.2.2.2.1 (by omega) (by omega) (by omega) ch.1, bd_some, ← e0]
    · refine Eq.trans (congrArg (fun z => bd z _) (f2 D m hD hm')) ?_
      rw [bd_some, as12 g6.1.2.2.2 (by omega) (byt _ c1)]
  · obtain ⟨p', σ3, a1, a2, a3⟩ := addB g4 (c := v h) c1 (nI (k0 + n - 1)) p
    have kk : KX 0 σ0 σ2 := (kx.lo (by omega)).tr ((KX.s9 0 σ _).tr g6 (Nat.le_refl _)) (Nat.le_refl _)
    refine Or.inr ⟨C0, h', j' + 1, if p = -1 then -1 else p', if p = -1 then σ2 else σ3, asR τ2 j' (sb (v h)) 0, ⟨by omega, g2, by omega, ?_, g5.as _ _, ?_, ((kr.lo (by omega)).tr ((KR.s0 0 τ (by omega) (by omega) _).tr g7 (Nat.le_refl _)) (Nat.le_refl _)).tr (asR_k τ2 j' _ _) (by omega), ?_⟩, fun D m hD hm' => ?_, fun D m hD hm' => ?_⟩
    · split
      · exact g4
      · exact a2
    · split
      · exact kk
      · exact kk.tr a3 (Nat.le_refl _)
    · by_cases e : p = -1
      · rw [if_pos e]
        exact Or.inl rfl
      · exact Or.inr (g8.resolve_left e)
    · rw [preX]
      refine Eq.trans (congrArg (fun z => bd z _) (f1 D m hD hm')) ?_
      rw [bd_some]
      by_cases e : p = -1
      · rw [if_pos e, if_pos e, if_pos e]
      · rw [if_neg e, if_neg e, if_neg e, a1, bd_some]
    · refine Eq.trans (congrArg (fun z => bd z _) (f2 D m hD hm')) ?_
      rw [bd_some, as12 g5.1.2.2.2 (by omega) (byt _ c1)]
theorem joinL {t o h0 j0 k0 κ : Nat} {σ0 τ0 : St} {LR : Nat → Nat → St → Option (Unit × St)} (ht : t < 5) (hLR : LRok v T t κ LR) (hP : PJ v T (t + 1) o) (hk : k0 ≤ h0) (hj : j0 ≤ h0) : ∀ (u h i n : Nat) (σ τ : St), T - h ≤ u → h0 < h → XS v T h (k0 + n) σ → RS v T h o (j0 + n) τ → 1 ≤ n → h0 + n ≤ h → i ≤ h → KX k0 σ0 σ → KR j0 τ0 τ → (∀ s, Seg 32 130 σ τ n j0 k0 s ((k0 + n - 1) :: s)) →
    OC v T o h0 j0 k0 σ0 τ0 (7 * (6 - o) + (6 - (t + 1))) (fun D m => L_X8_readJoined (F_X8_readJoined D) m 1 (nI t) (nI o) (nI (k0 + n - 1)) (nI 120) (nI i) σ) (fun D m => LR D m τ) := by
  intro u
  induction u with
  | zero =>
    intro h i n σ τ hu h0h hX hR hn hh hi kx kr sg
    have hT := hX.2.1
    refine Or.inl ⟨1, h, n, σ, τ, ⟨h0h, hT, hn, by omega, hX, hR, kx, kr, sg⟩, fun D m hD hm => ?_, fun D m hD hm => ?_⟩
    · obtain ⟨m, rfl⟩ : ∃ q, m = q + 1 := ⟨m - 1, by omega⟩
      exact stopX ht hX (Or.inr (fun z => by omega)) _ _ _
    · obtain ⟨m, rfl⟩ : ∃ q, m = q + 1 := ⟨m - 1, by omega⟩
      exact hLR.2.1 D m τ h o _ hT hR (fun z => by omega)
  | succ u ih =>
    intro h i n σ τ hu h0h hX hR hn hh hi kx kr sg
    have hT := hX.2.1
    have h120 := hX.1
    by_cases c : h < T ∧ sgT t (v h) = true
    · rcases joinS ht hP hX hR hn hh hi kx kr sg hk hj c.1 c.2 (nI 120) (by rw [i_le, i_n (by omega), i_n (by omega)]; omega) with ⟨C0, h', n', σ2, τ2, ⟨g1, g2, g3, g4, g5, g6, g7, g8, g9⟩, gh, f1, f2⟩ | ⟨C0, h', j', p, σ2, τ2, gB, f1, f2⟩
      · rcases ih h' (i + 1) n' σ2 τ2 (by omega) (by omega) g5 g6 g3 (by omega) (by omega) g7 g8 g9 with ⟨C1, h3, n3, σ3, τ3, q1, q2, q3⟩ | ⟨C1, h3, j3, p3, σ3, τ3, q1, q2, q3⟩
        · refine Or.inl ⟨C0 + C1 + κ + 1, h3, n3, σ3, τ3, q1, fun D m hD hm => ?_, fun D m hD hm => ?_⟩
          · obtain ⟨m, rfl⟩ : ∃ q, m = q + 1 := ⟨m - 1, by omega⟩
            exact (f1 D m hD (by omega)).trans (q2 D m hD (by omega))
          · obtain ⟨m, rfl⟩ : ∃ q, m = q + κ := ⟨m - κ, by omega⟩
            refine (hLR.2.2 D m τ h o _ hR c.1 c.2).trans ?_
            have e := f2 D m hD (by omega)
            have : ∀ (x : Option (Unit × St)) (k1 : Unit → St → Option (Unit × St)) (k2 : Unit → St → Option (Unit × St)), (bd x fun a s => bd (k1 a s) k2) = bd (bd x k1) k2 := fun x k1 k2 => by
              cases x with
              | none => rfl
              | some q => rfl
            refine (this _ (fun _ s5 => F_X12_addStep m (sb (v h)) 0 s5) (fun _ s6 => LR D m s6)).trans ?_
            rw [e, bd_some]
            exact q3 D m hD (by omega)
        · refine Or.inr ⟨C0 + C1 + κ + 1, h3, j3, p3, σ3, τ3, q1, fun D m hD hm => ?_, fun D m hD hm => ?_⟩
          · obtain ⟨m, rfl⟩ : ∃ q, m = q + 1 := ⟨m - 1, by omega⟩
            exact (f1 D m hD (by omega)).trans (q2 D m hD (by omega))
          · obtain ⟨m, rfl⟩ : ∃ q, m = q + κ := ⟨m - κ, by omega⟩
            refine (hLR.2.2 D m τ h o _ hR c.1 c.2).trans ?_
            have e := f2 D m hD (by omega)
            have : ∀ (x : Option (Unit × St)) (k1 : Unit → St → Option (Unit × St)) (k2 : Unit → St → Option (Unit × St)), (bd x fun a s => bd (k1 a s) k2) = bd (bd x k1) k2 := fun x k1 k2 => by
              cases x with
              | none => rfl
              | some q => rfl
            refine (this _ (fun _ s5 => F_X12_addStep m (sb (v h)) 0 s5) (fun _ s6 => LR D m s6)).trans ?_
            rw [e, bd_some]
            exact q3 D m hD (by omega)
      · refine Or.inr ⟨C0 + κ + 2, h', j', p, σ2, τ2, gB, fun D m hD hm => ?_, fun D m hD hm => ?_⟩
        · obtain ⟨m, rfl⟩ : ∃ q, m = q + 1 + 1 := ⟨m - 2, by omega⟩
          refine (f1 D (m + 1) hD (by omega)).trans ?_
          obtain ⟨k2, gX⟩ := gB.2.2.2.1
          exact stopX ht gX (gB.2.2.2.2.2.2.2.imp id (fun z => fun y => dg_sg (gX.2.2.2.2.1 h' z.1).1 z.2 ht y.2)) _ _ _
        · obtain ⟨m, rfl⟩ : ∃ q, m = q + 1 + κ := ⟨m - κ - 1, by omega⟩
          refine (hLR.2.2 D (m + 1) τ h o _ hR c.1 c.2).trans ?_
          have e := f2 D (m + 1) hD (by omega)
          have : ∀ (x : Option (Unit × St)) (k1 : Unit → St → Option (Unit × St)) (k2 : Unit → St → Option (Unit × St)), (bd x fun a s => bd (k1 a s) k2) = bd (bd x k1) k2 := fun x k1 k2 => by
            cases x with
            | none => rfl
            | some q => rfl
          refine (this _ (fun _ s5 => F_X12_addStep (m + 1) (sb (v h)) 0 s5) (fun _ s6 => LR D (m + 1) s6)).trans ?_
          rw [e, bd_some]
          exact hLR.1 D m τ2 h' (by have := gB.2.1; omega) gB.2.2.2.2.1.2
    · refine Or.inl ⟨1, h, n, σ, τ, ⟨h0h, hT, hn, by omega, hX, hR, kx, kr, sg⟩, fun D m hD hm => ?_, fun D m hD hm => ?_⟩
      · obtain ⟨m, rfl⟩ : ∃ q, m = q + 1 := ⟨m - 1, by omega⟩
        exact stopX ht hX (Or.inr c) _ _ _
      · obtain ⟨m, rfl⟩ : ∃ q, m = q + 1 := ⟨m - 1, by omega⟩
        exact hLR.2.1 D m τ h o _ hT hR c
/-- a level whose signs may come again and again -/
theorem levXR {t o κ : Nat} {LR : Nat → Nat → St → Option (Unit × St)} (ht : t < 5) (ht2 : t ≠ 2) (hLR : LRok v T t κ LR) (hE : ∀ D m τ, F_X12_either (D + 1) t m τ = bd (F_X12_either D (t + 1) m τ) fun _ s1 => LR D m s1) (hP : PJ v T (t + 1) o) : PJ v T t o := by
  intro h j k σ τ hX hR hk hj
  have hT := hX.2.1
  have h120 := hX.1
  have EX : ∀ D m, F_X8_readJoined (D + 1) 0 m (nI t) (nI o) σ = bd (F_X8_readJoined D 0 m (nI (t + 1)) (nI o) σ) fun r2 s1 => L_X8_readJoined (F_X8_readJoined D) m 1 (nI t) (nI o) r2 (nI 120) (nI 0) s1 := fun D m => by
    show E_X8_readJoined (F_X8_readJoined D) m (nI t) (nI o) σ = _
    unfold E_X8_readJoined
    have e2 : ¬ nI t = (2 : Int32) := by rw [show (2 : Int32) = nI 2 from rfl, nI_inj (by omega) (by omega)]; exact ht2
    rw [if_pos (by rw [i_le, i_n (by omega), t4]; omega), n_a1]
    simp only [if_neg e2]
    rfl
  have ed : 7 * (6 - o) + (6 - t) = 7 * (6 - o) + (6 - (t + 1)) + 1 := by omega
  rcases hP h j k σ τ hX hR hk hj with ⟨C0, h', n, σ2, τ2, ⟨g1, g2, g3, g4, g5, g6, g7, g8, g9⟩, f1, f2⟩ | ⟨C0, h', j', p, σ2, τ2, gB, f1, f2⟩
  · rcases joinL ht hLR hP hk hj (T - h') h' 0 n σ2 τ2 (Nat.le_refl _) g1 g5 g6 g3 (by omega) (by omega) g7 g8 g9 with ⟨C1, h3, n3, σ3, τ3, q1, q2, q3⟩ | ⟨C1, h3, j3, p3, σ3, τ3, q1, q2, q3⟩
    · refine Or.inl ⟨C0 + C1, h3, n3, σ3, τ3, q1, fun D m hD hm => ?_, fun D m hD hm => ?_⟩
      · obtain ⟨D, rfl⟩ : ∃ q, D = q + 1 := ⟨D - 1, by omega⟩
        refine (EX D m).trans ?_
        refine Eq.trans (congrArg (fun z => bd z _) (f1 D m (by omega) (by omega))) ?_
        rw [bd_some]
        exact q2 D m (by omega) (by omega)
      · obtain ⟨D, rfl⟩ : ∃ q, D = q + 1 := ⟨D - 1, by omega⟩
        refine (hE D m τ).trans ?_
        refine Eq.trans (congrArg (fun z => bd z _) (f2 D m (by omega) (by omega))) ?_
        rw [bd_some]
        exact q3 D m (by omega) (by omega)
    · refine Or.inr ⟨C0 + C1, h3, j3, p3, σ3, τ3, q1, fun D m hD hm => ?_, fun D m hD hm => ?_⟩
      · obtain ⟨D, rfl⟩ : ∃ q, D = q + 1 := ⟨D - 1, by omega⟩
        refine (EX D m).trans ?_
        refine Eq.trans (congrArg (fun z => bd z _) (f1 D m (by omega) (by omega))) ?_
        rw [bd_some]
        exact q2 D m (by omega) (by omega)
      · obtain ⟨D, rfl⟩ : ∃ q, D = q + 1 := ⟨D - 1, by omega⟩
        refine (hE D m τ).trans ?_
        refine Eq.trans (congrArg (fun z => bd z _) (f2 D m (by omega) (by omega))) ?_
        rw [bd_some]
        exact q3 D m (by omega) (by omega)
  · refine Or.inr ⟨C0 + 2, h', j', p, σ2, τ2, gB, fun D m hD hm => ?_, fun D m hD hm => ?_⟩
    · obtain ⟨D, rfl⟩ : ∃ q, D = q + 1 := ⟨D - 1, by omega⟩
      obtain ⟨m, rfl⟩ : ∃ q, m = q + 1 := ⟨m - 1, by omega⟩
      refine (EX D (m + 1)).trans ?_
      refine Eq.trans (congrArg (fun z => bd z _) (f1 D (m + 1) (by omega) (by omega))) ?_
      rw [bd_some]
      obtain ⟨k2, gX⟩ := gB.2.2.2.1
      exact stopX ht gX (gB.2.2.2.2.2.2.2.imp id (fun z => fun y => dg_sg (gX.2.2.2.2.1 h' z.1).1 z.2 ht y.2)) _ _ _
    · obtain ⟨D, rfl⟩ : ∃ q, D = q + 1 := ⟨D - 1, by omega⟩
      obtain ⟨m, rfl⟩ : ∃ q, m = q + 1 := ⟨m - 1, by omega⟩
      refine (hE D (m + 1) τ).trans ?_
      refine Eq.trans (congrArg (fun z => bd z _) (f2 D (m + 1) (by omega) (by omega))) ?_
      rw [bd_some]
      exact hLR.1 D m τ2 h' (by have := gB.2.1; omega) gB.2.2.2.2.1.2
end JOIN
