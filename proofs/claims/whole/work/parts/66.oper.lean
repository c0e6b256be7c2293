/-! the law read: numbers, names, operands -/
theorem byt_1 : vp_nar .byte ((1 : Int32).toInt8.toInt32) = 1 := by decide
theorem byt_2 : vp_nar .byte ((2 : Int32).toInt8.toInt32) = 2 := by decide
theorem chr_48 : vp_nar .char (48 : Int32) = 48 ∧ fits .char (.int (48 : Int32)) = true := by decide
theorem chr_97 : vp_nar .char (97 : Int32) = 97 ∧ fits .char (.int (97 : Int32)) = true := by decide
section OPER
variable {v : Nat → Nat} {T : Nat}
theorem numXR (o j k : Nat) : ∀ (r i h : Nat) (val : Int32) (σ τ : St), i + r = 4 → XS v T h k σ → RS v T h o j τ → ∃ (i' : Nat) (val' : Int32) (σ' τ' : St), i ≤ i' ∧ i' ≤ 4 ∧ XS v T (h + (i' - i)) k σ' ∧ RS v T (h + (i' - i)) o j τ' ∧ (∀ c q, c ≠ 9 → gI σ' c q = gI σ c q) ∧ (∀ c q, gL σ' c q = gL σ c q) ∧ KR 130 τ τ' ∧ (∀ m, r + 1 ≤ m → L_X8_readNumber m 1 val (nI i) σ = some (val', σ')) ∧ (∀ m, L_X12_figure (m + (i' - i) + 1) 1 val (nI i) τ = L_X12_figure m 2 val' (nI i') τ') ∧ (i' = 4 ∨ ¬ (h + (i' - i) < T ∧ 48 ≤ v (h + (i' - i)) ∧ v (h + (i' - i)) ≤ 57)) ∧ (0 < r → h < T → 48 ≤ v h → v h ≤ 57 → i < i')
  | 0, i, h, val, σ, τ, hi, hX, hR => by
    refine ⟨i, val, σ, τ, Nat.le_refl _, by omega, by rw [Nat.sub_self]; exact hX, by rw [Nat.sub_self]; exact hR, fun _ _ _ => rfl, fun _ _ => rfl, KR.rf 130 τ, fun m hm => ?_, fun m => ?_, Or.inl (by omega), fun h => by omega⟩
    · obtain ⟨m, rfl⟩ : ∃ q, m = q + 1 := ⟨m - 1, by omega⟩
      show B_X8_readNumber_1 (L_X8_readNumber m) m val (nI i) σ = _
      unfold B_X8_readNumber_1
      rw [if_pos (by rw [i_le, i_n (by omega), t4]; omega)]
    · rw [Nat.sub_self]
      show B_X12_figure_1 (L_X12_figure m) m val (nI i) τ = _
      unfold B_X12_figure_1
      rw [if_pos (by rw [i_le, i_n (by omega), t4]; omega)]
  | r + 1, i, h, val, σ, τ, hi, hX, hR => by
    obtain ⟨s1, s2, s3, s4, s5, s6, s7, s8⟩ := id hX
    have n4 : ¬ (4 : Int32) ≤ nI i := by rw [i_le, i_n (by omega), t4]; omega
    have EX : ∀ m, L_X8_readNumber (m + 1) 1 val (nI i) σ = B_X8_readNumber_1 (L_X8_readNumber m) m val (nI i) σ := fun _ => rfl
    have ER : ∀ m, L_X12_figure (m + 1) 1 val (nI i) τ = B_X12_figure_1 (L_X12_figure m) m val (nI i) τ := fun _ => rfl
    by_cases c : h < T
    · obtain ⟨c1, c2⟩ := s5 h c
      by_cases d : 48 ≤ v h ∧ v h ≤ 57
      · have hX1 : XS v T (h + 1) k (sI σ 9 2 (nI (h + 1))) := hX.to (by omega)
        have hR1 : RS v T (h + 1) o j (sI τ 0 14 (nI (h + 1))) := hR.to
        obtain ⟨i', val', σ', τ', q1, q2, q3, q4, q5, q6, q7, q8, q9, q10, q11⟩ := numXR o j k r (i + 1) (h + 1) (10 * val + nI (v h) - 48) (sI σ 9 2 (nI (h + 1))) (sI τ 0 14 (nI (h + 1))) (by omega) hX1 hR1
        have eh : h + 1 + (i' - (i + 1)) = h + (i' - i) := by omega
        rw [eh] at q3 q4 q10
        refine ⟨i', val', σ', τ', by omega, q2, q3, q4, fun c q hc => by rw [q5 c q hc, gI_sI, if_neg hc], fun c q => q6 c q, (KR.s0 130 τ (by omega) (by omega) _).tr q7 (Nat.le_refl _), fun m hm => ?_, fun m => ?_, q10, fun _ _ _ _ => by omega⟩
        · obtain ⟨m, rfl⟩ : ∃ q, m = q + 1 := ⟨m - 1, by omega⟩
          rw [EX]
          unfold B_X8_readNumber_1
          have vh : vp_in (nI h) 120 := nIin (by omega) (by decide)
          rw [if_neg n4, s4, s6, if_neg (by rw [i_le, i_n (by omega), i_n (by omega)]; omega), gd_eq vh, nIc (by omega), c2, dig8 m c1, if_pos d, bd_some, if_neg (by decide), s6, gd_eq vh, nIc (by omega), c2, bnd_eq, n_a1, bnd_eq, n_a1, bnd_eq]
          exact q8 m (by omega)
        · rw [show m + (i' - i) + 1 = (m + (i' - (i + 1)) + 1) + 1 by omega, ER]
          unfold B_X12_figure_1
          rw [if_neg n4, look12 hR.1 s1 c, bd_some, in48 _ c1, if_pos d, bd_some, if_neg (by decide), look12 hR.1 s1 c, bd_some, sb_lo (show v h < 128 by omega), bnd_eq, n_a1, bnd_eq, hR.1.2.2.1, n_a1, bnd_eq]
          exact q9 m
      · refine ⟨i, val, σ, τ, Nat.le_refl _, by omega, by rw [Nat.sub_self]; exact hX, by rw [Nat.sub_self]; exact hR, fun _ _ _ => rfl, fun _ _ => rfl, KR.rf 130 τ, fun m hm => ?_, fun m => ?_, Or.inr (by rw [Nat.sub_self]; exact fun z => d z.2), fun _ _ z1 z2 => absurd ⟨z1, z2⟩ d⟩
        · obtain ⟨m, rfl⟩ : ∃ q, m = q + 1 := ⟨m - 1, by omega⟩
          rw [EX]
          unfold B_X8_readNumber_1
          rw [if_neg n4, s4, s6, if_neg (by rw [i_le, i_n (by omega), i_n (by omega)]; omega), gd_eq (nIin (by omega) (by decide)), nIc (by omega), c2, dig8 m c1, if_neg d, bd_some, if_pos rfl]
        · rw [Nat.sub_self]
          show L_X12_figure (m + 1) 1 val (nI i) τ = _
          rw [ER]
          unfold B_X12_figure_1
          rw [if_neg n4, look12 hR.1 s1 c, bd_some, in48 _ c1, if_neg d, bd_some, if_pos rfl]
    · refine ⟨i, val, σ, τ, Nat.le_refl _, by omega, by rw [Nat.sub_self]; exact hX, by rw [Nat.sub_self]; exact hR, fun _ _ _ => rfl, fun _ _ => rfl, KR.rf 130 τ, fun m hm => ?_, fun m => ?_, Or.inr (by rw [Nat.sub_self]; exact fun z => c z.1), fun _ z _ _ => absurd z c⟩
      · obtain ⟨m, rfl⟩ : ∃ q, m = q + 1 := ⟨m - 1, by omega⟩
        rw [EX]
        unfold B_X8_readNumber_1
        rw [if_neg n4, s4, s6, if_pos (by rw [i_le, i_n (by omega), i_n (by omega)]; omega)]
      · rw [Nat.sub_self]
        show L_X12_figure (m + 1) 1 val (nI i) τ = _
        rw [ER]
        unfold B_X12_figure_1
        rw [if_neg n4, lookE hR.1 s1 (by omega), bd_some, inM1, bd_some, if_pos rfl]
/-- a figure that isn't there -/
theorem figB {h o j : Nat} {τ : St} (hT : T ≤ 120) (hR : RS v T h o j τ) (hj : j < 130) (hh : h ≤ T) (hv : h < T → v h < 256 ∧ ¬ (48 ≤ v h ∧ v h ≤ 57)) : ∃ τ', (∀ m, 3 ≤ m → F_X12_figure m τ = some ((), τ')) ∧ RB v T h (j + 1) τ' ∧ KR 0 τ τ' := by
  refine ⟨asR (sI τ 0 15 (nI h)) j 1 0, fun m hm => ?_, hR.wr.as 1 0, (KR.s0 0 τ (by omega) (by omega) _).tr (asR_k _ j 1 0) (by omega)⟩
  obtain ⟨m, rfl⟩ : ∃ q, m = q + 1 + 1 + 1 := ⟨m - 3, by omega⟩
  show B_X12_figure_1 (L_X12_figure (m + 1 + 1)) (m + 1 + 1) 0 0 τ = _
  have e1 : B_X12_figure_1 (L_X12_figure (m + 1 + 1)) (m + 1 + 1) 0 0 τ = L_X12_figure (m + 1 + 1) 2 0 0 τ := by
    unfold B_X12_figure_1
    rw [if_neg (by decide)]
    by_cases c : h < T
    · obtain ⟨c1, c2⟩ := hv c
      rw [look12 hR.1 hT c, bd_some, in48 _ c1, if_neg c2, bd_some, if_pos rfl]
    · rw [lookE hR.1 hT (by omega), bd_some, inM1, bd_some, if_pos rfl]
  rw [e1]
  show B_X12_figure_2 (L_X12_figure (m + 1)) (m + 1) 0 0 τ = _
  unfold B_X12_figure_2
  rw [if_pos rfl]
  show B_X12_figure_3 (L_X12_figure m) m 0 τ = _
  unfold B_X12_figure_3
  rw [wr12 hR, bd_some, as12 (show gI (sI τ 0 15 (nI h)) 0 17 = nI j from hR.1.2.2.2) hj byt_1, bd_some]
def PJ (v : Nat → Nat) (T t o : Nat) : Prop := ∀ (h j k : Nat) (σ τ : St), XS v T h k σ → RS v T h o j τ → k ≤ h → j ≤ h → OC v T o h j k σ τ (7 * (6 - o) + (6 - t)) (fun D m => F_X8_readJoined D 0 m (nI t) (nI o) σ) (fun D m => F_X12_either D t m τ)
def PO (v : Nat → Nat) (T o : Nat) : Prop := ∀ (h j k : Nat) (σ τ : St), XS v T h k σ → RS v T h o j τ → k ≤ h → j ≤ h → OC v T o h j k σ τ (7 * (6 - o)) (fun D m => F_X8_readJoined D 1 m (nI o) 0 σ) (fun D m => F_X12_either D 5 m τ)
theorem preX8 {o h k : Nat} {σ : St} (ho : o ≤ 6) (hX : XS v T h k σ) (c : h < T) (D m : Nat) : F_X8_readJoined (D + 1) 1 m (nI o) 0 σ = if 48 ≤ v h ∧ v h ≤ 57 then (bd (F_X8_readNumber m σ) fun r20 s19 => F_X7_addNumber m 32 r20 s19) else (if nmI (sb (v h)) < 0 then (if nI o < (6 : Int32) then (bd (F_X8_takes m (40 : Int32) σ) fun r7 s6 => if r7 = 0 then (bd (F_X8_takes m (33 : Int32) s6) fun r9 s8 => if r9 = 0 then (bd (F_X8_takes m (45 : Int32) s8) fun r11 s10 => if r11 = 0 then (some ((-1 : Int32), s10)) else (L_X8_readOne (F_X8_readJoined D) m 1 (nI o) (nI (v h)) s10)) else (L_X8_readOne (F_X8_readJoined D) m 1 (nI o) (nI (v h)) s8)) else (bd (F_X8_readJoined D 0 m (0 : Int32) (nI (o + 1)) s6) fun r13 s12 => if r13 = (-1 : Int32) then (some ((-1 : Int32), s12)) else (bd (F_X8_takes m (41 : Int32) s12) fun r15 s14 => if r15 = 0 then (some ((-1 : Int32), s14)) else (some (r13, s14))))) else (some ((-1 : Int32), σ))) else (F_X7_addName m 32 (nmI (sb (v h))) (sI σ 9 2 (nI (h + 1))))) := by
  obtain ⟨s1, s2, s3, s4, s5, s6, s7, s8⟩ := id hX
  obtain ⟨c1, c2⟩ := s5 h c
  have vh : vp_in (nI h) 120 := nIin (by omega) (by decide)
  show E_X8_readOne (F_X8_readJoined D) m (nI o) σ = _
  unfold E_X8_readOne
  rw [s6, s4, if_pos (by rw [i_lt, i_n (by omega), i_n (by omega)]; omega), gd_eq vh, nIc (by omega), c2, bnd_eq, dig8 m c1, bd_some, one0, bnd_eq, ix_nm _ c1, s6, n_a1, n_a1, bnd_eq]
  simp only [bd_id]
theorem preR8 {o h j : Nat} {τ : St} (s1 : T ≤ 120) (hR : RS v T h o j τ) (c : h < T) (c1 : v h < 256) (D m : Nat) : F_X12_either (D + 1) 5 m τ = if nmI (sb (v h)) < 0 then (if v h = 33 then (L_X12_operand (F_X12_either D)  m 1 (sb (v h)) τ) else (if v h = 45 then (L_X12_operand (F_X12_either D)  m 1 (sb (v h)) τ) else (if v h = 40 then (bd (F_X12_opens m  τ) fun r7 s6 => if r7 = 0 then (some ((), s6)) else (bd (F_X12_either D 0 m s6) fun _ s8 => if (gI s8 0 15) < 0 then (bd (F_X12_look m  s8) fun r10 s9 => if r10 = (41 : Int32) then (bnd (sI s9 0 14 ((gI s9 0 14) + (1 : Int32))) fun s11 => bnd (sI s11 0 16 ((gI s11 0 16) - (1 : Int32))) fun s12 => some ((), s12)) else (F_X12_wrong m  s9)) else (some ((), s8)))) else (F_X12_figure m  τ)))) else (bd (F_X12_addStep m (2 : Int32) (nmI (sb (v h))) τ) fun _ s16 => bnd (sI s16 0 14 ((gI s16 0 14) + (1 : Int32))) fun s17 => some ((), s17)) := by
  show E_X12_operand (F_X12_either D) m τ = _
  unfold E_X12_operand
  rw [look12 hR.1 s1 c, bd_some, nm12, bd_some, nm12, bd_some]
  have a33 : sb (v h) = (33 : Int32) ↔ v h = 33 := sb_eq c1 (by decide)
  have a45 : sb (v h) = (45 : Int32) ↔ v h = 45 := sb_eq c1 (by decide)
  have a40 : sb (v h) = (40 : Int32) ↔ v h = 40 := sb_eq c1 (by decide)
  simp only [a33, a45, a40]
  have u1 : ∀ (x : Option (Unit × St)), (bd x fun _ s13 => some ((), s13)) = x := fun x => bd_id x
  simp only [u1]
theorem op_num {o h j k : Nat} {σ τ : St} (ho : o ≤ 6) (hX : XS v T h k σ) (hR : RS v T h o j τ) (hk : k ≤ h) (hj : j ≤ h) (c : h < T) (d : 48 ≤ v h ∧ v h ≤ 57) : OC v T o h j k σ τ (7 * (6 - o)) (fun D m => F_X8_readJoined D 1 m (nI o) 0 σ) (fun D m => F_X12_either D 5 m τ) := by
  obtain ⟨s1, s2, s3, s4, s5, s6, s7, s8⟩ := id hX
  obtain ⟨c1, c2⟩ := s5 h c
  have preX := preX8 ho hX c
  have preR := preR8 s1 hR c c1
  have nm := nm_no _ c1 (Or.inl d)
  obtain ⟨i', val', σ', τ', q1, q2, q3, q4, q5, q6, q7, q8, q9, q10, q11⟩ := numXR o j k 4 0 h 0 σ τ rfl hX hR
  have i1 := q11 (by decide) c d.1 d.2
  rw [Nat.sub_zero] at q3 q4 q9 q10
  have hN' : h + i' ≤ T := q3.2.1
  have goX : ∀ D m, 20 ≤ m → F_X8_readJoined (D + 1) 1 m (nI o) 0 σ = some (nI k, apX σ' k 48 0 0 val') := fun D m hm => by
    rw [preX, if_pos d, show F_X8_readNumber m σ = some (val', σ') from q8 m (by omega), bd_some]
    unfold F_X7_addNumber
    rw [ap7 q3.2.2.2.2.2.2.1 (by omega) chr_48.1, bd_some]
  have kx : KX k σ (apX σ' k 48 0 0 val') := (show KX k σ σ' from ⟨fun c q c1 _ => q5 c q c1, fun c q c1 _ _ => q5 c q (by omega), q6⟩).tr (apX_k σ' k _ _ _ _) (Nat.le_refl _)
  have xs := q3.ap (show k < 242 by omega) chr_48.2 0 0 val'
  have goR : ∀ D m, 20 ≤ m → F_X12_either (D + 1) 5 m τ = L_X12_figure (m - i' - 1) 2 val' (nI i') τ' := fun D m hm => by
    rw [preR, nm, if_pos (by decide), if_neg (by omega), if_neg (by omega), if_neg (by omega)]
    obtain ⟨m, rfl⟩ : ∃ q, m = q + i' + 1 := ⟨m - i' - 1, by omega⟩
    rw [show m + i' + 1 - i' - 1 = m by omega]
    exact q9 m
  by_cases e : h + i' < T ∧ 48 ≤ v (h + i') ∧ v (h + i') ≤ 57
  · refine Or.inr ⟨20, h + i', j + 1, nI k, _, asR (sI τ' 0 15 (nI (h + i'))) j 1 val', ⟨by omega, hN', by omega, ⟨k + 1, xs⟩, q4.wr.as 1 val', kx.lo (by omega), ((q7.lo (by omega)).tr (KR.s0 0 τ' (by omega) (by omega) _) (Nat.le_refl _)).tr (asR_k _ j 1 val') (by omega), Or.inr e⟩, fun D m hD hm => ?_, fun D m hD hm => ?_⟩
    · obtain ⟨D, rfl⟩ : ∃ q, D = q + 1 := ⟨D - 1, by omega⟩
      exact goX D m hm
    · obtain ⟨D, rfl⟩ : ∃ q, D = q + 1 := ⟨D - 1, by omega⟩
      refine (goR D m hm).trans ?_
      obtain ⟨u, hu⟩ : ∃ u, m - i' - 1 = u + 1 + 1 := ⟨m - i' - 3, by omega⟩
      rw [hu]
      show B_X12_figure_2 (L_X12_figure (u + 1)) (u + 1) val' (nI i') τ' = _
      unfold B_X12_figure_2
      rw [if_neg (by rw [i_eq, i_n (by omega), t0]; omega), look12 q4.1 s1 e.1, bd_some, in48 _ (s5 _ e.1).1, if_pos e.2, bd_some, if_neg (by decide)]
      show B_X12_figure_3 (L_X12_figure u) u val' τ' = _
      unfold B_X12_figure_3
      rw [wr12 q4, bd_some, as12 (show gI (sI τ' 0 15 (nI (h + i'))) 0 17 = nI j from q4.1.2.2.2) (by omega) byt_1, bd_some]
  · refine Or.inl ⟨20, h + i', 1, apX σ' k 48 0 0 val', asR τ' j 1 val', ⟨by omega, hN', by omega, by omega, xs, q4.as 1 val', kx, ((q7.lo (by omega)).tr (asR_k _ j 1 val') (Nat.le_refl _)), fun s => Seg.one (Or.inl ⟨?_, ?_, ?_, rfl⟩)⟩, fun D m hD hm => ?_, fun D m hD hm => ?_⟩
    · rw [asR_10, if_pos rfl]
    · show gI (apX σ' k 48 0 0 val') 33 k = 48
      rw [apX_33, if_pos rfl]
    · show gI (apX σ' k 48 0 0 val') 36 k = _
      rw [apX_36, if_pos rfl, asR_11, if_pos rfl]
    · obtain ⟨D, rfl⟩ : ∃ q, D = q + 1 := ⟨D - 1, by omega⟩
      exact goX D m hm
    · obtain ⟨D, rfl⟩ : ∃ q, D = q + 1 := ⟨D - 1, by omega⟩
      refine (goR D m hm).trans ?_
      obtain ⟨u, hu⟩ : ∃ u, m - i' - 1 = u + 1 := ⟨m - i' - 2, by omega⟩
      rw [hu]
      show B_X12_figure_2 (L_X12_figure u) u val' (nI i') τ' = _
      unfold B_X12_figure_2
      rw [if_neg (by rw [i_eq, i_n (by omega), t0]; omega)]
      by_cases e1 : h + i' < T
      · rw [look12 q4.1 s1 e1, bd_some, in48 _ (s5 _ e1).1, if_neg (fun z => e ⟨e1, z⟩), bd_some, if_pos rfl, as12 q4.1.2.2.2 (by omega) byt_1, bd_some]
      · rw [lookE q4.1 s1 (by omega), bd_some, inM1, bd_some, if_pos rfl, as12 q4.1.2.2.2 (by omega) byt_1, bd_some]
theorem op_brk {o h j k : Nat} {σ τ : St} (ho : o ≤ 6) (hX : XS v T h k σ) (hR : RS v T h o j τ) (hk : k ≤ h) (hj : j ≤ h) (c : h < T) (d : ¬ (48 ≤ v h ∧ v h ≤ 57)) (hn : nmI (sb (v h)) = -1) (c6 : o < 6) (hPJ : PJ v T 0 (o + 1)) (e40 : v h = 40) : OC v T o h j k σ τ (7 * (6 - o)) (fun D m => F_X8_readJoined D 1 m (nI o) 0 σ) (fun D m => F_X12_either D 5 m τ) := by
  obtain ⟨s1, s2, s3, s4, s5, s6, s7, s8⟩ := id hX
  obtain ⟨c1, c2⟩ := s5 h c
  have preX := preX8 ho hX c
  have preR := preR8 s1 hR c c1
  have ng : nmI (sb (v h)) < 0 := by rw [hn]; decide
  have lo : nI o < (6 : Int32) := by rw [i_lt, i_n (by omega), t6]; omega
  have opR : ∀ m, F_X12_opens m τ = some (1, sI (sI τ 0 16 (nI (o + 1))) 0 14 (nI (h + 1))) := fun m => by
    unfold F_X12_opens
    rw [hR.2.2, if_neg (by rw [show (6 : Int32) = nI 6 from rfl, nI_inj (by omega) (by omega)]; omega), n_a1, bnd_eq, show gI (sI τ 0 16 (nI (o + 1))) 0 14 = nI h from hR.1.2.2.1, n_a1, bnd_eq]
  have hX1 : XS v T (h + 1) k (sI σ 9 2 (nI (h + 1))) := hX.to (by omega)
  have hR1 : RS v T (h + 1) (o + 1) j (sI (sI τ 0 16 (nI (o + 1))) 0 14 (nI (h + 1))) := ⟨⟨hR.1.1, hR.1.2.1, rfl, hR.1.2.2.2⟩, hR.2.1, rfl⟩
  have kr1 : ∀ q, KR q τ (sI (sI τ 0 16 (nI (o + 1))) 0 14 (nI (h + 1))) := fun q => (KR.s0 q τ (by omega) (by omega) _).tr (KR.s0 q _ (by omega) (by omega) _) (Nat.le_refl _)
  have kx1 : ∀ q, KX q σ (sI σ 9 2 (nI (h + 1))) := fun q => KX.s9 q σ _
  have gX : ∀ D m, F_X8_readJoined (D + 1) 1 m (nI o) 0 σ = (bd (F_X8_readJoined D 0 m (nI 0) (nI (o + 1)) (sI σ 9 2 (nI (h + 1)))) fun r13 s12 => if r13 = (-1 : Int32) then (some ((-1 : Int32), s12)) else (bd (F_X8_takes m (41 : Int32) s12) fun r15 s14 => if r15 = 0 then (some ((-1 : Int32), s14)) else (some (r13, s14)))) := fun D m => by
    rw [preX, if_neg d, if_pos ng, if_pos lo, tks8 hX (Q := 40) (q := 40) rfl (by decide), if_pos ⟨c, e40⟩, bd_some, if_neg (by decide)]
    rfl
  have gR : ∀ D m, F_X12_either (D + 1) 5 m τ = (bd (F_X12_either D 0 m (sI (sI τ 0 16 (nI (o + 1))) 0 14 (nI (h + 1)))) fun _ s8 => if (gI s8 0 15) < 0 then (bd (F_X12_look m  s8) fun r10 s9 => if r10 = (41 : Int32) then (bnd (sI s9 0 14 ((gI s9 0 14) + (1 : Int32))) fun s11 => bnd (sI s11 0 16 ((gI s11 0 16) - (1 : Int32))) fun s12 => some ((), s12)) else (F_X12_wrong m  s9)) else (some ((), s8))) := fun D m => by
    rw [preR, if_pos ng, if_neg (by omega), if_neg (by omega), if_pos e40, opR, bd_some, if_neg (by decide)]
  rcases hPJ (h + 1) j k _ _ hX1 hR1 (by omega) (by omega) with ⟨C0, h', n, σ2, τ2, ⟨g1, g2, g3, g4, g5, g6, g7, g8, g9⟩, f1, f2⟩ | ⟨C0, h', j', p, σ2, τ2, ⟨g1, g2, g3, g4, g5, g6, g7, g8⟩, f1, f2⟩
  · have f0 : gI τ2 0 15 < 0 := by rw [g6.2.1]; decide
    by_cases e41 : h' < T ∧ v h' = 41
    · refine Or.inl ⟨C0 + 20, h' + 1, n, sI σ2 9 2 (nI (h' + 1)), sI (sI τ2 0 14 (nI (h' + 1))) 0 16 (nI o), ⟨by omega, by omega, g3, by omega, g5.to (by omega), ⟨⟨g6.1.1, g6.1.2.1, rfl, g6.1.2.2.2⟩, g6.2.1, rfl⟩, ((kx1 k).tr g7 (Nat.le_refl _)).tr (KX.s9 k _ _) (Nat.le_refl _), (((kr1 j).tr g8 (Nat.le_refl _)).tr (KR.s0 j τ2 (by omega) (by omega) _) (Nat.le_refl _)).tr (KR.s0 j _ (by omega) (by omega) _) (Nat.le_refl _), fun s => (g9 s).kp (KX.s9 (k + n) _ _) ((KR.s0 (j + n) τ2 (by omega) (by omega) _).tr (KR.s0 (j + n) _ (by omega) (by omega) _) (Nat.le_refl _)) (Nat.le_refl _) (Nat.le_refl _)⟩, fun D m hD hm => ?_, fun D m hD hm => ?_⟩
      · obtain ⟨D, rfl⟩ : ∃ q, D = q + 1 := ⟨D - 1, by omega⟩
        refine (gX D m).trans ?_
        refine Eq.trans (congrArg (fun z => bd z _) (f1 D m (by omega) (by omega))) ?_
        rw [bd_some, if_neg (nI_nm1 (by have := g5.2.2.1; omega)), tks8 g5 (Q := 41) (q := 41) rfl (by decide), if_pos e41, bd_some, if_neg (by decide)]
      · obtain ⟨D, rfl⟩ : ∃ q, D = q + 1 := ⟨D - 1, by omega⟩
        refine (gR D m).trans ?_
        refine Eq.trans (congrArg (fun z => bd z _) (f2 D m (by omega) (by omega))) ?_
        rw [bd_some, if_pos f0, look12 g6.1 s1 e41.1, bd_some, if_pos (by rw [e41.2]; rfl), g6.1.2.2.1, n_a1, bnd_eq, show gI (sI τ2 0 14 (nI (h' + 1))) 0 16 = nI (o + 1) from g6.2.2, n_s1, bnd_eq]
    · refine Or.inr ⟨C0 + 20, h', j + n, -1, σ2, sI τ2 0 15 (nI h'), ⟨by omega, g2, by omega, ⟨_, g5⟩, g6.wr, ((kx1 0).tr g7 (by omega)), ((kr1 0).tr g8 (by omega)).tr (KR.s0 0 τ2 (by omega) (by omega) _) (Nat.le_refl _), Or.inl rfl⟩, fun D m hD hm => ?_, fun D m hD hm => ?_⟩
      · obtain ⟨D, rfl⟩ : ∃ q, D = q + 1 := ⟨D - 1, by omega⟩
        refine (gX D m).trans ?_
        refine Eq.trans (congrArg (fun z => bd z _) (f1 D m (by omega) (by omega))) ?_
        rw [bd_some, if_neg (nI_nm1 (by have := g5.2.2.1; omega)), tks8 g5 (Q := 41) (q := 41) rfl (by decide), if_neg e41, bd_some, if_pos rfl]
      · obtain ⟨D, rfl⟩ : ∃ q, D = q + 1 := ⟨D - 1, by omega⟩
        refine (gR D m).trans ?_
        refine Eq.trans (congrArg (fun z => bd z _) (f2 D m (by omega) (by omega))) ?_
        rw [bd_some, if_pos f0]
        by_cases e : h' < T
        · rw [look12 g6.1 s1 e, bd_some, if_neg (by rw [show (41 : Int32) = nI 41 from rfl, sb_eq (s5 _ e).1 (by decide)]; exact fun z => e41 ⟨e, z⟩), wr12 g6]
        · rw [lookE g6.1 s1 (by omega), bd_some, if_neg (by decide), wr12 g6]
  · obtain ⟨k2, g4'⟩ := id g4
    refine Or.inr ⟨C0 + 20, h', j', -1, σ2, τ2, ⟨by omega, g2, by omega, g4, g5, (kx1 0).tr g6 (Nat.le_refl _), (kr1 0).tr g7 (Nat.le_refl _), Or.inl rfl⟩, fun D m hD hm => ?_, fun D m hD hm => ?_⟩
    · obtain ⟨D, rfl⟩ : ∃ q, D = q + 1 := ⟨D - 1, by omega⟩
      refine (gX D m).trans ?_
      refine Eq.trans (congrArg (fun z => bd z _) (f1 D m (by omega) (by omega))) ?_
      rw [bd_some]
      by_cases e : p = -1
      · rw [if_pos e]
      · have g8' := g8.resolve_left e
        rw [if_neg e, tks8 g4' (Q := 41) (q := 41) rfl (by decide), if_neg (by omega), bd_some, if_pos rfl]
    · obtain ⟨D, rfl⟩ : ∃ q, D = q + 1 := ⟨D - 1, by omega⟩
      refine (gR D m).trans ?_
      refine Eq.trans (congrArg (fun z => bd z _) (f2 D m (by omega) (by omega))) ?_
      rw [bd_some, if_neg (by rw [g5.2, i_lt, i_n (by omega), t0]; omega)]
theorem op_sgn {o h j k : Nat} {σ τ : St} (ho : o ≤ 6) (hX : XS v T h k σ) (hR : RS v T h o j τ) (hk : k ≤ h) (hj : j ≤ h) (c : h < T) (d : ¬ (48 ≤ v h ∧ v h ≤ 57)) (hn : nmI (sb (v h)) = -1) (c6 : o < 6) (hPO : PO v T (o + 1)) (e40 : ¬ v h = 40) (e3 : v h = 33 ∨ v h = 45) : OC v T o h j k σ τ (7 * (6 - o)) (fun D m => F_X8_readJoined D 1 m (nI o) 0 σ) (fun D m => F_X12_either D 5 m τ) := by
  obtain ⟨s1, s2, s3, s4, s5, s6, s7, s8⟩ := id hX
  obtain ⟨c1, c2⟩ := s5 h c
  have preX := preX8 ho hX c
  have preR := preR8 s1 hR c c1
  have ng : nmI (sb (v h)) < 0 := by rw [hn]; decide
  have lo : nI o < (6 : Int32) := by rw [i_lt, i_n (by omega), t6]; omega
  have opR : ∀ m, F_X12_opens m τ = some (1, sI (sI τ 0 16 (nI (o + 1))) 0 14 (nI (h + 1))) := fun m => by
    unfold F_X12_opens
    rw [hR.2.2, if_neg (by rw [show (6 : Int32) = nI 6 from rfl, nI_inj (by omega) (by omega)]; omega), n_a1, bnd_eq, show gI (sI τ 0 16 (nI (o + 1))) 0 14 = nI h from hR.1.2.2.1, n_a1, bnd_eq]
  have hX1 : XS v T (h + 1) k (sI σ 9 2 (nI (h + 1))) := hX.to (by omega)
  have hR1 : RS v T (h + 1) (o + 1) j (sI (sI τ 0 16 (nI (o + 1))) 0 14 (nI (h + 1))) := ⟨⟨hR.1.1, hR.1.2.1, rfl, hR.1.2.2.2⟩, hR.2.1, rfl⟩
  have kr1 : ∀ q, KR q τ (sI (sI τ 0 16 (nI (o + 1))) 0 14 (nI (h + 1))) := fun q => (KR.s0 q τ (by omega) (by omega) _).tr (KR.s0 q _ (by omega) (by omega) _) (Nat.le_refl _)
  have kx1 : ∀ q, KX q σ (sI σ 9 2 (nI (h + 1))) := fun q => KX.s9 q σ _
  have gX : ∀ D m, F_X8_readJoined (D + 1) 1 m (nI o) 0 σ = L_X8_readOne (F_X8_readJoined D) m 1 (nI o) (nI (v h)) (sI σ 9 2 (nI (h + 1))) := fun D m => by
    rw [preX, if_neg d, if_pos ng, if_pos lo, tks8 hX (Q := 40) (q := 40) rfl (by decide), if_neg (fun z => e40 z.2), bd_some, if_pos rfl, tks8 hX (Q := 33) (q := 33) rfl (by decide)]
    by_cases e : v h = 33
    · rw [if_pos ⟨c, e⟩, bd_some, if_neg (by decide)]
    · rw [if_neg (fun z => e z.2), bd_some, if_pos rfl, tks8 hX (Q := 45) (q := 45) rfl (by decide), if_pos ⟨c, e3.resolve_left e⟩, bd_some, if_neg (by decide)]
  have gR : ∀ D m, F_X12_either (D + 1) 5 m τ = L_X12_operand (F_X12_either D) m 1 (sb (v h)) τ := fun D m => by
    rw [preR, if_pos ng]
    by_cases e : v h = 33
    · rw [if_pos e]
    · rw [if_neg e, if_pos (e3.resolve_left e)]
  -- the step of each
  have stX : ∀ D m, L_X8_readOne (F_X8_readJoined D) (m + 1) 1 (nI o) (nI (v h)) (sI σ 9 2 (nI (h + 1))) = bd (F_X8_readJoined D 1 m (nI (o + 1)) 0 (sI σ 9 2 (nI (h + 1)))) fun r24 s23 => if r24 = (-1 : Int32) then (some ((-1 : Int32), s23)) else (F_X7_add m 32 (nI (if v h = 45 then 95 else 33)) r24 (0 : Int32) s23) := fun D m => by
    show B_X8_readOne_1 (F_X8_readJoined D) (L_X8_readOne (F_X8_readJoined D) m) m (nI o) (nI (v h)) _ = _
    unfold B_X8_readOne_1
    rw [n_a1]
    simp only [bd_id]
    by_cases e : v h = 45
    · have z : nI (v h) = (45 : Int32) := by rw [e]; rfl
      simp only [if_pos z, if_pos e]
      rw [show (95 : Int32) = nI 95 from rfl]
    · have z : ¬ nI (v h) = (45 : Int32) := by
        rw [show (45 : Int32) = nI 45 from rfl, nI_inj (by omega) (by decide)]
        exact e
      simp only [if_neg z, if_neg e]
      rw [e3.resolve_right e]
  have stR : ∀ D m, L_X12_operand (F_X12_either D) (m + 1) 1 (sb (v h)) τ = bd (F_X12_either D 5 m (sI (sI τ 0 16 (nI (o + 1))) 0 14 (nI (h + 1)))) fun _ s20 => F_X12_addStep m (nI (if v h = 45 then 4 else 3)) (0 : Int32) (sI s20 0 16 ((gI s20 0 16) - (1 : Int32))) := fun D m => by
    show B_X12_operand_1 (F_X12_either D) (L_X12_operand (F_X12_either D) m) m (sb (v h)) τ = _
    unfold B_X12_operand_1
    rw [opR, bd_some, if_neg (by decide)]
    have u1 : ∀ (x : Option (Unit × St)), (bd x fun _ s13 => some ((), s13)) = x := fun x => bd_id x
    simp only [bnd_eq, u1]
    by_cases e : v h = 45
    · have z : ¬ sb (v h) = (33 : Int32) := by rw [e]; decide
      simp only [if_neg z, if_pos e]
      rw [show (4 : Int32) = nI 4 from rfl]
    · have z : sb (v h) = (33 : Int32) := by rw [e3.resolve_right e]; decide
      simp only [if_pos z, if_neg e]
      rw [show (3 : Int32) = nI 3 from rfl]
  rcases hPO (h + 1) j k _ _ hX1 hR1 (by omega) (by omega) with ⟨C0, h', n, σ2, τ2, ⟨g1, g2, g3, g4, g5, g6, g7, g8, g9⟩, f1, f2⟩ | ⟨C0, h', j', p, σ2, τ2, ⟨g1, g2, g3, g4, g5, g6, g7, g8⟩, f1, f2⟩
  · have k3 := g5.2.2.1
    have r16 : RS v T h' o (j + n) (sI τ2 0 16 (nI o)) := ⟨⟨g6.1.1, g6.1.2.1, g6.1.2.2.1, g6.1.2.2.2⟩, g6.2.1, rfl⟩
    have ch := chr1 (if v h = 45 then 95 else 33) (by split <;> decide)
    refine Or.inl ⟨C0 + 20, h', n + 1, apX σ2 (k + n) (nI (if v h = 45 then 95 else 33)) (nI (k + n - 1)) 0 0, asR (sI τ2 0 16 (nI o)) (j + n) (nI (if v h = 45 then 4 else 3)) 0, ⟨by omega, g2, by omega, by omega, g5.ap (by omega) ch.2 _ _ _, r16.as _ _, ((kx1 k).tr g7 (Nat.le_refl _)).tr (apX_k σ2 (k + n) _ _ _ _) (by omega), (((kr1 j).tr g8 (Nat.le_refl _)).tr (KR.s0 j τ2 (by omega) (by omega) _) (Nat.le_refl _)).tr (asR_k _ (j + n) _ _) (by omega), fun s => ?_⟩, fun D m hD hm => ?_, fun D m hD hm => ?_⟩
    · refine ((g9 s).kp (apX_k σ2 (k + n) _ _ _ _) ((KR.s0 (j + n) τ2 (by omega) (by omega) _).tr (asR_k _ (j + n) _ _) (Nat.le_refl _)) (Nat.le_refl _) (Nat.le_refl _)).app (Seg.one ?_)
      have z10 : gI (asR (sI τ2 0 16 (nI o)) (j + n) (nI (if v h = 45 then 4 else 3)) 0) 10 (130 + (j + n)) = nI (if v h = 45 then 4 else 3) := by rw [asR_10, if_pos rfl]
      have z33 : gI (apX σ2 (k + n) (nI (if v h = 45 then 95 else 33)) (nI (k + n - 1)) 0 0) (32 + 1) (k + n) = nI (if v h = 45 then 95 else 33) := by
        show gI (apX σ2 (k + n) _ _ _ _) 33 (k + n) = _
        rw [apX_33, if_pos rfl]
      have z34 : gI (apX σ2 (k + n) (nI (if v h = 45 then 95 else 33)) (nI (k + n - 1)) 0 0) (32 + 2) (k + n) = nI (k + n - 1) := by
        show gI (apX σ2 (k + n) _ _ _ _) 34 (k + n) = _
        rw [apX_34, if_pos rfl]
      have z35 : gI (apX σ2 (k + n) (nI (if v h = 45 then 95 else 33)) (nI (k + n - 1)) 0 0) (32 + 3) (k + n) = 0 := by
        show gI (apX σ2 (k + n) _ _ _ _) 35 (k + n) = _
        rw [apX_35, if_pos rfl]
      unfold Tok
      rw [z10, z33, z34, z35]
      by_cases e : v h = 45
      · exact Or.inr (Or.inr (Or.inr (Or.inl ⟨k + n - 1, s, rfl, by rw [if_pos e]; rfl, by rw [if_pos e]; rfl, rfl, rfl, by rw [show k + (n + 1) - 1 = k + n by omega]⟩)))
      · exact Or.inr (Or.inr (Or.inl ⟨k + n - 1, s, rfl, by rw [if_neg e]; rfl, by rw [if_neg e]; rfl, rfl, rfl, by rw [show k + (n + 1) - 1 = k + n by omega]⟩))
    · obtain ⟨D, rfl⟩ : ∃ q, D = q + 1 := ⟨D - 1, by omega⟩
      obtain ⟨m, rfl⟩ : ∃ q, m = q + 1 := ⟨m - 1, by omega⟩
      refine ((gX D (m + 1)).trans (stX D m)).trans ?_
      refine Eq.trans (congrArg (fun z => bd z _) (f1 D m (by omega) (by omega))) ?_
      rw [bd_some, if_neg (nI_nm1 (by omega)), show (0 : Int32) = nI 0 from rfl, add7 g5.2.2.2.2.2.2.1 (by omega) (by omega) (by omega) ch.1, show k + (n + 1) - 1 = k + n by omega]
      rfl
    · obtain ⟨D, rfl⟩ : ∃ q, D = q + 1 := ⟨D - 1, by omega⟩
      obtain ⟨m, rfl⟩ : ∃ q, m = q + 1 := ⟨m - 1, by omega⟩
      refine ((gR D (m + 1)).trans (stR D m)).trans ?_
      refine Eq.trans (congrArg (fun z => bd z _) (f2 D m (by omega) (by omega))) ?_
      rw [bd_some, g6.2.2, n_s1, as12 (show gI (sI τ2 0 16 (nI o)) 0 17 = nI (j + n) from g6.1.2.2.2) (by omega) (byt1 _ (by split <;> decide))]
  · -- behind a fault
    have rb16 : ∀ x, RB v T h' j' (sI τ2 0 16 x) := fun x => ⟨⟨g5.1.1, g5.1.2.1, g5.1.2.2.1, g5.1.2.2.2⟩, g5.2⟩
    obtain ⟨p', σ3, a1, a2, a3⟩ := addB g4 (c := if v h = 45 then 95 else 33) (by split <;> decide) p 0
    refine Or.inr ⟨C0 + 20, h', j' + 1, if p = -1 then -1 else p', if p = -1 then σ2 else σ3, asR (sI τ2 0 16 (gI τ2 0 16 - 1)) j' (nI (if v h = 45 then 4 else 3)) 0, ⟨by omega, g2, by omega, ?_, (rb16 _).as _ _, ?_, (((kr1 0).tr g7 (Nat.le_refl _)).tr (KR.s0 0 τ2 (by omega) (by omega) _) (Nat.le_refl _)).tr (asR_k _ j' _ _) (by omega), ?_⟩, fun D m hD hm => ?_, fun D m hD hm => ?_⟩
    · split
      · exact g4
      · exact a2
    · split
      · exact (kx1 0).tr g6 (Nat.le_refl _)
      · exact ((kx1 0).tr g6 (Nat.le_refl _)).tr a3 (Nat.le_refl _)
    · by_cases e : p = -1
      · rw [if_pos e]
        exact Or.inl rfl
      · exact Or.inr (g8.resolve_left e)
    · obtain ⟨D, rfl⟩ : ∃ q, D = q + 1 := ⟨D - 1, by omega⟩
      obtain ⟨m, rfl⟩ : ∃ q, m = q + 1 := ⟨m - 1, by omega⟩
      refine ((gX D (m + 1)).trans (stX D m)).trans ?_
      refine Eq.trans (congrArg (fun z => bd z _) (f1 D m (by omega) (by omega))) ?_
      rw [bd_some]
      by_cases e : p = -1
      · rw [if_pos e, if_pos e, if_pos e]
      · rw [if_neg e, if_neg e, if_neg e, a1]
    · obtain ⟨D, rfl⟩ : ∃ q, D = q + 1 := ⟨D - 1, by omega⟩
      obtain ⟨m, rfl⟩ : ∃ q, m = q + 1 := ⟨m - 1, by omega⟩
      refine ((gR D (m + 1)).trans (stR D m)).trans ?_
      refine Eq.trans (congrArg (fun z => bd z _) (f2 D m (by omega) (by omega))) ?_
      rw [bd_some, as12 (show gI (sI τ2 0 16 (gI τ2 0 16 - 1)) 0 17 = nI j' from g5.1.2.2.2) (by omega) (byt1 _ (by split <;> decide))]
theorem op_bad {o h j k : Nat} {σ τ : St} (ho : o ≤ 6) (hX : XS v T h k σ) (hR : RS v T h o j τ) (hk : k ≤ h) (hj : j ≤ h) (c : h < T) (d : ¬ (48 ≤ v h ∧ v h ≤ 57)) (hn : nmI (sb (v h)) = -1) (c6 : o < 6) (e40 : ¬ v h = 40) (e3 : ¬ (v h = 33 ∨ v h = 45)) : OC v T o h j k σ τ (7 * (6 - o)) (fun D m => F_X8_readJoined D 1 m (nI o) 0 σ) (fun D m => F_X12_either D 5 m τ) := by
  obtain ⟨s1, s2, s3, s4, s5, s6, s7, s8⟩ := id hX
  obtain ⟨c1, c2⟩ := s5 h c
  have preX := preX8 ho hX c
  have preR := preR8 s1 hR c c1
  have ng : nmI (sb (v h)) < 0 := by rw [hn]; decide
  have lo : nI o < (6 : Int32) := by rw [i_lt, i_n (by omega), t6]; omega
  obtain ⟨τ2, b1, b2, b3⟩ := figB s1 hR (by omega) s2 (fun _ => ⟨c1, d⟩)
  refine Or.inr ⟨20, h, j + 1, -1, σ, τ2, ⟨Nat.le_refl _, s2, by omega, ⟨k, hX⟩, b2, KX.rf 0 σ, b3, Or.inl rfl⟩, fun D m hD hm => ?_, fun D m hD hm => ?_⟩
  · obtain ⟨D, rfl⟩ : ∃ q, D = q + 1 := ⟨D - 1, by omega⟩
    refine (preX D m).trans ?_
    rw [if_neg d, if_pos ng, if_pos lo, tks8 hX (Q := 40) (q := 40) rfl (by decide), if_neg (fun z => e40 z.2), bd_some, if_pos rfl, tks8 hX (Q := 33) (q := 33) rfl (by decide), if_neg (fun z => e3 (Or.inl z.2)), bd_some, if_pos rfl, tks8 hX (Q := 45) (q := 45) rfl (by decide), if_neg (fun z => e3 (Or.inr z.2)), bd_some, if_pos rfl]
  · obtain ⟨D, rfl⟩ : ∃ q, D = q + 1 := ⟨D - 1, by omega⟩
    refine (preR D m).trans ?_
    rw [if_pos ng, if_neg (fun z => e3 (Or.inl z)), if_neg (fun z => e3 (Or.inr z)), if_neg e40]
    exact b1 m (by omega)
theorem op_six {o h j k : Nat} {σ τ : St} (ho : o ≤ 6) (hX : XS v T h k σ) (hR : RS v T h o j τ) (hk : k ≤ h) (hj : j ≤ h) (c : h < T) (d : ¬ (48 ≤ v h ∧ v h ≤ 57)) (hn : nmI (sb (v h)) = -1) (c6 : ¬ o < 6) : OC v T o h j k σ τ (7 * (6 - o)) (fun D m => F_X8_readJoined D 1 m (nI o) 0 σ) (fun D m => F_X12_either D 5 m τ) := by
  obtain ⟨s1, s2, s3, s4, s5, s6, s7, s8⟩ := id hX
  obtain ⟨c1, c2⟩ := s5 h c
  have preX := preX8 ho hX c
  have preR := preR8 s1 hR c c1
  have ng : nmI (sb (v h)) < 0 := by rw [hn]; decide
  have gX : ∀ D m, F_X8_readJoined (D + 1) 1 m (nI o) 0 σ = some (-1, σ) := fun D m => by
    rw [preX, if_neg d, if_pos ng, if_neg (by rw [i_lt, i_n (by omega), t6]; omega)]
  by_cases e3 : v h = 33 ∨ v h = 45 ∨ v h = 40
  · have op6 : ∀ m, F_X12_opens m τ = some (0, sI τ 0 15 (nI h)) := fun m => by
      unfold F_X12_opens
      rw [hR.2.2, if_pos (by rw [show o = 6 by omega]; rfl), wr12 hR, bd_some]
    refine Or.inr ⟨20, h, j, -1, σ, sI τ 0 15 (nI h), ⟨Nat.le_refl _, s2, by omega, ⟨k, hX⟩, hR.wr, KX.rf 0 σ, KR.s0 0 τ (by omega) (by omega) _, Or.inl rfl⟩, fun D m hD hm => ?_, fun D m hD hm => ?_⟩
    · obtain ⟨D, rfl⟩ : ∃ q, D = q + 1 := ⟨D - 1, by omega⟩
      exact gX D m
    · obtain ⟨D, rfl⟩ : ∃ q, D = q + 1 := ⟨D - 1, by omega⟩
      refine (preR D m).trans ?_
      rw [if_pos ng]
      obtain ⟨m, rfl⟩ : ∃ q, m = q + 1 := ⟨m - 1, by omega⟩
      have s1' : L_X12_operand (F_X12_either D) (m + 1) 1 (sb (v h)) τ = some ((), sI τ 0 15 (nI h)) := by
        show B_X12_operand_1 (F_X12_either D) (L_X12_operand (F_X12_either D) m) m (sb (v h)) τ = _
        unfold B_X12_operand_1
        rw [op6, bd_some, if_pos rfl]
      rcases e3 with e | e | e
      · rw [if_pos e]
        exact s1'
      · rw [if_neg (by omega), if_pos e]
        exact s1'
      · rw [if_neg (by omega), if_neg (by omega), if_pos e, op6, bd_some, if_pos rfl]
  · obtain ⟨τ2, b1, b2, b3⟩ := figB s1 hR (by omega) s2 (fun _ => ⟨c1, d⟩)
    refine Or.inr ⟨20, h, j + 1, -1, σ, τ2, ⟨Nat.le_refl _, s2, by omega, ⟨k, hX⟩, b2, KX.rf 0 σ, b3, Or.inl rfl⟩, fun D m hD hm => ?_, fun D m hD hm => ?_⟩
    · obtain ⟨D, rfl⟩ : ∃ q, D = q + 1 := ⟨D - 1, by omega⟩
      exact gX D m
    · obtain ⟨D, rfl⟩ : ∃ q, D = q + 1 := ⟨D - 1, by omega⟩
      refine (preR D m).trans ?_
      rw [if_pos ng, if_neg (fun z => e3 (Or.inl z)), if_neg (fun z => e3 (Or.inr (Or.inl z))), if_neg (fun z => e3 (Or.inr (Or.inr z)))]
      exact b1 m (by omega)
theorem op_nam {o h j k : Nat} {σ τ : St} (ho : o ≤ 6) (hX : XS v T h k σ) (hR : RS v T h o j τ) (hk : k ≤ h) (hj : j ≤ h) (c : h < T) (d : ¬ (48 ≤ v h ∧ v h ≤ 57)) (hn : ¬ nmI (sb (v h)) = -1) : OC v T o h j k σ τ (7 * (6 - o)) (fun D m => F_X8_readJoined D 1 m (nI o) 0 σ) (fun D m => F_X12_either D 5 m τ) := by
  obtain ⟨s1, s2, s3, s4, s5, s6, s7, s8⟩ := id hX
  obtain ⟨c1, c2⟩ := s5 h c
  have preX := preX8 ho hX c
  have preR := preR8 s1 hR c c1
  obtain ⟨i, hi, en⟩ := nm_i c1 hn
  have hX1 : XS v T (h + 1) k (sI σ 9 2 (nI (h + 1))) := hX.to (by omega)
  have npos : ¬ nI i < (0 : Int32) := by rw [i_lt, i_n (by omega), t0]; omega
  refine Or.inl ⟨20, h + 1, 1, apX (sI σ 9 2 (nI (h + 1))) k 97 (nI i) 0 0, sI (asR τ j 2 (nI i)) 0 14 (nI (h + 1)), ⟨by omega, by omega, by omega, by omega, hX1.ap (by omega) chr_97.2 _ _ _, (hR.as 2 (nI i)).to, (KX.s9 k σ _).tr (apX_k _ k _ _ _ _) (Nat.le_refl _), (asR_k τ j 2 (nI i)).tr (KR.s0 j _ (by omega) (by omega) _) (Nat.le_refl _), fun s => Seg.one (Or.inr (Or.inl ⟨i, hi, ?_, ?_, ?_, ?_, ?_, rfl⟩))⟩, fun D m hD hm => ?_, fun D m hD hm => ?_⟩
  · show gI (asR τ j 2 (nI i)) 10 (130 + j) = 2
    rw [asR_10, if_pos rfl]
  · show gI (asR τ j 2 (nI i)) 11 (130 + j) = _
    rw [asR_11, if_pos rfl]
  · show gI (apX _ k 97 (nI i) 0 0) 33 k = 97
    rw [apX_33, if_pos rfl]
  · show gI (apX _ k 97 (nI i) 0 0) 34 k = _
    rw [apX_34, if_pos rfl]
  · show gI (apX _ k 97 (nI i) 0 0) 35 k = _
    rw [apX_35, if_pos rfl]
  · obtain ⟨D, rfl⟩ : ∃ q, D = q + 1 := ⟨D - 1, by omega⟩
    refine (preX D m).trans ?_
    rw [if_neg d, en, if_neg npos]
    unfold F_X7_addName
    rw [if_neg npos, if_pos (by rw [i_lt, i_n (by omega)]; show (i : Int) < 242; omega), ap7 hX1.2.2.2.2.2.2.1 (by omega) chr_97.1, bd_some]
    rfl
  · obtain ⟨D, rfl⟩ : ∃ q, D = q + 1 := ⟨D - 1, by omega⟩
    refine (preR D m).trans ?_
    rw [en, if_neg npos, as12 hR.1.2.2.2 (by omega) byt_2, bd_some, show gI (asR τ j 2 (nI i)) 0 14 = nI h from hR.1.2.2.1, n_a1, bnd_eq]
theorem op_end {o h j k : Nat} {σ τ : St} (ho : o ≤ 6) (hX : XS v T h k σ) (hR : RS v T h o j τ) (hk : k ≤ h) (hj : j ≤ h) (c : ¬ h < T) : OC v T o h j k σ τ (7 * (6 - o)) (fun D m => F_X8_readJoined D 1 m (nI o) 0 σ) (fun D m => F_X12_either D 5 m τ) := by
  obtain ⟨s1, s2, s3, s4, s5, s6, s7, s8⟩ := id hX
  have EX : ∀ D m, F_X8_readJoined (D + 1) 1 m (nI o) 0 σ = E_X8_readOne (F_X8_readJoined D) m (nI o) σ := fun _ _ => rfl
  have ER : ∀ D m, F_X12_either (D + 1) 5 m τ = E_X12_operand (F_X12_either D) m τ := fun _ _ => rfl
  have eT : h = T := by omega
  obtain ⟨τ2, b1, b2, b3⟩ := figB s1 hR (by omega) s2 (fun z => absurd z c)
  refine Or.inr ⟨20, h, j + 1, -1, σ, τ2, ⟨Nat.le_refl _, s2, by omega, ⟨k, hX⟩, b2, KX.rf 0 σ, b3, Or.inl rfl⟩, fun D m hD hm => ?_, fun D m hD hm => ?_⟩
  · obtain ⟨D, rfl⟩ : ∃ q, D = q + 1 := ⟨D - 1, by omega⟩
    refine (EX D m).trans ?_
    unfold E_X8_readOne
    rw [s6, s4, if_neg (by rw [i_lt, i_n (by omega), i_n (by omega)]; omega)]
  · obtain ⟨D, rfl⟩ : ∃ q, D = q + 1 := ⟨D - 1, by omega⟩
    refine (ER D m).trans ?_
    unfold E_X12_operand
    rw [lookE hR.1 s1 eT, bd_some, nm12, bd_some, nm_m1, if_pos (by decide), if_neg (by decide), if_neg (by decide), if_neg (by decide), b1 m (by omega), bd_some]
theorem operXR {o : Nat} (ho : o ≤ 6) (hPJ : o < 6 → PJ v T 0 (o + 1)) (hPO : o < 6 → PO v T (o + 1)) : PO v T o := by
  intro h j k σ τ hX hR hk hj
  by_cases c : h < T
  · by_cases d : 48 ≤ v h ∧ v h ≤ 57
    · exact op_num ho hX hR hk hj c d
    · by_cases hn : nmI (sb (v h)) = -1
      · by_cases c6 : o < 6
        · by_cases e40 : v h = 40
          · exact op_brk ho hX hR hk hj c d hn c6 (hPJ c6) e40
          · by_cases e3 : v h = 33 ∨ v h = 45
            · exact op_sgn ho hX hR hk hj c d hn c6 (hPO c6) e40 e3
            · exact op_bad ho hX hR hk hj c d hn c6 e40 e3
        · exact op_six ho hX hR hk hj c d hn c6
      · exact op_nam ho hX hR hk hj c d hn
  · exact op_end ho hX hR hk hj c
end OPER
