/-! quiet -/
theorem fm_max {N one : Nat} {sh : Nat → Nat} (h12 : ∀ c, sh c ≤ 12) (hN : N ≤ 7) : ∀ (m i : Nat) (fo mo : Int32), i + m = N → ((fo = -2 ∧ mo = -1 ∧ ∀ j, j < i → j = one) ∨ ∃ c, c < N ∧ c ≠ one ∧ fo = nI c ∧ mo = nI (sh c) ∧ ∀ j, j < i → j ≠ one → sh j ≤ sh c) → (∃ j, j < N ∧ j ≠ one) → ∃ c, c < N ∧ c ≠ one ∧ fm sh one m i fo mo = nI c ∧ ∀ j, j < N → j ≠ one → sh j ≤ sh c
  | 0, i, fo, mo, hi, hs, ⟨j0, k1, k2⟩ => by
    rcases hs with ⟨_, _, h⟩ | ⟨c, c1, c2, c3, c4, c5⟩
    · exact absurd (h j0 (by omega)) k2
    · exact ⟨c, c1, c2, c3, fun j hj => c5 j (by omega)⟩
  | m + 1, i, fo, mo, hi, hs, hj => by
    unfold fm
    by_cases c : i = one
    · rw [if_pos c]
      refine fm_max h12 hN m (i + 1) fo mo (by omega) ?_ hj
      rcases hs with ⟨e1, e2, h⟩ | ⟨c', c1, c2, c3, c4, c5⟩
      · exact Or.inl ⟨e1, e2, fun j hj => by
          by_cases cj : j = i
          · omega
          · exact h j (by omega)⟩
      · exact Or.inr ⟨c', c1, c2, c3, c4, fun j hj hne => c5 j (by omega) hne⟩
    · rw [if_neg c]
      by_cases cm : nI (sh i) ≤ mo
      · rw [if_pos cm]
        refine fm_max h12 hN m (i + 1) fo mo (by omega) ?_ hj
        have hi12 := h12 i
        rw [i_le, i_n (by omega)] at cm
        rcases hs with ⟨e1, e2, h⟩ | ⟨c', c1, c2, c3, c4, c5⟩
        · rw [e2, tm1] at cm
          omega
        · have hc12 := h12 c'
          rw [c4, i_n (by omega)] at cm
          exact Or.inr ⟨c', c1, c2, c3, c4, fun j hj hne => by
            by_cases cj : j = i
            · rw [cj]; omega
            · exact c5 j (by omega) hne⟩
      · rw [if_neg cm]
        refine fm_max h12 hN m (i + 1) (nI i) (nI (sh i)) (by omega) (Or.inr ⟨i, by omega, c, rfl, rfl, fun j hj hne => ?_⟩) hj
        have hi12 := h12 i
        rw [i_le, i_n (by omega)] at cm
        by_cases cj : j = i
        · rw [cj]; omega
        · rcases hs with ⟨e1, e2, h⟩ | ⟨c', c1, c2, c3, c4, c5⟩
          · exact absurd (h j (by omega)) hne
          · have hc12 := h12 c'
            rw [c4, i_n (by omega)] at cm
            have := c5 j (by omega) hne
            omega
def qw (w : Nat → Nat) (one : Nat) : Nat → Nat → Nat → Nat
  | 0, _, wo => wo
  | m + 1, i, wo => if i = one then qw w one m (i + 1) wo else qw w one m (i + 1) (if wo ≤ w i then wo else w i)
def qx (w : Nat → Nat) (one : Nat) : Nat → Nat → Nat → Nat
  | 0, _, wo => wo
  | m + 1, i, wo => if i = one then qx w one m (i + 1) wo else qx w one m (i + 1) (if w i ≤ wo then wo else w i)
theorem qw_sp (w : Nat → Nat) (one : Nat) : ∀ (m i wo : Nat), qw w one m i wo ≤ wo ∧ (∀ j, i ≤ j → j < i + m → j ≠ one → qw w one m i wo ≤ w j) ∧ (qw w one m i wo = wo ∨ ∃ j, i ≤ j ∧ j < i + m ∧ j ≠ one ∧ qw w one m i wo = w j)
  | 0, i, wo => ⟨Nat.le_refl _, fun j h1 h2 => by omega, Or.inl rfl⟩
  | m + 1, i, wo => by
    unfold qw
    by_cases c : i = one
    · rw [if_pos c]
      obtain ⟨e1, e2, e3⟩ := qw_sp w one m (i + 1) wo
      exact ⟨e1, fun j h1 h2 h3 => e2 j (by omega) (by omega) h3, e3.elim Or.inl (fun ⟨j, h1, h2, h3, h4⟩ => Or.inr ⟨j, by omega, by omega, h3, h4⟩)⟩
    · rw [if_neg c]
      by_cases d : wo ≤ w i
      · rw [if_pos d]
        obtain ⟨e1, e2, e3⟩ := qw_sp w one m (i + 1) wo
        exact ⟨e1, fun j h1 h2 h3 => by
          by_cases cj : j = i
          · rw [cj]; omega
          · exact e2 j (by omega) (by omega) h3, e3.elim Or.inl (fun ⟨j, h1, h2, h3, h4⟩ => Or.inr ⟨j, by omega, by omega, h3, h4⟩)⟩
      · rw [if_neg d]
        obtain ⟨e1, e2, e3⟩ := qw_sp w one m (i + 1) (w i)
        exact ⟨by omega, fun j h1 h2 h3 => by
          by_cases cj : j = i
          · rw [cj]; omega
          · exact e2 j (by omega) (by omega) h3, e3.elim (fun e => Or.inr ⟨i, by omega, by omega, c, e⟩) (fun ⟨j, h1, h2, h3, h4⟩ => Or.inr ⟨j, by omega, by omega, h3, h4⟩)⟩
theorem qx_sp (w : Nat → Nat) (one : Nat) : ∀ (m i wo : Nat), wo ≤ qx w one m i wo ∧ (∀ j, i ≤ j → j < i + m → j ≠ one → w j ≤ qx w one m i wo) ∧ (qx w one m i wo = wo ∨ ∃ j, i ≤ j ∧ j < i + m ∧ j ≠ one ∧ qx w one m i wo = w j)
  | 0, i, wo => ⟨Nat.le_refl _, fun j h1 h2 => by omega, Or.inl rfl⟩
  | m + 1, i, wo => by
    unfold qx
    by_cases c : i = one
    · rw [if_pos c]
      obtain ⟨e1, e2, e3⟩ := qx_sp w one m (i + 1) wo
      exact ⟨e1, fun j h1 h2 h3 => e2 j (by omega) (by omega) h3, e3.elim Or.inl (fun ⟨j, h1, h2, h3, h4⟩ => Or.inr ⟨j, by omega, by omega, h3, h4⟩)⟩
    · rw [if_neg c]
      by_cases d : w i ≤ wo
      · rw [if_pos d]
        obtain ⟨e1, e2, e3⟩ := qx_sp w one m (i + 1) wo
        exact ⟨e1, fun j h1 h2 h3 => by
          by_cases cj : j = i
          · rw [cj]; omega
          · exact e2 j (by omega) (by omega) h3, e3.elim Or.inl (fun ⟨j, h1, h2, h3, h4⟩ => Or.inr ⟨j, by omega, by omega, h3, h4⟩)⟩
      · rw [if_neg d]
        obtain ⟨e1, e2, e3⟩ := qx_sp w one m (i + 1) (w i)
        exact ⟨by omega, fun j h1 h2 h3 => by
          by_cases cj : j = i
          · rw [cj]; omega
          · exact e2 j (by omega) (by omega) h3, e3.elim (fun e => Or.inr ⟨i, by omega, by omega, c, e⟩) (fun ⟨j, h1, h2, h3, h4⟩ => Or.inr ⟨j, by omega, by omega, h3, h4⟩)⟩
def vQ (p2 : Int32) (free : Prop) [Decidable free] (wo mo : Nat) : Int32 := if p2 = 0 then nI wo else if free then (if 12 ≤ wo + mo then 0 else 1) else 1
theorem n_sum {a b : Nat} (ha : a ≤ 12) (hb : b ≤ 12) : (12 : Int32) ≤ nI a + nI b ↔ 12 ≤ a + b := by
  rw [i_le, t12, i_add _ _ (by rw [i_n (by omega), i_n (by omega)]; omega) (by rw [i_n (by omega), i_n (by omega)]; omega), i_n (by omega), i_n (by omega)]
  omega
theorem quietR {N : Nat} {σ τ : St} {G : Nat → Nat → Int32 → Int32 → Nat → Int32 → Nat} (hG : Crt N σ τ G) (h1 : Pp N σ τ) {w : Nat → Nat} {f : Nat → Int32} {ah : Int32} {one : Nat} (hw : wv N G (gI τ 2) f ah one = w) (hbk : ∀ i, i < N → bok N (f i)) (ho : one < N) (p2 : Int32) : ∀ (m i : Nat) (τ' : St) (wo mo : Nat), i + m = N → EqR τ τ' → gI τ' 17 = f → gI τ' 0 27 = ah → wo ≤ 12 → mo ≤ 12 → ∃ C τ'', (∀ n, C ≤ n → L_X12_quiet n 1 (nI one) p2 (nI wo) (nI mo) (nI i) 0 τ' = some (vQ p2 (f one = -1) (qw w one m i wo) (qx w one m i mo), τ'')) ∧ FrW τ' τ''
  | 0, i, τ', wo, mo, hi, hx, e17, e27, hwo, hmo => by
    refine ⟨1, τ', fun n hn => ?_, FrW.rf _⟩
    have h7 := h1.1
    obtain ⟨n, rfl⟩ : ∃ q, n = q + 1 := ⟨n - 1, by omega⟩
    show B_X12_quiet_1 (L_X12_quiet n) n (nI one) _ _ _ (nI i) τ' = _
    unfold B_X12_quiet_1 vQ qw qx
    rw [hx.2 1 (by decide), h1.2.2.1, if_pos (by rw [show i = N by omega]; exact Int32.le_refl _)]
    by_cases c : p2 = 0
    · rw [if_pos c, if_pos c]
    · rw [if_neg c, if_neg c, gd_eq (nIin (by omega) (by decide)), nIc (by omega), e17]
      have hb := bok_lt (hbk one ho) h7
      by_cases cf : f one = -1
      · rw [if_pos cf, if_neg (by have := hb.mpr cf; rw [i_lt] at this; rw [i_le]; exact Int.not_le.mpr this)]
        by_cases cs : 12 ≤ wo + mo
        · rw [if_pos ((n_sum hwo hmo).mpr cs), if_pos cs]
        · rw [if_neg (fun h => cs ((n_sum hwo hmo).mp h)), if_neg cs]
      · rw [if_neg cf, if_pos]
        rw [i_le]
        refine Int.not_lt.mp (fun h => cf (hb.mp ?_))
        rw [i_lt]
        exact h
  | m + 1, i, τ', wo, mo, hi, hx, e17, e27, hwo, hmo => by
    have h7 := h1.1
    have E : ∀ n, L_X12_quiet (n + 1) 1 (nI one) p2 (nI wo) (nI mo) (nI i) 0 τ' = B_X12_quiet_1 (L_X12_quiet n) n (nI one) p2 (nI wo) (nI mo) (nI i) τ' := fun _ => rfl
    have nle : ¬ nI N ≤ nI i := by rw [i_le, i_n (by omega), i_n (by omega)]; omega
    by_cases c : i = one
    · obtain ⟨C, σ2, e1, e2⟩ := quietR hG h1 hw hbk ho p2 m (i + 1) τ' wo mo (by omega) hx e17 e27 hwo hmo
      refine ⟨C + 2, σ2, fun n hn => ?_, e2⟩
      obtain ⟨n, rfl⟩ : ∃ q, n = q + 1 := ⟨n - 1, by omega⟩
      rw [E]
      unfold B_X12_quiet_1 qw qx
      rw [hx.2 1 (by decide), h1.2.2.1, if_neg nle, if_pos (by rw [c]), if_pos c, if_pos c, bnd_eq, n_a1]
      exact e1 n (by omega)
    · obtain ⟨C, τ1, e1, e2⟩ := hG.twR h1 hx (by rw [e17]; exact hbk) ho (show i < N by omega)
      rw [e17, e27, hw] at e1
      have hw12 : w i ≤ 12 := by rw [← hw]; exact wv_le hG _ _ _ _ _
      obtain ⟨C', σ2, f1, f2⟩ := quietR hG h1 hw hbk ho p2 m (i + 1) τ1 (if wo ≤ w i then wo else w i) (if w i ≤ mo then mo else w i) (by omega) (hx.trans e2.eq) (e2.f17.trans e17) ((e2.1 0 27 (by decide) (by decide)).trans e27) (by split <;> omega) (by split <;> omega)
      refine ⟨C + C' + 2, σ2, fun n hn => ?_, e2.tr f2⟩
      obtain ⟨n, rfl⟩ : ∃ q, n = q + 2 := ⟨n - 2, by omega⟩
      rw [E]
      unfold B_X12_quiet_1 qw qx
      rw [hx.2 1 (by decide), h1.2.2.1, if_neg nle, if_neg (by rw [nI_inj (by omega) (by omega)]; exact c), e1 (n + 1) (by omega), bd_some, if_neg c, if_neg c]
      have j1 : (if nI wo ≤ nI (w i) then L_X12_quiet (n + 1) 2 (nI one) p2 (nI wo) (nI mo) (nI i) (nI (w i)) τ1 else L_X12_quiet (n + 1) 2 (nI one) p2 (nI (w i)) (nI mo) (nI i) (nI (w i)) τ1) = L_X12_quiet (n + 1) 2 (nI one) p2 (nI (if wo ≤ w i then wo else w i)) (nI mo) (nI i) (nI (w i)) τ1 := by
        have hh : nI wo ≤ nI (w i) ↔ wo ≤ w i := by rw [i_le, i_n (by omega), i_n (by omega)]; omega
        by_cases cc : wo ≤ w i
        · rw [if_pos (hh.mpr cc), if_pos cc]
        · rw [if_neg (fun h => cc (hh.mp h)), if_neg cc]
      rw [j1]
      show B_X12_quiet_2 (L_X12_quiet n) n (nI one) p2 _ (nI mo) (nI i) (nI (w i)) τ1 = _
      unfold B_X12_quiet_2
      have hh : nI (w i) ≤ nI mo ↔ w i ≤ mo := by rw [i_le, i_n (by omega), i_n (by omega)]; omega
      have f1' := f1 n (by omega)
      by_cases cc : w i ≤ mo
      · rw [if_pos (hh.mpr cc), bnd_eq, n_a1]
        rw [if_pos cc] at f1' ⊢
        exact f1'
      · rw [if_neg (fun h => cc (hh.mp h)), bnd_eq, n_a1]
        rw [if_neg cc] at f1' ⊢
        exact f1'
theorem b_quiet (p1 p2 : Int32) : MStp Inv (fun n σ => F_X11_quiet n p1 p2 σ) (fun n τ => F_X12_quiet n p1 p2 τ) := mstp_of (fun σ τ hI => by
  obtain ⟨N, B, h1, h2, h3, h4, h5, h6, h7, h8, h9⟩ := id hI
  obtain ⟨a1, a2, a3, a4⟩ := id h1
  rcases per (N := N) p1 with ⟨A, hA, rfl⟩ | c0
  · have pA := perI hA a1
    obtain ⟨τ1, g1, g2, g3⟩ := beg12 h1 h3
    have hT := (g3.2.1 A hA).1
    by_cases c1 : 0 ≤ p2.toInt ∧ p2.toInt ≤ 1
    · have hc : ∀ {β : Type} (a b : β), (if p2 < 0 then a else if p2 ≤ 1 then b else a) = b := fun a b => by
        rw [if_neg (by rw [i_lt, t0]; omega), if_pos (by rw [i_le, t1]; omega)]
      obtain ⟨G, hG⟩ := crt h1 h9
      generalize hw : wv N G (gI τ 2) (gI τ1 17) (gI τ1 0 27) A = w
      have hw12 : ∀ c, w c ≤ 12 := fun c => by rw [← hw]; exact wv_le hG _ _ _ _ _
      have gN : gI τ1 0 1 = nI N := (g2.2 1 (by decide)).trans a3
      by_cases c3 : 2 ≤ N
      · obtain ⟨C, τ2, e1, e2⟩ := quietR hG h1 hw g3.bk hA p2 N 0 τ1 12 0 (by omega) g2 rfl rfl (by decide) (by decide)
        have hj : ∃ j, j < N ∧ j ≠ A := by
          by_cases c : A = 0
          · exact ⟨1, by omega, by omega⟩
          · exact ⟨0, by omega, by omega⟩
        have s12 : ∀ won c, shr won w c ≤ 12 := fun won c => by
          have := hw12 c
          unfold shr
          split <;> omega
        obtain ⟨cw, w1, w2, w3, w4⟩ := fm_max (s12 false) a1 N 0 (-2) (-1) (by omega) (Or.inl ⟨rfl, rfl, fun j hj => by omega⟩) hj
        obtain ⟨cb, b1, b2, b3, b4⟩ := fm_max (s12 true) a1 N 0 (-2) (-1) (by omega) (Or.inl ⟨rfl, rfl, fun j hj => by omega⟩) hj
        have ew : qw w A N 0 12 = w cw := by
          obtain ⟨q1, q2, q3⟩ := qw_sp w A N 0 12
          have q4 := q2 cw (by omega) (by omega) w2
          have q5 := hw12 cw
          rcases q3 with q3 | ⟨j, j1, j2, j3, j4⟩
          · omega
          · have := w4 j (by omega) j3
            have q6 := hw12 j
            simp only [shr] at this
            simp at this
            omega
        have eb : qx w A N 0 0 = w cb := by
          obtain ⟨q1, q2, q3⟩ := qx_sp w A N 0 0
          have q4 := q2 cb (by omega) (by omega) b2
          rcases q3 with q3 | ⟨j, j1, j2, j3, j4⟩
          · omega
          · have := b4 j (by omega) j3
            simp only [shr] at this
            simp at this
            omega
        rw [ew, eb] at e1
        obtain ⟨C1, σ1, f1, f2⟩ := foreX hG h1 (b := 37) (by decide) hA false N 0 σ (-2) (-1) (by omega) (EqX.rf σ) g3 (by decide)
        rw [hw, w3] at f1
        have T1 := g3.fr (by decide) f2 (FrW.rf τ1)
        obtain ⟨C2, σ2, k1, k2⟩ := hG.twX h1 f2.eq (by decide) T1 hA w1
        rw [hw] at k1
        have T2 := T1.fr (by decide) k2 (FrW.rf τ1)
        obtain ⟨C3, σ3, l1, l2⟩ := foreX hG h1 (b := 37) (by decide) hA true N 0 σ2 (-2) (-1) (by omega) (f2.tr k2).eq T2 (by decide)
        rw [hw, b3] at l1
        have T3 := T2.fr (by decide) l2 (FrW.rf τ1)
        obtain ⟨C4, σ4, m1, m2⟩ := hG.twX h1 ((f2.tr k2).tr l2).eq (by decide) T3 hA b1
        rw [hw] at m1
        have fr4 := ((f2.tr k2).tr l2).tr m2
        have hR : ∀ n, C + 8 ≤ n → F_X12_quiet n (nI A) p2 τ = some (vQ p2 (gI τ1 17 A = -1) (w cw) (w cb), τ2) := fun n hn => by
          unfold F_X12_quiet
          rw [isP12 a3 a1, bd_some, one0, if_pos pA, in01, bd_some, one0, if_pos c1, g1 n (by omega), bd_some, gN, if_neg (by rw [show (1 : Int32) = nI 1 from rfl, nI_inj (by omega) (by omega)]; omega)]
          exact e1 n (by omega)
        have hX0 : ∀ n, F_X11_quiet n (nI A) p2 σ = L_X11_quiet n 1 (nI A) p2 0 0 σ := fun n => by
          unfold F_X11_quiet F_X6_size
          rw [has6 a2 a1, bd_some, one0, if_pos pA, hc, bd_some, a2, if_pos (by rw [i_le, i_n (by omega), t2]; omega)]
        have hX1 : ∀ n, C1 + C2 ≤ n → L_X11_quiet (n + 1) 1 (nI A) p2 0 0 σ = L_X11_quiet n 2 (nI A) p2 0 (nI (w cw)) σ2 := fun n hn => by
          show B_X11_quiet_1 (L_X11_quiet n) n (nI A) p2 0 σ = _
          unfold B_X11_quiet_1 F_X3_hardest F_X3_foremost
          rw [if_pos rfl]
          have := f1 n (by omega)
          refine Eq.trans (congrArg (fun x => bd (bd x _) _) this) ?_
          rw [bd_some, bd_some]
          rw [k1 n (by omega), bd_some]
        by_cases cp : p2 = 0
        · refine ⟨_, σ2, τ2, ⟨C1 + C2 + 8, fun n hn => ?_⟩, ⟨C + 8, hR⟩, hI.eq (f2.tr k2).eq (g2.trans e2.eq)⟩
          show F_X11_quiet n (nI A) p2 σ = _
          obtain ⟨n, rfl⟩ : ∃ q, n = q + 2 := ⟨n - 2, by omega⟩
          rw [hX0, hX1 (n + 1) (by omega)]
          show B_X11_quiet_2 (L_X11_quiet n) n (nI A) p2 0 (nI (w cw)) σ2 = _
          unfold B_X11_quiet_2 vQ
          rw [if_pos cp, if_pos cp]
        · refine ⟨_, σ4, τ2, ⟨C1 + C2 + C3 + C4 + 8, fun n hn => ?_⟩, ⟨C + 8, hR⟩, hI.eq fr4.eq (g2.trans e2.eq)⟩
          show F_X11_quiet n (nI A) p2 σ = _
          obtain ⟨n, rfl⟩ : ∃ q, n = q + 3 := ⟨n - 3, by omega⟩
          rw [hX0, hX1 (n + 2) (by omega)]
          show B_X11_quiet_2 (L_X11_quiet (n + 1)) (n + 1) (nI A) p2 0 (nI (w cw)) σ2 = _
          unfold B_X11_quiet_2 F_X3_easiest F_X3_foremost
          rw [if_neg cp, if_pos rfl]
          have := l1 (n + 1) (by omega)
          refine Eq.trans (congrArg (fun x => bd (bd x _) _) this) ?_
          rw [bd_some, bd_some]
          rw [m1 (n + 1) (by omega), bd_some]
          show B_X11_quiet_3 (L_X11_quiet n) n (nI A) (nI (w cw)) (nI (w cb)) σ4 = _
          unfold B_X11_quiet_3 vQ
          have e38 : gI σ4 (37 + 1) A = gI τ1 17 A := by rw [fr4.1 38 A (by decide) (by decide)]; exact hT
          rw [free1 n 37 (by omega), bd_some, e38, if_neg cp]
          by_cases cf : gI τ1 17 A = -1
          · rw [if_pos cf, if_pos cf, if_neg (by decide)]
            by_cases cs : 12 ≤ w cw + w cb
            · rw [if_pos ((n_sum (hw12 _) (hw12 _)).mpr cs), if_pos cs]
            · rw [if_neg (fun h => cs ((n_sum (hw12 _) (hw12 _)).mp h)), if_neg cs]
          · rw [if_neg cf, if_neg cf, if_pos rfl]
      · obtain rfl : N = 1 := by omega
        obtain rfl : A = 0 := by omega
        obtain ⟨C, τ2, e1, e2⟩ := quietR hG h1 hw g3.bk hA p2 1 0 τ1 12 12 (by omega) g2 rfl rfl (by decide) (by decide)
        have ew : qw w 0 1 0 12 = 12 := rfl
        have eb : qx w 0 1 0 12 = 12 := rfl
        rw [ew, eb] at e1
        refine ⟨vQ p2 (gI τ1 17 0 = -1) 12 12, σ, τ2, ⟨8, fun n hn => ?_⟩, ⟨C + 8, fun n hn => ?_⟩, hI.eq (EqX.rf σ) (g2.trans e2.eq)⟩
        · show F_X11_quiet n (nI 0) p2 σ = _
          unfold F_X11_quiet F_X6_size
          rw [has6 a2 a1, bd_some, one0, if_pos pA, hc, bd_some, a2, if_neg (by decide)]
          obtain ⟨n, rfl⟩ : ∃ q, n = q + 3 := ⟨n - 3, by omega⟩
          show B_X11_quiet_1 (L_X11_quiet (n + 2)) (n + 2) (nI 0) p2 1 σ = _
          unfold B_X11_quiet_1
          rw [if_neg (by decide)]
          show B_X11_quiet_2 (L_X11_quiet (n + 1)) (n + 1) (nI 0) p2 1 12 σ = _
          unfold B_X11_quiet_2 vQ
          by_cases cp : p2 = 0
          · rw [if_pos cp, if_pos cp]
            rfl
          · rw [if_neg cp, if_neg cp, if_neg (by decide)]
            show B_X11_quiet_3 (L_X11_quiet n) n (nI 0) 12 12 σ = _
            unfold B_X11_quiet_3
            rw [free1 n 37 (by omega), bd_some, hT]
            by_cases cf : gI τ1 17 0 = -1
            · rw [if_pos cf, if_pos cf, if_neg (by decide), if_pos (by decide), if_pos (by decide)]
            · rw [if_neg cf, if_neg cf, if_pos rfl]
        · show F_X12_quiet n (nI 0) p2 τ = _
          unfold F_X12_quiet
          rw [isP12 a3 a1, bd_some, one0, if_pos pA, in01, bd_some, one0, if_pos c1, g1 n (by omega), bd_some, gN, if_pos (show nI 1 = 1 from rfl)]
          exact e1 n (by omega)
    · refine ⟨-1, σ, τ, Ev.const (fun n => ?_), Ev.const (fun n => ?_), hI⟩
      · unfold F_X11_quiet
        rw [has6 a2 a1, bd_some, one0, if_pos pA, out01 c1]
      · unfold F_X12_quiet
        rw [isP12 a3 a1, bd_some, one0, if_pos pA, in01, bd_some, one0, if_neg c1]
  · refine ⟨-1, σ, τ, Ev.const (fun n => ?_), Ev.const (fun n => ?_), hI⟩
    · unfold F_X11_quiet
      rw [has6 a2 a1, bd_some, one0, if_neg c0]
    · unfold F_X12_quiet
      rw [isP12 a3 a1, bd_some, one0, if_neg c0])
/-! beside -/
theorem cdS (n : Nat) (x d d' : Int32) (σ : St) (h1 : ¬ d ≤ 1) (h0 : ¬ d = 0) (h : ¬ (x - x / d * d = 0 ∧ (12 : Int32) - 12 / d * d = 0)) (hd : d + (-1) = d') : L_X11_commonDivisor (n + 1) 1 x d σ = L_X11_commonDivisor n 1 x d' σ := by
  show B_X11_commonDivisor_1 (L_X11_commonDivisor n) n x d σ = _
  unfold B_X11_commonDivisor_1
  rw [if_neg h1, gd_eq h0, bnd_eq]
  by_cases c : x - x / d * d = 0
  · rw [if_pos c, gd_eq h0, bnd_eq, if_neg (fun e => h ⟨c, e⟩), bnd_eq, hd]
  · rw [if_neg c, bnd_eq, hd]
theorem cdE (n : Nat) (x d : Int32) (σ : St) (h1 : ¬ d ≤ 1) (h0 : ¬ d = 0) (h : x - x / d * d = 0 ∧ (12 : Int32) - 12 / d * d = 0) : L_X11_commonDivisor (n + 1) 1 x d σ = some (d, σ) := by
  show B_X11_commonDivisor_1 (L_X11_commonDivisor n) n x d σ = _
  unfold B_X11_commonDivisor_1
  rw [if_neg h1, gd_eq h0, bnd_eq, if_pos h.1, gd_eq h0, bnd_eq, if_pos h.2]
theorem cd1 (n : Nat) (x : Int32) (σ : St) : L_X11_commonDivisor (n + 1) 1 x 1 σ = some (1, σ) := rfl
theorem apS (n : Nat) (p : Int32) (u d a b c : Int64) (τ : St) (hb : ¬ b = 0) (hc : a - a / b * b = c) : L_X12_asPart (n + 1) 1 p u d a b τ = L_X12_asPart n 1 p u d b c τ := by
  show B_X12_asPart_1 (L_X12_asPart n) n p u d a b τ = _
  unfold B_X12_asPart_1
  rw [if_neg (fun e => hb ((lg_cmp_eq _ _).mp e)), gd_eq hb, bnd_eq, hc]
theorem apE (n : Nat) (p : Int32) (u d a : Int64) (τ : St) (ha : ¬ a = 0) : L_X12_asPart (n + 1) 1 p u d a 0 τ = some (if p = 0 then u / a else d / a, τ) := by
  show B_X12_asPart_1 (L_X12_asPart n) n p u d a 0 τ = _
  unfold B_X12_asPart_1
  rw [if_pos ((lg_cmp_eq _ _).mpr rfl)]
  split
  · rw [gd_eq ha, bnd_eq]
  · rw [gd_eq ha, bnd_eq]
theorem bsX (n : Nat) (p x g : Int32) (σ : St) (hg : ¬ g = 0) (h : F_X11_commonDivisor (n + 19) x σ = some (g, σ)) : L_X11_beside (n + 20) 1 p x σ = some (if p = 0 then (x / g).toInt64 else (12 / g : Int32).toInt64, σ) := by
  show B_X11_beside_1 (L_X11_beside (n + 19)) (n + 19) p x σ = _
  unfold B_X11_beside_1
  rw [h, bd_some]
  split
  · rw [gd_eq hg, bnd_eq]
  · rw [gd_eq hg, bnd_eq]
theorem bsR (n : Nat) (p x : Int32) (u : Int64) (τ : St) (h : L_X12_asPart (n + 19) 1 p x.toInt64 12 x.toInt64 12 τ = some (u, τ)) : L_X12_beside (n + 20) 1 p x τ = some (u, τ) := by
  show B_X12_beside_1 (L_X12_beside (n + 19)) (n + 19) p x τ = _
  unfold B_X12_beside_1 F_X12_asPart
  rw [h, bd_some]
theorem bs_0 (p : Int32) : (∀ n σ, L_X11_beside (n + 20) 1 p (nI 0) σ = some (if p = 0 then (0 : Int64) else 1, σ)) ∧ ∀ n τ, L_X12_beside (n + 20) 1 p (nI 0) τ = some (if p = 0 then (0 : Int64) else 1, τ) := ⟨fun n σ => bsX n p (nI 0) 12 σ (by decide) (show L_X11_commonDivisor (n + 19) 1 (nI 0) 12 σ = _ from cdE _ _ _ _ (by decide) (by decide) (by decide)), fun n τ => bsR n p (nI 0) _ τ (show L_X12_asPart (n + 19) 1 p 0 12 0 12 τ = _ from (apS _ _ _ _ 0 12 0 _ (by decide) (by decide)).trans (apE _ _ _ _ 12 _ (by decide)))⟩
theorem bs_1 (p : Int32) : (∀ n σ, L_X11_beside (n + 20) 1 p (nI 1) σ = some (if p = 0 then (1 : Int64) else 12, σ)) ∧ ∀ n τ, L_X12_beside (n + 20) 1 p (nI 1) τ = some (if p = 0 then (1 : Int64) else 12, τ) := ⟨fun n σ => bsX n p (nI 1) 1 σ (by decide) (show L_X11_commonDivisor (n + 19) 1 (nI 1) 12 σ = _ from (cdS _ _ _ 11 _ (by decide) (by decide) (by decide) (by decide)).trans ((cdS _ _ _ 10 _ (by decide) (by decide) (by decide) (by decide)).trans ((cdS _ _ _ 9 _ (by decide) (by decide) (by decide) (by decide)).trans ((cdS _ _ _ 8 _ (by decide) (by decide) (by decide) (by decide)).trans ((cdS _ _ _ 7 _ (by decide) (by decide) (by decide) (by decide)).trans ((cdS _ _ _ 6 _ (by decide) (by decide) (by decide) (by decide)).trans ((cdS _ _ _ 5 _ (by decide) (by decide) (by decide) (by decide)).trans ((cdS _ _ _ 4 _ (by decide) (by decide) (by decide) (by decide)).trans ((cdS _ _ _ 3 _ (by decide) (by decide) (by decide) (by decide)).trans ((cdS _ _ _ 2 _ (by decide) (by decide) (by decide) (by decide)).trans ((cdS _ _ _ 1 _ (by decide) (by decide) (by decide) (by decide)).trans (cd1 _ _ _)))))))))))), fun n τ => bsR n p (nI 1) _ τ (show L_X12_asPart (n + 19) 1 p 1 12 1 12 τ = _ from (apS _ _ _ _ 1 12 1 _ (by decide) (by decide)).trans ((apS _ _ _ _ 12 1 0 _ (by decide) (by decide)).trans (apE _ _ _ _ 1 _ (by decide))))⟩
theorem bs_2 (p : Int32) : (∀ n σ, L_X11_beside (n + 20) 1 p (nI 2) σ = some (if p = 0 then (1 : Int64) else 6, σ)) ∧ ∀ n τ, L_X12_beside (n + 20) 1 p (nI 2) τ = some (if p = 0 then (1 : Int64) else 6, τ) := ⟨fun n σ => bsX n p (nI 2) 2 σ (by decide) (show L_X11_commonDivisor (n + 19) 1 (nI 2) 12 σ = _ from (cdS _ _ _ 11 _ (by decide) (by decide) (by decide) (by decide)).trans ((cdS _ _ _ 10 _ (by decide) (by decide) (by decide) (by decide)).trans ((cdS _ _ _ 9 _ (by decide) (by decide) (by decide) (by decide)).trans ((cdS _ _ _ 8 _ (by decide) (by decide) (by decide) (by decide)).trans ((cdS _ _ _ 7 _ (by decide) (by decide) (by decide) (by decide)).trans ((cdS _ _ _ 6 _ (by decide) (by decide) (by decide) (by decide)).trans ((cdS _ _ _ 5 _ (by decide) (by decide) (by decide) (by decide)).trans ((cdS _ _ _ 4 _ (by decide) (by decide) (by decide) (by decide)).trans ((cdS _ _ _ 3 _ (by decide) (by decide) (by decide) (by decide)).trans ((cdS _ _ _ 2 _ (by decide) (by decide) (by decide) (by decide)).trans (cdE _ _ _ _ (by decide) (by decide) (by decide)))))))))))), fun n τ => bsR n p (nI 2) _ τ (show L_X12_asPart (n + 19) 1 p 2 12 2 12 τ = _ from (apS _ _ _ _ 2 12 2 _ (by decide) (by decide)).trans ((apS _ _ _ _ 12 2 0 _ (by decide) (by decide)).trans (apE _ _ _ _ 2 _ (by decide))))⟩
theorem bs_3 (p : Int32) : (∀ n σ, L_X11_beside (n + 20) 1 p (nI 3) σ = some (if p = 0 then (1 : Int64) else 4, σ)) ∧ ∀ n τ, L_X12_beside (n + 20) 1 p (nI 3) τ = some (if p = 0 then (1 : Int64) else 4, τ) := ⟨fun n σ => bsX n p (nI 3) 3 σ (by decide) (show L_X11_commonDivisor (n + 19) 1 (nI 3) 12 σ = _ from (cdS _ _ _ 11 _ (by decide) (by decide) (by decide) (by decide)).trans ((cdS _ _ _ 10 _ (by decide) (by decide) (by decide) (by decide)).trans ((cdS _ _ _ 9 _ (by decide) (by decide) (by decide) (by decide)).trans ((cdS _ _ _ 8 _ (by decide) (by decide) (by decide) (by decide)).trans ((cdS _ _ _ 7 _ (by decide) (by decide) (by decide) (by decide)).trans ((cdS _ _ _ 6 _ (by decide) (by decide) (by decide) (by decide)).trans ((cdS _ _ _ 5 _ (by decide) (by decide) (by decide) (by decide)).trans ((cdS _ _ _ 4 _ (by decide) (by decide) (by decide) (by decide)).trans ((cdS _ _ _ 3 _ (by decide) (by decide) (by decide) (by decide)).trans (cdE _ _ _ _ (by decide) (by decide) (by decide))))))))))), fun n τ => bsR n p (nI 3) _ τ (show L_X12_asPart (n + 19) 1 p 3 12 3 12 τ = _ from (apS _ _ _ _ 3 12 3 _ (by decide) (by decide)).trans ((apS _ _ _ _ 12 3 0 _ (by decide) (by decide)).trans (apE _ _ _ _ 3 _ (by decide))))⟩
theorem bs_4 (p : Int32) : (∀ n σ, L_X11_beside (n + 20) 1 p (nI 4) σ = some (if p = 0 then (1 : Int64) else 3, σ)) ∧ ∀ n τ, L_X12_beside (n + 20) 1 p (nI 4) τ = some (if p = 0 then (1 : Int64) else 3, τ) := ⟨fun n σ => bsX n p (nI 4) 4 σ (by decide) (show L_X11_commonDivisor (n + 19) 1 (nI 4) 12 σ = _ from (cdS _ _ _ 11 _ (by decide) (by decide) (by decide) (by decide)).trans ((cdS _ _ _ 10 _ (by decide) (by decide) (by decide) (by decide)).trans ((cdS _ _ _ 9 _ (by decide) (by decide) (by decide) (by decide)).trans ((cdS _ _ _ 8 _ (by decide) (by decide) (by decide) (by decide)).trans ((cdS _ _ _ 7 _ (by decide) (by decide) (by decide) (by decide)).trans ((cdS _ _ _ 6 _ (by decide) (by decide) (by decide) (by decide)).trans ((cdS _ _ _ 5 _ (by decide) (by decide) (by decide) (by decide)).trans ((cdS _ _ _ 4 _ (by decide) (by decide) (by decide) (by decide)).trans (cdE _ _ _ _ (by decide) (by decide) (by decide)))))))))), fun n τ => bsR n p (nI 4) _ τ (show L_X12_asPart (n + 19) 1 p 4 12 4 12 τ = _ from (apS _ _ _ _ 4 12 4 _ (by decide) (by decide)).trans ((apS _ _ _ _ 12 4 0 _ (by decide) (by decide)).trans (apE _ _ _ _ 4 _ (by decide))))⟩
theorem bs_5 (p : Int32) : (∀ n σ, L_X11_beside (n + 20) 1 p (nI 5) σ = some (if p = 0 then (5 : Int64) else 12, σ)) ∧ ∀ n τ, L_X12_beside (n + 20) 1 p (nI 5) τ = some (if p = 0 then (5 : Int64) else 12, τ) := ⟨fun n σ => bsX n p (nI 5) 1 σ (by decide) (show L_X11_commonDivisor (n + 19) 1 (nI 5) 12 σ = _ from (cdS _ _ _ 11 _ (by decide) (by decide) (by decide) (by decide)).trans ((cdS _ _ _ 10 _ (by decide) (by decide) (by decide) (by decide)).trans ((cdS _ _ _ 9 _ (by decide) (by decide) (by decide) (by decide)).trans ((cdS _ _ _ 8 _ (by decide) (by decide) (by decide) (by decide)).trans ((cdS _ _ _ 7 _ (by decide) (by decide) (by decide) (by decide)).trans ((cdS _ _ _ 6 _ (by decide) (by decide) (by decide) (by decide)).trans ((cdS _ _ _ 5 _ (by decide) (by decide) (by decide) (by decide)).trans ((cdS _ _ _ 4 _ (by decide) (by decide) (by decide) (by decide)).trans ((cdS _ _ _ 3 _ (by decide) (by decide) (by decide) (by decide)).trans ((cdS _ _ _ 2 _ (by decide) (by decide) (by decide) (by decide)).trans ((cdS _ _ _ 1 _ (by decide) (by decide) (by decide) (by decide)).trans (cd1 _ _ _)))))))))))), fun n τ => bsR n p (nI 5) _ τ (show L_X12_asPart (n + 19) 1 p 5 12 5 12 τ = _ from (apS _ _ _ _ 5 12 5 _ (by decide) (by decide)).trans ((apS _ _ _ _ 12 5 2 _ (by decide) (by decide)).trans ((apS _ _ _ _ 5 2 1 _ (by decide) (by decide)).trans ((apS _ _ _ _ 2 1 0 _ (by decide) (by decide)).trans (apE _ _ _ _ 1 _ (by decide))))))⟩
theorem bs_6 (p : Int32) : (∀ n σ, L_X11_beside (n + 20) 1 p (nI 6) σ = some (if p = 0 then (1 : Int64) else 2, σ)) ∧ ∀ n τ, L_X12_beside (n + 20) 1 p (nI 6) τ = some (if p = 0 then (1 : Int64) else 2, τ) := ⟨fun n σ => bsX n p (nI 6) 6 σ (by decide) (show L_X11_commonDivisor (n + 19) 1 (nI 6) 12 σ = _ from (cdS _ _ _ 11 _ (by decide) (by decide) (by decide) (by decide)).trans ((cdS _ _ _ 10 _ (by decide) (by decide) (by decide) (by decide)).trans ((cdS _ _ _ 9 _ (by decide) (by decide) (by decide) (by decide)).trans ((cdS _ _ _ 8 _ (by decide) (by decide) (by decide) (by decide)).trans ((cdS _ _ _ 7 _ (by decide) (by decide) (by decide) (by decide)).trans ((cdS _ _ _ 6 _ (by decide) (by decide) (by decide) (by decide)).trans (cdE _ _ _ _ (by decide) (by decide) (by decide)))))))), fun n τ => bsR n p (nI 6) _ τ (show L_X12_asPart (n + 19) 1 p 6 12 6 12 τ = _ from (apS _ _ _ _ 6 12 6 _ (by decide) (by decide)).trans ((apS _ _ _ _ 12 6 0 _ (by decide) (by decide)).trans (apE _ _ _ _ 6 _ (by decide))))⟩
theorem bs_7 (p : Int32) : (∀ n σ, L_X11_beside (n + 20) 1 p (nI 7) σ = some (if p = 0 then (7 : Int64) else 12, σ)) ∧ ∀ n τ, L_X12_beside (n + 20) 1 p (nI 7) τ = some (if p = 0 then (7 : Int64) else 12, τ) := ⟨fun n σ => bsX n p (nI 7) 1 σ (by decide) (show L_X11_commonDivisor (n + 19) 1 (nI 7) 12 σ = _ from (cdS _ _ _ 11 _ (by decide) (by decide) (by decide) (by decide)).trans ((cdS _ _ _ 10 _ (by decide) (by decide) (by decide) (by decide)).trans ((cdS _ _ _ 9 _ (by decide) (by decide) (by decide) (by decide)).trans ((cdS _ _ _ 8 _ (by decide) (by decide) (by decide) (by decide)).trans ((cdS _ _ _ 7 _ (by decide) (by decide) (by decide) (by decide)).trans ((cdS _ _ _ 6 _ (by decide) (by decide) (by decide) (by decide)).trans ((cdS _ _ _ 5 _ (by decide) (by decide) (by decide) (by decide)).trans ((cdS _ _ _ 4 _ (by decide) (by decide) (by decide) (by decide)).trans ((cdS _ _ _ 3 _ (by decide) (by decide) (by decide) (by decide)).trans ((cdS _ _ _ 2 _ (by decide) (by decide) (by decide) (by decide)).trans ((cdS _ _ _ 1 _ (by decide) (by decide) (by decide) (by decide)).trans (cd1 _ _ _)))))))))))), fun n τ => bsR n p (nI 7) _ τ (show L_X12_asPart (n + 19) 1 p 7 12 7 12 τ = _ from (apS _ _ _ _ 7 12 7 _ (by decide) (by decide)).trans ((apS _ _ _ _ 12 7 5 _ (by decide) (by decide)).trans ((apS _ _ _ _ 7 5 2 _ (by decide) (by decide)).trans ((apS _ _ _ _ 5 2 1 _ (by decide) (by decide)).trans ((apS _ _ _ _ 2 1 0 _ (by decide) (by decide)).trans (apE _ _ _ _ 1 _ (by decide)))))))⟩
theorem bs_8 (p : Int32) : (∀ n σ, L_X11_beside (n + 20) 1 p (nI 8) σ = some (if p = 0 then (2 : Int64) else 3, σ)) ∧ ∀ n τ, L_X12_beside (n + 20) 1 p (nI 8) τ = some (if p = 0 then (2 : Int64) else 3, τ) := ⟨fun n σ => bsX n p (nI 8) 4 σ (by decide) (show L_X11_commonDivisor (n + 19) 1 (nI 8) 12 σ = _ from (cdS _ _ _ 11 _ (by decide) (by decide) (by decide) (by decide)).trans ((cdS _ _ _ 10 _ (by decide) (by decide) (by decide) (by decide)).trans ((cdS _ _ _ 9 _ (by decide) (by decide) (by decide) (by decide)).trans ((cdS _ _ _ 8 _ (by decide) (by decide) (by decide) (by decide)).trans ((cdS _ _ _ 7 _ (by decide) (by decide) (by decide) (by decide)).trans ((cdS _ _ _ 6 _ (by decide) (by decide) (by decide) (by decide)).trans ((cdS _ _ _ 5 _ (by decide) (by decide) (by decide) (by decide)).trans ((cdS _ _ _ 4 _ (by decide) (by decide) (by decide) (by decide)).trans (cdE _ _ _ _ (by decide) (by decide) (by decide)))))))))), fun n τ => bsR n p (nI 8) _ τ (show L_X12_asPart (n + 19) 1 p 8 12 8 12 τ = _ from (apS _ _ _ _ 8 12 8 _ (by decide) (by decide)).trans ((apS _ _ _ _ 12 8 4 _ (by decide) (by decide)).trans ((apS _ _ _ _ 8 4 0 _ (by decide) (by decide)).trans (apE _ _ _ _ 4 _ (by decide)))))⟩
theorem bs_9 (p : Int32) : (∀ n σ, L_X11_beside (n + 20) 1 p (nI 9) σ = some (if p = 0 then (3 : Int64) else 4, σ)) ∧ ∀ n τ, L_X12_beside (n + 20) 1 p (nI 9) τ = some (if p = 0 then (3 : Int64) else 4, τ) := ⟨fun n σ => bsX n p (nI 9) 3 σ (by decide) (show L_X11_commonDivisor (n + 19) 1 (nI 9) 12 σ = _ from (cdS _ _ _ 11 _ (by decide) (by decide) (by decide) (by decide)).trans ((cdS _ _ _ 10 _ (by decide) (by decide) (by decide) (by decide)).trans ((cdS _ _ _ 9 _ (by decide) (by decide) (by decide) (by decide)).trans ((cdS _ _ _ 8 _ (by decide) (by decide) (by decide) (by decide)).trans ((cdS _ _ _ 7 _ (by decide) (by decide) (by decide) (by decide)).trans ((cdS _ _ _ 6 _ (by decide) (by decide) (by decide) (by decide)).trans ((cdS _ _ _ 5 _ (by decide) (by decide) (by decide) (by decide)).trans ((cdS _ _ _ 4 _ (by decide) (by decide) (by decide) (by decide)).trans ((cdS _ _ _ 3 _ (by decide) (by decide) (by decide) (by decide)).trans (cdE _ _ _ _ (by decide) (by decide) (by decide))))))))))), fun n τ => bsR n p (nI 9) _ τ (show L_X12_asPart (n + 19) 1 p 9 12 9 12 τ = _ from (apS _ _ _ _ 9 12 9 _ (by decide) (by decide)).trans ((apS _ _ _ _ 12 9 3 _ (by decide) (by decide)).trans ((apS _ _ _ _ 9 3 0 _ (by decide) (by decide)).trans (apE _ _ _ _ 3 _ (by decide)))))⟩
theorem bs_10 (p : Int32) : (∀ n σ, L_X11_beside (n + 20) 1 p (nI 10) σ = some (if p = 0 then (5 : Int64) else 6, σ)) ∧ ∀ n τ, L_X12_beside (n + 20) 1 p (nI 10) τ = some (if p = 0 then (5 : Int64) else 6, τ) := ⟨fun n σ => bsX n p (nI 10) 2 σ (by decide) (show L_X11_commonDivisor (n + 19) 1 (nI 10) 12 σ = _ from (cdS _ _ _ 11 _ (by decide) (by decide) (by decide) (by decide)).trans ((cdS _ _ _ 10 _ (by decide) (by decide) (by decide) (by decide)).trans ((cdS _ _ _ 9 _ (by decide) (by decide) (by decide) (by decide)).trans ((cdS _ _ _ 8 _ (by decide) (by decide) (by decide) (by decide)).trans ((cdS _ _ _ 7 _ (by decide) (by decide) (by decide) (by decide)).trans ((cdS _ _ _ 6 _ (by decide) (by decide) (by decide) (by decide)).trans ((cdS _ _ _ 5 _ (by decide) (by decide) (by decide) (by decide)).trans ((cdS _ _ _ 4 _ (by decide) (by decide) (by decide) (by decide)).trans ((cdS _ _ _ 3 _ (by decide) (by decide) (by decide) (by decide)).trans ((cdS _ _ _ 2 _ (by decide) (by decide) (by decide) (by decide)).trans (cdE _ _ _ _ (by decide) (by decide) (by decide)))))))))))), fun n τ => bsR n p (nI 10) _ τ (show L_X12_asPart (n + 19) 1 p 10 12 10 12 τ = _ from (apS _ _ _ _ 10 12 10 _ (by decide) (by decide)).trans ((apS _ _ _ _ 12 10 2 _ (by decide) (by decide)).trans ((apS _ _ _ _ 10 2 0 _ (by decide) (by decide)).trans (apE _ _ _ _ 2 _ (by decide)))))⟩
theorem bs_11 (p : Int32) : (∀ n σ, L_X11_beside (n + 20) 1 p (nI 11) σ = some (if p = 0 then (11 : Int64) else 12, σ)) ∧ ∀ n τ, L_X12_beside (n + 20) 1 p (nI 11) τ = some (if p = 0 then (11 : Int64) else 12, τ) := ⟨fun n σ => bsX n p (nI 11) 1 σ (by decide) (show L_X11_commonDivisor (n + 19) 1 (nI 11) 12 σ = _ from (cdS _ _ _ 11 _ (by decide) (by decide) (by decide) (by decide)).trans ((cdS _ _ _ 10 _ (by decide) (by decide) (by decide) (by decide)).trans ((cdS _ _ _ 9 _ (by decide) (by decide) (by decide) (by decide)).trans ((cdS _ _ _ 8 _ (by decide) (by decide) (by decide) (by decide)).trans ((cdS _ _ _ 7 _ (by decide) (by decide) (by decide) (by decide)).trans ((cdS _ _ _ 6 _ (by decide) (by decide) (by decide) (by decide)).trans ((cdS _ _ _ 5 _ (by decide) (by decide) (by decide) (by decide)).trans ((cdS _ _ _ 4 _ (by decide) (by decide) (by decide) (by decide)).trans ((cdS _ _ _ 3 _ (by decide) (by decide) (by decide) (by decide)).trans ((cdS _ _ _ 2 _ (by decide) (by decide) (by decide) (by decide)).trans ((cdS _ _ _ 1 _ (by decide) (by decide) (by decide) (by decide)).trans (cd1 _ _ _)))))))))))), fun n τ => bsR n p (nI 11) _ τ (show L_X12_asPart (n + 19) 1 p 11 12 11 12 τ = _ from (apS _ _ _ _ 11 12 11 _ (by decide) (by decide)).trans ((apS _ _ _ _ 12 11 1 _ (by decide) (by decide)).trans ((apS _ _ _ _ 11 1 0 _ (by decide) (by decide)).trans (apE _ _ _ _ 1 _ (by decide)))))⟩
theorem bs_12 (p : Int32) : (∀ n σ, L_X11_beside (n + 20) 1 p (nI 12) σ = some (if p = 0 then (1 : Int64) else 1, σ)) ∧ ∀ n τ, L_X12_beside (n + 20) 1 p (nI 12) τ = some (if p = 0 then (1 : Int64) else 1, τ) := ⟨fun n σ => bsX n p (nI 12) 12 σ (by decide) (show L_X11_commonDivisor (n + 19) 1 (nI 12) 12 σ = _ from cdE _ _ _ _ (by decide) (by decide) (by decide)), fun n τ => bsR n p (nI 12) _ τ (show L_X12_asPart (n + 19) 1 p 12 12 12 12 τ = _ from (apS _ _ _ _ 12 12 0 _ (by decide) (by decide)).trans (apE _ _ _ _ 12 _ (by decide)))⟩
theorem bs (x : Nat) (h : x ≤ 12) (p : Int32) : ∃ u : Int64, (∀ n σ, L_X11_beside (n + 20) 1 p (nI x) σ = some (u, σ)) ∧ ∀ n τ, L_X12_beside (n + 20) 1 p (nI x) τ = some (u, τ) := by
  match x, h with
  | 0, _ => exact ⟨_, bs_0 p⟩
  | 1, _ => exact ⟨_, bs_1 p⟩
  | 2, _ => exact ⟨_, bs_2 p⟩
  | 3, _ => exact ⟨_, bs_3 p⟩
  | 4, _ => exact ⟨_, bs_4 p⟩
  | 5, _ => exact ⟨_, bs_5 p⟩
  | 6, _ => exact ⟨_, bs_6 p⟩
  | 7, _ => exact ⟨_, bs_7 p⟩
  | 8, _ => exact ⟨_, bs_8 p⟩
  | 9, _ => exact ⟨_, bs_9 p⟩
  | 10, _ => exact ⟨_, bs_10 p⟩
  | 11, _ => exact ⟨_, bs_11 p⟩
  | 12, _ => exact ⟨_, bs_12 p⟩
  | x + 13, h => exact absurd h (by omega)
theorem b_beside (p1 p2 : Int32) : MStp Inv (fun n σ => F_X11_beside n p1 p2 σ) (fun n τ => F_X12_beside n p1 p2 τ) := mstp_of (fun σ τ hI => by
  obtain ⟨N, B, h1, h2, h3, h4, h5, h6, h7, h8, h9⟩ := id hI
  obtain ⟨a1, a2, a3, a4⟩ := id h1
  rcases pairX a2 a1 p1 with ⟨hp, q⟩ | ⟨q0, q⟩
  · have qr := pairR1 a3 a1 hp
    obtain ⟨A, C, hA, hC, hAC, eA, eC⟩ := prC hp
    obtain ⟨τ1, g1, g2, g3⟩ := beg12 h1 h3
    have hT := (g3.2.1 A hA).1
    have gN : gI τ1 0 1 = nI N := (g2.2 1 (by decide)).trans a3
    by_cases c1 : 0 ≤ p2.toInt ∧ p2.toInt ≤ 1
    · have hc : ∀ {β : Type} (a b : β), (if p2 < 0 then a else if p2 ≤ 1 then b else a) = b := fun a b => by
        rw [if_neg (by rw [i_lt, t0]; omega), if_pos (by rw [i_le, t1]; omega)]
      have hp2 : p2 = 0 ∨ p2 = 1 := by
        rcases b012 p2 with h | h | h
        · exact Or.inl h
        · exact Or.inr h
        · exact absurd c1 h
      by_cases c2 : gI σ 38 A = -1
      · obtain ⟨G, hG⟩ := crt h1 h9
        obtain ⟨x, K, σ2, τ2, hx, e1, e2, e3, e4, e5, _⟩ := hG.tw h1 (EqX.rf σ) g2 (b := 37) (by decide) g3 hA hC
        obtain ⟨u, u1, u2⟩ := bs (12 - x) (by omega) p2
        refine ⟨u, σ2, τ2, ⟨K + 20, fun n hn => ?_⟩, ⟨K + 20, fun n hn => ?_⟩, hI.eq e3.eq (g2.trans e4.eq)⟩
        · show F_X11_beside n p1 p2 σ = _
          obtain ⟨n, rfl⟩ : ∃ q, n = q + 20 := ⟨n - 20, by omega⟩
          unfold F_X11_beside
          rw [q, bd_some, if_neg (by decide), hc, gd_eq ten0, bnd_eq, eA, free1 _ 37 (by omega), bd_some, if_pos c2, if_neg (by decide), gd_eq ten0, bnd_eq, eC, e1 _ (by omega), bd_some, n12s hx]
          exact u1 n σ2
        · show F_X12_beside n p1 p2 τ = _
          obtain ⟨n, rfl⟩ : ∃ q, n = q + 20 := ⟨n - 20, by omega⟩
          unfold F_X12_beside
          rw [qr, bd_some, if_neg (by decide), in01, bd_some, one0, if_pos c1, g1 _ (by omega), bd_some, gd_eq ten0, bnd_eq, gd_eq ten0, bnd_eq, eA, eC, let12 a1 gN g3.bk _ hA hC hAC, bd_some, one0, if_pos (by rw [← hT]; exact c2), gd_eq ten0, bnd_eq, gd_eq ten0, bnd_eq, e2 _ (by omega), bd_some, n12s hx]
          exact u2 n τ2
      · obtain ⟨u, u1, u2⟩ := bs 0 (by omega) p2
        refine ⟨u, σ, τ1, ⟨20, fun n hn => ?_⟩, ⟨20, fun n hn => ?_⟩, hI.eq (EqX.rf σ) g2⟩
        · show F_X11_beside n p1 p2 σ = _
          obtain ⟨n, rfl⟩ : ∃ q, n = q + 20 := ⟨n - 20, by omega⟩
          unfold F_X11_beside
          rw [q, bd_some, if_neg (by decide), hc, gd_eq ten0, bnd_eq, eA, free1 _ 37 (by omega), bd_some, if_neg c2, if_pos rfl]
          exact u1 n σ
        · show F_X12_beside n p1 p2 τ = _
          obtain ⟨n, rfl⟩ : ∃ q, n = q + 20 := ⟨n - 20, by omega⟩
          unfold F_X12_beside
          rw [qr, bd_some, if_neg (by decide), in01, bd_some, one0, if_pos c1, g1 _ (by omega), bd_some, gd_eq ten0, bnd_eq, gd_eq ten0, bnd_eq, eA, eC, let12 a1 gN g3.bk _ hA hC hAC, bd_some, one0, if_neg (by rw [← hT]; exact c2)]
          exact u2 n τ1
    · refine ⟨-9223372036854775808, σ, τ, Ev.const (fun n => ?_), Ev.const (fun n => ?_), hI⟩
      · unfold F_X11_beside
        rw [q, bd_some, if_neg (by decide), out01 c1]
      · unfold F_X12_beside
        rw [qr, bd_some, if_neg (by decide), in01, bd_some, one0, if_neg c1]
  · refine ⟨-9223372036854775808, σ, τ, Ev.const (fun n => ?_), Ev.const (fun n => ?_), hI⟩
    · unfold F_X11_beside
      rw [q, bd_some, if_pos rfl]
    · unfold F_X12_beside
      rw [pairR0 a3 a1 q0, bd_some, if_pos rfl])
