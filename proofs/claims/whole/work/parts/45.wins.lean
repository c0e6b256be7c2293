/-! wins, friend, best, quiet, beside -/
theorem prC {N : Nat} {p : Int32} (h : pr N p) : ∃ A C : Nat, A < N ∧ C < N ∧ A ≠ C ∧ p / 10 = nI A ∧ p - nI A * 10 = nI C := by
  obtain ⟨k, k1, rfl, k2, k3, k4⟩ := h
  exact ⟨k / 10, k % 10, k2, k3, k4, n_d10 k1, n_q10 k1⟩
theorem pairR1 {τ : St} {N : Nat} (hN : gI τ 0 1 = nI N) (h7 : N ≤ 7) {p : Int32} (h : pr N p) (n : Nat) : F_X12_areTwo n p τ = some (1, τ) := by
  obtain ⟨k, k1, rfl, k2, k3, k4⟩ := h
  rw [pairR hN h7 n k1, if_pos ⟨k2, k3, k4⟩]
theorem b012 (p : Int32) : p = 0 ∨ p = 1 ∨ ¬ (0 ≤ p.toInt ∧ p.toInt ≤ 1) := by
  rcases b01 p with ⟨w, rfl⟩ | h
  · cases w
    · exact Or.inl rfl
    · exact Or.inr (Or.inl rfl)
  · exact Or.inr (Or.inr h)
theorem in01 (n : Nat) (p : Int32) (τ : St) : F_X12_in n p 0 1 τ = some (if 0 ≤ p.toInt ∧ p.toInt ≤ 1 then 1 else 0, τ) := in12 n p 0 1 τ
/-- the class's way to refuse what is not 0 or 1 -/
theorem out01 {p : Int32} (h : ¬ (0 ≤ p.toInt ∧ p.toInt ≤ 1)) {β : Type} (a b : β) : (if p < 0 then a else if p ≤ 1 then b else a) = a := by
  by_cases c : p < 0
  · rw [if_pos c]
  · rw [if_neg c, if_neg]
    rw [i_lt, t0] at c
    rw [i_le, t1]
    omega
theorem in0 {β : Type} (a b : β) : (if (0 : Int32) < 0 then a else if (0 : Int32) ≤ 1 then b else a) = b := by rw [if_neg (by decide), if_pos (by decide)]
theorem in1 {β : Type} (a b : β) : (if (1 : Int32) < 0 then a else if (1 : Int32) ≤ 1 then b else a) = b := by rw [if_neg (by decide), if_pos (by decide)]
theorem i01_0 : 0 ≤ (0 : Int32).toInt ∧ (0 : Int32).toInt ≤ 1 := by decide
theorem i01_1 : 0 ≤ (1 : Int32).toInt ∧ (1 : Int32).toInt ≤ 1 := by decide
theorem b_wins (p1 p2 : Int32) : MStp Inv (fun n σ => F_X11_wins n p1 p2 σ) (fun n τ => F_X12_wins n p1 p2 τ) := mstp_of (fun σ τ hI => by
  obtain ⟨N, B, h1, h2, h3, h4, h5, h6, h7, h8, h9⟩ := id hI
  obtain ⟨a1, a2, a3, a4⟩ := id h1
  rcases pairX a2 a1 p1 with ⟨hp, q⟩ | ⟨q0, q⟩
  · have qr := pairR1 a3 a1 hp
    obtain ⟨A, C, hA, hC, hAC, eA, eC⟩ := prC hp
    obtain ⟨τ1, g1, g2, g3⟩ := beg12 h1 h3
    rcases b012 p2 with rfl | rfl | c1
    · obtain ⟨G, hG⟩ := crt h1 h9
      obtain ⟨x, K, σ2, τ2, hx, e1, e2, e3, e4, e5, _⟩ := hG.tw h1 (EqX.rf σ) g2 (b := 37) (by decide) g3 hA hC
      refine ⟨nI x, σ2, τ2, ⟨K + 8, fun n hn => ?_⟩, ⟨K + 8, fun n hn => ?_⟩, hI.eq e3.eq (g2.trans e4.eq)⟩
      · show F_X11_wins n p1 0 σ = _
        unfold F_X11_wins
        rw [q, bd_some, if_neg (by decide), in0, gd_eq ten0, bnd_eq, gd_eq ten0, bnd_eq, eA, eC, if_pos rfl, e1 n (by omega), bd_some]
      · show F_X12_wins n p1 0 τ = _
        unfold F_X12_wins
        rw [qr, bd_some, if_neg (by decide), in01, bd_some, one0, if_pos i01_0, g1 n (by omega), bd_some, if_pos rfl, gd_eq ten0, bnd_eq, gd_eq ten0, bnd_eq, eA, eC, e2 n (by omega), bd_some]
    · refine ⟨nI (spk (gI τ1 17) C N 0), σ, τ1, ⟨8, fun n hn => ?_⟩, ⟨8, fun n hn => ?_⟩, hI.eq (EqX.rf σ) g2⟩
      · show F_X11_wins n p1 1 σ = _
        unfold F_X11_wins
        rw [q, bd_some, if_neg (by decide), in1, gd_eq ten0, bnd_eq, gd_eq ten0, bnd_eq, eA, eC, if_neg (by decide), spk1 37 σ (by omega) n (by omega), bd_some, g3.sp a1 hC]
      · show F_X12_wins n p1 1 τ = _
        unfold F_X12_wins
        rw [qr, bd_some, if_neg (by decide), in01, bd_some, one0, if_pos i01_1, g1 n (by omega), bd_some, if_neg (by decide), gd_eq ten0, bnd_eq, eA, eC, spk12 a1 τ1 ((g2.2 1 (by decide)).trans a3) hC n (by omega), bd_some]
    · refine ⟨-1, σ, τ, Ev.const (fun n => ?_), Ev.const (fun n => ?_), hI⟩
      · unfold F_X11_wins
        rw [q, bd_some, if_neg (by decide), out01 c1]
      · unfold F_X12_wins
        rw [qr, bd_some, if_neg (by decide), in01, bd_some, one0, if_neg c1]
  · refine ⟨-1, σ, τ, Ev.const (fun n => ?_), Ev.const (fun n => ?_), hI⟩
    · unfold F_X11_wins
      rw [q, bd_some, if_pos rfl]
    · unfold F_X12_wins
      rw [pairR0 a3 a1 q0, bd_some, if_pos rfl])
theorem FrW.f17 {a b : St} (h : FrW a b) : gI b 17 = gI a 17 := funext (fun i => h.1 17 i (by decide) (by decide))
theorem b_friend (p1 p2 : Int32) : MStp Inv (fun n σ => F_X11_friend n p1 p2 σ) (fun n τ => F_X12_friend n p1 p2 τ) := mstp_of (fun σ τ hI => by
  obtain ⟨N, B, h1, h2, h3, h4, h5, h6, h7, h8, h9⟩ := id hI
  obtain ⟨a1, a2, a3, a4⟩ := id h1
  rcases pairX a2 a1 p1 with ⟨hp, q⟩ | ⟨q0, q⟩
  · have qr := pairR1 a3 a1 hp
    obtain ⟨A, C, hA, hC, hAC, eA, eC⟩ := prC hp
    obtain ⟨τ1, g1, g2, g3⟩ := beg12 h1 h3
    by_cases c1 : 0 ≤ p2.toInt ∧ p2.toInt ≤ 9
    · obtain ⟨G, hG⟩ := crt h1 h9
      obtain ⟨x, K, σ2, τ2, hx, e1, e2, e3, e4, e5, _⟩ := hG.tw h1 (EqX.rf σ) g2 (b := 37) (by decide) g3 hA hC
      obtain ⟨K2, σ3, f1, f2⟩ := hG.2.1 σ2 37 A C p2 0 e3.eq (by decide) hA hC (Or.inl rfl)
      obtain ⟨K3, τ3, f3, f4⟩ := hG.2.2 τ2 A C p2 0 (g2.trans e4.eq) e5.bk hA hC (Or.inl rfl)
      rw [e5.ct a1, e5.1] at f1
      generalize G A C p2 0 (cnt (gI τ2 17) N 0) (gI τ2 0 27) = y at f1 f3
      refine ⟨nI x - nI y, σ3, τ3, ⟨K + K2 + K3 + 8, fun n hn => ?_⟩, ⟨K + K2 + K3 + 8, fun n hn => ?_⟩, hI.eq (e3.tr f2).eq (g2.trans (e4.tr f4).eq)⟩
      · show F_X11_friend n p1 p2 σ = _
        unfold F_X11_friend
        rw [q, bd_some, if_neg (by decide), al1, bd_some, one0, if_pos c1, gd_eq ten0, bnd_eq, gd_eq ten0, bnd_eq, eA, eC, e1 n (by omega), bd_some, f1 n (by omega), bd_some]
      · show F_X12_friend n p1 p2 τ = _
        unfold F_X12_friend
        rw [qr, bd_some, if_neg (by decide), in12, bd_some, one0, t0, t9, if_pos c1, g1 n (by omega), bd_some, gd_eq ten0, bnd_eq, gd_eq ten0, bnd_eq, eA, eC, e2 n (by omega), bd_some, gd_eq ten0, bnd_eq, gd_eq ten0, bnd_eq, f3 n (by omega), bd_some]
    · refine ⟨-2000000000, σ, τ, Ev.const (fun n => ?_), Ev.const (fun n => ?_), hI⟩
      · unfold F_X11_friend
        rw [q, bd_some, if_neg (by decide), al1, bd_some, one0, if_neg c1]
      · unfold F_X12_friend
        rw [qr, bd_some, if_neg (by decide), in12, bd_some, one0, t0, t9, if_neg c1]
  · refine ⟨-2000000000, σ, τ, Ev.const (fun n => ?_), Ev.const (fun n => ?_), hI⟩
    · unfold F_X11_friend
      rw [q, bd_some, if_pos rfl]
    · unfold F_X12_friend
      rw [pairR0 a3 a1 q0, bd_some, if_pos rfl])
/-! whom to charge -/
def fm (sh : Nat → Nat) (one : Nat) : Nat → Nat → Int32 → Int32 → Int32
  | 0, _, fo, _ => fo
  | m + 1, i, fo, mo => if i = one then fm sh one m (i + 1) fo mo else if nI (sh i) ≤ mo then fm sh one m (i + 1) fo mo else fm sh one m (i + 1) (nI i) (nI (sh i))
def shr (won : Bool) (w : Nat → Nat) (c : Nat) : Nat := if won then w c else 12 - w c
theorem n12s {x : Nat} (h : x ≤ 12) : (12 : Int32) - nI x = nI (12 - x) := by
  rw [i_eq, i_sub _ _ (by rw [t12, i_n (by omega)]; omega) (by rw [t12, i_n (by omega)]; omega), t12, i_n (by omega), i_n (by omega)]
  omega
theorem shX (n : Nat) (won : Bool) {x : Nat} (h : x ≤ 12) (σ : St) : F_X3_shareOf n (if won then 1 else 0) (nI x) σ = some (nI (if won then x else 12 - x), σ) := by
  cases won
  · exact congrArg (fun v => some (v, σ)) (n12s h)
  · rfl
theorem shR (n : Nat) (won : Bool) {x : Nat} (h : x ≤ 12) (σ : St) : F_X12_twelfths n (nI x) (if won then 1 else 0) σ = some (nI (if won then x else 12 - x), σ) := by
  cases won
  · exact congrArg (fun v => some (v, σ)) (n12s h)
  · rfl
theorem foreX {N : Nat} {σ τ : St} {G : Nat → Nat → Int32 → Int32 → Nat → Int32 → Nat} (hG : Crt N σ τ G) (h1 : Pp N σ τ) {τ' : St} {b : Nat} (hb : 37 ≤ b) {one : Nat} (ho : one < N) (won : Bool) : ∀ (m i : Nat) (σ' : St) (fo mo : Int32), i + m = N → EqX σ σ' → Th N σ' τ' b → -1 ≤ mo.toInt → ∃ C σ'', (∀ n, C ≤ n → L_X3_foremost b n 1 (nI one) (if won then 1 else 0) fo mo (nI i) 0 σ' = some (fm (shr won (wv N G (gI τ 2) (gI τ' 17) (gI τ' 0 27) one)) one m i fo mo, σ'')) ∧ FrC σ' σ''
  | 0, i, σ', fo, mo, hi, hx, hT, hm => by
    refine ⟨1, σ', fun n hn => ?_, FrC.rf _⟩
    obtain ⟨n, rfl⟩ : ∃ q, n = q + 1 := ⟨n - 1, by omega⟩
    show B_X3_foremost_1 (L_X3_foremost b n) n b (nI one) _ fo mo (nI i) σ' = _
    unfold B_X3_foremost_1 F_X6_size
    rw [bd_some, hx.g 4 (by decide), h1.2.1, if_pos (by rw [show i = N by omega]; exact Int32.le_refl _)]
    rfl
  | m + 1, i, σ', fo, mo, hi, hx, hT, hm => by
    have h7 := h1.1
    have E : ∀ n, L_X3_foremost b (n + 1) 1 (nI one) (if won then 1 else 0) fo mo (nI i) 0 σ' = B_X3_foremost_1 (L_X3_foremost b n) n b (nI one) (if won then 1 else 0) fo mo (nI i) σ' := fun _ => rfl
    have nle : ¬ nI N ≤ nI i := by rw [i_le, i_n (by omega), i_n (by omega)]; omega
    by_cases c : i = one
    · obtain ⟨C, σ2, e1, e2⟩ := foreX hG h1 hb ho won m (i + 1) σ' fo mo (by omega) hx hT hm
      refine ⟨C + 2, σ2, fun n hn => ?_, e2⟩
      obtain ⟨n, rfl⟩ : ∃ q, n = q + 2 := ⟨n - 2, by omega⟩
      rw [E]
      unfold B_X3_foremost_1 F_X6_size fm
      rw [bd_some, hx.g 4 (by decide), h1.2.1, if_neg nle, if_pos (by rw [c]), if_pos c]
      show B_X3_foremost_2 (L_X3_foremost b n) n b (nI one) _ fo mo (nI i) (-1) σ' = _
      unfold B_X3_foremost_2
      rw [if_pos (by rw [i_le, tm1]; exact hm), bnd_eq, n_a1]
      exact e1 n (by omega)
    · obtain ⟨C, σ1, e1, e2⟩ := hG.twX h1 hx hb hT ho (show i < N by omega)
      generalize hw : wv N G (gI τ 2) (gI τ' 17) (gI τ' 0 27) one = w at e1 ⊢
      have hw12 : w i ≤ 12 := by rw [← hw]; exact wv_le hG _ _ _ _ _
      have hs12 : shr won w i ≤ 12 := by unfold shr; split <;> omega
      have step : ∀ fo' mo' : Int32, -1 ≤ mo'.toInt → ∃ C' σ2, (∀ n, C' ≤ n → L_X3_foremost b n 1 (nI one) (if won then 1 else 0) fo' mo' (nI (i + 1)) 0 σ1 = some (fm (shr won w) one m (i + 1) fo' mo', σ2)) ∧ FrC σ1 σ2 := fun fo' mo' hm' => by
        rw [← hw]
        exact foreX hG h1 hb ho won m (i + 1) σ1 fo' mo' (by omega) (hx.trans e2.eq) (hT.fr hb e2 (FrW.rf _)) hm'
      by_cases cm : nI (shr won w i) ≤ mo
      · obtain ⟨C', σ2, f1, f2⟩ := step fo mo hm
        refine ⟨C + C' + 2, σ2, fun n hn => ?_, e2.tr f2⟩
        obtain ⟨n, rfl⟩ : ∃ q, n = q + 2 := ⟨n - 2, by omega⟩
        rw [E]
        unfold B_X3_foremost_1 F_X6_size fm
        rw [bd_some, hx.g 4 (by decide), h1.2.1, if_neg nle, if_neg (by rw [nI_inj (by omega) (by omega)]; exact c), e1 (n + 1) (by omega), bd_some, shX _ won hw12, bd_some, if_neg c, if_pos cm]
        show B_X3_foremost_2 (L_X3_foremost b n) n b (nI one) _ fo mo (nI i) (nI (shr won w i)) σ1 = _
        unfold B_X3_foremost_2
        rw [if_pos cm, bnd_eq, n_a1]
        exact f1 n (by omega)
      · obtain ⟨C', σ2, f1, f2⟩ := step (nI i) (nI (shr won w i)) (by rw [i_n (by omega)]; omega)
        refine ⟨C + C' + 2, σ2, fun n hn => ?_, e2.tr f2⟩
        obtain ⟨n, rfl⟩ : ∃ q, n = q + 2 := ⟨n - 2, by omega⟩
        rw [E]
        unfold B_X3_foremost_1 F_X6_size fm
        rw [bd_some, hx.g 4 (by decide), h1.2.1, if_neg nle, if_neg (by rw [nI_inj (by omega) (by omega)]; exact c), e1 (n + 1) (by omega), bd_some, shX _ won hw12, bd_some, if_neg c, if_neg cm]
        show B_X3_foremost_2 (L_X3_foremost b n) n b (nI one) _ fo mo (nI i) (nI (shr won w i)) σ1 = _
        unfold B_X3_foremost_2
        rw [if_neg cm, bnd_eq, n_a1]
        exact f1 n (by omega)
theorem bestR {N : Nat} {σ τ : St} {G : Nat → Nat → Int32 → Int32 → Nat → Int32 → Nat} (hG : Crt N σ τ G) (h1 : Pp N σ τ) {w : Nat → Nat} {f : Nat → Int32} {ah : Int32} {one : Nat} (hw : wv N G (gI τ 2) f ah one = w) (hbk : ∀ i, i < N → bok N (f i)) (ho : one < N) (won : Bool) : ∀ (m i : Nat) (τ' : St) (fo mo : Int32), i + m = N → EqR τ τ' → gI τ' 17 = f → gI τ' 0 27 = ah → ∃ C τ'', (∀ n, C ≤ n → L_X12_best n 1 (nI one) (if won then 0 else 1) fo mo (nI i) 0 0 τ' = some (fm (shr won w) one m i fo mo, τ'')) ∧ FrW τ' τ''
  | 0, i, τ', fo, mo, hi, hx, e17, e27 => by
    refine ⟨1, τ', fun n hn => ?_, FrW.rf _⟩
    obtain ⟨n, rfl⟩ : ∃ q, n = q + 1 := ⟨n - 1, by omega⟩
    show B_X12_best_1 (L_X12_best n) n (nI one) _ fo mo (nI i) τ' = _
    unfold B_X12_best_1
    rw [hx.2 1 (by decide), h1.2.2.1, if_pos (by rw [show i = N by omega]; exact Int32.le_refl _)]
    rfl
  | m + 1, i, τ', fo, mo, hi, hx, e17, e27 => by
    have h7 := h1.1
    have E : ∀ n, L_X12_best (n + 1) 1 (nI one) (if won then 0 else 1) fo mo (nI i) 0 0 τ' = B_X12_best_1 (L_X12_best n) n (nI one) (if won then 0 else 1) fo mo (nI i) τ' := fun _ => rfl
    have nle : ¬ nI N ≤ nI i := by rw [i_le, i_n (by omega), i_n (by omega)]; omega
    by_cases c : i = one
    · obtain ⟨C, σ2, e1, e2⟩ := bestR hG h1 hw hbk ho won m (i + 1) τ' fo mo (by omega) hx e17 e27
      refine ⟨C + 2, σ2, fun n hn => ?_, e2⟩
      obtain ⟨n, rfl⟩ : ∃ q, n = q + 1 := ⟨n - 1, by omega⟩
      rw [E]
      unfold B_X12_best_1 fm
      rw [hx.2 1 (by decide), h1.2.2.1, if_neg nle, if_pos (by rw [c]), if_pos c, bnd_eq, n_a1]
      exact e1 n (by omega)
    · obtain ⟨C, τ1, e1, e2⟩ := hG.twR h1 hx (by rw [e17]; exact hbk) ho (show i < N by omega)
      rw [e17, e27, hw] at e1
      have hw12 : w i ≤ 12 := by rw [← hw]; exact wv_le hG _ _ _ _ _
      have mid : ∀ n, (if (if won then (0 : Int32) else 1) = 0 then L_X12_best n 2 (nI one) (if won then 0 else 1) fo mo (nI i) 1 (nI (w i)) τ1 else L_X12_best n 2 (nI one) (if won then 0 else 1) fo mo (nI i) 0 (nI (w i)) τ1) = L_X12_best n 2 (nI one) (if won then 0 else 1) fo mo (nI i) (if won then 1 else 0) (nI (w i)) τ1 := fun n => by cases won <;> rfl
      have step : ∀ fo' mo' : Int32, ∃ C' σ2, (∀ n, C' ≤ n → L_X12_best n 1 (nI one) (if won then 0 else 1) fo' mo' (nI (i + 1)) 0 0 τ1 = some (fm (shr won w) one m (i + 1) fo' mo', σ2)) ∧ FrW τ1 σ2 := fun fo' mo' => bestR hG h1 hw hbk ho won m (i + 1) τ1 fo' mo' (by omega) (hx.trans e2.eq) (e2.f17.trans e17) ((e2.1 0 27 (by decide) (by decide)).trans e27)
      by_cases cm : nI (shr won w i) ≤ mo
      · obtain ⟨C', σ2, f1, f2⟩ := step fo mo
        refine ⟨C + C' + 2, σ2, fun n hn => ?_, e2.tr f2⟩
        obtain ⟨n, rfl⟩ : ∃ q, n = q + 2 := ⟨n - 2, by omega⟩
        rw [E]
        unfold B_X12_best_1 fm
        rw [hx.2 1 (by decide), h1.2.2.1, if_neg nle, if_neg (by rw [nI_inj (by omega) (by omega)]; exact c), e1 (n + 1) (by omega), bd_some, mid, if_neg c, if_pos cm]
        show B_X12_best_2 (L_X12_best n) n (nI one) _ fo mo (nI i) _ (nI (w i)) τ1 = _
        unfold B_X12_best_2
        rw [shR _ won hw12, bd_some, if_neg (by rw [i_lt]; rw [i_le] at cm; exact Int.not_lt.mpr cm), bnd_eq, n_a1]
        exact f1 n (by omega)
      · obtain ⟨C', σ2, f1, f2⟩ := step (nI i) (nI (shr won w i))
        refine ⟨C + C' + 2, σ2, fun n hn => ?_, e2.tr f2⟩
        obtain ⟨n, rfl⟩ : ∃ q, n = q + 2 := ⟨n - 2, by omega⟩
        rw [E]
        unfold B_X12_best_1 fm
        rw [hx.2 1 (by decide), h1.2.2.1, if_neg nle, if_neg (by rw [nI_inj (by omega) (by omega)]; exact c), e1 (n + 1) (by omega), bd_some, mid, if_neg c, if_neg cm]
        show B_X12_best_2 (L_X12_best n) n (nI one) _ fo mo (nI i) _ (nI (w i)) τ1 = _
        unfold B_X12_best_2
        rw [shR _ won hw12, bd_some, if_pos (by rw [i_lt]; rw [i_le] at cm; exact Int.not_le.mp cm), bnd_eq, n_a1]
        exact f1 n (by omega)
theorem b_best (p1 p2 : Int32) : MStp Inv (fun n σ => F_X11_best n p1 p2 σ) (fun n τ => F_X12_best n p1 p2 τ) := mstp_of (fun σ τ hI => by
  obtain ⟨N, B, h1, h2, h3, h4, h5, h6, h7, h8, h9⟩ := id hI
  obtain ⟨a1, a2, a3, a4⟩ := id h1
  rcases per (N := N) p1 with ⟨A, hA, rfl⟩ | c0
  · have pA := perI hA a1
    obtain ⟨τ1, g1, g2, g3⟩ := beg12 h1 h3
    have hT := (g3.2.1 A hA).1
    have va : vp_in (nI A) 7 := nIin (by omega) (by decide)
    have ca : (nI A).toNatClampNeg = A := nIc (by omega)
    have main : ∀ won : Bool, ∃ r σ' τ', Ev (fun n => F_X11_best n (nI A) (if won then 0 else 1) σ) (r, σ') ∧ Ev (fun n => F_X12_best n (nI A) (if won then 0 else 1) τ) (r, τ') ∧ Inv σ' τ' := fun won => by
      have hin : ∀ n, F_X12_in n (if won then (0 : Int32) else 1) 0 1 τ = some (1, τ) := fun n => by cases won <;> rfl
      have hc : ∀ {β : Type} (a b : β), (if (if won then (0 : Int32) else 1) < 0 then a else if (if won then (0 : Int32) else 1) ≤ 1 then b else a) = b := fun a b => by
        cases won
        · exact in1 a b
        · exact in0 a b
      by_cases c2 : gI σ 38 A = -1
      · obtain ⟨G, hG⟩ := crt h1 h9
        generalize hw : wv N G (gI τ 2) (gI τ1 17) (gI τ1 0 27) A = w
        obtain ⟨C, τ2, e1, e2⟩ := bestR hG h1 hw g3.bk hA won N 0 τ1 (-2) (-1) (by omega) g2 rfl rfl
        have cR : gI τ1 17 A < 0 := by rw [← hT]; exact (bok_lt (g3.2.1 A hA).2 a1).mpr c2
        by_cases c3 : 2 ≤ N
        · obtain ⟨C', σ2, f1, f2⟩ := foreX hG h1 (b := 37) (by decide) hA won N 0 σ (-2) (-1) (by omega) (EqX.rf σ) g3 (by decide)
          rw [hw] at f1
          refine ⟨fm (shr won w) A N 0 (-2) (-1), σ2, τ2, ⟨C + C' + 8, fun n hn => ?_⟩, ⟨C + C' + 8, fun n hn => ?_⟩, hI.eq f2.eq (g2.trans e2.eq)⟩
          rotate_left
          · show F_X12_best n (nI A) _ τ = _
            unfold F_X12_best
            rw [isP12 a3 a1, bd_some, one0, if_pos pA, hin, bd_some, if_neg (by decide), g1 n (by omega), bd_some, gd_eq va, ca, if_pos cR]
            exact e1 n (by omega)
          · show F_X11_best n (nI A) _ σ = _
            unfold F_X11_best F_X6_size F_X3_easiest F_X3_hardest F_X3_foremost
            rw [has6 a2 a1, bd_some, one0, if_pos pA, hc, free1 n 37 (by omega), bd_some, if_pos c2, if_neg (by decide), bd_some, a2, if_pos (by rw [i_le, i_n (by omega), t2]; omega)]
            have := f1 n (by omega)
            cases won
            · rw [if_neg (by decide)]
              exact Eq.trans (congrArg (fun x => bd (bd x _) _) this) rfl
            · rw [if_pos (by decide)]
              exact Eq.trans (congrArg (fun x => bd (bd x _) _) this) rfl
        · obtain rfl : N = 1 := by omega
          obtain rfl : A = 0 := by omega
          refine ⟨-2, σ, τ2, ⟨C + 8, fun n hn => ?_⟩, ⟨C + 8, fun n hn => ?_⟩, hI.eq (EqX.rf σ) (g2.trans e2.eq)⟩
          · show F_X11_best n (nI 0) _ σ = _
            unfold F_X11_best F_X6_size
            rw [has6 a2 a1, bd_some, one0, if_pos pA, hc, free1 n 37 (by omega), bd_some, if_pos c2, if_neg (by decide), bd_some, a2, if_neg (by decide)]
          · show F_X12_best n (nI 0) _ τ = _
            unfold F_X12_best
            rw [isP12 a3 a1, bd_some, one0, if_pos pA, hin, bd_some, if_neg (by decide), g1 n (by omega), bd_some, gd_eq va, ca, if_pos cR]
            exact e1 n (by omega)
      · have cR : ¬ gI τ1 17 A < 0 := by rw [← hT]; exact fun h => c2 ((bok_lt (g3.2.1 A hA).2 a1).mp h)
        refine ⟨-2, σ, τ1, ⟨8, fun n hn => ?_⟩, ⟨8, fun n hn => ?_⟩, hI.eq (EqX.rf σ) g2⟩
        · show F_X11_best n (nI A) _ σ = _
          unfold F_X11_best
          rw [has6 a2 a1, bd_some, one0, if_pos pA, hc, free1 n 37 (by omega), bd_some, if_neg c2, if_pos rfl]
        · show F_X12_best n (nI A) _ τ = _
          unfold F_X12_best
          rw [isP12 a3 a1, bd_some, one0, if_pos pA, hin, bd_some, if_neg (by decide), g1 n (by omega), bd_some, gd_eq va, ca, if_neg cR]
    rcases b012 p2 with rfl | rfl | c1
    · exact main true
    · exact main false
    · refine ⟨-1, σ, τ, Ev.const (fun n => ?_), Ev.const (fun n => ?_), hI⟩
      · unfold F_X11_best
        rw [has6 a2 a1, bd_some, one0, if_pos pA, out01 c1]
      · unfold F_X12_best
        rw [isP12 a3 a1, bd_some, one0, if_pos pA, in01, bd_some, one0, if_neg c1]
  · refine ⟨-1, σ, τ, Ev.const (fun n => ?_), Ev.const (fun n => ?_), hI⟩
    · unfold F_X11_best
      rw [has6 a2 a1, bd_some, one0, if_neg c0]
    · unfold F_X12_best
      rw [isP12 a3 a1, bd_some, one0, if_neg c0])
