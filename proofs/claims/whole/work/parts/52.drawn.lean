/-! drawn -/
theorem u_n (u : UInt32) : u.toInt32 = nI u.toNat := by
  rw [← Int32.toBitVec_inj]
  show u.toBitVec = BitVec.ofNat 32 u.toBitVec.toNat
  rw [BitVec.ofNat_toNat, BitVec.setWidth_eq]
theorem ush4 (z : Int32) : ∃ v : Nat, v < 2147483648 ∧ (z.toUInt32 >>> ((4 : Int32).toUInt32 &&& Int32.toUInt32 31)).toInt32 = nI v := by
  refine ⟨(z.toUInt32 >>> ((4 : Int32).toUInt32 &&& Int32.toUInt32 31)).toNat, ?_, u_n _⟩
  rw [UInt32.toNat_shiftRight, show ((4 : Int32).toUInt32 &&& Int32.toUInt32 31).toNat % 32 = 4 from rfl, Nat.shiftRight_eq_div_pow]
  have := z.toUInt32.toNat_lt
  omega
theorem ush12 (z : Int32) : ∃ v : Nat, v < 2147483648 ∧ (z.toUInt32 >>> ((12 : Int32).toUInt32 &&& Int32.toUInt32 31)).toInt32 = nI v := by
  refine ⟨(z.toUInt32 >>> ((12 : Int32).toUInt32 &&& Int32.toUInt32 31)).toNat, ?_, u_n _⟩
  rw [UInt32.toNat_shiftRight, show ((12 : Int32).toUInt32 &&& Int32.toUInt32 31).toNat % 32 = 12 from rfl, Nat.shiftRight_eq_div_pow]
  have := z.toUInt32.toNat_lt
  omega
theorem EqX.o23 {σ : St} {k : Nat} {v : Int32} : EqX σ (sI σ 23 k v) := EqX.ofI (by decide) (by decide)
/-- who is drawn -/
theorem drw {N : Nat} (h2 : 2 ≤ N) (h7 : N ≤ 7) (z : Int32) : ∃ A C : Nat, A < N ∧ C < N ∧ A ≠ C ∧ ∃ C0 : Nat, C0 < 7 ∧ (z.toUInt32 >>> ((4 : Int32).toUInt32 &&& Int32.toUInt32 31)).toInt32 - (z.toUInt32 >>> ((4 : Int32).toUInt32 &&& Int32.toUInt32 31)).toInt32 / nI N * nI N = nI A ∧ (z.toUInt32 >>> ((12 : Int32).toUInt32 &&& Int32.toUInt32 31)).toInt32 - (z.toUInt32 >>> ((12 : Int32).toUInt32 &&& Int32.toUInt32 31)).toInt32 / (nI N - 1) * (nI N - 1) = nI C0 ∧ C = (if C0 < A then C0 else C0 + 1) := by
  obtain ⟨v, hv, e1⟩ := ush4 z
  obtain ⟨w, hw, e2⟩ := ush12 z
  have l1 : v % N < N := Nat.mod_lt _ (by omega)
  have l2 : w % (N - 1) < N - 1 := Nat.mod_lt _ (by omega)
  refine ⟨v % N, if w % (N - 1) < v % N then w % (N - 1) else w % (N - 1) + 1, l1, by split <;> omega, by split <;> omega, w % (N - 1), by omega, ?_, ?_, rfl⟩
  · rw [e1]
    exact pk_rem hv (by omega) (by omega)
  · rw [e2, nIs1 (by omega)]
    exact pk_rem hw (by omega) (by omega)
theorem drawXR {N : Nat} {σ τ σ' τ' : St} {G : Nat → Nat → Int32 → Int32 → Nat → Int32 → Nat} (hG : Crt N σ τ G) (h1 : Pp N σ τ) (hN2 : 2 ≤ N) (hx : EqX σ σ') (hr : EqR τ τ') (hT : Th N σ' τ' 61) (p2 p3 p4 z h w e y : Int32) {E i : Nat} (hE : p2 - p2 / 100 * 100 = nI E) (hi : i < E) (hE60 : E ≤ 60) (e2 : gI σ' 23 2 = h) (e3 : gI σ' 23 3 = w) : ∃ (C c : Nat) (h' w' : Int32) (σ'' τ'' : St), (∀ n, C ≤ n → F_X5_drawCase n (z * 1103515245 + 12345) p4 σ' = some ((), σ'')) ∧ (∀ n, C ≤ n → L_X12_drawn (n + c) 3 p2 p3 p4 z h w e y (nI i) 0 0 0 τ' = L_X12_drawn n 3 p2 p3 p4 (z * 1103515245 + 12345) h' w' e y (nI (i + 1)) 0 0 0 τ'') ∧ EqX σ' σ'' ∧ EqR τ' τ'' ∧ Th N σ'' τ'' 61 ∧ gI σ'' 23 2 = h' ∧ gI σ'' 23 3 = w' ∧ gI σ'' 23 4 = gI σ' 23 4 := by
  obtain ⟨a1, a2, a3, a4⟩ := id h1
  generalize hz : z * 1103515245 + 12345 = z1
  obtain ⟨A, C, hA, hC, hAC, C0, hC0, q1, q2, q3⟩ := drw hN2 a1 z1
  have xN : gI σ' 4 1 = nI N := (hx.g 4 (by decide) 1).trans a2
  have tN : gI τ' 0 1 = nI N := (hr.2 1 (by decide)).trans a3
  have hTa := (hT.2.1 A hA).1
  have nN0 : ¬ nI N = 0 := by rw [i_eq, i_n (by omega), t0]; omega
  have nN1 : ¬ nI N - 1 = 0 := by rw [nIs1 (by omega), i_eq, i_n (by omega), t0]; omega
  have pX : ∀ n, F_X5_drawCase n z1 p4 σ' = L_X5_drawCase n 1 z1 p4 (nI A) (nI C) σ' := fun n => by
    unfold F_X5_drawCase F_X6_size
    rw [bd_some, xN, if_pos (by rw [i_le, i_n (by omega), t2]; omega), gd_eq nN0, bnd_eq, q1, gd_eq nN1, bnd_eq, q2, q3]
    by_cases c : C0 < A
    · rw [if_pos (by rw [i_lt, i_n (by omega), i_n (by omega)]; omega), if_pos c]
    · rw [if_neg (by rw [i_lt, i_n (by omega), i_n (by omega)]; omega), if_neg c, bnd_eq, n_a1]
  have pR : ∀ n, L_X12_drawn (n + 1) 3 p2 p3 p4 z h w e y (nI i) 0 0 0 τ' = L_X12_drawn n 4 p2 p3 p4 z1 h w e y (nI i) (nI A) (nI C) 0 τ' := fun n => by
    show B_X12_drawn_3 (L_X12_drawn n) n p2 p3 p4 z h w e y (nI i) τ' = _
    unfold B_X12_drawn_3
    rw [gd_eq (by decide), bnd_eq, hE, if_neg (by rw [i_le, i_n (by omega), i_n (by omega)]; omega), bnd_eq, hz, tN, gd_eq nN0, bnd_eq, q1, gd_eq nN1, bnd_eq, q2, q3]
    by_cases c : C0 < A
    · rw [if_pos (by rw [i_lt, i_n (by omega), i_n (by omega)]; omega), if_pos c]
    · rw [if_neg (by rw [i_lt, i_n (by omega), i_n (by omega)]; omega), if_neg c, bnd_eq, n_a1]
  have va : vp_in (nI A) 7 := nIin (by omega) (by decide)
  have ca : (nI A).toNatClampNeg = A := nIc (by omega)
  by_cases cf : gI σ' 62 A = -1
  · obtain ⟨x, K, σ1, τ1, hx12, g1, g2, g3, g4, g5, _⟩ := hG.tw h1 hx hr (b := 61) (by decide) hT hA hC
    have cR : gI τ' 17 A < 0 := by rw [← hTa]; exact (bok_lt (hT.2.1 A hA).2 a1).mpr cf
    obtain ⟨won, hwon⟩ : ∃ won : Bool, (won = false ↔ nI x ≤ (z1.toUInt32 >>> ((20 : Int32).toUInt32 &&& Int32.toUInt32 31)).toInt32 - (z1.toUInt32 >>> ((20 : Int32).toUInt32 &&& Int32.toUInt32 31)).toInt32 / 12 * 12) := by
      by_cases c : nI x ≤ (z1.toUInt32 >>> ((20 : Int32).toUInt32 &&& Int32.toUInt32 31)).toInt32 - (z1.toUInt32 >>> ((20 : Int32).toUInt32 &&& Int32.toUInt32 31)).toInt32 / 12 * 12
      · exact ⟨false, fun _ => c, fun _ => rfl⟩
      · exact ⟨true, fun h => (by cases h), fun h => absurd h c⟩
    have N1 : gI τ1 0 1 = nI N := (g4.1 0 1 (by decide) (by decide)).trans tN
    have wp : ∀ {β : Type} (u v : β), (if nI x ≤ (z1.toUInt32 >>> ((20 : Int32).toUInt32 &&& Int32.toUInt32 31)).toInt32 - (z1.toUInt32 >>> ((20 : Int32).toUInt32 &&& Int32.toUInt32 31)).toInt32 / 12 * 12 then u else v) = if won then v else u := fun u v => by
      cases won
      · rw [if_pos (hwon.mp rfl)]
        rfl
      · rw [if_neg (fun h => by cases hwon.mpr h)]
        rfl
    have y4 : EqX σ' (setX σ1 61 A C won) := g3.eq.trans (setX_eq σ1 61 A C won (by decide) (by decide) (by decide) (by decide))
    have z4 : EqR τ' (setR τ1 N A C won) := g4.eq.trans (setR_eq τ1 N A C won)
    have k23 : ∀ i, gI (setX σ1 61 A C won) 23 i = gI σ' 23 i := fun i => by rw [setX_o _ _ _ _ _ (by decide) (by decide)]; exact g3.1 23 i (by decide) (by decide)
    have T4 := g5.set a1 hA hC won
    have o1 : ∀ n, K ≤ n → L_X5_drawCase (n + 1) 1 z1 p4 (nI A) (nI C) σ' = L_X5_drawCase n 2 p4 (nI A) (nI C) (if won then 1 else 0) σ1 := fun n hn => by
      show B_X5_drawCase_1 (L_X5_drawCase n) n z1 p4 (nI A) (nI C) σ' = _
      unfold B_X5_drawCase_1
      rw [free1 n 61 (by omega), bd_some, one0, if_pos cf, gd_eq (by decide), bnd_eq, g1 n hn, bd_some, wp]
      cases won <;> rfl
    have o2 : ∀ n, K ≤ n → L_X12_drawn (n + 1) 4 p2 p3 p4 z1 h w e y (nI i) (nI A) (nI C) 0 τ' = L_X12_drawn n 5 p2 p3 p4 z1 h w e y (nI i) (nI A) (nI C) (if won then 1 else 0) τ1 := fun n hn => by
      show B_X12_drawn_4 (L_X12_drawn n) n p2 p3 p4 z1 h w e y (nI i) (nI A) (nI C) τ' = _
      unfold B_X12_drawn_4
      rw [gd_eq va, ca, if_pos cR, gd_eq (by decide), bnd_eq, g2 n hn, bd_some, wp]
      cases won <;> rfl
    have o6 : ∀ n hh ww, 8 ≤ n → L_X12_drawn (n + 1) 6 p2 p3 p4 z1 hh ww e y (nI i) (nI A) (nI C) (if won then 1 else 0) τ1 = L_X12_drawn n 3 p2 p3 p4 z1 hh ww e y (nI (i + 1)) 0 0 0 (setR τ1 N A C won) := fun n hh ww hn => by
      show B_X12_drawn_6 (L_X12_drawn n) n p2 p3 p4 z1 hh ww e y (nI i) (nI A) (nI C) _ τ1 = _
      unfold B_X12_drawn_6
      rw [go12 a1 τ1 N1 hA hC won n hn, bd_some, bnd_eq, n_a1]
    have o5 : ∀ n, 8 ≤ n → L_X12_drawn (n + 1 + 1) 5 p2 p3 p4 z1 h w e y (nI i) (nI A) (nI C) (if won then 1 else 0) τ1 = L_X12_drawn n 3 p2 p3 p4 z1 (h + 1) (if won = true ∧ nI A = p4 then w + 1 else w) e y (nI (i + 1)) 0 0 0 (setR τ1 N A C won) := fun n hn => by
      show B_X12_drawn_5 (L_X12_drawn (n + 1)) (n + 1) p2 p3 p4 z1 h w e y (nI i) (nI A) (nI C) _ τ1 = _
      unfold B_X12_drawn_5
      rw [bnd_eq]
      have o6' := fun ww => o6 n (h + 1) ww hn
      cases won
      · rw [if_neg (by decide)]
        exact (o6' w).trans (by rw [if_neg (fun e => by cases e.1)])
      · rw [if_pos (by decide)]
        by_cases c : nI A = p4
        · rw [if_pos c, bnd_eq]
          exact (o6' (w + 1)).trans (by rw [if_pos ⟨rfl, c⟩])
        · rw [if_neg c]
          exact (o6' w).trans (by rw [if_neg (fun e => c e.2)])
    by_cases cw : won = true ∧ nI A = p4
    · refine ⟨K + 12, 4, h + 1, w + 1, sI (sI (setX σ1 61 A C won) 23 2 (h + 1)) 23 3 (w + 1), setR τ1 N A C won, fun n hn => ?_, fun n hn => ?_, (y4.trans EqX.o23).trans EqX.o23, z4, T4.at (by rw [gI_sI, if_neg (by decide), gI_sI, if_neg (by decide)]) (fun i => by rw [gI_sI, if_neg (by decide), gI_sI, if_neg (by decide)]) rfl (fun _ => rfl), by simp [gI_sI], by simp [gI_sI], by simp [gI_sI, k23]⟩
      · obtain ⟨n, rfl⟩ : ∃ q, n = q + 2 := ⟨n - 2, by omega⟩
        rw [pX, o1 (n + 1) (by omega)]
        show B_X5_drawCase_2 (L_X5_drawCase n) n p4 (nI A) (nI C) _ σ1 = _
        unfold B_X5_drawCase_2
        rw [set1 61 σ1 (by omega) (by omega) won n (by omega), bd_some, bnd_eq, k23, e2, cw.1, if_neg (by decide), if_pos cw.2, bnd_eq, gI_sI, if_pos rfl, if_neg (by decide), ← cw.1, k23, e3]
      · rw [show n + 4 = (n + 1 + 1) + 1 + 1 from rfl, pR, o2 _ (by omega), o5 n (by omega), if_pos cw]
    · refine ⟨K + 12, 4, h + 1, w, sI (setX σ1 61 A C won) 23 2 (h + 1), setR τ1 N A C won, fun n hn => ?_, fun n hn => ?_, y4.trans EqX.o23, z4, T4.at (by rw [gI_sI, if_neg (by decide)]) (fun i => by rw [gI_sI, if_neg (by decide)]) rfl (fun _ => rfl), by simp [gI_sI], by simp [gI_sI, k23, e3], by simp [gI_sI, k23]⟩
      · obtain ⟨n, rfl⟩ : ∃ q, n = q + 2 := ⟨n - 2, by omega⟩
        rw [pX, o1 (n + 1) (by omega)]
        show B_X5_drawCase_2 (L_X5_drawCase n) n p4 (nI A) (nI C) _ σ1 = _
        unfold B_X5_drawCase_2
        rw [set1 61 σ1 (by omega) (by omega) won n (by omega), bd_some, bnd_eq, k23, e2]
        cases hw : won
        · rw [if_pos (by decide)]
        · rw [if_neg (by decide), if_neg (fun e => cw ⟨hw, e⟩)]
      · rw [show n + 4 = (n + 1 + 1) + 1 + 1 from rfl, pR, o2 _ (by omega), o5 n (by omega), if_neg cw]
  · have cR : ¬ gI τ' 17 A < 0 := by rw [← hTa]; exact fun h => cf ((bok_lt (hT.2.1 A hA).2 a1).mp h)
    refine ⟨8, 2, h, w, σ', τ', fun n hn => ?_, fun n hn => ?_, EqX.rf _, EqR.rf _, hT, e2, e3, rfl⟩
    · obtain ⟨n, rfl⟩ : ∃ q, n = q + 1 := ⟨n - 1, by omega⟩
      rw [pX]
      show B_X5_drawCase_1 (L_X5_drawCase n) n z1 p4 (nI A) (nI C) σ' = _
      unfold B_X5_drawCase_1
      rw [free1 n 61 (by omega), bd_some, one0, if_neg cf]
    · rw [show n + 2 = n + 1 + 1 from rfl, pR]
      show B_X12_drawn_4 (L_X12_drawn n) n p2 p3 p4 z1 h w e y (nI i) (nI A) (nI C) τ' = _
      unfold B_X12_drawn_4
      rw [gd_eq va, ca, if_neg cR, bnd_eq, n_a1]
theorem drawI {N : Nat} {σ τ : St} {G : Nat → Nat → Int32 → Int32 → Nat → Int32 → Nat} (hG : Crt N σ τ G) (h1 : Pp N σ τ) (hN2 : 2 ≤ N) (p2 p3 p4 : Int32) {E Y y : Nat} (hE : p2 - p2 / 100 * 100 = nI E) (hE60 : E ≤ 60) : ∀ (j i : Nat) (z h w e : Int32) (σ' τ' : St), i + j = E → EqX σ σ' → EqR τ τ' → Th N σ' τ' 61 → gI σ' 23 2 = h → gI σ' 23 3 = w → gI σ' 23 4 = e → ∃ (C c1 c2 : Nat) (z' h' w' e' : Int32) (σ'' τ'' : St), (∀ n, C ≤ n → L_X5_pass 37 (n + c1) 2 (nI Y) (nI E) p4 z (nI y) (nI i) σ' = L_X5_pass 37 n 1 (nI Y) (nI E) p4 z' (nI (y + 1)) 0 σ'') ∧ (∀ n, C ≤ n → L_X12_drawn (n + c2) 3 p2 p3 p4 z h w e (nI y) (nI i) 0 0 0 τ' = L_X12_drawn n 2 p2 p3 p4 z' h' w' e' (nI (y + 1)) 0 0 0 0 τ'') ∧ EqX σ' σ'' ∧ EqR τ' τ'' ∧ gI σ'' 23 2 = h' ∧ gI σ'' 23 3 = w' ∧ gI σ'' 23 4 = e'
  | 0, i, z, h, w, e, σ', τ', hi, hx, hr, hT, e2, e3, e4 => by
    obtain ⟨a1, a2, a3, a4⟩ := id h1
    have tN : gI τ' 0 1 = nI N := (hr.2 1 (by decide)).trans a3
    have cc := hT.ct a1
    refine ⟨8, 1, 1, z, h, w, e + nI (cnt (gI τ' 17) N 0), sI σ' 23 4 (e + nI (cnt (gI τ' 17) N 0)), τ', fun n hn => ?_, fun n hn => ?_, EqX.o23, EqR.rf _, by rw [gI_sI, if_pos rfl, if_neg (by decide)]; exact e2, by rw [gI_sI, if_pos rfl, if_neg (by decide)]; exact e3, by rw [gI_sI, if_pos rfl, if_pos rfl]⟩
    · show B_X5_pass_2 (L_X5_pass 37 n) n 37 (nI Y) (nI E) p4 z (nI y) (nI i) σ' = _
      unfold B_X5_pass_2
      rw [if_pos (by rw [show i = E by omega]; exact Int32.le_refl _), cnt1 61 σ' n hn, bd_some, e4, cc, bnd_eq, bnd_eq, n_a1]
    · show B_X12_drawn_3 (L_X12_drawn n) n p2 p3 p4 z h w e (nI y) (nI i) τ' = _
      unfold B_X12_drawn_3
      rw [gd_eq (by decide), bnd_eq, hE, if_pos (by rw [show i = E by omega]; exact Int32.le_refl _), cnt12 a1 τ' tN hT.bk n hn, bd_some, bnd_eq, bnd_eq, n_a1]
  | j + 1, i, z, h, w, e, σ', τ', hi, hx, hr, hT, e2, e3, e4 => by
    obtain ⟨C, c, h', w', σ1, τ1, q1, q2, q3, q4, q5, q6, q7, q8⟩ := drawXR hG h1 hN2 hx hr hT p2 p3 p4 z h w e (nI y) hE (show i < E by omega) hE60 e2 e3
    obtain ⟨C', c1, c2, z2, h2, w2, e2', σ2, τ2, r1, r2, r3, r4, r5, r6, r7⟩ := drawI hG h1 hN2 p2 p3 p4 (Y := Y) (y := y) hE hE60 j (i + 1) (z * 1103515245 + 12345) h' w' e σ1 τ1 (by omega) (hx.trans q3) (hr.trans q4) q5 q6 q7 (q8.trans e4)
    refine ⟨C + C', c1 + 1, c2 + c, z2, h2, w2, e2', σ2, τ2, fun n hn => ?_, fun n hn => ?_, q3.trans r3, q4.trans r4, r5, r6, r7⟩
    · show B_X5_pass_2 (L_X5_pass 37 (n + c1)) (n + c1) 37 (nI Y) (nI E) p4 z (nI y) (nI i) σ' = _
      unfold B_X5_pass_2
      rw [if_neg (by rw [i_le, i_n (by omega), i_n (by omega)]; omega), bnd_eq, q1 (n + c1) (by omega), bd_some, bnd_eq, n_a1]
      exact r1 n (by omega)
    · rw [← Nat.add_assoc, q2 (n + c2) (by omega)]
      exact r2 n (by omega)
theorem drawO {N : Nat} {σ τ : St} {G : Nat → Nat → Int32 → Int32 → Nat → Int32 → Nat} (hG : Crt N σ τ G) (h1 : Pp N σ τ) (h3 : Pb N σ τ) (hN2 : 2 ≤ N) (p2 p3 p4 : Int32) {E Y : Nat} (hE : p2 - p2 / 100 * 100 = nI E) (hE60 : E ≤ 60) (hY : p2 / 100 = nI Y) (hY30 : Y ≤ 30) : ∀ (j y : Nat) (z h w e : Int32) (σ' τ' : St), y + j = Y → EqX σ σ' → EqR τ τ' → gI σ' 23 2 = h → gI σ' 23 3 = w → gI σ' 23 4 = e → ∃ (C : Nat) (σ'' τ'' : St), (∀ n, C ≤ n → L_X5_pass 37 n 1 (nI Y) (nI E) p4 z (nI y) 0 σ' = some ((), σ'')) ∧ (∀ n, C ≤ n → L_X12_drawn n 2 p2 p3 p4 z h w e (nI y) 0 0 0 0 τ' = some (if p3 = 0 then gI σ'' 23 2 else if p3 = 1 then gI σ'' 23 3 else gI σ'' 23 4, τ'')) ∧ EqX σ' σ'' ∧ EqR τ' τ''
  | 0, y, z, h, w, e, σ', τ', hy, hx, hr, e2, e3, e4 => by
    refine ⟨1, σ', τ', fun n hn => ?_, fun n hn => ?_, EqX.rf _, EqR.rf _⟩
    · obtain ⟨n, rfl⟩ : ∃ q, n = q + 1 := ⟨n - 1, by omega⟩
      show B_X5_pass_1 (L_X5_pass 37 n) n 37 (nI Y) (nI E) p4 z (nI y) σ' = _
      unfold B_X5_pass_1
      rw [if_pos (by rw [show y = Y by omega]; exact Int32.le_refl _)]
    · obtain ⟨n, rfl⟩ : ∃ q, n = q + 1 := ⟨n - 1, by omega⟩
      show B_X12_drawn_2 (L_X12_drawn n) n p2 p3 p4 z h w e (nI y) τ' = _
      unfold B_X12_drawn_2
      rw [gd_eq (by decide), bnd_eq, hY, if_pos (by rw [show y = Y by omega]; exact Int32.le_refl _), e2, e3, e4]
      split
      · rfl
      · split <;> rfl
  | j + 1, y, z, h, w, e, σ', τ', hy, hx, hr, e2, e3, e4 => by
    obtain ⟨a1, a2, a3, a4⟩ := id h1
    have h1' : Pp N σ' τ' := h1.at (hx.g 4 (by decide) 1) (fun k => hx.g 5 (by decide) k) (hr.2 1 (by decide)) (fun k => ⟨hr.g 1 (by decide) k, hr.g 2 (by decide) k, hr.g 3 (by decide) k, hr.g 4 (by decide) k⟩)
    have h3' : Pb N σ' τ' := h3.at (hx.g 37 (by decide) 1) (fun k => hx.g 38 (by decide) k) (hr.2 29 (by decide)) (fun k => hr.g 18 (by decide) k)
    obtain ⟨τ1, g1, g2, g3⟩ := beg12 h1' h3'
    have T1 := g3.cp 61 a1
    have x1 : EqX σ' (cpX σ' 61 37) := cpX_eq σ' 61 37 (by decide) (by decide) (by decide) (by decide)
    have k23 : ∀ i, gI (cpX σ' 61 37) 23 i = gI σ' 23 i := fun i => cpX_o σ' 61 37 (by decide) (by decide) i
    obtain ⟨C, c1, c2, z', h', w', e', σ2, τ2, q1, q2, q3, q4, q5, q6, q7⟩ := drawI hG h1 hN2 p2 p3 p4 (Y := Y) (y := y) hE hE60 E 0 z h w e (cpX σ' 61 37) τ1 (by omega) (hx.trans x1) (hr.trans g2) T1 ((k23 2).trans e2) ((k23 3).trans e3) ((k23 4).trans e4)
    obtain ⟨C', σ3, τ3, r1, r2, r3, r4⟩ := drawO hG h1 h3 hN2 p2 p3 p4 hE hE60 hY hY30 j (y + 1) z' h' w' e' σ2 τ2 (by omega) ((hx.trans x1).trans q3) ((hr.trans g2).trans q4) q5 q6 q7
    refine ⟨C + C' + c1 + c2 + 12, σ3, τ3, fun n hn => ?_, fun n hn => ?_, (x1.trans q3).trans r3, (g2.trans q4).trans r4⟩
    · obtain ⟨n, rfl⟩ : ∃ q, n = q + c1 + 1 := ⟨n - 1 - c1, by omega⟩
      show B_X5_pass_1 (L_X5_pass 37 (n + c1)) (n + c1) 37 (nI Y) (nI E) p4 z (nI y) σ' = _
      unfold B_X5_pass_1
      rw [if_neg (by rw [i_le, i_n (by omega), i_n (by omega)]; omega), cp1 _ σ' 61 37 (by decide), bd_some]
      exact (q1 n (by omega)).trans (r1 n (by omega))
    · obtain ⟨n, rfl⟩ : ∃ q, n = q + c2 + 1 := ⟨n - 1 - c2, by omega⟩
      show B_X12_drawn_2 (L_X12_drawn (n + c2)) (n + c2) p2 p3 p4 z h w e (nI y) τ' = _
      unfold B_X12_drawn_2
      rw [gd_eq (by decide), bnd_eq, hY, if_neg (by rw [i_le, i_n (by omega), i_n (by omega)]; omega), g1 _ (by omega), bd_some]
      exact (q2 n (by omega)).trans (r2 n (by omega))
theorem t60' : (60 : Int32).toInt = 60 := rfl
theorem b_drawn (p1 p2 p3 p4 : Int32) : MStp Inv (fun n σ => F_X11_drawn n p1 p2 p3 p4 σ) (fun n τ => F_X12_drawn n p1 p2 p3 p4 τ) := mstp_of (fun σ τ hI => by
  obtain ⟨N, B, h1, h2, h3, h4, h5, h6, h7, h8, h9⟩ := id hI
  obtain ⟨a1, a2, a3, a4⟩ := id h1
  have h100 : ¬ (100 : Int32) = 0 := by decide
  generalize hx : p2 / 100 = x
  generalize hy : p2 - x * 100 = y
  have dv : p2 < 0 → x.toInt < 1 := fun h => by
    rw [i_lt, t0] at h
    rw [← hx, Int32.toInt_div_of_ne_right _ _ (by decide), t100]
    have : p2.toInt.tdiv 100 ≤ 0 := by
      rw [show p2.toInt = -(-p2.toInt) by omega, Int.neg_tdiv]
      have := Int.tdiv_nonneg (a := -p2.toInt) (b := 100) (by omega) (by decide)
      omega
    omega
  by_cases c1 : 1 ≤ x.toInt ∧ x.toInt ≤ 30
  · have p0 : ¬ p2 < 0 := fun h => by have := dv h; omega
    by_cases c2 : 1 ≤ y.toInt ∧ y.toInt ≤ 60
    · by_cases c3 : 0 ≤ p3.toInt ∧ p3.toInt ≤ 2
      · have pX : ∀ n, F_X11_drawn n p1 p2 p3 p4 σ = if p3 = 1 then (bd (F_X6_has n p4 σ) fun r4 s3 => if r4 = 0 then (some ((-1 : Int32), s3)) else (L_X11_drawn n 1 p1 p3 p4 x y s3)) else L_X11_drawn n 1 p1 p3 p4 x y σ := fun n => by
          unfold F_X11_drawn
          rw [gd_eq h100, bnd_eq, gd_eq h100, bnd_eq, hx, hy, if_neg (by rw [i_lt, t1]; omega), if_neg (by rw [i_lt, t30]; omega), if_neg (by rw [i_lt, t1]; omega), if_neg (by rw [i_lt, t60]; omega), if_neg (by rw [i_lt, t0]; omega), if_neg (by rw [i_lt, t2]; omega)]
        have pR : ∀ n, F_X12_drawn n p1 p2 p3 p4 τ = if p3 = 1 then (bd (F_X12_isPerson n p4 τ) fun r10 s9 => if r10 = 0 then (some ((-1 : Int32), s9)) else (L_X12_drawn n 1 p1 p2 p3 p4 0 0 0 0 0 0 0 0 s9)) else L_X12_drawn n 1 p1 p2 p3 p4 0 0 0 0 0 0 0 0 τ := fun n => by
          unfold F_X12_drawn
          rw [if_neg p0, gd_eq h100, bnd_eq, hx, in12, t1, t30, bd_some, one0, if_pos c1, gd_eq h100, bnd_eq, hy, in12, t1, t60, bd_some, one0, if_pos c2, in12, t0, t2, bd_some, one0, if_pos c3]
        have go : ∃ r σ' τ', Ev (fun n => L_X11_drawn n 1 p1 p3 p4 x y σ) (r, σ') ∧ Ev (fun n => L_X12_drawn n 1 p1 p2 p3 p4 0 0 0 0 0 0 0 0 τ) (r, τ') ∧ Inv σ' τ' := by
          have y0 : EqX σ (sI (sI (sI σ 23 2 0) 23 3 0) 23 4 0) := (EqX.o23.trans EqX.o23).trans EqX.o23
          by_cases cN : 2 ≤ N
          · obtain ⟨Y, hY, eY⟩ := i_natlt (x := x) (n := 31) (by omega) (by omega)
            obtain ⟨E, hE, eE⟩ := i_natlt (x := y) (n := 61) (by omega) (by omega)
            obtain ⟨G, hG⟩ := crt h1 h9
            obtain ⟨C, σ2, τ2, r1, r2, r3, r4⟩ := drawO hG h1 h3 cN p2 p3 p4 (by rw [hx, hy]; exact eE) (by omega) (by rw [hx]; exact eY) (by omega) Y 0 p1 0 0 0 (sI (sI (sI σ 23 2 0) 23 3 0) 23 4 0) τ (by omega) y0 (EqR.rf _) (by simp [gI_sI]) (by simp [gI_sI]) (by simp [gI_sI])
            refine ⟨if p3 = 0 then gI σ2 23 2 else if p3 = 1 then gI σ2 23 3 else gI σ2 23 4, σ2, τ2, ⟨C + 2, fun n hn => ?_⟩, ⟨C + 2, fun n hn => ?_⟩, hI.eq (y0.trans r3) r4⟩
            rotate_left
            · show L_X12_drawn n 1 p1 p2 p3 p4 0 0 0 0 0 0 0 0 τ = _
              obtain ⟨n, rfl⟩ : ∃ q, n = q + 1 := ⟨n - 1, by omega⟩
              show B_X12_drawn_1 (L_X12_drawn n) n p1 p2 p3 p4 τ = _
              unfold B_X12_drawn_1
              rw [a3, if_pos (by rw [i_le, i_n (by omega), t2]; omega)]
              exact r2 n (by omega)
            · show L_X11_drawn n 1 p1 p3 p4 x y σ = _
              obtain ⟨n, rfl⟩ : ∃ q, n = q + 1 := ⟨n - 1, by omega⟩
              show B_X11_drawn_1 (L_X11_drawn n) n p1 p3 p4 x y σ = _
              unfold B_X11_drawn_1 F_X5_pass F_X6_size F_X5_heard F_X5_wonByOne F_X5_boundAtEnds
              have e41 : gI (sI (sI (sI σ 23 2 0) 23 3 0) 23 4 0) 4 1 = nI N := by simp [gI_sI, a2]
              rw [bnd_eq, bnd_eq, bnd_eq, bd_some, e41, if_pos (by rw [i_le, i_n (by omega), t2]; omega), eY, eE]
              refine Eq.trans (congrArg (fun q => bd q _) (r1 n (by omega))) ?_
              rw [bd_some, bd_some, bd_some, bd_some]
              split
              · rfl
              · split <;> rfl
          · refine ⟨0, sI (sI (sI σ 23 2 0) 23 3 0) 23 4 0, τ, ⟨2, fun n hn => ?_⟩, ⟨2, fun n hn => ?_⟩, hI.eq y0 (EqR.rf _)⟩
            · show L_X11_drawn n 1 p1 p3 p4 x y σ = _
              obtain ⟨n, rfl⟩ : ∃ q, n = q + 1 := ⟨n - 1, by omega⟩
              show B_X11_drawn_1 (L_X11_drawn n) n p1 p3 p4 x y σ = _
              unfold B_X11_drawn_1 F_X5_pass F_X6_size F_X5_heard F_X5_wonByOne F_X5_boundAtEnds
              have e41 : gI (sI (sI (sI σ 23 2 0) 23 3 0) 23 4 0) 4 1 = nI N := by simp [gI_sI, a2]
              rw [bnd_eq, bnd_eq, bnd_eq, bd_some, e41, if_neg (by rw [i_le, i_n (by omega), t2]; omega), bd_some, bd_some, bd_some, bd_some]
              simp [gI_sI]
            · show L_X12_drawn n 1 p1 p2 p3 p4 0 0 0 0 0 0 0 0 τ = _
              obtain ⟨n, rfl⟩ : ∃ q, n = q + 1 := ⟨n - 1, by omega⟩
              show B_X12_drawn_1 (L_X12_drawn n) n p1 p2 p3 p4 τ = _
              unfold B_X12_drawn_1
              rw [a3, if_neg (by rw [i_le, i_n (by omega), t2]; omega)]
        by_cases c4 : p3 = 1
        · by_cases c5 : 0 ≤ p4.toInt ∧ p4.toInt < N
          · obtain ⟨r, σ', τ', ⟨A, hA⟩, ⟨A', hA'⟩, hI'⟩ := go
            refine ⟨r, σ', τ', ⟨A, fun n hn => ?_⟩, ⟨A', fun n hn => ?_⟩, hI'⟩
            · show F_X11_drawn n p1 p2 p3 p4 σ = _
              rw [pX, if_pos c4, has6 a2 a1, bd_some, one0, if_pos c5]
              exact hA n hn
            · show F_X12_drawn n p1 p2 p3 p4 τ = _
              rw [pR, if_pos c4, isP12 a3 a1, bd_some, one0, if_pos c5]
              exact hA' n hn
          · refine ⟨-1, σ, τ, Ev.const (fun n => ?_), Ev.const (fun n => ?_), hI⟩
            · rw [pX, if_pos c4, has6 a2 a1, bd_some, one0, if_neg c5]
            · rw [pR, if_pos c4, isP12 a3 a1, bd_some, one0, if_neg c5]
        · obtain ⟨r, σ', τ', ⟨A, hA⟩, ⟨A', hA'⟩, hI'⟩ := go
          refine ⟨r, σ', τ', ⟨A, fun n hn => ?_⟩, ⟨A', fun n hn => ?_⟩, hI'⟩
          · show F_X11_drawn n p1 p2 p3 p4 σ = _
            rw [pX, if_neg c4]
            exact hA n hn
          · show F_X12_drawn n p1 p2 p3 p4 τ = _
            rw [pR, if_neg c4]
            exact hA' n hn
      · refine ⟨-1, σ, τ, Ev.const (fun n => ?_), Ev.const (fun n => ?_), hI⟩
        · unfold F_X11_drawn
          rw [gd_eq h100, bnd_eq, gd_eq h100, bnd_eq, hx, hy, if_neg (by rw [i_lt, t1]; omega), if_neg (by rw [i_lt, t30]; omega), if_neg (by rw [i_lt, t1]; omega), if_neg (by rw [i_lt, t60]; omega)]
          by_cases c : p3 < 0
          · rw [if_pos c]
          · rw [if_neg c, if_pos]
            rw [i_lt, t0] at c
            rw [i_lt, t2]
            omega
        · unfold F_X12_drawn
          rw [if_neg p0, gd_eq h100, bnd_eq, hx, in12, t1, t30, bd_some, one0, if_pos c1, gd_eq h100, bnd_eq, hy, in12, t1, t60, bd_some, one0, if_pos c2, in12, t0, t2, bd_some, one0, if_neg c3]
    · refine ⟨-1, σ, τ, Ev.const (fun n => ?_), Ev.const (fun n => ?_), hI⟩
      · unfold F_X11_drawn
        rw [gd_eq h100, bnd_eq, gd_eq h100, bnd_eq, hx, hy, if_neg (by rw [i_lt, t1]; omega), if_neg (by rw [i_lt, t30]; omega)]
        by_cases c : y < 1
        · rw [if_pos c]
        · rw [if_neg c, if_pos]
          rw [i_lt, t1] at c
          rw [i_lt, t60]
          omega
      · unfold F_X12_drawn
        rw [if_neg p0, gd_eq h100, bnd_eq, hx, in12, t1, t30, bd_some, one0, if_pos c1, gd_eq h100, bnd_eq, hy, in12, t1, t60, bd_some, one0, if_neg c2]
  · refine ⟨-1, σ, τ, Ev.const (fun n => ?_), Ev.const (fun n => ?_), hI⟩
    · unfold F_X11_drawn
      rw [gd_eq h100, bnd_eq, gd_eq h100, bnd_eq, hx]
      by_cases c : x < 1
      · rw [if_pos c]
      · rw [if_neg c, if_pos]
        rw [i_lt, t1] at c
        rw [i_lt, t30]
        omega
    · unfold F_X12_drawn
      by_cases p0 : p2 < 0
      · rw [if_pos p0]
      · rw [if_neg p0, gd_eq h100, bnd_eq, hx, in12, t1, t30, bd_some, one0, if_neg c1])
