/-! the search: one charge -/
theorem b9_or : ∀ m, m < 1024 → ∀ t, t < 10 → nI m ||| ((1 : Int32) <<< (nI t &&& 31)) = nI (m ||| 2 ^ t) := by decide +kernel
theorem b9_tst : ∀ m, m < 1024 → ∀ t, t < 10 → (((nI m >>> (nI t &&& 31)) &&& (1 : Int32) = 1) ↔ m.testBit t = true) := by decide +kernel
theorem vb1 : vp_nar .boolean (1 : Int32) = 1 := by decide
theorem vb0 : vp_nar .boolean (0 : Int32) = 0 := by decide
theorem pw10 : ∀ s, s ≤ 8 → 2 ^ (s + 2) ≤ 1024 := by decide
def adm (M : Nat → Nat) (c t v : Nat) : Nat := if v = c then M v ||| 2 ^ t else M v
theorem adm_bit (M : Nat → Nat) (c t v u : Nat) : (adm M c t v).testBit u = true ↔ ((M v).testBit u = true ∨ (v = c ∧ t = u)) := by
  unfold adm
  by_cases e : v = c
  · rw [if_pos e, Nat.testBit_or, Bool.or_eq_true, Nat.testBit_two_pow, decide_eq_true_iff]
    constructor
    · rintro (h | h)
      · exact Or.inl h
      · exact Or.inr ⟨e, h⟩
    · rintro (h | h)
      · exact Or.inl h
      · exact Or.inr h.2
  · rw [if_neg e]
    constructor
    · exact Or.inl
    · rintro (h | h)
      · exact h
      · exact absurd h.1 e
theorem adm_lt {M : Nat → Nat} {c t v k : Nat} (h : M v < 2 ^ k) (ht : t < k) : adm M c t v < 2 ^ k := by
  unfold adm
  split
  · exact Nat.or_lt_two_pow h (Nat.pow_lt_pow_right (by decide) ht)
  · exact h
def Xp (M : Nat → Nat) (σ : St) : Prop := ∀ v, v < 625 → gI σ 15 v = nI (M v) ∧ M v < 1024
theorem reachX {N : Nat} {f : Nat → Int32} (hf : Fn N f) {b : Nat} {σ : St} {M : Nat → Nat} (hM : Xp M σ) (h : ∀ i, i < 7 → gI σ (b + 1) i = f i) {t : Nat} (ht : t < 10) (n : Nat) (hn : 5 ≤ n) : F_X9_reach n b (nI t) σ = some ((), sI σ 15 (cdn f N 0) (nI (M (cdn f N 0) ||| 2 ^ t))) := by
  have lt := hf.lt
  obtain ⟨m1, m2⟩ := hM _ lt
  unfold F_X9_reach
  have v : vp_in (nI (cdn f N 0)) 625 := nIin lt (by decide)
  rw [codX hf b σ h n hn, bd_some, if_neg (by rw [i_lt, i_n (by omega), t0]; omega), if_neg (by rw [i_le, i_n (by omega), t625]; omega), gd_eq v, gd_eq v, nIc (by omega), m1, b9_or _ m2 t ht, bnd_eq]
theorem Xp.ad {M : Nat → Nat} {σ : St} (h : Xp M σ) {c t : Nat} (ht : t < 10) (hc : c < 625) : Xp (adm M c t) (sI σ 15 c (nI (M c ||| 2 ^ t))) := fun v hv => by
  obtain ⟨m1, m2⟩ := h v hv
  refine ⟨?_, adm_lt (k := 10) m2 ht⟩
  unfold adm
  rw [gI_sI, if_pos rfl]
  by_cases e : v = c
  · rw [if_pos e, if_pos e, e]
  · rw [if_neg e, if_neg e, m1]
/-- what a bench holds -/
def Bn (f : Nat → Int32) (ah : Int32) (b : Nat) (σ : St) : Prop := gI σ b 1 = ah ∧ ∀ i, i < 7 → gI σ (b + 1) i = f i
theorem leadX {N : Nat} {f : Nat → Int32} (hf : Fn N f) {ah : Int32} {σ : St} {M : Nat → Nat} (hM : Xp M σ) (hB : Bn f ah 43 σ) {a c s : Nat} (ha : a < N) (hc : c < N) (won : Bool) (hs : s ≤ 8) : ∃ σ', (∀ n, 20 ≤ n → F_X9_lead n (nI a) (nI c) (if won then 1 else 0) (nI s) σ = some ((), σ')) ∧ EqX σ σ' ∧ Bn f ah 43 σ' ∧ (∀ k, gI σ' 16 k = gI σ 16 k) ∧ Xp (adm M (cdn (stf N f a c won) N 0) (s + 1)) σ' := by
  have h4 := hf.1
  have hst := hf.st ha hc won
  have e1 : ∀ i, i < 7 → gI (cpX σ 45 43) 46 i = f i := fun i hi => (cpX_g σ 45 43 i hi).trans (hB.2 i hi)
  have e2 := hf.setX (σ := cpX σ 45 43) (b := 45) (a := a) hc won e1
  have o2 : ∀ x k, x ≠ 45 → x ≠ 46 → gI (setX (cpX σ 45 43) 45 a c won) x k = gI σ x k := fun x k x1 x2 => (setX_o _ 45 a c won x1 x2 k).trans (cpX_o σ 45 43 x1 x2 k)
  have hM2 : Xp M (setX (cpX σ 45 43) 45 a c won) := fun v hv => by rw [o2 15 v (by decide) (by decide)]; exact hM v hv
  refine ⟨_, fun n hn => ?_, ((cpX_eq σ 45 43 (by decide) (by decide) (by decide) (by decide)).trans (setX_eq _ 45 a c won (by decide) (by decide) (by decide) (by decide))).trans (EqX.ofI (by decide) (by decide)), ⟨?_, fun i hi => ?_⟩, fun k => ?_, hM2.ad (by omega) hst.lt⟩
  · unfold F_X9_lead
    rw [cp1 n σ 45 43 (by decide), bd_some, set1 45 _ (by omega) (by omega) won n (by omega), bd_some, n_a1, reachX hst hM2 e2 (by omega) n (by omega), bd_some]
  · rw [gI_sI, if_neg (by decide), o2 43 1 (by decide) (by decide)]
    exact hB.1
  · rw [gI_sI, if_neg (by decide), o2 44 i (by decide) (by decide)]
    exact hB.2 i hi
  · rw [gI_sI, if_neg (by decide), o2 16 k (by decide) (by decide)]
theorem wv_cg {N : Nat} {G : Nat → Nat → Int32 → Int32 → Nat → Int32 → Nat} {kd f g : Nat → Int32} {ah : Int32} {a c : Nat} (e : ∀ i, i < N → g i = f i) : wv N G kd g ah a c = wv N G kd f ah a c := by
  unfold wv
  rw [Fn.sp2 e, show cnt g N 0 = cnt f N 0 from cnt_cut (f := g) (g := f) (r := 0) N 0 (fun j a b => e j (by omega)) (fun j a b => by omega)]
section ONE
variable {N : Nat} {σ0 τ0 : St} {G : Nat → Nat → Int32 → Int32 → Nat → Int32 → Nat} {f : Nat → Int32} {ah : Int32}
/-- the class's value by a bench's function -/
theorem twF (hG : Crt N σ0 τ0 G) (h1 : Pp N σ0 τ0) (hf : Fn N f) {σ : St} (hx : EqX σ0 σ) {b : Nat} (hb : 37 ≤ b) (hB : Bn f ah b σ) {a c : Nat} (ha : a < N) (hc : c < N) : ∃ C σ', (∀ n, C ≤ n → F_X3_twelfths n b (nI a) (nI c) σ = some (nI (wv N G (gI τ0 2) f ah a c), σ')) ∧ FrC σ σ' := by
  have h4 := hf.1
  obtain ⟨τ1, l1, l2, l3, l4⟩ := layR hf τ0 h1.2.2.1
  have g17 : ∀ i, i < N → gI (sI τ1 0 27 ah) 17 i = f i := fun i hi => l2 i hi
  have hT : Th N σ (sI τ1 0 27 ah) b := ⟨hB.1, fun i hi => by rw [hB.2 i (by omega), g17 i hi]; exact ⟨rfl, hf.2.1 i hi⟩, fun i i1 i2 => by rw [hB.2 i i2]; exact hf.2.2 i i1 i2⟩
  obtain ⟨C, σ', e1, e2⟩ := hG.twX h1 hx hb hT ha hc
  refine ⟨C, σ', fun n hn => ?_, e2⟩
  rw [e1 n hn, wv_cg g17]
  rfl
theorem twFR (hG : Crt N σ0 τ0 G) (h1 : Pp N σ0 τ0) (hf : Fn N f) {τ : St} (hr : EqR τ0 τ) (h17 : ∀ i, i < N → gI τ 17 i = f i) (h27 : gI τ 0 27 = ah) {a c : Nat} (ha : a < N) (hc : c < N) : ∃ C τ', (∀ n, C ≤ n → F_X12_winsBy n (nI a) (nI c) τ = some (nI (wv N G (gI τ0 2) f ah a c), τ')) ∧ FrW τ τ' := by
  obtain ⟨C, τ', e1, e2⟩ := hG.twR h1 hr (fun i hi => by rw [h17 i hi]; exact hf.2.1 i hi) ha hc
  refine ⟨C, τ', fun n hn => ?_, e2⟩
  rw [e1 n hn, wv_cg h17, h27]
def key (a c p q : Nat) : Nat := ((a * 4 + c) * 4 + p) * 5 + q
theorem key_inj {a c p q a' c' p' q' : Nat} (h1 : c < 4) (h2 : p < 4) (h3 : q < 5) (h4 : c' < 4) (h5 : p' < 4) (h6 : q' < 5) (h : key a c p q = key a' c' p' q') : a = a' ∧ c = c' ∧ p = p' ∧ q = q' := by
  unfold key at h
  omega
/-- what was given before is what would be given now -/
def Ch (G : Nat → Nat → Int32 → Int32 → Nat → Int32 → Nat) (kd : Nat → Int32) (ah : Int32) (σ : St) : Prop := ∀ a c p q, a < 4 → c < 4 → p < 4 → q < 5 → gI σ 16 (key a c p q) = -2 ∨ gI σ 16 (key a c p q) = nI (G a c (kd p) (if p = c then 1 else 0) q ah)
theorem tgX (hG : Crt N σ0 τ0 G) (h1 : Pp N σ0 τ0) (hf : Fn N f) {σ : St} (hx : EqX σ0 σ) (hB : Bn f ah 43 σ) (hC : Ch G (gI τ0 2) ah σ) {a c : Nat} (ha : a < N) (hc : c < N) : ∃ C σ', (∀ n, C ≤ n → F_X9_twelfthsGiven n (nI a) (nI c) σ = some (nI (wv N G (gI τ0 2) f ah a c), σ')) ∧ EqX σ σ' ∧ Bn f ah 43 σ' ∧ (∀ k, gI σ' 15 k = gI σ 15 k) ∧ Ch G (gI τ0 2) ah σ' := by
  have h4 := hf.1
  have hp : spk f c N 0 < N := spk_lt f hc N 0 (by omega)
  have hq : cnt f N 0 ≤ N := cnt_le f N 0
  have es : spk (gI σ 44) c 7 0 = spk f c N 0 := hf.sp hc hB.2
  have ec : cnt (gI σ 44) 7 0 = cnt f N 0 := by
    have := cnt_cut (f := gI σ 44) (g := f) (r := 7 - N) N 0 (fun j a b => hB.2 j (by omega)) (fun j a b => by rw [hB.2 j (by omega)]; exact hf.2.2 j (by omega) (by omega))
    rw [show N + (7 - N) = 7 by omega] at this
    exact this
  have kl : key a c (spk f c N 0) (cnt f N 0) < 320 := by unfold key; omega
  have ew : wv N G (gI τ0 2) f ah a c = G a c (gI τ0 2 (spk f c N 0)) (if spk f c N 0 = c then 1 else 0) (cnt f N 0) ah := rfl
  have x12 : wv N G (gI τ0 2) f ah a c ≤ 12 := wv_le hG _ _ _ _ _
  have ek : ((nI a * 4 + nI c) * 4 + nI (spk f c N 0)) * 5 + nI (cnt f N 0) = nI (key a c (spk f c N 0) (cnt f N 0)) := by
    unfold key
    rw [show (4 : Int32) = nI 4 from rfl, show (5 : Int32) = nI 5 from rfl, n_mul (by omega) (by omega) (by omega), nI_add, n_mul (by omega) (by omega) (by omega), nI_add, n_mul (by omega) (by omega) (by omega), nI_add]
  have vk : vp_in (nI (key a c (spk f c N 0) (cnt f N 0))) 320 := nIin kl (by decide)
  have pre : ∀ n, 20 ≤ n → F_X9_twelfthsGiven n (nI a) (nI c) σ = if (gI σ 16 (key a c (spk f c N 0) (cnt f N 0))) = (-2 : Int32) then (bd (F_X3_twelfths n 43 (nI a) (nI c) σ) fun r8 s7 => some ((gI (sI s7 16 (key a c (spk f c N 0) (cnt f N 0)) r8) 16 (key a c (spk f c N 0) (cnt f N 0))), sI s7 16 (key a c (spk f c N 0) (cnt f N 0)) r8)) else some ((gI σ 16 (key a c (spk f c N 0) (cnt f N 0))), σ) := fun n hn => by
    unfold F_X9_twelfthsGiven
    rw [spk1 43 σ (by omega) n (by omega), bd_some, bnd_eq, cnt1 43 σ n (by omega), bd_some, bnd_eq, es, ec, ek, if_neg (by rw [i_lt, i_n (by omega), t0]; omega), if_pos (by rw [i_lt, i_n (by omega), t320]; omega)]
    simp only [gd_eq vk, nIc (show key a c (spk f c N 0) (cnt f N 0) < 2147483648 by omega), bnd_eq]
  by_cases c2 : gI σ 16 (key a c (spk f c N 0) (cnt f N 0)) = -2
  · obtain ⟨C, σ1, e1, e2⟩ := twF hG h1 hf hx (by decide) hB ha hc
    refine ⟨C + 20, sI σ1 16 (key a c (spk f c N 0) (cnt f N 0)) (nI (wv N G (gI τ0 2) f ah a c)), fun n hn => ?_, e2.eq.trans (EqX.ofI (by decide) (by decide)), ⟨?_, fun i hi => ?_⟩, fun k => ?_, fun a' c' p' q' g1 g2 g3 g4 => ?_⟩
    · rw [pre n (by omega), if_pos c2, e1 n (by omega), bd_some, gI_sI, if_pos rfl, if_pos rfl]
    · rw [gI_sI, if_neg (by decide), e2.1 43 1 (by decide) (by decide)]
      exact hB.1
    · rw [gI_sI, if_neg (by decide), e2.1 44 i (by decide) (by decide)]
      exact hB.2 i hi
    · rw [gI_sI, if_neg (by decide), e2.1 15 k (by decide) (by decide)]
    · rw [gI_sI, if_pos rfl]
      by_cases e : key a' c' p' q' = key a c (spk f c N 0) (cnt f N 0)
      · obtain ⟨u1, u2, u3, u4⟩ := key_inj g2 g3 g4 (by omega) (by omega) (by omega) e
        refine Or.inr ?_
        rw [if_pos e, u1, u2, u3, u4, ew]
      · rw [if_neg e, e2.1 16 _ (by decide) (by decide)]
        exact hC a' c' p' q' g1 g2 g3 g4
  · refine ⟨20, σ, fun n hn => ?_, EqX.rf σ, hB, fun _ => rfl, hC⟩
    rw [pre n hn, if_neg c2, (hC a c (spk f c N 0) (cnt f N 0) (by omega) (by omega) (by omega) (by omega)).resolve_left c2]
    rfl
/-! the reference: one end -/
theorem endR (hf : Fn N f) {τ : St} (hN : gI τ 0 1 = nI N) {a c x : Nat} (ha : a < N) (hc : c < N) (hx : x ≤ 12) (won : Bool) : ∃ τ', (∀ n, 20 ≤ n → L_X12_goOn (n + 1) 1 (nI (cdn f N 0)) (nI a) (nI c) (nI x) (if won then 1 else 0) τ = L_X12_goOn n 1 (nI (cdn f N 0)) (nI a) (nI c) (nI x) (if won then 2 else 1) τ') ∧ EqR τ τ' ∧ gI τ' 0 1 = nI N ∧ (∀ v, gI τ' 20 v = gI τ 20 v) ∧ ∀ v, gI τ' 21 v = if v = cdn (stf N f a c won) N 0 ∧ ((won = true ∧ 0 < x) ∨ (won = false ∧ x < 12)) then 1 else gI τ 21 v := by
  have h4 := hf.1
  have hst := hf.st ha hc won
  have sh : ∀ n, F_X12_twelfths n (nI x) (if won then 1 else 0) τ = some (nI (if won then x else 12 - x), τ) := fun n => by
    unfold F_X12_twelfths
    cases won
    · rw [if_neg (by decide), if_neg (by decide), show (12 : Int32) = nI 12 from rfl]
      refine congrArg (fun z => some (z, τ)) ?_
      rw [i_eq, i_sub] <;> rw [i_n (by omega), i_n (by omega)]
      · rw [i_n (by omega)]
        omega
      · omega
      · omega
    · rw [if_pos rfl]
      rfl
  have nx : (if won then (1 : Int32) else 0) + 1 = if won then 2 else 1 := by cases won <;> rfl
  have pre : ∀ n, L_X12_goOn (n + 1) 1 (nI (cdn f N 0)) (nI a) (nI c) (nI x) (if won then 1 else 0) τ = if (if won then x else 12 - x) = 0 then (L_X12_goOn n 1 (nI (cdn f N 0)) (nI a) (nI c) (nI x) (if won then 2 else 1) τ) else (bd (F_X12_layCode n (nI (cdn f N 0)) τ) fun _ s9 => bd (F_X12_goCase n (nI a) (nI c) (if won then 1 else 0) s9) fun _ s10 => bd (F_X12_codeOf n  s10) fun r12 s11 => gd (vp_in r12 625) (L_X12_goOn n 1 (nI (cdn f N 0)) (nI a) (nI c) (nI x) (if won then 2 else 1) (sI s11 21 (r12).toNatClampNeg 1))) := fun n => by
    show B_X12_goOn_1 (L_X12_goOn n) n _ _ _ _ _ τ = _
    unfold B_X12_goOn_1
    rw [if_neg (by cases won <;> decide), sh, bd_some, nx]
    simp only [bnd_eq, vb1]
    by_cases e : (if won then x else 12 - x) = 0
    · rw [if_pos e, if_pos (by rw [e]; rfl)]
    · rw [if_neg e, if_neg (by rw [i_eq, i_n (by split <;> omega), t0]; omega)]
  by_cases e : (if won then x else 12 - x) = 0
  · refine ⟨τ, fun n hn => by rw [pre, if_pos e], EqR.rf τ, hN, fun _ => rfl, fun v => ?_⟩
    rw [if_neg]
    rintro ⟨_, ⟨rfl, h⟩ | ⟨rfl, h⟩⟩
    · rw [if_pos rfl] at e
      omega
    · rw [if_neg (by decide)] at e
      omega
  · obtain ⟨τ1, l1, l2, l3, l4⟩ := layR hf τ hN
    have tN1 : gI τ1 0 1 = nI N := (l3 0 1 (by decide)).trans hN
    have tN2 : gI (setR τ1 N a c won) 0 1 = nI N := by rw [setR_0, if_neg (by decide)]; exact tN1
    have e17 := Fn.setR (a := a) (c := c) won l2
    have r1 : EqR τ τ1 := ⟨fun y hy k => ⟨l3 y k (nin hy (by decide)), l4 y k⟩, fun k hk => l3 0 k (by decide)⟩
    refine ⟨sI (setR τ1 N a c won) 21 (cdn (stf N f a c won) N 0) 1, fun n hn => ?_, (r1.trans (setR_eq τ1 N a c won)).trans (EqR.ofI (by decide) (by decide)), tN2, fun v => ?_, fun v => ?_⟩
    · rw [pre, if_neg e, l1 n (by omega), bd_some, go12 (by omega) τ1 tN1 ha hc won n (by omega), bd_some, codR hst _ tN2 e17 n (by omega), bd_some, gd_eq (nIin hst.lt (by decide)), nIc (by have := hst.lt; omega)]
    · rw [gI_sI, if_neg (by decide), setR_o τ1 N a c won (by decide) (by decide) v, l3 20 v (by decide)]
    · rw [gI_sI, if_pos rfl, setR_o τ1 N a c won (by decide) (by decide) v, l3 21 v (by decide)]
      by_cases ev : v = cdn (stf N f a c won) N 0
      · rw [if_pos ev, if_pos]
        refine ⟨ev, ?_⟩
        cases won
        · rw [if_neg (by decide)] at e
          exact Or.inr ⟨rfl, by omega⟩
        · rw [if_pos rfl] at e
          exact Or.inl ⟨rfl, by omega⟩
      · rw [if_neg ev, if_neg (fun h => ev h.1)]
/-- whether a charge is let here -/
def lt1 (f : Nat → Int32) (a c : Nat) : Prop := a ≠ c ∧ f a = -1
theorem goR (hG : Crt N σ0 τ0 G) (h1 : Pp N σ0 τ0) (hf : Fn N f) {τ : St} (hr : EqR τ0 τ) {s : Nat} (hah : ah = gI τ0 0 29 + nI s) {a c : Nat} (ha : a < N) (hc : c < N) : ∃ C τ', (∀ n, C ≤ n → F_X12_goOn n (nI (cdn f N 0)) (nI a) (nI c) (nI s) τ = some ((), τ')) ∧ EqR τ τ' ∧ (∀ v, gI τ' 20 v = gI τ 20 v) ∧ ((¬ lt1 f a c ∧ ∀ v, gI τ' 21 v = gI τ 21 v) ∨ (lt1 f a c ∧ ∀ v, gI τ' 21 v = if (v = cdn (stf N f a c true) N 0 ∧ 0 < wv N G (gI τ0 2) f ah a c) ∨ (v = cdn (stf N f a c false) N 0 ∧ wv N G (gI τ0 2) f ah a c < 12) then 1 else gI τ 21 v)) := by
  have h4 := hf.1
  have tN : gI τ 0 1 = nI N := (hr.2 1 (by decide)).trans h1.2.2.1
  obtain ⟨τ1, l1, l2, l3, l4⟩ := layR hf τ tN
  have r1 : EqR τ τ1 := ⟨fun y hy k => ⟨l3 y k (nin hy (by decide)), l4 y k⟩, fun k hk => l3 0 k (by decide)⟩
  have e29 : gI τ1 0 29 = gI τ0 0 29 := (l3 0 29 (by decide)).trans (hr.2 29 (by decide))
  have r2 : EqR τ (sI τ1 0 27 ah) := r1.trans (EqR.of0 (by decide))
  have tN2 : gI (sI τ1 0 27 ah) 0 1 = nI N := (l3 0 1 (by decide)).trans tN
  have g17 : ∀ i, i < N → gI (sI τ1 0 27 ah) 17 i = f i := fun i hi => l2 i hi
  have pre : ∀ n, 8 ≤ n → F_X12_goOn n (nI (cdn f N 0)) (nI a) (nI c) (nI s) τ = bd (F_X12_isLet n (nI a) (nI c) (sI τ1 0 27 ah)) fun r4 s3 => if r4 = 0 then (some ((), s3)) else (bd (F_X12_winsBy n (nI a) (nI c) s3) fun r6 s5 => L_X12_goOn  n 1 (nI (cdn f N 0)) (nI a) (nI c) r6 (0 : Int32) s5) := fun n hn => by
    unfold F_X12_goOn
    rw [l1 n hn, bd_some, e29, ← hah, bnd_eq]
  have keep : (∀ v, gI (sI τ1 0 27 ah) 20 v = gI τ 20 v) ∧ ∀ v, gI (sI τ1 0 27 ah) 21 v = gI τ 21 v := ⟨fun v => l3 20 v (by decide), fun v => l3 21 v (by decide)⟩
  by_cases ce : a = c
  · refine ⟨8, sI τ1 0 27 ah, fun n hn => ?_, r2, keep.1, Or.inl ⟨fun h => h.1 ce, keep.2⟩⟩
    rw [pre n hn, let12G (by omega) tN2 (by
      rintro ⟨a', c', _, _, h5, h6, h7⟩
      rw [nI_inj (by omega) (by omega)] at h6 h7
      omega), bd_some, if_pos rfl]
  · have hl := fun n => let12 (show N ≤ 7 by omega) tN2 (fun i hi => by rw [g17 i hi]; exact hf.2.1 i hi) n ha hc ce
    by_cases cf : f a = -1
    · obtain ⟨C, τ2, w1, w2⟩ := twFR hG h1 hf (hr.trans r2) g17 (show gI (sI τ1 0 27 ah) 0 27 = ah from rfl) ha hc
      have x12 : wv N G (gI τ0 2) f ah a c ≤ 12 := wv_le hG _ _ _ _ _
      obtain ⟨τ3, a1, a2, a3, a4, a5⟩ := endR hf (τ := τ2) ((w2.1 0 1 (by decide) (by decide)).trans tN2) ha hc x12 false
      obtain ⟨τ4, b1, b2, b3, b4, b5⟩ := endR hf a3 ha hc x12 true
      refine ⟨C + 40, τ4, fun n hn => ?_, ((r2.trans w2.eq).trans a2).trans b2, fun v => ?_, Or.inr ⟨⟨ce, cf⟩, fun v => ?_⟩⟩
      · obtain ⟨n, rfl⟩ : ∃ q, n = q + 1 + 1 + 1 := ⟨n - 3, by omega⟩
        rw [pre _ (by omega), hl, g17 a ha, if_pos cf, bd_some, if_neg (by decide), w1 _ (by omega), bd_some]
        refine (a1 (n + 1 + 1) (by omega)).trans ((b1 (n + 1) (by omega)).trans ?_)
        show B_X12_goOn_1 (L_X12_goOn n) n (nI (cdn f N 0)) (nI a) (nI c) (nI (wv N G (gI τ0 2) f ah a c)) 2 τ4 = _
        unfold B_X12_goOn_1
        rw [if_pos (by decide)]
      · rw [b4, a4, w2.1 20 v (by decide) (by decide), keep.1]
      · rw [b5, a5, w2.1 21 v (by decide) (by decide), keep.2]
        by_cases q1 : v = cdn (stf N f a c true) N 0 ∧ 0 < wv N G (gI τ0 2) f ah a c
        · rw [if_pos ⟨q1.1, Or.inl ⟨rfl, q1.2⟩⟩, if_pos (Or.inl q1)]
        · rw [if_neg (fun h => q1 ⟨h.1, by rcases h.2 with u | u; exact u.2; exact absurd u.1 (by decide)⟩)]
          by_cases q2 : v = cdn (stf N f a c false) N 0 ∧ wv N G (gI τ0 2) f ah a c < 12
          · rw [if_pos ⟨q2.1, Or.inr ⟨rfl, q2.2⟩⟩, if_pos (Or.inr q2)]
          · rw [if_neg (fun h => q2 ⟨h.1, by rcases h.2 with u | u; exact absurd u.1 (by decide); exact u.2⟩), if_neg (fun h => h.elim q1 q2)]
    · refine ⟨8, sI τ1 0 27 ah, fun n hn => ?_, r2, keep.1, Or.inl ⟨fun h => cf h.2, keep.2⟩⟩
      rw [pre n hn, hl, g17 a ha, if_neg cf, bd_some, if_pos rfl]
end ONE
