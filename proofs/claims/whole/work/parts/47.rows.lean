/-! rows of bytes -/
def Rw (s m : Nat) (r : Nat → Int32) (σ τ : St) : Prop := m ≤ 60 ∧ gI σ (63 + 2 * s) 1 = nI m ∧ gI τ 32 s = nI m ∧ ∀ i, i < m → (gL σ (63 + 2 * s + 1) i).toInt32 = r i ∧ (gL τ 33 (60 * s + i)).toInt32 = r i
theorem Rw.eq {s m : Nat} {r : Nat → Int32} {σ τ σ' τ' : St} (hs : s < 6) (h : Rw s m r σ τ) (hx : EqX σ σ') (hr : EqR τ τ') : Rw s m r σ' τ' :=
  ⟨h.1, (hx.g _ (shc hs).1 1).trans h.2.1, (hr.g 32 (by decide) s).trans h.2.2.1, fun i hi => ⟨by rw [(hx.1 _ (shc hs).2 i).2]; exact (h.2.2.2 i hi).1, by rw [(hr.1 33 (by decide) _).2]; exact (h.2.2.2 i hi).2⟩⟩
theorem rowC {B s : Nat} {σ τ : St} (hs : s < 6) (hB : B ≤ 50) (h : Psh B σ τ) : (∃ r : Int32, ¬ 0 ≤ r ∧ (∀ n, F_X10_refusalOfBytes n (63 + 2 * s) σ = some (r, σ)) ∧ (∀ n, F_X10_hasBytes n (63 + 2 * s) σ = some (0, σ)) ∧ ∀ n, F_X12_rowFault n (nI s) τ = some (r, τ)) ∨ ((∃ m r, Rw s m r σ τ) ∧ (∀ n, F_X10_refusalOfBytes n (63 + 2 * s) σ = some (0, σ)) ∧ (∀ n, F_X10_hasBytes n (63 + 2 * s) σ = some (1, σ)) ∧ (∀ n, F_X12_rowFault n (nI s) τ = some (0, τ))) := by
  have es : (nI s).toNatClampNeg = s := nIc (by omega)
  rcases h s hs with ⟨a1, a2, a3⟩ | ⟨a1, b, a2, a3, a4⟩ | ⟨q, m, a1, a2, a3, a4, a5, a6, a7, a8⟩
  · refine Or.inl ⟨-11, by decide, fun n => ?_, fun n => ?_, fun n => ?_⟩
    · unfold F_X10_refusalOfBytes F_X10_isEmpty
      rw [if_pos a1, if_pos a2, bd_some, if_neg (by decide)]
    · unfold F_X10_hasBytes
      rw [a1, if_neg (by decide)]
    · unfold F_X12_rowFault
      rw [gd_eq (v6 hs), es, if_pos a3]
  · refine Or.inl ⟨-12, by decide, fun n => ?_, fun n => ?_, fun n => ?_⟩
    · unfold F_X10_refusalOfBytes F_X10_isEmpty F_X10_hasBytes
      rw [if_pos a1, if_neg (by rw [a3]; exact nI_nm1 (by omega)), bd_some, if_pos rfl, a1, if_neg (by decide), bd_some, if_pos rfl]
    · unfold F_X10_hasBytes
      rw [a1, if_neg (by decide)]
    · unfold F_X12_rowFault
      rw [gd_eq (v6 hs), es, a4, if_neg (nI_nm1 (by omega)), gd_eq (v6 hs), if_neg (by rw [i_eq, i_n (by omega), tm2]; omega)]
  · by_cases c : q = 0
    · subst c
      refine Or.inr ⟨⟨m, fun i => (gL σ (63 + 2 * s + 1) i).toInt32, a2, a6, a7, fun i hi => ⟨rfl, congrArg Int64.toInt32 (a8 i hi).symm⟩⟩, fun n => ?_, fun n => ?_, fun n => ?_⟩
      · unfold F_X10_refusalOfBytes F_X10_isEmpty F_X10_hasBytes
        rw [a3, if_neg (by decide), bd_some, if_pos rfl, a3, if_pos (show nI 0 = 0 from rfl), bd_some, if_neg (by decide)]
      · unfold F_X10_hasBytes
        rw [a3, if_pos (show nI 0 = 0 from rfl)]
      · unfold F_X12_rowFault
        rw [gd_eq (v6 hs), es, a5, if_neg (by decide), gd_eq (v6 hs), if_pos (by decide)]
    · refine Or.inl ⟨-12, by decide, fun n => ?_, fun n => ?_, fun n => ?_⟩
      · unfold F_X10_refusalOfBytes F_X10_isEmpty F_X10_hasBytes
        rw [a3, if_neg (nI_nm1 (by omega)), bd_some, if_pos rfl, a3, if_neg (fun e => c ((q_0 q a1).mp e)), bd_some, if_pos rfl]
      · unfold F_X10_hasBytes
        rw [a3, if_neg (fun e => c ((q_0 q a1).mp e))]
      · unfold F_X12_rowFault
        rw [gd_eq (v6 hs), es, a5, if_neg (ho_nm1 q a1), gd_eq (v6 hs), if_neg (fun e => c ((ho_m2 q a1).mp e))]
theorem n_mul {a b : Nat} (h : a * b < 2147483648) (ha : a < 2147483648) (hb : b < 2147483648) : nI a * nI b = nI (a * b) := by
  have e : ((a * b : Nat) : Int) = (a : Int) * b := by simp
  rw [i_eq, i_mul _ _ (by rw [i_n ha, i_n hb, ← e]; omega) (by rw [i_n ha, i_n hb, ← e]; omega), i_n ha, i_n hb, i_n h, e]
theorem n_m3 (k : Nat) : (3 : Int32) * nI k = nI (3 * k) := pk_mul 3 k
theorem getX {s m : Nat} {r : Nat → Int32} {σ τ : St} (h : Rw s m r σ τ) {i : Nat} (hi : i < m) (n : Nat) : F_X10_getInt n (63 + 2 * s) (nI i) σ = some (r i, σ) := by
  have := h.1
  unfold F_X10_getInt F_X10_get
  rw [if_neg (by rw [i_lt, i_n (by omega), t0]; omega), h.2.1, if_neg (by rw [i_le, i_n (by omega), i_n (by omega)]; omega), gd_eq (nIin (by omega) (by decide)), nIc (by omega), bd_some, (h.2.2.2 i hi).1]
theorem getR {s m : Nat} {r : Nat → Int32} {σ τ : St} (hs : s < 6) (h : Rw s m r σ τ) {i : Nat} (hi : i < m) (n : Nat) : F_X12_at n (nI s) (nI i) τ = some (r i, τ) := by
  have := h.1
  unfold F_X12_at
  rw [n_m60, nI_add, gd_eq (nIin (by omega) (by decide)), nIc (by omega), (h.2.2.2 i hi).2]
def T2 (N : Nat) (x y : Int32) : Prop := ∃ a c : Nat, a < N ∧ c < N ∧ a ≠ c ∧ x = nI a ∧ y = nI c
theorem unl6G {σ : St} {N : Nat} (hN : gI σ 4 1 = nI N) (h7 : N ≤ 7) {x y : Int32} (h : ¬ T2 N x y) (n : Nat) : F_X6_areUnlike n x y σ = some (0, σ) := by
  unfold F_X6_areUnlike
  rw [has6 hN h7, bd_some, one0]
  rcases per (N := N) x with ⟨a, ha, rfl⟩ | c
  · rw [if_pos (perI ha h7), has6 hN h7, bd_some, one0]
    rcases per (N := N) y with ⟨b, hb, rfl⟩ | c
    · rw [if_pos (perI hb h7)]
      by_cases e : a = b
      · rw [e, if_pos rfl]
      · exact absurd ⟨a, b, ha, hb, e, rfl, rfl⟩ h
    · rw [if_neg c]
  · rw [if_neg c]
theorem let12G {N : Nat} (h7 : N ≤ 7) {τ : St} (hN : gI τ 0 1 = nI N) {x y : Int32} (h : ¬ T2 N x y) (n : Nat) : F_X12_isLet n x y τ = some (0, τ) := by
  unfold F_X12_isLet
  rw [isP12 hN h7, bd_some, one0]
  rcases per (N := N) x with ⟨a, ha, rfl⟩ | c
  · rw [if_pos (perI ha h7), isP12 hN h7, bd_some, one0]
    rcases per (N := N) y with ⟨b, hb, rfl⟩ | c
    · rw [if_pos (perI hb h7)]
      by_cases e : a = b
      · rw [e, if_pos rfl]
      · exact absurd ⟨a, b, ha, hb, e, rfl, rfl⟩ h
    · rw [if_neg c]
  · rw [if_neg c]
theorem whoX {s m : Nat} {r : Nat → Int32} {σ τ : St} (h : Rw s m r σ τ) {k : Nat} (hk : k ≤ 20) (n : Nat) : F_X2_isWhole n (63 + 2 * s) (nI k) σ = some (if 3 * k + 3 ≤ m then 1 else 0, σ) := by
  have := h.1
  unfold F_X2_isWhole F_X10_size
  rw [bd_some, h.2.1, n_m3, n_a3]
  by_cases c : 3 * k + 3 ≤ m
  · rw [if_neg (by rw [i_lt, i_n (by omega), i_n (by omega)]; omega), if_pos c]
  · rw [if_pos (by rw [i_lt, i_n (by omega), i_n (by omega)]; omega), if_neg c]
theorem chgX {s m : Nat} {r : Nat → Int32} {σ τ : St} (h : Rw s m r σ τ) {k : Nat} (hk : 3 * k + 3 ≤ m) (n : Nat) : F_X2_chargerOf n (63 + 2 * s) (nI k) σ = some (r (3 * k), σ) := by
  unfold F_X2_chargerOf
  rw [n_m3, getX h (by omega), bd_some]
theorem chdX {s m : Nat} {r : Nat → Int32} {σ τ : St} (h : Rw s m r σ τ) {k : Nat} (hk : 3 * k + 3 ≤ m) (n : Nat) : F_X2_chargedOf n (63 + 2 * s) (nI k) σ = some (r (3 * k + 1), σ) := by
  unfold F_X2_chargedOf
  rw [n_m3, n_a1, getX h (by omega), bd_some]
theorem endX {s m : Nat} {r : Nat → Int32} {σ τ : St} (h : Rw s m r σ τ) {k : Nat} (hk : 3 * k + 3 ≤ m) (n : Nat) : F_X2_endOf n (63 + 2 * s) (nI k) σ = some (r (3 * k + 2), σ) := by
  unfold F_X2_endOf
  rw [n_m3, n_a2, getX h (by omega), bd_some]
/-- whether a case is let, by both -/
theorem isLetX {N s m : Nat} {r : Nat → Int32} {σ τ : St} (hN : gI σ 4 1 = nI N) (h7 : N ≤ 7) (h : Rw s m r σ τ) {k : Nat} (hk : k ≤ 20) :
    (¬ 3 * k + 3 ≤ m → ∀ n, F_X2_isLet n (63 + 2 * s) (nI k) σ = some (0, σ)) ∧
    (3 * k + 3 ≤ m → ¬ T2 N (r (3 * k)) (r (3 * k + 1)) → ∀ n, F_X2_isLet n (63 + 2 * s) (nI k) σ = some (0, σ)) ∧
    (3 * k + 3 ≤ m → ∀ a c, a < N → c < N → a ≠ c → r (3 * k) = nI a → r (3 * k + 1) = nI c → ∀ n, F_X2_isLet n (63 + 2 * s) (nI k) σ = some (if gI σ 42 a = -1 ∧ -1 ≤ (r (3 * k + 2)).toInt ∧ (r (3 * k + 2)).toInt ≤ 1 then 1 else 0, σ)) := by
  refine ⟨fun c n => ?_, fun c d n => ?_, fun c a b ha hb hab e1 e2 n => ?_⟩
  · unfold F_X2_isLet
    rw [whoX h hk, bd_some, one0, if_neg c]
  · unfold F_X2_isLet
    rw [whoX h hk, bd_some, one0, if_pos c, chgX h c, bd_some, endX h c, bd_some, chdX h c, bd_some, unl6G hN h7 d, bd_some, if_pos rfl]
  · unfold F_X2_isLet
    rw [whoX h hk, bd_some, one0, if_pos c, chgX h c, bd_some, endX h c, bd_some, chdX h c, bd_some, e1, e2, unl6 hN h7 n (by omega) (by omega), bd_some, one0, if_pos ⟨ha, hb, hab⟩, free1 n 41 (by omega), bd_some, one0]
    by_cases f : gI σ 42 a = -1
    · rw [if_pos f]
      by_cases g : r (3 * k + 2) < -1
      · rw [if_pos g, if_neg]
        rw [i_lt, tm1] at g
        omega
      · rw [if_neg g]
        by_cases g2 : 1 < r (3 * k + 2)
        · rw [if_pos g2, if_neg]
          rw [i_lt, t1] at g2
          omega
        · rw [if_neg g2, if_pos]
          rw [i_lt, tm1] at g
          rw [i_lt, t1] at g2
          exact ⟨f, by omega, by omega⟩
    · rw [if_neg (show ¬ gI σ (41 + 1) a = -1 from f), if_neg (fun e => f e.1)]
theorem Th.at {N : Nat} {σ τ σ' τ' : St} {b : Nat} (h : Th N σ τ b) (x1 : gI σ' b 1 = gI σ b 1) (x2 : ∀ i, gI σ' (b + 1) i = gI σ (b + 1) i) (r1 : gI τ' 0 27 = gI τ 0 27) (r2 : ∀ i, gI τ' 17 i = gI τ 17 i) : Th N σ' τ' b := by
  unfold Th at h ⊢
  rw [x1, r1]
  simp only [x2, r2]
  exact h
theorem lik {L x : Nat} (hL : L ≤ 1000000) (hx : x ≤ 12) : nI L * nI x / 12 = nI (L * x / 12) ∧ ((nI L).toInt64 * (nI x).toInt64 / 12).toInt32 = nI (L * x / 12) ∧ L * x / 12 ≤ 1000000 := by
  have hm : L * x ≤ 1000000 * 12 := Nat.mul_le_mul hL hx
  have e : ((L * x : Nat) : Int) = (L : Int) * x := by simp
  refine ⟨?_, ?_, by omega⟩
  · rw [n_mul (by omega) (by omega) (by omega)]
    exact pk_div (d := 12) (by omega) (by decide) (by decide)
  · have e1 : ((nI L).toInt64 * (nI x).toInt64).toInt = ((L * x : Nat) : Int) := by
      rw [Int64.toInt_mul, Int32.toInt_toInt64, Int32.toInt_toInt64, i_n (by omega), i_n (by omega), ← e]
      exact Int.bmod_eq_of_le (by omega) (by omega)
    have e2 : ((nI L).toInt64 * (nI x).toInt64 / 12).toInt = ((L * x / 12 : Nat) : Int) := by
      rw [lg_ldiv_nonneg (by rw [e1]; omega) (by decide), e1]
      show ((L * x : Nat) : Int) / 12 = _
      omega
    have e3 : (nI L).toInt64 * (nI x).toInt64 / 12 = (nI (L * x / 12)).toInt64 := by
      rw [← Int64.toInt_inj, e2, Int32.toInt_toInt64, i_n (by omega)]
    rw [e3, lg_l2i_i2l]
/-! a course -/
def Ge (N : Nat) (p : Int32) (σ τ : St) : Prop := ∀ o, o < N → p = nI o → gI σ 13 4 = gI τ 19 o
theorem EqX.o13 {σ : St} {k : Nat} {v : Int32} : EqX σ (sI σ 13 k v) := EqX.ofI (by decide) (by decide)
theorem hearXR {N s m : Nat} {r : Nat → Int32} {σ τ σ' τ' : St} {G : Nat → Nat → Int32 → Int32 → Nat → Int32 → Nat} (hG : Crt N σ τ G) (h1 : Pp N σ τ) (hs : s < 6) (hR : Rw s m r σ' τ') (hx : EqX σ σ') (hr : EqR τ τ') (hT : Th N σ' τ' 41) {k L a c : Nat} (hk : 3 * k + 3 ≤ m) (won : Bool) (ha : a < N) (hc : c < N) (hac : a ≠ c) (e1 : r (3 * k) = nI a) (e2 : r (3 * k + 1) = nI c) (e3 : r (3 * k + 2) = if won then 1 else 0) (hL : L ≤ 1000000) (hl1 : gI σ' 13 3 = nI L) (hl2 : gI τ' 0 30 = nI L) (p : Int32) (hg : Ge N p σ' τ') :
    ∃ (C L' : Nat) (σ'' τ'' : St), (∀ n, C ≤ n → F_X2_hear n (63 + 2 * s) (nI k) p σ' = some ((), σ'')) ∧
      (∀ n, C ≤ n → B_X12_goCourse_2 (L_X12_goCourse (n + 1)) (n + 1) (nI s) (nI k) τ' = if (20 : Int32) ≤ nI k then some (20, τ') else if gI τ' 17 a = -1 then L_X12_goCourse n 2 (nI s) (nI (k + 1)) 0 0 0 0 0 τ'' else some (nI k, τ')) ∧
      EqX σ' σ'' ∧ EqR τ' τ'' ∧ Th N σ'' τ'' 41 ∧ L' ≤ 1000000 ∧ gI σ'' 13 3 = nI L' ∧ gI τ'' 0 30 = nI L' ∧ gI σ'' 13 2 = gI σ' 13 2 ∧ Ge N p σ'' τ'' := by
  obtain ⟨a1, a2, a3, a4⟩ := id h1
  obtain ⟨x, K, σ1, τ1, hx12, f1, f2, f3, f4, f5, _⟩ := hG.tw h1 hx hr (b := 41) (by decide) hT ha hc
  generalize hsh : (if won then x else 12 - x) = sh
  have hsh12 : sh ≤ 12 := by rw [← hsh]; split <;> omega
  obtain ⟨k1, k2, k3⟩ := lik hL hsh12
  have m60 := hR.1
  have tN : gI τ' 0 1 = nI N := (hr.2 1 (by decide)).trans a3
  have lsr : (if won then c else a) < N := by split <;> omega
  have oth : (if won then a else c) < N := by split <;> omega
  have lo : (if won then a else c) ≠ (if won then c else a) := by cases won <;> simp <;> omega
  generalize hlv : (if won then c else a) = l at lsr lo
  generalize hov : (if won then a else c) = o at oth lo
  let σ2 := sI σ1 13 3 (nI (L * sh / 12))
  have x2 : EqX σ' σ2 := f3.eq.trans EqX.o13
  have hfee : gI σ2 5 (4 * l + 3) = gI τ1 4 l := by
    rw [x2.g 5 (by decide), hx.g 5 (by decide), f4.1 4 l (by decide) (by decide), hr.g 4 (by decide)]
    exact h1.num (w := 3) lsr (by decide)
  let gn : Int32 := if p = nI l then gI σ1 13 4 + -(gI τ1 4 l) else if p = nI o then gI σ1 13 4 + gI τ1 4 l else gI σ1 13 4
  let σ3 := if p = nI l ∨ p = nI o then sI σ2 13 4 gn else σ2
  have s3o : ∀ cc i, cc ≠ 13 → gI σ3 cc i = gI σ1 cc i := fun cc i h => by
    show gI (if p = nI l ∨ p = nI o then sI σ2 13 4 gn else σ2) cc i = _
    split
    · rw [gI_sI, if_neg h]
      show gI (sI σ1 13 3 _) cc i = _
      rw [gI_sI, if_neg h]
    · show gI (sI σ1 13 3 _) cc i = _
      rw [gI_sI, if_neg h]
  have s34 : gI σ3 13 4 = gn := by
    show gI (if p = nI l ∨ p = nI o then sI σ2 13 4 gn else σ2) 13 4 = _
    split
    · rw [gI_sI, if_pos rfl, if_pos rfl]
    · rename_i h
      show gI (sI σ1 13 3 _) 13 4 = (if p = nI l then _ else if p = nI o then _ else _)
      rw [gI_sI, if_pos rfl, if_neg (by decide), if_neg (fun e => h (Or.inl e)), if_neg (fun e => h (Or.inr e))]
  have s3k : ∀ i, i ≠ 4 → gI σ3 13 i = if i = 3 then nI (L * sh / 12) else gI σ1 13 i := fun i h => by
    show gI (if p = nI l ∨ p = nI o then sI σ2 13 4 gn else σ2) 13 i = _
    split
    · rw [gI_sI, if_pos rfl, if_neg h]
      show gI (sI σ1 13 3 _) 13 i = _
      rw [gI_sI, if_pos rfl]
    · show gI (sI σ1 13 3 _) 13 i = _
      rw [gI_sI, if_pos rfl]
  have x3 : EqX σ' σ3 := by
    show EqX σ' (if p = nI l ∨ p = nI o then sI σ2 13 4 gn else σ2)
    split
    · exact x2.trans EqX.o13
    · exact x2
  let τ2 := sI τ1 0 30 (nI (L * sh / 12))
  let τ3 := sI (sI τ2 19 l (gI τ1 19 l - gI τ1 4 l)) 19 o (gI τ1 19 o + gI τ1 4 l)
  have t3o : ∀ cc i, cc ≠ 0 → cc ≠ 19 → gI τ3 cc i = gI τ1 cc i := fun cc i h h' => by
    show gI (sI (sI (sI τ1 0 30 _) 19 l _) 19 o _) cc i = _
    rw [gI_sI, if_neg h', gI_sI, if_neg h', gI_sI, if_neg h]
  have t30 : ∀ i, gI τ3 0 i = if i = 30 then nI (L * sh / 12) else gI τ1 0 i := fun i => by
    show gI (sI (sI (sI τ1 0 30 _) 19 l _) 19 o _) 0 i = _
    rw [gI_sI, if_neg (by decide), gI_sI, if_neg (by decide), gI_sI, if_pos rfl]
  have t319 : ∀ i, gI τ3 19 i = if i = o then gI τ1 19 o + gI τ1 4 l else if i = l then gI τ1 19 l - gI τ1 4 l else gI τ1 19 i := fun i => by
    show gI (sI (sI (sI τ1 0 30 _) 19 l _) 19 o _) 19 i = _
    rw [gI_sI, if_pos rfl, gI_sI, if_pos rfl, gI_sI, if_neg (show ¬ 19 = 0 by decide)]
  have y3 : EqR τ' τ3 := ((f4.eq.trans (EqR.of0 (by decide))).trans (EqR.ofI (by decide) (by decide))).trans (EqR.ofI (by decide) (by decide))
  have T3 : Th N σ3 τ3 41 := f5.at (s3o 41 1 (by decide)) (fun i => s3o 42 i (by decide)) (by rw [t30, if_neg (by decide)]) (fun i => t3o 17 i (by decide) (by decide))
  have g3 : Ge N p σ3 τ3 := fun q hq hp => by
    have hb := hg q hq hp
    rw [← f3.1 13 4 (by decide) (by decide), ← f4.1 19 q (by decide) (by decide)] at hb
    rw [s34, t319]
    show (if p = nI l then _ else if p = nI o then _ else _) = _
    have el : p = nI l ↔ q = l := by rw [hp, nI_inj (by omega) (by omega)]
    have eo : p = nI o ↔ q = o := by rw [hp, nI_inj (by omega) (by omega)]
    rw [hb]
    by_cases c1 : q = o
    · rw [if_neg (show ¬ p = nI l from fun e => lo (by rw [← c1]; exact el.mp e)), if_pos (eo.mpr c1), if_pos c1, c1]
    · by_cases c2 : q = l
      · rw [if_pos (el.mpr c2), if_neg c1, if_pos c2, c2, Int32.sub_eq_add_neg]
      · rw [if_neg (fun e => c2 (el.mp e)), if_neg (fun e => c1 (eo.mp e)), if_neg c1, if_neg c2]
  have xN3 : gI σ2 4 1 = nI N := ((hx.trans x2).g 4 (by decide) 1).trans a2
  have R3 : gI τ3 0 1 = nI N := by rw [t30, if_neg (by decide), f4.1 0 1 (by decide) (by decide)]; exact tN
  refine ⟨K + 20, L * sh / 12, setX σ3 41 a c won, setR τ3 N a c won, fun n hn => ?_, fun n hn => ?_, x3.trans (setX_eq σ3 41 a c won (by decide) (by decide) (by decide) (by decide)), y3.trans (setR_eq τ3 N a c won), T3.set a1 ha hc won, k3, ?_, ?_, ?_, ?_⟩
  · obtain ⟨n, rfl⟩ : ∃ q, n = q + 3 := ⟨n - 3, by omega⟩
    unfold F_X2_hear
    rw [chgX hR hk, bd_some, chdX hR hk, bd_some, endX hR hk, bd_some, e1, e2, e3]
    have j1 : (if (if won then (1 : Int32) else 0) = 1 then L_X2_hear (63 + 2 * s) (n + 3) 1 p (nI a) (nI c) 1 0 σ' else L_X2_hear (63 + 2 * s) (n + 3) 1 p (nI a) (nI c) 0 0 σ') = L_X2_hear (63 + 2 * s) (n + 3) 1 p (nI a) (nI c) (if won then 1 else 0) 0 σ' := by cases won <;> rfl
    rw [j1]
    show B_X2_hear_1 (L_X2_hear (63 + 2 * s) (n + 2)) (n + 2) (63 + 2 * s) p (nI a) (nI c) _ σ' = _
    unfold B_X2_hear_1
    rw [f1 (n + 2) (by omega), bd_some, shX _ won hx12, bd_some, hsh, gd_eq (by decide), bnd_eq, bnd_eq, f3.1 13 3 (by decide) (by decide), hl1, k1]
    have last : ∀ ρ : St, L_X2_hear (63 + 2 * s) (n + 1) 3 (nI a) (nI c) (if won then 1 else 0) 0 0 ρ = some ((), setX ρ 41 a c won) := fun ρ => by
      show B_X2_hear_3 (L_X2_hear (63 + 2 * s) n) n (63 + 2 * s) (nI a) (nI c) _ ρ = _
      unfold B_X2_hear_3
      rw [set1 41 ρ (by omega) (by omega) won n (by omega), bd_some]
    have mid : L_X2_hear (63 + 2 * s) (n + 2) 2 p (nI a) (nI c) (if won then 1 else 0) (nI l) σ2 = some ((), setX (sI σ2 13 4 (if p = nI l then gI σ1 13 4 + -(gI τ1 4 l) else gI σ1 13 4 + gI τ1 4 l)) 41 a c won) := by
      show B_X2_hear_2 (L_X2_hear (63 + 2 * s) (n + 1)) (n + 1) (63 + 2 * s) p (nI a) (nI c) _ (nI l) σ2 = _
      unfold B_X2_hear_2
      rw [show (3 : Int32) = nI 3 from rfl, num6 xN3 a1 _ lsr (by decide), bd_some, hfee]
      have e134 : gI σ2 13 4 = gI σ1 13 4 := by
        show gI (sI σ1 13 3 _) 13 4 = _
        rw [gI_sI, if_pos rfl, if_neg (by decide)]
      rw [e134]
      split
      · rw [bnd_eq, last]
      · rw [bnd_eq, last]
    have lastn : L_X2_hear (63 + 2 * s) (n + 2) 3 (nI a) (nI c) (if won then 1 else 0) 0 0 σ2 = some ((), setX σ2 41 a c won) := by
      show B_X2_hear_3 (L_X2_hear (63 + 2 * s) (n + 1)) (n + 1) (63 + 2 * s) (nI a) (nI c) _ σ2 = _
      unfold B_X2_hear_3
      rw [set1 41 σ2 (by omega) (by omega) won (n + 1) (by omega), bd_some]
    have fin : (if p = nI l ∨ p = nI o then L_X2_hear (63 + 2 * s) (n + 2) 2 p (nI a) (nI c) (if won then 1 else 0) (nI l) σ2 else L_X2_hear (63 + 2 * s) (n + 2) 3 (nI a) (nI c) (if won then 1 else 0) 0 0 σ2) = some ((), setX σ3 41 a c won) := by
      by_cases cc : p = nI l ∨ p = nI o
      · rw [if_pos cc, mid]
        have : σ3 = sI σ2 13 4 (if p = nI l then gI σ1 13 4 + -(gI τ1 4 l) else gI σ1 13 4 + gI τ1 4 l) := by
          show (if p = nI l ∨ p = nI o then sI σ2 13 4 (if p = nI l then _ else if p = nI o then _ else _) else σ2) = _
          rw [if_pos cc]
          by_cases cl : p = nI l
          · rw [if_pos cl, if_pos cl]
          · rw [if_neg cl, if_neg cl, if_pos (cc.resolve_left cl)]
        rw [this]
      · rw [if_neg cc, lastn]
        have : σ3 = σ2 := if_neg cc
        rw [this]
    rw [← fin, ← hlv, ← hov]
    cases won
    · rw [if_pos (by decide)]
      show (if p = nI a then _ else if p = nI c then _ else _) = if p = nI a ∨ p = nI c then _ else _
      by_cases ca : p = nI a
      · rw [if_pos ca, if_pos (Or.inl ca)]
        rfl
      · rw [if_neg ca]
        by_cases cb : p = nI c
        · rw [if_pos cb, if_pos (Or.inr cb)]
          rfl
        · rw [if_neg cb, if_neg (show ¬ (p = nI a ∨ p = nI c) from fun h => h.elim ca cb)]
    · rw [if_neg (by decide)]
      show (if p = nI a then _ else if p = nI c then _ else _) = if p = nI c ∨ p = nI a then _ else _
      by_cases ca : p = nI a
      · rw [if_pos ca, if_pos (Or.inr ca)]
        rfl
      · rw [if_neg ca]
        by_cases cb : p = nI c
        · rw [if_pos cb, if_pos (Or.inl cb)]
          rfl
        · rw [if_neg cb, if_neg (show ¬ (p = nI c ∨ p = nI a) from fun h => h.elim cb ca)]
  · unfold B_X12_goCourse_2
    by_cases c20 : (20 : Int32) ≤ nI k
    · rw [if_pos c20, if_pos c20]
    rw [if_neg c20, if_neg c20, gd_eq (v6 hs), nIc (by omega), hR.2.2.1, n_m3, n_a2, if_pos (by rw [i_lt, i_n (by omega), i_n (by omega)]; omega), getR hs hR (by omega), bd_some, n_a1, getR hs hR (by omega), bd_some, getR hs hR (by omega), bd_some, e1, e2, let12 a1 tN hT.bk _ ha hc hac, bd_some, one0]
    by_cases cf : gI τ' 17 a = -1
    · rw [if_pos cf, if_pos cf, in01, bd_some, one0, e3, if_pos (b01t won), f2 (n + 1) (by omega), bd_some, shR _ won hx12, bd_some, hsh, gd_eq (by decide), bnd_eq, bnd_eq, hl2, k2]
      have j2 : (if (if won then (1 : Int32) else 0) = 1 then (if (if won then (1 : Int32) else 0) = 1 then L_X12_goCourse (n + 1) 3 (nI s) (nI k) (nI a) (nI c) (if won then 1 else 0) (nI c) (nI a) τ2 else L_X12_goCourse (n + 1) 3 (nI s) (nI k) (nI a) (nI c) (if won then 1 else 0) (nI c) (nI c) τ2) else (if (if won then (1 : Int32) else 0) = 1 then L_X12_goCourse (n + 1) 3 (nI s) (nI k) (nI a) (nI c) (if won then 1 else 0) (nI a) (nI a) τ2 else L_X12_goCourse (n + 1) 3 (nI s) (nI k) (nI a) (nI c) (if won then 1 else 0) (nI a) (nI c) τ2)) = L_X12_goCourse (n + 1) 3 (nI s) (nI k) (nI a) (nI c) (if won then 1 else 0) (nI l) (nI o) τ2 := by
        rw [← hlv, ← hov]
        cases won <;> rfl
      refine Eq.trans j2 ?_
      show B_X12_goCourse_3 (L_X12_goCourse n) n (nI s) (nI k) (nI a) (nI c) _ (nI l) (nI o) τ2 = _
      unfold B_X12_goCourse_3
      have vl : vp_in (nI l) 7 := nIin (by omega) (by decide)
      have vo : vp_in (nI o) 7 := nIin (by omega) (by decide)
      rw [gd_eq vl, gd_eq vl, gd_eq vl, bnd_eq, gd_eq vo, gd_eq vl, gd_eq vo, bnd_eq, nIc (by omega), nIc (by omega)]
      have es : sI (sI τ2 19 l (gI τ2 19 l - gI τ2 4 l)) 19 o (gI (sI τ2 19 l (gI τ2 19 l - gI τ2 4 l)) 19 o + gI (sI τ2 19 l (gI τ2 19 l - gI τ2 4 l)) 4 l) = τ3 := by
        have u1 : ∀ i, gI τ2 19 i = gI τ1 19 i := fun i => by
          show gI (sI τ1 0 30 _) 19 i = _
          rw [gI_sI, if_neg (by decide)]
        have u2 : gI τ2 4 l = gI τ1 4 l := by
          show gI (sI τ1 0 30 _) 4 l = _
          rw [gI_sI, if_neg (by decide)]
        rw [gI_sI τ2 19 l _ 19 o, if_pos rfl, if_neg lo, gI_sI τ2 19 l _ 4 l, if_neg (by decide), u1, u1, u2]
      rw [es, go12 a1 τ3 R3 ha hc won n (by omega), bd_some, bnd_eq, n_a1]
    · rw [if_neg cf, if_neg cf]
  · rw [setX_o _ _ _ _ _ (by decide) (by decide), s3k 3 (by decide), if_pos rfl]
  · rw [setR_0, if_neg (by decide), t30, if_pos rfl]
  · rw [setX_o _ _ _ _ _ (by decide) (by decide), s3k 2 (by decide), if_neg (by decide)]
    exact f3.1 13 2 (by decide) (by decide)
  · intro q hq hp
    rw [setX_o _ _ _ _ _ (by decide) (by decide), setR_o _ _ _ _ _ (by decide) (by decide)]
    exact g3 q hq hp
