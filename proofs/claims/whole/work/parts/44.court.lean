/-! the court: by how many of twelve -/
def clp (v : Int32) : Nat := if v.toInt < 0 then 0 else if v.toInt ≤ 12 then v.toInt.toNat else 12
theorem clp_le (v : Int32) : clp v ≤ 12 := by
  unfold clp
  split
  · omega
  · split <;> omega
theorem clp_i (v : Int32) : (nI (clp v)).toInt = clp v := i_n (by have := clp_le v; omega)
theorem clpX (v : Int32) : (if (0 : Int32) < (if v < 12 then v else 12) then (if v < 12 then v else 12) else 0) = nI (clp v) := by
  rw [i_eq, clp_i]
  unfold clp
  simp only [i_lt, t12, t0]
  by_cases c1 : v.toInt < 12
  · simp only [if_pos c1]
    by_cases c2 : 0 < v.toInt
    · rw [if_pos c2, if_neg (by omega), if_pos (by omega)]
      omega
    · rw [if_neg c2, t0]
      split
      · rfl
      · rw [if_pos (by omega)]
        omega
  · simp only [if_neg c1, t12]
    rw [if_pos (by decide), if_neg (by omega), t12]
    split <;> omega
theorem clpR {τ : St} (v : Int32) : (if 0 ≤ v then (if v ≤ (12 : Int32) then (some (v, τ)) else (some ((12 : Int32), τ))) else (some ((0 : Int32), τ))) = some (nI (clp v), τ) := by
  have e : (if 0 ≤ v then (if v ≤ (12 : Int32) then (some (v, τ)) else (some ((12 : Int32), τ))) else (some ((0 : Int32), τ))) = some (if 0 ≤ v then (if v ≤ (12 : Int32) then v else 12) else 0, τ) := by
    split
    · split <;> rfl
    · rfl
  rw [e]
  refine congrArg (fun x => some (x, τ)) ?_
  rw [i_eq, clp_i]
  unfold clp
  simp only [i_le, t12, t0]
  by_cases c1 : v.toInt < 0
  · rw [if_neg (by omega), if_pos c1]
    rfl
  · rw [if_pos (by omega), if_neg c1]
    split
    · omega
    · rfl
def FrC (σ' σ'' : St) : Prop := (∀ c k, c ≠ 12 → c ≠ 31 → gI σ'' c k = gI σ' c k) ∧ (∀ k, gI σ' 28 k = 48 → gI σ'' 31 k = gI σ' 31 k) ∧ ∀ c k, gL σ'' c k = gL σ' c k
def FrW (τ' τ'' : St) : Prop := (∀ c k, c ≠ 15 → c ≠ 16 → gI τ'' c k = gI τ' c k) ∧ ∀ c k, gL τ'' c k = gL τ' c k
theorem FrC.rf (σ : St) : FrC σ σ := ⟨fun _ _ _ _ => rfl, fun _ _ => rfl, fun _ _ => rfl⟩
theorem FrW.rf (τ : St) : FrW τ τ := ⟨fun _ _ _ _ => rfl, fun _ _ => rfl⟩
theorem FrC.tr {a b c : St} (h : FrC a b) (h2 : FrC b c) : FrC a c := ⟨fun x k e f => (h2.1 x k e f).trans (h.1 x k e f), fun k e => (h2.2.1 k (by rw [h.1 28 k (by decide) (by decide)]; exact e)).trans (h.2.1 k e), fun x k => (h2.2.2 x k).trans (h.2.2 x k)⟩
theorem FrW.tr {a b c : St} (h : FrW a b) (h2 : FrW b c) : FrW a c := ⟨fun x k e f => (h2.1 x k e f).trans (h.1 x k e f), fun x k => (h2.2 x k).trans (h.2 x k)⟩
theorem FrC.eq {a b : St} (h : FrC a b) : EqX a b := ⟨fun c hc k => ⟨h.1 c k (nin hc (by decide)) (nin hc (by decide)), h.2.2 c k⟩, h.2.1⟩
theorem FrW.eq {a b : St} (h : FrW a b) : EqR a b := ⟨fun c hc k => ⟨h.1 c k (nin hc (by decide)) (nin hc (by decide)), h.2 c k⟩, fun k _ => h.1 0 k (by decide) (by decide)⟩
theorem FrC.n12 {σ : St} {k : Nat} {v : Int32} : FrC σ (sI σ 12 k v) := ⟨fun c k e _ => by rw [gI_sI, if_neg e], fun k _ => by rw [gI_sI, if_neg (by decide)], fun _ _ => rfl⟩
theorem FrW.n15 {σ : St} {k : Nat} {v : Int32} : FrW σ (sI σ 15 k v) := ⟨fun c k e _ => by rw [gI_sI, if_neg e], fun _ _ => rfl⟩
theorem Th.fr {N : Nat} {σ τ σ' τ' : St} {b : Nat} (h : Th N σ τ b) (hb : 37 ≤ b) (f : FrC σ σ') (g : FrW τ τ') : Th N σ' τ' b := by
  unfold Th at h ⊢
  simp only [f.1 b _ (by omega) (by omega), f.1 (b + 1) _ (by omega) (by omega), g.1 0 _ (by decide) (by decide), g.1 17 _ (by decide) (by decide)]
  exact h
def six (x0 x1 x2 x3 x4 x5 : Int32) (i : Nat) : Int32 := if i = 0 then x0 else if i = 1 then x1 else if i = 2 then x2 else if i = 3 then x3 else if i = 4 then x4 else x5
theorem six12 (σ : St) (c : Nat) (x0 x1 x2 x3 x4 x5 : Int32) : ∀ i, i < 6 → gI (sI (sI (sI (sI (sI (sI σ c 0 x0) c 1 x1) c 2 x2) c 3 x3) c 4 x4) c 5 x5) c i = six x0 x1 x2 x3 x4 x5 i := fun i hi => by
  simp only [gI_sI, if_pos rfl]
  match i, hi with
  | 0, _ => rfl
  | 1, _ => rfl
  | 2, _ => rfl
  | 3, _ => rfl
  | 4, _ => rfl
  | 5, _ => rfl
  | i + 6, h => exact absurd h (by omega)
def Crt (N : Nat) (σ τ : St) (G : Nat → Nat → Int32 → Int32 → Nat → Int32 → Nat) : Prop := (∀ a c d o q h, G a c d o q h ≤ 12) ∧
  (∀ (σ' : St) (b a c : Nat) (d : Int32) (o : Int32), EqX σ σ' → 37 ≤ b → a < N → c < N → (o = 0 ∨ o = 1) → ∃ C σ'', (∀ n, C ≤ n → F_X3_twelfthsAgainst n b (nI a) (nI c) d o σ' = some (nI (G a c d o (cnt (gI σ' (b + 1)) 7 0) (gI σ' b 1)), σ'')) ∧ FrC σ' σ'') ∧
  ∀ (τ' : St) (a c : Nat) (d : Int32) (o : Int32), EqR τ τ' → (∀ i, i < N → bok N (gI τ' 17 i)) → a < N → c < N → (o = 0 ∨ o = 1) → ∃ C τ'', (∀ n, C ≤ n → F_X12_lawBy n (nI a) (nI c) d o τ' = some (nI (G a c d o (cnt (gI τ' 17) N 0) (gI τ' 0 27)), τ'')) ∧ FrW τ' τ''
theorem crt {N : Nat} {σ τ : St} (h1 : Pp N σ τ) (h9 : Plaw σ τ) : ∃ G, Crt N σ τ G := by
  obtain ⟨a1, a2, a3, a4⟩ := id h1
  have hX : ∀ (σ' : St) (b a c : Nat) (d o : Int32), EqX σ σ' → a < N → c < N → ∀ n, F_X3_twelfthsAgainst n b (nI a) (nI c) d o σ' = L_X3_twelfthsAgainst b n 1 d o (gI τ 1 a) (if gI τ 3 a = nI c then 1 else 0) σ' := fun σ' b a c d o hx ha hc n => by
    have hN : gI σ' 4 1 = nI N := (hx.g 4 (by decide) 1).trans a2
    unfold F_X3_twelfthsAgainst
    rw [show (0 : Int32) = nI 0 from rfl, show (2 : Int32) = nI 2 from rfl, num6 hN a1 n ha (by decide), bd_some, num6 hN a1 n ha (by decide), bd_some, hx.g 5 (by decide), hx.g 5 (by decide), h1.num (w := 0) ha (by decide), h1.num (w := 2) ha (by decide)]
    show (if gI τ 3 a = nI c then _ else _) = _
    split <;> rfl
  have hR : ∀ (τ' : St) (a c : Nat) (d o : Int32), EqR τ τ' → a < N → c < N → ∀ n, F_X12_lawBy n (nI a) (nI c) d o τ' = L_X12_lawBy n 1 (nI a) d o (if gI τ 3 a = nI c then 1 else 0) τ' := fun τ' a c d o hx ha hc n => by
    unfold F_X12_lawBy
    rw [gd_eq (nIin (by omega) (by decide)), nIc (by omega), hx.g 3 (by decide)]
    split <;> rfl
  have sw : ∀ x h d : Int32, 6 + x + h - d = 6 + x - d + h := fun x h d => by
    rw [Int32.sub_eq_add_neg, Int32.sub_eq_add_neg, Int32.add_assoc, Int32.add_assoc (6 + x), Int32.add_comm h]
  have tail : ∀ (b n : Nat) (v : Int32) (ρ : St), L_X3_twelfthsAgainst b (n + 1) 2 v 0 0 0 ρ = some (nI (clp v), ρ) := fun b n v ρ => by
    show B_X3_twelfthsAgainst_2 (L_X3_twelfthsAgainst b n) n b v ρ = _
    unfold B_X3_twelfthsAgainst_2
    rw [bnd_eq, bnd_eq, clpX]
  have tailR : ∀ (n : Nat) (v : Int32) (ρ : St), L_X12_lawBy (n + 1) 2 v 0 0 0 ρ = some (nI (clp v), ρ) := fun n v ρ => by
    show B_X12_lawBy_2 (L_X12_lawBy n) n v ρ = _
    unfold B_X12_lawBy_2
    exact clpR v
  rcases lawV h9 with ⟨l1, l2⟩ | ⟨l1, ⟨ke, k1, k2, k3⟩, lv, hlv⟩
  · refine ⟨fun a c d o q h => clp (6 + gI τ 1 a - d + (if gI τ 3 a = nI c then 1 else 0)), fun a c d o q h => clp_le _, fun σ' b a c d o hx hb ha hc ho => ⟨2, σ', fun n hn => ?_, FrC.rf _⟩, fun τ' a c d o hx hbk ha hc ho => ⟨2, τ', fun n hn => ?_, FrW.rf _⟩⟩
    · obtain ⟨n, rfl⟩ : ∃ q, n = q + 2 := ⟨n - 2, by omega⟩
      rw [hX σ' b a c d o hx ha hc]
      show B_X3_twelfthsAgainst_1 (L_X3_twelfthsAgainst b (n + 1)) (n + 1) b d o _ _ σ' = _
      unfold B_X3_twelfthsAgainst_1 F_X7_isTold
      rw [bnd_eq, hx.g 27 (by decide), l2, if_pos (Int32.le_refl _), bd_some, if_pos rfl, tail, sw]
    · obtain ⟨n, rfl⟩ : ∃ q, n = q + 2 := ⟨n - 2, by omega⟩
      rw [hR τ' a c d o hx ha hc]
      show B_X12_lawBy_1 (L_X12_lawBy (n + 1)) (n + 1) (nI a) d o _ τ' = _
      unfold B_X12_lawBy_1
      rw [gd_eq (nIin (by omega) (by decide)), bnd_eq, hx.2 25 (by decide), l1, if_pos rfl, tailR, nIc (by omega), hx.g 1 (by decide)]
  · refine ⟨fun a c d o q h => clp (lv (six (gI τ 1 a) d o (if gI τ 3 a = nI c then 1 else 0) (nI q) h)), fun a c d o q h => clp_le _, fun σ' b a c d o hx hb ha hc ho => ?_, fun τ' a c d o hx hbk ha hc ho => ?_⟩
    · generalize hH : (if gI τ 3 a = nI c then (1 : Int32) else 0) = H
      have hx5 := hX σ' b a c d o hx ha hc
      rw [hH] at hx5
      generalize hq : cnt (gI σ' (b + 1)) 7 0 = q
      let σ1 := sI (sI (sI (sI (sI (sI σ' 12 0 (gI τ 1 a)) 12 1 d) 12 2 o) 12 3 H) 12 4 (nI q)) 12 5 (gI σ' b 1)
      have f1 : FrC σ' σ1 := ((((FrC.n12.tr FrC.n12).tr FrC.n12).tr FrC.n12).tr FrC.n12).tr FrC.n12
      have ok : OkX (six (gI τ 1 a) d o H (nI q) (gI σ' b 1)) σ σ1 := by
        have hx1 := hx.trans f1.eq
        exact ⟨fun k => ⟨hx1.g 28 (by decide) k, hx1.g 29 (by decide) k, hx1.g 30 (by decide) k⟩, hx1.2, hx1.g 27 (by decide) 4, six12 σ' 12 _ _ _ _ _ _⟩
      obtain ⟨C, σ2, e1, e2⟩ := (hlv _).1 σ1 ok
      have f2 : FrC σ1 σ2 := ⟨fun c k _ h => e2.1 c k h, fun k hk => e2.2.1 k (by rw [← (hx.trans f1.eq).g 28 (by decide) k]; exact hk), e2.2.2⟩
      refine ⟨C + 12, σ2, fun n hn => ?_, f1.tr f2⟩
      obtain ⟨n, rfl⟩ : ∃ q, n = q + 3 := ⟨n - 3, by omega⟩
      rw [hx5]
      show B_X3_twelfthsAgainst_1 (L_X3_twelfthsAgainst b (n + 2)) (n + 2) b d o _ _ σ' = _
      unfold B_X3_twelfthsAgainst_1 F_X7_isTold
      rw [bnd_eq, hx.g 27 (by decide), k3, if_neg (by rw [i_le, i_n (by omega), t0]; omega), bd_some, if_neg (by decide), gd_eq (show vp_in (0 : Int32) 6 from nIin (k := 0) (by decide) (by decide)), bnd_eq, gd_eq (show vp_in (1 : Int32) 6 from nIin (k := 1) (by decide) (by decide)), bnd_eq]
      have ho' : (if o = 0 then L_X3_twelfthsAgainst b (n + 2) 3 H 0 2 0 (sI (sI σ' 12 (0 : Int32).toNatClampNeg (gI τ 1 a)) 12 (1 : Int32).toNatClampNeg d) else L_X3_twelfthsAgainst b (n + 2) 3 H 1 2 0 (sI (sI σ' 12 (0 : Int32).toNatClampNeg (gI τ 1 a)) 12 (1 : Int32).toNatClampNeg d)) = L_X3_twelfthsAgainst b (n + 2) 3 H o 2 0 (sI (sI σ' 12 0 (gI τ 1 a)) 12 1 d) := by
        rcases ho with rfl | rfl
        · rfl
        · rfl
      rw [ho']
      show B_X3_twelfthsAgainst_3 (L_X3_twelfthsAgainst b (n + 1)) (n + 1) b H o 2 _ = _
      unfold B_X3_twelfthsAgainst_3 F_X1_casesAhead
      rw [gd_eq (show vp_in (2 : Int32) 6 from nIin (k := 2) (by decide) (by decide)), bnd_eq, gd_eq (show vp_in (3 : Int32) 6 from nIin (k := 3) (by decide) (by decide)), bnd_eq, cnt1 b _ (n + 1) (by omega), bd_some, gd_eq (show vp_in (4 : Int32) 6 from nIin (k := 4) (by decide) (by decide)), bnd_eq, bd_some, gd_eq (show vp_in (5 : Int32) 6 from nIin (k := 5) (by decide) (by decide)), bnd_eq]
      have eb : ∀ (ρ : St) (k : Nat) (v : Int32), gI (sI ρ 12 k v) (b + 1) = gI ρ (b + 1) := fun ρ k v => funext (fun i => by rw [gI_sI, if_neg (by omega)])
      have eb' : ∀ (ρ : St) (k : Nat) (v : Int32), gI (sI ρ 12 k v) b 1 = gI ρ b 1 := fun ρ k v => by rw [gI_sI, if_neg (by omega)]
      simp only [eb, eb', hq]
      have := e1 (n + 1) (by omega)
      refine Eq.trans (congrArg (fun x => bd x _) this) ?_
      rw [bd_some, tail, hH]
    · generalize hH : (if gI τ 3 a = nI c then (1 : Int32) else 0) = H
      have hx5 := hR τ' a c d o hx ha hc
      rw [hH] at hx5
      generalize hq : cnt (gI τ' 17) N 0 = q
      let σ1 := sI (sI (sI (sI (sI (sI τ' 15 0 (gI τ 1 a)) 15 1 d) 15 2 o) 15 3 H) 15 4 (nI q)) 15 5 (gI τ' 0 27)
      have f1 : FrW τ' σ1 := ((((FrW.n15.tr FrW.n15).tr FrW.n15).tr FrW.n15).tr FrW.n15).tr FrW.n15
      have ok : OkR (six (gI τ 1 a) d o H (nI q) (gI τ' 0 27)) τ σ1 := by
        have hx1 := hx.trans f1.eq
        exact ⟨fun k => ⟨hx1.g 10 (by decide) k, hx1.g 11 (by decide) k, hx1.g 13 (by decide) k, hx1.g 14 (by decide) k⟩, hx1.g 12 (by decide) 0, six12 τ' 15 _ _ _ _ _ _⟩
      obtain ⟨C, σ2, e1, e2⟩ := (hlv _).2 σ1 ok
      have f2 : FrW σ1 σ2 := ⟨fun c k _ h => e2.1 c k h, e2.2⟩
      refine ⟨C + 12, σ2, fun n hn => ?_, f1.tr f2⟩
      obtain ⟨n, rfl⟩ : ∃ q, n = q + 3 := ⟨n - 3, by omega⟩
      rw [hx5]
      show B_X12_lawBy_1 (L_X12_lawBy (n + 2)) (n + 2) (nI a) d o _ τ' = _
      unfold B_X12_lawBy_1
      have va : vp_in (nI a) 7 := nIin (by omega) (by decide)
      have h15 : ∀ (ρ : St) (k : Nat) (v : Int32), gI (sI ρ 15 k v) 17 = gI ρ 17 := fun ρ k v => funext (fun i => by rw [gI_sI, if_neg (by decide)])
      have h15' : ∀ (ρ : St) (k j : Nat) (v : Int32), gI (sI ρ 15 k v) 0 j = gI ρ 0 j := fun ρ k j v => by rw [gI_sI, if_neg (by decide)]
      rw [gd_eq va, bnd_eq, hx.2 25 (by decide), l1, if_neg (by decide), gd_eq va, gd_eq (show vp_in (0 : Int32) 6 from nIin (k := 0) (by decide) (by decide)), bnd_eq, gd_eq (show vp_in (1 : Int32) 6 from nIin (k := 1) (by decide) (by decide)), bnd_eq, gd_eq (show vp_in (2 : Int32) 6 from nIin (k := 2) (by decide) (by decide)), bnd_eq, gd_eq (show vp_in (3 : Int32) 6 from nIin (k := 3) (by decide) (by decide)), bnd_eq, cnt12 a1 _ (by simp only [h15']; exact (hx.2 1 (by decide)).trans a3) (by simp only [h15]; exact hbk) (n + 2) (by omega), bd_some, gd_eq (show vp_in (4 : Int32) 6 from nIin (k := 4) (by decide) (by decide)), bnd_eq, gd_eq (show vp_in (5 : Int32) 6 from nIin (k := 5) (by decide) (by decide)), bnd_eq]
      simp only [h15, h15', hq, nIc (show a < 2147483648 by omega), hx.g 1 (by decide)]
      have := e1 (n + 2) (by omega)
      refine Eq.trans (congrArg (fun x => bd x _) this) ?_
      rw [bd_some, tailR, hH]
/-- the value for a bench -/
def wv (N : Nat) (G : Nat → Nat → Int32 → Int32 → Nat → Int32 → Nat) (kd : Nat → Int32) (f : Nat → Int32) (ah : Int32) (a c : Nat) : Nat := G a c (kd (spk f c N 0)) (if spk f c N 0 = c then 1 else 0) (cnt f N 0) ah
theorem o01 {P : Prop} [Decidable P] : (if P then (1 : Int32) else 0) = 0 ∨ (if P then (1 : Int32) else 0) = 1 := by
  split
  · exact Or.inr rfl
  · exact Or.inl rfl
theorem Crt.twR {N : Nat} {σ τ : St} {G : Nat → Nat → Int32 → Int32 → Nat → Int32 → Nat} (hG : Crt N σ τ G) (h1 : Pp N σ τ) {τ' : St} (hr : EqR τ τ') (hbk : ∀ i, i < N → bok N (gI τ' 17 i)) {a c : Nat} (ha : a < N) (hc : c < N) : ∃ C τ'', (∀ n, C ≤ n → F_X12_winsBy n (nI a) (nI c) τ' = some (nI (wv N G (gI τ 2) (gI τ' 17) (gI τ' 0 27) a c), τ'')) ∧ FrW τ' τ'' := by
  obtain ⟨a1, a2, a3, a4⟩ := id h1
  have hs : spk (gI τ' 17) c N 0 < N := spk_lt _ hc N 0 (by omega)
  obtain ⟨C, τ'', e1, e2⟩ := hG.2.2 τ' a c (gI τ 2 (spk (gI τ' 17) c N 0)) (if spk (gI τ' 17) c N 0 = c then 1 else 0) hr hbk ha hc o01
  refine ⟨C + 8, τ'', fun n hn => ?_, e2⟩
  unfold F_X12_winsBy
  rw [spk12 a1 τ' ((hr.2 1 (by decide)).trans a3) hc n (by omega), bd_some, gd_eq (nIin (by omega) (by decide)), nIc (by omega), hr.g 2 (by decide)]
  have := e1 n (by omega)
  by_cases cs : spk (gI τ' 17) c N 0 = c
  · rw [if_pos cs] at this
    rw [if_pos (by rw [cs]), this, bd_some]
    unfold wv
    rw [if_pos cs]
  · rw [if_neg cs] at this
    rw [if_neg (by rw [nI_inj (by omega) (by omega)]; exact cs), this, bd_some]
    unfold wv
    rw [if_neg cs]
theorem Crt.twX {N : Nat} {σ τ : St} {G : Nat → Nat → Int32 → Int32 → Nat → Int32 → Nat} (hG : Crt N σ τ G) (h1 : Pp N σ τ) {σ' τ' : St} (hx : EqX σ σ') {b : Nat} (hb : 37 ≤ b) (hT : Th N σ' τ' b) {a c : Nat} (ha : a < N) (hc : c < N) : ∃ C σ'', (∀ n, C ≤ n → F_X3_twelfths n b (nI a) (nI c) σ' = some (nI (wv N G (gI τ 2) (gI τ' 17) (gI τ' 0 27) a c), σ'')) ∧ FrC σ' σ'' := by
  obtain ⟨a1, a2, a3, a4⟩ := id h1
  have hs : spk (gI τ' 17) c N 0 < N := spk_lt _ hc N 0 (by omega)
  obtain ⟨C, σ'', e1, e2⟩ := hG.2.1 σ' b a c (gI τ 2 (spk (gI τ' 17) c N 0)) (if spk (gI τ' 17) c N 0 = c then 1 else 0) hx hb ha hc o01
  rw [hT.ct a1, hT.1] at e1
  refine ⟨C + 8, σ'', fun n hn => ?_, e2⟩
  unfold F_X3_twelfths
  rw [spk1 b σ' (by omega) n (by omega), bd_some, hT.sp a1 hc, show (1 : Int32) = nI 1 from rfl, num6 ((hx.g 4 (by decide) 1).trans a2) a1 n hs (by decide), bd_some, hx.g 5 (by decide), h1.num (w := 1) hs (by decide)]
  have := e1 n (by omega)
  by_cases cs : spk (gI τ' 17) c N 0 = c
  · rw [if_pos cs] at this
    rw [if_pos (by rw [cs])]
    refine Eq.trans (congrArg (fun x => bd x _) this) ?_
    rw [bd_some]
    unfold wv
    rw [if_pos cs]
  · rw [if_neg cs] at this
    rw [if_neg (by rw [nI_inj (by omega) (by omega)]; exact cs)]
    refine Eq.trans (congrArg (fun x => bd x _) this) ?_
    rw [bd_some]
    unfold wv
    rw [if_neg cs]
theorem wv_le {N : Nat} {σ τ : St} {G : Nat → Nat → Int32 → Int32 → Nat → Int32 → Nat} (hG : Crt N σ τ G) (kd f : Nat → Int32) (ah : Int32) (a c : Nat) : wv N G kd f ah a c ≤ 12 := hG.1 _ _ _ _ _ _
theorem Crt.tw {N : Nat} {σ τ : St} {G : Nat → Nat → Int32 → Int32 → Nat → Int32 → Nat} (hG : Crt N σ τ G) (h1 : Pp N σ τ) {σ' τ' : St} (hx : EqX σ σ') (hr : EqR τ τ') {b : Nat} (hb : 37 ≤ b) (hT : Th N σ' τ' b) {a c : Nat} (ha : a < N) (hc : c < N) : ∃ x C σ'' τ'', x ≤ 12 ∧ (∀ n, C ≤ n → F_X3_twelfths n b (nI a) (nI c) σ' = some (nI x, σ'')) ∧ (∀ n, C ≤ n → F_X12_winsBy n (nI a) (nI c) τ' = some (nI x, τ'')) ∧ FrC σ' σ'' ∧ FrW τ' τ'' ∧ Th N σ'' τ'' b ∧ x = wv N G (gI τ 2) (gI τ' 17) (gI τ' 0 27) a c := by
  obtain ⟨C, σ'', e1, e2⟩ := hG.twX h1 hx hb hT ha hc
  obtain ⟨C', τ'', f1, f2⟩ := hG.twR h1 hr hT.bk ha hc
  exact ⟨_, C + C', σ'', τ'', wv_le hG _ _ _ _ _, fun n hn => e1 n (by omega), fun n hn => f1 n (by omega), e2, f2, hT.fr hb e2 f2, rfl⟩
