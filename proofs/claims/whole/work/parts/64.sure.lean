/-! sure -/
theorem sb7 : ∀ q, q < 7 → 47 + 2 * q ∉ coreX ∧ 47 + 2 * q + 1 ∉ coreX ∧ 47 + 2 * q ≠ 31 ∧ 47 + 2 * q + 1 ≠ 31 := by decide
theorem stf_a {N : Nat} {f : Nat → Int32} {a c : Nat} (hc : c < 2147483648) (h : f a = -1) (hac : a ≠ c) : stf N f a c true a = -1 := by
  unfold stf
  rw [if_pos rfl, if_neg hac, if_neg]
  · exact h
  · intro e
    rcases spk_eq f c N 0 with q | ⟨_, _, q⟩
    · omega
    · rw [← e, h] at q
      exact nI_nm1 hc q.symm
section SURE
variable {N : Nat} {σ0 τ0 : St} {G : Nat → Nat → Int32 → Int32 → Nat → Int32 → Nat}
/-- benches up to a step stay -/
def Fs (s : Nat) (σ σ' : St) : Prop := ∀ t, t ≤ s → gI σ' (47 + 2 * t) 1 = gI σ (47 + 2 * t) 1 ∧ ∀ i, gI σ' (47 + 2 * t + 1) i = gI σ (47 + 2 * t + 1) i
theorem Fs.rf (s : Nat) (σ : St) : Fs s σ σ := fun _ _ => ⟨rfl, fun _ => rfl⟩
theorem Fs.tr {s : Nat} {a b c : St} (h : Fs s a b) (h2 : Fs s b c) : Fs s a c := fun t ht => ⟨(h2 t ht).1.trans (h t ht).1, fun i => ((h2 t ht).2 i).trans ((h t ht).2 i)⟩
theorem Fs.lo {s u : Nat} {a b : St} (h : Fs s a b) (hu : u ≤ s) : Fs u a b := fun t ht => h t (by omega)
theorem FrC.fs {s : Nat} {a b : St} (h : FrC a b) : Fs s a b := fun t ht => ⟨h.1 _ _ (by omega) (by omega), fun i => h.1 _ _ (by omega) (by omega)⟩
theorem Bn.fs {f : Nat → Int32} {ah : Int32} {s : Nat} {σ σ' : St} (h : Bn f ah (47 + 2 * s) σ) (h2 : Fs s σ σ') : Bn f ah (47 + 2 * s) σ' := ⟨(h2 s (Nat.le_refl _)).1.trans h.1, fun i hi => ((h2 s (Nat.le_refl _)).2 i).trans (h.2 i hi)⟩
theorem min4X (O : Nat → Nat → Int32 → Int32 → Int32 → St → Option (Int32 × St)) (n : Nat) (l1 l2 l3 : Int32) {m c w : Nat} (hm : m ≤ 1000) (hw : w ≤ 1001) (σ : St) : L_X9_fewestSureFrom O (n + 1) 4 l1 l2 l3 (nI m) (nI c) (nI w) σ = L_X9_fewestSureFrom O n 1 l1 l2 l3 (nI (if w < m then w else m)) (nI (c + 1)) 0 σ := by
  show B_X9_fewestSureFrom_4 O (L_X9_fewestSureFrom O n) n l1 l2 l3 (nI m) (nI c) (nI w) σ = _
  unfold B_X9_fewestSureFrom_4
  rw [bnd_eq, bnd_eq, n_a1]
  by_cases e : w < m
  · rw [if_pos e, if_pos (by rw [i_lt, i_n (by omega), i_n (by omega)]; omega)]
  · rw [if_neg e, if_neg (by rw [i_lt, i_n (by omega), i_n (by omega)]; omega)]
theorem min3R (O : Nat → Nat → Int32 → Int32 → Int32 → Int32 → St → Option (Int32 × St)) (n : Nat) (l1 l2 l3 l4 : Int32) {m c w w' : Nat} (hm : m ≤ 1000) (hw : w' ≤ 1001) (h : min 7 w' = min 7 w) (τ : St) : L_X12_sureFrom O (n + 1) 3 l1 l2 l3 l4 (nI (min 7 m)) (nI c) (nI w') τ = L_X12_sureFrom O n 1 l1 l2 l3 l4 (nI (min 7 (if w < m then w else m))) (nI (c + 1)) 0 τ := by
  show B_X12_sureFrom_3 O (L_X12_sureFrom O n) n l1 l2 l3 l4 (nI (min 7 m)) (nI c) (nI w') τ = _
  unfold B_X12_sureFrom_3
  rw [bnd_eq, bnd_eq, n_a1]
  by_cases e : min 7 m ≤ w'
  · rw [if_pos (by rw [i_le, i_n (by omega), i_n (by omega)]; omega), show min 7 (if w < m then w else m) = min 7 m by split <;> omega]
  · rw [if_neg (by rw [i_le, i_n (by omega), i_n (by omega)]; omega), show min 7 (if w < m then w else m) = w' by split <;> omega]
theorem sureXR (hG : Crt N σ0 τ0 G) (h1 : Pp N σ0 τ0) (h4 : N ≤ 4) {a b : Nat} (ha : a < N) (hb : b < N) : ∀ (d s : Nat) (f : Nat → Int32) (σ τ : St), s + d = 6 → EqX σ0 σ → EqR τ0 τ → Fn N f → f a = -1 → Bn f (gI τ0 0 29 + nI s) (47 + 2 * s) σ → ∃ (C0 x : Nat) (σ' τ' : St), x ≤ 1000 ∧ (∀ D n, d < D → C0 ≤ n → F_X9_fewestSureFrom D 0 n (nI s) (nI a) (nI b) σ = some (nI x, σ')) ∧ (∀ D n, d < D → C0 ≤ n → F_X12_sureFrom D 0 n (nI (cdn f N 0)) (nI a) (nI b) (nI s) τ = some (nI (min 7 x), τ')) ∧ EqX σ0 σ' ∧ EqR τ0 τ' ∧ Fs s σ σ' := by
  intro d
  induction d with
  | zero =>
    intro s f σ τ hs hx hr hf hfa hB
    obtain rfl : s = 6 := by omega
    refine ⟨0, 1000, σ, τ, by omega, fun D n hD hn => ?_, fun D n hD hn => ?_, hx, hr, Fs.rf 6 σ⟩
    · obtain ⟨D, rfl⟩ : ∃ q, D = q + 1 := ⟨D - 1, by omega⟩
      show E_X9_fewestSureFrom (F_X9_fewestSureFrom D) n (nI 6) (nI a) (nI b) σ = _
      unfold E_X9_fewestSureFrom
      rw [if_neg (by decide), if_neg (by decide)]
      rfl
    · obtain ⟨D, rfl⟩ : ∃ q, D = q + 1 := ⟨D - 1, by omega⟩
      show E_X12_sureFrom (F_X12_sureFrom D) n (nI (cdn f N 0)) (nI a) (nI b) (nI 6) τ = _
      unfold E_X12_sureFrom
      rw [if_pos (by decide)]
      rfl
  | succ d ihd =>
    intro s f σ τ hs hx hr hf hfa hB
    have loop : ∀ (j c m : Nat) (σ τ : St), c + j = N → m ≤ 1000 → EqX σ0 σ → EqR τ0 τ → Bn f (gI τ0 0 29 + nI s) (47 + 2 * s) σ → ∃ (C0 x : Nat) (σ' τ' : St), x ≤ 1000 ∧ (∀ D n, d < D → C0 ≤ n → L_X9_fewestSureFrom (F_X9_fewestSureFrom D) n 1 (nI s) (nI a) (nI b) (nI m) (nI c) 0 σ = some (nI x, σ')) ∧ (∀ D n, d < D → C0 ≤ n → L_X12_sureFrom (F_X12_sureFrom D) n 1 (nI (cdn f N 0)) (nI a) (nI b) (nI s) (nI (min 7 m)) (nI c) 0 τ = some (nI (min 7 x), τ')) ∧ EqX σ0 σ' ∧ EqR τ0 τ' ∧ Fs s σ σ' := by
      intro j
      induction j with
      | zero =>
        intro c m σ τ hc hm hx hr hB
        have xN : gI σ 4 1 = nI N := (hx.g 4 (by decide) 1).trans h1.2.1
        have tN : gI τ 0 1 = nI N := (hr.2 1 (by decide)).trans h1.2.2.1
        refine ⟨1, m, σ, τ, hm, fun D n hD hn => ?_, fun D n hD hn => ?_, hx, hr, Fs.rf s σ⟩
        · obtain ⟨n, rfl⟩ : ∃ q, n = q + 1 := ⟨n - 1, by omega⟩
          show B_X9_fewestSureFrom_1 (F_X9_fewestSureFrom D) (L_X9_fewestSureFrom (F_X9_fewestSureFrom D) n) n (nI s) (nI a) (nI b) (nI m) (nI c) σ = _
          unfold B_X9_fewestSureFrom_1 F_X6_size
          rw [bd_some, xN, if_pos (by rw [i_le, i_n (by omega), i_n (by omega)]; omega)]
        · obtain ⟨n, rfl⟩ : ∃ q, n = q + 1 := ⟨n - 1, by omega⟩
          show B_X12_sureFrom_1 (F_X12_sureFrom D) (L_X12_sureFrom (F_X12_sureFrom D) n) n (nI (cdn f N 0)) (nI a) (nI b) (nI s) (nI (min 7 m)) (nI c) τ = _
          unfold B_X12_sureFrom_1
          rw [tN, if_pos (by rw [i_le, i_n (by omega), i_n (by omega)]; omega)]
      | succ j ih =>
        intro c m σ τ hc hm hx hr hB
        have xN : gI σ 4 1 = nI N := (hx.g 4 (by decide) 1).trans h1.2.1
        have tN : gI τ 0 1 = nI N := (hr.2 1 (by decide)).trans h1.2.2.1
        have hcN : c < N := by omega
        obtain ⟨τ1, l1, l2, l3, l4⟩ := layR hf τ tN
        have r1 : EqR τ τ1 := ⟨fun y hy k => ⟨l3 y k (nin hy (by decide)), l4 y k⟩, fun k hk => l3 0 k (by decide)⟩
        have e29 : gI τ1 0 29 = gI τ0 0 29 := (l3 0 29 (by decide)).trans (hr.2 29 (by decide))
        have r2 : EqR τ (sI τ1 0 27 (gI τ0 0 29 + nI s)) := r1.trans (EqR.of0 (by decide))
        have tN2 : gI (sI τ1 0 27 (gI τ0 0 29 + nI s)) 0 1 = nI N := (l3 0 1 (by decide)).trans tN
        have g17 : ∀ i, i < N → gI (sI τ1 0 27 (gI τ0 0 29 + nI s)) 17 i = f i := fun i hi => l2 i hi
        have nXN : ¬ nI N ≤ nI c := by rw [i_le, i_n (by omega), i_n (by omega)]; omega
        have preR : ∀ D n, 8 ≤ n → L_X12_sureFrom (F_X12_sureFrom D) (n + 1) 1 (nI (cdn f N 0)) (nI a) (nI b) (nI s) (nI (min 7 m)) (nI c) 0 τ = (bd (F_X12_isLet n (nI a) (nI c) (sI τ1 0 27 (gI τ0 0 29 + nI s))) fun r4 s3 => if r4 = 0 then (L_X12_sureFrom (F_X12_sureFrom D) n 1 (nI (cdn f N 0)) (nI a) (nI b) (nI s) (nI (min 7 m)) (nI (c + 1)) 0 s3) else (bd (F_X12_winsBy n (nI a) (nI c) s3) fun r6 s5 => if (12 : Int32) ≤ r6 then (L_X12_sureFrom (F_X12_sureFrom D) n 2 (nI (cdn f N 0)) (nI a) (nI b) (nI s) (nI (min 7 m)) (nI c) r6 s5) else (if nI c = nI b then (L_X12_sureFrom (F_X12_sureFrom D) n 2 (nI (cdn f N 0)) (nI a) (nI b) (nI s) (nI (min 7 m)) (nI c) r6 s5) else (L_X12_sureFrom (F_X12_sureFrom D) n 1 (nI (cdn f N 0)) (nI a) (nI b) (nI s) (nI (min 7 m)) (nI (c + 1)) 0 s5)))) := fun D n hn => by
          show B_X12_sureFrom_1 (F_X12_sureFrom D) (L_X12_sureFrom (F_X12_sureFrom D) n) n (nI (cdn f N 0)) (nI a) (nI b) (nI s) (nI (min 7 m)) (nI c) τ = _
          unfold B_X12_sureFrom_1
          rw [tN, if_neg nXN, l1 n hn, bd_some, e29, bnd_eq]
          simp only [bnd_eq, n_a1]
        have preX : ∀ D n, L_X9_fewestSureFrom (F_X9_fewestSureFrom D) (n + 1) 1 (nI s) (nI a) (nI b) (nI m) (nI c) 0 σ = (if nI c = nI a then (L_X9_fewestSureFrom (F_X9_fewestSureFrom D) n 2 (nI s) (nI a) (nI b) (nI m) (nI c) (0 : Int32) σ) else (bd (F_X3_twelfths n (47 + 2 * s) (nI a) (nI c) σ) fun r5 s4 => L_X9_fewestSureFrom (F_X9_fewestSureFrom D) n 2 (nI s) (nI a) (nI b) (nI m) (nI c) r5 s4)) := fun D n => by
          show B_X9_fewestSureFrom_1 (F_X9_fewestSureFrom D) (L_X9_fewestSureFrom (F_X9_fewestSureFrom D) n) n (nI s) (nI a) (nI b) (nI m) (nI c) σ = _
          unfold B_X9_fewestSureFrom_1 F_X6_size
          rw [bd_some, xN, if_neg nXN, gd_eq (nIin (by omega) (by decide)), nIc (by omega)]
        have pre2 : ∀ D n (k0 : Int32) (σ1 : St), L_X9_fewestSureFrom (F_X9_fewestSureFrom D) (n + 1) 2 (nI s) (nI a) (nI b) (nI m) (nI c) k0 σ1 = if c = a then L_X9_fewestSureFrom (F_X9_fewestSureFrom D) n 1 (nI s) (nI a) (nI b) (nI m) (nI (c + 1)) 0 σ1 else if c = b then L_X9_fewestSureFrom (F_X9_fewestSureFrom D) n 3 (nI s) (nI a) (nI b) (nI m) (nI c) k0 σ1 else if k0 = 12 then L_X9_fewestSureFrom (F_X9_fewestSureFrom D) n 3 (nI s) (nI a) (nI b) (nI m) (nI c) k0 σ1 else L_X9_fewestSureFrom (F_X9_fewestSureFrom D) n 1 (nI s) (nI a) (nI b) (nI m) (nI (c + 1)) 0 σ1 := fun D n k0 σ1 => by
          show B_X9_fewestSureFrom_2 (F_X9_fewestSureFrom D) (L_X9_fewestSureFrom (F_X9_fewestSureFrom D) n) n (nI s) (nI a) (nI b) (nI m) (nI c) k0 σ1 = _
          unfold B_X9_fewestSureFrom_2
          simp only [bnd_eq, n_a1, nI_inj (show c < 2147483648 by omega) (show a < 2147483648 by omega), nI_inj (show c < 2147483648 by omega) (show b < 2147483648 by omega)]
        by_cases ca : c = a
        · obtain ⟨C0, x, σ2, τ2, q0, q1, q2, q3, q4, q5⟩ := ih (c + 1) m σ (sI τ1 0 27 (gI τ0 0 29 + nI s)) (by omega) hm hx (hr.trans r2) hB
          refine ⟨C0 + 20, x, σ2, τ2, q0, fun D n hD hn => ?_, fun D n hD hn => ?_, q3, q4, q5⟩
          · obtain ⟨n, rfl⟩ : ∃ q, n = q + 1 + 1 := ⟨n - 2, by omega⟩
            rw [preX, if_pos (by rw [ca]), pre2, if_pos ca]
            exact q1 D n hD (by omega)
          · obtain ⟨n, rfl⟩ : ∃ q, n = q + 1 := ⟨n - 1, by omega⟩
            rw [preR D n (by omega), let12G (by omega) tN2 (by
              rintro ⟨a', c', _, _, h5, h6, h7⟩
              rw [nI_inj (by omega) (by omega)] at h6 h7
              omega), bd_some, if_pos rfl]
            exact q2 D n hD (by omega)
        · have hac : a ≠ c := fun e => ca e.symm
          obtain ⟨CX, σ1, w1, w2⟩ := twF hG h1 hf hx (show 37 ≤ 47 + 2 * s by omega) hB ha hcN
          obtain ⟨CR, τ2, v1, v2⟩ := twFR hG h1 hf (hr.trans r2) g17 (show gI (sI τ1 0 27 (gI τ0 0 29 + nI s)) 0 27 = gI τ0 0 29 + nI s from rfl) ha hcN
          have x12 : wv N G (gI τ0 2) f (gI τ0 0 29 + nI s) a c ≤ 12 := wv_le hG _ _ _ _ _
          generalize wv N G (gI τ0 2) f (gI τ0 0 29 + nI s) a c = x at w1 v1 x12
          have hl := fun n => let12 (show N ≤ 7 by omega) tN2 (fun i hi => by rw [g17 i hi]; exact hf.2.1 i hi) n ha hcN hac
          have hx1 := hx.trans w2.eq
          have hr2 := (hr.trans r2).trans v2.eq
          have hB1 : Bn f (gI τ0 0 29 + nI s) (47 + 2 * s) σ1 := hB.fs w2.fs
          have tN3 : gI τ2 0 1 = nI N := (v2.1 0 1 (by decide) (by decide)).trans tN2
          have h17 : ∀ i, i < N → gI τ2 17 i = f i := fun i hi => (v2.1 17 i (by decide) (by decide)).trans (g17 i hi)
          have goX : ∀ D n, CX + CR + 20 ≤ n → L_X9_fewestSureFrom (F_X9_fewestSureFrom D) (n + 1 + 1) 1 (nI s) (nI a) (nI b) (nI m) (nI c) 0 σ = if c = b ∨ x = 12 then L_X9_fewestSureFrom (F_X9_fewestSureFrom D) n 3 (nI s) (nI a) (nI b) (nI m) (nI c) (nI x) σ1 else L_X9_fewestSureFrom (F_X9_fewestSureFrom D) n 1 (nI s) (nI a) (nI b) (nI m) (nI (c + 1)) 0 σ1 := fun D n hn => by
            rw [preX, if_neg (by rw [nI_inj (by omega) (by omega)]; exact ca), w1 (n + 1) (by omega), bd_some, pre2, if_neg ca]
            by_cases c1 : c = b
            · rw [if_pos c1, if_pos (Or.inl c1)]
            · by_cases c2 : x = 12
              · rw [if_neg c1, if_pos (by rw [c2]; rfl), if_pos (Or.inr c2)]
              · rw [if_neg c1, if_neg (by rw [show (12 : Int32) = nI 12 from rfl, nI_inj (by omega) (by omega)]; exact c2), if_neg (fun h => h.elim c1 c2)]
          have goRr : ∀ D n, CX + CR + 20 ≤ n → L_X12_sureFrom (F_X12_sureFrom D) (n + 1) 1 (nI (cdn f N 0)) (nI a) (nI b) (nI s) (nI (min 7 m)) (nI c) 0 τ = if c = b ∨ x = 12 then L_X12_sureFrom (F_X12_sureFrom D) n 2 (nI (cdn f N 0)) (nI a) (nI b) (nI s) (nI (min 7 m)) (nI c) (nI x) τ2 else L_X12_sureFrom (F_X12_sureFrom D) n 1 (nI (cdn f N 0)) (nI a) (nI b) (nI s) (nI (min 7 m)) (nI (c + 1)) 0 τ2 := fun D n hn => by
            rw [preR D n (by omega), hl, g17 a ha, if_pos hfa, bd_some, if_neg (by decide), v1 n (by omega), bd_some]
            by_cases c2 : x = 12
            · rw [if_pos (by rw [i_le, i_n (by omega), t12]; omega), if_pos (Or.inr c2)]
            · rw [if_neg (by rw [i_le, i_n (by omega), t12]; omega)]
              by_cases c1 : c = b
              · rw [if_pos (by rw [c1]), if_pos (Or.inl c1)]
              · rw [if_neg (by rw [nI_inj (by omega) (by omega)]; exact c1), if_neg (fun h => h.elim c1 c2)]
          by_cases cg : c = b ∨ x = 12
          · -- the charge is brought
            obtain ⟨C3, w, w', σ3, τ3, u0, u1, u2, u3, u4, u5, u6, u7⟩ : ∃ (C3 w w' : Nat) (σ3 τ3 : St), w ≤ 1001 ∧ w' ≤ 1001 ∧ min 7 w' = min 7 w ∧ (∀ D n, d < D → C3 ≤ n → L_X9_fewestSureFrom (F_X9_fewestSureFrom D) (n + 1) 3 (nI s) (nI a) (nI b) (nI m) (nI c) (nI x) σ1 = L_X9_fewestSureFrom (F_X9_fewestSureFrom D) n 4 (nI s) (nI a) (nI b) (nI m) (nI c) (nI w) σ3) ∧ (∀ D n, d < D → C3 ≤ n → L_X12_sureFrom (F_X12_sureFrom D) (n + 1) 2 (nI (cdn f N 0)) (nI a) (nI b) (nI s) (nI (min 7 m)) (nI c) (nI x) τ2 = L_X12_sureFrom (F_X12_sureFrom D) n 3 (nI (cdn f N 0)) (nI a) (nI b) (nI s) (nI (min 7 m)) (nI c) (nI w') τ3) ∧ EqX σ0 σ3 ∧ EqR τ0 τ3 ∧ Fs s σ1 σ3 := by
              have E3 : ∀ D n, L_X9_fewestSureFrom (F_X9_fewestSureFrom D) (n + 1) 3 (nI s) (nI a) (nI b) (nI m) (nI c) (nI x) σ1 = B_X9_fewestSureFrom_3 (F_X9_fewestSureFrom D) (L_X9_fewestSureFrom (F_X9_fewestSureFrom D) n) n (nI s) (nI a) (nI b) (nI m) (nI c) (nI x) σ1 := fun _ _ => rfl
              have E2 : ∀ D n, L_X12_sureFrom (F_X12_sureFrom D) (n + 1) 2 (nI (cdn f N 0)) (nI a) (nI b) (nI s) (nI (min 7 m)) (nI c) (nI x) τ2 = B_X12_sureFrom_2 (F_X12_sureFrom D) (L_X12_sureFrom (F_X12_sureFrom D) n) n (nI (cdn f N 0)) (nI a) (nI b) (nI s) (nI (min 7 m)) (nI c) (nI x) τ2 := fun _ _ => rfl
              by_cases c0 : 0 < x
              · have hst := hf.st ha hcN true
                obtain ⟨n1, n2, n3, n4⟩ := sb7 (s + 1) (by omega)
                have eb : 47 + 2 * (s + 1) = 47 + 2 * s + 2 := by omega
                have cpo : ∀ y k, y ≠ 47 + 2 * (s + 1) → y ≠ 47 + 2 * (s + 1) + 1 → gI (setX (cpX σ1 (47 + 2 * (s + 1)) (47 + 2 * s)) (47 + 2 * (s + 1)) a c true) y k = gI σ1 y k := fun y k y1 y2 => (setX_o _ _ a c true y1 y2 k).trans (cpX_o σ1 _ _ y1 y2 k)
                have hB2 : Bn (stf N f a c true) (gI τ0 0 29 + nI (s + 1)) (47 + 2 * (s + 1)) (setX (cpX σ1 (47 + 2 * (s + 1)) (47 + 2 * s)) (47 + 2 * (s + 1)) a c true) := by
                  refine ⟨?_, hf.setX hcN true (fun i hi => (cpX_g σ1 _ _ i hi).trans (hB1.2 i hi))⟩
                  rw [setX_1, cpX_1, hB1.1, Int32.add_assoc, n_a1]
                have x3 : EqX σ0 (setX (cpX σ1 (47 + 2 * (s + 1)) (47 + 2 * s)) (47 + 2 * (s + 1)) a c true) := (hx1.trans (cpX_eq σ1 _ _ n1 n2 n3 n4)).trans (setX_eq _ _ a c true n1 n2 n3 n4)
                have tN4 : gI (setR τ2 N a c true) 0 1 = nI N := by rw [setR_0, if_neg (by decide)]; exact tN3
                have e17 := Fn.setR (a := a) (c := c) true h17
                obtain ⟨C4, y, σ4, τ4, y0, y1, y2, y3, y4, y5⟩ := ihd (s + 1) (stf N f a c true) _ (setR τ2 N a c true) (by omega) x3 (hr2.trans (setR_eq τ2 N a c true)) hst (stf_a (by omega) hfa hac) hB2
                refine ⟨C4 + 20, 1 + y, 1 + min 7 y, σ4, τ4, by omega, by omega, by omega, fun D n hD hn => ?_, fun D n hD hn => ?_, y3, y4, fun t ht => ?_⟩
                · rw [E3]
                  unfold B_X9_fewestSureFrom_3
                  have vs : vp_in (nI s) 7 := nIin (by omega) (by decide)
                  have vs1 : vp_in (nI (s + 1)) 7 := nIin (by omega) (by decide)
                  rw [if_neg (by rw [i_le, i_n (by omega), t0]; omega), n_a1, bnd_eq, gd_eq vs1, gd_eq vs, nIc (show s < 2147483648 by omega), nIc (show s + 1 < 2147483648 by omega), cp1 n σ1 _ _ (by omega), bd_some, bnd_eq, gd_eq vs1, nIc (show s + 1 < 2147483648 by omega)]
                  refine Eq.trans (congrArg (fun z => bd z _) (set1 (47 + 2 * (s + 1)) _ (show a < 7 by omega) (show c < 7 by omega) true n (by omega))) ?_
                  rw [bd_some, y1 D n (by omega) (by omega), bd_some, bnd_eq, show (1 : Int32) = nI 1 from rfl, nI_add]
                · rw [E2]
                  unfold B_X12_sureFrom_2
                  rw [if_neg (by rw [i_le, i_n (by omega), t0]; omega)]
                  refine Eq.trans (congrArg (fun z => bd z _) (go12 (show N ≤ 7 by omega) τ2 tN3 ha hcN true n (by omega))) ?_
                  rw [bd_some, codR hst _ tN4 e17 n (by omega), bd_some, n_a1, y2 D n (by omega) (by omega), bd_some, bnd_eq, show (1 : Int32) = nI 1 from rfl, nI_add]
                · have z := y5 t (by omega)
                  exact ⟨z.1.trans (cpo _ _ (by omega) (by omega)), fun i => (z.2 i).trans (cpo _ _ (by omega) (by omega))⟩
              · refine ⟨20, 1, 1, σ1, τ2, by omega, by omega, rfl, fun D n hD hn => ?_, fun D n hD hn => ?_, hx1, hr2, Fs.rf s σ1⟩
                · rw [E3]
                  unfold B_X9_fewestSureFrom_3
                  rw [if_pos (by rw [i_le, i_n (by omega), t0]; omega)]
                  rfl
                · rw [E2]
                  unfold B_X12_sureFrom_2
                  rw [if_pos (by rw [i_le, i_n (by omega), t0]; omega)]
                  rfl
            obtain ⟨C5, y, σ5, τ5, q0, q1, q2, q3, q4, q5⟩ := ih (c + 1) (if w < m then w else m) σ3 τ3 (by omega) (by split <;> omega) u5 u6 ((hB1.fs u7))
            refine ⟨CX + CR + C3 + C5 + 40, y, σ5, τ5, q0, fun D n hD hn => ?_, fun D n hD hn => ?_, q3, q4, (w2.fs.tr u7).tr q5⟩
            · obtain ⟨n, rfl⟩ : ∃ q, n = q + 1 + 1 + 1 + 1 := ⟨n - 4, by omega⟩
              rw [goX D (n + 1 + 1) (by omega), if_pos cg, u3 D (n + 1) hD (by omega), min4X _ n _ _ _ hm u0]
              exact q1 D n hD (by omega)
            · obtain ⟨n, rfl⟩ : ∃ q, n = q + 1 + 1 + 1 := ⟨n - 3, by omega⟩
              rw [goRr D (n + 1 + 1) (by omega), if_pos cg, u4 D (n + 1) hD (by omega), min3R _ n _ _ _ _ hm u1 u2]
              exact q2 D n hD (by omega)
          · obtain ⟨C5, y, σ5, τ5, q0, q1, q2, q3, q4, q5⟩ := ih (c + 1) m σ1 τ2 (by omega) hm hx1 hr2 hB1
            refine ⟨CX + CR + C5 + 40, y, σ5, τ5, q0, fun D n hD hn => ?_, fun D n hD hn => ?_, q3, q4, w2.fs.tr q5⟩
            · obtain ⟨n, rfl⟩ : ∃ q, n = q + 1 + 1 := ⟨n - 2, by omega⟩
              rw [goX D n (by omega), if_neg cg]
              exact q1 D n hD (by omega)
            · obtain ⟨n, rfl⟩ : ∃ q, n = q + 1 := ⟨n - 1, by omega⟩
              rw [goRr D n (by omega), if_neg cg]
              exact q2 D n hD (by omega)
    obtain ⟨C0, x, σ', τ', q0, q1, q2, q3, q4, q5⟩ := loop N 0 1000 σ τ (by omega) (Nat.le_refl _) hx hr hB
    refine ⟨C0, x, σ', τ', q0, fun D n hD hn => ?_, fun D n hD hn => ?_, q3, q4, q5⟩
    · obtain ⟨D, rfl⟩ : ∃ q, D = q + 1 := ⟨D - 1, by omega⟩
      show E_X9_fewestSureFrom (F_X9_fewestSureFrom D) n (nI s) (nI a) (nI b) σ = _
      unfold E_X9_fewestSureFrom
      rw [if_neg (by rw [i_lt, i_n (by omega), t0]; omega), if_pos (by rw [i_lt, i_n (by omega), t6]; omega)]
      exact q1 D n (by omega) hn
    · obtain ⟨D, rfl⟩ : ∃ q, D = q + 1 := ⟨D - 1, by omega⟩
      show E_X12_sureFrom (F_X12_sureFrom D) n (nI (cdn f N 0)) (nI a) (nI b) (nI s) τ = _
      unfold E_X12_sureFrom
      rw [if_neg (by rw [show (6 : Int32) = nI 6 from rfl, nI_inj (by omega) (by omega)]; omega)]
      exact q2 D n (by omega) hn
end SURE
theorem b_sure (p1 : Int32) : MStp Inv (fun n σ => F_X11_sure n p1 σ) (fun n τ => F_X12_sure n p1 τ) := mstp_of (fun σ τ hI => by
  obtain ⟨N, B, h1, h2, h3, h4, h5, h6, h7, h8, h9⟩ := id hI
  obtain ⟨a1, a2, a3, a4⟩ := id h1
  rcases pairX a2 a1 p1 with ⟨⟨k, k1, rfl, k3, k4, k5⟩, pX⟩ | ⟨np, pX⟩
  · have pR : ∀ n, F_X12_areTwo n (nI k) τ = some (1, τ) := fun n => by rw [pairR a3 a1 n k1, if_pos ⟨k3, k4, k5⟩]
    by_cases c : N ≤ 4
    · obtain ⟨G, hG⟩ := crt h1 h9
      have hf := fnNow c h3
      have preX : ∀ n, F_X11_sure n (nI k) σ = if gI σ 38 (k / 10) = -1 then F_X9_fewestSure n 37 (nI (k / 10)) (nI (k % 10)) σ else some (-5, σ) := fun n => by
        unfold F_X11_sure F_X6_size
        rw [pX, bd_some, if_neg (by decide), gd_eq ten0, bnd_eq, bd_some, a2, if_neg (by rw [i_lt, i_n (by omega), t4]; omega), n_d10 k1, free1 n 37 (by omega), bd_some, one0]
        simp only [gd_eq ten0, bnd_eq, n_q10 k1, bd_id]
      have preR : ∀ n, F_X12_sure n (nI k) τ = if gI τ 18 (k / 10) < 0 then (bd (F_X12_beginAll n τ) fun r5 s4 => bd (F_X12_sureFrom 100 0 n r5 (nI (k / 10)) (nI (k % 10)) (0 : Int32) s4) fun r9 s8 => if r9 ≤ (6 : Int32) then (some (r9, s8)) else (some ((-2 : Int32), s8))) else some (-5, τ) := fun n => by
        unfold F_X12_sure
        rw [pR, bd_some, if_neg (by decide), a3, if_neg (by rw [i_lt, i_n (by omega), t4]; omega), gd_eq ten0, bnd_eq, n_d10 k1, gd_eq (nIin (by omega) (by decide)), nIc (by omega)]
        simp only [gd_eq ten0, bnd_eq, n_q10 k1, bd_id]
      have e18 := (h3.2.1 (k / 10) k3)
      by_cases cf : gI σ 38 (k / 10) = -1
      · have cR : gI τ 18 (k / 10) < 0 := by rw [← e18.1, cf]; decide
        obtain ⟨C0, σ1, τ1, e1, e2, e3, e4⟩ := beginXR h1 h3 c
        have x1 : EqX σ (cpX σ 47 37) := cpX_eq σ 47 37 (by decide) (by decide) (by decide) (by decide)
        have hB : Bn (gI σ 38) (gI τ 0 29 + nI 0) (47 + 2 * 0) (cpX σ 47 37) := ⟨by rw [show 47 + 2 * 0 = 47 from rfl, cpX_1, h3.1, show nI 0 = 0 from rfl, Int32.add_zero], fun i hi => cpX_g σ 47 37 i hi⟩
        obtain ⟨C1, x, σ2, τ2, q0, q1, q2, q3, q4, q5⟩ := sureXR hG h1 c k3 k4 6 0 (gI σ 38) (cpX σ 47 37) τ1 rfl x1 e3.2.1 hf cf hB
        refine ⟨if x ≤ 6 then nI x else -2, σ2, τ2, ⟨C0 + C1, fun n hn => ?_⟩, ⟨C0 + C1, fun n hn => ?_⟩, hI.eq q3 q4⟩
        · show F_X11_sure n (nI k) σ = _
          rw [preX, if_pos cf]
          unfold F_X9_fewestSure
          rw [gd_eq (show vp_in (0 : Int32) 7 from nIin (k := 0) (by decide) (by decide)), show 47 + 2 * (0 : Int32).toNatClampNeg = 47 from rfl, cp1 n σ 47 37 (by decide), bd_some]
          refine Eq.trans (congrArg (fun z => bd z _) (q1 100 n (by omega) (by omega))) ?_
          rw [bd_some]
          by_cases cx : x ≤ 6
          · rw [if_pos cx, if_pos (by rw [i_le, i_n (by omega), t6]; omega)]
          · rw [if_neg cx, if_neg (by rw [i_le, i_n (by omega), t6]; omega)]
        · show F_X12_sure n (nI k) τ = _
          rw [preR, if_pos cR, e2 n (by omega), bd_some]
          refine Eq.trans (congrArg (fun z => bd z _) (q2 100 n (by omega) (by omega))) ?_
          rw [bd_some]
          by_cases cx : x ≤ 6
          · rw [if_pos cx, show min 7 x = x by omega, if_pos (by rw [i_le, i_n (by omega), t6]; omega)]
          · rw [if_neg cx, show min 7 x = 7 by omega, if_neg (by decide)]
      · refine ⟨-5, σ, τ, Ev.const (fun n => ?_), Ev.const (fun n => ?_), hI⟩
        · rw [preX, if_neg cf]
        · rw [preR, if_neg (by rw [← e18.1, bok_lt e18.2 a1]; exact cf)]
    · refine ⟨-5, σ, τ, Ev.const (fun n => ?_), Ev.const (fun n => ?_), hI⟩
      · unfold F_X11_sure F_X6_size
        rw [pX, bd_some, if_neg (by decide), gd_eq ten0, bnd_eq, bd_some, a2, if_pos (by rw [i_lt, i_n (by omega), t4]; omega)]
      · unfold F_X12_sure
        rw [pR, bd_some, if_neg (by decide), a3, if_pos (by rw [i_lt, i_n (by omega), t4]; omega)]
  · refine ⟨-1, σ, τ, Ev.const (fun n => ?_), Ev.const (fun n => ?_), hI⟩
    · unfold F_X11_sure
      rw [pX, bd_some, if_pos rfl]
    · unfold F_X12_sure
      rw [pairR0 a3 a1 np, bd_some, if_pos rfl])
