/-! the law read: the text -/
theorem Tok.tp {b ro b' ro' : Nat} {σ τ σ' τ' : St} {j k : Nat} {s s1 : List Nat} (h : Tok b ro σ τ j k s s1) (e1 : gI σ' (b' + 1) k = gI σ (b + 1) k) (e2 : gI σ' (b' + 2) k = gI σ (b + 2) k) (e3 : gI σ' (b' + 3) k = gI σ (b + 3) k) (e4 : gI σ' (b' + 4) k = gI σ (b + 4) k) (f1 : gI τ' 10 (ro' + j) = gI τ 10 (ro + j)) (f2 : gI τ' 11 (ro' + j) = gI τ 11 (ro + j)) : Tok b' ro' σ' τ' j k s s1 := by
  unfold Tok at h ⊢
  rw [e1, e2, e3, e4, f1, f2]
  exact h
/-- the same steps elsewhere -/
def SmX (b b' : Nat) (σ σ' : St) (k ke : Nat) : Prop := ∀ i, k ≤ i → i < ke → gI σ' (b' + 1) i = gI σ (b + 1) i ∧ gI σ' (b' + 2) i = gI σ (b + 2) i ∧ gI σ' (b' + 3) i = gI σ (b + 3) i ∧ gI σ' (b' + 4) i = gI σ (b + 4) i
def SmR (ro ro' : Nat) (τ τ' : St) (f fe : Nat) : Prop := ∀ i, f ≤ i → i < fe → gI τ' 10 (ro' + i) = gI τ 10 (ro + i) ∧ gI τ' 11 (ro' + i) = gI τ 11 (ro + i)
def SmL (lo lo' : Nat) (τ τ' : St) (l le : Nat) : Prop := ∀ q, l ≤ q → q < le → gI τ' 13 (lo' + q) = gI τ 13 (lo + q) ∧ gI τ' 14 (lo' + q) = gI τ 14 (lo + q)
theorem Seg.tp {b ro b' ro' : Nat} {σ τ σ' τ' : St} : ∀ {n j k : Nat} {s s' : List Nat}, Seg b ro σ τ n j k s s' → SmX b b' σ σ' k (k + n) → SmR ro ro' τ τ' j (j + n) → Seg b' ro' σ' τ' n j k s s'
  | 0, _, _, _, _, h, _, _ => h
  | n + 1, j, k, s, s', ⟨s1, h1, h2⟩, e, f => ⟨s1, h1.tp (e k (by omega) (by omega)).1 (e k (by omega) (by omega)).2.1 (e k (by omega) (by omega)).2.2.1 (e k (by omega) (by omega)).2.2.2 (f j (by omega) (by omega)).1 (f j (by omega) (by omega)).2, h2.tp (fun i a b => e i (by omega) (by omega)) (fun i a b => f i (by omega) (by omega))⟩
theorem Lin.lt {b ro lo : Nat} {σ τ : St} {l f k f' k' : Nat} (h : Lin b ro lo σ τ l f k f' k') : f < f' ∧ k < k' := by
  obtain ⟨te, h1, h2, h3, h4, h5⟩ := h
  rcases h5 with ⟨h5, top, a1, a2, a3, a4, a5⟩ | ⟨h5, t1, t2, a1, a2, a3, a4, a5, a6, a7, a8, a9⟩ <;> omega
theorem Lin.tp {b ro lo b' ro' lo' : Nat} {σ τ σ' τ' : St} {l f k f' k' : Nat} (h : Lin b ro lo σ τ l f k f' k') (e : SmX b b' σ σ' k k') (g : SmR ro ro' τ τ' f f') (q : SmL lo lo' τ τ' l (l + 1)) : Lin b' ro' lo' σ' τ' l f k f' k' := by
  obtain ⟨te, h1, h2, h3, h4, h5⟩ := h
  refine ⟨te, by rw [(q l (by omega) (by omega)).1]; exact h1, by rw [(q l (by omega) (by omega)).2]; exact h2, h3, h4, ?_⟩
  rcases h5 with ⟨h5, top, a1, a2, a3, a4, a5⟩ | ⟨h5, t1, t2, a1, a2, a3, a4, a5, a6, a7, a8, a9⟩
  · refine Or.inl ⟨h5, top, a1.tp (fun i i1 i2 => e i (by omega) (by omega)) (fun i i1 i2 => g i (by omega) (by omega)), ?_, ?_, ?_, a5⟩
    · rw [(e _ (by omega) (by omega)).1]; exact a2
    · rw [(e _ (by omega) (by omega)).2.1]; exact a3
    · rw [(e _ (by omega) (by omega)).2.2.1]; exact a4
  · refine Or.inr ⟨h5, t1, t2, a1.tp (fun i i1 i2 => e i (by omega) (by omega)) (fun i i1 i2 => g i (by omega) (by omega)), ?_, ?_, ?_, a5.tp (fun i i1 i2 => e i (by omega) (by omega)) (fun i i1 i2 => g i (by omega) (by omega)), ?_, ?_, ?_, a9⟩
    · rw [(e _ (by omega) (by omega)).1]; exact a2
    · rw [(e _ (by omega) (by omega)).2.1]; exact a3
    · rw [(e _ (by omega) (by omega)).2.2.1]; exact a4
    · rw [(e _ (by omega) (by omega)).1]; exact a6
    · rw [(e _ (by omega) (by omega)).2.1]; exact a7
    · rw [(e _ (by omega) (by omega)).2.2.1]; exact a8
theorem Lns.le {b ro lo : Nat} {σ τ : St} : ∀ {m l f k fe ke : Nat}, Lns b ro lo σ τ m l f k fe ke → f ≤ fe ∧ k ≤ ke
  | 0, _, _, _, _, _, h => by obtain ⟨rfl, rfl⟩ := h; exact ⟨Nat.le_refl _, Nat.le_refl _⟩
  | m + 1, l, f, k, fe, ke, ⟨f', k', h1, h2⟩ => by
    have a := h1.lt
    have b := Lns.le h2
    omega
theorem Lns.tp {b ro lo b' ro' lo' : Nat} {σ τ σ' τ' : St} : ∀ {m l f k fe ke : Nat}, Lns b ro lo σ τ m l f k fe ke → SmX b b' σ σ' k ke → SmR ro ro' τ τ' f fe → SmL lo lo' τ τ' l (l + m) → Lns b' ro' lo' σ' τ' m l f k fe ke
  | 0, _, _, _, _, _, h, _, _, _ => h
  | m + 1, l, f, k, fe, ke, ⟨f', k', h1, h2⟩, e, g, q => by
    have a := h1.lt
    have b := Lns.le h2
    exact ⟨f', k', h1.tp (fun i i1 i2 => e i (by omega) (by omega)) (fun i i1 i2 => g i (by omega) (by omega)) (fun i i1 i2 => q i (by omega) (by omega)), Lns.tp h2 (fun i i1 i2 => e i (by omega) (by omega)) (fun i i1 i2 => g i (by omega) (by omega)) (fun i i1 i2 => q i (by omega) (by omega))⟩
theorem Lns.snoc {b ro lo : Nat} {σ τ : St} : ∀ {m l f k fe ke f' k' : Nat}, Lns b ro lo σ τ m l f k fe ke → Lin b ro lo σ τ (l + m) fe ke f' k' → Lns b ro lo σ τ (m + 1) l f k f' k'
  | 0, l, f, k, fe, ke, f', k', h, h2 => by
    obtain ⟨rfl, rfl⟩ := h
    exact ⟨f', k', h2, rfl, rfl⟩
  | m + 1, l, f, k, fe, ke, f', k', ⟨f1, k1, h1, h3⟩, h2 => ⟨f1, k1, h1, Lns.snoc h3 (by rw [show l + 1 + m = l + (m + 1) by omega]; exact h2)⟩
theorem sg_b : ∀ ch, ch ∈ sgns → vp_nar .byte ch = ch := by decide
theorem Tok.byt {b ro : Nat} {σ τ : St} {j k : Nat} {s s1 : List Nat} (h : Tok b ro σ τ j k s s1) : vp_nar .byte (gI τ 10 (ro + j)) = gI τ 10 (ro + j) := by
  rcases h with h | ⟨i, _, h, _⟩ | ⟨a, r, _, h, _⟩ | ⟨a, r, _, h, _⟩ | ⟨a, c, r, ch, _, h1, h, _⟩
  · rw [h.1]; decide
  · rw [h]; decide
  · rw [h]; decide
  · rw [h]; decide
  · rw [h]; exact sg_b ch h1
theorem Seg.byt {b ro : Nat} {σ τ : St} : ∀ {n j k : Nat} {s s' : List Nat}, Seg b ro σ τ n j k s s' → ∀ q, j ≤ q → q < j + n → vp_nar .byte (gI τ 10 (ro + q)) = gI τ 10 (ro + q)
  | 0, j, _, _, _, _, q, h1, h2 => by omega
  | n + 1, j, k, s, s', ⟨s1, h1, h2⟩, q, q1, q2 => by
    by_cases e : q = j
    · rw [e]; exact h1.byt
    · exact h2.byt q (by omega) (by omega)
theorem Lin.byt {b ro lo : Nat} {σ τ : St} {l f k f' k' : Nat} (h : Lin b ro lo σ τ l f k f' k') : ∀ q, f ≤ q → q < f' → vp_nar .byte (gI τ 10 (ro + q)) = gI τ 10 (ro + q) := fun q q1 q2 => by
  obtain ⟨te, h1, h2, h3, h4, h5⟩ := h
  rcases h5 with ⟨h5, top, a1, _⟩ | ⟨h5, t1, t2, a1, a2, a3, a4, a5, _⟩
  · exact a1.byt q (by omega) (by omega)
  · by_cases e : q < te
    · exact a1.byt q (by omega) (by omega)
    · exact a5.byt q (by omega) (by omega)
theorem Lns.byt {b ro lo : Nat} {σ τ : St} : ∀ {m l f k fe ke : Nat}, Lns b ro lo σ τ m l f k fe ke → ∀ q, f ≤ q → q < fe → vp_nar .byte (gI τ 10 (ro + q)) = gI τ 10 (ro + q)
  | 0, _, _, _, _, _, h, q, h1, h2 => by obtain ⟨rfl, rfl⟩ := h; omega
  | m + 1, l, f, k, fe, ke, ⟨f', k', h1, h2⟩, q, q1, q2 => by
    by_cases e : q < f'
    · exact h1.byt q q1 e
    · exact Lns.byt h2 q (by omega) q2
theorem Lns.sht {b ro lo : Nat} {σ τ : St} : ∀ {m l f k fe ke : Nat}, Lns b ro lo σ τ m l f k fe ke → ∀ q, l ≤ q → q < l + m → (∃ x, x ≤ fe ∧ gI τ 13 (lo + q) = nI x) ∧ ∃ x, x ≤ fe ∧ gI τ 14 (lo + q) = nI x
  | 0, _, _, _, _, _, h, q, h1, h2 => by omega
  | m + 1, l, f, k, fe, ke, ⟨f', k', h1, h2⟩, q, q1, q2 => by
    by_cases e : q = l
    · subst e
      have b := (Lns.le h2).1
      obtain ⟨te, a1, a2, a3, a4, a5⟩ := h1
      exact ⟨⟨te, by omega, a1⟩, ⟨f', by omega, a2⟩⟩
    · exact Lns.sht h2 q (by omega) (by omega)
section TEXT
variable {v : Nat → Nat} {T : Nat}
theorem m130 (q : Nat) : ((130 : Int32) * 0) + nI q = nI q := by
  rw [show (130 : Int32) * 0 = 0 from rfl, Int32.zero_add]
theorem m61 (q : Nat) : ((61 : Int32) * 0) + nI q = nI q := by
  rw [show (61 : Int32) * 0 = 0 from rfl, Int32.zero_add]
theorem cp5L {m : Nat} (hm : m ≤ 61) : ∀ (r q : Nat) (τ : St), q + r = m → gI τ 12 0 = nI m → (∀ i, q ≤ i → i < m → (∃ x, x < 200 ∧ gI τ 13 (61 + i) = nI x) ∧ ∃ x, x < 200 ∧ gI τ 14 (61 + i) = nI x) → ∃ τ', (∀ n, r + 1 ≤ n → L_X12_readText n 5 0 (nI q) τ = some (-1, τ')) ∧ (∀ i, q ≤ i → i < m → gI τ' 13 i = gI τ 13 (61 + i) ∧ gI τ' 14 i = gI τ 14 (61 + i)) ∧ (∀ i, i < q → gI τ' 13 i = gI τ 13 i ∧ gI τ' 14 i = gI τ 14 i) ∧ (∀ c k, c ≠ 13 → c ≠ 14 → gI τ' c k = gI τ c k) ∧ ∀ c k, gL τ' c k = gL τ c k
  | 0, q, τ, hq, h12, hx => by
    refine ⟨τ, fun n hn => ?_, fun i i1 i2 => by omega, fun _ _ => ⟨rfl, rfl⟩, fun _ _ _ _ => rfl, fun _ _ => rfl⟩
    obtain ⟨n, rfl⟩ : ∃ q, n = q + 1 := ⟨n - 1, by omega⟩
    show B_X12_readText_5 (L_X12_readText n) n 0 (nI q) τ = _
    unfold B_X12_readText_5
    rw [gd_eq (show vp_in (0 : Int32) 2 from nIin (k := 0) (by decide) (by decide)), show (0 : Int32).toNatClampNeg = 0 from rfl, h12, if_pos (by rw [i_le, i_n (by omega), i_n (by omega)]; omega)]
  | r + 1, q, τ, hq, h12, hx => by
    obtain ⟨⟨x, x1, x2⟩, ⟨y, y1, y2⟩⟩ := hx q (by omega) (by omega)
    obtain ⟨τ', e1, e2, e3, e4, e5⟩ := cp5L hm r (q + 1) (sI (sI τ 13 q (nI x)) 14 q (nI y)) (by omega) h12 (fun i i1 i2 => by
      obtain ⟨⟨x', a1, a2⟩, ⟨y', b1, b2⟩⟩ := hx i (by omega) i2
      exact ⟨⟨x', a1, by
        show (if 61 + i = q then nI x else gI τ 13 (61 + i)) = _
        rw [if_neg (by omega)]; exact a2⟩, ⟨y', b1, by
        show (if 61 + i = q then nI y else gI τ 14 (61 + i)) = _
        rw [if_neg (by omega)]; exact b2⟩⟩)
    refine ⟨τ', fun n hn => ?_, fun i i1 i2 => ?_, fun i hi => ?_, fun c k c1 c2 => by rw [e4 c k c1 c2, gI_sI, if_neg c2, gI_sI, if_neg c1], fun c k => e5 c k⟩
    · obtain ⟨n, rfl⟩ : ∃ q, n = q + 1 := ⟨n - 1, by omega⟩
      show B_X12_readText_5 (L_X12_readText n) n 0 (nI q) τ = _
      unfold B_X12_readText_5
      have vq : vp_in (nI q) 122 := nIin (by omega) (by decide)
      have vq1 : vp_in (nI (61 + q)) 122 := nIin (by omega) (by decide)
      rw [gd_eq (show vp_in (0 : Int32) 2 from nIin (k := 0) (by decide) (by decide)), show (0 : Int32).toNatClampNeg = 0 from rfl, h12, if_neg (by rw [i_le, i_n (by omega), i_n (by omega)]; omega), m61, show (61 : Int32) + nI q = nI (61 + q) from nI_add 61 q, gd_eq vq1, gd_eq vq, nIc (show q < 2147483648 by omega), nIc (show 61 + q < 2147483648 by omega), x2, (shr1 x x1).2, bnd_eq, gd_eq vq1, gd_eq vq, show gI (sI τ 13 q (nI x)) 14 (61 + q) = nI y from y2, (shr1 y y1).2, bnd_eq, n_a1, bnd_eq]
      exact e1 n (by omega)
    · by_cases c : i = q
      · subst c
        obtain ⟨u1, u2⟩ := e3 i (by omega)
        rw [u1, u2, x2, y2]
        constructor
        · show (if i = i then nI x else gI τ 13 i) = _
          rw [if_pos rfl]
        · rw [gI_sI, if_pos rfl, if_pos rfl]
      · obtain ⟨u1, u2⟩ := e2 i (by omega) i2
        rw [u1, u2]
        constructor
        · show (if 61 + i = q then nI x else gI τ 13 (61 + i)) = _
          rw [if_neg (by omega)]
        · show (if 61 + i = q then nI y else gI τ 14 (61 + i)) = _
          rw [if_neg (by omega)]
    · obtain ⟨u1, u2⟩ := e3 i (by omega)
      rw [u1, u2]
      constructor
      · show (if i = q then nI x else gI τ 13 i) = _
        rw [if_neg (by omega)]
      · show (if i = q then nI y else gI τ 14 i) = _
        rw [if_neg (by omega)]
theorem cp4L {j : Nat} (hj : j ≤ 125) : ∀ (r q : Nat) (τ : St), q + r = j → gI τ 0 17 = nI j → (∀ i, q ≤ i → i < j → vp_nar .byte (gI τ 10 (130 + i)) = gI τ 10 (130 + i)) → ∃ τ', (∀ n, L_X12_readText (n + r + 1) 4 0 (nI q) τ = L_X12_readText n 5 0 0 (sI τ' 12 0 (gI τ' 12 1))) ∧ (∀ i, q ≤ i → i < j → gI τ' 10 i = gI τ 10 (130 + i) ∧ gI τ' 11 i = gI τ 11 (130 + i)) ∧ (∀ i, i < q → gI τ' 10 i = gI τ 10 i ∧ gI τ' 11 i = gI τ 11 i) ∧ (∀ c k, c ≠ 10 → c ≠ 11 → gI τ' c k = gI τ c k) ∧ ∀ c k, gL τ' c k = gL τ c k
  | 0, q, τ, hq, h17, hx => by
    refine ⟨τ, fun n => ?_, fun i i1 i2 => by omega, fun _ _ => ⟨rfl, rfl⟩, fun _ _ _ _ => rfl, fun _ _ => rfl⟩
    show B_X12_readText_4 (L_X12_readText n) n 0 (nI q) τ = _
    unfold B_X12_readText_4
    rw [h17, if_pos (by rw [i_le, i_n (by omega), i_n (by omega)]; omega), gd_eq (show vp_in (1 : Int32) 2 from nIin (k := 1) (by decide) (by decide)), gd_eq (show vp_in (0 : Int32) 2 from nIin (k := 0) (by decide) (by decide)), bnd_eq]
    rfl
  | r + 1, q, τ, hq, h17, hx => by
    have hx0 := hx q (by omega) (by omega)
    obtain ⟨τ', e1, e2, e3, e4, e5⟩ := cp4L hj r (q + 1) (sI (sI τ 10 q (gI τ 10 (130 + q))) 11 q (gI τ 11 (130 + q))) (by omega) h17 (fun i i1 i2 => by
      have : gI (sI (sI τ 10 q (gI τ 10 (130 + q))) 11 q (gI τ 11 (130 + q))) 10 (130 + i) = gI τ 10 (130 + i) := by
        show (if 130 + i = q then gI τ 10 (130 + q) else gI τ 10 (130 + i)) = _
        rw [if_neg (by omega)]
      rw [this]
      exact hx i (by omega) i2)
    refine ⟨τ', fun n => ?_, fun i i1 i2 => ?_, fun i hi => ?_, fun c k c1 c2 => by rw [e4 c k c1 c2, gI_sI, if_neg c2, gI_sI, if_neg c1], fun c k => e5 c k⟩
    · show B_X12_readText_4 (L_X12_readText (n + r + 1)) (n + r + 1) 0 (nI q) τ = _
      unfold B_X12_readText_4
      have vq : vp_in (nI q) 260 := nIin (by omega) (by decide)
      have vq1 : vp_in (nI (130 + q)) 260 := nIin (by omega) (by decide)
      rw [h17, if_neg (by rw [i_le, i_n (by omega), i_n (by omega)]; omega), m130, show (130 : Int32) + nI q = nI (130 + q) from nI_add 130 q, gd_eq vq1, gd_eq vq, nIc (show q < 2147483648 by omega), nIc (show 130 + q < 2147483648 by omega), hx0, bnd_eq, gd_eq vq1, gd_eq vq, show gI (sI τ 10 q (gI τ 10 (130 + q))) 11 (130 + q) = gI τ 11 (130 + q) from rfl, bnd_eq, n_a1, bnd_eq]
      exact e1 n
    · by_cases c : i = q
      · subst c
        obtain ⟨u1, u2⟩ := e3 i (by omega)
        rw [u1, u2]
        constructor
        · show (if i = i then gI τ 10 (130 + i) else gI τ 10 i) = _
          rw [if_pos rfl]
        · rw [gI_sI, if_pos rfl, if_pos rfl]
      · obtain ⟨u1, u2⟩ := e2 i (by omega) i2
        rw [u1, u2]
        constructor
        · show (if 130 + i = q then gI τ 10 (130 + q) else gI τ 10 (130 + i)) = _
          rw [if_neg (by omega)]
        · show (if 130 + i = q then gI τ 11 (130 + q) else gI τ 11 (130 + i)) = _
          rw [if_neg (by omega)]
    · obtain ⟨u1, u2⟩ := e3 i (by omega)
      rw [u1, u2]
      constructor
      · show (if i = q then gI τ 10 (130 + q) else gI τ 10 i) = _
        rw [if_neg (by omega)]
      · show (if i = q then gI τ 11 (130 + q) else gI τ 11 i) = _
        rw [if_neg (by omega)]
/-- what the reference has kept, behind a text without a fault -/
def Fin1 (m j : Nat) (τ τ' : St) : Prop := (∀ i, i < j → gI τ' 10 i = gI τ 10 (130 + i) ∧ gI τ' 11 i = gI τ 11 (130 + i)) ∧ (∀ i, i < m → gI τ' 13 i = gI τ 13 (61 + i) ∧ gI τ' 14 i = gI τ 14 (61 + i)) ∧ gI τ' 12 0 = nI m ∧ gI τ' 0 13 = 0 ∧ (∀ q, q ≠ 13 → gI τ' 0 q = gI τ 0 q) ∧ (∀ c q, c ≠ 0 → c ≠ 10 → c ≠ 11 → c ≠ 12 → c ≠ 13 → c ≠ 14 → gI τ' c q = gI τ c q) ∧ ∀ c q, gL τ' c q = gL τ c q
theorem finR {m j : Nat} {τ : St} (hv : ∀ q, q < T → v q < 256) (hT : T ≤ 120) (hR : RS v T T 0 j τ) (h12 : gI τ 12 1 = nI m) (hm : m ≤ 61) (hj : j ≤ 125) (hb : ∀ i, i < j → vp_nar .byte (gI τ 10 (130 + i)) = gI τ 10 (130 + i)) (hs : ∀ i, i < m → (∃ x, x < 200 ∧ gI τ 13 (61 + i) = nI x) ∧ ∃ x, x < 200 ∧ gI τ 14 (61 + i) = nI x) : ∃ (C : Nat) (τ' : St), (∀ n, C ≤ n → L_X12_readText n 1 0 0 τ = some (-1, τ')) ∧ Fin1 m j τ τ' := by
  obtain ⟨τ1, a1, a2, a3, a4, a5⟩ := cp4L hj j 0 (sI τ 0 13 0) (by omega) hR.1.2.2.2 (fun i _ i2 => hb i i2)
  have t12 : gI τ1 12 1 = nI m := (a4 12 1 (by decide) (by decide)).trans h12
  obtain ⟨τ2, b1, b2, b3, b4, b5⟩ := cp5L hm m 0 (sI τ1 12 0 (gI τ1 12 1)) (by omega) (by rw [gI_sI, if_pos rfl, if_pos rfl]; exact t12) (fun i _ i2 => by
    obtain ⟨⟨x, x1, x2⟩, ⟨y, y1, y2⟩⟩ := hs i i2
    exact ⟨⟨x, x1, (a4 13 (61 + i) (by decide) (by decide)).trans x2⟩, ⟨y, y1, (a4 14 (61 + i) (by decide) (by decide)).trans y2⟩⟩)
  refine ⟨j + m + 20, τ2, fun n hn => ?_, fun i hi => ?_, fun i hi => ?_, ?_, ?_, fun q hq => ?_, fun c q c1 c2 c3 c4 c5 c6 => ?_, fun c q => ?_⟩
  · obtain ⟨n, rfl⟩ : ∃ q, n = q + j + 1 + 1 + 1 + 1 := ⟨n - j - 4, by omega⟩
    show B_X12_readText_1 (L_X12_readText (n + j + 1 + 1 + 1)) (n + j + 1 + 1 + 1) 0 τ = _
    unfold B_X12_readText_1
    rw [if_neg (nflt hR), lookE hR.1 hT rfl, bd_some, if_neg (by decide)]
    show B_X12_readText_2 (L_X12_readText (n + j + 1 + 1)) (n + j + 1 + 1) 0 τ = _
    unfold B_X12_readText_2
    rw [if_neg (nflt hR), hR.1.1, hR.1.2.2.1, if_pos (by rw [i_le]; omega)]
    show B_X12_readText_3 (L_X12_readText (n + j + 1)) (n + j + 1) 0 τ = _
    unfold B_X12_readText_3
    rw [bnd_eq, if_pos (by rw [show gI (sI τ 0 13 0) 0 15 = -1 from hR.2.1]; decide)]
    exact (a1 n).trans (b1 n (by omega))
  · rw [b4 10 i (by decide) (by decide), b4 11 i (by decide) (by decide)]
    exact a2 i (by omega) hi
  · have z := b2 i (by omega) hi
    rw [z.1, z.2]
    exact ⟨a4 13 _ (by decide) (by decide), a4 14 _ (by decide) (by decide)⟩
  · rw [b4 12 0 (by decide) (by decide), gI_sI, if_pos rfl, if_pos rfl]
    exact t12
  · rw [b4 0 13 (by decide) (by decide)]
    exact (a4 0 13 (by decide) (by decide)).trans rfl
  · rw [b4 0 q (by decide) (by decide)]
    refine (a4 0 q (by decide) (by decide)).trans ?_
    rw [gI_sI, if_pos rfl, if_neg hq]
  · rw [b4 c q c5 c6, gI_sI, if_neg c4, a4 c q c2 c3, gI_sI, if_neg c1]
  · rw [b5, gL_sI, a5, gL_sI]
/-- the reference, where a fault was found -/
theorem finB {h : Nat} {τ : St} (hh : h < 2147483648) (h15 : gI τ 0 15 = nI h) (n : Nat) (hn : 3 ≤ n) : L_X12_readText n 1 0 0 τ = some (nI h, sI τ 0 13 0) := by
  obtain ⟨n, rfl⟩ : ∃ q, n = q + 1 + 1 + 1 := ⟨n - 3, by omega⟩
  show B_X12_readText_1 (L_X12_readText (n + 1 + 1)) (n + 1 + 1) 0 τ = _
  unfold B_X12_readText_1
  rw [if_pos (flt hh h15)]
  show B_X12_readText_2 (L_X12_readText (n + 1)) (n + 1) 0 τ = _
  unfold B_X12_readText_2
  rw [if_pos (flt hh h15)]
  show B_X12_readText_3 (L_X12_readText n) n 0 τ = _
  unfold B_X12_readText_3
  rw [bnd_eq, show gI (sI τ 0 13 0) 0 15 = nI h from h15, if_neg (by rw [i_lt, i_n hh, t0]; omega)]
/-- the text from a line on -/
theorem textXR : ∀ (u h j k l : Nat) (σ τ : St), T - h ≤ u → XS v T h k σ → RS v T h 0 j τ → k ≤ h → j ≤ h → 2 * l ≤ h → gI τ 12 1 = nI l → Lns 32 130 61 σ τ l 0 0 0 j k →
    (∃ (C0 m j' k' : Nat) (σ' τ1 τ' : St), (∀ n, C0 ≤ n → L_X8_readText n 1 (nI l) σ = some (1, σ')) ∧ (∀ n, C0 ≤ n → (bd (F_X12_line n τ) fun _ s6 => L_X12_readText n 1 0 0 s6) = some (-1, τ')) ∧ 1 ≤ m ∧ m ≤ 61 ∧ j' ≤ 125 ∧ k' ≤ 240 ∧ XS v T T k' σ' ∧ KX 0 σ σ' ∧ KL 0 0 τ τ1 ∧ Lns 32 130 61 σ' τ1 m 0 0 0 j' k' ∧ Fin1 m j' τ1 τ') ∨
    (∃ (C0 h' : Nat) (σ' τ' : St), h' ≤ T ∧ (∀ n, C0 ≤ n → L_X8_readText n 1 (nI l) σ = some (0, σ')) ∧ (∀ n, C0 ≤ n → (bd (F_X12_line n τ) fun _ s6 => L_X12_readText n 1 0 0 s6) = some (nI h', sI τ' 0 13 0)) ∧ XB v T h' σ' ∧ KX 0 σ σ' ∧ KL 0 0 τ τ') := by
  intro u
  induction u with
  | zero =>
    intro h j k l σ τ hu hX hR hk hj hl h12 hL
    have s1 := hX.1
    have s2 := hX.2.1
    rcases lineXR hX hR hk hj h12 (by omega) with ⟨C0, h1, j1, k1, σ1, τ1, g, f1, f2⟩ | ⟨C0, h1, r, σ1, τ1, ⟨g1, g2, g3, g4, g5, g6⟩, f1, f2⟩
    · have := g.1
      have := g.2.1
      omega
    · refine Or.inr ⟨C0 + 5, h1, σ1, τ1, g1, fun n hn => ?_, fun n hn => ?_, g2, g4, g5⟩
      · obtain ⟨n, rfl⟩ : ∃ q, n = q + 1 := ⟨n - 1, by omega⟩
        show B_X8_readText_1 (L_X8_readText n) n (nI l) σ = _
        unfold B_X8_readText_1
        rw [if_neg (by rw [i_lt, i_n (by omega), t120]; omega), f1 n (by omega), bd_some]
        rcases g6 with e | ⟨e, z⟩
        · rw [if_pos e]
        · obtain ⟨k2, g2'⟩ := g2
          rw [e, if_neg (by decide), g2'.2.2.2.2.2.1, g2'.2.2.2.1, if_pos (by rw [i_lt, i_n (by omega), i_n (by omega)]; omega), tks8 g2' (Q := 59) (q := 59) rfl (by decide), if_neg (by omega), bd_some, if_pos rfl]
      · rw [f2 n (by omega), bd_some]
        exact finB (by omega) g3 n (by omega)
  | succ u ih =>
    intro h j k l σ τ hu hX hR hk hj hl h12 hL
    have s1 := hX.1
    have s2 := hX.2.1
    have hv : ∀ q, q < T → v q < 256 := fun q hq => (hX.2.2.2.2.1 q hq).1
    have EX : ∀ n, L_X8_readText (n + 1) 1 (nI l) σ = bd (F_X8_readLine n  σ) fun r2 s1 => if r2 = 0 then (some ((0 : Int32), s1)) else (if (gI s1 9 2) < (gI s1 9 1) then (bd (F_X8_takes n (59 : Int32) s1) fun r4 s3 => if r4 = 0 then (some ((0 : Int32), s3)) else (L_X8_readText n 1 (nI (l + 1)) s3)) else (some ((1 : Int32), s1))) := fun n => by
      show B_X8_readText_1 (L_X8_readText n) n (nI l) σ = _
      unfold B_X8_readText_1
      rw [if_neg (by rw [i_lt, i_n (by omega), t120]; omega)]
      simp only [bnd_eq, n_a1]
    rcases lineXR hX hR hk hj h12 (by omega) with ⟨C0, h1, j1, k1, σ1, τ1, ⟨g1, g2, g3, g4, g5, g6, g7, g8, g9, g10, g11, g12⟩, f1, f2⟩ | ⟨C0, h1, r, σ1, τ1, ⟨g1, g2, g3, g4, g5, g6⟩, f1, f2⟩
    · have hL1 : Lns 32 130 61 σ1 τ1 (l + 1) 0 0 0 j1 k1 := (hL.tp (fun i _ i2 => ⟨g9.2.1 33 i (by omega) (by omega) (by omega), g9.2.1 34 i (by omega) (by omega) (by omega), g9.2.1 35 i (by omega) (by omega) (by omega), g9.2.1 36 i (by omega) (by omega) (by omega)⟩) (fun i _ i2 => g10.2.2.1 (130 + i) (by omega)) (fun q _ q2 => g10.2.2.2.2.1 (61 + q) (by omega))).snoc (by rw [Nat.zero_add]; exact g12)
      by_cases c : h1 < T
      · by_cases c59 : v h1 = 59
        · -- another line
          have hX1 : XS v T (h1 + 1) k1 (sI σ1 9 2 (nI (h1 + 1))) := g7.to (by omega)
          have hR1 : RS v T (h1 + 1) 0 j1 (sI τ1 0 14 (nI (h1 + 1))) := g8.to
          have kx1 : KX 0 σ (sI σ1 9 2 (nI (h1 + 1))) := (g9.lo (by omega)).tr (KX.s9 0 σ1 _) (Nat.le_refl _)
          have kl1 : KL 0 0 τ (sI τ1 0 14 (nI (h1 + 1))) := (g10.lo (by omega) (by omega)).tr ((KR.s0 0 τ1 (by omega) (by omega) _).kl 0) (Nat.le_refl _) (Nat.le_refl _)
          have goX : ∀ n, C0 ≤ n → L_X8_readText (n + 1) 1 (nI l) σ = L_X8_readText n 1 (nI (l + 1)) (sI σ1 9 2 (nI (h1 + 1))) := fun n hn => by
            rw [EX, f1 n hn, bd_some, if_neg (by decide), g7.2.2.2.2.2.1, g7.2.2.2.1, if_pos (by rw [i_lt, i_n (by omega), i_n (by omega)]; omega), tks8 g7 (Q := 59) (q := 59) rfl (by decide), if_pos ⟨c, c59⟩, bd_some, if_neg (by decide)]
          have goR : ∀ n, C0 ≤ n + 1 → (bd (F_X12_line (n + 1) τ) fun _ s6 => L_X12_readText (n + 1) 1 0 0 s6) = bd (F_X12_line n (sI τ1 0 14 (nI (h1 + 1)))) fun _ s6 => L_X12_readText n 1 0 0 s6 := fun n hn => by
            rw [f2 (n + 1) hn, bd_some]
            show B_X12_readText_1 (L_X12_readText n) n 0 τ1 = _
            unfold B_X12_readText_1
            rw [if_neg (nflt g8), look12 g8.1 s1 c, bd_some, if_pos (by rw [c59]; decide), g8.1.2.2.1, n_a1, bnd_eq]
          have hL2 : Lns 32 130 61 (sI σ1 9 2 (nI (h1 + 1))) (sI τ1 0 14 (nI (h1 + 1))) (l + 1) 0 0 0 j1 k1 := hL1.tp (fun i _ _ => ⟨rfl, rfl, rfl, rfl⟩) (fun i _ _ => ⟨rfl, rfl⟩) (fun q _ _ => ⟨rfl, rfl⟩)
          rcases ih (h1 + 1) j1 k1 (l + 1) _ _ (by omega) hX1 hR1 (by omega) (by omega) (by omega) g11 hL2 with ⟨C1, m, j', k', σ', τa, τ', q1, q2, q3, q4, q5, q6, q7, q8, q9, q10, q11⟩ | ⟨C1, h', σ', τ', q0, q1, q2, q3, q4, q5⟩
          · refine Or.inl ⟨C0 + C1 + 1, m, j', k', σ', τa, τ', fun n hn => ?_, fun n hn => ?_, q3, q4, q5, q6, q7, kx1.tr q8 (Nat.le_refl _), kl1.tr q9 (Nat.le_refl _) (Nat.le_refl _), q10, q11⟩
            · obtain ⟨n, rfl⟩ : ∃ q, n = q + 1 := ⟨n - 1, by omega⟩
              exact (goX n (by omega)).trans (q1 n (by omega))
            · obtain ⟨n, rfl⟩ : ∃ q, n = q + 1 := ⟨n - 1, by omega⟩
              exact (goR n (by omega)).trans (q2 n (by omega))
          · refine Or.inr ⟨C0 + C1 + 1, h', σ', τ', q0, fun n hn => ?_, fun n hn => ?_, q3, kx1.tr q4 (Nat.le_refl _), kl1.tr q5 (Nat.le_refl _) (Nat.le_refl _)⟩
            · obtain ⟨n, rfl⟩ : ∃ q, n = q + 1 := ⟨n - 1, by omega⟩
              exact (goX n (by omega)).trans (q1 n (by omega))
            · obtain ⟨n, rfl⟩ : ∃ q, n = q + 1 := ⟨n - 1, by omega⟩
              exact (goR n (by omega)).trans (q2 n (by omega))
        · -- a byte with which nothing goes on
          refine Or.inr ⟨C0 + 5, h1, σ1, sI τ1 0 15 (nI h1), g2, fun n hn => ?_, fun n hn => ?_, ⟨k1, g7⟩, g9.lo (by omega), (g10.lo (by omega) (by omega)).tr ((KR.s0 0 τ1 (by omega) (by omega) _).kl 0) (Nat.le_refl _) (Nat.le_refl _)⟩
          · obtain ⟨n, rfl⟩ : ∃ q, n = q + 1 := ⟨n - 1, by omega⟩
            rw [EX, f1 n (by omega), bd_some, if_neg (by decide), g7.2.2.2.2.2.1, g7.2.2.2.1, if_pos (by rw [i_lt, i_n (by omega), i_n (by omega)]; omega), tks8 g7 (Q := 59) (q := 59) rfl (by decide), if_neg (fun z => c59 z.2), bd_some, if_pos rfl]
          · rw [f2 n (by omega), bd_some]
            obtain ⟨n, rfl⟩ : ∃ q, n = q + 1 + 1 + 1 := ⟨n - 3, by omega⟩
            show B_X12_readText_1 (L_X12_readText (n + 1 + 1)) (n + 1 + 1) 0 τ1 = _
            unfold B_X12_readText_1
            rw [if_neg (nflt g8), look12 g8.1 s1 c, bd_some, if_neg (show ¬ sb (v h1) = (59 : Int32) from fun e => c59 ((sb_eq (hv h1 c) (q := 59) (by decide)).mp e))]
            show B_X12_readText_2 (L_X12_readText (n + 1)) (n + 1) 0 τ1 = _
            unfold B_X12_readText_2
            rw [if_neg (nflt g8), g8.1.1, g8.1.2.2.1, if_neg (by rw [i_le, i_n (by omega), i_n (by omega)]; omega), wr12 g8, bd_some]
            show B_X12_readText_3 (L_X12_readText n) n 0 (sI τ1 0 15 (nI h1)) = _
            unfold B_X12_readText_3
            rw [bnd_eq, show gI (sI (sI τ1 0 15 (nI h1)) 0 13 0) 0 15 = nI h1 from rfl, if_neg (by rw [i_lt, i_n (by omega), t0]; omega)]
      · -- the end
        have eT : h1 = T := by omega
        subst eT
        have hx := hL1.sht
        obtain ⟨C1, τ', w1, w2⟩ := finR hv s1 g8 g11 (by omega) (by omega) (fun i hi => hL1.byt i (by omega) hi) (fun i hi => by
          obtain ⟨⟨x, x1, x2⟩, ⟨y, y1, y2⟩⟩ := hx i (by omega) (by omega)
          exact ⟨⟨x, by omega, x2⟩, ⟨y, by omega, y2⟩⟩)
        refine Or.inl ⟨C0 + C1 + 1, l + 1, j1, k1, σ1, τ1, τ', fun n hn => ?_, fun n hn => ?_, by omega, by omega, by omega, by omega, g7, g9.lo (by omega), g10.lo (by omega) (by omega), hL1, w2⟩
        · obtain ⟨n, rfl⟩ : ∃ q, n = q + 1 := ⟨n - 1, by omega⟩
          rw [EX, f1 n (by omega), bd_some, if_neg (by decide), g7.2.2.2.2.2.1, g7.2.2.2.1, if_neg (by rw [i_lt]; omega)]
        · rw [f2 n (by omega), bd_some]
          exact w1 n (by omega)
    · refine Or.inr ⟨C0 + 5, h1, σ1, τ1, g1, fun n hn => ?_, fun n hn => ?_, g2, g4, g5⟩
      · obtain ⟨n, rfl⟩ : ∃ q, n = q + 1 := ⟨n - 1, by omega⟩
        rw [EX, f1 n (by omega), bd_some]
        rcases g6 with e | ⟨e, z⟩
        · rw [if_pos e]
        · obtain ⟨k2, g2'⟩ := g2
          rw [e, if_neg (by decide), g2'.2.2.2.2.2.1, g2'.2.2.2.1, if_pos (by rw [i_lt, i_n (by omega), i_n (by omega)]; omega), tks8 g2' (Q := 59) (q := 59) rfl (by decide), if_neg (by omega), bd_some, if_pos rfl]
      · rw [f2 n (by omega), bd_some]
        exact finB (by omega) g3 n (by omega)
end TEXT
