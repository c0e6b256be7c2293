/-! a token, a line, the lines -/
theorem tokV {σ τ : St} {j k : Nat} {s s1 : List Nat} (h : Tok 27 0 σ τ j k s s1) (f : Nat → Int32) (t : List Int32) (hl : t.length = s.length) (h130 : s.length < 130) (hk : ∀ p, p ∈ s → p < k) (hk2 : k < 240) : ∃ t1 : List Int32, t1.length = s1.length ∧ s1.length ≤ s.length + 1 ∧ (∀ p, p ∈ s1 → p < k + 1) ∧
    (∀ (σ' : St) (ke nx : Nat), OkX f σ σ' → gI σ' 27 4 = nI ke → k < ke → ke ≤ 242 → nx ≤ k → Vl σ' s t → ∃ σ'', (∀ n, L_X7_worth 27 (n + 1) 1 (nI nx) (nI k) σ' = L_X7_worth 27 n 1 (nI nx) (nI (k + 1)) σ'') ∧ FrX σ σ' σ'' ∧ Vl σ'' s1 t1) ∧
    ∀ (τ' : St) (e : Nat), OkR f τ τ' → j < e → e ≤ 130 → Pil τ' t → ∃ c τ'', (∀ n, L_X12_worked (n + c) 1 0 (nI e) (nI s.length) (nI j) 0 τ' = L_X12_worked n 1 0 (nI e) (nI s1.length) (nI (j + 1)) 0 τ'') ∧ FrR τ' τ'' ∧ Pil τ'' t1 := by
  have wr : ∀ (σ' : St) (v : Int32) (ch : Int32), ¬ ch = 48 → gI σ (27 + 1) k = ch → FrX σ σ' (sI σ' 31 k v) := fun σ' v ch h48 hch => ⟨fun c i e => by rw [gI_sI, if_neg e], fun i e => by
    rw [gI_sI, if_pos rfl]
    by_cases c : i = k
    · rw [c, hch] at e
      exact absurd e h48
    · rw [if_neg c], fun _ _ => rfl⟩
  have wV : ∀ (σ' : St) (v : Int32) (r : List Nat) (u : List Int32), (∀ p, p ∈ r → p < k) → Vl σ' r u → Vl (sI σ' 31 k v) (k :: r) (v :: u) := fun σ' v r u hr hv => ⟨u, by rw [gI_sI, if_pos rfl, if_pos rfl], hv.mono (fun p hp => by rw [gI_sI, if_pos rfl, if_neg (by have := hr p hp; omega)])⟩
  have wP : ∀ (τ' : St) (v : Int32) (u : List Int32), Pil τ' u → Pil (sI τ' 16 u.length v) (v :: u) := fun τ' v u hp => ⟨by rw [gI_sI, if_pos rfl, if_pos rfl], hp.mono (fun i hi => by rw [gI_sI, if_pos rfl, if_neg (by omega)])⟩
  have wF : ∀ (τ' : St) (v : Int32) (i : Nat), FrR τ' (sI τ' 16 i v) := fun τ' v i => ⟨fun c i e => by rw [gI_sI, if_neg e], fun _ _ => rfl⟩
  have hs1 : ∀ r : List Nat, (∀ p, p ∈ r → p < k) → ∀ p, p ∈ k :: r → p < k + 1 := fun r hr p hp => by
    rcases List.mem_cons.mp hp with rfl | h
    · omega
    · have := hr p h
      omega
  unfold Tok at h
  rw [Nat.zero_add] at h
  rcases h with ⟨r1, x1, x2, rfl⟩ | ⟨i, hi, r1, r2, x1, x2, x3, rfl⟩ | ⟨a, r, rfl, r1, x1, x2, x3, rfl⟩ | ⟨a, r, rfl, r1, x1, x2, x3, rfl⟩ | ⟨a, c, r, ch, rfl, hch, r1, x1, x2, x3, rfl⟩
  · refine ⟨gI τ 11 j :: t, by simp [hl], by simp, hs1 s hk, fun σ' ke nx ho h4 k1 k2 k3 hv => ⟨σ', fun n => wN h4 k1 k2 k3 ((ho.1 k).1.trans x1) n, FrX.rf _ _, ⟨t, by rw [← x2]; exact congrArg (· :: t) (ho.2.1 k x1).symm, hv⟩⟩, fun τ' e ho j1 j2 hp => ⟨2, sI τ' 16 t.length (gI τ 11 j), fun n => ?_, wF _ _ _, wP _ _ _ hp⟩⟩
    have := (kR (c := s.length) j1 j2 n ((ho.1 j).1.trans r1)).1 rfl h130
    rw [this, (ho.1 j).2.1, hl]
    rfl
  · refine ⟨f i :: t, by simp [hl], by simp, hs1 s hk, fun σ' ke nx ho h4 k1 k2 k3 hv => ⟨sI σ' 31 k (f i), fun n => ?_, wr _ _ _ (by decide) x1, wV _ _ _ _ hk hv⟩, fun τ' e ho j1 j2 hp => ⟨2, sI τ' 16 t.length (f i), fun n => ?_, wF _ _ _, wP _ _ _ hp⟩⟩
    · have := (wX h4 k1 k2 k3 ((ho.1 k).1.trans x1) (by decide) ((ho.1 k).2.1.trans x2) (by omega) (((ho.1 k).2.2.trans x3).trans (show (0 : Int32) = nI 0 from rfl)) (by decide) n).2.2.2.1 rfl hi
      rw [this, ho.2.2.2 i hi]
    · have := (kR (c := s.length) j1 j2 n ((ho.1 j).1.trans r1)).2.1 i hi rfl ((ho.1 j).2.1.trans r2) h130
      rw [this, ho.2.2 i hi, hl]
      rfl
  · obtain ⟨v, u, rfl⟩ : ∃ v u, t = v :: u := by
      cases t with
      | nil => cases hl
      | cons v u => exact ⟨v, u, rfl⟩
    have hr : ∀ p, p ∈ r → p < k := fun p hp => hk p (List.mem_cons_of_mem _ hp)
    have hl' : u.length = r.length := by simpa using hl
    have ha : a < k := hk a (List.mem_cons_self ..)
    refine ⟨(if v = 0 then 1 else 0) :: u, by simp [hl'], by simp, hs1 r hr, fun σ' ke nx ho h4 k1 k2 k3 hv => ?_, fun τ' e ho j1 j2 hp => ⟨1, sI τ' 16 u.length (if v = 0 then 1 else 0), fun n => ?_, wF _ _ _, wP _ _ _ hp.2⟩⟩
    · obtain ⟨r', e1, e2⟩ := hv
      rw [List.cons.injEq] at e1
      rw [← e1.2] at e2
      refine ⟨sI σ' 31 k (if v = 0 then 1 else 0), fun n => ?_, wr _ _ _ (by decide) x1, wV _ _ _ _ hr e2⟩
      have := (wX h4 k1 k2 k3 ((ho.1 k).1.trans x1) (by decide) ((ho.1 k).2.1.trans x2) (by omega) (((ho.1 k).2.2.trans x3).trans (show (0 : Int32) = nI 0 from rfl)) (by decide) n).2.1 rfl
      rw [this, ← e1.1]
    · have := (kR (c := r.length) j1 j2 n ((ho.1 j).1.trans r1)).2.2.1 rfl (by simp at h130; omega)
      have e2 := hp.1
      rw [hl'] at e2
      rw [e2] at this
      rw [hl']
      exact this
  · obtain ⟨v, u, rfl⟩ : ∃ v u, t = v :: u := by
      cases t with
      | nil => cases hl
      | cons v u => exact ⟨v, u, rfl⟩
    have hr : ∀ p, p ∈ r → p < k := fun p hp => hk p (List.mem_cons_of_mem _ hp)
    have hl' : u.length = r.length := by simpa using hl
    have ha : a < k := hk a (List.mem_cons_self ..)
    refine ⟨(-v) :: u, by simp [hl'], by simp, hs1 r hr, fun σ' ke nx ho h4 k1 k2 k3 hv => ?_, fun τ' e ho j1 j2 hp => ⟨1, sI τ' 16 u.length (-v), fun n => ?_, wF _ _ _, wP _ _ _ hp.2⟩⟩
    · obtain ⟨r', e1, e2⟩ := hv
      rw [List.cons.injEq] at e1
      rw [← e1.2] at e2
      refine ⟨sI σ' 31 k (-v), fun n => ?_, wr _ _ _ (by decide) x1, wV _ _ _ _ hr e2⟩
      have := (wX h4 k1 k2 k3 ((ho.1 k).1.trans x1) (by decide) ((ho.1 k).2.1.trans x2) (by omega) (((ho.1 k).2.2.trans x3).trans (show (0 : Int32) = nI 0 from rfl)) (by decide) n).2.2.1 rfl
      rw [this, ← e1.1]
    · have := (kR (c := r.length) j1 j2 n ((ho.1 j).1.trans r1)).2.2.2.1 rfl (by simp at h130; omega)
      have e2 := hp.1
      rw [hl'] at e2
      rw [e2] at this
      rw [hl']
      exact this
  · obtain ⟨w, v, u, rfl⟩ : ∃ w v u, t = w :: v :: u := by
      cases t with
      | nil => cases hl
      | cons w t => cases t with
        | nil => cases hl
        | cons v u => exact ⟨w, v, u, rfl⟩
    have hr : ∀ p, p ∈ r → p < k := fun p hp => hk p (List.mem_cons_of_mem _ (List.mem_cons_of_mem _ hp))
    have hl' : u.length = r.length := by simpa using hl
    have hc : c < k := hk c (List.mem_cons_self ..)
    have ha : a < k := hk a (List.mem_cons_of_mem _ (List.mem_cons_self ..))
    have h48 : ¬ ch = 48 := by
      rcases sgn_cases hch with rfl | rfl | rfl | rfl | rfl | rfl | rfl | rfl | rfl | rfl <;> decide
    refine ⟨two ch v w :: u, by simp [hl'], by simp, hs1 r hr, fun σ' ke nx ho h4 k1 k2 k3 hv => ?_, fun τ' e ho j1 j2 hp => ⟨1, sI τ' 16 u.length (two ch v w), fun n => ?_, wF _ _ _, wP _ _ _ hp.2.2⟩⟩
    · obtain ⟨r', e1, r'', e3, e2⟩ := hv
      rw [List.cons.injEq] at e1
      rw [← e1.2, List.cons.injEq] at e3
      rw [← e3.2] at e2
      refine ⟨sI σ' 31 k (two ch v w), fun n => ?_, wr _ _ _ h48 x1, wV _ _ _ _ hr e2⟩
      have := (wX h4 k1 k2 k3 ((ho.1 k).1.trans x1) h48 ((ho.1 k).2.1.trans x2) (by omega) ((ho.1 k).2.2.trans x3) (by omega) n).1 hch
      rw [this, ← e1.1, ← e3.1]
    · have := (kR (c := r.length) j1 j2 n ((ho.1 j).1.trans r1)).2.2.2.2 hch (by simp at h130; omega)
      have e1 := hp.1
      have e2 := hp.2.1
      rw [List.length_cons, hl'] at e1
      rw [hl'] at e2
      rw [e1, e2] at this
      rw [hl']
      exact this
theorem segV {σ τ : St} (f : Nat → Int32) : ∀ {m j k : Nat} {s s' : List Nat}, Seg 27 0 σ τ m j k s s' → ∀ (t : List Int32), t.length = s.length → s.length + m < 130 → (∀ p, p ∈ s → p < k) → k + m ≤ 240 → ∃ t' : List Int32, t'.length = s'.length ∧ (∀ p, p ∈ s' → p < k + m) ∧
    (∀ (σ' : St) (ke nx : Nat), OkX f σ σ' → gI σ' 27 4 = nI ke → k + m ≤ ke → ke ≤ 242 → nx ≤ k → Vl σ' s t → ∃ σ'', (∀ n, L_X7_worth 27 (n + m) 1 (nI nx) (nI k) σ' = L_X7_worth 27 n 1 (nI nx) (nI (k + m)) σ'') ∧ FrX σ σ' σ'' ∧ Vl σ'' s' t') ∧
    ∀ (τ' : St) (e : Nat), OkR f τ τ' → j + m ≤ e → e ≤ 130 → Pil τ' t → ∃ c τ'', (∀ n, L_X12_worked (n + c) 1 0 (nI e) (nI s.length) (nI j) 0 τ' = L_X12_worked n 1 0 (nI e) (nI s'.length) (nI (j + m)) 0 τ'') ∧ FrR τ' τ'' ∧ Pil τ'' t'
  | 0, j, k, s, s', h, t, hl, h130, hk, hk2 => by
    have h : s' = s := h
    subst h
    exact ⟨t, hl, hk, fun σ' ke nx _ _ _ _ _ hv => ⟨σ', fun n => rfl, FrX.rf _ _, hv⟩, fun τ' e _ _ _ hp => ⟨0, τ', fun n => rfl, FrR.rf _, hp⟩⟩
  | m + 1, j, k, s, s', ⟨s1, h1, h2⟩, t, hl, h130, hk, hk2 => by
    obtain ⟨t1, a1, a2, a3, a4, a5⟩ := tokV h1 f t hl (by omega) hk (by omega)
    obtain ⟨t', b1, b2, b3, b4⟩ := segV f h2 t1 a1 (by omega) a3 (by omega)
    refine ⟨t', b1, fun p hp => by have := b2 p hp; omega, fun σ' ke nx ho h4 k1 k2 k3 hv => ?_, fun τ' e ho j1 j2 hp => ?_⟩
    · obtain ⟨σ1, c1, c2, c3⟩ := a4 σ' ke nx ho h4 (by omega) k2 k3 hv
      obtain ⟨σ2, d1, d2, d3⟩ := b3 σ1 ke nx (ho.fr c2) ((c2.1 27 4 (by decide)).trans h4) (by omega) k2 (by omega) c3
      refine ⟨σ2, fun n => ?_, c2.tr d2, d3⟩
      have e1 := c1 (n + m)
      have e2 := d1 n
      rw [show k + 1 + m = k + (m + 1) by omega] at e2
      exact e1.trans e2
    · obtain ⟨c, τ1, c1, c2, c3⟩ := a5 τ' e ho (by omega) j2 hp
      obtain ⟨c', τ2, d1, d2, d3⟩ := b4 τ1 e (ho.fr c2) (by omega) j2 c3
      refine ⟨c' + c, τ2, fun n => ?_, c2.tr d2, d3⟩
      have e1 := c1 (n + c')
      have e2 := d1 n
      rw [show j + 1 + m = j + (m + 1) by omega] at e2
      rw [← Nat.add_assoc]
      exact e1.trans e2
/-- a text of steps that leaves one value -/
theorem segW {σ τ : St} (f : Nat → Int32) {m j k top : Nat} (h : Seg 27 0 σ τ m j k [] [top]) (h1 : m < 130) (h2 : k + m ≤ 240) (h3 : j + m ≤ 130) : ∃ v : Int32, top < k + m ∧
    (∀ (σ' : St) (ke nx : Nat), OkX f σ σ' → gI σ' 27 4 = nI ke → k + m ≤ ke → ke ≤ 242 → nx ≤ k → ∃ σ'', (∀ n, L_X7_worth 27 (n + m) 1 (nI nx) (nI k) σ' = L_X7_worth 27 n 1 (nI nx) (nI (k + m)) σ'') ∧ FrX σ σ' σ'' ∧ gI σ'' 31 top = v) ∧
    ∀ (τ' : St), OkR f τ τ' → ∃ c τ'', (∀ n, c ≤ n → F_X12_worked n 0 (nI j) (nI (j + m)) τ' = some (v, τ'')) ∧ FrR τ' τ'' := by
  obtain ⟨t', b1, b2, b3, b4⟩ := segV f h [] rfl (by simpa using h1) (fun p hp => by cases hp) h2
  obtain ⟨v, rfl⟩ : ∃ v, t' = [v] := by
    cases t' with
    | nil => cases b1
    | cons v u => cases u with
      | nil => exact ⟨v, rfl⟩
      | cons w u => cases b1
  refine ⟨v, b2 top (List.mem_cons_self ..), fun σ' ke nx ho h4 k1 k2 k3 => ?_, fun τ' ho => ?_⟩
  · obtain ⟨σ'', c1, c2, r, c3, c4⟩ := b3 σ' ke nx ho h4 k1 k2 k3 rfl
    rw [List.cons.injEq] at c3
    exact ⟨σ'', c1, c2, c3.1.symm⟩
  · obtain ⟨c, τ'', c1, c2, c3⟩ := b4 τ' (j + m) ho (Nat.le_refl _) h3 trivial
    refine ⟨c + 1, τ'', fun n hn => ?_, c2⟩
    obtain ⟨n, rfl⟩ : ∃ q, n = (q + 1) + c := ⟨n - 1 - c, by omega⟩
    unfold F_X12_worked
    rw [z130, bnd_eq]
    refine (c1 (n + 1)).trans ?_
    show B_X12_worked_1 (L_X12_worked n) n 0 (nI (j + m)) (nI 1) (nI (j + m)) τ'' = _
    unfold B_X12_worked_1
    rw [z130, if_pos (Int32.le_refl _), gd_eq (show vp_in (0 : Int32) 130 from nIin (k := 0) (by decide) (by decide))]
    exact congrArg (fun x => some (x, τ'')) c3.1
theorem lnsV {σ τ : St} (f : Nat → Int32) {M fe ke : Nat} (hfe : fe ≤ 125) (hke : ke ≤ 240) (hM : M ≤ 61) : ∀ {m l j k : Nat}, Lns 27 0 0 σ τ m l j k fe ke → l + m = M → j ≤ fe → k ≤ ke → ∃ v : Int32,
    (∀ (σ' : St) (nx : Nat), OkX f σ σ' → gI σ' 27 4 = nI ke → nx ≤ k → ∃ c σ'', (∀ n, L_X7_worth 27 (n + c) 1 (nI nx) (nI k) σ' = some (v, σ'')) ∧ FrX σ σ' σ'') ∧
    ∀ (τ' : St), OkR f τ τ' → gI τ' 12 0 = nI M → ∃ c τ'', (∀ n, c ≤ n → L_X12_gives n 1 0 (nI j) (nI l) τ' = some (v, τ'')) ∧ FrR τ' τ''
  | 0, l, j, k, ⟨e1, e2⟩, hl, _, _ => by
    subst e1 e2
    refine ⟨0, fun σ' nx ho h4 hx => ⟨1, σ', fun n => ?_, FrX.rf _ _⟩, fun τ' ho hm => ⟨1, τ', fun n hn => ?_, FrR.rf _⟩⟩
    · show B_X7_worth_1 (L_X7_worth 27 n) n 27 (nI nx) (nI ke) σ' = _
      unfold B_X7_worth_1
      rw [h4, if_pos (Int32.le_refl _)]
    · obtain ⟨n, rfl⟩ : ∃ q, n = q + 1 := ⟨n - 1, by omega⟩
      show B_X12_gives_1 (L_X12_gives n) n 0 (nI fe) (nI l) τ' = _
      unfold B_X12_gives_1
      rw [gd_eq (show vp_in (0 : Int32) 2 from nIin (k := 0) (by decide) (by decide)), if_pos]
      show (61 : Int32) * 0 + gI τ' 12 0 ≤ nI l
      rw [hm, Int32.mul_zero, Int32.zero_add, show M = l by omega]
      exact Int32.le_refl _
  | m + 1, l, j, k, ⟨f', k', hL, hN⟩, hl, hj, hk => by
    have mono : ∀ {m l j k : Nat}, Lns 27 0 0 σ τ m l j k fe ke → j ≤ fe ∧ k ≤ ke := by
      intro m
      induction m with
      | zero => intro l j k h; exact ⟨by rw [h.1]; omega, by rw [h.2]; omega⟩
      | succ m ih =>
        intro l j k h
        obtain ⟨f', k', ⟨te, a1, a2, a3, a4, a5⟩, hN⟩ := h
        have := ih hN
        rcases a5 with ⟨_, top, _, _, _, _, e⟩ | ⟨_, t1, t2, _, _, _, _, _, _, _, _, e⟩
        · omega
        · omega
    have hm1 := mono hN
    obtain ⟨te, a1, a2, a3, a4, a5⟩ := hL
    rw [Nat.zero_add] at a1 a2
    have nle : ∀ τ' : St, gI τ' 12 0 = nI M → ¬ (61 : Int32) * 0 + gI τ' 12 (0 : Int32).toNatClampNeg ≤ nI l := fun τ' hm => by
      show ¬ (61 : Int32) * 0 + gI τ' 12 0 ≤ nI l
      rw [hm, Int32.mul_zero, Int32.zero_add, i_le, i_n (by omega), i_n (by omega)]
      omega
    have v2 : vp_in (0 : Int32) 2 := nIin (k := 0) (by decide) (by decide)
    have vl : vp_in (nI l) 122 := nIin (by omega) (by decide)
    have cl : (nI l).toNatClampNeg = l := nIc (by omega)
    rcases a5 with ⟨b0, top, b1, b2, b3, b4, b5⟩ | ⟨b0, t1, t2, b1, b2, b3, b4, b5, b6, b7, b8, b9⟩
    · obtain ⟨v, c1, c2, c3⟩ := segW f b1 (by omega) (by omega) (by omega)
      refine ⟨v, fun σ' nx ho h4 hx => ?_, fun τ' ho hm => ?_⟩
      · obtain ⟨σ'', d1, d2, d3⟩ := c2 σ' ke nx ho h4 (by omega) (by omega) hx
        refine ⟨1 + (f' - j), σ'', fun n => ?_, d2⟩
        have ho2 := ho.fr d2
        rw [← Nat.add_assoc, d1]
        have := (wX (n := n) (nx := nx) ((d2.1 27 4 (by decide)).trans h4) (by omega) (by omega) (by omega) ((ho2.1 _).1.trans b2) (by decide) ((ho2.1 _).2.1.trans b3) (by omega) (((ho2.1 _).2.2.trans b4).trans (show (0 : Int32) = nI 0 from rfl)) (by decide)).2.2.2.2.1 rfl
        rw [this, d3]
      · obtain ⟨c, τ'', d1, d2⟩ := c3 τ' ho
        refine ⟨c + 3, τ'', fun n hn => ?_, d2⟩
        obtain ⟨n, rfl⟩ : ∃ q, n = q + 2 := ⟨n - 2, by omega⟩
        show B_X12_gives_1 (L_X12_gives (n + 1)) (n + 1) 0 (nI j) (nI l) τ' = _
        unfold B_X12_gives_1
        rw [gd_eq v2, if_neg (nle τ' hm), gd_eq vl, cl, if_pos ((ho.1 l).2.2.1.trans (by rw [a1, b0]))]
        show B_X12_gives_2 (L_X12_gives n) n 0 (nI l) τ' = _
        unfold B_X12_gives_2
        rw [gd_eq vl, gd_eq vl, cl, (ho.1 l).2.2.1, (ho.1 l).2.2.2, a1, a2, b0]
        have := d1 n (by omega)
        rw [show j + (f' - j) = f' by omega] at this
        rw [this]
        rfl
    · obtain ⟨v1, c1, c2, c3⟩ := segW f b1 (by omega) (by omega) (by omega)
      obtain ⟨v2', g1, g2, g3⟩ := segW f b5 (by omega) (by omega) (by omega)
      obtain ⟨v3, q1, q2⟩ := lnsV f hfe hke hM hN (by omega) (by omega) (by omega)
      have nej : ¬ nI te = nI j := by rw [nI_inj (by omega) (by omega)]; omega
      by_cases cv : v1 = 0
      · refine ⟨v3, fun σ' nx ho h4 hx => ?_, fun τ' ho hm => ?_⟩
        · obtain ⟨σ1, d1, d2, d3⟩ := c2 σ' ke nx ho h4 (by omega) (by omega) hx
          have ho2 := ho.fr d2
          have h41 := (d2.1 27 4 (by decide)).trans h4
          obtain ⟨c, σ2, e1, e2⟩ := q1 σ1 k' ho2 h41 (Nat.le_refl _)
          refine ⟨c + ((k' - (k + (te - j) + 1)) + (1 + (te - j))), σ2, fun n => ?_, d2.tr e2⟩
          rw [← Nat.add_assoc, ← Nat.add_assoc, ← Nat.add_assoc, d1]
          have := (wX (n := n + c + (k' - (k + (te - j) + 1))) (nx := nx) h41 (by omega) (by omega) (by omega) ((ho2.1 _).1.trans b2) (by decide) ((ho2.1 _).2.1.trans b3) (by omega) ((ho2.1 _).2.2.trans b4) (by omega)).2.2.2.2.2 rfl
          rw [this, d3, if_pos cv, wS h41 (by omega) (by omega) _ _ (by omega)]
          exact e1 n
        · obtain ⟨c, τ1, d1, d2⟩ := c3 τ' ho
          obtain ⟨c', τ2, e1, e2⟩ := q2 τ1 (ho.fr d2) ((d2.1 12 0 (by decide)).trans hm)
          refine ⟨c + c' + 3, τ2, fun n hn => ?_, d2.tr e2⟩
          obtain ⟨n, rfl⟩ : ∃ q, n = q + 1 := ⟨n - 1, by omega⟩
          show B_X12_gives_1 (L_X12_gives n) n 0 (nI j) (nI l) τ' = _
          unfold B_X12_gives_1
          have := d1 n (by omega)
          rw [show j + (te - j) = te by omega] at this
          rw [gd_eq v2, if_neg (nle τ' hm), gd_eq vl, cl, (ho.1 l).2.2.1, a1, if_neg nej, gd_eq vl, this, bd_some, if_pos cv, gd_eq vl, bnd_eq, bnd_eq, n_a1, d2.1 14 l (by decide), (ho.1 l).2.2.2, a2]
          exact e1 n (by omega)
      · refine ⟨v2', fun σ' nx ho h4 hx => ?_, fun τ' ho hm => ?_⟩
        · obtain ⟨σ1, d1, d2, d3⟩ := c2 σ' ke nx ho h4 (by omega) (by omega) hx
          have ho2 := ho.fr d2
          have h41 := (d2.1 27 4 (by decide)).trans h4
          obtain ⟨σ2, e1, e2, e3⟩ := g2 σ1 ke (k + (te - j)) ho2 h41 (by omega) (by omega) (by omega)
          have ho3 := ho2.fr e2
          have h42 := (e2.1 27 4 (by decide)).trans h41
          refine ⟨1 + ((f' - te) + (1 + (te - j))), σ2, fun n => ?_, d2.tr e2⟩
          rw [← Nat.add_assoc, ← Nat.add_assoc, ← Nat.add_assoc, d1]
          have := (wX (n := n + 1 + (f' - te)) (nx := nx) h41 (by omega) (by omega) (by omega) ((ho2.1 _).1.trans b2) (by decide) ((ho2.1 _).2.1.trans b3) (by omega) ((ho2.1 _).2.2.trans b4) (by omega)).2.2.2.2.2 rfl
          rw [this, d3, if_neg cv, e1]
          have := (wX (n := n) (nx := k + (te - j)) h42 (by omega) (by omega) (by omega) ((ho3.1 _).1.trans b6) (by decide) ((ho3.1 _).2.1.trans b7) (by omega) (((ho3.1 _).2.2.trans b8).trans (show (0 : Int32) = nI 0 from rfl)) (by decide)).2.2.2.2.1 rfl
          rw [this, e3]
        · obtain ⟨c, τ1, d1, d2⟩ := c3 τ' ho
          obtain ⟨c', τ2, e1, e2⟩ := g3 τ1 (ho.fr d2)
          refine ⟨c + c' + 3, τ2, fun n hn => ?_, d2.tr e2⟩
          obtain ⟨n, rfl⟩ : ∃ q, n = q + 2 := ⟨n - 2, by omega⟩
          show B_X12_gives_1 (L_X12_gives (n + 1)) (n + 1) 0 (nI j) (nI l) τ' = _
          unfold B_X12_gives_1
          have := d1 (n + 1) (by omega)
          rw [show j + (te - j) = te by omega] at this
          rw [gd_eq v2, if_neg (nle τ' hm), gd_eq vl, cl, (ho.1 l).2.2.1, a1, if_neg nej, gd_eq vl, this, bd_some, if_neg cv]
          show B_X12_gives_2 (L_X12_gives n) n 0 (nI l) τ1 = _
          unfold B_X12_gives_2
          have ho2 := ho.fr d2
          rw [gd_eq vl, gd_eq vl, cl, (ho2.1 l).2.2.1, (ho2.1 l).2.2.2, a1, a2]
          have := e1 n (by omega)
          rw [show te + (f' - te) = f' by omega] at this
          rw [this]
          rfl
/-- the law as a function of its six names -/
theorem lawV {σ τ : St} (h : Plaw σ τ) : gI τ 0 25 = 0 ∧ gI σ 27 4 = 0 ∨ gI τ 0 25 = 1 ∧ (∃ ke : Nat, 1 ≤ ke ∧ ke ≤ 240 ∧ gI σ 27 4 = nI ke) ∧ ∃ lv : (Nat → Int32) → Int32, ∀ f,
    (∀ σ' : St, OkX f σ σ' → ∃ c σ'', (∀ n, c ≤ n → F_X7_worth n 27 σ' = some (lv f, σ'')) ∧ FrX σ σ' σ'') ∧
    ∀ τ' : St, OkR f τ τ' → ∃ c τ'', (∀ n, c ≤ n → F_X12_gives n 0 τ' = some (lv f, τ'')) ∧ FrR τ' τ'' := by
  rcases h with h | ⟨h1, m, fe, ke, h2, h3, h4, h5, h6, h7, h8⟩
  · exact Or.inl h
  · refine Or.inr ⟨h1, ⟨ke, ?_, h5, h7⟩, ?_⟩
    · obtain ⟨m, rfl⟩ : ∃ q, m = q + 1 := ⟨m - 1, by omega⟩
      obtain ⟨f', k', ⟨te, a1, a2, a3, a4, a5⟩, hN⟩ := h8
      have mono : ∀ {m l j k : Nat}, Lns 27 0 0 σ τ m l j k fe ke → k ≤ ke := by
        intro m
        induction m with
        | zero => intro l j k h; rw [h.2]; omega
        | succ m ih =>
          intro l j k h
          obtain ⟨f', k', ⟨te, a1, a2, a3, a4, a5⟩, hN⟩ := h
          have := ih hN
          rcases a5 with ⟨_, top, _, _, _, _, e⟩ | ⟨_, t1, t2, _, _, _, _, _, _, _, _, e⟩
          · omega
          · omega
      have := mono hN
      rcases a5 with ⟨_, top, _, _, _, _, e⟩ | ⟨_, t1, t2, _, _, _, _, _, _, _, _, e⟩
      · omega
      · omega
    · have := fun f => lnsV f h4 h5 h3 h8 (Nat.zero_add m) (Nat.zero_le _) (Nat.zero_le _)
      refine ⟨fun f => (this f).choose, fun f => ?_⟩
      obtain ⟨p1, p2⟩ := (this f).choose_spec
      refine ⟨fun σ' ho => ?_, fun τ' ho => ?_⟩
      · obtain ⟨c, σ'', e1, e2⟩ := p1 σ' 0 ho (ho.2.2.1.trans h7) (Nat.le_refl _)
        refine ⟨c, σ'', fun n hn => ?_, e2⟩
        obtain ⟨n, rfl⟩ : ∃ q, n = q + c := ⟨n - c, by omega⟩
        exact e1 n
      · obtain ⟨c, τ'', e1, e2⟩ := p2 τ' ho (ho.2.1.trans h6)
        refine ⟨c, τ'', fun n hn => ?_, e2⟩
        unfold F_X12_gives
        rw [Int32.mul_zero, bnd_eq]
        exact e1 n hn
