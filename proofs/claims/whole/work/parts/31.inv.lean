/-! the law as both hold it: the reference's steps (act, with) beside the class's steps, by a stack of places -/
def sgns : List Int32 := [43, 45, 42, 47, 37, 60, 61, 62, 38, 124]
def Tok (b ro : Nat) (σ τ : St) (j k : Nat) (s s1 : List Nat) : Prop :=
  (gI τ 10 (ro + j) = 1 ∧ gI σ (b + 1) k = 48 ∧ gI σ (b + 4) k = gI τ 11 (ro + j) ∧ s1 = k :: s) ∨
  (∃ i : Nat, i < 6 ∧ gI τ 10 (ro + j) = 2 ∧ gI τ 11 (ro + j) = nI i ∧ gI σ (b + 1) k = 97 ∧ gI σ (b + 2) k = nI i ∧ gI σ (b + 3) k = 0 ∧ s1 = k :: s) ∨
  (∃ (a : Nat) (r : List Nat), s = a :: r ∧ gI τ 10 (ro + j) = 3 ∧ gI σ (b + 1) k = 33 ∧ gI σ (b + 2) k = nI a ∧ gI σ (b + 3) k = 0 ∧ s1 = k :: r) ∨
  (∃ (a : Nat) (r : List Nat), s = a :: r ∧ gI τ 10 (ro + j) = 4 ∧ gI σ (b + 1) k = 95 ∧ gI σ (b + 2) k = nI a ∧ gI σ (b + 3) k = 0 ∧ s1 = k :: r) ∨
  (∃ (a c : Nat) (r : List Nat) (ch : Int32), s = c :: a :: r ∧ ch ∈ sgns ∧ gI τ 10 (ro + j) = ch ∧ gI σ (b + 1) k = ch ∧ gI σ (b + 2) k = nI a ∧ gI σ (b + 3) k = nI c ∧ s1 = k :: r)
def Seg (b ro : Nat) (σ τ : St) : Nat → Nat → Nat → List Nat → List Nat → Prop
  | 0, _, _, s, s' => s' = s
  | n + 1, j, k, s, s' => ∃ s1, Tok b ro σ τ j k s s1 ∧ Seg b ro σ τ n (j + 1) (k + 1) s1 s'
/-- a line from the reference's step f and the class's step k on; behind it f' and k' -/
def Lin (b ro lo : Nat) (σ τ : St) (l f k f' k' : Nat) : Prop := ∃ te : Nat, gI τ 13 (lo + l) = nI te ∧ gI τ 14 (lo + l) = nI f' ∧ f ≤ te ∧ te < f' ∧
  ((te = f ∧ ∃ top : Nat, Seg b ro σ τ (f' - f) f k [] [top] ∧ gI σ (b + 1) (k + (f' - f)) = 59 ∧ gI σ (b + 2) (k + (f' - f)) = nI top ∧ gI σ (b + 3) (k + (f' - f)) = 0 ∧ k' = k + (f' - f) + 1) ∨
   (f < te ∧ ∃ top1 top2 : Nat, Seg b ro σ τ (te - f) f k [] [top1] ∧ gI σ (b + 1) (k + (te - f)) = 63 ∧ gI σ (b + 2) (k + (te - f)) = nI top1 ∧ gI σ (b + 3) (k + (te - f)) = nI k' ∧
     Seg b ro σ τ (f' - te) te (k + (te - f) + 1) [] [top2] ∧ gI σ (b + 1) (k + (te - f) + 1 + (f' - te)) = 59 ∧ gI σ (b + 2) (k + (te - f) + 1 + (f' - te)) = nI top2 ∧ gI σ (b + 3) (k + (te - f) + 1 + (f' - te)) = 0 ∧ k' = k + (te - f) + 1 + (f' - te) + 1))
def Lns (b ro lo : Nat) (σ τ : St) : Nat → Nat → Nat → Nat → Nat → Nat → Prop
  | 0, _, f, k, fe, ke => fe = f ∧ ke = k
  | m + 1, l, f, k, fe, ke => ∃ f' k', Lin b ro lo σ τ l f k f' k' ∧ Lns b ro lo σ τ m (l + 1) f' k' fe ke
def Plaw (σ τ : St) : Prop := (gI τ 0 25 = 0 ∧ gI σ 27 4 = 0) ∨ (gI τ 0 25 = 1 ∧ ∃ m fe ke : Nat, 1 ≤ m ∧ m ≤ 61 ∧ fe ≤ 125 ∧ ke ≤ 240 ∧ gI τ 12 0 = nI m ∧ gI σ 27 4 = nI ke ∧ Lns 27 0 0 σ τ m 0 0 0 fe ke)
def Inv (σ τ : St) : Prop := ∃ N B : Nat, Pp N σ τ ∧ Pch N σ τ ∧ Pb N σ τ ∧ Pk N σ τ ∧ Pt σ τ ∧ Ptp σ τ ∧ Pa B σ τ ∧ Psh B σ τ ∧ Plaw σ τ
/-! states that differ in scratch alone -/
def coreX : List Nat := [0, 1, 2, 4, 5, 6, 7, 8, 9, 10, 24, 25, 26, 27, 28, 29, 30, 33, 37, 38, 39, 40, 63, 64, 65, 66, 67, 68, 69, 70, 71, 72, 73, 74]
def EqX (σ σ' : St) : Prop := (∀ c, c ∈ coreX → ∀ k, gI σ' c k = gI σ c k ∧ gL σ' c k = gL σ c k) ∧ ∀ k, gI σ 28 k = 48 → gI σ' 31 k = gI σ 31 k
def coreR : List Nat := [1, 2, 3, 4, 5, 6, 7, 8, 9, 10, 11, 12, 13, 14, 18, 26, 27, 28, 29, 30, 31, 32, 33]
def coreR0 : List Nat := [1, 6, 7, 13, 25, 29, 46, 47, 50, 52]
def EqR (τ τ' : St) : Prop := (∀ c, c ∈ coreR → ∀ k, gI τ' c k = gI τ c k ∧ gL τ' c k = gL τ c k) ∧ ∀ k, k ∈ coreR0 → gI τ' 0 k = gI τ 0 k
theorem nin {l : List Nat} {x c : Nat} (hx : x ∈ l) (h : c ∉ l) : ¬ x = c := fun e => h (by rw [← e]; exact hx)
theorem EqX.rf (σ : St) : EqX σ σ := ⟨fun _ _ _ => ⟨rfl, rfl⟩, fun _ _ => rfl⟩
theorem EqR.rf (σ : St) : EqR σ σ := ⟨fun _ _ _ => ⟨rfl, rfl⟩, fun _ _ => rfl⟩
theorem EqX.trans {a b c : St} (h : EqX a b) (h2 : EqX b c) : EqX a c := ⟨fun x hx k => ⟨((h2.1 x hx k).1).trans (h.1 x hx k).1, ((h2.1 x hx k).2).trans (h.1 x hx k).2⟩, fun k hk => (h2.2 k (by rw [(h.1 28 (by decide) k).1]; exact hk)).trans (h.2 k hk)⟩
theorem EqR.trans {a b c : St} (h : EqR a b) (h2 : EqR b c) : EqR a c := ⟨fun x hx k => ⟨((h2.1 x hx k).1).trans (h.1 x hx k).1, ((h2.1 x hx k).2).trans (h.1 x hx k).2⟩, fun k hk => (h2.2 k hk).trans (h.2 k hk)⟩
theorem EqX.ofI {σ : St} {c k : Nat} {v : Int32} (h : c ∉ coreX) (h2 : c ≠ 31) : EqX σ (sI σ c k v) := ⟨fun x hx j => ⟨by rw [gI_sI, if_neg (nin hx h)], rfl⟩, fun j _ => by rw [gI_sI, if_neg (fun e => h2 e.symm)]⟩
theorem EqX.ofL {σ : St} {c k : Nat} {v : Int64} (h : c ∉ coreX) : EqX σ (sL σ c k v) := ⟨fun x hx j => ⟨rfl, by rw [gL_sL, if_neg (nin hx h)]⟩, fun j _ => rfl⟩
theorem EqX.ofC {σ : St} {a c sp dp n : Nat} (h : c ∉ coreX) (h2 : c ≠ 31) : EqX σ (cI σ a c sp dp n) := ⟨fun x hx j => ⟨by rw [gI_cI, if_neg (nin hx h)], rfl⟩, fun j _ => by rw [gI_cI, if_neg (fun e => h2 e.symm)]⟩
theorem EqR.ofI {σ : St} {c k : Nat} {v : Int32} (h : c ∉ coreR) (h2 : c ≠ 0) : EqR σ (sI σ c k v) := ⟨fun x hx j => ⟨by rw [gI_sI, if_neg (nin hx h)], rfl⟩, fun j _ => by rw [gI_sI, if_neg (fun e => h2 e.symm)]⟩
theorem EqR.of0 {σ : St} {k : Nat} {v : Int32} (h : k ∉ coreR0) : EqR σ (sI σ 0 k v) := ⟨fun x hx j => ⟨by rw [gI_sI, if_neg (nin hx (by decide))], rfl⟩, fun j hj => by rw [gI_sI, if_pos rfl, if_neg (nin hj h)]⟩
theorem EqR.ofL {σ : St} {c k : Nat} {v : Int64} (h : c ∉ coreR) : EqR σ (sL σ c k v) := ⟨fun x hx j => ⟨rfl, by rw [gL_sL, if_neg (nin hx h)]⟩, fun j _ => rfl⟩
theorem EqX.g {σ σ' : St} (h : EqX σ σ') (c : Nat) (hc : c ∈ coreX) (k : Nat) : gI σ' c k = gI σ c k := (h.1 c hc k).1
theorem EqR.g {σ σ' : St} (h : EqR σ σ') (c : Nat) (hc : c ∈ coreR) (k : Nat) : gI σ' c k = gI σ c k := (h.1 c hc k).1
theorem shc {s : Nat} (hs : s < 6) : 63 + 2 * s ∈ coreX ∧ 63 + 2 * s + 1 ∈ coreX := by
  match s, hs with
  | 0, _ => decide
  | 1, _ => decide
  | 2, _ => decide
  | 3, _ => decide
  | 4, _ => decide
  | 5, _ => decide
  | s + 6, h => exact absurd h (by omega)
theorem Tok.eq {b ro : Nat} {σ τ σ' τ' : St} {j k : Nat} {s s1 : List Nat} (h : Tok b ro σ τ j k s s1) (e1 : gI σ' (b + 1) k = gI σ (b + 1) k) (e2 : gI σ' (b + 2) k = gI σ (b + 2) k) (e3 : gI σ' (b + 3) k = gI σ (b + 3) k) (e4 : gI σ (b + 1) k = 48 → gI σ' (b + 4) k = gI σ (b + 4) k) (f1 : gI τ' 10 (ro + j) = gI τ 10 (ro + j)) (f2 : gI τ' 11 (ro + j) = gI τ 11 (ro + j)) : Tok b ro σ' τ' j k s s1 := by
  unfold Tok at h ⊢
  rw [e1, e2, e3, f1, f2]
  rcases h with h | h | h
  · exact Or.inl ⟨h.1, h.2.1, (e4 h.2.1).trans h.2.2.1, h.2.2.2⟩
  · exact Or.inr (Or.inl h)
  · exact Or.inr (Or.inr h)
theorem Seg.eq {b ro : Nat} {σ τ σ' τ' : St} : ∀ {n j k : Nat} {s s' : List Nat}, Seg b ro σ τ n j k s s' → (∀ i, k ≤ i → i < k + n → gI σ' (b + 1) i = gI σ (b + 1) i ∧ gI σ' (b + 2) i = gI σ (b + 2) i ∧ gI σ' (b + 3) i = gI σ (b + 3) i ∧ (gI σ (b + 1) i = 48 → gI σ' (b + 4) i = gI σ (b + 4) i)) → (∀ i, j ≤ i → i < j + n → gI τ' 10 (ro + i) = gI τ 10 (ro + i) ∧ gI τ' 11 (ro + i) = gI τ 11 (ro + i)) → Seg b ro σ' τ' n j k s s'
  | 0, _, _, _, _, h, _, _ => h
  | n + 1, j, k, s, s', ⟨s1, h1, h2⟩, e, f => ⟨s1, h1.eq (e k (by omega) (by omega)).1 (e k (by omega) (by omega)).2.1 (e k (by omega) (by omega)).2.2.1 (e k (by omega) (by omega)).2.2.2 (f j (by omega) (by omega)).1 (f j (by omega) (by omega)).2, h2.eq (fun i a b => e i (by omega) (by omega)) (fun i a b => f i (by omega) (by omega))⟩
theorem Lin.eq {b ro lo : Nat} {σ τ σ' τ' : St} {l f k f' k' : Nat} (h : Lin b ro lo σ τ l f k f' k') (e : ∀ i, gI σ' (b + 1) i = gI σ (b + 1) i ∧ gI σ' (b + 2) i = gI σ (b + 2) i ∧ gI σ' (b + 3) i = gI σ (b + 3) i ∧ (gI σ (b + 1) i = 48 → gI σ' (b + 4) i = gI σ (b + 4) i)) (g : ∀ i, gI τ' 10 i = gI τ 10 i ∧ gI τ' 11 i = gI τ 11 i ∧ gI τ' 13 i = gI τ 13 i ∧ gI τ' 14 i = gI τ 14 i) : Lin b ro lo σ' τ' l f k f' k' := by
  obtain ⟨te, h1, h2, h3, h4, h5⟩ := h
  refine ⟨te, by rw [(g _).2.2.1]; exact h1, by rw [(g _).2.2.2]; exact h2, h3, h4, ?_⟩
  rcases h5 with ⟨h5, top, a1, a2, a3, a4, a5⟩ | ⟨h5, t1, t2, a1, a2, a3, a4, a5, a6, a7, a8, a9⟩
  · exact Or.inl ⟨h5, top, a1.eq (fun i _ _ => e i) (fun i _ _ => ⟨(g _).1, (g _).2.1⟩), by rw [(e _).1]; exact a2, by rw [(e _).2.1]; exact a3, by rw [(e _).2.2.1]; exact a4, a5⟩
  · exact Or.inr ⟨h5, t1, t2, a1.eq (fun i _ _ => e i) (fun i _ _ => ⟨(g _).1, (g _).2.1⟩), by rw [(e _).1]; exact a2, by rw [(e _).2.1]; exact a3, by rw [(e _).2.2.1]; exact a4, a5.eq (fun i _ _ => e i) (fun i _ _ => ⟨(g _).1, (g _).2.1⟩), by rw [(e _).1]; exact a6, by rw [(e _).2.1]; exact a7, by rw [(e _).2.2.1]; exact a8, a9⟩
theorem Lns.eq {b ro lo : Nat} {σ τ σ' τ' : St} (e : ∀ i, gI σ' (b + 1) i = gI σ (b + 1) i ∧ gI σ' (b + 2) i = gI σ (b + 2) i ∧ gI σ' (b + 3) i = gI σ (b + 3) i ∧ (gI σ (b + 1) i = 48 → gI σ' (b + 4) i = gI σ (b + 4) i)) (g : ∀ i, gI τ' 10 i = gI τ 10 i ∧ gI τ' 11 i = gI τ 11 i ∧ gI τ' 13 i = gI τ 13 i ∧ gI τ' 14 i = gI τ 14 i) : ∀ {m l f k fe ke : Nat}, Lns b ro lo σ τ m l f k fe ke → Lns b ro lo σ' τ' m l f k fe ke
  | 0, _, _, _, _, _, h => h
  | _ + 1, _, _, _, _, _, ⟨f', k', h1, h2⟩ => ⟨f', k', h1.eq e g, Lns.eq e g h2⟩
theorem Plaw.eq {σ τ σ' τ' : St} (h : Plaw σ τ) (hx : EqX σ σ') (hr : EqR τ τ') : Plaw σ' τ' := by
  unfold Plaw at h ⊢
  rw [hr.2 25 (by decide), hx.g 27 (by decide), hr.g 12 (by decide)]
  rcases h with h | ⟨h1, m, fe, ke, h2, h3, h4, h5, h6, h7, h8⟩
  · exact Or.inl h
  · exact Or.inr ⟨h1, m, fe, ke, h2, h3, h4, h5, h6, h7, h8.eq (fun i => ⟨hx.g 28 (by decide) i, hx.g 29 (by decide) i, hx.g 30 (by decide) i, hx.2 i⟩) (fun i => ⟨hr.g 10 (by decide) i, hr.g 11 (by decide) i, hr.g 13 (by decide) i, hr.g 14 (by decide) i⟩)⟩
theorem Inv.eq {σ τ σ' τ' : St} (h : Inv σ τ) (hx : EqX σ σ') (hr : EqR τ τ') : Inv σ' τ' := by
  obtain ⟨N, B, h1, h2, h3, h4, h5, h6, h7, h8, h9⟩ := h
  have x := fun c hc k => hx.g c hc k
  have r := fun c hc k => hr.g c hc k
  refine ⟨N, B, ?_, ?_, ?_, ?_, ?_, ?_, ?_, ?_, h9.eq hx hr⟩
  · unfold Pp at h1 ⊢
    simp only [x 4 (by decide), x 5 (by decide), r 1 (by decide), r 2 (by decide), r 3 (by decide), r 4 (by decide), hr.2 1 (by decide)]
    exact h1
  · unfold Pch Pc1 at h2 ⊢
    simp only [x 4 (by decide), x 6 (by decide), x 7 (by decide), x 8 (by decide), r 5 (by decide), r 6 (by decide), r 7 (by decide), r 8 (by decide), hr.2 6 (by decide), hr.2 7 (by decide)]
    exact h2
  · unfold Pb at h3 ⊢
    simp only [x 37 (by decide), x 38 (by decide), r 18 (by decide), hr.2 29 (by decide)]
    exact h3
  · unfold Pk at h4 ⊢
    simp only [x 0 (by decide), x 39 (by decide), x 40 (by decide), x 2 (by decide), r 27 (by decide), r 28 (by decide), hr.2 46 (by decide), hr.2 47 (by decide)]
    exact h4
  · unfold Pt at h5 ⊢
    simp only [x 1 (by decide), r 26 (by decide)]
    exact h5
  · unfold Ptp at h6 ⊢
    simp only [x 9 (by decide), x 10 (by decide), x 33 (by decide), r 9 (by decide), hr.2 13 (by decide)]
    exact h6
  · unfold Pa at h7 ⊢
    simp only [x 24 (by decide), x 25 (by decide), x 26 (by decide), r 29 (by decide), r 30 (by decide), hr.2 50 (by decide), hr.2 52 (by decide)]
    exact h7
  · intro s hs
    have h := h8 s hs
    simp only [x _ (shc hs).1, (hx.1 _ (shc hs).2 _).2, r 31 (by decide), r 32 (by decide), (hr.1 33 (by decide) _).2]
    exact h
