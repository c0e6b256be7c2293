/-! charges -/
def ag (A C : Nat → Nat) : Nat → Nat → Nat
  | 0, _ => 0
  | k + 1, a => if A k = a then ag A C k a ||| 2 ^ C k else ag A C k a
theorem pow7 : ∀ c, c < 7 → 2 ^ c < 128 := by decide
theorem ag_lt {A C : Nat → Nat} (a : Nat) : ∀ K, (∀ i, i < K → C i < 7) → ag A C K a < 128
  | 0, _ => by unfold ag; decide
  | k + 1, h => by
    have ih := ag_lt (A := A) (C := C) a k (fun i hi => h i (by omega))
    unfold ag
    split
    · exact Nat.or_lt_two_pow (n := 7) ih (pow7 _ (h k (by omega)))
    · exact ih
theorem ag_bit {A C : Nat → Nat} (a b : Nat) : ∀ K, (ag A C K a).testBit b = true ↔ ∃ i, i < K ∧ A i = a ∧ C i = b
  | 0 => by
    unfold ag
    simp
  | k + 1 => by
    have ih := ag_bit (A := A) (C := C) a b k
    unfold ag
    by_cases c : A k = a
    · rw [if_pos c, Nat.testBit_or, Bool.or_eq_true, ih, Nat.testBit_two_pow]
      constructor
      · rintro (⟨i, h1, h2⟩ | h)
        · exact ⟨i, by omega, h2⟩
        · exact ⟨k, by omega, c, of_decide_eq_true h⟩
      · rintro ⟨i, h1, h2, h3⟩
        by_cases e : i = k
        · subst e
          exact Or.inr (decide_eq_true h3)
        · exact Or.inl ⟨i, by omega, h2, h3⟩
    · rw [if_neg c, ih]
      constructor
      · rintro ⟨i, h1, h2⟩
        exact ⟨i, by omega, h2⟩
      · rintro ⟨i, h1, h2, h3⟩
        by_cases e : i = k
        · subst e
          exact absurd h2 c
        · exact ⟨i, by omega, h2, h3⟩
theorem b_or : ∀ m, m < 128 → ∀ b, b < 7 → nI m ||| ((1 : Int32) <<< (nI b &&& 31)) = nI (m ||| 2 ^ b) := by decide +kernel
theorem b_tst : ∀ m, m < 128 → ∀ b, b < 7 → (((nI m >>> (nI b &&& 31)) &&& (1 : Int32) = 1) ↔ m.testBit b = true) := by decide +kernel
theorem b_and : ∀ m, m < 128 → ∀ q, q < 128 → nI m &&& (nI q ^^^ (-1 : Int32)) = nI (m &&& (q ^^^ 127)) := by decide +kernel
theorem b_all : ∀ N, N < 8 → ((1 : Int32) <<< (nI N &&& 31)) - 1 = nI (2 ^ N - 1) := by decide +kernel
/-- the charges, as both hold them -/
def Dk (N K : Nat) (A C : Nat → Nat) (σ τ : St) : Prop := K ≤ 10 ∧ gI σ 18 2 = nI K ∧ gI τ 0 36 = nI K ∧ (∀ i, i < K → A i < N ∧ C i < N ∧ A i ≠ C i ∧ gI σ 19 i = nI (A i) ∧ gI σ 20 i = nI (C i) ∧ gI τ 22 i = nI (A i) ∧ gI τ 23 i = nI (C i)) ∧ ∀ a, a < 7 → gI σ 21 a = nI (ag A C K a)
theorem isPT {τ : St} {N : Nat} (hN : gI τ 0 1 = nI N) (h7 : N ≤ 7) {x y : Int32} (h : ¬ T2 N x y) (n : Nat) (E : St → Option (Unit × St)) : (bd (F_X12_isPerson n x τ) fun r7 s6 => if r7 = 0 then (some ((), s6)) else (bd (F_X12_isPerson n y s6) fun r9 s8 => if r9 = 0 then (some ((), s8)) else (if x = y then (some ((), s8)) else E s8))) = some ((), τ) := by
  rw [isP12 hN h7, bd_some, one0]
  by_cases c1 : 0 ≤ x.toInt ∧ x.toInt < N
  · rw [if_pos c1, isP12 hN h7, bd_some, one0]
    by_cases c2 : 0 ≤ y.toInt ∧ y.toInt < N
    · rw [if_pos c2]
      obtain ⟨a, ha, rfl⟩ := i_natlt c1.1 c1.2
      obtain ⟨c, hc, rfl⟩ := i_natlt c2.1 c2.2
      by_cases e : a = c
      · rw [if_pos (by rw [e])]
      · exact absurd ⟨a, c, ha, hc, e, rfl, rfl⟩ h
    · rw [if_neg c2]
  · rw [if_neg c1]
theorem n_m2 (k : Nat) : (2 : Int32) * nI k = nI (2 * k) := pk_mul 2 k
theorem tn_n {a : Nat} (h : a < 2147483648) : (nI a).toInt.toNat = a := by rw [i_n h]; rfl
theorem chgL {N s m : Nat} {r : Nat → Int32} {σ τ : St} (h1 : Pp N σ τ) (hs : s < 6) (hR : Rw s m r σ τ) : ∀ (j k : Nat) (σ' τ' : St), k + j = 10 → EqX σ σ' → EqR τ τ' → Dk N k (fun i => (r (2 * i)).toInt.toNat) (fun i => (r (2 * i + 1)).toInt.toNat) σ' τ' →
    ∃ (C0 K : Nat) (σ'' τ'' : St), (∀ n, C0 ≤ n → L_X4_read (63 + 2 * s) n 2 (nI k) σ' = some ((), σ'')) ∧ (∀ n, C0 ≤ n → L_X12_layCharges n 1 (nI s) (nI k) τ' = some ((), τ'')) ∧ EqX σ' σ'' ∧ EqR τ' τ'' ∧ Dk N K (fun i => (r (2 * i)).toInt.toNat) (fun i => (r (2 * i + 1)).toInt.toNat) σ'' τ''
  | 0, k, σ', τ', hk, hx, hr, hD => by
    obtain rfl : k = 10 := by omega
    have hR' := hR.eq hs hx hr
    refine ⟨1, 10, σ', τ', fun n hn => ?_, fun n hn => ?_, EqX.rf _, EqR.rf _, hD⟩
    · obtain ⟨n, rfl⟩ : ∃ q, n = q + 1 := ⟨n - 1, by omega⟩
      show B_X4_read_2 (L_X4_read (63 + 2 * s) n) n (63 + 2 * s) (nI 10) σ' = _
      unfold B_X4_read_2
      rw [if_pos (by decide)]
    · obtain ⟨n, rfl⟩ : ∃ q, n = q + 1 := ⟨n - 1, by omega⟩
      show B_X12_layCharges_1 (L_X12_layCharges n) n (nI s) (nI 10) τ' = _
      unfold B_X12_layCharges_1
      rw [gd_eq (v6 hs)]
      split
      · rfl
      · rw [if_pos (by decide)]
  | j + 1, k, σ', τ', hk, hx, hr, hD => by
    obtain ⟨a1, a2, a3, a4⟩ := id h1
    have hR' := hR.eq hs hx hr
    have m60 := hR.1
    have xN : gI σ' 4 1 = nI N := (hx.g 4 (by decide) 1).trans a2
    have tN : gI τ' 0 1 = nI N := (hr.2 1 (by decide)).trans a3
    have n10 : ¬ (10 : Int32) ≤ nI k := by rw [i_le, i_n (by omega), t10]; omega
    have EX : ∀ n, L_X4_read (63 + 2 * s) (n + 1) 2 (nI k) σ' = B_X4_read_2 (L_X4_read (63 + 2 * s) n) n (63 + 2 * s) (nI k) σ' := fun _ => rfl
    have ER : ∀ n, L_X12_layCharges (n + 1) 1 (nI s) (nI k) τ' = B_X12_layCharges_1 (L_X12_layCharges n) n (nI s) (nI k) τ' := fun _ => rfl
    have stop : (∀ n, B_X4_read_2 (L_X4_read (63 + 2 * s) n) n (63 + 2 * s) (nI k) σ' = some ((), σ')) → (∀ n, B_X12_layCharges_1 (L_X12_layCharges n) n (nI s) (nI k) τ' = some ((), τ')) → ∃ (C0 K : Nat) (σ'' τ'' : St), (∀ n, C0 ≤ n → L_X4_read (63 + 2 * s) n 2 (nI k) σ' = some ((), σ'')) ∧ (∀ n, C0 ≤ n → L_X12_layCharges n 1 (nI s) (nI k) τ' = some ((), τ'')) ∧ EqX σ' σ'' ∧ EqR τ' τ'' ∧ Dk N K (fun i => (r (2 * i)).toInt.toNat) (fun i => (r (2 * i + 1)).toInt.toNat) σ'' τ'' := fun q1 q2 => by
      refine ⟨1, k, σ', τ', fun n hn => ?_, fun n hn => ?_, EqX.rf _, EqR.rf _, hD⟩
      · obtain ⟨n, rfl⟩ : ∃ q, n = q + 1 := ⟨n - 1, by omega⟩
        rw [EX]
        exact q1 n
      · obtain ⟨n, rfl⟩ : ∃ q, n = q + 1 := ⟨n - 1, by omega⟩
        rw [ER]
        exact q2 n
    by_cases c : 2 * k + 2 ≤ m
    · have preX : ∀ (J : Nat → Int32 → St → Option (Unit × St)) n, B_X4_read_2 J n (63 + 2 * s) (nI k) σ' = bd (F_X6_areUnlike n (r (2 * k)) (r (2 * k + 1)) σ') fun r11 s10 => if r11 = 0 then (some ((), s10)) else (gd (vp_in (nI k) 10) (bnd (sI s10 19 (nI k).toNatClampNeg (r (2 * k))) fun s12 => gd (vp_in (nI k) 10) (bnd (sI s12 20 (nI k).toNatClampNeg (r (2 * k + 1))) fun s13 => gd (vp_in (r (2 * k)) 7) (gd (vp_in (r (2 * k)) 7) (bnd (sI s13 21 (r (2 * k)).toNatClampNeg ((gI s13 21 (r (2 * k)).toNatClampNeg) ||| ((1 : Int32) <<< (r (2 * k + 1) &&& 31)))) fun s14 => bnd (sI s14 18 2 ((gI s14 18 2) + (1 : Int32))) fun s15 => bnd (nI k + (1 : Int32)) fun x16 => J 2 x16 s15))))) := fun J n => by
        unfold B_X4_read_2 F_X10_size
        rw [if_neg n10, bd_some, hR'.2.1, n_m2, n_a2, if_neg (by rw [i_lt, i_n (by omega), i_n (by omega)]; omega), getX hR' (by omega), bd_some, n_a1, getX hR' (by omega), bd_some]
      have preR : ∀ (J : Nat → Int32 → Int32 → St → Option (Unit × St)) n, B_X12_layCharges_1 J n (nI s) (nI k) τ' = (bd (F_X12_isPerson n (r (2 * k)) τ') fun r7 s6 => if r7 = 0 then (some ((), s6)) else (bd (F_X12_isPerson n (r (2 * k + 1)) s6) fun r9 s8 => if r9 = 0 then (some ((), s8)) else (if r (2 * k) = r (2 * k + 1) then (some ((), s8)) else (gd (vp_in (nI k) 10) (bnd (sI s8 22 (nI k).toNatClampNeg (r (2 * k))) fun s10 => gd (vp_in (nI k) 10) (bnd (sI s10 23 (nI k).toNatClampNeg (r (2 * k + 1))) fun s11 => bnd (sI s11 0 36 ((gI s11 0 36) + (1 : Int32))) fun s12 => bnd (nI k + (1 : Int32)) fun x13 => J 1 (nI s) x13 s12)))))) := fun J n => by
        unfold B_X12_layCharges_1
        rw [gd_eq (v6 hs), nIc (by omega), hR'.2.2.1, n_m2, n_a1, if_neg (by rw [i_le, i_n (by omega), i_n (by omega)]; omega), if_neg n10, getR hs hR' (by omega), bd_some, getR hs hR' (by omega), bd_some]
      by_cases d : T2 N (r (2 * k)) (r (2 * k + 1))
      · obtain ⟨a, b, ha, hb, hab, f1, f2⟩ := d
        obtain ⟨d1, d2, d3, d4, d5⟩ := hD
        have vk : vp_in (nI k) 10 := nIin (by omega) (by decide)
        have va : vp_in (nI a) 7 := nIin (by omega) (by decide)
        have C7 : ∀ i, i < k → (r (2 * i + 1)).toInt.toNat < 7 := fun i hi => by have := (d4 i hi).2.1; dsimp only at this; omega
        have lg : ag (fun i => (r (2 * i)).toInt.toNat) (fun i => (r (2 * i + 1)).toInt.toNat) k a < 128 := ag_lt a k C7
        have hor := b_or _ lg b (by omega)
        let σ2 := sI (sI (sI (sI σ' 19 k (nI a)) 20 k (nI b)) 21 a (nI (ag (fun i => (r (2 * i)).toInt.toNat) (fun i => (r (2 * i + 1)).toInt.toNat) k a ||| 2 ^ b))) 18 2 (nI (k + 1))
        let τ2 := sI (sI (sI τ' 22 k (nI a)) 23 k (nI b)) 0 36 (nI (k + 1))
        have e2 : EqX σ' σ2 := (((EqX.ofI (by decide) (by decide)).trans (EqX.ofI (by decide) (by decide))).trans (EqX.ofI (by decide) (by decide))).trans (EqX.ofI (by decide) (by decide))
        have g2 : EqR τ' τ2 := ((EqR.ofI (by decide) (by decide)).trans (EqR.ofI (by decide) (by decide))).trans (EqR.of0 (by decide))
        have hA : (fun i => (r (2 * i)).toInt.toNat) k = a := by dsimp only; rw [f1, tn_n (by omega)]
        have hC : (fun i => (r (2 * i + 1)).toInt.toNat) k = b := by dsimp only; rw [f2, tn_n (by omega)]
        have hD2 : Dk N (k + 1) (fun i => (r (2 * i)).toInt.toNat) (fun i => (r (2 * i + 1)).toInt.toNat) σ2 τ2 := by
          refine ⟨by omega, rfl, rfl, fun i hi => ?_, fun x hx7 => ?_⟩
          · have s19 : gI σ2 19 i = if i = k then nI a else gI σ' 19 i := rfl
            have s20 : gI σ2 20 i = if i = k then nI b else gI σ' 20 i := rfl
            have s22 : gI τ2 22 i = if i = k then nI a else gI τ' 22 i := rfl
            have s23 : gI τ2 23 i = if i = k then nI b else gI τ' 23 i := rfl
            by_cases e : i = k
            · subst e
              rw [hA, hC, s19, s20, s22, s23, if_pos rfl, if_pos rfl, if_pos rfl, if_pos rfl]
              exact ⟨ha, hb, hab, rfl, rfl, rfl, rfl⟩
            · rw [s19, s20, s22, s23, if_neg e, if_neg e, if_neg e, if_neg e]
              exact d4 i (by omega)
          · have s21 : gI σ2 21 x = if x = a then nI (ag (fun i => (r (2 * i)).toInt.toNat) (fun i => (r (2 * i + 1)).toInt.toNat) k a ||| 2 ^ b) else gI σ' 21 x := rfl
            rw [s21]
            show _ = nI (if (fun i => (r (2 * i)).toInt.toNat) k = x then ag (fun i => (r (2 * i)).toInt.toNat) (fun i => (r (2 * i + 1)).toInt.toNat) k x ||| 2 ^ (fun i => (r (2 * i + 1)).toInt.toNat) k else ag (fun i => (r (2 * i)).toInt.toNat) (fun i => (r (2 * i + 1)).toInt.toNat) k x)
            rw [hA, hC]
            by_cases e : x = a
            · subst e
              rw [if_pos rfl, if_pos rfl]
            · rw [if_neg e, if_neg (fun h => e h.symm)]
              exact d5 x hx7
        obtain ⟨C0, K, σ3, τ3, w1, w2, w3, w4, w5⟩ := chgL h1 hs hR j (k + 1) σ2 τ2 (by omega) (hx.trans e2) (hr.trans g2) hD2
        refine ⟨C0 + 1, K, σ3, τ3, fun n hn => ?_, fun n hn => ?_, e2.trans w3, g2.trans w4, w5⟩
        · obtain ⟨n, rfl⟩ : ∃ q, n = q + 1 := ⟨n - 1, by omega⟩
          rw [EX, preX, f1, f2, unl6 xN a1 n (by omega) (by omega), if_pos ⟨ha, hb, hab⟩, bd_some, if_neg (by decide), gd_eq vk, bnd_eq, gd_eq vk, bnd_eq, gd_eq va, gd_eq va, bnd_eq, nIc (show k < 2147483648 by omega), nIc (show a < 2147483648 by omega), bnd_eq, n_a1, bnd_eq]
          rw [show gI (sI (sI σ' 19 k (nI a)) 20 k (nI b)) 21 a = gI σ' 21 a from rfl, d5 a (by omega), hor]
          rw [show gI (sI (sI (sI σ' 19 k (nI a)) 20 k (nI b)) 21 a (nI (ag (fun i => (r (2 * i)).toInt.toNat) (fun i => (r (2 * i + 1)).toInt.toNat) k a ||| 2 ^ b))) 18 2 = gI σ' 18 2 from rfl, d2, n_a1]
          exact w1 n (by omega)
        · obtain ⟨n, rfl⟩ : ∃ q, n = q + 1 := ⟨n - 1, by omega⟩
          rw [ER, preR, f1, f2, isP12 tN a1, bd_some, one0, if_pos (perI ha a1), isP12 tN a1, bd_some, one0, if_pos (perI hb a1), if_neg (by rw [nI_inj (by omega) (by omega)]; exact hab), gd_eq vk, bnd_eq, gd_eq vk, bnd_eq, bnd_eq, nIc (show k < 2147483648 by omega), n_a1, bnd_eq]
          rw [show gI (sI (sI τ' 22 k (nI a)) 23 k (nI b)) 0 36 = gI τ' 0 36 from rfl, d3, n_a1]
          exact w2 n (by omega)
      · refine stop (fun n => ?_) (fun n => ?_)
        · rw [preX, unl6G xN a1 d, bd_some, if_pos rfl]
        · rw [preR]
          exact isPT tN a1 d n _
    · refine stop (fun n => ?_) (fun n => ?_)
      · unfold B_X4_read_2 F_X10_size
        rw [if_neg n10, bd_some, hR'.2.1, n_m2, n_a2, if_pos (by rw [i_lt, i_n (by omega), i_n (by omega)]; omega)]
      · unfold B_X12_layCharges_1
        rw [gd_eq (v6 hs), nIc (by omega), hR'.2.2.1, n_m2, n_a1, if_pos (by rw [i_le, i_n (by omega), i_n (by omega)]; omega)]
theorem clrL (b1 : Nat) : ∀ (j i : Nat) (σ : St), i + j = 7 → ∃ σ', (∀ n, L_X4_read b1 (n + j + 1) 1 (nI i) σ = L_X4_read b1 n 2 0 σ') ∧ EqX σ σ' ∧ (∀ q, i ≤ q → q < 7 → gI σ' 21 q = 0) ∧ (∀ q, q < i → gI σ' 21 q = gI σ 21 q) ∧ ∀ c k, c ≠ 21 → gI σ' c k = gI σ c k
  | 0, i, σ, hi => by
    obtain rfl : i = 7 := by omega
    refine ⟨σ, fun n => ?_, EqX.rf _, fun q h1 h2 => by omega, fun _ _ => rfl, fun _ _ _ => rfl⟩
    show B_X4_read_1 (L_X4_read b1 n) n b1 (nI 7) σ = _
    unfold B_X4_read_1
    rw [if_pos (by decide)]
  | j + 1, i, σ, hi => by
    obtain ⟨σ', e1, e2, e3, e4, e5⟩ := clrL b1 j (i + 1) (sI σ 21 i 0) (by omega)
    refine ⟨σ', fun n => ?_, (EqX.ofI (by decide) (by decide)).trans e2, fun q h1 h2 => ?_, fun q hq => ?_, fun c k hc => by rw [e5 c k hc, gI_sI, if_neg hc]⟩
    · show B_X4_read_1 (L_X4_read b1 (n + j + 1)) (n + j + 1) b1 (nI i) σ = _
      unfold B_X4_read_1
      rw [if_neg (by rw [i_le, i_n (by omega), t7]; omega), gd_eq (nIin (by omega) (by decide)), nIc (by omega), bnd_eq, n_a1, bnd_eq]
      exact e1 n
    · by_cases c : q = i
      · subst c
        rw [e4 q (by omega), gI_sI, if_pos rfl, if_pos rfl]
      · exact e3 q (by omega) h2
    · rw [e4 q (by omega), gI_sI, if_pos rfl, if_neg (by omega)]
theorem chgXR {N s m : Nat} {r : Nat → Int32} {σ τ : St} (h1 : Pp N σ τ) (hs : s < 6) (hR : Rw s m r σ τ) : ∃ (C0 K : Nat) (A C : Nat → Nat) (σ'' τ'' : St), (∀ n, C0 ≤ n → F_X4_read n (63 + 2 * s) σ = some ((), σ'')) ∧ (∀ n, C0 ≤ n → F_X12_layCharges n (nI s) τ = some ((), τ'')) ∧ EqX σ σ'' ∧ EqR τ τ'' ∧ Dk N K A C σ'' τ'' := by
  obtain ⟨σ1, e1, e2, e3, e4, e5⟩ := clrL (63 + 2 * s) 7 0 (sI σ 18 2 0) rfl
  have x1 : EqX σ σ1 := (EqX.ofI (by decide) (by decide)).trans e2
  have r1 : EqR τ (sI τ 0 36 0) := EqR.of0 (by decide)
  obtain ⟨C0, K, σ2, τ2, w1, w2, w3, w4, w5⟩ := chgL h1 hs hR 10 0 σ1 (sI τ 0 36 0) rfl x1 r1 ⟨by omega, by rw [e5 18 2 (by decide), gI_sI, if_pos rfl, if_pos rfl]; rfl, rfl, fun i hi => by omega, fun a ha => by rw [e3 a (by omega) ha]; rfl⟩
  refine ⟨C0 + 8, K, _, _, σ2, τ2, fun n hn => ?_, fun n hn => ?_, x1.trans w3, r1.trans w4, w5⟩
  · obtain ⟨n, rfl⟩ : ∃ q, n = q + 7 + 1 := ⟨n - 8, by omega⟩
    exact (e1 n).trans (w1 n (by omega))
  · exact w2 n (by omega)
theorem hasX {N K : Nat} {A C : Nat → Nat} {σ τ : St} (h7 : N ≤ 7) (h : Dk N K A C σ τ) {a b : Nat} (ha : a < 7) (hb : b < 7) (n : Nat) : F_X4_hasCharge n (nI a) (nI b) σ = some (if (ag A C K a).testBit b = true then 1 else 0, σ) := by
  obtain ⟨d1, d2, d3, d4, d5⟩ := h
  have lg : ag A C K a < 128 := ag_lt a K (fun i hi => by have := (d4 i hi).2.1; omega)
  unfold F_X4_hasCharge
  rw [gd_eq (nIin ha (by decide)), nIc (by omega), d5 a ha]
  by_cases c : (ag A C K a).testBit b = true
  · rw [if_pos ((b_tst _ lg b hb).mpr c), if_pos c]
  · rw [if_neg (fun e => c ((b_tst _ lg b hb).mp e)), if_neg c]
theorem isCL {N K : Nat} {A C : Nat → Nat} {σ τ : St} (h7 : N ≤ 7) (h : Dk N K A C σ τ) {a b : Nat} (ha : a < 7) (hb : b < 7) : ∀ (j k : Nat), k + j = K → ((∃ i, k ≤ i ∧ i < K ∧ A i = a ∧ C i = b) ∧ ∀ n, j + 1 ≤ n → L_X12_isCharged n 1 (nI a) (nI b) (nI k) τ = some (1, τ)) ∨ ((¬ ∃ i, k ≤ i ∧ i < K ∧ A i = a ∧ C i = b) ∧ ∀ n, j + 1 ≤ n → L_X12_isCharged n 1 (nI a) (nI b) (nI k) τ = some (0, τ))
  | 0, k, hk => by
    obtain ⟨d1, d2, d3, d4, d5⟩ := h
    refine Or.inr ⟨fun ⟨i, h1, h2, _⟩ => by omega, fun n hn => ?_⟩
    obtain ⟨n, rfl⟩ : ∃ q, n = q + 1 := ⟨n - 1, by omega⟩
    show B_X12_isCharged_1 (L_X12_isCharged n) n (nI a) (nI b) (nI k) τ = _
    unfold B_X12_isCharged_1
    rw [d3, if_pos (by rw [i_le, i_n (by omega), i_n (by omega)]; omega)]
  | j + 1, k, hk => by
    have ih := isCL h7 h ha hb j (k + 1) (by omega)
    obtain ⟨d1, d2, d3, d4, d5⟩ := id h
    obtain ⟨q1, q2, q3, q4, q5, q6, q7⟩ := d4 k (by omega)
    have pre : ∀ (J : Nat → Int32 → Int32 → Int32 → St → Option (Int32 × St)) n, B_X12_isCharged_1 J n (nI a) (nI b) (nI k) τ = if A k = a ∧ C k = b then some (1, τ) else J 1 (nI a) (nI b) (nI (k + 1)) τ := fun J n => by
      unfold B_X12_isCharged_1
      have vk : vp_in (nI k) 10 := nIin (by omega) (by decide)
      rw [d3, if_neg (by rw [i_le, i_n (by omega), i_n (by omega)]; omega), gd_eq vk, nIc (by omega), q6, q7]
      simp only [gd_eq vk, nI_inj (show A k < 2147483648 by omega) (show a < 2147483648 by omega), nI_inj (show C k < 2147483648 by omega) (show b < 2147483648 by omega), bnd_eq, n_a1]
      by_cases c1 : A k = a
      · by_cases c2 : C k = b
        · rw [if_pos c1, if_pos c2, if_pos ⟨c1, c2⟩]
        · rw [if_pos c1, if_neg c2, if_neg (fun h => c2 h.2)]
      · rw [if_neg c1, if_neg (fun h => c1 h.1)]
    have ER : ∀ n, L_X12_isCharged (n + 1) 1 (nI a) (nI b) (nI k) τ = B_X12_isCharged_1 (L_X12_isCharged n) n (nI a) (nI b) (nI k) τ := fun _ => rfl
    by_cases c : A k = a ∧ C k = b
    · refine Or.inl ⟨⟨k, by omega, by omega, c.1, c.2⟩, fun n hn => ?_⟩
      obtain ⟨n, rfl⟩ : ∃ q, n = q + 1 := ⟨n - 1, by omega⟩
      rw [ER, pre, if_pos c]
    · rcases ih with ⟨⟨i, i1, i2, i3⟩, i4⟩ | ⟨i1, i4⟩
      · refine Or.inl ⟨⟨i, by omega, i2, i3⟩, fun n hn => ?_⟩
        obtain ⟨n, rfl⟩ : ∃ q, n = q + 1 := ⟨n - 1, by omega⟩
        rw [ER, pre, if_neg c]
        exact i4 n (by omega)
      · refine Or.inr ⟨fun ⟨i, h1, h2, h3, h4⟩ => ?_, fun n hn => ?_⟩
        · by_cases e : i = k
          · subst e
            exact c ⟨h3, h4⟩
          · exact i1 ⟨i, by omega, h2, h3, h4⟩
        · obtain ⟨n, rfl⟩ : ∃ q, n = q + 1 := ⟨n - 1, by omega⟩
          rw [ER, pre, if_neg c]
          exact i4 n (by omega)
theorem isCR {N K : Nat} {A C : Nat → Nat} {σ τ : St} (h7 : N ≤ 7) (h : Dk N K A C σ τ) {a b : Nat} (ha : a < 7) (hb : b < 7) (n : Nat) (hn : 11 ≤ n) : F_X12_isCharged n (nI a) (nI b) τ = some (if (ag A C K a).testBit b = true then 1 else 0, τ) := by
  have k10 := h.1
  have hb' := ag_bit (A := A) (C := C) a b K
  rcases isCL h7 h ha hb K 0 (by omega) with ⟨⟨i, i1, i2, i3⟩, i4⟩ | ⟨i1, i4⟩
  · rw [if_pos (hb'.mpr ⟨i, i2, i3⟩)]
    exact i4 n (by omega)
  · rw [if_neg (fun e => by obtain ⟨i, j1, j2⟩ := hb'.mp e; exact i1 ⟨i, by omega, j1, j2⟩)]
    exact i4 n (by omega)
