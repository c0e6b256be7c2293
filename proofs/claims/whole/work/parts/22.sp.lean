set_option maxRecDepth 20000 in
theorem sp_of {args : Array Value} {s : State} (hts : ∀ w ∈ lw_tbl, w.before args s = true) (hgv : (Jvm.Cond.and given_1 narrow_1).before args s = true) : SP (fun q : Nat => s.heap.size ≤ q) s s.heap := by
  have hs := flat_of_before _ hgv
  have hA : ∀ a : Nat, a < s.heap.size → ¬ (fun q : Nat => s.heap.size ≤ q) a := fun a h => Nat.not_le.mpr h
  have hl0 : (Cond.laysStatic "MustDefendHim$Folk" "HIGHEST" "[I").before args s = true := hts _ (by decide +kernel)
  have hi0 : (Cond.initialized "MustDefendHim$Folk").before args s = true := hts _ (by decide +kernel)
  have ha0 : (Cond.arrayOf (.static "MustDefendHim$Folk" "HIGHEST" "[I") .int).before args s = true := hs _ (by decide +kernel)
  have hn0 : (Cond.eq (.length (.static "MustDefendHim$Folk" "HIGHEST" "[I")) (.int 4)).before args s = true := hs _ (by decide +kernel)
  have he0_0 : (Cond.eq (.elem (.static "MustDefendHim$Folk" "HIGHEST" "[I") (.int 0)) (.int 9)).before args s = true := hs _ (by decide +kernel)
  have he0_1 : (Cond.eq (.elem (.static "MustDefendHim$Folk" "HIGHEST" "[I") (.int 1)) (.int 9)).before args s = true := hs _ (by decide +kernel)
  have he0_2 : (Cond.eq (.elem (.static "MustDefendHim$Folk" "HIGHEST" "[I") (.int 2)) (.int 6)).before args s = true := hs _ (by decide +kernel)
  have he0_3 : (Cond.eq (.elem (.static "MustDefendHim$Folk" "HIGHEST" "[I") (.int 3)) (.int 99)).before args s = true := hs _ (by decide +kernel)
  obtain ⟨t0, ht0, hT0⟩ := va_Tof (N := 4) (f := fun j => .int (st_hi j)) (A := fun q : Nat => s.heap.size ≤ q) (by decide) ha0 (va_eqt hn0) (fun j hj => by
    match j, hj with
    | 0, _ => exact va_eqt he0_0
    | 1, _ => exact va_eqt he0_1
    | 2, _ => exact va_eqt he0_2
    | 3, _ => exact va_eqt he0_3
    | j + 4, h => exact absurd h (by omega)) hA
  have hl1 : (Cond.laysStatic "MustDefendHim$Acts" "ABOVE" "[I").before args s = true := hts _ (by decide +kernel)
  have hi1 : (Cond.initialized "MustDefendHim$Acts").before args s = true := hts _ (by decide +kernel)
  have ha1 : (Cond.arrayOf (.static "MustDefendHim$Acts" "ABOVE" "[I") .int).before args s = true := hs _ (by decide +kernel)
  have hn1 : (Cond.eq (.length (.static "MustDefendHim$Acts" "ABOVE" "[I")) (.int 8)).before args s = true := hs _ (by decide +kernel)
  have he1_0 : (Cond.eq (.elem (.static "MustDefendHim$Acts" "ABOVE" "[I") (.int 0)) (.int (-1))).before args s = true := hs _ (by decide +kernel)
  have he1_1 : (Cond.eq (.elem (.static "MustDefendHim$Acts" "ABOVE" "[I") (.int 1)) (.int 0)).before args s = true := hs _ (by decide +kernel)
  have he1_2 : (Cond.eq (.elem (.static "MustDefendHim$Acts" "ABOVE" "[I") (.int 2)) (.int 0)).before args s = true := hs _ (by decide +kernel)
  have he1_3 : (Cond.eq (.elem (.static "MustDefendHim$Acts" "ABOVE" "[I") (.int 3)) (.int 2)).before args s = true := hs _ (by decide +kernel)
  have he1_4 : (Cond.eq (.elem (.static "MustDefendHim$Acts" "ABOVE" "[I") (.int 4)) (.int 1)).before args s = true := hs _ (by decide +kernel)
  have he1_5 : (Cond.eq (.elem (.static "MustDefendHim$Acts" "ABOVE" "[I") (.int 5)) (.int 3)).before args s = true := hs _ (by decide +kernel)
  have he1_6 : (Cond.eq (.elem (.static "MustDefendHim$Acts" "ABOVE" "[I") (.int 6)) (.int 0)).before args s = true := hs _ (by decide +kernel)
  have he1_7 : (Cond.eq (.elem (.static "MustDefendHim$Acts" "ABOVE" "[I") (.int 7)) (.int 6)).before args s = true := hs _ (by decide +kernel)
  obtain ⟨t1, ht1, hT1⟩ := va_Tof (N := 8) (f := fun j => .int (st_ab j)) (A := fun q : Nat => s.heap.size ≤ q) (by decide) ha1 (va_eqt hn1) (fun j hj => by
    match j, hj with
    | 0, _ => exact va_eqt he1_0
    | 1, _ => exact va_eqt he1_1
    | 2, _ => exact va_eqt he1_2
    | 3, _ => exact va_eqt he1_3
    | 4, _ => exact va_eqt he1_4
    | 5, _ => exact va_eqt he1_5
    | 6, _ => exact va_eqt he1_6
    | 7, _ => exact va_eqt he1_7
    | j + 8, h => exact absurd h (by omega)) hA
  have hl2 : (Cond.laysStatic "MustDefendHim$Acts" "OWN" "[I").before args s = true := hts _ (by decide +kernel)
  have hi2 : (Cond.initialized "MustDefendHim$Acts").before args s = true := hts _ (by decide +kernel)
  have ha2 : (Cond.arrayOf (.static "MustDefendHim$Acts" "OWN" "[I") .int).before args s = true := hs _ (by decide +kernel)
  have hn2 : (Cond.eq (.length (.static "MustDefendHim$Acts" "OWN" "[I")) (.int 32)).before args s = true := hs _ (by decide +kernel)
  have he2_0 : (Cond.eq (.elem (.static "MustDefendHim$Acts" "OWN" "[I") (.int 0)) (.int 1)).before args s = true := hs _ (by decide +kernel)
  have he2_1 : (Cond.eq (.elem (.static "MustDefendHim$Acts" "OWN" "[I") (.int 1)) (.int 10)).before args s = true := hs _ (by decide +kernel)
  have he2_2 : (Cond.eq (.elem (.static "MustDefendHim$Acts" "OWN" "[I") (.int 2)) (.int 11)).before args s = true := hs _ (by decide +kernel)
  have he2_3 : (Cond.eq (.elem (.static "MustDefendHim$Acts" "OWN" "[I") (.int 3)) (.int 2)).before args s = true := hs _ (by decide +kernel)
  have he2_4 : (Cond.eq (.elem (.static "MustDefendHim$Acts" "OWN" "[I") (.int 4)) (.int 20)).before args s = true := hs _ (by decide +kernel)
  have he2_5 : (Cond.eq (.elem (.static "MustDefendHim$Acts" "OWN" "[I") (.int 5)) (.int 0)).before args s = true := hs _ (by decide +kernel)
  have he2_6 : (Cond.eq (.elem (.static "MustDefendHim$Acts" "OWN" "[I") (.int 6)) (.int 0)).before args s = true := hs _ (by decide +kernel)
  have he2_7 : (Cond.eq (.elem (.static "MustDefendHim$Acts" "OWN" "[I") (.int 7)) (.int 0)).before args s = true := hs _ (by decide +kernel)
  have he2_8 : (Cond.eq (.elem (.static "MustDefendHim$Acts" "OWN" "[I") (.int 8)) (.int 0)).before args s = true := hs _ (by decide +kernel)
  have he2_9 : (Cond.eq (.elem (.static "MustDefendHim$Acts" "OWN" "[I") (.int 9)) (.int 30)).before args s = true := hs _ (by decide +kernel)
  have he2_10 : (Cond.eq (.elem (.static "MustDefendHim$Acts" "OWN" "[I") (.int 10)) (.int 0)).before args s = true := hs _ (by decide +kernel)
  have he2_11 : (Cond.eq (.elem (.static "MustDefendHim$Acts" "OWN" "[I") (.int 11)) (.int 0)).before args s = true := hs _ (by decide +kernel)
  have he2_12 : (Cond.eq (.elem (.static "MustDefendHim$Acts" "OWN" "[I") (.int 12)) (.int 0)).before args s = true := hs _ (by decide +kernel)
  have he2_13 : (Cond.eq (.elem (.static "MustDefendHim$Acts" "OWN" "[I") (.int 13)) (.int 41)).before args s = true := hs _ (by decide +kernel)
  have he2_14 : (Cond.eq (.elem (.static "MustDefendHim$Acts" "OWN" "[I") (.int 14)) (.int 40)).before args s = true := hs _ (by decide +kernel)
  have he2_15 : (Cond.eq (.elem (.static "MustDefendHim$Acts" "OWN" "[I") (.int 15)) (.int 0)).before args s = true := hs _ (by decide +kernel)
  have he2_16 : (Cond.eq (.elem (.static "MustDefendHim$Acts" "OWN" "[I") (.int 16)) (.int 0)).before args s = true := hs _ (by decide +kernel)
  have he2_17 : (Cond.eq (.elem (.static "MustDefendHim$Acts" "OWN" "[I") (.int 17)) (.int 0)).before args s = true := hs _ (by decide +kernel)
  have he2_18 : (Cond.eq (.elem (.static "MustDefendHim$Acts" "OWN" "[I") (.int 18)) (.int 0)).before args s = true := hs _ (by decide +kernel)
  have he2_19 : (Cond.eq (.elem (.static "MustDefendHim$Acts" "OWN" "[I") (.int 19)) (.int 50)).before args s = true := hs _ (by decide +kernel)
  have he2_20 : (Cond.eq (.elem (.static "MustDefendHim$Acts" "OWN" "[I") (.int 20)) (.int 0)).before args s = true := hs _ (by decide +kernel)
  have he2_21 : (Cond.eq (.elem (.static "MustDefendHim$Acts" "OWN" "[I") (.int 21)) (.int 0)).before args s = true := hs _ (by decide +kernel)
  have he2_22 : (Cond.eq (.elem (.static "MustDefendHim$Acts" "OWN" "[I") (.int 22)) (.int 60)).before args s = true := hs _ (by decide +kernel)
  have he2_23 : (Cond.eq (.elem (.static "MustDefendHim$Acts" "OWN" "[I") (.int 23)) (.int 61)).before args s = true := hs _ (by decide +kernel)
  have he2_24 : (Cond.eq (.elem (.static "MustDefendHim$Acts" "OWN" "[I") (.int 24)) (.int 70)).before args s = true := hs _ (by decide +kernel)
  have he2_25 : (Cond.eq (.elem (.static "MustDefendHim$Acts" "OWN" "[I") (.int 25)) (.int 0)).before args s = true := hs _ (by decide +kernel)
  have he2_26 : (Cond.eq (.elem (.static "MustDefendHim$Acts" "OWN" "[I") (.int 26)) (.int 0)).before args s = true := hs _ (by decide +kernel)
  have he2_27 : (Cond.eq (.elem (.static "MustDefendHim$Acts" "OWN" "[I") (.int 27)) (.int 0)).before args s = true := hs _ (by decide +kernel)
  have he2_28 : (Cond.eq (.elem (.static "MustDefendHim$Acts" "OWN" "[I") (.int 28)) (.int 81)).before args s = true := hs _ (by decide +kernel)
  have he2_29 : (Cond.eq (.elem (.static "MustDefendHim$Acts" "OWN" "[I") (.int 29)) (.int 80)).before args s = true := hs _ (by decide +kernel)
  have he2_30 : (Cond.eq (.elem (.static "MustDefendHim$Acts" "OWN" "[I") (.int 30)) (.int 0)).before args s = true := hs _ (by decide +kernel)
  have he2_31 : (Cond.eq (.elem (.static "MustDefendHim$Acts" "OWN" "[I") (.int 31)) (.int 0)).before args s = true := hs _ (by decide +kernel)
  obtain ⟨t2, ht2, hT2⟩ := va_Tof (N := 32) (f := fun j => .int (st_ow j)) (A := fun q : Nat => s.heap.size ≤ q) (by decide) ha2 (va_eqt hn2) (fun j hj => by
    match j, hj with
    | 0, _ => exact va_eqt he2_0
    | 1, _ => exact va_eqt he2_1
    | 2, _ => exact va_eqt he2_2
    | 3, _ => exact va_eqt he2_3
    | 4, _ => exact va_eqt he2_4
    | 5, _ => exact va_eqt he2_5
    | 6, _ => exact va_eqt he2_6
    | 7, _ => exact va_eqt he2_7
    | 8, _ => exact va_eqt he2_8
    | 9, _ => exact va_eqt he2_9
    | 10, _ => exact va_eqt he2_10
    | 11, _ => exact va_eqt he2_11
    | 12, _ => exact va_eqt he2_12
    | 13, _ => exact va_eqt he2_13
    | 14, _ => exact va_eqt he2_14
    | 15, _ => exact va_eqt he2_15
    | 16, _ => exact va_eqt he2_16
    | 17, _ => exact va_eqt he2_17
    | 18, _ => exact va_eqt he2_18
    | 19, _ => exact va_eqt he2_19
    | 20, _ => exact va_eqt he2_20
    | 21, _ => exact va_eqt he2_21
    | 22, _ => exact va_eqt he2_22
    | 23, _ => exact va_eqt he2_23
    | 24, _ => exact va_eqt he2_24
    | 25, _ => exact va_eqt he2_25
    | 26, _ => exact va_eqt he2_26
    | 27, _ => exact va_eqt he2_27
    | 28, _ => exact va_eqt he2_28
    | 29, _ => exact va_eqt he2_29
    | 30, _ => exact va_eqt he2_30
    | 31, _ => exact va_eqt he2_31
    | j + 32, h => exact absurd h (by omega)) hA
  have hlz : (Cond.laysStatic "java/lang/String" "COMPACT_STRINGS" "Z").before args s = true := hts _ (by decide +kernel)
  have hiz : (Cond.initialized "java/lang/String").before args s = true := hts _ (by decide +kernel)
  have hez : (Cond.eq (.static "java/lang/String" "COMPACT_STRINGS" "Z") (.int 1)).before args s = true := hs _ (by decide +kernel)
  have hk_x : (Cond.exactly (.string "MustDefendHim$LawReader" 84) "java/lang/String").before args s = true := hs _ (by decide +kernel)
  have hk_c : (Cond.eq (.field (.string "MustDefendHim$LawReader" 84) "java/lang/String" "coder" "B") (.int 0)).before args s = true := hs _ (by decide +kernel)
  have hk_a : (Cond.arrayOf (.field (.string "MustDefendHim$LawReader" 84) "java/lang/String" "value" "[B") .byte).before args s = true := hs _ (by decide +kernel)
  have hk_l : (Cond.eq (.length (.field (.string "MustDefendHim$LawReader" 84) "java/lang/String" "value" "[B")) (.int 6)).before args s = true := hs _ (by decide +kernel)
  have hk_e0 : (Cond.eq (.elem (.field (.string "MustDefendHim$LawReader" 84) "java/lang/String" "value" "[B") (.int 0)) (.int 97)).before args s = true := hs _ (by decide +kernel)
  have hk_e1 : (Cond.eq (.elem (.field (.string "MustDefendHim$LawReader" 84) "java/lang/String" "value" "[B") (.int 1)) (.int 100)).before args s = true := hs _ (by decide +kernel)
  have hk_e2 : (Cond.eq (.elem (.field (.string "MustDefendHim$LawReader" 84) "java/lang/String" "value" "[B") (.int 2)) (.int 111)).before args s = true := hs _ (by decide +kernel)
  have hk_e3 : (Cond.eq (.elem (.field (.string "MustDefendHim$LawReader" 84) "java/lang/String" "value" "[B") (.int 3)) (.int 104)).before args s = true := hs _ (by decide +kernel)
  have hk_e4 : (Cond.eq (.elem (.field (.string "MustDefendHim$LawReader" 84) "java/lang/String" "value" "[B") (.int 4)) (.int 98)).before args s = true := hs _ (by decide +kernel)
  have hk_e5 : (Cond.eq (.elem (.field (.string "MustDefendHim$LawReader" 84) "java/lang/String" "value" "[B") (.int 5)) (.int 110)).before args s = true := hs _ (by decide +kernel)
  have heq : (Cond.eq (.string "MustDefendHim$Court" 11) (.string "MustDefendHim$LawReader" 84)).before args s = true := hs _ (by decide +kernel)
  obtain ⟨adK, adV, hkS, hkE⟩ := vk_Sof (args := args) (s := s) (N := 1) (tm := fun _ => (.string "MustDefendHim$LawReader" 84)) (len := [6]) (byt := [[97, 100, 111, 104, 98, 110]]) (A := fun q : Nat => s.heap.size ≤ q) (fun i hi => by
    match i, hi with
    | 0, _ => decide) (fun i hi => hk_x) (fun i hi => hk_c) (fun i hi => hk_a) (fun i hi => by
    match i, hi with
    | 0, _ => exact hk_l) (fun i hi j hj => by
    match i, hi with
    | 0, _ =>
      match j, hj with
      | 0, _ => exact hk_e0
      | 1, _ => exact hk_e1
      | 2, _ => exact hk_e2
      | 3, _ => exact hk_e3
      | 4, _ => exact hk_e4
      | 5, _ => exact hk_e5
      | j + 6, h => exact absurd h (by simp [List.getD])) (fun i j hi hj hij => absurd (show i = j by omega) hij) hA
  have hr1 : (Cond.stringRef "MustDefendHim$LawReader" 84 "adohbn").before args s = true := hts _ (by decide +kernel)
  have hr2 : (Cond.stringRef "MustDefendHim$Court" 11 "adohbn").before args s = true := hts _ (by decide +kernel)
  have ev1 := hkE 0 (by decide)
  have ev2 : (Term.string "MustDefendHim$Court" 11).eval args s none [] s = some (.ref (adK 0)) := va_eqv heq ev1
  have hS1 : vk_S 1 [6] [[97, 100, 111, 104, 98, 110]] (fun _ => adK 0) (fun _ => adV 0) (fun q : Nat => s.heap.size ≤ q) s s.heap := ⟨fun i hi => by
    match i, hi with
    | 0, _ => exact hkS.1 0 (by decide), fun i j hi hj _ => by omega⟩
  exact ⟨⟨t0, va_Zref hl0 hi0 ht0 hA, hT0⟩, ⟨t1, va_Zref hl1 hi1 ht1 hA, hT1⟩, ⟨t2, va_Zref hl2 hi2 ht2 hA, hT2⟩, ⟨adK 0, adV 0, vk_R.of (A := args) hr1 ev1, vk_R.of (A := args) hr2 ev2, hS1⟩, va_Zof hlz hiz (va_eqi hez) hA⟩
theorem nx_of {args : Array Value} {s : State} (hts : ∀ w ∈ lw_tbl, w.before args s = true) : NX s := ⟨va_Nw.of rfl (hts (.methodLinkNest RX11 9 yX6_init "MustDefendHim") (by decide +kernel)), va_Nw.of rfl (hts (.methodLinkNest RX11 18 yX7_init "MustDefendHim") (by decide +kernel)), va_Nw.of rfl (hts (.methodLinkNest RX11 25 yX8_init "MustDefendHim") (by decide +kernel)), va_Nw.of rfl (hts (.methodLinkNest RX8 24 yX7_init "MustDefendHim") (by decide +kernel)), va_Nw.of rfl (hts (.methodLinkNest RX11 78 yX4_init "MustDefendHim") (by decide +kernel)), va_Nw.of rfl (hts (.methodLinkNest RX11 92 yX0_init "MustDefendHim") (by decide +kernel)), va_Nw.of rfl (hts (.methodLinkNest RX11 103 yX10_init "MustDefendHim") (by decide +kernel)), va_AO.of (hts (.arrayOver (.object "MustDefendHim$Bench")) (by decide +kernel)), va_AO.of (hts (.arrayOver (.object "MustDefendHim$Shelf")) (by decide +kernel))⟩
