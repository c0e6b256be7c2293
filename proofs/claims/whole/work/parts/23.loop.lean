def R_law : String := "MustDefendHimLaw"
def lw_P (b : Addr) (xs : List Int32) (args : Array Value) (s : State) : Prop := args = #[.ref b] ∧ s.IntsAt b xs ∧ xs.length ≤ 3072 ∧ (Jvm.Cond.and given_1 narrow_1).before args s = true
def lw_Q (_ : Array Value) (s : State) (o : Outcome) (t : State) : Prop := o = .returned (some (.int 1)) ∧ Framed s o t [] 600000 7302250
def lw_Z (below : List Frame) (a : Array Value) (s : State) : State → Prop := fun t => ∃ o, t.status = .running ∧ Ended t below o ∧ lw_Q a s o t
/-- the law's own end, with 1 on the stack, nothing written that was there before, its room as the claim has it -/
theorem lw_ret {p : Program} {l : Launch} {e : Env} {s : State} {m : MethodId} {below : List Frame} {meth : Method} {c : Code} {b : Nat} (hx : p.tables.exec = Jvm.exec) (hb : c.code = code) (hr : meth.sig.returnType = ret) (hlocks : meth.locks = false) {pc : Nat} {H : Heap} {ls : Array Slot} (hdg : decode code pc = .ok (.ireturn, 1)) : W p l e room_1 s m #[Value.ref b] below meth c H [] 600000 7302250 (lw_Z below #[Value.ref b] s) (F0 m pc ls [.int 1]) := by
  intro T hT X
  obtain ⟨fs, hret, hrun, hended, hW, hframe⟩ := X.leave (v := some (.int 1)) (hlocks := hlocks) (fun h => by rw [hr] at h; cases h)
  have hmeth' : T.vm.method? m = some meth := X.method'
  refine ⟨T.setFrames fs, ?_, .returned (some (.int 1)), hrun, hended, rfl, ⟨_, rfl⟩, hW, hframe⟩
  jvm_step X.here [X.here.top, hx, hb, hdg, hmeth', hr, ret, narrow_b1]
  (try refine ⟨rfl, ?_⟩); (try refine ⟨rfl, ?_⟩)
  first | (intro acts; rw [hret _ acts rfl rfl rfl]) | rw [hret _ _ rfl rfl rfl]
  exact Steps.refl _
/-- what holds at the law's entry: the machine, the code, the tables' words (any of lw_tbl by 'hts w (by decide +kernel)'), the script of L ints xs at the cell b, what the Statement gives of the start (any of its parts by flat_of_before) -/
def lw_At (p : Program) (s : State) (m : MethodId) (meth : Method) (c : Code) (b L : Nat) (xs : Nat → Int32) : Prop :=
  p.tables.exec = Jvm.exec ∧ c.code = code ∧ meth.sig.returnType = ret ∧ c.maxLocals = 4 ∧ s.vm.findClass R_law = some m.cls ∧ (∀ w ∈ lw_tbl, w.before #[Value.ref b] s = true) ∧ va_X b L xs s s.heap ∧ b < s.heap.size ∧ meth.locks = false ∧ (Jvm.Cond.and given_1 narrow_1).before #[Value.ref b] s = true

theorem nI_sub6 {L j : Nat} (hL : L ≤ 3072) (hj : j < 4000) : nI L - 6 < nI j ↔ L < j + 6 := by
  have e : (nI L - 6).toInt = (L : Int) - 6 := pk_sub_toInt (a := L) (b := 6) (by omega) (by omega)
  rw [Int32.lt_iff_toInt_lt, e, nI_toInt (by omega)]
  omega
theorem law_end (l : Launch) {p : Program} {e : Env} {s : State} {m : MethodId} {below : List Frame} {meth : Method} {c : Code} {b L : Nat} {xs : Nat → Int32} {D : va_G} {adX adR : Nat → Nat} {dX dR : Nat → ClassId} (hr : meth.sig.returnType = ret) (hlocks : meth.locks = false) (K : CL p s m #[Value.ref b] c b L xs D adX dX adR dR) (lv : List (Nat × Value)) (σ τ : St) : VL p l e s m #[Value.ref b] below meth c D adX dX adR dR (lw_Z below #[Value.ref b] s) 1436 lv [] σ τ := by
  refine l_iconst (v := 1) K dL_law_1436 (by decide) ?_
  intro H locs ls hX hR hS h
  exact va_forget hS.2.2 (lw_ret K.1 K.2.1 hr hlocks dL_law_1437)
theorem law_head (l : Launch) {p : Program} {e : Env} {s : State} {m : MethodId} {below : List Frame} {meth : Method} {c : Code} {b L : Nat} {xs : Nat → Int32} {D : va_G} {adX adR : Nat → Nat} {dX dR : Nat → ClassId} (hL : L ≤ 3072) (hr : meth.sig.returnType = ret) (hlocks : meth.locks = false) (K : CL p s m #[Value.ref b] c b L xs D adX dX adR dR) (j : Nat) (hj : j < 4000) (σ τ : St) (kk : j + 6 ≤ L → VL p l e s m #[Value.ref b] below meth c D adX dX adR dR (lw_Z below #[Value.ref b] s) 27 [(0, .ref b), (1, .ref (adX 0)), (2, .ref (adR 0)), (3, .int (nI j))] [] σ τ) : VL p l e s m #[Value.ref b] below meth c D adX dX adR dR (lw_Z below #[Value.ref b] s) 18 [(0, .ref b), (1, .ref (adX 0)), (2, .ref (adR 0)), (3, .int (nI j))] [] σ τ := by
  refine l_iload_n K dL_law_18 3 rfl ?_
  refine l_aload_n K dL_law_19 0 rfl ?_
  refine l_slen K dL_law_20 ?_
  refine l_bipush (v := 6) K dL_law_21 (by decide) ?_
  refine l_isub K dL_law_23 ?_
  refine l_gt (tgt := 1436) K dL_law_24 (by decide) (fun _ => law_end l hr hlocks K _ σ τ) (fun q => kk ?_)
  have h1 := mt (nI_sub6 hL hj).mpr q
  omega
theorem vin_add {L j : Nat} (k : Nat) (h : j + k < L) (hL : L ≤ 3072) : vp_in (nI j + nI k) L := by
  rw [nI_add]
  exact vp_in_nI h (by omega)
theorem law_loop (l : Launch) {p : Program} {e : Env} {s : State} {m : MethodId} {below : List Frame} {meth : Method} {c : Code} {b L : Nat} {xs : Nat → Int32} {D : va_G} {adX adR : Nat → Nat} {dX dR : Nat → ClassId} {Inv : St → St → Prop} (hL : L ≤ 3072) (hr : meth.sig.returnType = ret) (hlocks : meth.locks = false) (K : CL p s m #[Value.ref b] c b L xs D adX dX adR dR) (hB : MStps Inv) : ∀ (n j : Nat) (σ τ : St), L < j + n → j < 4000 → Inv σ τ → VL p l e s m #[Value.ref b] below meth c D adX dX adR dR (lw_Z below #[Value.ref b] s) 18 [(0, .ref b), (1, .ref (adX 0)), (2, .ref (adR 0)), (3, .int (nI j))] [] σ τ := by
  intro n
  induction n with
  | zero => exact fun j σ τ h1 h2 hI => law_head l hL hr hlocks K j h2 σ τ (fun h => by omega)
  | succ n ih =>
    intro j σ τ h1 h2 hI
    refine law_head l hL hr hlocks K j h2 σ τ (fun h6 => ?_)
    have v1 : vp_in (nI j + 1) L := vin_add 1 (by omega) hL
    have v2 : vp_in (nI j + 2) L := vin_add 2 (by omega) hL
    have v3 : vp_in (nI j + 3) L := vin_add 3 (by omega) hL
    have v4 : vp_in (nI j + 4) L := vin_add 4 (by omega) hL
    have v5 : vp_in (nI j + 5) L := vin_add 5 (by omega) hL
    have go : ∀ σ τ, Inv σ τ → VL p l e s m #[Value.ref b] below meth c D adX dX adR dR (lw_Z below #[Value.ref b] s) 1430 [(0, .ref b), (1, .ref (adX 0)), (2, .ref (adR 0)), (3, .int (nI j))] [] σ τ := by
      intro σ τ hI
      refine l_iinc K dL_law_1430 3 rfl (v := nI (j + 6)) (nI_add j 6) (by decide) [(3, .int (nI (j + 6))), (0, .ref b), (1, .ref (adX 0)), (2, .ref (adR 0))] rfl ?_
      refine l_goto (tgt := 18) K dL_law_1433 (by decide) ?_
      exact l_sub [1, 2, 3, 0] rfl (ih (j + 6) σ τ (by omega) (by omega) hI)
    refine l_aload_n K dL_law_27 0 rfl ?_
    refine l_iload_n K dL_law_28 3 rfl ?_
    refine l_sld K (vp_in_nI (by omega) (by omega)) dL_law_29 ?_
    refine l_bipush (v := 63) K dL_law_30 (by decide) ?_
    refine l_iand K dL_law_32 ?_
    generalize xs (nI j).toNatClampNeg &&& 63 = z
    by_cases z0 : z = 0
    · exact l_tabI K dL_law_33 (k := 0) z0 (by decide) (by decide) (off := 175) (by decide) (tgt := 208) (by decide) (lc_0 l K hB v1 v2 v3 v4 v5 go σ τ hI)
    by_cases z1 : z = 1
    · exact l_tabI K dL_law_33 (k := 1) z1 (by decide) (by decide) (off := 208) (by decide) (tgt := 241) (by decide) (lc_1 l K hB v1 v2 v3 v4 v5 go σ τ hI)
    by_cases z2 : z = 2
    · exact l_tabI K dL_law_33 (k := 2) z2 (by decide) (by decide) (off := 251) (by decide) (tgt := 284) (by decide) (lc_2 l K hB v1 v2 v3 v4 v5 go σ τ hI)
    by_cases z3 : z = 3
    · exact l_tabI K dL_law_33 (k := 3) z3 (by decide) (by decide) (off := 294) (by decide) (tgt := 327) (by decide) (lc_3 l K hB v1 v2 v3 v4 v5 go σ τ hI)
    by_cases z4 : z = 4
    · exact l_tabI K dL_law_33 (k := 4) z4 (by decide) (by decide) (off := 327) (by decide) (tgt := 360) (by decide) (lc_4 l K hB v1 v2 v3 v4 v5 go σ τ hI)
    by_cases z5 : z = 5
    · exact l_tabI K dL_law_33 (k := 5) z5 (by decide) (by decide) (off := 350) (by decide) (tgt := 383) (by decide) (lc_5 l K hB v1 v2 v3 v4 v5 go σ τ hI)
    by_cases z6 : z = 6
    · exact l_tabI K dL_law_33 (k := 6) z6 (by decide) (by decide) (off := 363) (by decide) (tgt := 396) (by decide) (lc_6 l K hB v1 v2 v3 v4 v5 go σ τ hI)
    by_cases z7 : z = 7
    · exact l_tabI K dL_law_33 (k := 7) z7 (by decide) (by decide) (off := 396) (by decide) (tgt := 429) (by decide) (lc_7 l K hB v1 v2 v3 v4 v5 go σ τ hI)
    by_cases z8 : z = 8
    · exact l_tabI K dL_law_33 (k := 8) z8 (by decide) (by decide) (off := 429) (by decide) (tgt := 462) (by decide) (lc_8 l K hB v1 v2 v3 v4 v5 go σ τ hI)
    by_cases z9 : z = 9
    · exact l_tabI K dL_law_33 (k := 9) z9 (by decide) (by decide) (off := 472) (by decide) (tgt := 505) (by decide) (lc_9 l K hB v1 v2 v3 v4 v5 go σ τ hI)
    by_cases z10 : z = 10
    · exact l_tabI K dL_law_33 (k := 10) z10 (by decide) (by decide) (off := 505) (by decide) (tgt := 538) (by decide) (lc_10 l K hB v1 v2 v3 v4 v5 go σ τ hI)
    by_cases z11 : z = 11
    · exact l_tabI K dL_law_33 (k := 11) z11 (by decide) (by decide) (off := 539) (by decide) (tgt := 572) (by decide) (lc_11 l K hB v1 v2 v3 v4 v5 go σ τ hI)
    by_cases z12 : z = 12
    · exact l_tabI K dL_law_33 (k := 12) z12 (by decide) (by decide) (off := 562) (by decide) (tgt := 595) (by decide) (lc_12 l K hB v1 v2 v3 v4 v5 go σ τ hI)
    by_cases z13 : z = 13
    · exact l_tabI K dL_law_33 (k := 13) z13 (by decide) (by decide) (off := 575) (by decide) (tgt := 608) (by decide) (lc_13 l K hB v1 v2 v3 v4 v5 go σ τ hI)
    by_cases z14 : z = 14
    · exact l_tabI K dL_law_33 (k := 14) z14 (by decide) (by decide) (off := 598) (by decide) (tgt := 631) (by decide) (lc_14 l K hB v1 v2 v3 v4 v5 go σ τ hI)
    by_cases z15 : z = 15
    · exact l_tabI K dL_law_33 (k := 15) z15 (by decide) (by decide) (off := 631) (by decide) (tgt := 664) (by decide) (lc_15 l K hB v1 v2 v3 v4 v5 go σ τ hI)
    by_cases z16 : z = 16
    · exact l_tabI K dL_law_33 (k := 16) z16 (by decide) (by decide) (off := 664) (by decide) (tgt := 697) (by decide) (lc_16 l K hB v1 v2 v3 v4 v5 go σ τ hI)
    by_cases z17 : z = 17
    · exact l_tabI K dL_law_33 (k := 17) z17 (by decide) (by decide) (off := 697) (by decide) (tgt := 730) (by decide) (lc_17 l K hB v1 v2 v3 v4 v5 go σ τ hI)
    by_cases z18 : z = 18
    · exact l_tabI K dL_law_33 (k := 18) z18 (by decide) (by decide) (off := 720) (by decide) (tgt := 753) (by decide) (lc_18 l K hB v1 v2 v3 v4 v5 go σ τ hI)
    by_cases z19 : z = 19
    · exact l_tabI K dL_law_33 (k := 19) z19 (by decide) (by decide) (off := 753) (by decide) (tgt := 786) (by decide) (lc_19 l K hB v1 v2 v3 v4 v5 go σ τ hI)
    by_cases z20 : z = 20
    · exact l_tabI K dL_law_33 (k := 20) z20 (by decide) (by decide) (off := 776) (by decide) (tgt := 809) (by decide) (lc_20 l K hB v1 v2 v3 v4 v5 go σ τ hI)
    by_cases z21 : z = 21
    · exact l_tabI K dL_law_33 (k := 21) z21 (by decide) (by decide) (off := 809) (by decide) (tgt := 842) (by decide) (lc_21 l K hB v1 v2 v3 v4 v5 go σ τ hI)
    by_cases z22 : z = 22
    · exact l_tabI K dL_law_33 (k := 22) z22 (by decide) (by decide) (off := 862) (by decide) (tgt := 895) (by decide) (lc_22 l K hB v1 v2 v3 v4 v5 go σ τ hI)
    by_cases z23 : z = 23
    · exact l_tabI K dL_law_33 (k := 23) z23 (by decide) (by decide) (off := 895) (by decide) (tgt := 928) (by decide) (lc_23 l K hB v1 v2 v3 v4 v5 go σ τ hI)
    by_cases z24 : z = 24
    · exact l_tabI K dL_law_33 (k := 24) z24 (by decide) (by decide) (off := 918) (by decide) (tgt := 951) (by decide) (lc_24 l K hB v1 v2 v3 v4 v5 go σ τ hI)
    by_cases z25 : z = 25
    · exact l_tabI K dL_law_33 (k := 25) z25 (by decide) (by decide) (off := 931) (by decide) (tgt := 964) (by decide) (lc_25 l K hB v1 v2 v3 v4 v5 go σ τ hI)
    by_cases z26 : z = 26
    · exact l_tabI K dL_law_33 (k := 26) z26 (by decide) (by decide) (off := 954) (by decide) (tgt := 987) (by decide) (lc_26 l K hB v1 v2 v3 v4 v5 go σ τ hI)
    by_cases z27 : z = 27
    · exact l_tabI K dL_law_33 (k := 27) z27 (by decide) (by decide) (off := 967) (by decide) (tgt := 1000) (by decide) (lc_27 l K hB v1 v2 v3 v4 v5 go σ τ hI)
    by_cases z28 : z = 28
    · exact l_tabI K dL_law_33 (k := 28) z28 (by decide) (by decide) (off := 980) (by decide) (tgt := 1013) (by decide) (lc_28 l K hB v1 v2 v3 v4 v5 go σ τ hI)
    by_cases z29 : z = 29
    · exact l_tabI K dL_law_33 (k := 29) z29 (by decide) (by decide) (off := 993) (by decide) (tgt := 1026) (by decide) (lc_29 l K hB v1 v2 v3 v4 v5 go σ τ hI)
    by_cases z30 : z = 30
    · exact l_tabI K dL_law_33 (k := 30) z30 (by decide) (by decide) (off := 1006) (by decide) (tgt := 1039) (by decide) (lc_30 l K hB v1 v2 v3 v4 v5 go σ τ hI)
    by_cases z31 : z = 31
    · exact l_tabI K dL_law_33 (k := 31) z31 (by decide) (by decide) (off := 1029) (by decide) (tgt := 1062) (by decide) (lc_31 l K hB v1 v2 v3 v4 v5 go σ τ hI)
    by_cases z32 : z = 32
    · exact l_tabI K dL_law_33 (k := 32) z32 (by decide) (by decide) (off := 1072) (by decide) (tgt := 1105) (by decide) (lc_32 l K hB v1 v2 v3 v4 v5 go σ τ hI)
    by_cases z33 : z = 33
    · exact l_tabI K dL_law_33 (k := 33) z33 (by decide) (by decide) (off := 1095) (by decide) (tgt := 1128) (by decide) (lc_33 l K hB v1 v2 v3 v4 v5 go σ τ hI)
    by_cases z34 : z = 34
    · exact l_tabI K dL_law_33 (k := 34) z34 (by decide) (by decide) (off := 1128) (by decide) (tgt := 1161) (by decide) (lc_34 l K hB v1 v2 v3 v4 v5 go σ τ hI)
    by_cases z35 : z = 35
    · exact l_tabI K dL_law_33 (k := 35) z35 (by decide) (by decide) (off := 1171) (by decide) (tgt := 1204) (by decide) (lc_35 l K hB v1 v2 v3 v4 v5 go σ τ hI)
    by_cases z36 : z = 36
    · exact l_tabI K dL_law_33 (k := 36) z36 (by decide) (by decide) (off := 1244) (by decide) (tgt := 1277) (by decide) (lc_36 l K hB v1 v2 v3 v4 v5 go σ τ hI)
    by_cases z37 : z = 37
    · exact l_tabI K dL_law_33 (k := 37) z37 (by decide) (by decide) (off := 1278) (by decide) (tgt := 1311) (by decide) (lc_37 l K hB v1 v2 v3 v4 v5 go σ τ hI)
    by_cases z38 : z = 38
    · exact l_tabI K dL_law_33 (k := 38) z38 (by decide) (by decide) (off := 1341) (by decide) (tgt := 1374) (by decide) (lc_38 l K hB v1 v2 v3 v4 v5 go σ τ hI)
    by_cases z39 : z = 39
    · exact l_tabI K dL_law_33 (k := 39) z39 (by decide) (by decide) (off := 1374) (by decide) (tgt := 1407) (by decide) (lc_39 l K hB v1 v2 v3 v4 v5 go σ τ hI)
    exact l_tabO K dL_law_33 (by have a0 : z.toInt ≠ 0 := ne_toInt z0; have a1 : z.toInt ≠ 1 := ne_toInt z1; have a2 : z.toInt ≠ 2 := ne_toInt z2; have a3 : z.toInt ≠ 3 := ne_toInt z3; have a4 : z.toInt ≠ 4 := ne_toInt z4; have a5 : z.toInt ≠ 5 := ne_toInt z5; have a6 : z.toInt ≠ 6 := ne_toInt z6; have a7 : z.toInt ≠ 7 := ne_toInt z7; have a8 : z.toInt ≠ 8 := ne_toInt z8; have a9 : z.toInt ≠ 9 := ne_toInt z9; have a10 : z.toInt ≠ 10 := ne_toInt z10; have a11 : z.toInt ≠ 11 := ne_toInt z11; have a12 : z.toInt ≠ 12 := ne_toInt z12; have a13 : z.toInt ≠ 13 := ne_toInt z13; have a14 : z.toInt ≠ 14 := ne_toInt z14; have a15 : z.toInt ≠ 15 := ne_toInt z15; have a16 : z.toInt ≠ 16 := ne_toInt z16; have a17 : z.toInt ≠ 17 := ne_toInt z17; have a18 : z.toInt ≠ 18 := ne_toInt z18; have a19 : z.toInt ≠ 19 := ne_toInt z19; have a20 : z.toInt ≠ 20 := ne_toInt z20; have a21 : z.toInt ≠ 21 := ne_toInt z21; have a22 : z.toInt ≠ 22 := ne_toInt z22; have a23 : z.toInt ≠ 23 := ne_toInt z23; have a24 : z.toInt ≠ 24 := ne_toInt z24; have a25 : z.toInt ≠ 25 := ne_toInt z25; have a26 : z.toInt ≠ 26 := ne_toInt z26; have a27 : z.toInt ≠ 27 := ne_toInt z27; have a28 : z.toInt ≠ 28 := ne_toInt z28; have a29 : z.toInt ≠ 29 := ne_toInt z29; have a30 : z.toInt ≠ 30 := ne_toInt z30; have a31 : z.toInt ≠ 31 := ne_toInt z31; have a32 : z.toInt ≠ 32 := ne_toInt z32; have a33 : z.toInt ≠ 33 := ne_toInt z33; have a34 : z.toInt ≠ 34 := ne_toInt z34; have a35 : z.toInt ≠ 35 := ne_toInt z35; have a36 : z.toInt ≠ 36 := ne_toInt z36; have a37 : z.toInt ≠ 37 := ne_toInt z37; have a38 : z.toInt ≠ 38 := ne_toInt z38; have a39 : z.toInt ≠ 39 := ne_toInt z39; omega) (tgt := 1430) (by decide) (go σ τ hI)
