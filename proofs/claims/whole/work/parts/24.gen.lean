theorem qx_L_7 : Cond.classLink RL 7 RX11 ∈ UW := uq 116 (by decide +kernel) (by decide +kernel)
theorem qx_L_10 : Cond.classLink RL 10 RX12 ∈ UW := uq 1293 (by decide +kernel) (by decide +kernel)
theorem wd_at {ws : va_W} {ad : Nat → Nat} {N : Nat} (hm : ws.map (fun q => q.1) = (List.range N).map ad) {i : Nat} {q : Nat × va_E} (h : ws[i]? = some q) : i < N ∧ q.1 = ad i := by
  have h1 : (ws.map (fun q => q.1))[i]? = some q.1 := by rw [List.getElem?_map, h]; rfl
  rw [hm, List.getElem?_map] at h1
  by_cases hi : i < N
  · rw [List.getElem?_range hi] at h1
    exact ⟨hi, (Option.some.inj h1).symm⟩
  · rw [List.getElem?_eq_none (by simp; omega)] at h1
    cases h1
theorem wd_ex {ws : va_W} {ad : Nat → Nat} {N : Nat} (hm : ws.map (fun q => q.1) = (List.range N).map ad) {i : Nat} (hi : i < N) : ∃ e : va_E, ws[i]? = some (ad i, e) := by
  have h1 : (ws.map (fun q => q.1))[i]? = some (ad i) := by rw [hm, List.getElem?_map, List.getElem?_range hi]; rfl
  rw [List.getElem?_map] at h1
  cases h : ws[i]? with
  | none => rw [h] at h1; cases h1
  | some q => rw [h] at h1; cases q with | mk a e => exact ⟨e, by cases h1; rfl⟩
theorem wd_D {ws : va_W} {ad : Nat → Nat} {N : Nat} (hm : ws.map (fun q => q.1) = (List.range N).map ad) (inj : ∀ i j, i < N → j < N → ad i = ad j → i = j) : va_D (fun q => ∃ k, k < N ∧ q = ad k) ws :=
  ⟨fun i j p q hi hj hpq => inj i j (wd_at hm hi).1 (wd_at hm hj).1 ((wd_at hm hi).2.symm.trans (hpq.trans (wd_at hm hj).2)), fun k q hk => ⟨k, (wd_at hm hk).1, (wd_at hm hk).2⟩⟩
theorem wd_inj {ws : va_W} {ad : Nat → Nat} {N : Nat} {A : Nat → Prop} (hm : ws.map (fun q => q.1) = (List.range N).map ad) (hD : va_D A ws) : ∀ i j, i < N → j < N → ad i = ad j → i = j := fun i j hi hj e => by
  obtain ⟨e1, h1⟩ := wd_ex hm hi
  obtain ⟨e2, h2⟩ := wd_ex hm hj
  exact hD.1 i j _ _ h1 h2 e
theorem wd_in {ws : va_W} {ad : Nat → Nat} {N : Nat} {A : Nat → Prop} (hm : ws.map (fun q => q.1) = (List.range N).map ad) (hD : va_D A ws) : ∀ q, (∃ k, k < N ∧ q = ad k) → A q := fun q ⟨k, hk, e⟩ => by
  obtain ⟨e1, h1⟩ := wd_ex hm hk
  rw [e]
  exact hD.2 k _ h1
theorem va_P.left {D : va_G} {cl : List vw_C} {a b : va_W} {H : Heap} (h : va_P D cl (a ++ b) H) : va_P D cl a H := fun k q hq => h k q (by rw [List.getElem?_append_left (List.getElem?_eq_some_iff.mp hq).1]; exact hq)
theorem va_P.right {D : va_G} {cl : List vw_C} {a b : va_W} {H : Heap} (h : va_P D cl (a ++ b) H) : va_P D cl b H := fun k q hq => h (a.length + k) q (by rw [List.getElem?_append_right (by omega), show a.length + k - a.length = k by omega]; exact hq)
theorem va_D.left {A : Nat → Prop} {a b : va_W} (h : va_D A (a ++ b)) : va_D A a := ⟨fun i j p q hi hj e => h.1 i j p q (by rw [List.getElem?_append_left (List.getElem?_eq_some_iff.mp hi).1]; exact hi) (by rw [List.getElem?_append_left (List.getElem?_eq_some_iff.mp hj).1]; exact hj) e, fun k q hk => h.2 k q (by rw [List.getElem?_append_left (List.getElem?_eq_some_iff.mp hk).1]; exact hk)⟩
theorem va_D.right {A : Nat → Prop} {a b : va_W} (h : va_D A (a ++ b)) : va_D A b := ⟨fun i j p q hi hj e => by
  have h1 := h.1 (a.length + i) (a.length + j) p q (by rw [List.getElem?_append_right (by omega), show a.length + i - a.length = i by omega]; exact hi) (by rw [List.getElem?_append_right (by omega), show a.length + j - a.length = j by omega]; exact hj) e
  omega, fun k q hk => h.2 (a.length + k) q (by rw [List.getElem?_append_right (by omega), show a.length + k - a.length = k by omega]; exact hk)⟩
theorem va_D.apart {A : Nat → Prop} {a b : va_W} (h : va_D A (a ++ b)) {i j : Nat} {p q : Nat × va_E} (hi : a[i]? = some p) (hj : b[j]? = some q) : p.1 ≠ q.1 := fun e => by
  have l1 := (List.getElem?_eq_some_iff.mp hi).1
  have h1 := h.1 i (a.length + j) p q (by rw [List.getElem?_append_left l1]; exact hi) (by rw [List.getElem?_append_right (by omega), show a.length + j - a.length = j by omega]; exact hj) e
  omega
theorem mX {ad : Nat → Nat} {dA : Nat → ClassId} {σ : St} : (wdX ad dA σ).map (fun q => q.1) = (List.range 75).map ad := rfl
theorem mR {ad : Nat → Nat} {dA : Nat → ClassId} {σ : St} : (wdR ad dA σ).map (fun q => q.1) = (List.range 35).map ad := rfl
set_option maxHeartbeats 16000000 in
set_option maxRecDepth 100000 in
theorem whole_gen {p : Program} {e : Env} {s : State} {m : MethodId} {below : List Frame} {meth : Method} {c : Code} (l : Launch) {b L : Nat} {xs : Nat → Int32} (hL : L ≤ 3072) (C0 : lw_At p s m meth c b L xs) {Inv : St → St → Prop} (hBB : MStps Inv) (h0 : Inv s0X s0R) : W p l e room_1 s m #[Value.ref b] below meth c s.heap [] 0 0 (lw_Z below #[Value.ref b] s) (entryFrame m ([Value.ref b] : List Value).toArray 4) := by
  obtain ⟨hx, hb, hr, hml, hown0, hts, hX, hbl, hlocks, hgv⟩ := id C0
  have hown : s.vm.findClass RL = some m.cls := hown0
  have hUW : ∀ w ∈ UW, w.before #[Value.ref b] s = true := fun w hw => hts w (List.mem_filter.mp hw).1
  have hSP := sp_of hts hgv
  have hNX := nx_of hts
  obtain ⟨c0, iS0, hKn0⟩ := u_known (C := RX0) (T := TX0) (N := 6) (n := 6) hUW inX0 (hUW _ qt_X0)
  obtain ⟨c1, iS1, hKn1⟩ := u_known (C := RX1) (T := TX1) (N := 2) (n := 2) hUW inX1 (hUW _ qt_X1)
  obtain ⟨c2, iS2, hKn2⟩ := u_known (C := RX2) (T := TX2) (N := 10) (n := 10) hUW inX2 (hUW _ qt_X2)
  obtain ⟨c3, iS3, hKn3⟩ := u_known (C := RX3) (T := TX3) (N := 3) (n := 3) hUW inX3 (hUW _ qt_X3)
  obtain ⟨c4, iS4, hKn4⟩ := u_known (C := RX4) (T := TX4) (N := 5) (n := 5) hUW inX4 (hUW _ qt_X4)
  obtain ⟨c5, iS5, hKn5⟩ := u_known (C := RX5) (T := TX5) (N := 5) (n := 5) hUW inX5 (hUW _ qt_X5)
  obtain ⟨c6, iS6, hKn6⟩ := u_known (C := RX6) (T := TX6) (N := 7) (n := 7) hUW inX6 (hUW _ qt_X6)
  obtain ⟨c7, iS7, hKn7⟩ := u_known (C := RX7) (T := TX7) (N := 5) (n := 5) hUW inX7 (hUW _ qt_X7)
  obtain ⟨c8, iS8, hKn8⟩ := u_known (C := RX8) (T := TX8) (N := 4) (n := 4) hUW inX8 (hUW _ qt_X8)
  obtain ⟨c9, iS9, hKn9⟩ := u_known (C := RX9) (T := TX9) (N := 6) (n := 6) hUW inX9 (hUW _ qt_X9)
  obtain ⟨c10, iS10, hKn10⟩ := u_known (C := RX10) (T := TX10) (N := 4) (n := 4) hUW inX10 (hUW _ qt_X10)
  obtain ⟨c11, iS11, hKn11⟩ := u_known (C := RX11) (T := TX11) (N := 15) (n := 15) hUW inX11 (hUW _ qt_X11)
  obtain ⟨c12, iS12, hKn12⟩ := u_known (C := RX12) (T := TX12) (N := 58) (n := 58) hUW inX12 (hUW _ qt_X12)
  obtain ⟨D, hKc⟩ : ∃ D : va_G, ∀ (k : Nat) (q : vw_C), clA[k]? = some q → u_Kn s q.1 q.2.1 q.2.2 (D.1 k) (D.2 k) := by
    refine ⟨(fun k => if k = 0 then c0 else if k = 1 then c1 else if k = 2 then c2 else if k = 3 then c3 else if k = 4 then c4 else if k = 5 then c5 else if k = 6 then c6 else if k = 7 then c7 else if k = 8 then c8 else if k = 9 then c9 else if k = 10 then c10 else if k = 11 then c11 else c12, fun k => if k = 0 then iS0 else if k = 1 then iS1 else if k = 2 then iS2 else if k = 3 then iS3 else if k = 4 then iS4 else if k = 5 then iS5 else if k = 6 then iS6 else if k = 7 then iS7 else if k = 8 then iS8 else if k = 9 then iS9 else if k = 10 then iS10 else if k = 11 then iS11 else iS12), ?_⟩
    intro k q hq
    match k, hq with
    | 0, hq => cases hq; exact hKn0
    | 1, hq => cases hq; exact hKn1
    | 2, hq => cases hq; exact hKn2
    | 3, hq => cases hq; exact hKn3
    | 4, hq => cases hq; exact hKn4
    | 5, hq => cases hq; exact hKn5
    | 6, hq => cases hq; exact hKn6
    | 7, hq => cases hq; exact hKn7
    | 8, hq => cases hq; exact hKn8
    | 9, hq => cases hq; exact hKn9
    | 10, hq => cases hq; exact hKn10
    | 11, hq => cases hq; exact hKn11
    | 12, hq => cases hq; exact hKn12
    | k + 13, hq => simp [clA] at hq
  have hA : ∀ q : Nat, s.heap.size ≤ q → (fun q : Nat => s.heap.size ≤ q) q := fun _ h => h
  have hS : va_S (fun q : Nat => s.heap.size ≤ q) s.heap s.heap [] := va_S.rf
  have hK : va_K D clA [] s := ⟨hKc, fun k q h => by simp at h⟩
  have hP : va_P D clA [] s.heap := fun k q h => by simp at h
  have hD : va_D (fun q : Nat => s.heap.size ≤ q) [] := ⟨fun i j p q h => by simp at h, fun k q h => by simp at h⟩
  have hl := lv_entry ([.ref b]) (n := 4) (Nat.le_of_ble_eq_true rfl)
  rw [lg_entry_eq]
  generalize (lg_sl ([.ref b]) ++ List.replicate (4 - (lg_sl ([.ref b])).length) Slot.unset).toArray = ls at hl ⊢
  have hl : lv_has ls 4 [(0, .ref b)] := hl
  refine va_new (ci := 11) (fs := [.null, .null, .null, .null, .null, .null, .null, .null, .int 0, .null, .null, .null, .null, .null, .null]) (C := RX11) (T := TX11) (N := 15) hx hb hUW inX11 tyX11 tyX11_ok hown (hUW _ qx_L_7) (hUW _ qt_X11) (hUW _ qi_X11) hK hP hD hS hA rfl dv_X11 (Nat.le_of_ble_eq_true rfl) (Nat.le_of_ble_eq_true rfl) dL_law_0 (fun q0 H hP hD hS => ?_)
  have hP : va_P D clA [(q0, .inr (11, [.null, .null, .null, .null, .null, .null, .null, .null, .int 0, .null, .null, .null, .null, .null, .null]))] H := hP
  have hD : va_D (fun q : Nat => s.heap.size ≤ q) [(q0, .inr (11, [.null, .null, .null, .null, .null, .null, .null, .null, .int 0, .null, .null, .null, .null, .null, .null]))] := hD
  refine lv_dup hx hb dL_law_3 rfl ?_
  have hFc := va_free (wc := [(q0, .inr (11, [.null, .null, .null, .null, .null, .null, .null, .null, .int 0, .null, .null, .null, .null, .null, .null]))]) hD hS hA [0] rfl
  refine va_callv (va_runI (As := []) (rest := [.ref q0]) ⟨hx, hb, hml, hown, hUW⟩ (c_X11_init l D q0 H.size) ⟨callB_of 0 hUW (uw_in' uc_X11) rfl rfl rfl (hUW _ qi_X11) (hUW _ qm_L_9) ⟨by decide +kernel, by decide +kernel, by decide +kernel⟩ ⟨(Nat.le_of_ble_eq_true rfl), (Nat.le_of_ble_eq_true rfl)⟩, rfl, hUW _ ui_X11⟩ ⟨PN.blind _ _ _ _ _, fun U hU hW => ⟨rfl, by rw [hU], by rw [hU]; exact hP, va_K.moved hW.alike hK, hD.weaken (fun _ _ _ _ => trivial), by rw [hU]; exact (hSP.go hW hS.2.1).narrow hFc, hNX.warm hW⟩⟩ rfl rfl hl.1 rfl (lv_room (Nat.le_of_ble_eq_true rfl)) dL_law_4 ⟨(Nat.le_of_ble_eq_true rfl), (Nat.le_of_ble_eq_true rfl)⟩) hS (fun q _ h => hFc q h) hFc (fun u t H1 locs ht hvm hw hB hz1 hk1 hS => ?_)
  obtain ⟨hP1, hK1, hD1⟩ := hB
  rw [ht] at hP1
  have hK1 := va_K.moved hvm.symm hK1
  have hD1 := hD1.weaken (fun _ q _ h => hFc q.1 h)
  have hP1 : va_P D clA (wdX (adf q0 u.1) u.2 s0X) H1 := hP1
  have hK1 : va_K D clA (tysX u.2) s := hK1
  have hD1 : va_D (fun q : Nat => s.heap.size ≤ q) (wdX (adf q0 u.1) u.2 s0X) := hD1
  generalize hadX : adf q0 u.1 = adX at hP1 hD1
  have e0 : adX 0 = q0 := by rw [← hadX]; rfl
  generalize u.2 = dX at hP1 hD1 hK1
  refine lv_astore_n (lv' := [(1, .ref q0), (0, .ref b)]) hx hb dL_law_7 rfl hl (by decide) rfl (fun ls hl => ?_)
  refine va_new (ci := 12) (fs := [.int 0, .int 0, .null, .null, .null, .null, .int 0, .int 0, .null, .null, .null, .null, .null, .int 0, .int 0, .int 0, .int 0, .int 0, .null, .null, .null, .null, .null, .null, .null, .int 0, .null, .int 0, .null, .int 0, .int 0, .null, .null, .null, .null, .null, .int 0, .null, .null, .int 0, .long 0, .long 0, .int 0, .int 0, .int 0, .null, .int 0, .int 0, .null, .null, .int 0, .null, .int 0, .null, .null, .null, .null, .null]) (C := RX12) (T := TX12) (N := 58) hx hb hUW inX12 tyX12 tyX12_ok hown (hUW _ qx_L_10) (hUW _ qt_X12) (hUW _ qi_X12) hK1 hP1 hD1 hS hA rfl dv_X12 (Nat.le_of_ble_eq_true rfl) (Nat.le_of_ble_eq_true rfl) dL_law_8 (fun q1 H hP hD hS => ?_)
  refine lv_dup hx hb dL_law_11 rfl ?_
  have hC : ([75] : List Nat).map (fun i => (wdX adX dX s0X ++ [(q1, .inr (12, [.int 0, .int 0, .null, .null, .null, .null, .int 0, .int 0, .null, .null, .null, .null, .null, .int 0, .int 0, .int 0, .int 0, .int 0, .null, .null, .null, .null, .null, .null, .null, .int 0, .null, .int 0, .null, .int 0, .int 0, .null, .null, .null, .null, .null, .int 0, .null, .null, .int 0, .long 0, .long 0, .int 0, .int 0, .int 0, .null, .int 0, .int 0, .null, .null, .int 0, .null, .int 0, .null, .null, .null, .null, .null]))])[i]?) = ([(q1, .inr (12, [.int 0, .int 0, .null, .null, .null, .null, .int 0, .int 0, .null, .null, .null, .null, .null, .int 0, .int 0, .int 0, .int 0, .int 0, .null, .null, .null, .null, .null, .null, .null, .int 0, .null, .int 0, .null, .int 0, .int 0, .null, .null, .null, .null, .null, .int 0, .null, .null, .int 0, .long 0, .long 0, .int 0, .int 0, .int 0, .null, .int 0, .int 0, .null, .null, .int 0, .null, .int 0, .null, .null, .null, .null, .null]))] : va_W).map some := rfl
  have hPc := hP.subM [75] hC
  have hDc := hD.sub (ws' := [(q1, .inr (12, [.int 0, .int 0, .null, .null, .null, .null, .int 0, .int 0, .null, .null, .null, .null, .null, .int 0, .int 0, .int 0, .int 0, .int 0, .null, .null, .null, .null, .null, .null, .null, .int 0, .null, .int 0, .null, .int 0, .int 0, .null, .null, .null, .null, .null, .int 0, .null, .null, .int 0, .long 0, .long 0, .int 0, .int 0, .int 0, .null, .int 0, .int 0, .null, .null, .int 0, .null, .int 0, .null, .null, .null, .null, .null]))]) [75] (by decide) hC
  have hFc := va_free (wc := [(q1, .inr (12, [.int 0, .int 0, .null, .null, .null, .null, .int 0, .int 0, .null, .null, .null, .null, .null, .int 0, .int 0, .int 0, .int 0, .int 0, .null, .null, .null, .null, .null, .null, .null, .int 0, .null, .int 0, .null, .int 0, .int 0, .null, .null, .null, .null, .null, .int 0, .null, .null, .int 0, .long 0, .long 0, .int 0, .int 0, .int 0, .null, .int 0, .int 0, .null, .null, .int 0, .null, .int 0, .null, .null, .null, .null, .null]))]) hD hS hA [75] hC
  refine va_callv (va_runI (As := []) (rest := [.ref q1]) ⟨hx, hb, hml, hown, hUW⟩ (c_X12_init l D q1 H.size) ⟨callB_of 0 hUW (uw_in' uc_X12) rfl rfl rfl (hUW _ qi_X12) (hUW _ qm_L_12) ⟨by decide +kernel, by decide +kernel, by decide +kernel⟩ ⟨(Nat.le_of_ble_eq_true rfl), (Nat.le_of_ble_eq_true rfl)⟩, rfl, hUW _ ui_X12⟩ ⟨PN.blind _ _ _ _ _, fun U hU hW => ⟨rfl, by rw [hU], by rw [hU]; exact hPc, va_K.moved hW.alike hK, hDc.weaken (fun _ _ _ _ => trivial), by rw [hU]; exact (hSP.go hW hS.2.1).narrow hFc, hNX.warm hW⟩⟩ rfl rfl hl.1 rfl (lv_room (Nat.le_of_ble_eq_true rfl)) dL_law_12 ⟨(Nat.le_of_ble_eq_true rfl), (Nat.le_of_ble_eq_true rfl)⟩) hS (fun q _ h => hFc q h) hFc (fun v t H1 locs ht hvm hw hB hz1 hk1 hS => ?_)
  obtain ⟨hP2, hK2, hD2⟩ := hB
  rw [ht] at hP2
  have hK2 := va_K.moved hvm.symm hK2
  have hP2 : va_P D clA (wdR (adf q1 v.1) v.2 s0R) H1 := hP2
  have hK2 : va_K D clA (tysR v.2) s := hK2
  obtain ⟨hPj, hDj⟩ := va_join (wr := wdX adX dX s0X) hP hD [75] [0, 1, 2, 3, 4, 5, 6, 7, 8, 9, 10, 11, 12, 13, 14, 15, 16, 17, 18, 19, 20, 21, 22, 23, 24, 25, 26, 27, 28, 29, 30, 31, 32, 33, 34, 35, 36, 37, 38, 39, 40, 41, 42, 43, 44, 45, 46, 47, 48, 49, 50, 51, 52, 53, 54, 55, 56, 57, 58, 59, 60, 61, 62, 63, 64, 65, 66, 67, 68, 69, 70, 71, 72, 73, 74] hC rfl (by decide) (by decide) hk1 hFc hP2 hD2
  have hPj : va_P D clA (wdX adX dX s0X ++ wdR (adf q1 v.1) v.2 s0R) H1 := hPj
  have hDj : va_D (fun q : Nat => s.heap.size ≤ q) (wdX adX dX s0X ++ wdR (adf q1 v.1) v.2 s0R) := hDj
  generalize hadR : adf q1 v.1 = adR at hPj hDj
  have e1 : adR 0 = q1 := by rw [← hadR]; rfl
  generalize v.2 = dR at hPj hDj hK2
  rw [← e0] at hl
  rw [← e1]
  refine W.widen (k := 600000) (n := 7302250) (Nat.le_of_ble_eq_true rfl) (Nat.le_of_ble_eq_true rfl) ?_
  refine lv_astore_n (lv' := [(2, .ref (adR 0)), (1, .ref (adX 0)), (0, .ref b)]) hx hb dL_law_15 rfl hl (by decide) rfl (fun ls hl => ?_)
  refine lv_iconst (v := 0) hx hb dL_law_16 (by decide) ?_
  refine lv_istore_n (lv' := [(3, .int 0), (2, .ref (adR 0)), (1, .ref (adX 0)), (0, .ref b)]) hx hb dL_law_17 rfl hl (by decide) rfl (fun ls hl => ?_)
  have KL : CL p s m #[Value.ref b] c b L xs D adX dX adR dR := ⟨hx, hb, hml, hown, hUW, hK1, hK2, fun σ => wd_D mX (wd_inj mX hDj.left), fun τ => wd_D mR (wd_inj mR hDj.right), wd_in mX hDj.left, wd_in mR hDj.right, fun q ⟨i, hi, ei⟩ ⟨j, hj, ej⟩ => by
    obtain ⟨f1, g1⟩ := wd_ex (mX (ad := adX) (dA := dX) (σ := s0X)) hi
    obtain ⟨f2, g2⟩ := wd_ex (mR (ad := adR) (dA := dR) (σ := s0R)) hj
    exact hDj.apart g1 g2 (ei.symm.trans ej), hSP, hX, hbl⟩
  exact law_loop l hL hr hlocks KL hBB (L + 1) 0 s0X s0R (by omega) (by omega) h0 H1 locs ls hPj.left hPj.right hS (lv_sub hl [3, 2, 1, 0] rfl)
