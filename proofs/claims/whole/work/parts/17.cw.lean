theorem qx_X11_7 : Cond.classLink RX11 7 RX6 ∈ UW := uq 124 (by decide +kernel) (by decide +kernel)
theorem qx_X11_16 : Cond.classLink RX11 16 RX7 ∈ UW := uq 153 (by decide +kernel) (by decide +kernel)
theorem qx_X11_23 : Cond.classLink RX11 23 RX8 ∈ UW := uq 176 (by decide +kernel) (by decide +kernel)
theorem qx_X11_30 : Cond.classLink RX11 30 RX3 ∈ UW := uq 197 (by decide +kernel) (by decide +kernel)
theorem qx_X11_39 : Cond.classLink RX11 39 RX1 ∈ UW := uq 225 (by decide +kernel) (by decide +kernel)
theorem qx_X11_60 : Cond.classLink RX11 60 RX2 ∈ UW := uq 238 (by decide +kernel) (by decide +kernel)
theorem qx_X11_69 : Cond.classLink RX11 69 RX9 ∈ UW := uq 277 (by decide +kernel) (by decide +kernel)
theorem qx_X11_76 : Cond.classLink RX11 76 RX4 ∈ UW := uq 305 (by decide +kernel) (by decide +kernel)
theorem qx_X11_83 : Cond.classLink RX11 83 RX5 ∈ UW := uq 327 (by decide +kernel) (by decide +kernel)
theorem qx_X11_90 : Cond.classLink RX11 90 RX0 ∈ UW := uq 351 (by decide +kernel) (by decide +kernel)
theorem qx_X11_97 : Cond.classLink RX11 97 RX10 ∈ UW := uq 376 (by decide +kernel) (by decide +kernel)
theorem qx_X2_9 : Cond.classLink RX2 9 RX1 ∈ UW := uq 244 (by decide +kernel) (by decide +kernel)
theorem qx_X5_9 : Cond.classLink RX5 9 RX1 ∈ UW := uq 333 (by decide +kernel) (by decide +kernel)
theorem qx_X8_1 : Cond.classLink RX8 1 RX7 ∈ UW := uq 182 (by decide +kernel) (by decide +kernel)
theorem qx_X9_18 : Cond.classLink RX9 18 RX1 ∈ UW := uq 283 (by decide +kernel) (by decide +kernel)
theorem qt_X0 : Cond.instantiable RX0 6 ∈ UW := uq 352 (by decide +kernel) (by decide +kernel)
theorem qt_X1 : Cond.instantiable RX1 2 ∈ UW := uq 226 (by decide +kernel) (by decide +kernel)
theorem qt_X2 : Cond.instantiable RX2 10 ∈ UW := uq 239 (by decide +kernel) (by decide +kernel)
theorem qt_X3 : Cond.instantiable RX3 3 ∈ UW := uq 198 (by decide +kernel) (by decide +kernel)
theorem qt_X4 : Cond.instantiable RX4 5 ∈ UW := uq 306 (by decide +kernel) (by decide +kernel)
theorem qt_X5 : Cond.instantiable RX5 5 ∈ UW := uq 328 (by decide +kernel) (by decide +kernel)
theorem qt_X6 : Cond.instantiable RX6 7 ∈ UW := uq 125 (by decide +kernel) (by decide +kernel)
theorem qt_X7 : Cond.instantiable RX7 5 ∈ UW := uq 154 (by decide +kernel) (by decide +kernel)
theorem qt_X8 : Cond.instantiable RX8 4 ∈ UW := uq 177 (by decide +kernel) (by decide +kernel)
theorem qt_X9 : Cond.instantiable RX9 6 ∈ UW := uq 278 (by decide +kernel) (by decide +kernel)
theorem qt_X10 : Cond.instantiable RX10 4 ∈ UW := uq 378 (by decide +kernel) (by decide +kernel)
theorem qt_X11 : Cond.instantiable RX11 15 ∈ UW := uq 117 (by decide +kernel) (by decide +kernel)
theorem qt_X12 : Cond.instantiable RX12 58 ∈ UW := uq 1294 (by decide +kernel) (by decide +kernel)
theorem qa_int : Cond.arrayClass .int ∈ UW := uq 152 (by decide +kernel) (by decide +kernel)
theorem qa_char : Cond.arrayClass .char ∈ UW := uq 175 (by decide +kernel) (by decide +kernel)
theorem qa_long : Cond.arrayClass .long ∈ UW := uq 396 (by decide +kernel) (by decide +kernel)
theorem qa_boolean : Cond.arrayClass .boolean ∈ UW := uq 1474 (by decide +kernel) (by decide +kernel)
theorem qa_byte : Cond.arrayClass .byte ∈ UW := uq 224 (by decide +kernel) (by decide +kernel)
theorem qa_short : Cond.arrayClass .short ∈ UW := uq 1473 (by decide +kernel) (by decide +kernel)
theorem qo_i : Cond.instanceMethod objectInit ∈ UW := uq 122 (by decide +kernel) (by decide +kernel)
theorem qo_c : Cond.code objectInit ⟨#[0xb1]⟩ 1 none ∈ UW := uq 123 (by decide +kernel) (by decide +kernel)
theorem ui_X0 : Cond.instanceMethod yX0_init ∈ UW := uq 354 (by decide +kernel) (by decide +kernel)
theorem uc_X0 : Cond.code yX0_init cX0_init 1 none ∈ UW := uq 355 (by decide +kernel) (by decide +kernel)
theorem ui_X1 : Cond.instanceMethod yX1_init ∈ UW := uq 228 (by decide +kernel) (by decide +kernel)
theorem uc_X1 : Cond.code yX1_init cX1_init 2 none ∈ UW := uq 229 (by decide +kernel) (by decide +kernel)
theorem ui_X2 : Cond.instanceMethod yX2_init ∈ UW := uq 241 (by decide +kernel) (by decide +kernel)
theorem uc_X2 : Cond.code yX2_init cX2_init 2 none ∈ UW := uq 242 (by decide +kernel) (by decide +kernel)
theorem ui_X3 : Cond.instanceMethod yX3_init ∈ UW := uq 200 (by decide +kernel) (by decide +kernel)
theorem uc_X3 : Cond.code yX3_init cX3_init 3 none ∈ UW := uq 201 (by decide +kernel) (by decide +kernel)
theorem ui_X4 : Cond.instanceMethod yX4_init ∈ UW := uq 308 (by decide +kernel) (by decide +kernel)
theorem uc_X4 : Cond.code yX4_init cX4_init 1 none ∈ UW := uq 309 (by decide +kernel) (by decide +kernel)
theorem ui_X5 : Cond.instanceMethod yX5_init ∈ UW := uq 330 (by decide +kernel) (by decide +kernel)
theorem uc_X5 : Cond.code yX5_init cX5_init 2 none ∈ UW := uq 331 (by decide +kernel) (by decide +kernel)
theorem ui_X6 : Cond.instanceMethod yX6_init ∈ UW := uq 127 (by decide +kernel) (by decide +kernel)
theorem uc_X6 : Cond.code yX6_init cX6_init 1 none ∈ UW := uq 128 (by decide +kernel) (by decide +kernel)
theorem ui_X7 : Cond.instanceMethod yX7_init ∈ UW := uq 156 (by decide +kernel) (by decide +kernel)
theorem uc_X7 : Cond.code yX7_init cX7_init 1 none ∈ UW := uq 157 (by decide +kernel) (by decide +kernel)
theorem ui_X8 : Cond.instanceMethod yX8_init ∈ UW := uq 179 (by decide +kernel) (by decide +kernel)
theorem uc_X8 : Cond.code yX8_init cX8_init 1 none ∈ UW := uq 180 (by decide +kernel) (by decide +kernel)
theorem ui_X9 : Cond.instanceMethod yX9_init ∈ UW := uq 280 (by decide +kernel) (by decide +kernel)
theorem uc_X9 : Cond.code yX9_init cX9_init 3 none ∈ UW := uq 281 (by decide +kernel) (by decide +kernel)
theorem ui_X10 : Cond.instanceMethod yX10_init ∈ UW := uq 380 (by decide +kernel) (by decide +kernel)
theorem uc_X10 : Cond.code yX10_init cX10_init 1 none ∈ UW := uq 381 (by decide +kernel) (by decide +kernel)
theorem ui_X11 : Cond.instanceMethod yX11_init ∈ UW := uq 119 (by decide +kernel) (by decide +kernel)
theorem uc_X11 : Cond.code yX11_init cX11_init 2 none ∈ UW := uq 120 (by decide +kernel) (by decide +kernel)
theorem ui_X12 : Cond.instanceMethod yX12_init ∈ UW := uq 1296 (by decide +kernel) (by decide +kernel)
theorem uc_X12 : Cond.code yX12_init cX12_init 1 none ∈ UW := uq 1297 (by decide +kernel) (by decide +kernel)
theorem dv_X0 : ∀ j, j < 6 → defaultValue (tyX0 j) = vp_V [.null, .int 0, .null, .int 0, .int 0, .int 0] j := by
  intro j hj
  match j, hj with
  | 0, _ => rfl
  | 1, _ => rfl
  | 2, _ => rfl
  | 3, _ => rfl
  | 4, _ => rfl
  | 5, _ => rfl
  | j + 6, h => exact absurd h (by omega)
theorem dv_X1 : ∀ j, j < 2 → defaultValue (tyX1 j) = vp_V [.null, .int 0] j := by
  intro j hj
  match j, hj with
  | 0, _ => rfl
  | 1, _ => rfl
  | j + 2, h => exact absurd h (by omega)
theorem dv_X2 : ∀ j, j < 10 → defaultValue (tyX2 j) = vp_V [.null, .null, .int 0, .int 0, .int 0, .int 0, .int 0, .long 0, .int 0, .int 0] j := by
  intro j hj
  match j, hj with
  | 0, _ => rfl
  | 1, _ => rfl
  | 2, _ => rfl
  | 3, _ => rfl
  | 4, _ => rfl
  | 5, _ => rfl
  | 6, _ => rfl
  | 7, _ => rfl
  | 8, _ => rfl
  | 9, _ => rfl
  | j + 10, h => exact absurd h (by omega)
theorem dv_X3 : ∀ j, j < 3 → defaultValue (tyX3 j) = vp_V [.null, .null, .null] j := by
  intro j hj
  match j, hj with
  | 0, _ => rfl
  | 1, _ => rfl
  | 2, _ => rfl
  | j + 3, h => exact absurd h (by omega)
theorem dv_X4 : ∀ j, j < 5 → defaultValue (tyX4 j) = vp_V [.null, .null, .int 0, .null, .null] j := by
  intro j hj
  match j, hj with
  | 0, _ => rfl
  | 1, _ => rfl
  | 2, _ => rfl
  | 3, _ => rfl
  | 4, _ => rfl
  | j + 5, h => exact absurd h (by omega)
theorem dv_X5 : ∀ j, j < 5 → defaultValue (tyX5 j) = vp_V [.null, .null, .int 0, .int 0, .int 0] j := by
  intro j hj
  match j, hj with
  | 0, _ => rfl
  | 1, _ => rfl
  | 2, _ => rfl
  | 3, _ => rfl
  | 4, _ => rfl
  | j + 5, h => exact absurd h (by omega)
theorem dv_X6 : ∀ j, j < 7 → defaultValue (tyX6 j) = vp_V [.null, .int 0, .null, .null, .null, .int 0, .int 0] j := by
  intro j hj
  match j, hj with
  | 0, _ => rfl
  | 1, _ => rfl
  | 2, _ => rfl
  | 3, _ => rfl
  | 4, _ => rfl
  | 5, _ => rfl
  | 6, _ => rfl
  | j + 7, h => exact absurd h (by omega)
theorem dv_X7 : ∀ j, j < 5 → defaultValue (tyX7 j) = vp_V [.null, .null, .null, .null, .int 0] j := by
  intro j hj
  match j, hj with
  | 0, _ => rfl
  | 1, _ => rfl
  | 2, _ => rfl
  | 3, _ => rfl
  | 4, _ => rfl
  | j + 5, h => exact absurd h (by omega)
theorem dv_X8 : ∀ j, j < 4 → defaultValue (tyX8 j) = vp_V [.null, .int 0, .int 0, .null] j := by
  intro j hj
  match j, hj with
  | 0, _ => rfl
  | 1, _ => rfl
  | 2, _ => rfl
  | 3, _ => rfl
  | j + 4, h => exact absurd h (by omega)
theorem dv_X9 : ∀ j, j < 6 → defaultValue (tyX9 j) = vp_V [.null, .null, .null, .null, .null, .null] j := by
  intro j hj
  match j, hj with
  | 0, _ => rfl
  | 1, _ => rfl
  | 2, _ => rfl
  | 3, _ => rfl
  | 4, _ => rfl
  | 5, _ => rfl
  | j + 6, h => exact absurd h (by omega)
theorem dv_X10 : ∀ j, j < 4 → defaultValue (tyX10 j) = vp_V [.null, .int 0, .int 0, .int 0] j := by
  intro j hj
  match j, hj with
  | 0, _ => rfl
  | 1, _ => rfl
  | 2, _ => rfl
  | 3, _ => rfl
  | j + 4, h => exact absurd h (by omega)
theorem dv_X11 : ∀ j, j < 15 → defaultValue (tyX11 j) = vp_V [.null, .null, .null, .null, .null, .null, .null, .null, .int 0, .null, .null, .null, .null, .null, .null] j := by
  intro j hj
  match j, hj with
  | 0, _ => rfl
  | 1, _ => rfl
  | 2, _ => rfl
  | 3, _ => rfl
  | 4, _ => rfl
  | 5, _ => rfl
  | 6, _ => rfl
  | 7, _ => rfl
  | 8, _ => rfl
  | 9, _ => rfl
  | 10, _ => rfl
  | 11, _ => rfl
  | 12, _ => rfl
  | 13, _ => rfl
  | 14, _ => rfl
  | j + 15, h => exact absurd h (by omega)
theorem dv_X12 : ∀ j, j < 58 → defaultValue (tyX12 j) = vp_V [.int 0, .int 0, .null, .null, .null, .null, .int 0, .int 0, .null, .null, .null, .null, .null, .int 0, .int 0, .int 0, .int 0, .int 0, .null, .null, .null, .null, .null, .null, .null, .int 0, .null, .int 0, .null, .int 0, .int 0, .null, .null, .null, .null, .null, .int 0, .null, .null, .int 0, .long 0, .long 0, .int 0, .int 0, .int 0, .null, .int 0, .int 0, .null, .null, .int 0, .null, .int 0, .null, .null, .null, .null, .null] j := by
  intro j hj
  match j, hj with
  | 0, _ => rfl
  | 1, _ => rfl
  | 2, _ => rfl
  | 3, _ => rfl
  | 4, _ => rfl
  | 5, _ => rfl
  | 6, _ => rfl
  | 7, _ => rfl
  | 8, _ => rfl
  | 9, _ => rfl
  | 10, _ => rfl
  | 11, _ => rfl
  | 12, _ => rfl
  | 13, _ => rfl
  | 14, _ => rfl
  | 15, _ => rfl
  | 16, _ => rfl
  | 17, _ => rfl
  | 18, _ => rfl
  | 19, _ => rfl
  | 20, _ => rfl
  | 21, _ => rfl
  | 22, _ => rfl
  | 23, _ => rfl
  | 24, _ => rfl
  | 25, _ => rfl
  | 26, _ => rfl
  | 27, _ => rfl
  | 28, _ => rfl
  | 29, _ => rfl
  | 30, _ => rfl
  | 31, _ => rfl
  | 32, _ => rfl
  | 33, _ => rfl
  | 34, _ => rfl
  | 35, _ => rfl
  | 36, _ => rfl
  | 37, _ => rfl
  | 38, _ => rfl
  | 39, _ => rfl
  | 40, _ => rfl
  | 41, _ => rfl
  | 42, _ => rfl
  | 43, _ => rfl
  | 44, _ => rfl
  | 45, _ => rfl
  | 46, _ => rfl
  | 47, _ => rfl
  | 48, _ => rfl
  | 49, _ => rfl
  | 50, _ => rfl
  | 51, _ => rfl
  | 52, _ => rfl
  | 53, _ => rfl
  | 54, _ => rfl
  | 55, _ => rfl
  | 56, _ => rfl
  | 57, _ => rfl
  | j + 58, h => exact absurd h (by omega)
section NEW2
variable {p : Program} {l : Launch} {e : Env} {R : Room} {s : State} {m : MethodId} {args : Array Value} {below : List Frame} {meth : Method} {c : Code} {cc : ByteArray} {nL : Nat} {D : va_G} {tys : List (ClassId × FieldType)} {A : Nat → Prop} {Q : State → Prop} {pc : Nat} {lv : List (Nat × Value)} {st : List Value} {ws : va_W} {cells slots : Nat}
theorem n_wt (ws' : va_W) (hw : ws = ws') (tys' : List (ClassId × FieldType)) (ht : tys = tys') {k n : Nat} (kk : VN p l e R s m args below meth c nL D A Q pc lv st ws' tys' k n) (hk : cells = k := by rfl) (hn : slots = n := by rfl) : VN p l e R s m args below meth c nL D A Q pc lv st ws tys cells slots := by subst hw; subst ht; subst hk; subst hn; exact kk
theorem n_str (K : Cn p s m args meth c cc nL RX3 A) (hdg : decode cc pc = .ok (.ldc 11, 2)) (kk : ∀ aS : Nat, (∃ aV : Nat, SQ aS aV A s s.heap) → VN p l e R s m args below meth c nL D A Q (pc + 2) lv (.ref aS :: st) ws tys cells slots) : VN p l e R s m args below meth c nL D A Q pc lv st ws tys cells slots := fun H locs ls hK hP hD hS h => by
  obtain ⟨aS, aV, r1, r2, k⟩ := K.2.2.2.2.2.2.2.2.2.1.2.2.2.1
  exact va_ldcS K.1 K.2.1 K.2.2.2.1 r2 hdg (kk aS ⟨aV, k, K.2.2.2.2.2.2.2.2.2.1.2.2.2.2⟩ H locs ls hK hP hD hS h)
theorem n_len (K : Cn p s m args meth c cc nL RX3 A) {aS : Nat} (hq : ∃ aV : Nat, SQ aS aV A s s.heap) (hdg : decode cc pc = .ok (.invokevirtual 13, 3)) (hroom : 3 ≤ R.frames ∧ 200 ≤ R.locals) (hcat : (st.map fun v => v.category).sum ≤ 8) (kk : VN p l e R s m args below meth c nL D A Q (pc + 3) lv (.int 6 :: st) ws tys cells slots) (hc : cells ≤ R.cells := by exact Nat.le_of_ble_eq_true rfl) (hsl : slots ≤ R.slots := by exact Nat.le_of_ble_eq_true rfl) : VN p l e R s m args below meth c nL D A Q pc lv (.ref aS :: st) ws tys cells slots := fun H locs ls hK hP hD hS h => by
  obtain ⟨aV, hq⟩ := hq
  have hu := uv_J0_length_8abf5
  have hFA : ∀ q : Nat, (fun _ : Nat => False) q → A q := fun q h => h.elim
  refine va_calli (va_runV (As := []) (rest := st) ⟨K.1, K.2.1, K.2.2.1, K.2.2.2.1, K.2.2.2.2.1⟩ (c_J0_length_8abf5 l (D := D) (tys := []) (wd := fun _ => []) (A := fun _ => False) (aS := aS) (aV := aV) ((fun _ _ => 0, fun _ _ => 0) : St)) ⟨callB_of 0 K.2.2.2.2.1 (uw_in' hu.2.2.2.1) rfl rfl rfl (K.2.2.2.2.1 _ hu.2.2.1) (K.2.2.2.2.1 _ qm_X3_13) hu.2.2.2.2 ⟨hroom.1, Nat.le_trans (Nat.le_of_ble_eq_true rfl) hroom.2⟩, K.2.2.2.2.1 _ hu.1, K.2.2.2.2.1 _ hu.2.1⟩ ⟨ME.blind _ _ _ _ _ _ _ _, vk_recv (i := 0) hq.1 (by decide) hS, fun U hU hW => ⟨rfl, ⟨fun k q h => by simp at h, va_K.moved hW.alike (hK.sub [] rfl), fun _ => ⟨fun i j p q h => by simp at h, fun k q h => by simp at h⟩, ?_⟩, ?_⟩⟩ rfl rfl h.1 rfl (lv_room hcat) hdg ⟨by omega, by omega⟩) hS (fun q _ h => hFA q h) hFA (fun r u t H1 locs1 ht hvm hw hB hz1 hk1 hS1 => ?_)
  · rw [hU]; exact (K.2.2.2.2.2.2.2.2.2.1.go hW hS.2.1).narrow hFA
  · rw [hU]; exact ⟨((hq.1.kept hS.2.1).moved hW.alike).narrow hFA, ((hq.2.kept hS.2.1).moved hW.alike).narrow hFA⟩
  · obtain ⟨rfl, rfl⟩ := Prod.mk.inj hw
    have hk2 : ∀ q : Nat, q < H.size → H1[q]? = H[q]? := fun q hq => hk1 q hq (fun f => f)
    exact kk H1 locs1 ls hK (fun k q hq => (hP k q hq).kept (hk2 q.1 (hP k q hq).lt)) hD hS1 h
end NEW2
