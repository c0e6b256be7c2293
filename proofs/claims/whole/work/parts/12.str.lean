def RJ0 : String := "java/lang/String"
def RJ1 : String := "java/lang/StringLatin1"
abbrev cJ0_indexOf_0f7a4 : ByteArray := prog_17_method_79_code
def yJ0_indexOf_0f7a4 : MethodName := ⟨RJ0, "indexOf", "(I)I"⟩
theorem dJ0_indexOf_0f7a4_0 : decode cJ0_indexOf_0f7a4 0 = .ok (.aload_n 0, 1) := by decide +kernel
theorem dJ0_indexOf_0f7a4_1 : decode cJ0_indexOf_0f7a4 1 = .ok (.iload_n 1, 1) := by decide +kernel
theorem dJ0_indexOf_0f7a4_2 : decode cJ0_indexOf_0f7a4 2 = .ok (.iconst 0, 1) := by decide +kernel
theorem dJ0_indexOf_0f7a4_3 : decode cJ0_indexOf_0f7a4 3 = .ok (.invokevirtual 633, 3) := by decide +kernel
theorem dJ0_indexOf_0f7a4_6 : decode cJ0_indexOf_0f7a4 6 = .ok (.ireturn, 1) := by decide +kernel
abbrev cJ0_indexOf_7cf53 : ByteArray := prog_17_method_80_code
def yJ0_indexOf_7cf53 : MethodName := ⟨RJ0, "indexOf", "(II)I"⟩
theorem dJ0_indexOf_7cf53_0 : decode cJ0_indexOf_7cf53 0 = .ok (.aload_n 0, 1) := by decide +kernel
theorem dJ0_indexOf_7cf53_1 : decode cJ0_indexOf_7cf53 1 = .ok (.invokevirtual 492, 3) := by decide +kernel
theorem dJ0_indexOf_7cf53_4 : decode cJ0_indexOf_7cf53 4 = .ok (.ifCond .eq 19, 3) := by decide +kernel
theorem dJ0_indexOf_7cf53_7 : decode cJ0_indexOf_7cf53 7 = .ok (.aload_n 0, 1) := by decide +kernel
theorem dJ0_indexOf_7cf53_8 : decode cJ0_indexOf_7cf53 8 = .ok (.getfield 9, 3) := by decide +kernel
theorem dJ0_indexOf_7cf53_11 : decode cJ0_indexOf_7cf53 11 = .ok (.iload_n 1, 1) := by decide +kernel
theorem dJ0_indexOf_7cf53_12 : decode cJ0_indexOf_7cf53 12 = .ok (.iload_n 2, 1) := by decide +kernel
theorem dJ0_indexOf_7cf53_13 : decode cJ0_indexOf_7cf53 13 = .ok (.aload_n 0, 1) := by decide +kernel
theorem dJ0_indexOf_7cf53_14 : decode cJ0_indexOf_7cf53 14 = .ok (.invokevirtual 505, 3) := by decide +kernel
theorem dJ0_indexOf_7cf53_17 : decode cJ0_indexOf_7cf53 17 = .ok (.invokestatic 637, 3) := by decide +kernel
theorem dJ0_indexOf_7cf53_20 : decode cJ0_indexOf_7cf53 20 = .ok (.goto 16, 3) := by decide +kernel
theorem dJ0_indexOf_7cf53_23 : decode cJ0_indexOf_7cf53 23 = .ok (.aload_n 0, 1) := by decide +kernel
theorem dJ0_indexOf_7cf53_24 : decode cJ0_indexOf_7cf53 24 = .ok (.getfield 9, 3) := by decide +kernel
theorem dJ0_indexOf_7cf53_27 : decode cJ0_indexOf_7cf53 27 = .ok (.iload_n 1, 1) := by decide +kernel
theorem dJ0_indexOf_7cf53_28 : decode cJ0_indexOf_7cf53 28 = .ok (.iload_n 2, 1) := by decide +kernel
theorem dJ0_indexOf_7cf53_29 : decode cJ0_indexOf_7cf53 29 = .ok (.aload_n 0, 1) := by decide +kernel
theorem dJ0_indexOf_7cf53_30 : decode cJ0_indexOf_7cf53 30 = .ok (.invokevirtual 505, 3) := by decide +kernel
theorem dJ0_indexOf_7cf53_33 : decode cJ0_indexOf_7cf53 33 = .ok (.invokestatic 640, 3) := by decide +kernel
theorem dJ0_indexOf_7cf53_36 : decode cJ0_indexOf_7cf53 36 = .ok (.ireturn, 1) := by decide +kernel
abbrev cJ0_isLatin1_aae02 : ByteArray := prog_17_method_154_code
def yJ0_isLatin1_aae02 : MethodName := ⟨RJ0, "isLatin1", "()Z"⟩
theorem dJ0_isLatin1_aae02_0 : decode cJ0_isLatin1_aae02 0 = .ok (.getstatic 38, 3) := by decide +kernel
theorem dJ0_isLatin1_aae02_3 : decode cJ0_isLatin1_aae02 3 = .ok (.ifCond .eq 14, 3) := by decide +kernel
theorem dJ0_isLatin1_aae02_6 : decode cJ0_isLatin1_aae02 6 = .ok (.aload_n 0, 1) := by decide +kernel
theorem dJ0_isLatin1_aae02_7 : decode cJ0_isLatin1_aae02 7 = .ok (.getfield 15, 3) := by decide +kernel
theorem dJ0_isLatin1_aae02_10 : decode cJ0_isLatin1_aae02 10 = .ok (.ifCond .ne 7, 3) := by decide +kernel
theorem dJ0_isLatin1_aae02_13 : decode cJ0_isLatin1_aae02 13 = .ok (.iconst 1, 1) := by decide +kernel
theorem dJ0_isLatin1_aae02_14 : decode cJ0_isLatin1_aae02 14 = .ok (.goto 4, 3) := by decide +kernel
theorem dJ0_isLatin1_aae02_17 : decode cJ0_isLatin1_aae02 17 = .ok (.iconst 0, 1) := by decide +kernel
theorem dJ0_isLatin1_aae02_18 : decode cJ0_isLatin1_aae02 18 = .ok (.ireturn, 1) := by decide +kernel
abbrev cJ0_length_8abf5 : ByteArray := prog_17_method_54_code
def yJ0_length_8abf5 : MethodName := ⟨RJ0, "length", "()I"⟩
theorem dJ0_length_8abf5_0 : decode cJ0_length_8abf5 0 = .ok (.aload_n 0, 1) := by decide +kernel
theorem dJ0_length_8abf5_1 : decode cJ0_length_8abf5 1 = .ok (.getfield 9, 3) := by decide +kernel
theorem dJ0_length_8abf5_4 : decode cJ0_length_8abf5 4 = .ok (.arraylength, 1) := by decide +kernel
theorem dJ0_length_8abf5_5 : decode cJ0_length_8abf5 5 = .ok (.aload_n 0, 1) := by decide +kernel
theorem dJ0_length_8abf5_6 : decode cJ0_length_8abf5 6 = .ok (.invokevirtual 335, 3) := by decide +kernel
theorem dJ0_length_8abf5_9 : decode cJ0_length_8abf5 9 = .ok (.ishr, 1) := by decide +kernel
theorem dJ0_length_8abf5_10 : decode cJ0_length_8abf5 10 = .ok (.ireturn, 1) := by decide +kernel
abbrev cJ0_coder_7d493 : ByteArray := prog_17_method_152_code
def yJ0_coder_7d493 : MethodName := ⟨RJ0, "coder", "()B"⟩
theorem dJ0_coder_7d493_0 : decode cJ0_coder_7d493 0 = .ok (.getstatic 38, 3) := by decide +kernel
theorem dJ0_coder_7d493_3 : decode cJ0_coder_7d493 3 = .ok (.ifCond .eq 10, 3) := by decide +kernel
theorem dJ0_coder_7d493_6 : decode cJ0_coder_7d493 6 = .ok (.aload_n 0, 1) := by decide +kernel
theorem dJ0_coder_7d493_7 : decode cJ0_coder_7d493 7 = .ok (.getfield 15, 3) := by decide +kernel
theorem dJ0_coder_7d493_10 : decode cJ0_coder_7d493 10 = .ok (.goto 4, 3) := by decide +kernel
theorem dJ0_coder_7d493_13 : decode cJ0_coder_7d493 13 = .ok (.iconst 1, 1) := by decide +kernel
theorem dJ0_coder_7d493_14 : decode cJ0_coder_7d493 14 = .ok (.ireturn, 1) := by decide +kernel
abbrev cJ1_indexOf_4cfef : ByteArray := prog_18_method_22_code
def yJ1_indexOf_4cfef : MethodName := ⟨RJ1, "indexOf", "([BIII)I"⟩
theorem dJ1_indexOf_4cfef_0 : decode cJ1_indexOf_4cfef 0 = .ok (.iload_n 1, 1) := by decide +kernel
theorem dJ1_indexOf_4cfef_1 : decode cJ1_indexOf_4cfef 1 = .ok (.invokestatic 88, 3) := by decide +kernel
theorem dJ1_indexOf_4cfef_4 : decode cJ1_indexOf_4cfef 4 = .ok (.ifCond .ne 5, 3) := by decide +kernel
theorem dJ1_indexOf_4cfef_7 : decode cJ1_indexOf_4cfef 7 = .ok (.iconst (-1), 1) := by decide +kernel
theorem dJ1_indexOf_4cfef_8 : decode cJ1_indexOf_4cfef 8 = .ok (.ireturn, 1) := by decide +kernel
theorem dJ1_indexOf_4cfef_9 : decode cJ1_indexOf_4cfef 9 = .ok (.iload_n 2, 1) := by decide +kernel
theorem dJ1_indexOf_4cfef_10 : decode cJ1_indexOf_4cfef 10 = .ok (.iconst 0, 1) := by decide +kernel
theorem dJ1_indexOf_4cfef_11 : decode cJ1_indexOf_4cfef 11 = .ok (.invokestatic 92, 3) := by decide +kernel
theorem dJ1_indexOf_4cfef_14 : decode cJ1_indexOf_4cfef 14 = .ok (.istore_n 2, 1) := by decide +kernel
theorem dJ1_indexOf_4cfef_15 : decode cJ1_indexOf_4cfef 15 = .ok (.iload_n 3, 1) := by decide +kernel
theorem dJ1_indexOf_4cfef_16 : decode cJ1_indexOf_4cfef 16 = .ok (.aload_n 0, 1) := by decide +kernel
theorem dJ1_indexOf_4cfef_17 : decode cJ1_indexOf_4cfef 17 = .ok (.arraylength, 1) := by decide +kernel
theorem dJ1_indexOf_4cfef_18 : decode cJ1_indexOf_4cfef 18 = .ok (.invokestatic 38, 3) := by decide +kernel
theorem dJ1_indexOf_4cfef_21 : decode cJ1_indexOf_4cfef 21 = .ok (.istore_n 3, 1) := by decide +kernel
theorem dJ1_indexOf_4cfef_22 : decode cJ1_indexOf_4cfef 22 = .ok (.iload_n 2, 1) := by decide +kernel
theorem dJ1_indexOf_4cfef_23 : decode cJ1_indexOf_4cfef 23 = .ok (.iload_n 3, 1) := by decide +kernel
theorem dJ1_indexOf_4cfef_24 : decode cJ1_indexOf_4cfef 24 = .ok (.if_icmp .lt 5, 3) := by decide +kernel
theorem dJ1_indexOf_4cfef_27 : decode cJ1_indexOf_4cfef 27 = .ok (.iconst (-1), 1) := by decide +kernel
theorem dJ1_indexOf_4cfef_28 : decode cJ1_indexOf_4cfef 28 = .ok (.ireturn, 1) := by decide +kernel
theorem dJ1_indexOf_4cfef_29 : decode cJ1_indexOf_4cfef 29 = .ok (.aload_n 0, 1) := by decide +kernel
theorem dJ1_indexOf_4cfef_30 : decode cJ1_indexOf_4cfef 30 = .ok (.iload_n 1, 1) := by decide +kernel
theorem dJ1_indexOf_4cfef_31 : decode cJ1_indexOf_4cfef 31 = .ok (.iload_n 2, 1) := by decide +kernel
theorem dJ1_indexOf_4cfef_32 : decode cJ1_indexOf_4cfef 32 = .ok (.iload_n 3, 1) := by decide +kernel
theorem dJ1_indexOf_4cfef_33 : decode cJ1_indexOf_4cfef 33 = .ok (.invokestatic 95, 3) := by decide +kernel
theorem dJ1_indexOf_4cfef_36 : decode cJ1_indexOf_4cfef 36 = .ok (.ireturn, 1) := by decide +kernel
abbrev cJ1_canEncode_9a6ad : ByteArray := prog_18_method_4_code
def yJ1_canEncode_9a6ad : MethodName := ⟨RJ1, "canEncode", "(I)Z"⟩
theorem dJ1_canEncode_9a6ad_0 : decode cJ1_canEncode_9a6ad 0 = .ok (.iload_n 0, 1) := by decide +kernel
theorem dJ1_canEncode_9a6ad_1 : decode cJ1_canEncode_9a6ad 1 = .ok (.ifCond .lt 14, 3) := by decide +kernel
theorem dJ1_canEncode_9a6ad_4 : decode cJ1_canEncode_9a6ad 4 = .ok (.iload_n 0, 1) := by decide +kernel
theorem dJ1_canEncode_9a6ad_5 : decode cJ1_canEncode_9a6ad 5 = .ok (.sipush 255, 3) := by decide +kernel
theorem dJ1_canEncode_9a6ad_8 : decode cJ1_canEncode_9a6ad 8 = .ok (.if_icmp .gt 7, 3) := by decide +kernel
theorem dJ1_canEncode_9a6ad_11 : decode cJ1_canEncode_9a6ad 11 = .ok (.iconst 1, 1) := by decide +kernel
theorem dJ1_canEncode_9a6ad_12 : decode cJ1_canEncode_9a6ad 12 = .ok (.goto 4, 3) := by decide +kernel
theorem dJ1_canEncode_9a6ad_15 : decode cJ1_canEncode_9a6ad 15 = .ok (.iconst 0, 1) := by decide +kernel
theorem dJ1_canEncode_9a6ad_16 : decode cJ1_canEncode_9a6ad 16 = .ok (.ireturn, 1) := by decide +kernel
abbrev cJ1_indexOfChar_4cfef : ByteArray := prog_18_method_23_code
def yJ1_indexOfChar_4cfef : MethodName := ⟨RJ1, "indexOfChar", "([BIII)I"⟩
theorem dJ1_indexOfChar_4cfef_0 : decode cJ1_indexOfChar_4cfef 0 = .ok (.iload_n 1, 1) := by decide +kernel
theorem dJ1_indexOfChar_4cfef_1 : decode cJ1_indexOfChar_4cfef 1 = .ok (.i2b, 1) := by decide +kernel
theorem dJ1_indexOfChar_4cfef_2 : decode cJ1_indexOfChar_4cfef 2 = .ok (.istore 4, 2) := by decide +kernel
theorem dJ1_indexOfChar_4cfef_4 : decode cJ1_indexOfChar_4cfef 4 = .ok (.iload_n 2, 1) := by decide +kernel
theorem dJ1_indexOfChar_4cfef_5 : decode cJ1_indexOfChar_4cfef 5 = .ok (.istore 5, 2) := by decide +kernel
theorem dJ1_indexOfChar_4cfef_7 : decode cJ1_indexOfChar_4cfef 7 = .ok (.iload 5, 2) := by decide +kernel
theorem dJ1_indexOfChar_4cfef_9 : decode cJ1_indexOfChar_4cfef 9 = .ok (.iload_n 3, 1) := by decide +kernel
theorem dJ1_indexOfChar_4cfef_10 : decode cJ1_indexOfChar_4cfef 10 = .ok (.if_icmp .ge 21, 3) := by decide +kernel
theorem dJ1_indexOfChar_4cfef_13 : decode cJ1_indexOfChar_4cfef 13 = .ok (.aload_n 0, 1) := by decide +kernel
theorem dJ1_indexOfChar_4cfef_14 : decode cJ1_indexOfChar_4cfef 14 = .ok (.iload 5, 2) := by decide +kernel
theorem dJ1_indexOfChar_4cfef_16 : decode cJ1_indexOfChar_4cfef 16 = .ok (.baload, 1) := by decide +kernel
theorem dJ1_indexOfChar_4cfef_17 : decode cJ1_indexOfChar_4cfef 17 = .ok (.iload 4, 2) := by decide +kernel
theorem dJ1_indexOfChar_4cfef_19 : decode cJ1_indexOfChar_4cfef 19 = .ok (.if_icmp .ne 6, 3) := by decide +kernel
theorem dJ1_indexOfChar_4cfef_22 : decode cJ1_indexOfChar_4cfef 22 = .ok (.iload 5, 2) := by decide +kernel
theorem dJ1_indexOfChar_4cfef_24 : decode cJ1_indexOfChar_4cfef 24 = .ok (.ireturn, 1) := by decide +kernel
theorem dJ1_indexOfChar_4cfef_25 : decode cJ1_indexOfChar_4cfef 25 = .ok (.iinc 5 1, 3) := by decide +kernel
theorem dJ1_indexOfChar_4cfef_28 : decode cJ1_indexOfChar_4cfef 28 = .ok (.goto (-21), 3) := by decide +kernel
theorem dJ1_indexOfChar_4cfef_31 : decode cJ1_indexOfChar_4cfef 31 = .ok (.iconst (-1), 1) := by decide +kernel
theorem dJ1_indexOfChar_4cfef_32 : decode cJ1_indexOfChar_4cfef 32 = .ok (.ireturn, 1) := by decide +kernel
theorem qi_J0 : Cond.initialized RJ0 ∈ UW := uq 101 (by decide +kernel) (by decide +kernel)
theorem qi_J1 : Cond.initialized RJ1 ∈ UW := uq 111 (by decide +kernel) (by decide +kernel)
theorem uv_J0_indexOf_0f7a4 : UV yJ0_indexOf_0f7a4 cJ0_indexOf_0f7a4 2 (some .int) 1 := ⟨uq 597 (by decide +kernel) (by decide +kernel), uq 598 (by decide +kernel) (by decide +kernel), qi_J0, uq 599 (by decide +kernel) (by decide +kernel), ⟨by decide +kernel, by decide +kernel, by decide +kernel⟩⟩
theorem uv_J0_indexOf_7cf53 : UV yJ0_indexOf_7cf53 cJ0_indexOf_7cf53 3 (some .int) 2 := ⟨uq 601 (by decide +kernel) (by decide +kernel), uq 602 (by decide +kernel) (by decide +kernel), qi_J0, uq 603 (by decide +kernel) (by decide +kernel), ⟨by decide +kernel, by decide +kernel, by decide +kernel⟩⟩
theorem uv_J0_isLatin1_aae02 : UV yJ0_isLatin1_aae02 cJ0_isLatin1_aae02 1 (some .boolean) 0 := ⟨uq 605 (by decide +kernel) (by decide +kernel), uq 606 (by decide +kernel) (by decide +kernel), qi_J0, uq 607 (by decide +kernel) (by decide +kernel), ⟨by decide +kernel, by decide +kernel, by decide +kernel⟩⟩
theorem uv_J0_length_8abf5 : UV yJ0_length_8abf5 cJ0_length_8abf5 1 (some .int) 0 := ⟨uq 205 (by decide +kernel) (by decide +kernel), uq 206 (by decide +kernel) (by decide +kernel), qi_J0, uq 207 (by decide +kernel) (by decide +kernel), ⟨by decide +kernel, by decide +kernel, by decide +kernel⟩⟩
theorem uv_J0_coder_7d493 : UV yJ0_coder_7d493 cJ0_coder_7d493 1 (some .byte) 0 := ⟨uq 209 (by decide +kernel) (by decide +kernel), uq 210 (by decide +kernel) (by decide +kernel), qi_J0, uq 211 (by decide +kernel) (by decide +kernel), ⟨by decide +kernel, by decide +kernel, by decide +kernel⟩⟩
theorem us_J1_indexOf_4cfef : US yJ1_indexOf_4cfef cJ1_indexOf_4cfef 4 (some .int) 4 := ⟨uq 610 (by decide +kernel) (by decide +kernel), qi_J1, uq 611 (by decide +kernel) (by decide +kernel), ⟨by decide +kernel, by decide +kernel, by decide +kernel⟩⟩
theorem us_J1_canEncode_9a6ad : US yJ1_canEncode_9a6ad cJ1_canEncode_9a6ad 1 (some .boolean) 1 := ⟨uq 613 (by decide +kernel) (by decide +kernel), qi_J1, uq 614 (by decide +kernel) (by decide +kernel), ⟨by decide +kernel, by decide +kernel, by decide +kernel⟩⟩
theorem us_J1_indexOfChar_4cfef : US yJ1_indexOfChar_4cfef cJ1_indexOfChar_4cfef 6 (some .int) 4 := ⟨uq 622 (by decide +kernel) (by decide +kernel), qi_J1, uq 623 (by decide +kernel) (by decide +kernel), ⟨by decide +kernel, by decide +kernel, by decide +kernel⟩⟩
theorem qm_J0_633 : Cond.methodLink RJ0 633 yJ0_indexOf_7cf53 ∈ UW := uq 600 (by decide +kernel) (by decide +kernel)
theorem qm_J0_492 : Cond.methodLink RJ0 492 yJ0_isLatin1_aae02 ∈ UW := uq 604 (by decide +kernel) (by decide +kernel)
theorem qm_J0_505 : Cond.methodLink RJ0 505 yJ0_length_8abf5 ∈ UW := uq 608 (by decide +kernel) (by decide +kernel)
theorem qm_J0_637 : Cond.methodLink RJ0 637 yJ1_indexOf_4cfef ∈ UW := uq 609 (by decide +kernel) (by decide +kernel)
theorem qm_J0_335 : Cond.methodLink RJ0 335 yJ0_coder_7d493 ∈ UW := uq 208 (by decide +kernel) (by decide +kernel)
theorem qm_J1_88 : Cond.methodLink RJ1 88 yJ1_canEncode_9a6ad ∈ UW := uq 612 (by decide +kernel) (by decide +kernel)
theorem qm_J1_92 : Cond.methodLink RJ1 92 Lib.Math.max.name ∈ UW := uq 615 (by decide +kernel) (by decide +kernel)
theorem qm_J1_38 : Cond.methodLink RJ1 38 Lib.Math.min.name ∈ UW := uq 618 (by decide +kernel) (by decide +kernel)
theorem qm_J1_95 : Cond.methodLink RJ1 95 yJ1_indexOfChar_4cfef ∈ UW := uq 621 (by decide +kernel) (by decide +kernel)
theorem qm_X8_86 : Cond.methodLink RX8 86 yJ0_indexOf_0f7a4 ∈ UW := uq 596 (by decide +kernel) (by decide +kernel)
theorem qm_X3_13 : Cond.methodLink RX3 13 yJ0_length_8abf5 ∈ UW := uq 204 (by decide +kernel) (by decide +kernel)
theorem qf_J0_38 : Cond.fieldLink RJ0 38 "java/lang/String" "COMPACT_STRINGS" "Z" ∈ UW := uq 212 (by decide +kernel) (by decide +kernel)
theorem qf_J0_9 : Cond.fieldLink RJ0 9 "java/lang/String" "value" "[B" ∈ UW := uq 1919 (by decide +kernel) (by decide +kernel)
theorem qf_J0_15 : Cond.fieldLink RJ0 15 "java/lang/String" "coder" "B" ∈ UW := uq 1920 (by decide +kernel) (by decide +kernel)
def SQ (aS aV : Nat) (A : Nat → Prop) (U : State) (H : Heap) : Prop := vk_S 1 [6] [[97, 100, 111, 104, 98, 110]] (fun _ => aS) (fun _ => aV) A U H ∧ va_Z "java/lang/String" "COMPACT_STRINGS" "Z" (.int 1) A U H
def ME (l : Launch) (y : MethodName) (bytes : ByteArray) (maxL : Nat) (ret : Option FieldType) (h : Nat) (D : va_G) (tys : List (ClassId × FieldType)) (wd : St → va_W) (A : Nat → Prop) (aS aV : Nat) (avs : List Value) (σ : St) (Qc : Array Value → State → Outcome → State → Prop) : Prop :=
  Met l y (Cond.code y bytes maxL ret :: UW) (rmH h) (va_Pc avs (fun U => Pw D tys wd A σ U ∧ SQ aS aV A U U.heap)) Qc 0 0 A
theorem SQ.same {aS aV : Nat} {A : Nat → Prop} {s U : State} {H : Heap} (h : SQ aS aV A s H) (hv : U.vm = s.vm) : SQ aS aV A U H := by
  have al : s.vm.Alike U.vm := by rw [hv]; exact Vm.Alike.refl _
  exact ⟨h.1.moved al, h.2.moved al⟩
theorem ME.blind (D : va_G) (tys : List (ClassId × FieldType)) (wd : St → va_W) (A : Nat → Prop) (aS aV : Nat) (σ : St) (avs : List Value) : FrameBlind (va_Pc avs (fun U => Pw D tys wd A σ U ∧ SQ aS aV A U U.heap)) := fun a U g mk q => by
  obtain ⟨q0, ⟨qP, qK, qD, qS⟩, qQ⟩ := q
  exact ⟨q0, ⟨qP, va_K.moved (u := U) (U := U.calling g mk a) (Vm.Alike.refl U.vm) qK, qD, SP.same (U := U.calling g mk a) qS rfl⟩, SQ.same (U := U.calling g mk a) qQ rfl⟩
section STR
variable {p : Program} {l : Launch} {e : Env} {R : Room} {s : State} {m : MethodId} {args : Array Value} {below : List Frame} {meth : Method} {c : Code} {cc : ByteArray} {nL : Nat} {ret : Option FieldType} {own : String} {D : va_G} {tys : List (ClassId × FieldType)} {wd : St → va_W} {A : Nat → Prop} {Q : State → Prop} {pc : Nat} {lv lv' : List (Nat × Value)} {st : List Value} {σ : St} {aS aV : Nat}
theorem mk_metE {y : MethodName} {bytes : ByteArray} {maxL h : Nat} {avs : List Value} {Qc : Array Value → State → Outcome → State → Prop} (hy : plainName y.cls = true) (hlen : (lg_sl avs).length ≤ maxL)
    (body : ∀ (p : Program) (e : Env) (s : State) (m : MethodId) (below : List Frame) (meth : Method) (c : Code), Cx p s m avs.toArray meth c bytes maxL ret y.cls D tys wd A → SQ aS aV A s s.heap → V p l e (rmH h) s m avs.toArray below meth c maxL D wd A (MQ below Qc avs.toArray s 0 0 A) 0 (lv_args 0 avs) [] σ) : ME l y bytes maxL ret h D tys wd A aS aV avs σ Qc := by
  unfold ME
  refine Met.ofW (cc := bytes) (maxL := maxL) (ret := ret) hy rfl ?_
  intro p e s m args below meth c s₁ B hml hv
  obtain ⟨rfl, ⟨hP, hK, hD, hS⟩, hQ⟩ := hv
  have hts := atoms_spec (ws := Cond.code y bytes maxL ret :: UW) B.pre
  rw [lg_entry_eq]
  exact body p e s m below meth c ⟨B.exec, B.bytes, hml, findClass_of_methodNamed B.named, fun w hw => hts w (List.mem_cons_of_mem _ hw), hK, hD, B.returns, B.notSynchronized, hS⟩ hQ s.heap [] _ hP va_S.rf (lv_entry avs hlen)
theorem v_eqi {x y : Int32} (h : x = y) (kk : V p l e R s m args below meth c nL D wd A Q pc lv (.int y :: st) σ) : V p l e R s m args below meth c nL D wd A Q pc lv (.int x :: st) σ := by rw [h]; exact kk
theorem x_VE (K : Cx p s m args meth c cc nL ret own D tys wd A) (hq : SQ aS aV A s s.heap) {y : MethodName} {bytes : ByteArray} {maxL h2 n index : Nat} {ret2 : Option FieldType} {As : List Value} (hu : UV y bytes maxL ret2 n) (hlk : Cond.methodLink own index y ∈ UW) (hdg : decode cc pc = .ok (.invokevirtual index, 3)) (hcl : y.cls = "java/lang/String") {r1 : Int32} (hc : ME l y bytes maxL ret2 h2 D tys wd A aS aV (.ref aS :: As) σ (QI D wd A (r1, σ))) (hn : As.length = n) (hroom : h2 + 1 ≤ R.frames ∧ 8 + (maxL + 11) + 60 * h2 ≤ R.locals) (hcat : (st.map fun v => v.category).sum ≤ 8) (kk : V p l e R s m args below meth c nL D wd A Q (pc + 3) lv (.int r1 :: st) σ) : V p l e R s m args below meth c nL D wd A Q pc lv (As.reverse ++ .ref aS :: st) σ := fun H locs ls hP hS h =>
  va_calli (va_runV (As := As) (rest := st) ⟨K.1, K.2.1, K.2.2.1, K.2.2.2.1, K.2.2.2.2.1⟩ hc ⟨callB_of n K.2.2.2.2.1 (uw_in' hu.2.2.2.1) rfl rfl rfl (K.2.2.2.2.1 _ hu.2.2.1) (K.2.2.2.2.1 _ hlk) hu.2.2.2.2 hroom, K.2.2.2.2.1 _ hu.1, K.2.2.2.2.1 _ hu.2.1⟩ ⟨ME.blind _ _ _ _ _ _ _ _, by rw [hcl]; exact vk_recv (i := 0) hq.1 (by decide) hS, fun U hU hW => ⟨rfl, ⟨by rw [hU]; exact hP, va_K.moved hW.alike K.2.2.2.2.2.1, K.2.2.2.2.2.2.1, by rw [hU]; exact K.2.2.2.2.2.2.2.2.2.go hW hS.2.1⟩, by rw [hU]; exact ⟨(hq.1.kept hS.2.1).moved hW.alike, (hq.2.kept hS.2.1).moved hW.alike⟩⟩⟩ rfl hn h.1 rfl (lv_room hcat) hdg ⟨Nat.zero_le _, Nat.zero_le _⟩) hS (fun q _ h => h) (fun q h => h) (fun r u t H1 locs1 ht hvm hw hB hz1 hk1 hS1 => by
    obtain ⟨rfl, rfl⟩ := Prod.mk.inj hw
    exact kk H1 locs1 ls (by rw [← ht]; exact hB) hS1 h)
theorem x_SE (K : Cx p s m args meth c cc nL ret own D tys wd A) (hq : SQ aS aV A s s.heap) {y : MethodName} {bytes : ByteArray} {maxL h2 n index : Nat} {ret2 : Option FieldType} {As : List Value} (hu : US y bytes maxL ret2 n) (hlk : Cond.methodLink own index y ∈ UW) (hdg : decode cc pc = .ok (.invokestatic index, 3)) {r1 : Int32} (hc : ME l y bytes maxL ret2 h2 D tys wd A aS aV As σ (QI D wd A (r1, σ))) (hn : As.length = n) (hroom : h2 + 1 ≤ R.frames ∧ 8 + (maxL + 11) + 60 * h2 ≤ R.locals) (hcat : (st.map fun v => v.category).sum ≤ 8) (kk : V p l e R s m args below meth c nL D wd A Q (pc + 3) lv (.int r1 :: st) σ) : V p l e R s m args below meth c nL D wd A Q pc lv (As.reverse ++ st) σ := fun H locs ls hP hS h =>
  va_calli (va_runS (As := As) (rest := st) ⟨K.1, K.2.1, K.2.2.1, K.2.2.2.1, K.2.2.2.2.1⟩ hc ⟨callB_of n K.2.2.2.2.1 (uw_in' hu.2.2.1) rfl rfl rfl (K.2.2.2.2.1 _ hu.2.1) (K.2.2.2.2.1 _ hlk) hu.2.2.2 hroom, K.2.2.2.2.1 _ hu.1⟩ ⟨ME.blind _ _ _ _ _ _ _ _, fun U hU hW => ⟨rfl, ⟨by rw [hU]; exact hP, va_K.moved hW.alike K.2.2.2.2.2.1, K.2.2.2.2.2.2.1, by rw [hU]; exact K.2.2.2.2.2.2.2.2.2.go hW hS.2.1⟩, by rw [hU]; exact ⟨(hq.1.kept hS.2.1).moved hW.alike, (hq.2.kept hS.2.1).moved hW.alike⟩⟩⟩ rfl hn h.1 rfl (lv_room hcat) hdg ⟨Nat.zero_le _, Nat.zero_le _⟩) hS (fun q _ h => h) (fun q h => h) (fun r u t H1 locs1 ht hvm hw hB hz1 hk1 hS1 => by
    obtain ⟨rfl, rfl⟩ := Prod.mk.inj hw
    exact kk H1 locs1 ls (by rw [← ht]; exact hB) hS1 h)
theorem x_gsZ (K : Cx p s m args meth c cc nL ret own D tys wd A) (hq : SQ aS aV A s s.heap) {index : Nat} (hw : Cond.fieldLink own index "java/lang/String" "COMPACT_STRINGS" "Z" ∈ UW) (hdg : decode cc pc = .ok (.getstatic index, 3)) (kk : V p l e R s m args below meth c nL D wd A Q (pc + 3) lv (.int 1 :: st) σ) : V p l e R s m args below meth c nL D wd A Q pc lv st σ := fun H locs ls hP hS h => va_gets K.1 K.2.1 hq.2 hS K.2.2.2.1 (K.2.2.2.2.1 _ hw) (fun _ q => q) hdg (kk H locs ls hP hS h)
theorem x_gfc (K : Cx p s m args meth c cc nL ret own D tys wd A) (hq : SQ aS aV A s s.heap) {index : Nat} (hw : Cond.fieldLink own index "java/lang/String" "coder" "B" ∈ UW) (hdg : decode cc pc = .ok (.getfield index, 3)) (kk : V p l e R s m args below meth c nL D wd A Q (pc + 3) lv (.int 0 :: st) σ) : V p l e R s m args below meth c nL D wd A Q pc lv (.ref aS :: st) σ := fun H locs ls hP hS h => vk_getf K.1 K.2.1 (hq.1.1 0 (by decide)).2.1 hS K.2.2.2.1 (K.2.2.2.2.1 _ hw) (fun _ q => q) hdg (kk H locs ls hP hS h)
theorem x_gfv (K : Cx p s m args meth c cc nL ret own D tys wd A) (hq : SQ aS aV A s s.heap) {index : Nat} (hw : Cond.fieldLink own index "java/lang/String" "value" "[B" ∈ UW) (hdg : decode cc pc = .ok (.getfield index, 3)) (kk : V p l e R s m args below meth c nL D wd A Q (pc + 3) lv (.ref aV :: st) σ) : V p l e R s m args below meth c nL D wd A Q pc lv (.ref aS :: st) σ := fun H locs ls hP hS h => vk_getf K.1 K.2.1 (hq.1.1 0 (by decide)).2.2.1 hS K.2.2.2.1 (K.2.2.2.2.1 _ hw) (fun _ q => q) hdg (kk H locs ls hP hS h)
theorem x_tlen (K : Cx p s m args meth c cc nL ret own D tys wd A) (hq : SQ aS aV A s s.heap) (hdg : decode cc pc = .ok (.arraylength, 1)) (kk : V p l e R s m args below meth c nL D wd A Q (pc + 1) lv (.int 6 :: st) σ) : V p l e R s m args below meth c nL D wd A Q pc lv (.ref aV :: st) σ := fun H locs ls hP hS h => va_tlen K.1 K.2.1 (hq.1.1 0 (by decide)).2.2.2 hS rfl hdg (kk H locs ls hP hS h)
theorem x_tb (K : Cx p s m args meth c cc nL ret own D tys wd A) (hq : SQ aS aV A s s.heap) {i v : Int32} (hi : vp_in i 6) (hv : ([97, 100, 111, 104, 98, 110] : List Int32).getD i.toNatClampNeg 0 = v) (hdg : decode cc pc = .ok (.baload, 1)) (kk : V p l e R s m args below meth c nL D wd A Q (pc + 1) lv (.int v :: st) σ) : V p l e R s m args below meth c nL D wd A Q pc lv (.int i :: .ref aV :: st) σ := fun H locs ls hP hS h => va_tb K.1 K.2.1 (hq.1.1 0 (by decide)).2.2.2 hS hi (congrArg Value.int hv) hdg (kk H locs ls hP hS h)
end STR
theorem c_J0_coder_7d493 (l : Launch) {D : va_G} {tys : List (ClassId × FieldType)} {wd : St → va_W} {A : Nat → Prop} {aS aV : Nat} (σ : St) : ME l yJ0_coder_7d493 cJ0_coder_7d493 1 (some .byte) 1 D tys wd A aS aV [.ref aS] σ (QI D wd A ((0 : Int32), σ)) := by
  refine mk_metE (by decide +kernel) (Nat.le_of_ble_eq_true rfl) (fun p e s m below meth c K hq => ?_)
  have K : Cx p s m _ meth c cJ0_coder_7d493 1 (some .byte) RJ0 D tys wd A := K
  refine x_gsZ K hq qf_J0_38 dJ0_coder_7d493_0 ?_
  refine v_if_eq K 13 dJ0_coder_7d493_3 (by decide) (E := none) (F := some ((0 : Int32), σ)) (res := ((0 : Int32), σ)) rfl (fun h => by cases h) (fun _ => ?_)
  refine v_aload_n K dJ0_coder_7d493_6 0 rfl ?_
  refine x_gfc K hq qf_J0_15 dJ0_coder_7d493_7 ?_
  refine v_goto (tgt := 14) K dJ0_coder_7d493_10 (by decide) ?_
  exact v_zret K rfl rfl dJ0_coder_7d493_14 rfl
theorem c_J0_isLatin1_aae02 (l : Launch) {D : va_G} {tys : List (ClassId × FieldType)} {wd : St → va_W} {A : Nat → Prop} {aS aV : Nat} (σ : St) : ME l yJ0_isLatin1_aae02 cJ0_isLatin1_aae02 1 (some .boolean) 1 D tys wd A aS aV [.ref aS] σ (QI D wd A ((1 : Int32), σ)) := by
  refine mk_metE (by decide +kernel) (Nat.le_of_ble_eq_true rfl) (fun p e s m below meth c K hq => ?_)
  have K : Cx p s m _ meth c cJ0_isLatin1_aae02 1 (some .boolean) RJ0 D tys wd A := K
  refine x_gsZ K hq qf_J0_38 dJ0_isLatin1_aae02_0 ?_
  refine v_if_eq K 17 dJ0_isLatin1_aae02_3 (by decide) (E := none) (F := some ((1 : Int32), σ)) (res := ((1 : Int32), σ)) rfl (fun h => by cases h) (fun _ => ?_)
  refine v_aload_n K dJ0_isLatin1_aae02_6 0 rfl ?_
  refine x_gfc K hq qf_J0_15 dJ0_isLatin1_aae02_7 ?_
  refine v_if_ne K 17 dJ0_isLatin1_aae02_10 (by decide) (E := none) (F := some ((1 : Int32), σ)) (res := ((1 : Int32), σ)) rfl (fun h => by cases h) (fun _ => ?_)
  refine v_iconst (v := 1) K dJ0_isLatin1_aae02_13 (by decide) ?_
  refine v_goto (tgt := 18) K dJ0_isLatin1_aae02_14 (by decide) ?_
  exact v_zret K rfl rfl dJ0_isLatin1_aae02_18 rfl
theorem c_J0_length_8abf5 (l : Launch) {D : va_G} {tys : List (ClassId × FieldType)} {wd : St → va_W} {A : Nat → Prop} {aS aV : Nat} (σ : St) : ME l yJ0_length_8abf5 cJ0_length_8abf5 1 (some .int) 2 D tys wd A aS aV [.ref aS] σ (QI D wd A ((6 : Int32), σ)) := by
  refine mk_metE (by decide +kernel) (Nat.le_of_ble_eq_true rfl) (fun p e s m below meth c K hq => ?_)
  have K : Cx p s m _ meth c cJ0_length_8abf5 1 (some .int) RJ0 D tys wd A := K
  refine v_aload_n K dJ0_length_8abf5_0 0 rfl ?_
  refine x_gfv K hq qf_J0_9 dJ0_length_8abf5_1 ?_
  refine x_tlen K hq dJ0_length_8abf5_4 ?_
  refine v_aload_n K dJ0_length_8abf5_5 0 rfl ?_
  refine x_VE (As := []) (st := [.int 6]) K hq uv_J0_coder_7d493 qm_J0_335 dJ0_length_8abf5_6 rfl (c_J0_coder_7d493 l σ) rfl ⟨Nat.le_of_ble_eq_true rfl, Nat.le_of_ble_eq_true rfl⟩ (Nat.le_of_ble_eq_true rfl) ?_
  refine v_ishr K dJ0_length_8abf5_9 ?_
  refine v_eqi (y := 6) (by decide) ?_
  exact v_iret K rfl dJ0_length_8abf5_10 rfl
def can8 (x : Int32) : Int32 := if x < 0 then 0 else if 255 < x then 0 else 1
theorem c_J1_canEncode_9a6ad (l : Launch) {D : va_G} {tys : List (ClassId × FieldType)} {wd : St → va_W} {A : Nat → Prop} {aS aV : Nat} (σ : St) (x : Int32) : ME l yJ1_canEncode_9a6ad cJ1_canEncode_9a6ad 1 (some .boolean) 1 D tys wd A aS aV [.int x] σ (QI D wd A (can8 x, σ)) := by
  refine mk_metE (by decide +kernel) (Nat.le_of_ble_eq_true rfl) (fun p e s m below meth c K hq => ?_)
  have K : Cx p s m _ meth c cJ1_canEncode_9a6ad 1 (some .boolean) RJ1 D tys wd A := K
  have hM : (if x < 0 then some ((0 : Int32), σ) else if 255 < x then some (0, σ) else some (1, σ)) = some (can8 x, σ) := by unfold can8; split <;> (try split) <;> rfl
  refine v_iload_n K dJ1_canEncode_9a6ad_0 0 rfl ?_
  refine v_if_lt K 15 dJ1_canEncode_9a6ad_1 (by decide) hM (fun hM => ?_) (fun hM => ?_)
  · refine v_iconst (v := 0) K dJ1_canEncode_9a6ad_15 (by decide) ?_
    exact v_zret K rfl rfl dJ1_canEncode_9a6ad_16 hM
  · refine v_iload_n K dJ1_canEncode_9a6ad_4 0 rfl ?_
    refine v_sipush (v := 255) K dJ1_canEncode_9a6ad_5 (by decide) ?_
    refine v_icmp_gt K 15 dJ1_canEncode_9a6ad_8 (by decide) hM (fun hM => ?_) (fun hM => ?_)
    · refine v_iconst (v := 0) K dJ1_canEncode_9a6ad_15 (by decide) ?_
      exact v_zret K rfl rfl dJ1_canEncode_9a6ad_16 hM
    · refine v_iconst (v := 1) K dJ1_canEncode_9a6ad_11 (by decide) ?_
      refine v_goto (tgt := 16) K dJ1_canEncode_9a6ad_12 (by decide) ?_
      exact v_zret K rfl rfl dJ1_canEncode_9a6ad_16 hM
def ix8 (c : Int32) : Int32 := if (97 : Int32) = c then (0 : Int32) else if (100 : Int32) = c then (1 : Int32) else if (111 : Int32) = c then (2 : Int32) else if (104 : Int32) = c then (3 : Int32) else if (98 : Int32) = c then (4 : Int32) else if (110 : Int32) = c then (5 : Int32) else (-1 : Int32)
theorem x_inc {p : Program} {l : Launch} {e : Env} {R : Room} {s : State} {m : MethodId} {args : Array Value} {below : List Frame} {meth : Method} {c : Code} {cc : ByteArray} {nL : Nat} {ret : Option FieldType} {own : String} {D : va_G} {tys : List (ClassId × FieldType)} {wd : St → va_W} {A : Nat → Prop} {Q : State → Prop} {pc : Nat} {lv : List (Nat × Value)} {st : List Value} {σ : St} (K : Cx p s m args meth c cc nL ret own D tys wd A) {i : Nat} {n : Int} {x v : Int32} (hdg : decode cc pc = .ok (.iinc i n, 3)) (k : Nat) (hk : lv[k]? = some (i, .int x)) (hv : x + Int32.ofInt n = v) (hn : i < nL) (lv' : List (Nat × Value)) (hl : (i, Value.int v) :: lv.filter (fun q => !(q.1 == i) && !(q.1 + 1 == i && q.2.category == 2)) = lv') (kk : V p l e R s m args below meth c nL D wd A Q (pc + 3) lv' st σ) : V p l e R s m args below meth c nL D wd A Q pc lv st σ := fun H locs ls hP hS h => lv_iinc K.1 K.2.1 hdg h hk hv hn hl (fun ls h => kk H locs ls hP hS h)
theorem c_J1_indexOfChar_4cfef (l : Launch) {D : va_G} {tys : List (ClassId × FieldType)} {wd : St → va_W} {A : Nat → Prop} {aS aV : Nat} (σ : St) (x : Int32) : ME l yJ1_indexOfChar_4cfef cJ1_indexOfChar_4cfef 6 (some .int) 1 D tys wd A aS aV [.ref aV, .int x, .int 0, .int 6] σ (QI D wd A (ix8 x.toInt8.toInt32, σ)) := by
  refine mk_metE (by decide +kernel) (Nat.le_of_ble_eq_true rfl) (fun p e s m below meth c K hq => ?_)
  have K : Cx p s m _ meth c cJ1_indexOfChar_4cfef 6 (some .int) RJ1 D tys wd A := K
  have hM : (if (97 : Int32) = x.toInt8.toInt32 then some ((0 : Int32), σ) else if (100 : Int32) = x.toInt8.toInt32 then some ((1 : Int32), σ) else if (111 : Int32) = x.toInt8.toInt32 then some ((2 : Int32), σ) else if (104 : Int32) = x.toInt8.toInt32 then some ((3 : Int32), σ) else if (98 : Int32) = x.toInt8.toInt32 then some ((4 : Int32), σ) else if (110 : Int32) = x.toInt8.toInt32 then some ((5 : Int32), σ) else some ((-1 : Int32), σ)) = some (ix8 x.toInt8.toInt32, σ) := by unfold ix8; repeat (first | rfl | split)
  refine v_iload_n K dJ1_indexOfChar_4cfef_0 1 rfl ?_
  refine v_i2b K dJ1_indexOfChar_4cfef_1 ?_
  generalize x.toInt8.toInt32 = z at hM ⊢
  refine v_istore K dJ1_indexOfChar_4cfef_2 (by decide) [(4, .int z), (0, .ref aV), (1, .int x), (2, .int 0), (3, .int 6)] rfl ?_
  refine v_iload_n K dJ1_indexOfChar_4cfef_4 3 rfl ?_
  refine v_istore K dJ1_indexOfChar_4cfef_5 (by decide) [(5, .int 0), (4, .int z), (0, .ref aV), (1, .int x), (2, .int 0), (3, .int 6)] rfl ?_
  refine v_iload K dJ1_indexOfChar_4cfef_7 0 rfl ?_
  refine v_iload_n K dJ1_indexOfChar_4cfef_9 5 rfl ?_
  refine v_icmp_ge K 31 dJ1_indexOfChar_4cfef_10 (by decide) (E := none) (F := some ((0 : Int32), σ)) (res := ((0 : Int32), σ)) rfl (fun h => by cases h) (fun _ => ?_)
  refine v_aload_n K dJ1_indexOfChar_4cfef_13 2 rfl ?_
  refine v_iload K dJ1_indexOfChar_4cfef_14 0 rfl ?_
  refine x_tb K hq (v := 97) (by unfold vp_in; decide) rfl dJ1_indexOfChar_4cfef_16 ?_
  refine v_iload K dJ1_indexOfChar_4cfef_17 1 rfl ?_
  refine v_icmp_ne K 25 dJ1_indexOfChar_4cfef_19 (by decide) hM (fun hM => ?_) (fun hM => ?_)
  rotate_left
  · refine v_iload K dJ1_indexOfChar_4cfef_22 0 rfl ?_
    exact v_iret K rfl dJ1_indexOfChar_4cfef_24 hM
  refine x_inc K dJ1_indexOfChar_4cfef_25 0 rfl (v := (1 : Int32)) (by decide) (by decide) [(5, .int 1), (4, .int z), (0, .ref aV), (1, .int x), (2, .int 0), (3, .int 6)] rfl ?_
  refine v_goto (tgt := 7) K dJ1_indexOfChar_4cfef_28 (by decide) ?_
  refine v_iload K dJ1_indexOfChar_4cfef_7 0 rfl ?_
  refine v_iload_n K dJ1_indexOfChar_4cfef_9 5 rfl ?_
  refine v_icmp_ge K 31 dJ1_indexOfChar_4cfef_10 (by decide) (E := none) (F := some ((0 : Int32), σ)) (res := ((0 : Int32), σ)) rfl (fun h => by cases h) (fun _ => ?_)
  refine v_aload_n K dJ1_indexOfChar_4cfef_13 2 rfl ?_
  refine v_iload K dJ1_indexOfChar_4cfef_14 0 rfl ?_
  refine x_tb K hq (v := 100) (by unfold vp_in; decide) rfl dJ1_indexOfChar_4cfef_16 ?_
  refine v_iload K dJ1_indexOfChar_4cfef_17 1 rfl ?_
  refine v_icmp_ne K 25 dJ1_indexOfChar_4cfef_19 (by decide) hM (fun hM => ?_) (fun hM => ?_)
  rotate_left
  · refine v_iload K dJ1_indexOfChar_4cfef_22 0 rfl ?_
    exact v_iret K rfl dJ1_indexOfChar_4cfef_24 hM
  refine x_inc K dJ1_indexOfChar_4cfef_25 0 rfl (v := (2 : Int32)) (by decide) (by decide) [(5, .int 2), (4, .int z), (0, .ref aV), (1, .int x), (2, .int 0), (3, .int 6)] rfl ?_
  refine v_goto (tgt := 7) K dJ1_indexOfChar_4cfef_28 (by decide) ?_
  refine v_iload K dJ1_indexOfChar_4cfef_7 0 rfl ?_
  refine v_iload_n K dJ1_indexOfChar_4cfef_9 5 rfl ?_
  refine v_icmp_ge K 31 dJ1_indexOfChar_4cfef_10 (by decide) (E := none) (F := some ((0 : Int32), σ)) (res := ((0 : Int32), σ)) rfl (fun h => by cases h) (fun _ => ?_)
  refine v_aload_n K dJ1_indexOfChar_4cfef_13 2 rfl ?_
  refine v_iload K dJ1_indexOfChar_4cfef_14 0 rfl ?_
  refine x_tb K hq (v := 111) (by unfold vp_in; decide) rfl dJ1_indexOfChar_4cfef_16 ?_
  refine v_iload K dJ1_indexOfChar_4cfef_17 1 rfl ?_
  refine v_icmp_ne K 25 dJ1_indexOfChar_4cfef_19 (by decide) hM (fun hM => ?_) (fun hM => ?_)
  rotate_left
  · refine v_iload K dJ1_indexOfChar_4cfef_22 0 rfl ?_
    exact v_iret K rfl dJ1_indexOfChar_4cfef_24 hM
  refine x_inc K dJ1_indexOfChar_4cfef_25 0 rfl (v := (3 : Int32)) (by decide) (by decide) [(5, .int 3), (4, .int z), (0, .ref aV), (1, .int x), (2, .int 0), (3, .int 6)] rfl ?_
  refine v_goto (tgt := 7) K dJ1_indexOfChar_4cfef_28 (by decide) ?_
  refine v_iload K dJ1_indexOfChar_4cfef_7 0 rfl ?_
  refine v_iload_n K dJ1_indexOfChar_4cfef_9 5 rfl ?_
  refine v_icmp_ge K 31 dJ1_indexOfChar_4cfef_10 (by decide) (E := none) (F := some ((0 : Int32), σ)) (res := ((0 : Int32), σ)) rfl (fun h => by cases h) (fun _ => ?_)
  refine v_aload_n K dJ1_indexOfChar_4cfef_13 2 rfl ?_
  refine v_iload K dJ1_indexOfChar_4cfef_14 0 rfl ?_
  refine x_tb K hq (v := 104) (by unfold vp_in; decide) rfl dJ1_indexOfChar_4cfef_16 ?_
  refine v_iload K dJ1_indexOfChar_4cfef_17 1 rfl ?_
  refine v_icmp_ne K 25 dJ1_indexOfChar_4cfef_19 (by decide) hM (fun hM => ?_) (fun hM => ?_)
  rotate_left
  · refine v_iload K dJ1_indexOfChar_4cfef_22 0 rfl ?_
    exact v_iret K rfl dJ1_indexOfChar_4cfef_24 hM
  refine x_inc K dJ1_indexOfChar_4cfef_25 0 rfl (v := (4 : Int32)) (by decide) (by decide) [(5, .int 4), (4, .int z), (0, .ref aV), (1, .int x), (2, .int 0), (3, .int 6)] rfl ?_
  refine v_goto (tgt := 7) K dJ1_indexOfChar_4cfef_28 (by decide) ?_
  refine v_iload K dJ1_indexOfChar_4cfef_7 0 rfl ?_
  refine v_iload_n K dJ1_indexOfChar_4cfef_9 5 rfl ?_
  refine v_icmp_ge K 31 dJ1_indexOfChar_4cfef_10 (by decide) (E := none) (F := some ((0 : Int32), σ)) (res := ((0 : Int32), σ)) rfl (fun h => by cases h) (fun _ => ?_)
  refine v_aload_n K dJ1_indexOfChar_4cfef_13 2 rfl ?_
  refine v_iload K dJ1_indexOfChar_4cfef_14 0 rfl ?_
  refine x_tb K hq (v := 98) (by unfold vp_in; decide) rfl dJ1_indexOfChar_4cfef_16 ?_
  refine v_iload K dJ1_indexOfChar_4cfef_17 1 rfl ?_
  refine v_icmp_ne K 25 dJ1_indexOfChar_4cfef_19 (by decide) hM (fun hM => ?_) (fun hM => ?_)
  rotate_left
  · refine v_iload K dJ1_indexOfChar_4cfef_22 0 rfl ?_
    exact v_iret K rfl dJ1_indexOfChar_4cfef_24 hM
  refine x_inc K dJ1_indexOfChar_4cfef_25 0 rfl (v := (5 : Int32)) (by decide) (by decide) [(5, .int 5), (4, .int z), (0, .ref aV), (1, .int x), (2, .int 0), (3, .int 6)] rfl ?_
  refine v_goto (tgt := 7) K dJ1_indexOfChar_4cfef_28 (by decide) ?_
  refine v_iload K dJ1_indexOfChar_4cfef_7 0 rfl ?_
  refine v_iload_n K dJ1_indexOfChar_4cfef_9 5 rfl ?_
  refine v_icmp_ge K 31 dJ1_indexOfChar_4cfef_10 (by decide) (E := none) (F := some ((0 : Int32), σ)) (res := ((0 : Int32), σ)) rfl (fun h => by cases h) (fun _ => ?_)
  refine v_aload_n K dJ1_indexOfChar_4cfef_13 2 rfl ?_
  refine v_iload K dJ1_indexOfChar_4cfef_14 0 rfl ?_
  refine x_tb K hq (v := 110) (by unfold vp_in; decide) rfl dJ1_indexOfChar_4cfef_16 ?_
  refine v_iload K dJ1_indexOfChar_4cfef_17 1 rfl ?_
  refine v_icmp_ne K 25 dJ1_indexOfChar_4cfef_19 (by decide) hM (fun hM => ?_) (fun hM => ?_)
  rotate_left
  · refine v_iload K dJ1_indexOfChar_4cfef_22 0 rfl ?_
    exact v_iret K rfl dJ1_indexOfChar_4cfef_24 hM
  refine x_inc K dJ1_indexOfChar_4cfef_25 0 rfl (v := (6 : Int32)) (by decide) (by decide) [(5, .int 6), (4, .int z), (0, .ref aV), (1, .int x), (2, .int 0), (3, .int 6)] rfl ?_
  refine v_goto (tgt := 7) K dJ1_indexOfChar_4cfef_28 (by decide) ?_
  refine v_iload K dJ1_indexOfChar_4cfef_7 0 rfl ?_
  refine v_iload_n K dJ1_indexOfChar_4cfef_9 5 rfl ?_
  refine v_icmp_ge K 31 dJ1_indexOfChar_4cfef_10 (by decide) (E := some ((0 : Int32), σ)) (F := none) (res := ((0 : Int32), σ)) rfl (fun _ => ?_) (fun h => by cases h)
  refine v_iconst (v := -1) K dJ1_indexOfChar_4cfef_31 (by decide) ?_
  exact v_iret K rfl dJ1_indexOfChar_4cfef_32 hM
def ixL (x : Int32) : Int32 := if can8 x = 0 then -1 else ix8 x.toInt8.toInt32
theorem c_J1_indexOf_4cfef (l : Launch) {D : va_G} {tys : List (ClassId × FieldType)} {wd : St → va_W} {A : Nat → Prop} {aS aV : Nat} (σ : St) (x : Int32) : ME l yJ1_indexOf_4cfef cJ1_indexOf_4cfef 4 (some .int) 2 D tys wd A aS aV [.ref aV, .int x, .int 0, .int 6] σ (QI D wd A (ixL x, σ)) := by
  refine mk_metE (by decide +kernel) (Nat.le_of_ble_eq_true rfl) (fun p e s m below meth c K hq => ?_)
  have K : Cx p s m _ meth c cJ1_indexOf_4cfef 4 (some .int) RJ1 D tys wd A := K
  have hM : (if can8 x = 0 then some ((-1 : Int32), σ) else some (ix8 x.toInt8.toInt32, σ)) = some (ixL x, σ) := by unfold ixL; split <;> rfl
  refine v_iload_n K dJ1_indexOf_4cfef_0 1 rfl ?_
  refine x_SE (As := [.int x]) (st := []) K hq us_J1_canEncode_9a6ad qm_J1_88 dJ1_indexOf_4cfef_1 (c_J1_canEncode_9a6ad l σ x) rfl ⟨Nat.le_of_ble_eq_true rfl, Nat.le_of_ble_eq_true rfl⟩ (Nat.le_of_ble_eq_true rfl) ?_
  refine v_if_ne K 9 dJ1_indexOf_4cfef_4 (by decide) hM (fun hM => ?_) (fun hM => ?_)
  rotate_left
  · refine v_iconst (v := -1) K dJ1_indexOf_4cfef_7 (by decide) ?_
    exact v_iret K rfl dJ1_indexOf_4cfef_8 hM
  refine v_iload_n K dJ1_indexOf_4cfef_9 2 rfl ?_
  refine v_iconst (v := 0) K dJ1_indexOf_4cfef_10 (by decide) ?_
  refine x_mmax K qm_J1_92 qs_max qi_Math qk_max dJ1_indexOf_4cfef_11 (Nat.le_of_ble_eq_true rfl) (Nat.le_of_ble_eq_true rfl) ?_
  refine v_eqi (y := 0) (by decide) ?_
  refine v_istore_n K dJ1_indexOf_4cfef_14 rfl (by decide) [(2, .int 0), (0, .ref aV), (1, .int x), (3, .int 6)] rfl ?_
  refine v_iload_n K dJ1_indexOf_4cfef_15 3 rfl ?_
  refine v_aload_n K dJ1_indexOf_4cfef_16 1 rfl ?_
  refine x_tlen K hq dJ1_indexOf_4cfef_17 ?_
  refine x_mmin K qm_J1_38 qs_min qi_Math qk_min dJ1_indexOf_4cfef_18 (Nat.le_of_ble_eq_true rfl) (Nat.le_of_ble_eq_true rfl) ?_
  refine v_eqi (y := 6) (by decide) ?_
  refine v_istore_n K dJ1_indexOf_4cfef_21 rfl (by decide) [(3, .int 6), (2, .int 0), (0, .ref aV), (1, .int x)] rfl ?_
  refine v_iload_n K dJ1_indexOf_4cfef_22 1 rfl ?_
  refine v_iload_n K dJ1_indexOf_4cfef_23 0 rfl ?_
  refine v_icmp_lt K 29 dJ1_indexOf_4cfef_24 (by decide) (E := some ((0 : Int32), σ)) (F := none) (res := ((0 : Int32), σ)) rfl (fun _ => ?_) (fun h => by cases h)
  refine v_aload_n K dJ1_indexOf_4cfef_29 2 rfl ?_
  refine v_iload_n K dJ1_indexOf_4cfef_30 3 rfl ?_
  refine v_iload_n K dJ1_indexOf_4cfef_31 1 rfl ?_
  refine v_iload_n K dJ1_indexOf_4cfef_32 0 rfl ?_
  refine x_SE (As := [.ref aV, .int x, .int 0, .int 6]) (st := []) K hq us_J1_indexOfChar_4cfef qm_J1_95 dJ1_indexOf_4cfef_33 (c_J1_indexOfChar_4cfef l σ x) rfl ⟨Nat.le_of_ble_eq_true rfl, Nat.le_of_ble_eq_true rfl⟩ (Nat.le_of_ble_eq_true rfl) ?_
  exact v_iret K rfl dJ1_indexOf_4cfef_36 hM
theorem c_J0_indexOf_7cf53 (l : Launch) {D : va_G} {tys : List (ClassId × FieldType)} {wd : St → va_W} {A : Nat → Prop} {aS aV : Nat} (σ : St) (x : Int32) : ME l yJ0_indexOf_7cf53 cJ0_indexOf_7cf53 3 (some .int) 3 D tys wd A aS aV [.ref aS, .int x, .int 0] σ (QI D wd A (ixL x, σ)) := by
  refine mk_metE (by decide +kernel) (Nat.le_of_ble_eq_true rfl) (fun p e s m below meth c K hq => ?_)
  have K : Cx p s m _ meth c cJ0_indexOf_7cf53 3 (some .int) RJ0 D tys wd A := K
  refine v_aload_n K dJ0_indexOf_7cf53_0 0 rfl ?_
  refine x_VE (As := []) (st := []) K hq uv_J0_isLatin1_aae02 qm_J0_492 dJ0_indexOf_7cf53_1 rfl (c_J0_isLatin1_aae02 l σ) rfl ⟨Nat.le_of_ble_eq_true rfl, Nat.le_of_ble_eq_true rfl⟩ (Nat.le_of_ble_eq_true rfl) ?_
  refine v_if_eq K 23 dJ0_indexOf_7cf53_4 (by decide) (E := none) (F := some ((0 : Int32), σ)) (res := ((0 : Int32), σ)) rfl (fun h => by cases h) (fun _ => ?_)
  refine v_aload_n K dJ0_indexOf_7cf53_7 0 rfl ?_
  refine x_gfv K hq qf_J0_9 dJ0_indexOf_7cf53_8 ?_
  refine v_iload_n K dJ0_indexOf_7cf53_11 1 rfl ?_
  refine v_iload_n K dJ0_indexOf_7cf53_12 2 rfl ?_
  refine v_aload_n K dJ0_indexOf_7cf53_13 0 rfl ?_
  refine x_VE (As := []) (st := [.int 0, .int x, .ref aV]) K hq uv_J0_length_8abf5 qm_J0_505 dJ0_indexOf_7cf53_14 rfl (c_J0_length_8abf5 l σ) rfl ⟨Nat.le_of_ble_eq_true rfl, Nat.le_of_ble_eq_true rfl⟩ (Nat.le_of_ble_eq_true rfl) ?_
  refine x_SE (As := [.ref aV, .int x, .int 0, .int 6]) (st := []) K hq us_J1_indexOf_4cfef qm_J0_637 dJ0_indexOf_7cf53_17 (c_J1_indexOf_4cfef l σ x) rfl ⟨Nat.le_of_ble_eq_true rfl, Nat.le_of_ble_eq_true rfl⟩ (Nat.le_of_ble_eq_true rfl) ?_
  refine v_goto (tgt := 36) K dJ0_indexOf_7cf53_20 (by decide) ?_
  exact v_iret K rfl dJ0_indexOf_7cf53_36 rfl
theorem c_J0_indexOf_0f7a4 (l : Launch) {D : va_G} {tys : List (ClassId × FieldType)} {wd : St → va_W} {A : Nat → Prop} {aS aV : Nat} (σ : St) (x : Int32) : ME l yJ0_indexOf_0f7a4 cJ0_indexOf_0f7a4 2 (some .int) 4 D tys wd A aS aV [.ref aS, .int x] σ (QI D wd A (ixL x, σ)) := by
  refine mk_metE (by decide +kernel) (Nat.le_of_ble_eq_true rfl) (fun p e s m below meth c K hq => ?_)
  have K : Cx p s m _ meth c cJ0_indexOf_0f7a4 2 (some .int) RJ0 D tys wd A := K
  refine v_aload_n K dJ0_indexOf_0f7a4_0 0 rfl ?_
  refine v_iload_n K dJ0_indexOf_0f7a4_1 1 rfl ?_
  refine v_iconst (v := 0) K dJ0_indexOf_0f7a4_2 (by decide) ?_
  refine x_VE (As := [.int x, .int 0]) (st := []) K hq uv_J0_indexOf_7cf53 qm_J0_633 dJ0_indexOf_0f7a4_3 rfl (c_J0_indexOf_7cf53 l σ x) rfl ⟨Nat.le_of_ble_eq_true rfl, Nat.le_of_ble_eq_true rfl⟩ (Nat.le_of_ble_eq_true rfl) ?_
  exact v_iret K rfl dJ0_indexOf_0f7a4_6 rfl
section STR2
variable {p : Program} {l : Launch} {e : Env} {R : Room} {s : State} {m : MethodId} {args : Array Value} {below : List Frame} {meth : Method} {c : Code} {cc : ByteArray} {nL : Nat} {ret : Option FieldType} {D : va_G} {tys : List (ClassId × FieldType)} {wd : St → va_W} {A : Nat → Prop} {Q : State → Prop} {pc : Nat} {lv : List (Nat × Value)} {st : List Value} {σ : St}
theorem x_str (K : Cx p s m args meth c cc nL ret RX8 D tys wd A) (hdg : decode cc pc = .ok (.ldc 84, 2)) (kk : ∀ aS : Nat, (∃ aV : Nat, SQ aS aV A s s.heap) → V p l e R s m args below meth c nL D wd A Q (pc + 2) lv (.ref aS :: st) σ) : V p l e R s m args below meth c nL D wd A Q pc lv st σ := fun H locs ls hP hS h => by
  obtain ⟨aS, aV, r1, r2, k⟩ := K.2.2.2.2.2.2.2.2.2.2.2.2.1
  exact va_ldcS K.1 K.2.1 K.2.2.2.1 r1 hdg (kk aS ⟨aV, k, K.2.2.2.2.2.2.2.2.2.2.2.2.2⟩ H locs ls hP hS h)
theorem x_ixof (K : Cx p s m args meth c cc nL ret RX8 D tys wd A) {aS : Nat} (hq : ∃ aV : Nat, SQ aS aV A s s.heap) (hdg : decode cc pc = .ok (.invokevirtual 86, 3)) {x : Int32} (hroom : 5 ≤ R.frames ∧ 300 ≤ R.locals) (hcat : (st.map fun v => v.category).sum ≤ 8) (kk : V p l e R s m args below meth c nL D wd A Q (pc + 3) lv (.int (ixL x) :: st) σ) : V p l e R s m args below meth c nL D wd A Q pc lv (.int x :: .ref aS :: st) σ := by
  obtain ⟨aV, hq⟩ := hq
  exact x_VE (As := [.int x]) (st := st) K hq uv_J0_indexOf_0f7a4 qm_X8_86 hdg rfl (c_J0_indexOf_0f7a4 l σ x) rfl ⟨hroom.1, Nat.le_trans (Nat.le_of_ble_eq_true rfl) hroom.2⟩ hcat kk
end STR2
