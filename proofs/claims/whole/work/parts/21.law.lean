theorem qm_L_9 : Cond.methodLink RL 9 yX11_init ∈ UW := uq 118 (by decide +kernel) (by decide +kernel)
theorem qm_L_12 : Cond.methodLink RL 12 yX12_init ∈ UW := uq 1295 (by decide +kernel) (by decide +kernel)
theorem qm_L_13 : Cond.methodLink RL 13 yX11_person ∈ UW := uq 443 (by decide +kernel) (by decide +kernel)
theorem qm_L_17 : Cond.methodLink RL 17 yX12_person ∈ UW := uq 1475 (by decide +kernel) (by decide +kernel)
theorem qm_L_18 : Cond.methodLink RL 18 yX11_people ∈ UW := uq 465 (by decide +kernel) (by decide +kernel)
theorem qm_L_22 : Cond.methodLink RL 22 yX12_people ∈ UW := uq 1486 (by decide +kernel) (by decide +kernel)
theorem qm_L_23 : Cond.methodLink RL 23 yX11_mend ∈ UW := uq 499 (by decide +kernel) (by decide +kernel)
theorem qm_L_26 : Cond.methodLink RL 26 yX12_mend ∈ UW := uq 1506 (by decide +kernel) (by decide +kernel)
theorem qm_L_27 : Cond.methodLink RL 27 yX11_of ∈ UW := uq 526 (by decide +kernel) (by decide +kernel)
theorem qm_L_30 : Cond.methodLink RL 30 yX12_of ∈ UW := uq 1525 (by decide +kernel) (by decide +kernel)
theorem qm_L_31 : Cond.methodLink RL 31 yX11_feed ∈ UW := uq 539 (by decide +kernel) (by decide +kernel)
theorem qm_L_35 : Cond.methodLink RL 35 yX12_feed ∈ UW := uq 1530 (by decide +kernel) (by decide +kernel)
theorem qm_L_36 : Cond.methodLink RL 36 yX11_law ∈ UW := uq 552 (by decide +kernel) (by decide +kernel)
theorem qm_L_40 : Cond.methodLink RL 40 yX12_law ∈ UW := uq 1534 (by decide +kernel) (by decide +kernel)
theorem qm_L_41 : Cond.methodLink RL 41 yX11_wins ∈ UW := uq 701 (by decide +kernel) (by decide +kernel)
theorem qm_L_44 : Cond.methodLink RL 44 yX12_wins ∈ UW := uq 1593 (by decide +kernel) (by decide +kernel)
theorem qm_L_45 : Cond.methodLink RL 45 yX11_course ∈ UW := uq 745 (by decide +kernel) (by decide +kernel)
theorem qm_L_48 : Cond.methodLink RL 48 yX12_course ∈ UW := uq 1632 (by decide +kernel) (by decide +kernel)
theorem qm_L_49 : Cond.methodLink RL 49 yX11_ends ∈ UW := uq 809 (by decide +kernel) (by decide +kernel)
theorem qm_L_52 : Cond.methodLink RL 52 yX12_ends ∈ UW := uq 1661 (by decide +kernel) (by decide +kernel)
theorem qm_L_53 : Cond.methodLink RL 53 yX11_best ∈ UW := uq 821 (by decide +kernel) (by decide +kernel)
theorem qm_L_56 : Cond.methodLink RL 56 yX12_best ∈ UW := uq 1665 (by decide +kernel) (by decide +kernel)
theorem qm_L_57 : Cond.methodLink RL 57 yX11_beside ∈ UW := uq 845 (by decide +kernel) (by decide +kernel)
theorem qm_L_61 : Cond.methodLink RL 61 yX12_beside ∈ UW := uq 1669 (by decide +kernel) (by decide +kernel)
theorem qm_L_62 : Cond.methodLink RL 62 yX11_tillBound ∈ UW := uq 853 (by decide +kernel) (by decide +kernel)
theorem qm_L_65 : Cond.methodLink RL 65 yX12_tillBound ∈ UW := uq 1677 (by decide +kernel) (by decide +kernel)
theorem qm_L_66 : Cond.methodLink RL 66 yX11_round ∈ UW := uq 915 (by decide +kernel) (by decide +kernel)
theorem qm_L_69 : Cond.methodLink RL 69 yX12_round ∈ UW := uq 1709 (by decide +kernel) (by decide +kernel)
theorem qm_L_70 : Cond.methodLink RL 70 yX11_sure ∈ UW := uq 923 (by decide +kernel) (by decide +kernel)
theorem qm_L_73 : Cond.methodLink RL 73 yX12_sure ∈ UW := uq 1713 (by decide +kernel) (by decide +kernel)
theorem qm_L_74 : Cond.methodLink RL 74 yX11_charges ∈ UW := uq 936 (by decide +kernel) (by decide +kernel)
theorem qm_L_77 : Cond.methodLink RL 77 yX12_charges ∈ UW := uq 1721 (by decide +kernel) (by decide +kernel)
theorem qm_L_78 : Cond.methodLink RL 78 yX11_days ∈ UW := uq 970 (by decide +kernel) (by decide +kernel)
theorem qm_L_81 : Cond.methodLink RL 81 yX12_days ∈ UW := uq 1741 (by decide +kernel) (by decide +kernel)
theorem qm_L_82 : Cond.methodLink RL 82 yX11_quiet ∈ UW := uq 990 (by decide +kernel) (by decide +kernel)
theorem qm_L_85 : Cond.methodLink RL 85 yX12_quiet ∈ UW := uq 1753 (by decide +kernel) (by decide +kernel)
theorem qm_L_86 : Cond.methodLink RL 86 yX11_judge ∈ UW := uq 994 (by decide +kernel) (by decide +kernel)
theorem qm_L_89 : Cond.methodLink RL 89 yX12_judge ∈ UW := uq 1757 (by decide +kernel) (by decide +kernel)
theorem qm_L_90 : Cond.methodLink RL 90 yX11_roll ∈ UW := uq 1010 (by decide +kernel) (by decide +kernel)
theorem qm_L_93 : Cond.methodLink RL 93 yX12_roll ∈ UW := uq 1770 (by decide +kernel) (by decide +kernel)
theorem qm_L_94 : Cond.methodLink RL 94 yX11_sold ∈ UW := uq 1036 (by decide +kernel) (by decide +kernel)
theorem qm_L_97 : Cond.methodLink RL 97 yX12_sold ∈ UW := uq 1782 (by decide +kernel) (by decide +kernel)
theorem qm_L_98 : Cond.methodLink RL 98 yX11_friend ∈ UW := uq 1044 (by decide +kernel) (by decide +kernel)
theorem qm_L_101 : Cond.methodLink RL 101 yX12_friend ∈ UW := uq 1786 (by decide +kernel) (by decide +kernel)
theorem qm_L_102 : Cond.methodLink RL 102 yX11_drawn ∈ UW := uq 1049 (by decide +kernel) (by decide +kernel)
theorem qm_L_106 : Cond.methodLink RL 106 yX12_drawn ∈ UW := uq 1790 (by decide +kernel) (by decide +kernel)
theorem qm_L_107 : Cond.methodLink RL 107 yX11_hold ∈ UW := uq 1081 (by decide +kernel) (by decide +kernel)
theorem qm_L_110 : Cond.methodLink RL 110 yX12_hold ∈ UW := uq 1795 (by decide +kernel) (by decide +kernel)
theorem qm_L_111 : Cond.methodLink RL 111 yX11_release ∈ UW := uq 1086 (by decide +kernel) (by decide +kernel)
theorem qm_L_114 : Cond.methodLink RL 114 yX12_release ∈ UW := uq 1799 (by decide +kernel) (by decide +kernel)
theorem qm_L_115 : Cond.methodLink RL 115 yX11_year ∈ UW := uq 1094 (by decide +kernel) (by decide +kernel)
theorem qm_L_118 : Cond.methodLink RL 118 yX12_year ∈ UW := uq 1803 (by decide +kernel) (by decide +kernel)
theorem qm_L_119 : Cond.methodLink RL 119 yX11_led ∈ UW := uq 1100 (by decide +kernel) (by decide +kernel)
theorem qm_L_122 : Cond.methodLink RL 122 yX12_led ∈ UW := uq 1807 (by decide +kernel) (by decide +kernel)
theorem qm_L_123 : Cond.methodLink RL 123 yX11_image ∈ UW := uq 1104 (by decide +kernel) (by decide +kernel)
theorem qm_L_126 : Cond.methodLink RL 126 yX12_image ∈ UW := uq 1811 (by decide +kernel) (by decide +kernel)
theorem qm_L_127 : Cond.methodLink RL 127 yX11_back ∈ UW := uq 1110 (by decide +kernel) (by decide +kernel)
theorem qm_L_130 : Cond.methodLink RL 130 yX12_back ∈ UW := uq 1815 (by decide +kernel) (by decide +kernel)
theorem qm_L_131 : Cond.methodLink RL 131 yX11_undo ∈ UW := uq 1114 (by decide +kernel) (by decide +kernel)
theorem qm_L_134 : Cond.methodLink RL 134 yX12_undo ∈ UW := uq 1494 (by decide +kernel) (by decide +kernel)
theorem qm_L_135 : Cond.methodLink RL 135 yX11_redo ∈ UW := uq 1126 (by decide +kernel) (by decide +kernel)
theorem qm_L_138 : Cond.methodLink RL 138 yX12_redo ∈ UW := uq 1502 (by decide +kernel) (by decide +kernel)
theorem qm_L_139 : Cond.methodLink RL 139 yX11_body ∈ UW := uq 1138 (by decide +kernel) (by decide +kernel)
theorem qm_L_142 : Cond.methodLink RL 142 yX12_body ∈ UW := uq 1823 (by decide +kernel) (by decide +kernel)
theorem qm_L_143 : Cond.methodLink RL 143 yX11_act ∈ UW := uq 1154 (by decide +kernel) (by decide +kernel)
theorem qm_L_146 : Cond.methodLink RL 146 yX12_act ∈ UW := uq 1827 (by decide +kernel) (by decide +kernel)
theorem qm_L_147 : Cond.methodLink RL 147 yX11_trace ∈ UW := uq 1182 (by decide +kernel) (by decide +kernel)
theorem qm_L_150 : Cond.methodLink RL 150 yX12_trace ∈ UW := uq 1819 (by decide +kernel) (by decide +kernel)
theorem qm_L_151 : Cond.methodLink RL 151 yX11_keep ∈ UW := uq 1196 (by decide +kernel) (by decide +kernel)
theorem qm_L_154 : Cond.methodLink RL 154 yX12_keep ∈ UW := uq 1890 (by decide +kernel) (by decide +kernel)
theorem qm_L_155 : Cond.methodLink RL 155 yX11_row ∈ UW := uq 1210 (by decide +kernel) (by decide +kernel)
theorem qm_L_158 : Cond.methodLink RL 158 yX12_row ∈ UW := uq 1894 (by decide +kernel) (by decide +kernel)
theorem qm_L_161 : Cond.methodLink RL 161 yX11_put ∈ UW := uq 1223 (by decide +kernel) (by decide +kernel)
theorem qm_L_165 : Cond.methodLink RL 165 yX12_put ∈ UW := uq 1898 (by decide +kernel) (by decide +kernel)
theorem qm_L_166 : Cond.methodLink RL 166 yX11_element ∈ UW := uq 1239 (by decide +kernel) (by decide +kernel)
theorem qm_L_169 : Cond.methodLink RL 169 yX12_element ∈ UW := uq 1906 (by decide +kernel) (by decide +kernel)
theorem qm_L_170 : Cond.methodLink RL 170 yX11_shift ∈ UW := uq 1244 (by decide +kernel) (by decide +kernel)
theorem qm_L_174 : Cond.methodLink RL 174 yX12_shift ∈ UW := uq 1910 (by decide +kernel) (by decide +kernel)
theorem qm_L_175 : Cond.methodLink RL 175 yX11_taken ∈ UW := uq 1262 (by decide +kernel) (by decide +kernel)
theorem qm_L_178 : Cond.methodLink RL 178 yX12_taken ∈ UW := uq 1914 (by decide +kernel) (by decide +kernel)
theorem qm_L_179 : Cond.methodLink RL 179 yX11_count ∈ UW := uq 1277 (by decide +kernel) (by decide +kernel)
theorem qm_L_182 : Cond.methodLink RL 182 yX12_count ∈ UW := uq 1886 (by decide +kernel) (by decide +kernel)
theorem ql_L_159 : Cond.constantLong RL 159 (4294967295) ∈ UW := uq 1918 (by decide +kernel) (by decide +kernel)
def AXo (ad : Nat → Nat) : Nat → Prop := fun q => ∃ k : Nat, k < 75 ∧ q = ad k
def ARo (ad : Nat → Nat) : Nat → Prop := fun q => ∃ k : Nat, k < 35 ∧ q = ad k
def CL (p : Program) (s : State) (m : MethodId) (args : Array Value) (c : Code) (b L : Nat) (xs : Nat → Int32) (D : va_G) (adX : Nat → Nat) (dX : Nat → ClassId) (adR : Nat → Nat) (dR : Nat → ClassId) : Prop :=
  p.tables.exec = Jvm.exec ∧ c.code = code ∧ c.maxLocals = 4 ∧ s.vm.findClass RL = some m.cls ∧ (∀ w ∈ UW, w.before args s = true) ∧ va_K D clA (tysX dX) s ∧ va_K D clA (tysR dR) s ∧ (∀ σ, va_D (AXo adX) (wdX adX dX σ)) ∧ (∀ τ, va_D (ARo adR) (wdR adR dR τ)) ∧ (∀ q, AXo adX q → s.heap.size ≤ q) ∧ (∀ q, ARo adR q → s.heap.size ≤ q) ∧ (∀ q, AXo adX q → ¬ ARo adR q) ∧ SP (fun q => s.heap.size ≤ q) s s.heap ∧ va_X b L xs s s.heap ∧ b < s.heap.size
def VL (p : Program) (l : Launch) (e : Env) (s : State) (m : MethodId) (args : Array Value) (below : List Frame) (meth : Method) (c : Code) (D : va_G) (adX : Nat → Nat) (dX : Nat → ClassId) (adR : Nat → Nat) (dR : Nat → ClassId) (Q : State → Prop) (pc : Nat) (lv : List (Nat × Value)) (st : List Value) (σ τ : St) : Prop :=
  ∀ (H : Heap) (locs : List Loc) (ls : Array Slot), va_P D clA (wdX adX dX σ) H → va_P D clA (wdR adR dR τ) H → va_S (fun q : Nat => s.heap.size ≤ q) s.heap H locs → lv_has ls 4 lv → W p l e room_1 s m args below meth c H locs 600000 7302250 Q (F0 m pc ls st)
section LAW
variable {p : Program} {l : Launch} {e : Env} {s : State} {m : MethodId} {args : Array Value} {below : List Frame} {meth : Method} {c : Code} {b L : Nat} {xs : Nat → Int32} {D : va_G} {adX adR : Nat → Nat} {dX dR : Nat → ClassId} {Q : State → Prop} {pc : Nat} {lv lv' : List (Nat × Value)} {st : List Value} {σ τ : St}
theorem l_iconst (K : CL p s m args c b L xs D adX dX adR dR) {n : Int} {v : Int32} (hdg : decode code pc = .ok (.iconst n, 1)) (hv : Int32.ofInt n = v) (kk : VL p l e s m args below meth c D adX dX adR dR Q (pc + 1) lv (.int v :: st) σ τ) : VL p l e s m args below meth c D adX dX adR dR Q pc lv st σ τ := fun H locs ls hX hR hS h => lv_iconst K.1 K.2.1 hdg hv (kk H locs ls hX hR hS h)
theorem l_bipush (K : CL p s m args c b L xs D adX dX adR dR) {n : Int} {v : Int32} (hdg : decode code pc = .ok (.bipush n, 2)) (hv : (Int8.ofInt n).toInt32 = v) (kk : VL p l e s m args below meth c D adX dX adR dR Q (pc + 2) lv (.int v :: st) σ τ) : VL p l e s m args below meth c D adX dX adR dR Q pc lv st σ τ := fun H locs ls hX hR hS h => lv_bipush K.1 K.2.1 hdg hv (kk H locs ls hX hR hS h)
theorem l_iload_n (K : CL p s m args c b L xs D adX dX adR dR) {kf : Fin 4} {x : Int32} (hdg : decode code pc = .ok (.iload_n kf, 1)) (k : Nat) (hk : lv[k]? = some ((kf : Nat), .int x)) (kk : VL p l e s m args below meth c D adX dX adR dR Q (pc + 1) lv (.int x :: st) σ τ) : VL p l e s m args below meth c D adX dX adR dR Q pc lv st σ τ := fun H locs ls hX hR hS h => lv_iload_n K.1 K.2.1 hdg rfl (lv_at h k hk) (kk H locs ls hX hR hS h)
theorem l_aload_n (K : CL p s m args c b L xs D adX dX adR dR) {kf : Fin 4} {x : Nat} (hdg : decode code pc = .ok (.aload_n kf, 1)) (k : Nat) (hk : lv[k]? = some ((kf : Nat), .ref x)) (kk : VL p l e s m args below meth c D adX dX adR dR Q (pc + 1) lv (.ref x :: st) σ τ) : VL p l e s m args below meth c D adX dX adR dR Q pc lv st σ τ := fun H locs ls hX hR hS h => lv_aload_n K.1 K.2.1 hdg rfl (lv_at h k hk) (kk H locs ls hX hR hS h)
theorem l_iadd (K : CL p s m args c b L xs D adX dX adR dR) {x y : Int32} (hdg : decode code pc = .ok (.iadd, 1)) (kk : VL p l e s m args below meth c D adX dX adR dR Q (pc + 1) lv (.int (x + y) :: st) σ τ) : VL p l e s m args below meth c D adX dX adR dR Q pc lv (.int y :: .int x :: st) σ τ := fun H locs ls hX hR hS h => lv_iadd K.1 K.2.1 hdg (kk H locs ls hX hR hS h)
theorem l_isub (K : CL p s m args c b L xs D adX dX adR dR) {x y : Int32} (hdg : decode code pc = .ok (.isub, 1)) (kk : VL p l e s m args below meth c D adX dX adR dR Q (pc + 1) lv (.int (x - y) :: st) σ τ) : VL p l e s m args below meth c D adX dX adR dR Q pc lv (.int y :: .int x :: st) σ τ := fun H locs ls hX hR hS h => lv_isub K.1 K.2.1 hdg (kk H locs ls hX hR hS h)
theorem l_iand (K : CL p s m args c b L xs D adX dX adR dR) {x y : Int32} (hdg : decode code pc = .ok (.iand, 1)) (kk : VL p l e s m args below meth c D adX dX adR dR Q (pc + 1) lv (.int (x &&& y) :: st) σ τ) : VL p l e s m args below meth c D adX dX adR dR Q pc lv (.int y :: .int x :: st) σ τ := fun H locs ls hX hR hS h => lv_iand K.1 K.2.1 hdg (kk H locs ls hX hR hS h)
theorem l_land (K : CL p s m args c b L xs D adX dX adR dR) {x y : Int64} (hdg : decode code pc = .ok (.land, 1)) (kk : VL p l e s m args below meth c D adX dX adR dR Q (pc + 1) lv (.long (x &&& y) :: st) σ τ) : VL p l e s m args below meth c D adX dX adR dR Q pc lv (.long y :: .long x :: st) σ τ := fun H locs ls hX hR hS h => lv_land K.1 K.2.1 hdg (kk H locs ls hX hR hS h)
theorem l_lor (K : CL p s m args c b L xs D adX dX adR dR) {x y : Int64} (hdg : decode code pc = .ok (.lor, 1)) (kk : VL p l e s m args below meth c D adX dX adR dR Q (pc + 1) lv (.long (x ||| y) :: st) σ τ) : VL p l e s m args below meth c D adX dX adR dR Q pc lv (.long y :: .long x :: st) σ τ := fun H locs ls hX hR hS h => lv_lor K.1 K.2.1 hdg (kk H locs ls hX hR hS h)
theorem l_lshl (K : CL p s m args c b L xs D adX dX adR dR) {x : Int64} {y : Int32} (hdg : decode code pc = .ok (.lshl, 1)) (kk : VL p l e s m args below meth c D adX dX adR dR Q (pc + 1) lv (.long (x <<< (y.toInt64 &&& 63)) :: st) σ τ) : VL p l e s m args below meth c D adX dX adR dR Q pc lv (.int y :: .long x :: st) σ τ := fun H locs ls hX hR hS h => lv_lshl K.1 K.2.1 hdg rfl (kk H locs ls hX hR hS h)
theorem l_i2l (K : CL p s m args c b L xs D adX dX adR dR) {x : Int32} (hdg : decode code pc = .ok (.i2l, 1)) (kk : VL p l e s m args below meth c D adX dX adR dR Q (pc + 1) lv (.long x.toInt64 :: st) σ τ) : VL p l e s m args below meth c D adX dX adR dR Q pc lv (.int x :: st) σ τ := fun H locs ls hX hR hS h => lv_i2l K.1 K.2.1 hdg rfl (kk H locs ls hX hR hS h)
theorem l_ldc2 (K : CL p s m args c b L xs D adX dX adR dR) {index : Nat} {v : Int64} (hw : Cond.constantLong RL index v ∈ UW) (hdg : decode code pc = .ok (.ldc2_w index, 3)) (kk : VL p l e s m args below meth c D adX dX adR dR Q (pc + 3) lv (.long v :: st) σ τ) : VL p l e s m args below meth c D adX dX adR dR Q pc lv st σ τ := fun H locs ls hX hR hS h => lv_ldc2 K.1 K.2.1 K.2.2.2.1 (K.2.2.2.2.1 _ hw) hdg (kk H locs ls hX hR hS h)
theorem l_lcmp (K : CL p s m args c b L xs D adX dX adR dR) {x y : Int64} (hdg : decode code pc = .ok (.lcmp, 1)) (kk : VL p l e s m args below meth c D adX dX adR dR Q (pc + 1) lv (.int (lg_cmp x y) :: st) σ τ) : VL p l e s m args below meth c D adX dX adR dR Q pc lv (.long y :: .long x :: st) σ τ := fun H locs ls hX hR hS h => W.lcmp K.1 K.2.1 hdg (kk H locs ls hX hR hS h)
theorem l_goto (K : CL p s m args c b L xs D adX dX adR dR) {off : Int} {tgt : Nat} (hdg : decode code pc = .ok (.goto off, 3)) (ht : (pc : Int) + off = (tgt : Int)) (kk : VL p l e s m args below meth c D adX dX adR dR Q tgt lv st σ τ) : VL p l e s m args below meth c D adX dX adR dR Q pc lv st σ τ := fun H locs ls hX hR hS h => lv_goto K.1 K.2.1 hdg ht (kk H locs ls hX hR hS h)
theorem l_eqT (K : CL p s m args c b L xs D adX dX adR dR) {x y : Int32} {off : Int} {tgt : Nat} (hdg : decode code pc = .ok (.if_icmp .eq off, 3)) (ht : (pc : Int) + off = (tgt : Int)) (hc : x = y) (kk : VL p l e s m args below meth c D adX dX adR dR Q tgt lv st σ τ) : VL p l e s m args below meth c D adX dX adR dR Q pc lv (.int y :: .int x :: st) σ τ := fun H locs ls hX hR hS h => lv_icmp_eq K.1 K.2.1 hdg ht (fun _ => kk H locs ls hX hR hS h) (fun q => absurd hc q)
theorem l_ifeqT (K : CL p s m args c b L xs D adX dX adR dR) {x : Int32} {off : Int} {tgt : Nat} (hdg : decode code pc = .ok (.ifCond .eq off, 3)) (ht : (pc : Int) + off = (tgt : Int)) (hc : x = 0) (kk : VL p l e s m args below meth c D adX dX adR dR Q tgt lv st σ τ) : VL p l e s m args below meth c D adX dX adR dR Q pc lv (.int x :: st) σ τ := fun H locs ls hX hR hS h => lv_if_eq K.1 K.2.1 hdg ht (fun _ => kk H locs ls hX hR hS h) (fun q => absurd hc q)
theorem l_gt (K : CL p s m args c b L xs D adX dX adR dR) {x y : Int32} {off : Int} {tgt : Nat} (hdg : decode code pc = .ok (.if_icmp .gt off, 3)) (ht : (pc : Int) + off = (tgt : Int)) (kt : y < x → VL p l e s m args below meth c D adX dX adR dR Q tgt lv st σ τ) (kf : ¬ y < x → VL p l e s m args below meth c D adX dX adR dR Q (pc + 3) lv st σ τ) : VL p l e s m args below meth c D adX dX adR dR Q pc lv (.int y :: .int x :: st) σ τ := fun H locs ls hX hR hS h => lv_icmp_gt K.1 K.2.1 hdg ht (fun q => kt q H locs ls hX hR hS h) (fun q => kf q H locs ls hX hR hS h)
theorem l_iinc (K : CL p s m args c b L xs D adX dX adR dR) {i : Nat} {n : Int} {x v : Int32} (hdg : decode code pc = .ok (.iinc i n, 3)) (k : Nat) (hk : lv[k]? = some (i, .int x)) (hv : x + Int32.ofInt n = v) (hn : i < 4) (lv' : List (Nat × Value)) (hl : (i, Value.int v) :: lv.filter (fun q => !(q.1 == i) && !(q.1 + 1 == i && q.2.category == 2)) = lv') (kk : VL p l e s m args below meth c D adX dX adR dR Q (pc + 3) lv' st σ τ) : VL p l e s m args below meth c D adX dX adR dR Q pc lv st σ τ := fun H locs ls hX hR hS h => lv_iinc K.1 K.2.1 hdg h hk hv hn hl (fun ls h => kk H locs ls hX hR hS h)
theorem l_sub (ks : List Nat) (hl : lv_pick lv ks = lv') (kk : VL p l e s m args below meth c D adX dX adR dR Q pc lv' st σ τ) : VL p l e s m args below meth c D adX dX adR dR Q pc lv st σ τ := fun H locs ls hX hR hS h => kk H locs ls hX hR hS (lv_sub h ks hl)
theorem l_sld (K : CL p s m args c b L xs D adX dX adR dR) {i : Int32} (hin : vp_in i L) (hdg : decode code pc = .ok (.iaload, 1)) (kk : VL p l e s m args below meth c D adX dX adR dR Q (pc + 1) lv (.int (xs i.toNatClampNeg) :: st) σ τ) : VL p l e s m args below meth c D adX dX adR dR Q pc lv (.int i :: .ref b :: st) σ τ := fun H locs ls hX hR hS h => va_sld K.1 K.2.1 K.2.2.2.2.2.2.2.2.2.2.2.2.2.1 K.2.2.2.2.2.2.2.2.2.2.2.2.2.2 (Nat.not_le.mpr K.2.2.2.2.2.2.2.2.2.2.2.2.2.2) hS hin hdg (kk H locs ls hX hR hS h)
theorem l_slen (K : CL p s m args c b L xs D adX dX adR dR) (hdg : decode code pc = .ok (.arraylength, 1)) (kk : VL p l e s m args below meth c D adX dX adR dR Q (pc + 1) lv (.int (nI L) :: st) σ τ) : VL p l e s m args below meth c D adX dX adR dR Q pc lv (.ref b :: st) σ τ := fun H locs ls hX hR hS h => va_slen K.1 K.2.1 K.2.2.2.2.2.2.2.2.2.2.2.2.2.1 K.2.2.2.2.2.2.2.2.2.2.2.2.2.2 (Nat.not_le.mpr K.2.2.2.2.2.2.2.2.2.2.2.2.2.2) hS hdg (kk H locs ls hX hR hS h)
theorem l_tabI (K : CL p s m args c b L xs D adX dX adR dR) {dflt lo hi : Int} {offs : Array Int} {len : Nat} {x k : Int32} {off : Int} {tgt : Nat} (hdg : decode code pc = .ok (.tableswitch dflt lo hi offs, len)) (hx : x = k) (h1 : ¬ k.toInt < lo) (h2 : ¬ hi < k.toInt) (ho : offs[(k.toInt - lo).toNat]? = some off) (ht : (pc : Int) + off = (tgt : Int)) (kk : VL p l e s m args below meth c D adX dX adR dR Q tgt lv st σ τ) : VL p l e s m args below meth c D adX dX adR dR Q pc lv (.int x :: st) σ τ := fun H locs ls hX hR hS h => by
  subst hx
  exact lv_tableIn K.1 K.2.1 hdg h1 h2 ho ht (kk H locs ls hX hR hS h)
theorem l_tabO (K : CL p s m args c b L xs D adX dX adR dR) {dflt lo hi : Int} {offs : Array Int} {len : Nat} {x : Int32} {tgt : Nat} (hdg : decode code pc = .ok (.tableswitch dflt lo hi offs, len)) (h1 : x.toInt < lo ∨ hi < x.toInt) (ht : (pc : Int) + dflt = (tgt : Int)) (kk : VL p l e s m args below meth c D adX dX adR dR Q tgt lv st σ τ) : VL p l e s m args below meth c D adX dX adR dR Q pc lv (.int x :: st) σ τ := fun H locs ls hX hR hS h => lv_tableOut K.1 K.2.1 hdg h1 ht (kk H locs ls hX hR hS h)
theorem l_Xi (K : CL p s m args c b L xs D adX dX adR dR) {y : MethodName} {bytes : ByteArray} {maxL h2 n index : Nat} {ret2 : Option FieldType} {As : List Value} (hu : UV y bytes maxL ret2 n) (hcl : y.cls = RX11) (hlk : Cond.methodLink RL index y ∈ UW) (hdg : decode code pc = .ok (.invokevirtual index, 3)) {r1 : Int32} {σ1 : St} (hc : MI l y bytes maxL ret2 h2 D (tysX dX) (wdX adX dX) (AXo adX) (.ref (adX 0) :: As) σ (QI D (wdX adX dX) (AXo adX) (r1, σ1))) (hn : As.length = n) (hroom : h2 + 1 ≤ 2048 ∧ 8 + (maxL + 11) + 60 * h2 ≤ 84000) (hcat : (st.map fun v => v.category).sum ≤ 8) (kk : VL p l e s m args below meth c D adX dX adR dR Q (pc + 3) lv (.int r1 :: st) σ1 τ) : VL p l e s m args below meth c D adX dX adR dR Q pc lv (As.reverse ++ .ref (adX 0) :: st) σ τ := fun H locs ls hX hR hS h =>
  va_calli (va_runV (As := As) (rest := st) ⟨K.1, K.2.1, K.2.2.1, K.2.2.2.1, K.2.2.2.2.1⟩ hc ⟨callB_of n K.2.2.2.2.1 (uw_in' hu.2.2.2.1) rfl rfl rfl (K.2.2.2.2.1 _ hu.2.2.1) (K.2.2.2.2.1 _ hlk) hu.2.2.2.2 hroom, K.2.2.2.2.1 _ hu.1, K.2.2.2.2.1 _ hu.2.1⟩ ⟨Pw.blind _ _ _ _ _ _, by rw [hcl]; exact va_recv K.2.2.2.2.2.1 hX (ci := 11) (q0 := 0) rfl cX_0, fun U hU hW => ⟨rfl, by rw [hU]; exact hX, va_K.moved hW.alike K.2.2.2.2.2.1, K.2.2.2.2.2.2.2.1, by rw [hU]; exact (K.2.2.2.2.2.2.2.2.2.2.2.2.1.go hW hS.2.1).narrow K.2.2.2.2.2.2.2.2.2.1⟩⟩ rfl hn h.1 rfl (lv_room hcat) hdg ⟨Nat.le_refl _, Nat.le_refl _⟩) hS (fun q _ h => K.2.2.2.2.2.2.2.2.2.1 q h) K.2.2.2.2.2.2.2.2.2.1 (fun r u t H1 locs1 ht hvm hw hB hz1 hk1 hS1 => by
    obtain ⟨rfl, rfl⟩ := Prod.mk.inj hw
    exact kk H1 locs1 ls (by rw [← ht]; exact hB) (fun k q hq => (hR k q hq).kept (hk1 q.1 (hR k q hq).lt (fun z => K.2.2.2.2.2.2.2.2.2.2.2.1 _ z (K.2.2.2.2.2.2.2.2.1 τ |>.2 k q hq)))) hS1 h)
theorem l_Xl (K : CL p s m args c b L xs D adX dX adR dR) {y : MethodName} {bytes : ByteArray} {maxL h2 n index : Nat} {ret2 : Option FieldType} {As : List Value} (hu : UV y bytes maxL ret2 n) (hcl : y.cls = RX11) (hlk : Cond.methodLink RL index y ∈ UW) (hdg : decode code pc = .ok (.invokevirtual index, 3)) {r1 : Int64} {σ1 : St} (hc : MI l y bytes maxL ret2 h2 D (tysX dX) (wdX adX dX) (AXo adX) (.ref (adX 0) :: As) σ (QL D (wdX adX dX) (AXo adX) (r1, σ1))) (hn : As.length = n) (hroom : h2 + 1 ≤ 2048 ∧ 8 + (maxL + 11) + 60 * h2 ≤ 84000) (hcat : (st.map fun v => v.category).sum ≤ 8) (kk : VL p l e s m args below meth c D adX dX adR dR Q (pc + 3) lv (.long r1 :: st) σ1 τ) : VL p l e s m args below meth c D adX dX adR dR Q pc lv (As.reverse ++ .ref (adX 0) :: st) σ τ := fun H locs ls hX hR hS h =>
  va_calll (va_runV (As := As) (rest := st) ⟨K.1, K.2.1, K.2.2.1, K.2.2.2.1, K.2.2.2.2.1⟩ hc ⟨callB_of n K.2.2.2.2.1 (uw_in' hu.2.2.2.1) rfl rfl rfl (K.2.2.2.2.1 _ hu.2.2.1) (K.2.2.2.2.1 _ hlk) hu.2.2.2.2 hroom, K.2.2.2.2.1 _ hu.1, K.2.2.2.2.1 _ hu.2.1⟩ ⟨Pw.blind _ _ _ _ _ _, by rw [hcl]; exact va_recv K.2.2.2.2.2.1 hX (ci := 11) (q0 := 0) rfl cX_0, fun U hU hW => ⟨rfl, by rw [hU]; exact hX, va_K.moved hW.alike K.2.2.2.2.2.1, K.2.2.2.2.2.2.2.1, by rw [hU]; exact (K.2.2.2.2.2.2.2.2.2.2.2.2.1.go hW hS.2.1).narrow K.2.2.2.2.2.2.2.2.2.1⟩⟩ rfl hn h.1 rfl (lv_room hcat) hdg ⟨Nat.le_refl _, Nat.le_refl _⟩) hS (fun q _ h => K.2.2.2.2.2.2.2.2.2.1 q h) K.2.2.2.2.2.2.2.2.2.1 (fun r u t H1 locs1 ht hvm hw hB hz1 hk1 hS1 => by
    obtain ⟨rfl, rfl⟩ := Prod.mk.inj hw
    exact kk H1 locs1 ls (by rw [← ht]; exact hB) (fun k q hq => (hR k q hq).kept (hk1 q.1 (hR k q hq).lt (fun z => K.2.2.2.2.2.2.2.2.2.2.2.1 _ z (K.2.2.2.2.2.2.2.2.1 τ |>.2 k q hq)))) hS1 h)
theorem l_Ri (K : CL p s m args c b L xs D adX dX adR dR) {y : MethodName} {bytes : ByteArray} {maxL h2 n index : Nat} {ret2 : Option FieldType} {As : List Value} (hu : UV y bytes maxL ret2 n) (hcl : y.cls = RX12) (hlk : Cond.methodLink RL index y ∈ UW) (hdg : decode code pc = .ok (.invokevirtual index, 3)) {r1 : Int32} {σ1 : St} (hc : MI l y bytes maxL ret2 h2 D (tysR dR) (wdR adR dR) (ARo adR) (.ref (adR 0) :: As) τ (QI D (wdR adR dR) (ARo adR) (r1, σ1))) (hn : As.length = n) (hroom : h2 + 1 ≤ 2048 ∧ 8 + (maxL + 11) + 60 * h2 ≤ 84000) (hcat : (st.map fun v => v.category).sum ≤ 8) (kk : VL p l e s m args below meth c D adX dX adR dR Q (pc + 3) lv (.int r1 :: st) σ σ1) : VL p l e s m args below meth c D adX dX adR dR Q pc lv (As.reverse ++ .ref (adR 0) :: st) σ τ := fun H locs ls hX hR hS h =>
  va_calli (va_runV (As := As) (rest := st) ⟨K.1, K.2.1, K.2.2.1, K.2.2.2.1, K.2.2.2.2.1⟩ hc ⟨callB_of n K.2.2.2.2.1 (uw_in' hu.2.2.2.1) rfl rfl rfl (K.2.2.2.2.1 _ hu.2.2.1) (K.2.2.2.2.1 _ hlk) hu.2.2.2.2 hroom, K.2.2.2.2.1 _ hu.1, K.2.2.2.2.1 _ hu.2.1⟩ ⟨Pw.blind _ _ _ _ _ _, by rw [hcl]; exact va_recv K.2.2.2.2.2.2.1 hR (ci := 12) (q0 := 0) rfl cR_0, fun U hU hW => ⟨rfl, by rw [hU]; exact hR, va_K.moved hW.alike K.2.2.2.2.2.2.1, K.2.2.2.2.2.2.2.2.1, by rw [hU]; exact (K.2.2.2.2.2.2.2.2.2.2.2.2.1.go hW hS.2.1).narrow K.2.2.2.2.2.2.2.2.2.2.1⟩⟩ rfl hn h.1 rfl (lv_room hcat) hdg ⟨Nat.le_refl _, Nat.le_refl _⟩) hS (fun q _ h => K.2.2.2.2.2.2.2.2.2.2.1 q h) K.2.2.2.2.2.2.2.2.2.2.1 (fun r u t H1 locs1 ht hvm hw hB hz1 hk1 hS1 => by
    obtain ⟨rfl, rfl⟩ := Prod.mk.inj hw
    exact kk H1 locs1 ls (fun k q hq => (hX k q hq).kept (hk1 q.1 (hX k q hq).lt (fun z => K.2.2.2.2.2.2.2.2.2.2.2.1 _ (K.2.2.2.2.2.2.2.1 σ |>.2 k q hq) z))) (by rw [← ht]; exact hB) hS1 h)
theorem l_Rl (K : CL p s m args c b L xs D adX dX adR dR) {y : MethodName} {bytes : ByteArray} {maxL h2 n index : Nat} {ret2 : Option FieldType} {As : List Value} (hu : UV y bytes maxL ret2 n) (hcl : y.cls = RX12) (hlk : Cond.methodLink RL index y ∈ UW) (hdg : decode code pc = .ok (.invokevirtual index, 3)) {r1 : Int64} {σ1 : St} (hc : MI l y bytes maxL ret2 h2 D (tysR dR) (wdR adR dR) (ARo adR) (.ref (adR 0) :: As) τ (QL D (wdR adR dR) (ARo adR) (r1, σ1))) (hn : As.length = n) (hroom : h2 + 1 ≤ 2048 ∧ 8 + (maxL + 11) + 60 * h2 ≤ 84000) (hcat : (st.map fun v => v.category).sum ≤ 8) (kk : VL p l e s m args below meth c D adX dX adR dR Q (pc + 3) lv (.long r1 :: st) σ σ1) : VL p l e s m args below meth c D adX dX adR dR Q pc lv (As.reverse ++ .ref (adR 0) :: st) σ τ := fun H locs ls hX hR hS h =>
  va_calll (va_runV (As := As) (rest := st) ⟨K.1, K.2.1, K.2.2.1, K.2.2.2.1, K.2.2.2.2.1⟩ hc ⟨callB_of n K.2.2.2.2.1 (uw_in' hu.2.2.2.1) rfl rfl rfl (K.2.2.2.2.1 _ hu.2.2.1) (K.2.2.2.2.1 _ hlk) hu.2.2.2.2 hroom, K.2.2.2.2.1 _ hu.1, K.2.2.2.2.1 _ hu.2.1⟩ ⟨Pw.blind _ _ _ _ _ _, by rw [hcl]; exact va_recv K.2.2.2.2.2.2.1 hR (ci := 12) (q0 := 0) rfl cR_0, fun U hU hW => ⟨rfl, by rw [hU]; exact hR, va_K.moved hW.alike K.2.2.2.2.2.2.1, K.2.2.2.2.2.2.2.2.1, by rw [hU]; exact (K.2.2.2.2.2.2.2.2.2.2.2.2.1.go hW hS.2.1).narrow K.2.2.2.2.2.2.2.2.2.2.1⟩⟩ rfl hn h.1 rfl (lv_room hcat) hdg ⟨Nat.le_refl _, Nat.le_refl _⟩) hS (fun q _ h => K.2.2.2.2.2.2.2.2.2.2.1 q h) K.2.2.2.2.2.2.2.2.2.2.1 (fun r u t H1 locs1 ht hvm hw hB hz1 hk1 hS1 => by
    obtain ⟨rfl, rfl⟩ := Prod.mk.inj hw
    exact kk H1 locs1 ls (fun k q hq => (hX k q hq).kept (hk1 q.1 (hX k q hq).lt (fun z => K.2.2.2.2.2.2.2.2.2.2.2.1 _ (K.2.2.2.2.2.2.2.1 σ |>.2 k q hq) z))) (by rw [← ht]; exact hB) hS1 h)
end LAW
def MStp {α : Type} (Inv : St → St → Prop) (F G : Nat → St → Option (α × St)) : Prop := ∀ σ τ, Inv σ τ → ∃ (n : Nat) (r : α) (σ' τ' : St), F n σ = some (r, σ') ∧ G n τ = some (r, τ') ∧ Inv σ' τ'
theorem lg_self (x : Int64) : lg_cmp x x = 0 := by simp [lg_cmp]
def MStps (Inv : St → St → Prop) : Prop := (∀ (p1 : Int32) (p2 : Int32), MStp Inv (fun n σ => F_X11_person n p1 p2 σ) (fun n τ => F_X12_person n p1 p2 τ)) ∧
  (∀ (p1 : Int32) (p2 : Int32) (p3 : Int32), MStp Inv (fun n σ => F_X11_people n p1 p2 p3 σ) (fun n τ => F_X12_people n p1 p2 p3 τ)) ∧
  (∀ (p1 : Int32) (p2 : Int32) (p3 : Int32), MStp Inv (fun n σ => F_X11_mend n p1 p2 p3 σ) (fun n τ => F_X12_mend n p1 p2 p3 τ)) ∧
  (∀ (p1 : Int32) (p2 : Int32), MStp Inv (fun n σ => F_X11_of n p1 p2 σ) (fun n τ => F_X12_of n p1 p2 τ)) ∧
  (∀ (p1 : Int32), MStp Inv (fun n σ => F_X11_feed n p1 σ) (fun n τ => F_X12_feed n p1 τ)) ∧
  (MStp Inv (fun n σ => F_X11_law n  σ) (fun n τ => F_X12_law n  τ)) ∧
  (∀ (p1 : Int32) (p2 : Int32), MStp Inv (fun n σ => F_X11_wins n p1 p2 σ) (fun n τ => F_X12_wins n p1 p2 τ)) ∧
  (∀ (p1 : Int32) (p2 : Int32), MStp Inv (fun n σ => F_X11_course n p1 p2 σ) (fun n τ => F_X12_course n p1 p2 τ)) ∧
  (∀ (p1 : Int32) (p2 : Int32) (p3 : Int32), MStp Inv (fun n σ => F_X11_ends n p1 p2 p3 σ) (fun n τ => F_X12_ends n p1 p2 p3 τ)) ∧
  (∀ (p1 : Int32) (p2 : Int32), MStp Inv (fun n σ => F_X11_best n p1 p2 σ) (fun n τ => F_X12_best n p1 p2 τ)) ∧
  (∀ (p1 : Int32) (p2 : Int32), MStp Inv (fun n σ => F_X11_beside n p1 p2 σ) (fun n τ => F_X12_beside n p1 p2 τ)) ∧
  (∀ (p1 : Int32), MStp Inv (fun n σ => F_X11_tillBound n p1 σ) (fun n τ => F_X12_tillBound n p1 τ)) ∧
  (MStp Inv (fun n σ => F_X11_round n  σ) (fun n τ => F_X12_round n  τ)) ∧
  (∀ (p1 : Int32), MStp Inv (fun n σ => F_X11_sure n p1 σ) (fun n τ => F_X12_sure n p1 τ)) ∧
  (∀ (p1 : Int32) (p2 : Int32), MStp Inv (fun n σ => F_X11_charges n p1 p2 σ) (fun n τ => F_X12_charges n p1 p2 τ)) ∧
  (∀ (p1 : Int32) (p2 : Int32), MStp Inv (fun n σ => F_X11_days n p1 p2 σ) (fun n τ => F_X12_days n p1 p2 τ)) ∧
  (∀ (p1 : Int32) (p2 : Int32), MStp Inv (fun n σ => F_X11_quiet n p1 p2 σ) (fun n τ => F_X12_quiet n p1 p2 τ)) ∧
  (∀ (p1 : Int32), MStp Inv (fun n σ => F_X11_judge n p1 σ) (fun n τ => F_X12_judge n p1 τ)) ∧
  (∀ (p1 : Int32) (p2 : Int32), MStp Inv (fun n σ => F_X11_roll n p1 p2 σ) (fun n τ => F_X12_roll n p1 p2 τ)) ∧
  (∀ (p1 : Int32), MStp Inv (fun n σ => F_X11_sold n p1 σ) (fun n τ => F_X12_sold n p1 τ)) ∧
  (∀ (p1 : Int32) (p2 : Int32), MStp Inv (fun n σ => F_X11_friend n p1 p2 σ) (fun n τ => F_X12_friend n p1 p2 τ)) ∧
  (∀ (p1 : Int32) (p2 : Int32) (p3 : Int32) (p4 : Int32), MStp Inv (fun n σ => F_X11_drawn n p1 p2 p3 p4 σ) (fun n τ => F_X12_drawn n p1 p2 p3 p4 τ)) ∧
  (∀ (p1 : Int32) (p2 : Int32), MStp Inv (fun n σ => F_X11_hold n p1 p2 σ) (fun n τ => F_X12_hold n p1 p2 τ)) ∧
  (∀ (p1 : Int32), MStp Inv (fun n σ => F_X11_release n p1 σ) (fun n τ => F_X12_release n p1 τ)) ∧
  (MStp Inv (fun n σ => F_X11_year n  σ) (fun n τ => F_X12_year n  τ)) ∧
  (∀ (p1 : Int32), MStp Inv (fun n σ => F_X11_led n p1 σ) (fun n τ => F_X12_led n p1 τ)) ∧
  (MStp Inv (fun n σ => F_X11_image n  σ) (fun n τ => F_X12_image n  τ)) ∧
  (MStp Inv (fun n σ => F_X11_back n  σ) (fun n τ => F_X12_back n  τ)) ∧
  (MStp Inv (fun n σ => F_X11_undo n  σ) (fun n τ => F_X12_undo n  τ)) ∧
  (MStp Inv (fun n σ => F_X11_redo n  σ) (fun n τ => F_X12_redo n  τ)) ∧
  (∀ (p1 : Int32), MStp Inv (fun n σ => F_X11_body n p1 σ) (fun n τ => F_X12_body n p1 τ)) ∧
  (∀ (p1 : Int32) (p2 : Int32) (p3 : Int32), MStp Inv (fun n σ => F_X11_act n p1 p2 p3 σ) (fun n τ => F_X12_act n p1 p2 p3 τ)) ∧
  (∀ (p1 : Int32), MStp Inv (fun n σ => F_X11_trace n p1 σ) (fun n τ => F_X12_trace n p1 τ)) ∧
  (∀ (p1 : Int32) (p2 : Int32), MStp Inv (fun n σ => F_X11_keep n p1 p2 σ) (fun n τ => F_X12_keep n p1 p2 τ)) ∧
  (∀ (p1 : Int32) (p2 : Int32) (p3 : Int32), MStp Inv (fun n σ => F_X11_row n p1 p2 p3 σ) (fun n τ => F_X12_row n p1 p2 p3 τ)) ∧
  (∀ (p1 : Int32) (p2 : Int32) (p3 : Int64), MStp Inv (fun n σ => F_X11_put n p1 p2 p3 σ) (fun n τ => F_X12_put n p1 p2 p3 τ)) ∧
  (∀ (p1 : Int32) (p2 : Int32), MStp Inv (fun n σ => F_X11_element n p1 p2 σ) (fun n τ => F_X12_element n p1 p2 τ)) ∧
  (∀ (p1 : Int32) (p2 : Int32) (p3 : Int32) (p4 : Int32) (p5 : Int32), MStp Inv (fun n σ => F_X11_shift n p1 p2 p3 p4 p5 σ) (fun n τ => F_X12_shift n p1 p2 p3 p4 p5 τ)) ∧
  (∀ (p1 : Int32) (p2 : Int32), MStp Inv (fun n σ => F_X11_taken n p1 p2 σ) (fun n τ => F_X12_taken n p1 p2 τ)) ∧
  (∀ (p1 : Int32), MStp Inv (fun n σ => F_X11_count n p1 σ) (fun n τ => F_X12_count n p1 τ))
theorem lc_0 (l : Launch) {p : Program} {e : Env} {s : State} {m : MethodId} {args : Array Value} {below : List Frame} {meth : Method} {c : Code} {b L : Nat} {xs : Nat → Int32} {D : va_G} {adX adR : Nat → Nat} {dX dR : Nat → ClassId} {Q : State → Prop} {x3 : Int32} {Inv : St → St → Prop} (K : CL p s m args c b L xs D adX dX adR dR) (hB : MStps Inv) (h1 : vp_in (x3 + 1) L) (h2 : vp_in (x3 + 2) L) (h3 : vp_in (x3 + 3) L) (h4 : vp_in (x3 + 4) L) (h5 : vp_in (x3 + 5) L) (ih : ∀ σ τ, Inv σ τ → VL p l e s m args below meth c D adX dX adR dR Q 1430 [(0, .ref b), (1, .ref (adX 0)), (2, .ref (adR 0)), (3, .int x3)] [] σ τ) (σ τ : St) (hI : Inv σ τ) : VL p l e s m args below meth c D adX dX adR dR Q 208 [(0, .ref b), (1, .ref (adX 0)), (2, .ref (adR 0)), (3, .int x3)] [] σ τ := by
  obtain ⟨n, r, σ1, τ1, h1x, h2x, hI⟩ := hB.1 (xs (x3 + 1).toNatClampNeg) (xs (x3 + 2).toNatClampNeg) σ τ hI
  refine l_aload_n K dL_law_208 1 rfl ?_
  refine l_aload_n K dL_law_209 0 rfl ?_
  refine l_iload_n K dL_law_210 3 rfl ?_
  refine l_iconst (v := 1) K dL_law_211 (by decide) ?_
  refine l_iadd K dL_law_212 ?_
  refine l_sld K h1 dL_law_213 ?_
  refine l_aload_n K dL_law_214 0 rfl ?_
  refine l_iload_n K dL_law_215 3 rfl ?_
  refine l_iconst (v := 2) K dL_law_216 (by decide) ?_
  refine l_iadd K dL_law_217 ?_
  refine l_sld K h2 dL_law_218 ?_
  refine l_Xi (As := [.int (xs (x3 + 1).toNatClampNeg), .int (xs (x3 + 2).toNatClampNeg)]) (st := []) K uv_X11_person rfl qm_L_13 dL_law_219 (c_X11_person l n (xs (x3 + 1).toNatClampNeg) (xs (x3 + 2).toNatClampNeg) σ h1x) rfl ⟨Nat.le_of_ble_eq_true rfl, Nat.le_of_ble_eq_true rfl⟩ (Nat.le_of_ble_eq_true rfl) ?_
  refine l_aload_n K dL_law_222 2 rfl ?_
  refine l_aload_n K dL_law_223 0 rfl ?_
  refine l_iload_n K dL_law_224 3 rfl ?_
  refine l_iconst (v := 1) K dL_law_225 (by decide) ?_
  refine l_iadd K dL_law_226 ?_
  refine l_sld K h1 dL_law_227 ?_
  refine l_aload_n K dL_law_228 0 rfl ?_
  refine l_iload_n K dL_law_229 3 rfl ?_
  refine l_iconst (v := 2) K dL_law_230 (by decide) ?_
  refine l_iadd K dL_law_231 ?_
  refine l_sld K h2 dL_law_232 ?_
  refine l_Ri (As := [.int (xs (x3 + 1).toNatClampNeg), .int (xs (x3 + 2).toNatClampNeg)]) (st := [.int r]) K uv_X12_person rfl qm_L_17 dL_law_233 (c_X12_person l n (xs (x3 + 1).toNatClampNeg) (xs (x3 + 2).toNatClampNeg) τ h2x) rfl ⟨Nat.le_of_ble_eq_true rfl, Nat.le_of_ble_eq_true rfl⟩ (Nat.le_of_ble_eq_true rfl) ?_
  refine l_eqT (tgt := 1430) K dL_law_236 (by decide) rfl ?_
  exact ih σ1 τ1 hI
theorem lc_1 (l : Launch) {p : Program} {e : Env} {s : State} {m : MethodId} {args : Array Value} {below : List Frame} {meth : Method} {c : Code} {b L : Nat} {xs : Nat → Int32} {D : va_G} {adX adR : Nat → Nat} {dX dR : Nat → ClassId} {Q : State → Prop} {x3 : Int32} {Inv : St → St → Prop} (K : CL p s m args c b L xs D adX dX adR dR) (hB : MStps Inv) (h1 : vp_in (x3 + 1) L) (h2 : vp_in (x3 + 2) L) (h3 : vp_in (x3 + 3) L) (h4 : vp_in (x3 + 4) L) (h5 : vp_in (x3 + 5) L) (ih : ∀ σ τ, Inv σ τ → VL p l e s m args below meth c D adX dX adR dR Q 1430 [(0, .ref b), (1, .ref (adX 0)), (2, .ref (adR 0)), (3, .int x3)] [] σ τ) (σ τ : St) (hI : Inv σ τ) : VL p l e s m args below meth c D adX dX adR dR Q 241 [(0, .ref b), (1, .ref (adX 0)), (2, .ref (adR 0)), (3, .int x3)] [] σ τ := by
  obtain ⟨n, r, σ1, τ1, h1x, h2x, hI⟩ := hB.2.1 (xs (x3 + 1).toNatClampNeg) (xs (x3 + 2).toNatClampNeg) (xs (x3 + 3).toNatClampNeg) σ τ hI
  refine l_aload_n K dL_law_241 1 rfl ?_
  refine l_aload_n K dL_law_242 0 rfl ?_
  refine l_iload_n K dL_law_243 3 rfl ?_
  refine l_iconst (v := 1) K dL_law_244 (by decide) ?_
  refine l_iadd K dL_law_245 ?_
  refine l_sld K h1 dL_law_246 ?_
  refine l_aload_n K dL_law_247 0 rfl ?_
  refine l_iload_n K dL_law_248 3 rfl ?_
  refine l_iconst (v := 2) K dL_law_249 (by decide) ?_
  refine l_iadd K dL_law_250 ?_
  refine l_sld K h2 dL_law_251 ?_
  refine l_aload_n K dL_law_252 0 rfl ?_
  refine l_iload_n K dL_law_253 3 rfl ?_
  refine l_iconst (v := 3) K dL_law_254 (by decide) ?_
  refine l_iadd K dL_law_255 ?_
  refine l_sld K h3 dL_law_256 ?_
  refine l_Xi (As := [.int (xs (x3 + 1).toNatClampNeg), .int (xs (x3 + 2).toNatClampNeg), .int (xs (x3 + 3).toNatClampNeg)]) (st := []) K uv_X11_people rfl qm_L_18 dL_law_257 (c_X11_people l n (xs (x3 + 1).toNatClampNeg) (xs (x3 + 2).toNatClampNeg) (xs (x3 + 3).toNatClampNeg) σ h1x) rfl ⟨Nat.le_of_ble_eq_true rfl, Nat.le_of_ble_eq_true rfl⟩ (Nat.le_of_ble_eq_true rfl) ?_
  refine l_aload_n K dL_law_260 2 rfl ?_
  refine l_aload_n K dL_law_261 0 rfl ?_
  refine l_iload_n K dL_law_262 3 rfl ?_
  refine l_iconst (v := 1) K dL_law_263 (by decide) ?_
  refine l_iadd K dL_law_264 ?_
  refine l_sld K h1 dL_law_265 ?_
  refine l_aload_n K dL_law_266 0 rfl ?_
  refine l_iload_n K dL_law_267 3 rfl ?_
  refine l_iconst (v := 2) K dL_law_268 (by decide) ?_
  refine l_iadd K dL_law_269 ?_
  refine l_sld K h2 dL_law_270 ?_
  refine l_aload_n K dL_law_271 0 rfl ?_
  refine l_iload_n K dL_law_272 3 rfl ?_
  refine l_iconst (v := 3) K dL_law_273 (by decide) ?_
  refine l_iadd K dL_law_274 ?_
  refine l_sld K h3 dL_law_275 ?_
  refine l_Ri (As := [.int (xs (x3 + 1).toNatClampNeg), .int (xs (x3 + 2).toNatClampNeg), .int (xs (x3 + 3).toNatClampNeg)]) (st := [.int r]) K uv_X12_people rfl qm_L_22 dL_law_276 (c_X12_people l n (xs (x3 + 1).toNatClampNeg) (xs (x3 + 2).toNatClampNeg) (xs (x3 + 3).toNatClampNeg) τ h2x) rfl ⟨Nat.le_of_ble_eq_true rfl, Nat.le_of_ble_eq_true rfl⟩ (Nat.le_of_ble_eq_true rfl) ?_
  refine l_eqT (tgt := 1430) K dL_law_279 (by decide) rfl ?_
  exact ih σ1 τ1 hI
theorem lc_2 (l : Launch) {p : Program} {e : Env} {s : State} {m : MethodId} {args : Array Value} {below : List Frame} {meth : Method} {c : Code} {b L : Nat} {xs : Nat → Int32} {D : va_G} {adX adR : Nat → Nat} {dX dR : Nat → ClassId} {Q : State → Prop} {x3 : Int32} {Inv : St → St → Prop} (K : CL p s m args c b L xs D adX dX adR dR) (hB : MStps Inv) (h1 : vp_in (x3 + 1) L) (h2 : vp_in (x3 + 2) L) (h3 : vp_in (x3 + 3) L) (h4 : vp_in (x3 + 4) L) (h5 : vp_in (x3 + 5) L) (ih : ∀ σ τ, Inv σ τ → VL p l e s m args below meth c D adX dX adR dR Q 1430 [(0, .ref b), (1, .ref (adX 0)), (2, .ref (adR 0)), (3, .int x3)] [] σ τ) (σ τ : St) (hI : Inv σ τ) : VL p l e s m args below meth c D adX dX adR dR Q 284 [(0, .ref b), (1, .ref (adX 0)), (2, .ref (adR 0)), (3, .int x3)] [] σ τ := by
  obtain ⟨n, r, σ1, τ1, h1x, h2x, hI⟩ := hB.2.2.1 (xs (x3 + 1).toNatClampNeg) (xs (x3 + 2).toNatClampNeg) (xs (x3 + 3).toNatClampNeg) σ τ hI
  refine l_aload_n K dL_law_284 1 rfl ?_
  refine l_aload_n K dL_law_285 0 rfl ?_
  refine l_iload_n K dL_law_286 3 rfl ?_
  refine l_iconst (v := 1) K dL_law_287 (by decide) ?_
  refine l_iadd K dL_law_288 ?_
  refine l_sld K h1 dL_law_289 ?_
  refine l_aload_n K dL_law_290 0 rfl ?_
  refine l_iload_n K dL_law_291 3 rfl ?_
  refine l_iconst (v := 2) K dL_law_292 (by decide) ?_
  refine l_iadd K dL_law_293 ?_
  refine l_sld K h2 dL_law_294 ?_
  refine l_aload_n K dL_law_295 0 rfl ?_
  refine l_iload_n K dL_law_296 3 rfl ?_
  refine l_iconst (v := 3) K dL_law_297 (by decide) ?_
  refine l_iadd K dL_law_298 ?_
  refine l_sld K h3 dL_law_299 ?_
  refine l_Xi (As := [.int (xs (x3 + 1).toNatClampNeg), .int (xs (x3 + 2).toNatClampNeg), .int (xs (x3 + 3).toNatClampNeg)]) (st := []) K uv_X11_mend rfl qm_L_23 dL_law_300 (c_X11_mend l n (xs (x3 + 1).toNatClampNeg) (xs (x3 + 2).toNatClampNeg) (xs (x3 + 3).toNatClampNeg) σ h1x) rfl ⟨Nat.le_of_ble_eq_true rfl, Nat.le_of_ble_eq_true rfl⟩ (Nat.le_of_ble_eq_true rfl) ?_
  refine l_aload_n K dL_law_303 2 rfl ?_
  refine l_aload_n K dL_law_304 0 rfl ?_
  refine l_iload_n K dL_law_305 3 rfl ?_
  refine l_iconst (v := 1) K dL_law_306 (by decide) ?_
  refine l_iadd K dL_law_307 ?_
  refine l_sld K h1 dL_law_308 ?_
  refine l_aload_n K dL_law_309 0 rfl ?_
  refine l_iload_n K dL_law_310 3 rfl ?_
  refine l_iconst (v := 2) K dL_law_311 (by decide) ?_
  refine l_iadd K dL_law_312 ?_
  refine l_sld K h2 dL_law_313 ?_
  refine l_aload_n K dL_law_314 0 rfl ?_
  refine l_iload_n K dL_law_315 3 rfl ?_
  refine l_iconst (v := 3) K dL_law_316 (by decide) ?_
  refine l_iadd K dL_law_317 ?_
  refine l_sld K h3 dL_law_318 ?_
  refine l_Ri (As := [.int (xs (x3 + 1).toNatClampNeg), .int (xs (x3 + 2).toNatClampNeg), .int (xs (x3 + 3).toNatClampNeg)]) (st := [.int r]) K uv_X12_mend rfl qm_L_26 dL_law_319 (c_X12_mend l n (xs (x3 + 1).toNatClampNeg) (xs (x3 + 2).toNatClampNeg) (xs (x3 + 3).toNatClampNeg) τ h2x) rfl ⟨Nat.le_of_ble_eq_true rfl, Nat.le_of_ble_eq_true rfl⟩ (Nat.le_of_ble_eq_true rfl) ?_
  refine l_eqT (tgt := 1430) K dL_law_322 (by decide) rfl ?_
  exact ih σ1 τ1 hI
theorem lc_3 (l : Launch) {p : Program} {e : Env} {s : State} {m : MethodId} {args : Array Value} {below : List Frame} {meth : Method} {c : Code} {b L : Nat} {xs : Nat → Int32} {D : va_G} {adX adR : Nat → Nat} {dX dR : Nat → ClassId} {Q : State → Prop} {x3 : Int32} {Inv : St → St → Prop} (K : CL p s m args c b L xs D adX dX adR dR) (hB : MStps Inv) (h1 : vp_in (x3 + 1) L) (h2 : vp_in (x3 + 2) L) (h3 : vp_in (x3 + 3) L) (h4 : vp_in (x3 + 4) L) (h5 : vp_in (x3 + 5) L) (ih : ∀ σ τ, Inv σ τ → VL p l e s m args below meth c D adX dX adR dR Q 1430 [(0, .ref b), (1, .ref (adX 0)), (2, .ref (adR 0)), (3, .int x3)] [] σ τ) (σ τ : St) (hI : Inv σ τ) : VL p l e s m args below meth c D adX dX adR dR Q 327 [(0, .ref b), (1, .ref (adX 0)), (2, .ref (adR 0)), (3, .int x3)] [] σ τ := by
  obtain ⟨n, r, σ1, τ1, h1x, h2x, hI⟩ := hB.2.2.2.1 (xs (x3 + 1).toNatClampNeg) (xs (x3 + 2).toNatClampNeg) σ τ hI
  refine l_aload_n K dL_law_327 1 rfl ?_
  refine l_aload_n K dL_law_328 0 rfl ?_
  refine l_iload_n K dL_law_329 3 rfl ?_
  refine l_iconst (v := 1) K dL_law_330 (by decide) ?_
  refine l_iadd K dL_law_331 ?_
  refine l_sld K h1 dL_law_332 ?_
  refine l_aload_n K dL_law_333 0 rfl ?_
  refine l_iload_n K dL_law_334 3 rfl ?_
  refine l_iconst (v := 2) K dL_law_335 (by decide) ?_
  refine l_iadd K dL_law_336 ?_
  refine l_sld K h2 dL_law_337 ?_
  refine l_Xi (As := [.int (xs (x3 + 1).toNatClampNeg), .int (xs (x3 + 2).toNatClampNeg)]) (st := []) K uv_X11_of rfl qm_L_27 dL_law_338 (c_X11_of l n (xs (x3 + 1).toNatClampNeg) (xs (x3 + 2).toNatClampNeg) σ h1x) rfl ⟨Nat.le_of_ble_eq_true rfl, Nat.le_of_ble_eq_true rfl⟩ (Nat.le_of_ble_eq_true rfl) ?_
  refine l_aload_n K dL_law_341 2 rfl ?_
  refine l_aload_n K dL_law_342 0 rfl ?_
  refine l_iload_n K dL_law_343 3 rfl ?_
  refine l_iconst (v := 1) K dL_law_344 (by decide) ?_
  refine l_iadd K dL_law_345 ?_
  refine l_sld K h1 dL_law_346 ?_
  refine l_aload_n K dL_law_347 0 rfl ?_
  refine l_iload_n K dL_law_348 3 rfl ?_
  refine l_iconst (v := 2) K dL_law_349 (by decide) ?_
  refine l_iadd K dL_law_350 ?_
  refine l_sld K h2 dL_law_351 ?_
  refine l_Ri (As := [.int (xs (x3 + 1).toNatClampNeg), .int (xs (x3 + 2).toNatClampNeg)]) (st := [.int r]) K uv_X12_of rfl qm_L_30 dL_law_352 (c_X12_of l n (xs (x3 + 1).toNatClampNeg) (xs (x3 + 2).toNatClampNeg) τ h2x) rfl ⟨Nat.le_of_ble_eq_true rfl, Nat.le_of_ble_eq_true rfl⟩ (Nat.le_of_ble_eq_true rfl) ?_
  refine l_eqT (tgt := 1430) K dL_law_355 (by decide) rfl ?_
  exact ih σ1 τ1 hI
theorem lc_4 (l : Launch) {p : Program} {e : Env} {s : State} {m : MethodId} {args : Array Value} {below : List Frame} {meth : Method} {c : Code} {b L : Nat} {xs : Nat → Int32} {D : va_G} {adX adR : Nat → Nat} {dX dR : Nat → ClassId} {Q : State → Prop} {x3 : Int32} {Inv : St → St → Prop} (K : CL p s m args c b L xs D adX dX adR dR) (hB : MStps Inv) (h1 : vp_in (x3 + 1) L) (h2 : vp_in (x3 + 2) L) (h3 : vp_in (x3 + 3) L) (h4 : vp_in (x3 + 4) L) (h5 : vp_in (x3 + 5) L) (ih : ∀ σ τ, Inv σ τ → VL p l e s m args below meth c D adX dX adR dR Q 1430 [(0, .ref b), (1, .ref (adX 0)), (2, .ref (adR 0)), (3, .int x3)] [] σ τ) (σ τ : St) (hI : Inv σ τ) : VL p l e s m args below meth c D adX dX adR dR Q 360 [(0, .ref b), (1, .ref (adX 0)), (2, .ref (adR 0)), (3, .int x3)] [] σ τ := by
  obtain ⟨n, r, σ1, τ1, h1x, h2x, hI⟩ := hB.2.2.2.2.1 (xs (x3 + 1).toNatClampNeg) σ τ hI
  refine l_aload_n K dL_law_360 1 rfl ?_
  refine l_aload_n K dL_law_361 0 rfl ?_
  refine l_iload_n K dL_law_362 3 rfl ?_
  refine l_iconst (v := 1) K dL_law_363 (by decide) ?_
  refine l_iadd K dL_law_364 ?_
  refine l_sld K h1 dL_law_365 ?_
  refine l_Xi (As := [.int (xs (x3 + 1).toNatClampNeg)]) (st := []) K uv_X11_feed rfl qm_L_31 dL_law_366 (c_X11_feed l n (xs (x3 + 1).toNatClampNeg) σ h1x) rfl ⟨Nat.le_of_ble_eq_true rfl, Nat.le_of_ble_eq_true rfl⟩ (Nat.le_of_ble_eq_true rfl) ?_
  refine l_aload_n K dL_law_369 2 rfl ?_
  refine l_aload_n K dL_law_370 0 rfl ?_
  refine l_iload_n K dL_law_371 3 rfl ?_
  refine l_iconst (v := 1) K dL_law_372 (by decide) ?_
  refine l_iadd K dL_law_373 ?_
  refine l_sld K h1 dL_law_374 ?_
  refine l_Ri (As := [.int (xs (x3 + 1).toNatClampNeg)]) (st := [.int r]) K uv_X12_feed rfl qm_L_35 dL_law_375 (c_X12_feed l n (xs (x3 + 1).toNatClampNeg) τ h2x) rfl ⟨Nat.le_of_ble_eq_true rfl, Nat.le_of_ble_eq_true rfl⟩ (Nat.le_of_ble_eq_true rfl) ?_
  refine l_eqT (tgt := 1430) K dL_law_378 (by decide) rfl ?_
  exact ih σ1 τ1 hI
theorem lc_5 (l : Launch) {p : Program} {e : Env} {s : State} {m : MethodId} {args : Array Value} {below : List Frame} {meth : Method} {c : Code} {b L : Nat} {xs : Nat → Int32} {D : va_G} {adX adR : Nat → Nat} {dX dR : Nat → ClassId} {Q : State → Prop} {x3 : Int32} {Inv : St → St → Prop} (K : CL p s m args c b L xs D adX dX adR dR) (hB : MStps Inv) (h1 : vp_in (x3 + 1) L) (h2 : vp_in (x3 + 2) L) (h3 : vp_in (x3 + 3) L) (h4 : vp_in (x3 + 4) L) (h5 : vp_in (x3 + 5) L) (ih : ∀ σ τ, Inv σ τ → VL p l e s m args below meth c D adX dX adR dR Q 1430 [(0, .ref b), (1, .ref (adX 0)), (2, .ref (adR 0)), (3, .int x3)] [] σ τ) (σ τ : St) (hI : Inv σ τ) : VL p l e s m args below meth c D adX dX adR dR Q 383 [(0, .ref b), (1, .ref (adX 0)), (2, .ref (adR 0)), (3, .int x3)] [] σ τ := by
  obtain ⟨n, r, σ1, τ1, h1x, h2x, hI⟩ := hB.2.2.2.2.2.1  σ τ hI
  refine l_aload_n K dL_law_383 1 rfl ?_
  refine l_Xi (As := []) (st := []) K uv_X11_law rfl qm_L_36 dL_law_384 (c_X11_law l n  σ h1x) rfl ⟨Nat.le_of_ble_eq_true rfl, Nat.le_of_ble_eq_true rfl⟩ (Nat.le_of_ble_eq_true rfl) ?_
  refine l_aload_n K dL_law_387 2 rfl ?_
  refine l_Ri (As := []) (st := [.int r]) K uv_X12_law rfl qm_L_40 dL_law_388 (c_X12_law l n  τ h2x) rfl ⟨Nat.le_of_ble_eq_true rfl, Nat.le_of_ble_eq_true rfl⟩ (Nat.le_of_ble_eq_true rfl) ?_
  refine l_eqT (tgt := 1430) K dL_law_391 (by decide) rfl ?_
  exact ih σ1 τ1 hI
theorem lc_6 (l : Launch) {p : Program} {e : Env} {s : State} {m : MethodId} {args : Array Value} {below : List Frame} {meth : Method} {c : Code} {b L : Nat} {xs : Nat → Int32} {D : va_G} {adX adR : Nat → Nat} {dX dR : Nat → ClassId} {Q : State → Prop} {x3 : Int32} {Inv : St → St → Prop} (K : CL p s m args c b L xs D adX dX adR dR) (hB : MStps Inv) (h1 : vp_in (x3 + 1) L) (h2 : vp_in (x3 + 2) L) (h3 : vp_in (x3 + 3) L) (h4 : vp_in (x3 + 4) L) (h5 : vp_in (x3 + 5) L) (ih : ∀ σ τ, Inv σ τ → VL p l e s m args below meth c D adX dX adR dR Q 1430 [(0, .ref b), (1, .ref (adX 0)), (2, .ref (adR 0)), (3, .int x3)] [] σ τ) (σ τ : St) (hI : Inv σ τ) : VL p l e s m args below meth c D adX dX adR dR Q 396 [(0, .ref b), (1, .ref (adX 0)), (2, .ref (adR 0)), (3, .int x3)] [] σ τ := by
  obtain ⟨n, r, σ1, τ1, h1x, h2x, hI⟩ := hB.2.2.2.2.2.2.1 (xs (x3 + 1).toNatClampNeg) (xs (x3 + 2).toNatClampNeg) σ τ hI
  refine l_aload_n K dL_law_396 1 rfl ?_
  refine l_aload_n K dL_law_397 0 rfl ?_
  refine l_iload_n K dL_law_398 3 rfl ?_
  refine l_iconst (v := 1) K dL_law_399 (by decide) ?_
  refine l_iadd K dL_law_400 ?_
  refine l_sld K h1 dL_law_401 ?_
  refine l_aload_n K dL_law_402 0 rfl ?_
  refine l_iload_n K dL_law_403 3 rfl ?_
  refine l_iconst (v := 2) K dL_law_404 (by decide) ?_
  refine l_iadd K dL_law_405 ?_
  refine l_sld K h2 dL_law_406 ?_
  refine l_Xi (As := [.int (xs (x3 + 1).toNatClampNeg), .int (xs (x3 + 2).toNatClampNeg)]) (st := []) K uv_X11_wins rfl qm_L_41 dL_law_407 (c_X11_wins l n (xs (x3 + 1).toNatClampNeg) (xs (x3 + 2).toNatClampNeg) σ h1x) rfl ⟨Nat.le_of_ble_eq_true rfl, Nat.le_of_ble_eq_true rfl⟩ (Nat.le_of_ble_eq_true rfl) ?_
  refine l_aload_n K dL_law_410 2 rfl ?_
  refine l_aload_n K dL_law_411 0 rfl ?_
  refine l_iload_n K dL_law_412 3 rfl ?_
  refine l_iconst (v := 1) K dL_law_413 (by decide) ?_
  refine l_iadd K dL_law_414 ?_
  refine l_sld K h1 dL_law_415 ?_
  refine l_aload_n K dL_law_416 0 rfl ?_
  refine l_iload_n K dL_law_417 3 rfl ?_
  refine l_iconst (v := 2) K dL_law_418 (by decide) ?_
  refine l_iadd K dL_law_419 ?_
  refine l_sld K h2 dL_law_420 ?_
  refine l_Ri (As := [.int (xs (x3 + 1).toNatClampNeg), .int (xs (x3 + 2).toNatClampNeg)]) (st := [.int r]) K uv_X12_wins rfl qm_L_44 dL_law_421 (c_X12_wins l n (xs (x3 + 1).toNatClampNeg) (xs (x3 + 2).toNatClampNeg) τ h2x) rfl ⟨Nat.le_of_ble_eq_true rfl, Nat.le_of_ble_eq_true rfl⟩ (Nat.le_of_ble_eq_true rfl) ?_
  refine l_eqT (tgt := 1430) K dL_law_424 (by decide) rfl ?_
  exact ih σ1 τ1 hI
theorem lc_7 (l : Launch) {p : Program} {e : Env} {s : State} {m : MethodId} {args : Array Value} {below : List Frame} {meth : Method} {c : Code} {b L : Nat} {xs : Nat → Int32} {D : va_G} {adX adR : Nat → Nat} {dX dR : Nat → ClassId} {Q : State → Prop} {x3 : Int32} {Inv : St → St → Prop} (K : CL p s m args c b L xs D adX dX adR dR) (hB : MStps Inv) (h1 : vp_in (x3 + 1) L) (h2 : vp_in (x3 + 2) L) (h3 : vp_in (x3 + 3) L) (h4 : vp_in (x3 + 4) L) (h5 : vp_in (x3 + 5) L) (ih : ∀ σ τ, Inv σ τ → VL p l e s m args below meth c D adX dX adR dR Q 1430 [(0, .ref b), (1, .ref (adX 0)), (2, .ref (adR 0)), (3, .int x3)] [] σ τ) (σ τ : St) (hI : Inv σ τ) : VL p l e s m args below meth c D adX dX adR dR Q 429 [(0, .ref b), (1, .ref (adX 0)), (2, .ref (adR 0)), (3, .int x3)] [] σ τ := by
  obtain ⟨n, r, σ1, τ1, h1x, h2x, hI⟩ := hB.2.2.2.2.2.2.2.1 (xs (x3 + 1).toNatClampNeg) (xs (x3 + 2).toNatClampNeg) σ τ hI
  refine l_aload_n K dL_law_429 1 rfl ?_
  refine l_aload_n K dL_law_430 0 rfl ?_
  refine l_iload_n K dL_law_431 3 rfl ?_
  refine l_iconst (v := 1) K dL_law_432 (by decide) ?_
  refine l_iadd K dL_law_433 ?_
  refine l_sld K h1 dL_law_434 ?_
  refine l_aload_n K dL_law_435 0 rfl ?_
  refine l_iload_n K dL_law_436 3 rfl ?_
  refine l_iconst (v := 2) K dL_law_437 (by decide) ?_
  refine l_iadd K dL_law_438 ?_
  refine l_sld K h2 dL_law_439 ?_
  refine l_Xi (As := [.int (xs (x3 + 1).toNatClampNeg), .int (xs (x3 + 2).toNatClampNeg)]) (st := []) K uv_X11_course rfl qm_L_45 dL_law_440 (c_X11_course l n (xs (x3 + 1).toNatClampNeg) (xs (x3 + 2).toNatClampNeg) σ h1x) rfl ⟨Nat.le_of_ble_eq_true rfl, Nat.le_of_ble_eq_true rfl⟩ (Nat.le_of_ble_eq_true rfl) ?_
  refine l_aload_n K dL_law_443 2 rfl ?_
  refine l_aload_n K dL_law_444 0 rfl ?_
  refine l_iload_n K dL_law_445 3 rfl ?_
  refine l_iconst (v := 1) K dL_law_446 (by decide) ?_
  refine l_iadd K dL_law_447 ?_
  refine l_sld K h1 dL_law_448 ?_
  refine l_aload_n K dL_law_449 0 rfl ?_
  refine l_iload_n K dL_law_450 3 rfl ?_
  refine l_iconst (v := 2) K dL_law_451 (by decide) ?_
  refine l_iadd K dL_law_452 ?_
  refine l_sld K h2 dL_law_453 ?_
  refine l_Ri (As := [.int (xs (x3 + 1).toNatClampNeg), .int (xs (x3 + 2).toNatClampNeg)]) (st := [.int r]) K uv_X12_course rfl qm_L_48 dL_law_454 (c_X12_course l n (xs (x3 + 1).toNatClampNeg) (xs (x3 + 2).toNatClampNeg) τ h2x) rfl ⟨Nat.le_of_ble_eq_true rfl, Nat.le_of_ble_eq_true rfl⟩ (Nat.le_of_ble_eq_true rfl) ?_
  refine l_eqT (tgt := 1430) K dL_law_457 (by decide) rfl ?_
  exact ih σ1 τ1 hI
theorem lc_8 (l : Launch) {p : Program} {e : Env} {s : State} {m : MethodId} {args : Array Value} {below : List Frame} {meth : Method} {c : Code} {b L : Nat} {xs : Nat → Int32} {D : va_G} {adX adR : Nat → Nat} {dX dR : Nat → ClassId} {Q : State → Prop} {x3 : Int32} {Inv : St → St → Prop} (K : CL p s m args c b L xs D adX dX adR dR) (hB : MStps Inv) (h1 : vp_in (x3 + 1) L) (h2 : vp_in (x3 + 2) L) (h3 : vp_in (x3 + 3) L) (h4 : vp_in (x3 + 4) L) (h5 : vp_in (x3 + 5) L) (ih : ∀ σ τ, Inv σ τ → VL p l e s m args below meth c D adX dX adR dR Q 1430 [(0, .ref b), (1, .ref (adX 0)), (2, .ref (adR 0)), (3, .int x3)] [] σ τ) (σ τ : St) (hI : Inv σ τ) : VL p l e s m args below meth c D adX dX adR dR Q 462 [(0, .ref b), (1, .ref (adX 0)), (2, .ref (adR 0)), (3, .int x3)] [] σ τ := by
  obtain ⟨n, r, σ1, τ1, h1x, h2x, hI⟩ := hB.2.2.2.2.2.2.2.2.1 (xs (x3 + 1).toNatClampNeg) (xs (x3 + 2).toNatClampNeg) (xs (x3 + 3).toNatClampNeg) σ τ hI
  refine l_aload_n K dL_law_462 1 rfl ?_
  refine l_aload_n K dL_law_463 0 rfl ?_
  refine l_iload_n K dL_law_464 3 rfl ?_
  refine l_iconst (v := 1) K dL_law_465 (by decide) ?_
  refine l_iadd K dL_law_466 ?_
  refine l_sld K h1 dL_law_467 ?_
  refine l_aload_n K dL_law_468 0 rfl ?_
  refine l_iload_n K dL_law_469 3 rfl ?_
  refine l_iconst (v := 2) K dL_law_470 (by decide) ?_
  refine l_iadd K dL_law_471 ?_
  refine l_sld K h2 dL_law_472 ?_
  refine l_aload_n K dL_law_473 0 rfl ?_
  refine l_iload_n K dL_law_474 3 rfl ?_
  refine l_iconst (v := 3) K dL_law_475 (by decide) ?_
  refine l_iadd K dL_law_476 ?_
  refine l_sld K h3 dL_law_477 ?_
  refine l_Xi (As := [.int (xs (x3 + 1).toNatClampNeg), .int (xs (x3 + 2).toNatClampNeg), .int (xs (x3 + 3).toNatClampNeg)]) (st := []) K uv_X11_ends rfl qm_L_49 dL_law_478 (c_X11_ends l n (xs (x3 + 1).toNatClampNeg) (xs (x3 + 2).toNatClampNeg) (xs (x3 + 3).toNatClampNeg) σ h1x) rfl ⟨Nat.le_of_ble_eq_true rfl, Nat.le_of_ble_eq_true rfl⟩ (Nat.le_of_ble_eq_true rfl) ?_
  refine l_aload_n K dL_law_481 2 rfl ?_
  refine l_aload_n K dL_law_482 0 rfl ?_
  refine l_iload_n K dL_law_483 3 rfl ?_
  refine l_iconst (v := 1) K dL_law_484 (by decide) ?_
  refine l_iadd K dL_law_485 ?_
  refine l_sld K h1 dL_law_486 ?_
  refine l_aload_n K dL_law_487 0 rfl ?_
  refine l_iload_n K dL_law_488 3 rfl ?_
  refine l_iconst (v := 2) K dL_law_489 (by decide) ?_
  refine l_iadd K dL_law_490 ?_
  refine l_sld K h2 dL_law_491 ?_
  refine l_aload_n K dL_law_492 0 rfl ?_
  refine l_iload_n K dL_law_493 3 rfl ?_
  refine l_iconst (v := 3) K dL_law_494 (by decide) ?_
  refine l_iadd K dL_law_495 ?_
  refine l_sld K h3 dL_law_496 ?_
  refine l_Ri (As := [.int (xs (x3 + 1).toNatClampNeg), .int (xs (x3 + 2).toNatClampNeg), .int (xs (x3 + 3).toNatClampNeg)]) (st := [.int r]) K uv_X12_ends rfl qm_L_52 dL_law_497 (c_X12_ends l n (xs (x3 + 1).toNatClampNeg) (xs (x3 + 2).toNatClampNeg) (xs (x3 + 3).toNatClampNeg) τ h2x) rfl ⟨Nat.le_of_ble_eq_true rfl, Nat.le_of_ble_eq_true rfl⟩ (Nat.le_of_ble_eq_true rfl) ?_
  refine l_eqT (tgt := 1430) K dL_law_500 (by decide) rfl ?_
  exact ih σ1 τ1 hI
theorem lc_9 (l : Launch) {p : Program} {e : Env} {s : State} {m : MethodId} {args : Array Value} {below : List Frame} {meth : Method} {c : Code} {b L : Nat} {xs : Nat → Int32} {D : va_G} {adX adR : Nat → Nat} {dX dR : Nat → ClassId} {Q : State → Prop} {x3 : Int32} {Inv : St → St → Prop} (K : CL p s m args c b L xs D adX dX adR dR) (hB : MStps Inv) (h1 : vp_in (x3 + 1) L) (h2 : vp_in (x3 + 2) L) (h3 : vp_in (x3 + 3) L) (h4 : vp_in (x3 + 4) L) (h5 : vp_in (x3 + 5) L) (ih : ∀ σ τ, Inv σ τ → VL p l e s m args below meth c D adX dX adR dR Q 1430 [(0, .ref b), (1, .ref (adX 0)), (2, .ref (adR 0)), (3, .int x3)] [] σ τ) (σ τ : St) (hI : Inv σ τ) : VL p l e s m args below meth c D adX dX adR dR Q 505 [(0, .ref b), (1, .ref (adX 0)), (2, .ref (adR 0)), (3, .int x3)] [] σ τ := by
  obtain ⟨n, r, σ1, τ1, h1x, h2x, hI⟩ := hB.2.2.2.2.2.2.2.2.2.1 (xs (x3 + 1).toNatClampNeg) (xs (x3 + 2).toNatClampNeg) σ τ hI
  refine l_aload_n K dL_law_505 1 rfl ?_
  refine l_aload_n K dL_law_506 0 rfl ?_
  refine l_iload_n K dL_law_507 3 rfl ?_
  refine l_iconst (v := 1) K dL_law_508 (by decide) ?_
  refine l_iadd K dL_law_509 ?_
  refine l_sld K h1 dL_law_510 ?_
  refine l_aload_n K dL_law_511 0 rfl ?_
  refine l_iload_n K dL_law_512 3 rfl ?_
  refine l_iconst (v := 2) K dL_law_513 (by decide) ?_
  refine l_iadd K dL_law_514 ?_
  refine l_sld K h2 dL_law_515 ?_
  refine l_Xi (As := [.int (xs (x3 + 1).toNatClampNeg), .int (xs (x3 + 2).toNatClampNeg)]) (st := []) K uv_X11_best rfl qm_L_53 dL_law_516 (c_X11_best l n (xs (x3 + 1).toNatClampNeg) (xs (x3 + 2).toNatClampNeg) σ h1x) rfl ⟨Nat.le_of_ble_eq_true rfl, Nat.le_of_ble_eq_true rfl⟩ (Nat.le_of_ble_eq_true rfl) ?_
  refine l_aload_n K dL_law_519 2 rfl ?_
  refine l_aload_n K dL_law_520 0 rfl ?_
  refine l_iload_n K dL_law_521 3 rfl ?_
  refine l_iconst (v := 1) K dL_law_522 (by decide) ?_
  refine l_iadd K dL_law_523 ?_
  refine l_sld K h1 dL_law_524 ?_
  refine l_aload_n K dL_law_525 0 rfl ?_
  refine l_iload_n K dL_law_526 3 rfl ?_
  refine l_iconst (v := 2) K dL_law_527 (by decide) ?_
  refine l_iadd K dL_law_528 ?_
  refine l_sld K h2 dL_law_529 ?_
  refine l_Ri (As := [.int (xs (x3 + 1).toNatClampNeg), .int (xs (x3 + 2).toNatClampNeg)]) (st := [.int r]) K uv_X12_best rfl qm_L_56 dL_law_530 (c_X12_best l n (xs (x3 + 1).toNatClampNeg) (xs (x3 + 2).toNatClampNeg) τ h2x) rfl ⟨Nat.le_of_ble_eq_true rfl, Nat.le_of_ble_eq_true rfl⟩ (Nat.le_of_ble_eq_true rfl) ?_
  refine l_eqT (tgt := 1430) K dL_law_533 (by decide) rfl ?_
  exact ih σ1 τ1 hI
theorem lc_10 (l : Launch) {p : Program} {e : Env} {s : State} {m : MethodId} {args : Array Value} {below : List Frame} {meth : Method} {c : Code} {b L : Nat} {xs : Nat → Int32} {D : va_G} {adX adR : Nat → Nat} {dX dR : Nat → ClassId} {Q : State → Prop} {x3 : Int32} {Inv : St → St → Prop} (K : CL p s m args c b L xs D adX dX adR dR) (hB : MStps Inv) (h1 : vp_in (x3 + 1) L) (h2 : vp_in (x3 + 2) L) (h3 : vp_in (x3 + 3) L) (h4 : vp_in (x3 + 4) L) (h5 : vp_in (x3 + 5) L) (ih : ∀ σ τ, Inv σ τ → VL p l e s m args below meth c D adX dX adR dR Q 1430 [(0, .ref b), (1, .ref (adX 0)), (2, .ref (adR 0)), (3, .int x3)] [] σ τ) (σ τ : St) (hI : Inv σ τ) : VL p l e s m args below meth c D adX dX adR dR Q 538 [(0, .ref b), (1, .ref (adX 0)), (2, .ref (adR 0)), (3, .int x3)] [] σ τ := by
  obtain ⟨n, r, σ1, τ1, h1x, h2x, hI⟩ := hB.2.2.2.2.2.2.2.2.2.2.1 (xs (x3 + 1).toNatClampNeg) (xs (x3 + 2).toNatClampNeg) σ τ hI
  refine l_aload_n K dL_law_538 1 rfl ?_
  refine l_aload_n K dL_law_539 0 rfl ?_
  refine l_iload_n K dL_law_540 3 rfl ?_
  refine l_iconst (v := 1) K dL_law_541 (by decide) ?_
  refine l_iadd K dL_law_542 ?_
  refine l_sld K h1 dL_law_543 ?_
  refine l_aload_n K dL_law_544 0 rfl ?_
  refine l_iload_n K dL_law_545 3 rfl ?_
  refine l_iconst (v := 2) K dL_law_546 (by decide) ?_
  refine l_iadd K dL_law_547 ?_
  refine l_sld K h2 dL_law_548 ?_
  refine l_Xl (As := [.int (xs (x3 + 1).toNatClampNeg), .int (xs (x3 + 2).toNatClampNeg)]) (st := []) K uv_X11_beside rfl qm_L_57 dL_law_549 (c_X11_beside l n (xs (x3 + 1).toNatClampNeg) (xs (x3 + 2).toNatClampNeg) σ h1x) rfl ⟨Nat.le_of_ble_eq_true rfl, Nat.le_of_ble_eq_true rfl⟩ (Nat.le_of_ble_eq_true rfl) ?_
  refine l_aload_n K dL_law_552 2 rfl ?_
  refine l_aload_n K dL_law_553 0 rfl ?_
  refine l_iload_n K dL_law_554 3 rfl ?_
  refine l_iconst (v := 1) K dL_law_555 (by decide) ?_
  refine l_iadd K dL_law_556 ?_
  refine l_sld K h1 dL_law_557 ?_
  refine l_aload_n K dL_law_558 0 rfl ?_
  refine l_iload_n K dL_law_559 3 rfl ?_
  refine l_iconst (v := 2) K dL_law_560 (by decide) ?_
  refine l_iadd K dL_law_561 ?_
  refine l_sld K h2 dL_law_562 ?_
  refine l_Rl (As := [.int (xs (x3 + 1).toNatClampNeg), .int (xs (x3 + 2).toNatClampNeg)]) (st := [.long r]) K uv_X12_beside rfl qm_L_61 dL_law_563 (c_X12_beside l n (xs (x3 + 1).toNatClampNeg) (xs (x3 + 2).toNatClampNeg) τ h2x) rfl ⟨Nat.le_of_ble_eq_true rfl, Nat.le_of_ble_eq_true rfl⟩ (Nat.le_of_ble_eq_true rfl) ?_
  refine l_lcmp K dL_law_566 ?_
  refine l_ifeqT (tgt := 1430) K dL_law_567 (by decide) (lg_self r) ?_
  exact ih σ1 τ1 hI
theorem lc_11 (l : Launch) {p : Program} {e : Env} {s : State} {m : MethodId} {args : Array Value} {below : List Frame} {meth : Method} {c : Code} {b L : Nat} {xs : Nat → Int32} {D : va_G} {adX adR : Nat → Nat} {dX dR : Nat → ClassId} {Q : State → Prop} {x3 : Int32} {Inv : St → St → Prop} (K : CL p s m args c b L xs D adX dX adR dR) (hB : MStps Inv) (h1 : vp_in (x3 + 1) L) (h2 : vp_in (x3 + 2) L) (h3 : vp_in (x3 + 3) L) (h4 : vp_in (x3 + 4) L) (h5 : vp_in (x3 + 5) L) (ih : ∀ σ τ, Inv σ τ → VL p l e s m args below meth c D adX dX adR dR Q 1430 [(0, .ref b), (1, .ref (adX 0)), (2, .ref (adR 0)), (3, .int x3)] [] σ τ) (σ τ : St) (hI : Inv σ τ) : VL p l e s m args below meth c D adX dX adR dR Q 572 [(0, .ref b), (1, .ref (adX 0)), (2, .ref (adR 0)), (3, .int x3)] [] σ τ := by
  obtain ⟨n, r, σ1, τ1, h1x, h2x, hI⟩ := hB.2.2.2.2.2.2.2.2.2.2.2.1 (xs (x3 + 1).toNatClampNeg) σ τ hI
  refine l_aload_n K dL_law_572 1 rfl ?_
  refine l_aload_n K dL_law_573 0 rfl ?_
  refine l_iload_n K dL_law_574 3 rfl ?_
  refine l_iconst (v := 1) K dL_law_575 (by decide) ?_
  refine l_iadd K dL_law_576 ?_
  refine l_sld K h1 dL_law_577 ?_
  refine l_Xi (As := [.int (xs (x3 + 1).toNatClampNeg)]) (st := []) K uv_X11_tillBound rfl qm_L_62 dL_law_578 (c_X11_tillBound l n (xs (x3 + 1).toNatClampNeg) σ h1x) rfl ⟨Nat.le_of_ble_eq_true rfl, Nat.le_of_ble_eq_true rfl⟩ (Nat.le_of_ble_eq_true rfl) ?_
  refine l_aload_n K dL_law_581 2 rfl ?_
  refine l_aload_n K dL_law_582 0 rfl ?_
  refine l_iload_n K dL_law_583 3 rfl ?_
  refine l_iconst (v := 1) K dL_law_584 (by decide) ?_
  refine l_iadd K dL_law_585 ?_
  refine l_sld K h1 dL_law_586 ?_
  refine l_Ri (As := [.int (xs (x3 + 1).toNatClampNeg)]) (st := [.int r]) K uv_X12_tillBound rfl qm_L_65 dL_law_587 (c_X12_tillBound l n (xs (x3 + 1).toNatClampNeg) τ h2x) rfl ⟨Nat.le_of_ble_eq_true rfl, Nat.le_of_ble_eq_true rfl⟩ (Nat.le_of_ble_eq_true rfl) ?_
  refine l_eqT (tgt := 1430) K dL_law_590 (by decide) rfl ?_
  exact ih σ1 τ1 hI
theorem lc_12 (l : Launch) {p : Program} {e : Env} {s : State} {m : MethodId} {args : Array Value} {below : List Frame} {meth : Method} {c : Code} {b L : Nat} {xs : Nat → Int32} {D : va_G} {adX adR : Nat → Nat} {dX dR : Nat → ClassId} {Q : State → Prop} {x3 : Int32} {Inv : St → St → Prop} (K : CL p s m args c b L xs D adX dX adR dR) (hB : MStps Inv) (h1 : vp_in (x3 + 1) L) (h2 : vp_in (x3 + 2) L) (h3 : vp_in (x3 + 3) L) (h4 : vp_in (x3 + 4) L) (h5 : vp_in (x3 + 5) L) (ih : ∀ σ τ, Inv σ τ → VL p l e s m args below meth c D adX dX adR dR Q 1430 [(0, .ref b), (1, .ref (adX 0)), (2, .ref (adR 0)), (3, .int x3)] [] σ τ) (σ τ : St) (hI : Inv σ τ) : VL p l e s m args below meth c D adX dX adR dR Q 595 [(0, .ref b), (1, .ref (adX 0)), (2, .ref (adR 0)), (3, .int x3)] [] σ τ := by
  obtain ⟨n, r, σ1, τ1, h1x, h2x, hI⟩ := hB.2.2.2.2.2.2.2.2.2.2.2.2.1  σ τ hI
  refine l_aload_n K dL_law_595 1 rfl ?_
  refine l_Xi (As := []) (st := []) K uv_X11_round rfl qm_L_66 dL_law_596 (c_X11_round l n  σ h1x) rfl ⟨Nat.le_of_ble_eq_true rfl, Nat.le_of_ble_eq_true rfl⟩ (Nat.le_of_ble_eq_true rfl) ?_
  refine l_aload_n K dL_law_599 2 rfl ?_
  refine l_Ri (As := []) (st := [.int r]) K uv_X12_round rfl qm_L_69 dL_law_600 (c_X12_round l n  τ h2x) rfl ⟨Nat.le_of_ble_eq_true rfl, Nat.le_of_ble_eq_true rfl⟩ (Nat.le_of_ble_eq_true rfl) ?_
  refine l_eqT (tgt := 1430) K dL_law_603 (by decide) rfl ?_
  exact ih σ1 τ1 hI
theorem lc_13 (l : Launch) {p : Program} {e : Env} {s : State} {m : MethodId} {args : Array Value} {below : List Frame} {meth : Method} {c : Code} {b L : Nat} {xs : Nat → Int32} {D : va_G} {adX adR : Nat → Nat} {dX dR : Nat → ClassId} {Q : State → Prop} {x3 : Int32} {Inv : St → St → Prop} (K : CL p s m args c b L xs D adX dX adR dR) (hB : MStps Inv) (h1 : vp_in (x3 + 1) L) (h2 : vp_in (x3 + 2) L) (h3 : vp_in (x3 + 3) L) (h4 : vp_in (x3 + 4) L) (h5 : vp_in (x3 + 5) L) (ih : ∀ σ τ, Inv σ τ → VL p l e s m args below meth c D adX dX adR dR Q 1430 [(0, .ref b), (1, .ref (adX 0)), (2, .ref (adR 0)), (3, .int x3)] [] σ τ) (σ τ : St) (hI : Inv σ τ) : VL p l e s m args below meth c D adX dX adR dR Q 608 [(0, .ref b), (1, .ref (adX 0)), (2, .ref (adR 0)), (3, .int x3)] [] σ τ := by
  obtain ⟨n, r, σ1, τ1, h1x, h2x, hI⟩ := hB.2.2.2.2.2.2.2.2.2.2.2.2.2.1 (xs (x3 + 1).toNatClampNeg) σ τ hI
  refine l_aload_n K dL_law_608 1 rfl ?_
  refine l_aload_n K dL_law_609 0 rfl ?_
  refine l_iload_n K dL_law_610 3 rfl ?_
  refine l_iconst (v := 1) K dL_law_611 (by decide) ?_
  refine l_iadd K dL_law_612 ?_
  refine l_sld K h1 dL_law_613 ?_
  refine l_Xi (As := [.int (xs (x3 + 1).toNatClampNeg)]) (st := []) K uv_X11_sure rfl qm_L_70 dL_law_614 (c_X11_sure l n (xs (x3 + 1).toNatClampNeg) σ h1x) rfl ⟨Nat.le_of_ble_eq_true rfl, Nat.le_of_ble_eq_true rfl⟩ (Nat.le_of_ble_eq_true rfl) ?_
  refine l_aload_n K dL_law_617 2 rfl ?_
  refine l_aload_n K dL_law_618 0 rfl ?_
  refine l_iload_n K dL_law_619 3 rfl ?_
  refine l_iconst (v := 1) K dL_law_620 (by decide) ?_
  refine l_iadd K dL_law_621 ?_
  refine l_sld K h1 dL_law_622 ?_
  refine l_Ri (As := [.int (xs (x3 + 1).toNatClampNeg)]) (st := [.int r]) K uv_X12_sure rfl qm_L_73 dL_law_623 (c_X12_sure l n (xs (x3 + 1).toNatClampNeg) τ h2x) rfl ⟨Nat.le_of_ble_eq_true rfl, Nat.le_of_ble_eq_true rfl⟩ (Nat.le_of_ble_eq_true rfl) ?_
  refine l_eqT (tgt := 1430) K dL_law_626 (by decide) rfl ?_
  exact ih σ1 τ1 hI
theorem lc_14 (l : Launch) {p : Program} {e : Env} {s : State} {m : MethodId} {args : Array Value} {below : List Frame} {meth : Method} {c : Code} {b L : Nat} {xs : Nat → Int32} {D : va_G} {adX adR : Nat → Nat} {dX dR : Nat → ClassId} {Q : State → Prop} {x3 : Int32} {Inv : St → St → Prop} (K : CL p s m args c b L xs D adX dX adR dR) (hB : MStps Inv) (h1 : vp_in (x3 + 1) L) (h2 : vp_in (x3 + 2) L) (h3 : vp_in (x3 + 3) L) (h4 : vp_in (x3 + 4) L) (h5 : vp_in (x3 + 5) L) (ih : ∀ σ τ, Inv σ τ → VL p l e s m args below meth c D adX dX adR dR Q 1430 [(0, .ref b), (1, .ref (adX 0)), (2, .ref (adR 0)), (3, .int x3)] [] σ τ) (σ τ : St) (hI : Inv σ τ) : VL p l e s m args below meth c D adX dX adR dR Q 631 [(0, .ref b), (1, .ref (adX 0)), (2, .ref (adR 0)), (3, .int x3)] [] σ τ := by
  obtain ⟨n, r, σ1, τ1, h1x, h2x, hI⟩ := hB.2.2.2.2.2.2.2.2.2.2.2.2.2.2.1 (xs (x3 + 1).toNatClampNeg) (xs (x3 + 2).toNatClampNeg) σ τ hI
  refine l_aload_n K dL_law_631 1 rfl ?_
  refine l_aload_n K dL_law_632 0 rfl ?_
  refine l_iload_n K dL_law_633 3 rfl ?_
  refine l_iconst (v := 1) K dL_law_634 (by decide) ?_
  refine l_iadd K dL_law_635 ?_
  refine l_sld K h1 dL_law_636 ?_
  refine l_aload_n K dL_law_637 0 rfl ?_
  refine l_iload_n K dL_law_638 3 rfl ?_
  refine l_iconst (v := 2) K dL_law_639 (by decide) ?_
  refine l_iadd K dL_law_640 ?_
  refine l_sld K h2 dL_law_641 ?_
  refine l_Xi (As := [.int (xs (x3 + 1).toNatClampNeg), .int (xs (x3 + 2).toNatClampNeg)]) (st := []) K uv_X11_charges rfl qm_L_74 dL_law_642 (c_X11_charges l n (xs (x3 + 1).toNatClampNeg) (xs (x3 + 2).toNatClampNeg) σ h1x) rfl ⟨Nat.le_of_ble_eq_true rfl, Nat.le_of_ble_eq_true rfl⟩ (Nat.le_of_ble_eq_true rfl) ?_
  refine l_aload_n K dL_law_645 2 rfl ?_
  refine l_aload_n K dL_law_646 0 rfl ?_
  refine l_iload_n K dL_law_647 3 rfl ?_
  refine l_iconst (v := 1) K dL_law_648 (by decide) ?_
  refine l_iadd K dL_law_649 ?_
  refine l_sld K h1 dL_law_650 ?_
  refine l_aload_n K dL_law_651 0 rfl ?_
  refine l_iload_n K dL_law_652 3 rfl ?_
  refine l_iconst (v := 2) K dL_law_653 (by decide) ?_
  refine l_iadd K dL_law_654 ?_
  refine l_sld K h2 dL_law_655 ?_
  refine l_Ri (As := [.int (xs (x3 + 1).toNatClampNeg), .int (xs (x3 + 2).toNatClampNeg)]) (st := [.int r]) K uv_X12_charges rfl qm_L_77 dL_law_656 (c_X12_charges l n (xs (x3 + 1).toNatClampNeg) (xs (x3 + 2).toNatClampNeg) τ h2x) rfl ⟨Nat.le_of_ble_eq_true rfl, Nat.le_of_ble_eq_true rfl⟩ (Nat.le_of_ble_eq_true rfl) ?_
  refine l_eqT (tgt := 1430) K dL_law_659 (by decide) rfl ?_
  exact ih σ1 τ1 hI
theorem lc_15 (l : Launch) {p : Program} {e : Env} {s : State} {m : MethodId} {args : Array Value} {below : List Frame} {meth : Method} {c : Code} {b L : Nat} {xs : Nat → Int32} {D : va_G} {adX adR : Nat → Nat} {dX dR : Nat → ClassId} {Q : State → Prop} {x3 : Int32} {Inv : St → St → Prop} (K : CL p s m args c b L xs D adX dX adR dR) (hB : MStps Inv) (h1 : vp_in (x3 + 1) L) (h2 : vp_in (x3 + 2) L) (h3 : vp_in (x3 + 3) L) (h4 : vp_in (x3 + 4) L) (h5 : vp_in (x3 + 5) L) (ih : ∀ σ τ, Inv σ τ → VL p l e s m args below meth c D adX dX adR dR Q 1430 [(0, .ref b), (1, .ref (adX 0)), (2, .ref (adR 0)), (3, .int x3)] [] σ τ) (σ τ : St) (hI : Inv σ τ) : VL p l e s m args below meth c D adX dX adR dR Q 664 [(0, .ref b), (1, .ref (adX 0)), (2, .ref (adR 0)), (3, .int x3)] [] σ τ := by
  obtain ⟨n, r, σ1, τ1, h1x, h2x, hI⟩ := hB.2.2.2.2.2.2.2.2.2.2.2.2.2.2.2.1 (xs (x3 + 1).toNatClampNeg) (xs (x3 + 2).toNatClampNeg) σ τ hI
  refine l_aload_n K dL_law_664 1 rfl ?_
  refine l_aload_n K dL_law_665 0 rfl ?_
  refine l_iload_n K dL_law_666 3 rfl ?_
  refine l_iconst (v := 1) K dL_law_667 (by decide) ?_
  refine l_iadd K dL_law_668 ?_
  refine l_sld K h1 dL_law_669 ?_
  refine l_aload_n K dL_law_670 0 rfl ?_
  refine l_iload_n K dL_law_671 3 rfl ?_
  refine l_iconst (v := 2) K dL_law_672 (by decide) ?_
  refine l_iadd K dL_law_673 ?_
  refine l_sld K h2 dL_law_674 ?_
  refine l_Xi (As := [.int (xs (x3 + 1).toNatClampNeg), .int (xs (x3 + 2).toNatClampNeg)]) (st := []) K uv_X11_days rfl qm_L_78 dL_law_675 (c_X11_days l n (xs (x3 + 1).toNatClampNeg) (xs (x3 + 2).toNatClampNeg) σ h1x) rfl ⟨Nat.le_of_ble_eq_true rfl, Nat.le_of_ble_eq_true rfl⟩ (Nat.le_of_ble_eq_true rfl) ?_
  refine l_aload_n K dL_law_678 2 rfl ?_
  refine l_aload_n K dL_law_679 0 rfl ?_
  refine l_iload_n K dL_law_680 3 rfl ?_
  refine l_iconst (v := 1) K dL_law_681 (by decide) ?_
  refine l_iadd K dL_law_682 ?_
  refine l_sld K h1 dL_law_683 ?_
  refine l_aload_n K dL_law_684 0 rfl ?_
  refine l_iload_n K dL_law_685 3 rfl ?_
  refine l_iconst (v := 2) K dL_law_686 (by decide) ?_
  refine l_iadd K dL_law_687 ?_
  refine l_sld K h2 dL_law_688 ?_
  refine l_Ri (As := [.int (xs (x3 + 1).toNatClampNeg), .int (xs (x3 + 2).toNatClampNeg)]) (st := [.int r]) K uv_X12_days rfl qm_L_81 dL_law_689 (c_X12_days l n (xs (x3 + 1).toNatClampNeg) (xs (x3 + 2).toNatClampNeg) τ h2x) rfl ⟨Nat.le_of_ble_eq_true rfl, Nat.le_of_ble_eq_true rfl⟩ (Nat.le_of_ble_eq_true rfl) ?_
  refine l_eqT (tgt := 1430) K dL_law_692 (by decide) rfl ?_
  exact ih σ1 τ1 hI
theorem lc_16 (l : Launch) {p : Program} {e : Env} {s : State} {m : MethodId} {args : Array Value} {below : List Frame} {meth : Method} {c : Code} {b L : Nat} {xs : Nat → Int32} {D : va_G} {adX adR : Nat → Nat} {dX dR : Nat → ClassId} {Q : State → Prop} {x3 : Int32} {Inv : St → St → Prop} (K : CL p s m args c b L xs D adX dX adR dR) (hB : MStps Inv) (h1 : vp_in (x3 + 1) L) (h2 : vp_in (x3 + 2) L) (h3 : vp_in (x3 + 3) L) (h4 : vp_in (x3 + 4) L) (h5 : vp_in (x3 + 5) L) (ih : ∀ σ τ, Inv σ τ → VL p l e s m args below meth c D adX dX adR dR Q 1430 [(0, .ref b), (1, .ref (adX 0)), (2, .ref (adR 0)), (3, .int x3)] [] σ τ) (σ τ : St) (hI : Inv σ τ) : VL p l e s m args below meth c D adX dX adR dR Q 697 [(0, .ref b), (1, .ref (adX 0)), (2, .ref (adR 0)), (3, .int x3)] [] σ τ := by
  obtain ⟨n, r, σ1, τ1, h1x, h2x, hI⟩ := hB.2.2.2.2.2.2.2.2.2.2.2.2.2.2.2.2.1 (xs (x3 + 1).toNatClampNeg) (xs (x3 + 2).toNatClampNeg) σ τ hI
  refine l_aload_n K dL_law_697 1 rfl ?_
  refine l_aload_n K dL_law_698 0 rfl ?_
  refine l_iload_n K dL_law_699 3 rfl ?_
  refine l_iconst (v := 1) K dL_law_700 (by decide) ?_
  refine l_iadd K dL_law_701 ?_
  refine l_sld K h1 dL_law_702 ?_
  refine l_aload_n K dL_law_703 0 rfl ?_
  refine l_iload_n K dL_law_704 3 rfl ?_
  refine l_iconst (v := 2) K dL_law_705 (by decide) ?_
  refine l_iadd K dL_law_706 ?_
  refine l_sld K h2 dL_law_707 ?_
  refine l_Xi (As := [.int (xs (x3 + 1).toNatClampNeg), .int (xs (x3 + 2).toNatClampNeg)]) (st := []) K uv_X11_quiet rfl qm_L_82 dL_law_708 (c_X11_quiet l n (xs (x3 + 1).toNatClampNeg) (xs (x3 + 2).toNatClampNeg) σ h1x) rfl ⟨Nat.le_of_ble_eq_true rfl, Nat.le_of_ble_eq_true rfl⟩ (Nat.le_of_ble_eq_true rfl) ?_
  refine l_aload_n K dL_law_711 2 rfl ?_
  refine l_aload_n K dL_law_712 0 rfl ?_
  refine l_iload_n K dL_law_713 3 rfl ?_
  refine l_iconst (v := 1) K dL_law_714 (by decide) ?_
  refine l_iadd K dL_law_715 ?_
  refine l_sld K h1 dL_law_716 ?_
  refine l_aload_n K dL_law_717 0 rfl ?_
  refine l_iload_n K dL_law_718 3 rfl ?_
  refine l_iconst (v := 2) K dL_law_719 (by decide) ?_
  refine l_iadd K dL_law_720 ?_
  refine l_sld K h2 dL_law_721 ?_
  refine l_Ri (As := [.int (xs (x3 + 1).toNatClampNeg), .int (xs (x3 + 2).toNatClampNeg)]) (st := [.int r]) K uv_X12_quiet rfl qm_L_85 dL_law_722 (c_X12_quiet l n (xs (x3 + 1).toNatClampNeg) (xs (x3 + 2).toNatClampNeg) τ h2x) rfl ⟨Nat.le_of_ble_eq_true rfl, Nat.le_of_ble_eq_true rfl⟩ (Nat.le_of_ble_eq_true rfl) ?_
  refine l_eqT (tgt := 1430) K dL_law_725 (by decide) rfl ?_
  exact ih σ1 τ1 hI
theorem lc_17 (l : Launch) {p : Program} {e : Env} {s : State} {m : MethodId} {args : Array Value} {below : List Frame} {meth : Method} {c : Code} {b L : Nat} {xs : Nat → Int32} {D : va_G} {adX adR : Nat → Nat} {dX dR : Nat → ClassId} {Q : State → Prop} {x3 : Int32} {Inv : St → St → Prop} (K : CL p s m args c b L xs D adX dX adR dR) (hB : MStps Inv) (h1 : vp_in (x3 + 1) L) (h2 : vp_in (x3 + 2) L) (h3 : vp_in (x3 + 3) L) (h4 : vp_in (x3 + 4) L) (h5 : vp_in (x3 + 5) L) (ih : ∀ σ τ, Inv σ τ → VL p l e s m args below meth c D adX dX adR dR Q 1430 [(0, .ref b), (1, .ref (adX 0)), (2, .ref (adR 0)), (3, .int x3)] [] σ τ) (σ τ : St) (hI : Inv σ τ) : VL p l e s m args below meth c D adX dX adR dR Q 730 [(0, .ref b), (1, .ref (adX 0)), (2, .ref (adR 0)), (3, .int x3)] [] σ τ := by
  obtain ⟨n, r, σ1, τ1, h1x, h2x, hI⟩ := hB.2.2.2.2.2.2.2.2.2.2.2.2.2.2.2.2.2.1 (xs (x3 + 1).toNatClampNeg) σ τ hI
  refine l_aload_n K dL_law_730 1 rfl ?_
  refine l_aload_n K dL_law_731 0 rfl ?_
  refine l_iload_n K dL_law_732 3 rfl ?_
  refine l_iconst (v := 1) K dL_law_733 (by decide) ?_
  refine l_iadd K dL_law_734 ?_
  refine l_sld K h1 dL_law_735 ?_
  refine l_Xi (As := [.int (xs (x3 + 1).toNatClampNeg)]) (st := []) K uv_X11_judge rfl qm_L_86 dL_law_736 (c_X11_judge l n (xs (x3 + 1).toNatClampNeg) σ h1x) rfl ⟨Nat.le_of_ble_eq_true rfl, Nat.le_of_ble_eq_true rfl⟩ (Nat.le_of_ble_eq_true rfl) ?_
  refine l_aload_n K dL_law_739 2 rfl ?_
  refine l_aload_n K dL_law_740 0 rfl ?_
  refine l_iload_n K dL_law_741 3 rfl ?_
  refine l_iconst (v := 1) K dL_law_742 (by decide) ?_
  refine l_iadd K dL_law_743 ?_
  refine l_sld K h1 dL_law_744 ?_
  refine l_Ri (As := [.int (xs (x3 + 1).toNatClampNeg)]) (st := [.int r]) K uv_X12_judge rfl qm_L_89 dL_law_745 (c_X12_judge l n (xs (x3 + 1).toNatClampNeg) τ h2x) rfl ⟨Nat.le_of_ble_eq_true rfl, Nat.le_of_ble_eq_true rfl⟩ (Nat.le_of_ble_eq_true rfl) ?_
  refine l_eqT (tgt := 1430) K dL_law_748 (by decide) rfl ?_
  exact ih σ1 τ1 hI
theorem lc_18 (l : Launch) {p : Program} {e : Env} {s : State} {m : MethodId} {args : Array Value} {below : List Frame} {meth : Method} {c : Code} {b L : Nat} {xs : Nat → Int32} {D : va_G} {adX adR : Nat → Nat} {dX dR : Nat → ClassId} {Q : State → Prop} {x3 : Int32} {Inv : St → St → Prop} (K : CL p s m args c b L xs D adX dX adR dR) (hB : MStps Inv) (h1 : vp_in (x3 + 1) L) (h2 : vp_in (x3 + 2) L) (h3 : vp_in (x3 + 3) L) (h4 : vp_in (x3 + 4) L) (h5 : vp_in (x3 + 5) L) (ih : ∀ σ τ, Inv σ τ → VL p l e s m args below meth c D adX dX adR dR Q 1430 [(0, .ref b), (1, .ref (adX 0)), (2, .ref (adR 0)), (3, .int x3)] [] σ τ) (σ τ : St) (hI : Inv σ τ) : VL p l e s m args below meth c D adX dX adR dR Q 753 [(0, .ref b), (1, .ref (adX 0)), (2, .ref (adR 0)), (3, .int x3)] [] σ τ := by
  obtain ⟨n, r, σ1, τ1, h1x, h2x, hI⟩ := hB.2.2.2.2.2.2.2.2.2.2.2.2.2.2.2.2.2.2.1 (xs (x3 + 1).toNatClampNeg) (xs (x3 + 2).toNatClampNeg) σ τ hI
  refine l_aload_n K dL_law_753 1 rfl ?_
  refine l_aload_n K dL_law_754 0 rfl ?_
  refine l_iload_n K dL_law_755 3 rfl ?_
  refine l_iconst (v := 1) K dL_law_756 (by decide) ?_
  refine l_iadd K dL_law_757 ?_
  refine l_sld K h1 dL_law_758 ?_
  refine l_aload_n K dL_law_759 0 rfl ?_
  refine l_iload_n K dL_law_760 3 rfl ?_
  refine l_iconst (v := 2) K dL_law_761 (by decide) ?_
  refine l_iadd K dL_law_762 ?_
  refine l_sld K h2 dL_law_763 ?_
  refine l_Xi (As := [.int (xs (x3 + 1).toNatClampNeg), .int (xs (x3 + 2).toNatClampNeg)]) (st := []) K uv_X11_roll rfl qm_L_90 dL_law_764 (c_X11_roll l n (xs (x3 + 1).toNatClampNeg) (xs (x3 + 2).toNatClampNeg) σ h1x) rfl ⟨Nat.le_of_ble_eq_true rfl, Nat.le_of_ble_eq_true rfl⟩ (Nat.le_of_ble_eq_true rfl) ?_
  refine l_aload_n K dL_law_767 2 rfl ?_
  refine l_aload_n K dL_law_768 0 rfl ?_
  refine l_iload_n K dL_law_769 3 rfl ?_
  refine l_iconst (v := 1) K dL_law_770 (by decide) ?_
  refine l_iadd K dL_law_771 ?_
  refine l_sld K h1 dL_law_772 ?_
  refine l_aload_n K dL_law_773 0 rfl ?_
  refine l_iload_n K dL_law_774 3 rfl ?_
  refine l_iconst (v := 2) K dL_law_775 (by decide) ?_
  refine l_iadd K dL_law_776 ?_
  refine l_sld K h2 dL_law_777 ?_
  refine l_Ri (As := [.int (xs (x3 + 1).toNatClampNeg), .int (xs (x3 + 2).toNatClampNeg)]) (st := [.int r]) K uv_X12_roll rfl qm_L_93 dL_law_778 (c_X12_roll l n (xs (x3 + 1).toNatClampNeg) (xs (x3 + 2).toNatClampNeg) τ h2x) rfl ⟨Nat.le_of_ble_eq_true rfl, Nat.le_of_ble_eq_true rfl⟩ (Nat.le_of_ble_eq_true rfl) ?_
  refine l_eqT (tgt := 1430) K dL_law_781 (by decide) rfl ?_
  exact ih σ1 τ1 hI
theorem lc_19 (l : Launch) {p : Program} {e : Env} {s : State} {m : MethodId} {args : Array Value} {below : List Frame} {meth : Method} {c : Code} {b L : Nat} {xs : Nat → Int32} {D : va_G} {adX adR : Nat → Nat} {dX dR : Nat → ClassId} {Q : State → Prop} {x3 : Int32} {Inv : St → St → Prop} (K : CL p s m args c b L xs D adX dX adR dR) (hB : MStps Inv) (h1 : vp_in (x3 + 1) L) (h2 : vp_in (x3 + 2) L) (h3 : vp_in (x3 + 3) L) (h4 : vp_in (x3 + 4) L) (h5 : vp_in (x3 + 5) L) (ih : ∀ σ τ, Inv σ τ → VL p l e s m args below meth c D adX dX adR dR Q 1430 [(0, .ref b), (1, .ref (adX 0)), (2, .ref (adR 0)), (3, .int x3)] [] σ τ) (σ τ : St) (hI : Inv σ τ) : VL p l e s m args below meth c D adX dX adR dR Q 786 [(0, .ref b), (1, .ref (adX 0)), (2, .ref (adR 0)), (3, .int x3)] [] σ τ := by
  obtain ⟨n, r, σ1, τ1, h1x, h2x, hI⟩ := hB.2.2.2.2.2.2.2.2.2.2.2.2.2.2.2.2.2.2.2.1 (xs (x3 + 1).toNatClampNeg) σ τ hI
  refine l_aload_n K dL_law_786 1 rfl ?_
  refine l_aload_n K dL_law_787 0 rfl ?_
  refine l_iload_n K dL_law_788 3 rfl ?_
  refine l_iconst (v := 1) K dL_law_789 (by decide) ?_
  refine l_iadd K dL_law_790 ?_
  refine l_sld K h1 dL_law_791 ?_
  refine l_Xi (As := [.int (xs (x3 + 1).toNatClampNeg)]) (st := []) K uv_X11_sold rfl qm_L_94 dL_law_792 (c_X11_sold l n (xs (x3 + 1).toNatClampNeg) σ h1x) rfl ⟨Nat.le_of_ble_eq_true rfl, Nat.le_of_ble_eq_true rfl⟩ (Nat.le_of_ble_eq_true rfl) ?_
  refine l_aload_n K dL_law_795 2 rfl ?_
  refine l_aload_n K dL_law_796 0 rfl ?_
  refine l_iload_n K dL_law_797 3 rfl ?_
  refine l_iconst (v := 1) K dL_law_798 (by decide) ?_
  refine l_iadd K dL_law_799 ?_
  refine l_sld K h1 dL_law_800 ?_
  refine l_Ri (As := [.int (xs (x3 + 1).toNatClampNeg)]) (st := [.int r]) K uv_X12_sold rfl qm_L_97 dL_law_801 (c_X12_sold l n (xs (x3 + 1).toNatClampNeg) τ h2x) rfl ⟨Nat.le_of_ble_eq_true rfl, Nat.le_of_ble_eq_true rfl⟩ (Nat.le_of_ble_eq_true rfl) ?_
  refine l_eqT (tgt := 1430) K dL_law_804 (by decide) rfl ?_
  exact ih σ1 τ1 hI
theorem lc_20 (l : Launch) {p : Program} {e : Env} {s : State} {m : MethodId} {args : Array Value} {below : List Frame} {meth : Method} {c : Code} {b L : Nat} {xs : Nat → Int32} {D : va_G} {adX adR : Nat → Nat} {dX dR : Nat → ClassId} {Q : State → Prop} {x3 : Int32} {Inv : St → St → Prop} (K : CL p s m args c b L xs D adX dX adR dR) (hB : MStps Inv) (h1 : vp_in (x3 + 1) L) (h2 : vp_in (x3 + 2) L) (h3 : vp_in (x3 + 3) L) (h4 : vp_in (x3 + 4) L) (h5 : vp_in (x3 + 5) L) (ih : ∀ σ τ, Inv σ τ → VL p l e s m args below meth c D adX dX adR dR Q 1430 [(0, .ref b), (1, .ref (adX 0)), (2, .ref (adR 0)), (3, .int x3)] [] σ τ) (σ τ : St) (hI : Inv σ τ) : VL p l e s m args below meth c D adX dX adR dR Q 809 [(0, .ref b), (1, .ref (adX 0)), (2, .ref (adR 0)), (3, .int x3)] [] σ τ := by
  obtain ⟨n, r, σ1, τ1, h1x, h2x, hI⟩ := hB.2.2.2.2.2.2.2.2.2.2.2.2.2.2.2.2.2.2.2.2.1 (xs (x3 + 1).toNatClampNeg) (xs (x3 + 2).toNatClampNeg) σ τ hI
  refine l_aload_n K dL_law_809 1 rfl ?_
  refine l_aload_n K dL_law_810 0 rfl ?_
  refine l_iload_n K dL_law_811 3 rfl ?_
  refine l_iconst (v := 1) K dL_law_812 (by decide) ?_
  refine l_iadd K dL_law_813 ?_
  refine l_sld K h1 dL_law_814 ?_
  refine l_aload_n K dL_law_815 0 rfl ?_
  refine l_iload_n K dL_law_816 3 rfl ?_
  refine l_iconst (v := 2) K dL_law_817 (by decide) ?_
  refine l_iadd K dL_law_818 ?_
  refine l_sld K h2 dL_law_819 ?_
  refine l_Xi (As := [.int (xs (x3 + 1).toNatClampNeg), .int (xs (x3 + 2).toNatClampNeg)]) (st := []) K uv_X11_friend rfl qm_L_98 dL_law_820 (c_X11_friend l n (xs (x3 + 1).toNatClampNeg) (xs (x3 + 2).toNatClampNeg) σ h1x) rfl ⟨Nat.le_of_ble_eq_true rfl, Nat.le_of_ble_eq_true rfl⟩ (Nat.le_of_ble_eq_true rfl) ?_
  refine l_aload_n K dL_law_823 2 rfl ?_
  refine l_aload_n K dL_law_824 0 rfl ?_
  refine l_iload_n K dL_law_825 3 rfl ?_
  refine l_iconst (v := 1) K dL_law_826 (by decide) ?_
  refine l_iadd K dL_law_827 ?_
  refine l_sld K h1 dL_law_828 ?_
  refine l_aload_n K dL_law_829 0 rfl ?_
  refine l_iload_n K dL_law_830 3 rfl ?_
  refine l_iconst (v := 2) K dL_law_831 (by decide) ?_
  refine l_iadd K dL_law_832 ?_
  refine l_sld K h2 dL_law_833 ?_
  refine l_Ri (As := [.int (xs (x3 + 1).toNatClampNeg), .int (xs (x3 + 2).toNatClampNeg)]) (st := [.int r]) K uv_X12_friend rfl qm_L_101 dL_law_834 (c_X12_friend l n (xs (x3 + 1).toNatClampNeg) (xs (x3 + 2).toNatClampNeg) τ h2x) rfl ⟨Nat.le_of_ble_eq_true rfl, Nat.le_of_ble_eq_true rfl⟩ (Nat.le_of_ble_eq_true rfl) ?_
  refine l_eqT (tgt := 1430) K dL_law_837 (by decide) rfl ?_
  exact ih σ1 τ1 hI
theorem lc_21 (l : Launch) {p : Program} {e : Env} {s : State} {m : MethodId} {args : Array Value} {below : List Frame} {meth : Method} {c : Code} {b L : Nat} {xs : Nat → Int32} {D : va_G} {adX adR : Nat → Nat} {dX dR : Nat → ClassId} {Q : State → Prop} {x3 : Int32} {Inv : St → St → Prop} (K : CL p s m args c b L xs D adX dX adR dR) (hB : MStps Inv) (h1 : vp_in (x3 + 1) L) (h2 : vp_in (x3 + 2) L) (h3 : vp_in (x3 + 3) L) (h4 : vp_in (x3 + 4) L) (h5 : vp_in (x3 + 5) L) (ih : ∀ σ τ, Inv σ τ → VL p l e s m args below meth c D adX dX adR dR Q 1430 [(0, .ref b), (1, .ref (adX 0)), (2, .ref (adR 0)), (3, .int x3)] [] σ τ) (σ τ : St) (hI : Inv σ τ) : VL p l e s m args below meth c D adX dX adR dR Q 842 [(0, .ref b), (1, .ref (adX 0)), (2, .ref (adR 0)), (3, .int x3)] [] σ τ := by
  obtain ⟨n, r, σ1, τ1, h1x, h2x, hI⟩ := hB.2.2.2.2.2.2.2.2.2.2.2.2.2.2.2.2.2.2.2.2.2.1 (xs (x3 + 1).toNatClampNeg) (xs (x3 + 2).toNatClampNeg) (xs (x3 + 3).toNatClampNeg) (xs (x3 + 4).toNatClampNeg) σ τ hI
  refine l_aload_n K dL_law_842 1 rfl ?_
  refine l_aload_n K dL_law_843 0 rfl ?_
  refine l_iload_n K dL_law_844 3 rfl ?_
  refine l_iconst (v := 1) K dL_law_845 (by decide) ?_
  refine l_iadd K dL_law_846 ?_
  refine l_sld K h1 dL_law_847 ?_
  refine l_aload_n K dL_law_848 0 rfl ?_
  refine l_iload_n K dL_law_849 3 rfl ?_
  refine l_iconst (v := 2) K dL_law_850 (by decide) ?_
  refine l_iadd K dL_law_851 ?_
  refine l_sld K h2 dL_law_852 ?_
  refine l_aload_n K dL_law_853 0 rfl ?_
  refine l_iload_n K dL_law_854 3 rfl ?_
  refine l_iconst (v := 3) K dL_law_855 (by decide) ?_
  refine l_iadd K dL_law_856 ?_
  refine l_sld K h3 dL_law_857 ?_
  refine l_aload_n K dL_law_858 0 rfl ?_
  refine l_iload_n K dL_law_859 3 rfl ?_
  refine l_iconst (v := 4) K dL_law_860 (by decide) ?_
  refine l_iadd K dL_law_861 ?_
  refine l_sld K h4 dL_law_862 ?_
  refine l_Xi (As := [.int (xs (x3 + 1).toNatClampNeg), .int (xs (x3 + 2).toNatClampNeg), .int (xs (x3 + 3).toNatClampNeg), .int (xs (x3 + 4).toNatClampNeg)]) (st := []) K uv_X11_drawn rfl qm_L_102 dL_law_863 (c_X11_drawn l n (xs (x3 + 1).toNatClampNeg) (xs (x3 + 2).toNatClampNeg) (xs (x3 + 3).toNatClampNeg) (xs (x3 + 4).toNatClampNeg) σ h1x) rfl ⟨Nat.le_of_ble_eq_true rfl, Nat.le_of_ble_eq_true rfl⟩ (Nat.le_of_ble_eq_true rfl) ?_
  refine l_aload_n K dL_law_866 2 rfl ?_
  refine l_aload_n K dL_law_867 0 rfl ?_
  refine l_iload_n K dL_law_868 3 rfl ?_
  refine l_iconst (v := 1) K dL_law_869 (by decide) ?_
  refine l_iadd K dL_law_870 ?_
  refine l_sld K h1 dL_law_871 ?_
  refine l_aload_n K dL_law_872 0 rfl ?_
  refine l_iload_n K dL_law_873 3 rfl ?_
  refine l_iconst (v := 2) K dL_law_874 (by decide) ?_
  refine l_iadd K dL_law_875 ?_
  refine l_sld K h2 dL_law_876 ?_
  refine l_aload_n K dL_law_877 0 rfl ?_
  refine l_iload_n K dL_law_878 3 rfl ?_
  refine l_iconst (v := 3) K dL_law_879 (by decide) ?_
  refine l_iadd K dL_law_880 ?_
  refine l_sld K h3 dL_law_881 ?_
  refine l_aload_n K dL_law_882 0 rfl ?_
  refine l_iload_n K dL_law_883 3 rfl ?_
  refine l_iconst (v := 4) K dL_law_884 (by decide) ?_
  refine l_iadd K dL_law_885 ?_
  refine l_sld K h4 dL_law_886 ?_
  refine l_Ri (As := [.int (xs (x3 + 1).toNatClampNeg), .int (xs (x3 + 2).toNatClampNeg), .int (xs (x3 + 3).toNatClampNeg), .int (xs (x3 + 4).toNatClampNeg)]) (st := [.int r]) K uv_X12_drawn rfl qm_L_106 dL_law_887 (c_X12_drawn l n (xs (x3 + 1).toNatClampNeg) (xs (x3 + 2).toNatClampNeg) (xs (x3 + 3).toNatClampNeg) (xs (x3 + 4).toNatClampNeg) τ h2x) rfl ⟨Nat.le_of_ble_eq_true rfl, Nat.le_of_ble_eq_true rfl⟩ (Nat.le_of_ble_eq_true rfl) ?_
  refine l_eqT (tgt := 1430) K dL_law_890 (by decide) rfl ?_
  exact ih σ1 τ1 hI
theorem lc_22 (l : Launch) {p : Program} {e : Env} {s : State} {m : MethodId} {args : Array Value} {below : List Frame} {meth : Method} {c : Code} {b L : Nat} {xs : Nat → Int32} {D : va_G} {adX adR : Nat → Nat} {dX dR : Nat → ClassId} {Q : State → Prop} {x3 : Int32} {Inv : St → St → Prop} (K : CL p s m args c b L xs D adX dX adR dR) (hB : MStps Inv) (h1 : vp_in (x3 + 1) L) (h2 : vp_in (x3 + 2) L) (h3 : vp_in (x3 + 3) L) (h4 : vp_in (x3 + 4) L) (h5 : vp_in (x3 + 5) L) (ih : ∀ σ τ, Inv σ τ → VL p l e s m args below meth c D adX dX adR dR Q 1430 [(0, .ref b), (1, .ref (adX 0)), (2, .ref (adR 0)), (3, .int x3)] [] σ τ) (σ τ : St) (hI : Inv σ τ) : VL p l e s m args below meth c D adX dX adR dR Q 895 [(0, .ref b), (1, .ref (adX 0)), (2, .ref (adR 0)), (3, .int x3)] [] σ τ := by
  obtain ⟨n, r, σ1, τ1, h1x, h2x, hI⟩ := hB.2.2.2.2.2.2.2.2.2.2.2.2.2.2.2.2.2.2.2.2.2.2.1 (xs (x3 + 1).toNatClampNeg) (xs (x3 + 2).toNatClampNeg) σ τ hI
  refine l_aload_n K dL_law_895 1 rfl ?_
  refine l_aload_n K dL_law_896 0 rfl ?_
  refine l_iload_n K dL_law_897 3 rfl ?_
  refine l_iconst (v := 1) K dL_law_898 (by decide) ?_
  refine l_iadd K dL_law_899 ?_
  refine l_sld K h1 dL_law_900 ?_
  refine l_aload_n K dL_law_901 0 rfl ?_
  refine l_iload_n K dL_law_902 3 rfl ?_
  refine l_iconst (v := 2) K dL_law_903 (by decide) ?_
  refine l_iadd K dL_law_904 ?_
  refine l_sld K h2 dL_law_905 ?_
  refine l_Xi (As := [.int (xs (x3 + 1).toNatClampNeg), .int (xs (x3 + 2).toNatClampNeg)]) (st := []) K uv_X11_hold rfl qm_L_107 dL_law_906 (c_X11_hold l n (xs (x3 + 1).toNatClampNeg) (xs (x3 + 2).toNatClampNeg) σ h1x) rfl ⟨Nat.le_of_ble_eq_true rfl, Nat.le_of_ble_eq_true rfl⟩ (Nat.le_of_ble_eq_true rfl) ?_
  refine l_aload_n K dL_law_909 2 rfl ?_
  refine l_aload_n K dL_law_910 0 rfl ?_
  refine l_iload_n K dL_law_911 3 rfl ?_
  refine l_iconst (v := 1) K dL_law_912 (by decide) ?_
  refine l_iadd K dL_law_913 ?_
  refine l_sld K h1 dL_law_914 ?_
  refine l_aload_n K dL_law_915 0 rfl ?_
  refine l_iload_n K dL_law_916 3 rfl ?_
  refine l_iconst (v := 2) K dL_law_917 (by decide) ?_
  refine l_iadd K dL_law_918 ?_
  refine l_sld K h2 dL_law_919 ?_
  refine l_Ri (As := [.int (xs (x3 + 1).toNatClampNeg), .int (xs (x3 + 2).toNatClampNeg)]) (st := [.int r]) K uv_X12_hold rfl qm_L_110 dL_law_920 (c_X12_hold l n (xs (x3 + 1).toNatClampNeg) (xs (x3 + 2).toNatClampNeg) τ h2x) rfl ⟨Nat.le_of_ble_eq_true rfl, Nat.le_of_ble_eq_true rfl⟩ (Nat.le_of_ble_eq_true rfl) ?_
  refine l_eqT (tgt := 1430) K dL_law_923 (by decide) rfl ?_
  exact ih σ1 τ1 hI
theorem lc_23 (l : Launch) {p : Program} {e : Env} {s : State} {m : MethodId} {args : Array Value} {below : List Frame} {meth : Method} {c : Code} {b L : Nat} {xs : Nat → Int32} {D : va_G} {adX adR : Nat → Nat} {dX dR : Nat → ClassId} {Q : State → Prop} {x3 : Int32} {Inv : St → St → Prop} (K : CL p s m args c b L xs D adX dX adR dR) (hB : MStps Inv) (h1 : vp_in (x3 + 1) L) (h2 : vp_in (x3 + 2) L) (h3 : vp_in (x3 + 3) L) (h4 : vp_in (x3 + 4) L) (h5 : vp_in (x3 + 5) L) (ih : ∀ σ τ, Inv σ τ → VL p l e s m args below meth c D adX dX adR dR Q 1430 [(0, .ref b), (1, .ref (adX 0)), (2, .ref (adR 0)), (3, .int x3)] [] σ τ) (σ τ : St) (hI : Inv σ τ) : VL p l e s m args below meth c D adX dX adR dR Q 928 [(0, .ref b), (1, .ref (adX 0)), (2, .ref (adR 0)), (3, .int x3)] [] σ τ := by
  obtain ⟨n, r, σ1, τ1, h1x, h2x, hI⟩ := hB.2.2.2.2.2.2.2.2.2.2.2.2.2.2.2.2.2.2.2.2.2.2.2.1 (xs (x3 + 1).toNatClampNeg) σ τ hI
  refine l_aload_n K dL_law_928 1 rfl ?_
  refine l_aload_n K dL_law_929 0 rfl ?_
  refine l_iload_n K dL_law_930 3 rfl ?_
  refine l_iconst (v := 1) K dL_law_931 (by decide) ?_
  refine l_iadd K dL_law_932 ?_
  refine l_sld K h1 dL_law_933 ?_
  refine l_Xi (As := [.int (xs (x3 + 1).toNatClampNeg)]) (st := []) K uv_X11_release rfl qm_L_111 dL_law_934 (c_X11_release l n (xs (x3 + 1).toNatClampNeg) σ h1x) rfl ⟨Nat.le_of_ble_eq_true rfl, Nat.le_of_ble_eq_true rfl⟩ (Nat.le_of_ble_eq_true rfl) ?_
  refine l_aload_n K dL_law_937 2 rfl ?_
  refine l_aload_n K dL_law_938 0 rfl ?_
  refine l_iload_n K dL_law_939 3 rfl ?_
  refine l_iconst (v := 1) K dL_law_940 (by decide) ?_
  refine l_iadd K dL_law_941 ?_
  refine l_sld K h1 dL_law_942 ?_
  refine l_Ri (As := [.int (xs (x3 + 1).toNatClampNeg)]) (st := [.int r]) K uv_X12_release rfl qm_L_114 dL_law_943 (c_X12_release l n (xs (x3 + 1).toNatClampNeg) τ h2x) rfl ⟨Nat.le_of_ble_eq_true rfl, Nat.le_of_ble_eq_true rfl⟩ (Nat.le_of_ble_eq_true rfl) ?_
  refine l_eqT (tgt := 1430) K dL_law_946 (by decide) rfl ?_
  exact ih σ1 τ1 hI
theorem lc_24 (l : Launch) {p : Program} {e : Env} {s : State} {m : MethodId} {args : Array Value} {below : List Frame} {meth : Method} {c : Code} {b L : Nat} {xs : Nat → Int32} {D : va_G} {adX adR : Nat → Nat} {dX dR : Nat → ClassId} {Q : State → Prop} {x3 : Int32} {Inv : St → St → Prop} (K : CL p s m args c b L xs D adX dX adR dR) (hB : MStps Inv) (h1 : vp_in (x3 + 1) L) (h2 : vp_in (x3 + 2) L) (h3 : vp_in (x3 + 3) L) (h4 : vp_in (x3 + 4) L) (h5 : vp_in (x3 + 5) L) (ih : ∀ σ τ, Inv σ τ → VL p l e s m args below meth c D adX dX adR dR Q 1430 [(0, .ref b), (1, .ref (adX 0)), (2, .ref (adR 0)), (3, .int x3)] [] σ τ) (σ τ : St) (hI : Inv σ τ) : VL p l e s m args below meth c D adX dX adR dR Q 951 [(0, .ref b), (1, .ref (adX 0)), (2, .ref (adR 0)), (3, .int x3)] [] σ τ := by
  obtain ⟨n, r, σ1, τ1, h1x, h2x, hI⟩ := hB.2.2.2.2.2.2.2.2.2.2.2.2.2.2.2.2.2.2.2.2.2.2.2.2.1  σ τ hI
  refine l_aload_n K dL_law_951 1 rfl ?_
  refine l_Xi (As := []) (st := []) K uv_X11_year rfl qm_L_115 dL_law_952 (c_X11_year l n  σ h1x) rfl ⟨Nat.le_of_ble_eq_true rfl, Nat.le_of_ble_eq_true rfl⟩ (Nat.le_of_ble_eq_true rfl) ?_
  refine l_aload_n K dL_law_955 2 rfl ?_
  refine l_Ri (As := []) (st := [.int r]) K uv_X12_year rfl qm_L_118 dL_law_956 (c_X12_year l n  τ h2x) rfl ⟨Nat.le_of_ble_eq_true rfl, Nat.le_of_ble_eq_true rfl⟩ (Nat.le_of_ble_eq_true rfl) ?_
  refine l_eqT (tgt := 1430) K dL_law_959 (by decide) rfl ?_
  exact ih σ1 τ1 hI
theorem lc_25 (l : Launch) {p : Program} {e : Env} {s : State} {m : MethodId} {args : Array Value} {below : List Frame} {meth : Method} {c : Code} {b L : Nat} {xs : Nat → Int32} {D : va_G} {adX adR : Nat → Nat} {dX dR : Nat → ClassId} {Q : State → Prop} {x3 : Int32} {Inv : St → St → Prop} (K : CL p s m args c b L xs D adX dX adR dR) (hB : MStps Inv) (h1 : vp_in (x3 + 1) L) (h2 : vp_in (x3 + 2) L) (h3 : vp_in (x3 + 3) L) (h4 : vp_in (x3 + 4) L) (h5 : vp_in (x3 + 5) L) (ih : ∀ σ τ, Inv σ τ → VL p l e s m args below meth c D adX dX adR dR Q 1430 [(0, .ref b), (1, .ref (adX 0)), (2, .ref (adR 0)), (3, .int x3)] [] σ τ) (σ τ : St) (hI : Inv σ τ) : VL p l e s m args below meth c D adX dX adR dR Q 964 [(0, .ref b), (1, .ref (adX 0)), (2, .ref (adR 0)), (3, .int x3)] [] σ τ := by
  obtain ⟨n, r, σ1, τ1, h1x, h2x, hI⟩ := hB.2.2.2.2.2.2.2.2.2.2.2.2.2.2.2.2.2.2.2.2.2.2.2.2.2.1 (xs (x3 + 1).toNatClampNeg) σ τ hI
  refine l_aload_n K dL_law_964 1 rfl ?_
  refine l_aload_n K dL_law_965 0 rfl ?_
  refine l_iload_n K dL_law_966 3 rfl ?_
  refine l_iconst (v := 1) K dL_law_967 (by decide) ?_
  refine l_iadd K dL_law_968 ?_
  refine l_sld K h1 dL_law_969 ?_
  refine l_Xi (As := [.int (xs (x3 + 1).toNatClampNeg)]) (st := []) K uv_X11_led rfl qm_L_119 dL_law_970 (c_X11_led l n (xs (x3 + 1).toNatClampNeg) σ h1x) rfl ⟨Nat.le_of_ble_eq_true rfl, Nat.le_of_ble_eq_true rfl⟩ (Nat.le_of_ble_eq_true rfl) ?_
  refine l_aload_n K dL_law_973 2 rfl ?_
  refine l_aload_n K dL_law_974 0 rfl ?_
  refine l_iload_n K dL_law_975 3 rfl ?_
  refine l_iconst (v := 1) K dL_law_976 (by decide) ?_
  refine l_iadd K dL_law_977 ?_
  refine l_sld K h1 dL_law_978 ?_
  refine l_Ri (As := [.int (xs (x3 + 1).toNatClampNeg)]) (st := [.int r]) K uv_X12_led rfl qm_L_122 dL_law_979 (c_X12_led l n (xs (x3 + 1).toNatClampNeg) τ h2x) rfl ⟨Nat.le_of_ble_eq_true rfl, Nat.le_of_ble_eq_true rfl⟩ (Nat.le_of_ble_eq_true rfl) ?_
  refine l_eqT (tgt := 1430) K dL_law_982 (by decide) rfl ?_
  exact ih σ1 τ1 hI
theorem lc_26 (l : Launch) {p : Program} {e : Env} {s : State} {m : MethodId} {args : Array Value} {below : List Frame} {meth : Method} {c : Code} {b L : Nat} {xs : Nat → Int32} {D : va_G} {adX adR : Nat → Nat} {dX dR : Nat → ClassId} {Q : State → Prop} {x3 : Int32} {Inv : St → St → Prop} (K : CL p s m args c b L xs D adX dX adR dR) (hB : MStps Inv) (h1 : vp_in (x3 + 1) L) (h2 : vp_in (x3 + 2) L) (h3 : vp_in (x3 + 3) L) (h4 : vp_in (x3 + 4) L) (h5 : vp_in (x3 + 5) L) (ih : ∀ σ τ, Inv σ τ → VL p l e s m args below meth c D adX dX adR dR Q 1430 [(0, .ref b), (1, .ref (adX 0)), (2, .ref (adR 0)), (3, .int x3)] [] σ τ) (σ τ : St) (hI : Inv σ τ) : VL p l e s m args below meth c D adX dX adR dR Q 987 [(0, .ref b), (1, .ref (adX 0)), (2, .ref (adR 0)), (3, .int x3)] [] σ τ := by
  obtain ⟨n, r, σ1, τ1, h1x, h2x, hI⟩ := hB.2.2.2.2.2.2.2.2.2.2.2.2.2.2.2.2.2.2.2.2.2.2.2.2.2.2.1  σ τ hI
  refine l_aload_n K dL_law_987 1 rfl ?_
  refine l_Xi (As := []) (st := []) K uv_X11_image rfl qm_L_123 dL_law_988 (c_X11_image l n  σ h1x) rfl ⟨Nat.le_of_ble_eq_true rfl, Nat.le_of_ble_eq_true rfl⟩ (Nat.le_of_ble_eq_true rfl) ?_
  refine l_aload_n K dL_law_991 2 rfl ?_
  refine l_Ri (As := []) (st := [.int r]) K uv_X12_image rfl qm_L_126 dL_law_992 (c_X12_image l n  τ h2x) rfl ⟨Nat.le_of_ble_eq_true rfl, Nat.le_of_ble_eq_true rfl⟩ (Nat.le_of_ble_eq_true rfl) ?_
  refine l_eqT (tgt := 1430) K dL_law_995 (by decide) rfl ?_
  exact ih σ1 τ1 hI
theorem lc_27 (l : Launch) {p : Program} {e : Env} {s : State} {m : MethodId} {args : Array Value} {below : List Frame} {meth : Method} {c : Code} {b L : Nat} {xs : Nat → Int32} {D : va_G} {adX adR : Nat → Nat} {dX dR : Nat → ClassId} {Q : State → Prop} {x3 : Int32} {Inv : St → St → Prop} (K : CL p s m args c b L xs D adX dX adR dR) (hB : MStps Inv) (h1 : vp_in (x3 + 1) L) (h2 : vp_in (x3 + 2) L) (h3 : vp_in (x3 + 3) L) (h4 : vp_in (x3 + 4) L) (h5 : vp_in (x3 + 5) L) (ih : ∀ σ τ, Inv σ τ → VL p l e s m args below meth c D adX dX adR dR Q 1430 [(0, .ref b), (1, .ref (adX 0)), (2, .ref (adR 0)), (3, .int x3)] [] σ τ) (σ τ : St) (hI : Inv σ τ) : VL p l e s m args below meth c D adX dX adR dR Q 1000 [(0, .ref b), (1, .ref (adX 0)), (2, .ref (adR 0)), (3, .int x3)] [] σ τ := by
  obtain ⟨n, r, σ1, τ1, h1x, h2x, hI⟩ := hB.2.2.2.2.2.2.2.2.2.2.2.2.2.2.2.2.2.2.2.2.2.2.2.2.2.2.2.1  σ τ hI
  refine l_aload_n K dL_law_1000 1 rfl ?_
  refine l_Xi (As := []) (st := []) K uv_X11_back rfl qm_L_127 dL_law_1001 (c_X11_back l n  σ h1x) rfl ⟨Nat.le_of_ble_eq_true rfl, Nat.le_of_ble_eq_true rfl⟩ (Nat.le_of_ble_eq_true rfl) ?_
  refine l_aload_n K dL_law_1004 2 rfl ?_
  refine l_Ri (As := []) (st := [.int r]) K uv_X12_back rfl qm_L_130 dL_law_1005 (c_X12_back l n  τ h2x) rfl ⟨Nat.le_of_ble_eq_true rfl, Nat.le_of_ble_eq_true rfl⟩ (Nat.le_of_ble_eq_true rfl) ?_
  refine l_eqT (tgt := 1430) K dL_law_1008 (by decide) rfl ?_
  exact ih σ1 τ1 hI
theorem lc_28 (l : Launch) {p : Program} {e : Env} {s : State} {m : MethodId} {args : Array Value} {below : List Frame} {meth : Method} {c : Code} {b L : Nat} {xs : Nat → Int32} {D : va_G} {adX adR : Nat → Nat} {dX dR : Nat → ClassId} {Q : State → Prop} {x3 : Int32} {Inv : St → St → Prop} (K : CL p s m args c b L xs D adX dX adR dR) (hB : MStps Inv) (h1 : vp_in (x3 + 1) L) (h2 : vp_in (x3 + 2) L) (h3 : vp_in (x3 + 3) L) (h4 : vp_in (x3 + 4) L) (h5 : vp_in (x3 + 5) L) (ih : ∀ σ τ, Inv σ τ → VL p l e s m args below meth c D adX dX adR dR Q 1430 [(0, .ref b), (1, .ref (adX 0)), (2, .ref (adR 0)), (3, .int x3)] [] σ τ) (σ τ : St) (hI : Inv σ τ) : VL p l e s m args below meth c D adX dX adR dR Q 1013 [(0, .ref b), (1, .ref (adX 0)), (2, .ref (adR 0)), (3, .int x3)] [] σ τ := by
  obtain ⟨n, r, σ1, τ1, h1x, h2x, hI⟩ := hB.2.2.2.2.2.2.2.2.2.2.2.2.2.2.2.2.2.2.2.2.2.2.2.2.2.2.2.2.1  σ τ hI
  refine l_aload_n K dL_law_1013 1 rfl ?_
  refine l_Xi (As := []) (st := []) K uv_X11_undo rfl qm_L_131 dL_law_1014 (c_X11_undo l n  σ h1x) rfl ⟨Nat.le_of_ble_eq_true rfl, Nat.le_of_ble_eq_true rfl⟩ (Nat.le_of_ble_eq_true rfl) ?_
  refine l_aload_n K dL_law_1017 2 rfl ?_
  refine l_Ri (As := []) (st := [.int r]) K uv_X12_undo rfl qm_L_134 dL_law_1018 (c_X12_undo l n  τ h2x) rfl ⟨Nat.le_of_ble_eq_true rfl, Nat.le_of_ble_eq_true rfl⟩ (Nat.le_of_ble_eq_true rfl) ?_
  refine l_eqT (tgt := 1430) K dL_law_1021 (by decide) rfl ?_
  exact ih σ1 τ1 hI
theorem lc_29 (l : Launch) {p : Program} {e : Env} {s : State} {m : MethodId} {args : Array Value} {below : List Frame} {meth : Method} {c : Code} {b L : Nat} {xs : Nat → Int32} {D : va_G} {adX adR : Nat → Nat} {dX dR : Nat → ClassId} {Q : State → Prop} {x3 : Int32} {Inv : St → St → Prop} (K : CL p s m args c b L xs D adX dX adR dR) (hB : MStps Inv) (h1 : vp_in (x3 + 1) L) (h2 : vp_in (x3 + 2) L) (h3 : vp_in (x3 + 3) L) (h4 : vp_in (x3 + 4) L) (h5 : vp_in (x3 + 5) L) (ih : ∀ σ τ, Inv σ τ → VL p l e s m args below meth c D adX dX adR dR Q 1430 [(0, .ref b), (1, .ref (adX 0)), (2, .ref (adR 0)), (3, .int x3)] [] σ τ) (σ τ : St) (hI : Inv σ τ) : VL p l e s m args below meth c D adX dX adR dR Q 1026 [(0, .ref b), (1, .ref (adX 0)), (2, .ref (adR 0)), (3, .int x3)] [] σ τ := by
  obtain ⟨n, r, σ1, τ1, h1x, h2x, hI⟩ := hB.2.2.2.2.2.2.2.2.2.2.2.2.2.2.2.2.2.2.2.2.2.2.2.2.2.2.2.2.2.1  σ τ hI
  refine l_aload_n K dL_law_1026 1 rfl ?_
  refine l_Xi (As := []) (st := []) K uv_X11_redo rfl qm_L_135 dL_law_1027 (c_X11_redo l n  σ h1x) rfl ⟨Nat.le_of_ble_eq_true rfl, Nat.le_of_ble_eq_true rfl⟩ (Nat.le_of_ble_eq_true rfl) ?_
  refine l_aload_n K dL_law_1030 2 rfl ?_
  refine l_Ri (As := []) (st := [.int r]) K uv_X12_redo rfl qm_L_138 dL_law_1031 (c_X12_redo l n  τ h2x) rfl ⟨Nat.le_of_ble_eq_true rfl, Nat.le_of_ble_eq_true rfl⟩ (Nat.le_of_ble_eq_true rfl) ?_
  refine l_eqT (tgt := 1430) K dL_law_1034 (by decide) rfl ?_
  exact ih σ1 τ1 hI
theorem lc_30 (l : Launch) {p : Program} {e : Env} {s : State} {m : MethodId} {args : Array Value} {below : List Frame} {meth : Method} {c : Code} {b L : Nat} {xs : Nat → Int32} {D : va_G} {adX adR : Nat → Nat} {dX dR : Nat → ClassId} {Q : State → Prop} {x3 : Int32} {Inv : St → St → Prop} (K : CL p s m args c b L xs D adX dX adR dR) (hB : MStps Inv) (h1 : vp_in (x3 + 1) L) (h2 : vp_in (x3 + 2) L) (h3 : vp_in (x3 + 3) L) (h4 : vp_in (x3 + 4) L) (h5 : vp_in (x3 + 5) L) (ih : ∀ σ τ, Inv σ τ → VL p l e s m args below meth c D adX dX adR dR Q 1430 [(0, .ref b), (1, .ref (adX 0)), (2, .ref (adR 0)), (3, .int x3)] [] σ τ) (σ τ : St) (hI : Inv σ τ) : VL p l e s m args below meth c D adX dX adR dR Q 1039 [(0, .ref b), (1, .ref (adX 0)), (2, .ref (adR 0)), (3, .int x3)] [] σ τ := by
  obtain ⟨n, r, σ1, τ1, h1x, h2x, hI⟩ := hB.2.2.2.2.2.2.2.2.2.2.2.2.2.2.2.2.2.2.2.2.2.2.2.2.2.2.2.2.2.2.1 (xs (x3 + 1).toNatClampNeg) σ τ hI
  refine l_aload_n K dL_law_1039 1 rfl ?_
  refine l_aload_n K dL_law_1040 0 rfl ?_
  refine l_iload_n K dL_law_1041 3 rfl ?_
  refine l_iconst (v := 1) K dL_law_1042 (by decide) ?_
  refine l_iadd K dL_law_1043 ?_
  refine l_sld K h1 dL_law_1044 ?_
  refine l_Xi (As := [.int (xs (x3 + 1).toNatClampNeg)]) (st := []) K uv_X11_body rfl qm_L_139 dL_law_1045 (c_X11_body l n (xs (x3 + 1).toNatClampNeg) σ h1x) rfl ⟨Nat.le_of_ble_eq_true rfl, Nat.le_of_ble_eq_true rfl⟩ (Nat.le_of_ble_eq_true rfl) ?_
  refine l_aload_n K dL_law_1048 2 rfl ?_
  refine l_aload_n K dL_law_1049 0 rfl ?_
  refine l_iload_n K dL_law_1050 3 rfl ?_
  refine l_iconst (v := 1) K dL_law_1051 (by decide) ?_
  refine l_iadd K dL_law_1052 ?_
  refine l_sld K h1 dL_law_1053 ?_
  refine l_Ri (As := [.int (xs (x3 + 1).toNatClampNeg)]) (st := [.int r]) K uv_X12_body rfl qm_L_142 dL_law_1054 (c_X12_body l n (xs (x3 + 1).toNatClampNeg) τ h2x) rfl ⟨Nat.le_of_ble_eq_true rfl, Nat.le_of_ble_eq_true rfl⟩ (Nat.le_of_ble_eq_true rfl) ?_
  refine l_eqT (tgt := 1430) K dL_law_1057 (by decide) rfl ?_
  exact ih σ1 τ1 hI
theorem lc_31 (l : Launch) {p : Program} {e : Env} {s : State} {m : MethodId} {args : Array Value} {below : List Frame} {meth : Method} {c : Code} {b L : Nat} {xs : Nat → Int32} {D : va_G} {adX adR : Nat → Nat} {dX dR : Nat → ClassId} {Q : State → Prop} {x3 : Int32} {Inv : St → St → Prop} (K : CL p s m args c b L xs D adX dX adR dR) (hB : MStps Inv) (h1 : vp_in (x3 + 1) L) (h2 : vp_in (x3 + 2) L) (h3 : vp_in (x3 + 3) L) (h4 : vp_in (x3 + 4) L) (h5 : vp_in (x3 + 5) L) (ih : ∀ σ τ, Inv σ τ → VL p l e s m args below meth c D adX dX adR dR Q 1430 [(0, .ref b), (1, .ref (adX 0)), (2, .ref (adR 0)), (3, .int x3)] [] σ τ) (σ τ : St) (hI : Inv σ τ) : VL p l e s m args below meth c D adX dX adR dR Q 1062 [(0, .ref b), (1, .ref (adX 0)), (2, .ref (adR 0)), (3, .int x3)] [] σ τ := by
  obtain ⟨n, r, σ1, τ1, h1x, h2x, hI⟩ := hB.2.2.2.2.2.2.2.2.2.2.2.2.2.2.2.2.2.2.2.2.2.2.2.2.2.2.2.2.2.2.2.1 (xs (x3 + 1).toNatClampNeg) (xs (x3 + 2).toNatClampNeg) (xs (x3 + 3).toNatClampNeg) σ τ hI
  refine l_aload_n K dL_law_1062 1 rfl ?_
  refine l_aload_n K dL_law_1063 0 rfl ?_
  refine l_iload_n K dL_law_1064 3 rfl ?_
  refine l_iconst (v := 1) K dL_law_1065 (by decide) ?_
  refine l_iadd K dL_law_1066 ?_
  refine l_sld K h1 dL_law_1067 ?_
  refine l_aload_n K dL_law_1068 0 rfl ?_
  refine l_iload_n K dL_law_1069 3 rfl ?_
  refine l_iconst (v := 2) K dL_law_1070 (by decide) ?_
  refine l_iadd K dL_law_1071 ?_
  refine l_sld K h2 dL_law_1072 ?_
  refine l_aload_n K dL_law_1073 0 rfl ?_
  refine l_iload_n K dL_law_1074 3 rfl ?_
  refine l_iconst (v := 3) K dL_law_1075 (by decide) ?_
  refine l_iadd K dL_law_1076 ?_
  refine l_sld K h3 dL_law_1077 ?_
  refine l_Xi (As := [.int (xs (x3 + 1).toNatClampNeg), .int (xs (x3 + 2).toNatClampNeg), .int (xs (x3 + 3).toNatClampNeg)]) (st := []) K uv_X11_act rfl qm_L_143 dL_law_1078 (c_X11_act l n (xs (x3 + 1).toNatClampNeg) (xs (x3 + 2).toNatClampNeg) (xs (x3 + 3).toNatClampNeg) σ h1x) rfl ⟨Nat.le_of_ble_eq_true rfl, Nat.le_of_ble_eq_true rfl⟩ (Nat.le_of_ble_eq_true rfl) ?_
  refine l_aload_n K dL_law_1081 2 rfl ?_
  refine l_aload_n K dL_law_1082 0 rfl ?_
  refine l_iload_n K dL_law_1083 3 rfl ?_
  refine l_iconst (v := 1) K dL_law_1084 (by decide) ?_
  refine l_iadd K dL_law_1085 ?_
  refine l_sld K h1 dL_law_1086 ?_
  refine l_aload_n K dL_law_1087 0 rfl ?_
  refine l_iload_n K dL_law_1088 3 rfl ?_
  refine l_iconst (v := 2) K dL_law_1089 (by decide) ?_
  refine l_iadd K dL_law_1090 ?_
  refine l_sld K h2 dL_law_1091 ?_
  refine l_aload_n K dL_law_1092 0 rfl ?_
  refine l_iload_n K dL_law_1093 3 rfl ?_
  refine l_iconst (v := 3) K dL_law_1094 (by decide) ?_
  refine l_iadd K dL_law_1095 ?_
  refine l_sld K h3 dL_law_1096 ?_
  refine l_Ri (As := [.int (xs (x3 + 1).toNatClampNeg), .int (xs (x3 + 2).toNatClampNeg), .int (xs (x3 + 3).toNatClampNeg)]) (st := [.int r]) K uv_X12_act rfl qm_L_146 dL_law_1097 (c_X12_act l n (xs (x3 + 1).toNatClampNeg) (xs (x3 + 2).toNatClampNeg) (xs (x3 + 3).toNatClampNeg) τ h2x) rfl ⟨Nat.le_of_ble_eq_true rfl, Nat.le_of_ble_eq_true rfl⟩ (Nat.le_of_ble_eq_true rfl) ?_
  refine l_eqT (tgt := 1430) K dL_law_1100 (by decide) rfl ?_
  exact ih σ1 τ1 hI
theorem lc_32 (l : Launch) {p : Program} {e : Env} {s : State} {m : MethodId} {args : Array Value} {below : List Frame} {meth : Method} {c : Code} {b L : Nat} {xs : Nat → Int32} {D : va_G} {adX adR : Nat → Nat} {dX dR : Nat → ClassId} {Q : State → Prop} {x3 : Int32} {Inv : St → St → Prop} (K : CL p s m args c b L xs D adX dX adR dR) (hB : MStps Inv) (h1 : vp_in (x3 + 1) L) (h2 : vp_in (x3 + 2) L) (h3 : vp_in (x3 + 3) L) (h4 : vp_in (x3 + 4) L) (h5 : vp_in (x3 + 5) L) (ih : ∀ σ τ, Inv σ τ → VL p l e s m args below meth c D adX dX adR dR Q 1430 [(0, .ref b), (1, .ref (adX 0)), (2, .ref (adR 0)), (3, .int x3)] [] σ τ) (σ τ : St) (hI : Inv σ τ) : VL p l e s m args below meth c D adX dX adR dR Q 1105 [(0, .ref b), (1, .ref (adX 0)), (2, .ref (adR 0)), (3, .int x3)] [] σ τ := by
  obtain ⟨n, r, σ1, τ1, h1x, h2x, hI⟩ := hB.2.2.2.2.2.2.2.2.2.2.2.2.2.2.2.2.2.2.2.2.2.2.2.2.2.2.2.2.2.2.2.2.1 (xs (x3 + 1).toNatClampNeg) σ τ hI
  refine l_aload_n K dL_law_1105 1 rfl ?_
  refine l_aload_n K dL_law_1106 0 rfl ?_
  refine l_iload_n K dL_law_1107 3 rfl ?_
  refine l_iconst (v := 1) K dL_law_1108 (by decide) ?_
  refine l_iadd K dL_law_1109 ?_
  refine l_sld K h1 dL_law_1110 ?_
  refine l_Xi (As := [.int (xs (x3 + 1).toNatClampNeg)]) (st := []) K uv_X11_trace rfl qm_L_147 dL_law_1111 (c_X11_trace l n (xs (x3 + 1).toNatClampNeg) σ h1x) rfl ⟨Nat.le_of_ble_eq_true rfl, Nat.le_of_ble_eq_true rfl⟩ (Nat.le_of_ble_eq_true rfl) ?_
  refine l_aload_n K dL_law_1114 2 rfl ?_
  refine l_aload_n K dL_law_1115 0 rfl ?_
  refine l_iload_n K dL_law_1116 3 rfl ?_
  refine l_iconst (v := 1) K dL_law_1117 (by decide) ?_
  refine l_iadd K dL_law_1118 ?_
  refine l_sld K h1 dL_law_1119 ?_
  refine l_Ri (As := [.int (xs (x3 + 1).toNatClampNeg)]) (st := [.int r]) K uv_X12_trace rfl qm_L_150 dL_law_1120 (c_X12_trace l n (xs (x3 + 1).toNatClampNeg) τ h2x) rfl ⟨Nat.le_of_ble_eq_true rfl, Nat.le_of_ble_eq_true rfl⟩ (Nat.le_of_ble_eq_true rfl) ?_
  refine l_eqT (tgt := 1430) K dL_law_1123 (by decide) rfl ?_
  exact ih σ1 τ1 hI
theorem lc_33 (l : Launch) {p : Program} {e : Env} {s : State} {m : MethodId} {args : Array Value} {below : List Frame} {meth : Method} {c : Code} {b L : Nat} {xs : Nat → Int32} {D : va_G} {adX adR : Nat → Nat} {dX dR : Nat → ClassId} {Q : State → Prop} {x3 : Int32} {Inv : St → St → Prop} (K : CL p s m args c b L xs D adX dX adR dR) (hB : MStps Inv) (h1 : vp_in (x3 + 1) L) (h2 : vp_in (x3 + 2) L) (h3 : vp_in (x3 + 3) L) (h4 : vp_in (x3 + 4) L) (h5 : vp_in (x3 + 5) L) (ih : ∀ σ τ, Inv σ τ → VL p l e s m args below meth c D adX dX adR dR Q 1430 [(0, .ref b), (1, .ref (adX 0)), (2, .ref (adR 0)), (3, .int x3)] [] σ τ) (σ τ : St) (hI : Inv σ τ) : VL p l e s m args below meth c D adX dX adR dR Q 1128 [(0, .ref b), (1, .ref (adX 0)), (2, .ref (adR 0)), (3, .int x3)] [] σ τ := by
  obtain ⟨n, r, σ1, τ1, h1x, h2x, hI⟩ := hB.2.2.2.2.2.2.2.2.2.2.2.2.2.2.2.2.2.2.2.2.2.2.2.2.2.2.2.2.2.2.2.2.2.1 (xs (x3 + 1).toNatClampNeg) (xs (x3 + 2).toNatClampNeg) σ τ hI
  refine l_aload_n K dL_law_1128 1 rfl ?_
  refine l_aload_n K dL_law_1129 0 rfl ?_
  refine l_iload_n K dL_law_1130 3 rfl ?_
  refine l_iconst (v := 1) K dL_law_1131 (by decide) ?_
  refine l_iadd K dL_law_1132 ?_
  refine l_sld K h1 dL_law_1133 ?_
  refine l_aload_n K dL_law_1134 0 rfl ?_
  refine l_iload_n K dL_law_1135 3 rfl ?_
  refine l_iconst (v := 2) K dL_law_1136 (by decide) ?_
  refine l_iadd K dL_law_1137 ?_
  refine l_sld K h2 dL_law_1138 ?_
  refine l_Xi (As := [.int (xs (x3 + 1).toNatClampNeg), .int (xs (x3 + 2).toNatClampNeg)]) (st := []) K uv_X11_keep rfl qm_L_151 dL_law_1139 (c_X11_keep l n (xs (x3 + 1).toNatClampNeg) (xs (x3 + 2).toNatClampNeg) σ h1x) rfl ⟨Nat.le_of_ble_eq_true rfl, Nat.le_of_ble_eq_true rfl⟩ (Nat.le_of_ble_eq_true rfl) ?_
  refine l_aload_n K dL_law_1142 2 rfl ?_
  refine l_aload_n K dL_law_1143 0 rfl ?_
  refine l_iload_n K dL_law_1144 3 rfl ?_
  refine l_iconst (v := 1) K dL_law_1145 (by decide) ?_
  refine l_iadd K dL_law_1146 ?_
  refine l_sld K h1 dL_law_1147 ?_
  refine l_aload_n K dL_law_1148 0 rfl ?_
  refine l_iload_n K dL_law_1149 3 rfl ?_
  refine l_iconst (v := 2) K dL_law_1150 (by decide) ?_
  refine l_iadd K dL_law_1151 ?_
  refine l_sld K h2 dL_law_1152 ?_
  refine l_Ri (As := [.int (xs (x3 + 1).toNatClampNeg), .int (xs (x3 + 2).toNatClampNeg)]) (st := [.int r]) K uv_X12_keep rfl qm_L_154 dL_law_1153 (c_X12_keep l n (xs (x3 + 1).toNatClampNeg) (xs (x3 + 2).toNatClampNeg) τ h2x) rfl ⟨Nat.le_of_ble_eq_true rfl, Nat.le_of_ble_eq_true rfl⟩ (Nat.le_of_ble_eq_true rfl) ?_
  refine l_eqT (tgt := 1430) K dL_law_1156 (by decide) rfl ?_
  exact ih σ1 τ1 hI
theorem lc_34 (l : Launch) {p : Program} {e : Env} {s : State} {m : MethodId} {args : Array Value} {below : List Frame} {meth : Method} {c : Code} {b L : Nat} {xs : Nat → Int32} {D : va_G} {adX adR : Nat → Nat} {dX dR : Nat → ClassId} {Q : State → Prop} {x3 : Int32} {Inv : St → St → Prop} (K : CL p s m args c b L xs D adX dX adR dR) (hB : MStps Inv) (h1 : vp_in (x3 + 1) L) (h2 : vp_in (x3 + 2) L) (h3 : vp_in (x3 + 3) L) (h4 : vp_in (x3 + 4) L) (h5 : vp_in (x3 + 5) L) (ih : ∀ σ τ, Inv σ τ → VL p l e s m args below meth c D adX dX adR dR Q 1430 [(0, .ref b), (1, .ref (adX 0)), (2, .ref (adR 0)), (3, .int x3)] [] σ τ) (σ τ : St) (hI : Inv σ τ) : VL p l e s m args below meth c D adX dX adR dR Q 1161 [(0, .ref b), (1, .ref (adX 0)), (2, .ref (adR 0)), (3, .int x3)] [] σ τ := by
  obtain ⟨n, r, σ1, τ1, h1x, h2x, hI⟩ := hB.2.2.2.2.2.2.2.2.2.2.2.2.2.2.2.2.2.2.2.2.2.2.2.2.2.2.2.2.2.2.2.2.2.2.1 (xs (x3 + 1).toNatClampNeg) (xs (x3 + 2).toNatClampNeg) (xs (x3 + 3).toNatClampNeg) σ τ hI
  refine l_aload_n K dL_law_1161 1 rfl ?_
  refine l_aload_n K dL_law_1162 0 rfl ?_
  refine l_iload_n K dL_law_1163 3 rfl ?_
  refine l_iconst (v := 1) K dL_law_1164 (by decide) ?_
  refine l_iadd K dL_law_1165 ?_
  refine l_sld K h1 dL_law_1166 ?_
  refine l_aload_n K dL_law_1167 0 rfl ?_
  refine l_iload_n K dL_law_1168 3 rfl ?_
  refine l_iconst (v := 2) K dL_law_1169 (by decide) ?_
  refine l_iadd K dL_law_1170 ?_
  refine l_sld K h2 dL_law_1171 ?_
  refine l_aload_n K dL_law_1172 0 rfl ?_
  refine l_iload_n K dL_law_1173 3 rfl ?_
  refine l_iconst (v := 3) K dL_law_1174 (by decide) ?_
  refine l_iadd K dL_law_1175 ?_
  refine l_sld K h3 dL_law_1176 ?_
  refine l_Xi (As := [.int (xs (x3 + 1).toNatClampNeg), .int (xs (x3 + 2).toNatClampNeg), .int (xs (x3 + 3).toNatClampNeg)]) (st := []) K uv_X11_row rfl qm_L_155 dL_law_1177 (c_X11_row l n (xs (x3 + 1).toNatClampNeg) (xs (x3 + 2).toNatClampNeg) (xs (x3 + 3).toNatClampNeg) σ h1x) rfl ⟨Nat.le_of_ble_eq_true rfl, Nat.le_of_ble_eq_true rfl⟩ (Nat.le_of_ble_eq_true rfl) ?_
  refine l_aload_n K dL_law_1180 2 rfl ?_
  refine l_aload_n K dL_law_1181 0 rfl ?_
  refine l_iload_n K dL_law_1182 3 rfl ?_
  refine l_iconst (v := 1) K dL_law_1183 (by decide) ?_
  refine l_iadd K dL_law_1184 ?_
  refine l_sld K h1 dL_law_1185 ?_
  refine l_aload_n K dL_law_1186 0 rfl ?_
  refine l_iload_n K dL_law_1187 3 rfl ?_
  refine l_iconst (v := 2) K dL_law_1188 (by decide) ?_
  refine l_iadd K dL_law_1189 ?_
  refine l_sld K h2 dL_law_1190 ?_
  refine l_aload_n K dL_law_1191 0 rfl ?_
  refine l_iload_n K dL_law_1192 3 rfl ?_
  refine l_iconst (v := 3) K dL_law_1193 (by decide) ?_
  refine l_iadd K dL_law_1194 ?_
  refine l_sld K h3 dL_law_1195 ?_
  refine l_Ri (As := [.int (xs (x3 + 1).toNatClampNeg), .int (xs (x3 + 2).toNatClampNeg), .int (xs (x3 + 3).toNatClampNeg)]) (st := [.int r]) K uv_X12_row rfl qm_L_158 dL_law_1196 (c_X12_row l n (xs (x3 + 1).toNatClampNeg) (xs (x3 + 2).toNatClampNeg) (xs (x3 + 3).toNatClampNeg) τ h2x) rfl ⟨Nat.le_of_ble_eq_true rfl, Nat.le_of_ble_eq_true rfl⟩ (Nat.le_of_ble_eq_true rfl) ?_
  refine l_eqT (tgt := 1430) K dL_law_1199 (by decide) rfl ?_
  exact ih σ1 τ1 hI
theorem lc_35 (l : Launch) {p : Program} {e : Env} {s : State} {m : MethodId} {args : Array Value} {below : List Frame} {meth : Method} {c : Code} {b L : Nat} {xs : Nat → Int32} {D : va_G} {adX adR : Nat → Nat} {dX dR : Nat → ClassId} {Q : State → Prop} {x3 : Int32} {Inv : St → St → Prop} (K : CL p s m args c b L xs D adX dX adR dR) (hB : MStps Inv) (h1 : vp_in (x3 + 1) L) (h2 : vp_in (x3 + 2) L) (h3 : vp_in (x3 + 3) L) (h4 : vp_in (x3 + 4) L) (h5 : vp_in (x3 + 5) L) (ih : ∀ σ τ, Inv σ τ → VL p l e s m args below meth c D adX dX adR dR Q 1430 [(0, .ref b), (1, .ref (adX 0)), (2, .ref (adR 0)), (3, .int x3)] [] σ τ) (σ τ : St) (hI : Inv σ τ) : VL p l e s m args below meth c D adX dX adR dR Q 1204 [(0, .ref b), (1, .ref (adX 0)), (2, .ref (adR 0)), (3, .int x3)] [] σ τ := by
  obtain ⟨n, r, σ1, τ1, h1x, h2x, hI⟩ := hB.2.2.2.2.2.2.2.2.2.2.2.2.2.2.2.2.2.2.2.2.2.2.2.2.2.2.2.2.2.2.2.2.2.2.2.1 (xs (x3 + 1).toNatClampNeg) (xs (x3 + 2).toNatClampNeg) ((((xs (x3 + 3).toNatClampNeg)).toInt64 <<< (((32) : Int32).toInt64 &&& 63)) ||| (((xs (x3 + 4).toNatClampNeg)).toInt64 &&& 4294967295)) σ τ hI
  refine l_aload_n K dL_law_1204 1 rfl ?_
  refine l_aload_n K dL_law_1205 0 rfl ?_
  refine l_iload_n K dL_law_1206 3 rfl ?_
  refine l_iconst (v := 1) K dL_law_1207 (by decide) ?_
  refine l_iadd K dL_law_1208 ?_
  refine l_sld K h1 dL_law_1209 ?_
  refine l_aload_n K dL_law_1210 0 rfl ?_
  refine l_iload_n K dL_law_1211 3 rfl ?_
  refine l_iconst (v := 2) K dL_law_1212 (by decide) ?_
  refine l_iadd K dL_law_1213 ?_
  refine l_sld K h2 dL_law_1214 ?_
  refine l_aload_n K dL_law_1215 0 rfl ?_
  refine l_iload_n K dL_law_1216 3 rfl ?_
  refine l_iconst (v := 3) K dL_law_1217 (by decide) ?_
  refine l_iadd K dL_law_1218 ?_
  refine l_sld K h3 dL_law_1219 ?_
  refine l_i2l K dL_law_1220 ?_
  refine l_bipush (v := 32) K dL_law_1221 (by decide) ?_
  refine l_lshl K dL_law_1223 ?_
  refine l_aload_n K dL_law_1224 0 rfl ?_
  refine l_iload_n K dL_law_1225 3 rfl ?_
  refine l_iconst (v := 4) K dL_law_1226 (by decide) ?_
  refine l_iadd K dL_law_1227 ?_
  refine l_sld K h4 dL_law_1228 ?_
  refine l_i2l K dL_law_1229 ?_
  refine l_ldc2 (v := 4294967295) K ql_L_159 dL_law_1230 ?_
  refine l_land K dL_law_1233 ?_
  refine l_lor K dL_law_1234 ?_
  refine l_Xi (As := [.int (xs (x3 + 1).toNatClampNeg), .int (xs (x3 + 2).toNatClampNeg), .long ((((xs (x3 + 3).toNatClampNeg)).toInt64 <<< (((32) : Int32).toInt64 &&& 63)) ||| (((xs (x3 + 4).toNatClampNeg)).toInt64 &&& 4294967295))]) (st := []) K uv_X11_put rfl qm_L_161 dL_law_1235 (c_X11_put l n (xs (x3 + 1).toNatClampNeg) (xs (x3 + 2).toNatClampNeg) ((((xs (x3 + 3).toNatClampNeg)).toInt64 <<< (((32) : Int32).toInt64 &&& 63)) ||| (((xs (x3 + 4).toNatClampNeg)).toInt64 &&& 4294967295)) σ h1x) rfl ⟨Nat.le_of_ble_eq_true rfl, Nat.le_of_ble_eq_true rfl⟩ (Nat.le_of_ble_eq_true rfl) ?_
  refine l_aload_n K dL_law_1238 2 rfl ?_
  refine l_aload_n K dL_law_1239 0 rfl ?_
  refine l_iload_n K dL_law_1240 3 rfl ?_
  refine l_iconst (v := 1) K dL_law_1241 (by decide) ?_
  refine l_iadd K dL_law_1242 ?_
  refine l_sld K h1 dL_law_1243 ?_
  refine l_aload_n K dL_law_1244 0 rfl ?_
  refine l_iload_n K dL_law_1245 3 rfl ?_
  refine l_iconst (v := 2) K dL_law_1246 (by decide) ?_
  refine l_iadd K dL_law_1247 ?_
  refine l_sld K h2 dL_law_1248 ?_
  refine l_aload_n K dL_law_1249 0 rfl ?_
  refine l_iload_n K dL_law_1250 3 rfl ?_
  refine l_iconst (v := 3) K dL_law_1251 (by decide) ?_
  refine l_iadd K dL_law_1252 ?_
  refine l_sld K h3 dL_law_1253 ?_
  refine l_i2l K dL_law_1254 ?_
  refine l_bipush (v := 32) K dL_law_1255 (by decide) ?_
  refine l_lshl K dL_law_1257 ?_
  refine l_aload_n K dL_law_1258 0 rfl ?_
  refine l_iload_n K dL_law_1259 3 rfl ?_
  refine l_iconst (v := 4) K dL_law_1260 (by decide) ?_
  refine l_iadd K dL_law_1261 ?_
  refine l_sld K h4 dL_law_1262 ?_
  refine l_i2l K dL_law_1263 ?_
  refine l_ldc2 (v := 4294967295) K ql_L_159 dL_law_1264 ?_
  refine l_land K dL_law_1267 ?_
  refine l_lor K dL_law_1268 ?_
  refine l_Ri (As := [.int (xs (x3 + 1).toNatClampNeg), .int (xs (x3 + 2).toNatClampNeg), .long ((((xs (x3 + 3).toNatClampNeg)).toInt64 <<< (((32) : Int32).toInt64 &&& 63)) ||| (((xs (x3 + 4).toNatClampNeg)).toInt64 &&& 4294967295))]) (st := [.int r]) K uv_X12_put rfl qm_L_165 dL_law_1269 (c_X12_put l n (xs (x3 + 1).toNatClampNeg) (xs (x3 + 2).toNatClampNeg) ((((xs (x3 + 3).toNatClampNeg)).toInt64 <<< (((32) : Int32).toInt64 &&& 63)) ||| (((xs (x3 + 4).toNatClampNeg)).toInt64 &&& 4294967295)) τ h2x) rfl ⟨Nat.le_of_ble_eq_true rfl, Nat.le_of_ble_eq_true rfl⟩ (Nat.le_of_ble_eq_true rfl) ?_
  refine l_eqT (tgt := 1430) K dL_law_1272 (by decide) rfl ?_
  exact ih σ1 τ1 hI
theorem lc_36 (l : Launch) {p : Program} {e : Env} {s : State} {m : MethodId} {args : Array Value} {below : List Frame} {meth : Method} {c : Code} {b L : Nat} {xs : Nat → Int32} {D : va_G} {adX adR : Nat → Nat} {dX dR : Nat → ClassId} {Q : State → Prop} {x3 : Int32} {Inv : St → St → Prop} (K : CL p s m args c b L xs D adX dX adR dR) (hB : MStps Inv) (h1 : vp_in (x3 + 1) L) (h2 : vp_in (x3 + 2) L) (h3 : vp_in (x3 + 3) L) (h4 : vp_in (x3 + 4) L) (h5 : vp_in (x3 + 5) L) (ih : ∀ σ τ, Inv σ τ → VL p l e s m args below meth c D adX dX adR dR Q 1430 [(0, .ref b), (1, .ref (adX 0)), (2, .ref (adR 0)), (3, .int x3)] [] σ τ) (σ τ : St) (hI : Inv σ τ) : VL p l e s m args below meth c D adX dX adR dR Q 1277 [(0, .ref b), (1, .ref (adX 0)), (2, .ref (adR 0)), (3, .int x3)] [] σ τ := by
  obtain ⟨n, r, σ1, τ1, h1x, h2x, hI⟩ := hB.2.2.2.2.2.2.2.2.2.2.2.2.2.2.2.2.2.2.2.2.2.2.2.2.2.2.2.2.2.2.2.2.2.2.2.2.1 (xs (x3 + 1).toNatClampNeg) (xs (x3 + 2).toNatClampNeg) σ τ hI
  refine l_aload_n K dL_law_1277 1 rfl ?_
  refine l_aload_n K dL_law_1278 0 rfl ?_
  refine l_iload_n K dL_law_1279 3 rfl ?_
  refine l_iconst (v := 1) K dL_law_1280 (by decide) ?_
  refine l_iadd K dL_law_1281 ?_
  refine l_sld K h1 dL_law_1282 ?_
  refine l_aload_n K dL_law_1283 0 rfl ?_
  refine l_iload_n K dL_law_1284 3 rfl ?_
  refine l_iconst (v := 2) K dL_law_1285 (by decide) ?_
  refine l_iadd K dL_law_1286 ?_
  refine l_sld K h2 dL_law_1287 ?_
  refine l_Xl (As := [.int (xs (x3 + 1).toNatClampNeg), .int (xs (x3 + 2).toNatClampNeg)]) (st := []) K uv_X11_element rfl qm_L_166 dL_law_1288 (c_X11_element l n (xs (x3 + 1).toNatClampNeg) (xs (x3 + 2).toNatClampNeg) σ h1x) rfl ⟨Nat.le_of_ble_eq_true rfl, Nat.le_of_ble_eq_true rfl⟩ (Nat.le_of_ble_eq_true rfl) ?_
  refine l_aload_n K dL_law_1291 2 rfl ?_
  refine l_aload_n K dL_law_1292 0 rfl ?_
  refine l_iload_n K dL_law_1293 3 rfl ?_
  refine l_iconst (v := 1) K dL_law_1294 (by decide) ?_
  refine l_iadd K dL_law_1295 ?_
  refine l_sld K h1 dL_law_1296 ?_
  refine l_aload_n K dL_law_1297 0 rfl ?_
  refine l_iload_n K dL_law_1298 3 rfl ?_
  refine l_iconst (v := 2) K dL_law_1299 (by decide) ?_
  refine l_iadd K dL_law_1300 ?_
  refine l_sld K h2 dL_law_1301 ?_
  refine l_Rl (As := [.int (xs (x3 + 1).toNatClampNeg), .int (xs (x3 + 2).toNatClampNeg)]) (st := [.long r]) K uv_X12_element rfl qm_L_169 dL_law_1302 (c_X12_element l n (xs (x3 + 1).toNatClampNeg) (xs (x3 + 2).toNatClampNeg) τ h2x) rfl ⟨Nat.le_of_ble_eq_true rfl, Nat.le_of_ble_eq_true rfl⟩ (Nat.le_of_ble_eq_true rfl) ?_
  refine l_lcmp K dL_law_1305 ?_
  refine l_ifeqT (tgt := 1430) K dL_law_1306 (by decide) (lg_self r) ?_
  exact ih σ1 τ1 hI
theorem lc_37 (l : Launch) {p : Program} {e : Env} {s : State} {m : MethodId} {args : Array Value} {below : List Frame} {meth : Method} {c : Code} {b L : Nat} {xs : Nat → Int32} {D : va_G} {adX adR : Nat → Nat} {dX dR : Nat → ClassId} {Q : State → Prop} {x3 : Int32} {Inv : St → St → Prop} (K : CL p s m args c b L xs D adX dX adR dR) (hB : MStps Inv) (h1 : vp_in (x3 + 1) L) (h2 : vp_in (x3 + 2) L) (h3 : vp_in (x3 + 3) L) (h4 : vp_in (x3 + 4) L) (h5 : vp_in (x3 + 5) L) (ih : ∀ σ τ, Inv σ τ → VL p l e s m args below meth c D adX dX adR dR Q 1430 [(0, .ref b), (1, .ref (adX 0)), (2, .ref (adR 0)), (3, .int x3)] [] σ τ) (σ τ : St) (hI : Inv σ τ) : VL p l e s m args below meth c D adX dX adR dR Q 1311 [(0, .ref b), (1, .ref (adX 0)), (2, .ref (adR 0)), (3, .int x3)] [] σ τ := by
  obtain ⟨n, r, σ1, τ1, h1x, h2x, hI⟩ := hB.2.2.2.2.2.2.2.2.2.2.2.2.2.2.2.2.2.2.2.2.2.2.2.2.2.2.2.2.2.2.2.2.2.2.2.2.2.1 (xs (x3 + 1).toNatClampNeg) (xs (x3 + 2).toNatClampNeg) (xs (x3 + 3).toNatClampNeg) (xs (x3 + 4).toNatClampNeg) (xs (x3 + 5).toNatClampNeg) σ τ hI
  refine l_aload_n K dL_law_1311 1 rfl ?_
  refine l_aload_n K dL_law_1312 0 rfl ?_
  refine l_iload_n K dL_law_1313 3 rfl ?_
  refine l_iconst (v := 1) K dL_law_1314 (by decide) ?_
  refine l_iadd K dL_law_1315 ?_
  refine l_sld K h1 dL_law_1316 ?_
  refine l_aload_n K dL_law_1317 0 rfl ?_
  refine l_iload_n K dL_law_1318 3 rfl ?_
  refine l_iconst (v := 2) K dL_law_1319 (by decide) ?_
  refine l_iadd K dL_law_1320 ?_
  refine l_sld K h2 dL_law_1321 ?_
  refine l_aload_n K dL_law_1322 0 rfl ?_
  refine l_iload_n K dL_law_1323 3 rfl ?_
  refine l_iconst (v := 3) K dL_law_1324 (by decide) ?_
  refine l_iadd K dL_law_1325 ?_
  refine l_sld K h3 dL_law_1326 ?_
  refine l_aload_n K dL_law_1327 0 rfl ?_
  refine l_iload_n K dL_law_1328 3 rfl ?_
  refine l_iconst (v := 4) K dL_law_1329 (by decide) ?_
  refine l_iadd K dL_law_1330 ?_
  refine l_sld K h4 dL_law_1331 ?_
  refine l_aload_n K dL_law_1332 0 rfl ?_
  refine l_iload_n K dL_law_1333 3 rfl ?_
  refine l_iconst (v := 5) K dL_law_1334 (by decide) ?_
  refine l_iadd K dL_law_1335 ?_
  refine l_sld K h5 dL_law_1336 ?_
  refine l_Xi (As := [.int (xs (x3 + 1).toNatClampNeg), .int (xs (x3 + 2).toNatClampNeg), .int (xs (x3 + 3).toNatClampNeg), .int (xs (x3 + 4).toNatClampNeg), .int (xs (x3 + 5).toNatClampNeg)]) (st := []) K uv_X11_shift rfl qm_L_170 dL_law_1337 (c_X11_shift l n (xs (x3 + 1).toNatClampNeg) (xs (x3 + 2).toNatClampNeg) (xs (x3 + 3).toNatClampNeg) (xs (x3 + 4).toNatClampNeg) (xs (x3 + 5).toNatClampNeg) σ h1x) rfl ⟨Nat.le_of_ble_eq_true rfl, Nat.le_of_ble_eq_true rfl⟩ (Nat.le_of_ble_eq_true rfl) ?_
  refine l_aload_n K dL_law_1340 2 rfl ?_
  refine l_aload_n K dL_law_1341 0 rfl ?_
  refine l_iload_n K dL_law_1342 3 rfl ?_
  refine l_iconst (v := 1) K dL_law_1343 (by decide) ?_
  refine l_iadd K dL_law_1344 ?_
  refine l_sld K h1 dL_law_1345 ?_
  refine l_aload_n K dL_law_1346 0 rfl ?_
  refine l_iload_n K dL_law_1347 3 rfl ?_
  refine l_iconst (v := 2) K dL_law_1348 (by decide) ?_
  refine l_iadd K dL_law_1349 ?_
  refine l_sld K h2 dL_law_1350 ?_
  refine l_aload_n K dL_law_1351 0 rfl ?_
  refine l_iload_n K dL_law_1352 3 rfl ?_
  refine l_iconst (v := 3) K dL_law_1353 (by decide) ?_
  refine l_iadd K dL_law_1354 ?_
  refine l_sld K h3 dL_law_1355 ?_
  refine l_aload_n K dL_law_1356 0 rfl ?_
  refine l_iload_n K dL_law_1357 3 rfl ?_
  refine l_iconst (v := 4) K dL_law_1358 (by decide) ?_
  refine l_iadd K dL_law_1359 ?_
  refine l_sld K h4 dL_law_1360 ?_
  refine l_aload_n K dL_law_1361 0 rfl ?_
  refine l_iload_n K dL_law_1362 3 rfl ?_
  refine l_iconst (v := 5) K dL_law_1363 (by decide) ?_
  refine l_iadd K dL_law_1364 ?_
  refine l_sld K h5 dL_law_1365 ?_
  refine l_Ri (As := [.int (xs (x3 + 1).toNatClampNeg), .int (xs (x3 + 2).toNatClampNeg), .int (xs (x3 + 3).toNatClampNeg), .int (xs (x3 + 4).toNatClampNeg), .int (xs (x3 + 5).toNatClampNeg)]) (st := [.int r]) K uv_X12_shift rfl qm_L_174 dL_law_1366 (c_X12_shift l n (xs (x3 + 1).toNatClampNeg) (xs (x3 + 2).toNatClampNeg) (xs (x3 + 3).toNatClampNeg) (xs (x3 + 4).toNatClampNeg) (xs (x3 + 5).toNatClampNeg) τ h2x) rfl ⟨Nat.le_of_ble_eq_true rfl, Nat.le_of_ble_eq_true rfl⟩ (Nat.le_of_ble_eq_true rfl) ?_
  refine l_eqT (tgt := 1430) K dL_law_1369 (by decide) rfl ?_
  exact ih σ1 τ1 hI
theorem lc_38 (l : Launch) {p : Program} {e : Env} {s : State} {m : MethodId} {args : Array Value} {below : List Frame} {meth : Method} {c : Code} {b L : Nat} {xs : Nat → Int32} {D : va_G} {adX adR : Nat → Nat} {dX dR : Nat → ClassId} {Q : State → Prop} {x3 : Int32} {Inv : St → St → Prop} (K : CL p s m args c b L xs D adX dX adR dR) (hB : MStps Inv) (h1 : vp_in (x3 + 1) L) (h2 : vp_in (x3 + 2) L) (h3 : vp_in (x3 + 3) L) (h4 : vp_in (x3 + 4) L) (h5 : vp_in (x3 + 5) L) (ih : ∀ σ τ, Inv σ τ → VL p l e s m args below meth c D adX dX adR dR Q 1430 [(0, .ref b), (1, .ref (adX 0)), (2, .ref (adR 0)), (3, .int x3)] [] σ τ) (σ τ : St) (hI : Inv σ τ) : VL p l e s m args below meth c D adX dX adR dR Q 1374 [(0, .ref b), (1, .ref (adX 0)), (2, .ref (adR 0)), (3, .int x3)] [] σ τ := by
  obtain ⟨n, r, σ1, τ1, h1x, h2x, hI⟩ := hB.2.2.2.2.2.2.2.2.2.2.2.2.2.2.2.2.2.2.2.2.2.2.2.2.2.2.2.2.2.2.2.2.2.2.2.2.2.2.1 (xs (x3 + 1).toNatClampNeg) (xs (x3 + 2).toNatClampNeg) σ τ hI
  refine l_aload_n K dL_law_1374 1 rfl ?_
  refine l_aload_n K dL_law_1375 0 rfl ?_
  refine l_iload_n K dL_law_1376 3 rfl ?_
  refine l_iconst (v := 1) K dL_law_1377 (by decide) ?_
  refine l_iadd K dL_law_1378 ?_
  refine l_sld K h1 dL_law_1379 ?_
  refine l_aload_n K dL_law_1380 0 rfl ?_
  refine l_iload_n K dL_law_1381 3 rfl ?_
  refine l_iconst (v := 2) K dL_law_1382 (by decide) ?_
  refine l_iadd K dL_law_1383 ?_
  refine l_sld K h2 dL_law_1384 ?_
  refine l_Xi (As := [.int (xs (x3 + 1).toNatClampNeg), .int (xs (x3 + 2).toNatClampNeg)]) (st := []) K uv_X11_taken rfl qm_L_175 dL_law_1385 (c_X11_taken l n (xs (x3 + 1).toNatClampNeg) (xs (x3 + 2).toNatClampNeg) σ h1x) rfl ⟨Nat.le_of_ble_eq_true rfl, Nat.le_of_ble_eq_true rfl⟩ (Nat.le_of_ble_eq_true rfl) ?_
  refine l_aload_n K dL_law_1388 2 rfl ?_
  refine l_aload_n K dL_law_1389 0 rfl ?_
  refine l_iload_n K dL_law_1390 3 rfl ?_
  refine l_iconst (v := 1) K dL_law_1391 (by decide) ?_
  refine l_iadd K dL_law_1392 ?_
  refine l_sld K h1 dL_law_1393 ?_
  refine l_aload_n K dL_law_1394 0 rfl ?_
  refine l_iload_n K dL_law_1395 3 rfl ?_
  refine l_iconst (v := 2) K dL_law_1396 (by decide) ?_
  refine l_iadd K dL_law_1397 ?_
  refine l_sld K h2 dL_law_1398 ?_
  refine l_Ri (As := [.int (xs (x3 + 1).toNatClampNeg), .int (xs (x3 + 2).toNatClampNeg)]) (st := [.int r]) K uv_X12_taken rfl qm_L_178 dL_law_1399 (c_X12_taken l n (xs (x3 + 1).toNatClampNeg) (xs (x3 + 2).toNatClampNeg) τ h2x) rfl ⟨Nat.le_of_ble_eq_true rfl, Nat.le_of_ble_eq_true rfl⟩ (Nat.le_of_ble_eq_true rfl) ?_
  refine l_eqT (tgt := 1430) K dL_law_1402 (by decide) rfl ?_
  exact ih σ1 τ1 hI
theorem lc_39 (l : Launch) {p : Program} {e : Env} {s : State} {m : MethodId} {args : Array Value} {below : List Frame} {meth : Method} {c : Code} {b L : Nat} {xs : Nat → Int32} {D : va_G} {adX adR : Nat → Nat} {dX dR : Nat → ClassId} {Q : State → Prop} {x3 : Int32} {Inv : St → St → Prop} (K : CL p s m args c b L xs D adX dX adR dR) (hB : MStps Inv) (h1 : vp_in (x3 + 1) L) (h2 : vp_in (x3 + 2) L) (h3 : vp_in (x3 + 3) L) (h4 : vp_in (x3 + 4) L) (h5 : vp_in (x3 + 5) L) (ih : ∀ σ τ, Inv σ τ → VL p l e s m args below meth c D adX dX adR dR Q 1430 [(0, .ref b), (1, .ref (adX 0)), (2, .ref (adR 0)), (3, .int x3)] [] σ τ) (σ τ : St) (hI : Inv σ τ) : VL p l e s m args below meth c D adX dX adR dR Q 1407 [(0, .ref b), (1, .ref (adX 0)), (2, .ref (adR 0)), (3, .int x3)] [] σ τ := by
  obtain ⟨n, r, σ1, τ1, h1x, h2x, hI⟩ := hB.2.2.2.2.2.2.2.2.2.2.2.2.2.2.2.2.2.2.2.2.2.2.2.2.2.2.2.2.2.2.2.2.2.2.2.2.2.2.2 (xs (x3 + 1).toNatClampNeg) σ τ hI
  refine l_aload_n K dL_law_1407 1 rfl ?_
  refine l_aload_n K dL_law_1408 0 rfl ?_
  refine l_iload_n K dL_law_1409 3 rfl ?_
  refine l_iconst (v := 1) K dL_law_1410 (by decide) ?_
  refine l_iadd K dL_law_1411 ?_
  refine l_sld K h1 dL_law_1412 ?_
  refine l_Xi (As := [.int (xs (x3 + 1).toNatClampNeg)]) (st := []) K uv_X11_count rfl qm_L_179 dL_law_1413 (c_X11_count l n (xs (x3 + 1).toNatClampNeg) σ h1x) rfl ⟨Nat.le_of_ble_eq_true rfl, Nat.le_of_ble_eq_true rfl⟩ (Nat.le_of_ble_eq_true rfl) ?_
  refine l_aload_n K dL_law_1416 2 rfl ?_
  refine l_aload_n K dL_law_1417 0 rfl ?_
  refine l_iload_n K dL_law_1418 3 rfl ?_
  refine l_iconst (v := 1) K dL_law_1419 (by decide) ?_
  refine l_iadd K dL_law_1420 ?_
  refine l_sld K h1 dL_law_1421 ?_
  refine l_Ri (As := [.int (xs (x3 + 1).toNatClampNeg)]) (st := [.int r]) K uv_X12_count rfl qm_L_182 dL_law_1422 (c_X12_count l n (xs (x3 + 1).toNatClampNeg) τ h2x) rfl ⟨Nat.le_of_ble_eq_true rfl, Nat.le_of_ble_eq_true rfl⟩ (Nat.le_of_ble_eq_true rfl) ?_
  refine l_eqT (tgt := 1430) K dL_law_1425 (by decide) rfl ?_
  exact ih σ1 τ1 hI
