theorem ite_inv {β : Type} {P : Prop} [Decidable P] {E F : Option β} {r : β} (h : (if P then E else F) = some r) : (P ∧ E = some r) ∨ (¬ P ∧ F = some r) := by
  by_cases hp : P
  · rw [if_pos hp] at h; exact Or.inl ⟨hp, h⟩
  · rw [if_neg hp] at h; exact Or.inr ⟨hp, h⟩
theorem ne_toInt {x k : Int32} (h : ¬ x = k) : x.toInt ≠ k.toInt := fun e => h (Int32.toInt_inj.mp e)
section SWI
variable {p : Program} {l : Launch} {e : Env} {R : Room} {s : State} {m : MethodId} {args : Array Value} {below : List Frame} {meth : Method} {c : Code} {cc : ByteArray} {nL : Nat} {ret : Option FieldType} {own : String} {D : va_G} {tys : List (ClassId × FieldType)} {wd : St → va_W} {A : Nat → Prop} {Q : State → Prop} {pc : Nat} {lv lv' : List (Nat × Value)} {st : List Value} {σ : St}
theorem v_tabI (K : Cx p s m args meth c cc nL ret own D tys wd A) {dflt lo hi : Int} {offs : Array Int} {len : Nat} {x k : Int32} {off : Int} {tgt : Nat} (hdg : decode cc pc = .ok (.tableswitch dflt lo hi offs, len)) (hx : x = k) (h1 : ¬ k.toInt < lo) (h2 : ¬ hi < k.toInt) (ho : offs[(k.toInt - lo).toNat]? = some off) (ht : (pc : Int) + off = (tgt : Int)) (kk : V p l e R s m args below meth c nL D wd A Q tgt lv st σ) : V p l e R s m args below meth c nL D wd A Q pc lv (.int x :: st) σ := fun H locs ls hP hS h => by
  subst hx
  exact lv_tableIn K.1 K.2.1 hdg h1 h2 ho ht (kk H locs ls hP hS h)
theorem v_tabO (K : Cx p s m args meth c cc nL ret own D tys wd A) {dflt lo hi : Int} {offs : Array Int} {len : Nat} {x : Int32} {tgt : Nat} (hdg : decode cc pc = .ok (.tableswitch dflt lo hi offs, len)) (h1 : x.toInt < lo ∨ hi < x.toInt) (ht : (pc : Int) + dflt = (tgt : Int)) (kk : V p l e R s m args below meth c nL D wd A Q tgt lv st σ) : V p l e R s m args below meth c nL D wd A Q pc lv (.int x :: st) σ := fun H locs ls hP hS h => lv_tableOut K.1 K.2.1 hdg h1 ht (kk H locs ls hP hS h)
theorem v_lookI (K : Cx p s m args meth c cc nL ret own D tys wd A) {dflt : Int} {ps : Array (Int × Int)} {len : Nat} {x k : Int32} {off : Int} {tgt : Nat} (hdg : decode cc pc = .ok (.lookupswitch dflt ps, len)) (hx : x = k) (hp : (ps.toList.zip (ps.toList.drop 1)).all (fun (a, next) => a.1 < next.1) = true) (ho : Op.lookupswitch.offset ps.toList dflt k.toInt = off) (ht : (pc : Int) + off = (tgt : Int)) (kk : V p l e R s m args below meth c nL D wd A Q tgt lv st σ) : V p l e R s m args below meth c nL D wd A Q pc lv (.int x :: st) σ := fun H locs ls hP hS h => by
  subst hx
  exact lv_lookup K.1 K.2.1 hdg hp ho ht (kk H locs ls hP hS h)
theorem v_lookO (K : Cx p s m args meth c cc nL ret own D tys wd A) {dflt : Int} {ps : Array (Int × Int)} {len : Nat} {x : Int32} {off : Int} {tgt : Nat} (hdg : decode cc pc = .ok (.lookupswitch dflt ps, len)) (hp : (ps.toList.zip (ps.toList.drop 1)).all (fun (a, next) => a.1 < next.1) = true) (ho : Op.lookupswitch.offset ps.toList dflt x.toInt = off) (ht : (pc : Int) + off = (tgt : Int)) (kk : V p l e R s m args below meth c nL D wd A Q tgt lv st σ) : V p l e R s m args below meth c nL D wd A Q pc lv (.int x :: st) σ := fun H locs ls hP hS h => lv_lookup K.1 K.2.1 hdg hp ho ht (kk H locs ls hP hS h)
end SWI
