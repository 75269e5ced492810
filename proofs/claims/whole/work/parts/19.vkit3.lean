section CVK3
variable {p : Program} {l : Launch} {e : Env} {R : Room} {s : State} {m : MethodId} {args : Array Value} {below : List Frame} {meth : Method} {c : Code} {cells slots : Nat} {Q : State → Prop}
variable {cc : ByteArray} {nL : Nat} {own : String} {Ts : List Cond} {D : va_G} {cl : List vw_C} {tys : List (ClassId × FieldType)} {A : Nat → Prop}
variable {pc : Nat} {L : List (Nat × Value)} {st : List Value} {ws : va_W}
theorem cv_ldcw (K : cv_K p s m args c cc nL own Ts D cl tys A) {index : Nat} {v : Int32} (hdg : decode cc pc = .ok (.ldc_w index, 3)) (hcw : Cond.constant own index v ∈ Ts) (kk : cv_V p l e R s m args below meth c cells slots Q nL D cl A (pc + 3) L (.int v :: st) ws) : cv_V p l e R s m args below meth c cells slots Q nL D cl A pc L st ws := fun H locs ls hP hD hS hL => lv_ldcw K.1 K.2.1 K.2.2.2.1 (K.2.2.2.2.1 _ hcw) hdg (kk H locs ls hP hD hS hL)
end CVK3
theorem dz_0 {q : Int64} (h : ¬ lg_cmp q (0 : Int64) = (0 : Int32)) : ¬ q = (0 : Int64) := by
  intro h2
  apply h
  rw [h2]
  rfl
