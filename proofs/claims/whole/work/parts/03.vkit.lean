/-! One judgement over W: the world, the locals and the operand stack stand in the goal. -/
section CVK
variable {p : Program} {l : Launch} {e : Env} {R : Room} {s : State} {m : MethodId} {args : Array Value} {below : List Frame} {meth : Method} {c : Code} {cells slots : Nat} {Q : State → Prop}
variable {cc : ByteArray} {nL : Nat} {own : String} {Ts : List Cond} {D : va_G} {cl : List vw_C} {tys : List (ClassId × FieldType)} {A : Nat → Prop}
variable {pc : Nat} {L : List (Nat × Value)} {st : List Value} {ws : va_W}
theorem cv_nd : ∀ {is : List Nat}, va_nd is = true → is.Nodup := by
  intro is
  induction is with
  | nil => intro _; exact List.nodup_nil
  | cons i is ih =>
    intro h
    simp only [va_nd, Bool.and_eq_true] at h
    exact List.nodup_cons.mpr ⟨by simpa using h.1, ih h.2⟩
def cv_K (p : Program) (s : State) (m : MethodId) (args : Array Value) (c : Code) (cc : ByteArray) (nL : Nat) (own : String) (Ts : List Cond) (D : va_G) (cl : List vw_C) (tys : List (ClassId × FieldType)) (A : Nat → Prop) : Prop :=
  p.tables.exec = Jvm.exec ∧ c.code = cc ∧ c.maxLocals = nL ∧ s.vm.findClass own = some m.cls ∧ (∀ w ∈ Ts, w.before args s = true) ∧ va_K D cl tys s ∧ (∀ q : Nat, s.heap.size ≤ q → A q) ∧ cv_N s
def cv_V (p : Program) (l : Launch) (e : Env) (R : Room) (s : State) (m : MethodId) (args : Array Value) (below : List Frame) (meth : Method) (c : Code) (cells slots : Nat) (Q : State → Prop) (nL : Nat) (D : va_G) (cl : List vw_C) (A : Nat → Prop) (pc : Nat) (L : List (Nat × Value)) (st : List Value) (ws : va_W) : Prop :=
  ∀ (H : Heap) (locs : List Loc) (ls : Array Slot), va_P D cl ws H → va_D A ws → va_S A s.heap H locs → lv_has ls nL L → W p l e R s m args below meth c H locs cells slots Q (F0 m pc ls st)
theorem cv_fm {ws : va_W} {wc : va_W} : ∀ {is : List Nat}, is.map (fun i => ws[i]?) = wc.map some → is.filterMap (fun i => ws[i]?) = wc := by
  intro is h
  induction is generalizing wc with
  | nil => cases wc with
    | nil => rfl
    | cons a t => simp at h
  | cons i is ih => cases wc with
    | nil => simp at h
    | cons a t =>
      simp only [List.map_cons, List.cons.injEq] at h
      rw [List.filterMap_cons, h.1]
      simp only [ih h.2]
/-- cells put back at their places -/
def cv_sets : va_W → List Nat → va_W → va_W
  | ws, i :: is, x :: xs => cv_sets (ws.set i x) is xs
  | ws, _, _ => ws
theorem cv_sets_len : ∀ (is : List Nat) (xs ws : va_W), (cv_sets ws is xs).length = ws.length := by
  intro is
  induction is with
  | nil => intro xs ws; cases xs <;> rfl
  | cons i is ih => intro xs ws; cases xs with
    | nil => rfl
    | cons x xs => rw [cv_sets, ih, List.length_set]
theorem cv_sets_out : ∀ (is : List Nat) (xs ws : va_W) (k : Nat), k ∉ is → (cv_sets ws is xs)[k]? = ws[k]? := by
  intro is
  induction is with
  | nil => intro xs ws k _; cases xs <;> rfl
  | cons i is ih => intro xs ws k hk; cases xs with
    | nil => rfl
    | cons x xs =>
      rw [cv_sets, ih xs _ k (fun h => hk (List.mem_cons_of_mem _ h)), List.getElem?_set_ne (fun h => hk (by rw [← h]; exact List.mem_cons_self))]
/-- a place of the new world: the callee's cell, or an old one that the callee hasn't -/
theorem cv_sets_at : ∀ (is : List Nat) (xs ws : va_W) (k : Nat) (q : Nat × va_E), is.Nodup → is.length = xs.length → (∀ i ∈ is, i < ws.length) → (cv_sets ws is xs)[k]? = some q →
    (∃ j : Nat, is[j]? = some k ∧ xs[j]? = some q) ∨ (k ∉ is ∧ ws[k]? = some q) := by
  intro is
  induction is with
  | nil => intro xs ws k q _ _ _ h; cases xs with
    | nil => exact Or.inr ⟨List.not_mem_nil, h⟩
    | cons x xs => exact Or.inr ⟨List.not_mem_nil, h⟩
  | cons i is ih => intro xs ws k q hnd hlen hlt h; cases xs with
    | nil => simp at hlen
    | cons x xs =>
      rw [cv_sets] at h
      rw [List.nodup_cons] at hnd
      rcases ih xs (ws.set i x) k q hnd.2 (by simpa using hlen) (fun a ha => by rw [List.length_set]; exact hlt a (List.mem_cons_of_mem _ ha)) h with ⟨j, h1, h2⟩ | ⟨h1, h2⟩
      · exact Or.inl ⟨j + 1, by simpa using h1, by simpa using h2⟩
      · by_cases hik : i = k
        · subst hik
          rw [List.getElem?_set_self (hlt i List.mem_cons_self)] at h2
          exact Or.inl ⟨0, rfl, h2⟩
        · rw [List.getElem?_set_ne hik] at h2
          exact Or.inr ⟨fun hm => by
            rcases List.mem_cons.mp hm with h3 | h3
            · exact hik h3.symm
            · exact h1 h3, h2⟩
theorem cv_at' {ws : va_W} {is : List Nat} {w : va_W} (hs : is.map (fun i => ws[i]?) = w.map some) (k : Nat) (q : Nat × va_E) (hq : w[k]? = some q) : ∃ i, is[k]? = some i ∧ ws[i]? = some q := by
  have h1 : (is.map (fun i => ws[i]?))[k]? = some (some q) := by rw [hs, List.getElem?_map, hq]; rfl
  rw [List.getElem?_map] at h1
  cases hi : is[k]? with
  | none => rw [hi] at h1; cases h1
  | some i => rw [hi] at h1; exact ⟨i, rfl, Option.some.inj h1⟩
theorem cv_at'' {ws : va_W} {is : List Nat} {w : va_W} (hs : is.map (fun i => ws[i]?) = w.map some) (k i : Nat) (hi : is[k]? = some i) : ∃ q, w[k]? = some q ∧ ws[i]? = some q := by
  have h1 : (is.map (fun i => ws[i]?))[k]? = some (ws[i]?) := by rw [List.getElem?_map, hi]; rfl
  rw [hs, List.getElem?_map] at h1
  cases hw : w[k]? with
  | none => rw [hw] at h1; cases h1
  | some q => rw [hw] at h1; exact ⟨q, rfl, (Option.some.inj h1).symm⟩
theorem cv_join {A0 : Nat → Prop} {D : va_G} {cl : List vw_C} {ws wc w1 : va_W} {H H1 : Heap} (hP : va_P D cl ws H) (hD : va_D A0 ws) (isC : List Nat) (hnd : isC.Nodup) (hC : isC.map (fun i => ws[i]?) = wc.map some) (hadr : w1.map (fun q => q.1) = wc.map (fun q => q.1))
    (hk : ∀ q : Nat, q < H.size → ¬ va_A wc H.size q → H1[q]? = H[q]?) (hP1 : va_P D cl w1 H1) : va_P D cl (cv_sets ws isC w1) H1 ∧ va_D A0 (cv_sets ws isC w1) := by
  have hl1 : isC.length = wc.length := by have := congrArg List.length hC; simpa using this
  have hl2 : w1.length = wc.length := by have := congrArg List.length hadr; simpa using this
  have hlt : ∀ i ∈ isC, i < ws.length := by
    intro i hi
    obtain ⟨k, hk'⟩ := List.getElem?_of_mem hi
    obtain ⟨q, _, h2⟩ := cv_at'' hC k i hk'
    exact (List.getElem?_eq_some_iff.mp h2).1
  have key : ∀ (k : Nat) (q : Nat × va_E), (cv_sets ws isC w1)[k]? = some q → (∃ q0, ws[k]? = some q0 ∧ q0.1 = q.1) := by
    intro k q h
    rcases cv_sets_at isC w1 ws k q hnd (hl1.trans hl2.symm) hlt h with ⟨j, h1, h2⟩ | ⟨_, h2⟩
    · obtain ⟨q0, h3, h4⟩ := cv_at'' hC j k h1
      refine ⟨q0, h4, ?_⟩
      have e1 : (w1.map (fun q => q.1))[j]? = some q.1 := by rw [List.getElem?_map, h2]; rfl
      rw [hadr, List.getElem?_map, h3] at e1
      exact Option.some.inj e1
    · exact ⟨q, h2, rfl⟩
  refine ⟨fun k q h => ?_, fun i j x y hx hy hxy => ?_, fun k q h => ?_⟩
  · rcases cv_sets_at isC w1 ws k q hnd (hl1.trans hl2.symm) hlt h with ⟨j, h1, h2⟩ | ⟨h1, h2⟩
    · exact hP1 j q h2
    · have hlq := (hP k q h2).lt
      refine (hP k q h2).kept (hk q.1 hlq (fun ha => ?_))
      rcases ha with ⟨k2, e, h3⟩ | h3
      · obtain ⟨j, h4, h5⟩ := cv_at' hC k2 (q.1, e) h3
        have hij := hD.1 k j q (q.1, e) h2 h5 rfl
        subst hij
        exact h1 (List.mem_of_getElem? h4)
      · omega
  · obtain ⟨x0, hx0, ex⟩ := key i x hx
    obtain ⟨y0, hy0, ey⟩ := key j y hy
    exact hD.1 i j x0 y0 hx0 hy0 (by rw [ex, ey, hxy])
  · obtain ⟨q0, h0, e0⟩ := key k q h
    have := hD.2 k q0 h0
    rwa [e0] at this

theorem cv_norm (ws' : va_W) (h : ws = ws') (kk : cv_V p l e R s m args below meth c cells slots Q nL D cl A pc L st ws') : cv_V p l e R s m args below meth c cells slots Q nL D cl A pc L st ws := h ▸ kk
theorem cv_loc (ks : List Nat) (L' : List (Nat × Value)) (h : lv_pick L ks = L') (kk : cv_V p l e R s m args below meth c cells slots Q nL D cl A pc L' st ws) : cv_V p l e R s m args below meth c cells slots Q nL D cl A pc L st ws := fun H locs ls hP hD hS hL => kk H locs ls hP hD hS (lv_sub hL ks h)
theorem cv_topi {x : Int32} (kk : ∀ y : Int32, y = x → cv_V p l e R s m args below meth c cells slots Q nL D cl A pc L (.int y :: st) ws) : cv_V p l e R s m args below meth c cells slots Q nL D cl A pc L (.int x :: st) ws := kk x rfl
theorem cv_topl {x : Int64} (kk : ∀ y : Int64, y = x → cv_V p l e R s m args below meth c cells slots Q nL D cl A pc L (.long y :: st) ws) : cv_V p l e R s m args below meth c cells slots Q nL D cl A pc L (.long x :: st) ws := kk x rfl
theorem cv_iconst (K : cv_K p s m args c cc nL own Ts D cl tys A) {n : Int} {v : Int32} (hdg : decode cc pc = .ok (.iconst n, 1)) (hv : Int32.ofInt n = v) (kk : cv_V p l e R s m args below meth c cells slots Q nL D cl A (pc + 1) L (.int v :: st) ws) : cv_V p l e R s m args below meth c cells slots Q nL D cl A pc L st ws := fun H locs ls hP hD hS hL => lv_iconst K.1 K.2.1 hdg hv (kk H locs ls hP hD hS hL)
theorem cv_bipush (K : cv_K p s m args c cc nL own Ts D cl tys A) {n : Int} {v : Int32} (hdg : decode cc pc = .ok (.bipush n, 2)) (hv : (Int8.ofInt n).toInt32 = v) (kk : cv_V p l e R s m args below meth c cells slots Q nL D cl A (pc + 2) L (.int v :: st) ws) : cv_V p l e R s m args below meth c cells slots Q nL D cl A pc L st ws := fun H locs ls hP hD hS hL => lv_bipush K.1 K.2.1 hdg hv (kk H locs ls hP hD hS hL)
theorem cv_sipush (K : cv_K p s m args c cc nL own Ts D cl tys A) {n : Int} {v : Int32} (hdg : decode cc pc = .ok (.sipush n, 3)) (hv : (Int16.ofInt n).toInt32 = v) (kk : cv_V p l e R s m args below meth c cells slots Q nL D cl A (pc + 3) L (.int v :: st) ws) : cv_V p l e R s m args below meth c cells slots Q nL D cl A pc L st ws := fun H locs ls hP hD hS hL => lv_sipush K.1 K.2.1 hdg hv (kk H locs ls hP hD hS hL)
theorem cv_lconst (K : cv_K p s m args c cc nL own Ts D cl tys A) {n : Fin 2} {v : Int64} (hdg : decode cc pc = .ok (.lconst n, 1)) (hv : Int64.ofNat (n : Nat) = v) (kk : cv_V p l e R s m args below meth c cells slots Q nL D cl A (pc + 1) L (.long v :: st) ws) : cv_V p l e R s m args below meth c cells slots Q nL D cl A pc L st ws := fun H locs ls hP hD hS hL => lv_lconst K.1 K.2.1 hdg hv (kk H locs ls hP hD hS hL)
theorem cv_iload_n (K : cv_K p s m args c cc nL own Ts D cl tys A) {k : Fin 4} {i : Nat} {x : Int32} (j : Nat) (hdg : decode cc pc = .ok (.iload_n k, 1)) (hi : (k : Nat) = i) (hl : L[j]? = some (i, .int x)) (kk : cv_V p l e R s m args below meth c cells slots Q nL D cl A (pc + 1) L (.int x :: st) ws) : cv_V p l e R s m args below meth c cells slots Q nL D cl A pc L st ws := fun H locs ls hP hD hS hL => lv_iload_n K.1 K.2.1 hdg hi (lv_at hL j hl) (kk H locs ls hP hD hS hL)
theorem cv_iload (K : cv_K p s m args c cc nL own Ts D cl tys A) {i : Nat} {x : Int32} (j : Nat) (hdg : decode cc pc = .ok (.iload i, 2)) (hl : L[j]? = some (i, .int x)) (kk : cv_V p l e R s m args below meth c cells slots Q nL D cl A (pc + 2) L (.int x :: st) ws) : cv_V p l e R s m args below meth c cells slots Q nL D cl A pc L st ws := fun H locs ls hP hD hS hL => lv_iload K.1 K.2.1 hdg (lv_at hL j hl) (kk H locs ls hP hD hS hL)
theorem cv_lload_n (K : cv_K p s m args c cc nL own Ts D cl tys A) {k : Fin 4} {i : Nat} {x : Int64} (j : Nat) (hdg : decode cc pc = .ok (.lload_n k, 1)) (hi : (k : Nat) = i) (hl : L[j]? = some (i, .long x)) (kk : cv_V p l e R s m args below meth c cells slots Q nL D cl A (pc + 1) L (.long x :: st) ws) : cv_V p l e R s m args below meth c cells slots Q nL D cl A pc L st ws := fun H locs ls hP hD hS hL => lv_lload_n K.1 K.2.1 hdg hi (lv_at hL j hl) (kk H locs ls hP hD hS hL)
theorem cv_lload (K : cv_K p s m args c cc nL own Ts D cl tys A) {i : Nat} {x : Int64} (j : Nat) (hdg : decode cc pc = .ok (.lload i, 2)) (hl : L[j]? = some (i, .long x)) (kk : cv_V p l e R s m args below meth c cells slots Q nL D cl A (pc + 2) L (.long x :: st) ws) : cv_V p l e R s m args below meth c cells slots Q nL D cl A pc L st ws := fun H locs ls hP hD hS hL => lv_lload K.1 K.2.1 hdg (lv_at hL j hl) (kk H locs ls hP hD hS hL)
theorem cv_aload_n (K : cv_K p s m args c cc nL own Ts D cl tys A) {k : Fin 4} {i : Nat} {x : Nat} (j : Nat) (hdg : decode cc pc = .ok (.aload_n k, 1)) (hi : (k : Nat) = i) (hl : L[j]? = some (i, .ref x)) (kk : cv_V p l e R s m args below meth c cells slots Q nL D cl A (pc + 1) L (.ref x :: st) ws) : cv_V p l e R s m args below meth c cells slots Q nL D cl A pc L st ws := fun H locs ls hP hD hS hL => lv_aload_n K.1 K.2.1 hdg hi (lv_at hL j hl) (kk H locs ls hP hD hS hL)
theorem cv_aload (K : cv_K p s m args c cc nL own Ts D cl tys A) {i : Nat} {x : Nat} (j : Nat) (hdg : decode cc pc = .ok (.aload i, 2)) (hl : L[j]? = some (i, .ref x)) (kk : cv_V p l e R s m args below meth c cells slots Q nL D cl A (pc + 2) L (.ref x :: st) ws) : cv_V p l e R s m args below meth c cells slots Q nL D cl A pc L st ws := fun H locs ls hP hD hS hL => lv_aload K.1 K.2.1 hdg (lv_at hL j hl) (kk H locs ls hP hD hS hL)
theorem cv_iadd (K : cv_K p s m args c cc nL own Ts D cl tys A) {x y : Int32} (hdg : decode cc pc = .ok (.iadd, 1))  (kk : cv_V p l e R s m args below meth c cells slots Q nL D cl A (pc + 1) L (.int (x + y) :: st) ws) : cv_V p l e R s m args below meth c cells slots Q nL D cl A pc L (.int y :: .int x :: st) ws := fun H locs ls hP hD hS hL => lv_iadd K.1 K.2.1 hdg (kk H locs ls hP hD hS hL)
theorem cv_isub (K : cv_K p s m args c cc nL own Ts D cl tys A) {x y : Int32} (hdg : decode cc pc = .ok (.isub, 1))  (kk : cv_V p l e R s m args below meth c cells slots Q nL D cl A (pc + 1) L (.int (x - y) :: st) ws) : cv_V p l e R s m args below meth c cells slots Q nL D cl A pc L (.int y :: .int x :: st) ws := fun H locs ls hP hD hS hL => lv_isub K.1 K.2.1 hdg (kk H locs ls hP hD hS hL)
theorem cv_imul (K : cv_K p s m args c cc nL own Ts D cl tys A) {x y : Int32} (hdg : decode cc pc = .ok (.imul, 1))  (kk : cv_V p l e R s m args below meth c cells slots Q nL D cl A (pc + 1) L (.int (x * y) :: st) ws) : cv_V p l e R s m args below meth c cells slots Q nL D cl A pc L (.int y :: .int x :: st) ws := fun H locs ls hP hD hS hL => lv_imul K.1 K.2.1 hdg (kk H locs ls hP hD hS hL)
theorem cv_iand (K : cv_K p s m args c cc nL own Ts D cl tys A) {x y : Int32} (hdg : decode cc pc = .ok (.iand, 1))  (kk : cv_V p l e R s m args below meth c cells slots Q nL D cl A (pc + 1) L (.int (x &&& y) :: st) ws) : cv_V p l e R s m args below meth c cells slots Q nL D cl A pc L (.int y :: .int x :: st) ws := fun H locs ls hP hD hS hL => lv_iand K.1 K.2.1 hdg (kk H locs ls hP hD hS hL)
theorem cv_ior (K : cv_K p s m args c cc nL own Ts D cl tys A) {x y : Int32} (hdg : decode cc pc = .ok (.ior, 1))  (kk : cv_V p l e R s m args below meth c cells slots Q nL D cl A (pc + 1) L (.int (x ||| y) :: st) ws) : cv_V p l e R s m args below meth c cells slots Q nL D cl A pc L (.int y :: .int x :: st) ws := fun H locs ls hP hD hS hL => lv_ior K.1 K.2.1 hdg (kk H locs ls hP hD hS hL)
theorem cv_ixor (K : cv_K p s m args c cc nL own Ts D cl tys A) {x y : Int32} (hdg : decode cc pc = .ok (.ixor, 1))  (kk : cv_V p l e R s m args below meth c cells slots Q nL D cl A (pc + 1) L (.int (x ^^^ y) :: st) ws) : cv_V p l e R s m args below meth c cells slots Q nL D cl A pc L (.int y :: .int x :: st) ws := fun H locs ls hP hD hS hL => lv_ixor K.1 K.2.1 hdg (kk H locs ls hP hD hS hL)
theorem cv_ishl (K : cv_K p s m args c cc nL own Ts D cl tys A) {x y : Int32} (hdg : decode cc pc = .ok (.ishl, 1))  (kk : cv_V p l e R s m args below meth c cells slots Q nL D cl A (pc + 1) L (.int (x <<< (y &&& 31)) :: st) ws) : cv_V p l e R s m args below meth c cells slots Q nL D cl A pc L (.int y :: .int x :: st) ws := fun H locs ls hP hD hS hL => lv_ishl K.1 K.2.1 hdg (kk H locs ls hP hD hS hL)
theorem cv_ishr (K : cv_K p s m args c cc nL own Ts D cl tys A) {x y : Int32} (hdg : decode cc pc = .ok (.ishr, 1))  (kk : cv_V p l e R s m args below meth c cells slots Q nL D cl A (pc + 1) L (.int (x >>> (y &&& 31)) :: st) ws) : cv_V p l e R s m args below meth c cells slots Q nL D cl A pc L (.int y :: .int x :: st) ws := fun H locs ls hP hD hS hL => lv_ishr K.1 K.2.1 hdg (kk H locs ls hP hD hS hL)
theorem cv_ladd (K : cv_K p s m args c cc nL own Ts D cl tys A) {x y : Int64} (hdg : decode cc pc = .ok (.ladd, 1))  (kk : cv_V p l e R s m args below meth c cells slots Q nL D cl A (pc + 1) L (.long (x + y) :: st) ws) : cv_V p l e R s m args below meth c cells slots Q nL D cl A pc L (.long y :: .long x :: st) ws := fun H locs ls hP hD hS hL => lv_ladd K.1 K.2.1 hdg (kk H locs ls hP hD hS hL)
theorem cv_lsub (K : cv_K p s m args c cc nL own Ts D cl tys A) {x y : Int64} (hdg : decode cc pc = .ok (.lsub, 1))  (kk : cv_V p l e R s m args below meth c cells slots Q nL D cl A (pc + 1) L (.long (x - y) :: st) ws) : cv_V p l e R s m args below meth c cells slots Q nL D cl A pc L (.long y :: .long x :: st) ws := fun H locs ls hP hD hS hL => lv_lsub K.1 K.2.1 hdg (kk H locs ls hP hD hS hL)
theorem cv_lmul (K : cv_K p s m args c cc nL own Ts D cl tys A) {x y : Int64} (hdg : decode cc pc = .ok (.lmul, 1))  (kk : cv_V p l e R s m args below meth c cells slots Q nL D cl A (pc + 1) L (.long (x * y) :: st) ws) : cv_V p l e R s m args below meth c cells slots Q nL D cl A pc L (.long y :: .long x :: st) ws := fun H locs ls hP hD hS hL => lv_lmul K.1 K.2.1 hdg (kk H locs ls hP hD hS hL)
theorem cv_land (K : cv_K p s m args c cc nL own Ts D cl tys A) {x y : Int64} (hdg : decode cc pc = .ok (.land, 1))  (kk : cv_V p l e R s m args below meth c cells slots Q nL D cl A (pc + 1) L (.long (x &&& y) :: st) ws) : cv_V p l e R s m args below meth c cells slots Q nL D cl A pc L (.long y :: .long x :: st) ws := fun H locs ls hP hD hS hL => lv_land K.1 K.2.1 hdg (kk H locs ls hP hD hS hL)
theorem cv_lor (K : cv_K p s m args c cc nL own Ts D cl tys A) {x y : Int64} (hdg : decode cc pc = .ok (.lor, 1))  (kk : cv_V p l e R s m args below meth c cells slots Q nL D cl A (pc + 1) L (.long (x ||| y) :: st) ws) : cv_V p l e R s m args below meth c cells slots Q nL D cl A pc L (.long y :: .long x :: st) ws := fun H locs ls hP hD hS hL => lv_lor K.1 K.2.1 hdg (kk H locs ls hP hD hS hL)
theorem cv_lxor (K : cv_K p s m args c cc nL own Ts D cl tys A) {x y : Int64} (hdg : decode cc pc = .ok (.lxor, 1))  (kk : cv_V p l e R s m args below meth c cells slots Q nL D cl A (pc + 1) L (.long (x ^^^ y) :: st) ws) : cv_V p l e R s m args below meth c cells slots Q nL D cl A pc L (.long y :: .long x :: st) ws := fun H locs ls hP hD hS hL => lv_lxor K.1 K.2.1 hdg (kk H locs ls hP hD hS hL)
theorem cv_idiv (K : cv_K p s m args c cc nL own Ts D cl tys A) {x y : Int32} (hdg : decode cc pc = .ok (.idiv, 1)) (hne : ¬ y = 0) (kk : cv_V p l e R s m args below meth c cells slots Q nL D cl A (pc + 1) L (.int (x / y) :: st) ws) : cv_V p l e R s m args below meth c cells slots Q nL D cl A pc L (.int y :: .int x :: st) ws := fun H locs ls hP hD hS hL => lv_idiv K.1 K.2.1 hdg hne (kk H locs ls hP hD hS hL)
theorem cv_irem (K : cv_K p s m args c cc nL own Ts D cl tys A) {x y : Int32} (hdg : decode cc pc = .ok (.irem, 1)) (hne : ¬ y = 0) (kk : cv_V p l e R s m args below meth c cells slots Q nL D cl A (pc + 1) L (.int (x - x / y * y) :: st) ws) : cv_V p l e R s m args below meth c cells slots Q nL D cl A pc L (.int y :: .int x :: st) ws := fun H locs ls hP hD hS hL => lv_irem K.1 K.2.1 hdg hne (kk H locs ls hP hD hS hL)
theorem cv_ldiv (K : cv_K p s m args c cc nL own Ts D cl tys A) {x y : Int64} (hdg : decode cc pc = .ok (.ldiv, 1)) (hne : ¬ y = 0) (kk : cv_V p l e R s m args below meth c cells slots Q nL D cl A (pc + 1) L (.long (x / y) :: st) ws) : cv_V p l e R s m args below meth c cells slots Q nL D cl A pc L (.long y :: .long x :: st) ws := fun H locs ls hP hD hS hL => lv_ldiv K.1 K.2.1 hdg hne (kk H locs ls hP hD hS hL)
theorem cv_lrem (K : cv_K p s m args c cc nL own Ts D cl tys A) {x y : Int64} (hdg : decode cc pc = .ok (.lrem, 1)) (hne : ¬ y = 0) (kk : cv_V p l e R s m args below meth c cells slots Q nL D cl A (pc + 1) L (.long (x - x / y * y) :: st) ws) : cv_V p l e R s m args below meth c cells slots Q nL D cl A pc L (.long y :: .long x :: st) ws := fun H locs ls hP hD hS hL => lv_lrem K.1 K.2.1 hdg hne (kk H locs ls hP hD hS hL)
theorem cv_iushr (K : cv_K p s m args c cc nL own Ts D cl tys A) {x y v : Int32} (hdg : decode cc pc = .ok (.iushr, 1)) (hv : (x.toUInt32 >>> (y.toUInt32 &&& Int32.toUInt32 31)).toInt32 = v) (kk : cv_V p l e R s m args below meth c cells slots Q nL D cl A (pc + 1) L (.int v :: st) ws) : cv_V p l e R s m args below meth c cells slots Q nL D cl A pc L (.int y :: .int x :: st) ws := fun H locs ls hP hD hS hL => lv_iushr K.1 K.2.1 hdg hv (kk H locs ls hP hD hS hL)
theorem cv_lushr (K : cv_K p s m args c cc nL own Ts D cl tys A) {x v : Int64} {y : Int32} (hdg : decode cc pc = .ok (.lushr, 1)) (hv : (x.toUInt64 >>> (y.toInt64.toUInt64 &&& Int64.toUInt64 63)).toInt64 = v) (kk : cv_V p l e R s m args below meth c cells slots Q nL D cl A (pc + 1) L (.long v :: st) ws) : cv_V p l e R s m args below meth c cells slots Q nL D cl A pc L (.int y :: .long x :: st) ws := fun H locs ls hP hD hS hL => lv_lushr K.1 K.2.1 hdg hv (kk H locs ls hP hD hS hL)
theorem cv_lshl (K : cv_K p s m args c cc nL own Ts D cl tys A) {x v : Int64} {y : Int32} (hdg : decode cc pc = .ok (.lshl, 1)) (hv : x <<< (y.toInt64 &&& 63) = v) (kk : cv_V p l e R s m args below meth c cells slots Q nL D cl A (pc + 1) L (.long v :: st) ws) : cv_V p l e R s m args below meth c cells slots Q nL D cl A pc L (.int y :: .long x :: st) ws := fun H locs ls hP hD hS hL => lv_lshl K.1 K.2.1 hdg hv (kk H locs ls hP hD hS hL)
theorem cv_lshr (K : cv_K p s m args c cc nL own Ts D cl tys A) {x v : Int64} {y : Int32} (hdg : decode cc pc = .ok (.lshr, 1)) (hv : x >>> (y.toInt64 &&& 63) = v) (kk : cv_V p l e R s m args below meth c cells slots Q nL D cl A (pc + 1) L (.long v :: st) ws) : cv_V p l e R s m args below meth c cells slots Q nL D cl A pc L (.int y :: .long x :: st) ws := fun H locs ls hP hD hS hL => lv_lshr K.1 K.2.1 hdg hv (kk H locs ls hP hD hS hL)
theorem cv_i2l (K : cv_K p s m args c cc nL own Ts D cl tys A) {x : Int32} {v : Int64} (hdg : decode cc pc = .ok (.i2l, 1)) (hv : x.toInt64 = v) (kk : cv_V p l e R s m args below meth c cells slots Q nL D cl A (pc + 1) L (.long v :: st) ws) : cv_V p l e R s m args below meth c cells slots Q nL D cl A pc L (.int x :: st) ws := fun H locs ls hP hD hS hL => lv_i2l K.1 K.2.1 hdg hv (kk H locs ls hP hD hS hL)
theorem cv_l2i (K : cv_K p s m args c cc nL own Ts D cl tys A) {x : Int64} {v : Int32} (hdg : decode cc pc = .ok (.l2i, 1)) (hv : x.toInt32 = v) (kk : cv_V p l e R s m args below meth c cells slots Q nL D cl A (pc + 1) L (.int v :: st) ws) : cv_V p l e R s m args below meth c cells slots Q nL D cl A pc L (.long x :: st) ws := fun H locs ls hP hD hS hL => lv_l2i K.1 K.2.1 hdg hv (kk H locs ls hP hD hS hL)
theorem cv_lcmp (K : cv_K p s m args c cc nL own Ts D cl tys A) {x y : Int64} (hdg : decode cc pc = .ok (.lcmp, 1))  (kk : cv_V p l e R s m args below meth c cells slots Q nL D cl A (pc + 1) L (.int (lg_cmp x y) :: st) ws) : cv_V p l e R s m args below meth c cells slots Q nL D cl A pc L (.long y :: .long x :: st) ws := fun H locs ls hP hD hS hL => W.lcmp K.1 K.2.1 hdg (kk H locs ls hP hD hS hL)
theorem cv_dup (K : cv_K p s m args c cc nL own Ts D cl tys A) {va : Value} (hdg : decode cc pc = .ok (.dup, 1)) (hva : va.category = 1) (kk : cv_V p l e R s m args below meth c cells slots Q nL D cl A (pc + 1) L (va :: va :: st) ws) : cv_V p l e R s m args below meth c cells slots Q nL D cl A pc L (va :: st) ws := fun H locs ls hP hD hS hL => lv_dup K.1 K.2.1 hdg hva (kk H locs ls hP hD hS hL)
theorem cv_pop (K : cv_K p s m args c cc nL own Ts D cl tys A) {va : Value} (hdg : decode cc pc = .ok (.pop, 1)) (hva : va.category = 1) (kk : cv_V p l e R s m args below meth c cells slots Q nL D cl A (pc + 1) L st ws) : cv_V p l e R s m args below meth c cells slots Q nL D cl A pc L (va :: st) ws := fun H locs ls hP hD hS hL => lv_pop K.1 K.2.1 hdg hva (kk H locs ls hP hD hS hL)
theorem cv_dup_x1 (K : cv_K p s m args c cc nL own Ts D cl tys A) {va vb : Value} (hdg : decode cc pc = .ok (.dup_x1, 1)) (hva : va.category = 1) (hvb : vb.category = 1) (kk : cv_V p l e R s m args below meth c cells slots Q nL D cl A (pc + 1) L (va :: vb :: va :: st) ws) : cv_V p l e R s m args below meth c cells slots Q nL D cl A pc L (va :: vb :: st) ws := fun H locs ls hP hD hS hL => lv_dup_x1 K.1 K.2.1 hdg hva hvb (kk H locs ls hP hD hS hL)
theorem cv_dup2 (K : cv_K p s m args c cc nL own Ts D cl tys A) {va vb : Value} (hdg : decode cc pc = .ok (.dup2, 1)) (hva : va.category = 1) (hvb : vb.category = 1) (kk : cv_V p l e R s m args below meth c cells slots Q nL D cl A (pc + 1) L (va :: vb :: va :: vb :: st) ws) : cv_V p l e R s m args below meth c cells slots Q nL D cl A pc L (va :: vb :: st) ws := fun H locs ls hP hD hS hL => lv_dup2_11 K.1 K.2.1 hdg hva hvb (kk H locs ls hP hD hS hL)
theorem cv_dup2l (K : cv_K p s m args c cc nL own Ts D cl tys A) {va : Value} (hdg : decode cc pc = .ok (.dup2, 1)) (hva : va.category = 2) (kk : cv_V p l e R s m args below meth c cells slots Q nL D cl A (pc + 1) L (va :: va :: st) ws) : cv_V p l e R s m args below meth c cells slots Q nL D cl A pc L (va :: st) ws := fun H locs ls hP hD hS hL => lv_dup2_2 K.1 K.2.1 hdg hva (kk H locs ls hP hD hS hL)
theorem cv_ldc (K : cv_K p s m args c cc nL own Ts D cl tys A) {index : Nat} {v : Int32} (hdg : decode cc pc = .ok (.ldc index, 2)) (hcw : Cond.constant own index v ∈ Ts) (kk : cv_V p l e R s m args below meth c cells slots Q nL D cl A (pc + 2) L (.int v :: st) ws) : cv_V p l e R s m args below meth c cells slots Q nL D cl A pc L st ws := fun H locs ls hP hD hS hL => lv_ldc K.1 K.2.1 K.2.2.2.1 (K.2.2.2.2.1 _ hcw) hdg (kk H locs ls hP hD hS hL)
theorem cv_ldc2 (K : cv_K p s m args c cc nL own Ts D cl tys A) {index : Nat} {v : Int64} (hdg : decode cc pc = .ok (.ldc2_w index, 3)) (hcw : Cond.constantLong own index v ∈ Ts) (kk : cv_V p l e R s m args below meth c cells slots Q nL D cl A (pc + 3) L (.long v :: st) ws) : cv_V p l e R s m args below meth c cells slots Q nL D cl A pc L st ws := fun H locs ls hP hD hS hL => lv_ldc2 K.1 K.2.1 K.2.2.2.1 (K.2.2.2.2.1 _ hcw) hdg (kk H locs ls hP hD hS hL)
theorem cv_istore_n (K : cv_K p s m args c cc nL own Ts D cl tys A) {k : Fin 4} {i : Nat} {x : Int32} (hdg : decode cc pc = .ok (.istore_n k, 1)) (L' : List (Nat × Value)) (hi : (k : Nat) = i) (hn : i < nL) (hl : (i, Value.int x) :: L.filter (fun q => !(q.1 == i) && !(q.1 + 1 == i && q.2.category == 2)) = L') (kk : cv_V p l e R s m args below meth c cells slots Q nL D cl A (pc + 1) L' st ws) : cv_V p l e R s m args below meth c cells slots Q nL D cl A pc L (.int x :: st) ws := fun H locs ls hP hD hS hL => lv_istore_n K.1 K.2.1 hdg hi hL hn hl (fun ls' hL' => kk H locs ls' hP hD hS hL')
theorem cv_istore (K : cv_K p s m args c cc nL own Ts D cl tys A) {i : Nat} {x : Int32} (hdg : decode cc pc = .ok (.istore i, 2)) (L' : List (Nat × Value)) (hn : i < nL) (hl : (i, Value.int x) :: L.filter (fun q => !(q.1 == i) && !(q.1 + 1 == i && q.2.category == 2)) = L') (kk : cv_V p l e R s m args below meth c cells slots Q nL D cl A (pc + 2) L' st ws) : cv_V p l e R s m args below meth c cells slots Q nL D cl A pc L (.int x :: st) ws := fun H locs ls hP hD hS hL => lv_istore K.1 K.2.1 hdg hL hn hl (fun ls' hL' => kk H locs ls' hP hD hS hL')
theorem cv_astore_n (K : cv_K p s m args c cc nL own Ts D cl tys A) {k : Fin 4} {i : Nat} {x : Nat} (hdg : decode cc pc = .ok (.astore_n k, 1)) (L' : List (Nat × Value)) (hi : (k : Nat) = i) (hn : i < nL) (hl : (i, Value.ref x) :: L.filter (fun q => !(q.1 == i) && !(q.1 + 1 == i && q.2.category == 2)) = L') (kk : cv_V p l e R s m args below meth c cells slots Q nL D cl A (pc + 1) L' st ws) : cv_V p l e R s m args below meth c cells slots Q nL D cl A pc L (.ref x :: st) ws := fun H locs ls hP hD hS hL => lv_astore_n K.1 K.2.1 hdg hi hL hn hl (fun ls' hL' => kk H locs ls' hP hD hS hL')
theorem cv_astore (K : cv_K p s m args c cc nL own Ts D cl tys A) {i : Nat} {x : Nat} (hdg : decode cc pc = .ok (.astore i, 2)) (L' : List (Nat × Value)) (hn : i < nL) (hl : (i, Value.ref x) :: L.filter (fun q => !(q.1 == i) && !(q.1 + 1 == i && q.2.category == 2)) = L') (kk : cv_V p l e R s m args below meth c cells slots Q nL D cl A (pc + 2) L' st ws) : cv_V p l e R s m args below meth c cells slots Q nL D cl A pc L (.ref x :: st) ws := fun H locs ls hP hD hS hL => lv_astore K.1 K.2.1 hdg hL hn hl (fun ls' hL' => kk H locs ls' hP hD hS hL')
theorem cv_lstore_n (K : cv_K p s m args c cc nL own Ts D cl tys A) {k : Fin 4} {i : Nat} {x : Int64} (hdg : decode cc pc = .ok (.lstore_n k, 1)) (L' : List (Nat × Value)) (hi : (k : Nat) = i) (hn : i + 1 < nL) (hl : (i, Value.long x) :: L.filter (fun q => !(q.1 == i) && (!(q.1 == i + 1) && !(q.1 + 1 == i && q.2.category == 2))) = L') (kk : cv_V p l e R s m args below meth c cells slots Q nL D cl A (pc + 1) L' st ws) : cv_V p l e R s m args below meth c cells slots Q nL D cl A pc L (.long x :: st) ws := fun H locs ls hP hD hS hL => lv_lstore_n K.1 K.2.1 hdg hi hL hn hl (fun ls' hL' => kk H locs ls' hP hD hS hL')
theorem cv_lstore (K : cv_K p s m args c cc nL own Ts D cl tys A) {i : Nat} {x : Int64} (hdg : decode cc pc = .ok (.lstore i, 2)) (L' : List (Nat × Value)) (hn : i + 1 < nL) (hl : (i, Value.long x) :: L.filter (fun q => !(q.1 == i) && (!(q.1 == i + 1) && !(q.1 + 1 == i && q.2.category == 2))) = L') (kk : cv_V p l e R s m args below meth c cells slots Q nL D cl A (pc + 2) L' st ws) : cv_V p l e R s m args below meth c cells slots Q nL D cl A pc L (.long x :: st) ws := fun H locs ls hP hD hS hL => lv_lstore K.1 K.2.1 hdg hL hn hl (fun ls' hL' => kk H locs ls' hP hD hS hL')
theorem cv_iinc (K : cv_K p s m args c cc nL own Ts D cl tys A) {i : Nat} {n : Int} {x v : Int32} (hdg : decode cc pc = .ok (.iinc i n, 3)) (L' : List (Nat × Value)) (j : Nat) (hk : L[j]? = some (i, .int x)) (hv : x + Int32.ofInt n = v) (hn : i < nL) (hl : (i, Value.int v) :: L.filter (fun q => !(q.1 == i) && !(q.1 + 1 == i && q.2.category == 2)) = L') (kk : cv_V p l e R s m args below meth c cells slots Q nL D cl A (pc + 3) L' st ws) : cv_V p l e R s m args below meth c cells slots Q nL D cl A pc L st ws := fun H locs ls hP hD hS hL => lv_iinc K.1 K.2.1 hdg hL hk hv hn hl (fun ls' hL' => kk H locs ls' hP hD hS hL')
theorem cv_if_eq (K : cv_K p s m args c cc nL own Ts D cl tys A) {x : Int32} {off : Int} (hdg : decode cc pc = .ok (.ifCond .eq off, 3)) (tgt : Nat) (ht : (pc : Int) + off = (tgt : Int)) (kt : x = 0 → cv_V p l e R s m args below meth c cells slots Q nL D cl A tgt L st ws) (kf : ¬ x = 0 → cv_V p l e R s m args below meth c cells slots Q nL D cl A (pc + 3) L st ws) : cv_V p l e R s m args below meth c cells slots Q nL D cl A pc L (.int x :: st) ws := fun H locs ls hP hD hS hL => lv_if_eq K.1 K.2.1 hdg ht (fun h => kt h H locs ls hP hD hS hL) (fun h => kf h H locs ls hP hD hS hL)
theorem cv_icmp_eq (K : cv_K p s m args c cc nL own Ts D cl tys A) {x y : Int32} {off : Int} (hdg : decode cc pc = .ok (.if_icmp .eq off, 3)) (tgt : Nat) (ht : (pc : Int) + off = (tgt : Int)) (kt : x = y → cv_V p l e R s m args below meth c cells slots Q nL D cl A tgt L st ws) (kf : ¬ x = y → cv_V p l e R s m args below meth c cells slots Q nL D cl A (pc + 3) L st ws) : cv_V p l e R s m args below meth c cells slots Q nL D cl A pc L (.int y :: .int x :: st) ws := fun H locs ls hP hD hS hL => lv_icmp_eq K.1 K.2.1 hdg ht (fun h => kt h H locs ls hP hD hS hL) (fun h => kf h H locs ls hP hD hS hL)
theorem cv_if_ne (K : cv_K p s m args c cc nL own Ts D cl tys A) {x : Int32} {off : Int} (hdg : decode cc pc = .ok (.ifCond .ne off, 3)) (tgt : Nat) (ht : (pc : Int) + off = (tgt : Int)) (kt : ¬ x = 0 → cv_V p l e R s m args below meth c cells slots Q nL D cl A tgt L st ws) (kf : x = 0 → cv_V p l e R s m args below meth c cells slots Q nL D cl A (pc + 3) L st ws) : cv_V p l e R s m args below meth c cells slots Q nL D cl A pc L (.int x :: st) ws := fun H locs ls hP hD hS hL => lv_if_ne K.1 K.2.1 hdg ht (fun h => kt h H locs ls hP hD hS hL) (fun h => kf h H locs ls hP hD hS hL)
theorem cv_icmp_ne (K : cv_K p s m args c cc nL own Ts D cl tys A) {x y : Int32} {off : Int} (hdg : decode cc pc = .ok (.if_icmp .ne off, 3)) (tgt : Nat) (ht : (pc : Int) + off = (tgt : Int)) (kt : ¬ x = y → cv_V p l e R s m args below meth c cells slots Q nL D cl A tgt L st ws) (kf : x = y → cv_V p l e R s m args below meth c cells slots Q nL D cl A (pc + 3) L st ws) : cv_V p l e R s m args below meth c cells slots Q nL D cl A pc L (.int y :: .int x :: st) ws := fun H locs ls hP hD hS hL => lv_icmp_ne K.1 K.2.1 hdg ht (fun h => kt h H locs ls hP hD hS hL) (fun h => kf h H locs ls hP hD hS hL)
theorem cv_if_lt (K : cv_K p s m args c cc nL own Ts D cl tys A) {x : Int32} {off : Int} (hdg : decode cc pc = .ok (.ifCond .lt off, 3)) (tgt : Nat) (ht : (pc : Int) + off = (tgt : Int)) (kt : x < 0 → cv_V p l e R s m args below meth c cells slots Q nL D cl A tgt L st ws) (kf : ¬ x < 0 → cv_V p l e R s m args below meth c cells slots Q nL D cl A (pc + 3) L st ws) : cv_V p l e R s m args below meth c cells slots Q nL D cl A pc L (.int x :: st) ws := fun H locs ls hP hD hS hL => lv_if_lt K.1 K.2.1 hdg ht (fun h => kt h H locs ls hP hD hS hL) (fun h => kf h H locs ls hP hD hS hL)
theorem cv_icmp_lt (K : cv_K p s m args c cc nL own Ts D cl tys A) {x y : Int32} {off : Int} (hdg : decode cc pc = .ok (.if_icmp .lt off, 3)) (tgt : Nat) (ht : (pc : Int) + off = (tgt : Int)) (kt : x < y → cv_V p l e R s m args below meth c cells slots Q nL D cl A tgt L st ws) (kf : ¬ x < y → cv_V p l e R s m args below meth c cells slots Q nL D cl A (pc + 3) L st ws) : cv_V p l e R s m args below meth c cells slots Q nL D cl A pc L (.int y :: .int x :: st) ws := fun H locs ls hP hD hS hL => lv_icmp_lt K.1 K.2.1 hdg ht (fun h => kt h H locs ls hP hD hS hL) (fun h => kf h H locs ls hP hD hS hL)
theorem cv_if_ge (K : cv_K p s m args c cc nL own Ts D cl tys A) {x : Int32} {off : Int} (hdg : decode cc pc = .ok (.ifCond .ge off, 3)) (tgt : Nat) (ht : (pc : Int) + off = (tgt : Int)) (kt : 0 ≤ x → cv_V p l e R s m args below meth c cells slots Q nL D cl A tgt L st ws) (kf : ¬ 0 ≤ x → cv_V p l e R s m args below meth c cells slots Q nL D cl A (pc + 3) L st ws) : cv_V p l e R s m args below meth c cells slots Q nL D cl A pc L (.int x :: st) ws := fun H locs ls hP hD hS hL => lv_if_ge K.1 K.2.1 hdg ht (fun h => kt h H locs ls hP hD hS hL) (fun h => kf h H locs ls hP hD hS hL)
theorem cv_icmp_ge (K : cv_K p s m args c cc nL own Ts D cl tys A) {x y : Int32} {off : Int} (hdg : decode cc pc = .ok (.if_icmp .ge off, 3)) (tgt : Nat) (ht : (pc : Int) + off = (tgt : Int)) (kt : y ≤ x → cv_V p l e R s m args below meth c cells slots Q nL D cl A tgt L st ws) (kf : ¬ y ≤ x → cv_V p l e R s m args below meth c cells slots Q nL D cl A (pc + 3) L st ws) : cv_V p l e R s m args below meth c cells slots Q nL D cl A pc L (.int y :: .int x :: st) ws := fun H locs ls hP hD hS hL => lv_icmp_ge K.1 K.2.1 hdg ht (fun h => kt h H locs ls hP hD hS hL) (fun h => kf h H locs ls hP hD hS hL)
theorem cv_if_gt (K : cv_K p s m args c cc nL own Ts D cl tys A) {x : Int32} {off : Int} (hdg : decode cc pc = .ok (.ifCond .gt off, 3)) (tgt : Nat) (ht : (pc : Int) + off = (tgt : Int)) (kt : 0 < x → cv_V p l e R s m args below meth c cells slots Q nL D cl A tgt L st ws) (kf : ¬ 0 < x → cv_V p l e R s m args below meth c cells slots Q nL D cl A (pc + 3) L st ws) : cv_V p l e R s m args below meth c cells slots Q nL D cl A pc L (.int x :: st) ws := fun H locs ls hP hD hS hL => lv_if_gt K.1 K.2.1 hdg ht (fun h => kt h H locs ls hP hD hS hL) (fun h => kf h H locs ls hP hD hS hL)
theorem cv_icmp_gt (K : cv_K p s m args c cc nL own Ts D cl tys A) {x y : Int32} {off : Int} (hdg : decode cc pc = .ok (.if_icmp .gt off, 3)) (tgt : Nat) (ht : (pc : Int) + off = (tgt : Int)) (kt : y < x → cv_V p l e R s m args below meth c cells slots Q nL D cl A tgt L st ws) (kf : ¬ y < x → cv_V p l e R s m args below meth c cells slots Q nL D cl A (pc + 3) L st ws) : cv_V p l e R s m args below meth c cells slots Q nL D cl A pc L (.int y :: .int x :: st) ws := fun H locs ls hP hD hS hL => lv_icmp_gt K.1 K.2.1 hdg ht (fun h => kt h H locs ls hP hD hS hL) (fun h => kf h H locs ls hP hD hS hL)
theorem cv_if_le (K : cv_K p s m args c cc nL own Ts D cl tys A) {x : Int32} {off : Int} (hdg : decode cc pc = .ok (.ifCond .le off, 3)) (tgt : Nat) (ht : (pc : Int) + off = (tgt : Int)) (kt : x ≤ 0 → cv_V p l e R s m args below meth c cells slots Q nL D cl A tgt L st ws) (kf : ¬ x ≤ 0 → cv_V p l e R s m args below meth c cells slots Q nL D cl A (pc + 3) L st ws) : cv_V p l e R s m args below meth c cells slots Q nL D cl A pc L (.int x :: st) ws := fun H locs ls hP hD hS hL => lv_if_le K.1 K.2.1 hdg ht (fun h => kt h H locs ls hP hD hS hL) (fun h => kf h H locs ls hP hD hS hL)
theorem cv_icmp_le (K : cv_K p s m args c cc nL own Ts D cl tys A) {x y : Int32} {off : Int} (hdg : decode cc pc = .ok (.if_icmp .le off, 3)) (tgt : Nat) (ht : (pc : Int) + off = (tgt : Int)) (kt : x ≤ y → cv_V p l e R s m args below meth c cells slots Q nL D cl A tgt L st ws) (kf : ¬ x ≤ y → cv_V p l e R s m args below meth c cells slots Q nL D cl A (pc + 3) L st ws) : cv_V p l e R s m args below meth c cells slots Q nL D cl A pc L (.int y :: .int x :: st) ws := fun H locs ls hP hD hS hL => lv_icmp_le K.1 K.2.1 hdg ht (fun h => kt h H locs ls hP hD hS hL) (fun h => kf h H locs ls hP hD hS hL)
theorem cv_goto (K : cv_K p s m args c cc nL own Ts D cl tys A) {off : Int} (hdg : decode cc pc = .ok (.goto off, 3)) (tgt : Nat) (ht : (pc : Int) + off = (tgt : Int)) (kk : cv_V p l e R s m args below meth c cells slots Q nL D cl A tgt L st ws) : cv_V p l e R s m args below meth c cells slots Q nL D cl A pc L st ws := fun H locs ls hP hD hS hL => lv_goto K.1 K.2.1 hdg ht (kk H locs ls hP hD hS hL)
theorem cv_lookup (K : cv_K p s m args c cc nL own Ts D cl tys A) {dflt : Int} {ps : Array (Int × Int)} {len : Nat} {x : Int32} (hdg : decode cc pc = .ok (.lookupswitch dflt ps, len)) (tgt : Nat) (hp : (ps.toList.zip (ps.toList.drop 1)).all (fun (a, next) => a.1 < next.1) = true) {off : Int} (ho : Op.lookupswitch.offset ps.toList dflt x.toInt = off) (ht : (pc : Int) + off = (tgt : Int)) (kk : cv_V p l e R s m args below meth c cells slots Q nL D cl A tgt L st ws) : cv_V p l e R s m args below meth c cells slots Q nL D cl A pc L (.int x :: st) ws := fun H locs ls hP hD hS hL => lv_lookup K.1 K.2.1 hdg hp ho ht (kk H locs ls hP hD hS hL)
theorem cv_tableIn (K : cv_K p s m args c cc nL own Ts D cl tys A) {dflt lo hi : Int} {offs : Array Int} {len : Nat} {x : Int32} (hdg : decode cc pc = .ok (.tableswitch dflt lo hi offs, len)) (tgt : Nat) (h1 : ¬ x.toInt < lo) (h2 : ¬ hi < x.toInt) {off : Int} (ho : offs[(x.toInt - lo).toNat]? = some off) (ht : (pc : Int) + off = (tgt : Int)) (kk : cv_V p l e R s m args below meth c cells slots Q nL D cl A tgt L st ws) : cv_V p l e R s m args below meth c cells slots Q nL D cl A pc L (.int x :: st) ws := fun H locs ls hP hD hS hL => lv_tableIn K.1 K.2.1 hdg h1 h2 ho ht (kk H locs ls hP hD hS hL)
theorem cv_tableOut (K : cv_K p s m args c cc nL own Ts D cl tys A) {dflt lo hi : Int} {offs : Array Int} {len : Nat} {x : Int32} (hdg : decode cc pc = .ok (.tableswitch dflt lo hi offs, len)) (tgt : Nat) (h : x.toInt < lo ∨ hi < x.toInt) (ht : (pc : Int) + dflt = (tgt : Int)) (kk : cv_V p l e R s m args below meth c cells slots Q nL D cl A tgt L st ws) : cv_V p l e R s m args below meth c cells slots Q nL D cl A pc L (.int x :: st) ws := fun H locs ls hP hD hS hL => lv_tableOut K.1 K.2.1 hdg h ht (kk H locs ls hP hD hS hL)
theorem cv_get (K : cv_K p s m args c cc nL own Ts D cl tys A) {C : String} {T : u_T} {N ci index a : Nat} {fs : List Value} {v : Value} (hdg : decode cc pc = .ok (.getfield index, 3)) (q0 k : Nat) (he : ws[q0]? = some (a, .inr (ci, fs))) (hc : cl[ci]? = some (C, T, N)) (hin : ∀ w ∈ u_ws C T N, w ∈ Ts) (hk : k < N) (hlink : Cond.fieldLink own index (T k).1 (T k).2.1 (T k).2.2.1 ∈ Ts) (hv : fs[k]? = some v) (kk : cv_V p l e R s m args below meth c cells slots Q nL D cl A (pc + 3) L (v :: st) ws) : cv_V p l e R s m args below meth c cells slots Q nL D cl A pc L (.ref a :: st) ws := fun H locs ls hP hD hS hL => va_get K.1 K.2.1 K.2.2.2.2.1 hin K.2.2.2.1 K.2.2.2.2.2.1 hP q0 he hc k hk (K.2.2.2.2.1 _ hlink) (fun _ h => h) hv hdg (kk H locs ls hP hD hS hL)
theorem cv_getN (K : cv_K p s m args c cc nL own Ts D cl tys A) {C host : String} {T : u_T} {N ci index a : Nat} {fs : List Value} {v : Value} (hdg : decode cc pc = .ok (.getfield index, 3)) (q0 k : Nat) (he : ws[q0]? = some (a, .inr (ci, fs))) (hc : cl[ci]? = some (C, T, N)) (hin : ∀ w ∈ u_ws C T N, w ∈ Ts) (hk : k < N) (hlink : Cond.fieldLinkNest own index (T k).1 (T k).2.1 (T k).2.2.1 host ∈ gn) (hv : fs[k]? = some v) (kk : cv_V p l e R s m args below meth c cells slots Q nL D cl A (pc + 3) L (v :: st) ws) : cv_V p l e R s m args below meth c cells slots Q nL D cl A pc L (.ref a :: st) ws := fun H locs ls hP hD hS hL => va_getN K.1 K.2.1 K.2.2.2.2.1 hin K.2.2.2.1 K.2.2.2.2.2.1 hP q0 he hc k hk (va_Nw.use rfl (K.2.2.2.2.2.2.2 _ hlink)) (fun _ h => h) hv hdg (kk H locs ls hP hD hS hL)
theorem cv_put (K : cv_K p s m args c cc nL own Ts D cl tys A) {C : String} {T : u_T} {N ci index a : Nat} {fs : List Value} {v : Value} (hdg : decode cc pc = .ok (.putfield index, 3)) (ws' : va_W) (q0 k : Nat) (he : ws[q0]? = some (a, .inr (ci, fs))) (hc : cl[ci]? = some (C, T, N)) (hin : ∀ w ∈ u_ws C T N, w ∈ Ts) (ty0 : Nat → FieldType) (hty : ∀ k, k < N → parseFieldDescriptor (T k).2.2.1 = some (ty0 k)) (hnm : ∀ a, a < N → ∀ b, b < N → a ≠ b → (T a).2.1 ≠ (T b).2.1) (hk : k < N) (hlink : Cond.fieldLink own index (T k).1 (T k).2.1 (T k).2.2.1 ∈ Ts) (hfin : (T k).2.2.2 = false) (hn : narrow (ty0 k) v = v) (hfit : fits (ty0 k) v = true) (hl : k < fs.length) (hw : ws.set q0 (a, .inr (ci, fs.set k v)) = ws') (kk : cv_V p l e R s m args below meth c cells slots Q nL D cl A (pc + 3) L st ws') : cv_V p l e R s m args below meth c cells slots Q nL D cl A pc L (v :: .ref a :: st) ws := fun H locs ls hP hD hS hL => va_put K.1 K.2.1 K.2.2.2.2.1 hin ty0 hty hnm K.2.2.2.1 K.2.2.2.2.2.1 hP hD hS q0 he hc k hk (K.2.2.2.2.1 _ hlink) (fun _ h => h) hfin (hty k hk) hn hfit hl hdg (fun H1 locs1 hP1 hD1 hS1 => kk H1 locs1 ls (hw ▸ hP1) (hw ▸ hD1) hS1 hL)
theorem cv_putN (K : cv_K p s m args c cc nL own Ts D cl tys A) {host : String} {C : String} {T : u_T} {N ci index a : Nat} {fs : List Value} {v : Value} (hdg : decode cc pc = .ok (.putfield index, 3)) (ws' : va_W) (q0 k : Nat) (he : ws[q0]? = some (a, .inr (ci, fs))) (hc : cl[ci]? = some (C, T, N)) (hin : ∀ w ∈ u_ws C T N, w ∈ Ts) (ty0 : Nat → FieldType) (hty : ∀ k, k < N → parseFieldDescriptor (T k).2.2.1 = some (ty0 k)) (hnm : ∀ a, a < N → ∀ b, b < N → a ≠ b → (T a).2.1 ≠ (T b).2.1) (hk : k < N) (hlink : Cond.fieldLinkNest own index (T k).1 (T k).2.1 (T k).2.2.1 host ∈ gn) (hfin : (T k).2.2.2 = false) (hn : narrow (ty0 k) v = v) (hfit : fits (ty0 k) v = true) (hl : k < fs.length) (hw : ws.set q0 (a, .inr (ci, fs.set k v)) = ws') (kk : cv_V p l e R s m args below meth c cells slots Q nL D cl A (pc + 3) L st ws') : cv_V p l e R s m args below meth c cells slots Q nL D cl A pc L (v :: .ref a :: st) ws := fun H locs ls hP hD hS hL => va_putN K.1 K.2.1 K.2.2.2.2.1 hin ty0 hty hnm K.2.2.2.1 K.2.2.2.2.2.1 hP hD hS q0 he hc k hk (va_Nw.use rfl (K.2.2.2.2.2.2.2 _ hlink)) (fun _ h => h) hfin (hty k hk) hn hfit hl hdg (fun H1 locs1 hP1 hD1 hS1 => kk H1 locs1 ls (hw ▸ hP1) (hw ▸ hD1) hS1 hL)
theorem cv_putF (K : cv_K p s m args c cc nL own Ts D cl tys A) {C : String} {T : u_T} {N ci index a : Nat} {fs : List Value} {v : Value} (hdg : decode cc pc = .ok (.putfield index, 3)) (ws' : va_W) (q0 k : Nat) (he : ws[q0]? = some (a, .inr (ci, fs))) (hc : cl[ci]? = some (C, T, N)) (hin : ∀ w ∈ u_ws C T N, w ∈ Ts) (ty0 : Nat → FieldType) (hty : ∀ k, k < N → parseFieldDescriptor (T k).2.2.1 = some (ty0 k)) (hnm : ∀ a, a < N → ∀ b, b < N → a ≠ b → (T a).2.1 ≠ (T b).2.1) (hk : k < N) (hin2 : meth.name = "<init>") (hlink : Cond.fieldLink own index (T k).1 (T k).2.1 (T k).2.2.1 ∈ Ts) (hfin : (T k).2.2.2 = true) (hdecl : (T k).1 = own) (hn : narrow (ty0 k) v = v) (hfit : fits (ty0 k) v = true) (hl : k < fs.length) (hw : ws.set q0 (a, .inr (ci, fs.set k v)) = ws') (kk : cv_V p l e R s m args below meth c cells slots Q nL D cl A (pc + 3) L st ws') : cv_V p l e R s m args below meth c cells slots Q nL D cl A pc L (v :: .ref a :: st) ws := fun H locs ls hP hD hS hL => va_putF K.1 K.2.1 K.2.2.2.2.1 hin ty0 hty hnm K.2.2.2.1 K.2.2.2.2.2.1 hP hD hS q0 he hc k hk (K.2.2.2.2.1 _ hlink) (fun _ h => h) hfin hin2 hdecl (hty k hk) hn hfit hl hdg (fun H1 locs1 hP1 hD1 hS1 => kk H1 locs1 ls (hw ▸ hP1) (hw ▸ hD1) hS1 hL)
theorem cv_iald (K : cv_K p s m args c cc nL own Ts D cl tys A) {a : Nat} {cA : ClassId} {n : Nat} {f : Nat → Int32} {i : Int32} (hdg : decode cc pc = .ok (.iaload, 1)) (q0 t0 : Nat) (ha : ws[q0]? = some (a, .inl (cA, n, .inl f))) (ht : tys[t0]? = some (cA, .int)) (hin : vp_in i n) (kk : cv_V p l e R s m args below meth c cells slots Q nL D cl A (pc + 1) L (.int (f i.toNatClampNeg) :: st) ws) : cv_V p l e R s m args below meth c cells slots Q nL D cl A pc L (.int i :: .ref a :: st) ws := fun H locs ls hP hD hS hL => va_iald K.1 K.2.1 K.2.2.2.2.2.1 hP q0 t0 ha ht hin hdg (kk H locs ls hP hD hS hL)
theorem cv_iast (K : cv_K p s m args c cc nL own Ts D cl tys A) {a : Nat} {cA : ClassId} {n : Nat} {f : Nat → Int32} {i x : Int32} (hdg : decode cc pc = .ok (.iastore, 1)) (ws' : va_W) (q0 t0 : Nat) (ha : ws[q0]? = some (a, .inl (cA, n, .inl f))) (ht : tys[t0]? = some (cA, .int)) (hin : vp_in i n) (hw : ws.set q0 (a, .inl (cA, n, .inl (upd f i.toNatClampNeg x))) = ws') (kk : cv_V p l e R s m args below meth c cells slots Q nL D cl A (pc + 1) L st ws') : cv_V p l e R s m args below meth c cells slots Q nL D cl A pc L (.int x :: .int i :: .ref a :: st) ws := fun H locs ls hP hD hS hL => va_iast K.1 K.2.1 K.2.2.2.2.2.1 hP hD hS q0 t0 ha ht hin hdg (fun H1 locs1 hP1 hD1 hS1 => kk H1 locs1 ls (hw ▸ hP1) (hw ▸ hD1) hS1 hL)
theorem cv_lald (K : cv_K p s m args c cc nL own Ts D cl tys A) {a : Nat} {cA : ClassId} {n : Nat} {f : Nat → Int64} {i : Int32} (hdg : decode cc pc = .ok (.laload, 1)) (q0 t0 : Nat) (ha : ws[q0]? = some (a, .inl (cA, n, .inr (.inl f)))) (ht : tys[t0]? = some (cA, .long)) (hin : vp_in i n) (kk : cv_V p l e R s m args below meth c cells slots Q nL D cl A (pc + 1) L (.long (f i.toNatClampNeg) :: st) ws) : cv_V p l e R s m args below meth c cells slots Q nL D cl A pc L (.int i :: .ref a :: st) ws := fun H locs ls hP hD hS hL => va_lald K.1 K.2.1 K.2.2.2.2.2.1 hP q0 t0 ha ht hin hdg (kk H locs ls hP hD hS hL)
theorem cv_last (K : cv_K p s m args c cc nL own Ts D cl tys A) {a : Nat} {cA : ClassId} {n : Nat} {f : Nat → Int64} {i : Int32} {x : Int64} (hdg : decode cc pc = .ok (.lastore, 1)) (ws' : va_W) (q0 t0 : Nat) (ha : ws[q0]? = some (a, .inl (cA, n, .inr (.inl f)))) (ht : tys[t0]? = some (cA, .long)) (hin : vp_in i n) (hw : ws.set q0 (a, .inl (cA, n, .inr (.inl (vp_updL f i.toNatClampNeg x)))) = ws') (kk : cv_V p l e R s m args below meth c cells slots Q nL D cl A (pc + 1) L st ws') : cv_V p l e R s m args below meth c cells slots Q nL D cl A pc L (.long x :: .int i :: .ref a :: st) ws := fun H locs ls hP hD hS hL => va_last K.1 K.2.1 K.2.2.2.2.2.1 hP hD hS q0 t0 ha ht hin hdg (fun H1 locs1 hP1 hD1 hS1 => kk H1 locs1 ls (hw ▸ hP1) (hw ▸ hD1) hS1 hL)
theorem cv_alen (K : cv_K p s m args c cc nL own Ts D cl tys A) {a : Nat} {cA : ClassId} {x : vp_A} {v : Int32} {ty : FieldType} (hdg : decode cc pc = .ok (.arraylength, 1)) (q0 t0 : Nat) (ha : ws[q0]? = some (a, .inl (cA, x))) (ht : tys[t0]? = some (cA, ty)) (hv : Int32.ofNat x.1 = v) (kk : cv_V p l e R s m args below meth c cells slots Q nL D cl A (pc + 1) L (.int v :: st) ws) : cv_V p l e R s m args below meth c cells slots Q nL D cl A pc L (.ref a :: st) ws := fun H locs ls hP hD hS hL => va_alen K.1 K.2.1 K.2.2.2.2.2.1 hP q0 t0 ha ht hv hdg (kk H locs ls hP hD hS hL)
/-- a method's start: its world -/
def cv_B (D : va_G) (cl : List vw_C) (tys : List (ClassId × FieldType)) (wc : va_W) (sz : Nat) : State → Prop := fun U => U.heap.size = sz ∧ va_P D cl wc U.heap ∧ va_K D cl tys U ∧ va_D (fun _ => True) wc ∧ cv_N U
theorem cv_blind {D : va_G} {cl : List vw_C} {tys : List (ClassId × FieldType)} {wc : va_W} {sz : Nat} {av : List Value} : FrameBlind (va_Pc av (cv_B D cl tys wc sz)) := fun a U g mk q => by
  obtain ⟨q0, q1, qP, qK, qD, qN⟩ := q
  exact ⟨q0, q1, qP, va_K.moved (u := U) (U := U.calling g mk a) (Vm.Alike.refl U.vm) qK, qD, cv_N.same (s := U) (U := U.calling g mk a) rfl qN⟩
/-- its end: the world behind it -/
def cv_E {τ : Type} (D : va_G) (cl : List vw_C) (tys : List (ClassId × FieldType)) (A : Nat → Prop) (w1 : τ → va_W) : τ → State → Prop := fun u t => va_P D cl (w1 u) t.heap ∧ va_K D cl tys t ∧ va_D A (w1 u)
/-- the contract of a method of kind i: from the world wc it answers and leaves the world w1, both out of res -/
def cv_Qi {τ : Type} (D : va_G) (cl : List vw_C) (tys : List (ClassId × FieldType)) (A : Nat → Prop) (res : τ) (rr : τ → Int32) (w1 : τ → va_W) : Array Value → State → Outcome → State → Prop := va_Qi (fun (r : Int32) (u : τ) => u = res ∧ r = rr u) (cv_E D cl tys A w1) A
def cv_Mi {τ : Type} (l : Launch) (y : MethodName) (wy : List Cond) (rm : Room) (D : va_G) (cl : List vw_C) (tys : List (ClassId × FieldType)) (av : List Value) (wc : va_W) (res : τ) (rr : τ → Int32) (w1 : τ → va_W) : Prop := ∀ sz : Nat, Met l y wy rm (va_Pc av (cv_B D cl tys wc sz)) (cv_Qi D cl tys (va_A wc sz) res rr w1) 0 0 (va_A wc sz)
theorem cv_starti {τ : Type} {res : τ} {rr : τ → Int32} {w1 : τ → va_W} {y : MethodName}  {rm : Room} {av : List Value} {wc : va_W} (hy : plainName y.cls = true)  (hlen : (lg_sl av).length ≤ nL) (L : List (Nat × Value)) (hL0 : lv_args 0 av = L)
    (body : ∀ (p : Program) (e : Env) (s : State) (m : MethodId) (below : List Frame) (meth : Method) (c : Code) (A : Nat → Prop), cv_K p s m av.toArray c cc nL y.cls gw D cl tys A → (meth.sig.returnType = (some .int) ∧ meth.locks = false ∧ meth.name = y.name) → cv_V p l e rm s m av.toArray below meth c 0 0 (MQ below (cv_Qi D cl tys A res rr w1) av.toArray s 0 0 A) nL D cl A 0 L [] wc) : cv_Mi l y (Cond.code y cc nL (some .int) :: gw) rm D cl tys av wc res rr w1 := by
  intro sz
  refine Met.ofW (cc := cc) (maxL := nL) (ret := some .int) hy rfl ?_
  intro p e s m args below meth c s₁ B hml hv
  obtain ⟨rfl, hsz, hP, hK, hD0, hN⟩ := hv
  subst hsz
  have hD := hD0.self (sz := s.heap.size)
  rw [lg_entry_eq]
  exact body p e s m below meth c (va_A wc s.heap.size) ⟨B.exec, B.bytes, hml, findClass_of_methodNamed B.named, fun w h => atoms_spec (ws := Cond.code y cc nL (some .int) :: gw) B.pre w (List.mem_cons_of_mem _ h), hK, fun q h => Or.inr h, hN⟩ ⟨B.returns, B.notSynchronized, (name_of_methodNamed B.named B.method).1⟩ s.heap [] _ hP hD va_S.rf (hL0 ▸ lv_entry av hlen)
theorem cv_reti {τ : Type} {res : τ} {rr : τ → Int32} {rv : Int32} {w1 : τ → va_W} (K : cv_K p s m args c cc nL own Ts D cl tys A) {nm : String} (hm : meth.sig.returnType = (some .int) ∧ meth.locks = false ∧ meth.name = nm) (hdg : decode cc pc = .ok (.ireturn, 1)) (leaf : τ) (hE : res = leaf) (hr : rv = rr leaf) (hw : ws = w1 leaf)  :
    cv_V p l e R s m args below meth c 0 0 (MQ below (cv_Qi D cl tys A res rr w1) args s 0 0 A) nL D cl A pc L [.int rv] ws := by
  intro H locs ls hP hD hS hL
  subst hE
  subst hw
  exact W.iret K.1 K.2.1 hm.1  (fun t ht hW => ⟨⟨_, _, rfl, ⟨rfl, hr⟩, by rw [ht]; exact hP, va_K.moved hW.alike K.2.2.2.2.2.1, hD⟩, hS.F ht⟩) hS.2.2 hdg hm.2.1
theorem cv_callVi {τ : Type} {res : τ} {rr : τ → Int32} {w1 : τ → va_W} (K : cv_K p s m args c cc nL own Ts D cl tys A) {y : MethodName} {wy : List Cond} {rm : Room} {bytes : ByteArray} {maxL n index : Nat} {b : Nat} {As rest : List Value} {wc : va_W} (hM : cv_Mi l y wy rm D cl tys (.ref b :: As) wc res rr w1) (hdg : decode cc pc = .ok (.invokevirtual index, 3)) {C : String} (cw : CallW R s args own C index y bytes maxL (some .int) wy rm 0 0 n) {T : u_T} {N ci : Nat} {fs : List Value} (q0 : Nat) (hq0 : ws[q0]? = some (b, .inr (ci, fs))) (hcl : cl[ci]? = some (C, T, N))
    (isC : List Nat) (hnd : va_nd isC = true) (hC : isC.map (fun i => ws[i]?) = wc.map some) (hadr : ∀ r, (w1 r).map (fun q => q.1) = wc.map (fun q => q.1)) (hstk : st = As.reverse ++ .ref b :: rest) (hlen : As.length = n) (hroom : (rest.map fun v => v.category).sum ≤ 8) (hfc : cells ≤ R.cells) (hfs : slots ≤ R.slots)
    (kk : ∀ r, r = res → cv_V p l e R s m args below meth c cells slots Q nL D cl A (pc + 3) L (.int (rr r) :: rest) (cv_sets ws isC (w1 r))) : cv_V p l e R s m args below meth c cells slots Q nL D cl A pc L st ws := by
  intro H locs ls hP hD hS hL
  have hFc := va_free hD hS K.2.2.2.2.2.2.1 isC hC
  refine va_calli (va_runV (As := As) (rest := rest) ⟨K.1, K.2.1, K.2.2.1, K.2.2.2.1, K.2.2.2.2.1⟩ (hM H.size) cw ⟨cv_blind, va_recv K.2.2.2.2.2.1 hP hcl hq0, fun U hU hW => ⟨rfl, by rw [hU], by rw [hU]; exact hP.sub isC (cv_fm hC), va_K.moved hW.alike K.2.2.2.2.2.1, (hD.sub isC hnd hC).weaken (fun _ _ _ _ => trivial), K.2.2.2.2.2.2.2.warm hW⟩⟩ rfl hlen hL.1 hstk (lv_room hroom) hdg ⟨hfc, hfs⟩) hS (fun q _ h => hFc q h) hFc (fun r u t H1 locs1 ht hvm hw hB hz1 hk1 hS1 => ?_)
  obtain ⟨rfl, rfl⟩ := hw
  obtain ⟨hP1, hK1, hD1⟩ := hB
  rw [ht] at hP1
  obtain ⟨hP2, hD2⟩ := cv_join hP hD isC (cv_nd hnd) hC (hadr _) hk1 hP1
  exact kk _ rfl H1 locs1 ls hP2 hD2 hS1 hL
theorem cv_callVNi {τ : Type} {res : τ} {rr : τ → Int32} {w1 : τ → va_W} (K : cv_K p s m args c cc nL own Ts D cl tys A) {y : MethodName} {wy : List Cond} {rm : Room} {bytes : ByteArray} {maxL n index : Nat} {b : Nat} {As rest : List Value} {wc : va_W} (hM : cv_Mi l y wy rm D cl tys (.ref b :: As) wc res rr w1) (hdg : decode cc pc = .ok (.invokevirtual index, 3)) {C host : String} (cw : va_CN R s args own index y host bytes maxL (some .int) wy rm 0 0 n ∧ (Cond.instanceMethod y).before args s = true ∧ (Cond.selects C y y).before args s = true) {T : u_T} {N ci : Nat} {fs : List Value} (q0 : Nat) (hq0 : ws[q0]? = some (b, .inr (ci, fs))) (hcl : cl[ci]? = some (C, T, N))
    (isC : List Nat) (hnd : va_nd isC = true) (hC : isC.map (fun i => ws[i]?) = wc.map some) (hadr : ∀ r, (w1 r).map (fun q => q.1) = wc.map (fun q => q.1)) (hstk : st = As.reverse ++ .ref b :: rest) (hlen : As.length = n) (hroom : (rest.map fun v => v.category).sum ≤ 8) (hfc : cells ≤ R.cells) (hfs : slots ≤ R.slots)
    (kk : ∀ r, r = res → cv_V p l e R s m args below meth c cells slots Q nL D cl A (pc + 3) L (.int (rr r) :: rest) (cv_sets ws isC (w1 r))) : cv_V p l e R s m args below meth c cells slots Q nL D cl A pc L st ws := by
  intro H locs ls hP hD hS hL
  have hFc := va_free hD hS K.2.2.2.2.2.2.1 isC hC
  refine va_calli (va_runVN (As := As) (rest := rest) ⟨K.1, K.2.1, K.2.2.1, K.2.2.2.1, K.2.2.2.2.1⟩ (hM H.size) cw ⟨cv_blind, va_recv K.2.2.2.2.2.1 hP hcl hq0, fun U hU hW => ⟨rfl, by rw [hU], by rw [hU]; exact hP.sub isC (cv_fm hC), va_K.moved hW.alike K.2.2.2.2.2.1, (hD.sub isC hnd hC).weaken (fun _ _ _ _ => trivial), K.2.2.2.2.2.2.2.warm hW⟩⟩ rfl hlen hL.1 hstk (lv_room hroom) hdg ⟨hfc, hfs⟩) hS (fun q _ h => hFc q h) hFc (fun r u t H1 locs1 ht hvm hw hB hz1 hk1 hS1 => ?_)
  obtain ⟨rfl, rfl⟩ := hw
  obtain ⟨hP1, hK1, hD1⟩ := hB
  rw [ht] at hP1
  obtain ⟨hP2, hD2⟩ := cv_join hP hD isC (cv_nd hnd) hC (hadr _) hk1 hP1
  exact kk _ rfl H1 locs1 ls hP2 hD2 hS1 hL
theorem cv_callSi {τ : Type} {res : τ} {rr : τ → Int32} {w1 : τ → va_W} (K : cv_K p s m args c cc nL own Ts D cl tys A) {y : MethodName} {wy : List Cond} {rm : Room} {bytes : ByteArray} {maxL n index : Nat}  {As rest : List Value} {wc : va_W} (hM : cv_Mi l y wy rm D cl tys (As) wc res rr w1) (hdg : decode cc pc = .ok (.invokestatic index, 3)) (cw : CallB R s args own index y bytes maxL (some .int) wy rm 0 0 n ∧ (Cond.static y).before args s = true)
    (isC : List Nat) (hnd : va_nd isC = true) (hC : isC.map (fun i => ws[i]?) = wc.map some) (hadr : ∀ r, (w1 r).map (fun q => q.1) = wc.map (fun q => q.1)) (hstk : st = As.reverse ++ rest) (hlen : As.length = n) (hroom : (rest.map fun v => v.category).sum ≤ 8) (hfc : cells ≤ R.cells) (hfs : slots ≤ R.slots)
    (kk : ∀ r, r = res → cv_V p l e R s m args below meth c cells slots Q nL D cl A (pc + 3) L (.int (rr r) :: rest) (cv_sets ws isC (w1 r))) : cv_V p l e R s m args below meth c cells slots Q nL D cl A pc L st ws := by
  intro H locs ls hP hD hS hL
  have hFc := va_free hD hS K.2.2.2.2.2.2.1 isC hC
  refine va_calli (va_runS (As := As) (rest := rest) ⟨K.1, K.2.1, K.2.2.1, K.2.2.2.1, K.2.2.2.2.1⟩ (hM H.size) cw ⟨cv_blind, fun U hU hW => ⟨rfl, by rw [hU], by rw [hU]; exact hP.sub isC (cv_fm hC), va_K.moved hW.alike K.2.2.2.2.2.1, (hD.sub isC hnd hC).weaken (fun _ _ _ _ => trivial), K.2.2.2.2.2.2.2.warm hW⟩⟩ rfl hlen hL.1 hstk (lv_room hroom) hdg ⟨hfc, hfs⟩) hS (fun q _ h => hFc q h) hFc (fun r u t H1 locs1 ht hvm hw hB hz1 hk1 hS1 => ?_)
  obtain ⟨rfl, rfl⟩ := hw
  obtain ⟨hP1, hK1, hD1⟩ := hB
  rw [ht] at hP1
  obtain ⟨hP2, hD2⟩ := cv_join hP hD isC (cv_nd hnd) hC (hadr _) hk1 hP1
  exact kk _ rfl H1 locs1 ls hP2 hD2 hS1 hL
theorem cv_callSNi {τ : Type} {res : τ} {rr : τ → Int32} {w1 : τ → va_W} (K : cv_K p s m args c cc nL own Ts D cl tys A) {y : MethodName} {wy : List Cond} {rm : Room} {bytes : ByteArray} {maxL n index : Nat}  {As rest : List Value} {wc : va_W} (hM : cv_Mi l y wy rm D cl tys (As) wc res rr w1) (hdg : decode cc pc = .ok (.invokestatic index, 3)) {host : String} (cw : va_CN R s args own index y host bytes maxL (some .int) wy rm 0 0 n ∧ (Cond.static y).before args s = true ∧ True)
    (isC : List Nat) (hnd : va_nd isC = true) (hC : isC.map (fun i => ws[i]?) = wc.map some) (hadr : ∀ r, (w1 r).map (fun q => q.1) = wc.map (fun q => q.1)) (hstk : st = As.reverse ++ rest) (hlen : As.length = n) (hroom : (rest.map fun v => v.category).sum ≤ 8) (hfc : cells ≤ R.cells) (hfs : slots ≤ R.slots)
    (kk : ∀ r, r = res → cv_V p l e R s m args below meth c cells slots Q nL D cl A (pc + 3) L (.int (rr r) :: rest) (cv_sets ws isC (w1 r))) : cv_V p l e R s m args below meth c cells slots Q nL D cl A pc L st ws := by
  intro H locs ls hP hD hS hL
  have hFc := va_free hD hS K.2.2.2.2.2.2.1 isC hC
  refine va_calli (va_runSN (As := As) (rest := rest) ⟨K.1, K.2.1, K.2.2.1, K.2.2.2.1, K.2.2.2.2.1⟩ (hM H.size) cw ⟨cv_blind, fun U hU hW => ⟨rfl, by rw [hU], by rw [hU]; exact hP.sub isC (cv_fm hC), va_K.moved hW.alike K.2.2.2.2.2.1, (hD.sub isC hnd hC).weaken (fun _ _ _ _ => trivial), K.2.2.2.2.2.2.2.warm hW⟩⟩ rfl hlen hL.1 hstk (lv_room hroom) hdg ⟨hfc, hfs⟩) hS (fun q _ h => hFc q h) hFc (fun r u t H1 locs1 ht hvm hw hB hz1 hk1 hS1 => ?_)
  obtain ⟨rfl, rfl⟩ := hw
  obtain ⟨hP1, hK1, hD1⟩ := hB
  rw [ht] at hP1
  obtain ⟨hP2, hD2⟩ := cv_join hP hD isC (cv_nd hnd) hC (hadr _) hk1 hP1
  exact kk _ rfl H1 locs1 ls hP2 hD2 hS1 hL
/-- the contract of a method of kind l: from the world wc it answers and leaves the world w1, both out of res -/
def cv_Ql {τ : Type} (D : va_G) (cl : List vw_C) (tys : List (ClassId × FieldType)) (A : Nat → Prop) (res : τ) (rr : τ → Int64) (w1 : τ → va_W) : Array Value → State → Outcome → State → Prop := va_Ql (fun (r : Int64) (u : τ) => u = res ∧ r = rr u) (cv_E D cl tys A w1) A
def cv_Ml {τ : Type} (l : Launch) (y : MethodName) (wy : List Cond) (rm : Room) (D : va_G) (cl : List vw_C) (tys : List (ClassId × FieldType)) (av : List Value) (wc : va_W) (res : τ) (rr : τ → Int64) (w1 : τ → va_W) : Prop := ∀ sz : Nat, Met l y wy rm (va_Pc av (cv_B D cl tys wc sz)) (cv_Ql D cl tys (va_A wc sz) res rr w1) 0 0 (va_A wc sz)
theorem cv_startl {τ : Type} {res : τ} {rr : τ → Int64} {w1 : τ → va_W} {y : MethodName}  {rm : Room} {av : List Value} {wc : va_W} (hy : plainName y.cls = true)  (hlen : (lg_sl av).length ≤ nL) (L : List (Nat × Value)) (hL0 : lv_args 0 av = L)
    (body : ∀ (p : Program) (e : Env) (s : State) (m : MethodId) (below : List Frame) (meth : Method) (c : Code) (A : Nat → Prop), cv_K p s m av.toArray c cc nL y.cls gw D cl tys A → (meth.sig.returnType = (some .long) ∧ meth.locks = false ∧ meth.name = y.name) → cv_V p l e rm s m av.toArray below meth c 0 0 (MQ below (cv_Ql D cl tys A res rr w1) av.toArray s 0 0 A) nL D cl A 0 L [] wc) : cv_Ml l y (Cond.code y cc nL (some .long) :: gw) rm D cl tys av wc res rr w1 := by
  intro sz
  refine Met.ofW (cc := cc) (maxL := nL) (ret := some .long) hy rfl ?_
  intro p e s m args below meth c s₁ B hml hv
  obtain ⟨rfl, hsz, hP, hK, hD0, hN⟩ := hv
  subst hsz
  have hD := hD0.self (sz := s.heap.size)
  rw [lg_entry_eq]
  exact body p e s m below meth c (va_A wc s.heap.size) ⟨B.exec, B.bytes, hml, findClass_of_methodNamed B.named, fun w h => atoms_spec (ws := Cond.code y cc nL (some .long) :: gw) B.pre w (List.mem_cons_of_mem _ h), hK, fun q h => Or.inr h, hN⟩ ⟨B.returns, B.notSynchronized, (name_of_methodNamed B.named B.method).1⟩ s.heap [] _ hP hD va_S.rf (hL0 ▸ lv_entry av hlen)
theorem cv_retl {τ : Type} {res : τ} {rr : τ → Int64} {rv : Int64} {w1 : τ → va_W} (K : cv_K p s m args c cc nL own Ts D cl tys A) {nm : String} (hm : meth.sig.returnType = (some .long) ∧ meth.locks = false ∧ meth.name = nm) (hdg : decode cc pc = .ok (.lreturn, 1)) (leaf : τ) (hE : res = leaf) (hr : rv = rr leaf) (hw : ws = w1 leaf)  :
    cv_V p l e R s m args below meth c 0 0 (MQ below (cv_Ql D cl tys A res rr w1) args s 0 0 A) nL D cl A pc L [.long rv] ws := by
  intro H locs ls hP hD hS hL
  subst hE
  subst hw
  exact W.lret K.1 K.2.1 hm.1  (fun t ht hW => ⟨⟨_, _, rfl, ⟨rfl, hr⟩, by rw [ht]; exact hP, va_K.moved hW.alike K.2.2.2.2.2.1, hD⟩, hS.F ht⟩) hS.2.2 hdg hm.2.1
theorem cv_callVl {τ : Type} {res : τ} {rr : τ → Int64} {w1 : τ → va_W} (K : cv_K p s m args c cc nL own Ts D cl tys A) {y : MethodName} {wy : List Cond} {rm : Room} {bytes : ByteArray} {maxL n index : Nat} {b : Nat} {As rest : List Value} {wc : va_W} (hM : cv_Ml l y wy rm D cl tys (.ref b :: As) wc res rr w1) (hdg : decode cc pc = .ok (.invokevirtual index, 3)) {C : String} (cw : CallW R s args own C index y bytes maxL (some .long) wy rm 0 0 n) {T : u_T} {N ci : Nat} {fs : List Value} (q0 : Nat) (hq0 : ws[q0]? = some (b, .inr (ci, fs))) (hcl : cl[ci]? = some (C, T, N))
    (isC : List Nat) (hnd : va_nd isC = true) (hC : isC.map (fun i => ws[i]?) = wc.map some) (hadr : ∀ r, (w1 r).map (fun q => q.1) = wc.map (fun q => q.1)) (hstk : st = As.reverse ++ .ref b :: rest) (hlen : As.length = n) (hroom : (rest.map fun v => v.category).sum ≤ 8) (hfc : cells ≤ R.cells) (hfs : slots ≤ R.slots)
    (kk : ∀ r, r = res → cv_V p l e R s m args below meth c cells slots Q nL D cl A (pc + 3) L (.long (rr r) :: rest) (cv_sets ws isC (w1 r))) : cv_V p l e R s m args below meth c cells slots Q nL D cl A pc L st ws := by
  intro H locs ls hP hD hS hL
  have hFc := va_free hD hS K.2.2.2.2.2.2.1 isC hC
  refine va_calll (va_runV (As := As) (rest := rest) ⟨K.1, K.2.1, K.2.2.1, K.2.2.2.1, K.2.2.2.2.1⟩ (hM H.size) cw ⟨cv_blind, va_recv K.2.2.2.2.2.1 hP hcl hq0, fun U hU hW => ⟨rfl, by rw [hU], by rw [hU]; exact hP.sub isC (cv_fm hC), va_K.moved hW.alike K.2.2.2.2.2.1, (hD.sub isC hnd hC).weaken (fun _ _ _ _ => trivial), K.2.2.2.2.2.2.2.warm hW⟩⟩ rfl hlen hL.1 hstk (lv_room hroom) hdg ⟨hfc, hfs⟩) hS (fun q _ h => hFc q h) hFc (fun r u t H1 locs1 ht hvm hw hB hz1 hk1 hS1 => ?_)
  obtain ⟨rfl, rfl⟩ := hw
  obtain ⟨hP1, hK1, hD1⟩ := hB
  rw [ht] at hP1
  obtain ⟨hP2, hD2⟩ := cv_join hP hD isC (cv_nd hnd) hC (hadr _) hk1 hP1
  exact kk _ rfl H1 locs1 ls hP2 hD2 hS1 hL
theorem cv_callVNl {τ : Type} {res : τ} {rr : τ → Int64} {w1 : τ → va_W} (K : cv_K p s m args c cc nL own Ts D cl tys A) {y : MethodName} {wy : List Cond} {rm : Room} {bytes : ByteArray} {maxL n index : Nat} {b : Nat} {As rest : List Value} {wc : va_W} (hM : cv_Ml l y wy rm D cl tys (.ref b :: As) wc res rr w1) (hdg : decode cc pc = .ok (.invokevirtual index, 3)) {C host : String} (cw : va_CN R s args own index y host bytes maxL (some .long) wy rm 0 0 n ∧ (Cond.instanceMethod y).before args s = true ∧ (Cond.selects C y y).before args s = true) {T : u_T} {N ci : Nat} {fs : List Value} (q0 : Nat) (hq0 : ws[q0]? = some (b, .inr (ci, fs))) (hcl : cl[ci]? = some (C, T, N))
    (isC : List Nat) (hnd : va_nd isC = true) (hC : isC.map (fun i => ws[i]?) = wc.map some) (hadr : ∀ r, (w1 r).map (fun q => q.1) = wc.map (fun q => q.1)) (hstk : st = As.reverse ++ .ref b :: rest) (hlen : As.length = n) (hroom : (rest.map fun v => v.category).sum ≤ 8) (hfc : cells ≤ R.cells) (hfs : slots ≤ R.slots)
    (kk : ∀ r, r = res → cv_V p l e R s m args below meth c cells slots Q nL D cl A (pc + 3) L (.long (rr r) :: rest) (cv_sets ws isC (w1 r))) : cv_V p l e R s m args below meth c cells slots Q nL D cl A pc L st ws := by
  intro H locs ls hP hD hS hL
  have hFc := va_free hD hS K.2.2.2.2.2.2.1 isC hC
  refine va_calll (va_runVN (As := As) (rest := rest) ⟨K.1, K.2.1, K.2.2.1, K.2.2.2.1, K.2.2.2.2.1⟩ (hM H.size) cw ⟨cv_blind, va_recv K.2.2.2.2.2.1 hP hcl hq0, fun U hU hW => ⟨rfl, by rw [hU], by rw [hU]; exact hP.sub isC (cv_fm hC), va_K.moved hW.alike K.2.2.2.2.2.1, (hD.sub isC hnd hC).weaken (fun _ _ _ _ => trivial), K.2.2.2.2.2.2.2.warm hW⟩⟩ rfl hlen hL.1 hstk (lv_room hroom) hdg ⟨hfc, hfs⟩) hS (fun q _ h => hFc q h) hFc (fun r u t H1 locs1 ht hvm hw hB hz1 hk1 hS1 => ?_)
  obtain ⟨rfl, rfl⟩ := hw
  obtain ⟨hP1, hK1, hD1⟩ := hB
  rw [ht] at hP1
  obtain ⟨hP2, hD2⟩ := cv_join hP hD isC (cv_nd hnd) hC (hadr _) hk1 hP1
  exact kk _ rfl H1 locs1 ls hP2 hD2 hS1 hL
theorem cv_callSl {τ : Type} {res : τ} {rr : τ → Int64} {w1 : τ → va_W} (K : cv_K p s m args c cc nL own Ts D cl tys A) {y : MethodName} {wy : List Cond} {rm : Room} {bytes : ByteArray} {maxL n index : Nat}  {As rest : List Value} {wc : va_W} (hM : cv_Ml l y wy rm D cl tys (As) wc res rr w1) (hdg : decode cc pc = .ok (.invokestatic index, 3)) (cw : CallB R s args own index y bytes maxL (some .long) wy rm 0 0 n ∧ (Cond.static y).before args s = true)
    (isC : List Nat) (hnd : va_nd isC = true) (hC : isC.map (fun i => ws[i]?) = wc.map some) (hadr : ∀ r, (w1 r).map (fun q => q.1) = wc.map (fun q => q.1)) (hstk : st = As.reverse ++ rest) (hlen : As.length = n) (hroom : (rest.map fun v => v.category).sum ≤ 8) (hfc : cells ≤ R.cells) (hfs : slots ≤ R.slots)
    (kk : ∀ r, r = res → cv_V p l e R s m args below meth c cells slots Q nL D cl A (pc + 3) L (.long (rr r) :: rest) (cv_sets ws isC (w1 r))) : cv_V p l e R s m args below meth c cells slots Q nL D cl A pc L st ws := by
  intro H locs ls hP hD hS hL
  have hFc := va_free hD hS K.2.2.2.2.2.2.1 isC hC
  refine va_calll (va_runS (As := As) (rest := rest) ⟨K.1, K.2.1, K.2.2.1, K.2.2.2.1, K.2.2.2.2.1⟩ (hM H.size) cw ⟨cv_blind, fun U hU hW => ⟨rfl, by rw [hU], by rw [hU]; exact hP.sub isC (cv_fm hC), va_K.moved hW.alike K.2.2.2.2.2.1, (hD.sub isC hnd hC).weaken (fun _ _ _ _ => trivial), K.2.2.2.2.2.2.2.warm hW⟩⟩ rfl hlen hL.1 hstk (lv_room hroom) hdg ⟨hfc, hfs⟩) hS (fun q _ h => hFc q h) hFc (fun r u t H1 locs1 ht hvm hw hB hz1 hk1 hS1 => ?_)
  obtain ⟨rfl, rfl⟩ := hw
  obtain ⟨hP1, hK1, hD1⟩ := hB
  rw [ht] at hP1
  obtain ⟨hP2, hD2⟩ := cv_join hP hD isC (cv_nd hnd) hC (hadr _) hk1 hP1
  exact kk _ rfl H1 locs1 ls hP2 hD2 hS1 hL
theorem cv_callSNl {τ : Type} {res : τ} {rr : τ → Int64} {w1 : τ → va_W} (K : cv_K p s m args c cc nL own Ts D cl tys A) {y : MethodName} {wy : List Cond} {rm : Room} {bytes : ByteArray} {maxL n index : Nat}  {As rest : List Value} {wc : va_W} (hM : cv_Ml l y wy rm D cl tys (As) wc res rr w1) (hdg : decode cc pc = .ok (.invokestatic index, 3)) {host : String} (cw : va_CN R s args own index y host bytes maxL (some .long) wy rm 0 0 n ∧ (Cond.static y).before args s = true ∧ True)
    (isC : List Nat) (hnd : va_nd isC = true) (hC : isC.map (fun i => ws[i]?) = wc.map some) (hadr : ∀ r, (w1 r).map (fun q => q.1) = wc.map (fun q => q.1)) (hstk : st = As.reverse ++ rest) (hlen : As.length = n) (hroom : (rest.map fun v => v.category).sum ≤ 8) (hfc : cells ≤ R.cells) (hfs : slots ≤ R.slots)
    (kk : ∀ r, r = res → cv_V p l e R s m args below meth c cells slots Q nL D cl A (pc + 3) L (.long (rr r) :: rest) (cv_sets ws isC (w1 r))) : cv_V p l e R s m args below meth c cells slots Q nL D cl A pc L st ws := by
  intro H locs ls hP hD hS hL
  have hFc := va_free hD hS K.2.2.2.2.2.2.1 isC hC
  refine va_calll (va_runSN (As := As) (rest := rest) ⟨K.1, K.2.1, K.2.2.1, K.2.2.2.1, K.2.2.2.2.1⟩ (hM H.size) cw ⟨cv_blind, fun U hU hW => ⟨rfl, by rw [hU], by rw [hU]; exact hP.sub isC (cv_fm hC), va_K.moved hW.alike K.2.2.2.2.2.1, (hD.sub isC hnd hC).weaken (fun _ _ _ _ => trivial), K.2.2.2.2.2.2.2.warm hW⟩⟩ rfl hlen hL.1 hstk (lv_room hroom) hdg ⟨hfc, hfs⟩) hS (fun q _ h => hFc q h) hFc (fun r u t H1 locs1 ht hvm hw hB hz1 hk1 hS1 => ?_)
  obtain ⟨rfl, rfl⟩ := hw
  obtain ⟨hP1, hK1, hD1⟩ := hB
  rw [ht] at hP1
  obtain ⟨hP2, hD2⟩ := cv_join hP hD isC (cv_nd hnd) hC (hadr _) hk1 hP1
  exact kk _ rfl H1 locs1 ls hP2 hD2 hS1 hL
/-- the contract of a method of kind v: from the world wc it answers and leaves the world w1, both out of res -/
def cv_Qv {τ : Type} (D : va_G) (cl : List vw_C) (tys : List (ClassId × FieldType)) (A : Nat → Prop) (res : τ)  (w1 : τ → va_W) : Array Value → State → Outcome → State → Prop := va_Qv (fun (u : τ) => u = res) (cv_E D cl tys A w1) A
def cv_Mv {τ : Type} (l : Launch) (y : MethodName) (wy : List Cond) (rm : Room) (D : va_G) (cl : List vw_C) (tys : List (ClassId × FieldType)) (av : List Value) (wc : va_W) (res : τ)  (w1 : τ → va_W) : Prop := ∀ sz : Nat, Met l y wy rm (va_Pc av (cv_B D cl tys wc sz)) (cv_Qv D cl tys (va_A wc sz) res  w1) 0 0 (va_A wc sz)
theorem cv_startv {τ : Type} {res : τ}  {w1 : τ → va_W} {y : MethodName}  {rm : Room} {av : List Value} {wc : va_W} (hy : plainName y.cls = true)  (hlen : (lg_sl av).length ≤ nL) (L : List (Nat × Value)) (hL0 : lv_args 0 av = L)
    (body : ∀ (p : Program) (e : Env) (s : State) (m : MethodId) (below : List Frame) (meth : Method) (c : Code) (A : Nat → Prop), cv_K p s m av.toArray c cc nL y.cls gw D cl tys A → (meth.sig.returnType = (none) ∧ meth.locks = false ∧ meth.name = y.name) → cv_V p l e rm s m av.toArray below meth c 0 0 (MQ below (cv_Qv D cl tys A res  w1) av.toArray s 0 0 A) nL D cl A 0 L [] wc) : cv_Mv l y (Cond.code y cc nL (none) :: gw) rm D cl tys av wc res  w1 := by
  intro sz
  refine Met.ofW (cc := cc) (maxL := nL) (ret := none) hy rfl ?_
  intro p e s m args below meth c s₁ B hml hv
  obtain ⟨rfl, hsz, hP, hK, hD0, hN⟩ := hv
  subst hsz
  have hD := hD0.self (sz := s.heap.size)
  rw [lg_entry_eq]
  exact body p e s m below meth c (va_A wc s.heap.size) ⟨B.exec, B.bytes, hml, findClass_of_methodNamed B.named, fun w h => atoms_spec (ws := Cond.code y cc nL (none) :: gw) B.pre w (List.mem_cons_of_mem _ h), hK, fun q h => Or.inr h, hN⟩ ⟨B.returns, B.notSynchronized, (name_of_methodNamed B.named B.method).1⟩ s.heap [] _ hP hD va_S.rf (hL0 ▸ lv_entry av hlen)
theorem cv_retv {τ : Type} {res : τ}  {w1 : τ → va_W} (K : cv_K p s m args c cc nL own Ts D cl tys A) {nm : String} (hm : meth.sig.returnType = (none) ∧ meth.locks = false ∧ meth.name = nm) (hdg : decode cc pc = .ok (.return_, 1)) (leaf : τ) (hE : res = leaf)  (hw : ws = w1 leaf)  :
    cv_V p l e R s m args below meth c 0 0 (MQ below (cv_Qv D cl tys A res  w1) args s 0 0 A) nL D cl A pc L [] ws := by
  intro H locs ls hP hD hS hL
  subst hE
  subst hw
  exact W.vret K.1 K.2.1 hm.1  (fun t ht hW => ⟨⟨_, rfl, rfl, by rw [ht]; exact hP, va_K.moved hW.alike K.2.2.2.2.2.1, hD⟩, hS.F ht⟩) hS.2.2 hdg hm.2.1
theorem cv_callVv {τ : Type} {res : τ}  {w1 : τ → va_W} (K : cv_K p s m args c cc nL own Ts D cl tys A) {y : MethodName} {wy : List Cond} {rm : Room} {bytes : ByteArray} {maxL n index : Nat} {b : Nat} {As rest : List Value} {wc : va_W} (hM : cv_Mv l y wy rm D cl tys (.ref b :: As) wc res  w1) (hdg : decode cc pc = .ok (.invokevirtual index, 3)) {C : String} (cw : CallW R s args own C index y bytes maxL (none) wy rm 0 0 n) {T : u_T} {N ci : Nat} {fs : List Value} (q0 : Nat) (hq0 : ws[q0]? = some (b, .inr (ci, fs))) (hcl : cl[ci]? = some (C, T, N))
    (isC : List Nat) (hnd : va_nd isC = true) (hC : isC.map (fun i => ws[i]?) = wc.map some) (hadr : ∀ r, (w1 r).map (fun q => q.1) = wc.map (fun q => q.1)) (hstk : st = As.reverse ++ .ref b :: rest) (hlen : As.length = n) (hroom : (rest.map fun v => v.category).sum ≤ 8) (hfc : cells ≤ R.cells) (hfs : slots ≤ R.slots)
    (kk : ∀ r, r = res → cv_V p l e R s m args below meth c cells slots Q nL D cl A (pc + 3) L rest (cv_sets ws isC (w1 r))) : cv_V p l e R s m args below meth c cells slots Q nL D cl A pc L st ws := by
  intro H locs ls hP hD hS hL
  have hFc := va_free hD hS K.2.2.2.2.2.2.1 isC hC
  refine va_callv (va_runV (As := As) (rest := rest) ⟨K.1, K.2.1, K.2.2.1, K.2.2.2.1, K.2.2.2.2.1⟩ (hM H.size) cw ⟨cv_blind, va_recv K.2.2.2.2.2.1 hP hcl hq0, fun U hU hW => ⟨rfl, by rw [hU], by rw [hU]; exact hP.sub isC (cv_fm hC), va_K.moved hW.alike K.2.2.2.2.2.1, (hD.sub isC hnd hC).weaken (fun _ _ _ _ => trivial), K.2.2.2.2.2.2.2.warm hW⟩⟩ rfl hlen hL.1 hstk (lv_room hroom) hdg ⟨hfc, hfs⟩) hS (fun q _ h => hFc q h) hFc (fun u t H1 locs1 ht hvm hw hB hz1 hk1 hS1 => ?_)
  subst hw
  obtain ⟨hP1, hK1, hD1⟩ := hB
  rw [ht] at hP1
  obtain ⟨hP2, hD2⟩ := cv_join hP hD isC (cv_nd hnd) hC (hadr _) hk1 hP1
  exact kk _ rfl H1 locs1 ls hP2 hD2 hS1 hL
theorem cv_callVNv {τ : Type} {res : τ}  {w1 : τ → va_W} (K : cv_K p s m args c cc nL own Ts D cl tys A) {y : MethodName} {wy : List Cond} {rm : Room} {bytes : ByteArray} {maxL n index : Nat} {b : Nat} {As rest : List Value} {wc : va_W} (hM : cv_Mv l y wy rm D cl tys (.ref b :: As) wc res  w1) (hdg : decode cc pc = .ok (.invokevirtual index, 3)) {C host : String} (cw : va_CN R s args own index y host bytes maxL (none) wy rm 0 0 n ∧ (Cond.instanceMethod y).before args s = true ∧ (Cond.selects C y y).before args s = true) {T : u_T} {N ci : Nat} {fs : List Value} (q0 : Nat) (hq0 : ws[q0]? = some (b, .inr (ci, fs))) (hcl : cl[ci]? = some (C, T, N))
    (isC : List Nat) (hnd : va_nd isC = true) (hC : isC.map (fun i => ws[i]?) = wc.map some) (hadr : ∀ r, (w1 r).map (fun q => q.1) = wc.map (fun q => q.1)) (hstk : st = As.reverse ++ .ref b :: rest) (hlen : As.length = n) (hroom : (rest.map fun v => v.category).sum ≤ 8) (hfc : cells ≤ R.cells) (hfs : slots ≤ R.slots)
    (kk : ∀ r, r = res → cv_V p l e R s m args below meth c cells slots Q nL D cl A (pc + 3) L rest (cv_sets ws isC (w1 r))) : cv_V p l e R s m args below meth c cells slots Q nL D cl A pc L st ws := by
  intro H locs ls hP hD hS hL
  have hFc := va_free hD hS K.2.2.2.2.2.2.1 isC hC
  refine va_callv (va_runVN (As := As) (rest := rest) ⟨K.1, K.2.1, K.2.2.1, K.2.2.2.1, K.2.2.2.2.1⟩ (hM H.size) cw ⟨cv_blind, va_recv K.2.2.2.2.2.1 hP hcl hq0, fun U hU hW => ⟨rfl, by rw [hU], by rw [hU]; exact hP.sub isC (cv_fm hC), va_K.moved hW.alike K.2.2.2.2.2.1, (hD.sub isC hnd hC).weaken (fun _ _ _ _ => trivial), K.2.2.2.2.2.2.2.warm hW⟩⟩ rfl hlen hL.1 hstk (lv_room hroom) hdg ⟨hfc, hfs⟩) hS (fun q _ h => hFc q h) hFc (fun u t H1 locs1 ht hvm hw hB hz1 hk1 hS1 => ?_)
  subst hw
  obtain ⟨hP1, hK1, hD1⟩ := hB
  rw [ht] at hP1
  obtain ⟨hP2, hD2⟩ := cv_join hP hD isC (cv_nd hnd) hC (hadr _) hk1 hP1
  exact kk _ rfl H1 locs1 ls hP2 hD2 hS1 hL
theorem cv_callSv {τ : Type} {res : τ}  {w1 : τ → va_W} (K : cv_K p s m args c cc nL own Ts D cl tys A) {y : MethodName} {wy : List Cond} {rm : Room} {bytes : ByteArray} {maxL n index : Nat}  {As rest : List Value} {wc : va_W} (hM : cv_Mv l y wy rm D cl tys (As) wc res  w1) (hdg : decode cc pc = .ok (.invokestatic index, 3)) (cw : CallB R s args own index y bytes maxL (none) wy rm 0 0 n ∧ (Cond.static y).before args s = true)
    (isC : List Nat) (hnd : va_nd isC = true) (hC : isC.map (fun i => ws[i]?) = wc.map some) (hadr : ∀ r, (w1 r).map (fun q => q.1) = wc.map (fun q => q.1)) (hstk : st = As.reverse ++ rest) (hlen : As.length = n) (hroom : (rest.map fun v => v.category).sum ≤ 8) (hfc : cells ≤ R.cells) (hfs : slots ≤ R.slots)
    (kk : ∀ r, r = res → cv_V p l e R s m args below meth c cells slots Q nL D cl A (pc + 3) L rest (cv_sets ws isC (w1 r))) : cv_V p l e R s m args below meth c cells slots Q nL D cl A pc L st ws := by
  intro H locs ls hP hD hS hL
  have hFc := va_free hD hS K.2.2.2.2.2.2.1 isC hC
  refine va_callv (va_runS (As := As) (rest := rest) ⟨K.1, K.2.1, K.2.2.1, K.2.2.2.1, K.2.2.2.2.1⟩ (hM H.size) cw ⟨cv_blind, fun U hU hW => ⟨rfl, by rw [hU], by rw [hU]; exact hP.sub isC (cv_fm hC), va_K.moved hW.alike K.2.2.2.2.2.1, (hD.sub isC hnd hC).weaken (fun _ _ _ _ => trivial), K.2.2.2.2.2.2.2.warm hW⟩⟩ rfl hlen hL.1 hstk (lv_room hroom) hdg ⟨hfc, hfs⟩) hS (fun q _ h => hFc q h) hFc (fun u t H1 locs1 ht hvm hw hB hz1 hk1 hS1 => ?_)
  subst hw
  obtain ⟨hP1, hK1, hD1⟩ := hB
  rw [ht] at hP1
  obtain ⟨hP2, hD2⟩ := cv_join hP hD isC (cv_nd hnd) hC (hadr _) hk1 hP1
  exact kk _ rfl H1 locs1 ls hP2 hD2 hS1 hL
theorem cv_callSNv {τ : Type} {res : τ}  {w1 : τ → va_W} (K : cv_K p s m args c cc nL own Ts D cl tys A) {y : MethodName} {wy : List Cond} {rm : Room} {bytes : ByteArray} {maxL n index : Nat}  {As rest : List Value} {wc : va_W} (hM : cv_Mv l y wy rm D cl tys (As) wc res  w1) (hdg : decode cc pc = .ok (.invokestatic index, 3)) {host : String} (cw : va_CN R s args own index y host bytes maxL (none) wy rm 0 0 n ∧ (Cond.static y).before args s = true ∧ True)
    (isC : List Nat) (hnd : va_nd isC = true) (hC : isC.map (fun i => ws[i]?) = wc.map some) (hadr : ∀ r, (w1 r).map (fun q => q.1) = wc.map (fun q => q.1)) (hstk : st = As.reverse ++ rest) (hlen : As.length = n) (hroom : (rest.map fun v => v.category).sum ≤ 8) (hfc : cells ≤ R.cells) (hfs : slots ≤ R.slots)
    (kk : ∀ r, r = res → cv_V p l e R s m args below meth c cells slots Q nL D cl A (pc + 3) L rest (cv_sets ws isC (w1 r))) : cv_V p l e R s m args below meth c cells slots Q nL D cl A pc L st ws := by
  intro H locs ls hP hD hS hL
  have hFc := va_free hD hS K.2.2.2.2.2.2.1 isC hC
  refine va_callv (va_runSN (As := As) (rest := rest) ⟨K.1, K.2.1, K.2.2.1, K.2.2.2.1, K.2.2.2.2.1⟩ (hM H.size) cw ⟨cv_blind, fun U hU hW => ⟨rfl, by rw [hU], by rw [hU]; exact hP.sub isC (cv_fm hC), va_K.moved hW.alike K.2.2.2.2.2.1, (hD.sub isC hnd hC).weaken (fun _ _ _ _ => trivial), K.2.2.2.2.2.2.2.warm hW⟩⟩ rfl hlen hL.1 hstk (lv_room hroom) hdg ⟨hfc, hfs⟩) hS (fun q _ h => hFc q h) hFc (fun u t H1 locs1 ht hvm hw hB hz1 hk1 hS1 => ?_)
  subst hw
  obtain ⟨hP1, hK1, hD1⟩ := hB
  rw [ht] at hP1
  obtain ⟨hP2, hD2⟩ := cv_join hP hD isC (cv_nd hnd) hC (hadr _) hk1 hP1
  exact kk _ rfl H1 locs1 ls hP2 hD2 hS1 hL
theorem cv_callIv {τ : Type} {res : τ}  {w1 : τ → va_W} (K : cv_K p s m args c cc nL own Ts D cl tys A) {y : MethodName} {wy : List Cond} {rm : Room} {bytes : ByteArray} {maxL n index : Nat} {b : Nat} {As rest : List Value} {wc : va_W} (hM : cv_Mv l y wy rm D cl tys (.ref b :: As) wc res  w1) (hdg : decode cc pc = .ok (.invokespecial index, 3)) (cw : CallB R s args own index y bytes maxL none wy rm 0 0 n ∧ y.name = "<init>" ∧ (Cond.instanceMethod y).before args s = true)
    (isC : List Nat) (hnd : va_nd isC = true) (hC : isC.map (fun i => ws[i]?) = wc.map some) (hadr : ∀ r, (w1 r).map (fun q => q.1) = wc.map (fun q => q.1)) (hstk : st = As.reverse ++ .ref b :: rest) (hlen : As.length = n) (hroom : (rest.map fun v => v.category).sum ≤ 8) (hfc : cells ≤ R.cells) (hfs : slots ≤ R.slots)
    (kk : ∀ r, r = res → cv_V p l e R s m args below meth c cells slots Q nL D cl A (pc + 3) L rest (cv_sets ws isC (w1 r))) : cv_V p l e R s m args below meth c cells slots Q nL D cl A pc L st ws := by
  intro H locs ls hP hD hS hL
  have hFc := va_free hD hS K.2.2.2.2.2.2.1 isC hC
  refine va_callv (va_runI (As := As) (rest := rest) ⟨K.1, K.2.1, K.2.2.1, K.2.2.2.1, K.2.2.2.2.1⟩ (hM H.size) cw ⟨cv_blind, fun U hU hW => ⟨rfl, by rw [hU], by rw [hU]; exact hP.sub isC (cv_fm hC), va_K.moved hW.alike K.2.2.2.2.2.1, (hD.sub isC hnd hC).weaken (fun _ _ _ _ => trivial), K.2.2.2.2.2.2.2.warm hW⟩⟩ rfl hlen hL.1 hstk (lv_room hroom) hdg ⟨hfc, hfs⟩) hS (fun q _ h => hFc q h) hFc (fun u t H1 locs1 ht hvm hw hB hz1 hk1 hS1 => ?_)
  subst hw
  obtain ⟨hP1, hK1, hD1⟩ := hB
  rw [ht] at hP1
  obtain ⟨hP2, hD2⟩ := cv_join hP hD isC (cv_nd hnd) hC (hadr _) hk1 hP1
  exact kk _ rfl H1 locs1 ls hP2 hD2 hS1 hL
/-- the contract of a method of kind z: from the world wc it answers and leaves the world w1, both out of res -/
def cv_Qz {τ : Type} (D : va_G) (cl : List vw_C) (tys : List (ClassId × FieldType)) (A : Nat → Prop) (res : τ) (rr : τ → Int32) (w1 : τ → va_W) : Array Value → State → Outcome → State → Prop := va_Qi (fun (r : Int32) (u : τ) => u = res ∧ r = rr u) (cv_E D cl tys A w1) A
def cv_Mz {τ : Type} (l : Launch) (y : MethodName) (wy : List Cond) (rm : Room) (D : va_G) (cl : List vw_C) (tys : List (ClassId × FieldType)) (av : List Value) (wc : va_W) (res : τ) (rr : τ → Int32) (w1 : τ → va_W) : Prop := ∀ sz : Nat, Met l y wy rm (va_Pc av (cv_B D cl tys wc sz)) (cv_Qz D cl tys (va_A wc sz) res rr w1) 0 0 (va_A wc sz)
theorem cv_startz {τ : Type} {res : τ} {rr : τ → Int32} {w1 : τ → va_W} {y : MethodName}  {rm : Room} {av : List Value} {wc : va_W} (hy : plainName y.cls = true)  (hlen : (lg_sl av).length ≤ nL) (L : List (Nat × Value)) (hL0 : lv_args 0 av = L)
    (body : ∀ (p : Program) (e : Env) (s : State) (m : MethodId) (below : List Frame) (meth : Method) (c : Code) (A : Nat → Prop), cv_K p s m av.toArray c cc nL y.cls gw D cl tys A → (meth.sig.returnType = (some .boolean) ∧ meth.locks = false ∧ meth.name = y.name) → cv_V p l e rm s m av.toArray below meth c 0 0 (MQ below (cv_Qz D cl tys A res rr w1) av.toArray s 0 0 A) nL D cl A 0 L [] wc) : cv_Mz l y (Cond.code y cc nL (some .boolean) :: gw) rm D cl tys av wc res rr w1 := by
  intro sz
  refine Met.ofW (cc := cc) (maxL := nL) (ret := some .boolean) hy rfl ?_
  intro p e s m args below meth c s₁ B hml hv
  obtain ⟨rfl, hsz, hP, hK, hD0, hN⟩ := hv
  subst hsz
  have hD := hD0.self (sz := s.heap.size)
  rw [lg_entry_eq]
  exact body p e s m below meth c (va_A wc s.heap.size) ⟨B.exec, B.bytes, hml, findClass_of_methodNamed B.named, fun w h => atoms_spec (ws := Cond.code y cc nL (some .boolean) :: gw) B.pre w (List.mem_cons_of_mem _ h), hK, fun q h => Or.inr h, hN⟩ ⟨B.returns, B.notSynchronized, (name_of_methodNamed B.named B.method).1⟩ s.heap [] _ hP hD va_S.rf (hL0 ▸ lv_entry av hlen)
theorem cv_retz {τ : Type} {res : τ} {rr : τ → Int32} {rv : Int32} {w1 : τ → va_W} (K : cv_K p s m args c cc nL own Ts D cl tys A) {nm : String} (hm : meth.sig.returnType = (some .boolean) ∧ meth.locks = false ∧ meth.name = nm) (hdg : decode cc pc = .ok (.ireturn, 1)) (leaf : τ) (hE : res = leaf) (hr : rv = rr leaf) (hw : ws = w1 leaf) (hnz : narrow .boolean (.int rv) = .int rv) :
    cv_V p l e R s m args below meth c 0 0 (MQ below (cv_Qz D cl tys A res rr w1) args s 0 0 A) nL D cl A pc L [.int rv] ws := by
  intro H locs ls hP hD hS hL
  subst hE
  subst hw
  exact W.zret K.1 K.2.1 hm.1 hnz (fun t ht hW => ⟨⟨_, _, rfl, ⟨rfl, hr⟩, by rw [ht]; exact hP, va_K.moved hW.alike K.2.2.2.2.2.1, hD⟩, hS.F ht⟩) hS.2.2 hdg hm.2.1
theorem cv_callVz {τ : Type} {res : τ} {rr : τ → Int32} {w1 : τ → va_W} (K : cv_K p s m args c cc nL own Ts D cl tys A) {y : MethodName} {wy : List Cond} {rm : Room} {bytes : ByteArray} {maxL n index : Nat} {b : Nat} {As rest : List Value} {wc : va_W} (hM : cv_Mz l y wy rm D cl tys (.ref b :: As) wc res rr w1) (hdg : decode cc pc = .ok (.invokevirtual index, 3)) {C : String} (cw : CallW R s args own C index y bytes maxL (some .boolean) wy rm 0 0 n) {T : u_T} {N ci : Nat} {fs : List Value} (q0 : Nat) (hq0 : ws[q0]? = some (b, .inr (ci, fs))) (hcl : cl[ci]? = some (C, T, N))
    (isC : List Nat) (hnd : va_nd isC = true) (hC : isC.map (fun i => ws[i]?) = wc.map some) (hadr : ∀ r, (w1 r).map (fun q => q.1) = wc.map (fun q => q.1)) (hstk : st = As.reverse ++ .ref b :: rest) (hlen : As.length = n) (hroom : (rest.map fun v => v.category).sum ≤ 8) (hfc : cells ≤ R.cells) (hfs : slots ≤ R.slots)
    (kk : ∀ r, r = res → cv_V p l e R s m args below meth c cells slots Q nL D cl A (pc + 3) L (.int (rr r) :: rest) (cv_sets ws isC (w1 r))) : cv_V p l e R s m args below meth c cells slots Q nL D cl A pc L st ws := by
  intro H locs ls hP hD hS hL
  have hFc := va_free hD hS K.2.2.2.2.2.2.1 isC hC
  refine va_calli (va_runV (As := As) (rest := rest) ⟨K.1, K.2.1, K.2.2.1, K.2.2.2.1, K.2.2.2.2.1⟩ (hM H.size) cw ⟨cv_blind, va_recv K.2.2.2.2.2.1 hP hcl hq0, fun U hU hW => ⟨rfl, by rw [hU], by rw [hU]; exact hP.sub isC (cv_fm hC), va_K.moved hW.alike K.2.2.2.2.2.1, (hD.sub isC hnd hC).weaken (fun _ _ _ _ => trivial), K.2.2.2.2.2.2.2.warm hW⟩⟩ rfl hlen hL.1 hstk (lv_room hroom) hdg ⟨hfc, hfs⟩) hS (fun q _ h => hFc q h) hFc (fun r u t H1 locs1 ht hvm hw hB hz1 hk1 hS1 => ?_)
  obtain ⟨rfl, rfl⟩ := hw
  obtain ⟨hP1, hK1, hD1⟩ := hB
  rw [ht] at hP1
  obtain ⟨hP2, hD2⟩ := cv_join hP hD isC (cv_nd hnd) hC (hadr _) hk1 hP1
  exact kk _ rfl H1 locs1 ls hP2 hD2 hS1 hL
theorem cv_callVNz {τ : Type} {res : τ} {rr : τ → Int32} {w1 : τ → va_W} (K : cv_K p s m args c cc nL own Ts D cl tys A) {y : MethodName} {wy : List Cond} {rm : Room} {bytes : ByteArray} {maxL n index : Nat} {b : Nat} {As rest : List Value} {wc : va_W} (hM : cv_Mz l y wy rm D cl tys (.ref b :: As) wc res rr w1) (hdg : decode cc pc = .ok (.invokevirtual index, 3)) {C host : String} (cw : va_CN R s args own index y host bytes maxL (some .boolean) wy rm 0 0 n ∧ (Cond.instanceMethod y).before args s = true ∧ (Cond.selects C y y).before args s = true) {T : u_T} {N ci : Nat} {fs : List Value} (q0 : Nat) (hq0 : ws[q0]? = some (b, .inr (ci, fs))) (hcl : cl[ci]? = some (C, T, N))
    (isC : List Nat) (hnd : va_nd isC = true) (hC : isC.map (fun i => ws[i]?) = wc.map some) (hadr : ∀ r, (w1 r).map (fun q => q.1) = wc.map (fun q => q.1)) (hstk : st = As.reverse ++ .ref b :: rest) (hlen : As.length = n) (hroom : (rest.map fun v => v.category).sum ≤ 8) (hfc : cells ≤ R.cells) (hfs : slots ≤ R.slots)
    (kk : ∀ r, r = res → cv_V p l e R s m args below meth c cells slots Q nL D cl A (pc + 3) L (.int (rr r) :: rest) (cv_sets ws isC (w1 r))) : cv_V p l e R s m args below meth c cells slots Q nL D cl A pc L st ws := by
  intro H locs ls hP hD hS hL
  have hFc := va_free hD hS K.2.2.2.2.2.2.1 isC hC
  refine va_calli (va_runVN (As := As) (rest := rest) ⟨K.1, K.2.1, K.2.2.1, K.2.2.2.1, K.2.2.2.2.1⟩ (hM H.size) cw ⟨cv_blind, va_recv K.2.2.2.2.2.1 hP hcl hq0, fun U hU hW => ⟨rfl, by rw [hU], by rw [hU]; exact hP.sub isC (cv_fm hC), va_K.moved hW.alike K.2.2.2.2.2.1, (hD.sub isC hnd hC).weaken (fun _ _ _ _ => trivial), K.2.2.2.2.2.2.2.warm hW⟩⟩ rfl hlen hL.1 hstk (lv_room hroom) hdg ⟨hfc, hfs⟩) hS (fun q _ h => hFc q h) hFc (fun r u t H1 locs1 ht hvm hw hB hz1 hk1 hS1 => ?_)
  obtain ⟨rfl, rfl⟩ := hw
  obtain ⟨hP1, hK1, hD1⟩ := hB
  rw [ht] at hP1
  obtain ⟨hP2, hD2⟩ := cv_join hP hD isC (cv_nd hnd) hC (hadr _) hk1 hP1
  exact kk _ rfl H1 locs1 ls hP2 hD2 hS1 hL
theorem cv_callSz {τ : Type} {res : τ} {rr : τ → Int32} {w1 : τ → va_W} (K : cv_K p s m args c cc nL own Ts D cl tys A) {y : MethodName} {wy : List Cond} {rm : Room} {bytes : ByteArray} {maxL n index : Nat}  {As rest : List Value} {wc : va_W} (hM : cv_Mz l y wy rm D cl tys (As) wc res rr w1) (hdg : decode cc pc = .ok (.invokestatic index, 3)) (cw : CallB R s args own index y bytes maxL (some .boolean) wy rm 0 0 n ∧ (Cond.static y).before args s = true)
    (isC : List Nat) (hnd : va_nd isC = true) (hC : isC.map (fun i => ws[i]?) = wc.map some) (hadr : ∀ r, (w1 r).map (fun q => q.1) = wc.map (fun q => q.1)) (hstk : st = As.reverse ++ rest) (hlen : As.length = n) (hroom : (rest.map fun v => v.category).sum ≤ 8) (hfc : cells ≤ R.cells) (hfs : slots ≤ R.slots)
    (kk : ∀ r, r = res → cv_V p l e R s m args below meth c cells slots Q nL D cl A (pc + 3) L (.int (rr r) :: rest) (cv_sets ws isC (w1 r))) : cv_V p l e R s m args below meth c cells slots Q nL D cl A pc L st ws := by
  intro H locs ls hP hD hS hL
  have hFc := va_free hD hS K.2.2.2.2.2.2.1 isC hC
  refine va_calli (va_runS (As := As) (rest := rest) ⟨K.1, K.2.1, K.2.2.1, K.2.2.2.1, K.2.2.2.2.1⟩ (hM H.size) cw ⟨cv_blind, fun U hU hW => ⟨rfl, by rw [hU], by rw [hU]; exact hP.sub isC (cv_fm hC), va_K.moved hW.alike K.2.2.2.2.2.1, (hD.sub isC hnd hC).weaken (fun _ _ _ _ => trivial), K.2.2.2.2.2.2.2.warm hW⟩⟩ rfl hlen hL.1 hstk (lv_room hroom) hdg ⟨hfc, hfs⟩) hS (fun q _ h => hFc q h) hFc (fun r u t H1 locs1 ht hvm hw hB hz1 hk1 hS1 => ?_)
  obtain ⟨rfl, rfl⟩ := hw
  obtain ⟨hP1, hK1, hD1⟩ := hB
  rw [ht] at hP1
  obtain ⟨hP2, hD2⟩ := cv_join hP hD isC (cv_nd hnd) hC (hadr _) hk1 hP1
  exact kk _ rfl H1 locs1 ls hP2 hD2 hS1 hL
theorem cv_callSNz {τ : Type} {res : τ} {rr : τ → Int32} {w1 : τ → va_W} (K : cv_K p s m args c cc nL own Ts D cl tys A) {y : MethodName} {wy : List Cond} {rm : Room} {bytes : ByteArray} {maxL n index : Nat}  {As rest : List Value} {wc : va_W} (hM : cv_Mz l y wy rm D cl tys (As) wc res rr w1) (hdg : decode cc pc = .ok (.invokestatic index, 3)) {host : String} (cw : va_CN R s args own index y host bytes maxL (some .boolean) wy rm 0 0 n ∧ (Cond.static y).before args s = true ∧ True)
    (isC : List Nat) (hnd : va_nd isC = true) (hC : isC.map (fun i => ws[i]?) = wc.map some) (hadr : ∀ r, (w1 r).map (fun q => q.1) = wc.map (fun q => q.1)) (hstk : st = As.reverse ++ rest) (hlen : As.length = n) (hroom : (rest.map fun v => v.category).sum ≤ 8) (hfc : cells ≤ R.cells) (hfs : slots ≤ R.slots)
    (kk : ∀ r, r = res → cv_V p l e R s m args below meth c cells slots Q nL D cl A (pc + 3) L (.int (rr r) :: rest) (cv_sets ws isC (w1 r))) : cv_V p l e R s m args below meth c cells slots Q nL D cl A pc L st ws := by
  intro H locs ls hP hD hS hL
  have hFc := va_free hD hS K.2.2.2.2.2.2.1 isC hC
  refine va_calli (va_runSN (As := As) (rest := rest) ⟨K.1, K.2.1, K.2.2.1, K.2.2.2.1, K.2.2.2.2.1⟩ (hM H.size) cw ⟨cv_blind, fun U hU hW => ⟨rfl, by rw [hU], by rw [hU]; exact hP.sub isC (cv_fm hC), va_K.moved hW.alike K.2.2.2.2.2.1, (hD.sub isC hnd hC).weaken (fun _ _ _ _ => trivial), K.2.2.2.2.2.2.2.warm hW⟩⟩ rfl hlen hL.1 hstk (lv_room hroom) hdg ⟨hfc, hfs⟩) hS (fun q _ h => hFc q h) hFc (fun r u t H1 locs1 ht hvm hw hB hz1 hk1 hS1 => ?_)
  obtain ⟨rfl, rfl⟩ := hw
  obtain ⟨hP1, hK1, hD1⟩ := hB
  rw [ht] at hP1
  obtain ⟨hP2, hD2⟩ := cv_join hP hD isC (cv_nd hnd) hC (hadr _) hk1 hP1
  exact kk _ rfl H1 locs1 ls hP2 hD2 hS1 hL
end CVK
theorem cw_mem {y : MethodName} {bytes : ByteArray} {maxL : Nat} {ret : Option FieldType} {pre : List Cond} (hp : ∀ w ∈ pre, w ∈ gw) (h : Cond.code y bytes maxL ret ∈ gw) : ∀ w ∈ pre ++ (Cond.code y bytes maxL ret :: gw), w ∈ gw := fun w hw => by
  rcases List.mem_append.mp hw with h1 | h1
  · exact hp w h1
  · rcases List.mem_cons.mp h1 with h2 | h2
    · rw [h2]; exact h
    · exact h2
theorem cw_V {R : Room} {s : State} {args : Array Value} {own C : String} {index : Nat} {y : MethodName} {bytes : ByteArray} {maxL n : Nat} {ret : Option FieldType} {rm : Room} (hts : ∀ w ∈ gw, w.before args s = true) (h1 : Cond.methodLink own index y ∈ gw) (h2 : Cond.instanceMethod y ∈ gw) (h3 : Cond.selects C y y ∈ gw) (h4 : Cond.initialized C ∈ gw) (h5 : Cond.code y bytes maxL ret ∈ gw) (hrc : rm.cells = 0) (hrs : rm.slots = 0)
    (hd : y.cls = C ∧ y.cls ≠ "java/lang/invoke/MethodHandle" ∧ y.cls ≠ "java/lang/invoke/VarHandle" ∧ (parseMethodDescriptor y.desc).map (fun d => d.parameters.length) = some n) (hR : rm.frames + 1 ≤ R.frames ∧ 8 + (maxL + 11) + rm.locals ≤ R.locals) : CallW R s args own C index y bytes maxL ret (Cond.code y bytes maxL ret :: gw) rm 0 0 n :=
  cwV n hts (gw_good (cw_mem (fun w hw => by
    simp only [List.mem_cons, List.not_mem_nil, or_false] at hw
    rcases hw with rfl | rfl | rfl | rfl
    · exact h1
    · exact h2
    · exact h3
    · exact h4) h5)) rfl hrc hrs hd hR
theorem cw_S {R : Room} {s : State} {args : Array Value} {own : String} {index : Nat} {y : MethodName} {bytes : ByteArray} {maxL n : Nat} {ret : Option FieldType} {rm : Room} (hts : ∀ w ∈ gw, w.before args s = true) (h1 : Cond.methodLink own index y ∈ gw) (h2 : Cond.static y ∈ gw) (h4 : Cond.initialized y.cls ∈ gw) (h5 : Cond.code y bytes maxL ret ∈ gw) (hrc : rm.cells = 0) (hrs : rm.slots = 0)
    (hd : y.cls ≠ "java/lang/invoke/MethodHandle" ∧ y.cls ≠ "java/lang/invoke/VarHandle" ∧ (parseMethodDescriptor y.desc).map (fun d => d.parameters.length) = some n) (hR : rm.frames + 1 ≤ R.frames ∧ 8 + (maxL + 11) + rm.locals ≤ R.locals) : CallB R s args own index y bytes maxL ret (Cond.code y bytes maxL ret :: gw) rm 0 0 n ∧ (Cond.static y).before args s = true :=
  va_cwS n hts (gw_good (cw_mem (fun w hw => by
    simp only [List.mem_cons, List.not_mem_nil, or_false] at hw
    rcases hw with rfl | rfl | rfl
    · exact h1
    · exact h2
    · exact h4) h5)) rfl hrc hrs hd hR
theorem wd_of {y : MethodName} {n : Nat} (h : (parseMethodDescriptor y.desc).map (fun d => d.parameters.length) = some n) (h1 : decide (y.cls ≠ "java/lang/invoke/MethodHandle" ∧ y.cls ≠ "java/lang/invoke/VarHandle") = true) : y.cls ≠ "java/lang/invoke/MethodHandle" ∧ y.cls ≠ "java/lang/invoke/VarHandle" ∧ (parseMethodDescriptor y.desc).map (fun d => d.parameters.length) = some n := ⟨(of_decide_eq_true h1).1, (of_decide_eq_true h1).2, h⟩
def j_ushr (x y : Int32) : Int32 := (x.toUInt32 >>> (y.toUInt32 &&& Int32.toUInt32 31)).toInt32
def j_lushr (x : Int64) (y : Int32) : Int64 := (x.toUInt64 >>> (y.toInt64.toUInt64 &&& Int64.toUInt64 63)).toInt64
def j_lshl (x : Int64) (y : Int32) : Int64 := x <<< (y.toInt64 &&& 63)
def j_lshr (x : Int64) (y : Int32) : Int64 := x >>> (y.toInt64 &&& 63)
theorem j_in (i : Int32) {n : Nat} (h : (decide (i < 0) || decide (n ≤ i.toNatClampNeg)) = false) : vp_in i n := by
  rw [Bool.or_eq_false_iff] at h
  intro h2
  rcases h2 with h3 | h3
  · exact of_decide_eq_false h.1 h3
  · exact of_decide_eq_false h.2 h3
theorem j_ne {x n : Int32} (k : Int) (h : ¬ x = n) (hk : n.toInt = k) : x.toInt ≠ k := fun h2 => h (Int32.toInt_inj.mp (h2.trans hk.symm))
theorem j_look0 {d k : Int} : Op.lookupswitch.offset [] d k = d := rfl
theorem j_look {x n : Int32} {a o d off : Int} {r : List (Int × Int)} (h : ¬ x = n) (hn : n.toInt = a) (ih : Op.lookupswitch.offset r d x.toInt = off) : Op.lookupswitch.offset ((a, o) :: r) d x.toInt = off := by
  rw [Op.lookupswitch.offset_cons, if_neg (fun h2 => j_ne a h hn h2.symm)]
  exact ih
abbrev k_arr (h : Nat) (a : ClassId) (n : Nat) (f : Nat → Int32) : Nat × va_E := (h, .inl (a, n, .inl f))
abbrev k_arrL (h : Nat) (a : ClassId) (n : Nat) (f : Nat → Int64) : Nat × va_E := (h, .inl (a, n, .inr (.inl f)))
