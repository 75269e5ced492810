section CVL
variable {p : Program} {l : Launch} {e : Env} {R : Room} {s : State} {m : MethodId} {args : Array Value} {below : List Frame} {meth : Method} {c : Code} {cells slots : Nat} {Q : State → Prop}
variable {cc : ByteArray} {nL : Nat} {own : String} {Ts : List Cond} {D : va_G} {cl : List vw_C} {tys : List (ClassId × FieldType)} {A : Nat → Prop}
variable {pc : Nat} {L : List (Nat × Value)} {st : List Value} {ws : va_W} {b N : Nat} {xs : Nat → Int32}
theorem cv_sld (K : cv_K p s m args c cc nL own Ts D cl tys A) (hX : va_X b N xs s s.heap) (hbl : b < s.heap.size) (hbA : ¬ A b) {i : Int32} (hdg : decode cc pc = .ok (.iaload, 1)) (hin : vp_in i N) (kk : cv_V p l e R s m args below meth c cells slots Q nL D cl A (pc + 1) L (.int (xs i.toNatClampNeg) :: st) ws) : cv_V p l e R s m args below meth c cells slots Q nL D cl A pc L (.int i :: .ref b :: st) ws := fun H locs ls hP hD hS hL => va_sld K.1 K.2.1 hX hbl hbA hS hin hdg (kk H locs ls hP hD hS hL)
theorem cv_slen (K : cv_K p s m args c cc nL own Ts D cl tys A) (hX : va_X b N xs s s.heap) (hbl : b < s.heap.size) (hbA : ¬ A b) (hdg : decode cc pc = .ok (.arraylength, 1)) (kk : cv_V p l e R s m args below meth c cells slots Q nL D cl A (pc + 1) L (.int (nI N) :: st) ws) : cv_V p l e R s m args below meth c cells slots Q nL D cl A pc L (.ref b :: st) ws := fun H locs ls hP hD hS hL => va_slen K.1 K.2.1 hX hbl hbA hS hdg (kk H locs ls hP hD hS hL)
/-- cell's start: the script beside an empty world -/
def cv_C (D : va_G) (cl : List vw_C) (tys : List (ClassId × FieldType)) (b N : Nat) (xs : Nat → Int32) (sz : Nat) : State → Prop := fun U => cv_B D cl tys [] sz U ∧ va_X b N xs U U.heap ∧ b < sz
theorem cv_blindC {sz : Nat} {av : List Value} : FrameBlind (va_Pc av (cv_C D cl tys b N xs sz)) := fun a U g mk q => by
  obtain ⟨q0, q1, qX, qb⟩ := q
  exact ⟨q0, (cv_blind (av := av) a U g mk ⟨q0, q1⟩).2, va_X.moved (u := U) (U := U.calling g mk a) (Vm.Alike.refl U.vm) qX, qb⟩
theorem cv_cell {res x : Int32} (K : cv_K p s m args c cc nL own Ts D cl tys A) (hX : va_X b N xs s s.heap) (hbl : b < s.heap.size) (hbA : ¬ A b) {y : MethodName} {wy : List Cond} {rm : Room} {bytes : ByteArray} {maxL index : Nat} (hM : ∀ sz, Met l y wy rm (va_Pc [.ref b, .int x] (cv_C D cl tys b N xs sz)) (cv_Qi D cl tys (va_A [] sz) res (fun r => r) (fun _ => [])) 0 0 (va_A [] sz)) (hdg : decode cc pc = .ok (.invokestatic index, 3)) (cw : CallB R s args own index y bytes maxL (some .int) wy rm 0 0 2 ∧ (Cond.static y).before args s = true) (hroom : (st.map fun v => v.category).sum ≤ 8) (hfc : cells ≤ R.cells) (hfs : slots ≤ R.slots)
    (kk : cv_V p l e R s m args below meth c cells slots Q nL D cl A (pc + 3) L (.int res :: st) ws) : cv_V p l e R s m args below meth c cells slots Q nL D cl A pc L (.int x :: .ref b :: st) ws := by
  intro H locs ls hP hD hS hL
  have hFc := va_free (wc := []) hD hS K.2.2.2.2.2.2.1 [] rfl
  have hbH : b < H.size := Nat.lt_of_lt_of_le hbl hS.1
  refine va_calli (va_runS (As := [.ref b, .int x]) (rest := st) ⟨K.1, K.2.1, K.2.2.1, K.2.2.2.1, K.2.2.2.2.1⟩ (hM H.size) cw ⟨cv_blindC, fun U hU hW => ⟨rfl, ⟨by rw [hU], fun k q h => by simp at h, va_K.moved hW.alike K.2.2.2.2.2.1, ⟨fun i j p q h => by simp at h, fun k q h => by simp at h⟩, K.2.2.2.2.2.2.2.warm hW⟩, by rw [hU]; exact va_X.moved hW.alike (hX.kept (hS.2.1 b hbl hbA)), hbH⟩⟩ rfl rfl hL.1 rfl (lv_room hroom) hdg ⟨hfc, hfs⟩) hS (fun q _ h => hFc q h) hFc (fun r u t H1 locs1 ht hvm hw hB hz1 hk1 hS1 => ?_)
  obtain ⟨rfl, rfl⟩ := hw
  refine kk H1 locs1 ls (fun k q h => ?_) hD hS1 hL
  have hlq := (hP k q h).lt
  exact (hP k q h).kept (hk1 q.1 hlq (fun ha => by
    rcases ha with ⟨k2, e2, h3⟩ | h3
    · simp at h3
    · omega))
theorem cv_sets_pre {wa wb w1 : va_W} {n : Nat} {is : List Nat} (h1 : is = List.range n) (h2 : wa.length = n) (h3 : w1.length = n) : cv_sets (wa ++ wb) is w1 = w1 ++ wb := by
  subst h1
  apply List.ext_getElem?
  intro k
  have hlen : (cv_sets (wa ++ wb) (List.range n) w1).length = n + wb.length := by rw [cv_sets_len, List.length_append, h2]
  by_cases hk : k < n
  · have hl : k < (cv_sets (wa ++ wb) (List.range n) w1).length := by rw [hlen]; omega
    have e := List.getElem?_eq_getElem hl
    rcases cv_sets_at (List.range n) w1 (wa ++ wb) k _ List.nodup_range (by simp [h3]) (fun i hi => by rw [List.length_append, h2]; have := List.mem_range.mp hi; omega) e with ⟨j, hj, hw⟩ | ⟨hn, _⟩
    · have hjk : j = k := by
        obtain ⟨h5, h6⟩ := List.getElem?_eq_some_iff.mp hj
        rw [List.getElem_range] at h6
        exact h6
      subst hjk
      rw [e, List.getElem?_append_left (by omega), hw]
    · exact absurd (List.mem_range.mpr hk) hn
  · rw [cv_sets_out (List.range n) w1 (wa ++ wb) k (fun h => hk (List.mem_range.mp h)), List.getElem?_append_right (by omega), List.getElem?_append_right (by omega), h2, h3]
theorem cv_sets_suf {wa wb w1 : va_W} {n k0 : Nat} {is : List Nat} (h1 : is = List.range' k0 n) (h0 : wa.length = k0) (h2 : wb.length = n) (h3 : w1.length = n) : cv_sets (wa ++ wb) is w1 = wa ++ w1 := by
  subst h1
  apply List.ext_getElem?
  intro k
  have hlen : (cv_sets (wa ++ wb) (List.range' k0 n) w1).length = k0 + n := by rw [cv_sets_len, List.length_append, h0, h2]
  by_cases hk : k < k0
  · rw [cv_sets_out _ w1 (wa ++ wb) k (fun h => by have := List.mem_range'_1.mp h; omega), List.getElem?_append_left (by omega), List.getElem?_append_left (by omega)]
  · by_cases hk2 : k < k0 + n
    · have hl : k < (cv_sets (wa ++ wb) (List.range' k0 n) w1).length := by rw [hlen]; omega
      have e := List.getElem?_eq_getElem hl
      rcases cv_sets_at (List.range' k0 n) w1 (wa ++ wb) k _ (List.nodup_range' (step := 1) (by omega)) (by simp [h3]) (fun i hi => by rw [List.length_append, h0, h2]; have := List.mem_range'_1.mp hi; omega) e with ⟨j, hj, hw⟩ | ⟨hn, _⟩
      · have hjk : k0 + j = k := by
          obtain ⟨h5, h6⟩ := List.getElem?_eq_some_iff.mp hj
          rw [List.getElem_range'] at h6
          omega
        rw [e, List.getElem?_append_right (by omega), h0, show k - k0 = j by omega, hw]
      · exact absurd (List.mem_range'_1.mpr ⟨by omega, by omega⟩) hn
    · rw [List.getElem?_eq_none (by rw [hlen]; omega), List.getElem?_eq_none (by rw [List.length_append, h0, h3]; omega)]
end CVL
def p_cell (N : Nat) (xs : Nat → Int32) (k : Nat) : Int32 := if k < N then xs k else 0
set_option maxRecDepth 100000 in
set_option maxHeartbeats 4000000 in
theorem m_Law_cell (l : Launch) (dC : Nat → ClassId) (dI : Nat → Nat → Nat) (tys : List (ClassId × FieldType)) (b N : Nat) (xs : Nat → Int32) (hN : N < 2 ^ 31) (k : Nat) (hk : k < 2 ^ 31) (sz : Nat) : Met l y_Law_cell (Cond.code y_Law_cell c_Law_cell 2 (some .int) :: gw) { frames := 0, cells := 0, slots := 0, locals := 0 } (va_Pc [.ref b, .int (nI k)] (cv_C (dC, dI) vwCl tys b N xs sz)) (cv_Qi (dC, dI) vwCl tys (va_A [] sz) (p_cell N xs k) (fun r => r) (fun _ => [])) 0 0 (va_A [] sz) := by
  refine Met.ofW (cc := c_Law_cell) (maxL := 2) (ret := some .int) (by decide) rfl ?_
  intro p e s m args below meth c s₁ B hml hv
  obtain ⟨rfl, ⟨hsz, hP, hK0, hD0, hNn⟩, hX, hb⟩ := hv
  subst hsz
  have hD := hD0.self (sz := s.heap.size)
  rw [lg_entry_eq]
  have K : cv_K p s m ([.ref b, .int (nI k)] : List Value).toArray c c_Law_cell 2 y_Law_cell.cls gw (dC, dI) vwCl tys (va_A [] s.heap.size) := ⟨B.exec, B.bytes, hml, findClass_of_methodNamed B.named, fun w h => atoms_spec (ws := Cond.code y_Law_cell c_Law_cell 2 (some .int) :: gw) B.pre w (List.mem_cons_of_mem _ h), hK0, fun q h => Or.inr h, hNn⟩
  have hm : meth.sig.returnType = some .int ∧ meth.locks = false ∧ meth.name = y_Law_cell.name := ⟨B.returns, B.notSynchronized, (name_of_methodNamed B.named B.method).1⟩
  have hbA : ¬ va_A [] s.heap.size b := fun h => by
    rcases h with ⟨k2, e2, h3⟩ | h3
    · simp at h3
    · omega
  have body : cv_V p l e { frames := 0, cells := 0, slots := 0, locals := 0 } s m ([.ref b, .int (nI k)] : List Value).toArray below meth c 0 0 (MQ below (cv_Qi (dC, dI) vwCl tys (va_A [] s.heap.size) (p_cell N xs k) (fun r => r) (fun _ => [])) ([.ref b, .int (nI k)] : List Value).toArray s 0 0 (va_A [] s.heap.size)) 2 (dC, dI) vwCl (va_A [] s.heap.size) 0 [(0, .ref b), (1, .int (nI k))] [] [] := by
    refine cv_iload_n K 1 d_Law_cell_0 rfl rfl ?_
    refine cv_aload_n K 0 d_Law_cell_1 rfl rfl ?_
    refine cv_slen K hX hb hbA d_Law_cell_2 ?_
    refine cv_icmp_ge K d_Law_cell_3 12 rfl (fun h1 => ?_) (fun h1 => ?_)
    · refine cv_iconst (v := 0) K d_Law_cell_12 rfl ?_
      exact cv_reti K hm d_Law_cell_13 (0) (by rw [p_cell, if_neg]; have := (nI_leI hN hk).mp h1; omega) rfl rfl
    · have hkN : k < N := by have h2 : ¬ N ≤ k := fun h => h1 ((nI_leI hN hk).mpr h); omega
      refine cv_aload_n K 0 d_Law_cell_6 rfl rfl ?_
      refine cv_iload_n K 1 d_Law_cell_7 rfl rfl ?_
      refine cv_sld K hX hb hbA d_Law_cell_8 (vp_in_nI hkN hN) ?_
      refine cv_goto K d_Law_cell_9 13 rfl ?_
      exact cv_reti K hm d_Law_cell_13 (xs (nI k).toNatClampNeg) (by rw [p_cell, if_pos hkN, nI_clamp hk]) rfl rfl
  exact body s.heap [] _ hP hD va_S.rf (lv_entry ([.ref b, .int (nI k)]) (Nat.le_of_ble_eq_true rfl))
