-- CycleChip$Core.quotient(III)I
def p_Core_quotient (f : Int32) (x : Int32) (y : Int32) : Int32 := if y = (0 : Int32) then if (6 : Int32) ≤ f then x else (-1 : Int32) else if f = (4 : Int32) then x / y else if f = (5 : Int32) then ((x.toInt64 &&& (4294967295 : Int64)) / (y.toInt64 &&& (4294967295 : Int64))).toInt32 else if f = (6 : Int32) then x - x / y * y else ((x.toInt64 &&& (4294967295 : Int64)) - (x.toInt64 &&& (4294967295 : Int64)) / (y.toInt64 &&& (4294967295 : Int64)) * (y.toInt64 &&& (4294967295 : Int64))).toInt32
set_option maxRecDepth 100000 in
set_option maxHeartbeats 4000000 in
theorem m_Core_quotient (l : Launch) (dC : Nat → ClassId) (dI : Nat → Nat → Nat) (tys : List (ClassId × FieldType)) (f : Int32) (x : Int32) (y : Int32)  : cv_Mi l y_Core_quotient (Cond.code y_Core_quotient c_Core_quotient 3 (some .int) :: gw) { frames := 0, cells := 0, slots := 0, locals := 0 } (dC, dI) vwCl tys [.int f, .int x, .int y] [] (p_Core_quotient f x y) (fun r => r) (fun r => []) := by
  refine cv_starti (by decide) (Nat.le_of_ble_eq_true rfl) [(0, .int f), (1, .int x), (2, .int y)] rfl ?_
  intro p e s m below meth c A K hm
  refine cv_iload_n K 2 d_Core_quotient_0 rfl rfl ?_
  refine cv_if_ne K d_Core_quotient_1 16 rfl (fun h1 => ?_) (fun h1 => ?_)
  · refine cv_iload_n K 0 d_Core_quotient_16 rfl rfl ?_
    by_cases h2 : f = (4 : Int32)
    · refine cv_tab K d_Core_quotient_17 44 h2 27 (by decide +kernel) rfl ?_
      refine cv_iload_n K 1 d_Core_quotient_44 rfl rfl ?_
      refine cv_iload_n K 2 d_Core_quotient_45 rfl rfl ?_
      refine cv_idiv K d_Core_quotient_46 h1 ?_
      exact cv_reti K hm d_Core_quotient_47 (x / y) (by rw [p_Core_quotient, if_neg (c := y = (0 : Int32)) h1, if_pos (c := f = (4 : Int32)) h2]) rfl rfl
    by_cases h3 : f = (5 : Int32)
    · refine cv_tab K d_Core_quotient_17 48 h3 31 (by decide +kernel) rfl ?_
      refine cv_iload_n K 1 d_Core_quotient_48 rfl rfl ?_
      refine cv_i2l K d_Core_quotient_49 rfl ?_
      refine cv_ldc2 (v := 4294967295) K d_Core_quotient_50 tm_706 ?_
      refine cv_land K d_Core_quotient_53 ?_
      refine cv_iload_n K 2 d_Core_quotient_54 rfl rfl ?_
      refine cv_i2l K d_Core_quotient_55 rfl ?_
      refine cv_ldc2 (v := 4294967295) K d_Core_quotient_56 tm_706 ?_
      refine cv_land K d_Core_quotient_59 ?_
      refine cv_ldiv K d_Core_quotient_60 (ix_lo h1) ?_
      refine cv_l2i K d_Core_quotient_61 rfl ?_
      exact cv_reti K hm d_Core_quotient_62 (((x.toInt64 &&& (4294967295 : Int64)) / (y.toInt64 &&& (4294967295 : Int64))).toInt32) (by rw [p_Core_quotient, if_neg (c := y = (0 : Int32)) h1, if_neg (c := f = (4 : Int32)) h2, if_pos (c := f = (5 : Int32)) h3]) rfl rfl
    by_cases h4 : f = (6 : Int32)
    · refine cv_tab K d_Core_quotient_17 63 h4 46 (by decide +kernel) rfl ?_
      refine cv_iload_n K 1 d_Core_quotient_63 rfl rfl ?_
      refine cv_iload_n K 2 d_Core_quotient_64 rfl rfl ?_
      refine cv_irem K d_Core_quotient_65 h1 ?_
      exact cv_reti K hm d_Core_quotient_66 (x - x / y * y) (by rw [p_Core_quotient, if_neg (c := y = (0 : Int32)) h1, if_neg (c := f = (4 : Int32)) h2, if_neg (c := f = (5 : Int32)) h3, if_pos (c := f = (6 : Int32)) h4]) rfl rfl
    refine cv_tabD K d_Core_quotient_17 67 (by have zh2 := j_ne 4 h2 (by decide +kernel); have zh3 := j_ne 5 h3 (by decide +kernel); have zh4 := j_ne 6 h4 (by decide +kernel); exact Or.inl (by omega)) rfl ?_
    refine cv_iload_n K 1 d_Core_quotient_67 rfl rfl ?_
    refine cv_i2l K d_Core_quotient_68 rfl ?_
    refine cv_ldc2 (v := 4294967295) K d_Core_quotient_69 tm_706 ?_
    refine cv_land K d_Core_quotient_72 ?_
    refine cv_iload_n K 2 d_Core_quotient_73 rfl rfl ?_
    refine cv_i2l K d_Core_quotient_74 rfl ?_
    refine cv_ldc2 (v := 4294967295) K d_Core_quotient_75 tm_706 ?_
    refine cv_land K d_Core_quotient_78 ?_
    refine cv_lrem K d_Core_quotient_79 (ix_lo h1) ?_
    refine cv_l2i K d_Core_quotient_80 rfl ?_
    exact cv_reti K hm d_Core_quotient_81 (((x.toInt64 &&& (4294967295 : Int64)) - (x.toInt64 &&& (4294967295 : Int64)) / (y.toInt64 &&& (4294967295 : Int64)) * (y.toInt64 &&& (4294967295 : Int64))).toInt32) (by rw [p_Core_quotient, if_neg (c := y = (0 : Int32)) h1, if_neg (c := f = (4 : Int32)) h2, if_neg (c := f = (5 : Int32)) h3, if_neg (c := f = (6 : Int32)) h4]) rfl rfl
  · refine cv_iload_n K 0 d_Core_quotient_4 rfl rfl ?_
    refine cv_bipush (v := 6) K d_Core_quotient_5 (by decide +kernel) ?_
    refine cv_icmp_ge K d_Core_quotient_7 14 rfl (fun h5 => ?_) (fun h5 => ?_)
    · refine cv_iload_n K 1 d_Core_quotient_14 rfl rfl ?_
      exact cv_reti K hm d_Core_quotient_15 (x) (by rw [p_Core_quotient, if_pos (c := y = (0 : Int32)) h1, if_pos (c := (6 : Int32) ≤ f) h5]) rfl rfl
    · refine cv_iconst (v := (-1)) K d_Core_quotient_10 rfl ?_
      refine cv_goto K d_Core_quotient_11 15 rfl ?_
      exact cv_reti K hm d_Core_quotient_15 ((-1 : Int32)) (by rw [p_Core_quotient, if_pos (c := y = (0 : Int32)) h1, if_neg (c := (6 : Int32) ≤ f) h5]) rfl rfl
-- CycleChip$ByteQueue.isFull()Z
def p_ByteQueue_isFull (v : Nat → Int32) : Int32 := if (v 1) = (8 : Int32) then (1 : Int32) else (0 : Int32)
set_option maxRecDepth 100000 in
set_option maxHeartbeats 4000000 in
theorem m_ByteQueue_isFull (l : Launch) (dC : Nat → ClassId) (dI : Nat → Nat → Nat) (tys : List (ClassId × FieldType)) (h hB : Nat) (v : Nat → Int32)  : cv_Mz l y_ByteQueue_isFull (Cond.code y_ByteQueue_isFull c_ByteQueue_isFull 1 (some .boolean) :: gw) { frames := 0, cells := 0, slots := 0, locals := 0 } (dC, dI) vwCl tys [.ref h] [k_ByteQueue h hB v] (p_ByteQueue_isFull v) (fun r => r) (fun r => [k_ByteQueue h hB v]) := by
  refine cv_startz (by decide) (Nat.le_of_ble_eq_true rfl) [(0, .ref h)] rfl ?_
  intro p e s m below meth c A K hm
  refine cv_aload_n K 0 d_ByteQueue_isFull_0 rfl rfl ?_
  refine cv_get K d_ByteQueue_isFull_1 0 2 rfl rfl in_ByteQueue (by decide) tm_114 rfl ?_
  refine cv_bipush (v := 8) K d_ByteQueue_isFull_4 (by decide +kernel) ?_
  refine cv_icmp_ne K d_ByteQueue_isFull_6 13 rfl (fun h1 => ?_) (fun h1 => ?_)
  · refine cv_iconst (v := 0) K d_ByteQueue_isFull_13 rfl ?_
    exact cv_retz K hm d_ByteQueue_isFull_14 ((0 : Int32)) (by rw [p_ByteQueue_isFull, if_neg (c := (v 1) = (8 : Int32)) h1]) rfl rfl rfl
  · refine cv_iconst (v := 1) K d_ByteQueue_isFull_9 rfl ?_
    refine cv_goto K d_ByteQueue_isFull_10 14 rfl ?_
    exact cv_retz K hm d_ByteQueue_isFull_14 ((1 : Int32)) (by rw [p_ByteQueue_isFull, if_pos (c := (v 1) = (8 : Int32)) h1]) rfl rfl rfl
-- CycleChip$ByteQueue.isEmpty()Z
def p_ByteQueue_isEmpty (v : Nat → Int32) : Int32 := if (v 1) = (0 : Int32) then (1 : Int32) else (0 : Int32)
set_option maxRecDepth 100000 in
set_option maxHeartbeats 4000000 in
theorem m_ByteQueue_isEmpty (l : Launch) (dC : Nat → ClassId) (dI : Nat → Nat → Nat) (tys : List (ClassId × FieldType)) (h hB : Nat) (v : Nat → Int32)  : cv_Mz l y_ByteQueue_isEmpty (Cond.code y_ByteQueue_isEmpty c_ByteQueue_isEmpty 1 (some .boolean) :: gw) { frames := 0, cells := 0, slots := 0, locals := 0 } (dC, dI) vwCl tys [.ref h] [k_ByteQueue h hB v] (p_ByteQueue_isEmpty v) (fun r => r) (fun r => [k_ByteQueue h hB v]) := by
  refine cv_startz (by decide) (Nat.le_of_ble_eq_true rfl) [(0, .ref h)] rfl ?_
  intro p e s m below meth c A K hm
  refine cv_aload_n K 0 d_ByteQueue_isEmpty_0 rfl rfl ?_
  refine cv_get K d_ByteQueue_isEmpty_1 0 2 rfl rfl in_ByteQueue (by decide) tm_114 rfl ?_
  refine cv_if_ne K d_ByteQueue_isEmpty_4 11 rfl (fun h1 => ?_) (fun h1 => ?_)
  · refine cv_iconst (v := 0) K d_ByteQueue_isEmpty_11 rfl ?_
    exact cv_retz K hm d_ByteQueue_isEmpty_12 ((0 : Int32)) (by rw [p_ByteQueue_isEmpty, if_neg (c := (v 1) = (0 : Int32)) h1]) rfl rfl rfl
  · refine cv_iconst (v := 1) K d_ByteQueue_isEmpty_7 rfl ?_
    refine cv_goto K d_ByteQueue_isEmpty_8 12 rfl ?_
    exact cv_retz K hm d_ByteQueue_isEmpty_12 ((1 : Int32)) (by rw [p_ByteQueue_isEmpty, if_pos (c := (v 1) = (0 : Int32)) h1]) rfl rfl rfl
-- CycleChip$ByteQueue.put(I)V
def p_ByteQueue_put_1 (v : Nat → Int32) (fB : Nat → Int32) (b : Int32) (r1 : Int32) : (Nat → Int32) × (Nat → Int32) := if r1 = (0 : Int32) then ((upd v 1 ((v 1) + (1 : Int32))), (upd fB ((((v 0) + (v 1)) &&& (7 : Int32)).toNatClampNeg) (b &&& (255 : Int32)))) else (v, fB)
def p_ByteQueue_put (v : Nat → Int32) (fB : Nat → Int32) (b : Int32) : (Nat → Int32) × (Nat → Int32) := p_ByteQueue_put_1 v fB b (p_ByteQueue_isFull v)
set_option maxRecDepth 100000 in
set_option maxHeartbeats 4000000 in
theorem m_ByteQueue_put (l : Launch) (dC : Nat → ClassId) (dI : Nat → Nat → Nat) (tys : List (ClassId × FieldType)) (h hB : Nat) (aB : ClassId) (tB : Nat) (htB : tys[tB]? = some (aB, .int)) (v : Nat → Int32) (fB : Nat → Int32) (b : Int32)  : cv_Mv l y_ByteQueue_put (Cond.code y_ByteQueue_put c_ByteQueue_put 2 (none) :: gw) { frames := 1, cells := 0, slots := 0, locals := 20 } (dC, dI) vwCl tys [.ref h, .int b] [k_ByteQueue h hB v, k_arr hB aB 8 fB] (p_ByteQueue_put v fB b) (fun r => [k_ByteQueue h hB r.1, k_arr hB aB 8 r.2]) := by
  refine cv_startv (by decide) (Nat.le_of_ble_eq_true rfl) [(0, .ref h), (1, .int b)] rfl ?_
  intro p e s m below meth c A K hm
  refine cv_aload_n K 0 d_ByteQueue_put_0 rfl rfl ?_
  refine cv_callVz K (m_ByteQueue_isFull l dC dI tys h hB v) d_ByteQueue_put_1 (cw_V (n := 0) K.2.2.2.2.1 tm_485 tm_478 tm_479 tm_7 tm_480 rfl rfl ⟨rfl, wd_of (by decide +kernel) (by decide +kernel)⟩ ⟨Nat.le_of_ble_eq_true rfl, Nat.le_of_ble_eq_true rfl⟩) 0 rfl rfl [0] rfl rfl (fun _ => rfl) rfl rfl (Nat.le_of_ble_eq_true rfl) (Nat.zero_le _) (Nat.zero_le _) (fun r1 hr1 => ?_)
  refine cv_norm [k_ByteQueue h hB v, k_arr hB aB 8 fB] rfl ?_
  refine cv_if_ne K d_ByteQueue_put_4 39 rfl (fun h1 => ?_) (fun h1 => ?_)
  · exact cv_retv K hm d_ByteQueue_put_39 ((v, fB)) (by rw [p_ByteQueue_put, ← hr1, p_ByteQueue_put_1, if_neg (c := r1 = (0 : Int32)) h1]) rfl
  · refine cv_aload_n K 0 d_ByteQueue_put_7 rfl rfl ?_
    refine cv_get K d_ByteQueue_put_8 0 0 rfl rfl in_ByteQueue (by decide) tm_112 rfl ?_
    refine cv_aload_n K 0 d_ByteQueue_put_11 rfl rfl ?_
    refine cv_get K d_ByteQueue_put_12 0 1 rfl rfl in_ByteQueue (by decide) tm_113 rfl ?_
    refine cv_aload_n K 0 d_ByteQueue_put_15 rfl rfl ?_
    refine cv_get K d_ByteQueue_put_16 0 2 rfl rfl in_ByteQueue (by decide) tm_114 rfl ?_
    refine cv_iadd K d_ByteQueue_put_19 ?_
    refine cv_bipush (v := 7) K d_ByteQueue_put_20 (by decide +kernel) ?_
    refine cv_iand K d_ByteQueue_put_22 ?_
    refine cv_iload_n K 1 d_ByteQueue_put_23 rfl rfl ?_
    refine cv_sipush (v := 255) K d_ByteQueue_put_24 (by decide +kernel) ?_
    refine cv_iand K d_ByteQueue_put_27 ?_
    refine cv_iast K d_ByteQueue_put_28 [k_ByteQueue h hB v, k_arr hB aB 8 (upd fB ((((v 0) + (v 1)) &&& (7 : Int32)).toNatClampNeg) (b &&& (255 : Int32)))] 1 tB rfl htB (pk_andIn _ 3 (by decide +kernel) (by decide)) rfl ?_
    refine cv_aload_n K 0 d_ByteQueue_put_29 rfl rfl ?_
    refine cv_dup K d_ByteQueue_put_30 rfl ?_
    refine cv_get K d_ByteQueue_put_31 0 2 rfl rfl in_ByteQueue (by decide) tm_114 rfl ?_
    refine cv_iconst (v := 1) K d_ByteQueue_put_34 rfl ?_
    refine cv_iadd K d_ByteQueue_put_35 ?_
    refine cv_put K d_ByteQueue_put_36 [k_ByteQueue h hB (upd v 1 ((v 1) + (1 : Int32))), k_arr hB aB 8 (upd fB ((((v 0) + (v 1)) &&& (7 : Int32)).toNatClampNeg) (b &&& (255 : Int32)))] 0 2 rfl rfl in_ByteQueue t_ByteQueue o_ByteQueue n_ByteQueue (by decide) tm_114 rfl rfl rfl (Nat.le_of_ble_eq_true rfl) rfl ?_
    exact cv_retv K hm d_ByteQueue_put_39 (((upd v 1 ((v 1) + (1 : Int32))), (upd fB ((((v 0) + (v 1)) &&& (7 : Int32)).toNatClampNeg) (b &&& (255 : Int32))))) (by rw [p_ByteQueue_put, ← hr1, p_ByteQueue_put_1, if_pos (c := r1 = (0 : Int32)) h1]) rfl
-- CycleChip$ByteQueue.take()I
def p_ByteQueue_take_1 (v : Nat → Int32) (fB : Nat → Int32) (r1 : Int32) : Int32 × (Nat → Int32) := if r1 = (0 : Int32) then (fB (v 0).toNatClampNeg, (upd (upd v 0 (((v 0) + (1 : Int32)) &&& (7 : Int32))) 1 ((v 1) - (1 : Int32)))) else ((-1 : Int32), v)
def p_ByteQueue_take (v : Nat → Int32) (fB : Nat → Int32) : Int32 × (Nat → Int32) := p_ByteQueue_take_1 v fB (p_ByteQueue_isEmpty v)
set_option maxRecDepth 100000 in
set_option maxHeartbeats 4000000 in
theorem m_ByteQueue_take (l : Launch) (dC : Nat → ClassId) (dI : Nat → Nat → Nat) (tys : List (ClassId × FieldType)) (h hB : Nat) (aB : ClassId) (tB : Nat) (htB : tys[tB]? = some (aB, .int)) (v : Nat → Int32) (fB : Nat → Int32) (hf : vp_in (v 0) 8) : cv_Mi l y_ByteQueue_take (Cond.code y_ByteQueue_take c_ByteQueue_take 2 (some .int) :: gw) { frames := 1, cells := 0, slots := 0, locals := 20 } (dC, dI) vwCl tys [.ref h] [k_ByteQueue h hB v, k_arr hB aB 8 fB] (p_ByteQueue_take v fB) (fun r => r.1) (fun r => [k_ByteQueue h hB r.2, k_arr hB aB 8 fB]) := by
  refine cv_starti (by decide) (Nat.le_of_ble_eq_true rfl) [(0, .ref h)] rfl ?_
  intro p e s m below meth c A K hm
  refine cv_aload_n K 0 d_ByteQueue_take_0 rfl rfl ?_
  refine cv_callVz K (m_ByteQueue_isEmpty l dC dI tys h hB v) d_ByteQueue_take_1 (cw_V (n := 0) K.2.2.2.2.1 tm_506 tm_499 tm_500 tm_7 tm_501 rfl rfl ⟨rfl, wd_of (by decide +kernel) (by decide +kernel)⟩ ⟨Nat.le_of_ble_eq_true rfl, Nat.le_of_ble_eq_true rfl⟩) 0 rfl rfl [0] rfl rfl (fun _ => rfl) rfl rfl (Nat.le_of_ble_eq_true rfl) (Nat.zero_le _) (Nat.zero_le _) (fun r1 hr1 => ?_)
  refine cv_norm [k_ByteQueue h hB v, k_arr hB aB 8 fB] rfl ?_
  refine cv_if_eq K d_ByteQueue_take_4 9 rfl (fun h1 => ?_) (fun h1 => ?_)
  · refine cv_aload_n K 0 d_ByteQueue_take_9 rfl rfl ?_
    refine cv_get K d_ByteQueue_take_10 0 0 rfl rfl in_ByteQueue (by decide) tm_112 rfl ?_
    refine cv_aload_n K 0 d_ByteQueue_take_13 rfl rfl ?_
    refine cv_get K d_ByteQueue_take_14 0 1 rfl rfl in_ByteQueue (by decide) tm_113 rfl ?_
    refine cv_iald K d_ByteQueue_take_17 1 tB rfl htB hf ?_
    refine cv_istore_n K d_ByteQueue_take_18 [(1, .int (fB (v 0).toNatClampNeg)), (0, .ref h)] rfl (by decide) rfl ?_
    refine cv_aload_n K 1 d_ByteQueue_take_19 rfl rfl ?_
    refine cv_aload_n K 1 d_ByteQueue_take_20 rfl rfl ?_
    refine cv_get K d_ByteQueue_take_21 0 1 rfl rfl in_ByteQueue (by decide) tm_113 rfl ?_
    refine cv_iconst (v := 1) K d_ByteQueue_take_24 rfl ?_
    refine cv_iadd K d_ByteQueue_take_25 ?_
    refine cv_bipush (v := 7) K d_ByteQueue_take_26 (by decide +kernel) ?_
    refine cv_iand K d_ByteQueue_take_28 ?_
    refine cv_put K d_ByteQueue_take_29 [k_ByteQueue h hB (upd v 0 (((v 0) + (1 : Int32)) &&& (7 : Int32))), k_arr hB aB 8 fB] 0 1 rfl rfl in_ByteQueue t_ByteQueue o_ByteQueue n_ByteQueue (by decide) tm_113 rfl rfl rfl (Nat.le_of_ble_eq_true rfl) rfl ?_
    refine cv_aload_n K 1 d_ByteQueue_take_32 rfl rfl ?_
    refine cv_dup K d_ByteQueue_take_33 rfl ?_
    refine cv_get K d_ByteQueue_take_34 0 2 rfl rfl in_ByteQueue (by decide) tm_114 rfl ?_
    refine cv_iconst (v := 1) K d_ByteQueue_take_37 rfl ?_
    refine cv_isub K d_ByteQueue_take_38 ?_
    refine cv_put K d_ByteQueue_take_39 [k_ByteQueue h hB (upd (upd v 0 (((v 0) + (1 : Int32)) &&& (7 : Int32))) 1 ((v 1) - (1 : Int32))), k_arr hB aB 8 fB] 0 2 rfl rfl in_ByteQueue t_ByteQueue o_ByteQueue n_ByteQueue (by decide) tm_114 rfl rfl rfl (Nat.le_of_ble_eq_true rfl) rfl ?_
    refine cv_iload_n K 0 d_ByteQueue_take_42 rfl rfl ?_
    exact cv_reti K hm d_ByteQueue_take_43 ((fB (v 0).toNatClampNeg, (upd (upd v 0 (((v 0) + (1 : Int32)) &&& (7 : Int32))) 1 ((v 1) - (1 : Int32))))) (by rw [p_ByteQueue_take, ← hr1, p_ByteQueue_take_1, if_pos (c := r1 = (0 : Int32)) h1]) rfl rfl
  · refine cv_iconst (v := (-1)) K d_ByteQueue_take_7 rfl ?_
    exact cv_reti K hm d_ByteQueue_take_8 (((-1 : Int32), v)) (by rw [p_ByteQueue_take, ← hr1, p_ByteQueue_take_1, if_neg (c := r1 = (0 : Int32)) h1]) rfl rfl
-- CycleChip$Log.add(II)V
def p_Log_add (v : Nat → Int32) (fC : Nat → Int32) (fV : Nat → Int32) (k : Int32) (x : Int32) : (Nat → Int32) × (Nat → Int32) × (Nat → Int32) := ((upd v 0 ((v 0) + (1 : Int32))), (upd fC (((v 0) &&& (15 : Int32)).toNatClampNeg) k), (upd fV (((v 0) &&& (15 : Int32)).toNatClampNeg) x))
set_option maxRecDepth 100000 in
set_option maxHeartbeats 4000000 in
theorem m_Log_add (l : Launch) (dC : Nat → ClassId) (dI : Nat → Nat → Nat) (tys : List (ClassId × FieldType)) (h hC hV : Nat) (aC : ClassId) (tC : Nat) (htC : tys[tC]? = some (aC, .int)) (aV : ClassId) (tV : Nat) (htV : tys[tV]? = some (aV, .int)) (v : Nat → Int32) (fC : Nat → Int32) (fV : Nat → Int32) (k : Int32) (x : Int32)  : cv_Mv l y_Log_add (Cond.code y_Log_add c_Log_add 4 (none) :: gw) { frames := 0, cells := 0, slots := 0, locals := 0 } (dC, dI) vwCl tys [.ref h, .int k, .int x] [k_Log h hC hV v, k_arr hC aC 16 fC, k_arr hV aV 16 fV] (p_Log_add v fC fV k x) (fun r => [k_Log h hC hV r.1, k_arr hC aC 16 r.2.1, k_arr hV aV 16 r.2.2]) := by
  refine cv_startv (by decide) (Nat.le_of_ble_eq_true rfl) [(0, .ref h), (1, .int k), (2, .int x)] rfl ?_
  intro p e s m below meth c A K hm
  refine cv_aload_n K 0 d_Log_add_0 rfl rfl ?_
  refine cv_get K d_Log_add_1 0 2 rfl rfl in_Log (by decide) tm_131 rfl ?_
  refine cv_bipush (v := 15) K d_Log_add_4 (by decide +kernel) ?_
  refine cv_iand K d_Log_add_6 ?_
  refine cv_istore_n K d_Log_add_7 [(3, .int ((v 0) &&& (15 : Int32))), (0, .ref h), (1, .int k), (2, .int x)] rfl (by decide) rfl ?_
  refine cv_aload_n K 1 d_Log_add_8 rfl rfl ?_
  refine cv_get K d_Log_add_9 0 0 rfl rfl in_Log (by decide) tm_129 rfl ?_
  refine cv_iload_n K 0 d_Log_add_12 rfl rfl ?_
  refine cv_iload_n K 2 d_Log_add_13 rfl rfl ?_
  refine cv_iast K d_Log_add_14 [k_Log h hC hV v, k_arr hC aC 16 (upd fC (((v 0) &&& (15 : Int32)).toNatClampNeg) k), k_arr hV aV 16 fV] 1 tC rfl htC (pk_andIn _ 4 (by decide +kernel) (by decide)) rfl ?_
  refine cv_aload_n K 1 d_Log_add_15 rfl rfl ?_
  refine cv_get K d_Log_add_16 0 1 rfl rfl in_Log (by decide) tm_130 rfl ?_
  refine cv_iload_n K 0 d_Log_add_19 rfl rfl ?_
  refine cv_iload_n K 3 d_Log_add_20 rfl rfl ?_
  refine cv_iast K d_Log_add_21 [k_Log h hC hV v, k_arr hC aC 16 (upd fC (((v 0) &&& (15 : Int32)).toNatClampNeg) k), k_arr hV aV 16 (upd fV (((v 0) &&& (15 : Int32)).toNatClampNeg) x)] 2 tV rfl htV (pk_andIn _ 4 (by decide +kernel) (by decide)) rfl ?_
  refine cv_aload_n K 1 d_Log_add_22 rfl rfl ?_
  refine cv_dup K d_Log_add_23 rfl ?_
  refine cv_get K d_Log_add_24 0 2 rfl rfl in_Log (by decide) tm_131 rfl ?_
  refine cv_iconst (v := 1) K d_Log_add_27 rfl ?_
  refine cv_iadd K d_Log_add_28 ?_
  refine cv_put K d_Log_add_29 [k_Log h hC hV (upd v 0 ((v 0) + (1 : Int32))), k_arr hC aC 16 (upd fC (((v 0) &&& (15 : Int32)).toNatClampNeg) k), k_arr hV aV 16 (upd fV (((v 0) &&& (15 : Int32)).toNatClampNeg) x)] 0 2 rfl rfl in_Log t_Log o_Log n_Log (by decide) tm_131 rfl rfl rfl (Nat.le_of_ble_eq_true rfl) rfl ?_
  exact cv_retv K hm d_Log_add_32 (((upd v 0 ((v 0) + (1 : Int32))), (upd fC (((v 0) &&& (15 : Int32)).toNatClampNeg) k), (upd fV (((v 0) &&& (15 : Int32)).toNatClampNeg) x))) (by rw [p_Log_add]) rfl
-- CycleChip$Log.has(I)Z
def p_Log_has (v : Nat → Int32) (k : Int32) : Int32 := if k < (0 : Int32) then (0 : Int32) else if (16 : Int32) ≤ k then (0 : Int32) else if (v 0) ≤ k then (0 : Int32) else (1 : Int32)
set_option maxRecDepth 100000 in
set_option maxHeartbeats 4000000 in
theorem m_Log_has (l : Launch) (dC : Nat → ClassId) (dI : Nat → Nat → Nat) (tys : List (ClassId × FieldType)) (h hC hV : Nat) (v : Nat → Int32) (k : Int32)  : cv_Mz l y_Log_has (Cond.code y_Log_has c_Log_has 2 (some .boolean) :: gw) { frames := 0, cells := 0, slots := 0, locals := 0 } (dC, dI) vwCl tys [.ref h, .int k] [k_Log h hC hV v] (p_Log_has v k) (fun r => r) (fun r => [k_Log h hC hV v]) := by
  refine cv_startz (by decide) (Nat.le_of_ble_eq_true rfl) [(0, .ref h), (1, .int k)] rfl ?_
  intro p e s m below meth c A K hm
  refine cv_iload_n K 1 d_Log_has_0 rfl rfl ?_
  refine cv_if_lt K d_Log_has_1 22 rfl (fun h1 => ?_) (fun h1 => ?_)
  · refine cv_iconst (v := 0) K d_Log_has_22 rfl ?_
    exact cv_retz K hm d_Log_has_23 ((0 : Int32)) (by rw [p_Log_has, if_pos (c := k < (0 : Int32)) h1]) rfl rfl rfl
  · refine cv_iload_n K 1 d_Log_has_4 rfl rfl ?_
    refine cv_bipush (v := 16) K d_Log_has_5 (by decide +kernel) ?_
    refine cv_icmp_ge K d_Log_has_7 22 rfl (fun h2 => ?_) (fun h2 => ?_)
    · refine cv_iconst (v := 0) K d_Log_has_22 rfl ?_
      exact cv_retz K hm d_Log_has_23 ((0 : Int32)) (by rw [p_Log_has, if_neg (c := k < (0 : Int32)) h1, if_pos (c := (16 : Int32) ≤ k) h2]) rfl rfl rfl
    · refine cv_iload_n K 1 d_Log_has_10 rfl rfl ?_
      refine cv_aload_n K 0 d_Log_has_11 rfl rfl ?_
      refine cv_get K d_Log_has_12 0 2 rfl rfl in_Log (by decide) tm_131 rfl ?_
      refine cv_icmp_ge K d_Log_has_15 22 rfl (fun h3 => ?_) (fun h3 => ?_)
      · refine cv_iconst (v := 0) K d_Log_has_22 rfl ?_
        exact cv_retz K hm d_Log_has_23 ((0 : Int32)) (by rw [p_Log_has, if_neg (c := k < (0 : Int32)) h1, if_neg (c := (16 : Int32) ≤ k) h2, if_pos (c := (v 0) ≤ k) h3]) rfl rfl rfl
      · refine cv_iconst (v := 1) K d_Log_has_18 rfl ?_
        refine cv_goto K d_Log_has_19 23 rfl ?_
        exact cv_retz K hm d_Log_has_23 ((1 : Int32)) (by rw [p_Log_has, if_neg (c := k < (0 : Int32)) h1, if_neg (c := (16 : Int32) ≤ k) h2, if_neg (c := (v 0) ≤ k) h3]) rfl rfl rfl
-- CycleChip$Log.cycleOf(I)I
def p_Log_cycleOf (v : Nat → Int32) (fC : Nat → Int32) (k : Int32) : Int32 := fC ((((v 0) - (1 : Int32)) - k) &&& (15 : Int32)).toNatClampNeg
set_option maxRecDepth 100000 in
set_option maxHeartbeats 4000000 in
theorem m_Log_cycleOf (l : Launch) (dC : Nat → ClassId) (dI : Nat → Nat → Nat) (tys : List (ClassId × FieldType)) (h hC hV : Nat) (aC : ClassId) (tC : Nat) (htC : tys[tC]? = some (aC, .int)) (v : Nat → Int32) (fC : Nat → Int32) (k : Int32)  : cv_Mi l y_Log_cycleOf (Cond.code y_Log_cycleOf c_Log_cycleOf 2 (some .int) :: gw) { frames := 0, cells := 0, slots := 0, locals := 0 } (dC, dI) vwCl tys [.ref h, .int k] [k_Log h hC hV v, k_arr hC aC 16 fC] (p_Log_cycleOf v fC k) (fun r => r) (fun r => [k_Log h hC hV v, k_arr hC aC 16 fC]) := by
  refine cv_starti (by decide) (Nat.le_of_ble_eq_true rfl) [(0, .ref h), (1, .int k)] rfl ?_
  intro p e s m below meth c A K hm
  refine cv_aload_n K 0 d_Log_cycleOf_0 rfl rfl ?_
  refine cv_get K d_Log_cycleOf_1 0 0 rfl rfl in_Log (by decide) tm_129 rfl ?_
  refine cv_aload_n K 0 d_Log_cycleOf_4 rfl rfl ?_
  refine cv_get K d_Log_cycleOf_5 0 2 rfl rfl in_Log (by decide) tm_131 rfl ?_
  refine cv_iconst (v := 1) K d_Log_cycleOf_8 rfl ?_
  refine cv_isub K d_Log_cycleOf_9 ?_
  refine cv_iload_n K 1 d_Log_cycleOf_10 rfl rfl ?_
  refine cv_isub K d_Log_cycleOf_11 ?_
  refine cv_bipush (v := 15) K d_Log_cycleOf_12 (by decide +kernel) ?_
  refine cv_iand K d_Log_cycleOf_14 ?_
  refine cv_iald K d_Log_cycleOf_15 1 tC rfl htC (pk_andIn _ 4 (by decide +kernel) (by decide)) ?_
  exact cv_reti K hm d_Log_cycleOf_16 (fC ((((v 0) - (1 : Int32)) - k) &&& (15 : Int32)).toNatClampNeg) (by rw [p_Log_cycleOf]) rfl rfl
-- CycleChip$Log.valueOf(I)I
def p_Log_valueOf (v : Nat → Int32) (fV : Nat → Int32) (k : Int32) : Int32 := fV ((((v 0) - (1 : Int32)) - k) &&& (15 : Int32)).toNatClampNeg
set_option maxRecDepth 100000 in
set_option maxHeartbeats 4000000 in
theorem m_Log_valueOf (l : Launch) (dC : Nat → ClassId) (dI : Nat → Nat → Nat) (tys : List (ClassId × FieldType)) (h hC hV : Nat) (aV : ClassId) (tV : Nat) (htV : tys[tV]? = some (aV, .int)) (v : Nat → Int32) (fV : Nat → Int32) (k : Int32)  : cv_Mi l y_Log_valueOf (Cond.code y_Log_valueOf c_Log_valueOf 2 (some .int) :: gw) { frames := 0, cells := 0, slots := 0, locals := 0 } (dC, dI) vwCl tys [.ref h, .int k] [k_Log h hC hV v, k_arr hV aV 16 fV] (p_Log_valueOf v fV k) (fun r => r) (fun r => [k_Log h hC hV v, k_arr hV aV 16 fV]) := by
  refine cv_starti (by decide) (Nat.le_of_ble_eq_true rfl) [(0, .ref h), (1, .int k)] rfl ?_
  intro p e s m below meth c A K hm
  refine cv_aload_n K 0 d_Log_valueOf_0 rfl rfl ?_
  refine cv_get K d_Log_valueOf_1 0 1 rfl rfl in_Log (by decide) tm_130 rfl ?_
  refine cv_aload_n K 0 d_Log_valueOf_4 rfl rfl ?_
  refine cv_get K d_Log_valueOf_5 0 2 rfl rfl in_Log (by decide) tm_131 rfl ?_
  refine cv_iconst (v := 1) K d_Log_valueOf_8 rfl ?_
  refine cv_isub K d_Log_valueOf_9 ?_
  refine cv_iload_n K 1 d_Log_valueOf_10 rfl rfl ?_
  refine cv_isub K d_Log_valueOf_11 ?_
  refine cv_bipush (v := 15) K d_Log_valueOf_12 (by decide +kernel) ?_
  refine cv_iand K d_Log_valueOf_14 ?_
  refine cv_iald K d_Log_valueOf_15 1 tV rfl htV (pk_andIn _ 4 (by decide +kernel) (by decide)) ?_
  exact cv_reti K hm d_Log_valueOf_16 (fV ((((v 0) - (1 : Int32)) - k) &&& (15 : Int32)).toNatClampNeg) (by rw [p_Log_valueOf]) rfl rfl
-- CycleChip$StoreBuffer.isFull()Z
def p_StoreBuffer_isFull (v : Nat → Int32) : Int32 := if (v 0) = (2 : Int32) then (1 : Int32) else (0 : Int32)
set_option maxRecDepth 100000 in
set_option maxHeartbeats 4000000 in
theorem m_StoreBuffer_isFull (l : Launch) (dC : Nat → ClassId) (dI : Nat → Nat → Nat) (tys : List (ClassId × FieldType)) (h hP hV : Nat) (v : Nat → Int32)  : cv_Mz l y_StoreBuffer_isFull (Cond.code y_StoreBuffer_isFull c_StoreBuffer_isFull 1 (some .boolean) :: gw) { frames := 0, cells := 0, slots := 0, locals := 0 } (dC, dI) vwCl tys [.ref h] [k_StoreBuffer h hP hV v] (p_StoreBuffer_isFull v) (fun r => r) (fun r => [k_StoreBuffer h hP hV v]) := by
  refine cv_startz (by decide) (Nat.le_of_ble_eq_true rfl) [(0, .ref h)] rfl ?_
  intro p e s m below meth c A K hm
  refine cv_aload_n K 0 d_StoreBuffer_isFull_0 rfl rfl ?_
  refine cv_get K d_StoreBuffer_isFull_1 0 2 rfl rfl in_StoreBuffer (by decide) tm_35 rfl ?_
  refine cv_iconst (v := 2) K d_StoreBuffer_isFull_4 rfl ?_
  refine cv_icmp_ne K d_StoreBuffer_isFull_5 12 rfl (fun h1 => ?_) (fun h1 => ?_)
  · refine cv_iconst (v := 0) K d_StoreBuffer_isFull_12 rfl ?_
    exact cv_retz K hm d_StoreBuffer_isFull_13 ((0 : Int32)) (by rw [p_StoreBuffer_isFull, if_neg (c := (v 0) = (2 : Int32)) h1]) rfl rfl rfl
  · refine cv_iconst (v := 1) K d_StoreBuffer_isFull_8 rfl ?_
    refine cv_goto K d_StoreBuffer_isFull_9 13 rfl ?_
    exact cv_retz K hm d_StoreBuffer_isFull_13 ((1 : Int32)) (by rw [p_StoreBuffer_isFull, if_pos (c := (v 0) = (2 : Int32)) h1]) rfl rfl rfl
theorem sb_full {v : Nat → Int32} {r : Int32} (hr : r = p_StoreBuffer_isFull v) (h : r = (0 : Int32)) : ¬ v 0 = (2 : Int32) := by
  intro h2
  rw [hr, p_StoreBuffer_isFull, if_pos h2] at h
  exact absurd h (by decide)
-- CycleChip$StoreBuffer.add(II)V
def p_StoreBuffer_add_1 (v : Nat → Int32) (fP : Nat → Int32) (fV : Nat → Int32) (k : Int32) (x : Int32) (r1 : Int32) : (Nat → Int32) × (Nat → Int32) × (Nat → Int32) := if r1 = (0 : Int32) then ((upd v 0 ((v 0) + (1 : Int32))), (upd fP ((v 0).toNatClampNeg) k), (upd fV ((v 0).toNatClampNeg) x)) else (v, fP, fV)
def p_StoreBuffer_add (v : Nat → Int32) (fP : Nat → Int32) (fV : Nat → Int32) (k : Int32) (x : Int32) : (Nat → Int32) × (Nat → Int32) × (Nat → Int32) := p_StoreBuffer_add_1 v fP fV k x (p_StoreBuffer_isFull v)
set_option maxRecDepth 100000 in
set_option maxHeartbeats 4000000 in
theorem m_StoreBuffer_add (l : Launch) (dC : Nat → ClassId) (dI : Nat → Nat → Nat) (tys : List (ClassId × FieldType)) (h hP hV : Nat) (aP : ClassId) (tP : Nat) (htP : tys[tP]? = some (aP, .int)) (aV : ClassId) (tV : Nat) (htV : tys[tV]? = some (aV, .int)) (v : Nat → Int32) (fP : Nat → Int32) (fV : Nat → Int32) (k : Int32) (x : Int32) (hc : ∃ k : Nat, k ≤ 2 ∧ v 0 = nI k) : cv_Mv l y_StoreBuffer_add (Cond.code y_StoreBuffer_add c_StoreBuffer_add 3 (none) :: gw) { frames := 1, cells := 0, slots := 0, locals := 20 } (dC, dI) vwCl tys [.ref h, .int k, .int x] [k_StoreBuffer h hP hV v, k_arr hP aP 2 fP, k_arr hV aV 2 fV] (p_StoreBuffer_add v fP fV k x) (fun r => [k_StoreBuffer h hP hV r.1, k_arr hP aP 2 r.2.1, k_arr hV aV 2 r.2.2]) := by
  refine cv_startv (by decide) (Nat.le_of_ble_eq_true rfl) [(0, .ref h), (1, .int k), (2, .int x)] rfl ?_
  intro p e s m below meth c A K hm
  refine cv_aload_n K 0 d_StoreBuffer_add_0 rfl rfl ?_
  refine cv_callVz K (m_StoreBuffer_isFull l dC dI tys h hP hV v) d_StoreBuffer_add_1 (cw_V (n := 0) K.2.2.2.2.1 tm_737 tm_730 tm_731 tm_2 tm_732 rfl rfl ⟨rfl, wd_of (by decide +kernel) (by decide +kernel)⟩ ⟨Nat.le_of_ble_eq_true rfl, Nat.le_of_ble_eq_true rfl⟩) 0 rfl rfl [0] rfl rfl (fun _ => rfl) rfl rfl (Nat.le_of_ble_eq_true rfl) (Nat.zero_le _) (Nat.zero_le _) (fun r1 hr1 => ?_)
  refine cv_norm [k_StoreBuffer h hP hV v, k_arr hP aP 2 fP, k_arr hV aV 2 fV] rfl ?_
  refine cv_if_ne K d_StoreBuffer_add_4 37 rfl (fun h1 => ?_) (fun h1 => ?_)
  · exact cv_retv K hm d_StoreBuffer_add_37 ((v, fP, fV)) (by rw [p_StoreBuffer_add, ← hr1, p_StoreBuffer_add_1, if_neg (c := r1 = (0 : Int32)) h1]) rfl
  · refine cv_aload_n K 0 d_StoreBuffer_add_7 rfl rfl ?_
    refine cv_get K d_StoreBuffer_add_8 0 0 rfl rfl in_StoreBuffer (by decide) tm_33 rfl ?_
    refine cv_aload_n K 0 d_StoreBuffer_add_11 rfl rfl ?_
    refine cv_get K d_StoreBuffer_add_12 0 2 rfl rfl in_StoreBuffer (by decide) tm_35 rfl ?_
    refine cv_iload_n K 1 d_StoreBuffer_add_15 rfl rfl ?_
    refine cv_iast K d_StoreBuffer_add_16 [k_StoreBuffer h hP hV v, k_arr hP aP 2 (upd fP ((v 0).toNatClampNeg) k), k_arr hV aV 2 fV] 1 tP rfl htP (ix_s2 hc (sb_full hr1 h1)) rfl ?_
    refine cv_aload_n K 0 d_StoreBuffer_add_17 rfl rfl ?_
    refine cv_get K d_StoreBuffer_add_18 0 1 rfl rfl in_StoreBuffer (by decide) tm_34 rfl ?_
    refine cv_aload_n K 0 d_StoreBuffer_add_21 rfl rfl ?_
    refine cv_get K d_StoreBuffer_add_22 0 2 rfl rfl in_StoreBuffer (by decide) tm_35 rfl ?_
    refine cv_iload_n K 2 d_StoreBuffer_add_25 rfl rfl ?_
    refine cv_iast K d_StoreBuffer_add_26 [k_StoreBuffer h hP hV v, k_arr hP aP 2 (upd fP ((v 0).toNatClampNeg) k), k_arr hV aV 2 (upd fV ((v 0).toNatClampNeg) x)] 2 tV rfl htV (ix_s2 hc (sb_full hr1 h1)) rfl ?_
    refine cv_aload_n K 0 d_StoreBuffer_add_27 rfl rfl ?_
    refine cv_dup K d_StoreBuffer_add_28 rfl ?_
    refine cv_get K d_StoreBuffer_add_29 0 2 rfl rfl in_StoreBuffer (by decide) tm_35 rfl ?_
    refine cv_iconst (v := 1) K d_StoreBuffer_add_32 rfl ?_
    refine cv_iadd K d_StoreBuffer_add_33 ?_
    refine cv_put K d_StoreBuffer_add_34 [k_StoreBuffer h hP hV (upd v 0 ((v 0) + (1 : Int32))), k_arr hP aP 2 (upd fP ((v 0).toNatClampNeg) k), k_arr hV aV 2 (upd fV ((v 0).toNatClampNeg) x)] 0 2 rfl rfl in_StoreBuffer t_StoreBuffer o_StoreBuffer n_StoreBuffer (by decide) tm_35 rfl rfl rfl (Nat.le_of_ble_eq_true rfl) rfl ?_
    exact cv_retv K hm d_StoreBuffer_add_37 (((upd v 0 ((v 0) + (1 : Int32))), (upd fP ((v 0).toNatClampNeg) k), (upd fV ((v 0).toNatClampNeg) x))) (by rw [p_StoreBuffer_add, ← hr1, p_StoreBuffer_add_1, if_pos (c := r1 = (0 : Int32)) h1]) rfl
-- CycleChip$StoreBuffer.writeOldest([I)V
def p_StoreBuffer_writeOldest (v : Nat → Int32) (fP : Nat → Int32) (fV : Nat → Int32) (fM : Nat → Int32) : (Nat → Int32) × (Nat → Int32) × (Nat → Int32) × (Nat → Int32) := if (v 0) ≤ (0 : Int32) then (v, fP, fV, fM) else ((upd v 0 ((v 0) - (1 : Int32))), (upd fP ((0 : Int32).toNatClampNeg) (fP (1 : Int32).toNatClampNeg)), (upd fV ((0 : Int32).toNatClampNeg) (fV (1 : Int32).toNatClampNeg)), (upd fM ((fP (0 : Int32).toNatClampNeg).toNatClampNeg) (fV (0 : Int32).toNatClampNeg)))
set_option maxRecDepth 100000 in
set_option maxHeartbeats 4000000 in
theorem m_StoreBuffer_writeOldest (l : Launch) (dC : Nat → ClassId) (dI : Nat → Nat → Nat) (tys : List (ClassId × FieldType)) (h hP hV hM : Nat) (aP : ClassId) (tP : Nat) (htP : tys[tP]? = some (aP, .int)) (aV : ClassId) (tV : Nat) (htV : tys[tV]? = some (aV, .int)) (aM : ClassId) (tM : Nat) (htM : tys[tM]? = some (aM, .int)) (v : Nat → Int32) (fP : Nat → Int32) (fV : Nat → Int32) (fM : Nat → Int32) (hq : vp_in (fP 0) 128) : cv_Mv l y_StoreBuffer_writeOldest (Cond.code y_StoreBuffer_writeOldest c_StoreBuffer_writeOldest 2 (none) :: gw) { frames := 0, cells := 0, slots := 0, locals := 0 } (dC, dI) vwCl tys [.ref h, .ref hM] [k_StoreBuffer h hP hV v, k_arr hP aP 2 fP, k_arr hV aV 2 fV, k_arr hM aM 128 fM] (p_StoreBuffer_writeOldest v fP fV fM) (fun r => [k_StoreBuffer h hP hV r.1, k_arr hP aP 2 r.2.1, k_arr hV aV 2 r.2.2.1, k_arr hM aM 128 r.2.2.2]) := by
  refine cv_startv (by decide) (Nat.le_of_ble_eq_true rfl) [(0, .ref h), (1, .ref hM)] rfl ?_
  intro p e s m below meth c A K hm
  refine cv_aload_n K 0 d_StoreBuffer_writeOldest_0 rfl rfl ?_
  refine cv_get K d_StoreBuffer_writeOldest_1 0 2 rfl rfl in_StoreBuffer (by decide) tm_35 rfl ?_
  refine cv_if_le K d_StoreBuffer_writeOldest_4 55 rfl (fun h1 => ?_) (fun h1 => ?_)
  · exact cv_retv K hm d_StoreBuffer_writeOldest_55 ((v, fP, fV, fM)) (by rw [p_StoreBuffer_writeOldest, if_pos (c := (v 0) ≤ (0 : Int32)) h1]) rfl
  · refine cv_aload_n K 1 d_StoreBuffer_writeOldest_7 rfl rfl ?_
    refine cv_aload_n K 0 d_StoreBuffer_writeOldest_8 rfl rfl ?_
    refine cv_get K d_StoreBuffer_writeOldest_9 0 0 rfl rfl in_StoreBuffer (by decide) tm_33 rfl ?_
    refine cv_iconst (v := 0) K d_StoreBuffer_writeOldest_12 rfl ?_
    refine cv_iald K d_StoreBuffer_writeOldest_13 1 tP rfl htP (j_in (0 : Int32) (by decide +kernel)) ?_
    refine cv_aload_n K 0 d_StoreBuffer_writeOldest_14 rfl rfl ?_
    refine cv_get K d_StoreBuffer_writeOldest_15 0 1 rfl rfl in_StoreBuffer (by decide) tm_34 rfl ?_
    refine cv_iconst (v := 0) K d_StoreBuffer_writeOldest_18 rfl ?_
    refine cv_iald K d_StoreBuffer_writeOldest_19 2 tV rfl htV (j_in (0 : Int32) (by decide +kernel)) ?_
    refine cv_iast K d_StoreBuffer_writeOldest_20 [k_StoreBuffer h hP hV v, k_arr hP aP 2 fP, k_arr hV aV 2 fV, k_arr hM aM 128 (upd fM ((fP (0 : Int32).toNatClampNeg).toNatClampNeg) (fV (0 : Int32).toNatClampNeg))] 3 tM rfl htM hq rfl ?_
    refine cv_aload_n K 0 d_StoreBuffer_writeOldest_21 rfl rfl ?_
    refine cv_get K d_StoreBuffer_writeOldest_22 0 0 rfl rfl in_StoreBuffer (by decide) tm_33 rfl ?_
    refine cv_iconst (v := 0) K d_StoreBuffer_writeOldest_25 rfl ?_
    refine cv_aload_n K 0 d_StoreBuffer_writeOldest_26 rfl rfl ?_
    refine cv_get K d_StoreBuffer_writeOldest_27 0 0 rfl rfl in_StoreBuffer (by decide) tm_33 rfl ?_
    refine cv_iconst (v := 1) K d_StoreBuffer_writeOldest_30 rfl ?_
    refine cv_iald K d_StoreBuffer_writeOldest_31 1 tP rfl htP (j_in (1 : Int32) (by decide +kernel)) ?_
    refine cv_iast K d_StoreBuffer_writeOldest_32 [k_StoreBuffer h hP hV v, k_arr hP aP 2 (upd fP ((0 : Int32).toNatClampNeg) (fP (1 : Int32).toNatClampNeg)), k_arr hV aV 2 fV, k_arr hM aM 128 (upd fM ((fP (0 : Int32).toNatClampNeg).toNatClampNeg) (fV (0 : Int32).toNatClampNeg))] 1 tP rfl htP (j_in (0 : Int32) (by decide +kernel)) rfl ?_
    refine cv_aload_n K 0 d_StoreBuffer_writeOldest_33 rfl rfl ?_
    refine cv_get K d_StoreBuffer_writeOldest_34 0 1 rfl rfl in_StoreBuffer (by decide) tm_34 rfl ?_
    refine cv_iconst (v := 0) K d_StoreBuffer_writeOldest_37 rfl ?_
    refine cv_aload_n K 0 d_StoreBuffer_writeOldest_38 rfl rfl ?_
    refine cv_get K d_StoreBuffer_writeOldest_39 0 1 rfl rfl in_StoreBuffer (by decide) tm_34 rfl ?_
    refine cv_iconst (v := 1) K d_StoreBuffer_writeOldest_42 rfl ?_
    refine cv_iald K d_StoreBuffer_writeOldest_43 2 tV rfl htV (j_in (1 : Int32) (by decide +kernel)) ?_
    refine cv_iast K d_StoreBuffer_writeOldest_44 [k_StoreBuffer h hP hV v, k_arr hP aP 2 (upd fP ((0 : Int32).toNatClampNeg) (fP (1 : Int32).toNatClampNeg)), k_arr hV aV 2 (upd fV ((0 : Int32).toNatClampNeg) (fV (1 : Int32).toNatClampNeg)), k_arr hM aM 128 (upd fM ((fP (0 : Int32).toNatClampNeg).toNatClampNeg) (fV (0 : Int32).toNatClampNeg))] 2 tV rfl htV (j_in (0 : Int32) (by decide +kernel)) rfl ?_
    refine cv_aload_n K 0 d_StoreBuffer_writeOldest_45 rfl rfl ?_
    refine cv_dup K d_StoreBuffer_writeOldest_46 rfl ?_
    refine cv_get K d_StoreBuffer_writeOldest_47 0 2 rfl rfl in_StoreBuffer (by decide) tm_35 rfl ?_
    refine cv_iconst (v := 1) K d_StoreBuffer_writeOldest_50 rfl ?_
    refine cv_isub K d_StoreBuffer_writeOldest_51 ?_
    refine cv_put K d_StoreBuffer_writeOldest_52 [k_StoreBuffer h hP hV (upd v 0 ((v 0) - (1 : Int32))), k_arr hP aP 2 (upd fP ((0 : Int32).toNatClampNeg) (fP (1 : Int32).toNatClampNeg)), k_arr hV aV 2 (upd fV ((0 : Int32).toNatClampNeg) (fV (1 : Int32).toNatClampNeg)), k_arr hM aM 128 (upd fM ((fP (0 : Int32).toNatClampNeg).toNatClampNeg) (fV (0 : Int32).toNatClampNeg))] 0 2 rfl rfl in_StoreBuffer t_StoreBuffer o_StoreBuffer n_StoreBuffer (by decide) tm_35 rfl rfl rfl (Nat.le_of_ble_eq_true rfl) rfl ?_
    exact cv_retv K hm d_StoreBuffer_writeOldest_55 (((upd v 0 ((v 0) - (1 : Int32))), (upd fP ((0 : Int32).toNatClampNeg) (fP (1 : Int32).toNatClampNeg)), (upd fV ((0 : Int32).toNatClampNeg) (fV (1 : Int32).toNatClampNeg)), (upd fM ((fP (0 : Int32).toNatClampNeg).toNatClampNeg) (fV (0 : Int32).toNatClampNeg)))) (by rw [p_StoreBuffer_writeOldest, if_neg (c := (v 0) ≤ (0 : Int32)) h1]) rfl
-- CycleChip$Cache.place(I)I
def p_Cache_place (v : Nat → Int32) (k : Int32) : Int32 := (((k >>> ((2 : Int32) &&& (31 : Int32))) - (k >>> ((2 : Int32) &&& (31 : Int32))) / (v 0) * (v 0)) * (4 : Int32)) + (k &&& (3 : Int32))
set_option maxRecDepth 100000 in
set_option maxHeartbeats 4000000 in
theorem m_Cache_place (l : Launch) (dC : Nat → ClassId) (dI : Nat → Nat → Nat) (tys : List (ClassId × FieldType)) (h hB hW : Nat) (n : Nat) (v : Nat → Int32) (k : Int32) (hl : v 0 = nI n) (hn : 0 < n) (hn8 : n ≤ 8) (hp : ∃ j : Nat, j < 128 ∧ k = nI j) : cv_Mi l y_Cache_place (Cond.code y_Cache_place c_Cache_place 2 (some .int) :: gw) { frames := 0, cells := 0, slots := 0, locals := 0 } (dC, dI) vwCl tys [.ref h, .int k] [k_Cache h hB hW v] (p_Cache_place v k) (fun r => r) (fun r => [k_Cache h hB hW v]) := by
  refine cv_starti (by decide) (Nat.le_of_ble_eq_true rfl) [(0, .ref h), (1, .int k)] rfl ?_
  intro p e s m below meth c A K hm
  refine cv_iload_n K 1 d_Cache_place_0 rfl rfl ?_
  refine cv_iconst (v := 2) K d_Cache_place_1 rfl ?_
  refine cv_ishr K d_Cache_place_2 ?_
  refine cv_aload_n K 0 d_Cache_place_3 rfl rfl ?_
  refine cv_get K d_Cache_place_4 0 0 rfl rfl in_Cache (by decide) tm_206 rfl ?_
  refine cv_irem K d_Cache_place_7 (ix_nz hl hn hn8) ?_
  refine cv_iconst (v := 4) K d_Cache_place_8 rfl ?_
  refine cv_imul K d_Cache_place_9 ?_
  refine cv_iload_n K 1 d_Cache_place_10 rfl rfl ?_
  refine cv_iconst (v := 3) K d_Cache_place_11 rfl ?_
  refine cv_iand K d_Cache_place_12 ?_
  refine cv_iadd K d_Cache_place_13 ?_
  exact cv_reti K hm d_Cache_place_14 ((((k >>> ((2 : Int32) &&& (31 : Int32))) - (k >>> ((2 : Int32) &&& (31 : Int32))) / (v 0) * (v 0)) * (4 : Int32)) + (k &&& (3 : Int32))) (by rw [p_Cache_place]) rfl rfl
theorem ca_place {v : Nat → Int32} {k : Int32} {n : Nat} (hl : v 0 = nI n) (hn : 0 < n) (hn8 : n ≤ 8) (hp : ∃ j : Nat, j < 128 ∧ k = nI j) : vp_in (p_Cache_place v k) (4 * n) := by
  obtain ⟨j, hj, hk⟩ := hp
  rw [p_Cache_place, ix_place hl hn hn8 hj hk]
  exact vp_in_nI (ix_pl_lt hn) (by omega)
theorem ca_place4 {v : Nat → Int32} {b r : Int32} {n : Nat} (hl : v 0 = nI n) (hn : 0 < n) (hn8 : n ≤ 8) (hb : ∃ j : Nat, j < 32 ∧ b = nI j) (hr : r = p_Cache_place v ((4 : Int32) * b)) : ∃ i : Nat, i < n ∧ r = nI (4 * i) := by
  obtain ⟨j, hj, hk⟩ := hb
  have h4 : (4 : Int32) * b = nI (4 * j) := by rw [hk, show (4 : Int32) = nI 4 from rfl, pk_mul]
  refine ⟨j % n, Nat.mod_lt _ hn, ?_⟩
  rw [hr, p_Cache_place, ix_place hl hn hn8 (j := 4 * j) (by omega) h4]
  congr 1
  rw [Nat.mul_div_cancel_left j (by omega : 0 < 4)]
  omega
-- CycleChip$Cache.holds(I)Z
def p_Cache_holds (v : Nat → Int32) (fB : Nat → Int32) (k : Int32) : Int32 := if (fB ((k >>> ((2 : Int32) &&& (31 : Int32))) - (k >>> ((2 : Int32) &&& (31 : Int32))) / (v 0) * (v 0)).toNatClampNeg) = (k >>> ((2 : Int32) &&& (31 : Int32))) then (1 : Int32) else (0 : Int32)
set_option maxRecDepth 100000 in
set_option maxHeartbeats 4000000 in
theorem m_Cache_holds (l : Launch) (dC : Nat → ClassId) (dI : Nat → Nat → Nat) (tys : List (ClassId × FieldType)) (h hB hW : Nat) (aB : ClassId) (tB : Nat) (htB : tys[tB]? = some (aB, .int)) (n : Nat) (v : Nat → Int32) (fB : Nat → Int32) (k : Int32) (hl : v 0 = nI n) (hn : 0 < n) (hn8 : n ≤ 8) (hp : ∃ j : Nat, j < 128 ∧ k = nI j) : cv_Mz l y_Cache_holds (Cond.code y_Cache_holds c_Cache_holds 2 (some .boolean) :: gw) { frames := 0, cells := 0, slots := 0, locals := 0 } (dC, dI) vwCl tys [.ref h, .int k] [k_Cache h hB hW v, k_arr hB aB n fB] (p_Cache_holds v fB k) (fun r => r) (fun r => [k_Cache h hB hW v, k_arr hB aB n fB]) := by
  refine cv_startz (by decide) (Nat.le_of_ble_eq_true rfl) [(0, .ref h), (1, .int k)] rfl ?_
  intro p e s m below meth c A K hm
  refine cv_aload_n K 0 d_Cache_holds_0 rfl rfl ?_
  refine cv_get K d_Cache_holds_1 0 1 rfl rfl in_Cache (by decide) tm_207 rfl ?_
  refine cv_iload_n K 1 d_Cache_holds_4 rfl rfl ?_
  refine cv_iconst (v := 2) K d_Cache_holds_5 rfl ?_
  refine cv_ishr K d_Cache_holds_6 ?_
  refine cv_aload_n K 0 d_Cache_holds_7 rfl rfl ?_
  refine cv_get K d_Cache_holds_8 0 0 rfl rfl in_Cache (by decide) tm_206 rfl ?_
  refine cv_irem K d_Cache_holds_11 (ix_nz hl hn hn8) ?_
  refine cv_iald K d_Cache_holds_12 1 tB rfl htB (ix_line hl hn hn8 hp) ?_
  refine cv_iload_n K 1 d_Cache_holds_13 rfl rfl ?_
  refine cv_iconst (v := 2) K d_Cache_holds_14 rfl ?_
  refine cv_ishr K d_Cache_holds_15 ?_
  refine cv_icmp_ne K d_Cache_holds_16 23 rfl (fun h1 => ?_) (fun h1 => ?_)
  · refine cv_iconst (v := 0) K d_Cache_holds_23 rfl ?_
    exact cv_retz K hm d_Cache_holds_24 ((0 : Int32)) (by rw [p_Cache_holds, if_neg (c := (fB ((k >>> ((2 : Int32) &&& (31 : Int32))) - (k >>> ((2 : Int32) &&& (31 : Int32))) / (v 0) * (v 0)).toNatClampNeg) = (k >>> ((2 : Int32) &&& (31 : Int32)))) h1]) rfl rfl rfl
  · refine cv_iconst (v := 1) K d_Cache_holds_19 rfl ?_
    refine cv_goto K d_Cache_holds_20 24 rfl ?_
    exact cv_retz K hm d_Cache_holds_24 ((1 : Int32)) (by rw [p_Cache_holds, if_pos (c := (fB ((k >>> ((2 : Int32) &&& (31 : Int32))) - (k >>> ((2 : Int32) &&& (31 : Int32))) / (v 0) * (v 0)).toNatClampNeg) = (k >>> ((2 : Int32) &&& (31 : Int32)))) h1]) rfl rfl rfl
-- CycleChip$Cache.word(I)I
def p_Cache_word_1 (v : Nat → Int32) (fB : Nat → Int32) (fW : Nat → Int32) (k : Int32) (r1 : Int32) : Int32 := fW r1.toNatClampNeg
def p_Cache_word (v : Nat → Int32) (fB : Nat → Int32) (fW : Nat → Int32) (k : Int32) : Int32 := p_Cache_word_1 v fB fW k (p_Cache_place v k)
set_option maxRecDepth 100000 in
set_option maxHeartbeats 4000000 in
theorem m_Cache_word (l : Launch) (dC : Nat → ClassId) (dI : Nat → Nat → Nat) (tys : List (ClassId × FieldType)) (h hB hW : Nat) (aB : ClassId) (tB : Nat) (htB : tys[tB]? = some (aB, .int)) (aW : ClassId) (tW : Nat) (htW : tys[tW]? = some (aW, .int)) (n : Nat) (v : Nat → Int32) (fB : Nat → Int32) (fW : Nat → Int32) (k : Int32) (hl : v 0 = nI n) (hn : 0 < n) (hn8 : n ≤ 8) (hp : ∃ j : Nat, j < 128 ∧ k = nI j) : cv_Mi l y_Cache_word (Cond.code y_Cache_word c_Cache_word 2 (some .int) :: gw) { frames := 1, cells := 0, slots := 0, locals := 21 } (dC, dI) vwCl tys [.ref h, .int k] [k_Cache h hB hW v, k_arr hB aB n fB, k_arr hW aW (4 * n) fW] (p_Cache_word v fB fW k) (fun r => r) (fun r => [k_Cache h hB hW v, k_arr hB aB n fB, k_arr hW aW (4 * n) fW]) := by
  refine cv_starti (by decide) (Nat.le_of_ble_eq_true rfl) [(0, .ref h), (1, .int k)] rfl ?_
  intro p e s m below meth c A K hm
  refine cv_aload_n K 0 d_Cache_word_0 rfl rfl ?_
  refine cv_get K d_Cache_word_1 0 2 rfl rfl in_Cache (by decide) tm_208 rfl ?_
  refine cv_aload_n K 0 d_Cache_word_4 rfl rfl ?_
  refine cv_iload_n K 1 d_Cache_word_5 rfl rfl ?_
  refine cv_callVi K (m_Cache_place l dC dI tys h hB hW n v k hl hn hn8 hp) d_Cache_word_6 (cw_V (n := 1) K.2.2.2.2.1 tm_398 tm_400 sm_0 tm_9 tm_401 rfl rfl ⟨rfl, wd_of (by decide +kernel) (by decide +kernel)⟩ ⟨Nat.le_of_ble_eq_true rfl, Nat.le_of_ble_eq_true rfl⟩) 0 rfl rfl [0] rfl rfl (fun _ => rfl) rfl rfl (Nat.le_of_ble_eq_true rfl) (Nat.zero_le _) (Nat.zero_le _) (fun r1 hr1 => ?_)
  refine cv_norm [k_Cache h hB hW v, k_arr hB aB n fB, k_arr hW aW (4 * n) fW] rfl ?_
  refine cv_iald K d_Cache_word_9 2 tW rfl htW (by rw [hr1]; exact ca_place hl hn hn8 hp) ?_
  exact cv_reti K hm d_Cache_word_10 (fW r1.toNatClampNeg) (by rw [p_Cache_word, ← hr1, p_Cache_word_1]) rfl rfl
-- CycleChip$Cache.change(II)V
def p_Cache_change_2 (v : Nat → Int32) (fB : Nat → Int32) (fW : Nat → Int32) (k : Int32) (x : Int32) (r1 : Int32) (r2 : Int32) : (Nat → Int32) := (upd fW r2.toNatClampNeg x)
def p_Cache_change_1 (v : Nat → Int32) (fB : Nat → Int32) (fW : Nat → Int32) (k : Int32) (x : Int32) (r1 : Int32) : (Nat → Int32) := if r1 = (0 : Int32) then fW else p_Cache_change_2 v fB fW k x r1 (p_Cache_place v k)
def p_Cache_change (v : Nat → Int32) (fB : Nat → Int32) (fW : Nat → Int32) (k : Int32) (x : Int32) : (Nat → Int32) := p_Cache_change_1 v fB fW k x (p_Cache_holds v fB k)
set_option maxRecDepth 100000 in
set_option maxHeartbeats 4000000 in
theorem m_Cache_change (l : Launch) (dC : Nat → ClassId) (dI : Nat → Nat → Nat) (tys : List (ClassId × FieldType)) (h hB hW : Nat) (aB : ClassId) (tB : Nat) (htB : tys[tB]? = some (aB, .int)) (aW : ClassId) (tW : Nat) (htW : tys[tW]? = some (aW, .int)) (n : Nat) (v : Nat → Int32) (fB : Nat → Int32) (fW : Nat → Int32) (k : Int32) (x : Int32) (hl : v 0 = nI n) (hn : 0 < n) (hn8 : n ≤ 8) (hp : ∃ j : Nat, j < 128 ∧ k = nI j) : cv_Mv l y_Cache_change (Cond.code y_Cache_change c_Cache_change 3 (none) :: gw) { frames := 1, cells := 0, slots := 0, locals := 21 } (dC, dI) vwCl tys [.ref h, .int k, .int x] [k_Cache h hB hW v, k_arr hB aB n fB, k_arr hW aW (4 * n) fW] (p_Cache_change v fB fW k x) (fun r => [k_Cache h hB hW v, k_arr hB aB n fB, k_arr hW aW (4 * n) r]) := by
  refine cv_startv (by decide) (Nat.le_of_ble_eq_true rfl) [(0, .ref h), (1, .int k), (2, .int x)] rfl ?_
  intro p e s m below meth c A K hm
  refine cv_aload_n K 0 d_Cache_change_0 rfl rfl ?_
  refine cv_iload_n K 1 d_Cache_change_1 rfl rfl ?_
  refine cv_callVz K (m_Cache_holds l dC dI tys h hB hW aB tB htB n v fB k hl hn hn8 hp) d_Cache_change_2 (cw_V (n := 1) K.2.2.2.2.1 tm_742 tm_390 tm_391 tm_9 tm_392 rfl rfl ⟨rfl, wd_of (by decide +kernel) (by decide +kernel)⟩ ⟨Nat.le_of_ble_eq_true rfl, Nat.le_of_ble_eq_true rfl⟩) 0 rfl rfl [0, 1] rfl rfl (fun _ => rfl) rfl rfl (Nat.le_of_ble_eq_true rfl) (Nat.zero_le _) (Nat.zero_le _) (fun r1 hr1 => ?_)
  refine cv_norm [k_Cache h hB hW v, k_arr hB aB n fB, k_arr hW aW (4 * n) fW] rfl ?_
  refine cv_if_eq K d_Cache_change_5 19 rfl (fun h1 => ?_) (fun h1 => ?_)
  · exact cv_retv K hm d_Cache_change_19 (fW) (by rw [p_Cache_change, ← hr1, p_Cache_change_1, if_pos (c := r1 = (0 : Int32)) h1]) rfl
  · refine cv_aload_n K 0 d_Cache_change_8 rfl rfl ?_
    refine cv_get K d_Cache_change_9 0 2 rfl rfl in_Cache (by decide) tm_208 rfl ?_
    refine cv_aload_n K 0 d_Cache_change_12 rfl rfl ?_
    refine cv_iload_n K 1 d_Cache_change_13 rfl rfl ?_
    refine cv_callVi K (m_Cache_place l dC dI tys h hB hW n v k hl hn hn8 hp) d_Cache_change_14 (cw_V (n := 1) K.2.2.2.2.1 tm_398 tm_400 sm_0 tm_9 tm_401 rfl rfl ⟨rfl, wd_of (by decide +kernel) (by decide +kernel)⟩ ⟨Nat.le_of_ble_eq_true rfl, Nat.le_of_ble_eq_true rfl⟩) 0 rfl rfl [0] rfl rfl (fun _ => rfl) rfl rfl (Nat.le_of_ble_eq_true rfl) (Nat.zero_le _) (Nat.zero_le _) (fun r2 hr2 => ?_)
    refine cv_norm [k_Cache h hB hW v, k_arr hB aB n fB, k_arr hW aW (4 * n) fW] rfl ?_
    refine cv_iload_n K 2 d_Cache_change_17 rfl rfl ?_
    refine cv_iast K d_Cache_change_18 [k_Cache h hB hW v, k_arr hB aB n fB, k_arr hW aW (4 * n) (upd fW r2.toNatClampNeg x)] 2 tW rfl htW (by rw [hr2]; exact ca_place hl hn hn8 hp) rfl ?_
    exact cv_retv K hm d_Cache_change_19 ((upd fW r2.toNatClampNeg x)) (by rw [p_Cache_change, ← hr1, p_Cache_change_1, if_neg (c := r1 = (0 : Int32)) h1, ← hr2, p_Cache_change_2]) rfl
theorem cp_a {b : Int32} (hb : ∃ j : Nat, j < 32 ∧ b = nI j) : ¬ (4 : Int32) * b < 0 := by
  obtain ⟨j, hj, hk⟩ := ix_4b hb
  rw [hk]
  exact nI_pos (by omega)
theorem cp_b {r : Int32} {n : Nat} (h : ∃ i : Nat, i < n ∧ r = nI (4 * i)) (hn8 : n ≤ 8 := by omega) : ¬ r < 0 := by
  obtain ⟨i, hi, rfl⟩ := h
  exact nI_pos (by omega)
theorem cp_c {b : Int32} (hb : ∃ j : Nat, j < 32 ∧ b = nI j) : ((4 : Int32) * b).toNatClampNeg + (4 : Int32).toNatClampNeg ≤ 128 := by
  obtain ⟨j, hj, hk⟩ := hb
  have h4 : (4 : Int32) * b = nI (4 * j) := by rw [hk, show (4 : Int32) = nI 4 from rfl, pk_mul]
  rw [h4, nI_clamp (by omega), show (4 : Int32).toNatClampNeg = 4 from rfl]
  omega
theorem cp_d {r : Int32} {n : Nat} (hn8 : n ≤ 8) (h : ∃ i : Nat, i < n ∧ r = nI (4 * i)) : r.toNatClampNeg + (4 : Int32).toNatClampNeg ≤ 4 * n := by
  obtain ⟨i, hi, rfl⟩ := h
  rw [nI_clamp (by omega), show (4 : Int32).toNatClampNeg = 4 from rfl]
  omega
-- CycleChip$Cache.fill(I[I)V
def p_Cache_fill_1 (v : Nat → Int32) (fB : Nat → Int32) (fW : Nat → Int32) (fM : Nat → Int32) (k : Int32) (r1 : Int32) : (Nat → Int32) × (Nat → Int32) := ((upd fB ((k - k / (v 0) * (v 0)).toNatClampNeg) k), (va_cpy fM fW ((4 : Int32) * k).toNatClampNeg r1.toNatClampNeg (4 : Int32).toNatClampNeg))
def p_Cache_fill (v : Nat → Int32) (fB : Nat → Int32) (fW : Nat → Int32) (fM : Nat → Int32) (k : Int32) : (Nat → Int32) × (Nat → Int32) := p_Cache_fill_1 v fB fW fM k (p_Cache_place v ((4 : Int32) * k))
set_option maxRecDepth 100000 in
set_option maxHeartbeats 4000000 in
theorem m_Cache_fill (l : Launch) (dC : Nat → ClassId) (dI : Nat → Nat → Nat) (tys : List (ClassId × FieldType)) (h hB hW hM : Nat) (aB : ClassId) (tB : Nat) (htB : tys[tB]? = some (aB, .int)) (aW : ClassId) (tW : Nat) (htW : tys[tW]? = some (aW, .int)) (aM : ClassId) (tM : Nat) (htM : tys[tM]? = some (aM, .int)) (n : Nat) (v : Nat → Int32) (fB : Nat → Int32) (fW : Nat → Int32) (fM : Nat → Int32) (k : Int32) (hl : v 0 = nI n) (hn : 0 < n) (hn8 : n ≤ 8) (hb : ∃ j : Nat, j < 32 ∧ k = nI j) : cv_Mv l y_Cache_fill (Cond.code y_Cache_fill c_Cache_fill 3 (none) :: gw) { frames := 1, cells := 0, slots := 0, locals := 60 } (dC, dI) vwCl tys [.ref h, .int k, .ref hM] [k_Cache h hB hW v, k_arr hB aB n fB, k_arr hW aW (4 * n) fW, k_arr hM aM 128 fM] (p_Cache_fill v fB fW fM k) (fun r => [k_Cache h hB hW v, k_arr hB aB n r.1, k_arr hW aW (4 * n) r.2, k_arr hM aM 128 fM]) := by
  refine cv_startv (by decide) (Nat.le_of_ble_eq_true rfl) [(0, .ref h), (1, .int k), (2, .ref hM)] rfl ?_
  intro p e s m below meth c A K hm
  refine cv_aload_n K 0 d_Cache_fill_0 rfl rfl ?_
  refine cv_get K d_Cache_fill_1 0 1 rfl rfl in_Cache (by decide) tm_207 rfl ?_
  refine cv_iload_n K 1 d_Cache_fill_4 rfl rfl ?_
  refine cv_aload_n K 0 d_Cache_fill_5 rfl rfl ?_
  refine cv_get K d_Cache_fill_6 0 0 rfl rfl in_Cache (by decide) tm_206 rfl ?_
  refine cv_irem K d_Cache_fill_9 (ix_nz hl hn hn8) ?_
  refine cv_iload_n K 1 d_Cache_fill_10 rfl rfl ?_
  refine cv_iast K d_Cache_fill_11 [k_Cache h hB hW v, k_arr hB aB n (upd fB ((k - k / (v 0) * (v 0)).toNatClampNeg) k), k_arr hW aW (4 * n) fW, k_arr hM aM 128 fM] 1 tB rfl htB (ix_blk hl hn hn8 hb) rfl ?_
  refine cv_aload_n K 2 d_Cache_fill_12 rfl rfl ?_
  refine cv_iconst (v := 4) K d_Cache_fill_13 rfl ?_
  refine cv_iload_n K 1 d_Cache_fill_14 rfl rfl ?_
  refine cv_imul K d_Cache_fill_15 ?_
  refine cv_aload_n K 0 d_Cache_fill_16 rfl rfl ?_
  refine cv_get K d_Cache_fill_17 0 2 rfl rfl in_Cache (by decide) tm_208 rfl ?_
  refine cv_aload_n K 0 d_Cache_fill_20 rfl rfl ?_
  refine cv_iconst (v := 4) K d_Cache_fill_21 rfl ?_
  refine cv_iload_n K 1 d_Cache_fill_22 rfl rfl ?_
  refine cv_imul K d_Cache_fill_23 ?_
  refine cv_callVi K (m_Cache_place l dC dI tys h hB hW n v ((4 : Int32) * k) hl hn hn8 (ix_4b hb)) d_Cache_fill_24 (cw_V (n := 1) K.2.2.2.2.1 tm_398 tm_400 sm_0 tm_9 tm_401 rfl rfl ⟨rfl, wd_of (by decide +kernel) (by decide +kernel)⟩ ⟨Nat.le_of_ble_eq_true rfl, Nat.le_of_ble_eq_true rfl⟩) 0 rfl rfl [0] rfl rfl (fun _ => rfl) rfl rfl (Nat.le_of_ble_eq_true rfl) (Nat.zero_le _) (Nat.zero_le _) (fun r1 hr1 => ?_)
  refine cv_norm [k_Cache h hB hW v, k_arr hB aB n (upd fB ((k - k / (v 0) * (v 0)).toNatClampNeg) k), k_arr hW aW (4 * n) fW, k_arr hM aM 128 fM] rfl ?_
  refine cv_iconst (v := 4) K d_Cache_fill_27 rfl ?_
  refine cv_copyi K d_Cache_fill_28 [k_Cache h hB hW v, k_arr hB aB n (upd fB ((k - k / (v 0) * (v 0)).toNatClampNeg) k), k_arr hW aW (4 * n) (va_cpy fM fW ((4 : Int32) * k).toNatClampNeg r1.toNatClampNeg (4 : Int32).toNatClampNeg), k_arr hM aM 128 fM] 3 2 tM tW rfl rfl htM htW tm_527 tm_529 tm_528 tm_17 (cp_a hb) (cp_b (ca_place4 hl hn hn8 hb hr1)) (by decide) (cp_c hb) (cp_d hn8 (ca_place4 hl hn hn8 hb hr1)) (Nat.le_of_ble_eq_true rfl) (Nat.le_of_ble_eq_true rfl) rfl ?_
  exact cv_retv K hm d_Cache_fill_31 (((upd fB ((k - k / (v 0) * (v 0)).toNatClampNeg) k), (va_cpy fM fW ((4 : Int32) * k).toNatClampNeg r1.toNatClampNeg (4 : Int32).toNatClampNeg))) (by rw [p_Cache_fill, ← hr1, p_Cache_fill_1]) rfl
-- CycleChip$Cache.drop()V
def p_Cache_drop_1 (v : Nat → Int32) (fB : Nat → Int32) (r1 : Nat → Int32) : (Nat → Int32) := r1
def p_Cache_drop (v : Nat → Int32) (fB : Nat → Int32) : (Nat → Int32) := p_Cache_drop_1 v fB (p_fillTo ((v 0).toNatClampNeg) fB (-1 : Int32))
set_option maxRecDepth 100000 in
set_option maxHeartbeats 4000000 in
theorem m_Cache_drop (l : Launch) (dC : Nat → ClassId) (dI : Nat → Nat → Nat) (tys : List (ClassId × FieldType)) (h hB hW : Nat) (aB : ClassId) (tB : Nat) (htB : tys[tB]? = some (aB, .int)) (n : Nat) (v : Nat → Int32) (fB : Nat → Int32) (hl : v 0 = nI n) (hn8 : n ≤ 8) : cv_Mv l y_Cache_drop (Cond.code y_Cache_drop c_Cache_drop 1 (none) :: gw) { frames := 1, cells := 0, slots := 0, locals := 23 } (dC, dI) vwCl tys [.ref h] [k_Cache h hB hW v, k_arr hB aB n fB] (p_Cache_drop v fB) (fun r => [k_Cache h hB hW v, k_arr hB aB n r]) := by
  refine cv_startv (by decide) (Nat.le_of_ble_eq_true rfl) [(0, .ref h)] rfl ?_
  intro p e s m below meth c A K hm
  refine cv_aload_n K 0 d_Cache_drop_0 rfl rfl ?_
  refine cv_get K d_Cache_drop_1 0 1 rfl rfl in_Cache (by decide) tm_207 rfl ?_
  refine cv_iconst (v := (-1)) K d_Cache_drop_4 rfl ?_
  refine cv_callSv K (m_JArr_fill l dC dI tys hB aB tB htB n (by omega) fB (-1 : Int32)) d_Cache_drop_5 (cw_S (n := 2) K.2.2.2.2.1 tm_203 tm_204 tm_11 tm_205 rfl rfl (wd_of (by decide +kernel) (by decide +kernel)) ⟨Nat.le_of_ble_eq_true rfl, Nat.le_of_ble_eq_true rfl⟩) [1] rfl rfl (fun _ => rfl) rfl rfl (Nat.le_of_ble_eq_true rfl) (Nat.zero_le _) (Nat.zero_le _) (fun r1 hr1 => ?_)
  refine cv_norm [k_Cache h hB hW v, k_arr hB aB n r1] rfl ?_
  have hr1 : r1 = p_fillTo ((v 0).toNatClampNeg) fB (-1 : Int32) := by rw [hr1, hl, nI_clamp (by omega)]
  exact cv_retv K hm d_Cache_drop_8 (r1) (by rw [p_Cache_drop, ← hr1, p_Cache_drop_1]) rfl
-- CycleChip$Control.read(III)I
def p_Control_read (v : Nat → Int32) (k : Int32) (x : Int32) (y : Int32) : Int32 := if k = (768 : Int32) then v 0 else if k = (772 : Int32) then v 1 else if k = (773 : Int32) then v 2 else if k = (832 : Int32) then v 3 else if k = (833 : Int32) then v 4 else if k = (834 : Int32) then v 5 else if k = (835 : Int32) then v 6 else if k = (836 : Int32) then x else if k = (3072 : Int32) then y else (0 : Int32)
set_option maxRecDepth 100000 in
set_option maxHeartbeats 4000000 in
theorem m_Control_read (l : Launch) (dC : Nat → ClassId) (dI : Nat → Nat → Nat) (tys : List (ClassId × FieldType)) (h : Nat) (v : Nat → Int32) (k : Int32) (x : Int32) (y : Int32)  : cv_Mi l y_Control_read (Cond.code y_Control_read c_Control_read 4 (some .int) :: gw) { frames := 0, cells := 0, slots := 0, locals := 0 } (dC, dI) vwCl tys [.ref h, .int k, .int x, .int y] [k_Control h v] (p_Control_read v k x y) (fun r => r) (fun r => [k_Control h v]) := by
  refine cv_starti (by decide) (Nat.le_of_ble_eq_true rfl) [(0, .ref h), (1, .int k), (2, .int x), (3, .int y)] rfl ?_
  intro p e s m below meth c A K hm
  refine cv_iload_n K 1 d_Control_read_0 rfl rfl ?_
  by_cases h1 : k = (768 : Int32)
  · refine cv_lkp K d_Control_read_1 84 h1 83 (by decide +kernel) (by decide +kernel) rfl ?_
    refine cv_aload_n K 0 d_Control_read_84 rfl rfl ?_
    refine cv_get K d_Control_read_85 0 0 rfl rfl in_Control (by decide) tm_266 rfl ?_
    exact cv_reti K hm d_Control_read_88 (v 0) (by rw [p_Control_read, if_pos (c := k = (768 : Int32)) h1]) rfl rfl
  by_cases h2 : k = (772 : Int32)
  · refine cv_lkp K d_Control_read_1 89 h2 88 (by decide +kernel) (by decide +kernel) rfl ?_
    refine cv_aload_n K 0 d_Control_read_89 rfl rfl ?_
    refine cv_get K d_Control_read_90 0 1 rfl rfl in_Control (by decide) tm_267 rfl ?_
    exact cv_reti K hm d_Control_read_93 (v 1) (by rw [p_Control_read, if_neg (c := k = (768 : Int32)) h1, if_pos (c := k = (772 : Int32)) h2]) rfl rfl
  by_cases h3 : k = (773 : Int32)
  · refine cv_lkp K d_Control_read_1 94 h3 93 (by decide +kernel) (by decide +kernel) rfl ?_
    refine cv_aload_n K 0 d_Control_read_94 rfl rfl ?_
    refine cv_get K d_Control_read_95 0 2 rfl rfl in_Control (by decide) tm_268 rfl ?_
    exact cv_reti K hm d_Control_read_98 (v 2) (by rw [p_Control_read, if_neg (c := k = (768 : Int32)) h1, if_neg (c := k = (772 : Int32)) h2, if_pos (c := k = (773 : Int32)) h3]) rfl rfl
  by_cases h4 : k = (832 : Int32)
  · refine cv_lkp K d_Control_read_1 99 h4 98 (by decide +kernel) (by decide +kernel) rfl ?_
    refine cv_aload_n K 0 d_Control_read_99 rfl rfl ?_
    refine cv_get K d_Control_read_100 0 3 rfl rfl in_Control (by decide) tm_269 rfl ?_
    exact cv_reti K hm d_Control_read_103 (v 3) (by rw [p_Control_read, if_neg (c := k = (768 : Int32)) h1, if_neg (c := k = (772 : Int32)) h2, if_neg (c := k = (773 : Int32)) h3, if_pos (c := k = (832 : Int32)) h4]) rfl rfl
  by_cases h5 : k = (833 : Int32)
  · refine cv_lkp K d_Control_read_1 104 h5 103 (by decide +kernel) (by decide +kernel) rfl ?_
    refine cv_aload_n K 0 d_Control_read_104 rfl rfl ?_
    refine cv_get K d_Control_read_105 0 4 rfl rfl in_Control (by decide) tm_270 rfl ?_
    exact cv_reti K hm d_Control_read_108 (v 4) (by rw [p_Control_read, if_neg (c := k = (768 : Int32)) h1, if_neg (c := k = (772 : Int32)) h2, if_neg (c := k = (773 : Int32)) h3, if_neg (c := k = (832 : Int32)) h4, if_pos (c := k = (833 : Int32)) h5]) rfl rfl
  by_cases h6 : k = (834 : Int32)
  · refine cv_lkp K d_Control_read_1 109 h6 108 (by decide +kernel) (by decide +kernel) rfl ?_
    refine cv_aload_n K 0 d_Control_read_109 rfl rfl ?_
    refine cv_get K d_Control_read_110 0 5 rfl rfl in_Control (by decide) tm_272 rfl ?_
    exact cv_reti K hm d_Control_read_113 (v 5) (by rw [p_Control_read, if_neg (c := k = (768 : Int32)) h1, if_neg (c := k = (772 : Int32)) h2, if_neg (c := k = (773 : Int32)) h3, if_neg (c := k = (832 : Int32)) h4, if_neg (c := k = (833 : Int32)) h5, if_pos (c := k = (834 : Int32)) h6]) rfl rfl
  by_cases h7 : k = (835 : Int32)
  · refine cv_lkp K d_Control_read_1 114 h7 113 (by decide +kernel) (by decide +kernel) rfl ?_
    refine cv_aload_n K 0 d_Control_read_114 rfl rfl ?_
    refine cv_get K d_Control_read_115 0 6 rfl rfl in_Control (by decide) tm_273 rfl ?_
    exact cv_reti K hm d_Control_read_118 (v 6) (by rw [p_Control_read, if_neg (c := k = (768 : Int32)) h1, if_neg (c := k = (772 : Int32)) h2, if_neg (c := k = (773 : Int32)) h3, if_neg (c := k = (832 : Int32)) h4, if_neg (c := k = (833 : Int32)) h5, if_neg (c := k = (834 : Int32)) h6, if_pos (c := k = (835 : Int32)) h7]) rfl rfl
  by_cases h8 : k = (836 : Int32)
  · refine cv_lkp K d_Control_read_1 119 h8 118 (by decide +kernel) (by decide +kernel) rfl ?_
    refine cv_iload_n K 2 d_Control_read_119 rfl rfl ?_
    exact cv_reti K hm d_Control_read_120 (x) (by rw [p_Control_read, if_neg (c := k = (768 : Int32)) h1, if_neg (c := k = (772 : Int32)) h2, if_neg (c := k = (773 : Int32)) h3, if_neg (c := k = (832 : Int32)) h4, if_neg (c := k = (833 : Int32)) h5, if_neg (c := k = (834 : Int32)) h6, if_neg (c := k = (835 : Int32)) h7, if_pos (c := k = (836 : Int32)) h8]) rfl rfl
  by_cases h9 : k = (3072 : Int32)
  · refine cv_lkp K d_Control_read_1 121 h9 120 (by decide +kernel) (by decide +kernel) rfl ?_
    refine cv_iload_n K 3 d_Control_read_121 rfl rfl ?_
    exact cv_reti K hm d_Control_read_122 (y) (by rw [p_Control_read, if_neg (c := k = (768 : Int32)) h1, if_neg (c := k = (772 : Int32)) h2, if_neg (c := k = (773 : Int32)) h3, if_neg (c := k = (832 : Int32)) h4, if_neg (c := k = (833 : Int32)) h5, if_neg (c := k = (834 : Int32)) h6, if_neg (c := k = (835 : Int32)) h7, if_neg (c := k = (836 : Int32)) h8, if_pos (c := k = (3072 : Int32)) h9]) rfl rfl
  refine cv_lookup K d_Control_read_1 123 (by decide +kernel) (j_look h1 (by decide +kernel) (j_look h2 (by decide +kernel) (j_look h3 (by decide +kernel) (j_look h4 (by decide +kernel) (j_look h5 (by decide +kernel) (j_look h6 (by decide +kernel) (j_look h7 (by decide +kernel) (j_look h8 (by decide +kernel) (j_look h9 (by decide +kernel) j_look0))))))))) rfl ?_
  refine cv_iconst (v := 0) K d_Control_read_123 rfl ?_
  exact cv_reti K hm d_Control_read_124 ((0 : Int32)) (by rw [p_Control_read, if_neg (c := k = (768 : Int32)) h1, if_neg (c := k = (772 : Int32)) h2, if_neg (c := k = (773 : Int32)) h3, if_neg (c := k = (832 : Int32)) h4, if_neg (c := k = (833 : Int32)) h5, if_neg (c := k = (834 : Int32)) h6, if_neg (c := k = (835 : Int32)) h7, if_neg (c := k = (836 : Int32)) h8, if_neg (c := k = (3072 : Int32)) h9]) rfl rfl
-- CycleChip$Control.write(II)V
def p_Control_write (v : Nat → Int32) (k : Int32) (x : Int32) : (Nat → Int32) := if k = (768 : Int32) then (upd v 0 (x &&& (136 : Int32))) else if k = (772 : Int32) then (upd v 1 (x &&& (2176 : Int32))) else if k = (773 : Int32) then (upd v 2 (x &&& (-3 : Int32))) else if k = (832 : Int32) then (upd v 3 x) else if k = (833 : Int32) then (upd v 4 (x &&& (-4 : Int32))) else if k = (834 : Int32) then (upd v 5 x) else if k = (835 : Int32) then (upd v 6 x) else v
set_option maxRecDepth 100000 in
set_option maxHeartbeats 4000000 in
theorem m_Control_write (l : Launch) (dC : Nat → ClassId) (dI : Nat → Nat → Nat) (tys : List (ClassId × FieldType)) (h : Nat) (v : Nat → Int32) (k : Int32) (x : Int32)  : cv_Mv l y_Control_write (Cond.code y_Control_write c_Control_write 3 (none) :: gw) { frames := 0, cells := 0, slots := 0, locals := 0 } (dC, dI) vwCl tys [.ref h, .int k, .int x] [k_Control h v] (p_Control_write v k x) (fun r => [k_Control h r]) := by
  refine cv_startv (by decide) (Nat.le_of_ble_eq_true rfl) [(0, .ref h), (1, .int k), (2, .int x)] rfl ?_
  intro p e s m below meth c A K hm
  refine cv_iload_n K 1 d_Control_write_0 rfl rfl ?_
  by_cases h1 : k = (768 : Int32)
  · refine cv_lkp K d_Control_write_1 68 h1 67 (by decide +kernel) (by decide +kernel) rfl ?_
    refine cv_aload_n K 0 d_Control_write_68 rfl rfl ?_
    refine cv_iload_n K 2 d_Control_write_69 rfl rfl ?_
    refine cv_sipush (v := 136) K d_Control_write_70 (by decide +kernel) ?_
    refine cv_iand K d_Control_write_73 ?_
    refine cv_put K d_Control_write_74 [k_Control h (upd v 0 (x &&& (136 : Int32)))] 0 0 rfl rfl in_Control t_Control o_Control n_Control (by decide) tm_266 rfl rfl rfl (Nat.le_of_ble_eq_true rfl) rfl ?_
    refine cv_goto K d_Control_write_77 138 rfl ?_
    exact cv_retv K hm d_Control_write_138 ((upd v 0 (x &&& (136 : Int32)))) (by rw [p_Control_write, if_pos (c := k = (768 : Int32)) h1]) rfl
  by_cases h2 : k = (772 : Int32)
  · refine cv_lkp K d_Control_write_1 80 h2 79 (by decide +kernel) (by decide +kernel) rfl ?_
    refine cv_aload_n K 0 d_Control_write_80 rfl rfl ?_
    refine cv_iload_n K 2 d_Control_write_81 rfl rfl ?_
    refine cv_sipush (v := 2176) K d_Control_write_82 (by decide +kernel) ?_
    refine cv_iand K d_Control_write_85 ?_
    refine cv_put K d_Control_write_86 [k_Control h (upd v 1 (x &&& (2176 : Int32)))] 0 1 rfl rfl in_Control t_Control o_Control n_Control (by decide) tm_267 rfl rfl rfl (Nat.le_of_ble_eq_true rfl) rfl ?_
    refine cv_goto K d_Control_write_89 138 rfl ?_
    exact cv_retv K hm d_Control_write_138 ((upd v 1 (x &&& (2176 : Int32)))) (by rw [p_Control_write, if_neg (c := k = (768 : Int32)) h1, if_pos (c := k = (772 : Int32)) h2]) rfl
  by_cases h3 : k = (773 : Int32)
  · refine cv_lkp K d_Control_write_1 92 h3 91 (by decide +kernel) (by decide +kernel) rfl ?_
    refine cv_aload_n K 0 d_Control_write_92 rfl rfl ?_
    refine cv_iload_n K 2 d_Control_write_93 rfl rfl ?_
    refine cv_bipush (v := (-3)) K d_Control_write_94 (by decide +kernel) ?_
    refine cv_iand K d_Control_write_96 ?_
    refine cv_put K d_Control_write_97 [k_Control h (upd v 2 (x &&& (-3 : Int32)))] 0 2 rfl rfl in_Control t_Control o_Control n_Control (by decide) tm_268 rfl rfl rfl (Nat.le_of_ble_eq_true rfl) rfl ?_
    refine cv_goto K d_Control_write_100 138 rfl ?_
    exact cv_retv K hm d_Control_write_138 ((upd v 2 (x &&& (-3 : Int32)))) (by rw [p_Control_write, if_neg (c := k = (768 : Int32)) h1, if_neg (c := k = (772 : Int32)) h2, if_pos (c := k = (773 : Int32)) h3]) rfl
  by_cases h4 : k = (832 : Int32)
  · refine cv_lkp K d_Control_write_1 103 h4 102 (by decide +kernel) (by decide +kernel) rfl ?_
    refine cv_aload_n K 0 d_Control_write_103 rfl rfl ?_
    refine cv_iload_n K 2 d_Control_write_104 rfl rfl ?_
    refine cv_put K d_Control_write_105 [k_Control h (upd v 3 x)] 0 3 rfl rfl in_Control t_Control o_Control n_Control (by decide) tm_269 rfl rfl rfl (Nat.le_of_ble_eq_true rfl) rfl ?_
    refine cv_goto K d_Control_write_108 138 rfl ?_
    exact cv_retv K hm d_Control_write_138 ((upd v 3 x)) (by rw [p_Control_write, if_neg (c := k = (768 : Int32)) h1, if_neg (c := k = (772 : Int32)) h2, if_neg (c := k = (773 : Int32)) h3, if_pos (c := k = (832 : Int32)) h4]) rfl
  by_cases h5 : k = (833 : Int32)
  · refine cv_lkp K d_Control_write_1 111 h5 110 (by decide +kernel) (by decide +kernel) rfl ?_
    refine cv_aload_n K 0 d_Control_write_111 rfl rfl ?_
    refine cv_iload_n K 2 d_Control_write_112 rfl rfl ?_
    refine cv_bipush (v := (-4)) K d_Control_write_113 (by decide +kernel) ?_
    refine cv_iand K d_Control_write_115 ?_
    refine cv_put K d_Control_write_116 [k_Control h (upd v 4 (x &&& (-4 : Int32)))] 0 4 rfl rfl in_Control t_Control o_Control n_Control (by decide) tm_270 rfl rfl rfl (Nat.le_of_ble_eq_true rfl) rfl ?_
    refine cv_goto K d_Control_write_119 138 rfl ?_
    exact cv_retv K hm d_Control_write_138 ((upd v 4 (x &&& (-4 : Int32)))) (by rw [p_Control_write, if_neg (c := k = (768 : Int32)) h1, if_neg (c := k = (772 : Int32)) h2, if_neg (c := k = (773 : Int32)) h3, if_neg (c := k = (832 : Int32)) h4, if_pos (c := k = (833 : Int32)) h5]) rfl
  by_cases h6 : k = (834 : Int32)
  · refine cv_lkp K d_Control_write_1 122 h6 121 (by decide +kernel) (by decide +kernel) rfl ?_
    refine cv_aload_n K 0 d_Control_write_122 rfl rfl ?_
    refine cv_iload_n K 2 d_Control_write_123 rfl rfl ?_
    refine cv_put K d_Control_write_124 [k_Control h (upd v 5 x)] 0 5 rfl rfl in_Control t_Control o_Control n_Control (by decide) tm_272 rfl rfl rfl (Nat.le_of_ble_eq_true rfl) rfl ?_
    refine cv_goto K d_Control_write_127 138 rfl ?_
    exact cv_retv K hm d_Control_write_138 ((upd v 5 x)) (by rw [p_Control_write, if_neg (c := k = (768 : Int32)) h1, if_neg (c := k = (772 : Int32)) h2, if_neg (c := k = (773 : Int32)) h3, if_neg (c := k = (832 : Int32)) h4, if_neg (c := k = (833 : Int32)) h5, if_pos (c := k = (834 : Int32)) h6]) rfl
  by_cases h7 : k = (835 : Int32)
  · refine cv_lkp K d_Control_write_1 130 h7 129 (by decide +kernel) (by decide +kernel) rfl ?_
    refine cv_aload_n K 0 d_Control_write_130 rfl rfl ?_
    refine cv_iload_n K 2 d_Control_write_131 rfl rfl ?_
    refine cv_put K d_Control_write_132 [k_Control h (upd v 6 x)] 0 6 rfl rfl in_Control t_Control o_Control n_Control (by decide) tm_273 rfl rfl rfl (Nat.le_of_ble_eq_true rfl) rfl ?_
    refine cv_goto K d_Control_write_135 138 rfl ?_
    exact cv_retv K hm d_Control_write_138 ((upd v 6 x)) (by rw [p_Control_write, if_neg (c := k = (768 : Int32)) h1, if_neg (c := k = (772 : Int32)) h2, if_neg (c := k = (773 : Int32)) h3, if_neg (c := k = (832 : Int32)) h4, if_neg (c := k = (833 : Int32)) h5, if_neg (c := k = (834 : Int32)) h6, if_pos (c := k = (835 : Int32)) h7]) rfl
  refine cv_lookup K d_Control_write_1 138 (by decide +kernel) (j_look h1 (by decide +kernel) (j_look h2 (by decide +kernel) (j_look h3 (by decide +kernel) (j_look h4 (by decide +kernel) (j_look h5 (by decide +kernel) (j_look h6 (by decide +kernel) (j_look h7 (by decide +kernel) j_look0))))))) rfl ?_
  exact cv_retv K hm d_Control_write_138 (v) (by rw [p_Control_write, if_neg (c := k = (768 : Int32)) h1, if_neg (c := k = (772 : Int32)) h2, if_neg (c := k = (773 : Int32)) h3, if_neg (c := k = (832 : Int32)) h4, if_neg (c := k = (833 : Int32)) h5, if_neg (c := k = (834 : Int32)) h6, if_neg (c := k = (835 : Int32)) h7]) rfl
-- CycleChip$Control.interruptsAreOn()Z
def p_Control_interruptsAreOn (v : Nat → Int32) : Int32 := if ((v 0) &&& (8 : Int32)) = (0 : Int32) then (0 : Int32) else (1 : Int32)
set_option maxRecDepth 100000 in
set_option maxHeartbeats 4000000 in
theorem m_Control_interruptsAreOn (l : Launch) (dC : Nat → ClassId) (dI : Nat → Nat → Nat) (tys : List (ClassId × FieldType)) (h : Nat) (v : Nat → Int32)  : cv_Mz l y_Control_interruptsAreOn (Cond.code y_Control_interruptsAreOn c_Control_interruptsAreOn 1 (some .boolean) :: gw) { frames := 0, cells := 0, slots := 0, locals := 0 } (dC, dI) vwCl tys [.ref h] [k_Control h v] (p_Control_interruptsAreOn v) (fun r => r) (fun r => [k_Control h v]) := by
  refine cv_startz (by decide) (Nat.le_of_ble_eq_true rfl) [(0, .ref h)] rfl ?_
  intro p e s m below meth c A K hm
  refine cv_aload_n K 0 d_Control_interruptsAreOn_0 rfl rfl ?_
  refine cv_get K d_Control_interruptsAreOn_1 0 0 rfl rfl in_Control (by decide) tm_266 rfl ?_
  refine cv_bipush (v := 8) K d_Control_interruptsAreOn_4 (by decide +kernel) ?_
  refine cv_iand K d_Control_interruptsAreOn_6 ?_
  refine cv_if_eq K d_Control_interruptsAreOn_7 14 rfl (fun h1 => ?_) (fun h1 => ?_)
  · refine cv_iconst (v := 0) K d_Control_interruptsAreOn_14 rfl ?_
    exact cv_retz K hm d_Control_interruptsAreOn_15 ((0 : Int32)) (by rw [p_Control_interruptsAreOn, if_pos (c := ((v 0) &&& (8 : Int32)) = (0 : Int32)) h1]) rfl rfl rfl
  · refine cv_iconst (v := 1) K d_Control_interruptsAreOn_10 rfl ?_
    refine cv_goto K d_Control_interruptsAreOn_11 15 rfl ?_
    exact cv_retz K hm d_Control_interruptsAreOn_15 ((1 : Int32)) (by rw [p_Control_interruptsAreOn, if_neg (c := ((v 0) &&& (8 : Int32)) = (0 : Int32)) h1]) rfl rfl rfl
-- CycleChip$Control.enabledOf(I)I
def p_Control_enabledOf (v : Nat → Int32) (k : Int32) : Int32 := k &&& (v 1)
set_option maxRecDepth 100000 in
set_option maxHeartbeats 4000000 in
theorem m_Control_enabledOf (l : Launch) (dC : Nat → ClassId) (dI : Nat → Nat → Nat) (tys : List (ClassId × FieldType)) (h : Nat) (v : Nat → Int32) (k : Int32)  : cv_Mi l y_Control_enabledOf (Cond.code y_Control_enabledOf c_Control_enabledOf 2 (some .int) :: gw) { frames := 0, cells := 0, slots := 0, locals := 0 } (dC, dI) vwCl tys [.ref h, .int k] [k_Control h v] (p_Control_enabledOf v k) (fun r => r) (fun r => [k_Control h v]) := by
  refine cv_starti (by decide) (Nat.le_of_ble_eq_true rfl) [(0, .ref h), (1, .int k)] rfl ?_
  intro p e s m below meth c A K hm
  refine cv_iload_n K 1 d_Control_enabledOf_0 rfl rfl ?_
  refine cv_aload_n K 0 d_Control_enabledOf_1 rfl rfl ?_
  refine cv_get K d_Control_enabledOf_2 0 1 rfl rfl in_Control (by decide) tm_267 rfl ?_
  refine cv_iand K d_Control_enabledOf_5 ?_
  exact cv_reti K hm d_Control_enabledOf_6 (k &&& (v 1)) (by rw [p_Control_enabledOf]) rfl rfl
-- CycleChip$Control.enterTrap(III)V
def p_Control_enterTrap (v : Nat → Int32) (k : Int32) (x : Int32) (y : Int32) : (Nat → Int32) := if ((v 0) &&& (8 : Int32)) = (0 : Int32) then (upd (upd (upd (upd v 4 y) 5 k) 6 x) 0 (0 : Int32)) else (upd (upd (upd (upd v 4 y) 5 k) 6 x) 0 (128 : Int32))
set_option maxRecDepth 100000 in
set_option maxHeartbeats 4000000 in
theorem m_Control_enterTrap (l : Launch) (dC : Nat → ClassId) (dI : Nat → Nat → Nat) (tys : List (ClassId × FieldType)) (h : Nat) (v : Nat → Int32) (k : Int32) (x : Int32) (y : Int32)  : cv_Mv l y_Control_enterTrap (Cond.code y_Control_enterTrap c_Control_enterTrap 4 (none) :: gw) { frames := 0, cells := 0, slots := 0, locals := 0 } (dC, dI) vwCl tys [.ref h, .int k, .int x, .int y] [k_Control h v] (p_Control_enterTrap v k x y) (fun r => [k_Control h r]) := by
  refine cv_startv (by decide) (Nat.le_of_ble_eq_true rfl) [(0, .ref h), (1, .int k), (2, .int x), (3, .int y)] rfl ?_
  intro p e s m below meth c A K hm
  refine cv_aload_n K 0 d_Control_enterTrap_0 rfl rfl ?_
  refine cv_iload_n K 3 d_Control_enterTrap_1 rfl rfl ?_
  refine cv_put K d_Control_enterTrap_2 [k_Control h (upd v 4 y)] 0 4 rfl rfl in_Control t_Control o_Control n_Control (by decide) tm_270 rfl rfl rfl (Nat.le_of_ble_eq_true rfl) rfl ?_
  refine cv_aload_n K 0 d_Control_enterTrap_5 rfl rfl ?_
  refine cv_iload_n K 1 d_Control_enterTrap_6 rfl rfl ?_
  refine cv_put K d_Control_enterTrap_7 [k_Control h (upd (upd v 4 y) 5 k)] 0 5 rfl rfl in_Control t_Control o_Control n_Control (by decide) tm_272 rfl rfl rfl (Nat.le_of_ble_eq_true rfl) rfl ?_
  refine cv_aload_n K 0 d_Control_enterTrap_10 rfl rfl ?_
  refine cv_iload_n K 2 d_Control_enterTrap_11 rfl rfl ?_
  refine cv_put K d_Control_enterTrap_12 [k_Control h (upd (upd (upd v 4 y) 5 k) 6 x)] 0 6 rfl rfl in_Control t_Control o_Control n_Control (by decide) tm_273 rfl rfl rfl (Nat.le_of_ble_eq_true rfl) rfl ?_
  refine cv_aload_n K 0 d_Control_enterTrap_15 rfl rfl ?_
  refine cv_aload_n K 0 d_Control_enterTrap_16 rfl rfl ?_
  refine cv_get K d_Control_enterTrap_17 0 0 rfl rfl in_Control (by decide) tm_266 rfl ?_
  refine cv_bipush (v := 8) K d_Control_enterTrap_20 (by decide +kernel) ?_
  refine cv_iand K d_Control_enterTrap_22 ?_
  refine cv_if_eq K d_Control_enterTrap_23 32 rfl (fun h1 => ?_) (fun h1 => ?_)
  · refine cv_iconst (v := 0) K d_Control_enterTrap_32 rfl ?_
    refine cv_put K d_Control_enterTrap_33 [k_Control h (upd (upd (upd (upd v 4 y) 5 k) 6 x) 0 (0 : Int32))] 0 0 rfl rfl in_Control t_Control o_Control n_Control (by decide) tm_266 rfl rfl rfl (Nat.le_of_ble_eq_true rfl) rfl ?_
    exact cv_retv K hm d_Control_enterTrap_36 ((upd (upd (upd (upd v 4 y) 5 k) 6 x) 0 (0 : Int32))) (by rw [p_Control_enterTrap, if_pos (c := ((v 0) &&& (8 : Int32)) = (0 : Int32)) h1]) rfl
  · refine cv_sipush (v := 128) K d_Control_enterTrap_26 (by decide +kernel) ?_
    refine cv_goto K d_Control_enterTrap_29 33 rfl ?_
    refine cv_put K d_Control_enterTrap_33 [k_Control h (upd (upd (upd (upd v 4 y) 5 k) 6 x) 0 (128 : Int32))] 0 0 rfl rfl in_Control t_Control o_Control n_Control (by decide) tm_266 rfl rfl rfl (Nat.le_of_ble_eq_true rfl) rfl ?_
    exact cv_retv K hm d_Control_enterTrap_36 ((upd (upd (upd (upd v 4 y) 5 k) 6 x) 0 (128 : Int32))) (by rw [p_Control_enterTrap, if_neg (c := ((v 0) &&& (8 : Int32)) = (0 : Int32)) h1]) rfl
-- CycleChip$Control.leaveTrap()V
def p_Control_leaveTrap (v : Nat → Int32) : (Nat → Int32) := if ((v 0) &&& (128 : Int32)) = (0 : Int32) then (upd v 0 (128 : Int32)) else (upd v 0 (136 : Int32))
set_option maxRecDepth 100000 in
set_option maxHeartbeats 4000000 in
theorem m_Control_leaveTrap (l : Launch) (dC : Nat → ClassId) (dI : Nat → Nat → Nat) (tys : List (ClassId × FieldType)) (h : Nat) (v : Nat → Int32)  : cv_Mv l y_Control_leaveTrap (Cond.code y_Control_leaveTrap c_Control_leaveTrap 1 (none) :: gw) { frames := 0, cells := 0, slots := 0, locals := 0 } (dC, dI) vwCl tys [.ref h] [k_Control h v] (p_Control_leaveTrap v) (fun r => [k_Control h r]) := by
  refine cv_startv (by decide) (Nat.le_of_ble_eq_true rfl) [(0, .ref h)] rfl ?_
  intro p e s m below meth c A K hm
  refine cv_aload_n K 0 d_Control_leaveTrap_0 rfl rfl ?_
  refine cv_aload_n K 0 d_Control_leaveTrap_1 rfl rfl ?_
  refine cv_get K d_Control_leaveTrap_2 0 0 rfl rfl in_Control (by decide) tm_266 rfl ?_
  refine cv_sipush (v := 128) K d_Control_leaveTrap_5 (by decide +kernel) ?_
  refine cv_iand K d_Control_leaveTrap_8 ?_
  refine cv_if_eq K d_Control_leaveTrap_9 18 rfl (fun h1 => ?_) (fun h1 => ?_)
  · refine cv_sipush (v := 128) K d_Control_leaveTrap_18 (by decide +kernel) ?_
    refine cv_put K d_Control_leaveTrap_21 [k_Control h (upd v 0 (128 : Int32))] 0 0 rfl rfl in_Control t_Control o_Control n_Control (by decide) tm_266 rfl rfl rfl (Nat.le_of_ble_eq_true rfl) rfl ?_
    exact cv_retv K hm d_Control_leaveTrap_24 ((upd v 0 (128 : Int32))) (by rw [p_Control_leaveTrap, if_pos (c := ((v 0) &&& (128 : Int32)) = (0 : Int32)) h1]) rfl
  · refine cv_sipush (v := 136) K d_Control_leaveTrap_12 (by decide +kernel) ?_
    refine cv_goto K d_Control_leaveTrap_15 21 rfl ?_
    refine cv_put K d_Control_leaveTrap_21 [k_Control h (upd v 0 (136 : Int32))] 0 0 rfl rfl in_Control t_Control o_Control n_Control (by decide) tm_266 rfl rfl rfl (Nat.le_of_ble_eq_true rfl) rfl ?_
    exact cv_retv K hm d_Control_leaveTrap_24 ((upd v 0 (136 : Int32))) (by rw [p_Control_leaveTrap, if_neg (c := ((v 0) &&& (128 : Int32)) = (0 : Int32)) h1]) rfl
-- CycleChip$Control.trapAddress()I
def p_Control_trapAddress (v : Nat → Int32) : Int32 := (v 2) &&& (-4 : Int32)
set_option maxRecDepth 100000 in
set_option maxHeartbeats 4000000 in
theorem m_Control_trapAddress (l : Launch) (dC : Nat → ClassId) (dI : Nat → Nat → Nat) (tys : List (ClassId × FieldType)) (h : Nat) (v : Nat → Int32)  : cv_Mi l y_Control_trapAddress (Cond.code y_Control_trapAddress c_Control_trapAddress 1 (some .int) :: gw) { frames := 0, cells := 0, slots := 0, locals := 0 } (dC, dI) vwCl tys [.ref h] [k_Control h v] (p_Control_trapAddress v) (fun r => r) (fun r => [k_Control h v]) := by
  refine cv_starti (by decide) (Nat.le_of_ble_eq_true rfl) [(0, .ref h)] rfl ?_
  intro p e s m below meth c A K hm
  refine cv_aload_n K 0 d_Control_trapAddress_0 rfl rfl ?_
  refine cv_get K d_Control_trapAddress_1 0 2 rfl rfl in_Control (by decide) tm_268 rfl ?_
  refine cv_bipush (v := (-4)) K d_Control_trapAddress_4 (by decide +kernel) ?_
  refine cv_iand K d_Control_trapAddress_6 ?_
  exact cv_reti K hm d_Control_trapAddress_7 ((v 2) &&& (-4 : Int32)) (by rw [p_Control_trapAddress]) rfl rfl
-- CycleChip$Control.interruptAddress(I)I
def p_Control_interruptAddress_1 (v : Nat → Int32) (k : Int32) (r1 : Int32) : Int32 := r1
def p_Control_interruptAddress_2 (v : Nat → Int32) (k : Int32) (r2 : Int32) : Int32 := r2 + ((4 : Int32) * k)
def p_Control_interruptAddress (v : Nat → Int32) (k : Int32) : Int32 := if ((v 2) &&& (1 : Int32)) = (0 : Int32) then p_Control_interruptAddress_1 v k (p_Control_trapAddress v) else p_Control_interruptAddress_2 v k (p_Control_trapAddress v)
set_option maxRecDepth 100000 in
set_option maxHeartbeats 4000000 in
theorem m_Control_interruptAddress (l : Launch) (dC : Nat → ClassId) (dI : Nat → Nat → Nat) (tys : List (ClassId × FieldType)) (h : Nat) (v : Nat → Int32) (k : Int32)  : cv_Mi l y_Control_interruptAddress (Cond.code y_Control_interruptAddress c_Control_interruptAddress 2 (some .int) :: gw) { frames := 1, cells := 0, slots := 0, locals := 20 } (dC, dI) vwCl tys [.ref h, .int k] [k_Control h v] (p_Control_interruptAddress v k) (fun r => r) (fun r => [k_Control h v]) := by
  refine cv_starti (by decide) (Nat.le_of_ble_eq_true rfl) [(0, .ref h), (1, .int k)] rfl ?_
  intro p e s m below meth c A K hm
  refine cv_aload_n K 0 d_Control_interruptAddress_0 rfl rfl ?_
  refine cv_get K d_Control_interruptAddress_1 0 2 rfl rfl in_Control (by decide) tm_268 rfl ?_
  refine cv_iconst (v := 1) K d_Control_interruptAddress_4 rfl ?_
  refine cv_iand K d_Control_interruptAddress_5 ?_
  refine cv_if_eq K d_Control_interruptAddress_6 20 rfl (fun h1 => ?_) (fun h1 => ?_)
  · refine cv_aload_n K 0 d_Control_interruptAddress_20 rfl rfl ?_
    refine cv_callVi K (m_Control_trapAddress l dC dI tys h v) d_Control_interruptAddress_21 (cw_V (n := 0) K.2.2.2.2.1 tm_625 tm_626 tm_627 tm_14 tm_628 rfl rfl ⟨rfl, wd_of (by decide +kernel) (by decide +kernel)⟩ ⟨Nat.le_of_ble_eq_true rfl, Nat.le_of_ble_eq_true rfl⟩) 0 rfl rfl [0] rfl rfl (fun _ => rfl) rfl rfl (Nat.le_of_ble_eq_true rfl) (Nat.zero_le _) (Nat.zero_le _) (fun r1 hr1 => ?_)
    refine cv_norm [k_Control h v] rfl ?_
    exact cv_reti K hm d_Control_interruptAddress_24 (r1) (by rw [p_Control_interruptAddress, if_pos (c := ((v 2) &&& (1 : Int32)) = (0 : Int32)) h1, ← hr1, p_Control_interruptAddress_1]) rfl rfl
  · refine cv_aload_n K 0 d_Control_interruptAddress_9 rfl rfl ?_
    refine cv_callVi K (m_Control_trapAddress l dC dI tys h v) d_Control_interruptAddress_10 (cw_V (n := 0) K.2.2.2.2.1 tm_625 tm_626 tm_627 tm_14 tm_628 rfl rfl ⟨rfl, wd_of (by decide +kernel) (by decide +kernel)⟩ ⟨Nat.le_of_ble_eq_true rfl, Nat.le_of_ble_eq_true rfl⟩) 0 rfl rfl [0] rfl rfl (fun _ => rfl) rfl rfl (Nat.le_of_ble_eq_true rfl) (Nat.zero_le _) (Nat.zero_le _) (fun r2 hr2 => ?_)
    refine cv_norm [k_Control h v] rfl ?_
    refine cv_iconst (v := 4) K d_Control_interruptAddress_13 rfl ?_
    refine cv_iload_n K 1 d_Control_interruptAddress_14 rfl rfl ?_
    refine cv_imul K d_Control_interruptAddress_15 ?_
    refine cv_iadd K d_Control_interruptAddress_16 ?_
    refine cv_goto K d_Control_interruptAddress_17 24 rfl ?_
    exact cv_reti K hm d_Control_interruptAddress_24 (r2 + ((4 : Int32) * k)) (by rw [p_Control_interruptAddress, if_neg (c := ((v 2) &&& (1 : Int32)) = (0 : Int32)) h1, ← hr2, p_Control_interruptAddress_2]) rfl rfl
-- CycleChip$Interrupts.setLine(IZ)V
def p_Interrupts_setLine (v : Nat → Int32) (k : Int32) (x : Int32) : (Nat → Int32) := if x = (0 : Int32) then (upd v 0 ((v 0) &&& (((1 : Int32) <<< (k &&& (31 : Int32))) ^^^ (-1 : Int32)))) else (upd v 0 ((v 0) ||| ((1 : Int32) <<< (k &&& (31 : Int32)))))
set_option maxRecDepth 100000 in
set_option maxHeartbeats 4000000 in
theorem m_Interrupts_setLine (l : Launch) (dC : Nat → ClassId) (dI : Nat → Nat → Nat) (tys : List (ClassId × FieldType)) (h : Nat) (v : Nat → Int32) (k : Int32) (x : Int32)  : cv_Mv l y_Interrupts_setLine (Cond.code y_Interrupts_setLine c_Interrupts_setLine 3 (none) :: gw) { frames := 0, cells := 0, slots := 0, locals := 0 } (dC, dI) vwCl tys [.ref h, .int k, .int x] [k_Interrupts h v] (p_Interrupts_setLine v k x) (fun r => [k_Interrupts h r]) := by
  refine cv_startv (by decide) (Nat.le_of_ble_eq_true rfl) [(0, .ref h), (1, .int k), (2, .int x)] rfl ?_
  intro p e s m below meth c A K hm
  refine cv_aload_n K 0 d_Interrupts_setLine_0 rfl rfl ?_
  refine cv_iload_n K 2 d_Interrupts_setLine_1 rfl rfl ?_
  refine cv_if_eq K d_Interrupts_setLine_2 16 rfl (fun h1 => ?_) (fun h1 => ?_)
  · refine cv_aload_n K 0 d_Interrupts_setLine_16 rfl rfl ?_
    refine cv_get K d_Interrupts_setLine_17 0 0 rfl rfl in_Interrupts (by decide) tm_79 rfl ?_
    refine cv_iconst (v := 1) K d_Interrupts_setLine_20 rfl ?_
    refine cv_iload_n K 1 d_Interrupts_setLine_21 rfl rfl ?_
    refine cv_ishl K d_Interrupts_setLine_22 ?_
    refine cv_iconst (v := (-1)) K d_Interrupts_setLine_23 rfl ?_
    refine cv_ixor K d_Interrupts_setLine_24 ?_
    refine cv_iand K d_Interrupts_setLine_25 ?_
    refine cv_put K d_Interrupts_setLine_26 [k_Interrupts h (upd v 0 ((v 0) &&& (((1 : Int32) <<< (k &&& (31 : Int32))) ^^^ (-1 : Int32))))] 0 0 rfl rfl in_Interrupts t_Interrupts o_Interrupts n_Interrupts (by decide) tm_79 rfl rfl rfl (Nat.le_of_ble_eq_true rfl) rfl ?_
    exact cv_retv K hm d_Interrupts_setLine_29 ((upd v 0 ((v 0) &&& (((1 : Int32) <<< (k &&& (31 : Int32))) ^^^ (-1 : Int32))))) (by rw [p_Interrupts_setLine, if_pos (c := x = (0 : Int32)) h1]) rfl
  · refine cv_aload_n K 0 d_Interrupts_setLine_5 rfl rfl ?_
    refine cv_get K d_Interrupts_setLine_6 0 0 rfl rfl in_Interrupts (by decide) tm_79 rfl ?_
    refine cv_iconst (v := 1) K d_Interrupts_setLine_9 rfl ?_
    refine cv_iload_n K 1 d_Interrupts_setLine_10 rfl rfl ?_
    refine cv_ishl K d_Interrupts_setLine_11 ?_
    refine cv_ior K d_Interrupts_setLine_12 ?_
    refine cv_goto K d_Interrupts_setLine_13 26 rfl ?_
    refine cv_put K d_Interrupts_setLine_26 [k_Interrupts h (upd v 0 ((v 0) ||| ((1 : Int32) <<< (k &&& (31 : Int32)))))] 0 0 rfl rfl in_Interrupts t_Interrupts o_Interrupts n_Interrupts (by decide) tm_79 rfl rfl rfl (Nat.le_of_ble_eq_true rfl) rfl ?_
    exact cv_retv K hm d_Interrupts_setLine_29 ((upd v 0 ((v 0) ||| ((1 : Int32) <<< (k &&& (31 : Int32)))))) (by rw [p_Interrupts_setLine, if_neg (c := x = (0 : Int32)) h1]) rfl
-- CycleChip$Interrupts.gather(Z)V
def p_Interrupts_gather (v : Nat → Int32) (k : Int32) : (Nat → Int32) := if k = (0 : Int32) then (upd v 4 ((v 4) ||| (((v 0) ||| (0 : Int32)) &&& ((v 5) ^^^ (-1 : Int32))))) else (upd v 4 ((v 4) ||| (((v 0) ||| (2 : Int32)) &&& ((v 5) ^^^ (-1 : Int32)))))
set_option maxRecDepth 100000 in
set_option maxHeartbeats 4000000 in
theorem m_Interrupts_gather (l : Launch) (dC : Nat → ClassId) (dI : Nat → Nat → Nat) (tys : List (ClassId × FieldType)) (h : Nat) (v : Nat → Int32) (k : Int32)  : cv_Mv l y_Interrupts_gather (Cond.code y_Interrupts_gather c_Interrupts_gather 3 (none) :: gw) { frames := 0, cells := 0, slots := 0, locals := 0 } (dC, dI) vwCl tys [.ref h, .int k] [k_Interrupts h v] (p_Interrupts_gather v k) (fun r => [k_Interrupts h r]) := by
  refine cv_startv (by decide) (Nat.le_of_ble_eq_true rfl) [(0, .ref h), (1, .int k)] rfl ?_
  intro p e s m below meth c A K hm
  refine cv_aload_n K 0 d_Interrupts_gather_0 rfl rfl ?_
  refine cv_get K d_Interrupts_gather_1 0 0 rfl rfl in_Interrupts (by decide) tm_79 rfl ?_
  refine cv_iload_n K 1 d_Interrupts_gather_4 rfl rfl ?_
  refine cv_if_eq K d_Interrupts_gather_5 12 rfl (fun h1 => ?_) (fun h1 => ?_)
  · refine cv_iconst (v := 0) K d_Interrupts_gather_12 rfl ?_
    refine cv_ior K d_Interrupts_gather_13 ?_
    refine cv_istore_n K d_Interrupts_gather_14 [(2, .int ((v 0) ||| (0 : Int32))), (0, .ref h), (1, .int k)] rfl (by decide) rfl ?_
    refine cv_aload_n K 1 d_Interrupts_gather_15 rfl rfl ?_
    refine cv_dup K d_Interrupts_gather_16 rfl ?_
    refine cv_get K d_Interrupts_gather_17 0 4 rfl rfl in_Interrupts (by decide) tm_83 rfl ?_
    refine cv_iload_n K 0 d_Interrupts_gather_20 rfl rfl ?_
    refine cv_aload_n K 1 d_Interrupts_gather_21 rfl rfl ?_
    refine cv_get K d_Interrupts_gather_22 0 5 rfl rfl in_Interrupts (by decide) tm_85 rfl ?_
    refine cv_iconst (v := (-1)) K d_Interrupts_gather_25 rfl ?_
    refine cv_ixor K d_Interrupts_gather_26 ?_
    refine cv_iand K d_Interrupts_gather_27 ?_
    refine cv_ior K d_Interrupts_gather_28 ?_
    refine cv_put K d_Interrupts_gather_29 [k_Interrupts h (upd v 4 ((v 4) ||| (((v 0) ||| (0 : Int32)) &&& ((v 5) ^^^ (-1 : Int32)))))] 0 4 rfl rfl in_Interrupts t_Interrupts o_Interrupts n_Interrupts (by decide) tm_83 rfl rfl rfl (Nat.le_of_ble_eq_true rfl) rfl ?_
    exact cv_retv K hm d_Interrupts_gather_32 ((upd v 4 ((v 4) ||| (((v 0) ||| (0 : Int32)) &&& ((v 5) ^^^ (-1 : Int32)))))) (by rw [p_Interrupts_gather, if_pos (c := k = (0 : Int32)) h1]) rfl
  · refine cv_iconst (v := 2) K d_Interrupts_gather_8 rfl ?_
    refine cv_goto K d_Interrupts_gather_9 13 rfl ?_
    refine cv_ior K d_Interrupts_gather_13 ?_
    refine cv_istore_n K d_Interrupts_gather_14 [(2, .int ((v 0) ||| (2 : Int32))), (0, .ref h), (1, .int k)] rfl (by decide) rfl ?_
    refine cv_aload_n K 1 d_Interrupts_gather_15 rfl rfl ?_
    refine cv_dup K d_Interrupts_gather_16 rfl ?_
    refine cv_get K d_Interrupts_gather_17 0 4 rfl rfl in_Interrupts (by decide) tm_83 rfl ?_
    refine cv_iload_n K 0 d_Interrupts_gather_20 rfl rfl ?_
    refine cv_aload_n K 1 d_Interrupts_gather_21 rfl rfl ?_
    refine cv_get K d_Interrupts_gather_22 0 5 rfl rfl in_Interrupts (by decide) tm_85 rfl ?_
    refine cv_iconst (v := (-1)) K d_Interrupts_gather_25 rfl ?_
    refine cv_ixor K d_Interrupts_gather_26 ?_
    refine cv_iand K d_Interrupts_gather_27 ?_
    refine cv_ior K d_Interrupts_gather_28 ?_
    refine cv_put K d_Interrupts_gather_29 [k_Interrupts h (upd v 4 ((v 4) ||| (((v 0) ||| (2 : Int32)) &&& ((v 5) ^^^ (-1 : Int32)))))] 0 4 rfl rfl in_Interrupts t_Interrupts o_Interrupts n_Interrupts (by decide) tm_83 rfl rfl rfl (Nat.le_of_ble_eq_true rfl) rfl ?_
    exact cv_retv K hm d_Interrupts_gather_32 ((upd v 4 ((v 4) ||| (((v 0) ||| (2 : Int32)) &&& ((v 5) ^^^ (-1 : Int32)))))) (by rw [p_Interrupts_gather, if_neg (c := k = (0 : Int32)) h1]) rfl
-- CycleChip$Interrupts.firstRaised()I
def p_Interrupts_firstRaised_L (v : Nat → Int32) : Nat → (Int32) → (Int32) → (Int32) → Int32
  | 0, b_, q_, s_ => 0
  | fu + 1, b_, q_, s_ => if (7 : Int32) < s_ then b_ else if ((v 4) &&& (v 1)) = (0 : Int32) then b_ else if ((((v 4) &&& (v 1)) >>> (s_ &&& (31 : Int32))) &&& (1 : Int32)) = (0 : Int32) then (fun b_ q_ s_ => p_Interrupts_firstRaised_L v fu b_ q_ s_) b_ q_ (s_ + (1 : Int32)) else if (((v 3) >>> (((4 : Int32) * s_) &&& (31 : Int32))) &&& (7 : Int32)) ≤ q_ then (fun b_ q_ s_ => p_Interrupts_firstRaised_L v fu b_ q_ s_) b_ q_ (s_ + (1 : Int32)) else (fun b_ q_ s_ => p_Interrupts_firstRaised_L v fu b_ q_ s_) s_ (((v 3) >>> (((4 : Int32) * s_) &&& (31 : Int32))) &&& (7 : Int32)) (s_ + (1 : Int32))
def p_Interrupts_firstRaised (v : Nat → Int32) : Int32 := p_Interrupts_firstRaised_L v 8 (0 : Int32) (v 2) (1 : Int32)
set_option maxRecDepth 100000 in
set_option maxHeartbeats 4000000 in
theorem m_Interrupts_firstRaised (l : Launch) (dC : Nat → ClassId) (dI : Nat → Nat → Nat) (tys : List (ClassId × FieldType)) (h : Nat) (v : Nat → Int32)  : cv_Mi l y_Interrupts_firstRaised (Cond.code y_Interrupts_firstRaised c_Interrupts_firstRaised 6 (some .int) :: gw) { frames := 0, cells := 0, slots := 0, locals := 0 } (dC, dI) vwCl tys [.ref h] [k_Interrupts h v] (p_Interrupts_firstRaised v) (fun r => r) (fun r => [k_Interrupts h v]) := by
  refine cv_starti (by decide) (Nat.le_of_ble_eq_true rfl) [(0, .ref h)] rfl ?_
  intro p e s m below meth c A K hm
  refine cv_aload_n K 0 d_Interrupts_firstRaised_0 rfl rfl ?_
  refine cv_get K d_Interrupts_firstRaised_1 0 4 rfl rfl in_Interrupts (by decide) tm_83 rfl ?_
  refine cv_aload_n K 0 d_Interrupts_firstRaised_4 rfl rfl ?_
  refine cv_get K d_Interrupts_firstRaised_5 0 1 rfl rfl in_Interrupts (by decide) tm_80 rfl ?_
  refine cv_iand K d_Interrupts_firstRaised_8 ?_
  refine cv_istore_n K d_Interrupts_firstRaised_9 [(1, .int ((v 4) &&& (v 1))), (0, .ref h)] rfl (by decide) rfl ?_
  refine cv_iconst (v := 0) K d_Interrupts_firstRaised_10 rfl ?_
  refine cv_istore_n K d_Interrupts_firstRaised_11 [(2, .int (0 : Int32)), (1, .int ((v 4) &&& (v 1))), (0, .ref h)] rfl (by decide) rfl ?_
  refine cv_aload_n K 2 d_Interrupts_firstRaised_12 rfl rfl ?_
  refine cv_get K d_Interrupts_firstRaised_13 0 2 rfl rfl in_Interrupts (by decide) tm_81 rfl ?_
  refine cv_istore_n K d_Interrupts_firstRaised_16 [(3, .int (v 2)), (2, .int (0 : Int32)), (1, .int ((v 4) &&& (v 1))), (0, .ref h)] rfl (by decide) rfl ?_
  refine cv_iconst (v := 1) K d_Interrupts_firstRaised_17 rfl ?_
  refine cv_istore K d_Interrupts_firstRaised_18 [(4, .int (1 : Int32)), (3, .int (v 2)), (2, .int (0 : Int32)), (1, .int ((v 4) &&& (v 1))), (0, .ref h)] (by decide) rfl ?_
  have loop : ∀ (fu : Nat) (b_ : Int32) (q_ : Int32) (s_ : Int32) (k : Nat) (hk : s_ = nI k) (hmm : k + fu = 9 ∧ k ≤ 8), (p_Interrupts_firstRaised v) = p_Interrupts_firstRaised_L v fu b_ q_ s_ → cv_V p l e { frames := 0, cells := 0, slots := 0, locals := 0 } s m ([.ref h] : List Value).toArray below meth c 0 0 (MQ below (cv_Qi (dC, dI) vwCl tys A (p_Interrupts_firstRaised v) (fun r => r) (fun r => [k_Interrupts h v])) ([.ref h] : List Value).toArray s 0 0 A) 6 (dC, dI) vwCl A 20 [(0, .ref h), (1, .int ((v 4) &&& (v 1))), (2, .int b_), (3, .int q_), (4, .int s_)] [] [k_Interrupts h v] := by
    intro fu
    induction fu with
    | zero => intro b_ q_ s_ k hk hmm hE; exact absurd hmm (by omega)
    | succ fu ih =>
      intro b_ q_ s_ k hk hmm hE
      refine cv_iload K 4 d_Interrupts_firstRaised_20 rfl ?_
      refine cv_bipush (v := 7) K d_Interrupts_firstRaised_22 (by decide +kernel) ?_
      refine cv_icmp_gt K d_Interrupts_firstRaised_24 72 rfl (fun h1 => ?_) (fun h1 => ?_)
      · refine cv_iload_n K 2 d_Interrupts_firstRaised_72 rfl rfl ?_
        exact cv_reti K hm d_Interrupts_firstRaised_73 (b_) (hE.trans (by rw [p_Interrupts_firstRaised_L, if_pos (c := (7 : Int32) < s_) h1])) rfl rfl
      · refine cv_iload_n K 1 d_Interrupts_firstRaised_27 rfl rfl ?_
        refine cv_if_eq K d_Interrupts_firstRaised_28 72 rfl (fun h2 => ?_) (fun h2 => ?_)
        · refine cv_iload_n K 2 d_Interrupts_firstRaised_72 rfl rfl ?_
          exact cv_reti K hm d_Interrupts_firstRaised_73 (b_) (hE.trans (by rw [p_Interrupts_firstRaised_L, if_neg (c := (7 : Int32) < s_) h1, if_pos (c := ((v 4) &&& (v 1)) = (0 : Int32)) h2])) rfl rfl
        · refine cv_aload_n K 0 d_Interrupts_firstRaised_31 rfl rfl ?_
          refine cv_get K d_Interrupts_firstRaised_32 0 3 rfl rfl in_Interrupts (by decide) tm_82 rfl ?_
          refine cv_iconst (v := 4) K d_Interrupts_firstRaised_35 rfl ?_
          refine cv_iload K 4 d_Interrupts_firstRaised_36 rfl ?_
          refine cv_imul K d_Interrupts_firstRaised_38 ?_
          refine cv_ishr K d_Interrupts_firstRaised_39 ?_
          refine cv_bipush (v := 7) K d_Interrupts_firstRaised_40 (by decide +kernel) ?_
          refine cv_iand K d_Interrupts_firstRaised_42 ?_
          refine cv_istore K d_Interrupts_firstRaised_43 [(5, .int (((v 3) >>> (((4 : Int32) * s_) &&& (31 : Int32))) &&& (7 : Int32))), (0, .ref h), (1, .int ((v 4) &&& (v 1))), (2, .int b_), (3, .int q_), (4, .int s_)] (by decide) rfl ?_
          refine cv_iload_n K 2 d_Interrupts_firstRaised_45 rfl rfl ?_
          refine cv_iload K 5 d_Interrupts_firstRaised_46 rfl ?_
          refine cv_ishr K d_Interrupts_firstRaised_48 ?_
          refine cv_iconst (v := 1) K d_Interrupts_firstRaised_49 rfl ?_
          refine cv_iand K d_Interrupts_firstRaised_50 ?_
          refine cv_if_eq K d_Interrupts_firstRaised_51 66 rfl (fun h3 => ?_) (fun h3 => ?_)
          · refine cv_iinc K d_Interrupts_firstRaised_66 [(4, .int (s_ + (1 : Int32))), (5, .int (((v 3) >>> (((4 : Int32) * s_) &&& (31 : Int32))) &&& (7 : Int32))), (0, .ref h), (1, .int ((v 4) &&& (v 1))), (2, .int b_), (3, .int q_)] 5 rfl rfl (by decide) rfl ?_
            refine cv_goto K d_Interrupts_firstRaised_69 20 rfl ?_
            refine cv_loc [2, 3, 4, 5, 0] [(0, .ref h), (1, .int ((v 4) &&& (v 1))), (2, .int b_), (3, .int q_), (4, .int (s_ + (1 : Int32)))] rfl ?_
            exact ih b_ q_ (s_ + (1 : Int32)) (k + 1) (by rw [hk]; exact nI_1 k) (by have := lp_nlt (n := 7) hk rfl (by omega) (by omega) h1; omega) (hE.trans (by rw [p_Interrupts_firstRaised_L, if_neg (c := (7 : Int32) < s_) h1, if_neg (c := ((v 4) &&& (v 1)) = (0 : Int32)) h2, if_pos (c := ((((v 4) &&& (v 1)) >>> (s_ &&& (31 : Int32))) &&& (1 : Int32)) = (0 : Int32)) h3]))
          · refine cv_iload K 0 d_Interrupts_firstRaised_54 rfl ?_
            refine cv_iload_n K 4 d_Interrupts_firstRaised_56 rfl rfl ?_
            refine cv_icmp_le K d_Interrupts_firstRaised_57 66 rfl (fun h4 => ?_) (fun h4 => ?_)
            · refine cv_iinc K d_Interrupts_firstRaised_66 [(4, .int (s_ + (1 : Int32))), (5, .int (((v 3) >>> (((4 : Int32) * s_) &&& (31 : Int32))) &&& (7 : Int32))), (0, .ref h), (1, .int ((v 4) &&& (v 1))), (2, .int b_), (3, .int q_)] 5 rfl rfl (by decide) rfl ?_
              refine cv_goto K d_Interrupts_firstRaised_69 20 rfl ?_
              refine cv_loc [2, 3, 4, 5, 0] [(0, .ref h), (1, .int ((v 4) &&& (v 1))), (2, .int b_), (3, .int q_), (4, .int (s_ + (1 : Int32)))] rfl ?_
              exact ih b_ q_ (s_ + (1 : Int32)) (k + 1) (by rw [hk]; exact nI_1 k) (by have := lp_nlt (n := 7) hk rfl (by omega) (by omega) h1; omega) (hE.trans (by rw [p_Interrupts_firstRaised_L, if_neg (c := (7 : Int32) < s_) h1, if_neg (c := ((v 4) &&& (v 1)) = (0 : Int32)) h2, if_neg (c := ((((v 4) &&& (v 1)) >>> (s_ &&& (31 : Int32))) &&& (1 : Int32)) = (0 : Int32)) h3, if_pos (c := (((v 3) >>> (((4 : Int32) * s_) &&& (31 : Int32))) &&& (7 : Int32)) ≤ q_) h4]))
            · refine cv_iload K 5 d_Interrupts_firstRaised_60 rfl ?_
              refine cv_istore_n K d_Interrupts_firstRaised_62 [(2, .int s_), (5, .int (((v 3) >>> (((4 : Int32) * s_) &&& (31 : Int32))) &&& (7 : Int32))), (0, .ref h), (1, .int ((v 4) &&& (v 1))), (3, .int q_), (4, .int s_)] rfl (by decide) rfl ?_
              refine cv_iload K 1 d_Interrupts_firstRaised_63 rfl ?_
              refine cv_istore_n K d_Interrupts_firstRaised_65 [(3, .int (((v 3) >>> (((4 : Int32) * s_) &&& (31 : Int32))) &&& (7 : Int32))), (2, .int s_), (5, .int (((v 3) >>> (((4 : Int32) * s_) &&& (31 : Int32))) &&& (7 : Int32))), (0, .ref h), (1, .int ((v 4) &&& (v 1))), (4, .int s_)] rfl (by decide) rfl ?_
              refine cv_iinc K d_Interrupts_firstRaised_66 [(4, .int (s_ + (1 : Int32))), (3, .int (((v 3) >>> (((4 : Int32) * s_) &&& (31 : Int32))) &&& (7 : Int32))), (2, .int s_), (5, .int (((v 3) >>> (((4 : Int32) * s_) &&& (31 : Int32))) &&& (7 : Int32))), (0, .ref h), (1, .int ((v 4) &&& (v 1)))] 5 rfl rfl (by decide) rfl ?_
              refine cv_goto K d_Interrupts_firstRaised_69 20 rfl ?_
              refine cv_loc [4, 5, 2, 1, 0] [(0, .ref h), (1, .int ((v 4) &&& (v 1))), (2, .int s_), (3, .int (((v 3) >>> (((4 : Int32) * s_) &&& (31 : Int32))) &&& (7 : Int32))), (4, .int (s_ + (1 : Int32)))] rfl ?_
              exact ih s_ (((v 3) >>> (((4 : Int32) * s_) &&& (31 : Int32))) &&& (7 : Int32)) (s_ + (1 : Int32)) (k + 1) (by rw [hk]; exact nI_1 k) (by have := lp_nlt (n := 7) hk rfl (by omega) (by omega) h1; omega) (hE.trans (by rw [p_Interrupts_firstRaised_L, if_neg (c := (7 : Int32) < s_) h1, if_neg (c := ((v 4) &&& (v 1)) = (0 : Int32)) h2, if_neg (c := ((((v 4) &&& (v 1)) >>> (s_ &&& (31 : Int32))) &&& (1 : Int32)) = (0 : Int32)) h3, if_neg (c := (((v 3) >>> (((4 : Int32) * s_) &&& (31 : Int32))) &&& (7 : Int32)) ≤ q_) h4]))
  refine cv_loc [4, 3, 2, 1, 0] [(0, .ref h), (1, .int ((v 4) &&& (v 1))), (2, .int (0 : Int32)), (3, .int (v 2)), (4, .int (1 : Int32))] rfl ?_
  exact loop 8 (0 : Int32) (v 2) (1 : Int32) 1 rfl (by omega) (by rw [p_Interrupts_firstRaised])
-- CycleChip$Interrupts.claim()I
def p_Interrupts_claim_1 (v : Nat → Int32) (r1 : Int32) : Int32 × (Nat → Int32) := if r1 = (0 : Int32) then (r1, v) else (r1, (upd (upd v 4 ((v 4) &&& (((1 : Int32) <<< (r1 &&& (31 : Int32))) ^^^ (-1 : Int32)))) 5 ((v 5) ||| ((1 : Int32) <<< (r1 &&& (31 : Int32))))))
def p_Interrupts_claim (v : Nat → Int32) : Int32 × (Nat → Int32) := p_Interrupts_claim_1 v (p_Interrupts_firstRaised v)
set_option maxRecDepth 100000 in
set_option maxHeartbeats 4000000 in
theorem m_Interrupts_claim (l : Launch) (dC : Nat → ClassId) (dI : Nat → Nat → Nat) (tys : List (ClassId × FieldType)) (h : Nat) (v : Nat → Int32)  : cv_Mi l y_Interrupts_claim (Cond.code y_Interrupts_claim c_Interrupts_claim 2 (some .int) :: gw) { frames := 1, cells := 0, slots := 0, locals := 25 } (dC, dI) vwCl tys [.ref h] [k_Interrupts h v] (p_Interrupts_claim v) (fun r => r.1) (fun r => [k_Interrupts h r.2]) := by
  refine cv_starti (by decide) (Nat.le_of_ble_eq_true rfl) [(0, .ref h)] rfl ?_
  intro p e s m below meth c A K hm
  refine cv_aload_n K 0 d_Interrupts_claim_0 rfl rfl ?_
  refine cv_callVi K (m_Interrupts_firstRaised l dC dI tys h v) d_Interrupts_claim_1 (cw_V (n := 0) K.2.2.2.2.1 tm_572 tm_438 tm_439 tm_5 tm_440 rfl rfl ⟨rfl, wd_of (by decide +kernel) (by decide +kernel)⟩ ⟨Nat.le_of_ble_eq_true rfl, Nat.le_of_ble_eq_true rfl⟩) 0 rfl rfl [0] rfl rfl (fun _ => rfl) rfl rfl (Nat.le_of_ble_eq_true rfl) (Nat.zero_le _) (Nat.zero_le _) (fun r1 hr1 => ?_)
  refine cv_norm [k_Interrupts h v] rfl ?_
  refine cv_istore_n K d_Interrupts_claim_4 [(1, .int r1), (0, .ref h)] rfl (by decide) rfl ?_
  refine cv_iload_n K 0 d_Interrupts_claim_5 rfl rfl ?_
  refine cv_if_eq K d_Interrupts_claim_6 35 rfl (fun h1 => ?_) (fun h1 => ?_)
  · refine cv_iload_n K 0 d_Interrupts_claim_35 rfl rfl ?_
    exact cv_reti K hm d_Interrupts_claim_36 ((r1, v)) (by rw [p_Interrupts_claim, ← hr1, p_Interrupts_claim_1, if_pos (c := r1 = (0 : Int32)) h1]) rfl rfl
  · refine cv_aload_n K 1 d_Interrupts_claim_9 rfl rfl ?_
    refine cv_dup K d_Interrupts_claim_10 rfl ?_
    refine cv_get K d_Interrupts_claim_11 0 4 rfl rfl in_Interrupts (by decide) tm_83 rfl ?_
    refine cv_iconst (v := 1) K d_Interrupts_claim_14 rfl ?_
    refine cv_iload_n K 0 d_Interrupts_claim_15 rfl rfl ?_
    refine cv_ishl K d_Interrupts_claim_16 ?_
    refine cv_iconst (v := (-1)) K d_Interrupts_claim_17 rfl ?_
    refine cv_ixor K d_Interrupts_claim_18 ?_
    refine cv_iand K d_Interrupts_claim_19 ?_
    refine cv_put K d_Interrupts_claim_20 [k_Interrupts h (upd v 4 ((v 4) &&& (((1 : Int32) <<< (r1 &&& (31 : Int32))) ^^^ (-1 : Int32))))] 0 4 rfl rfl in_Interrupts t_Interrupts o_Interrupts n_Interrupts (by decide) tm_83 rfl rfl rfl (Nat.le_of_ble_eq_true rfl) rfl ?_
    refine cv_aload_n K 1 d_Interrupts_claim_23 rfl rfl ?_
    refine cv_dup K d_Interrupts_claim_24 rfl ?_
    refine cv_get K d_Interrupts_claim_25 0 5 rfl rfl in_Interrupts (by decide) tm_85 rfl ?_
    refine cv_iconst (v := 1) K d_Interrupts_claim_28 rfl ?_
    refine cv_iload_n K 0 d_Interrupts_claim_29 rfl rfl ?_
    refine cv_ishl K d_Interrupts_claim_30 ?_
    refine cv_ior K d_Interrupts_claim_31 ?_
    refine cv_put K d_Interrupts_claim_32 [k_Interrupts h (upd (upd v 4 ((v 4) &&& (((1 : Int32) <<< (r1 &&& (31 : Int32))) ^^^ (-1 : Int32)))) 5 ((v 5) ||| ((1 : Int32) <<< (r1 &&& (31 : Int32)))))] 0 5 rfl rfl in_Interrupts t_Interrupts o_Interrupts n_Interrupts (by decide) tm_85 rfl rfl rfl (Nat.le_of_ble_eq_true rfl) rfl ?_
    refine cv_iload_n K 0 d_Interrupts_claim_35 rfl rfl ?_
    exact cv_reti K hm d_Interrupts_claim_36 ((r1, (upd (upd v 4 ((v 4) &&& (((1 : Int32) <<< (r1 &&& (31 : Int32))) ^^^ (-1 : Int32)))) 5 ((v 5) ||| ((1 : Int32) <<< (r1 &&& (31 : Int32))))))) (by rw [p_Interrupts_claim, ← hr1, p_Interrupts_claim_1, if_neg (c := r1 = (0 : Int32)) h1]) rfl rfl
-- CycleChip$Interrupts.endService(I)V
def p_Interrupts_endService (v : Nat → Int32) (k : Int32) : (Nat → Int32) := if k < (1 : Int32) then v else if (7 : Int32) < k then v else (upd v 5 ((v 5) &&& (((1 : Int32) <<< (k &&& (31 : Int32))) ^^^ (-1 : Int32))))
set_option maxRecDepth 100000 in
set_option maxHeartbeats 4000000 in
theorem m_Interrupts_endService (l : Launch) (dC : Nat → ClassId) (dI : Nat → Nat → Nat) (tys : List (ClassId × FieldType)) (h : Nat) (v : Nat → Int32) (k : Int32)  : cv_Mv l y_Interrupts_endService (Cond.code y_Interrupts_endService c_Interrupts_endService 2 (none) :: gw) { frames := 0, cells := 0, slots := 0, locals := 0 } (dC, dI) vwCl tys [.ref h, .int k] [k_Interrupts h v] (p_Interrupts_endService v k) (fun r => [k_Interrupts h r]) := by
  refine cv_startv (by decide) (Nat.le_of_ble_eq_true rfl) [(0, .ref h), (1, .int k)] rfl ?_
  intro p e s m below meth c A K hm
  refine cv_iload_n K 1 d_Interrupts_endService_0 rfl rfl ?_
  refine cv_iconst (v := 1) K d_Interrupts_endService_1 rfl ?_
  refine cv_icmp_lt K d_Interrupts_endService_2 25 rfl (fun h1 => ?_) (fun h1 => ?_)
  · exact cv_retv K hm d_Interrupts_endService_25 (v) (by rw [p_Interrupts_endService, if_pos (c := k < (1 : Int32)) h1]) rfl
  · refine cv_iload_n K 1 d_Interrupts_endService_5 rfl rfl ?_
    refine cv_bipush (v := 7) K d_Interrupts_endService_6 (by decide +kernel) ?_
    refine cv_icmp_gt K d_Interrupts_endService_8 25 rfl (fun h2 => ?_) (fun h2 => ?_)
    · exact cv_retv K hm d_Interrupts_endService_25 (v) (by rw [p_Interrupts_endService, if_neg (c := k < (1 : Int32)) h1, if_pos (c := (7 : Int32) < k) h2]) rfl
    · refine cv_aload_n K 0 d_Interrupts_endService_11 rfl rfl ?_
      refine cv_dup K d_Interrupts_endService_12 rfl ?_
      refine cv_get K d_Interrupts_endService_13 0 5 rfl rfl in_Interrupts (by decide) tm_85 rfl ?_
      refine cv_iconst (v := 1) K d_Interrupts_endService_16 rfl ?_
      refine cv_iload_n K 1 d_Interrupts_endService_17 rfl rfl ?_
      refine cv_ishl K d_Interrupts_endService_18 ?_
      refine cv_iconst (v := (-1)) K d_Interrupts_endService_19 rfl ?_
      refine cv_ixor K d_Interrupts_endService_20 ?_
      refine cv_iand K d_Interrupts_endService_21 ?_
      refine cv_put K d_Interrupts_endService_22 [k_Interrupts h (upd v 5 ((v 5) &&& (((1 : Int32) <<< (k &&& (31 : Int32))) ^^^ (-1 : Int32))))] 0 5 rfl rfl in_Interrupts t_Interrupts o_Interrupts n_Interrupts (by decide) tm_85 rfl rfl rfl (Nat.le_of_ble_eq_true rfl) rfl ?_
      exact cv_retv K hm d_Interrupts_endService_25 ((upd v 5 ((v 5) &&& (((1 : Int32) <<< (k &&& (31 : Int32))) ^^^ (-1 : Int32))))) (by rw [p_Interrupts_endService, if_neg (c := k < (1 : Int32)) h1, if_neg (c := (7 : Int32) < k) h2]) rfl
-- CycleChip$Interrupts.load(I)I
def p_Interrupts_load_1 (v : Nat → Int32) (k : Int32) (r1 : Int32 × (Nat → Int32)) : Int32 × (Nat → Int32) := (r1.1, r1.2)
def p_Interrupts_load (v : Nat → Int32) (k : Int32) : Int32 × (Nat → Int32) := if k = (4 : Int32) then (v 1, v) else if k = (5 : Int32) then (v 2, v) else if k = (6 : Int32) then p_Interrupts_load_1 v k (p_Interrupts_claim v) else if k = (7 : Int32) then (v 4, v) else (v 3, v)
set_option maxRecDepth 100000 in
set_option maxHeartbeats 4000000 in
theorem m_Interrupts_load (l : Launch) (dC : Nat → ClassId) (dI : Nat → Nat → Nat) (tys : List (ClassId × FieldType)) (h : Nat) (v : Nat → Int32) (k : Int32)  : cv_Mi l y_Interrupts_load (Cond.code y_Interrupts_load c_Interrupts_load 2 (some .int) :: gw) { frames := 2, cells := 0, slots := 0, locals := 46 } (dC, dI) vwCl tys [.ref h, .int k] [k_Interrupts h v] (p_Interrupts_load v k) (fun r => r.1) (fun r => [k_Interrupts h r.2]) := by
  refine cv_starti (by decide) (Nat.le_of_ble_eq_true rfl) [(0, .ref h), (1, .int k)] rfl ?_
  intro p e s m below meth c A K hm
  refine cv_iload_n K 1 d_Interrupts_load_0 rfl rfl ?_
  by_cases h1 : k = (4 : Int32)
  · refine cv_tab K d_Interrupts_load_1 32 h1 31 (by decide +kernel) rfl ?_
    refine cv_aload_n K 0 d_Interrupts_load_32 rfl rfl ?_
    refine cv_get K d_Interrupts_load_33 0 1 rfl rfl in_Interrupts (by decide) tm_80 rfl ?_
    exact cv_reti K hm d_Interrupts_load_36 ((v 1, v)) (by rw [p_Interrupts_load, if_pos (c := k = (4 : Int32)) h1]) rfl rfl
  by_cases h2 : k = (5 : Int32)
  · refine cv_tab K d_Interrupts_load_1 37 h2 36 (by decide +kernel) rfl ?_
    refine cv_aload_n K 0 d_Interrupts_load_37 rfl rfl ?_
    refine cv_get K d_Interrupts_load_38 0 2 rfl rfl in_Interrupts (by decide) tm_81 rfl ?_
    exact cv_reti K hm d_Interrupts_load_41 ((v 2, v)) (by rw [p_Interrupts_load, if_neg (c := k = (4 : Int32)) h1, if_pos (c := k = (5 : Int32)) h2]) rfl rfl
  by_cases h3 : k = (6 : Int32)
  · refine cv_tab K d_Interrupts_load_1 42 h3 41 (by decide +kernel) rfl ?_
    refine cv_aload_n K 0 d_Interrupts_load_42 rfl rfl ?_
    refine cv_callVi K (m_Interrupts_claim l dC dI tys h v) d_Interrupts_load_43 (cw_V (n := 0) K.2.2.2.2.1 tm_568 tm_570 sm_3 tm_5 tm_571 rfl rfl ⟨rfl, wd_of (by decide +kernel) (by decide +kernel)⟩ ⟨Nat.le_of_ble_eq_true rfl, Nat.le_of_ble_eq_true rfl⟩) 0 rfl rfl [0] rfl rfl (fun _ => rfl) rfl rfl (Nat.le_of_ble_eq_true rfl) (Nat.zero_le _) (Nat.zero_le _) (fun r1 hr1 => ?_)
    refine cv_norm [k_Interrupts h r1.2] rfl ?_
    exact cv_reti K hm d_Interrupts_load_46 ((r1.1, r1.2)) (by rw [p_Interrupts_load, if_neg (c := k = (4 : Int32)) h1, if_neg (c := k = (5 : Int32)) h2, if_pos (c := k = (6 : Int32)) h3, ← hr1, p_Interrupts_load_1]) rfl rfl
  by_cases h4 : k = (7 : Int32)
  · refine cv_tab K d_Interrupts_load_1 47 h4 46 (by decide +kernel) rfl ?_
    refine cv_aload_n K 0 d_Interrupts_load_47 rfl rfl ?_
    refine cv_get K d_Interrupts_load_48 0 4 rfl rfl in_Interrupts (by decide) tm_83 rfl ?_
    exact cv_reti K hm d_Interrupts_load_51 ((v 4, v)) (by rw [p_Interrupts_load, if_neg (c := k = (4 : Int32)) h1, if_neg (c := k = (5 : Int32)) h2, if_neg (c := k = (6 : Int32)) h3, if_pos (c := k = (7 : Int32)) h4]) rfl rfl
  refine cv_tabD K d_Interrupts_load_1 52 (by have zh1 := j_ne 4 h1 (by decide +kernel); have zh2 := j_ne 5 h2 (by decide +kernel); have zh3 := j_ne 6 h3 (by decide +kernel); have zh4 := j_ne 7 h4 (by decide +kernel); exact Or.inl (by omega)) rfl ?_
  refine cv_aload_n K 0 d_Interrupts_load_52 rfl rfl ?_
  refine cv_get K d_Interrupts_load_53 0 3 rfl rfl in_Interrupts (by decide) tm_82 rfl ?_
  exact cv_reti K hm d_Interrupts_load_56 ((v 3, v)) (by rw [p_Interrupts_load, if_neg (c := k = (4 : Int32)) h1, if_neg (c := k = (5 : Int32)) h2, if_neg (c := k = (6 : Int32)) h3, if_neg (c := k = (7 : Int32)) h4]) rfl rfl
-- CycleChip$Interrupts.store(II)V
def p_Interrupts_store_1 (v : Nat → Int32) (k : Int32) (x : Int32) (r1 : (Nat → Int32)) : (Nat → Int32) := r1
def p_Interrupts_store (v : Nat → Int32) (k : Int32) (x : Int32) : (Nat → Int32) := if k = (4 : Int32) then (upd v 1 (x &&& (254 : Int32))) else if k = (5 : Int32) then (upd v 2 (x &&& (7 : Int32))) else if k = (6 : Int32) then p_Interrupts_store_1 v k x (p_Interrupts_endService v x) else if k = (8 : Int32) then (upd v 3 (x &&& (2004318064 : Int32))) else v
set_option maxRecDepth 100000 in
set_option maxHeartbeats 4000000 in
theorem m_Interrupts_store (l : Launch) (dC : Nat → ClassId) (dI : Nat → Nat → Nat) (tys : List (ClassId × FieldType)) (h : Nat) (v : Nat → Int32) (k : Int32) (x : Int32)  : cv_Mv l y_Interrupts_store (Cond.code y_Interrupts_store c_Interrupts_store 3 (none) :: gw) { frames := 1, cells := 0, slots := 0, locals := 21 } (dC, dI) vwCl tys [.ref h, .int k, .int x] [k_Interrupts h v] (p_Interrupts_store v k x) (fun r => [k_Interrupts h r]) := by
  refine cv_startv (by decide) (Nat.le_of_ble_eq_true rfl) [(0, .ref h), (1, .int k), (2, .int x)] rfl ?_
  intro p e s m below meth c A K hm
  refine cv_iload_n K 1 d_Interrupts_store_0 rfl rfl ?_
  by_cases h1 : k = (4 : Int32)
  · refine cv_tab K d_Interrupts_store_1 36 h1 35 (by decide +kernel) rfl ?_
    refine cv_aload_n K 0 d_Interrupts_store_36 rfl rfl ?_
    refine cv_iload_n K 2 d_Interrupts_store_37 rfl rfl ?_
    refine cv_sipush (v := 254) K d_Interrupts_store_38 (by decide +kernel) ?_
    refine cv_iand K d_Interrupts_store_41 ?_
    refine cv_put K d_Interrupts_store_42 [k_Interrupts h (upd v 1 (x &&& (254 : Int32)))] 0 1 rfl rfl in_Interrupts t_Interrupts o_Interrupts n_Interrupts (by decide) tm_80 rfl rfl rfl (Nat.le_of_ble_eq_true rfl) rfl ?_
    refine cv_goto K d_Interrupts_store_45 78 rfl ?_
    exact cv_retv K hm d_Interrupts_store_78 ((upd v 1 (x &&& (254 : Int32)))) (by rw [p_Interrupts_store, if_pos (c := k = (4 : Int32)) h1]) rfl
  by_cases h2 : k = (5 : Int32)
  · refine cv_tab K d_Interrupts_store_1 48 h2 47 (by decide +kernel) rfl ?_
    refine cv_aload_n K 0 d_Interrupts_store_48 rfl rfl ?_
    refine cv_iload_n K 2 d_Interrupts_store_49 rfl rfl ?_
    refine cv_bipush (v := 7) K d_Interrupts_store_50 (by decide +kernel) ?_
    refine cv_iand K d_Interrupts_store_52 ?_
    refine cv_put K d_Interrupts_store_53 [k_Interrupts h (upd v 2 (x &&& (7 : Int32)))] 0 2 rfl rfl in_Interrupts t_Interrupts o_Interrupts n_Interrupts (by decide) tm_81 rfl rfl rfl (Nat.le_of_ble_eq_true rfl) rfl ?_
    refine cv_goto K d_Interrupts_store_56 78 rfl ?_
    exact cv_retv K hm d_Interrupts_store_78 ((upd v 2 (x &&& (7 : Int32)))) (by rw [p_Interrupts_store, if_neg (c := k = (4 : Int32)) h1, if_pos (c := k = (5 : Int32)) h2]) rfl
  by_cases h3 : k = (6 : Int32)
  · refine cv_tab K d_Interrupts_store_1 59 h3 58 (by decide +kernel) rfl ?_
    refine cv_aload_n K 0 d_Interrupts_store_59 rfl rfl ?_
    refine cv_iload_n K 2 d_Interrupts_store_60 rfl rfl ?_
    refine cv_callVv K (m_Interrupts_endService l dC dI tys h v x) d_Interrupts_store_61 (cw_V (n := 1) K.2.2.2.2.1 tm_550 tm_552 sm_2 tm_5 tm_553 rfl rfl ⟨rfl, wd_of (by decide +kernel) (by decide +kernel)⟩ ⟨Nat.le_of_ble_eq_true rfl, Nat.le_of_ble_eq_true rfl⟩) 0 rfl rfl [0] rfl rfl (fun _ => rfl) rfl rfl (Nat.le_of_ble_eq_true rfl) (Nat.zero_le _) (Nat.zero_le _) (fun r1 hr1 => ?_)
    refine cv_norm [k_Interrupts h r1] rfl ?_
    refine cv_goto K d_Interrupts_store_64 78 rfl ?_
    exact cv_retv K hm d_Interrupts_store_78 (r1) (by rw [p_Interrupts_store, if_neg (c := k = (4 : Int32)) h1, if_neg (c := k = (5 : Int32)) h2, if_pos (c := k = (6 : Int32)) h3, ← hr1, p_Interrupts_store_1]) rfl
  by_cases h4 : k = (8 : Int32)
  · refine cv_tab K d_Interrupts_store_1 67 h4 66 (by decide +kernel) rfl ?_
    refine cv_aload_n K 0 d_Interrupts_store_67 rfl rfl ?_
    refine cv_iload_n K 2 d_Interrupts_store_68 rfl rfl ?_
    refine cv_ldc (v := 2004318064) K d_Interrupts_store_69 tm_554 ?_
    refine cv_iand K d_Interrupts_store_71 ?_
    refine cv_put K d_Interrupts_store_72 [k_Interrupts h (upd v 3 (x &&& (2004318064 : Int32)))] 0 3 rfl rfl in_Interrupts t_Interrupts o_Interrupts n_Interrupts (by decide) tm_82 rfl rfl rfl (Nat.le_of_ble_eq_true rfl) rfl ?_
    refine cv_goto K d_Interrupts_store_75 78 rfl ?_
    exact cv_retv K hm d_Interrupts_store_78 ((upd v 3 (x &&& (2004318064 : Int32)))) (by rw [p_Interrupts_store, if_neg (c := k = (4 : Int32)) h1, if_neg (c := k = (5 : Int32)) h2, if_neg (c := k = (6 : Int32)) h3, if_pos (c := k = (8 : Int32)) h4]) rfl
  refine cv_tabD K d_Interrupts_store_1 78 (by
      have zh1 := j_ne 4 h1 (by decide +kernel); have zh2 := j_ne 5 h2 (by decide +kernel); have zh3 := j_ne 6 h3 (by decide +kernel); have zh4 := j_ne 8 h4 (by decide +kernel); 
      by_cases hlo : k.toInt < 4 ∨ 8 < k.toInt
      · exact Or.inl hlo
      · have hq : k.toInt = 7 := by omega
        rw [hq]; exact Or.inr rfl) rfl ?_
  exact cv_retv K hm d_Interrupts_store_78 (v) (by rw [p_Interrupts_store, if_neg (c := k = (4 : Int32)) h1, if_neg (c := k = (5 : Int32)) h2, if_neg (c := k = (6 : Int32)) h3, if_neg (c := k = (8 : Int32)) h4]) rfl
