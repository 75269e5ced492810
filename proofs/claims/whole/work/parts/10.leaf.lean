-- java/lang/Integer.compare(II)I
def p_JInt_compare (x : Int32) (y : Int32) : Int32 := if y ≤ x then if x = y then (0 : Int32) else (1 : Int32) else (-1 : Int32)
set_option maxRecDepth 100000 in
set_option maxHeartbeats 4000000 in
theorem m_JInt_compare (l : Launch) (dC : Nat → ClassId) (dI : Nat → Nat → Nat) (tys : List (ClassId × FieldType)) (x : Int32) (y : Int32)  : cv_Mi l y_JInt_compare (Cond.code y_JInt_compare c_JInt_compare 2 (some .int) :: gw) { frames := 0, cells := 0, slots := 0, locals := 0 } (dC, dI) vwCl tys [.int x, .int y] [] (p_JInt_compare x y) (fun r => r) (fun r => []) := by
  refine cv_starti (by decide) (Nat.le_of_ble_eq_true rfl) [(0, .int x), (1, .int y)] rfl ?_
  intro p e s m below meth c A K hm
  refine cv_iload_n K 0 d_JInt_compare_0 rfl rfl ?_
  refine cv_iload_n K 1 d_JInt_compare_1 rfl rfl ?_
  refine cv_icmp_ge K d_JInt_compare_2 9 rfl (fun h1 => ?_) (fun h1 => ?_)
  · refine cv_iload_n K 0 d_JInt_compare_9 rfl rfl ?_
    refine cv_iload_n K 1 d_JInt_compare_10 rfl rfl ?_
    refine cv_icmp_ne K d_JInt_compare_11 18 rfl (fun h2 => ?_) (fun h2 => ?_)
    · refine cv_iconst (v := 1) K d_JInt_compare_18 rfl ?_
      exact cv_reti K hm d_JInt_compare_19 ((1 : Int32)) (by rw [p_JInt_compare, if_pos (c := y ≤ x) h1, if_neg (c := x = y) h2]) rfl rfl
    · refine cv_iconst (v := 0) K d_JInt_compare_14 rfl ?_
      refine cv_goto K d_JInt_compare_15 19 rfl ?_
      exact cv_reti K hm d_JInt_compare_19 ((0 : Int32)) (by rw [p_JInt_compare, if_pos (c := y ≤ x) h1, if_pos (c := x = y) h2]) rfl rfl
  · refine cv_iconst (v := (-1)) K d_JInt_compare_5 rfl ?_
    refine cv_goto K d_JInt_compare_6 19 rfl ?_
    exact cv_reti K hm d_JInt_compare_19 ((-1 : Int32)) (by rw [p_JInt_compare, if_neg (c := y ≤ x) h1]) rfl rfl
-- java/lang/Integer.compareUnsigned(II)I
def p_JInt_compareUnsigned_1 (x : Int32) (y : Int32) (r1 : Int32) : Int32 := r1
def p_JInt_compareUnsigned (x : Int32) (y : Int32) : Int32 := p_JInt_compareUnsigned_1 x y (p_JInt_compare (x + (-2147483648 : Int32)) (y + (-2147483648 : Int32)))
set_option maxRecDepth 100000 in
set_option maxHeartbeats 4000000 in
theorem m_JInt_compareUnsigned (l : Launch) (dC : Nat → ClassId) (dI : Nat → Nat → Nat) (tys : List (ClassId × FieldType)) (x : Int32) (y : Int32)  : cv_Mi l y_JInt_compareUnsigned (Cond.code y_JInt_compareUnsigned c_JInt_compareUnsigned 2 (some .int) :: gw) { frames := 1, cells := 0, slots := 0, locals := 21 } (dC, dI) vwCl tys [.int x, .int y] [] (p_JInt_compareUnsigned x y) (fun r => r) (fun r => []) := by
  refine cv_starti (by decide) (Nat.le_of_ble_eq_true rfl) [(0, .int x), (1, .int y)] rfl ?_
  intro p e s m below meth c A K hm
  refine cv_iload_n K 0 d_JInt_compareUnsigned_0 rfl rfl ?_
  refine cv_ldc (v := (-2147483648)) K d_JInt_compareUnsigned_1 tm_689 ?_
  refine cv_iadd K d_JInt_compareUnsigned_3 ?_
  refine cv_iload_n K 1 d_JInt_compareUnsigned_4 rfl rfl ?_
  refine cv_ldc (v := (-2147483648)) K d_JInt_compareUnsigned_5 tm_689 ?_
  refine cv_iadd K d_JInt_compareUnsigned_7 ?_
  refine cv_callSi K (m_JInt_compare l dC dI tys (x + (-2147483648 : Int32)) (y + (-2147483648 : Int32))) d_JInt_compareUnsigned_8 (cw_S (n := 2) K.2.2.2.2.1 tm_690 tm_691 tm_18 tm_692 rfl rfl (wd_of (by decide +kernel) (by decide +kernel)) ⟨Nat.le_of_ble_eq_true rfl, Nat.le_of_ble_eq_true rfl⟩) [] rfl rfl (fun _ => rfl) rfl rfl (Nat.le_of_ble_eq_true rfl) (Nat.zero_le _) (Nat.zero_le _) (fun r1 hr1 => ?_)
  refine cv_norm [] rfl ?_
  exact cv_reti K hm d_JInt_compareUnsigned_11 (r1) (by rw [p_JInt_compareUnsigned, ← hr1, p_JInt_compareUnsigned_1]) rfl rfl
-- java/lang/Long.compare(JJ)I
def p_JLong_compare (x : Int64) (y : Int64) : Int32 := if (0 : Int32) ≤ (lg_cmp x y) then if (lg_cmp x y) = (0 : Int32) then (0 : Int32) else (1 : Int32) else (-1 : Int32)
set_option maxRecDepth 100000 in
set_option maxHeartbeats 4000000 in
theorem m_JLong_compare (l : Launch) (dC : Nat → ClassId) (dI : Nat → Nat → Nat) (tys : List (ClassId × FieldType)) (x : Int64) (y : Int64)  : cv_Mi l y_JLong_compare (Cond.code y_JLong_compare c_JLong_compare 4 (some .int) :: gw) { frames := 0, cells := 0, slots := 0, locals := 0 } (dC, dI) vwCl tys [.long x, .long y] [] (p_JLong_compare x y) (fun r => r) (fun r => []) := by
  refine cv_starti (by decide) (Nat.le_of_ble_eq_true rfl) [(0, .long x), (2, .long y)] rfl ?_
  intro p e s m below meth c A K hm
  refine cv_lload_n K 0 d_JLong_compare_0 rfl rfl ?_
  refine cv_lload_n K 1 d_JLong_compare_1 rfl rfl ?_
  refine cv_lcmp K d_JLong_compare_2 ?_
  refine cv_if_ge K d_JLong_compare_3 10 rfl (fun h1 => ?_) (fun h1 => ?_)
  · refine cv_lload_n K 0 d_JLong_compare_10 rfl rfl ?_
    refine cv_lload_n K 1 d_JLong_compare_11 rfl rfl ?_
    refine cv_lcmp K d_JLong_compare_12 ?_
    refine cv_if_ne K d_JLong_compare_13 20 rfl (fun h2 => ?_) (fun h2 => ?_)
    · refine cv_iconst (v := 1) K d_JLong_compare_20 rfl ?_
      exact cv_reti K hm d_JLong_compare_21 ((1 : Int32)) (by rw [p_JLong_compare, if_pos (c := (0 : Int32) ≤ (lg_cmp x y)) h1, if_neg (c := (lg_cmp x y) = (0 : Int32)) h2]) rfl rfl
    · refine cv_iconst (v := 0) K d_JLong_compare_16 rfl ?_
      refine cv_goto K d_JLong_compare_17 21 rfl ?_
      exact cv_reti K hm d_JLong_compare_21 ((0 : Int32)) (by rw [p_JLong_compare, if_pos (c := (0 : Int32) ≤ (lg_cmp x y)) h1, if_pos (c := (lg_cmp x y) = (0 : Int32)) h2]) rfl rfl
  · refine cv_iconst (v := (-1)) K d_JLong_compare_6 rfl ?_
    refine cv_goto K d_JLong_compare_7 21 rfl ?_
    exact cv_reti K hm d_JLong_compare_21 ((-1 : Int32)) (by rw [p_JLong_compare, if_neg (c := (0 : Int32) ≤ (lg_cmp x y)) h1]) rfl rfl
-- java/lang/Long.compareUnsigned(JJ)I
def p_JLong_compareUnsigned_1 (x : Int64) (y : Int64) (r1 : Int32) : Int32 := r1
def p_JLong_compareUnsigned (x : Int64) (y : Int64) : Int32 := p_JLong_compareUnsigned_1 x y (p_JLong_compare (x + (-9223372036854775808 : Int64)) (y + (-9223372036854775808 : Int64)))
set_option maxRecDepth 100000 in
set_option maxHeartbeats 4000000 in
theorem m_JLong_compareUnsigned (l : Launch) (dC : Nat → ClassId) (dI : Nat → Nat → Nat) (tys : List (ClassId × FieldType)) (x : Int64) (y : Int64)  : cv_Mi l y_JLong_compareUnsigned (Cond.code y_JLong_compareUnsigned c_JLong_compareUnsigned 4 (some .int) :: gw) { frames := 1, cells := 0, slots := 0, locals := 23 } (dC, dI) vwCl tys [.long x, .long y] [] (p_JLong_compareUnsigned x y) (fun r => r) (fun r => []) := by
  refine cv_starti (by decide) (Nat.le_of_ble_eq_true rfl) [(0, .long x), (2, .long y)] rfl ?_
  intro p e s m below meth c A K hm
  refine cv_lload_n K 0 d_JLong_compareUnsigned_0 rfl rfl ?_
  refine cv_ldc2 (v := (-9223372036854775808)) K d_JLong_compareUnsigned_1 tm_433 ?_
  refine cv_ladd K d_JLong_compareUnsigned_4 ?_
  refine cv_lload_n K 1 d_JLong_compareUnsigned_5 rfl rfl ?_
  refine cv_ldc2 (v := (-9223372036854775808)) K d_JLong_compareUnsigned_6 tm_433 ?_
  refine cv_ladd K d_JLong_compareUnsigned_9 ?_
  refine cv_callSi K (m_JLong_compare l dC dI tys (x + (-9223372036854775808 : Int64)) (y + (-9223372036854775808 : Int64))) d_JLong_compareUnsigned_10 (cw_S (n := 2) K.2.2.2.2.1 tm_434 tm_435 tm_16 tm_436 rfl rfl (wd_of (by decide +kernel) (by decide +kernel)) ⟨Nat.le_of_ble_eq_true rfl, Nat.le_of_ble_eq_true rfl⟩) [] rfl rfl (fun _ => rfl) rfl rfl (Nat.le_of_ble_eq_true rfl) (Nat.zero_le _) (Nat.zero_le _) (fun r1 hr1 => ?_)
  refine cv_norm [] rfl ?_
  exact cv_reti K hm d_JLong_compareUnsigned_13 (r1) (by rw [p_JLong_compareUnsigned, ← hr1, p_JLong_compareUnsigned_1]) rfl rfl
-- CycleChip.isWord(I)Z
def p_Chip_isWord (k : Int32) : Int32 := if k < (0 : Int32) then (0 : Int32) else if (128 : Int32) ≤ k then (0 : Int32) else (1 : Int32)
set_option maxRecDepth 100000 in
set_option maxHeartbeats 4000000 in
theorem m_Chip_isWord (l : Launch) (dC : Nat → ClassId) (dI : Nat → Nat → Nat) (tys : List (ClassId × FieldType)) (k : Int32)  : cv_Mz l y_Chip_isWord (Cond.code y_Chip_isWord c_Chip_isWord 1 (some .boolean) :: gw) { frames := 0, cells := 0, slots := 0, locals := 0 } (dC, dI) vwCl tys [.int k] [] (p_Chip_isWord k) (fun r => r) (fun r => []) := by
  refine cv_startz (by decide) (Nat.le_of_ble_eq_true rfl) [(0, .int k)] rfl ?_
  intro p e s m below meth c A K hm
  refine cv_iload_n K 0 d_Chip_isWord_0 rfl rfl ?_
  refine cv_if_lt K d_Chip_isWord_1 15 rfl (fun h1 => ?_) (fun h1 => ?_)
  · refine cv_iconst (v := 0) K d_Chip_isWord_15 rfl ?_
    exact cv_retz K hm d_Chip_isWord_16 ((0 : Int32)) (by rw [p_Chip_isWord, if_pos (c := k < (0 : Int32)) h1]) rfl rfl rfl
  · refine cv_iload_n K 0 d_Chip_isWord_4 rfl rfl ?_
    refine cv_sipush (v := 128) K d_Chip_isWord_5 (by decide +kernel) ?_
    refine cv_icmp_ge K d_Chip_isWord_8 15 rfl (fun h2 => ?_) (fun h2 => ?_)
    · refine cv_iconst (v := 0) K d_Chip_isWord_15 rfl ?_
      exact cv_retz K hm d_Chip_isWord_16 ((0 : Int32)) (by rw [p_Chip_isWord, if_neg (c := k < (0 : Int32)) h1, if_pos (c := (128 : Int32) ≤ k) h2]) rfl rfl rfl
    · refine cv_iconst (v := 1) K d_Chip_isWord_11 rfl ?_
      refine cv_goto K d_Chip_isWord_12 16 rfl ?_
      exact cv_retz K hm d_Chip_isWord_16 ((1 : Int32)) (by rw [p_Chip_isWord, if_neg (c := k < (0 : Int32)) h1, if_neg (c := (128 : Int32) ≤ k) h2]) rfl rfl rfl
-- CycleChip.isRegister(I)Z
def p_Chip_isRegister (k : Int32) : Int32 := if k < (0 : Int32) then (0 : Int32) else if (32 : Int32) ≤ k then (0 : Int32) else (1 : Int32)
set_option maxRecDepth 100000 in
set_option maxHeartbeats 4000000 in
theorem m_Chip_isRegister (l : Launch) (dC : Nat → ClassId) (dI : Nat → Nat → Nat) (tys : List (ClassId × FieldType)) (k : Int32)  : cv_Mz l y_Chip_isRegister (Cond.code y_Chip_isRegister c_Chip_isRegister 1 (some .boolean) :: gw) { frames := 0, cells := 0, slots := 0, locals := 0 } (dC, dI) vwCl tys [.int k] [] (p_Chip_isRegister k) (fun r => r) (fun r => []) := by
  refine cv_startz (by decide) (Nat.le_of_ble_eq_true rfl) [(0, .int k)] rfl ?_
  intro p e s m below meth c A K hm
  refine cv_iload_n K 0 d_Chip_isRegister_0 rfl rfl ?_
  refine cv_if_lt K d_Chip_isRegister_1 14 rfl (fun h1 => ?_) (fun h1 => ?_)
  · refine cv_iconst (v := 0) K d_Chip_isRegister_14 rfl ?_
    exact cv_retz K hm d_Chip_isRegister_15 ((0 : Int32)) (by rw [p_Chip_isRegister, if_pos (c := k < (0 : Int32)) h1]) rfl rfl rfl
  · refine cv_iload_n K 0 d_Chip_isRegister_4 rfl rfl ?_
    refine cv_bipush (v := 32) K d_Chip_isRegister_5 (by decide +kernel) ?_
    refine cv_icmp_ge K d_Chip_isRegister_7 14 rfl (fun h2 => ?_) (fun h2 => ?_)
    · refine cv_iconst (v := 0) K d_Chip_isRegister_14 rfl ?_
      exact cv_retz K hm d_Chip_isRegister_15 ((0 : Int32)) (by rw [p_Chip_isRegister, if_neg (c := k < (0 : Int32)) h1, if_pos (c := (32 : Int32) ≤ k) h2]) rfl rfl rfl
    · refine cv_iconst (v := 1) K d_Chip_isRegister_10 rfl ?_
      refine cv_goto K d_Chip_isRegister_11 15 rfl ?_
      exact cv_retz K hm d_Chip_isRegister_15 ((1 : Int32)) (by rw [p_Chip_isRegister, if_neg (c := k < (0 : Int32)) h1, if_neg (c := (32 : Int32) ≤ k) h2]) rfl rfl rfl
-- CycleChip.oneToEight(I)I
def p_Chip_oneToEight (k : Int32) : Int32 := j_max (1 : Int32) (j_min (8 : Int32) k)
set_option maxRecDepth 100000 in
set_option maxHeartbeats 4000000 in
theorem m_Chip_oneToEight (l : Launch) (dC : Nat → ClassId) (dI : Nat → Nat → Nat) (tys : List (ClassId × FieldType)) (k : Int32)  : cv_Mi l y_Chip_oneToEight (Cond.code y_Chip_oneToEight c_Chip_oneToEight 1 (some .int) :: gw) { frames := 1, cells := 0, slots := 0, locals := 21 } (dC, dI) vwCl tys [.int k] [] (p_Chip_oneToEight k) (fun r => r) (fun r => []) := by
  refine cv_starti (by decide) (Nat.le_of_ble_eq_true rfl) [(0, .int k)] rfl ?_
  intro p e s m below meth c A K hm
  refine cv_iconst (v := 1) K d_Chip_oneToEight_0 rfl ?_
  refine cv_bipush (v := 8) K d_Chip_oneToEight_1 (by decide +kernel) ?_
  refine cv_iload_n K 0 d_Chip_oneToEight_3 rfl rfl ?_
  refine cv_mmin K d_Chip_oneToEight_4 tm_193 tm_194 tm_10 tm_195 (Nat.le_of_ble_eq_true rfl) (Nat.le_of_ble_eq_true rfl) (Nat.zero_le _) (Nat.zero_le _) ?_
  refine cv_top (j_min (8 : Int32) k) rfl ?_
  refine cv_mmax K d_Chip_oneToEight_7 tm_196 tm_197 tm_10 tm_198 (Nat.le_of_ble_eq_true rfl) (Nat.le_of_ble_eq_true rfl) (Nat.zero_le _) (Nat.zero_le _) ?_
  refine cv_top (j_max (1 : Int32) (j_min (8 : Int32) k)) rfl ?_
  exact cv_reti K hm d_Chip_oneToEight_10 (j_max (1 : Int32) (j_min (8 : Int32) k)) (by rw [p_Chip_oneToEight]) rfl rfl
-- CycleChip$Core.isMemory(I)Z
def p_Core_isMemory (t : Int32) : Int32 := if (t &&& (3 : Int32)) = (0 : Int32) then if t < (0 : Int32) then (0 : Int32) else if (512 : Int32) ≤ t then (0 : Int32) else (1 : Int32) else (0 : Int32)
set_option maxRecDepth 100000 in
set_option maxHeartbeats 4000000 in
theorem m_Core_isMemory (l : Launch) (dC : Nat → ClassId) (dI : Nat → Nat → Nat) (tys : List (ClassId × FieldType)) (t : Int32)  : cv_Mz l y_Core_isMemory (Cond.code y_Core_isMemory c_Core_isMemory 1 (some .boolean) :: gw) { frames := 0, cells := 0, slots := 0, locals := 0 } (dC, dI) vwCl tys [.int t] [] (p_Core_isMemory t) (fun r => r) (fun r => []) := by
  refine cv_startz (by decide) (Nat.le_of_ble_eq_true rfl) [(0, .int t)] rfl ?_
  intro p e s m below meth c A K hm
  refine cv_iload_n K 0 d_Core_isMemory_0 rfl rfl ?_
  refine cv_iconst (v := 3) K d_Core_isMemory_1 rfl ?_
  refine cv_iand K d_Core_isMemory_2 ?_
  refine cv_if_ne K d_Core_isMemory_3 21 rfl (fun h1 => ?_) (fun h1 => ?_)
  · refine cv_iconst (v := 0) K d_Core_isMemory_21 rfl ?_
    exact cv_retz K hm d_Core_isMemory_22 ((0 : Int32)) (by rw [p_Core_isMemory, if_neg (c := (t &&& (3 : Int32)) = (0 : Int32)) h1]) rfl rfl rfl
  · refine cv_iload_n K 0 d_Core_isMemory_6 rfl rfl ?_
    refine cv_if_lt K d_Core_isMemory_7 21 rfl (fun h2 => ?_) (fun h2 => ?_)
    · refine cv_iconst (v := 0) K d_Core_isMemory_21 rfl ?_
      exact cv_retz K hm d_Core_isMemory_22 ((0 : Int32)) (by rw [p_Core_isMemory, if_pos (c := (t &&& (3 : Int32)) = (0 : Int32)) h1, if_pos (c := t < (0 : Int32)) h2]) rfl rfl rfl
    · refine cv_iload_n K 0 d_Core_isMemory_10 rfl rfl ?_
      refine cv_sipush (v := 512) K d_Core_isMemory_11 (by decide +kernel) ?_
      refine cv_icmp_ge K d_Core_isMemory_14 21 rfl (fun h3 => ?_) (fun h3 => ?_)
      · refine cv_iconst (v := 0) K d_Core_isMemory_21 rfl ?_
        exact cv_retz K hm d_Core_isMemory_22 ((0 : Int32)) (by rw [p_Core_isMemory, if_pos (c := (t &&& (3 : Int32)) = (0 : Int32)) h1, if_neg (c := t < (0 : Int32)) h2, if_pos (c := (512 : Int32) ≤ t) h3]) rfl rfl rfl
      · refine cv_iconst (v := 1) K d_Core_isMemory_17 rfl ?_
        refine cv_goto K d_Core_isMemory_18 22 rfl ?_
        exact cv_retz K hm d_Core_isMemory_22 ((1 : Int32)) (by rw [p_Core_isMemory, if_pos (c := (t &&& (3 : Int32)) = (0 : Int32)) h1, if_neg (c := t < (0 : Int32)) h2, if_neg (c := (512 : Int32) ≤ t) h3]) rfl rfl rfl
-- CycleChip$Core.isDevice(I)Z
def p_Core_isDevice (t : Int32) : Int32 := if t < (4096 : Int32) then (0 : Int32) else if (4160 : Int32) ≤ t then (0 : Int32) else (1 : Int32)
set_option maxRecDepth 100000 in
set_option maxHeartbeats 4000000 in
theorem m_Core_isDevice (l : Launch) (dC : Nat → ClassId) (dI : Nat → Nat → Nat) (tys : List (ClassId × FieldType)) (t : Int32)  : cv_Mz l y_Core_isDevice (Cond.code y_Core_isDevice c_Core_isDevice 1 (some .boolean) :: gw) { frames := 0, cells := 0, slots := 0, locals := 0 } (dC, dI) vwCl tys [.int t] [] (p_Core_isDevice t) (fun r => r) (fun r => []) := by
  refine cv_startz (by decide) (Nat.le_of_ble_eq_true rfl) [(0, .int t)] rfl ?_
  intro p e s m below meth c A K hm
  refine cv_iload_n K 0 d_Core_isDevice_0 rfl rfl ?_
  refine cv_sipush (v := 4096) K d_Core_isDevice_1 (by decide +kernel) ?_
  refine cv_icmp_lt K d_Core_isDevice_4 18 rfl (fun h1 => ?_) (fun h1 => ?_)
  · refine cv_iconst (v := 0) K d_Core_isDevice_18 rfl ?_
    exact cv_retz K hm d_Core_isDevice_19 ((0 : Int32)) (by rw [p_Core_isDevice, if_pos (c := t < (4096 : Int32)) h1]) rfl rfl rfl
  · refine cv_iload_n K 0 d_Core_isDevice_7 rfl rfl ?_
    refine cv_sipush (v := 4160) K d_Core_isDevice_8 (by decide +kernel) ?_
    refine cv_icmp_ge K d_Core_isDevice_11 18 rfl (fun h2 => ?_) (fun h2 => ?_)
    · refine cv_iconst (v := 0) K d_Core_isDevice_18 rfl ?_
      exact cv_retz K hm d_Core_isDevice_19 ((0 : Int32)) (by rw [p_Core_isDevice, if_neg (c := t < (4096 : Int32)) h1, if_pos (c := (4160 : Int32) ≤ t) h2]) rfl rfl rfl
    · refine cv_iconst (v := 1) K d_Core_isDevice_14 rfl ?_
      refine cv_goto K d_Core_isDevice_15 19 rfl ?_
      exact cv_retz K hm d_Core_isDevice_19 ((1 : Int32)) (by rw [p_Core_isDevice, if_neg (c := t < (4096 : Int32)) h1, if_neg (c := (4160 : Int32) ≤ t) h2]) rfl rfl rfl
-- CycleChip$Core.fieldD(I)I
def p_Core_fieldD (w : Int32) : Int32 := (w >>> ((7 : Int32) &&& (31 : Int32))) &&& (31 : Int32)
set_option maxRecDepth 100000 in
set_option maxHeartbeats 4000000 in
theorem m_Core_fieldD (l : Launch) (dC : Nat → ClassId) (dI : Nat → Nat → Nat) (tys : List (ClassId × FieldType)) (w : Int32)  : cv_Mi l y_Core_fieldD (Cond.code y_Core_fieldD c_Core_fieldD 1 (some .int) :: gw) { frames := 0, cells := 0, slots := 0, locals := 0 } (dC, dI) vwCl tys [.int w] [] (p_Core_fieldD w) (fun r => r) (fun r => []) := by
  refine cv_starti (by decide) (Nat.le_of_ble_eq_true rfl) [(0, .int w)] rfl ?_
  intro p e s m below meth c A K hm
  refine cv_iload_n K 0 d_Core_fieldD_0 rfl rfl ?_
  refine cv_bipush (v := 7) K d_Core_fieldD_1 (by decide +kernel) ?_
  refine cv_ishr K d_Core_fieldD_3 ?_
  refine cv_bipush (v := 31) K d_Core_fieldD_4 (by decide +kernel) ?_
  refine cv_iand K d_Core_fieldD_6 ?_
  exact cv_reti K hm d_Core_fieldD_7 ((w >>> ((7 : Int32) &&& (31 : Int32))) &&& (31 : Int32)) (by rw [p_Core_fieldD]) rfl rfl
-- CycleChip$Core.fieldF(I)I
def p_Core_fieldF (w : Int32) : Int32 := (w >>> ((12 : Int32) &&& (31 : Int32))) &&& (7 : Int32)
set_option maxRecDepth 100000 in
set_option maxHeartbeats 4000000 in
theorem m_Core_fieldF (l : Launch) (dC : Nat → ClassId) (dI : Nat → Nat → Nat) (tys : List (ClassId × FieldType)) (w : Int32)  : cv_Mi l y_Core_fieldF (Cond.code y_Core_fieldF c_Core_fieldF 1 (some .int) :: gw) { frames := 0, cells := 0, slots := 0, locals := 0 } (dC, dI) vwCl tys [.int w] [] (p_Core_fieldF w) (fun r => r) (fun r => []) := by
  refine cv_starti (by decide) (Nat.le_of_ble_eq_true rfl) [(0, .int w)] rfl ?_
  intro p e s m below meth c A K hm
  refine cv_iload_n K 0 d_Core_fieldF_0 rfl rfl ?_
  refine cv_bipush (v := 12) K d_Core_fieldF_1 (by decide +kernel) ?_
  refine cv_ishr K d_Core_fieldF_3 ?_
  refine cv_bipush (v := 7) K d_Core_fieldF_4 (by decide +kernel) ?_
  refine cv_iand K d_Core_fieldF_6 ?_
  exact cv_reti K hm d_Core_fieldF_7 ((w >>> ((12 : Int32) &&& (31 : Int32))) &&& (7 : Int32)) (by rw [p_Core_fieldF]) rfl rfl
-- CycleChip$Core.fieldA(I)I
def p_Core_fieldA (w : Int32) : Int32 := (w >>> ((15 : Int32) &&& (31 : Int32))) &&& (31 : Int32)
set_option maxRecDepth 100000 in
set_option maxHeartbeats 4000000 in
theorem m_Core_fieldA (l : Launch) (dC : Nat → ClassId) (dI : Nat → Nat → Nat) (tys : List (ClassId × FieldType)) (w : Int32)  : cv_Mi l y_Core_fieldA (Cond.code y_Core_fieldA c_Core_fieldA 1 (some .int) :: gw) { frames := 0, cells := 0, slots := 0, locals := 0 } (dC, dI) vwCl tys [.int w] [] (p_Core_fieldA w) (fun r => r) (fun r => []) := by
  refine cv_starti (by decide) (Nat.le_of_ble_eq_true rfl) [(0, .int w)] rfl ?_
  intro p e s m below meth c A K hm
  refine cv_iload_n K 0 d_Core_fieldA_0 rfl rfl ?_
  refine cv_bipush (v := 15) K d_Core_fieldA_1 (by decide +kernel) ?_
  refine cv_ishr K d_Core_fieldA_3 ?_
  refine cv_bipush (v := 31) K d_Core_fieldA_4 (by decide +kernel) ?_
  refine cv_iand K d_Core_fieldA_6 ?_
  exact cv_reti K hm d_Core_fieldA_7 ((w >>> ((15 : Int32) &&& (31 : Int32))) &&& (31 : Int32)) (by rw [p_Core_fieldA]) rfl rfl
-- CycleChip$Core.fieldB(I)I
def p_Core_fieldB (w : Int32) : Int32 := (w >>> ((20 : Int32) &&& (31 : Int32))) &&& (31 : Int32)
set_option maxRecDepth 100000 in
set_option maxHeartbeats 4000000 in
theorem m_Core_fieldB (l : Launch) (dC : Nat → ClassId) (dI : Nat → Nat → Nat) (tys : List (ClassId × FieldType)) (w : Int32)  : cv_Mi l y_Core_fieldB (Cond.code y_Core_fieldB c_Core_fieldB 1 (some .int) :: gw) { frames := 0, cells := 0, slots := 0, locals := 0 } (dC, dI) vwCl tys [.int w] [] (p_Core_fieldB w) (fun r => r) (fun r => []) := by
  refine cv_starti (by decide) (Nat.le_of_ble_eq_true rfl) [(0, .int w)] rfl ?_
  intro p e s m below meth c A K hm
  refine cv_iload_n K 0 d_Core_fieldB_0 rfl rfl ?_
  refine cv_bipush (v := 20) K d_Core_fieldB_1 (by decide +kernel) ?_
  refine cv_ishr K d_Core_fieldB_3 ?_
  refine cv_bipush (v := 31) K d_Core_fieldB_4 (by decide +kernel) ?_
  refine cv_iand K d_Core_fieldB_6 ?_
  exact cv_reti K hm d_Core_fieldB_7 ((w >>> ((20 : Int32) &&& (31 : Int32))) &&& (31 : Int32)) (by rw [p_Core_fieldB]) rfl rfl
-- CycleChip$Core.branchOffset(I)I
def p_Core_branchOffset (w : Int32) : Int32 := ((((w >>> ((31 : Int32) &&& (31 : Int32))) * (4096 : Int32)) + (((w >>> ((7 : Int32) &&& (31 : Int32))) &&& (1 : Int32)) * (2048 : Int32))) + (((w >>> ((25 : Int32) &&& (31 : Int32))) &&& (63 : Int32)) * (32 : Int32))) + (((w >>> ((8 : Int32) &&& (31 : Int32))) &&& (15 : Int32)) * (2 : Int32))
set_option maxRecDepth 100000 in
set_option maxHeartbeats 4000000 in
theorem m_Core_branchOffset (l : Launch) (dC : Nat → ClassId) (dI : Nat → Nat → Nat) (tys : List (ClassId × FieldType)) (w : Int32)  : cv_Mi l y_Core_branchOffset (Cond.code y_Core_branchOffset c_Core_branchOffset 1 (some .int) :: gw) { frames := 0, cells := 0, slots := 0, locals := 0 } (dC, dI) vwCl tys [.int w] [] (p_Core_branchOffset w) (fun r => r) (fun r => []) := by
  refine cv_starti (by decide) (Nat.le_of_ble_eq_true rfl) [(0, .int w)] rfl ?_
  intro p e s m below meth c A K hm
  refine cv_iload_n K 0 d_Core_branchOffset_0 rfl rfl ?_
  refine cv_bipush (v := 31) K d_Core_branchOffset_1 (by decide +kernel) ?_
  refine cv_ishr K d_Core_branchOffset_3 ?_
  refine cv_sipush (v := 4096) K d_Core_branchOffset_4 (by decide +kernel) ?_
  refine cv_imul K d_Core_branchOffset_7 ?_
  refine cv_iload_n K 0 d_Core_branchOffset_8 rfl rfl ?_
  refine cv_bipush (v := 7) K d_Core_branchOffset_9 (by decide +kernel) ?_
  refine cv_ishr K d_Core_branchOffset_11 ?_
  refine cv_iconst (v := 1) K d_Core_branchOffset_12 rfl ?_
  refine cv_iand K d_Core_branchOffset_13 ?_
  refine cv_sipush (v := 2048) K d_Core_branchOffset_14 (by decide +kernel) ?_
  refine cv_imul K d_Core_branchOffset_17 ?_
  refine cv_iadd K d_Core_branchOffset_18 ?_
  refine cv_iload_n K 0 d_Core_branchOffset_19 rfl rfl ?_
  refine cv_bipush (v := 25) K d_Core_branchOffset_20 (by decide +kernel) ?_
  refine cv_ishr K d_Core_branchOffset_22 ?_
  refine cv_bipush (v := 63) K d_Core_branchOffset_23 (by decide +kernel) ?_
  refine cv_iand K d_Core_branchOffset_25 ?_
  refine cv_bipush (v := 32) K d_Core_branchOffset_26 (by decide +kernel) ?_
  refine cv_imul K d_Core_branchOffset_28 ?_
  refine cv_iadd K d_Core_branchOffset_29 ?_
  refine cv_iload_n K 0 d_Core_branchOffset_30 rfl rfl ?_
  refine cv_bipush (v := 8) K d_Core_branchOffset_31 (by decide +kernel) ?_
  refine cv_ishr K d_Core_branchOffset_33 ?_
  refine cv_bipush (v := 15) K d_Core_branchOffset_34 (by decide +kernel) ?_
  refine cv_iand K d_Core_branchOffset_36 ?_
  refine cv_iconst (v := 2) K d_Core_branchOffset_37 rfl ?_
  refine cv_imul K d_Core_branchOffset_38 ?_
  refine cv_iadd K d_Core_branchOffset_39 ?_
  exact cv_reti K hm d_Core_branchOffset_40 (((((w >>> ((31 : Int32) &&& (31 : Int32))) * (4096 : Int32)) + (((w >>> ((7 : Int32) &&& (31 : Int32))) &&& (1 : Int32)) * (2048 : Int32))) + (((w >>> ((25 : Int32) &&& (31 : Int32))) &&& (63 : Int32)) * (32 : Int32))) + (((w >>> ((8 : Int32) &&& (31 : Int32))) &&& (15 : Int32)) * (2 : Int32))) (by rw [p_Core_branchOffset]) rfl rfl
-- CycleChip$Core.jumpOffset(I)I
def p_Core_jumpOffset (w : Int32) : Int32 := ((((w >>> ((31 : Int32) &&& (31 : Int32))) * (1048576 : Int32)) + (((w >>> ((12 : Int32) &&& (31 : Int32))) &&& (255 : Int32)) * (4096 : Int32))) + (((w >>> ((20 : Int32) &&& (31 : Int32))) &&& (1 : Int32)) * (2048 : Int32))) + (((w >>> ((21 : Int32) &&& (31 : Int32))) &&& (1023 : Int32)) * (2 : Int32))
set_option maxRecDepth 100000 in
set_option maxHeartbeats 4000000 in
theorem m_Core_jumpOffset (l : Launch) (dC : Nat → ClassId) (dI : Nat → Nat → Nat) (tys : List (ClassId × FieldType)) (w : Int32)  : cv_Mi l y_Core_jumpOffset (Cond.code y_Core_jumpOffset c_Core_jumpOffset 1 (some .int) :: gw) { frames := 0, cells := 0, slots := 0, locals := 0 } (dC, dI) vwCl tys [.int w] [] (p_Core_jumpOffset w) (fun r => r) (fun r => []) := by
  refine cv_starti (by decide) (Nat.le_of_ble_eq_true rfl) [(0, .int w)] rfl ?_
  intro p e s m below meth c A K hm
  refine cv_iload_n K 0 d_Core_jumpOffset_0 rfl rfl ?_
  refine cv_bipush (v := 31) K d_Core_jumpOffset_1 (by decide +kernel) ?_
  refine cv_ishr K d_Core_jumpOffset_3 ?_
  refine cv_ldc (v := 1048576) K d_Core_jumpOffset_4 tm_661 ?_
  refine cv_imul K d_Core_jumpOffset_6 ?_
  refine cv_iload_n K 0 d_Core_jumpOffset_7 rfl rfl ?_
  refine cv_bipush (v := 12) K d_Core_jumpOffset_8 (by decide +kernel) ?_
  refine cv_ishr K d_Core_jumpOffset_10 ?_
  refine cv_sipush (v := 255) K d_Core_jumpOffset_11 (by decide +kernel) ?_
  refine cv_iand K d_Core_jumpOffset_14 ?_
  refine cv_sipush (v := 4096) K d_Core_jumpOffset_15 (by decide +kernel) ?_
  refine cv_imul K d_Core_jumpOffset_18 ?_
  refine cv_iadd K d_Core_jumpOffset_19 ?_
  refine cv_iload_n K 0 d_Core_jumpOffset_20 rfl rfl ?_
  refine cv_bipush (v := 20) K d_Core_jumpOffset_21 (by decide +kernel) ?_
  refine cv_ishr K d_Core_jumpOffset_23 ?_
  refine cv_iconst (v := 1) K d_Core_jumpOffset_24 rfl ?_
  refine cv_iand K d_Core_jumpOffset_25 ?_
  refine cv_sipush (v := 2048) K d_Core_jumpOffset_26 (by decide +kernel) ?_
  refine cv_imul K d_Core_jumpOffset_29 ?_
  refine cv_iadd K d_Core_jumpOffset_30 ?_
  refine cv_iload_n K 0 d_Core_jumpOffset_31 rfl rfl ?_
  refine cv_bipush (v := 21) K d_Core_jumpOffset_32 (by decide +kernel) ?_
  refine cv_ishr K d_Core_jumpOffset_34 ?_
  refine cv_sipush (v := 1023) K d_Core_jumpOffset_35 (by decide +kernel) ?_
  refine cv_iand K d_Core_jumpOffset_38 ?_
  refine cv_iconst (v := 2) K d_Core_jumpOffset_39 rfl ?_
  refine cv_imul K d_Core_jumpOffset_40 ?_
  refine cv_iadd K d_Core_jumpOffset_41 ?_
  exact cv_reti K hm d_Core_jumpOffset_42 (((((w >>> ((31 : Int32) &&& (31 : Int32))) * (1048576 : Int32)) + (((w >>> ((12 : Int32) &&& (31 : Int32))) &&& (255 : Int32)) * (4096 : Int32))) + (((w >>> ((20 : Int32) &&& (31 : Int32))) &&& (1 : Int32)) * (2048 : Int32))) + (((w >>> ((21 : Int32) &&& (31 : Int32))) &&& (1023 : Int32)) * (2 : Int32))) (by rw [p_Core_jumpOffset]) rfl rfl
-- CycleChip$Core.isTrue(III)Z
def p_Core_isTrue_1 (f : Int32) (x : Int32) (y : Int32) (r1 : Int32) : Int32 := if (0 : Int32) ≤ r1 then (0 : Int32) else (1 : Int32)
def p_Core_isTrue_2 (f : Int32) (x : Int32) (y : Int32) (r2 : Int32) : Int32 := if r2 < (0 : Int32) then (0 : Int32) else (1 : Int32)
def p_Core_isTrue (f : Int32) (x : Int32) (y : Int32) : Int32 := if f = (0 : Int32) then if x = y then (1 : Int32) else (0 : Int32) else if f = (1 : Int32) then if x = y then (0 : Int32) else (1 : Int32) else if f = (4 : Int32) then if y ≤ x then (0 : Int32) else (1 : Int32) else if f = (5 : Int32) then if x < y then (0 : Int32) else (1 : Int32) else if f = (6 : Int32) then p_Core_isTrue_1 f x y (p_JInt_compareUnsigned x y) else p_Core_isTrue_2 f x y (p_JInt_compareUnsigned x y)
set_option maxRecDepth 100000 in
set_option maxHeartbeats 4000000 in
theorem m_Core_isTrue (l : Launch) (dC : Nat → ClassId) (dI : Nat → Nat → Nat) (tys : List (ClassId × FieldType)) (f : Int32) (x : Int32) (y : Int32)  : cv_Mz l y_Core_isTrue (Cond.code y_Core_isTrue c_Core_isTrue 3 (some .boolean) :: gw) { frames := 2, cells := 0, slots := 0, locals := 42 } (dC, dI) vwCl tys [.int f, .int x, .int y] [] (p_Core_isTrue f x y) (fun r => r) (fun r => []) := by
  refine cv_startz (by decide) (Nat.le_of_ble_eq_true rfl) [(0, .int f), (1, .int x), (2, .int y)] rfl ?_
  intro p e s m below meth c A K hm
  refine cv_iload_n K 0 d_Core_isTrue_0 rfl rfl ?_
  by_cases h1 : f = (0 : Int32)
  · refine cv_tab K d_Core_isTrue_1 44 h1 43 (by decide +kernel) rfl ?_
    refine cv_iload_n K 1 d_Core_isTrue_44 rfl rfl ?_
    refine cv_iload_n K 2 d_Core_isTrue_45 rfl rfl ?_
    refine cv_icmp_ne K d_Core_isTrue_46 53 rfl (fun h2 => ?_) (fun h2 => ?_)
    · refine cv_iconst (v := 0) K d_Core_isTrue_53 rfl ?_
      exact cv_retz K hm d_Core_isTrue_54 ((0 : Int32)) (by rw [p_Core_isTrue, if_pos (c := f = (0 : Int32)) h1, if_neg (c := x = y) h2]) rfl rfl rfl
    · refine cv_iconst (v := 1) K d_Core_isTrue_49 rfl ?_
      refine cv_goto K d_Core_isTrue_50 54 rfl ?_
      exact cv_retz K hm d_Core_isTrue_54 ((1 : Int32)) (by rw [p_Core_isTrue, if_pos (c := f = (0 : Int32)) h1, if_pos (c := x = y) h2]) rfl rfl rfl
  by_cases h3 : f = (1 : Int32)
  · refine cv_tab K d_Core_isTrue_1 55 h3 54 (by decide +kernel) rfl ?_
    refine cv_iload_n K 1 d_Core_isTrue_55 rfl rfl ?_
    refine cv_iload_n K 2 d_Core_isTrue_56 rfl rfl ?_
    refine cv_icmp_eq K d_Core_isTrue_57 64 rfl (fun h4 => ?_) (fun h4 => ?_)
    · refine cv_iconst (v := 0) K d_Core_isTrue_64 rfl ?_
      exact cv_retz K hm d_Core_isTrue_65 ((0 : Int32)) (by rw [p_Core_isTrue, if_neg (c := f = (0 : Int32)) h1, if_pos (c := f = (1 : Int32)) h3, if_pos (c := x = y) h4]) rfl rfl rfl
    · refine cv_iconst (v := 1) K d_Core_isTrue_60 rfl ?_
      refine cv_goto K d_Core_isTrue_61 65 rfl ?_
      exact cv_retz K hm d_Core_isTrue_65 ((1 : Int32)) (by rw [p_Core_isTrue, if_neg (c := f = (0 : Int32)) h1, if_pos (c := f = (1 : Int32)) h3, if_neg (c := x = y) h4]) rfl rfl rfl
  by_cases h5 : f = (4 : Int32)
  · refine cv_tab K d_Core_isTrue_1 66 h5 65 (by decide +kernel) rfl ?_
    refine cv_iload_n K 1 d_Core_isTrue_66 rfl rfl ?_
    refine cv_iload_n K 2 d_Core_isTrue_67 rfl rfl ?_
    refine cv_icmp_ge K d_Core_isTrue_68 75 rfl (fun h6 => ?_) (fun h6 => ?_)
    · refine cv_iconst (v := 0) K d_Core_isTrue_75 rfl ?_
      exact cv_retz K hm d_Core_isTrue_76 ((0 : Int32)) (by rw [p_Core_isTrue, if_neg (c := f = (0 : Int32)) h1, if_neg (c := f = (1 : Int32)) h3, if_pos (c := f = (4 : Int32)) h5, if_pos (c := y ≤ x) h6]) rfl rfl rfl
    · refine cv_iconst (v := 1) K d_Core_isTrue_71 rfl ?_
      refine cv_goto K d_Core_isTrue_72 76 rfl ?_
      exact cv_retz K hm d_Core_isTrue_76 ((1 : Int32)) (by rw [p_Core_isTrue, if_neg (c := f = (0 : Int32)) h1, if_neg (c := f = (1 : Int32)) h3, if_pos (c := f = (4 : Int32)) h5, if_neg (c := y ≤ x) h6]) rfl rfl rfl
  by_cases h7 : f = (5 : Int32)
  · refine cv_tab K d_Core_isTrue_1 77 h7 76 (by decide +kernel) rfl ?_
    refine cv_iload_n K 1 d_Core_isTrue_77 rfl rfl ?_
    refine cv_iload_n K 2 d_Core_isTrue_78 rfl rfl ?_
    refine cv_icmp_lt K d_Core_isTrue_79 86 rfl (fun h8 => ?_) (fun h8 => ?_)
    · refine cv_iconst (v := 0) K d_Core_isTrue_86 rfl ?_
      exact cv_retz K hm d_Core_isTrue_87 ((0 : Int32)) (by rw [p_Core_isTrue, if_neg (c := f = (0 : Int32)) h1, if_neg (c := f = (1 : Int32)) h3, if_neg (c := f = (4 : Int32)) h5, if_pos (c := f = (5 : Int32)) h7, if_pos (c := x < y) h8]) rfl rfl rfl
    · refine cv_iconst (v := 1) K d_Core_isTrue_82 rfl ?_
      refine cv_goto K d_Core_isTrue_83 87 rfl ?_
      exact cv_retz K hm d_Core_isTrue_87 ((1 : Int32)) (by rw [p_Core_isTrue, if_neg (c := f = (0 : Int32)) h1, if_neg (c := f = (1 : Int32)) h3, if_neg (c := f = (4 : Int32)) h5, if_pos (c := f = (5 : Int32)) h7, if_neg (c := x < y) h8]) rfl rfl rfl
  by_cases h9 : f = (6 : Int32)
  · refine cv_tab K d_Core_isTrue_1 88 h9 87 (by decide +kernel) rfl ?_
    refine cv_iload_n K 1 d_Core_isTrue_88 rfl rfl ?_
    refine cv_iload_n K 2 d_Core_isTrue_89 rfl rfl ?_
    refine cv_callSi K (m_JInt_compareUnsigned l dC dI tys x y) d_Core_isTrue_90 (cw_S (n := 2) K.2.2.2.2.1 tm_686 tm_687 tm_18 tm_688 rfl rfl (wd_of (by decide +kernel) (by decide +kernel)) ⟨Nat.le_of_ble_eq_true rfl, Nat.le_of_ble_eq_true rfl⟩) [] rfl rfl (fun _ => rfl) rfl rfl (Nat.le_of_ble_eq_true rfl) (Nat.zero_le _) (Nat.zero_le _) (fun r1 hr1 => ?_)
    refine cv_norm [] rfl ?_
    refine cv_if_ge K d_Core_isTrue_93 100 rfl (fun h10 => ?_) (fun h10 => ?_)
    · refine cv_iconst (v := 0) K d_Core_isTrue_100 rfl ?_
      exact cv_retz K hm d_Core_isTrue_101 ((0 : Int32)) (by rw [p_Core_isTrue, if_neg (c := f = (0 : Int32)) h1, if_neg (c := f = (1 : Int32)) h3, if_neg (c := f = (4 : Int32)) h5, if_neg (c := f = (5 : Int32)) h7, if_pos (c := f = (6 : Int32)) h9, ← hr1, p_Core_isTrue_1, if_pos (c := (0 : Int32) ≤ r1) h10]) rfl rfl rfl
    · refine cv_iconst (v := 1) K d_Core_isTrue_96 rfl ?_
      refine cv_goto K d_Core_isTrue_97 101 rfl ?_
      exact cv_retz K hm d_Core_isTrue_101 ((1 : Int32)) (by rw [p_Core_isTrue, if_neg (c := f = (0 : Int32)) h1, if_neg (c := f = (1 : Int32)) h3, if_neg (c := f = (4 : Int32)) h5, if_neg (c := f = (5 : Int32)) h7, if_pos (c := f = (6 : Int32)) h9, ← hr1, p_Core_isTrue_1, if_neg (c := (0 : Int32) ≤ r1) h10]) rfl rfl rfl
  refine cv_tabD K d_Core_isTrue_1 102 (by
      have zh1 := j_ne 0 h1 (by decide +kernel); have zh3 := j_ne 1 h3 (by decide +kernel); have zh5 := j_ne 4 h5 (by decide +kernel); have zh7 := j_ne 5 h7 (by decide +kernel); have zh9 := j_ne 6 h9 (by decide +kernel); 
      by_cases hlo : f.toInt < 0 ∨ 6 < f.toInt
      · exact Or.inl hlo
      · have hq : f.toInt = 2 ∨ f.toInt = 3 := by omega
        rcases hq with hz | hz <;> (rw [hz]; exact Or.inr rfl)) rfl ?_
  refine cv_iload_n K 1 d_Core_isTrue_102 rfl rfl ?_
  refine cv_iload_n K 2 d_Core_isTrue_103 rfl rfl ?_
  refine cv_callSi K (m_JInt_compareUnsigned l dC dI tys x y) d_Core_isTrue_104 (cw_S (n := 2) K.2.2.2.2.1 tm_686 tm_687 tm_18 tm_688 rfl rfl (wd_of (by decide +kernel) (by decide +kernel)) ⟨Nat.le_of_ble_eq_true rfl, Nat.le_of_ble_eq_true rfl⟩) [] rfl rfl (fun _ => rfl) rfl rfl (Nat.le_of_ble_eq_true rfl) (Nat.zero_le _) (Nat.zero_le _) (fun r2 hr2 => ?_)
  refine cv_norm [] rfl ?_
  refine cv_if_lt K d_Core_isTrue_107 114 rfl (fun h11 => ?_) (fun h11 => ?_)
  · refine cv_iconst (v := 0) K d_Core_isTrue_114 rfl ?_
    exact cv_retz K hm d_Core_isTrue_115 ((0 : Int32)) (by rw [p_Core_isTrue, if_neg (c := f = (0 : Int32)) h1, if_neg (c := f = (1 : Int32)) h3, if_neg (c := f = (4 : Int32)) h5, if_neg (c := f = (5 : Int32)) h7, if_neg (c := f = (6 : Int32)) h9, ← hr2, p_Core_isTrue_2, if_pos (c := r2 < (0 : Int32)) h11]) rfl rfl rfl
  · refine cv_iconst (v := 1) K d_Core_isTrue_110 rfl ?_
    refine cv_goto K d_Core_isTrue_111 115 rfl ?_
    exact cv_retz K hm d_Core_isTrue_115 ((1 : Int32)) (by rw [p_Core_isTrue, if_neg (c := f = (0 : Int32)) h1, if_neg (c := f = (1 : Int32)) h3, if_neg (c := f = (4 : Int32)) h5, if_neg (c := f = (5 : Int32)) h7, if_neg (c := f = (6 : Int32)) h9, ← hr2, p_Core_isTrue_2, if_neg (c := r2 < (0 : Int32)) h11]) rfl rfl rfl
-- CycleChip$Core.plain(III)I
def p_Core_plain_1 (f : Int32) (x : Int32) (y : Int32) (r1 : Int32) : Int32 := if (0 : Int32) ≤ r1 then (0 : Int32) else (1 : Int32)
def p_Core_plain (f : Int32) (x : Int32) (y : Int32) : Int32 := if f = (0 : Int32) then x + y else if f = (1 : Int32) then x <<< (y &&& (31 : Int32)) else if f = (2 : Int32) then if y ≤ x then (0 : Int32) else (1 : Int32) else if f = (3 : Int32) then p_Core_plain_1 f x y (p_JInt_compareUnsigned x y) else if f = (4 : Int32) then x ^^^ y else if f = (5 : Int32) then j_ushr x y else if f = (6 : Int32) then x ||| y else x &&& y
set_option maxRecDepth 100000 in
set_option maxHeartbeats 4000000 in
theorem m_Core_plain (l : Launch) (dC : Nat → ClassId) (dI : Nat → Nat → Nat) (tys : List (ClassId × FieldType)) (f : Int32) (x : Int32) (y : Int32)  : cv_Mi l y_Core_plain (Cond.code y_Core_plain c_Core_plain 3 (some .int) :: gw) { frames := 2, cells := 0, slots := 0, locals := 42 } (dC, dI) vwCl tys [.int f, .int x, .int y] [] (p_Core_plain f x y) (fun r => r) (fun r => []) := by
  refine cv_starti (by decide) (Nat.le_of_ble_eq_true rfl) [(0, .int f), (1, .int x), (2, .int y)] rfl ?_
  intro p e s m below meth c A K hm
  refine cv_iload_n K 0 d_Core_plain_0 rfl rfl ?_
  by_cases h1 : f = (0 : Int32)
  · refine cv_tab K d_Core_plain_1 44 h1 43 (by decide +kernel) rfl ?_
    refine cv_iload_n K 1 d_Core_plain_44 rfl rfl ?_
    refine cv_iload_n K 2 d_Core_plain_45 rfl rfl ?_
    refine cv_iadd K d_Core_plain_46 ?_
    exact cv_reti K hm d_Core_plain_47 (x + y) (by rw [p_Core_plain, if_pos (c := f = (0 : Int32)) h1]) rfl rfl
  by_cases h2 : f = (1 : Int32)
  · refine cv_tab K d_Core_plain_1 48 h2 47 (by decide +kernel) rfl ?_
    refine cv_iload_n K 1 d_Core_plain_48 rfl rfl ?_
    refine cv_iload_n K 2 d_Core_plain_49 rfl rfl ?_
    refine cv_ishl K d_Core_plain_50 ?_
    exact cv_reti K hm d_Core_plain_51 (x <<< (y &&& (31 : Int32))) (by rw [p_Core_plain, if_neg (c := f = (0 : Int32)) h1, if_pos (c := f = (1 : Int32)) h2]) rfl rfl
  by_cases h3 : f = (2 : Int32)
  · refine cv_tab K d_Core_plain_1 52 h3 51 (by decide +kernel) rfl ?_
    refine cv_iload_n K 1 d_Core_plain_52 rfl rfl ?_
    refine cv_iload_n K 2 d_Core_plain_53 rfl rfl ?_
    refine cv_icmp_ge K d_Core_plain_54 61 rfl (fun h4 => ?_) (fun h4 => ?_)
    · refine cv_iconst (v := 0) K d_Core_plain_61 rfl ?_
      exact cv_reti K hm d_Core_plain_62 ((0 : Int32)) (by rw [p_Core_plain, if_neg (c := f = (0 : Int32)) h1, if_neg (c := f = (1 : Int32)) h2, if_pos (c := f = (2 : Int32)) h3, if_pos (c := y ≤ x) h4]) rfl rfl
    · refine cv_iconst (v := 1) K d_Core_plain_57 rfl ?_
      refine cv_goto K d_Core_plain_58 62 rfl ?_
      exact cv_reti K hm d_Core_plain_62 ((1 : Int32)) (by rw [p_Core_plain, if_neg (c := f = (0 : Int32)) h1, if_neg (c := f = (1 : Int32)) h2, if_pos (c := f = (2 : Int32)) h3, if_neg (c := y ≤ x) h4]) rfl rfl
  by_cases h5 : f = (3 : Int32)
  · refine cv_tab K d_Core_plain_1 63 h5 62 (by decide +kernel) rfl ?_
    refine cv_iload_n K 1 d_Core_plain_63 rfl rfl ?_
    refine cv_iload_n K 2 d_Core_plain_64 rfl rfl ?_
    refine cv_callSi K (m_JInt_compareUnsigned l dC dI tys x y) d_Core_plain_65 (cw_S (n := 2) K.2.2.2.2.1 tm_686 tm_687 tm_18 tm_688 rfl rfl (wd_of (by decide +kernel) (by decide +kernel)) ⟨Nat.le_of_ble_eq_true rfl, Nat.le_of_ble_eq_true rfl⟩) [] rfl rfl (fun _ => rfl) rfl rfl (Nat.le_of_ble_eq_true rfl) (Nat.zero_le _) (Nat.zero_le _) (fun r1 hr1 => ?_)
    refine cv_norm [] rfl ?_
    refine cv_if_ge K d_Core_plain_68 75 rfl (fun h6 => ?_) (fun h6 => ?_)
    · refine cv_iconst (v := 0) K d_Core_plain_75 rfl ?_
      exact cv_reti K hm d_Core_plain_76 ((0 : Int32)) (by rw [p_Core_plain, if_neg (c := f = (0 : Int32)) h1, if_neg (c := f = (1 : Int32)) h2, if_neg (c := f = (2 : Int32)) h3, if_pos (c := f = (3 : Int32)) h5, ← hr1, p_Core_plain_1, if_pos (c := (0 : Int32) ≤ r1) h6]) rfl rfl
    · refine cv_iconst (v := 1) K d_Core_plain_71 rfl ?_
      refine cv_goto K d_Core_plain_72 76 rfl ?_
      exact cv_reti K hm d_Core_plain_76 ((1 : Int32)) (by rw [p_Core_plain, if_neg (c := f = (0 : Int32)) h1, if_neg (c := f = (1 : Int32)) h2, if_neg (c := f = (2 : Int32)) h3, if_pos (c := f = (3 : Int32)) h5, ← hr1, p_Core_plain_1, if_neg (c := (0 : Int32) ≤ r1) h6]) rfl rfl
  by_cases h7 : f = (4 : Int32)
  · refine cv_tab K d_Core_plain_1 77 h7 76 (by decide +kernel) rfl ?_
    refine cv_iload_n K 1 d_Core_plain_77 rfl rfl ?_
    refine cv_iload_n K 2 d_Core_plain_78 rfl rfl ?_
    refine cv_ixor K d_Core_plain_79 ?_
    exact cv_reti K hm d_Core_plain_80 (x ^^^ y) (by rw [p_Core_plain, if_neg (c := f = (0 : Int32)) h1, if_neg (c := f = (1 : Int32)) h2, if_neg (c := f = (2 : Int32)) h3, if_neg (c := f = (3 : Int32)) h5, if_pos (c := f = (4 : Int32)) h7]) rfl rfl
  by_cases h8 : f = (5 : Int32)
  · refine cv_tab K d_Core_plain_1 81 h8 80 (by decide +kernel) rfl ?_
    refine cv_iload_n K 1 d_Core_plain_81 rfl rfl ?_
    refine cv_iload_n K 2 d_Core_plain_82 rfl rfl ?_
    refine cv_iushr (v := j_ushr x y) K d_Core_plain_83 rfl ?_
    exact cv_reti K hm d_Core_plain_84 (j_ushr x y) (by rw [p_Core_plain, if_neg (c := f = (0 : Int32)) h1, if_neg (c := f = (1 : Int32)) h2, if_neg (c := f = (2 : Int32)) h3, if_neg (c := f = (3 : Int32)) h5, if_neg (c := f = (4 : Int32)) h7, if_pos (c := f = (5 : Int32)) h8]) rfl rfl
  by_cases h9 : f = (6 : Int32)
  · refine cv_tab K d_Core_plain_1 85 h9 84 (by decide +kernel) rfl ?_
    refine cv_iload_n K 1 d_Core_plain_85 rfl rfl ?_
    refine cv_iload_n K 2 d_Core_plain_86 rfl rfl ?_
    refine cv_ior K d_Core_plain_87 ?_
    exact cv_reti K hm d_Core_plain_88 (x ||| y) (by rw [p_Core_plain, if_neg (c := f = (0 : Int32)) h1, if_neg (c := f = (1 : Int32)) h2, if_neg (c := f = (2 : Int32)) h3, if_neg (c := f = (3 : Int32)) h5, if_neg (c := f = (4 : Int32)) h7, if_neg (c := f = (5 : Int32)) h8, if_pos (c := f = (6 : Int32)) h9]) rfl rfl
  refine cv_tabD K d_Core_plain_1 89 (by have zh1 := j_ne 0 h1 (by decide +kernel); have zh2 := j_ne 1 h2 (by decide +kernel); have zh3 := j_ne 2 h3 (by decide +kernel); have zh5 := j_ne 3 h5 (by decide +kernel); have zh7 := j_ne 4 h7 (by decide +kernel); have zh8 := j_ne 5 h8 (by decide +kernel); have zh9 := j_ne 6 h9 (by decide +kernel); exact Or.inl (by omega)) rfl ?_
  refine cv_iload_n K 1 d_Core_plain_89 rfl rfl ?_
  refine cv_iload_n K 2 d_Core_plain_90 rfl rfl ?_
  refine cv_iand K d_Core_plain_91 ?_
  exact cv_reti K hm d_Core_plain_92 (x &&& y) (by rw [p_Core_plain, if_neg (c := f = (0 : Int32)) h1, if_neg (c := f = (1 : Int32)) h2, if_neg (c := f = (2 : Int32)) h3, if_neg (c := f = (3 : Int32)) h5, if_neg (c := f = (4 : Int32)) h7, if_neg (c := f = (5 : Int32)) h8, if_neg (c := f = (6 : Int32)) h9]) rfl rfl
-- CycleChip$Core.product(III)I
def p_Core_product (f : Int32) (x : Int32) (y : Int32) : Int32 := if f = (0 : Int32) then x * y else if f = (1 : Int32) then (j_lshr (x.toInt64 * y.toInt64) (32 : Int32)).toInt32 else if f = (2 : Int32) then (j_lshr (x.toInt64 * (y.toInt64 &&& (4294967295 : Int64))) (32 : Int32)).toInt32 else (j_lushr ((x.toInt64 &&& (4294967295 : Int64)) * (y.toInt64 &&& (4294967295 : Int64))) (32 : Int32)).toInt32
set_option maxRecDepth 100000 in
set_option maxHeartbeats 4000000 in
theorem m_Core_product (l : Launch) (dC : Nat → ClassId) (dI : Nat → Nat → Nat) (tys : List (ClassId × FieldType)) (f : Int32) (x : Int32) (y : Int32)  : cv_Mi l y_Core_product (Cond.code y_Core_product c_Core_product 3 (some .int) :: gw) { frames := 0, cells := 0, slots := 0, locals := 0 } (dC, dI) vwCl tys [.int f, .int x, .int y] [] (p_Core_product f x y) (fun r => r) (fun r => []) := by
  refine cv_starti (by decide) (Nat.le_of_ble_eq_true rfl) [(0, .int f), (1, .int x), (2, .int y)] rfl ?_
  intro p e s m below meth c A K hm
  refine cv_iload_n K 0 d_Core_product_0 rfl rfl ?_
  by_cases h1 : f = (0 : Int32)
  · refine cv_tab K d_Core_product_1 28 h1 27 (by decide +kernel) rfl ?_
    refine cv_iload_n K 1 d_Core_product_28 rfl rfl ?_
    refine cv_iload_n K 2 d_Core_product_29 rfl rfl ?_
    refine cv_imul K d_Core_product_30 ?_
    exact cv_reti K hm d_Core_product_31 (x * y) (by rw [p_Core_product, if_pos (c := f = (0 : Int32)) h1]) rfl rfl
  by_cases h2 : f = (1 : Int32)
  · refine cv_tab K d_Core_product_1 32 h2 31 (by decide +kernel) rfl ?_
    refine cv_iload_n K 1 d_Core_product_32 rfl rfl ?_
    refine cv_i2l K d_Core_product_33 rfl ?_
    refine cv_iload_n K 2 d_Core_product_34 rfl rfl ?_
    refine cv_i2l K d_Core_product_35 rfl ?_
    refine cv_lmul K d_Core_product_36 ?_
    refine cv_bipush (v := 32) K d_Core_product_37 (by decide +kernel) ?_
    refine cv_lshr (v := j_lshr (x.toInt64 * y.toInt64) (32 : Int32)) K d_Core_product_39 rfl ?_
    refine cv_l2i K d_Core_product_40 rfl ?_
    exact cv_reti K hm d_Core_product_41 ((j_lshr (x.toInt64 * y.toInt64) (32 : Int32)).toInt32) (by rw [p_Core_product, if_neg (c := f = (0 : Int32)) h1, if_pos (c := f = (1 : Int32)) h2]) rfl rfl
  by_cases h3 : f = (2 : Int32)
  · refine cv_tab K d_Core_product_1 42 h3 41 (by decide +kernel) rfl ?_
    refine cv_iload_n K 1 d_Core_product_42 rfl rfl ?_
    refine cv_i2l K d_Core_product_43 rfl ?_
    refine cv_iload_n K 2 d_Core_product_44 rfl rfl ?_
    refine cv_i2l K d_Core_product_45 rfl ?_
    refine cv_ldc2 (v := 4294967295) K d_Core_product_46 tm_706 ?_
    refine cv_land K d_Core_product_49 ?_
    refine cv_lmul K d_Core_product_50 ?_
    refine cv_bipush (v := 32) K d_Core_product_51 (by decide +kernel) ?_
    refine cv_lshr (v := j_lshr (x.toInt64 * (y.toInt64 &&& (4294967295 : Int64))) (32 : Int32)) K d_Core_product_53 rfl ?_
    refine cv_l2i K d_Core_product_54 rfl ?_
    exact cv_reti K hm d_Core_product_55 ((j_lshr (x.toInt64 * (y.toInt64 &&& (4294967295 : Int64))) (32 : Int32)).toInt32) (by rw [p_Core_product, if_neg (c := f = (0 : Int32)) h1, if_neg (c := f = (1 : Int32)) h2, if_pos (c := f = (2 : Int32)) h3]) rfl rfl
  refine cv_tabD K d_Core_product_1 56 (by have zh1 := j_ne 0 h1 (by decide +kernel); have zh2 := j_ne 1 h2 (by decide +kernel); have zh3 := j_ne 2 h3 (by decide +kernel); exact Or.inl (by omega)) rfl ?_
  refine cv_iload_n K 1 d_Core_product_56 rfl rfl ?_
  refine cv_i2l K d_Core_product_57 rfl ?_
  refine cv_ldc2 (v := 4294967295) K d_Core_product_58 tm_706 ?_
  refine cv_land K d_Core_product_61 ?_
  refine cv_iload_n K 2 d_Core_product_62 rfl rfl ?_
  refine cv_i2l K d_Core_product_63 rfl ?_
  refine cv_ldc2 (v := 4294967295) K d_Core_product_64 tm_706 ?_
  refine cv_land K d_Core_product_67 ?_
  refine cv_lmul K d_Core_product_68 ?_
  refine cv_bipush (v := 32) K d_Core_product_69 (by decide +kernel) ?_
  refine cv_lushr (v := j_lushr ((x.toInt64 &&& (4294967295 : Int64)) * (y.toInt64 &&& (4294967295 : Int64))) (32 : Int32)) K d_Core_product_71 rfl ?_
  refine cv_l2i K d_Core_product_72 rfl ?_
  exact cv_reti K hm d_Core_product_73 ((j_lushr ((x.toInt64 &&& (4294967295 : Int64)) * (y.toInt64 &&& (4294967295 : Int64))) (32 : Int32)).toInt32) (by rw [p_Core_product, if_neg (c := f = (0 : Int32)) h1, if_neg (c := f = (1 : Int32)) h2, if_neg (c := f = (2 : Int32)) h3]) rfl rfl
-- CycleChip$Control.exists(I)Z
def p_Control_exists (k : Int32) : Int32 := if k = (768 : Int32) then (1 : Int32) else if k = (772 : Int32) then (1 : Int32) else if k = (773 : Int32) then (1 : Int32) else if k = (832 : Int32) then (1 : Int32) else if k = (833 : Int32) then (1 : Int32) else if k = (834 : Int32) then (1 : Int32) else if k = (835 : Int32) then (1 : Int32) else if k = (836 : Int32) then (1 : Int32) else if k = (3072 : Int32) then (1 : Int32) else (0 : Int32)
set_option maxRecDepth 100000 in
set_option maxHeartbeats 4000000 in
theorem m_Control_exists (l : Launch) (dC : Nat → ClassId) (dI : Nat → Nat → Nat) (tys : List (ClassId × FieldType)) (k : Int32)  : cv_Mz l y_Control_exists (Cond.code y_Control_exists c_Control_exists 1 (some .boolean) :: gw) { frames := 0, cells := 0, slots := 0, locals := 0 } (dC, dI) vwCl tys [.int k] [] (p_Control_exists k) (fun r => r) (fun r => []) := by
  refine cv_startz (by decide) (Nat.le_of_ble_eq_true rfl) [(0, .int k)] rfl ?_
  intro p e s m below meth c A K hm
  refine cv_iload_n K 0 d_Control_exists_0 rfl rfl ?_
  by_cases h1 : k = (768 : Int32)
  · refine cv_lkp K d_Control_exists_1 84 h1 83 (by decide +kernel) (by decide +kernel) rfl ?_
    refine cv_iconst (v := 1) K d_Control_exists_84 rfl ?_
    exact cv_retz K hm d_Control_exists_85 ((1 : Int32)) (by rw [p_Control_exists, if_pos (c := k = (768 : Int32)) h1]) rfl rfl rfl
  by_cases h2 : k = (772 : Int32)
  · refine cv_lkp K d_Control_exists_1 84 h2 83 (by decide +kernel) (by decide +kernel) rfl ?_
    refine cv_iconst (v := 1) K d_Control_exists_84 rfl ?_
    exact cv_retz K hm d_Control_exists_85 ((1 : Int32)) (by rw [p_Control_exists, if_neg (c := k = (768 : Int32)) h1, if_pos (c := k = (772 : Int32)) h2]) rfl rfl rfl
  by_cases h3 : k = (773 : Int32)
  · refine cv_lkp K d_Control_exists_1 84 h3 83 (by decide +kernel) (by decide +kernel) rfl ?_
    refine cv_iconst (v := 1) K d_Control_exists_84 rfl ?_
    exact cv_retz K hm d_Control_exists_85 ((1 : Int32)) (by rw [p_Control_exists, if_neg (c := k = (768 : Int32)) h1, if_neg (c := k = (772 : Int32)) h2, if_pos (c := k = (773 : Int32)) h3]) rfl rfl rfl
  by_cases h4 : k = (832 : Int32)
  · refine cv_lkp K d_Control_exists_1 84 h4 83 (by decide +kernel) (by decide +kernel) rfl ?_
    refine cv_iconst (v := 1) K d_Control_exists_84 rfl ?_
    exact cv_retz K hm d_Control_exists_85 ((1 : Int32)) (by rw [p_Control_exists, if_neg (c := k = (768 : Int32)) h1, if_neg (c := k = (772 : Int32)) h2, if_neg (c := k = (773 : Int32)) h3, if_pos (c := k = (832 : Int32)) h4]) rfl rfl rfl
  by_cases h5 : k = (833 : Int32)
  · refine cv_lkp K d_Control_exists_1 84 h5 83 (by decide +kernel) (by decide +kernel) rfl ?_
    refine cv_iconst (v := 1) K d_Control_exists_84 rfl ?_
    exact cv_retz K hm d_Control_exists_85 ((1 : Int32)) (by rw [p_Control_exists, if_neg (c := k = (768 : Int32)) h1, if_neg (c := k = (772 : Int32)) h2, if_neg (c := k = (773 : Int32)) h3, if_neg (c := k = (832 : Int32)) h4, if_pos (c := k = (833 : Int32)) h5]) rfl rfl rfl
  by_cases h6 : k = (834 : Int32)
  · refine cv_lkp K d_Control_exists_1 84 h6 83 (by decide +kernel) (by decide +kernel) rfl ?_
    refine cv_iconst (v := 1) K d_Control_exists_84 rfl ?_
    exact cv_retz K hm d_Control_exists_85 ((1 : Int32)) (by rw [p_Control_exists, if_neg (c := k = (768 : Int32)) h1, if_neg (c := k = (772 : Int32)) h2, if_neg (c := k = (773 : Int32)) h3, if_neg (c := k = (832 : Int32)) h4, if_neg (c := k = (833 : Int32)) h5, if_pos (c := k = (834 : Int32)) h6]) rfl rfl rfl
  by_cases h7 : k = (835 : Int32)
  · refine cv_lkp K d_Control_exists_1 84 h7 83 (by decide +kernel) (by decide +kernel) rfl ?_
    refine cv_iconst (v := 1) K d_Control_exists_84 rfl ?_
    exact cv_retz K hm d_Control_exists_85 ((1 : Int32)) (by rw [p_Control_exists, if_neg (c := k = (768 : Int32)) h1, if_neg (c := k = (772 : Int32)) h2, if_neg (c := k = (773 : Int32)) h3, if_neg (c := k = (832 : Int32)) h4, if_neg (c := k = (833 : Int32)) h5, if_neg (c := k = (834 : Int32)) h6, if_pos (c := k = (835 : Int32)) h7]) rfl rfl rfl
  by_cases h8 : k = (836 : Int32)
  · refine cv_lkp K d_Control_exists_1 84 h8 83 (by decide +kernel) (by decide +kernel) rfl ?_
    refine cv_iconst (v := 1) K d_Control_exists_84 rfl ?_
    exact cv_retz K hm d_Control_exists_85 ((1 : Int32)) (by rw [p_Control_exists, if_neg (c := k = (768 : Int32)) h1, if_neg (c := k = (772 : Int32)) h2, if_neg (c := k = (773 : Int32)) h3, if_neg (c := k = (832 : Int32)) h4, if_neg (c := k = (833 : Int32)) h5, if_neg (c := k = (834 : Int32)) h6, if_neg (c := k = (835 : Int32)) h7, if_pos (c := k = (836 : Int32)) h8]) rfl rfl rfl
  by_cases h9 : k = (3072 : Int32)
  · refine cv_lkp K d_Control_exists_1 84 h9 83 (by decide +kernel) (by decide +kernel) rfl ?_
    refine cv_iconst (v := 1) K d_Control_exists_84 rfl ?_
    exact cv_retz K hm d_Control_exists_85 ((1 : Int32)) (by rw [p_Control_exists, if_neg (c := k = (768 : Int32)) h1, if_neg (c := k = (772 : Int32)) h2, if_neg (c := k = (773 : Int32)) h3, if_neg (c := k = (832 : Int32)) h4, if_neg (c := k = (833 : Int32)) h5, if_neg (c := k = (834 : Int32)) h6, if_neg (c := k = (835 : Int32)) h7, if_neg (c := k = (836 : Int32)) h8, if_pos (c := k = (3072 : Int32)) h9]) rfl rfl rfl
  refine cv_lookup K d_Control_exists_1 86 (by decide +kernel) (j_look h1 (by decide +kernel) (j_look h2 (by decide +kernel) (j_look h3 (by decide +kernel) (j_look h4 (by decide +kernel) (j_look h5 (by decide +kernel) (j_look h6 (by decide +kernel) (j_look h7 (by decide +kernel) (j_look h8 (by decide +kernel) (j_look h9 (by decide +kernel) j_look0))))))))) rfl ?_
  refine cv_iconst (v := 0) K d_Control_exists_86 rfl ?_
  exact cv_retz K hm d_Control_exists_87 ((0 : Int32)) (by rw [p_Control_exists, if_neg (c := k = (768 : Int32)) h1, if_neg (c := k = (772 : Int32)) h2, if_neg (c := k = (773 : Int32)) h3, if_neg (c := k = (832 : Int32)) h4, if_neg (c := k = (833 : Int32)) h5, if_neg (c := k = (834 : Int32)) h6, if_neg (c := k = (835 : Int32)) h7, if_neg (c := k = (836 : Int32)) h8, if_neg (c := k = (3072 : Int32)) h9]) rfl rfl rfl
-- CycleChip$Devices.withLow(JI)J
def p_Devices_withLow (x : Int64) (k : Int32) : Int64 := (x &&& (-4294967296 : Int64)) ||| (k.toInt64 &&& (4294967295 : Int64))
set_option maxRecDepth 100000 in
set_option maxHeartbeats 4000000 in
theorem m_Devices_withLow (l : Launch) (dC : Nat → ClassId) (dI : Nat → Nat → Nat) (tys : List (ClassId × FieldType)) (x : Int64) (k : Int32)  : cv_Ml l y_Devices_withLow (Cond.code y_Devices_withLow c_Devices_withLow 3 (some .long) :: gw) { frames := 0, cells := 0, slots := 0, locals := 0 } (dC, dI) vwCl tys [.long x, .int k] [] (p_Devices_withLow x k) (fun r => r) (fun r => []) := by
  refine cv_startl (by decide) (Nat.le_of_ble_eq_true rfl) [(0, .long x), (2, .int k)] rfl ?_
  intro p e s m below meth c A K hm
  refine cv_lload_n K 0 d_Devices_withLow_0 rfl rfl ?_
  refine cv_ldc2 (v := (-4294967296)) K d_Devices_withLow_1 tm_541 ?_
  refine cv_land K d_Devices_withLow_4 ?_
  refine cv_iload_n K 1 d_Devices_withLow_5 rfl rfl ?_
  refine cv_i2l K d_Devices_withLow_6 rfl ?_
  refine cv_ldc2 (v := 4294967295) K d_Devices_withLow_7 tm_542 ?_
  refine cv_land K d_Devices_withLow_10 ?_
  refine cv_lor K d_Devices_withLow_11 ?_
  exact cv_retl K hm d_Devices_withLow_12 ((x &&& (-4294967296 : Int64)) ||| (k.toInt64 &&& (4294967295 : Int64))) (by rw [p_Devices_withLow]) rfl rfl
-- CycleChip$Devices.withHigh(JI)J
def p_Devices_withHigh (x : Int64) (k : Int32) : Int64 := (x &&& (4294967295 : Int64)) ||| (j_lshl k.toInt64 (32 : Int32))
set_option maxRecDepth 100000 in
set_option maxHeartbeats 4000000 in
theorem m_Devices_withHigh (l : Launch) (dC : Nat → ClassId) (dI : Nat → Nat → Nat) (tys : List (ClassId × FieldType)) (x : Int64) (k : Int32)  : cv_Ml l y_Devices_withHigh (Cond.code y_Devices_withHigh c_Devices_withHigh 3 (some .long) :: gw) { frames := 0, cells := 0, slots := 0, locals := 0 } (dC, dI) vwCl tys [.long x, .int k] [] (p_Devices_withHigh x k) (fun r => r) (fun r => []) := by
  refine cv_startl (by decide) (Nat.le_of_ble_eq_true rfl) [(0, .long x), (2, .int k)] rfl ?_
  intro p e s m below meth c A K hm
  refine cv_lload_n K 0 d_Devices_withHigh_0 rfl rfl ?_
  refine cv_ldc2 (v := 4294967295) K d_Devices_withHigh_1 tm_542 ?_
  refine cv_land K d_Devices_withHigh_4 ?_
  refine cv_iload_n K 1 d_Devices_withHigh_5 rfl rfl ?_
  refine cv_i2l K d_Devices_withHigh_6 rfl ?_
  refine cv_bipush (v := 32) K d_Devices_withHigh_7 (by decide +kernel) ?_
  refine cv_lshl (v := j_lshl k.toInt64 (32 : Int32)) K d_Devices_withHigh_9 rfl ?_
  refine cv_lor K d_Devices_withHigh_10 ?_
  exact cv_retl K hm d_Devices_withHigh_11 ((x &&& (4294967295 : Int64)) ||| (j_lshl k.toInt64 (32 : Int32))) (by rw [p_Devices_withHigh]) rfl rfl
