def mty : Nat → FieldType := fun k => match k with
  | 0 => .int
  | 1 => .int
  | 2 => .int
  | 3 => .boolean
  | 4 => .int
  | 5 => .int
  | 6 => .int
  | 7 => .int
  | 8 => .int
  | 9 => .int
  | 10 => .int
  | 11 => .int
  | 12 => .boolean
  | 13 => .boolean
  | 14 => .boolean
  | 15 => .int
  | 16 => .int
  | _ => .long
-- CycleChipModel.in(III)Z
def p_Model_in (k : Int32) (lo : Int32) (hi : Int32) : Int32 := if k < lo then (0 : Int32) else if hi < k then (0 : Int32) else (1 : Int32)
set_option maxRecDepth 100000 in
set_option maxHeartbeats 4000000 in
theorem m_Model_in (l : Launch) (dC : Nat → ClassId) (dI : Nat → Nat → Nat) (tys : List (ClassId × FieldType)) (k : Int32) (lo : Int32) (hi : Int32)  : cv_Mz l y_Model_in (Cond.code y_Model_in c_Model_in 3 (some .boolean) :: gw) { frames := 0, cells := 0, slots := 0, locals := 0 } (dC, dI) vwCl tys [.int k, .int lo, .int hi] [] (p_Model_in k lo hi) (fun r => r) (fun r => []) := by
  refine cv_startz (by decide) (Nat.le_of_ble_eq_true rfl) [(0, .int k), (1, .int lo), (2, .int hi)] rfl ?_
  intro p e s m below meth c A K hm
  refine cv_iload_n K 0 d_Model_in_0 rfl rfl ?_
  refine cv_iload_n K 1 d_Model_in_1 rfl rfl ?_
  refine cv_icmp_lt K d_Model_in_2 14 rfl (fun h1 => ?_) (fun h1 => ?_)
  · refine cv_iconst (v := 0) K d_Model_in_14 rfl ?_
    exact cv_retz K hm d_Model_in_15 ((0 : Int32)) (by rw [p_Model_in, if_pos (c := k < lo) h1]) rfl rfl rfl
  · refine cv_iload_n K 0 d_Model_in_5 rfl rfl ?_
    refine cv_iload_n K 2 d_Model_in_6 rfl rfl ?_
    refine cv_icmp_gt K d_Model_in_7 14 rfl (fun h2 => ?_) (fun h2 => ?_)
    · refine cv_iconst (v := 0) K d_Model_in_14 rfl ?_
      exact cv_retz K hm d_Model_in_15 ((0 : Int32)) (by rw [p_Model_in, if_neg (c := k < lo) h1, if_pos (c := hi < k) h2]) rfl rfl rfl
    · refine cv_iconst (v := 1) K d_Model_in_10 rfl ?_
      refine cv_goto K d_Model_in_11 15 rfl ?_
      exact cv_retz K hm d_Model_in_15 ((1 : Int32)) (by rw [p_Model_in, if_neg (c := k < lo) h1, if_neg (c := hi < k) h2]) rfl rfl rfl
theorem in_r {k lo hi r : Int32} (hr : r = p_Model_in k lo hi) (h : ¬ r = (0 : Int32)) : ¬ k < lo ∧ ¬ hi < k := by
  rw [hr] at h
  unfold p_Model_in at h
  by_cases h1 : k < lo
  · rw [if_pos h1] at h; exact absurd rfl h
  · by_cases h2 : hi < k
    · rw [if_neg h1, if_pos h2] at h; exact absurd rfl h
    · exact ⟨h1, h2⟩
theorem in_0 {k hi r : Int32} {n : Nat} (hM : hi.toInt = n) (hr : r = p_Model_in k (0 : Int32) hi) (h : ¬ r = (0 : Int32)) : ∃ j : Nat, j ≤ n ∧ k = nI j := nI_of2 hM (in_r hr h).1 (k2_le (in_r hr h).2)
theorem mi_in {k : Int32} {n : Nat} (N : Nat) (h : ∃ j : Nat, j ≤ n ∧ k = nI j) (hn : n < N := by decide) (hN : N < 2 ^ 31 := by decide) : vp_in k N := by
  obtain ⟨j, hj, rfl⟩ := h
  exact vp_in_nI (by omega) hN
theorem mi_hi {k : Int32} (h : ∃ j : Nat, j ≤ 127 ∧ k = nI j) : vp_in ((128 : Int32) + k) 256 := by
  obtain ⟨j, hj, rfl⟩ := h
  rw [show (128 : Int32) = nI 128 from rfl, nI_add]
  exact vp_in_nI (by omega) (by omega)
theorem mi_r16 {x : Int32} (h : ∃ a : Nat, a < 2 ^ 30 ∧ x = nI a) : vp_in (x - x / (16 : Int32) * (16 : Int32)) 16 := by
  obtain ⟨a, ha, rfl⟩ := h
  rw [show (16 : Int32) = nI 16 from rfl, pk_rem (by omega) (by omega) (by omega)]
  exact vp_in_nI (Nat.mod_lt _ (by omega)) (by omega)
theorem mi_back {x k : Int32} (h : ∃ a : Nat, a < 2 ^ 30 ∧ x = nI a) (hk : ∃ j : Nat, j ≤ 15 ∧ k = nI j) (hlt : ¬ x ≤ k) : vp_in ((x - (1 : Int32) - k) - (x - (1 : Int32) - k) / (16 : Int32) * (16 : Int32)) 16 := by
  obtain ⟨a, ha, rfl⟩ := h
  obtain ⟨j, hj, rfl⟩ := hk
  have h2 : j < a := lp_nle (k := j) (n := a) rfl rfl (by omega) (by omega) hlt
  rw [show (1 : Int32) = nI 1 from rfl, pk_sub (by omega), pk_sub (by omega)]
  exact mi_r16 ⟨a - 1 - j, by omega, rfl⟩
theorem mi_d4 {t : Int32} {n : Nat} (h : ∃ j : Nat, j ≤ n ∧ t = nI j) (hn : n < 2 ^ 31) : ∃ j : Nat, j ≤ n / 4 ∧ t / (4 : Int32) = nI j := by
  obtain ⟨j, hj, rfl⟩ := h
  exact ⟨j / 4, Nat.div_le_div_right hj, by rw [show (4 : Int32) = nI 4 from rfl, pk_div (by omega) (by omega) (by omega)]⟩
theorem mi_s2 {x : Int32} (h : ∃ k : Nat, k ≤ 2 ∧ x = nI k) (h2 : ¬ x = (2 : Int32)) : vp_in x 2 := ix_s2 h h2
theorem mi_8 {x : Int32} (h : ∃ k : Nat, k ≤ 8 ∧ x = nI k) (h2 : ¬ x = (8 : Int32)) : vp_in x 8 := by
  obtain ⟨k, hk, rfl⟩ := h
  have : k ≠ 8 := fun e => h2 (by rw [e]; rfl)
  exact vp_in_nI (by omega) (by omega)
theorem mi_8l {x : Int32} (h : ∃ k : Nat, k ≤ 8 ∧ x = nI k) (h2 : ¬ (8 : Int32) ≤ x) : vp_in x 8 := by
  obtain ⟨k, hk, rfl⟩ := h
  exact vp_in_nI (lp_nle (k := k) (n := 8) rfl rfl (by omega) (by omega) h2) (by omega)
theorem mi_16 {x : Int32} (h : ∃ k : Nat, k ≤ 16 ∧ x = nI k) (h2 : ¬ x = (16 : Int32)) : vp_in x 16 := by
  obtain ⟨k, hk, rfl⟩ := h
  have : k ≠ 16 := fun e => h2 (by rw [e]; rfl)
  exact vp_in_nI (by omega) (by omega)
theorem mi_dec {x : Int32} (h : ∃ k : Nat, k ≤ 8 ∧ x = nI k) (h2 : ¬ x = (0 : Int32)) : ∃ c : Nat, c ≤ 7 ∧ x - (1 : Int32) = nI c := by
  obtain ⟨k, hk, rfl⟩ := h
  have : k ≠ 0 := fun e => h2 (by rw [e]; rfl)
  exact ⟨k - 1, by omega, by rw [show (1 : Int32) = nI 1 from rfl, pk_sub (by omega)]⟩
theorem mi_cv {k : Int32} (h : ∃ j : Nat, j ≤ 8 ∧ k = nI j ∨ k = (-1 : Int32)) (h0 : ¬ k < (0 : Int32)) (h8 : ¬ k = (8 : Int32)) (h7 : ¬ k = (7 : Int32)) : vp_in k 7 := by
  obtain ⟨j, h⟩ := h
  rcases h with ⟨hj, rfl⟩ | h
  · have e8 : j ≠ 8 := fun e => h8 (by rw [e]; rfl)
    have e7 : j ≠ 7 := fun e => h7 (by rw [e]; rfl)
    exact vp_in_nI (by omega) (by omega)
  · exact absurd (show k < (0 : Int32) by rw [h]; decide) h0
-- CycleChipModel.below(II)Z
def p_Model_below (x : Int32) (y : Int32) : Int32 := if (0 : Int32) ≤ (lg_cmp (x.toInt64 &&& (4294967295 : Int64)) (y.toInt64 &&& (4294967295 : Int64))) then (0 : Int32) else (1 : Int32)
set_option maxRecDepth 100000 in
set_option maxHeartbeats 4000000 in
theorem m_Model_below (l : Launch) (dC : Nat → ClassId) (dI : Nat → Nat → Nat) (tys : List (ClassId × FieldType)) (x : Int32) (y : Int32)  : cv_Mz l y_Model_below (Cond.code y_Model_below c_Model_below 2 (some .boolean) :: gw) { frames := 0, cells := 0, slots := 0, locals := 0 } (dC, dI) vwCl tys [.int x, .int y] [] (p_Model_below x y) (fun r => r) (fun r => []) := by
  refine cv_startz (by decide) (Nat.le_of_ble_eq_true rfl) [(0, .int x), (1, .int y)] rfl ?_
  intro p e s m below meth c A K hm
  refine cv_iload_n K 0 d_Model_below_0 rfl rfl ?_
  refine cv_i2l K d_Model_below_1 rfl ?_
  refine cv_ldc2 (v := 4294967295) K d_Model_below_2 tm_1010 ?_
  refine cv_land K d_Model_below_5 ?_
  refine cv_iload_n K 1 d_Model_below_6 rfl rfl ?_
  refine cv_i2l K d_Model_below_7 rfl ?_
  refine cv_ldc2 (v := 4294967295) K d_Model_below_8 tm_1010 ?_
  refine cv_land K d_Model_below_11 ?_
  refine cv_lcmp K d_Model_below_12 ?_
  refine cv_if_ge K d_Model_below_13 20 rfl (fun h1 => ?_) (fun h1 => ?_)
  · refine cv_iconst (v := 0) K d_Model_below_20 rfl ?_
    exact cv_retz K hm d_Model_below_21 ((0 : Int32)) (by rw [p_Model_below, if_pos (c := (0 : Int32) ≤ (lg_cmp (x.toInt64 &&& (4294967295 : Int64)) (y.toInt64 &&& (4294967295 : Int64)))) h1]) rfl rfl rfl
  · refine cv_iconst (v := 1) K d_Model_below_16 rfl ?_
    refine cv_goto K d_Model_below_17 21 rfl ?_
    exact cv_retz K hm d_Model_below_21 ((1 : Int32)) (by rw [p_Model_below, if_neg (c := (0 : Int32) ≤ (lg_cmp (x.toInt64 &&& (4294967295 : Int64)) (y.toInt64 &&& (4294967295 : Int64)))) h1]) rfl rfl rfl
-- CycleChipModel.simple(III)I
def p_Model_simple_1 (f : Int32) (x : Int32) (y : Int32) (r1 : Int32) : Int32 := if r1 = (0 : Int32) then (0 : Int32) else (1 : Int32)
def p_Model_simple (f : Int32) (x : Int32) (y : Int32) : Int32 := if f = (0 : Int32) then x + y else if f = (1 : Int32) then x <<< ((y &&& (31 : Int32)) &&& (31 : Int32)) else if f = (2 : Int32) then if y ≤ x then (0 : Int32) else (1 : Int32) else if f = (3 : Int32) then p_Model_simple_1 f x y (p_Model_below x y) else if f = (4 : Int32) then x ^^^ y else if f = (5 : Int32) then j_ushr x (y &&& (31 : Int32)) else if f = (6 : Int32) then x ||| y else x &&& y
set_option maxRecDepth 100000 in
set_option maxHeartbeats 4000000 in
theorem m_Model_simple (l : Launch) (dC : Nat → ClassId) (dI : Nat → Nat → Nat) (tys : List (ClassId × FieldType)) (f : Int32) (x : Int32) (y : Int32)  : cv_Mi l y_Model_simple (Cond.code y_Model_simple c_Model_simple 4 (some .int) :: gw) { frames := 1, cells := 0, slots := 0, locals := 21 } (dC, dI) vwCl tys [.int f, .int x, .int y] [] (p_Model_simple f x y) (fun r => r) (fun r => []) := by
  refine cv_starti (by decide) (Nat.le_of_ble_eq_true rfl) [(0, .int f), (1, .int x), (2, .int y)] rfl ?_
  intro p e s m below meth c A K hm
  refine cv_iload_n K 2 d_Model_simple_0 rfl rfl ?_
  refine cv_bipush (v := 31) K d_Model_simple_1 (by decide +kernel) ?_
  refine cv_iand K d_Model_simple_3 ?_
  refine cv_istore_n K d_Model_simple_4 [(3, .int (y &&& (31 : Int32))), (0, .int f), (1, .int x), (2, .int y)] rfl (by decide) rfl ?_
  refine cv_iload_n K 1 d_Model_simple_5 rfl rfl ?_
  refine cv_if_ne K d_Model_simple_6 15 rfl (fun h1 => ?_) (fun h1 => ?_)
  · refine cv_iload_n K 1 d_Model_simple_15 rfl rfl ?_
    refine cv_iconst (v := 1) K d_Model_simple_16 rfl ?_
    refine cv_icmp_ne K d_Model_simple_17 26 rfl (fun h2 => ?_) (fun h2 => ?_)
    · refine cv_iload_n K 1 d_Model_simple_26 rfl rfl ?_
      refine cv_iconst (v := 2) K d_Model_simple_27 rfl ?_
      refine cv_icmp_ne K d_Model_simple_28 44 rfl (fun h3 => ?_) (fun h3 => ?_)
      · refine cv_iload_n K 1 d_Model_simple_44 rfl rfl ?_
        refine cv_iconst (v := 3) K d_Model_simple_45 rfl ?_
        refine cv_icmp_ne K d_Model_simple_46 65 rfl (fun h4 => ?_) (fun h4 => ?_)
        · refine cv_iload_n K 1 d_Model_simple_65 rfl rfl ?_
          refine cv_iconst (v := 4) K d_Model_simple_66 rfl ?_
          refine cv_icmp_ne K d_Model_simple_67 76 rfl (fun h5 => ?_) (fun h5 => ?_)
          · refine cv_iload_n K 1 d_Model_simple_76 rfl rfl ?_
            refine cv_iconst (v := 5) K d_Model_simple_77 rfl ?_
            refine cv_icmp_ne K d_Model_simple_78 87 rfl (fun h6 => ?_) (fun h6 => ?_)
            · refine cv_iload_n K 1 d_Model_simple_87 rfl rfl ?_
              refine cv_bipush (v := 6) K d_Model_simple_88 (by decide +kernel) ?_
              refine cv_icmp_ne K d_Model_simple_90 99 rfl (fun h7 => ?_) (fun h7 => ?_)
              · refine cv_iload_n K 2 d_Model_simple_99 rfl rfl ?_
                refine cv_iload_n K 3 d_Model_simple_100 rfl rfl ?_
                refine cv_iand K d_Model_simple_101 ?_
                exact cv_reti K hm d_Model_simple_102 (x &&& y) (by rw [p_Model_simple, if_neg (c := f = (0 : Int32)) h1, if_neg (c := f = (1 : Int32)) h2, if_neg (c := f = (2 : Int32)) h3, if_neg (c := f = (3 : Int32)) h4, if_neg (c := f = (4 : Int32)) h5, if_neg (c := f = (5 : Int32)) h6, if_neg (c := f = (6 : Int32)) h7]) rfl rfl
              · refine cv_iload_n K 2 d_Model_simple_93 rfl rfl ?_
                refine cv_iload_n K 3 d_Model_simple_94 rfl rfl ?_
                refine cv_ior K d_Model_simple_95 ?_
                refine cv_goto K d_Model_simple_96 102 rfl ?_
                exact cv_reti K hm d_Model_simple_102 (x ||| y) (by rw [p_Model_simple, if_neg (c := f = (0 : Int32)) h1, if_neg (c := f = (1 : Int32)) h2, if_neg (c := f = (2 : Int32)) h3, if_neg (c := f = (3 : Int32)) h4, if_neg (c := f = (4 : Int32)) h5, if_neg (c := f = (5 : Int32)) h6, if_pos (c := f = (6 : Int32)) h7]) rfl rfl
            · refine cv_iload_n K 2 d_Model_simple_81 rfl rfl ?_
              refine cv_iload_n K 0 d_Model_simple_82 rfl rfl ?_
              refine cv_iushr (v := j_ushr x (y &&& (31 : Int32))) K d_Model_simple_83 rfl ?_
              refine cv_goto K d_Model_simple_84 102 rfl ?_
              exact cv_reti K hm d_Model_simple_102 (j_ushr x (y &&& (31 : Int32))) (by rw [p_Model_simple, if_neg (c := f = (0 : Int32)) h1, if_neg (c := f = (1 : Int32)) h2, if_neg (c := f = (2 : Int32)) h3, if_neg (c := f = (3 : Int32)) h4, if_neg (c := f = (4 : Int32)) h5, if_pos (c := f = (5 : Int32)) h6]) rfl rfl
          · refine cv_iload_n K 2 d_Model_simple_70 rfl rfl ?_
            refine cv_iload_n K 3 d_Model_simple_71 rfl rfl ?_
            refine cv_ixor K d_Model_simple_72 ?_
            refine cv_goto K d_Model_simple_73 102 rfl ?_
            exact cv_reti K hm d_Model_simple_102 (x ^^^ y) (by rw [p_Model_simple, if_neg (c := f = (0 : Int32)) h1, if_neg (c := f = (1 : Int32)) h2, if_neg (c := f = (2 : Int32)) h3, if_neg (c := f = (3 : Int32)) h4, if_pos (c := f = (4 : Int32)) h5]) rfl rfl
        · refine cv_iload_n K 2 d_Model_simple_49 rfl rfl ?_
          refine cv_iload_n K 3 d_Model_simple_50 rfl rfl ?_
          refine cv_callSz K (m_Model_below l dC dI tys x y) d_Model_simple_51 (cw_S (n := 2) K.2.2.2.2.1 tm_1150 tm_1151 tm_15 tm_1152 rfl rfl (wd_of (by decide +kernel) (by decide +kernel)) ⟨Nat.le_of_ble_eq_true rfl, Nat.le_of_ble_eq_true rfl⟩) [] rfl rfl (fun _ => rfl) rfl rfl (Nat.le_of_ble_eq_true rfl) (Nat.zero_le _) (Nat.zero_le _) (fun r1 hr1 => ?_)
          refine cv_norm [] rfl ?_
          refine cv_if_eq K d_Model_simple_54 61 rfl (fun h8 => ?_) (fun h8 => ?_)
          · refine cv_iconst (v := 0) K d_Model_simple_61 rfl ?_
            refine cv_goto K d_Model_simple_62 102 rfl ?_
            exact cv_reti K hm d_Model_simple_102 ((0 : Int32)) (by rw [p_Model_simple, if_neg (c := f = (0 : Int32)) h1, if_neg (c := f = (1 : Int32)) h2, if_neg (c := f = (2 : Int32)) h3, if_pos (c := f = (3 : Int32)) h4, ← hr1, p_Model_simple_1, if_pos (c := r1 = (0 : Int32)) h8]) rfl rfl
          · refine cv_iconst (v := 1) K d_Model_simple_57 rfl ?_
            refine cv_goto K d_Model_simple_58 102 rfl ?_
            exact cv_reti K hm d_Model_simple_102 ((1 : Int32)) (by rw [p_Model_simple, if_neg (c := f = (0 : Int32)) h1, if_neg (c := f = (1 : Int32)) h2, if_neg (c := f = (2 : Int32)) h3, if_pos (c := f = (3 : Int32)) h4, ← hr1, p_Model_simple_1, if_neg (c := r1 = (0 : Int32)) h8]) rfl rfl
      · refine cv_iload_n K 2 d_Model_simple_31 rfl rfl ?_
        refine cv_iload_n K 3 d_Model_simple_32 rfl rfl ?_
        refine cv_icmp_ge K d_Model_simple_33 40 rfl (fun h9 => ?_) (fun h9 => ?_)
        · refine cv_iconst (v := 0) K d_Model_simple_40 rfl ?_
          refine cv_goto K d_Model_simple_41 102 rfl ?_
          exact cv_reti K hm d_Model_simple_102 ((0 : Int32)) (by rw [p_Model_simple, if_neg (c := f = (0 : Int32)) h1, if_neg (c := f = (1 : Int32)) h2, if_pos (c := f = (2 : Int32)) h3, if_pos (c := y ≤ x) h9]) rfl rfl
        · refine cv_iconst (v := 1) K d_Model_simple_36 rfl ?_
          refine cv_goto K d_Model_simple_37 102 rfl ?_
          exact cv_reti K hm d_Model_simple_102 ((1 : Int32)) (by rw [p_Model_simple, if_neg (c := f = (0 : Int32)) h1, if_neg (c := f = (1 : Int32)) h2, if_pos (c := f = (2 : Int32)) h3, if_neg (c := y ≤ x) h9]) rfl rfl
    · refine cv_iload_n K 2 d_Model_simple_20 rfl rfl ?_
      refine cv_iload_n K 0 d_Model_simple_21 rfl rfl ?_
      refine cv_ishl K d_Model_simple_22 ?_
      refine cv_goto K d_Model_simple_23 102 rfl ?_
      exact cv_reti K hm d_Model_simple_102 (x <<< ((y &&& (31 : Int32)) &&& (31 : Int32))) (by rw [p_Model_simple, if_neg (c := f = (0 : Int32)) h1, if_pos (c := f = (1 : Int32)) h2]) rfl rfl
  · refine cv_iload_n K 2 d_Model_simple_9 rfl rfl ?_
    refine cv_iload_n K 3 d_Model_simple_10 rfl rfl ?_
    refine cv_iadd K d_Model_simple_11 ?_
    refine cv_goto K d_Model_simple_12 102 rfl ?_
    exact cv_reti K hm d_Model_simple_102 (x + y) (by rw [p_Model_simple, if_pos (c := f = (0 : Int32)) h1]) rfl rfl
-- CycleChipModel.product(III)I
def p_Model_product (f : Int32) (x : Int32) (y : Int32) : Int32 := if f = (3 : Int32) then if f < (2 : Int32) then if f = (0 : Int32) then x * y else (j_lshr ((x.toInt64 &&& (4294967295 : Int64)) * y.toInt64) (32 : Int32)).toInt32 else if f = (0 : Int32) then x * y else (j_lshr ((x.toInt64 &&& (4294967295 : Int64)) * (y.toInt64 &&& (4294967295 : Int64))) (32 : Int32)).toInt32 else if f < (2 : Int32) then if f = (0 : Int32) then x * y else (j_lshr (x.toInt64 * y.toInt64) (32 : Int32)).toInt32 else if f = (0 : Int32) then x * y else (j_lshr (x.toInt64 * (y.toInt64 &&& (4294967295 : Int64))) (32 : Int32)).toInt32
set_option maxRecDepth 100000 in
set_option maxHeartbeats 4000000 in
theorem m_Model_product (l : Launch) (dC : Nat → ClassId) (dI : Nat → Nat → Nat) (tys : List (ClassId × FieldType)) (f : Int32) (x : Int32) (y : Int32)  : cv_Mi l y_Model_product (Cond.code y_Model_product c_Model_product 7 (some .int) :: gw) { frames := 0, cells := 0, slots := 0, locals := 0 } (dC, dI) vwCl tys [.int f, .int x, .int y] [] (p_Model_product f x y) (fun r => r) (fun r => []) := by
  refine cv_starti (by decide) (Nat.le_of_ble_eq_true rfl) [(0, .int f), (1, .int x), (2, .int y)] rfl ?_
  intro p e s m below meth c A K hm
  refine cv_iload_n K 0 d_Model_product_0 rfl rfl ?_
  refine cv_iconst (v := 3) K d_Model_product_1 rfl ?_
  refine cv_icmp_ne K d_Model_product_2 14 rfl (fun h1 => ?_) (fun h1 => ?_)
  · refine cv_iload_n K 1 d_Model_product_14 rfl rfl ?_
    refine cv_i2l K d_Model_product_15 rfl ?_
    refine cv_lstore_n K d_Model_product_16 [(3, .long x.toInt64), (0, .int f), (1, .int x), (2, .int y)] rfl (by decide) rfl ?_
    refine cv_iload_n K 1 d_Model_product_17 rfl rfl ?_
    refine cv_iconst (v := 2) K d_Model_product_18 rfl ?_
    refine cv_icmp_lt K d_Model_product_19 31 rfl (fun h2 => ?_) (fun h2 => ?_)
    · refine cv_iload_n K 3 d_Model_product_31 rfl rfl ?_
      refine cv_i2l K d_Model_product_32 rfl ?_
      refine cv_lstore K d_Model_product_33 [(5, .long y.toInt64), (3, .long x.toInt64), (0, .int f), (1, .int x), (2, .int y)] (by decide) rfl ?_
      refine cv_iload_n K 2 d_Model_product_35 rfl rfl ?_
      refine cv_if_ne K d_Model_product_36 45 rfl (fun h3 => ?_) (fun h3 => ?_)
      · refine cv_lload_n K 1 d_Model_product_45 rfl rfl ?_
        refine cv_lload K 0 d_Model_product_46 rfl ?_
        refine cv_lmul K d_Model_product_48 ?_
        refine cv_bipush (v := 32) K d_Model_product_49 (by decide +kernel) ?_
        refine cv_lshr (v := j_lshr (x.toInt64 * y.toInt64) (32 : Int32)) K d_Model_product_51 rfl ?_
        refine cv_l2i K d_Model_product_52 rfl ?_
        exact cv_reti K hm d_Model_product_53 ((j_lshr (x.toInt64 * y.toInt64) (32 : Int32)).toInt32) (by rw [p_Model_product, if_neg (c := f = (3 : Int32)) h1, if_pos (c := f < (2 : Int32)) h2, if_neg (c := f = (0 : Int32)) h3]) rfl rfl
      · refine cv_iload_n K 3 d_Model_product_39 rfl rfl ?_
        refine cv_iload_n K 4 d_Model_product_40 rfl rfl ?_
        refine cv_imul K d_Model_product_41 ?_
        refine cv_goto K d_Model_product_42 53 rfl ?_
        exact cv_reti K hm d_Model_product_53 (x * y) (by rw [p_Model_product, if_neg (c := f = (3 : Int32)) h1, if_pos (c := f < (2 : Int32)) h2, if_pos (c := f = (0 : Int32)) h3]) rfl rfl
    · refine cv_iload_n K 3 d_Model_product_22 rfl rfl ?_
      refine cv_i2l K d_Model_product_23 rfl ?_
      refine cv_ldc2 (v := 4294967295) K d_Model_product_24 tm_1010 ?_
      refine cv_land K d_Model_product_27 ?_
      refine cv_goto K d_Model_product_28 33 rfl ?_
      refine cv_lstore K d_Model_product_33 [(5, .long (y.toInt64 &&& (4294967295 : Int64))), (3, .long x.toInt64), (0, .int f), (1, .int x), (2, .int y)] (by decide) rfl ?_
      refine cv_iload_n K 2 d_Model_product_35 rfl rfl ?_
      refine cv_if_ne K d_Model_product_36 45 rfl (fun h4 => ?_) (fun h4 => ?_)
      · refine cv_lload_n K 1 d_Model_product_45 rfl rfl ?_
        refine cv_lload K 0 d_Model_product_46 rfl ?_
        refine cv_lmul K d_Model_product_48 ?_
        refine cv_bipush (v := 32) K d_Model_product_49 (by decide +kernel) ?_
        refine cv_lshr (v := j_lshr (x.toInt64 * (y.toInt64 &&& (4294967295 : Int64))) (32 : Int32)) K d_Model_product_51 rfl ?_
        refine cv_l2i K d_Model_product_52 rfl ?_
        exact cv_reti K hm d_Model_product_53 ((j_lshr (x.toInt64 * (y.toInt64 &&& (4294967295 : Int64))) (32 : Int32)).toInt32) (by rw [p_Model_product, if_neg (c := f = (3 : Int32)) h1, if_neg (c := f < (2 : Int32)) h2, if_neg (c := f = (0 : Int32)) h4]) rfl rfl
      · refine cv_iload_n K 3 d_Model_product_39 rfl rfl ?_
        refine cv_iload_n K 4 d_Model_product_40 rfl rfl ?_
        refine cv_imul K d_Model_product_41 ?_
        refine cv_goto K d_Model_product_42 53 rfl ?_
        exact cv_reti K hm d_Model_product_53 (x * y) (by rw [p_Model_product, if_neg (c := f = (3 : Int32)) h1, if_neg (c := f < (2 : Int32)) h2, if_pos (c := f = (0 : Int32)) h4]) rfl rfl
  · refine cv_iload_n K 1 d_Model_product_5 rfl rfl ?_
    refine cv_i2l K d_Model_product_6 rfl ?_
    refine cv_ldc2 (v := 4294967295) K d_Model_product_7 tm_1010 ?_
    refine cv_land K d_Model_product_10 ?_
    refine cv_goto K d_Model_product_11 16 rfl ?_
    refine cv_lstore_n K d_Model_product_16 [(3, .long (x.toInt64 &&& (4294967295 : Int64))), (0, .int f), (1, .int x), (2, .int y)] rfl (by decide) rfl ?_
    refine cv_iload_n K 1 d_Model_product_17 rfl rfl ?_
    refine cv_iconst (v := 2) K d_Model_product_18 rfl ?_
    refine cv_icmp_lt K d_Model_product_19 31 rfl (fun h5 => ?_) (fun h5 => ?_)
    · refine cv_iload_n K 3 d_Model_product_31 rfl rfl ?_
      refine cv_i2l K d_Model_product_32 rfl ?_
      refine cv_lstore K d_Model_product_33 [(5, .long y.toInt64), (3, .long (x.toInt64 &&& (4294967295 : Int64))), (0, .int f), (1, .int x), (2, .int y)] (by decide) rfl ?_
      refine cv_iload_n K 2 d_Model_product_35 rfl rfl ?_
      refine cv_if_ne K d_Model_product_36 45 rfl (fun h6 => ?_) (fun h6 => ?_)
      · refine cv_lload_n K 1 d_Model_product_45 rfl rfl ?_
        refine cv_lload K 0 d_Model_product_46 rfl ?_
        refine cv_lmul K d_Model_product_48 ?_
        refine cv_bipush (v := 32) K d_Model_product_49 (by decide +kernel) ?_
        refine cv_lshr (v := j_lshr ((x.toInt64 &&& (4294967295 : Int64)) * y.toInt64) (32 : Int32)) K d_Model_product_51 rfl ?_
        refine cv_l2i K d_Model_product_52 rfl ?_
        exact cv_reti K hm d_Model_product_53 ((j_lshr ((x.toInt64 &&& (4294967295 : Int64)) * y.toInt64) (32 : Int32)).toInt32) (by rw [p_Model_product, if_pos (c := f = (3 : Int32)) h1, if_pos (c := f < (2 : Int32)) h5, if_neg (c := f = (0 : Int32)) h6]) rfl rfl
      · refine cv_iload_n K 3 d_Model_product_39 rfl rfl ?_
        refine cv_iload_n K 4 d_Model_product_40 rfl rfl ?_
        refine cv_imul K d_Model_product_41 ?_
        refine cv_goto K d_Model_product_42 53 rfl ?_
        exact cv_reti K hm d_Model_product_53 (x * y) (by rw [p_Model_product, if_pos (c := f = (3 : Int32)) h1, if_pos (c := f < (2 : Int32)) h5, if_pos (c := f = (0 : Int32)) h6]) rfl rfl
    · refine cv_iload_n K 3 d_Model_product_22 rfl rfl ?_
      refine cv_i2l K d_Model_product_23 rfl ?_
      refine cv_ldc2 (v := 4294967295) K d_Model_product_24 tm_1010 ?_
      refine cv_land K d_Model_product_27 ?_
      refine cv_goto K d_Model_product_28 33 rfl ?_
      refine cv_lstore K d_Model_product_33 [(5, .long (y.toInt64 &&& (4294967295 : Int64))), (3, .long (x.toInt64 &&& (4294967295 : Int64))), (0, .int f), (1, .int x), (2, .int y)] (by decide) rfl ?_
      refine cv_iload_n K 2 d_Model_product_35 rfl rfl ?_
      refine cv_if_ne K d_Model_product_36 45 rfl (fun h7 => ?_) (fun h7 => ?_)
      · refine cv_lload_n K 1 d_Model_product_45 rfl rfl ?_
        refine cv_lload K 0 d_Model_product_46 rfl ?_
        refine cv_lmul K d_Model_product_48 ?_
        refine cv_bipush (v := 32) K d_Model_product_49 (by decide +kernel) ?_
        refine cv_lshr (v := j_lshr ((x.toInt64 &&& (4294967295 : Int64)) * (y.toInt64 &&& (4294967295 : Int64))) (32 : Int32)) K d_Model_product_51 rfl ?_
        refine cv_l2i K d_Model_product_52 rfl ?_
        exact cv_reti K hm d_Model_product_53 ((j_lshr ((x.toInt64 &&& (4294967295 : Int64)) * (y.toInt64 &&& (4294967295 : Int64))) (32 : Int32)).toInt32) (by rw [p_Model_product, if_pos (c := f = (3 : Int32)) h1, if_neg (c := f < (2 : Int32)) h5, if_neg (c := f = (0 : Int32)) h7]) rfl rfl
      · refine cv_iload_n K 3 d_Model_product_39 rfl rfl ?_
        refine cv_iload_n K 4 d_Model_product_40 rfl rfl ?_
        refine cv_imul K d_Model_product_41 ?_
        refine cv_goto K d_Model_product_42 53 rfl ?_
        exact cv_reti K hm d_Model_product_53 (x * y) (by rw [p_Model_product, if_pos (c := f = (3 : Int32)) h1, if_neg (c := f < (2 : Int32)) h5, if_pos (c := f = (0 : Int32)) h7]) rfl rfl
-- CycleChipModel.divided(III)I
def p_Model_divided (f : Int32) (x : Int32) (y : Int32) : Int32 := if (f - f / (2 : Int32) * (2 : Int32)) = (1 : Int32) then if (f - f / (2 : Int32) * (2 : Int32)) = (1 : Int32) then if (lg_cmp (y.toInt64 &&& (4294967295 : Int64)) (0 : Int64)) = (0 : Int32) then if (6 : Int32) ≤ f then x else (-1 : Int32) else if (6 : Int32) ≤ f then ((x.toInt64 &&& (4294967295 : Int64)) - (x.toInt64 &&& (4294967295 : Int64)) / (y.toInt64 &&& (4294967295 : Int64)) * (y.toInt64 &&& (4294967295 : Int64))).toInt32 else ((x.toInt64 &&& (4294967295 : Int64)) / (y.toInt64 &&& (4294967295 : Int64))).toInt32 else (0 : Int32) else if (f - f / (2 : Int32) * (2 : Int32)) = (1 : Int32) then (0 : Int32) else if (lg_cmp y.toInt64 (0 : Int64)) = (0 : Int32) then if (6 : Int32) ≤ f then x else (-1 : Int32) else if (6 : Int32) ≤ f then (x.toInt64 - x.toInt64 / y.toInt64 * y.toInt64).toInt32 else (x.toInt64 / y.toInt64).toInt32
set_option maxRecDepth 100000 in
set_option maxHeartbeats 4000000 in
theorem m_Model_divided (l : Launch) (dC : Nat → ClassId) (dI : Nat → Nat → Nat) (tys : List (ClassId × FieldType)) (f : Int32) (x : Int32) (y : Int32)  : cv_Mi l y_Model_divided (Cond.code y_Model_divided c_Model_divided 7 (some .int) :: gw) { frames := 0, cells := 0, slots := 0, locals := 0 } (dC, dI) vwCl tys [.int f, .int x, .int y] [] (p_Model_divided f x y) (fun r => r) (fun r => []) := by
  refine cv_starti (by decide) (Nat.le_of_ble_eq_true rfl) [(0, .int f), (1, .int x), (2, .int y)] rfl ?_
  intro p e s m below meth c A K hm
  refine cv_iload_n K 0 d_Model_divided_0 rfl rfl ?_
  refine cv_iconst (v := 2) K d_Model_divided_1 rfl ?_
  refine cv_irem K d_Model_divided_2 (by decide) ?_
  refine cv_iconst (v := 1) K d_Model_divided_3 rfl ?_
  refine cv_icmp_ne K d_Model_divided_4 16 rfl (fun h1 => ?_) (fun h1 => ?_)
  · refine cv_iload_n K 1 d_Model_divided_16 rfl rfl ?_
    refine cv_i2l K d_Model_divided_17 rfl ?_
    refine cv_lstore_n K d_Model_divided_18 [(3, .long x.toInt64), (0, .int f), (1, .int x), (2, .int y)] rfl (by decide) rfl ?_
    refine cv_iload_n K 1 d_Model_divided_19 rfl rfl ?_
    refine cv_iconst (v := 2) K d_Model_divided_20 rfl ?_
    refine cv_irem K d_Model_divided_21 (by decide) ?_
    refine cv_iconst (v := 1) K d_Model_divided_22 rfl ?_
    refine cv_icmp_ne K d_Model_divided_23 35 rfl (fun h2 => ?_) (fun h2 => ?_)
    · refine cv_iload_n K 3 d_Model_divided_35 rfl rfl ?_
      refine cv_i2l K d_Model_divided_36 rfl ?_
      refine cv_lstore K d_Model_divided_37 [(5, .long y.toInt64), (3, .long x.toInt64), (0, .int f), (1, .int x), (2, .int y)] (by decide) rfl ?_
      refine cv_lload K 0 d_Model_divided_39 rfl ?_
      refine cv_lconst (v := 0) K d_Model_divided_41 rfl ?_
      refine cv_lcmp K d_Model_divided_42 ?_
      refine cv_if_ne K d_Model_divided_43 58 rfl (fun h3 => ?_) (fun h3 => ?_)
      · refine cv_iload_n K 2 d_Model_divided_58 rfl rfl ?_
        refine cv_bipush (v := 6) K d_Model_divided_59 (by decide +kernel) ?_
        refine cv_icmp_ge K d_Model_divided_61 71 rfl (fun h4 => ?_) (fun h4 => ?_)
        · refine cv_lload_n K 1 d_Model_divided_71 rfl rfl ?_
          refine cv_lload K 0 d_Model_divided_72 rfl ?_
          refine cv_lrem K d_Model_divided_74 (dz_0 h3) ?_
          refine cv_l2i K d_Model_divided_75 rfl ?_
          exact cv_reti K hm d_Model_divided_76 ((x.toInt64 - x.toInt64 / y.toInt64 * y.toInt64).toInt32) (by rw [p_Model_divided, if_neg (c := (f - f / (2 : Int32) * (2 : Int32)) = (1 : Int32)) h1, if_neg (c := (f - f / (2 : Int32) * (2 : Int32)) = (1 : Int32)) h2, if_neg (c := (lg_cmp y.toInt64 (0 : Int64)) = (0 : Int32)) h3, if_pos (c := (6 : Int32) ≤ f) h4]) rfl rfl
        · refine cv_lload_n K 1 d_Model_divided_64 rfl rfl ?_
          refine cv_lload K 0 d_Model_divided_65 rfl ?_
          refine cv_ldiv K d_Model_divided_67 (dz_0 h3) ?_
          refine cv_goto K d_Model_divided_68 75 rfl ?_
          refine cv_l2i K d_Model_divided_75 rfl ?_
          exact cv_reti K hm d_Model_divided_76 ((x.toInt64 / y.toInt64).toInt32) (by rw [p_Model_divided, if_neg (c := (f - f / (2 : Int32) * (2 : Int32)) = (1 : Int32)) h1, if_neg (c := (f - f / (2 : Int32) * (2 : Int32)) = (1 : Int32)) h2, if_neg (c := (lg_cmp y.toInt64 (0 : Int64)) = (0 : Int32)) h3, if_neg (c := (6 : Int32) ≤ f) h4]) rfl rfl
      · refine cv_iload_n K 2 d_Model_divided_46 rfl rfl ?_
        refine cv_bipush (v := 6) K d_Model_divided_47 (by decide +kernel) ?_
        refine cv_icmp_ge K d_Model_divided_49 56 rfl (fun h5 => ?_) (fun h5 => ?_)
        · refine cv_iload_n K 3 d_Model_divided_56 rfl rfl ?_
          exact cv_reti K hm d_Model_divided_57 (x) (by rw [p_Model_divided, if_neg (c := (f - f / (2 : Int32) * (2 : Int32)) = (1 : Int32)) h1, if_neg (c := (f - f / (2 : Int32) * (2 : Int32)) = (1 : Int32)) h2, if_pos (c := (lg_cmp y.toInt64 (0 : Int64)) = (0 : Int32)) h3, if_pos (c := (6 : Int32) ≤ f) h5]) rfl rfl
        · refine cv_iconst (v := (-1)) K d_Model_divided_52 rfl ?_
          refine cv_goto K d_Model_divided_53 57 rfl ?_
          exact cv_reti K hm d_Model_divided_57 ((-1 : Int32)) (by rw [p_Model_divided, if_neg (c := (f - f / (2 : Int32) * (2 : Int32)) = (1 : Int32)) h1, if_neg (c := (f - f / (2 : Int32) * (2 : Int32)) = (1 : Int32)) h2, if_pos (c := (lg_cmp y.toInt64 (0 : Int64)) = (0 : Int32)) h3, if_neg (c := (6 : Int32) ≤ f) h5]) rfl rfl
    · exact absurd h2 h1
  · refine cv_iload_n K 1 d_Model_divided_7 rfl rfl ?_
    refine cv_i2l K d_Model_divided_8 rfl ?_
    refine cv_ldc2 (v := 4294967295) K d_Model_divided_9 tm_1010 ?_
    refine cv_land K d_Model_divided_12 ?_
    refine cv_goto K d_Model_divided_13 18 rfl ?_
    refine cv_lstore_n K d_Model_divided_18 [(3, .long (x.toInt64 &&& (4294967295 : Int64))), (0, .int f), (1, .int x), (2, .int y)] rfl (by decide) rfl ?_
    refine cv_iload_n K 1 d_Model_divided_19 rfl rfl ?_
    refine cv_iconst (v := 2) K d_Model_divided_20 rfl ?_
    refine cv_irem K d_Model_divided_21 (by decide) ?_
    refine cv_iconst (v := 1) K d_Model_divided_22 rfl ?_
    refine cv_icmp_ne K d_Model_divided_23 35 rfl (fun h6 => ?_) (fun h6 => ?_)
    · exact absurd h1 h6
    · refine cv_iload_n K 3 d_Model_divided_26 rfl rfl ?_
      refine cv_i2l K d_Model_divided_27 rfl ?_
      refine cv_ldc2 (v := 4294967295) K d_Model_divided_28 tm_1010 ?_
      refine cv_land K d_Model_divided_31 ?_
      refine cv_goto K d_Model_divided_32 37 rfl ?_
      refine cv_lstore K d_Model_divided_37 [(5, .long (y.toInt64 &&& (4294967295 : Int64))), (3, .long (x.toInt64 &&& (4294967295 : Int64))), (0, .int f), (1, .int x), (2, .int y)] (by decide) rfl ?_
      refine cv_lload K 0 d_Model_divided_39 rfl ?_
      refine cv_lconst (v := 0) K d_Model_divided_41 rfl ?_
      refine cv_lcmp K d_Model_divided_42 ?_
      refine cv_if_ne K d_Model_divided_43 58 rfl (fun h7 => ?_) (fun h7 => ?_)
      · refine cv_iload_n K 2 d_Model_divided_58 rfl rfl ?_
        refine cv_bipush (v := 6) K d_Model_divided_59 (by decide +kernel) ?_
        refine cv_icmp_ge K d_Model_divided_61 71 rfl (fun h8 => ?_) (fun h8 => ?_)
        · refine cv_lload_n K 1 d_Model_divided_71 rfl rfl ?_
          refine cv_lload K 0 d_Model_divided_72 rfl ?_
          refine cv_lrem K d_Model_divided_74 (dz_0 h7) ?_
          refine cv_l2i K d_Model_divided_75 rfl ?_
          exact cv_reti K hm d_Model_divided_76 (((x.toInt64 &&& (4294967295 : Int64)) - (x.toInt64 &&& (4294967295 : Int64)) / (y.toInt64 &&& (4294967295 : Int64)) * (y.toInt64 &&& (4294967295 : Int64))).toInt32) (by rw [p_Model_divided, if_pos (c := (f - f / (2 : Int32) * (2 : Int32)) = (1 : Int32)) h1, if_pos (c := (f - f / (2 : Int32) * (2 : Int32)) = (1 : Int32)) h6, if_neg (c := (lg_cmp (y.toInt64 &&& (4294967295 : Int64)) (0 : Int64)) = (0 : Int32)) h7, if_pos (c := (6 : Int32) ≤ f) h8]) rfl rfl
        · refine cv_lload_n K 1 d_Model_divided_64 rfl rfl ?_
          refine cv_lload K 0 d_Model_divided_65 rfl ?_
          refine cv_ldiv K d_Model_divided_67 (dz_0 h7) ?_
          refine cv_goto K d_Model_divided_68 75 rfl ?_
          refine cv_l2i K d_Model_divided_75 rfl ?_
          exact cv_reti K hm d_Model_divided_76 (((x.toInt64 &&& (4294967295 : Int64)) / (y.toInt64 &&& (4294967295 : Int64))).toInt32) (by rw [p_Model_divided, if_pos (c := (f - f / (2 : Int32) * (2 : Int32)) = (1 : Int32)) h1, if_pos (c := (f - f / (2 : Int32) * (2 : Int32)) = (1 : Int32)) h6, if_neg (c := (lg_cmp (y.toInt64 &&& (4294967295 : Int64)) (0 : Int64)) = (0 : Int32)) h7, if_neg (c := (6 : Int32) ≤ f) h8]) rfl rfl
      · refine cv_iload_n K 2 d_Model_divided_46 rfl rfl ?_
        refine cv_bipush (v := 6) K d_Model_divided_47 (by decide +kernel) ?_
        refine cv_icmp_ge K d_Model_divided_49 56 rfl (fun h9 => ?_) (fun h9 => ?_)
        · refine cv_iload_n K 3 d_Model_divided_56 rfl rfl ?_
          exact cv_reti K hm d_Model_divided_57 (x) (by rw [p_Model_divided, if_pos (c := (f - f / (2 : Int32) * (2 : Int32)) = (1 : Int32)) h1, if_pos (c := (f - f / (2 : Int32) * (2 : Int32)) = (1 : Int32)) h6, if_pos (c := (lg_cmp (y.toInt64 &&& (4294967295 : Int64)) (0 : Int64)) = (0 : Int32)) h7, if_pos (c := (6 : Int32) ≤ f) h9]) rfl rfl
        · refine cv_iconst (v := (-1)) K d_Model_divided_52 rfl ?_
          refine cv_goto K d_Model_divided_53 57 rfl ?_
          exact cv_reti K hm d_Model_divided_57 ((-1 : Int32)) (by rw [p_Model_divided, if_pos (c := (f - f / (2 : Int32) * (2 : Int32)) = (1 : Int32)) h1, if_pos (c := (f - f / (2 : Int32) * (2 : Int32)) = (1 : Int32)) h6, if_pos (c := (lg_cmp (y.toInt64 &&& (4294967295 : Int64)) (0 : Int64)) = (0 : Int32)) h7, if_neg (c := (6 : Int32) ≤ f) h9]) rfl rfl
-- CycleChipModel.which(I)I
def p_Model_which_1 (k : Int32) (r1 : Int32) : Int32 := if r1 = (0 : Int32) then if k = (3072 : Int32) then (8 : Int32) else (-1 : Int32) else k - (829 : Int32)
def p_Model_which (k : Int32) : Int32 := if k = (768 : Int32) then (0 : Int32) else if k = (772 : Int32) then (1 : Int32) else if k = (773 : Int32) then (2 : Int32) else p_Model_which_1 k (p_Model_in k (832 : Int32) (836 : Int32))
set_option maxRecDepth 100000 in
set_option maxHeartbeats 4000000 in
theorem m_Model_which (l : Launch) (dC : Nat → ClassId) (dI : Nat → Nat → Nat) (tys : List (ClassId × FieldType)) (k : Int32)  : cv_Mi l y_Model_which (Cond.code y_Model_which c_Model_which 1 (some .int) :: gw) { frames := 1, cells := 0, slots := 0, locals := 22 } (dC, dI) vwCl tys [.int k] [] (p_Model_which k) (fun r => r) (fun r => []) := by
  refine cv_starti (by decide) (Nat.le_of_ble_eq_true rfl) [(0, .int k)] rfl ?_
  intro p e s m below meth c A K hm
  refine cv_iload_n K 0 d_Model_which_0 rfl rfl ?_
  refine cv_sipush (v := 768) K d_Model_which_1 (by decide +kernel) ?_
  refine cv_icmp_ne K d_Model_which_4 11 rfl (fun h1 => ?_) (fun h1 => ?_)
  · refine cv_iload_n K 0 d_Model_which_11 rfl rfl ?_
    refine cv_sipush (v := 772) K d_Model_which_12 (by decide +kernel) ?_
    refine cv_icmp_ne K d_Model_which_15 22 rfl (fun h2 => ?_) (fun h2 => ?_)
    · refine cv_iload_n K 0 d_Model_which_22 rfl rfl ?_
      refine cv_sipush (v := 773) K d_Model_which_23 (by decide +kernel) ?_
      refine cv_icmp_ne K d_Model_which_26 33 rfl (fun h3 => ?_) (fun h3 => ?_)
      · refine cv_iload_n K 0 d_Model_which_33 rfl rfl ?_
        refine cv_sipush (v := 832) K d_Model_which_34 (by decide +kernel) ?_
        refine cv_sipush (v := 836) K d_Model_which_37 (by decide +kernel) ?_
        refine cv_callSz K (m_Model_in l dC dI tys k (832 : Int32) (836 : Int32)) d_Model_which_40 (cw_S (n := 3) K.2.2.2.2.1 tm_999 tm_1000 tm_15 tm_1001 rfl rfl (wd_of (by decide +kernel) (by decide +kernel)) ⟨Nat.le_of_ble_eq_true rfl, Nat.le_of_ble_eq_true rfl⟩) [] rfl rfl (fun _ => rfl) rfl rfl (Nat.le_of_ble_eq_true rfl) (Nat.zero_le _) (Nat.zero_le _) (fun r1 hr1 => ?_)
        refine cv_norm [] rfl ?_
        refine cv_if_eq K d_Model_which_43 54 rfl (fun h4 => ?_) (fun h4 => ?_)
        · refine cv_iload_n K 0 d_Model_which_54 rfl rfl ?_
          refine cv_sipush (v := 3072) K d_Model_which_55 (by decide +kernel) ?_
          refine cv_icmp_ne K d_Model_which_58 66 rfl (fun h5 => ?_) (fun h5 => ?_)
          · refine cv_iconst (v := (-1)) K d_Model_which_66 rfl ?_
            exact cv_reti K hm d_Model_which_67 ((-1 : Int32)) (by rw [p_Model_which, if_neg (c := k = (768 : Int32)) h1, if_neg (c := k = (772 : Int32)) h2, if_neg (c := k = (773 : Int32)) h3, ← hr1, p_Model_which_1, if_pos (c := r1 = (0 : Int32)) h4, if_neg (c := k = (3072 : Int32)) h5]) rfl rfl
          · refine cv_bipush (v := 8) K d_Model_which_61 (by decide +kernel) ?_
            refine cv_goto K d_Model_which_63 67 rfl ?_
            exact cv_reti K hm d_Model_which_67 ((8 : Int32)) (by rw [p_Model_which, if_neg (c := k = (768 : Int32)) h1, if_neg (c := k = (772 : Int32)) h2, if_neg (c := k = (773 : Int32)) h3, ← hr1, p_Model_which_1, if_pos (c := r1 = (0 : Int32)) h4, if_pos (c := k = (3072 : Int32)) h5]) rfl rfl
        · refine cv_iload_n K 0 d_Model_which_46 rfl rfl ?_
          refine cv_sipush (v := 829) K d_Model_which_47 (by decide +kernel) ?_
          refine cv_isub K d_Model_which_50 ?_
          refine cv_goto K d_Model_which_51 67 rfl ?_
          exact cv_reti K hm d_Model_which_67 (k - (829 : Int32)) (by rw [p_Model_which, if_neg (c := k = (768 : Int32)) h1, if_neg (c := k = (772 : Int32)) h2, if_neg (c := k = (773 : Int32)) h3, ← hr1, p_Model_which_1, if_neg (c := r1 = (0 : Int32)) h4]) rfl rfl
      · refine cv_iconst (v := 2) K d_Model_which_29 rfl ?_
        refine cv_goto K d_Model_which_30 67 rfl ?_
        exact cv_reti K hm d_Model_which_67 ((2 : Int32)) (by rw [p_Model_which, if_neg (c := k = (768 : Int32)) h1, if_neg (c := k = (772 : Int32)) h2, if_pos (c := k = (773 : Int32)) h3]) rfl rfl
    · refine cv_iconst (v := 1) K d_Model_which_18 rfl ?_
      refine cv_goto K d_Model_which_19 67 rfl ?_
      exact cv_reti K hm d_Model_which_67 ((1 : Int32)) (by rw [p_Model_which, if_neg (c := k = (768 : Int32)) h1, if_pos (c := k = (772 : Int32)) h2]) rfl rfl
  · refine cv_iconst (v := 0) K d_Model_which_7 rfl ?_
    refine cv_goto K d_Model_which_8 67 rfl ?_
    exact cv_reti K hm d_Model_which_67 ((0 : Int32)) (by rw [p_Model_which, if_pos (c := k = (768 : Int32)) h1]) rfl rfl
-- CycleChipModel.masked(II)I
def p_Model_masked (k : Int32) (x : Int32) : Int32 := if k = (0 : Int32) then x &&& (136 : Int32) else if k = (1 : Int32) then x &&& (2176 : Int32) else if k = (2 : Int32) then x &&& (-3 : Int32) else if k = (4 : Int32) then x &&& (-4 : Int32) else x
set_option maxRecDepth 100000 in
set_option maxHeartbeats 4000000 in
theorem m_Model_masked (l : Launch) (dC : Nat → ClassId) (dI : Nat → Nat → Nat) (tys : List (ClassId × FieldType)) (k : Int32) (x : Int32)  : cv_Mi l y_Model_masked (Cond.code y_Model_masked c_Model_masked 2 (some .int) :: gw) { frames := 0, cells := 0, slots := 0, locals := 0 } (dC, dI) vwCl tys [.int k, .int x] [] (p_Model_masked k x) (fun r => r) (fun r => []) := by
  refine cv_starti (by decide) (Nat.le_of_ble_eq_true rfl) [(0, .int k), (1, .int x)] rfl ?_
  intro p e s m below meth c A K hm
  refine cv_iload_n K 0 d_Model_masked_0 rfl rfl ?_
  refine cv_if_ne K d_Model_masked_1 12 rfl (fun h1 => ?_) (fun h1 => ?_)
  · refine cv_iload_n K 0 d_Model_masked_12 rfl rfl ?_
    refine cv_iconst (v := 1) K d_Model_masked_13 rfl ?_
    refine cv_icmp_ne K d_Model_masked_14 25 rfl (fun h2 => ?_) (fun h2 => ?_)
    · refine cv_iload_n K 0 d_Model_masked_25 rfl rfl ?_
      refine cv_iconst (v := 2) K d_Model_masked_26 rfl ?_
      refine cv_icmp_ne K d_Model_masked_27 37 rfl (fun h3 => ?_) (fun h3 => ?_)
      · refine cv_iload_n K 0 d_Model_masked_37 rfl rfl ?_
        refine cv_iconst (v := 4) K d_Model_masked_38 rfl ?_
        refine cv_icmp_ne K d_Model_masked_39 49 rfl (fun h4 => ?_) (fun h4 => ?_)
        · refine cv_iload_n K 1 d_Model_masked_49 rfl rfl ?_
          exact cv_reti K hm d_Model_masked_50 (x) (by rw [p_Model_masked, if_neg (c := k = (0 : Int32)) h1, if_neg (c := k = (1 : Int32)) h2, if_neg (c := k = (2 : Int32)) h3, if_neg (c := k = (4 : Int32)) h4]) rfl rfl
        · refine cv_iload_n K 1 d_Model_masked_42 rfl rfl ?_
          refine cv_bipush (v := (-4)) K d_Model_masked_43 (by decide +kernel) ?_
          refine cv_iand K d_Model_masked_45 ?_
          refine cv_goto K d_Model_masked_46 50 rfl ?_
          exact cv_reti K hm d_Model_masked_50 (x &&& (-4 : Int32)) (by rw [p_Model_masked, if_neg (c := k = (0 : Int32)) h1, if_neg (c := k = (1 : Int32)) h2, if_neg (c := k = (2 : Int32)) h3, if_pos (c := k = (4 : Int32)) h4]) rfl rfl
      · refine cv_iload_n K 1 d_Model_masked_30 rfl rfl ?_
        refine cv_bipush (v := (-3)) K d_Model_masked_31 (by decide +kernel) ?_
        refine cv_iand K d_Model_masked_33 ?_
        refine cv_goto K d_Model_masked_34 50 rfl ?_
        exact cv_reti K hm d_Model_masked_50 (x &&& (-3 : Int32)) (by rw [p_Model_masked, if_neg (c := k = (0 : Int32)) h1, if_neg (c := k = (1 : Int32)) h2, if_pos (c := k = (2 : Int32)) h3]) rfl rfl
    · refine cv_iload_n K 1 d_Model_masked_17 rfl rfl ?_
      refine cv_sipush (v := 2176) K d_Model_masked_18 (by decide +kernel) ?_
      refine cv_iand K d_Model_masked_21 ?_
      refine cv_goto K d_Model_masked_22 50 rfl ?_
      exact cv_reti K hm d_Model_masked_50 (x &&& (2176 : Int32)) (by rw [p_Model_masked, if_neg (c := k = (0 : Int32)) h1, if_pos (c := k = (1 : Int32)) h2]) rfl rfl
  · refine cv_iload_n K 1 d_Model_masked_4 rfl rfl ?_
    refine cv_sipush (v := 136) K d_Model_masked_5 (by decide +kernel) ?_
    refine cv_iand K d_Model_masked_8 ?_
    refine cv_goto K d_Model_masked_9 50 rfl ?_
    exact cv_reti K hm d_Model_masked_50 (x &&& (136 : Int32)) (by rw [p_Model_masked, if_pos (c := k = (0 : Int32)) h1]) rfl rfl
-- CycleChipModel.joinWords(IJ)J
def p_Model_joinWords (k : Int32) (x : Int64) : Int64 := (j_lshl k.toInt64 (32 : Int32)) ||| (x &&& (4294967295 : Int64))
set_option maxRecDepth 100000 in
set_option maxHeartbeats 4000000 in
theorem m_Model_joinWords (l : Launch) (dC : Nat → ClassId) (dI : Nat → Nat → Nat) (tys : List (ClassId × FieldType)) (k : Int32) (x : Int64)  : cv_Ml l y_Model_joinWords (Cond.code y_Model_joinWords c_Model_joinWords 3 (some .long) :: gw) { frames := 0, cells := 0, slots := 0, locals := 0 } (dC, dI) vwCl tys [.int k, .long x] [] (p_Model_joinWords k x) (fun r => r) (fun r => []) := by
  refine cv_startl (by decide) (Nat.le_of_ble_eq_true rfl) [(0, .int k), (1, .long x)] rfl ?_
  intro p e s m below meth c A K hm
  refine cv_iload_n K 0 d_Model_joinWords_0 rfl rfl ?_
  refine cv_i2l K d_Model_joinWords_1 rfl ?_
  refine cv_bipush (v := 32) K d_Model_joinWords_2 (by decide +kernel) ?_
  refine cv_lshl (v := j_lshl k.toInt64 (32 : Int32)) K d_Model_joinWords_4 rfl ?_
  refine cv_lload_n K 1 d_Model_joinWords_5 rfl rfl ?_
  refine cv_ldc2 (v := 4294967295) K d_Model_joinWords_6 tm_1010 ?_
  refine cv_land K d_Model_joinWords_9 ?_
  refine cv_lor K d_Model_joinWords_10 ?_
  exact cv_retl K hm d_Model_joinWords_11 ((j_lshl k.toInt64 (32 : Int32)) ||| (x &&& (4294967295 : Int64))) (by rw [p_Model_joinWords]) rfl rfl
-- CycleChipModel.poke(II)I
def p_Model_poke_1 (mv : Nat → Int32) (mvL : Nat → Int64) (m_memory : Nat → Int32) (k : Int32) (x : Int32) (r1 : Int32) : Int32 × (Nat → Int32) := if r1 = (0 : Int32) then ((0 : Int32), m_memory) else (m_memory k.toNatClampNeg, (upd m_memory k.toNatClampNeg x))
def p_Model_poke (mv : Nat → Int32) (mvL : Nat → Int64) (m_memory : Nat → Int32) (k : Int32) (x : Int32) : Int32 × (Nat → Int32) := p_Model_poke_1 mv mvL m_memory k x (p_Model_in k (0 : Int32) (127 : Int32))
set_option maxRecDepth 100000 in
set_option maxHeartbeats 4000000 in
theorem m_Model_poke (l : Launch) (dC : Nat → ClassId) (dI : Nat → Nat → Nat) (tys : List (ClassId × FieldType)) (md : Nat → Nat) (mc : Nat → ClassId) (n : Nat) (hmys : ∀ k, k < 18 → tys[17 + k]? = some (mc k, mty k)) (mv : Nat → Int32) (mvL : Nat → Int64) (m_memory : Nat → Int32) (k : Int32) (x : Int32)  : cv_Mi l y_Model_poke (Cond.code y_Model_poke c_Model_poke 4 (some .int) :: gw) { frames := 1, cells := 0, slots := 0, locals := 22 } (dC, dI) vwCl tys [.ref (md 0), .int k, .int x] [k_Model (md 0) (md 1) (md 2) (md 3) (md 4) (md 5) (md 6) (md 7) (md 8) (md 9) (md 10) (md 11) (md 12) (md 13) (md 14) (md 15) (md 16) (md 17) (md 18) mv mvL, k_arr (md 3) (mc 2) 128 m_memory] (p_Model_poke mv mvL m_memory k x) (fun r => r.1) (fun r => [k_Model (md 0) (md 1) (md 2) (md 3) (md 4) (md 5) (md 6) (md 7) (md 8) (md 9) (md 10) (md 11) (md 12) (md 13) (md 14) (md 15) (md 16) (md 17) (md 18) mv mvL, k_arr (md 3) (mc 2) 128 r.2]) := by
  refine cv_starti (by decide) (Nat.le_of_ble_eq_true rfl) [(0, .ref (md 0)), (1, .int k), (2, .int x)] rfl ?_
  intro p e s m below meth c A K hm
  refine cv_iload_n K 1 d_Model_poke_0 rfl rfl ?_
  refine cv_iconst (v := 0) K d_Model_poke_1 rfl ?_
  refine cv_bipush (v := 127) K d_Model_poke_2 (by decide +kernel) ?_
  refine cv_callSz K (m_Model_in l dC dI tys k (0 : Int32) (127 : Int32)) d_Model_poke_4 (cw_S (n := 3) K.2.2.2.2.1 tm_999 tm_1000 tm_15 tm_1001 rfl rfl (wd_of (by decide +kernel) (by decide +kernel)) ⟨Nat.le_of_ble_eq_true rfl, Nat.le_of_ble_eq_true rfl⟩) [] rfl rfl (fun _ => rfl) rfl rfl (Nat.le_of_ble_eq_true rfl) (Nat.zero_le _) (Nat.zero_le _) (fun r1 hr1 => ?_)
  refine cv_norm [k_Model (md 0) (md 1) (md 2) (md 3) (md 4) (md 5) (md 6) (md 7) (md 8) (md 9) (md 10) (md 11) (md 12) (md 13) (md 14) (md 15) (md 16) (md 17) (md 18) mv mvL, k_arr (md 3) (mc 2) 128 m_memory] rfl ?_
  refine cv_if_ne K d_Model_poke_7 12 rfl (fun h1 => ?_) (fun h1 => ?_)
  · refine cv_aload_n K 0 d_Model_poke_12 rfl rfl ?_
    refine cv_get K d_Model_poke_13 0 7 rfl rfl in_Model (by decide) tm_840 rfl ?_
    refine cv_iload_n K 1 d_Model_poke_16 rfl rfl ?_
    refine cv_iald K d_Model_poke_17 1 19 rfl (hmys 2 (by decide)) (mi_in 128 (in_0 (n := 127) rfl hr1 h1)) ?_
    refine cv_istore_n K d_Model_poke_18 [(3, .int (m_memory k.toNatClampNeg)), (0, .ref (md 0)), (1, .int k), (2, .int x)] rfl (by decide) rfl ?_
    refine cv_aload_n K 1 d_Model_poke_19 rfl rfl ?_
    refine cv_get K d_Model_poke_20 0 7 rfl rfl in_Model (by decide) tm_840 rfl ?_
    refine cv_iload_n K 2 d_Model_poke_23 rfl rfl ?_
    refine cv_iload_n K 3 d_Model_poke_24 rfl rfl ?_
    refine cv_iast K d_Model_poke_25 [k_Model (md 0) (md 1) (md 2) (md 3) (md 4) (md 5) (md 6) (md 7) (md 8) (md 9) (md 10) (md 11) (md 12) (md 13) (md 14) (md 15) (md 16) (md 17) (md 18) mv mvL, k_arr (md 3) (mc 2) 128 (upd m_memory k.toNatClampNeg x)] 1 19 rfl (hmys 2 (by decide)) (mi_in 128 (in_0 (n := 127) rfl hr1 h1)) rfl ?_
    refine cv_iload_n K 0 d_Model_poke_26 rfl rfl ?_
    exact cv_reti K hm d_Model_poke_27 ((m_memory k.toNatClampNeg, (upd m_memory k.toNatClampNeg x))) (by rw [p_Model_poke, ← hr1, p_Model_poke_1, if_neg (c := r1 = (0 : Int32)) h1]) rfl rfl
  · refine cv_iconst (v := 0) K d_Model_poke_10 rfl ?_
    exact cv_reti K hm d_Model_poke_11 (((0 : Int32), m_memory)) (by rw [p_Model_poke, ← hr1, p_Model_poke_1, if_pos (c := r1 = (0 : Int32)) h1]) rfl rfl
-- CycleChipModel.peek(I)I
def p_Model_peek_1 (mv : Nat → Int32) (mvL : Nat → Int64) (m_memory : Nat → Int32) (k : Int32) (r1 : Int32) : Int32 := if r1 = (0 : Int32) then (0 : Int32) else m_memory k.toNatClampNeg
def p_Model_peek (mv : Nat → Int32) (mvL : Nat → Int64) (m_memory : Nat → Int32) (k : Int32) : Int32 := p_Model_peek_1 mv mvL m_memory k (p_Model_in k (0 : Int32) (127 : Int32))
set_option maxRecDepth 100000 in
set_option maxHeartbeats 4000000 in
theorem m_Model_peek (l : Launch) (dC : Nat → ClassId) (dI : Nat → Nat → Nat) (tys : List (ClassId × FieldType)) (md : Nat → Nat) (mc : Nat → ClassId) (n : Nat) (hmys : ∀ k, k < 18 → tys[17 + k]? = some (mc k, mty k)) (mv : Nat → Int32) (mvL : Nat → Int64) (m_memory : Nat → Int32) (k : Int32)  : cv_Mi l y_Model_peek (Cond.code y_Model_peek c_Model_peek 2 (some .int) :: gw) { frames := 1, cells := 0, slots := 0, locals := 22 } (dC, dI) vwCl tys [.ref (md 0), .int k] [k_Model (md 0) (md 1) (md 2) (md 3) (md 4) (md 5) (md 6) (md 7) (md 8) (md 9) (md 10) (md 11) (md 12) (md 13) (md 14) (md 15) (md 16) (md 17) (md 18) mv mvL, k_arr (md 3) (mc 2) 128 m_memory] (p_Model_peek mv mvL m_memory k) (fun r => r) (fun r => [k_Model (md 0) (md 1) (md 2) (md 3) (md 4) (md 5) (md 6) (md 7) (md 8) (md 9) (md 10) (md 11) (md 12) (md 13) (md 14) (md 15) (md 16) (md 17) (md 18) mv mvL, k_arr (md 3) (mc 2) 128 m_memory]) := by
  refine cv_starti (by decide) (Nat.le_of_ble_eq_true rfl) [(0, .ref (md 0)), (1, .int k)] rfl ?_
  intro p e s m below meth c A K hm
  refine cv_iload_n K 1 d_Model_peek_0 rfl rfl ?_
  refine cv_iconst (v := 0) K d_Model_peek_1 rfl ?_
  refine cv_bipush (v := 127) K d_Model_peek_2 (by decide +kernel) ?_
  refine cv_callSz K (m_Model_in l dC dI tys k (0 : Int32) (127 : Int32)) d_Model_peek_4 (cw_S (n := 3) K.2.2.2.2.1 tm_999 tm_1000 tm_15 tm_1001 rfl rfl (wd_of (by decide +kernel) (by decide +kernel)) ⟨Nat.le_of_ble_eq_true rfl, Nat.le_of_ble_eq_true rfl⟩) [] rfl rfl (fun _ => rfl) rfl rfl (Nat.le_of_ble_eq_true rfl) (Nat.zero_le _) (Nat.zero_le _) (fun r1 hr1 => ?_)
  refine cv_norm [k_Model (md 0) (md 1) (md 2) (md 3) (md 4) (md 5) (md 6) (md 7) (md 8) (md 9) (md 10) (md 11) (md 12) (md 13) (md 14) (md 15) (md 16) (md 17) (md 18) mv mvL, k_arr (md 3) (mc 2) 128 m_memory] rfl ?_
  refine cv_if_eq K d_Model_peek_7 19 rfl (fun h1 => ?_) (fun h1 => ?_)
  · refine cv_iconst (v := 0) K d_Model_peek_19 rfl ?_
    exact cv_reti K hm d_Model_peek_20 ((0 : Int32)) (by rw [p_Model_peek, ← hr1, p_Model_peek_1, if_pos (c := r1 = (0 : Int32)) h1]) rfl rfl
  · refine cv_aload_n K 0 d_Model_peek_10 rfl rfl ?_
    refine cv_get K d_Model_peek_11 0 7 rfl rfl in_Model (by decide) tm_840 rfl ?_
    refine cv_iload_n K 1 d_Model_peek_14 rfl rfl ?_
    refine cv_iald K d_Model_peek_15 1 19 rfl (hmys 2 (by decide)) (mi_in 128 (in_0 (n := 127) rfl hr1 h1)) ?_
    refine cv_goto K d_Model_peek_16 20 rfl ?_
    exact cv_reti K hm d_Model_peek_20 (m_memory k.toNatClampNeg) (by rw [p_Model_peek, ← hr1, p_Model_peek_1, if_neg (c := r1 = (0 : Int32)) h1]) rfl rfl
-- CycleChipModel.held(ZI)J
def p_Model_held_1 (mv : Nat → Int32) (mvL : Nat → Int64) (m_kept : Nat → Int32) (m_copy : Nat → Int32) (z : Int32) (k : Int32) (r1 : Int32) : Int64 := if r1 = (0 : Int32) then (-1 : Int64) else if z = (0 : Int32) then if (m_kept ((128 : Int32) + k).toNatClampNeg) = (0 : Int32) then (-1 : Int64) else ((m_copy ((128 : Int32) + k).toNatClampNeg).toInt64) &&& (4294967295 : Int64) else if (m_kept k.toNatClampNeg) = (0 : Int32) then (-1 : Int64) else ((m_copy k.toNatClampNeg).toInt64) &&& (4294967295 : Int64)
def p_Model_held (mv : Nat → Int32) (mvL : Nat → Int64) (m_kept : Nat → Int32) (m_copy : Nat → Int32) (z : Int32) (k : Int32) : Int64 := p_Model_held_1 mv mvL m_kept m_copy z k (p_Model_in k (0 : Int32) (127 : Int32))
set_option maxRecDepth 100000 in
set_option maxHeartbeats 4000000 in
theorem m_Model_held (l : Launch) (dC : Nat → ClassId) (dI : Nat → Nat → Nat) (tys : List (ClassId × FieldType)) (md : Nat → Nat) (mc : Nat → ClassId) (n : Nat) (hmys : ∀ k, k < 18 → tys[17 + k]? = some (mc k, mty k)) (mv : Nat → Int32) (mvL : Nat → Int64) (m_kept : Nat → Int32) (m_copy : Nat → Int32) (z : Int32) (k : Int32)  : cv_Ml l y_Model_held (Cond.code y_Model_held c_Model_held 4 (some .long) :: gw) { frames := 1, cells := 0, slots := 0, locals := 22 } (dC, dI) vwCl tys [.ref (md 0), .int z, .int k] [k_Model (md 0) (md 1) (md 2) (md 3) (md 4) (md 5) (md 6) (md 7) (md 8) (md 9) (md 10) (md 11) (md 12) (md 13) (md 14) (md 15) (md 16) (md 17) (md 18) mv mvL, k_arr (md 4) (mc 3) 256 m_kept, k_arr (md 5) (mc 4) 256 m_copy] (p_Model_held mv mvL m_kept m_copy z k) (fun r => r) (fun r => [k_Model (md 0) (md 1) (md 2) (md 3) (md 4) (md 5) (md 6) (md 7) (md 8) (md 9) (md 10) (md 11) (md 12) (md 13) (md 14) (md 15) (md 16) (md 17) (md 18) mv mvL, k_arr (md 4) (mc 3) 256 m_kept, k_arr (md 5) (mc 4) 256 m_copy]) := by
  refine cv_startl (by decide) (Nat.le_of_ble_eq_true rfl) [(0, .ref (md 0)), (1, .int z), (2, .int k)] rfl ?_
  intro p e s m below meth c A K hm
  refine cv_iload_n K 2 d_Model_held_0 rfl rfl ?_
  refine cv_iconst (v := 0) K d_Model_held_1 rfl ?_
  refine cv_bipush (v := 127) K d_Model_held_2 (by decide +kernel) ?_
  refine cv_callSz K (m_Model_in l dC dI tys k (0 : Int32) (127 : Int32)) d_Model_held_4 (cw_S (n := 3) K.2.2.2.2.1 tm_999 tm_1000 tm_15 tm_1001 rfl rfl (wd_of (by decide +kernel) (by decide +kernel)) ⟨Nat.le_of_ble_eq_true rfl, Nat.le_of_ble_eq_true rfl⟩) [] rfl rfl (fun _ => rfl) rfl rfl (Nat.le_of_ble_eq_true rfl) (Nat.zero_le _) (Nat.zero_le _) (fun r1 hr1 => ?_)
  refine cv_norm [k_Model (md 0) (md 1) (md 2) (md 3) (md 4) (md 5) (md 6) (md 7) (md 8) (md 9) (md 10) (md 11) (md 12) (md 13) (md 14) (md 15) (md 16) (md 17) (md 18) mv mvL, k_arr (md 4) (mc 3) 256 m_kept, k_arr (md 5) (mc 4) 256 m_copy] rfl ?_
  refine cv_if_ne K d_Model_held_7 14 rfl (fun h1 => ?_) (fun h1 => ?_)
  · refine cv_iload_n K 1 d_Model_held_14 rfl rfl ?_
    refine cv_if_eq K d_Model_held_15 22 rfl (fun h2 => ?_) (fun h2 => ?_)
    · refine cv_sipush (v := 128) K d_Model_held_22 (by decide +kernel) ?_
      refine cv_iload_n K 2 d_Model_held_25 rfl rfl ?_
      refine cv_iadd K d_Model_held_26 ?_
      refine cv_istore_n K d_Model_held_27 [(3, .int ((128 : Int32) + k)), (0, .ref (md 0)), (1, .int z), (2, .int k)] rfl (by decide) rfl ?_
      refine cv_aload_n K 1 d_Model_held_28 rfl rfl ?_
      refine cv_get K d_Model_held_29 0 8 rfl rfl in_Model (by decide) tm_841 rfl ?_
      refine cv_iload_n K 0 d_Model_held_32 rfl rfl ?_
      refine cv_zald K d_Model_held_33 1 20 rfl (hmys 3 (by decide)) (mi_hi (in_0 (n := 127) rfl hr1 h1)) ?_
      refine cv_if_eq K d_Model_held_34 51 rfl (fun h3 => ?_) (fun h3 => ?_)
      · refine cv_ldc2 (v := (-1)) K d_Model_held_51 tm_832 ?_
        exact cv_retl K hm d_Model_held_54 ((-1 : Int64)) (by rw [p_Model_held, ← hr1, p_Model_held_1, if_neg (c := r1 = (0 : Int32)) h1, if_pos (c := z = (0 : Int32)) h2, if_pos (c := (m_kept ((128 : Int32) + k).toNatClampNeg) = (0 : Int32)) h3]) rfl rfl
      · refine cv_aload_n K 1 d_Model_held_37 rfl rfl ?_
        refine cv_get K d_Model_held_38 0 9 rfl rfl in_Model (by decide) tm_842 rfl ?_
        refine cv_iload_n K 0 d_Model_held_41 rfl rfl ?_
        refine cv_iald K d_Model_held_42 2 21 rfl (hmys 4 (by decide)) (mi_hi (in_0 (n := 127) rfl hr1 h1)) ?_
        refine cv_i2l K d_Model_held_43 rfl ?_
        refine cv_ldc2 (v := 4294967295) K d_Model_held_44 tm_1010 ?_
        refine cv_land K d_Model_held_47 ?_
        refine cv_goto K d_Model_held_48 54 rfl ?_
        exact cv_retl K hm d_Model_held_54 (((m_copy ((128 : Int32) + k).toNatClampNeg).toInt64) &&& (4294967295 : Int64)) (by rw [p_Model_held, ← hr1, p_Model_held_1, if_neg (c := r1 = (0 : Int32)) h1, if_pos (c := z = (0 : Int32)) h2, if_neg (c := (m_kept ((128 : Int32) + k).toNatClampNeg) = (0 : Int32)) h3]) rfl rfl
    · refine cv_iload_n K 2 d_Model_held_18 rfl rfl ?_
      refine cv_goto K d_Model_held_19 27 rfl ?_
      refine cv_istore_n K d_Model_held_27 [(3, .int k), (0, .ref (md 0)), (1, .int z), (2, .int k)] rfl (by decide) rfl ?_
      refine cv_aload_n K 1 d_Model_held_28 rfl rfl ?_
      refine cv_get K d_Model_held_29 0 8 rfl rfl in_Model (by decide) tm_841 rfl ?_
      refine cv_iload_n K 0 d_Model_held_32 rfl rfl ?_
      refine cv_zald K d_Model_held_33 1 20 rfl (hmys 3 (by decide)) (mi_in 256 (in_0 (n := 127) rfl hr1 h1)) ?_
      refine cv_if_eq K d_Model_held_34 51 rfl (fun h4 => ?_) (fun h4 => ?_)
      · refine cv_ldc2 (v := (-1)) K d_Model_held_51 tm_832 ?_
        exact cv_retl K hm d_Model_held_54 ((-1 : Int64)) (by rw [p_Model_held, ← hr1, p_Model_held_1, if_neg (c := r1 = (0 : Int32)) h1, if_neg (c := z = (0 : Int32)) h2, if_pos (c := (m_kept k.toNatClampNeg) = (0 : Int32)) h4]) rfl rfl
      · refine cv_aload_n K 1 d_Model_held_37 rfl rfl ?_
        refine cv_get K d_Model_held_38 0 9 rfl rfl in_Model (by decide) tm_842 rfl ?_
        refine cv_iload_n K 0 d_Model_held_41 rfl rfl ?_
        refine cv_iald K d_Model_held_42 2 21 rfl (hmys 4 (by decide)) (mi_in 256 (in_0 (n := 127) rfl hr1 h1)) ?_
        refine cv_i2l K d_Model_held_43 rfl ?_
        refine cv_ldc2 (v := 4294967295) K d_Model_held_44 tm_1010 ?_
        refine cv_land K d_Model_held_47 ?_
        refine cv_goto K d_Model_held_48 54 rfl ?_
        exact cv_retl K hm d_Model_held_54 (((m_copy k.toNatClampNeg).toInt64) &&& (4294967295 : Int64)) (by rw [p_Model_held, ← hr1, p_Model_held_1, if_neg (c := r1 = (0 : Int32)) h1, if_neg (c := z = (0 : Int32)) h2, if_neg (c := (m_kept k.toNatClampNeg) = (0 : Int32)) h4]) rfl rfl
  · refine cv_ldc2 (v := (-1)) K d_Model_held_10 tm_832 ?_
    exact cv_retl K hm d_Model_held_13 ((-1 : Int64)) (by rw [p_Model_held, ← hr1, p_Model_held_1, if_pos (c := r1 = (0 : Int32)) h1]) rfl rfl
-- CycleChipModel.give(II)Z
def p_Model_give_1 (mv : Nat → Int32) (mvL : Nat → Int64) (m_register : Nat → Int32) (k : Int32) (x : Int32) (r1 : Int32) : Int32 × (Nat → Int32) := if r1 = (0 : Int32) then ((0 : Int32), m_register) else if k = (0 : Int32) then ((1 : Int32), (upd m_register k.toNatClampNeg (0 : Int32))) else ((1 : Int32), (upd m_register k.toNatClampNeg x))
def p_Model_give (mv : Nat → Int32) (mvL : Nat → Int64) (m_register : Nat → Int32) (k : Int32) (x : Int32) : Int32 × (Nat → Int32) := p_Model_give_1 mv mvL m_register k x (p_Model_in k (0 : Int32) (31 : Int32))
set_option maxRecDepth 100000 in
set_option maxHeartbeats 4000000 in
theorem m_Model_give (l : Launch) (dC : Nat → ClassId) (dI : Nat → Nat → Nat) (tys : List (ClassId × FieldType)) (md : Nat → Nat) (mc : Nat → ClassId) (n : Nat) (hmys : ∀ k, k < 18 → tys[17 + k]? = some (mc k, mty k)) (mv : Nat → Int32) (mvL : Nat → Int64) (m_register : Nat → Int32) (k : Int32) (x : Int32)  : cv_Mz l y_Model_give (Cond.code y_Model_give c_Model_give 3 (some .boolean) :: gw) { frames := 1, cells := 0, slots := 0, locals := 22 } (dC, dI) vwCl tys [.ref (md 0), .int k, .int x] [k_Model (md 0) (md 1) (md 2) (md 3) (md 4) (md 5) (md 6) (md 7) (md 8) (md 9) (md 10) (md 11) (md 12) (md 13) (md 14) (md 15) (md 16) (md 17) (md 18) mv mvL, k_arr (md 6) (mc 5) 32 m_register] (p_Model_give mv mvL m_register k x) (fun r => r.1) (fun r => [k_Model (md 0) (md 1) (md 2) (md 3) (md 4) (md 5) (md 6) (md 7) (md 8) (md 9) (md 10) (md 11) (md 12) (md 13) (md 14) (md 15) (md 16) (md 17) (md 18) mv mvL, k_arr (md 6) (mc 5) 32 r.2]) := by
  refine cv_startz (by decide) (Nat.le_of_ble_eq_true rfl) [(0, .ref (md 0)), (1, .int k), (2, .int x)] rfl ?_
  intro p e s m below meth c A K hm
  refine cv_iload_n K 1 d_Model_give_0 rfl rfl ?_
  refine cv_iconst (v := 0) K d_Model_give_1 rfl ?_
  refine cv_bipush (v := 31) K d_Model_give_2 (by decide +kernel) ?_
  refine cv_callSz K (m_Model_in l dC dI tys k (0 : Int32) (31 : Int32)) d_Model_give_4 (cw_S (n := 3) K.2.2.2.2.1 tm_999 tm_1000 tm_15 tm_1001 rfl rfl (wd_of (by decide +kernel) (by decide +kernel)) ⟨Nat.le_of_ble_eq_true rfl, Nat.le_of_ble_eq_true rfl⟩) [] rfl rfl (fun _ => rfl) rfl rfl (Nat.le_of_ble_eq_true rfl) (Nat.zero_le _) (Nat.zero_le _) (fun r1 hr1 => ?_)
  refine cv_norm [k_Model (md 0) (md 1) (md 2) (md 3) (md 4) (md 5) (md 6) (md 7) (md 8) (md 9) (md 10) (md 11) (md 12) (md 13) (md 14) (md 15) (md 16) (md 17) (md 18) mv mvL, k_arr (md 6) (mc 5) 32 m_register] rfl ?_
  refine cv_if_ne K d_Model_give_7 12 rfl (fun h1 => ?_) (fun h1 => ?_)
  · refine cv_aload_n K 0 d_Model_give_12 rfl rfl ?_
    refine cv_get K d_Model_give_13 0 10 rfl rfl in_Model (by decide) tm_843 rfl ?_
    refine cv_iload_n K 1 d_Model_give_16 rfl rfl ?_
    refine cv_iload_n K 1 d_Model_give_17 rfl rfl ?_
    refine cv_if_ne K d_Model_give_18 25 rfl (fun h2 => ?_) (fun h2 => ?_)
    · refine cv_iload_n K 2 d_Model_give_25 rfl rfl ?_
      refine cv_iast K d_Model_give_26 [k_Model (md 0) (md 1) (md 2) (md 3) (md 4) (md 5) (md 6) (md 7) (md 8) (md 9) (md 10) (md 11) (md 12) (md 13) (md 14) (md 15) (md 16) (md 17) (md 18) mv mvL, k_arr (md 6) (mc 5) 32 (upd m_register k.toNatClampNeg x)] 1 22 rfl (hmys 5 (by decide)) (mi_in 32 (in_0 (n := 31) rfl hr1 h1)) rfl ?_
      refine cv_iconst (v := 1) K d_Model_give_27 rfl ?_
      exact cv_retz K hm d_Model_give_28 (((1 : Int32), (upd m_register k.toNatClampNeg x))) (by rw [p_Model_give, ← hr1, p_Model_give_1, if_neg (c := r1 = (0 : Int32)) h1, if_neg (c := k = (0 : Int32)) h2]) rfl rfl rfl
    · refine cv_iconst (v := 0) K d_Model_give_21 rfl ?_
      refine cv_goto K d_Model_give_22 26 rfl ?_
      refine cv_iast K d_Model_give_26 [k_Model (md 0) (md 1) (md 2) (md 3) (md 4) (md 5) (md 6) (md 7) (md 8) (md 9) (md 10) (md 11) (md 12) (md 13) (md 14) (md 15) (md 16) (md 17) (md 18) mv mvL, k_arr (md 6) (mc 5) 32 (upd m_register k.toNatClampNeg (0 : Int32))] 1 22 rfl (hmys 5 (by decide)) (mi_in 32 (in_0 (n := 31) rfl hr1 h1)) rfl ?_
      refine cv_iconst (v := 1) K d_Model_give_27 rfl ?_
      exact cv_retz K hm d_Model_give_28 (((1 : Int32), (upd m_register k.toNatClampNeg (0 : Int32)))) (by rw [p_Model_give, ← hr1, p_Model_give_1, if_neg (c := r1 = (0 : Int32)) h1, if_pos (c := k = (0 : Int32)) h2]) rfl rfl rfl
  · refine cv_iconst (v := 0) K d_Model_give_10 rfl ?_
    exact cv_retz K hm d_Model_give_11 (((0 : Int32), m_register)) (by rw [p_Model_give, ← hr1, p_Model_give_1, if_pos (c := r1 = (0 : Int32)) h1]) rfl rfl rfl
-- CycleChipModel.register(I)I
def p_Model_register_1 (mv : Nat → Int32) (mvL : Nat → Int64) (m_register : Nat → Int32) (k : Int32) (r1 : Int32) : Int32 := if r1 = (0 : Int32) then (0 : Int32) else m_register k.toNatClampNeg
def p_Model_register (mv : Nat → Int32) (mvL : Nat → Int64) (m_register : Nat → Int32) (k : Int32) : Int32 := p_Model_register_1 mv mvL m_register k (p_Model_in k (0 : Int32) (31 : Int32))
set_option maxRecDepth 100000 in
set_option maxHeartbeats 4000000 in
theorem m_Model_register (l : Launch) (dC : Nat → ClassId) (dI : Nat → Nat → Nat) (tys : List (ClassId × FieldType)) (md : Nat → Nat) (mc : Nat → ClassId) (n : Nat) (hmys : ∀ k, k < 18 → tys[17 + k]? = some (mc k, mty k)) (mv : Nat → Int32) (mvL : Nat → Int64) (m_register : Nat → Int32) (k : Int32)  : cv_Mi l y_Model_register (Cond.code y_Model_register c_Model_register 2 (some .int) :: gw) { frames := 1, cells := 0, slots := 0, locals := 22 } (dC, dI) vwCl tys [.ref (md 0), .int k] [k_Model (md 0) (md 1) (md 2) (md 3) (md 4) (md 5) (md 6) (md 7) (md 8) (md 9) (md 10) (md 11) (md 12) (md 13) (md 14) (md 15) (md 16) (md 17) (md 18) mv mvL, k_arr (md 6) (mc 5) 32 m_register] (p_Model_register mv mvL m_register k) (fun r => r) (fun r => [k_Model (md 0) (md 1) (md 2) (md 3) (md 4) (md 5) (md 6) (md 7) (md 8) (md 9) (md 10) (md 11) (md 12) (md 13) (md 14) (md 15) (md 16) (md 17) (md 18) mv mvL, k_arr (md 6) (mc 5) 32 m_register]) := by
  refine cv_starti (by decide) (Nat.le_of_ble_eq_true rfl) [(0, .ref (md 0)), (1, .int k)] rfl ?_
  intro p e s m below meth c A K hm
  refine cv_iload_n K 1 d_Model_register_0 rfl rfl ?_
  refine cv_iconst (v := 0) K d_Model_register_1 rfl ?_
  refine cv_bipush (v := 31) K d_Model_register_2 (by decide +kernel) ?_
  refine cv_callSz K (m_Model_in l dC dI tys k (0 : Int32) (31 : Int32)) d_Model_register_4 (cw_S (n := 3) K.2.2.2.2.1 tm_999 tm_1000 tm_15 tm_1001 rfl rfl (wd_of (by decide +kernel) (by decide +kernel)) ⟨Nat.le_of_ble_eq_true rfl, Nat.le_of_ble_eq_true rfl⟩) [] rfl rfl (fun _ => rfl) rfl rfl (Nat.le_of_ble_eq_true rfl) (Nat.zero_le _) (Nat.zero_le _) (fun r1 hr1 => ?_)
  refine cv_norm [k_Model (md 0) (md 1) (md 2) (md 3) (md 4) (md 5) (md 6) (md 7) (md 8) (md 9) (md 10) (md 11) (md 12) (md 13) (md 14) (md 15) (md 16) (md 17) (md 18) mv mvL, k_arr (md 6) (mc 5) 32 m_register] rfl ?_
  refine cv_if_eq K d_Model_register_7 19 rfl (fun h1 => ?_) (fun h1 => ?_)
  · refine cv_iconst (v := 0) K d_Model_register_19 rfl ?_
    exact cv_reti K hm d_Model_register_20 ((0 : Int32)) (by rw [p_Model_register, ← hr1, p_Model_register_1, if_pos (c := r1 = (0 : Int32)) h1]) rfl rfl
  · refine cv_aload_n K 0 d_Model_register_10 rfl rfl ?_
    refine cv_get K d_Model_register_11 0 10 rfl rfl in_Model (by decide) tm_843 rfl ?_
    refine cv_iload_n K 1 d_Model_register_14 rfl rfl ?_
    refine cv_iald K d_Model_register_15 1 22 rfl (hmys 5 (by decide)) (mi_in 32 (in_0 (n := 31) rfl hr1 h1)) ?_
    refine cv_goto K d_Model_register_16 20 rfl ?_
    exact cv_reti K hm d_Model_register_20 (m_register k.toNatClampNeg) (by rw [p_Model_register, ← hr1, p_Model_register_1, if_neg (c := r1 = (0 : Int32)) h1]) rfl rfl
-- CycleChipModel.pc()I
def p_Model_pc (mv : Nat → Int32) (mvL : Nat → Int64) : Int32 := mv 5
set_option maxRecDepth 100000 in
set_option maxHeartbeats 4000000 in
theorem m_Model_pc (l : Launch) (dC : Nat → ClassId) (dI : Nat → Nat → Nat) (tys : List (ClassId × FieldType)) (md : Nat → Nat) (mc : Nat → ClassId) (n : Nat) (hmys : ∀ k, k < 18 → tys[17 + k]? = some (mc k, mty k)) (mv : Nat → Int32) (mvL : Nat → Int64)  : cv_Mi l y_Model_pc (Cond.code y_Model_pc c_Model_pc 1 (some .int) :: gw) { frames := 0, cells := 0, slots := 0, locals := 0 } (dC, dI) vwCl tys [.ref (md 0)] [k_Model (md 0) (md 1) (md 2) (md 3) (md 4) (md 5) (md 6) (md 7) (md 8) (md 9) (md 10) (md 11) (md 12) (md 13) (md 14) (md 15) (md 16) (md 17) (md 18) mv mvL] (p_Model_pc mv mvL) (fun r => r) (fun r => [k_Model (md 0) (md 1) (md 2) (md 3) (md 4) (md 5) (md 6) (md 7) (md 8) (md 9) (md 10) (md 11) (md 12) (md 13) (md 14) (md 15) (md 16) (md 17) (md 18) mv mvL]) := by
  refine cv_starti (by decide) (Nat.le_of_ble_eq_true rfl) [(0, .ref (md 0))] rfl ?_
  intro p e s m below meth c A K hm
  refine cv_aload_n K 0 d_Model_pc_0 rfl rfl ?_
  refine cv_get K d_Model_pc_1 0 12 rfl rfl in_Model (by decide) tm_845 rfl ?_
  exact cv_reti K hm d_Model_pc_4 (mv 5) (by rw [p_Model_pc]) rfl rfl
-- CycleChipModel.planned()I
def p_Model_planned (mv : Nat → Int32) (mvL : Nat → Int64) : Int32 := mv 20
set_option maxRecDepth 100000 in
set_option maxHeartbeats 4000000 in
theorem m_Model_planned (l : Launch) (dC : Nat → ClassId) (dI : Nat → Nat → Nat) (tys : List (ClassId × FieldType)) (md : Nat → Nat) (mc : Nat → ClassId) (n : Nat) (hmys : ∀ k, k < 18 → tys[17 + k]? = some (mc k, mty k)) (mv : Nat → Int32) (mvL : Nat → Int64)  : cv_Mi l y_Model_planned (Cond.code y_Model_planned c_Model_planned 1 (some .int) :: gw) { frames := 0, cells := 0, slots := 0, locals := 0 } (dC, dI) vwCl tys [.ref (md 0)] [k_Model (md 0) (md 1) (md 2) (md 3) (md 4) (md 5) (md 6) (md 7) (md 8) (md 9) (md 10) (md 11) (md 12) (md 13) (md 14) (md 15) (md 16) (md 17) (md 18) mv mvL] (p_Model_planned mv mvL) (fun r => r) (fun r => [k_Model (md 0) (md 1) (md 2) (md 3) (md 4) (md 5) (md 6) (md 7) (md 8) (md 9) (md 10) (md 11) (md 12) (md 13) (md 14) (md 15) (md 16) (md 17) (md 18) mv mvL]) := by
  refine cv_starti (by decide) (Nat.le_of_ble_eq_true rfl) [(0, .ref (md 0))] rfl ?_
  intro p e s m below meth c A K hm
  refine cv_aload_n K 0 d_Model_planned_0 rfl rfl ?_
  refine cv_get K d_Model_planned_1 0 29 rfl rfl in_Model (by decide) tm_862 rfl ?_
  exact cv_reti K hm d_Model_planned_4 (mv 20) (by rw [p_Model_planned]) rfl rfl
-- CycleChipModel.cycles()I
def p_Model_cycles (mv : Nat → Int32) (mvL : Nat → Int64) : Int32 := mv 2
set_option maxRecDepth 100000 in
set_option maxHeartbeats 4000000 in
theorem m_Model_cycles (l : Launch) (dC : Nat → ClassId) (dI : Nat → Nat → Nat) (tys : List (ClassId × FieldType)) (md : Nat → Nat) (mc : Nat → ClassId) (n : Nat) (hmys : ∀ k, k < 18 → tys[17 + k]? = some (mc k, mty k)) (mv : Nat → Int32) (mvL : Nat → Int64)  : cv_Mi l y_Model_cycles (Cond.code y_Model_cycles c_Model_cycles 1 (some .int) :: gw) { frames := 0, cells := 0, slots := 0, locals := 0 } (dC, dI) vwCl tys [.ref (md 0)] [k_Model (md 0) (md 1) (md 2) (md 3) (md 4) (md 5) (md 6) (md 7) (md 8) (md 9) (md 10) (md 11) (md 12) (md 13) (md 14) (md 15) (md 16) (md 17) (md 18) mv mvL] (p_Model_cycles mv mvL) (fun r => r) (fun r => [k_Model (md 0) (md 1) (md 2) (md 3) (md 4) (md 5) (md 6) (md 7) (md 8) (md 9) (md 10) (md 11) (md 12) (md 13) (md 14) (md 15) (md 16) (md 17) (md 18) mv mvL]) := by
  refine cv_starti (by decide) (Nat.le_of_ble_eq_true rfl) [(0, .ref (md 0))] rfl ?_
  intro p e s m below meth c A K hm
  refine cv_aload_n K 0 d_Model_cycles_0 rfl rfl ?_
  refine cv_get K d_Model_cycles_1 0 2 rfl rfl in_Model (by decide) tm_835 rfl ?_
  exact cv_reti K hm d_Model_cycles_4 (mv 2) (by rw [p_Model_cycles]) rfl rfl
-- CycleChipModel.traps()I
def p_Model_traps (mv : Nat → Int32) (mvL : Nat → Int64) : Int32 := mv 4
set_option maxRecDepth 100000 in
set_option maxHeartbeats 4000000 in
theorem m_Model_traps (l : Launch) (dC : Nat → ClassId) (dI : Nat → Nat → Nat) (tys : List (ClassId × FieldType)) (md : Nat → Nat) (mc : Nat → ClassId) (n : Nat) (hmys : ∀ k, k < 18 → tys[17 + k]? = some (mc k, mty k)) (mv : Nat → Int32) (mvL : Nat → Int64)  : cv_Mi l y_Model_traps (Cond.code y_Model_traps c_Model_traps 1 (some .int) :: gw) { frames := 0, cells := 0, slots := 0, locals := 0 } (dC, dI) vwCl tys [.ref (md 0)] [k_Model (md 0) (md 1) (md 2) (md 3) (md 4) (md 5) (md 6) (md 7) (md 8) (md 9) (md 10) (md 11) (md 12) (md 13) (md 14) (md 15) (md 16) (md 17) (md 18) mv mvL] (p_Model_traps mv mvL) (fun r => r) (fun r => [k_Model (md 0) (md 1) (md 2) (md 3) (md 4) (md 5) (md 6) (md 7) (md 8) (md 9) (md 10) (md 11) (md 12) (md 13) (md 14) (md 15) (md 16) (md 17) (md 18) mv mvL]) := by
  refine cv_starti (by decide) (Nat.le_of_ble_eq_true rfl) [(0, .ref (md 0))] rfl ?_
  intro p e s m below meth c A K hm
  refine cv_aload_n K 0 d_Model_traps_0 rfl rfl ?_
  refine cv_get K d_Model_traps_1 0 4 rfl rfl in_Model (by decide) tm_837 rfl ?_
  exact cv_reti K hm d_Model_traps_4 (mv 4) (by rw [p_Model_traps]) rfl rfl
-- CycleChipModel.stores()I
def p_Model_stores (mv : Nat → Int32) (mvL : Nat → Int64) : Int32 := mv 19
set_option maxRecDepth 100000 in
set_option maxHeartbeats 4000000 in
theorem m_Model_stores (l : Launch) (dC : Nat → ClassId) (dI : Nat → Nat → Nat) (tys : List (ClassId × FieldType)) (md : Nat → Nat) (mc : Nat → ClassId) (n : Nat) (hmys : ∀ k, k < 18 → tys[17 + k]? = some (mc k, mty k)) (mv : Nat → Int32) (mvL : Nat → Int64)  : cv_Mi l y_Model_stores (Cond.code y_Model_stores c_Model_stores 1 (some .int) :: gw) { frames := 0, cells := 0, slots := 0, locals := 0 } (dC, dI) vwCl tys [.ref (md 0)] [k_Model (md 0) (md 1) (md 2) (md 3) (md 4) (md 5) (md 6) (md 7) (md 8) (md 9) (md 10) (md 11) (md 12) (md 13) (md 14) (md 15) (md 16) (md 17) (md 18) mv mvL] (p_Model_stores mv mvL) (fun r => r) (fun r => [k_Model (md 0) (md 1) (md 2) (md 3) (md 4) (md 5) (md 6) (md 7) (md 8) (md 9) (md 10) (md 11) (md 12) (md 13) (md 14) (md 15) (md 16) (md 17) (md 18) mv mvL]) := by
  refine cv_starti (by decide) (Nat.le_of_ble_eq_true rfl) [(0, .ref (md 0))] rfl ?_
  intro p e s m below meth c A K hm
  refine cv_aload_n K 0 d_Model_stores_0 rfl rfl ?_
  refine cv_get K d_Model_stores_1 0 26 rfl rfl in_Model (by decide) tm_859 rfl ?_
  exact cv_reti K hm d_Model_stores_4 (mv 19) (by rw [p_Model_stores]) rfl rfl
-- CycleChipModel.bus()I
def p_Model_bus (mv : Nat → Int32) (mvL : Nat → Int64) : Int32 := mv 11
set_option maxRecDepth 100000 in
set_option maxHeartbeats 4000000 in
theorem m_Model_bus (l : Launch) (dC : Nat → ClassId) (dI : Nat → Nat → Nat) (tys : List (ClassId × FieldType)) (md : Nat → Nat) (mc : Nat → ClassId) (n : Nat) (hmys : ∀ k, k < 18 → tys[17 + k]? = some (mc k, mty k)) (mv : Nat → Int32) (mvL : Nat → Int64)  : cv_Mi l y_Model_bus (Cond.code y_Model_bus c_Model_bus 1 (some .int) :: gw) { frames := 0, cells := 0, slots := 0, locals := 0 } (dC, dI) vwCl tys [.ref (md 0)] [k_Model (md 0) (md 1) (md 2) (md 3) (md 4) (md 5) (md 6) (md 7) (md 8) (md 9) (md 10) (md 11) (md 12) (md 13) (md 14) (md 15) (md 16) (md 17) (md 18) mv mvL] (p_Model_bus mv mvL) (fun r => r) (fun r => [k_Model (md 0) (md 1) (md 2) (md 3) (md 4) (md 5) (md 6) (md 7) (md 8) (md 9) (md 10) (md 11) (md 12) (md 13) (md 14) (md 15) (md 16) (md 17) (md 18) mv mvL]) := by
  refine cv_starti (by decide) (Nat.le_of_ble_eq_true rfl) [(0, .ref (md 0))] rfl ?_
  intro p e s m below meth c A K hm
  refine cv_aload_n K 0 d_Model_bus_0 rfl rfl ?_
  refine cv_get K d_Model_bus_1 0 18 rfl rfl in_Model (by decide) tm_851 rfl ?_
  exact cv_reti K hm d_Model_bus_4 (mv 11) (by rw [p_Model_bus]) rfl rfl
-- CycleChipModel.queued(Z)I
def p_Model_queued (mv : Nat → Int32) (mvL : Nat → Int64) (z : Int32) : Int32 := if z = (0 : Int32) then mv 24 else mv 26
set_option maxRecDepth 100000 in
set_option maxHeartbeats 4000000 in
theorem m_Model_queued (l : Launch) (dC : Nat → ClassId) (dI : Nat → Nat → Nat) (tys : List (ClassId × FieldType)) (md : Nat → Nat) (mc : Nat → ClassId) (n : Nat) (hmys : ∀ k, k < 18 → tys[17 + k]? = some (mc k, mty k)) (mv : Nat → Int32) (mvL : Nat → Int64) (z : Int32)  : cv_Mi l y_Model_queued (Cond.code y_Model_queued c_Model_queued 2 (some .int) :: gw) { frames := 0, cells := 0, slots := 0, locals := 0 } (dC, dI) vwCl tys [.ref (md 0), .int z] [k_Model (md 0) (md 1) (md 2) (md 3) (md 4) (md 5) (md 6) (md 7) (md 8) (md 9) (md 10) (md 11) (md 12) (md 13) (md 14) (md 15) (md 16) (md 17) (md 18) mv mvL] (p_Model_queued mv mvL z) (fun r => r) (fun r => [k_Model (md 0) (md 1) (md 2) (md 3) (md 4) (md 5) (md 6) (md 7) (md 8) (md 9) (md 10) (md 11) (md 12) (md 13) (md 14) (md 15) (md 16) (md 17) (md 18) mv mvL]) := by
  refine cv_starti (by decide) (Nat.le_of_ble_eq_true rfl) [(0, .ref (md 0)), (1, .int z)] rfl ?_
  intro p e s m below meth c A K hm
  refine cv_iload_n K 1 d_Model_queued_0 rfl rfl ?_
  refine cv_if_eq K d_Model_queued_1 11 rfl (fun h1 => ?_) (fun h1 => ?_)
  · refine cv_aload_n K 0 d_Model_queued_11 rfl rfl ?_
    refine cv_get K d_Model_queued_12 0 42 rfl rfl in_Model (by decide) tm_875 rfl ?_
    exact cv_reti K hm d_Model_queued_15 (mv 24) (by rw [p_Model_queued, if_pos (c := z = (0 : Int32)) h1]) rfl rfl
  · refine cv_aload_n K 0 d_Model_queued_4 rfl rfl ?_
    refine cv_get K d_Model_queued_5 0 45 rfl rfl in_Model (by decide) tm_878 rfl ?_
    refine cv_goto K d_Model_queued_8 15 rfl ?_
    exact cv_reti K hm d_Model_queued_15 (mv 26) (by rw [p_Model_queued, if_neg (c := z = (0 : Int32)) h1]) rfl rfl
-- CycleChipModel.actCycle(I)I
def p_Model_actCycle_1 (mv : Nat → Int32) (mvL : Nat → Int64) (m_lastCycle : Nat → Int32) (k : Int32) (r1 : Int32) : Int32 := if r1 = (0 : Int32) then (-1 : Int32) else if (mv 3) ≤ k then (-1 : Int32) else m_lastCycle ((((mv 3) - (1 : Int32)) - k) - (((mv 3) - (1 : Int32)) - k) / (16 : Int32) * (16 : Int32)).toNatClampNeg
def p_Model_actCycle (mv : Nat → Int32) (mvL : Nat → Int64) (m_lastCycle : Nat → Int32) (k : Int32) : Int32 := p_Model_actCycle_1 mv mvL m_lastCycle k (p_Model_in k (0 : Int32) (15 : Int32))
set_option maxRecDepth 100000 in
set_option maxHeartbeats 4000000 in
theorem m_Model_actCycle (l : Launch) (dC : Nat → ClassId) (dI : Nat → Nat → Nat) (tys : List (ClassId × FieldType)) (md : Nat → Nat) (mc : Nat → ClassId) (n : Nat) (hmys : ∀ k, k < 18 → tys[17 + k]? = some (mc k, mty k)) (mv : Nat → Int32) (mvL : Nat → Int64) (m_lastCycle : Nat → Int32) (k : Int32) (hac : ∃ a : Nat, a < 2 ^ 30 ∧ mv 3 = nI a) : cv_Mi l y_Model_actCycle (Cond.code y_Model_actCycle c_Model_actCycle 2 (some .int) :: gw) { frames := 1, cells := 0, slots := 0, locals := 22 } (dC, dI) vwCl tys [.ref (md 0), .int k] [k_Model (md 0) (md 1) (md 2) (md 3) (md 4) (md 5) (md 6) (md 7) (md 8) (md 9) (md 10) (md 11) (md 12) (md 13) (md 14) (md 15) (md 16) (md 17) (md 18) mv mvL, k_arr (md 1) (mc 0) 16 m_lastCycle] (p_Model_actCycle mv mvL m_lastCycle k) (fun r => r) (fun r => [k_Model (md 0) (md 1) (md 2) (md 3) (md 4) (md 5) (md 6) (md 7) (md 8) (md 9) (md 10) (md 11) (md 12) (md 13) (md 14) (md 15) (md 16) (md 17) (md 18) mv mvL, k_arr (md 1) (mc 0) 16 m_lastCycle]) := by
  refine cv_starti (by decide) (Nat.le_of_ble_eq_true rfl) [(0, .ref (md 0)), (1, .int k)] rfl ?_
  intro p e s m below meth c A K hm
  refine cv_iload_n K 1 d_Model_actCycle_0 rfl rfl ?_
  refine cv_iconst (v := 0) K d_Model_actCycle_1 rfl ?_
  refine cv_bipush (v := 15) K d_Model_actCycle_2 (by decide +kernel) ?_
  refine cv_callSz K (m_Model_in l dC dI tys k (0 : Int32) (15 : Int32)) d_Model_actCycle_4 (cw_S (n := 3) K.2.2.2.2.1 tm_999 tm_1000 tm_15 tm_1001 rfl rfl (wd_of (by decide +kernel) (by decide +kernel)) ⟨Nat.le_of_ble_eq_true rfl, Nat.le_of_ble_eq_true rfl⟩) [] rfl rfl (fun _ => rfl) rfl rfl (Nat.le_of_ble_eq_true rfl) (Nat.zero_le _) (Nat.zero_le _) (fun r1 hr1 => ?_)
  refine cv_norm [k_Model (md 0) (md 1) (md 2) (md 3) (md 4) (md 5) (md 6) (md 7) (md 8) (md 9) (md 10) (md 11) (md 12) (md 13) (md 14) (md 15) (md 16) (md 17) (md 18) mv mvL, k_arr (md 1) (mc 0) 16 m_lastCycle] rfl ?_
  refine cv_if_eq K d_Model_actCycle_7 37 rfl (fun h1 => ?_) (fun h1 => ?_)
  · refine cv_iconst (v := (-1)) K d_Model_actCycle_37 rfl ?_
    exact cv_reti K hm d_Model_actCycle_38 ((-1 : Int32)) (by rw [p_Model_actCycle, ← hr1, p_Model_actCycle_1, if_pos (c := r1 = (0 : Int32)) h1]) rfl rfl
  · refine cv_iload_n K 1 d_Model_actCycle_10 rfl rfl ?_
    refine cv_aload_n K 0 d_Model_actCycle_11 rfl rfl ?_
    refine cv_get K d_Model_actCycle_12 0 3 rfl rfl in_Model (by decide) tm_836 rfl ?_
    refine cv_icmp_ge K d_Model_actCycle_15 37 rfl (fun h2 => ?_) (fun h2 => ?_)
    · refine cv_iconst (v := (-1)) K d_Model_actCycle_37 rfl ?_
      exact cv_reti K hm d_Model_actCycle_38 ((-1 : Int32)) (by rw [p_Model_actCycle, ← hr1, p_Model_actCycle_1, if_neg (c := r1 = (0 : Int32)) h1, if_pos (c := (mv 3) ≤ k) h2]) rfl rfl
    · refine cv_aload_n K 0 d_Model_actCycle_18 rfl rfl ?_
      refine cv_get K d_Model_actCycle_19 0 5 rfl rfl in_Model (by decide) tm_838 rfl ?_
      refine cv_aload_n K 0 d_Model_actCycle_22 rfl rfl ?_
      refine cv_get K d_Model_actCycle_23 0 3 rfl rfl in_Model (by decide) tm_836 rfl ?_
      refine cv_iconst (v := 1) K d_Model_actCycle_26 rfl ?_
      refine cv_isub K d_Model_actCycle_27 ?_
      refine cv_iload_n K 1 d_Model_actCycle_28 rfl rfl ?_
      refine cv_isub K d_Model_actCycle_29 ?_
      refine cv_bipush (v := 16) K d_Model_actCycle_30 (by decide +kernel) ?_
      refine cv_irem K d_Model_actCycle_32 (by decide) ?_
      refine cv_iald K d_Model_actCycle_33 1 17 rfl (hmys 0 (by decide)) (mi_back hac (in_0 (n := 15) rfl hr1 h1) h2) ?_
      refine cv_goto K d_Model_actCycle_34 38 rfl ?_
      exact cv_reti K hm d_Model_actCycle_38 (m_lastCycle ((((mv 3) - (1 : Int32)) - k) - (((mv 3) - (1 : Int32)) - k) / (16 : Int32) * (16 : Int32)).toNatClampNeg) (by rw [p_Model_actCycle, ← hr1, p_Model_actCycle_1, if_neg (c := r1 = (0 : Int32)) h1, if_neg (c := (mv 3) ≤ k) h2]) rfl rfl
-- CycleChipModel.actAddress(I)I
def p_Model_actAddress_1 (mv : Nat → Int32) (mvL : Nat → Int64) (m_lastAddress : Nat → Int32) (k : Int32) (r1 : Int32) : Int32 := if r1 = (0 : Int32) then (-1 : Int32) else if (mv 3) ≤ k then (-1 : Int32) else m_lastAddress ((((mv 3) - (1 : Int32)) - k) - (((mv 3) - (1 : Int32)) - k) / (16 : Int32) * (16 : Int32)).toNatClampNeg
def p_Model_actAddress (mv : Nat → Int32) (mvL : Nat → Int64) (m_lastAddress : Nat → Int32) (k : Int32) : Int32 := p_Model_actAddress_1 mv mvL m_lastAddress k (p_Model_in k (0 : Int32) (15 : Int32))
set_option maxRecDepth 100000 in
set_option maxHeartbeats 4000000 in
theorem m_Model_actAddress (l : Launch) (dC : Nat → ClassId) (dI : Nat → Nat → Nat) (tys : List (ClassId × FieldType)) (md : Nat → Nat) (mc : Nat → ClassId) (n : Nat) (hmys : ∀ k, k < 18 → tys[17 + k]? = some (mc k, mty k)) (mv : Nat → Int32) (mvL : Nat → Int64) (m_lastAddress : Nat → Int32) (k : Int32) (hac : ∃ a : Nat, a < 2 ^ 30 ∧ mv 3 = nI a) : cv_Mi l y_Model_actAddress (Cond.code y_Model_actAddress c_Model_actAddress 2 (some .int) :: gw) { frames := 1, cells := 0, slots := 0, locals := 22 } (dC, dI) vwCl tys [.ref (md 0), .int k] [k_Model (md 0) (md 1) (md 2) (md 3) (md 4) (md 5) (md 6) (md 7) (md 8) (md 9) (md 10) (md 11) (md 12) (md 13) (md 14) (md 15) (md 16) (md 17) (md 18) mv mvL, k_arr (md 2) (mc 1) 16 m_lastAddress] (p_Model_actAddress mv mvL m_lastAddress k) (fun r => r) (fun r => [k_Model (md 0) (md 1) (md 2) (md 3) (md 4) (md 5) (md 6) (md 7) (md 8) (md 9) (md 10) (md 11) (md 12) (md 13) (md 14) (md 15) (md 16) (md 17) (md 18) mv mvL, k_arr (md 2) (mc 1) 16 m_lastAddress]) := by
  refine cv_starti (by decide) (Nat.le_of_ble_eq_true rfl) [(0, .ref (md 0)), (1, .int k)] rfl ?_
  intro p e s m below meth c A K hm
  refine cv_iload_n K 1 d_Model_actAddress_0 rfl rfl ?_
  refine cv_iconst (v := 0) K d_Model_actAddress_1 rfl ?_
  refine cv_bipush (v := 15) K d_Model_actAddress_2 (by decide +kernel) ?_
  refine cv_callSz K (m_Model_in l dC dI tys k (0 : Int32) (15 : Int32)) d_Model_actAddress_4 (cw_S (n := 3) K.2.2.2.2.1 tm_999 tm_1000 tm_15 tm_1001 rfl rfl (wd_of (by decide +kernel) (by decide +kernel)) ⟨Nat.le_of_ble_eq_true rfl, Nat.le_of_ble_eq_true rfl⟩) [] rfl rfl (fun _ => rfl) rfl rfl (Nat.le_of_ble_eq_true rfl) (Nat.zero_le _) (Nat.zero_le _) (fun r1 hr1 => ?_)
  refine cv_norm [k_Model (md 0) (md 1) (md 2) (md 3) (md 4) (md 5) (md 6) (md 7) (md 8) (md 9) (md 10) (md 11) (md 12) (md 13) (md 14) (md 15) (md 16) (md 17) (md 18) mv mvL, k_arr (md 2) (mc 1) 16 m_lastAddress] rfl ?_
  refine cv_if_eq K d_Model_actAddress_7 37 rfl (fun h1 => ?_) (fun h1 => ?_)
  · refine cv_iconst (v := (-1)) K d_Model_actAddress_37 rfl ?_
    exact cv_reti K hm d_Model_actAddress_38 ((-1 : Int32)) (by rw [p_Model_actAddress, ← hr1, p_Model_actAddress_1, if_pos (c := r1 = (0 : Int32)) h1]) rfl rfl
  · refine cv_iload_n K 1 d_Model_actAddress_10 rfl rfl ?_
    refine cv_aload_n K 0 d_Model_actAddress_11 rfl rfl ?_
    refine cv_get K d_Model_actAddress_12 0 3 rfl rfl in_Model (by decide) tm_836 rfl ?_
    refine cv_icmp_ge K d_Model_actAddress_15 37 rfl (fun h2 => ?_) (fun h2 => ?_)
    · refine cv_iconst (v := (-1)) K d_Model_actAddress_37 rfl ?_
      exact cv_reti K hm d_Model_actAddress_38 ((-1 : Int32)) (by rw [p_Model_actAddress, ← hr1, p_Model_actAddress_1, if_neg (c := r1 = (0 : Int32)) h1, if_pos (c := (mv 3) ≤ k) h2]) rfl rfl
    · refine cv_aload_n K 0 d_Model_actAddress_18 rfl rfl ?_
      refine cv_get K d_Model_actAddress_19 0 6 rfl rfl in_Model (by decide) tm_839 rfl ?_
      refine cv_aload_n K 0 d_Model_actAddress_22 rfl rfl ?_
      refine cv_get K d_Model_actAddress_23 0 3 rfl rfl in_Model (by decide) tm_836 rfl ?_
      refine cv_iconst (v := 1) K d_Model_actAddress_26 rfl ?_
      refine cv_isub K d_Model_actAddress_27 ?_
      refine cv_iload_n K 1 d_Model_actAddress_28 rfl rfl ?_
      refine cv_isub K d_Model_actAddress_29 ?_
      refine cv_bipush (v := 16) K d_Model_actAddress_30 (by decide +kernel) ?_
      refine cv_irem K d_Model_actAddress_32 (by decide) ?_
      refine cv_iald K d_Model_actAddress_33 1 18 rfl (hmys 1 (by decide)) (mi_back hac (in_0 (n := 15) rfl hr1 h1) h2) ?_
      refine cv_goto K d_Model_actAddress_34 38 rfl ?_
      exact cv_reti K hm d_Model_actAddress_38 (m_lastAddress ((((mv 3) - (1 : Int32)) - k) - (((mv 3) - (1 : Int32)) - k) / (16 : Int32) * (16 : Int32)).toNatClampNeg) (by rw [p_Model_actAddress, ← hr1, p_Model_actAddress_1, if_neg (c := r1 = (0 : Int32)) h1, if_neg (c := (mv 3) ≤ k) h2]) rfl rfl
-- CycleChipModel.sent(I)J
def p_Model_sent_1 (mv : Nat → Int32) (mvL : Nat → Int64) (m_out : Nat → Int64) (k : Int32) (r1 : Int32) : Int64 := if r1 = (0 : Int32) then (-1 : Int64) else if (mv 32) ≤ k then (-1 : Int64) else m_out ((((mv 32) - (1 : Int32)) - k) - (((mv 32) - (1 : Int32)) - k) / (16 : Int32) * (16 : Int32)).toNatClampNeg
def p_Model_sent (mv : Nat → Int32) (mvL : Nat → Int64) (m_out : Nat → Int64) (k : Int32) : Int64 := if k = (-1 : Int32) then (mv 32).toInt64 else p_Model_sent_1 mv mvL m_out k (p_Model_in k (0 : Int32) (15 : Int32))
set_option maxRecDepth 100000 in
set_option maxHeartbeats 4000000 in
theorem m_Model_sent (l : Launch) (dC : Nat → ClassId) (dI : Nat → Nat → Nat) (tys : List (ClassId × FieldType)) (md : Nat → Nat) (mc : Nat → ClassId) (n : Nat) (hmys : ∀ k, k < 18 → tys[17 + k]? = some (mc k, mty k)) (mv : Nat → Int32) (mvL : Nat → Int64) (m_out : Nat → Int64) (k : Int32) (hoc : ∃ a : Nat, a < 2 ^ 30 ∧ mv 32 = nI a) : cv_Ml l y_Model_sent (Cond.code y_Model_sent c_Model_sent 2 (some .long) :: gw) { frames := 1, cells := 0, slots := 0, locals := 22 } (dC, dI) vwCl tys [.ref (md 0), .int k] [k_Model (md 0) (md 1) (md 2) (md 3) (md 4) (md 5) (md 6) (md 7) (md 8) (md 9) (md 10) (md 11) (md 12) (md 13) (md 14) (md 15) (md 16) (md 17) (md 18) mv mvL, k_arrL (md 18) (mc 17) 16 m_out] (p_Model_sent mv mvL m_out k) (fun r => r) (fun r => [k_Model (md 0) (md 1) (md 2) (md 3) (md 4) (md 5) (md 6) (md 7) (md 8) (md 9) (md 10) (md 11) (md 12) (md 13) (md 14) (md 15) (md 16) (md 17) (md 18) mv mvL, k_arrL (md 18) (mc 17) 16 m_out]) := by
  refine cv_startl (by decide) (Nat.le_of_ble_eq_true rfl) [(0, .ref (md 0)), (1, .int k)] rfl ?_
  intro p e s m below meth c A K hm
  refine cv_iload_n K 1 d_Model_sent_0 rfl rfl ?_
  refine cv_iconst (v := (-1)) K d_Model_sent_1 rfl ?_
  refine cv_icmp_ne K d_Model_sent_2 11 rfl (fun h1 => ?_) (fun h1 => ?_)
  · refine cv_iload_n K 1 d_Model_sent_11 rfl rfl ?_
    refine cv_iconst (v := 0) K d_Model_sent_12 rfl ?_
    refine cv_bipush (v := 15) K d_Model_sent_13 (by decide +kernel) ?_
    refine cv_callSz K (m_Model_in l dC dI tys k (0 : Int32) (15 : Int32)) d_Model_sent_15 (cw_S (n := 3) K.2.2.2.2.1 tm_999 tm_1000 tm_15 tm_1001 rfl rfl (wd_of (by decide +kernel) (by decide +kernel)) ⟨Nat.le_of_ble_eq_true rfl, Nat.le_of_ble_eq_true rfl⟩) [] rfl rfl (fun _ => rfl) rfl rfl (Nat.le_of_ble_eq_true rfl) (Nat.zero_le _) (Nat.zero_le _) (fun r1 hr1 => ?_)
    refine cv_norm [k_Model (md 0) (md 1) (md 2) (md 3) (md 4) (md 5) (md 6) (md 7) (md 8) (md 9) (md 10) (md 11) (md 12) (md 13) (md 14) (md 15) (md 16) (md 17) (md 18) mv mvL, k_arrL (md 18) (mc 17) 16 m_out] rfl ?_
    refine cv_if_eq K d_Model_sent_18 48 rfl (fun h2 => ?_) (fun h2 => ?_)
    · refine cv_ldc2 (v := (-1)) K d_Model_sent_48 tm_832 ?_
      exact cv_retl K hm d_Model_sent_51 ((-1 : Int64)) (by rw [p_Model_sent, if_neg (c := k = (-1 : Int32)) h1, ← hr1, p_Model_sent_1, if_pos (c := r1 = (0 : Int32)) h2]) rfl rfl
    · refine cv_iload_n K 1 d_Model_sent_21 rfl rfl ?_
      refine cv_aload_n K 0 d_Model_sent_22 rfl rfl ?_
      refine cv_get K d_Model_sent_23 0 51 rfl rfl in_Model (by decide) tm_884 rfl ?_
      refine cv_icmp_ge K d_Model_sent_26 48 rfl (fun h3 => ?_) (fun h3 => ?_)
      · refine cv_ldc2 (v := (-1)) K d_Model_sent_48 tm_832 ?_
        exact cv_retl K hm d_Model_sent_51 ((-1 : Int64)) (by rw [p_Model_sent, if_neg (c := k = (-1 : Int32)) h1, ← hr1, p_Model_sent_1, if_neg (c := r1 = (0 : Int32)) h2, if_pos (c := (mv 32) ≤ k) h3]) rfl rfl
      · refine cv_aload_n K 0 d_Model_sent_29 rfl rfl ?_
        refine cv_get K d_Model_sent_30 0 52 rfl rfl in_Model (by decide) tm_885 rfl ?_
        refine cv_aload_n K 0 d_Model_sent_33 rfl rfl ?_
        refine cv_get K d_Model_sent_34 0 51 rfl rfl in_Model (by decide) tm_884 rfl ?_
        refine cv_iconst (v := 1) K d_Model_sent_37 rfl ?_
        refine cv_isub K d_Model_sent_38 ?_
        refine cv_iload_n K 1 d_Model_sent_39 rfl rfl ?_
        refine cv_isub K d_Model_sent_40 ?_
        refine cv_bipush (v := 16) K d_Model_sent_41 (by decide +kernel) ?_
        refine cv_irem K d_Model_sent_43 (by decide) ?_
        refine cv_lald K d_Model_sent_44 1 34 rfl (hmys 17 (by decide)) (mi_back hoc (in_0 (n := 15) rfl hr1 h2) h3) ?_
        refine cv_goto K d_Model_sent_45 51 rfl ?_
        exact cv_retl K hm d_Model_sent_51 (m_out ((((mv 32) - (1 : Int32)) - k) - (((mv 32) - (1 : Int32)) - k) / (16 : Int32) * (16 : Int32)).toNatClampNeg) (by rw [p_Model_sent, if_neg (c := k = (-1 : Int32)) h1, ← hr1, p_Model_sent_1, if_neg (c := r1 = (0 : Int32)) h2, if_neg (c := (mv 32) ≤ k) h3]) rfl rfl
  · refine cv_aload_n K 0 d_Model_sent_5 rfl rfl ?_
    refine cv_get K d_Model_sent_6 0 51 rfl rfl in_Model (by decide) tm_884 rfl ?_
    refine cv_i2l K d_Model_sent_9 rfl ?_
    exact cv_retl K hm d_Model_sent_10 ((mv 32).toInt64) (by rw [p_Model_sent, if_pos (c := k = (-1 : Int32)) h1]) rfl rfl
-- CycleChipModel.plan(III)Z
def p_Model_plan_2 (mv : Nat → Int32) (mvL : Nat → Int64) (m_planCycle : Nat → Int32) (m_planWhat : Nat → Int32) (m_planValue : Nat → Int32) (k : Int32) (x : Int32) (y : Int32) (r1 : Int32) (r2 : Int32) : Int32 × (Nat → Int32) × (Nat → Int32) × (Nat → Int32) × (Nat → Int32) := if r2 = (0 : Int32) then ((0 : Int32), mv, m_planCycle, m_planWhat, m_planValue) else if x = (1 : Int32) then ((0 : Int32), mv, m_planCycle, m_planWhat, m_planValue) else if (mv 20) = (16 : Int32) then ((0 : Int32), mv, m_planCycle, m_planWhat, m_planValue) else ((1 : Int32), (upd mv 20 ((mv 20) + (1 : Int32))), (upd m_planCycle ((mv 20).toNatClampNeg) ((mv 2) + k)), (upd m_planWhat ((mv 20).toNatClampNeg) x), (upd m_planValue ((mv 20).toNatClampNeg) y))
def p_Model_plan_1 (mv : Nat → Int32) (mvL : Nat → Int64) (m_planCycle : Nat → Int32) (m_planWhat : Nat → Int32) (m_planValue : Nat → Int32) (k : Int32) (x : Int32) (y : Int32) (r1 : Int32) : Int32 × (Nat → Int32) × (Nat → Int32) × (Nat → Int32) × (Nat → Int32) := if r1 = (0 : Int32) then ((0 : Int32), mv, m_planCycle, m_planWhat, m_planValue) else p_Model_plan_2 mv mvL m_planCycle m_planWhat m_planValue k x y r1 (p_Model_in x (0 : Int32) (7 : Int32))
def p_Model_plan (mv : Nat → Int32) (mvL : Nat → Int64) (m_planCycle : Nat → Int32) (m_planWhat : Nat → Int32) (m_planValue : Nat → Int32) (k : Int32) (x : Int32) (y : Int32) : Int32 × (Nat → Int32) × (Nat → Int32) × (Nat → Int32) × (Nat → Int32) := p_Model_plan_1 mv mvL m_planCycle m_planWhat m_planValue k x y (p_Model_in k (0 : Int32) (2000 : Int32))
set_option maxRecDepth 100000 in
set_option maxHeartbeats 4000000 in
theorem m_Model_plan (l : Launch) (dC : Nat → ClassId) (dI : Nat → Nat → Nat) (tys : List (ClassId × FieldType)) (md : Nat → Nat) (mc : Nat → ClassId) (n : Nat) (hmys : ∀ k, k < 18 → tys[17 + k]? = some (mc k, mty k)) (mv : Nat → Int32) (mvL : Nat → Int64) (m_planCycle : Nat → Int32) (m_planWhat : Nat → Int32) (m_planValue : Nat → Int32) (k : Int32) (x : Int32) (y : Int32) (hpl : ∃ k : Nat, k ≤ 16 ∧ mv 20 = nI k) : cv_Mz l y_Model_plan (Cond.code y_Model_plan c_Model_plan 4 (some .boolean) :: gw) { frames := 1, cells := 0, slots := 0, locals := 22 } (dC, dI) vwCl tys [.ref (md 0), .int k, .int x, .int y] [k_Model (md 0) (md 1) (md 2) (md 3) (md 4) (md 5) (md 6) (md 7) (md 8) (md 9) (md 10) (md 11) (md 12) (md 13) (md 14) (md 15) (md 16) (md 17) (md 18) mv mvL, k_arr (md 10) (mc 9) 16 m_planCycle, k_arr (md 11) (mc 10) 16 m_planWhat, k_arr (md 12) (mc 11) 16 m_planValue] (p_Model_plan mv mvL m_planCycle m_planWhat m_planValue k x y) (fun r => r.1) (fun r => [k_Model (md 0) (md 1) (md 2) (md 3) (md 4) (md 5) (md 6) (md 7) (md 8) (md 9) (md 10) (md 11) (md 12) (md 13) (md 14) (md 15) (md 16) (md 17) (md 18) r.2.1 mvL, k_arr (md 10) (mc 9) 16 r.2.2.1, k_arr (md 11) (mc 10) 16 r.2.2.2.1, k_arr (md 12) (mc 11) 16 r.2.2.2.2]) := by
  refine cv_startz (by decide) (Nat.le_of_ble_eq_true rfl) [(0, .ref (md 0)), (1, .int k), (2, .int x), (3, .int y)] rfl ?_
  intro p e s m below meth c A K hm
  refine cv_iload_n K 1 d_Model_plan_0 rfl rfl ?_
  refine cv_iconst (v := 0) K d_Model_plan_1 rfl ?_
  refine cv_sipush (v := 2000) K d_Model_plan_2 (by decide +kernel) ?_
  refine cv_callSz K (m_Model_in l dC dI tys k (0 : Int32) (2000 : Int32)) d_Model_plan_5 (cw_S (n := 3) K.2.2.2.2.1 tm_999 tm_1000 tm_15 tm_1001 rfl rfl (wd_of (by decide +kernel) (by decide +kernel)) ⟨Nat.le_of_ble_eq_true rfl, Nat.le_of_ble_eq_true rfl⟩) [] rfl rfl (fun _ => rfl) rfl rfl (Nat.le_of_ble_eq_true rfl) (Nat.zero_le _) (Nat.zero_le _) (fun r1 hr1 => ?_)
  refine cv_norm [k_Model (md 0) (md 1) (md 2) (md 3) (md 4) (md 5) (md 6) (md 7) (md 8) (md 9) (md 10) (md 11) (md 12) (md 13) (md 14) (md 15) (md 16) (md 17) (md 18) mv mvL, k_arr (md 10) (mc 9) 16 m_planCycle, k_arr (md 11) (mc 10) 16 m_planWhat, k_arr (md 12) (mc 11) 16 m_planValue] rfl ?_
  refine cv_if_eq K d_Model_plan_8 35 rfl (fun h1 => ?_) (fun h1 => ?_)
  · refine cv_iconst (v := 0) K d_Model_plan_35 rfl ?_
    exact cv_retz K hm d_Model_plan_36 (((0 : Int32), mv, m_planCycle, m_planWhat, m_planValue)) (by rw [p_Model_plan, ← hr1, p_Model_plan_1, if_pos (c := r1 = (0 : Int32)) h1]) rfl rfl rfl
  · refine cv_iload_n K 2 d_Model_plan_11 rfl rfl ?_
    refine cv_iconst (v := 0) K d_Model_plan_12 rfl ?_
    refine cv_bipush (v := 7) K d_Model_plan_13 (by decide +kernel) ?_
    refine cv_callSz K (m_Model_in l dC dI tys x (0 : Int32) (7 : Int32)) d_Model_plan_15 (cw_S (n := 3) K.2.2.2.2.1 tm_999 tm_1000 tm_15 tm_1001 rfl rfl (wd_of (by decide +kernel) (by decide +kernel)) ⟨Nat.le_of_ble_eq_true rfl, Nat.le_of_ble_eq_true rfl⟩) [] rfl rfl (fun _ => rfl) rfl rfl (Nat.le_of_ble_eq_true rfl) (Nat.zero_le _) (Nat.zero_le _) (fun r2 hr2 => ?_)
    refine cv_norm [k_Model (md 0) (md 1) (md 2) (md 3) (md 4) (md 5) (md 6) (md 7) (md 8) (md 9) (md 10) (md 11) (md 12) (md 13) (md 14) (md 15) (md 16) (md 17) (md 18) mv mvL, k_arr (md 10) (mc 9) 16 m_planCycle, k_arr (md 11) (mc 10) 16 m_planWhat, k_arr (md 12) (mc 11) 16 m_planValue] rfl ?_
    refine cv_if_eq K d_Model_plan_18 35 rfl (fun h2 => ?_) (fun h2 => ?_)
    · refine cv_iconst (v := 0) K d_Model_plan_35 rfl ?_
      exact cv_retz K hm d_Model_plan_36 (((0 : Int32), mv, m_planCycle, m_planWhat, m_planValue)) (by rw [p_Model_plan, ← hr1, p_Model_plan_1, if_neg (c := r1 = (0 : Int32)) h1, ← hr2, p_Model_plan_2, if_pos (c := r2 = (0 : Int32)) h2]) rfl rfl rfl
    · refine cv_iload_n K 2 d_Model_plan_21 rfl rfl ?_
      refine cv_iconst (v := 1) K d_Model_plan_22 rfl ?_
      refine cv_icmp_eq K d_Model_plan_23 35 rfl (fun h3 => ?_) (fun h3 => ?_)
      · refine cv_iconst (v := 0) K d_Model_plan_35 rfl ?_
        exact cv_retz K hm d_Model_plan_36 (((0 : Int32), mv, m_planCycle, m_planWhat, m_planValue)) (by rw [p_Model_plan, ← hr1, p_Model_plan_1, if_neg (c := r1 = (0 : Int32)) h1, ← hr2, p_Model_plan_2, if_neg (c := r2 = (0 : Int32)) h2, if_pos (c := x = (1 : Int32)) h3]) rfl rfl rfl
      · refine cv_aload_n K 0 d_Model_plan_26 rfl rfl ?_
        refine cv_get K d_Model_plan_27 0 29 rfl rfl in_Model (by decide) tm_862 rfl ?_
        refine cv_bipush (v := 16) K d_Model_plan_30 (by decide +kernel) ?_
        refine cv_icmp_ne K d_Model_plan_32 37 rfl (fun h4 => ?_) (fun h4 => ?_)
        · refine cv_aload_n K 0 d_Model_plan_37 rfl rfl ?_
          refine cv_get K d_Model_plan_38 0 30 rfl rfl in_Model (by decide) tm_863 rfl ?_
          refine cv_aload_n K 0 d_Model_plan_41 rfl rfl ?_
          refine cv_get K d_Model_plan_42 0 29 rfl rfl in_Model (by decide) tm_862 rfl ?_
          refine cv_aload_n K 0 d_Model_plan_45 rfl rfl ?_
          refine cv_get K d_Model_plan_46 0 2 rfl rfl in_Model (by decide) tm_835 rfl ?_
          refine cv_iload_n K 1 d_Model_plan_49 rfl rfl ?_
          refine cv_iadd K d_Model_plan_50 ?_
          refine cv_iast K d_Model_plan_51 [k_Model (md 0) (md 1) (md 2) (md 3) (md 4) (md 5) (md 6) (md 7) (md 8) (md 9) (md 10) (md 11) (md 12) (md 13) (md 14) (md 15) (md 16) (md 17) (md 18) mv mvL, k_arr (md 10) (mc 9) 16 (upd m_planCycle ((mv 20).toNatClampNeg) ((mv 2) + k)), k_arr (md 11) (mc 10) 16 m_planWhat, k_arr (md 12) (mc 11) 16 m_planValue] 1 26 rfl (hmys 9 (by decide)) (mi_16 hpl h4) rfl ?_
          refine cv_aload_n K 0 d_Model_plan_52 rfl rfl ?_
          refine cv_get K d_Model_plan_53 0 31 rfl rfl in_Model (by decide) tm_864 rfl ?_
          refine cv_aload_n K 0 d_Model_plan_56 rfl rfl ?_
          refine cv_get K d_Model_plan_57 0 29 rfl rfl in_Model (by decide) tm_862 rfl ?_
          refine cv_iload_n K 2 d_Model_plan_60 rfl rfl ?_
          refine cv_iast K d_Model_plan_61 [k_Model (md 0) (md 1) (md 2) (md 3) (md 4) (md 5) (md 6) (md 7) (md 8) (md 9) (md 10) (md 11) (md 12) (md 13) (md 14) (md 15) (md 16) (md 17) (md 18) mv mvL, k_arr (md 10) (mc 9) 16 (upd m_planCycle ((mv 20).toNatClampNeg) ((mv 2) + k)), k_arr (md 11) (mc 10) 16 (upd m_planWhat ((mv 20).toNatClampNeg) x), k_arr (md 12) (mc 11) 16 m_planValue] 2 27 rfl (hmys 10 (by decide)) (mi_16 hpl h4) rfl ?_
          refine cv_aload_n K 0 d_Model_plan_62 rfl rfl ?_
          refine cv_get K d_Model_plan_63 0 32 rfl rfl in_Model (by decide) tm_865 rfl ?_
          refine cv_aload_n K 0 d_Model_plan_66 rfl rfl ?_
          refine cv_get K d_Model_plan_67 0 29 rfl rfl in_Model (by decide) tm_862 rfl ?_
          refine cv_iload_n K 3 d_Model_plan_70 rfl rfl ?_
          refine cv_iast K d_Model_plan_71 [k_Model (md 0) (md 1) (md 2) (md 3) (md 4) (md 5) (md 6) (md 7) (md 8) (md 9) (md 10) (md 11) (md 12) (md 13) (md 14) (md 15) (md 16) (md 17) (md 18) mv mvL, k_arr (md 10) (mc 9) 16 (upd m_planCycle ((mv 20).toNatClampNeg) ((mv 2) + k)), k_arr (md 11) (mc 10) 16 (upd m_planWhat ((mv 20).toNatClampNeg) x), k_arr (md 12) (mc 11) 16 (upd m_planValue ((mv 20).toNatClampNeg) y)] 3 28 rfl (hmys 11 (by decide)) (mi_16 hpl h4) rfl ?_
          refine cv_aload_n K 0 d_Model_plan_72 rfl rfl ?_
          refine cv_dup K d_Model_plan_73 rfl ?_
          refine cv_get K d_Model_plan_74 0 29 rfl rfl in_Model (by decide) tm_862 rfl ?_
          refine cv_iconst (v := 1) K d_Model_plan_77 rfl ?_
          refine cv_iadd K d_Model_plan_78 ?_
          refine cv_put K d_Model_plan_79 [k_Model (md 0) (md 1) (md 2) (md 3) (md 4) (md 5) (md 6) (md 7) (md 8) (md 9) (md 10) (md 11) (md 12) (md 13) (md 14) (md 15) (md 16) (md 17) (md 18) (upd mv 20 ((mv 20) + (1 : Int32))) mvL, k_arr (md 10) (mc 9) 16 (upd m_planCycle ((mv 20).toNatClampNeg) ((mv 2) + k)), k_arr (md 11) (mc 10) 16 (upd m_planWhat ((mv 20).toNatClampNeg) x), k_arr (md 12) (mc 11) 16 (upd m_planValue ((mv 20).toNatClampNeg) y)] 0 29 rfl rfl in_Model t_Model o_Model n_Model (by decide) tm_862 rfl rfl rfl (Nat.le_of_ble_eq_true rfl) rfl ?_
          refine cv_iconst (v := 1) K d_Model_plan_82 rfl ?_
          exact cv_retz K hm d_Model_plan_83 (((1 : Int32), (upd mv 20 ((mv 20) + (1 : Int32))), (upd m_planCycle ((mv 20).toNatClampNeg) ((mv 2) + k)), (upd m_planWhat ((mv 20).toNatClampNeg) x), (upd m_planValue ((mv 20).toNatClampNeg) y))) (by rw [p_Model_plan, ← hr1, p_Model_plan_1, if_neg (c := r1 = (0 : Int32)) h1, ← hr2, p_Model_plan_2, if_neg (c := r2 = (0 : Int32)) h2, if_neg (c := x = (1 : Int32)) h3, if_neg (c := (mv 20) = (16 : Int32)) h4]) rfl rfl rfl
        · refine cv_iconst (v := 0) K d_Model_plan_35 rfl ?_
          exact cv_retz K hm d_Model_plan_36 (((0 : Int32), mv, m_planCycle, m_planWhat, m_planValue)) (by rw [p_Model_plan, ← hr1, p_Model_plan_1, if_neg (c := r1 = (0 : Int32)) h1, ← hr2, p_Model_plan_2, if_neg (c := r2 = (0 : Int32)) h2, if_neg (c := x = (1 : Int32)) h3, if_pos (c := (mv 20) = (16 : Int32)) h4]) rfl rfl rfl
