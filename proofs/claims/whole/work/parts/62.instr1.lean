theorem br_M {f : Int32} (hf : f = 0 ∨ f = 1 ∨ f = 4 ∨ f = 5 ∨ f = 6 ∨ f = 7) (mv : Nat → Int32) (mvL : Nat → Int64) (lc la reg sp : Nat → Int32) (w x y : Int32) : p_Model_branch mv mvL lc la reg sp w f x y = if p_Core_isTrue f x y = (0 : Int32) then ((p_Model_act mv mvL lc la (mv 5 + (4 : Int32))).1, (p_Model_act mv mvL lc la (mv 5 + (4 : Int32))).2.1, (p_Model_act mv mvL lc la (mv 5 + (4 : Int32))).2.2, reg, sp) else p_Model_jump mv mvL lc la reg sp (0 : Int32) (mv 5 + p_Core_branchOffset w) := by
  unfold p_Model_branch p_Core_branchOffset p_Core_isTrue
  simp only [p_Model_branch_1, p_Model_branch_2, p_Model_branch_3, p_Model_branch_4, p_Model_branch_5, p_Model_branch_6, p_Model_branch_7, p_Model_branch_8, p_Model_branch_9, p_Model_branch_10, p_Model_branch_11, p_Model_branch_12, p_Model_branch_13, p_Model_branch_14, p_Model_branch_15, p_Model_branch_16, p_Model_branch_17, p_Model_branch_18, p_Model_branch_19, p_Model_branch_20, p_Model_branch_21, p_Model_branch_22, p_Model_branch_23, p_Model_branch_24, p_Model_branch_25, p_Model_branch_26, p_Model_branch_27, p_Model_branch_28, p_Model_branch_29, p_Model_branch_30, p_Model_branch_31, p_Model_branch_32, p_Model_branch_33, p_Model_branch_34, p_Model_branch_35, p_Model_branch_36, p_Model_branch_37, p_Model_branch_38, p_Model_branch_39, p_Model_branch_40, p_Model_branch_41, p_Model_branch_42, p_Model_branch_43, p_Model_branch_44, p_Model_branch_45, p_Model_branch_46, p_Model_branch_47, below_eq, p_Core_isTrue_1, p_Core_isTrue_2]
  generalize p_Model_act mv mvL lc la (mv 5 + (4 : Int32)) = A
  generalize p_Model_jump mv mvL lc la reg sp (0 : Int32) _ = J
  have c5 : (0 : Int32) ≤ p_JInt_compareUnsigned x y ↔ ¬ p_JInt_compareUnsigned x y < (0 : Int32) := Int32.not_lt.symm
  have c6 : y ≤ x ↔ ¬ x < y := Int32.not_lt.symm
  simp only [c5, c6]
  generalize p_JInt_compareUnsigned x y = u
  rcases hf with rfl | rfl | rfl | rfl | rfl | rfl
  · by_cases e : x = y <;> simp [e]
  · by_cases e : x = y <;> simp [e]
  · by_cases e : x < y <;> simp [e]
  · by_cases e : x < y <;> simp [e]
  · by_cases e : u < (0 : Int32) <;> simp [e]
  · by_cases e : u < (0 : Int32) <;> simp [e]
theorem vp_fA (w : Int32) : vp_in (p_Core_fieldA w) 32 := vp_31 _
theorem vp_fB (w : Int32) : vp_in (p_Core_fieldB w) 32 := vp_31 _
theorem vp_00 : vp_in (0 : Int32) 32 := vp_in_nI (n := 0) (by omega) (by omega)
theorem o_branch {n c a : Nat} {mvL : Nat → Int64} {cdv cdB cdW dtv dtB dtW bfv bfP bfV bsv krv rgs ctv acv acC acV mv lc la kp cp reg sp sw sv : Nat → Int32} (h : CI n c a cdv cdB cdW dtv dtB dtW bfv bfP bfV bsv krv rgs ctv acv acC acV mv lc la kp cp reg sp sw sv) (w : Int32) (f2 : ¬ p_Core_fieldF w = 2) (f3 : ¬ p_Core_fieldF w = 3) : C6 n c (a + 1) cdv cdB cdW dtv dtB dtW bfv bfP bfV bsv kp cp sw sv mv (p_Core_branch krv rgs ctv acv acC acV w) (p_Model_branch mv mvL lc la reg sp w (p_Core_fieldF w) (reg (p_Core_fieldA w).toNatClampNeg) (reg (p_Core_fieldB w).toNatClampNeg)) := by
  have hG := h.1.2.2.2.2.2.1
  have hK := h.1.2.2.2.2.2.2.2.1
  have hf : p_Core_fieldF w = 0 ∨ p_Core_fieldF w = 1 ∨ p_Core_fieldF w = 4 ∨ p_Core_fieldF w = 5 ∨ p_Core_fieldF w = 6 ∨ p_Core_fieldF w = 7 := by
    have := f_8 w
    simp only [f2, f3, false_or] at this
    exact this
  rw [br_M hf, ← rg_A hG (vp_fA w), ← rg_A hG (vp_fB w), p_Core_branch, p_Core_branch_1, if_neg f2, if_neg f3, p_Core_branch_3, p_Core_branch_4, p_Core_branch_5, ← hK.1]
  by_cases e : p_Core_isTrue (p_Core_fieldF w) (rgs (p_Core_fieldA w).toNatClampNeg) (rgs (p_Core_fieldB w).toNatClampNeg) = 0
  · rw [if_pos e, if_pos e]; exact k6_act h _
  · rw [if_neg e, if_neg e]; exact o_jump h 0 _ vp_00
theorem o_jalr {n c a : Nat} {mvL : Nat → Int64} {cdv cdB cdW dtv dtB dtW bfv bfP bfV bsv krv rgs ctv acv acC acV mv lc la kp cp reg sp sw sv : Nat → Int32} (h : CI n c a cdv cdB cdW dtv dtB dtW bfv bfP bfV bsv krv rgs ctv acv acC acV mv lc la kp cp reg sp sw sv) (w : Int32) (f0 : p_Core_fieldF w = 0) : C6 n c (a + 1) cdv cdB cdW dtv dtB dtW bfv bfP bfV bsv kp cp sw sv mv (p_Core_jumpToRegister krv rgs ctv acv acC acV w) (p_Model_jump mv mvL lc la reg sp (p_Core_fieldD w) ((reg (p_Core_fieldA w).toNatClampNeg + (w >>> ((20 : Int32) &&& (31 : Int32)))) &&& (-2 : Int32))) := by
  rw [← rg_A h.1.2.2.2.2.2.1 (vp_fA w), p_Core_jumpToRegister, p_Core_jumpToRegister_1, if_pos f0]
  exact o_jump h _ _ (vp_fD w)
theorem eD_ (w : Int32) : (w >>> ((7 : Int32) &&& (31 : Int32))) &&& (31 : Int32) = p_Core_fieldD w := rfl
theorem o_calc {n c a : Nat} {mvL : Nat → Int64} {cdv cdB cdW dtv dtB dtW bfv bfP bfV bsv krv rgs ctv acv acC acV mv lc la kp cp reg sp sw sv : Nat → Int32} (h : CI n c a cdv cdB cdW dtv dtB dtW bfv bfP bfV bsv krv rgs ctv acv acC acV mv lc la kp cp reg sp sw sv) (w : Int32) : C6 n c (a + 1) cdv cdB cdW dtv dtB dtW bfv bfP bfV bsv kp cp sw sv mv (p_Core_calculate krv rgs ctv acv acC acV w) (p_Model_both mv mvL lc la reg sp w (p_Core_fieldF w) (reg (p_Core_fieldA w).toNatClampNeg) (reg (p_Core_fieldB w).toNatClampNeg)) := by
  rw [← rg_A h.1.2.2.2.2.2.1 (vp_fA w), ← rg_A h.1.2.2.2.2.2.1 (vp_fB w)]
  have hf := f_8 w
  have hD := vp_fD w
  simp only [p_Core_calculate, p_Core_calculate_1, p_Core_calculate_2, p_Core_calculate_3, p_Core_calculate_4, p_Core_calculate_5, p_Core_calculate_6, p_Core_calculate_7, p_Core_calculate_8, p_Core_calculate_9, p_Core_calculate_10, p_Core_calculate_11, p_Core_calculate_12, p_Core_calculate_13, p_Core_calculate_14, p_Core_calculate_15, p_Core_calculate_16, p_Core_calculate_17, p_Core_calculate_18, p_Core_calculate_19, p_Core_calculate_20, p_Core_calculate_21, p_Core_calculate_22, p_Model_both, p_Model_both_1, p_Model_both_2, p_Model_both_3, p_Model_both_4, p_Model_both_5, p_Model_both_6, p_Model_both_7, p_Model_both_8, p_Model_both_9, p_Model_both_10, p_Model_both_11, p_Model_both_12, p_Model_both_13, p_Model_both_14, eD_, a_31]
  generalize rgs (p_Core_fieldA w).toNatClampNeg = x
  generalize rgs (p_Core_fieldB w).toNatClampNeg = y
  by_cases c0 : j_ushr w (25 : Int32) = (0 : Int32)
  · simp only [if_pos c0, ← simple_eq]
    exact k6_set h (p_Core_fieldD w) _ hD
  · simp only [if_neg c0]
    by_cases c1 : j_ushr w (25 : Int32) = (32 : Int32)
    · have n1 : ¬ j_ushr w (25 : Int32) = (1 : Int32) := by rw [c1]; decide
      simp only [if_pos c1, if_neg n1]
      by_cases d0 : p_Core_fieldF w = 0
      · simp only [if_pos d0]
        exact k6_set h (p_Core_fieldD w) _ hD
      · simp only [if_neg d0]
        by_cases d5 : p_Core_fieldF w = 5
        · simp only [if_pos d5]
          exact k6_set h (p_Core_fieldD w) _ hD
        · simp only [if_neg d5]
          exact k6_trap h 2 w
    · simp only [if_neg c1]
      by_cases c2 : j_ushr w (25 : Int32) = (1 : Int32)
      · simp only [if_pos c2]
        by_cases d4 : (4 : Int32) ≤ p_Core_fieldF w
        · simp only [if_pos d4]
          rw [← quotient_eq (by rcases hf with e | e | e | e | e | e | e | e <;> rw [e] at d4 ⊢ <;> revert d4 <;> decide)]
          exact k6_setq h (p_Core_fieldD w) _ hD 7 (by omega) (by omega)
        · simp only [if_neg d4]
          rw [← product_eq (by rcases hf with e | e | e | e | e | e | e | e <;> rw [e] at d4 ⊢ <;> revert d4 <;> decide)]
          exact k6_setq h (p_Core_fieldD w) _ hD 1 (by omega) (by omega)
      · simp only [if_neg c2]
        exact k6_trap h 2 w
theorem o_calcC {n c a : Nat} {mvL : Nat → Int64} {cdv cdB cdW dtv dtB dtW bfv bfP bfV bsv krv rgs ctv acv acC acV mv lc la kp cp reg sp sw sv : Nat → Int32} (h : CI n c a cdv cdB cdW dtv dtB dtW bfv bfP bfV bsv krv rgs ctv acv acC acV mv lc la kp cp reg sp sw sv) (w : Int32) : C6 n c (a + 1) cdv cdB cdW dtv dtB dtW bfv bfP bfV bsv kp cp sw sv mv (p_Core_calculateWithConstant krv rgs ctv acv acC acV w) (p_Model_one mv mvL lc la reg sp w (p_Core_fieldF w) (reg (p_Core_fieldA w).toNatClampNeg)) := by
  rw [← rg_A h.1.2.2.2.2.2.1 (vp_fA w)]
  have hf := f_8 w
  have hD := vp_fD w
  have zn10 : ¬ (1 : Int32) = 0 := by decide
  simp only [p_Core_calculateWithConstant, p_Core_calculateWithConstant_1, p_Core_calculateWithConstant_2, p_Core_calculateWithConstant_3, p_Core_calculateWithConstant_4, p_Core_calculateWithConstant_5, p_Core_calculateWithConstant_6, p_Core_calculateWithConstant_7, p_Core_calculateWithConstant_8, p_Core_calculateWithConstant_9, p_Core_calculateWithConstant_10, p_Core_calculateWithConstant_11, p_Core_calculateWithConstant_12, p_Core_calculateWithConstant_13, p_Core_calculateWithConstant_14, p_Core_calculateWithConstant_15, p_Core_calculateWithConstant_16, p_Core_calculateWithConstant_17, p_Core_calculateWithConstant_18, p_Core_calculateWithConstant_19, p_Core_calculateWithConstant_20, p_Core_calculateWithConstant_21, p_Core_calculateWithConstant_22, p_Core_calculateWithConstant_23, p_Core_calculateWithConstant_24, p_Core_calculateWithConstant_25, p_Core_calculateWithConstant_26, p_Core_calculateWithConstant_27, p_Core_calculateWithConstant_28, p_Core_calculateWithConstant_29, p_Model_one, p_Model_one_1, p_Model_one_2, p_Model_one_3, p_Model_one_4, p_Model_one_5, p_Model_one_6, p_Model_one_7, p_Model_one_8, p_Model_one_9, p_Model_one_10, p_Model_one_11, p_Model_one_12, eD_, a_31, if_neg zn10]
  generalize rgs (p_Core_fieldA w).toNatClampNeg = x
  by_cases d1 : p_Core_fieldF w = 1
  · have d5 : ¬ p_Core_fieldF w = 5 := by rw [d1]; decide
    simp only [if_pos d1, if_neg d5]
    by_cases c0 : j_ushr w (25 : Int32) = (0 : Int32)
    · simp only [if_pos c0, ← simple_eq]
      exact k6_set h (p_Core_fieldD w) _ hD
    · simp only [if_neg c0, ite_self]
      exact k6_trap h 2 w
  · simp only [if_neg d1]
    by_cases d5 : p_Core_fieldF w = 5
    · simp only [if_pos d5]
      by_cases c0 : j_ushr w (25 : Int32) = (0 : Int32)
      · have c1 : ¬ j_ushr w (25 : Int32) = (32 : Int32) := by rw [c0]; decide
        simp only [if_pos c0, if_neg c1, ← simple_eq]
        exact k6_set h (p_Core_fieldD w) _ hD
      · simp only [if_neg c0]
        by_cases c1 : j_ushr w (25 : Int32) = (32 : Int32)
        · simp only [if_pos c1]
          exact k6_set h (p_Core_fieldD w) _ hD
        · simp only [if_neg c1]
          exact k6_trap h 2 w
    · simp only [if_neg d5, ↓reduceIte, ← simple_eq]
      exact k6_set h (p_Core_fieldD w) _ hD
