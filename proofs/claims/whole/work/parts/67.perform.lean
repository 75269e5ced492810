/-! S5: the instruction -/
theorem eF_ (w : Int32) : (w >>> ((12 : Int32) &&& (31 : Int32))) &&& (7 : Int32) = p_Core_fieldF w := rfl
theorem eA_ (w : Int32) : (w >>> ((15 : Int32) &&& (31 : Int32))) &&& (31 : Int32) = p_Core_fieldA w := rfl
theorem eB_ (w : Int32) : (w >>> ((20 : Int32) &&& (31 : Int32))) &&& (31 : Int32) = p_Core_fieldB w := rfl
/-- the instruction of the reference, by its opcode -/
def ziM (mv : Nat → Int32) (mvL : Nat → Int64) (lc la kp cp reg sp sw sv pe : Nat → Int32) (w : Int32) : (Nat → Int32) × (Nat → Int32) × (Nat → Int32) × (Nat → Int32) × (Nat → Int32) × (Nat → Int32) × (Nat → Int32) × (Nat → Int32) × (Nat → Int32) :=
  let o := w &&& (127 : Int32)
  let f := p_Core_fieldF w
  let x := reg (p_Core_fieldA w).toNatClampNeg
  let y := reg (p_Core_fieldB w).toNatClampNeg
  let tr := p_Model_trap mv mvL sp (2 : Int32) w
  let bad := (tr.1, lc, la, kp, cp, reg, tr.2, sw, sv)
  if o = (3 : Int32) then (if f = (2 : Int32) then (fun s => (s.1, s.2.1, s.2.2.1, kp, s.2.2.2.1, s.2.2.2.2.1, s.2.2.2.2.2.1, s.2.2.2.2.2.2.1, s.2.2.2.2.2.2.2)) (p_Model_access mv mvL lc la kp cp reg sp sw sv (0 : Int32) (x + (w >>> ((20 : Int32) &&& (31 : Int32)))) (p_Core_fieldD w) (0 : Int32)) else bad)
  else if o = (15 : Int32) then (if (2 : Int32) ≤ f then bad else (fun s => (s.1, s.2.1, s.2.2.1, s.2.2.2, cp, reg, sp, sw, sv)) (p_Model_fence mv mvL lc la kp f))
  else if o = (19 : Int32) then (fun s => (s.1, s.2.1, s.2.2.1, kp, cp, s.2.2.2.1, s.2.2.2.2, sw, sv)) (p_Model_one mv mvL lc la reg sp w f x)
  else if o = (23 : Int32) then (fun s => (s.1, s.2.1, s.2.2.1, kp, cp, s.2.2.2, sp, sw, sv)) (p_Model_set mv mvL lc la reg (p_Core_fieldD w) (mv 5 + (w &&& (-4096 : Int32))))
  else if o = (35 : Int32) then (if f = (2 : Int32) then (fun s => (s.1, s.2.1, s.2.2.1, kp, s.2.2.2.1, s.2.2.2.2.1, s.2.2.2.2.2.1, s.2.2.2.2.2.2.1, s.2.2.2.2.2.2.2)) (p_Model_access mv mvL lc la kp cp reg sp sw sv (1 : Int32) ((x + (w >>> ((25 : Int32) &&& (31 : Int32))) * (32 : Int32)) + p_Core_fieldD w) (0 : Int32) y) else bad)
  else if o = (51 : Int32) then (fun s => (s.1, s.2.1, s.2.2.1, kp, cp, s.2.2.2.1, s.2.2.2.2, sw, sv)) (p_Model_both mv mvL lc la reg sp w f x y)
  else if o = (55 : Int32) then (fun s => (s.1, s.2.1, s.2.2.1, kp, cp, s.2.2.2, sp, sw, sv)) (p_Model_set mv mvL lc la reg (p_Core_fieldD w) (w &&& (-4096 : Int32)))
  else if o = (99 : Int32) then (if f = (2 : Int32) then bad else if f = (3 : Int32) then bad else (fun s => (s.1, s.2.1, s.2.2.1, kp, cp, s.2.2.2.1, s.2.2.2.2, sw, sv)) (p_Model_branch mv mvL lc la reg sp w f x y))
  else if o = (103 : Int32) then (if f = (0 : Int32) then (fun s => (s.1, s.2.1, s.2.2.1, kp, cp, s.2.2.2.1, s.2.2.2.2, sw, sv)) (p_Model_jump mv mvL lc la reg sp (p_Core_fieldD w) ((x + (w >>> ((20 : Int32) &&& (31 : Int32)))) &&& (-2 : Int32))) else bad)
  else if o = (111 : Int32) then (fun s => (s.1, s.2.1, s.2.2.1, kp, cp, s.2.2.2.1, s.2.2.2.2, sw, sv)) (p_Model_jump mv mvL lc la reg sp (p_Core_fieldD w) (mv 5 + p_Core_jumpOffset w))
  else if o = (115 : Int32) then (fun s => (s.1, s.2.1, s.2.2.1, kp, cp, s.2.2.2.1, s.2.2.2.2, sw, sv)) (p_Model_system mv mvL lc la reg sp pe w f x)
  else bad
theorem j_off (x w : Int32) : (((x + (w >>> ((31 : Int32) &&& (31 : Int32))) * (1048576 : Int32)) + (((w >>> ((12 : Int32) &&& (31 : Int32))) &&& (255 : Int32)) * (4096 : Int32))) + (((w >>> ((20 : Int32) &&& (31 : Int32))) &&& (1 : Int32)) * (2048 : Int32))) + (((w >>> ((21 : Int32) &&& (31 : Int32))) &&& (1023 : Int32)) * (2 : Int32)) = x + p_Core_jumpOffset w := by
  unfold p_Core_jumpOffset
  rw [Int32.add_assoc, Int32.add_assoc, Int32.add_assoc, Int32.add_assoc, Int32.add_assoc]
theorem ziM_eq (mv : Nat → Int32) (mvL : Nat → Int64) (lc la kp cp reg sp sw sv pe : Nat → Int32) (w : Int32) : p_Model_instruction mv mvL lc la kp cp reg sp sw sv pe w = ziM mv mvL lc la kp cp reg sp sw sv pe w := by
  unfold ziM
  simp only [p_Model_instruction, p_Model_instruction_1, p_Model_instruction_2, p_Model_instruction_3, p_Model_instruction_4, p_Model_instruction_5, p_Model_instruction_6, p_Model_instruction_7, p_Model_instruction_8, p_Model_instruction_9, p_Model_instruction_10, p_Model_instruction_11, p_Model_instruction_12, p_Model_instruction_13, p_Model_instruction_14, p_Model_instruction_15, p_Model_instruction_16, p_Model_instruction_17, p_Model_instruction_18, p_Model_instruction_19, p_Model_instruction_20, p_Model_instruction_21, p_Model_instruction_22, p_Model_instruction_23, p_Model_instruction_24, p_Model_instruction_25, p_Model_instruction_26, p_Model_instruction_27, p_Model_instruction_28, p_Model_instruction_29, p_Model_instruction_30, p_Model_instruction_31, p_Model_instruction_32, p_Model_instruction_33, p_Model_instruction_34, p_Model_instruction_35, p_Model_instruction_36, p_Model_instruction_37, p_Model_instruction_38, p_Model_instruction_39, p_Model_instruction_40, p_Model_instruction_41, p_Model_instruction_42, p_Model_instruction_43, p_Model_instruction_44, p_Model_instruction_45, p_Model_instruction_46, p_Model_instruction_47, p_Model_instruction_48, p_Model_instruction_49, p_Model_instruction_50, p_Model_instruction_51, p_Model_instruction_52, p_Model_instruction_53, p_Model_instruction_54, p_Model_instruction_55, p_Model_instruction_56, p_Model_instruction_57, p_Model_instruction_58, p_Model_instruction_59, p_Model_instruction_60, p_Model_instruction_61, p_Model_instruction_62, p_Model_instruction_63, p_Model_instruction_64, p_Model_instruction_65, p_Model_instruction_66, p_Model_instruction_67, p_Model_instruction_68, p_Model_instruction_69, p_Model_instruction_70, p_Model_instruction_71, p_Model_instruction_72, p_Model_instruction_73, p_Model_instruction_74, p_Model_instruction_75, p_Model_instruction_76, p_Model_instruction_77, p_Model_instruction_78, p_Model_instruction_79, p_Model_instruction_80, p_Model_instruction_81, p_Model_instruction_82, p_Model_instruction_83, p_Model_instruction_84, p_Model_instruction_85, p_Model_instruction_86, p_Model_instruction_87, p_Model_instruction_88, p_Model_instruction_89, p_Model_instruction_90, p_Model_instruction_91, p_Model_instruction_92, p_Model_instruction_93, p_Model_instruction_94, p_Model_instruction_95, p_Model_instruction_96, p_Model_instruction_97, p_Model_instruction_98, p_Model_instruction_99, p_Model_instruction_100, p_Model_instruction_101, p_Model_instruction_102, p_Model_instruction_103, p_Model_instruction_104, p_Model_instruction_105, p_Model_instruction_106, p_Model_instruction_107, p_Model_instruction_108, p_Model_instruction_109, p_Model_instruction_110, p_Model_instruction_111, p_Model_instruction_112, p_Model_instruction_113, p_Model_instruction_114, p_Model_instruction_115, p_Model_instruction_116, eD_, eF_, eA_, eB_, j_off]
  by_cases o1 : w &&& (127 : Int32) = (3 : Int32)
  · simp [o1]
  by_cases o2 : w &&& (127 : Int32) = (15 : Int32)
  · simp [o2]
  by_cases o3 : w &&& (127 : Int32) = (19 : Int32)
  · simp [o3]
  by_cases o4 : w &&& (127 : Int32) = (23 : Int32)
  · simp [o4]
  by_cases o5 : w &&& (127 : Int32) = (35 : Int32)
  · simp [o5]
  by_cases o6 : w &&& (127 : Int32) = (51 : Int32)
  · simp [o6]
  by_cases o7 : w &&& (127 : Int32) = (55 : Int32)
  · simp [o7]
  by_cases o8 : w &&& (127 : Int32) = (99 : Int32)
  · simp [o8]
  by_cases o9 : w &&& (127 : Int32) = (103 : Int32)
  · simp [o9]
  by_cases o10 : w &&& (127 : Int32) = (111 : Int32)
  · simp [o10]
  by_cases o11 : w &&& (127 : Int32) = (115 : Int32)
  · simp [o11]
  simp only [o1, o2, o3, o4, o5, o6, o7, o8, o9, o10, o11, if_false, ite_self]
theorem o_perf {n c a : Nat} {mvL : Nat → Int64} {cdv cdB cdW dtv dtB dtW bfv bfP bfV bsv krv rgs ctv acv acC acV mv lc la kp cp reg sp sw sv : Nat → Int32} (h : CI n c a cdv cdB cdW dtv dtB dtW bfv bfP bfV bsv krv rgs ctv acv acC acV mv lc la kp cp reg sp sw sv) {dvL : Nat → Int64} {itv hi pe se : Nat → Int32} (hI : rInt itv mv hi pe se) (hT : rTime dvL mvL) (w : Int32) : CP n c (a + 1) cdv cdW dtv dtB mv (p_Core_perform_1 cdv cdB cdW dtv dtB dtW bfv bfP bfV dvL itv bsv krv rgs ctv acv acC acV w) (p_Model_instruction mv mvL lc la kp cp reg sp sw sv pe w) := by
  have hK := h.1.2.2.2.2.2.2.2.1
  rw [ziM_eq]
  unfold p_Core_perform_1 ziM
  by_cases o1 : w &&& (127 : Int32) = (3 : Int32)
  · simp only [if_pos o1]
    by_cases f2 : p_Core_fieldF w = (2 : Int32)
    · simp only [if_pos f2]
      exact o_load h w f2
    · simp only [if_neg f2, p_Core_load, p_Core_load_1, p_Core_load_2]
      exact o_trap (mvL := mvL) h 2 w
  by_cases o2 : w &&& (127 : Int32) = (15 : Int32)
  · simp only [if_neg o1, if_pos o2]
    by_cases f2 : (2 : Int32) ≤ p_Core_fieldF w
    · have f1 : ¬ p_Core_fieldF w ≤ (1 : Int32) := by
        rcases f_8 w with e | e | e | e | e | e | e | e <;> rw [e] at f2 ⊢ <;> revert f2 <;> decide
      simp only [if_pos f2, p_Core_fence, p_Core_fence_1, if_neg f1]
      exact o_trap (mvL := mvL) h 2 w
    · simp only [if_neg f2]
      exact o_fence h w (by rcases f_8 w with e | e | e | e | e | e | e | e <;> rw [e] at f2 ⊢ <;> revert f2 <;> decide)
  by_cases o3 : w &&& (127 : Int32) = (19 : Int32)
  · simp only [if_neg o1, if_neg o2, if_pos o3]
    exact o_calcC h w
  by_cases o4 : w &&& (127 : Int32) = (23 : Int32)
  · simp only [if_neg o1, if_neg o2, if_neg o3, if_pos o4]
    rw [← hK.1]
    exact k6_set h (p_Core_fieldD w) _ (vp_fD w)
  by_cases o5 : w &&& (127 : Int32) = (35 : Int32)
  · simp only [if_neg o1, if_neg o2, if_neg o3, if_neg o4, if_pos o5]
    by_cases f2 : p_Core_fieldF w = (2 : Int32)
    · simp only [if_pos f2]
      exact o_store h w f2
    · simp only [if_neg f2, p_Core_store, p_Core_store_1, p_Core_store_2, p_Core_store_3, p_Core_store_4]
      exact o_trap (mvL := mvL) h 2 w
  by_cases o6 : w &&& (127 : Int32) = (51 : Int32)
  · simp only [if_neg o1, if_neg o2, if_neg o3, if_neg o4, if_neg o5, if_pos o6]
    exact o_calc h w
  by_cases o7 : w &&& (127 : Int32) = (55 : Int32)
  · simp only [if_neg o1, if_neg o2, if_neg o3, if_neg o4, if_neg o5, if_neg o6, if_pos o7]
    exact k6_set h (p_Core_fieldD w) _ (vp_fD w)
  by_cases o8 : w &&& (127 : Int32) = (99 : Int32)
  · simp only [if_neg o1, if_neg o2, if_neg o3, if_neg o4, if_neg o5, if_neg o6, if_neg o7, if_pos o8]
    by_cases f2 : p_Core_fieldF w = (2 : Int32)
    · simp only [if_pos f2, p_Core_branch, p_Core_branch_1]
      exact o_trap (mvL := mvL) h 2 w
    · by_cases f3 : p_Core_fieldF w = (3 : Int32)
      · simp only [if_neg f2, if_pos f3, p_Core_branch, p_Core_branch_1]
        exact o_trap (mvL := mvL) h 2 w
      · simp only [if_neg f2, if_neg f3]
        exact o_branch h w f2 f3
  by_cases o9 : w &&& (127 : Int32) = (103 : Int32)
  · simp only [if_neg o1, if_neg o2, if_neg o3, if_neg o4, if_neg o5, if_neg o6, if_neg o7, if_neg o8, if_pos o9]
    by_cases f0 : p_Core_fieldF w = (0 : Int32)
    · simp only [if_pos f0]
      exact o_jalr h w f0
    · simp only [if_neg f0, p_Core_jumpToRegister, p_Core_jumpToRegister_1]
      exact o_trap (mvL := mvL) h 2 w
  by_cases o10 : w &&& (127 : Int32) = (111 : Int32)
  · simp only [if_neg o1, if_neg o2, if_neg o3, if_neg o4, if_neg o5, if_neg o6, if_neg o7, if_neg o8, if_neg o9, if_pos o10]
    rw [← hK.1]
    exact o_jump h (p_Core_fieldD w) _ (vp_fD w)
  by_cases o11 : w &&& (127 : Int32) = (115 : Int32)
  · simp only [if_neg o1, if_neg o2, if_neg o3, if_neg o4, if_neg o5, if_neg o6, if_neg o7, if_neg o8, if_neg o9, if_neg o10, if_pos o11, p_Core_perform_16]
    by_cases f0 : p_Core_fieldF w &&& (3 : Int32) = 0
    · simp only [if_pos f0]
      exact o_sys0 h w f0
    · simp only [if_neg f0]
      exact o_sys h hI hT w f0
  · simp only [if_neg o1, if_neg o2, if_neg o3, if_neg o4, if_neg o5, if_neg o6, if_neg o7, if_neg o8, if_neg o9, if_neg o10, if_neg o11]
    exact o_trap (mvL := mvL) h 2 w
