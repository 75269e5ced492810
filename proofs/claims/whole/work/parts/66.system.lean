/-! S5: the control registers -/
/-- system -/
theorem k6_setC {n c a : Nat} {mvL : Nat → Int64} {cdv cdB cdW dtv dtB dtW bfv bfP bfV bsv krv rgs ctv acv acC acV mv lc la kp cp reg sp sw sv : Nat → Int32} (h : CI n c a cdv cdB cdW dtv dtB dtW bfv bfP bfV bsv krv rgs ctv acv acC acV mv lc la kp cp reg sp sw sv) (d x : Int32) (hd : vp_in d 32) {ctv' sp' : Nat → Int32} (hC : rCtl ctv' sp') : C6 n c (a + 1) cdv cdB cdW dtv dtB dtW bfv bfP bfV bsv kp cp sw sv mv ((p_Core_actWith krv rgs acv acC acV d x).1, (p_Core_actWith krv rgs acv acC acV d x).2.1, ctv', (p_Core_actWith krv rgs acv acC acV d x).2.2.1, (p_Core_actWith krv rgs acv acC acV d x).2.2.2.1, (p_Core_actWith krv rgs acv acC acV d x).2.2.2.2) ((p_Model_set mv mvL lc la reg d x).1, (p_Model_set mv mvL lc la reg d x).2.1, (p_Model_set mv mvL lc la reg d x).2.2.1, (p_Model_set mv mvL lc la reg d x).2.2.2, sp') := by
  rw [set_M, ← h.1.2.2.2.2.2.2.2.1.1]
  exact o_act (mvL := mvL) h (reg_eq krv x hd h.1.2.2.2.2.2.1) hC (krv 0 + (4 : Int32))
theorem wh_c (k : Int32) : (p_Control_exists k = 0 ∧ p_Model_which k = (-1 : Int32)) ∨ (k = (3072 : Int32) ∧ p_Control_exists k = 1 ∧ p_Model_which k = (8 : Int32)) ∨ (¬ k = (3072 : Int32) ∧ p_Control_exists k = 1 ∧ p_Model_which k = (7 : Int32) ∧ ∀ v x, p_Control_write v k x = v) ∨ ∃ i : Nat, i ≤ 6 ∧ ¬ k = (3072 : Int32) ∧ p_Control_exists k = 1 ∧ p_Model_which k = nI i ∧ ∀ ctv sp x, rCtl ctv sp → rCtl (p_Control_write ctv k x) (upd sp i (p_Model_masked (nI i) x)) := by
  by_cases c1 : k = (768 : Int32)
  · subst c1; exact Or.inr (Or.inr (Or.inr ⟨0, by omega, by decide, rfl, rfl, fun ctv sp x hc => ct_up hc 0 _⟩))
  by_cases c2 : k = (772 : Int32)
  · subst c2; exact Or.inr (Or.inr (Or.inr ⟨1, by omega, by decide, rfl, rfl, fun ctv sp x hc => ct_up hc 1 _⟩))
  by_cases c3 : k = (773 : Int32)
  · subst c3; exact Or.inr (Or.inr (Or.inr ⟨2, by omega, by decide, rfl, rfl, fun ctv sp x hc => ct_up hc 2 _⟩))
  by_cases c4 : k = (832 : Int32)
  · subst c4; exact Or.inr (Or.inr (Or.inr ⟨3, by omega, by decide, rfl, rfl, fun ctv sp x hc => ct_up hc 3 _⟩))
  by_cases c5 : k = (833 : Int32)
  · subst c5; exact Or.inr (Or.inr (Or.inr ⟨4, by omega, by decide, rfl, rfl, fun ctv sp x hc => ct_up hc 4 _⟩))
  by_cases c6 : k = (834 : Int32)
  · subst c6; exact Or.inr (Or.inr (Or.inr ⟨5, by omega, by decide, rfl, rfl, fun ctv sp x hc => ct_up hc 5 _⟩))
  by_cases c7 : k = (835 : Int32)
  · subst c7; exact Or.inr (Or.inr (Or.inr ⟨6, by omega, by decide, rfl, rfl, fun ctv sp x hc => ct_up hc 6 _⟩))
  by_cases c8 : k = (836 : Int32)
  · subst c8; exact Or.inr (Or.inr (Or.inl ⟨by decide, rfl, rfl, fun v x => rfl⟩))
  by_cases c9 : k = (3072 : Int32)
  · subst c9; exact Or.inr (Or.inl ⟨rfl, rfl, rfl⟩)
  · refine Or.inl ⟨?_, wh_none c1 c2 c3 c4 c5 c6 c7 c8 c9⟩
    unfold p_Control_exists
    rw [if_neg c1, if_neg c2, if_neg c3, if_neg c4, if_neg c5, if_neg c6, if_neg c7, if_neg c8, if_neg c9]
theorem a_f4 (w : Int32) : p_Core_fieldF w - p_Core_fieldF w / (4 : Int32) * (4 : Int32) = p_Core_fieldF w &&& (3 : Int32) := by
  rcases f_8 w with e | e | e | e | e | e | e | e <;> rw [e] <;> decide
theorem o_swapY {n c a : Nat} {mvL : Nat → Int64} {cdv cdB cdW dtv dtB dtW bfv bfP bfV bsv krv rgs ctv acv acC acV mv lc la kp cp reg sp sw sv : Nat → Int32} (h : CI n c a cdv cdB cdW dtv dtB dtW bfv bfP bfV bsv krv rgs ctv acv acC acV mv lc la kp cp reg sp sw sv) {dvL : Nat → Int64} {itv hi pe se : Nat → Int32} (hI : rInt itv mv hi pe se) (hT : rTime dvL mvL) (w y : Int32) (hy : y = if (4 : Int32) ≤ p_Core_fieldF w then p_Core_fieldA w else rgs (p_Core_fieldA w).toNatClampNeg) : C6 n c (a + 1) cdv cdB cdW dtv dtB dtW bfv bfP bfV bsv kp cp sw sv mv (p_Core_changeControl dvL itv krv rgs ctv acv acC acV w) (p_Model_swap mv mvL lc la reg sp pe w (p_Core_fieldF w) y) := by
  have hD := vp_fD w
  have hC := h.1.2.2.2.2.2.2.1
  have n8 : ¬ (8 : Int32) < 0 := by decide
  have n7 : ¬ (7 : Int32) < 0 := by decide
  have n1 : (-1 : Int32) < 0 := by decide
  have n78 : ¬ (7 : Int32) = 8 := by decide
  have rd := cr_eq (cy := krv 1) hI hT hC h.1.2.1.1 (j_ushr w (20 : Int32))
  simp only [p_Core_changeControl, p_Core_changeControl_1, p_Core_changeControl_2, p_Core_changeControl_3, p_Core_changeControl_4, p_Core_changeControl_5, p_Core_changeControl_6, p_Core_changeControl_7, p_Core_changeControl_8, p_Core_changeControl_9, p_Core_changeControl_10, p_Core_changeControl_11, p_Core_changeControl_12, p_Core_changeControl_13, p_Core_changeControl_14, p_Core_changeControl_15, p_Core_changeControl_16, p_Core_changeControl_17, p_Core_changeControl_18, p_Core_changeControl_19, p_Core_changeControl_20, p_Core_changeControl_21, p_Core_changeControl_22, p_Core_changeControl_23, p_Core_changeControl_24, p_Core_changeControl_25, p_Core_changeControl_26, p_Core_changeControl_27, p_Core_changeControl_28, p_Core_changeControl_29, p_Core_changeControl_30, p_Core_changeControl_31, p_Core_changeControl_32, p_Core_changeControl_33, p_Core_changeControl_34, p_Core_changeControl_35, p_Core_changeControl_36, p_Core_changeControl_37, p_Core_changeControl_38, p_Core_changeControl_39, p_Core_changeControl_40, p_Core_changeControl_41, p_Core_changeControl_42, p_Core_changeControl_43, p_Core_changeControl_44, p_Core_changeControl_45, p_Core_changeControl_46, p_Core_changeControl_47, p_Core_changeControl_48, p_Core_changeControl_49, p_Core_changeControl_50, p_Core_changeControl_51, p_Core_changeControl_52, p_Core_changeControl_53, p_Core_changeControl_54, p_Core_changeControl_55, p_Core_changeControl_56, p_Core_changeControl_57, p_Core_changeControl_58, p_Core_changeControl_59, p_Core_changeControl_60, p_Core_changeControl_61, p_Core_changeControl_62, p_Core_changeControl_63, p_Core_changeControl_64, p_Core_changeControl_65, p_Core_changeControl_66, p_Core_changeControl_67, p_Core_changeControl_68, p_Core_changeControl_69, p_Core_changeControl_70, p_Core_changeControl_71, p_Core_changeControl_72, p_Core_changeControl_73, p_Core_changeControl_74, p_Core_changeControl_75, p_Core_changeControl_76, p_Core_changeControl_77, p_Core_changeControl_78, p_Core_changeControl_79, p_Core_changeControl_80, p_Core_changeControl_81, p_Core_changeControl_82, p_Core_changeControl_83, p_Core_changeControl_84, p_Core_changeControl_85, p_Core_changeControl_86, p_Core_changeControl_87, p_Core_changeControl_88, p_Core_changeControl_89, p_Model_swap, p_Model_swap_1, p_Model_swap_2, p_Model_swap_3, p_Model_swap_4, p_Model_swap_5, p_Model_swap_6, p_Model_swap_7, p_Model_swap_8, p_Model_swap_9, p_Model_swap_10, p_Model_swap_11, p_Model_swap_12, p_Model_swap_13, p_Model_swap_14, p_Model_swap_15, p_Model_swap_16, p_Model_swap_17, p_Model_swap_18, p_Model_swap_19, p_Model_swap_20, p_Model_swap_21, p_Model_swap_22, p_Model_swap_23, p_Model_swap_24, p_Model_swap_25, p_Model_swap_26, p_Model_swap_27, p_Model_swap_28, p_Model_swap_29, p_Model_swap_30, p_Model_swap_31, p_Model_swap_32, rd, eD_, a_f4, zn10, ↓reduceIte, show (w >>> ((15 : Int32) &&& (31 : Int32))) &&& (31 : Int32) = p_Core_fieldA w from rfl]
  generalize p_Model_controlValue mv mvL sp pe (p_Model_which (j_ushr w (20 : Int32))) = v
  rcases wh_c (j_ushr w (20 : Int32)) with ⟨e1, e2⟩ | ⟨e0, e1, e2⟩ | ⟨e0, e1, e2, e3⟩ | ⟨i, hi6, e0, e1, e2, e3⟩
  · simp only [e1, e2, if_pos n1, ↓reduceIte, ite_self]
    exact k6_trap h 2 w
  · simp only [e1, e2, if_pos e0, if_neg n8, zn10, ↓reduceIte, ite_self]
    by_cases f1 : p_Core_fieldF w &&& (3 : Int32) = 1
    · simp only [if_pos f1]
      exact k6_trap h 2 w
    · simp only [if_neg f1]
      by_cases a0 : p_Core_fieldA w = 0
      · simp only [if_pos a0]
        exact k6_set h _ _ hD
      · simp only [if_neg a0]
        exact k6_trap h 2 w
  · simp only [e1, e2, e3, if_neg e0, if_neg n7, if_neg n78, zn10, ↓reduceIte, ite_self, show (7 : Int32) ≤ 7 from by decide]
    by_cases f1 : p_Core_fieldF w &&& (3 : Int32) = 1
    · simp only [if_pos f1]
      exact k6_set h _ _ hD
    · simp only [if_neg f1]
      by_cases a0 : p_Core_fieldA w = 0
      · simp only [if_pos a0]
        exact k6_set h _ _ hD
      · simp only [if_neg a0]
        exact k6_set h _ _ hD
  · have m8 : ¬ nI i = (8 : Int32) := fun q => by have := (nI_eq (b := 8) (by omega) (by omega)).mp q; omega
    have m0 : ¬ nI i < (0 : Int32) := nI_pos (by omega)
    have m7 : ¬ (7 : Int32) ≤ nI i := nI_ge (b := 7) (by omega) (by omega)
    simp only [e1, e2, if_neg e0, if_neg m0, if_neg m8, if_neg m7, zn10, ↓reduceIte, nI_clamp (show i < 2 ^ 31 by omega)]
    by_cases f1 : p_Core_fieldF w &&& (3 : Int32) = 1
    · simp only [if_pos f1]
      by_cases f4 : (4 : Int32) ≤ p_Core_fieldF w
      · simp only [if_pos f4] at hy ⊢
        rw [hy]
        exact k6_setC h _ _ hD (e3 ctv sp _ hC)
      · simp only [if_neg f4] at hy ⊢
        rw [hy]
        exact k6_setC h _ _ hD (e3 ctv sp _ hC)
    · simp only [if_neg f1]
      by_cases a0 : p_Core_fieldA w = 0
      · simp only [if_pos a0, ite_self]
        exact k6_set h _ _ hD
      · simp only [if_neg a0]
        by_cases f4 : (4 : Int32) ≤ p_Core_fieldF w
        · simp only [if_pos f4] at hy ⊢
          rw [hy]
          by_cases f2 : p_Core_fieldF w &&& (3 : Int32) = 2
          · simp only [if_pos f2]
            exact k6_setC h _ _ hD (e3 ctv sp _ hC)
          · simp only [if_neg f2]
            exact k6_setC h _ _ hD (e3 ctv sp _ hC)
        · simp only [if_neg f4] at hy ⊢
          rw [hy]
          by_cases f2 : p_Core_fieldF w &&& (3 : Int32) = 2
          · simp only [if_pos f2]
            exact k6_setC h _ _ hD (e3 ctv sp _ hC)
          · simp only [if_neg f2]
            exact k6_setC h _ _ hD (e3 ctv sp _ hC)
theorem o_sys {n c a : Nat} {mvL : Nat → Int64} {cdv cdB cdW dtv dtB dtW bfv bfP bfV bsv krv rgs ctv acv acC acV mv lc la kp cp reg sp sw sv : Nat → Int32} (h : CI n c a cdv cdB cdW dtv dtB dtW bfv bfP bfV bsv krv rgs ctv acv acC acV mv lc la kp cp reg sp sw sv) {dvL : Nat → Int64} {itv hi pe se : Nat → Int32} (hI : rInt itv mv hi pe se) (hT : rTime dvL mvL) (w : Int32) (f0 : ¬ p_Core_fieldF w &&& (3 : Int32) = 0) : C6 n c (a + 1) cdv cdB cdW dtv dtB dtW bfv bfP bfV bsv kp cp sw sv mv (p_Core_changeControl dvL itv krv rgs ctv acv acC acV w) (p_Model_system mv mvL lc la reg sp pe w (p_Core_fieldF w) (reg (p_Core_fieldA w).toNatClampNeg)) := by
  have hG := h.1.2.2.2.2.2.1
  have e1 : ¬ w = (115 : Int32) := fun e => f0 (by rw [e]; rfl)
  have e2 : ¬ w = (1048691 : Int32) := fun e => f0 (by rw [e]; rfl)
  have e3 : ¬ w = (807403635 : Int32) := fun e => f0 (by rw [e]; rfl)
  have e4 : ¬ w = (273678451 : Int32) := fun e => f0 (by rw [e]; rfl)
  rw [← rg_A hG (vp_fA w)]
  unfold p_Model_system
  rw [if_neg e1, if_neg e2, if_neg e3, if_neg e4, a_f4, if_neg f0]
  by_cases f4 : (4 : Int32) ≤ p_Core_fieldF w
  · rw [if_pos f4]
    exact o_swapY h hI hT w _ (if_pos f4).symm
  · rw [if_neg f4]
    exact o_swapY h hI hT w _ (if_neg f4).symm
def C5 (n c a : Nat) (cdv cdB cdW dtv dtB dtW bfv bfP bfV bsv rgs kp cp sw sv mv : Nat → Int32) (q : (Nat → Int32) × (Nat → Int32) × (Nat → Int32) × (Nat → Int32) × (Nat → Int32)) (s : (Nat → Int32) × (Nat → Int32) × (Nat → Int32) × (Nat → Int32) × (Nat → Int32)) : Prop := CP n c a cdv cdW dtv dtB mv (cdB, dtW, bfv, bfP, bfV, bsv, q.1, rgs, q.2.1, q.2.2.1, q.2.2.2.1, q.2.2.2.2) (s.1, s.2.1, s.2.2.1, kp, cp, s.2.2.2.1, s.2.2.2.2, sw, sv)
theorem o_sys0 {n c a : Nat} {mvL : Nat → Int64} {cdv cdB cdW dtv dtB dtW bfv bfP bfV bsv krv rgs ctv acv acC acV mv lc la kp cp reg sp sw sv : Nat → Int32} (h : CI n c a cdv cdB cdW dtv dtB dtW bfv bfP bfV bsv krv rgs ctv acv acC acV mv lc la kp cp reg sp sw sv) {pe : Nat → Int32} (w : Int32) (f0 : p_Core_fieldF w &&& (3 : Int32) = 0) : C5 n c (a + 1) cdv cdB cdW dtv dtB dtW bfv bfP bfV bsv rgs kp cp sw sv mv (p_Core_system krv ctv acv acC acV w) (p_Model_system mv mvL lc la reg sp pe w (p_Core_fieldF w) (reg (p_Core_fieldA w).toNatClampNeg)) := by
  have hG := h.1.2.2.2.2.2.1
  have hC := h.1.2.2.2.2.2.2.1
  have hK := h.1.2.2.2.2.2.2.2.1
  unfold p_Core_system p_Model_system
  by_cases e1 : w = (115 : Int32)
  · rw [if_pos e1, if_pos e1]; exact o_trap (mvL := mvL) h 11 0
  rw [if_neg e1, if_neg e1]
  by_cases e2 : w = (1048691 : Int32)
  · rw [if_pos e2, if_pos e2]; exact o_trap (mvL := mvL) h 3 0
  rw [if_neg e2, if_neg e2]
  by_cases e3 : w = (807403635 : Int32)
  · rw [if_pos e3, if_pos e3]
    unfold p_Core_system_3 p_Core_system_4 p_Control_leaveTrap
    have q0 : sp 0 &&& (128 : Int32) = ctv 0 &&& (128 : Int32) := by rw [hC 0 (by omega)]
    have q4 : ctv 4 = sp 4 := hC 4 (by omega)
    by_cases e : ctv 0 &&& (128 : Int32) = 0
    · rw [if_pos e, if_pos (show sp ((0 : Int32).toNatClampNeg) &&& (128 : Int32) = 0 from q0.trans e), q4]
      exact o_actq (mvL := mvL) h hG (ct_up hC 0 128) (sp 4) 1 (by omega) (by omega)
    · rw [if_neg e, if_neg (show ¬ sp ((0 : Int32).toNatClampNeg) &&& (128 : Int32) = 0 from fun z => e (q0.symm.trans z)), q4]
      exact o_actq (mvL := mvL) h hG (ct_up hC 0 136) (sp 4) 1 (by omega) (by omega)
  rw [if_neg e3, if_neg e3]
  by_cases e4 : w = (273678451 : Int32)
  · rw [if_pos e4, if_pos e4, ← hK.1]
    exact o_wfi (mvL := mvL) h (krv 0 + (4 : Int32))
  rw [if_neg e4, if_neg e4, a_f4, if_pos f0]
  exact o_trap (mvL := mvL) h 2 w
