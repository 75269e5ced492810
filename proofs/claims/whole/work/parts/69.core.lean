/-! S5: the core -/
def zfT (cdv cdB bsv krv ctv : Nat → Int32) : Int32 × (Nat → Int32) × (Nat → Int32) × (Nat → Int32) := if p_Core_isMemory (krv 0) = 0 then (0, bsv, (p_Core_trap krv ctv (1 : Int32) (krv 0)).1, (p_Core_trap krv ctv (1 : Int32) (krv 0)).2) else if p_Cache_holds cdv cdB (krv 0 >>> ((2 : Int32) &&& (31 : Int32))) = 0 then (0, p_Bus_want bsv (1 : Int32) (krv 0 >>> ((4 : Int32) &&& (31 : Int32))), krv, ctv) else (1, bsv, krv, ctv)
def zkD (cdv cdB cdW dtv dtB dtW bfv bfP bfV : Nat → Int32) (dvL : Nat → Int64) (itv rgs acv acC acV : Nat → Int32) (k : Int32 × (Nat → Int32) × (Nat → Int32) × (Nat → Int32)) : (Nat → Int32) × (Nat → Int32) × (Nat → Int32) × (Nat → Int32) × (Nat → Int32) × (Nat → Int32) × (Nat → Int32) × (Nat → Int32) × (Nat → Int32) × (Nat → Int32) × (Nat → Int32) × (Nat → Int32) := if k.1 = 0 then (cdB, dtW, bfv, bfP, bfV, k.2.1, k.2.2.1, rgs, k.2.2.2, acv, acC, acV) else p_Core_perform cdv cdB cdW dtv dtB dtW bfv bfP bfV dvL itv k.2.1 k.2.2.1 rgs k.2.2.2 acv acC acV
theorem zkD_f (cdv cdB cdW dtv dtB dtW bfv bfP bfV : Nat → Int32) (dvL : Nat → Int64) (itv bsv krv rgs ctv acv acC acV : Nat → Int32) : zkD cdv cdB cdW dtv dtB dtW bfv bfP bfV dvL itv rgs acv acC acV (zfT cdv cdB bsv krv ctv) = zfC cdv cdB cdW dtv dtB dtW bfv bfP bfV dvL itv bsv krv rgs ctv acv acC acV := by
  unfold zkD zfT zfC
  by_cases e1 : p_Core_isMemory (krv 0) = 0
  · simp only [if_pos e1, ↓reduceIte]
  · simp only [if_neg e1]
    by_cases e2 : p_Cache_holds cdv cdB (krv 0 >>> ((2 : Int32) &&& (31 : Int32))) = 0
    · simp only [if_pos e2, ↓reduceIte]
    · simp only [if_neg e2, zn10, if_false]
theorem ct_w (cdv cdB cdW : Nat → Int32) (dvL : Nat → Int64) (itv bsv krv ctv : Nat → Int32) (h : ¬ p_Bus_keepsCoreWaiting bsv = 0) : p_Core_comesToInstruction cdv cdB cdW dvL itv bsv krv ctv = (0, bsv, krv, ctv) := by
  simp only [p_Core_comesToInstruction, p_Core_comesToInstruction_1, if_neg h]
theorem ct_r (cdv cdB cdW : Nat → Int32) (dvL : Nat → Int64) (itv bsv krv ctv : Nat → Int32) (h : p_Bus_keepsCoreWaiting bsv = 0) (h3 : ¬ krv 3 ≤ 0) : p_Core_comesToInstruction cdv cdB cdW dvL itv bsv krv ctv = (0, bsv, upd krv 3 (krv 3 - (1 : Int32)), ctv) := by
  simp only [p_Core_comesToInstruction, p_Core_comesToInstruction_1, if_pos h, if_neg h3]
theorem ct_s (cdv cdB cdW : Nat → Int32) (dvL : Nat → Int64) (itv bsv krv ctv : Nat → Int32) (h : p_Bus_keepsCoreWaiting bsv = 0) (h3 : krv 3 ≤ 0) (h4 : ¬ krv 4 = 0) (hb : p_Devices_interruptBits dvL itv &&& ctv 1 = 0) : p_Core_comesToInstruction cdv cdB cdW dvL itv bsv krv ctv = (0, bsv, krv, ctv) := by
  simp only [p_Core_comesToInstruction, p_Core_comesToInstruction_1, p_Core_comesToInstruction_2, p_Core_comesToInstruction_3, p_Core_comesToInstruction_4, p_Core_comesToInstruction_5, p_Core_comesToInstruction_6, p_Core_comesToInstruction_7, p_Core_comesToInstruction_8, p_Core_comesToInstruction_9, p_Core_comesToInstruction_10, p_Core_comesToInstruction_11, p_Core_comesToInstruction_12, p_Core_comesToInstruction_13, p_Core_comesToInstruction_14, p_Core_comesToInstruction_15, p_Core_comesToInstruction_16, p_Core_comesToInstruction_17, p_Core_comesToInstruction_18, p_Core_comesToInstruction_19, p_Core_comesToInstruction_20, p_Core_comesToInstruction_21, p_Core_comesToInstruction_22, p_Core_comesToInstruction_23, p_Core_comesToInstruction_24, p_Core_comesToInstruction_25, p_Core_comesToInstruction_26, p_Core_comesToInstruction_27, p_Core_comesToInstruction_28, p_Core_comesToInstruction_29, p_Core_comesToInstruction_30, p_Core_comesToInstruction_31, p_Core_comesToInstruction_32, p_Core_comesToInstruction_33, if_pos h, if_pos h3, if_neg h4, p_Control_enabledOf, hb, ↓reduceIte]
theorem ct_f (cdv cdB cdW : Nat → Int32) (dvL : Nat → Int64) (itv bsv krv ctv : Nat → Int32) (h : p_Bus_keepsCoreWaiting bsv = 0) (h3 : krv 3 ≤ 0) (h4 : krv 4 = 0 ∨ ¬ p_Devices_interruptBits dvL itv &&& ctv 1 = 0) (hb : ctv 0 &&& (8 : Int32) = 0 ∨ p_Devices_interruptBits dvL itv &&& ctv 1 = 0) : p_Core_comesToInstruction cdv cdB cdW dvL itv bsv krv ctv = zfT cdv cdB bsv (upd krv 4 0) ctv := by
  have u0 : upd krv 4 0 0 = krv 0 := rfl
  unfold zfT
  rw [u0]
  by_cases e4 : krv 4 = 0
  · by_cases eb : ctv 0 &&& (8 : Int32) = 0
    · simp only [p_Core_comesToInstruction, p_Core_comesToInstruction_1, p_Core_comesToInstruction_2, p_Core_comesToInstruction_3, p_Core_comesToInstruction_4, p_Core_comesToInstruction_5, p_Core_comesToInstruction_6, p_Core_comesToInstruction_7, p_Core_comesToInstruction_8, p_Core_comesToInstruction_9, p_Core_comesToInstruction_10, p_Core_comesToInstruction_11, p_Core_comesToInstruction_12, p_Core_comesToInstruction_13, p_Core_comesToInstruction_14, p_Core_comesToInstruction_15, p_Core_comesToInstruction_16, p_Core_comesToInstruction_17, p_Core_comesToInstruction_18, p_Core_comesToInstruction_19, p_Core_comesToInstruction_20, p_Core_comesToInstruction_21, p_Core_comesToInstruction_22, p_Core_comesToInstruction_23, p_Core_comesToInstruction_24, p_Core_comesToInstruction_25, p_Core_comesToInstruction_26, p_Core_comesToInstruction_27, p_Core_comesToInstruction_28, p_Core_comesToInstruction_29, p_Core_comesToInstruction_30, p_Core_comesToInstruction_31, p_Core_comesToInstruction_32, p_Core_comesToInstruction_33, if_pos h, if_pos h3, if_pos e4, p_Control_enabledOf, p_Control_interruptsAreOn, if_pos eb, ↓reduceIte]
    · have q := hb.resolve_left eb
      simp only [p_Core_comesToInstruction, p_Core_comesToInstruction_1, p_Core_comesToInstruction_2, p_Core_comesToInstruction_3, p_Core_comesToInstruction_4, p_Core_comesToInstruction_5, p_Core_comesToInstruction_6, p_Core_comesToInstruction_7, p_Core_comesToInstruction_8, p_Core_comesToInstruction_9, p_Core_comesToInstruction_10, p_Core_comesToInstruction_11, p_Core_comesToInstruction_12, p_Core_comesToInstruction_13, p_Core_comesToInstruction_14, p_Core_comesToInstruction_15, p_Core_comesToInstruction_16, p_Core_comesToInstruction_17, p_Core_comesToInstruction_18, p_Core_comesToInstruction_19, p_Core_comesToInstruction_20, p_Core_comesToInstruction_21, p_Core_comesToInstruction_22, p_Core_comesToInstruction_23, p_Core_comesToInstruction_24, p_Core_comesToInstruction_25, p_Core_comesToInstruction_26, p_Core_comesToInstruction_27, p_Core_comesToInstruction_28, p_Core_comesToInstruction_29, p_Core_comesToInstruction_30, p_Core_comesToInstruction_31, p_Core_comesToInstruction_32, p_Core_comesToInstruction_33, if_pos h, if_pos h3, if_pos e4, p_Control_enabledOf, p_Control_interruptsAreOn, if_neg eb, q, zn10, ↓reduceIte]
  · have q := h4.resolve_left e4
    have eb := hb.resolve_right q
    simp only [p_Core_comesToInstruction, p_Core_comesToInstruction_1, p_Core_comesToInstruction_2, p_Core_comesToInstruction_3, p_Core_comesToInstruction_4, p_Core_comesToInstruction_5, p_Core_comesToInstruction_6, p_Core_comesToInstruction_7, p_Core_comesToInstruction_8, p_Core_comesToInstruction_9, p_Core_comesToInstruction_10, p_Core_comesToInstruction_11, p_Core_comesToInstruction_12, p_Core_comesToInstruction_13, p_Core_comesToInstruction_14, p_Core_comesToInstruction_15, p_Core_comesToInstruction_16, p_Core_comesToInstruction_17, p_Core_comesToInstruction_18, p_Core_comesToInstruction_19, p_Core_comesToInstruction_20, p_Core_comesToInstruction_21, p_Core_comesToInstruction_22, p_Core_comesToInstruction_23, p_Core_comesToInstruction_24, p_Core_comesToInstruction_25, p_Core_comesToInstruction_26, p_Core_comesToInstruction_27, p_Core_comesToInstruction_28, p_Core_comesToInstruction_29, p_Core_comesToInstruction_30, p_Core_comesToInstruction_31, p_Core_comesToInstruction_32, p_Core_comesToInstruction_33, if_pos h, if_pos h3, if_neg e4, p_Control_enabledOf, p_Control_interruptsAreOn, if_pos eb, if_neg q, ↓reduceIte]
theorem ct_i (cdv cdB cdW : Nat → Int32) (dvL : Nat → Int64) (itv bsv krv ctv : Nat → Int32) (h : p_Bus_keepsCoreWaiting bsv = 0) (h3 : krv 3 ≤ 0) (hb : ¬ p_Devices_interruptBits dvL itv &&& ctv 1 = 0) (eb : ¬ ctv 0 &&& (8 : Int32) = 0) {k : Int32} (hk : k = if (p_Devices_interruptBits dvL itv &&& ctv 1) &&& (2048 : Int32) = 0 then 7 else 11) : p_Core_comesToInstruction cdv cdB cdW dvL itv bsv krv ctv = (0, bsv, (p_Core_interrupt (upd krv 4 0) ctv k).1, (p_Core_interrupt (upd krv 4 0) ctv k).2) := by
  rw [hk]
  by_cases e4 : krv 4 = 0
  · by_cases e : (p_Devices_interruptBits dvL itv &&& ctv 1) &&& (2048 : Int32) = 0
    · simp only [p_Core_comesToInstruction, p_Core_comesToInstruction_1, p_Core_comesToInstruction_2, p_Core_comesToInstruction_3, p_Core_comesToInstruction_4, p_Core_comesToInstruction_5, p_Core_comesToInstruction_6, p_Core_comesToInstruction_7, p_Core_comesToInstruction_8, p_Core_comesToInstruction_9, p_Core_comesToInstruction_10, p_Core_comesToInstruction_11, p_Core_comesToInstruction_12, p_Core_comesToInstruction_13, p_Core_comesToInstruction_14, p_Core_comesToInstruction_15, p_Core_comesToInstruction_16, p_Core_comesToInstruction_17, p_Core_comesToInstruction_18, p_Core_comesToInstruction_19, p_Core_comesToInstruction_20, p_Core_comesToInstruction_21, p_Core_comesToInstruction_22, p_Core_comesToInstruction_23, p_Core_comesToInstruction_24, p_Core_comesToInstruction_25, p_Core_comesToInstruction_26, p_Core_comesToInstruction_27, p_Core_comesToInstruction_28, p_Core_comesToInstruction_29, p_Core_comesToInstruction_30, p_Core_comesToInstruction_31, p_Core_comesToInstruction_32, p_Core_comesToInstruction_33, if_pos h, if_pos h3, if_pos e4, p_Control_enabledOf, p_Control_interruptsAreOn, if_neg eb, hb, e, zn10, ↓reduceIte]
    · simp only [p_Core_comesToInstruction, p_Core_comesToInstruction_1, p_Core_comesToInstruction_2, p_Core_comesToInstruction_3, p_Core_comesToInstruction_4, p_Core_comesToInstruction_5, p_Core_comesToInstruction_6, p_Core_comesToInstruction_7, p_Core_comesToInstruction_8, p_Core_comesToInstruction_9, p_Core_comesToInstruction_10, p_Core_comesToInstruction_11, p_Core_comesToInstruction_12, p_Core_comesToInstruction_13, p_Core_comesToInstruction_14, p_Core_comesToInstruction_15, p_Core_comesToInstruction_16, p_Core_comesToInstruction_17, p_Core_comesToInstruction_18, p_Core_comesToInstruction_19, p_Core_comesToInstruction_20, p_Core_comesToInstruction_21, p_Core_comesToInstruction_22, p_Core_comesToInstruction_23, p_Core_comesToInstruction_24, p_Core_comesToInstruction_25, p_Core_comesToInstruction_26, p_Core_comesToInstruction_27, p_Core_comesToInstruction_28, p_Core_comesToInstruction_29, p_Core_comesToInstruction_30, p_Core_comesToInstruction_31, p_Core_comesToInstruction_32, p_Core_comesToInstruction_33, if_pos h, if_pos h3, if_pos e4, p_Control_enabledOf, p_Control_interruptsAreOn, if_neg eb, hb, e, zn10, ↓reduceIte]
  · by_cases e : (p_Devices_interruptBits dvL itv &&& ctv 1) &&& (2048 : Int32) = 0
    · simp only [p_Core_comesToInstruction, p_Core_comesToInstruction_1, p_Core_comesToInstruction_2, p_Core_comesToInstruction_3, p_Core_comesToInstruction_4, p_Core_comesToInstruction_5, p_Core_comesToInstruction_6, p_Core_comesToInstruction_7, p_Core_comesToInstruction_8, p_Core_comesToInstruction_9, p_Core_comesToInstruction_10, p_Core_comesToInstruction_11, p_Core_comesToInstruction_12, p_Core_comesToInstruction_13, p_Core_comesToInstruction_14, p_Core_comesToInstruction_15, p_Core_comesToInstruction_16, p_Core_comesToInstruction_17, p_Core_comesToInstruction_18, p_Core_comesToInstruction_19, p_Core_comesToInstruction_20, p_Core_comesToInstruction_21, p_Core_comesToInstruction_22, p_Core_comesToInstruction_23, p_Core_comesToInstruction_24, p_Core_comesToInstruction_25, p_Core_comesToInstruction_26, p_Core_comesToInstruction_27, p_Core_comesToInstruction_28, p_Core_comesToInstruction_29, p_Core_comesToInstruction_30, p_Core_comesToInstruction_31, p_Core_comesToInstruction_32, p_Core_comesToInstruction_33, if_pos h, if_pos h3, if_neg e4, p_Control_enabledOf, p_Control_interruptsAreOn, if_neg eb, hb, e, zn10, ↓reduceIte]
    · simp only [p_Core_comesToInstruction, p_Core_comesToInstruction_1, p_Core_comesToInstruction_2, p_Core_comesToInstruction_3, p_Core_comesToInstruction_4, p_Core_comesToInstruction_5, p_Core_comesToInstruction_6, p_Core_comesToInstruction_7, p_Core_comesToInstruction_8, p_Core_comesToInstruction_9, p_Core_comesToInstruction_10, p_Core_comesToInstruction_11, p_Core_comesToInstruction_12, p_Core_comesToInstruction_13, p_Core_comesToInstruction_14, p_Core_comesToInstruction_15, p_Core_comesToInstruction_16, p_Core_comesToInstruction_17, p_Core_comesToInstruction_18, p_Core_comesToInstruction_19, p_Core_comesToInstruction_20, p_Core_comesToInstruction_21, p_Core_comesToInstruction_22, p_Core_comesToInstruction_23, p_Core_comesToInstruction_24, p_Core_comesToInstruction_25, p_Core_comesToInstruction_26, p_Core_comesToInstruction_27, p_Core_comesToInstruction_28, p_Core_comesToInstruction_29, p_Core_comesToInstruction_30, p_Core_comesToInstruction_31, p_Core_comesToInstruction_32, p_Core_comesToInstruction_33, if_pos h, if_pos h3, if_neg e4, p_Control_enabledOf, p_Control_interruptsAreOn, if_neg eb, hb, e, zn10, ↓reduceIte]
theorem kw_eq {krv bsv mv : Nat → Int32} (h : rWait krv bsv mv) : p_Bus_keepsCoreWaiting bsv = 0 ↔ mv 7 = 0 := by
  unfold p_Bus_keepsCoreWaiting
  have h2 := h.2.1
  by_cases b1 : bsv 1 = 0
  · rw [if_pos b1]
    by_cases b5 : bsv 5 = 0
    · rw [if_pos b5]
      exact ⟨fun _ => Decidable.byContradiction fun q => (h2.mp q).elim (fun z => z b1) (fun z => z.1 b5), fun _ => rfl⟩
    · rw [if_neg b5]
      by_cases b6 : bsv 5 = 4
      · rw [if_pos b6]
        exact ⟨fun _ => Decidable.byContradiction fun q => (h2.mp q).elim (fun z => z b1) (fun z => z.2 b6), fun _ => rfl⟩
      · rw [if_neg b6]
        exact ⟨fun q => absurd q zn10, fun q => absurd q (h2.mpr (Or.inr ⟨b5, b6⟩))⟩
  · rw [if_neg b1]
    exact ⟨fun q => absurd q zn10, fun q => absurd q (h2.mpr (Or.inl b1))⟩
theorem cm_w (mv : Nat → Int32) (mvL : Nat → Int64) (lc la kp cp reg sp sw sv pe : Nat → Int32) (h : ¬ mv 7 = 0) : p_Model_core mv mvL lc la kp cp reg sp sw sv pe = (mv, lc, la, kp, cp, reg, sp, sw, sv) := by
  simp only [p_Model_core, if_neg h]
theorem cm_r (mv : Nat → Int32) (mvL : Nat → Int64) (lc la kp cp reg sp sw sv pe : Nat → Int32) (h : ¬ mv 6 < mv 2) : p_Model_core mv mvL lc la kp cp reg sp sw sv pe = (mv, lc, la, kp, cp, reg, sp, sw, sv) := by
  simp only [p_Model_core, if_neg h, ite_self]
theorem cm_s (mv : Nat → Int32) (mvL : Nat → Int64) (lc la kp cp reg sp sw sv pe : Nat → Int32) (h : mv 7 = 0) (h6 : mv 6 < mv 2) (h4 : ¬ mv 8 = 0) (hb : p_Model_mip mv mvL pe &&& sp 1 = 0) : p_Model_core mv mvL lc la kp cp reg sp sw sv pe = (mv, lc, la, kp, cp, reg, sp, sw, sv) := by
  have hb' : p_Model_mip mv mvL pe &&& sp (1 : Int32).toNatClampNeg = 0 := hb
  simp only [p_Model_core, p_Model_core_1, if_pos h, if_pos h6, if_neg h4, hb', ↓reduceIte]
theorem cm_f (mv : Nat → Int32) (mvL : Nat → Int64) (lc la kp cp reg sp sw sv pe : Nat → Int32) (h : mv 7 = 0) (h6 : mv 6 < mv 2) (h4 : mv 8 = 0 ∨ ¬ p_Model_mip mv mvL pe &&& sp 1 = 0) (hb : sp 0 &&& (8 : Int32) = 0 ∨ p_Model_mip mv mvL pe &&& sp 1 = 0) : p_Model_core mv mvL lc la kp cp reg sp sw sv pe = zfM (upd mv 8 0) mvL lc la kp cp reg sp sw sv pe := by
  have u0 : upd mv 8 0 5 = mv 5 := rfl
  unfold zfM
  rw [u0]
  by_cases e4 : mv 8 = 0
  · by_cases eb : sp 0 &&& (8 : Int32) = 0
    · have eb' : sp (0 : Int32).toNatClampNeg &&& (8 : Int32) = 0 := eb
      simp only [p_Model_core, p_Model_core_1, p_Model_core_2, p_Model_core_3, p_Model_core_4, p_Model_core_5, p_Model_core_6, p_Model_core_7, p_Model_core_8, p_Model_core_9, p_Model_core_10, p_Model_core_11, p_Model_core_12, p_Model_core_13, p_Model_core_14, p_Model_core_15, p_Model_core_16, p_Model_core_17, p_Model_core_18, p_Model_core_19, p_Model_core_20, p_Model_core_21, p_Model_core_22, p_Model_core_23, p_Model_core_24, if_pos h, if_pos h6, if_pos e4, if_pos eb']
    · have eb' : ¬ sp (0 : Int32).toNatClampNeg &&& (8 : Int32) = 0 := eb
      have q : p_Model_mip mv mvL pe &&& sp (1 : Int32).toNatClampNeg = 0 := hb.resolve_left eb
      simp only [p_Model_core, p_Model_core_1, p_Model_core_2, p_Model_core_3, p_Model_core_4, p_Model_core_5, p_Model_core_6, p_Model_core_7, p_Model_core_8, p_Model_core_9, p_Model_core_10, p_Model_core_11, p_Model_core_12, p_Model_core_13, p_Model_core_14, p_Model_core_15, p_Model_core_16, p_Model_core_17, p_Model_core_18, p_Model_core_19, p_Model_core_20, p_Model_core_21, p_Model_core_22, p_Model_core_23, p_Model_core_24, if_pos h, if_pos h6, if_pos e4, if_neg eb', q, ↓reduceIte]
  · have q0 := h4.resolve_left e4
    have q : ¬ p_Model_mip mv mvL pe &&& sp (1 : Int32).toNatClampNeg = 0 := q0
    have eb' : sp (0 : Int32).toNatClampNeg &&& (8 : Int32) = 0 := hb.resolve_right q0
    simp only [p_Model_core, p_Model_core_1, p_Model_core_2, p_Model_core_3, p_Model_core_4, p_Model_core_5, p_Model_core_6, p_Model_core_7, p_Model_core_8, p_Model_core_9, p_Model_core_10, p_Model_core_11, p_Model_core_12, p_Model_core_13, p_Model_core_14, p_Model_core_15, p_Model_core_16, p_Model_core_17, p_Model_core_18, p_Model_core_19, p_Model_core_20, p_Model_core_21, p_Model_core_22, p_Model_core_23, p_Model_core_24, if_pos h, if_pos h6, if_neg e4, if_pos eb', if_neg q]
theorem cm_i (mv : Nat → Int32) (mvL : Nat → Int64) (lc la kp cp reg sp sw sv pe : Nat → Int32) (h : mv 7 = 0) (h6 : mv 6 < mv 2) (hb : ¬ p_Model_mip mv mvL pe &&& sp 1 = 0) (eb : ¬ sp 0 &&& (8 : Int32) = 0) {k : Int32} (hk : k = if p_Model_mip mv mvL pe &&& sp 1 < (2048 : Int32) then 7 else 11) : p_Model_core mv mvL lc la kp cp reg sp sw sv pe = if sp 2 - sp 2 / (2 : Int32) * (2 : Int32) = 0 then ((p_Model_enter (upd mv 8 0) mvL sp (k + (-2147483648 : Int32)) (0 : Int32) (sp 2 &&& (-4 : Int32))).1, lc, la, kp, cp, reg, (p_Model_enter (upd mv 8 0) mvL sp (k + (-2147483648 : Int32)) (0 : Int32) (sp 2 &&& (-4 : Int32))).2, sw, sv) else ((p_Model_enter (upd mv 8 0) mvL sp (k + (-2147483648 : Int32)) (0 : Int32) ((sp 2 &&& (-4 : Int32)) + (4 : Int32) * k)).1, lc, la, kp, cp, reg, (p_Model_enter (upd mv 8 0) mvL sp (k + (-2147483648 : Int32)) (0 : Int32) ((sp 2 &&& (-4 : Int32)) + (4 : Int32) * k)).2, sw, sv) := by
  have eb' : ¬ sp (0 : Int32).toNatClampNeg &&& (8 : Int32) = 0 := eb
  have q : ¬ p_Model_mip mv mvL pe &&& sp (1 : Int32).toNatClampNeg = 0 := hb
  have s2 : sp (2 : Int32).toNatClampNeg = sp 2 := rfl
  have k7 : (7 : Int32) - 2147483647 - 1 = 7 + (-2147483648 : Int32) := by decide
  have k11 : (11 : Int32) - 2147483647 - 1 = 11 + (-2147483648 : Int32) := by decide
  by_cases e : p_Model_mip mv mvL pe &&& sp 1 < (2048 : Int32)
  · have e' : p_Model_mip mv mvL pe &&& sp (1 : Int32).toNatClampNeg < (2048 : Int32) := e
    rw [if_pos e] at hk
    rw [hk]
    by_cases e4 : mv 8 = 0
    · simp only [p_Model_core, p_Model_core_1, p_Model_core_2, p_Model_core_3, p_Model_core_4, p_Model_core_5, p_Model_core_6, p_Model_core_7, p_Model_core_8, p_Model_core_9, p_Model_core_10, p_Model_core_11, p_Model_core_12, p_Model_core_13, p_Model_core_14, p_Model_core_15, p_Model_core_16, p_Model_core_17, p_Model_core_18, p_Model_core_19, p_Model_core_20, p_Model_core_21, p_Model_core_22, p_Model_core_23, p_Model_core_24, if_pos h, if_pos h6, if_pos e4, if_neg eb', if_neg q, if_pos e', s2, k7]
    · simp only [p_Model_core, p_Model_core_1, p_Model_core_2, p_Model_core_3, p_Model_core_4, p_Model_core_5, p_Model_core_6, p_Model_core_7, p_Model_core_8, p_Model_core_9, p_Model_core_10, p_Model_core_11, p_Model_core_12, p_Model_core_13, p_Model_core_14, p_Model_core_15, p_Model_core_16, p_Model_core_17, p_Model_core_18, p_Model_core_19, p_Model_core_20, p_Model_core_21, p_Model_core_22, p_Model_core_23, p_Model_core_24, if_pos h, if_pos h6, if_neg e4, if_neg eb', if_neg q, if_pos e', s2, k7]
  · have e' : ¬ p_Model_mip mv mvL pe &&& sp (1 : Int32).toNatClampNeg < (2048 : Int32) := e
    rw [if_neg e] at hk
    rw [hk]
    by_cases e4 : mv 8 = 0
    · simp only [p_Model_core, p_Model_core_1, p_Model_core_2, p_Model_core_3, p_Model_core_4, p_Model_core_5, p_Model_core_6, p_Model_core_7, p_Model_core_8, p_Model_core_9, p_Model_core_10, p_Model_core_11, p_Model_core_12, p_Model_core_13, p_Model_core_14, p_Model_core_15, p_Model_core_16, p_Model_core_17, p_Model_core_18, p_Model_core_19, p_Model_core_20, p_Model_core_21, p_Model_core_22, p_Model_core_23, p_Model_core_24, if_pos h, if_pos h6, if_pos e4, if_neg eb', if_neg q, if_neg e', s2, k11]
    · simp only [p_Model_core, p_Model_core_1, p_Model_core_2, p_Model_core_3, p_Model_core_4, p_Model_core_5, p_Model_core_6, p_Model_core_7, p_Model_core_8, p_Model_core_9, p_Model_core_10, p_Model_core_11, p_Model_core_12, p_Model_core_13, p_Model_core_14, p_Model_core_15, p_Model_core_16, p_Model_core_17, p_Model_core_18, p_Model_core_19, p_Model_core_20, p_Model_core_21, p_Model_core_22, p_Model_core_23, p_Model_core_24, if_pos h, if_pos h6, if_neg e4, if_neg eb', if_neg q, if_neg e', s2, k11]
/-- S5 -/
theorem core_S5 {n c a : Nat} {mvL : Nat → Int64} {cdv cdB cdW dtv dtB dtW bfv bfP bfV bsv krv rgs ctv acv acC acV mv lc la kp cp reg sp sw sv : Nat → Int32} (hB : CB n c a cdv cdB cdW dtv dtB dtW bfv bfP bfV bsv krv rgs ctv acv acC acV mv lc la kp cp reg sp sw sv) (hR : rRest krv mv) (hc : c < 600000) (ha : a < 2 ^ 30) {dvL : Nat → Int64} {itv hi pe se : Nat → Int32} (hI : rInt itv mv hi pe se) (hT : rTime dvL mvL) : CP n c (a + 1) cdv cdW dtv dtB mv (zkD cdv cdB cdW dtv dtB dtW bfv bfP bfV dvL itv rgs acv acC acV (p_Core_comesToInstruction cdv cdB cdW dvL itv bsv krv ctv)) (p_Model_core mv mvL lc la kp cp reg sp sw sv pe) := by
  have hW := hB.2.2.2.2.2.2.2.2.1
  have hK := hB.2.2.2.2.2.2.2.1
  have hC := hB.2.2.2.2.2.2.1
  have kw := kw_eq hW
  obtain ⟨t, ht, t1⟩ := hB.2.1.2
  obtain ⟨q, t2, t3, t4⟩ : ∃ q : Nat, krv 3 = nI q ∧ q ≤ 7 ∧ ((q = 0 ∧ mv 6 < nI t) ∨ (0 < q ∧ mv 6 = nI (t + (q - 1)))) := by
    obtain ⟨t', q, g1, g2, g3, g4⟩ := hR
    have tn : nI t' = nI t := g1.symm.trans t1
    refine ⟨q, g2, g3, ?_⟩
    rcases g4 with z | z
    · exact Or.inl ⟨z.1, by rw [← tn]; exact z.2⟩
    · refine Or.inr ⟨z.1, ?_⟩
      rw [← nI_add t (q - 1), ← tn, nI_add t' (q - 1), z.2]
      congr 1; omega
  have ib := ib_mip hI hT
  have e0 : ctv 0 = sp 0 := hC 0 (by omega)
  have e1 : ctv 1 = sp 1 := hC 1 (by omega)
  by_cases h7 : mv 7 = 0
  · by_cases q0 : q = 0
    · have k3 : krv 3 = 0 := by rw [t2, q0]; rfl
      have k3' : krv 3 ≤ 0 := by rw [k3]; decide
      have h6 : mv 6 < mv 2 := by
        rw [t1]
        rcases t4 with z | z
        · exact z.2
        · omega
      have h : CI n c a cdv cdB cdW dtv dtB dtW bfv bfP bfV bsv krv rgs ctv acv acC acV mv lc la kp cp reg sp sw sv := ⟨hB, h7, k3, h6, hc, ha⟩
      have hw := ci_wake h
      by_cases s : mv 8 = 0 ∨ ¬ p_Model_mip mv mvL pe &&& sp 1 = 0
      · have s' : krv 4 = 0 ∨ ¬ p_Devices_interruptBits dvL itv &&& ctv 1 = 0 := by rw [ib, e1, hK.2.2.1]; exact s
        by_cases f : sp 0 &&& (8 : Int32) = 0 ∨ p_Model_mip mv mvL pe &&& sp 1 = 0
        · have f' : ctv 0 &&& (8 : Int32) = 0 ∨ p_Devices_interruptBits dvL itv &&& ctv 1 = 0 := by rw [ib, e1, e0]; exact f
          rw [ct_f cdv cdB cdW dvL itv bsv krv ctv (kw.mpr h7) k3' s' f', cm_f mv mvL lc la kp cp reg sp sw sv pe h7 h6 s f, zkD_f]
          have z := o_fetch hw (itv := itv) (hi := hi) (pe := pe) (se := se) (dvL := dvL) (mvL := mvL) hI hT
          exact ⟨z.1, z.2.1, fun j hj => (z.2.2 j hj).trans (pk_un (by omega))⟩
        · have f1 : ¬ sp 0 &&& (8 : Int32) = 0 := fun z => f (Or.inl z)
          have f2 : ¬ p_Model_mip mv mvL pe &&& sp 1 = 0 := fun z => f (Or.inr z)
          have d := a_due mv mvL pe (sp 1)
          rw [ct_i cdv cdB cdW dvL itv bsv krv ctv (kw.mpr h7) k3' (by rw [ib, e1]; exact f2) (by rw [e0]; exact f1) rfl, cm_i mv mvL lc la kp cp reg sp sw sv pe h7 h6 f2 f1 rfl]
          have hk : (if (p_Devices_interruptBits dvL itv &&& ctv 1) &&& (2048 : Int32) = 0 then (7 : Int32) else 11) = if p_Model_mip mv mvL pe &&& sp 1 < (2048 : Int32) then 7 else 11 := by
            rw [ib, e1]
            by_cases z : p_Model_mip mv mvL pe &&& sp 1 < (2048 : Int32)
            · rw [if_pos z, if_pos (d.mpr z)]
            · rw [if_neg z, if_neg (fun y => z (d.mp y))]
          rw [hk]
          have z := o_int (mvL := mvL) hw (if p_Model_mip mv mvL pe &&& sp 1 < (2048 : Int32) then (7 : Int32) else 11)
          unfold zkD
          rw [if_pos rfl]
          exact ⟨z.1, z.2.1, fun j hj => (z.2.2 j hj).trans (pk_un (by omega))⟩
      · have s1 : ¬ mv 8 = 0 := fun z => s (Or.inl z)
        have s2 : p_Model_mip mv mvL pe &&& sp 1 = 0 := Decidable.byContradiction fun z => s (Or.inr z)
        rw [ct_s cdv cdB cdW dvL itv bsv krv ctv (kw.mpr h7) k3' (by rw [hK.2.2.1]; exact s1) (by rw [ib, e1]; exact s2), cm_s mv mvL lc la kp cp reg sp sw sv pe h7 h6 s1 s2]
        unfold zkD
        rw [if_pos rfl]
        exact o_stay h
    · have z6 : mv 6 = nI (t + (q - 1)) := by
        rcases t4 with z | z
        · exact absurd z.1 q0
        · exact z.2
      have k3' : ¬ krv 3 ≤ 0 := by rw [t2]; exact nI_nle (by omega) (by omega)
      have h6 : ¬ mv 6 < mv 2 := by
        rw [z6, t1]
        exact nI_nlt (by omega) (by omega)
      rw [ct_r cdv cdB cdW dvL itv bsv krv ctv (kw.mpr h7) k3', cm_r mv mvL lc la kp cp reg sp sw sv pe h6]
      unfold zkD
      rw [if_pos rfl]
      have kf : ∀ j, j ≠ 3 → upd krv 3 (krv 3 - (1 : Int32)) j = krv j := fun j a => pk_un a
      refine ⟨cb_g hB h7 (kf 1 (by decide)) (ra_mono hB.2.2.1 (by omega)) hB.2.2.2.2.2.1 hC (rc_up hK (hK.1) (hK.2.1) (hK.2.2.1) hK.2.2.2.1 (fun j a b => kf j (by omega)) (fun _ _ _ => rfl)) (fun _ _ _ _ _ _ _ => rfl), ?_, fun _ _ => rfl⟩
      refine ⟨t, q - 1, t1, ?_, by omega, ?_⟩
      · show upd krv 3 (krv 3 - (1 : Int32)) 3 = nI (q - 1)
        rw [pk_us, t2, show q = (q - 1) + 1 by omega, nI_pred, show q - 1 + 1 - 1 = q - 1 by omega]
      · by_cases q1 : q = 1
        · left
          refine ⟨by omega, ?_⟩
          show mv 6 < nI (t + 1)
          rw [z6]
          exact nI_lt (by omega) (by omega)
        · right
          refine ⟨by omega, ?_⟩
          exact z6
  · have k3 : krv 3 = 0 := hW.2.2 h7
    rw [ct_w cdv cdB cdW dvL itv bsv krv ctv (fun z => h7 (kw.mp z)), cm_w mv mvL lc la kp cp reg sp sw sv pe h7]
    unfold zkD
    rw [if_pos rfl]
    refine ⟨cb_mono hB (by omega), ⟨t, 0, t1, k3, by omega, Or.inl ⟨rfl, ?_⟩⟩, fun _ _ => rfl⟩
    have q0 : q = 0 := (nI_eq (b := 0) (by omega) (by omega)).mp (t2.symm.trans k3)
    rcases t4 with z | z
    · show mv 6 < nI (t + 1)
      exact Int32.lt_trans z.2 (nI_lt (by omega) (by omega))
    · omega

