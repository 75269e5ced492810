/-! S5: acting in its three forms, and jumps -/
def C6 (n c a : Nat) (cdv cdB cdW dtv dtB dtW bfv bfP bfV bsv kp cp sw sv mv : Nat → Int32) (q : (Nat → Int32) × (Nat → Int32) × (Nat → Int32) × (Nat → Int32) × (Nat → Int32) × (Nat → Int32)) (s : (Nat → Int32) × (Nat → Int32) × (Nat → Int32) × (Nat → Int32) × (Nat → Int32)) : Prop := CP n c a cdv cdW dtv dtB mv (cdB, dtW, bfv, bfP, bfV, bsv, q.1, q.2.1, q.2.2.1, q.2.2.2.1, q.2.2.2.2.1, q.2.2.2.2.2) (s.1, s.2.1, s.2.2.1, kp, cp, s.2.2.2.1, s.2.2.2.2, sw, sv)
theorem k6_act {n c a : Nat} {mvL : Nat → Int64} {cdv cdB cdW dtv dtB dtW bfv bfP bfV bsv krv rgs ctv acv acC acV mv lc la kp cp reg sp sw sv : Nat → Int32} (h : CI n c a cdv cdB cdW dtv dtB dtW bfv bfP bfV bsv krv rgs ctv acv acC acV mv lc la kp cp reg sp sw sv) (k : Int32) : C6 n c (a + 1) cdv cdB cdW dtv dtB dtW bfv bfP bfV bsv kp cp sw sv mv (upd krv 0 k, rgs, ctv, (p_Core_act krv acv acC acV k).2.1, (p_Core_act krv acv acC acV k).2.2.1, (p_Core_act krv acv acC acV k).2.2.2) ((p_Model_act mv mvL lc la k).1, (p_Model_act mv mvL lc la k).2.1, (p_Model_act mv mvL lc la k).2.2, reg, sp) := o_act (mvL := mvL) h h.1.2.2.2.2.2.1 h.1.2.2.2.2.2.2.1 k
theorem k6_trap {n c a : Nat} {mvL : Nat → Int64} {cdv cdB cdW dtv dtB dtW bfv bfP bfV bsv krv rgs ctv acv acC acV mv lc la kp cp reg sp sw sv : Nat → Int32} (h : CI n c a cdv cdB cdW dtv dtB dtW bfv bfP bfV bsv krv rgs ctv acv acC acV mv lc la kp cp reg sp sw sv) (k x : Int32) : C6 n c (a + 1) cdv cdB cdW dtv dtB dtW bfv bfP bfV bsv kp cp sw sv mv ((p_Core_trap krv ctv k x).1, rgs, (p_Core_trap krv ctv k x).2, acv, acC, acV) ((p_Model_trap mv mvL sp k x).1, lc, la, reg, (p_Model_trap mv mvL sp k x).2) := o_trap (mvL := mvL) h k x
theorem k6_set {n c a : Nat} {mvL : Nat → Int64} {cdv cdB cdW dtv dtB dtW bfv bfP bfV bsv krv rgs ctv acv acC acV mv lc la kp cp reg sp sw sv : Nat → Int32} (h : CI n c a cdv cdB cdW dtv dtB dtW bfv bfP bfV bsv krv rgs ctv acv acC acV mv lc la kp cp reg sp sw sv) (d x : Int32) (hd : vp_in d 32) : C6 n c (a + 1) cdv cdB cdW dtv dtB dtW bfv bfP bfV bsv kp cp sw sv mv ((p_Core_actWith krv rgs acv acC acV d x).1, (p_Core_actWith krv rgs acv acC acV d x).2.1, ctv, (p_Core_actWith krv rgs acv acC acV d x).2.2.1, (p_Core_actWith krv rgs acv acC acV d x).2.2.2.1, (p_Core_actWith krv rgs acv acC acV d x).2.2.2.2) ((p_Model_set mv mvL lc la reg d x).1, (p_Model_set mv mvL lc la reg d x).2.1, (p_Model_set mv mvL lc la reg d x).2.2.1, (p_Model_set mv mvL lc la reg d x).2.2.2, sp) := by
  rw [set_M, ← h.1.2.2.2.2.2.2.2.1.1]
  exact o_act (mvL := mvL) h (reg_eq krv x hd h.1.2.2.2.2.2.1) h.1.2.2.2.2.2.2.1 (krv 0 + (4 : Int32))
theorem k6_setq {n c a : Nat} {mvL : Nat → Int64} {cdv cdB cdW dtv dtB dtW bfv bfP bfV bsv krv rgs ctv acv acC acV mv lc la kp cp reg sp sw sv : Nat → Int32} (h : CI n c a cdv cdB cdW dtv dtB dtW bfv bfP bfV bsv krv rgs ctv acv acC acV mv lc la kp cp reg sp sw sv) (d x : Int32) (hd : vp_in d 32) (q : Nat) (q0 : 0 < q) (q7 : q ≤ 7) : C6 n c (a + 1) cdv cdB cdW dtv dtB dtW bfv bfP bfV bsv kp cp sw sv mv (upd (p_Core_actWith krv rgs acv acC acV d x).1 3 (nI q), (p_Core_actWith krv rgs acv acC acV d x).2.1, ctv, (p_Core_actWith krv rgs acv acC acV d x).2.2.1, (p_Core_actWith krv rgs acv acC acV d x).2.2.2.1, (p_Core_actWith krv rgs acv acC acV d x).2.2.2.2) (upd (p_Model_set mv mvL lc la reg d x).1 6 ((p_Model_set mv mvL lc la reg d x).1 2 + nI q), (p_Model_set mv mvL lc la reg d x).2.1, (p_Model_set mv mvL lc la reg d x).2.2.1, (p_Model_set mv mvL lc la reg d x).2.2.2, sp) := by
  rw [set_M, ← h.1.2.2.2.2.2.2.2.1.1]
  exact o_actq (mvL := mvL) h (reg_eq krv x hd h.1.2.2.2.2.2.1) h.1.2.2.2.2.2.2.1 (krv 0 + (4 : Int32)) q q0 q7
theorem o_jump {n c a : Nat} {mvL : Nat → Int64} {cdv cdB cdW dtv dtB dtW bfv bfP bfV bsv krv rgs ctv acv acC acV mv lc la kp cp reg sp sw sv : Nat → Int32} (h : CI n c a cdv cdB cdW dtv dtB dtW bfv bfP bfV bsv krv rgs ctv acv acC acV mv lc la kp cp reg sp sw sv) (d x : Int32) (hd : vp_in d 32) : C6 n c (a + 1) cdv cdB cdW dtv dtB dtW bfv bfP bfV bsv kp cp sw sv mv (p_Core_jump krv rgs ctv acv acC acV d x) (p_Model_jump mv mvL lc la reg sp d x) := by
  have hG := h.1.2.2.2.2.2.1
  have hC := h.1.2.2.2.2.2.2.1
  have hK := h.1.2.2.2.2.2.2.2.1
  by_cases hx : x &&& (2 : Int32) = (0 : Int32)
  · have e := o_actq (mvL := mvL) h (reg_eq krv (krv 0 + (4 : Int32)) hd hG) hC x 1 (by omega) (by omega)
    rw [p_Core_jump, p_Model_jump, if_pos hx, if_pos hx]
    by_cases d0 : d ≤ (0 : Int32)
    · rw [if_pos d0] at e ⊢
      exact e
    · rw [if_neg d0] at e ⊢
      rw [hK.1] at e
      rw [hK.1]
      exact e
  · rw [p_Core_jump, p_Model_jump, if_neg hx, if_neg hx]
    exact k6_trap h 0 x
theorem vp_31 (x : Int32) : vp_in (x &&& (31 : Int32)) 32 := pk_andIn x 5 rfl (by decide)
theorem vp_fD (w : Int32) : vp_in (p_Core_fieldD w) 32 := vp_31 _
theorem rg_A {rgs reg : Nat → Int32} (h : rReg rgs reg) {d : Int32} (hd : vp_in d 32) : rgs d.toNatClampNeg = reg d.toNatClampNeg := h.2 _ (Nat.lt_of_not_le fun e => hd (Or.inr e))
