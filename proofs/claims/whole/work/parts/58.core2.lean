/-! S5: traps and wishes -/
theorem ct_up {ctv sp : Nat → Int32} (h : rCtl ctv sp) (j : Nat) (x : Int32) : rCtl (upd ctv j x) (upd sp j x) := by
  intro i hi
  by_cases e : i = j
  · rw [e, pk_us, pk_us]
  · rw [pk_un e, pk_un e]; exact h i hi
theorem en_M (mv : Nat → Int32) (mvL : Nat → Int64) (sp : Nat → Int32) (k x y : Int32) : p_Model_enter mv mvL sp k x y = (upd (upd (upd mv 5 y) 6 (mv 2 + (1 : Int32))) 4 (mv 4 + (1 : Int32)), upd (upd (upd (upd sp 4 (mv 5)) 5 k) 6 x) 0 (if sp 0 &&& (8 : Int32) = (0 : Int32) then (0 : Int32) else (128 : Int32))) := by
  unfold p_Model_enter
  by_cases h : sp 0 &&& (8 : Int32) = (0 : Int32)
  · rw [if_pos (show (upd (upd (upd sp ((4 : Int32).toNatClampNeg) (mv 5)) ((5 : Int32).toNatClampNeg) k) ((6 : Int32).toNatClampNeg) x) ((0 : Int32).toNatClampNeg) &&& (8 : Int32) = (0 : Int32) from h), if_pos h]; rfl
  · rw [if_neg (show ¬ (upd (upd (upd sp ((4 : Int32).toNatClampNeg) (mv 5)) ((5 : Int32).toNatClampNeg) k) ((6 : Int32).toNatClampNeg) x) ((0 : Int32).toNatClampNeg) &&& (8 : Int32) = (0 : Int32) from h), if_neg h]; rfl
theorem en_C (ctv : Nat → Int32) (k x y : Int32) : p_Control_enterTrap ctv k x y = upd (upd (upd (upd ctv 4 y) 5 k) 6 x) 0 (if ctv 0 &&& (8 : Int32) = (0 : Int32) then (0 : Int32) else (128 : Int32)) := by
  unfold p_Control_enterTrap
  by_cases h : ctv 0 &&& (8 : Int32) = (0 : Int32)
  · rw [if_pos h, if_pos h]
  · rw [if_neg h, if_neg h]
theorem o_ent {n c a : Nat} {mvL : Nat → Int64} {cdv cdB cdW dtv dtB dtW bfv bfP bfV bsv krv rgs ctv acv acC acV mv lc la kp cp reg sp sw sv : Nat → Int32} (h : CI n c a cdv cdB cdW dtv dtB dtW bfv bfP bfV bsv krv rgs ctv acv acC acV mv lc la kp cp reg sp sw sv) (k x y : Int32) : CP n c (a + 1) cdv cdW dtv dtB mv (cdB, dtW, bfv, bfP, bfV, bsv, p_Core_goToTrap krv y, rgs, p_Control_enterTrap ctv k x (krv 0), acv, acC, acV) ((p_Model_enter mv mvL sp k x y).1, lc, la, kp, cp, reg, (p_Model_enter mv mvL sp k x y).2, sw, sv) := by
  obtain ⟨hB, h7, h3, h6, hc, ha⟩ := h
  have hK := hB.2.2.2.2.2.2.2.1
  have hC := hB.2.2.2.2.2.2.1
  rw [en_M, en_C]
  have f : ∀ j, j ≠ 4 → j ≠ 5 → j ≠ 6 → upd (upd (upd mv 5 y) 6 (mv 2 + (1 : Int32))) 4 (mv 4 + (1 : Int32)) j = mv j := fun j a4 a5 a6 => by rw [pk_un a4, pk_un a6, pk_un a5]
  have kf : ∀ j, j ≠ 0 → j ≠ 2 → j ≠ 3 → p_Core_goToTrap krv y j = krv j := fun j a0 a2 a3 => by
    show upd (upd (upd krv 2 (krv 2 + (1 : Int32))) 0 y) 3 (1 : Int32) j = krv j
    rw [pk_un a3, pk_un a0, pk_un a2]
  have hA : rActB (a + 1) acv acC acV (upd (upd (upd mv 5 y) 6 (mv 2 + (1 : Int32))) 4 (mv 4 + (1 : Int32))) lc la := by
    obtain ⟨a1, ⟨b, hb, a2⟩, a3⟩ := hB.2.2.1
    exact ⟨a1.trans (f 3 (by decide) (by decide) (by decide)).symm, ⟨b, by omega, (f 3 (by decide) (by decide) (by decide)).trans a2⟩, a3⟩
  have hC' : rCtl (upd (upd (upd (upd ctv 4 (krv 0)) 5 k) 6 x) 0 (if ctv 0 &&& (8 : Int32) = (0 : Int32) then (0 : Int32) else (128 : Int32))) (upd (upd (upd (upd sp 4 (mv 5)) 5 k) 6 x) 0 (if sp 0 &&& (8 : Int32) = (0 : Int32) then (0 : Int32) else (128 : Int32))) := by
    rw [hC 0 (by omega), hK.1]
    exact ct_up (ct_up (ct_up (ct_up hC 4 _) 5 _) 6 _) 0 _
  refine ⟨cb_g hB h7 (kf 1 (by decide) (by decide) (by decide)) hA hB.2.2.2.2.2.1 hC' (rc_up hK ?_ ?_ ?_ ?_ (fun j a b => kf j (by omega) (by omega) (by omega)) (fun j a b => f j (by omega) (by omega) (by omega))) (fun j a b d e g i => f j b d e), ?_, fun j hj => f j (by omega) (by omega) (by omega)⟩
  · show upd (upd (upd krv 2 (krv 2 + (1 : Int32))) 0 y) 3 (1 : Int32) 0 = upd (upd (upd mv 5 y) 6 (mv 2 + (1 : Int32))) 4 (mv 4 + (1 : Int32)) 5
    rw [pk_un (by decide), pk_us, pk_un (by decide), pk_un (by decide), pk_us]
  · show upd (upd (upd krv 2 (krv 2 + (1 : Int32))) 0 y) 3 (1 : Int32) 2 = upd (upd (upd mv 5 y) 6 (mv 2 + (1 : Int32))) 4 (mv 4 + (1 : Int32)) 4
    rw [pk_un (by decide), pk_un (by decide), pk_us, pk_us, hK.2.1]
  · exact (kf 4 (by decide) (by decide) (by decide)).trans (hK.2.2.1.trans (f 8 (by decide) (by decide) (by decide)).symm)
  · exact hK.2.2.2.1.imp (fun e => (f 8 (by decide) (by decide) (by decide)).trans e) (fun e => (f 8 (by decide) (by decide) (by decide)).trans e)
  · obtain ⟨t, ht, e⟩ := hB.2.1.2
    refine ⟨t, 1, (f 2 (by decide) (by decide) (by decide)).trans e, rfl, by omega, Or.inr ⟨by omega, ?_⟩⟩
    show upd (upd (upd mv 5 y) 6 (mv 2 + (1 : Int32))) 4 (mv 4 + (1 : Int32)) 6 = nI (t + 1)
    rw [pk_un (by decide), pk_us, e, nI_1]
theorem o_trap {n c a : Nat} {mvL : Nat → Int64} {cdv cdB cdW dtv dtB dtW bfv bfP bfV bsv krv rgs ctv acv acC acV mv lc la kp cp reg sp sw sv : Nat → Int32} (h : CI n c a cdv cdB cdW dtv dtB dtW bfv bfP bfV bsv krv rgs ctv acv acC acV mv lc la kp cp reg sp sw sv) (k x : Int32) : CP n c (a + 1) cdv cdW dtv dtB mv (cdB, dtW, bfv, bfP, bfV, bsv, (p_Core_trap krv ctv k x).1, rgs, (p_Core_trap krv ctv k x).2, acv, acC, acV) ((p_Model_trap mv mvL sp k x).1, lc, la, kp, cp, reg, (p_Model_trap mv mvL sp k x).2, sw, sv) := by
  have hC := h.1.2.2.2.2.2.2.1
  have e1 : p_Core_trap krv ctv k x = (p_Core_goToTrap krv (sp 2 &&& (-4 : Int32)), p_Control_enterTrap ctv k x (krv 0)) := by
    show (p_Core_goToTrap krv ((p_Control_enterTrap ctv k x (krv 0)) 2 &&& (-4 : Int32)), p_Control_enterTrap ctv k x (krv 0)) = _
    rw [en_C, pk_un (by decide), pk_un (by decide), pk_un (by decide), pk_un (by decide), hC 2 (by omega)]
  have e2 : p_Model_trap mv mvL sp k x = p_Model_enter mv mvL sp k x (sp 2 &&& (-4 : Int32)) := rfl
  rw [e1, e2]
  exact o_ent h k x _
/-- the core wakes -/
theorem ci_wake {n c a : Nat} {cdv cdB cdW dtv dtB dtW bfv bfP bfV bsv krv rgs ctv acv acC acV mv lc la kp cp reg sp sw sv : Nat → Int32} (h : CI n c a cdv cdB cdW dtv dtB dtW bfv bfP bfV bsv krv rgs ctv acv acC acV mv lc la kp cp reg sp sw sv) : CI n c a cdv cdB cdW dtv dtB dtW bfv bfP bfV bsv (upd krv 4 0) rgs ctv acv acC acV (upd mv 8 0) lc la kp cp reg sp sw sv := by
  obtain ⟨hB, h7, h3, h6, hc, ha⟩ := h
  have hK := hB.2.2.2.2.2.2.2.1
  have f : ∀ j, j ≠ 8 → upd mv 8 0 j = mv j := fun j a => pk_un a
  have kf : ∀ j, j ≠ 4 → upd krv 4 0 j = krv j := fun j a => pk_un a
  have hA : rActB a acv acC acV (upd mv 8 0) lc la := by
    obtain ⟨a1, ⟨b, hb, a2⟩, a3⟩ := hB.2.2.1
    exact ⟨a1.trans (f 3 (by decide)).symm, ⟨b, by omega, (f 3 (by decide)).trans a2⟩, a3⟩
  refine ⟨cb_g hB h7 (kf 1 (by decide)) hA hB.2.2.2.2.2.1 hB.2.2.2.2.2.2.1 (rc_up hK ?_ ?_ ?_ (Or.inl pk_us) (fun j a b => kf j (by omega)) (fun j a b => f j (by omega))) (fun j a b d e g i => f j g), (f 7 (by decide)).trans h7, (kf 3 (by decide)).trans h3, ?_, hc, ha⟩
  · exact (kf 0 (by decide)).trans (hK.1.trans (f 5 (by decide)).symm)
  · exact (kf 2 (by decide)).trans (hK.2.1.trans (f 4 (by decide)).symm)
  · rw [pk_us, pk_us]
  · rw [f 6 (by decide), f 2 (by decide)]; exact h6
/-- wfi -/
theorem o_wfi {n c a : Nat} {mvL : Nat → Int64} {cdv cdB cdW dtv dtB dtW bfv bfP bfV bsv krv rgs ctv acv acC acV mv lc la kp cp reg sp sw sv : Nat → Int32} (h : CI n c a cdv cdB cdW dtv dtB dtW bfv bfP bfV bsv krv rgs ctv acv acC acV mv lc la kp cp reg sp sw sv) (k : Int32) : CP n c (a + 1) cdv cdW dtv dtB mv (cdB, dtW, bfv, bfP, bfV, bsv, upd (upd krv 0 k) 4 1, rgs, ctv, (p_Core_act krv acv acC acV k).2.1, (p_Core_act krv acv acC acV k).2.2.1, (p_Core_act krv acv acC acV k).2.2.2) ((p_Model_act (upd mv 8 1) mvL lc la k).1, (p_Model_act (upd mv 8 1) mvL lc la k).2.1, (p_Model_act (upd mv 8 1) mvL lc la k).2.2, kp, cp, reg, sp, sw, sv) := by
  obtain ⟨hB, h7, h3, h6, hc, ha⟩ := h
  have hK := hB.2.2.2.2.2.2.2.1
  have f : ∀ j, j ≠ 3 → j ≠ 5 → j ≠ 8 → (p_Model_act (upd mv 8 1) mvL lc la k).1 j = mv j := fun j a3 a5 a8 => by
    show upd (upd (upd mv 8 1) 3 ((upd mv 8 1) 3 + (1 : Int32))) 5 k j = mv j
    rw [pk_un a5, pk_un a3, pk_un a8]
  have kf : ∀ j, j ≠ 0 → j ≠ 4 → upd (upd krv 0 k) 4 1 j = krv j := fun j a0 a4 => by rw [pk_un a4, pk_un a0]
  have hA0 : rActB a acv acC acV (upd mv 8 1) lc la := by
    obtain ⟨a1, ⟨b, hb, a2⟩, a3⟩ := hB.2.2.1
    exact ⟨a1, ⟨b, by omega, a2⟩, a3⟩
  refine ⟨cb_g hB h7 (kf 1 (by decide) (by decide)) (act_eq (mvL := mvL) k k ha hA0 hB.2.1.1 hK.1) hB.2.2.2.2.2.1 hB.2.2.2.2.2.2.1 (rc_up hK ?_ ?_ ?_ (Or.inr ?_) (fun j a b => kf j (by omega) (by omega)) (fun j a b => f j (by omega) (by omega) (by omega))) (fun j a b d e g i => f j a d g), ?_, fun j hj => f j (by omega) (by omega) (by omega)⟩
  · show upd (upd krv 0 k) 4 1 0 = upd (upd (upd mv 8 1) 3 ((upd mv 8 1) 3 + (1 : Int32))) 5 k 5
    rw [pk_un (by decide), pk_us, pk_us]
  · exact (kf 2 (by decide) (by decide)).trans (hK.2.1.trans (f 4 (by decide) (by decide) (by decide)).symm)
  · show upd (upd krv 0 k) 4 1 4 = upd (upd (upd mv 8 1) 3 ((upd mv 8 1) 3 + (1 : Int32))) 5 k 8
    rw [pk_us, pk_un (by decide), pk_un (by decide), pk_us]
  · show upd (upd (upd mv 8 1) 3 ((upd mv 8 1) 3 + (1 : Int32))) 5 k 8 = 1
    rw [pk_un (by decide), pk_un (by decide), pk_us]
  · refine rest_0 (c := c) ⟨?_, ?_⟩ hc ((kf 3 (by decide) (by decide)).trans h3) ?_
    · exact (kf 1 (by decide) (by decide)).trans (hB.2.1.1.trans (f 2 (by decide) (by decide) (by decide)).symm)
    · obtain ⟨t, ht, e⟩ := hB.2.1.2; exact ⟨t, ht, (f 2 (by decide) (by decide) (by decide)).trans e⟩
    · show (p_Model_act (upd mv 8 1) mvL lc la k).1 6 < (p_Model_act (upd mv 8 1) mvL lc la k).1 2
      rw [f 6 (by decide) (by decide) (by decide), f 2 (by decide) (by decide) (by decide)]; exact h6
/-- a wish of the core -/
theorem o_want {n c a : Nat} {cdv cdB cdW dtv dtB dtW bfv bfP bfV bsv krv rgs ctv acv acC acV mv lc la kp cp reg sp sw sv : Nat → Int32} (h : CI n c a cdv cdB cdW dtv dtB dtW bfv bfP bfV bsv krv rgs ctv acv acC acV mv lc la kp cp reg sp sw sv) {krv' mv' : Nat → Int32} {w j : Nat} (w0 : 0 < w) (w3 : w ≤ 3) (hj : j < 32) (kf : ∀ i, i < 5 → krv' i = krv i) (f : ∀ i, i ≠ 7 → i ≠ 9 → i ≠ 10 → (i < 15 ∨ 18 < i) → mv' i = mv i) (f9 : mv' 9 = nI w) (f10 : mv' 10 = nI j) (f7 : mv' 7 = 1) (hK' : rCore krv' mv') : CP n c (a + 1) cdv cdW dtv dtB mv (cdB, dtW, bfv, bfP, bfV, p_Bus_want bsv (nI w) (nI j), krv', rgs, ctv, acv, acC, acV) (mv', lc, la, kp, cp, reg, sp, sw, sv) := by
  obtain ⟨hB, h7, h3, h6, hc, ha⟩ := h
  obtain ⟨h1, h2, ha3, h4, h5, hG, hC, hK, hW, hU, hF⟩ := hB
  have b : ∀ i, i ≠ 1 → i ≠ 2 → p_Bus_want bsv (nI w) (nI j) i = bsv i := fun i b1 b2 => by
    show upd (upd bsv 1 (nI w)) 2 (nI j) i = bsv i
    rw [pk_un b2, pk_un b1]
  have b1 : p_Bus_want bsv (nI w) (nI j) 1 = nI w := rfl
  have b2 : p_Bus_want bsv (nI w) (nI j) 2 = nI j := rfl
  have g : ∀ i, i ≠ 7 → i ≠ 9 → i ≠ 10 → (i < 15 ∨ 18 < i) → mv' i = mv i := f
  have e0 : mv' 0 = mv 0 := f 0 (by decide) (by decide) (by decide) (by decide)
  have e1 : mv' 1 = mv 1 := f 1 (by decide) (by decide) (by decide) (by decide)
  have e2 : mv' 2 = mv 2 := f 2 (by decide) (by decide) (by decide) (by decide)
  have e3 : mv' 3 = mv 3 := f 3 (by decide) (by decide) (by decide) (by decide)
  have e6 : mv' 6 = mv 6 := f 6 (by decide) (by decide) (by decide) (by decide)
  have e11 : mv' 11 = mv 11 := f 11 (by decide) (by decide) (by decide) (by decide)
  have e12 : mv' 12 = mv 12 := f 12 (by decide) (by decide) (by decide) (by decide)
  have e13 : mv' 13 = mv 13 := f 13 (by decide) (by decide) (by decide) (by decide)
  have e14 : mv' 14 = mv 14 := f 14 (by decide) (by decide) (by decide) (by decide)
  have e19 : mv' 19 = mv 19 := f 19 (by decide) (by decide) (by decide) (by decide)
  have nw : ¬ nI w = (0 : Int32) := fun e => by
    have : w = 1 ∨ w = 2 ∨ w = 3 := by omega
    rcases this with rfl | rfl | rfl <;> exact absurd e (by decide)
  have n5 : mv 11 = 0 ∨ mv 11 = 4 := by
    have hn : ¬ (¬ bsv 1 = 0 ∨ (¬ bsv 5 = 0 ∧ ¬ bsv 5 = 4)) := fun x => hW.2.1.mpr x h7
    by_cases x : bsv 5 = 0
    · exact Or.inl (hU.2.1.symm.trans x)
    · by_cases y : bsv 5 = 4
      · exact Or.inr (hU.2.1.symm.trans y)
      · exact absurd (Or.inr ⟨x, y⟩) hn
  refine ⟨⟨?_, ?_, ?_, h4, h5, hG, hC, hK', ?_, ?_, ?_⟩, ?_, fun i hi => f i (by omega) (by omega) (by omega) (by omega)⟩
  · obtain ⟨n1, n2, n3, n4, n6, n7, n8⟩ := h1
    exact ⟨n1, n2, e1.trans n3, n4, n6, (b 0 (by decide) (by decide)).trans (n7.trans e0.symm), by obtain ⟨l, l1, l2, l3⟩ := n8; exact ⟨l, l1, l2, e0.trans l3⟩⟩
  · exact ⟨(kf 1 (by decide)).trans (h2.1.trans e2.symm), by obtain ⟨t, ht, e⟩ := h2.2; exact ⟨t, ht, e2.trans e⟩⟩
  · exact ⟨ha3.1.trans e3.symm, by obtain ⟨q, hq, e⟩ := ha3.2.1; exact ⟨q, by omega, e3.trans e⟩, ha3.2.2⟩
  · exact ⟨Or.inr f7, ⟨fun _ => Or.inl (by show ¬ p_Bus_want bsv (nI w) (nI j) 1 = 0; rw [b1]; exact nw), fun _ => by show ¬ mv' 7 = 0; rw [f7]; decide⟩, fun _ => (kf 3 (by decide)).trans h3⟩
  · obtain ⟨u1, u2, u3, u4, u5, u6, u7, u8, u9, u10, u11⟩ := hU
    refine ⟨b1.trans f9.symm, (b 5 (by decide) (by decide)).trans (u2.trans e11.symm), ⟨w, w3, f9⟩, ?_, fun _ => f10.trans b2.symm, ?_, ?_, ?_, ?_, ⟨j, hj, b2⟩, fun _ => n5.imp (fun x => e11.trans x) (fun x => e11.trans x)⟩
    · obtain ⟨q, hq, e⟩ := u4; exact ⟨q, hq, e11.trans e⟩
    · intro x
      exfalso
      have x' : mv 11 = 1 ∨ mv 11 = 2 := x.imp (fun y => e11.symm.trans y) (fun y => e11.symm.trans y)
      rcases n5 with y | y <;> rcases x' with z | z <;> rw [y] at z <;> exact absurd z (by decide)
    · intro x
      exact (b 3 (by decide) (by decide)).trans ((u7 (fun y => x (e11.trans y))).trans e13.symm)
    · exact u8.imp (fun x => e14.trans x) (fun x => e14.trans x)
    · show ¬ mv' 14 = 0 ↔ _
      rw [e14]
      exact u9
  · obtain ⟨f1, ⟨q, hq, f2⟩, f3, f4⟩ := hF
    exact ⟨f1.trans e19.symm, ⟨q, hq, e19.trans f2⟩, f3, fun x y => f4 (e11.symm.trans x) (e19.symm.trans y)⟩
  · refine rest_0 (c := c) ⟨(kf 1 (by decide)).trans (h2.1.trans e2.symm), by obtain ⟨t, ht, e⟩ := h2.2; exact ⟨t, ht, e2.trans e⟩⟩ hc ((kf 3 (by decide)).trans h3) ?_
    show mv' 6 < mv' 2
    rw [e6, e2]; exact h6
