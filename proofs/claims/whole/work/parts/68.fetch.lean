/-! S5: fetching and interrupts -/
theorem a_m2 (t : Int32) : t &&& (1 : Int32) = (0 : Int32) ↔ t - t / (2 : Int32) * (2 : Int32) = (0 : Int32) := by
  rw [pk_and t 1 rfl, ← Int32.toInt_inj, ← Int32.toInt_inj, Int32.toInt_sub, Int32.toInt_mul, Int32.toInt_div]
  have hr := Int32.toInt_lt t
  have hl := Int32.le_toInt t
  have hu := a_un t
  rw [nI_toInt (by omega)]
  show (_ = (0 : Int)) ↔ ((t.toInt - (((t.toInt.tdiv 2).bmod (2 ^ 32)) * 2).bmod (2 ^ 32)).bmod (2 ^ 32) = (0 : Int))
  have hn := t.toBitVec.isLt
  have hq : t.toInt.tdiv 2 = if 0 ≤ t.toInt ∨ (2 : Int) ∣ t.toInt then t.toInt / 2 else t.toInt / 2 + 1 := by
    rw [Int.tdiv_eq_ediv]
    split
    · omega
    · rfl
  generalize t.toInt.tdiv 2 = q at hq ⊢
  have g1 : -1073741824 ≤ q ∧ q ≤ 1073741823 := by
    split at hq <;> omega
  have b1 : q.bmod (2 ^ 32) = q := Int.bmod_eq_of_le (by omega) (by omega)
  have b2 : (q * 2).bmod (2 ^ 32) = q * 2 := Int.bmod_eq_of_le (by omega) (by omega)
  rw [b1, b2]
  have g2 : -2 < t.toInt - q * 2 ∧ t.toInt - q * 2 < 2 := by
    split at hq <;> omega
  have b3 : (t.toInt - q * 2).bmod (2 ^ 32) = t.toInt - q * 2 := Int.bmod_eq_of_le (by omega) (by omega)
  rw [b3]
  by_cases hh : t.toBitVec.toNat < 2147483648
  · rw [if_pos hh] at hu
    rw [if_pos (by omega)] at hq
    omega
  · rw [if_neg hh] at hu
    split at hq <;> omega
theorem a_fe (t : Int32) : (p_Core_isMemory t = 0 ∧ (p_Model_in t (0 : Int32) (508 : Int32) = 0 ∨ ¬ t - t / (4 : Int32) * (4 : Int32) = 0)) ∨ (p_Core_isMemory t = 1 ∧ p_Model_in t (0 : Int32) (508 : Int32) = 1 ∧ t - t / (4 : Int32) * (4 : Int32) = 0 ∧ ∃ j : Nat, j < 512 ∧ t = nI j) := by
  by_cases h3 : t &&& (3 : Int32) = (0 : Int32)
  · have h3' := (a_m4 t).mp h3
    unfold p_Core_isMemory p_Model_in
    rw [if_pos h3]
    by_cases h0 : t < (0 : Int32)
    · rw [if_pos h0, if_pos h0]; exact Or.inl ⟨rfl, Or.inl rfl⟩
    · rw [if_neg h0, if_neg h0]
      obtain ⟨j, hj, rfl⟩ := nI_of h0
      have i3 : (512 : Int32) ≤ nI j ↔ 512 ≤ j := nI_leI (a := 512) (by omega) hj
      have i4 : (508 : Int32) < nI j ↔ 508 < j := nI_ltI (a := 508) (by omega) hj
      rw [ix_m3 hj rfl] at h3
      have h4 : j % 4 = 0 := (nI_eq (b := 0) (by omega) (by omega)).mp h3
      by_cases c1 : j < 512
      · rw [if_neg (fun q => absurd (i3.mp q) (by omega)), if_neg (fun q => absurd (i4.mp q) (by omega))]
        exact Or.inr ⟨rfl, rfl, h3', j, c1, rfl⟩
      · rw [if_pos (i3.mpr (by omega)), if_pos (i4.mpr (by omega))]
        exact Or.inl ⟨rfl, Or.inl rfl⟩
  · refine Or.inl ⟨?_, Or.inr (fun q => h3 ((a_m4 t).mpr q))⟩
    unfold p_Core_isMemory
    rw [if_neg h3]
/-- fetching -/
def zfC (cdv cdB cdW dtv dtB dtW bfv bfP bfV : Nat → Int32) (dvL : Nat → Int64) (itv bsv krv rgs ctv acv acC acV : Nat → Int32) : (Nat → Int32) × (Nat → Int32) × (Nat → Int32) × (Nat → Int32) × (Nat → Int32) × (Nat → Int32) × (Nat → Int32) × (Nat → Int32) × (Nat → Int32) × (Nat → Int32) × (Nat → Int32) × (Nat → Int32) := if p_Core_isMemory (krv 0) = 0 then (cdB, dtW, bfv, bfP, bfV, bsv, (p_Core_trap krv ctv (1 : Int32) (krv 0)).1, rgs, (p_Core_trap krv ctv (1 : Int32) (krv 0)).2, acv, acC, acV) else if p_Cache_holds cdv cdB (krv 0 >>> ((2 : Int32) &&& (31 : Int32))) = 0 then (cdB, dtW, bfv, bfP, bfV, p_Bus_want bsv (1 : Int32) (krv 0 >>> ((4 : Int32) &&& (31 : Int32))), krv, rgs, ctv, acv, acC, acV) else p_Core_perform cdv cdB cdW dtv dtB dtW bfv bfP bfV dvL itv bsv krv rgs ctv acv acC acV
def zfM (mv : Nat → Int32) (mvL : Nat → Int64) (lc la kp cp reg sp sw sv pe : Nat → Int32) : (Nat → Int32) × (Nat → Int32) × (Nat → Int32) × (Nat → Int32) × (Nat → Int32) × (Nat → Int32) × (Nat → Int32) × (Nat → Int32) × (Nat → Int32) := if p_Model_in (mv 5) (0 : Int32) (508 : Int32) = 0 then ((p_Model_trap mv mvL sp (1 : Int32) (mv 5)).1, lc, la, kp, cp, reg, (p_Model_trap mv mvL sp (1 : Int32) (mv 5)).2, sw, sv) else if mv 5 - mv 5 / (4 : Int32) * (4 : Int32) = 0 then (if kp (mv 5 / (4 : Int32)).toNatClampNeg = 0 then (p_Model_want mv mvL (1 : Int32) (mv 5 / (16 : Int32)), lc, la, kp, cp, reg, sp, sw, sv) else p_Model_instruction mv mvL lc la kp cp reg sp sw sv pe (cp (mv 5 / (4 : Int32)).toNatClampNeg)) else ((p_Model_trap mv mvL sp (1 : Int32) (mv 5)).1, lc, la, kp, cp, reg, (p_Model_trap mv mvL sp (1 : Int32) (mv 5)).2, sw, sv)
theorem o_fetch {n c a : Nat} {mvL : Nat → Int64} {cdv cdB cdW dtv dtB dtW bfv bfP bfV bsv krv rgs ctv acv acC acV mv lc la kp cp reg sp sw sv : Nat → Int32} (h : CI n c a cdv cdB cdW dtv dtB dtW bfv bfP bfV bsv krv rgs ctv acv acC acV mv lc la kp cp reg sp sw sv) {dvL : Nat → Int64} {itv hi pe se : Nat → Int32} (hI : rInt itv mv hi pe se) (hT : rTime dvL mvL) : CP n c (a + 1) cdv cdW dtv dtB mv (zfC cdv cdB cdW dtv dtB dtW bfv bfP bfV dvL itv bsv krv rgs ctv acv acC acV) (zfM mv mvL lc la kp cp reg sp sw sv pe) := by
  have hK := h.1.2.2.2.2.2.2.2.1
  have hN := h.1.1
  have hCo := h.1.2.2.2.1
  unfold zfC zfM
  rw [← hK.1]
  rcases a_fe (krv 0) with ⟨e1, e2⟩ | ⟨e1, e2, e3, j, hj, ej⟩
  · have ht := o_trap (mvL := mvL) h 1 (krv 0)
    rw [if_pos e1]
    by_cases e4 : p_Model_in (krv 0) (0 : Int32) (508 : Int32) = 0
    · rw [if_pos e4]; exact ht
    · rw [if_neg e4, if_neg (e2.resolve_left e4)]; exact ht
  · rw [if_neg (show ¬ p_Core_isMemory (krv 0) = 0 by rw [e1]; exact zn10), if_neg (show ¬ p_Model_in (krv 0) (0 : Int32) (508 : Int32) = 0 by rw [e2]; exact zn10), if_pos e3]
    have d4 : nI j / (4 : Int32) = nI (j / 4) := pk_div (by omega) (d := 4) (by omega) (by omega)
    have d16 : nI j / (16 : Int32) = nI (j / 16) := pk_div (by omega) (d := 16) (by omega) (by omega)
    have hp : j / 4 < 128 := by omega
    have r := hCo (j / 4) hp
    unfold p_Core_perform
    rw [ej, ix_sh (j := j) (by omega) rfl, a_sh4 hj, d4, d16, nI_clamp (by omega), ca_h hN.1 hN.2.2.2.1 hN.2.2.2.2.1 hp, ca_w hN.1 hN.2.2.2.1 hN.2.2.2.2.1 hp]
    by_cases k0 : kp (j / 4) = 0
    · have nb : ¬ cdB (j / 4 / 4 % n) = nI (j / 4 / 4) := fun q => (r.2.1.mpr q) k0
      rw [if_neg nb, if_pos rfl, if_pos k0]
      exact o_wb (mvL := mvL) h (w := 1) (by omega) (by omega) (by omega)
    · have nb : cdB (j / 4 / 4 % n) = nI (j / 4 / 4) := r.2.1.mp k0
      rw [if_pos nb, if_neg zn10, if_neg k0, r.2.2 k0]
      exact o_perf h hI hT _
theorem b_7 (i : Nat) (hi : i < 32) : bt 128 i = decide (i = 7) := (by decide +kernel : ∀ i, i < 32 → bt 128 i = decide (i = 7)) i hi
theorem b_11 (i : Nat) (hi : i < 32) : bt 2048 i = decide (i = 11) := (by decide +kernel : ∀ i, i < 32 → bt 2048 i = decide (i = 11)) i hi
theorem a_b7 (x : Int32) : (128 : Int32) &&& x = 0 ∨ (128 : Int32) &&& x = 128 := by
  cases e : bt x 7
  · left; apply b_ext; intro i hi
    rw [b_and, b_7 i hi, b_0]
    by_cases q : i = 7
    · rw [q, e]; rfl
    · simp [q]
  · right; apply b_ext; intro i hi
    rw [b_and, b_7 i hi]
    by_cases q : i = 7
    · rw [q, e]; rfl
    · simp [q]
theorem a_b11 (x : Int32) : (2048 : Int32) &&& x = 0 ∨ (2048 : Int32) &&& x = 2048 := by
  cases e : bt x 11
  · left; apply b_ext; intro i hi
    rw [b_and, b_11 i hi, b_0]
    by_cases q : i = 11
    · rw [q, e]; rfl
    · simp [q]
  · right; apply b_ext; intro i hi
    rw [b_and, b_11 i hi]
    by_cases q : i = 11
    · rw [q, e]; rfl
    · simp [q]
theorem a_due (mv : Nat → Int32) (mvL : Nat → Int64) (pe : Nat → Int32) (x : Int32) : ((p_Model_mip mv mvL pe &&& x) &&& (2048 : Int32) = 0) ↔ (p_Model_mip mv mvL pe &&& x) < (2048 : Int32) := by
  have hm : p_Model_mip mv mvL pe = 0 ∨ p_Model_mip mv mvL pe = 128 ∨ p_Model_mip mv mvL pe = 2048 ∨ p_Model_mip mv mvL pe = 2176 := by
    unfold p_Model_mip p_Model_mip_1 p_Model_mip_4
    rw [if_pos rfl, if_neg zn10]
    split
    · split
      · exact Or.inl rfl
      · exact Or.inr (Or.inr (Or.inl rfl))
    · split
      · exact Or.inr (Or.inl rfl)
      · exact Or.inr (Or.inr (Or.inr rfl))
  have z0 : (0 : Int32) &&& x = 0 := Int32.zero_and
  have z3 : (2176 : Int32) &&& x = ((128 : Int32) &&& x) ||| ((2048 : Int32) &&& x) := by
    rw [show (2176 : Int32) = (128 : Int32) ||| (2048 : Int32) from rfl]
    apply b_ext; intro i hi
    rw [b_and, b_or, b_or, b_and, b_and]
    cases bt x i <;> simp
  rcases hm with e | e | e | e <;> rw [e]
  · rw [z0]; decide
  · rcases a_b7 x with q | q <;> rw [q] <;> decide
  · rcases a_b11 x with q | q <;> rw [q] <;> decide
  · rw [z3]; rcases a_b7 x with q | q <;> rcases a_b11 x with q2 | q2 <;> rw [q, q2] <;> decide
theorem o_int {n c a : Nat} {mvL : Nat → Int64} {cdv cdB cdW dtv dtB dtW bfv bfP bfV bsv krv rgs ctv acv acC acV mv lc la kp cp reg sp sw sv : Nat → Int32} (h : CI n c a cdv cdB cdW dtv dtB dtW bfv bfP bfV bsv krv rgs ctv acv acC acV mv lc la kp cp reg sp sw sv) (k : Int32) : CP n c (a + 1) cdv cdW dtv dtB mv (cdB, dtW, bfv, bfP, bfV, bsv, (p_Core_interrupt krv ctv k).1, rgs, (p_Core_interrupt krv ctv k).2, acv, acC, acV) (if sp 2 - sp 2 / (2 : Int32) * (2 : Int32) = 0 then ((p_Model_enter mv mvL sp (k + (-2147483648 : Int32)) (0 : Int32) (sp 2 &&& (-4 : Int32))).1, lc, la, kp, cp, reg, (p_Model_enter mv mvL sp (k + (-2147483648 : Int32)) (0 : Int32) (sp 2 &&& (-4 : Int32))).2, sw, sv) else ((p_Model_enter mv mvL sp (k + (-2147483648 : Int32)) (0 : Int32) ((sp 2 &&& (-4 : Int32)) + (4 : Int32) * k)).1, lc, la, kp, cp, reg, (p_Model_enter mv mvL sp (k + (-2147483648 : Int32)) (0 : Int32) ((sp 2 &&& (-4 : Int32)) + (4 : Int32) * k)).2, sw, sv)) := by
  have hC := h.1.2.2.2.2.2.2.1
  generalize hkk : k + (-2147483648 : Int32) = kk
  have e2 : (p_Control_enterTrap ctv kk (0 : Int32) (krv 0)) 2 = sp 2 := by
    rw [en_C, pk_un (by decide), pk_un (by decide), pk_un (by decide), pk_un (by decide), hC 2 (by omega)]
  have e1 : p_Core_interrupt krv ctv k = (p_Core_goToTrap krv (if sp 2 &&& (1 : Int32) = 0 then sp 2 &&& (-4 : Int32) else (sp 2 &&& (-4 : Int32)) + (4 : Int32) * k), p_Control_enterTrap ctv kk (0 : Int32) (krv 0)) := by
    unfold p_Core_interrupt
    rw [hkk]
    unfold p_Core_interrupt_1 p_Core_interrupt_2 p_Core_interrupt_3 p_Control_interruptAddress p_Control_interruptAddress_1 p_Control_interruptAddress_2 p_Control_trapAddress
    rw [e2]
  rw [e1]
  by_cases e : sp 2 &&& (1 : Int32) = 0
  · rw [if_pos e, if_pos ((a_m2 _).mp e)]
    exact o_ent (mvL := mvL) h kk 0 _
  · rw [if_neg e, if_neg (fun q => e ((a_m2 _).mpr q))]
    exact o_ent (mvL := mvL) h kk 0 _
