/-! S5: fences -/
/-- fences -/
def zfz (k : Nat) (s : Nat → Int32) : Nat → Int32 := fun j => if k ≤ j ∧ j < 128 then 0 else s j
theorem fz_s {k : Nat} (hk : k < 128) (s : Nat → Int32) : zfz (k + 1) (upd s k 0) = zfz k s := by
  funext j
  unfold zfz
  by_cases e : j = k
  · rw [if_neg (by omega), if_pos (by omega), e, pk_us]
  · by_cases z : k ≤ j ∧ j < 128
    · rw [if_pos z, if_pos (by omega)]
    · rw [if_neg z, if_neg (by omega), pk_un e]
theorem fe_L1 {mv : Nat → Int32} {mvL : Nat → Int64} {lc la kp : Nat → Int32} : ∀ (fu k : Nat) (s : Nat → Int32), k ≤ 128 → 128 < k + fu → p_Model_fence_L mv mvL lc la kp (1 : Int32) fu (nI k) s = ((p_Model_act mv mvL lc la (mv 5 + (4 : Int32))).1, (p_Model_act mv mvL lc la (mv 5 + (4 : Int32))).2.1, (p_Model_act mv mvL lc la (mv 5 + (4 : Int32))).2.2, zfz k s) := by
  intro fu
  induction fu with
  | zero => intro k s h1 h2; omega
  | succ fu ih =>
    intro k s h1 h2
    rw [p_Model_fence_L]
    by_cases e : k = 128
    · rw [if_pos (by rw [e]; decide)]
      have : zfz k s = s := by
        funext j
        unfold zfz
        rw [if_neg (by omega)]
      rw [this]; rfl
    · have e2 : ¬ (128 : Int32) ≤ nI k := nI_ge (a := k) (b := 128) (by omega) (by omega)
      rw [if_neg e2, if_pos rfl]
      show p_Model_fence_L mv mvL lc la kp (1 : Int32) fu (nI k + (1 : Int32)) (upd s (nI k).toNatClampNeg (0 : Int32)) = _
      rw [nI_1, nI_clamp (by omega), ih (k + 1) _ (by omega) (by omega), fz_s (by omega)]
theorem fe_M (mv : Nat → Int32) (mvL : Nat → Int64) (lc la kp : Nat → Int32) {f : Int32} (hf : f = 0 ∨ f = 1) : p_Model_fence mv mvL lc la kp f = if mv 19 ≤ (0 : Int32) then ((p_Model_act mv mvL lc la (mv 5 + (4 : Int32))).1, (p_Model_act mv mvL lc la (mv 5 + (4 : Int32))).2.1, (p_Model_act mv mvL lc la (mv 5 + (4 : Int32))).2.2, if f = 1 then zfz 0 kp else kp) else (mv, lc, la, kp) := by
  unfold p_Model_fence
  by_cases m : mv 19 ≤ (0 : Int32)
  · rw [if_pos m, if_pos m]
    rcases hf with rfl | rfl
    · rw [p_Model_fence_L, if_neg (by decide), if_neg (by decide), if_neg (by decide)]; rfl
    · rw [if_pos rfl]
      exact fe_L1 129 0 kp (by omega) (by omega)
  · rw [if_neg m, if_neg m]
theorem ci_drop {n c a : Nat} {cdv cdB cdW dtv dtB dtW bfv bfP bfV bsv krv rgs ctv acv acC acV mv lc la kp cp reg sp sw sv : Nat → Int32} (h : CI n c a cdv cdB cdW dtv dtB dtW bfv bfP bfV bsv krv rgs ctv acv acC acV mv lc la kp cp reg sp sw sv) : CI n c a cdv (p_Cache_drop cdv cdB) cdW dtv dtB dtW bfv bfP bfV bsv krv rgs ctv acv acC acV mv lc la (zfz 0 kp) cp reg sp sw sv := by
  obtain ⟨⟨h1, h2, h3, h4, h5, h6, h7, h8, h9, h10, h11⟩, hr⟩ := h
  have n0 : 0 < n := h1.2.2.2.1
  have n8 : n ≤ 8 := h1.2.2.2.2.1
  refine ⟨⟨h1, h2, h3, ?_, ?_, h6, h7, h8, h9, h10, h11⟩, hr⟩
  · intro p hp
    have z : zfz 0 kp p = 0 := if_pos ⟨by omega, hp⟩
    have m : p_Cache_drop cdv cdB (p / 4 % n) = -1 := by
      show p_fillTo ((cdv 0).toNatClampNeg) cdB (-1) (p / 4 % n) = -1
      rw [h1.1, nI_clamp (by omega)]
      exact if_pos (Nat.mod_lt _ n0)
    rw [z, m]
    refine ⟨Or.inl rfl, ⟨fun e => absurd rfl e, fun e => ?_⟩, fun e => absurd rfl e⟩
    have := congrArg Int32.toInt e
    rw [nI_toInt (by omega)] at this
    have e1 : (-1 : Int32).toInt = -1 := rfl
    omega
  · intro p hp
    have z : zfz 0 kp (128 + p) = kp (128 + p) := if_neg (by omega)
    rw [z]
    exact h5 p hp
def zL6 (n c a : Nat) (cdv cdW dtv dtB dtW bfv bfP bfV bsv rgs cp reg sp sw sv mv : Nat → Int32) (q : (Nat → Int32) × (Nat → Int32) × (Nat → Int32) × (Nat → Int32) × (Nat → Int32) × (Nat → Int32)) (s : (Nat → Int32) × (Nat → Int32) × (Nat → Int32) × (Nat → Int32)) : Prop := CP n c a cdv cdW dtv dtB mv (q.1, dtW, bfv, bfP, bfV, bsv, q.2.1, rgs, q.2.2.1, q.2.2.2.1, q.2.2.2.2.1, q.2.2.2.2.2) (s.1, s.2.1, s.2.2.1, s.2.2.2, cp, reg, sp, sw, sv)
theorem o_fence {n c a : Nat} {mvL : Nat → Int64} {cdv cdB cdW dtv dtB dtW bfv bfP bfV bsv krv rgs ctv acv acC acV mv lc la kp cp reg sp sw sv : Nat → Int32} (h : CI n c a cdv cdB cdW dtv dtB dtW bfv bfP bfV bsv krv rgs ctv acv acC acV mv lc la kp cp reg sp sw sv) (w : Int32) (hf : p_Core_fieldF w = 0 ∨ p_Core_fieldF w = 1) : zL6 n c (a + 1) cdv cdW dtv dtB dtW bfv bfP bfV bsv rgs cp reg sp sw sv mv (p_Core_fence cdv cdB cdW bfv krv ctv acv acC acV w) (p_Model_fence mv mvL lc la kp (p_Core_fieldF w)) := by
  have hB0 := bf_0 h
  have hK := h.1.2.2.2.2.2.2.2.1
  rw [fe_M _ _ _ _ _ hf, ← hK.1]
  have l1 : p_Core_fieldF w ≤ (1 : Int32) := by rcases hf with e | e <;> rw [e] <;> decide
  simp only [p_Core_fence, p_Core_fence_1, p_Core_fence_2, p_Core_fence_3, p_Core_fence_4, p_Core_fence_5, if_pos l1]
  by_cases b : bfv 0 = (0 : Int32)
  · simp only [if_pos b, if_pos (hB0.1.mp b)]
    by_cases f1 : p_Core_fieldF w = 1
    · simp only [if_pos f1]
      exact o_act (mvL := mvL) (ci_drop h) h.1.2.2.2.2.2.1 h.1.2.2.2.2.2.2.1 (krv 0 + (4 : Int32))
    · simp only [if_neg f1]
      exact o_act (mvL := mvL) h h.1.2.2.2.2.2.1 h.1.2.2.2.2.2.2.1 (krv 0 + (4 : Int32))
  · simp only [if_neg b, if_neg (fun q => b (hB0.1.mpr q))]
    exact o_stay h
