/-! S4: the devices' registers, here and there -/
theorem cl_eq {mvL : Nat → Int64} {itv mv hi pe se : Nat → Int32} (hI : rInt itv mv hi pe se) : (p_Interrupts_claim itv).1 = (p_Model_claim mv mvL pe se).1 ∧ rInt (p_Interrupts_claim itv).2 mv hi (p_Model_claim mv mvL pe se).2.1 (p_Model_claim mv mvL pe se).2.2 := by
  rw [p_Interrupts_claim, p_Interrupts_claim_1, p_Model_claim, p_Model_claim_1, fr_best mvL hI]
  obtain ⟨j, hj, e⟩ := best_ix mv mvL pe
  rw [e]
  by_cases h0 : j = 0
  · subst h0
    rw [if_pos (show nI 0 = (0 : Int32) from rfl), if_pos (show nI 0 ≤ (0 : Int32) by decide)]
    exact ⟨rfl, hI⟩
  · rw [if_neg (show ¬ nI j = (0 : Int32) from nI_ne0 (by omega) (by omega)), if_neg (show ¬ nI j ≤ (0 : Int32) from nI_nle (by omega) (by omega)), nI_clamp (by omega)]
    obtain ⟨i1, i2, i3, i4, i5, i6, i7⟩ := hI
    refine ⟨rfl, i1, i2, i3, i4, b_clr i5 (by omega), b_set i6 (by omega) (by omega), fun i hi8 => ⟨(i7 i hi8).1, ?_, ?_⟩⟩
    · show upd pe j 0 i = 0 ∨ upd pe j 0 i = 1
      by_cases hij : i = j
      · rw [hij, pk_us]; exact Or.inl rfl
      · rw [pk_un hij]; exact (i7 i hi8).2.1
    · show upd se j 1 i = 0 ∨ upd se j 1 i = 1
      by_cases hij : i = j
      · rw [hij, pk_us]; exact Or.inr rfl
      · rw [pk_un hij]; exact (i7 i hi8).2.2
theorem tb_L2 {mv rc : Nat → Int32} {mvL : Nat → Int64} {d : Nat} (hd : d ≤ 7) (hm : mv 24 - (1 : Int32) = nI d) : ∀ (fu k : Nat) (s : Nat → Int32), k ≤ d → d < k + fu → p_Model_takeByte_L mv mvL rc fu (nI k) s = (rc 0, upd mv 24 (nI d), sh d k s) := by
  intro fu
  induction fu with
  | zero => intro k s h1 h2; exact absurd h2 (by omega)
  | succ fu ih =>
    intro k s h1 h2
    rw [p_Model_takeByte_L, hm]
    by_cases h : nI d ≤ nI k
    · rw [if_pos h]
      have hdk := (nI_leI (by omega) (by omega)).mp h
      have e : sh d k s = s := by
        funext i
        unfold sh
        rw [if_neg (by omega)]
      rw [e]
      rfl
    · have hkd : k < d := by have h3 : ¬ d ≤ k := fun h4 => h ((nI_leI (by omega) (by omega)).mpr h4); omega
      rw [if_neg h, show nI k + (1 : Int32) = nI (k + 1) from nI_1 k, nI_clamp (by omega), nI_clamp (by omega), ← sh_step d k s hkd]
      exact ih (k + 1) _ (by omega) (by omega)
/-- a byte is taken -/
theorem tk_eq {rqv rqB mv rc : Nat → Int32} {mvL : Nat → Int64} (hQ : rQ rqv rqB (mv 24) rc) : (p_ByteQueue_take rqv rqB).1 = (p_Model_takeByte mv mvL rc).1 ∧ rQ (p_ByteQueue_take rqv rqB).2 rqB ((p_Model_takeByte mv mvL rc).2.1 24) (p_Model_takeByte mv mvL rc).2.2 ∧ ∀ j, j ≠ 24 → (p_Model_takeByte mv mvL rc).2.1 j = mv j := by
  by_cases h0 : mv 24 = (0 : Int32)
  · have e1 : p_ByteQueue_take rqv rqB = (-1, rqv) := by rw [p_ByteQueue_take, p_ByteQueue_take_1, q_emp hQ, if_pos h0, if_neg (show ¬ (1 : Int32) = (0 : Int32) by decide)]
    have e2 : p_Model_takeByte mv mvL rc = (-1, mv, rc) := by rw [p_Model_takeByte, if_pos h0]
    rw [e1, e2]
    exact ⟨rfl, hQ, fun j _ => rfl⟩
  · obtain ⟨t1, d, hd, hc1, hc2, hc3⟩ := q_take hQ h0
    have e2 : p_Model_takeByte mv mvL rc = (rc 0, upd mv 24 (nI d), sh d 0 rc) := by
      rw [p_Model_takeByte, if_neg h0]
      exact tb_L2 hd hc2 9 0 rc (by omega) (by omega)
    rw [e2]
    refine ⟨t1, ?_, fun j h24 => pk_un h24⟩
    have := hc3 (sh d 0 rc) (sh_0 d rc)
    rw [hc2] at this
    exact this
theorem wh_eq (x : Int64) (k : Int32) : p_Devices_withHigh x k = p_Model_joinWords k x := by
  rw [p_Devices_withHigh, p_Model_joinWords, Int64.or_comm]
theorem hi_lo (x : Int64) : x &&& (-4294967296 : Int64) = j_lshl (j_lshr x (32 : Int32)).toInt32.toInt64 (32 : Int32) := by
  apply Int64.toBitVec_inj.mp
  unfold j_lshl j_lshr
  have hs : (((32 : Int32).toInt64 &&& 63).toBitVec.smod 64).toNat = 32 := by decide
  rw [Int64.toBitVec_and, Int64.toBitVec_shiftLeft, Int32.toBitVec_toInt64]
  show x.toBitVec &&& _ = (((x >>> ((32 : Int32).toInt64 &&& 63)).toInt32.toBitVec).signExtend 64) <<< (((32 : Int32).toInt64 &&& 63).toBitVec.smod 64).toNat
  rw [hs, Int64.toBitVec_toInt32, Int64.toBitVec_shiftRight]
  show x.toBitVec &&& _ = ((((x.toBitVec.sshiftRight (((32 : Int32).toInt64 &&& 63).toBitVec.smod 64).toNat)).signExtend 32).signExtend 64) <<< 32
  rw [hs]
  have hc : (-4294967296 : Int64).toBitVec = 0xFFFFFFFF00000000#64 := by decide
  rw [hc]
  apply BitVec.eq_of_getLsbD_eq
  intro i hi
  have hm : ∀ i, i < 64 → (0xFFFFFFFF00000000#64).getLsbD i = decide (32 ≤ i) := by decide
  rw [BitVec.getLsbD_and, hm i hi, BitVec.getLsbD_shiftLeft]
  by_cases h : 32 ≤ i
  · rw [decide_eq_true h, Bool.and_true]
    have h2 : i - 32 < 32 := by omega
    rw [BitVec.getLsbD_signExtend, BitVec.getLsbD_signExtend, BitVec.getLsbD_sshiftRight]
    have h3 : 32 + (i - 32) = i := by omega
    simp [h2, hi, h3, show ¬ i < 32 by omega, show ¬ 64 ≤ i - 32 by omega, show i - 32 < 64 by omega]
  · rw [decide_eq_false h, Bool.and_false]
    simp [show i < 32 by omega]
theorem wl_eq (x : Int64) (k : Int32) : p_Devices_withLow x k = p_Model_joinWords (j_lshr x (32 : Int32)).toInt32 k.toInt64 := by
  rw [p_Devices_withLow, p_Model_joinWords, hi_lo]
