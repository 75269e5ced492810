/-! S5: the arithmetic -/
theorem a_un (x : Int32) : x.toInt = if x.toBitVec.toNat < 2147483648 then (x.toBitVec.toNat : Int) else (x.toBitVec.toNat : Int) - 4294967296 := by
  show x.toBitVec.toInt = _
  rw [BitVec.toInt_eq_toNat_cond]
  have := x.toBitVec.isLt
  by_cases h : x.toBitVec.toNat < 2147483648
  · rw [if_pos (by omega), if_pos h]
  · rw [if_neg (by omega), if_neg h]; rfl
theorem a_top (x : Int32) : (x + (-2147483648 : Int32)).toInt = (x.toBitVec.toNat : Int) - 2147483648 := by
  rw [Int32.toInt_add, a_un x, show (-2147483648 : Int32).toInt = -2147483648 from rfl]
  have := x.toBitVec.isLt
  rw [Int.bmod_def]
  by_cases h : x.toBitVec.toNat < 2147483648
  · rw [if_pos h]; split <;> omega
  · rw [if_neg h]; split <;> omega
theorem a_low (x : Int32) : (x.toInt64 &&& (4294967295 : Int64)).toInt = (x.toBitVec.toNat : Int) := by
  have e : (x.toInt64 &&& (4294967295 : Int64)).toBitVec = x.toBitVec.setWidth 64 := by
    rw [Int64.toBitVec_and]
    show x.toBitVec.signExtend 64 &&& 4294967295#64 = x.toBitVec.setWidth 64
    apply BitVec.eq_of_getLsbD_eq
    intro i hi
    rw [BitVec.getLsbD_and, BitVec.getLsbD_signExtend, BitVec.getLsbD_setWidth]
    by_cases h : i < 32
    · have : (4294967295#64).getLsbD i = true := (by decide +kernel : ∀ i, i < 32 → (4294967295#64).getLsbD i = true) i h
      simp [this, h, hi]
    · have h2 : x.toBitVec.getLsbD i = false := BitVec.getLsbD_of_ge _ _ (by omega)
      have : (4294967295#64).getLsbD i = false := by
        rcases Nat.lt_or_ge i 64 with q | q
        · exact (by decide +kernel : ∀ i, i < 64 → ¬ i < 32 → (4294967295#64).getLsbD i = false) i q h
        · exact BitVec.getLsbD_of_ge _ _ q
      rw [this, h2]; simp
  show (x.toInt64 &&& (4294967295 : Int64)).toBitVec.toInt = _
  have := x.toBitVec.isLt
  rw [e, BitVec.toInt_eq_toNat_cond, BitVec.toNat_setWidth, Nat.mod_eq_of_lt (by omega), if_pos (by omega)]
theorem a_cmpG (x y t : Int32) (ht : ∀ z : Int32, (z + t).toInt = (z.toBitVec.toNat : Int) - 2147483648) : (0 : Int32) ≤ p_JInt_compare (x + t) (y + t) ↔ y.toBitVec.toNat ≤ x.toBitVec.toNat := by
  unfold p_JInt_compare
  by_cases h : y + t ≤ x + t
  · rw [if_pos h]
    have h2 := Int32.le_iff_toInt_le.mp h
    rw [ht, ht] at h2
    refine ⟨fun _ => by omega, fun _ => ?_⟩
    split <;> decide
  · rw [if_neg h]
    have h2 : ¬ (y + t).toInt ≤ (x + t).toInt := fun q => h (Int32.le_iff_toInt_le.mpr q)
    rw [ht, ht] at h2
    exact ⟨fun q => absurd q (by decide), fun q => by omega⟩
theorem a_cmp (x y : Int32) : (0 : Int32) ≤ p_JInt_compareUnsigned x y ↔ y.toBitVec.toNat ≤ x.toBitVec.toNat := by
  rw [p_JInt_compareUnsigned, p_JInt_compareUnsigned_1]
  exact a_cmpG x y _ a_top
theorem a_cm2 (x y : Int32) : (0 : Int32) ≤ lg_cmp (x.toInt64 &&& (4294967295 : Int64)) (y.toInt64 &&& (4294967295 : Int64)) ↔ y.toBitVec.toNat ≤ x.toBitVec.toNat := by
  rw [lg_cmp_ge, Int64.le_iff_toInt_le, a_low, a_low]; omega
theorem below_eq (x y : Int32) : p_Model_below x y = if (0 : Int32) ≤ p_JInt_compareUnsigned x y then (0 : Int32) else (1 : Int32) := by
  unfold p_Model_below
  by_cases h : y.toBitVec.toNat ≤ x.toBitVec.toNat
  · rw [if_pos ((a_cm2 x y).mpr h), if_pos ((a_cmp x y).mpr h)]
  · rw [if_neg (fun q => h ((a_cm2 x y).mp q)), if_neg (fun q => h ((a_cmp x y).mp q))]
theorem a_31 (y : Int32) : (y &&& (31 : Int32)) &&& (31 : Int32) = y &&& (31 : Int32) := by
  rw [Int32.and_assoc]; rfl
theorem a_ushr (x y : Int32) : j_ushr x (y &&& (31 : Int32)) = j_ushr x y := by
  unfold j_ushr
  rw [show (y &&& (31 : Int32)).toUInt32 &&& Int32.toUInt32 31 = y.toUInt32 &&& Int32.toUInt32 31 from congrArg Int32.toUInt32 (a_31 y)]
theorem simple_eq (f x y : Int32) : p_Core_plain f x y = p_Model_simple f x y := by
  unfold p_Core_plain p_Model_simple p_Core_plain_1 p_Model_simple_1
  rw [below_eq, a_31, a_ushr]
  by_cases h : (0 : Int32) ≤ p_JInt_compareUnsigned x y
  · rw [if_pos h, if_pos rfl]
  · rw [if_neg h, if_neg (show ¬ (1 : Int32) = (0 : Int32) by decide)]
