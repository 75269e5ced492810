/-! S5: product and quotient -/
theorem a_hi (x : Int64) : (j_lushr x (32 : Int32)).toInt32 = (j_lshr x (32 : Int32)).toInt32 := by
  apply Int32.toBitVec_inj.mp
  apply BitVec.eq_of_getLsbD_eq
  intro i hi
  show ((j_lushr x (32 : Int32)).toBitVec.signExtend 32).getLsbD i = ((j_lshr x (32 : Int32)).toBitVec.signExtend 32).getLsbD i
  rw [BitVec.getLsbD_signExtend, BitVec.getLsbD_signExtend]
  have e1 : (j_lushr x (32 : Int32)).toBitVec = x.toBitVec >>> 32 := rfl
  have e2 : (j_lshr x (32 : Int32)).toBitVec = x.toBitVec.sshiftRight 32 := by
    unfold j_lshr
    rw [Int64.toBitVec_shiftRight]; rfl
  rw [e1, e2, BitVec.getLsbD_ushiftRight, BitVec.getLsbD_sshiftRight]
  have h1 : i < 64 := by omega
  have h2 : 32 + i < 64 := by omega
  simp [hi, h1, h2]
theorem f_four {P : Int32 → Prop} {f : Int32} (h : f = 0 ∨ f = 1 ∨ f = 2 ∨ f = 3 ∨ f = 4 ∨ f = 5 ∨ f = 6 ∨ f = 7) (h0 : P 0) (h1 : P 1) (h2 : P 2) (h3 : P 3) (h4 : P 4) (h5 : P 5) (h6 : P 6) (h7 : P 7) : P f := by
  rcases h with rfl | rfl | rfl | rfl | rfl | rfl | rfl | rfl <;> assumption
theorem vp_8 {f : Int32} (h : vp_in f 8) : f = 0 ∨ f = 1 ∨ f = 2 ∨ f = 3 ∨ f = 4 ∨ f = 5 ∨ f = 6 ∨ f = 7 := by
  have h0 : ¬ f < 0 := fun q => h (Or.inl q)
  obtain ⟨j, hj, rfl⟩ := nI_of h0
  have h1 : j < 8 := by
    apply Nat.lt_of_not_le
    intro q
    exact h (Or.inr (by rw [nI_clamp hj]; exact q))
  have : j = 0 ∨ j = 1 ∨ j = 2 ∨ j = 3 ∨ j = 4 ∨ j = 5 ∨ j = 6 ∨ j = 7 := by omega
  rcases this with rfl | rfl | rfl | rfl | rfl | rfl | rfl | rfl
  · exact Or.inl rfl
  · exact Or.inr (Or.inl rfl)
  · exact Or.inr (Or.inr (Or.inl rfl))
  · exact Or.inr (Or.inr (Or.inr (Or.inl rfl)))
  · exact Or.inr (Or.inr (Or.inr (Or.inr (Or.inl rfl))))
  · exact Or.inr (Or.inr (Or.inr (Or.inr (Or.inr (Or.inl rfl)))))
  · exact Or.inr (Or.inr (Or.inr (Or.inr (Or.inr (Or.inr (Or.inl rfl))))))
  · exact Or.inr (Or.inr (Or.inr (Or.inr (Or.inr (Or.inr (Or.inr rfl))))))
theorem f_8 (w : Int32) : p_Core_fieldF w = 0 ∨ p_Core_fieldF w = 1 ∨ p_Core_fieldF w = 2 ∨ p_Core_fieldF w = 3 ∨ p_Core_fieldF w = 4 ∨ p_Core_fieldF w = 5 ∨ p_Core_fieldF w = 6 ∨ p_Core_fieldF w = 7 := vp_8 (pk_andIn _ 3 rfl (by decide))
theorem product_eq {f : Int32} (hf : f = 0 ∨ f = 1 ∨ f = 2 ∨ f = 3) (x y : Int32) : p_Core_product f x y = p_Model_product f x y := by
  unfold p_Core_product p_Model_product
  rw [a_hi]
  generalize (4294967295 : Int64) = m
  rcases hf with rfl | rfl | rfl | rfl
  · rw [if_pos rfl, if_neg (by decide), if_pos (by decide), if_pos rfl]
  · rw [if_neg (by decide), if_pos rfl, if_neg (by decide), if_pos (by decide), if_neg (by decide)]
  · rw [if_neg (by decide), if_neg (by decide), if_pos rfl, if_neg (by decide), if_neg (by decide), if_neg (by decide)]
  · rw [if_neg (by decide), if_neg (by decide), if_neg (by decide), if_pos rfl, if_neg (by decide), if_neg (by decide)]
theorem lg_cmp_0 (x : Int64) : lg_cmp x 0 = (0 : Int32) ↔ x = 0 := by
  unfold lg_cmp
  by_cases h1 : x > 0
  · rw [if_pos h1]
    exact ⟨fun e => absurd e (by decide), fun e => by rw [e] at h1; exact absurd h1 (by decide)⟩
  · rw [if_neg h1]
    by_cases h2 : x = 0
    · rw [if_pos h2]; exact ⟨fun _ => h2, fun _ => rfl⟩
    · rw [if_neg h2]; exact ⟨fun e => absurd e (by decide), fun e => absurd e h2⟩
theorem a_z1 (y : Int32) : lg_cmp (y.toInt64 &&& (4294967295 : Int64)) 0 = (0 : Int32) ↔ y = 0 := by
  rw [lg_cmp_0, ← Int64.toInt_inj, a_low, ← Int32.toBitVec_inj]
  show (y.toBitVec.toNat : Int) = 0 ↔ y.toBitVec = 0#32
  rw [← BitVec.toNat_inj]
  show _ ↔ y.toBitVec.toNat = 0
  omega
theorem a_z2 (y : Int32) : lg_cmp y.toInt64 0 = (0 : Int32) ↔ y = 0 := by
  rw [lg_cmp_0, ← Int64.toInt_inj, Int32.toInt_toInt64, ← Int32.toInt_inj]; rfl
theorem a_dv (x y : Int32) : (x.toInt64 / y.toInt64).toInt32 = x / y := by
  apply Int32.toInt_inj.mp
  rw [Int64.toInt_toInt32, Int64.toInt_div, Int32.toInt_toInt64, Int32.toInt_toInt64, Int32.toInt_div]
  exact Int.bmod_bmod_of_dvd ⟨2 ^ 32, by decide⟩
theorem a_dm (x y : Int32) : (x.toInt64 - x.toInt64 / y.toInt64 * y.toInt64).toInt32 = x - x / y * y := by
  rw [Int64.toInt32_sub, Int64.toInt32_mul, a_dv, Int32.toInt32_toInt64, Int32.toInt32_toInt64]
theorem quotient_eq {f : Int32} (hf : f = 4 ∨ f = 5 ∨ f = 6 ∨ f = 7) (x y : Int32) : p_Core_quotient f x y = p_Model_divided f x y := by
  unfold p_Core_quotient p_Model_divided
  rw [a_dv, a_dm]
  have z1 := a_z1 y
  have z2 := a_z2 y
  revert z1
  generalize (4294967295 : Int64) = m
  intro z1
  by_cases hy : y = 0
  · rw [if_pos hy, if_pos (z1.mpr hy), if_pos (z2.mpr hy)]
    rcases hf with rfl | rfl | rfl | rfl
    · rw [if_neg (show ¬ ((4 : Int32) - 4 / 2 * 2 = 1) by decide), if_neg (show ¬ ((4 : Int32) - 4 / 2 * 2 = 1) by decide)]
    · rw [if_pos (show ((5 : Int32) - 5 / 2 * 2 = 1) by decide), if_pos (show ((5 : Int32) - 5 / 2 * 2 = 1) by decide)]
    · rw [if_neg (show ¬ ((6 : Int32) - 6 / 2 * 2 = 1) by decide), if_neg (show ¬ ((6 : Int32) - 6 / 2 * 2 = 1) by decide)]
    · rw [if_pos (show ((7 : Int32) - 7 / 2 * 2 = 1) by decide), if_pos (show ((7 : Int32) - 7 / 2 * 2 = 1) by decide)]
  · rw [if_neg hy, if_neg (fun q => hy (z1.mp q)), if_neg (fun q => hy (z2.mp q))]
    rcases hf with rfl | rfl | rfl | rfl
    · rw [if_neg (show ¬ ((4 : Int32) - 4 / 2 * 2 = 1) by decide), if_neg (show ¬ ((4 : Int32) - 4 / 2 * 2 = 1) by decide), if_pos rfl, if_neg (by decide)]
    · rw [if_pos (show ((5 : Int32) - 5 / 2 * 2 = 1) by decide), if_pos (show ((5 : Int32) - 5 / 2 * 2 = 1) by decide), if_neg (by decide), if_pos rfl, if_neg (by decide)]
    · rw [if_neg (show ¬ ((6 : Int32) - 6 / 2 * 2 = 1) by decide), if_neg (show ¬ ((6 : Int32) - 6 / 2 * 2 = 1) by decide), if_neg (by decide), if_neg (by decide), if_pos rfl, if_pos (by decide)]
    · rw [if_pos (show ((7 : Int32) - 7 / 2 * 2 = 1) by decide), if_pos (show ((7 : Int32) - 7 / 2 * 2 = 1) by decide), if_neg (by decide), if_neg (by decide), if_neg (by decide), if_pos (by decide)]
