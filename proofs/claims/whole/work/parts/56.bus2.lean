/-! S4: the short forms of busPart -/
theorem i0l : (0 : Int32) ≤ 0 := by decide
theorem il1 : ¬ ((1 : Int32) ≤ 0) := by decide
theorem il2 : ¬ ((2 : Int32) ≤ 0) := by decide
theorem il3 : ¬ ((3 : Int32) ≤ 0) := by decide
theorem bp_0 (mv : Nat → Int32) (mvL : Nat → Int64) (lc la mm kp cp reg sw sv pe se rc sd : Nat → Int32) (h9 : ∃ w : Nat, w ≤ 3 ∧ mv 9 = nI w) (h : mv 11 = (0 : Int32)) : p_Model_busPart mv mvL lc la mm kp cp reg sw sv pe se rc sd = (bG mv, mvL, lc, la, mm, kp, cp, reg, sw, sv, pe, se, rc, sd) := by
  by_cases h14 : mv 14 = (0 : Int32)
  · by_cases h19 : mv 19 = (0 : Int32)
    · rcases w3 h9 with e | e | e | e <;> simp only [p_Model_busPart, bG, h, h14, h19, e, i10, i04, i40, i43, i34, i30, i13, i14, i23, i24, i20, i00, i0l, il1, il2, il3, ↓reduceIte, true_or, or_true, not_true_eq_false, not_false_eq_true, or_false, false_or]
    · rcases w3 h9 with e | e | e | e <;> simp only [p_Model_busPart, bG, h, h14, h19, e, i10, i04, i40, i43, i34, i30, i13, i14, i23, i24, i20, i00, i0l, il1, il2, il3, ↓reduceIte, true_or, or_true, not_true_eq_false, not_false_eq_true, or_false, false_or]
  · by_cases h19 : mv 19 = (0 : Int32)
    · rcases w3 h9 with e | e | e | e <;> simp only [p_Model_busPart, bG, h, h14, h19, e, i10, i04, i40, i43, i34, i30, i13, i14, i23, i24, i20, i00, i0l, il1, il2, il3, ↓reduceIte, true_or, or_true, not_true_eq_false, not_false_eq_true, or_false, false_or]
    · rcases w3 h9 with e | e | e | e <;> simp only [p_Model_busPart, bG, h, h14, h19, e, i10, i04, i40, i43, i34, i30, i13, i14, i23, i24, i20, i00, i0l, il1, il2, il3, ↓reduceIte, true_or, or_true, not_true_eq_false, not_false_eq_true, or_false, false_or]
theorem bp_w (mv : Nat → Int32) (mvL : Nat → Int64) (lc la mm kp cp reg sw sv pe se rc sd : Nat → Int32) (h9 : ∃ w : Nat, w ≤ 3 ∧ mv 9 = nI w) (h : ¬ mv 11 = (0 : Int32)) (h11 : ∃ w : Nat, w ≤ 4 ∧ mv 11 = nI w) (hr : ¬ mv 13 = mv 2) : p_Model_busPart mv mvL lc la mm kp cp reg sw sv pe se rc sd = (bG mv, mvL, lc, la, mm, kp, cp, reg, sw, sv, pe, se, rc, sd) := by
  have p : (0 : Int32) < mv 11 := by rcases w4 h11 with e | e | e | e | e <;> first | exact absurd e h | (rw [e]; decide)
  have q : ¬ mv 11 ≤ (0 : Int32) := by rcases w4 h11 with e | e | e | e | e <;> first | exact absurd e h | (rw [e]; decide)
  rw [p_Model_busPart, if_neg q, if_neg hr, if_pos p, bG, if_neg h]
theorem bp_s (mv : Nat → Int32) (mvL : Nat → Int64) (lc la mm kp cp reg sw sv pe se rc sd : Nat → Int32) (h9 : ∃ w : Nat, w ≤ 3 ∧ mv 9 = nI w) (h : mv 11 = (4 : Int32)) (hr : mv 13 = mv 2) : p_Model_busPart mv mvL lc la mm kp cp reg sw sv pe se rc sd = (bG (upd (upd mv 11 (0 : Int32)) 19 (mv 19 - (1 : Int32))), mvL, lc, la, (upd mm (sw 0).toNatClampNeg (sv 0)), kp, cp, reg, (upd sw 0 (sw 1)), (upd sv 0 (sv 1)), pe, se, rc, sd) := by
  have q : ¬ (4 : Int32) ≤ 0 := by decide
  have z0 : (0 : Int32).toNatClampNeg = 0 := rfl
  have z1 : (1 : Int32).toNatClampNeg = 1 := rfl
  have r0 : (upd (upd mv 11 (0 : Int32)) 19 (mv 19 - (1 : Int32))) 0 = mv 0 := rfl
  have r2 : (upd (upd mv 11 (0 : Int32)) 19 (mv 19 - (1 : Int32))) 2 = mv 2 := rfl
  have r9 : (upd (upd mv 11 (0 : Int32)) 19 (mv 19 - (1 : Int32))) 9 = mv 9 := rfl
  have r10 : (upd (upd mv 11 (0 : Int32)) 19 (mv 19 - (1 : Int32))) 10 = mv 10 := rfl
  have r11 : (upd (upd mv 11 (0 : Int32)) 19 (mv 19 - (1 : Int32))) 11 = (0 : Int32) := rfl
  have r14 : (upd (upd mv 11 (0 : Int32)) 19 (mv 19 - (1 : Int32))) 14 = mv 14 := rfl
  have r19 : (upd (upd mv 11 (0 : Int32)) 19 (mv 19 - (1 : Int32))) 19 = mv 19 - (1 : Int32) := rfl
  by_cases h14 : mv 14 = (0 : Int32)
  · by_cases h19 : (mv 19 - (1 : Int32)) = (0 : Int32)
    · rcases w3 h9 with e | e | e | e <;> simp only [p_Model_busPart, bG, h, hr, q, z0, z1, r0, r2, r9, r10, r11, r14, r19, h14, eq_true h19, e, i10, i04, i40, i43, i34, i30, i13, i14, i23, i24, i20, i00, i0l, il1, il2, il3, ↓reduceIte, true_or, or_true, not_true_eq_false, not_false_eq_true, or_false, false_or]
    · rcases w3 h9 with e | e | e | e <;> simp only [p_Model_busPart, bG, h, hr, q, z0, z1, r0, r2, r9, r10, r11, r14, r19, h14, h19, e, i10, i04, i40, i43, i34, i30, i13, i14, i23, i24, i20, i00, i0l, il1, il2, il3, ↓reduceIte, true_or, or_true, not_true_eq_false, not_false_eq_true, or_false, false_or]
  · by_cases h19 : (mv 19 - (1 : Int32)) = (0 : Int32)
    · rcases w3 h9 with e | e | e | e <;> simp only [p_Model_busPart, bG, h, hr, q, z0, z1, r0, r2, r9, r10, r11, r14, r19, h14, eq_true h19, e, i10, i04, i40, i43, i34, i30, i13, i14, i23, i24, i20, i00, i0l, il1, il2, il3, ↓reduceIte, true_or, or_true, not_true_eq_false, not_false_eq_true, or_false, false_or]
    · rcases w3 h9 with e | e | e | e <;> simp only [p_Model_busPart, bG, h, hr, q, z0, z1, r0, r2, r9, r10, r11, r14, r19, h14, h19, e, i10, i04, i40, i43, i34, i30, i13, i14, i23, i24, i20, i00, i0l, il1, il2, il3, ↓reduceIte, true_or, or_true, not_true_eq_false, not_false_eq_true, or_false, false_or]
theorem bp_1 (mv : Nat → Int32) (mvL : Nat → Int64) (lc la mm kp cp reg sw sv pe se rc sd : Nat → Int32) (h9 : ∃ w : Nat, w ≤ 3 ∧ mv 9 = nI w) (r1 : (Nat → Int32) × (Nat → Int32)) : p_Model_busPart_1 mv mvL lc la mm kp cp reg sw sv pe se rc sd r1 = (bG (upd (upd mv 11 (0 : Int32)) 7 (0 : Int32)), mvL, lc, la, mm, r1.1, r1.2, reg, sw, sv, pe, se, rc, sd) := by
  have r0 : (upd (upd mv 11 (0 : Int32)) 7 (0 : Int32)) 0 = mv 0 := rfl
  have r2 : (upd (upd mv 11 (0 : Int32)) 7 (0 : Int32)) 2 = mv 2 := rfl
  have r9 : (upd (upd mv 11 (0 : Int32)) 7 (0 : Int32)) 9 = mv 9 := rfl
  have r10 : (upd (upd mv 11 (0 : Int32)) 7 (0 : Int32)) 10 = mv 10 := rfl
  have r11 : (upd (upd mv 11 (0 : Int32)) 7 (0 : Int32)) 11 = (0 : Int32) := rfl
  have r14 : (upd (upd mv 11 (0 : Int32)) 7 (0 : Int32)) 14 = mv 14 := rfl
  have r19 : (upd (upd mv 11 (0 : Int32)) 7 (0 : Int32)) 19 = mv 19 := rfl
  by_cases h14 : mv 14 = (0 : Int32)
  · by_cases h19 : mv 19 = (0 : Int32)
    · rcases w3 h9 with e | e | e | e <;> simp only [p_Model_busPart_1, bG, i00, r0, r2, r9, r10, r11, r14, r19, h14, h19, e, i10, i04, i40, i43, i34, i30, i13, i14, i23, i24, i20, i00, i0l, il1, il2, il3, ↓reduceIte, true_or, or_true, not_true_eq_false, not_false_eq_true, or_false, false_or]
    · rcases w3 h9 with e | e | e | e <;> simp only [p_Model_busPart_1, bG, i00, r0, r2, r9, r10, r11, r14, r19, h14, h19, e, i10, i04, i40, i43, i34, i30, i13, i14, i23, i24, i20, i00, i0l, il1, il2, il3, ↓reduceIte, true_or, or_true, not_true_eq_false, not_false_eq_true, or_false, false_or]
  · by_cases h19 : mv 19 = (0 : Int32)
    · rcases w3 h9 with e | e | e | e <;> simp only [p_Model_busPart_1, bG, i00, r0, r2, r9, r10, r11, r14, r19, h14, h19, e, i10, i04, i40, i43, i34, i30, i13, i14, i23, i24, i20, i00, i0l, il1, il2, il3, ↓reduceIte, true_or, or_true, not_true_eq_false, not_false_eq_true, or_false, false_or]
    · rcases w3 h9 with e | e | e | e <;> simp only [p_Model_busPart_1, bG, i00, r0, r2, r9, r10, r11, r14, r19, h14, h19, e, i10, i04, i40, i43, i34, i30, i13, i14, i23, i24, i20, i00, i0l, il1, il2, il3, ↓reduceIte, true_or, or_true, not_true_eq_false, not_false_eq_true, or_false, false_or]
theorem bp_2 (mv : Nat → Int32) (mvL : Nat → Int64) (lc la mm kp cp reg sw sv pe se rc sd : Nat → Int32) (r2 : (Nat → Int32) × (Nat → Int64) × (Nat → Int32) × (Nat → Int32) × (Nat → Int32) × (Nat → Int32) × (Nat → Int32) × (Nat → Int32) × (Nat → Int32)) (h9 : ∃ w : Nat, w ≤ 3 ∧ r2.1 9 = nI w) (h11 : r2.1 11 = (0 : Int32)) : p_Model_busPart_2 mv mvL lc la mm kp cp reg sw sv pe se rc sd r2 = (bG r2.1, r2.2.1, r2.2.2.1, r2.2.2.2.1, mm, kp, cp, r2.2.2.2.2.1, sw, sv, r2.2.2.2.2.2.1, r2.2.2.2.2.2.2.1, r2.2.2.2.2.2.2.2.1, r2.2.2.2.2.2.2.2.2) := by
  by_cases h14 : r2.1 14 = (0 : Int32)
  · by_cases h19 : r2.1 19 = (0 : Int32)
    · rcases w3 h9 with e | e | e | e <;> simp only [p_Model_busPart_2, bG, h11, h14, h19, e, i10, i04, i40, i43, i34, i30, i13, i14, i23, i24, i20, i00, i0l, il1, il2, il3, ↓reduceIte, true_or, or_true, not_true_eq_false, not_false_eq_true, or_false, false_or]
    · rcases w3 h9 with e | e | e | e <;> simp only [p_Model_busPart_2, bG, h11, h14, h19, e, i10, i04, i40, i43, i34, i30, i13, i14, i23, i24, i20, i00, i0l, il1, il2, il3, ↓reduceIte, true_or, or_true, not_true_eq_false, not_false_eq_true, or_false, false_or]
  · by_cases h19 : r2.1 19 = (0 : Int32)
    · rcases w3 h9 with e | e | e | e <;> simp only [p_Model_busPart_2, bG, h11, h14, h19, e, i10, i04, i40, i43, i34, i30, i13, i14, i23, i24, i20, i00, i0l, il1, il2, il3, ↓reduceIte, true_or, or_true, not_true_eq_false, not_false_eq_true, or_false, false_or]
    · rcases w3 h9 with e | e | e | e <;> simp only [p_Model_busPart_2, bG, h11, h14, h19, e, i10, i04, i40, i43, i34, i30, i13, i14, i23, i24, i20, i00, i0l, il1, il2, il3, ↓reduceIte, true_or, or_true, not_true_eq_false, not_false_eq_true, or_false, false_or]
theorem bp_f (mv : Nat → Int32) (mvL : Nat → Int64) (lc la mm kp cp reg sw sv pe se rc sd : Nat → Int32) (h9 : ∃ w : Nat, w ≤ 3 ∧ mv 9 = nI w) (h : mv 11 = (1 : Int32) ∨ mv 11 = (2 : Int32)) (hr : mv 13 = mv 2) : p_Model_busPart mv mvL lc la mm kp cp reg sw sv pe se rc sd = (bG (upd (upd mv 11 (0 : Int32)) 7 (0 : Int32)), mvL, lc, la, mm, (p_Model_fill (upd (upd mv 11 (0 : Int32)) 7 (0 : Int32)) mvL mm kp cp (mv 11) (mv 12)).1, (p_Model_fill (upd (upd mv 11 (0 : Int32)) 7 (0 : Int32)) mvL mm kp cp (mv 11) (mv 12)).2, reg, sw, sv, pe, se, rc, sd) := by
  rw [← bp_1 mv mvL lc la mm kp cp reg sw sv pe se rc sd h9]
  rcases h with h | h
  · rw [p_Model_busPart, if_neg (by rw [h]; decide), if_pos hr, if_neg (by rw [h]; decide), if_neg (by rw [h]; decide)]
  · rw [p_Model_busPart, if_neg (by rw [h]; decide), if_pos hr, if_neg (by rw [h]; decide), if_neg (by rw [h]; decide)]
theorem bp_d (mv : Nat → Int32) (mvL : Nat → Int64) (lc la mm kp cp reg sw sv pe se rc sd : Nat → Int32) (h9 : ∃ w : Nat, w ≤ 3 ∧ mv 9 = nI w) (h : mv 11 = (3 : Int32)) (hr : mv 13 = mv 2) (hd9 : (p_Model_device (upd (upd mv 11 (0 : Int32)) 7 (0 : Int32)) mvL lc la reg pe se rc sd).1 9 = mv 9) (hd11 : (p_Model_device (upd (upd mv 11 (0 : Int32)) 7 (0 : Int32)) mvL lc la reg pe se rc sd).1 11 = (0 : Int32)) : p_Model_busPart mv mvL lc la mm kp cp reg sw sv pe se rc sd = (bG ((p_Model_device (upd (upd mv 11 (0 : Int32)) 7 (0 : Int32)) mvL lc la reg pe se rc sd).1), (p_Model_device (upd (upd mv 11 (0 : Int32)) 7 (0 : Int32)) mvL lc la reg pe se rc sd).2.1, (p_Model_device (upd (upd mv 11 (0 : Int32)) 7 (0 : Int32)) mvL lc la reg pe se rc sd).2.2.1, (p_Model_device (upd (upd mv 11 (0 : Int32)) 7 (0 : Int32)) mvL lc la reg pe se rc sd).2.2.2.1, mm, kp, cp, (p_Model_device (upd (upd mv 11 (0 : Int32)) 7 (0 : Int32)) mvL lc la reg pe se rc sd).2.2.2.2.1, sw, sv, (p_Model_device (upd (upd mv 11 (0 : Int32)) 7 (0 : Int32)) mvL lc la reg pe se rc sd).2.2.2.2.2.1, (p_Model_device (upd (upd mv 11 (0 : Int32)) 7 (0 : Int32)) mvL lc la reg pe se rc sd).2.2.2.2.2.2.1, (p_Model_device (upd (upd mv 11 (0 : Int32)) 7 (0 : Int32)) mvL lc la reg pe se rc sd).2.2.2.2.2.2.2.1, (p_Model_device (upd (upd mv 11 (0 : Int32)) 7 (0 : Int32)) mvL lc la reg pe se rc sd).2.2.2.2.2.2.2.2) := by
  rw [p_Model_busPart, if_neg (by rw [h]; decide), if_pos hr, if_neg (by rw [h]; decide), if_pos h, bp_2 _ _ _ _ _ _ _ _ _ _ _ _ _ _ _ (by rw [hd9]; exact h9) hd11]
