/-! S4: stores of the devices' registers -/
theorem jm_eq (x : Int32) : j_max (1 : Int32) (x &&& (255 : Int32)) = if (x &&& (255 : Int32)) = (0 : Int32) then 1 else (x &&& (255 : Int32)) := by
  obtain ⟨j, hj, e⟩ := pk_andE x (m := (255 : Int32)) 8 (by decide +kernel)
  rw [e]
  unfold j_max
  by_cases h0 : j = 0
  · subst h0
    rw [if_neg (by decide), if_pos (by rfl)]
  · rw [if_neg (show ¬ nI j = (0 : Int32) from nI_ne0 (by omega) (by omega))]
    by_cases h1 : j = 1
    · subst h1
      rw [if_neg (by decide)]; rfl
    · rw [if_pos (show (1 : Int32) < nI j from nI_lt (a := 1) (by omega) (by omega))]
theorem q_keep {v B q : Nat → Int32} {cnt : Int32} (x : Int32) (h : rQ v B cnt q) (hn : cnt = (8 : Int32)) : p_ByteQueue_put v B x = (v, B) := by
  rw [p_ByteQueue_put, p_ByteQueue_put_1, q_full h, if_pos hn, if_neg (show ¬ (1 : Int32) = (0 : Int32) by decide)]
theorem sto_eq {dvL mvL : Nat → Int64} {itv srv sqv sqB mv hi pe se sd : Nat → Int32} (hI : rInt itv mv hi pe se) (hT : rTime dvL mvL) (hS : rSer srv mv) (hQ : rQ sqv sqB (mv 26) sd) : rTime (p_Devices_store dvL itv srv sqv sqB (mv 15) (mv 17)).1 (p_Model_putDevice mv mvL se sd).2.1 ∧ rInt (p_Devices_store dvL itv srv sqv sqB (mv 15) (mv 17)).2.1 (p_Model_putDevice mv mvL se sd).1 hi pe (p_Model_putDevice mv mvL se sd).2.2.1 ∧ rSer (p_Devices_store dvL itv srv sqv sqB (mv 15) (mv 17)).2.2.1 (p_Model_putDevice mv mvL se sd).1 ∧ rQ (p_Devices_store dvL itv srv sqv sqB (mv 15) (mv 17)).2.2.2.1 (p_Devices_store dvL itv srv sqv sqB (mv 15) (mv 17)).2.2.2.2 ((p_Model_putDevice mv mvL se sd).1 26) (p_Model_putDevice mv mvL se sd).2.2.2 ∧ ∀ j, j ≠ 21 → j ≠ 22 → j ≠ 23 → j ≠ 25 → j ≠ 26 → j ≠ 27 → j ≠ 28 → (p_Model_putDevice mv mvL se sd).1 j = mv j := by
  have hS' := hS
  obtain ⟨s0, s1, s2, s3, s4, s5, s6, s7, s8⟩ := hS'
  have hI' := hI
  obtain ⟨i1, i2, i3, i4, i5, i6, i7⟩ := hI'
  have hT' := hT
  obtain ⟨t1, t2⟩ := hT' 
  by_cases h0 : mv 15 = (0 : Int32)
  · have e1 : p_Devices_store dvL itv srv sqv sqB (mv 15) (mv 17) = (vp_updL dvL 0 (p_Devices_withLow (dvL 0) (mv 17)), itv, srv, sqv, sqB) := by rw [p_Devices_store, if_pos h0, p_Devices_store_1]
    have e2 : p_Model_putDevice mv mvL se sd = (mv, vp_updL mvL 0 (p_Model_joinWords (j_lshr (mvL 0) (32 : Int32)).toInt32 (mv 17).toInt64), se, sd) := by rw [p_Model_putDevice, if_pos h0, p_Model_putDevice_1]
    rw [e1, e2]
    refine ⟨⟨?_, t2⟩, hI, hS, hQ, fun j _ _ _ _ _ _ _ => rfl⟩
    show p_Devices_withLow (dvL 0) (mv 17) = p_Model_joinWords (j_lshr (mvL 0) (32 : Int32)).toInt32 (mv 17).toInt64
    rw [t1, wl_eq]
  by_cases h1 : mv 15 = (1 : Int32)
  · have e1 : p_Devices_store dvL itv srv sqv sqB (mv 15) (mv 17) = (vp_updL dvL 0 (p_Devices_withHigh (dvL 0) (mv 17)), itv, srv, sqv, sqB) := by rw [p_Devices_store, if_neg h0, if_pos h1, p_Devices_store_2]
    have e2 : p_Model_putDevice mv mvL se sd = (mv, vp_updL mvL 0 (p_Model_joinWords (mv 17) (mvL 0)), se, sd) := by rw [p_Model_putDevice, if_neg h0, if_pos h1, p_Model_putDevice_2]
    rw [e1, e2]
    refine ⟨⟨?_, t2⟩, hI, hS, hQ, fun j _ _ _ _ _ _ _ => rfl⟩
    show p_Devices_withHigh (dvL 0) (mv 17) = p_Model_joinWords (mv 17) (mvL 0)
    rw [t1, wh_eq]
  by_cases h2 : mv 15 = (2 : Int32)
  · have e1 : p_Devices_store dvL itv srv sqv sqB (mv 15) (mv 17) = (vp_updL dvL 1 (p_Devices_withLow (dvL 1) (mv 17)), itv, srv, sqv, sqB) := by rw [p_Devices_store, if_neg h0, if_neg h1, if_pos h2, p_Devices_store_3]
    have e2 : p_Model_putDevice mv mvL se sd = (mv, vp_updL mvL 1 (p_Model_joinWords (j_lshr (mvL 1) (32 : Int32)).toInt32 (mv 17).toInt64), se, sd) := by rw [p_Model_putDevice, if_neg h0, if_neg h1, if_pos h2, p_Model_putDevice_3]
    rw [e1, e2]
    refine ⟨⟨t1, ?_⟩, hI, hS, hQ, fun j _ _ _ _ _ _ _ => rfl⟩
    show p_Devices_withLow (dvL 1) (mv 17) = p_Model_joinWords (j_lshr (mvL 1) (32 : Int32)).toInt32 (mv 17).toInt64
    rw [t2, wl_eq]
  by_cases h3 : mv 15 = (3 : Int32)
  · have e1 : p_Devices_store dvL itv srv sqv sqB (mv 15) (mv 17) = (vp_updL dvL 1 (p_Devices_withHigh (dvL 1) (mv 17)), itv, srv, sqv, sqB) := by rw [p_Devices_store, if_neg h0, if_neg h1, if_neg h2, if_pos h3, p_Devices_store_4]
    have e2 : p_Model_putDevice mv mvL se sd = (mv, vp_updL mvL 1 (p_Model_joinWords (mv 17) (mvL 1)), se, sd) := by rw [p_Model_putDevice, if_neg h0, if_neg h1, if_neg h2, if_pos h3, p_Model_putDevice_4]
    rw [e1, e2]
    refine ⟨⟨t1, ?_⟩, hI, hS, hQ, fun j _ _ _ _ _ _ _ => rfl⟩
    show p_Devices_withHigh (dvL 1) (mv 17) = p_Model_joinWords (mv 17) (mvL 1)
    rw [t2, wh_eq]
  by_cases h4 : mv 15 = (4 : Int32)
  · have e1 : p_Devices_store dvL itv srv sqv sqB (mv 15) (mv 17) = (dvL, upd itv 1 (mv 17 &&& (254 : Int32)), srv, sqv, sqB) := by rw [p_Devices_store, if_neg h0, if_neg h1, if_neg h2, if_neg h3, if_pos h4, p_Devices_store_5, p_Interrupts_store, if_pos h4]
    have e2 : p_Model_putDevice mv mvL se sd = (upd mv 21 (mv 17 &&& (254 : Int32)), mvL, se, sd) := by rw [p_Model_putDevice, if_neg h0, if_neg h1, if_neg h2, if_neg h3, if_pos h4]
    rw [e1, e2]
    exact ⟨hT, ⟨rfl, i2, i3, i4, i5, i6, i7⟩, hS, hQ, fun j a1 a2 a3 a5 a6 a7 a8 => pk_un a1⟩
  by_cases h5 : mv 15 = (5 : Int32)
  · have e1 : p_Devices_store dvL itv srv sqv sqB (mv 15) (mv 17) = (dvL, upd itv 2 (mv 17 &&& (7 : Int32)), srv, sqv, sqB) := by rw [p_Devices_store, if_neg h0, if_neg h1, if_neg h2, if_neg h3, if_neg h4, if_pos h5, p_Devices_store_6, p_Interrupts_store, if_neg h4, if_pos h5]
    have e2 : p_Model_putDevice mv mvL se sd = (upd mv 22 (mv 17 &&& (7 : Int32)), mvL, se, sd) := by rw [p_Model_putDevice, if_neg h0, if_neg h1, if_neg h2, if_neg h3, if_neg h4, if_pos h5]
    rw [e1, e2]
    exact ⟨hT, ⟨i1, rfl, i3, i4, i5, i6, i7⟩, hS, hQ, fun j a1 a2 a3 a5 a6 a7 a8 => pk_un a2⟩
  by_cases h6 : mv 15 = (6 : Int32)
  · have e1 : p_Devices_store dvL itv srv sqv sqB (mv 15) (mv 17) = (dvL, p_Interrupts_endService itv (mv 17), srv, sqv, sqB) := by rw [p_Devices_store, if_neg h0, if_neg h1, if_neg h2, if_neg h3, if_neg h4, if_neg h5, if_pos h6, p_Devices_store_7, p_Interrupts_store, if_neg h4, if_neg h5, if_pos h6, p_Interrupts_store_1]
    have e2 : p_Model_putDevice mv mvL se sd = p_Model_putDevice_5 mv mvL se sd (p_Model_in (mv 17) (1 : Int32) (7 : Int32)) := by rw [p_Model_putDevice, if_neg h0, if_neg h1, if_neg h2, if_neg h3, if_neg h4, if_neg h5, if_pos h6]
    rw [e1, e2, p_Model_putDevice_5, p_Interrupts_endService, p_Model_in]
    by_cases b1 : mv 17 < (1 : Int32)
    · rw [if_pos b1, if_pos b1, if_pos rfl]
      exact ⟨hT, hI, hS, hQ, fun j _ _ _ _ _ _ _ => rfl⟩
    · by_cases b7 : (7 : Int32) < mv 17
      · rw [if_neg b1, if_pos b7, if_neg b1, if_pos b7, if_pos rfl]
        exact ⟨hT, hI, hS, hQ, fun j _ _ _ _ _ _ _ => rfl⟩
      · rw [if_neg b1, if_neg b7, if_neg b1, if_neg b7, if_neg (show ¬ (1 : Int32) = (0 : Int32) by decide)]
        obtain ⟨w, hw, ew⟩ := nI_of2 (n := 7) (x := mv 17) (M := (7 : Int32)) rfl (fun hh => b1 (Int32.lt_trans hh (by decide))) (k2_le b7)
        rw [ew, nI_clamp (by omega)]
        refine ⟨hT, ⟨i1, i2, i3, i4, i5, b_clr i6 hw, fun i hi8 => ⟨(i7 i hi8).1, (i7 i hi8).2.1, ?_⟩⟩, hS, hQ, fun j _ _ _ _ _ _ _ => rfl⟩
        show upd se w 0 i = 0 ∨ upd se w 0 i = 1
        by_cases hiw : i = w
        · rw [hiw, pk_us]; exact Or.inl rfl
        · rw [pk_un hiw]; exact (i7 i hi8).2.2
  by_cases h7 : mv 15 = (7 : Int32)
  · have e1 : p_Devices_store dvL itv srv sqv sqB (mv 15) (mv 17) = (dvL, itv, srv, sqv, sqB) := by rw [p_Devices_store, if_neg h0, if_neg h1, if_neg h2, if_neg h3, if_neg h4, if_neg h5, if_neg h6, if_pos h7, p_Devices_store_8, p_Interrupts_store, if_neg h4, if_neg h5, if_neg h6, if_neg (show ¬ mv 15 = (8 : Int32) by rw [h7]; decide)]
    have e2 : p_Model_putDevice mv mvL se sd = (mv, mvL, se, sd) := by rw [p_Model_putDevice, if_neg h0, if_neg h1, if_neg h2, if_neg h3, if_neg h4, if_neg h5, if_neg h6, if_neg (show ¬ mv 15 = (8 : Int32) by rw [h7]; decide), if_neg (show ¬ mv 15 = (12 : Int32) by rw [h7]; decide), if_neg (show ¬ mv 15 = (13 : Int32) by rw [h7]; decide), if_neg (show ¬ mv 15 = (14 : Int32) by rw [h7]; decide), if_neg (show ¬ mv 15 = (15 : Int32) by rw [h7]; decide)]
    rw [e1, e2]
    exact ⟨hT, hI, hS, hQ, fun j _ _ _ _ _ _ _ => rfl⟩
  by_cases h8 : mv 15 = (8 : Int32)
  · have e1 : p_Devices_store dvL itv srv sqv sqB (mv 15) (mv 17) = (dvL, upd itv 3 (mv 17 &&& (2004318064 : Int32)), srv, sqv, sqB) := by rw [p_Devices_store, if_neg h0, if_neg h1, if_neg h2, if_neg h3, if_neg h4, if_neg h5, if_neg h6, if_neg h7, if_pos h8, p_Devices_store_9, p_Interrupts_store, if_neg h4, if_neg h5, if_neg h6, if_pos h8]
    have e2 : p_Model_putDevice mv mvL se sd = (upd mv 23 (mv 17 &&& (2004318064 : Int32)), mvL, se, sd) := by rw [p_Model_putDevice, if_neg h0, if_neg h1, if_neg h2, if_neg h3, if_neg h4, if_neg h5, if_neg h6, if_pos h8]
    rw [e1, e2]
    exact ⟨hT, ⟨i1, i2, rfl, i4, i5, i6, i7⟩, hS, hQ, fun j a1 a2 a3 a5 a6 a7 a8 => pk_un a3⟩
  by_cases h12 : mv 15 = (12 : Int32)
  · have e1 : p_Devices_store dvL itv srv sqv sqB (mv 15) (mv 17) = (dvL, itv, srv, (p_ByteQueue_put sqv sqB (mv 17)).1, (p_ByteQueue_put sqv sqB (mv 17)).2) := by rw [p_Devices_store, if_neg h0, if_neg h1, if_neg h2, if_neg h3, if_neg h4, if_neg h5, if_neg h6, if_neg h7, if_neg h8, if_pos h12, p_Devices_store_10, p_Serial_store, if_pos h12, p_Serial_store_1]
    have e2 : p_Model_putDevice mv mvL se sd = if (8 : Int32) ≤ mv 26 then (mv, mvL, se, sd) else (upd mv 26 (mv 26 + (1 : Int32)), mvL, se, upd sd (mv 26).toNatClampNeg (mv 17 &&& (255 : Int32))) := by rw [p_Model_putDevice, if_neg h0, if_neg h1, if_neg h2, if_neg h3, if_neg h4, if_neg h5, if_neg h6, if_neg h8, if_pos h12]
    rw [e1, e2]
    by_cases b : mv 26 = (8 : Int32)
    · rw [if_pos (by rw [b]; decide), q_keep (mv 17) hQ b]
      exact ⟨hT, hI, hS, hQ, fun j _ _ _ _ _ _ _ => rfl⟩
    · have b2 : ¬ (8 : Int32) ≤ mv 26 := by
        obtain ⟨f, q, hf, hq, z0, z1, z2, z3⟩ := hQ
        intro hh
        rw [z2] at hh
        have h9 := lp_le (c := (8 : Int32)) (n := 8) (k := q) rfl rfl (by omega) (by omega) hh
        exact b (by rw [z2, show q = 8 by omega]; rfl)
      rw [if_neg b2]
      exact ⟨hT, hI, hS, q_put (mv 17) hQ b, fun j a1 a2 a3 a5 a6 a7 a8 => pk_un a6⟩
  by_cases h13 : mv 15 = (13 : Int32)
  · have e1 : p_Devices_store dvL itv srv sqv sqB (mv 15) (mv 17) = (dvL, itv, upd srv 0 0, sqv, sqB) := by rw [p_Devices_store, if_neg h0, if_neg h1, if_neg h2, if_neg h3, if_neg h4, if_neg h5, if_neg h6, if_neg h7, if_neg h8, if_neg h12, if_pos h13, p_Devices_store_11, p_Serial_store, if_neg h12, if_pos h13]
    have e2 : p_Model_putDevice mv mvL se sd = (upd mv 25 0, mvL, se, sd) := by rw [p_Model_putDevice, if_neg h0, if_neg h1, if_neg h2, if_neg h3, if_neg h4, if_neg h5, if_neg h6, if_neg h8, if_neg h12, if_pos h13]
    rw [e1, e2]
    exact ⟨hT, hI, ⟨rfl, s1, s2, s3, s4, s5, Or.inl rfl, s7, s8⟩, hQ, fun j a1 a2 a3 a5 a6 a7 a8 => pk_un a5⟩
  by_cases h14 : mv 15 = (14 : Int32)
  · have e1 : p_Devices_store dvL itv srv sqv sqB (mv 15) (mv 17) = (dvL, itv, upd srv 1 (j_max (1 : Int32) (mv 17 &&& (255 : Int32))), sqv, sqB) := by rw [p_Devices_store, if_neg h0, if_neg h1, if_neg h2, if_neg h3, if_neg h4, if_neg h5, if_neg h6, if_neg h7, if_neg h8, if_neg h12, if_neg h13, if_pos h14, p_Devices_store_12, p_Serial_store, if_neg h12, if_neg h13, if_pos h14]
    have e2 : p_Model_putDevice mv mvL se sd = (upd mv 27 (j_max (1 : Int32) (mv 17 &&& (255 : Int32))), mvL, se, sd) := by
      rw [p_Model_putDevice, if_neg h0, if_neg h1, if_neg h2, if_neg h3, if_neg h4, if_neg h5, if_neg h6, if_neg h8, if_neg h12, if_neg h13, if_pos h14, jm_eq]
      by_cases b : (mv 17 &&& (255 : Int32)) = (0 : Int32)
      · rw [if_pos b, if_pos b]
      · rw [if_neg b, if_neg b]
    rw [e1, e2]
    exact ⟨hT, hI, ⟨s0, rfl, s2, s3, s4, s5, s6, s7, s8⟩, hQ, fun j a1 a2 a3 a5 a6 a7 a8 => pk_un a7⟩
  by_cases h15 : mv 15 = (15 : Int32)
  · have e1 : p_Devices_store dvL itv srv sqv sqB (mv 15) (mv 17) = (dvL, itv, upd srv 2 (mv 17 &&& (3 : Int32)), sqv, sqB) := by rw [p_Devices_store, if_neg h0, if_neg h1, if_neg h2, if_neg h3, if_neg h4, if_neg h5, if_neg h6, if_neg h7, if_neg h8, if_neg h12, if_neg h13, if_neg h14, if_pos h15, p_Devices_store_13, p_Serial_store, if_neg h12, if_neg h13, if_neg h14]
    have e2 : p_Model_putDevice mv mvL se sd = (upd mv 28 (mv 17 &&& (3 : Int32)), mvL, se, sd) := by rw [p_Model_putDevice, if_neg h0, if_neg h1, if_neg h2, if_neg h3, if_neg h4, if_neg h5, if_neg h6, if_neg h8, if_neg h12, if_neg h13, if_neg h14, if_pos h15]
    rw [e1, e2]
    obtain ⟨w, hw, ew⟩ := pk_andE (mv 17) (m := (3 : Int32)) 2 (by decide +kernel)
    exact ⟨hT, hI, ⟨s0, s1, rfl, s3, s4, s5, s6, s7, w, by omega, ew⟩, hQ, fun j a1 a2 a3 a5 a6 a7 a8 => pk_un a8⟩
  have e1 : p_Devices_store dvL itv srv sqv sqB (mv 15) (mv 17) = (dvL, itv, srv, sqv, sqB) := by rw [p_Devices_store, if_neg h0, if_neg h1, if_neg h2, if_neg h3, if_neg h4, if_neg h5, if_neg h6, if_neg h7, if_neg h8, if_neg h12, if_neg h13, if_neg h14, if_neg h15]
  have e2 : p_Model_putDevice mv mvL se sd = (mv, mvL, se, sd) := by rw [p_Model_putDevice, if_neg h0, if_neg h1, if_neg h2, if_neg h3, if_neg h4, if_neg h5, if_neg h6, if_neg h8, if_neg h12, if_neg h13, if_neg h14, if_neg h15]
  rw [e1, e2]
  exact ⟨hT, hI, hS, hQ, fun j _ _ _ _ _ _ _ => rfl⟩
