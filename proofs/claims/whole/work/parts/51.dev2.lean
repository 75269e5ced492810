/-! S4: loads and stores of the devices' registers -/
theorem st_eq {dvL mvL : Nat → Int64} {itv srv rqv rqB sqv sqB mv hi pe se rc sd : Nat → Int32} (hI : rInt itv mv hi pe se) (hT : rTime dvL mvL) (hS : rSer srv mv) (hR : rQ rqv rqB (mv 24) rc) (hQ : rQ sqv sqB (mv 26) sd) : p_Serial_state srv rqv rqB sqv sqB = (if mv 24 = (0 : Int32) then (0 : Int32) else 1) + (if mv 26 = (8 : Int32) then (2 : Int32) else 0) + (if mv 25 = (0 : Int32) then (0 : Int32) else 4) + (if mv 29 = (0 : Int32) then (0 : Int32) else 8) := by
  obtain ⟨s0, s1, s2, s3, s4, s5, s6, s7, s8⟩ := hS
  have c1 : ((1 : Int32) = (0 : Int32)) = False := eq_false (by decide)
  have c0 : ((0 : Int32) = (0 : Int32)) = True := eq_true rfl
  unfold p_Serial_state p_Serial_state_1 p_Serial_state_2 p_Serial_state_3
  rw [q_emp hR, q_full hQ, s0, s3]
  by_cases a1 : mv 24 = (0 : Int32) <;> by_cases a2 : mv 26 = (8 : Int32) <;> by_cases a3 : mv 25 = (0 : Int32) <;> by_cases a4 : mv 29 = (0 : Int32) <;> simp only [a1, a2, a3, a4, c1, c0, if_true, if_false]
theorem ld_eq {dvL mvL : Nat → Int64} {itv srv rqv rqB sqv sqB mv hi pe se rc sd : Nat → Int32} (hI : rInt itv mv hi pe se) (hT : rTime dvL mvL) (hS : rSer srv mv) (hR : rQ rqv rqB (mv 24) rc) (hQ : rQ sqv sqB (mv 26) sd) : (p_Devices_load dvL itv srv rqv rqB sqv sqB (mv 15)).1 = (p_Model_loaded mv mvL pe se rc).1 ∧ rInt (p_Devices_load dvL itv srv rqv rqB sqv sqB (mv 15)).2.1 (p_Model_loaded mv mvL pe se rc).2.1 hi (p_Model_loaded mv mvL pe se rc).2.2.1 (p_Model_loaded mv mvL pe se rc).2.2.2.1 ∧ rQ (p_Devices_load dvL itv srv rqv rqB sqv sqB (mv 15)).2.2 rqB ((p_Model_loaded mv mvL pe se rc).2.1 24) (p_Model_loaded mv mvL pe se rc).2.2.2.2 ∧ ∀ j, j ≠ 24 → (p_Model_loaded mv mvL pe se rc).2.1 j = mv j := by
  have hS' := hS
  obtain ⟨s0, s1, s2, s3, s4, s5, s6, s7, s8⟩ := hS'
  have hI' := hI
  obtain ⟨i1, i2, i3, i4, i5, i6, i7⟩ := hI'
  have same : ∀ a b : Int32, a = b → p_Devices_load dvL itv srv rqv rqB sqv sqB (mv 15) = (a, itv, rqv) → p_Model_loaded mv mvL pe se rc = (b, mv, pe, se, rc) → (p_Devices_load dvL itv srv rqv rqB sqv sqB (mv 15)).1 = (p_Model_loaded mv mvL pe se rc).1 ∧ rInt (p_Devices_load dvL itv srv rqv rqB sqv sqB (mv 15)).2.1 (p_Model_loaded mv mvL pe se rc).2.1 hi (p_Model_loaded mv mvL pe se rc).2.2.1 (p_Model_loaded mv mvL pe se rc).2.2.2.1 ∧ rQ (p_Devices_load dvL itv srv rqv rqB sqv sqB (mv 15)).2.2 rqB ((p_Model_loaded mv mvL pe se rc).2.1 24) (p_Model_loaded mv mvL pe se rc).2.2.2.2 ∧ ∀ j, j ≠ 24 → (p_Model_loaded mv mvL pe se rc).2.1 j = mv j := by
    intro a b hab e1 e2
    rw [e1, e2]
    exact ⟨hab, hI, hR, fun j _ => rfl⟩
  by_cases h0 : mv 15 = (0 : Int32)
  · exact same ((dvL 0).toInt32) ((mvL 0).toInt32) (by rw [hT.1]) (by rw [p_Devices_load, if_pos h0]) (by rw [p_Model_loaded, if_pos h0])
  by_cases h1 : mv 15 = (1 : Int32)
  · exact same ((j_lshr (dvL 0) (32 : Int32)).toInt32) ((j_lshr (mvL 0) (32 : Int32)).toInt32) (by rw [hT.1]) (by rw [p_Devices_load, if_neg h0, if_pos h1]) (by rw [p_Model_loaded, if_neg h0, if_pos h1])
  by_cases h2 : mv 15 = (2 : Int32)
  · exact same ((dvL 1).toInt32) ((mvL 1).toInt32) (by rw [hT.2]) (by rw [p_Devices_load, if_neg h0, if_neg h1, if_pos h2]) (by rw [p_Model_loaded, if_neg h0, if_neg h1, if_pos h2])
  by_cases h3 : mv 15 = (3 : Int32)
  · exact same ((j_lshr (dvL 1) (32 : Int32)).toInt32) ((j_lshr (mvL 1) (32 : Int32)).toInt32) (by rw [hT.2]) (by rw [p_Devices_load, if_neg h0, if_neg h1, if_neg h2, if_pos h3]) (by rw [p_Model_loaded, if_neg h0, if_neg h1, if_neg h2, if_pos h3])
  by_cases h4 : mv 15 = (4 : Int32)
  · exact same (itv 1) (mv 21) (i1) (by rw [p_Devices_load, if_neg h0, if_neg h1, if_neg h2, if_neg h3, if_pos h4, p_Devices_load_1, p_Interrupts_load, if_pos h4]) (by rw [p_Model_loaded, if_neg h0, if_neg h1, if_neg h2, if_neg h3, if_pos h4])
  by_cases h5 : mv 15 = (5 : Int32)
  · exact same (itv 2) (mv 22) (i2) (by rw [p_Devices_load, if_neg h0, if_neg h1, if_neg h2, if_neg h3, if_neg h4, if_pos h5, p_Devices_load_2, p_Interrupts_load, if_neg h4, if_pos h5]) (by rw [p_Model_loaded, if_neg h0, if_neg h1, if_neg h2, if_neg h3, if_neg h4, if_pos h5])
  by_cases h6 : mv 15 = (6 : Int32)
  · have e1 : p_Devices_load dvL itv srv rqv rqB sqv sqB (mv 15) = ((p_Interrupts_claim itv).1, (p_Interrupts_claim itv).2, rqv) := by rw [p_Devices_load, if_neg h0, if_neg h1, if_neg h2, if_neg h3, if_neg h4, if_neg h5, if_pos h6, p_Devices_load_3, p_Interrupts_load, if_neg h4, if_neg h5, if_pos h6, p_Interrupts_load_1]
    have e2 : p_Model_loaded mv mvL pe se rc = ((p_Model_claim mv mvL pe se).1, mv, (p_Model_claim mv mvL pe se).2.1, (p_Model_claim mv mvL pe se).2.2, rc) := by rw [p_Model_loaded, if_neg h0, if_neg h1, if_neg h2, if_neg h3, if_neg h4, if_neg h5, if_pos h6, p_Model_loaded_1]
    rw [e1, e2]
    exact ⟨(cl_eq hI).1, (cl_eq hI).2, hR, fun j _ => rfl⟩
  by_cases h7 : mv 15 = (7 : Int32)
  · exact same (itv 4) (p_Model_bits mv mvL pe se (0 : Int32)) ((bits_eq mvL hI).1.symm) (by rw [p_Devices_load, if_neg h0, if_neg h1, if_neg h2, if_neg h3, if_neg h4, if_neg h5, if_neg h6, if_pos h7, p_Devices_load_4, p_Interrupts_load, if_neg h4, if_neg h5, if_neg h6, if_pos h7]) (by rw [p_Model_loaded, if_neg h0, if_neg h1, if_neg h2, if_neg h3, if_neg h4, if_neg h5, if_neg h6, if_pos h7, p_Model_loaded_2])
  by_cases h8 : mv 15 = (8 : Int32)
  · exact same (itv 3) (mv 23) (i3) (by rw [p_Devices_load, if_neg h0, if_neg h1, if_neg h2, if_neg h3, if_neg h4, if_neg h5, if_neg h6, if_neg h7, if_pos h8, p_Devices_load_5, p_Interrupts_load, if_neg h4, if_neg h5, if_neg h6, if_neg h7]) (by rw [p_Model_loaded, if_neg h0, if_neg h1, if_neg h2, if_neg h3, if_neg h4, if_neg h5, if_neg h6, if_neg h7, if_pos h8])
  by_cases h12 : mv 15 = (12 : Int32)
  · have e1 : p_Devices_load dvL itv srv rqv rqB sqv sqB (mv 15) = ((p_ByteQueue_take rqv rqB).1, itv, (p_ByteQueue_take rqv rqB).2) := by rw [p_Devices_load, if_neg h0, if_neg h1, if_neg h2, if_neg h3, if_neg h4, if_neg h5, if_neg h6, if_neg h7, if_neg h8, if_pos h12, p_Devices_load_6, p_Serial_load, if_pos h12, p_Serial_load_1]
    have e2 : p_Model_loaded mv mvL pe se rc = ((p_Model_takeByte mv mvL rc).1, (p_Model_takeByte mv mvL rc).2.1, pe, se, (p_Model_takeByte mv mvL rc).2.2) := by rw [p_Model_loaded, if_neg h0, if_neg h1, if_neg h2, if_neg h3, if_neg h4, if_neg h5, if_neg h6, if_neg h7, if_neg h8, if_pos h12, p_Model_loaded_3]
    obtain ⟨t1, t2, t3⟩ := tk_eq (mvL := mvL) hR
    rw [e1, e2]
    refine ⟨t1, ⟨?_, ?_, ?_, i4, i5, i6, i7⟩, t2, t3⟩
    · show itv 1 = (p_Model_takeByte mv mvL rc).2.1 21
      rw [t3 21 (by decide)]; exact i1
    · show itv 2 = (p_Model_takeByte mv mvL rc).2.1 22
      rw [t3 22 (by decide)]; exact i2
    · show itv 3 = (p_Model_takeByte mv mvL rc).2.1 23
      rw [t3 23 (by decide)]; exact i3
  by_cases h13 : mv 15 = (13 : Int32)
  · have hz : mv 24 ≤ (0 : Int32) ↔ mv 24 = (0 : Int32) := by
      obtain ⟨f, q, hf, hq, z0, z1, z2, z3⟩ := hR
      rw [z2]
      constructor
      · intro hh
        have := lp_le (c := nI q) (s := (0 : Int32)) (k := 0) (n := q) rfl rfl (by omega) (by omega) hh
        have : q = 0 := by omega
        rw [this]; rfl
      · intro hh; rw [hh]; decide
    refine same (p_Serial_state srv rqv rqB sqv sqB) (p_Serial_state srv rqv rqB sqv sqB) rfl (by rw [p_Devices_load, if_neg h0, if_neg h1, if_neg h2, if_neg h3, if_neg h4, if_neg h5, if_neg h6, if_neg h7, if_neg h8, if_neg h12, if_pos h13, p_Devices_load_7, p_Serial_load, if_neg h12, if_pos h13, p_Serial_load_2]) ?_
    rw [st_eq hI hT hS hR hQ, p_Model_loaded, if_neg h0, if_neg h1, if_neg h2, if_neg h3, if_neg h4, if_neg h5, if_neg h6, if_neg h7, if_neg h8, if_neg h12, if_pos h13]
    by_cases a1 : mv 24 = (0 : Int32)
    · by_cases a2 : mv 26 = (8 : Int32) <;> by_cases a3 : mv 25 = (0 : Int32) <;> by_cases a4 : mv 29 = (0 : Int32) <;> simp only [eq_true (hz.mpr a1), eq_true a1, a2, a3, a4, if_true, if_false]
    · by_cases a2 : mv 26 = (8 : Int32) <;> by_cases a3 : mv 25 = (0 : Int32) <;> by_cases a4 : mv 29 = (0 : Int32) <;> simp only [eq_false (fun hh => a1 (hz.mp hh)), eq_false a1, a2, a3, a4, if_true, if_false]
  by_cases h14 : mv 15 = (14 : Int32)
  · exact same (srv 1) (mv 27) (s1) (by rw [p_Devices_load, if_neg h0, if_neg h1, if_neg h2, if_neg h3, if_neg h4, if_neg h5, if_neg h6, if_neg h7, if_neg h8, if_neg h12, if_neg h13, if_pos h14, p_Devices_load_8, p_Serial_load, if_neg h12, if_neg h13, if_pos h14]) (by rw [p_Model_loaded, if_neg h0, if_neg h1, if_neg h2, if_neg h3, if_neg h4, if_neg h5, if_neg h6, if_neg h7, if_neg h8, if_neg h12, if_neg h13, if_pos h14])
  by_cases h15 : mv 15 = (15 : Int32)
  · exact same (srv 2) (mv 28) (s2) (by rw [p_Devices_load, if_neg h0, if_neg h1, if_neg h2, if_neg h3, if_neg h4, if_neg h5, if_neg h6, if_neg h7, if_neg h8, if_neg h12, if_neg h13, if_neg h14, if_pos h15, p_Devices_load_9, p_Serial_load, if_neg h12, if_neg h13, if_neg h14]) (by rw [p_Model_loaded, if_neg h0, if_neg h1, if_neg h2, if_neg h3, if_neg h4, if_neg h5, if_neg h6, if_neg h7, if_neg h8, if_neg h12, if_neg h13, if_neg h14, if_pos h15])
  exact same 0 0 rfl (by rw [p_Devices_load, if_neg h0, if_neg h1, if_neg h2, if_neg h3, if_neg h4, if_neg h5, if_neg h6, if_neg h7, if_neg h8, if_neg h12, if_neg h13, if_neg h14, if_neg h15]) (by rw [p_Model_loaded, if_neg h0, if_neg h1, if_neg h2, if_neg h3, if_neg h4, if_neg h5, if_neg h6, if_neg h7, if_neg h8, if_neg h12, if_neg h13, if_neg h14, if_neg h15])
