/-! S4: a device's request is done -/
theorem dev_eq {o : Nat} {dvL mvL : Nat → Int64} {itv srv rqv rqB sqv sqB krv rgs acv acC acV mv lc la reg hi pe se rc sd : Nat → Int32} (ho : o < 2 ^ 30) (hI : rInt itv mv hi pe se) (hT : rTime dvL mvL) (hS : rSer srv mv) (hR : rQ rqv rqB (mv 24) rc) (hQ : rQ sqv sqB (mv 26) sd) (hA : rActB o acv acC acV mv lc la) (hG : rReg rgs reg) (k0 : krv 0 = mv 5) (k1 : krv 1 = mv 2) (k5 : krv 5 = mv 15) (k6 : krv 6 = mv 16) (k7 : krv 7 = mv 17) (k8 : krv 8 = mv 18) (h18 : vp_in (mv 18) 32) : rTime (p_Core_finishDevice dvL itv srv rqv rqB sqv sqB krv rgs acv acC acV).1 (p_Model_device mv mvL lc la reg pe se rc sd).2.1 ∧ rInt (p_Core_finishDevice dvL itv srv rqv rqB sqv sqB krv rgs acv acC acV).2.1 (p_Model_device mv mvL lc la reg pe se rc sd).1 hi (p_Model_device mv mvL lc la reg pe se rc sd).2.2.2.2.2.1 (p_Model_device mv mvL lc la reg pe se rc sd).2.2.2.2.2.2.1 ∧ rSer (p_Core_finishDevice dvL itv srv rqv rqB sqv sqB krv rgs acv acC acV).2.2.1 (p_Model_device mv mvL lc la reg pe se rc sd).1 ∧ rQ (p_Core_finishDevice dvL itv srv rqv rqB sqv sqB krv rgs acv acC acV).2.2.2.1 rqB ((p_Model_device mv mvL lc la reg pe se rc sd).1 24) (p_Model_device mv mvL lc la reg pe se rc sd).2.2.2.2.2.2.2.1 ∧ rQ (p_Core_finishDevice dvL itv srv rqv rqB sqv sqB krv rgs acv acC acV).2.2.2.2.1 (p_Core_finishDevice dvL itv srv rqv rqB sqv sqB krv rgs acv acC acV).2.2.2.2.2.1 ((p_Model_device mv mvL lc la reg pe se rc sd).1 26) (p_Model_device mv mvL lc la reg pe se rc sd).2.2.2.2.2.2.2.2 ∧ rActB (o + 1) (p_Core_finishDevice dvL itv srv rqv rqB sqv sqB krv rgs acv acC acV).2.2.2.2.2.2.2.2.1 (p_Core_finishDevice dvL itv srv rqv rqB sqv sqB krv rgs acv acC acV).2.2.2.2.2.2.2.2.2.1 (p_Core_finishDevice dvL itv srv rqv rqB sqv sqB krv rgs acv acC acV).2.2.2.2.2.2.2.2.2.2 (p_Model_device mv mvL lc la reg pe se rc sd).1 (p_Model_device mv mvL lc la reg pe se rc sd).2.2.1 (p_Model_device mv mvL lc la reg pe se rc sd).2.2.2.1 ∧ rReg (p_Core_finishDevice dvL itv srv rqv rqB sqv sqB krv rgs acv acC acV).2.2.2.2.2.2.2.1 (p_Model_device mv mvL lc la reg pe se rc sd).2.2.2.2.1 ∧ (p_Core_finishDevice dvL itv srv rqv rqB sqv sqB krv rgs acv acC acV).2.2.2.2.2.2.1 = upd krv 0 (krv 0 + (4 : Int32)) ∧ (p_Model_device mv mvL lc la reg pe se rc sd).1 5 = mv 5 + (4 : Int32) ∧ ∀ j, j ≠ 3 → j ≠ 5 → (j < 21 ∨ 28 < j) → (p_Model_device mv mvL lc la reg pe se rc sd).1 j = mv j := by
  by_cases h : mv 16 = (0 : Int32)
  · obtain ⟨l1, l2, l3, l4⟩ := ld_eq hI hT hS hR hQ
    have eC : p_Core_finishDevice dvL itv srv rqv rqB sqv sqB krv rgs acv acC acV = (dvL, (p_Devices_load dvL itv srv rqv rqB sqv sqB (mv 15)).2.1, srv, (p_Devices_load dvL itv srv rqv rqB sqv sqB (mv 15)).2.2, sqv, sqB, upd krv 0 (krv 0 + (4 : Int32)), p_Core_setRegister krv rgs (mv 18) (p_Devices_load dvL itv srv rqv rqB sqv sqB (mv 15)).1, (p_Core_act krv acv acC acV (krv 0 + (4 : Int32))).2.1, (p_Core_act krv acv acC acV (krv 0 + (4 : Int32))).2.2.1, (p_Core_act krv acv acC acV (krv 0 + (4 : Int32))).2.2.2) := by
      rw [p_Core_finishDevice, k6, if_pos h, p_Core_finishDevice_1, p_Core_finishDevice_2, p_Core_finishDevice_3, k5, k8, act_C]
    have eM : p_Model_device mv mvL lc la reg pe se rc sd = ((p_Model_act (p_Model_loaded mv mvL pe se rc).2.1 mvL lc la ((p_Model_loaded mv mvL pe se rc).2.1 5 + (4 : Int32))).1, mvL, (p_Model_act (p_Model_loaded mv mvL pe se rc).2.1 mvL lc la ((p_Model_loaded mv mvL pe se rc).2.1 5 + (4 : Int32))).2.1, (p_Model_act (p_Model_loaded mv mvL pe se rc).2.1 mvL lc la ((p_Model_loaded mv mvL pe se rc).2.1 5 + (4 : Int32))).2.2, (if mv 18 ≤ (0 : Int32) then reg else upd reg (mv 18).toNatClampNeg (p_Model_loaded mv mvL pe se rc).1), (p_Model_loaded mv mvL pe se rc).2.2.1, (p_Model_loaded mv mvL pe se rc).2.2.2.1, (p_Model_loaded mv mvL pe se rc).2.2.2.2, sd) := by
      rw [p_Model_device, if_pos h, p_Model_device_1, p_Model_device_2, set_M, l4 18 (by decide)]
    rw [eC, eM, l1]
    generalize hL : p_Devices_load dvL itv srv rqv rqB sqv sqB (mv 15) = LL at l1 l2 l3 ⊢
    generalize hM : p_Model_loaded mv mvL pe se rc = MM at l1 l2 l3 l4 ⊢
    have hA1 : rActB o acv acC acV MM.2.1 lc la := ⟨hA.1.trans (l4 3 (by decide)).symm, by obtain ⟨a, ha, e⟩ := hA.2.1; exact ⟨a, ha, (l4 3 (by decide)).trans e⟩, hA.2.2⟩
    have hQ1 : rQ sqv sqB (MM.2.1 26) sd := by rw [l4 26 (by decide)]; exact hQ
    have hS1 : rSer srv MM.2.1 := by
      unfold rSer
      rw [l4 25 (by decide), l4 27 (by decide), l4 28 (by decide), l4 29 (by decide), l4 30 (by decide), l4 31 (by decide)]
      exact hS
    refine ⟨hT, l2, hS1, l3, hQ1, act_eq (mvL := mvL) (krv 0 + (4 : Int32)) (MM.2.1 5 + (4 : Int32)) ho hA1 (k1.trans (l4 2 (by decide)).symm) (k0.trans (l4 5 (by decide)).symm), reg_eq krv _ h18 hG, rfl, ?_, fun j a3 a5 ar => ?_⟩
    · show upd (upd MM.2.1 3 (MM.2.1 3 + (1 : Int32))) 5 (MM.2.1 5 + (4 : Int32)) 5 = mv 5 + (4 : Int32)
      rw [pk_us, l4 5 (by decide)]
    · show upd (upd MM.2.1 3 (MM.2.1 3 + (1 : Int32))) 5 (MM.2.1 5 + (4 : Int32)) j = mv j
      rw [pk_un a5, pk_un a3]
      exact l4 j (by omega)
  · obtain ⟨s1, s2, s3, s4, s5⟩ := sto_eq (sqB := sqB) hI hT hS hQ
    have eC : p_Core_finishDevice dvL itv srv rqv rqB sqv sqB krv rgs acv acC acV = ((p_Devices_store dvL itv srv sqv sqB (mv 15) (mv 17)).1, (p_Devices_store dvL itv srv sqv sqB (mv 15) (mv 17)).2.1, (p_Devices_store dvL itv srv sqv sqB (mv 15) (mv 17)).2.2.1, rqv, (p_Devices_store dvL itv srv sqv sqB (mv 15) (mv 17)).2.2.2.1, (p_Devices_store dvL itv srv sqv sqB (mv 15) (mv 17)).2.2.2.2, upd krv 0 (krv 0 + (4 : Int32)), rgs, (p_Core_act krv acv acC acV (krv 0 + (4 : Int32))).2.1, (p_Core_act krv acv acC acV (krv 0 + (4 : Int32))).2.2.1, (p_Core_act krv acv acC acV (krv 0 + (4 : Int32))).2.2.2) := by
      rw [p_Core_finishDevice, k6, if_neg h, p_Core_finishDevice_4, p_Core_finishDevice_5, k5, k7, act_C]
    have eM : p_Model_device mv mvL lc la reg pe se rc sd = ((p_Model_act (p_Model_putDevice mv mvL se sd).1 (p_Model_putDevice mv mvL se sd).2.1 lc la ((p_Model_putDevice mv mvL se sd).1 5 + (4 : Int32))).1, (p_Model_putDevice mv mvL se sd).2.1, (p_Model_act (p_Model_putDevice mv mvL se sd).1 (p_Model_putDevice mv mvL se sd).2.1 lc la ((p_Model_putDevice mv mvL se sd).1 5 + (4 : Int32))).2.1, (p_Model_act (p_Model_putDevice mv mvL se sd).1 (p_Model_putDevice mv mvL se sd).2.1 lc la ((p_Model_putDevice mv mvL se sd).1 5 + (4 : Int32))).2.2, reg, pe, (p_Model_putDevice mv mvL se sd).2.2.1, rc, (p_Model_putDevice mv mvL se sd).2.2.2) := by
      rw [p_Model_device, if_neg h, p_Model_device_3, p_Model_device_4]
    rw [eC, eM]
    generalize hL : p_Devices_store dvL itv srv sqv sqB (mv 15) (mv 17) = LL at s1 s2 s3 s4 ⊢
    generalize hM : p_Model_putDevice mv mvL se sd = MM at s1 s2 s3 s4 s5 ⊢
    have f : ∀ j, (j < 21 ∨ j = 24 ∨ 28 < j) → MM.1 j = mv j := fun j hj => s5 j (by omega) (by omega) (by omega) (by omega) (by omega) (by omega) (by omega)
    have hA1 : rActB o acv acC acV MM.1 lc la := ⟨hA.1.trans (f 3 (by omega)).symm, by obtain ⟨a, ha, e⟩ := hA.2.1; exact ⟨a, ha, (f 3 (by omega)).trans e⟩, hA.2.2⟩
    have hR1 : rQ rqv rqB (MM.1 24) rc := by rw [f 24 (by omega)]; exact hR
    refine ⟨s1, s2, s3, hR1, s4, act_eq (mvL := MM.2.1) (krv 0 + (4 : Int32)) (MM.1 5 + (4 : Int32)) ho hA1 (k1.trans (f 2 (by omega)).symm) (k0.trans (f 5 (by omega)).symm), hG, rfl, ?_, fun j a3 a5 ar => ?_⟩
    · show upd (upd MM.1 3 (MM.1 3 + (1 : Int32))) 5 (MM.1 5 + (4 : Int32)) 5 = mv 5 + (4 : Int32)
      rw [pk_us, f 5 (by omega)]
    · show upd (upd MM.1 3 (MM.1 3 + (1 : Int32))) 5 (MM.1 5 + (4 : Int32)) j = mv j
      rw [pk_un a5, pk_un a3]
      exact f j (by omega)
