theorem pl_C0 {evv evD evW evV krv : Nat → Int32} {x y z : Int32} (h : x < (0 : Int32)) : p_Chip_plan evv evD evW evV krv x y z = (0, evv, evD, evW, evV) := by
  simp only [p_Chip_plan, if_pos h, ite_self]
theorem pl_C1 {evv evD evW evV krv : Nat → Int32} {x y z : Int32} (h : ¬ x < (0 : Int32)) (h2 : (2000 : Int32) < x) : p_Chip_plan evv evD evW evV krv x y z = (0, evv, evD, evW, evV) := by
  simp only [p_Chip_plan, if_neg h, if_pos h2, ite_self]
theorem pl_C2 {evv evD evW evV krv : Nat → Int32} {x y z : Int32} (h : ¬ x < (0 : Int32)) (h2 : ¬ (2000 : Int32) < x) : p_Chip_plan evv evD evW evV krv x y z = if y = (0 : Int32) then p_Events_add evv evD evW evV (krv 1 + x) y z else if y < (2 : Int32) then (0, evv, evD, evW, evV) else if (7 : Int32) < y then (0, evv, evD, evW, evV) else p_Events_add evv evD evW evV (krv 1 + x) y z := by
  rw [p_Chip_plan, if_neg h, if_neg h, if_neg h, if_neg h, if_neg h2, if_neg h2, if_neg h2, if_neg h2, if_neg (show ¬ (1 : Int32) = (0 : Int32) by decide), if_neg (show ¬ (1 : Int32) = (0 : Int32) by decide), if_pos rfl, if_pos rfl]
  rfl
theorem rr_plan (n : Nat) : ok_plan (RR n) := by
  intro c mem cdv cdB cdW dtv dtB dtW bfv bfP bfV evv evD evW evV dvL itv srv rqv rqB sqv sqB otv otC otV bsv krv rgs ctv acv acC acV mv mvL m_lastCycle m_lastAddress m_memory m_kept m_copy m_register m_special m_storeWord m_storeValue m_planCycle m_planWhat m_planValue m_high m_pending m_service m_received m_sending m_out x y z hR
  have hS : ∀ (e1 : p_Chip_plan evv evD evW evV krv x y z = (0, evv, evD, evW, evV)) (e2 : p_Model_plan mv mvL m_planCycle m_planWhat m_planValue x y z = (0, mv, m_planCycle, m_planWhat, m_planValue)), (p_Chip_plan evv evD evW evV krv x y z).1 = (p_Model_plan mv mvL m_planCycle m_planWhat m_planValue x y z).1 ∧ RR n c mem cdv cdB cdW dtv dtB dtW bfv bfP bfV ((p_Chip_plan evv evD evW evV krv x y z).2.1) ((p_Chip_plan evv evD evW evV krv x y z).2.2.1) ((p_Chip_plan evv evD evW evV krv x y z).2.2.2.1) ((p_Chip_plan evv evD evW evV krv x y z).2.2.2.2) dvL itv srv rqv rqB sqv sqB otv otC otV bsv krv rgs ctv acv acC acV ((p_Model_plan mv mvL m_planCycle m_planWhat m_planValue x y z).2.1) mvL m_lastCycle m_lastAddress m_memory m_kept m_copy m_register m_special m_storeWord m_storeValue ((p_Model_plan mv mvL m_planCycle m_planWhat m_planValue x y z).2.2.1) ((p_Model_plan mv mvL m_planCycle m_planWhat m_planValue x y z).2.2.2.1) ((p_Model_plan mv mvL m_planCycle m_planWhat m_planValue x y z).2.2.2.2) m_high m_pending m_service m_received m_sending m_out := by
    intro e1 e2
    rw [e1, e2]
    exact ⟨rfl, hR⟩
  by_cases k1 : x < (0 : Int32)
  · exact hS (pl_C0 k1) (by rw [p_Model_plan, p_Model_in, if_pos k1, p_Model_plan_1, if_pos rfl])
  by_cases k2 : (2000 : Int32) < x
  · exact hS (pl_C1 k1 k2) (by rw [p_Model_plan, p_Model_in, if_neg k1, if_pos k2, p_Model_plan_1, if_pos rfl])
  have eM : p_Model_plan mv mvL m_planCycle m_planWhat m_planValue x y z = p_Model_plan_2 mv mvL m_planCycle m_planWhat m_planValue x y z 1 (p_Model_in y (0 : Int32) (7 : Int32)) := by
    rw [p_Model_plan, show p_Model_in x (0 : Int32) (2000 : Int32) = 1 by rw [p_Model_in, if_neg k1, if_neg k2], p_Model_plan_1, if_neg (show ¬ (1 : Int32) = (0 : Int32) by decide)]
  have eC := pl_C2 (evv := evv) (evD := evD) (evW := evW) (evV := evV) (krv := krv) (y := y) (z := z) k1 k2
  obtain ⟨a1, ⟨cnt, hcnt, a2⟩, a3⟩ := hR.2.2.2.2.2.2.2.2.2.2.2.2.2.2.1
  have hadd : ∀ (w : Nat), w < 8 → ¬ w = 1 → y = nI w → (p_Chip_plan evv evD evW evV krv x y z = p_Events_add evv evD evW evV (krv 1 + x) y z) → (p_Chip_plan evv evD evW evV krv x y z).1 = (p_Model_plan mv mvL m_planCycle m_planWhat m_planValue x y z).1 ∧ RR n c mem cdv cdB cdW dtv dtB dtW bfv bfP bfV ((p_Chip_plan evv evD evW evV krv x y z).2.1) ((p_Chip_plan evv evD evW evV krv x y z).2.2.1) ((p_Chip_plan evv evD evW evV krv x y z).2.2.2.1) ((p_Chip_plan evv evD evW evV krv x y z).2.2.2.2) dvL itv srv rqv rqB sqv sqB otv otC otV bsv krv rgs ctv acv acC acV ((p_Model_plan mv mvL m_planCycle m_planWhat m_planValue x y z).2.1) mvL m_lastCycle m_lastAddress m_memory m_kept m_copy m_register m_special m_storeWord m_storeValue ((p_Model_plan mv mvL m_planCycle m_planWhat m_planValue x y z).2.2.1) ((p_Model_plan mv mvL m_planCycle m_planWhat m_planValue x y z).2.2.2.1) ((p_Model_plan mv mvL m_planCycle m_planWhat m_planValue x y z).2.2.2.2) m_high m_pending m_service m_received m_sending m_out := by
    intro w hw hw1 hy hC
    have hin : p_Model_in y (0 : Int32) (7 : Int32) = 1 := by rw [p_Model_in, hy, if_neg (nI_pos (by omega)), if_neg (show ¬ (7 : Int32) < nI w from nI_nlt (a := 7) (by omega) (by omega))]
    have hy1 : ¬ y = (1 : Int32) := by rw [hy]; exact fun h => hw1 ((nI_eq (a := w) (b := 1) (by omega) (by omega)).mp h)
    by_cases h16 : cnt = 16
    · refine hS (by rw [hC, p_Events_add, if_neg (by rw [a1, a2, h16]; decide)]) ?_
      rw [eM, hin, p_Model_plan_2, if_neg (show ¬ (1 : Int32) = (0 : Int32) by decide), if_neg hy1, if_pos (by rw [a2, h16]; rfl)]
    · have e1 : p_Chip_plan evv evD evW evV krv x y z = (1, upd evv 0 (evv 0 + (1 : Int32)), upd evD cnt (krv 1 + x), upd evW cnt y, upd evV cnt z) := by
        rw [hC, p_Events_add, if_pos (by rw [a1, a2]; exact nI_lt (b := 16) (by omega) (by omega)), a1, a2, nI_clamp (by omega)]
      have e2 : p_Model_plan mv mvL m_planCycle m_planWhat m_planValue x y z = (1, upd mv 20 (mv 20 + (1 : Int32)), upd m_planCycle cnt (mv 2 + x), upd m_planWhat cnt y, upd m_planValue cnt z) := by
        rw [eM, hin, p_Model_plan_2, if_neg (show ¬ (1 : Int32) = (0 : Int32) by decide), if_neg hy1, if_neg (by rw [a2]; exact fun h => h16 ((nI_eq (a := cnt) (b := 16) (by omega) (by omega)).mp h)), a2, nI_clamp (by omega)]
      rw [e1, e2]
      refine ⟨rfl, ?_⟩
      have hm : rEv (upd evv 0 (evv 0 + (1 : Int32))) (upd evD cnt (krv 1 + x)) (upd evW cnt y) (upd evV cnt z) (upd mv 20 (mv 20 + (1 : Int32))) (upd m_planCycle cnt (mv 2 + x)) (upd m_planWhat cnt y) (upd m_planValue cnt z) := by
        refine ⟨?_, ⟨cnt + 1, by omega, ?_⟩, fun i hi => ?_⟩
        · rw [pk_us, pk_us, a1]
        · rw [pk_us, a2]; exact nI_1 cnt
        · by_cases hic : i = cnt
          · subst hic
            rw [pk_us, pk_us, pk_us, pk_us, pk_us, pk_us, hR.2.2.1.1]
            exact ⟨rfl, rfl, rfl, w, hw, hw1, hy⟩
          · rw [pk_un hic, pk_un hic, pk_un hic, pk_un hic, pk_un hic, pk_un hic]
            exact a3 i hi
      exact ⟨hR.1, hR.2.1, hR.2.2.1, hR.2.2.2.1, hR.2.2.2.2.1, hR.2.2.2.2.2.1, hR.2.2.2.2.2.2.1, hR.2.2.2.2.2.2.2.1, hR.2.2.2.2.2.2.2.2.1, hR.2.2.2.2.2.2.2.2.2.1, hR.2.2.2.2.2.2.2.2.2.2.1, hR.2.2.2.2.2.2.2.2.2.2.2.1, hR.2.2.2.2.2.2.2.2.2.2.2.2.1, hR.2.2.2.2.2.2.2.2.2.2.2.2.2.1, hm, hR.2.2.2.2.2.2.2.2.2.2.2.2.2.2.2.1, hR.2.2.2.2.2.2.2.2.2.2.2.2.2.2.2.2.1, hR.2.2.2.2.2.2.2.2.2.2.2.2.2.2.2.2.2.1, hR.2.2.2.2.2.2.2.2.2.2.2.2.2.2.2.2.2.2.1, hR.2.2.2.2.2.2.2.2.2.2.2.2.2.2.2.2.2.2.2.1, hR.2.2.2.2.2.2.2.2.2.2.2.2.2.2.2.2.2.2.2.2⟩
  by_cases y0 : y = (0 : Int32)
  · exact hadd 0 (by omega) (by omega) (by rw [y0]; rfl) (by rw [eC, if_pos y0])
  by_cases y2 : y < (2 : Int32)
  · refine hS (by rw [eC, if_neg y0, if_pos y2]) ?_
    rw [eM, p_Model_plan_2]
    by_cases yn : y < (0 : Int32)
    · rw [p_Model_in, if_pos yn, if_pos rfl]
    · obtain ⟨w, hw, hyw⟩ := nI_of yn
      rw [hyw] at y0 y2 ⊢
      have h2 := (nI_ltI (a := w) (b := 2) hw (by omega)).mp y2
      have h0 : w ≠ 0 := fun e => y0 (by rw [e]; rfl)
      have : w = 1 := by omega
      subst this
      rw [if_pos (show nI 1 = (1 : Int32) from rfl), ite_self]
  by_cases y7 : (7 : Int32) < y
  · refine hS (by rw [eC, if_neg y0, if_neg y2, if_pos y7]) ?_
    rw [eM, p_Model_plan_2, p_Model_in, if_pos y7, ite_self, if_pos rfl]
  · obtain ⟨w, hw, hyw⟩ := nI_of (x := y) (fun h => y2 (Int32.lt_trans h (by decide)))
    have h2 := lp_nlt (c := (7 : Int32)) (n := 7) hyw rfl hw (by omega) y7
    have h3 : ¬ w = 1 := fun e => y2 (by rw [hyw, e]; decide)
    exact hadd w (by omega) h3 hyw (by rw [eC, if_neg y0, if_neg y2, if_neg y7])
