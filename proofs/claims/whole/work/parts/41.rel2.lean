theorem rr_poke (n : Nat) : ok_poke (RR n) := by
  intro c mem cdv cdB cdW dtv dtB dtW bfv bfP bfV evv evD evW evV dvL itv srv rqv rqB sqv sqB otv otC otV bsv krv rgs ctv acv acC acV mv mvL m_lastCycle m_lastAddress m_memory m_kept m_copy m_register m_special m_storeWord m_storeValue m_planCycle m_planWhat m_planValue m_high m_pending m_service m_received m_sending m_out x y hR
  by_cases h : p_Model_in x (0 : Int32) (127 : Int32) = (0 : Int32)
  · have e1 : p_Chip_poke mem x y = (0, mem) := by rw [p_Chip_poke, p_Chip_poke_1, iw_eq, if_pos h]
    have e2 : p_Model_poke mv mvL m_memory x y = (0, m_memory) := by rw [p_Model_poke, p_Model_poke_1, if_pos h]
    rw [e1, e2]
    exact ⟨rfl, hR⟩
  · obtain ⟨j, hj, hx⟩ := in_0 (n := 127) rfl rfl h
    have e1 : p_Chip_poke mem x y = (mem j, upd mem j y) := by rw [p_Chip_poke, p_Chip_poke_1, iw_eq, if_neg h, hx, nI_clamp (by omega)]
    have e2 : p_Model_poke mv mvL m_memory x y = (m_memory j, upd m_memory j y) := by rw [p_Model_poke, p_Model_poke_1, if_neg h, hx, nI_clamp (by omega)]
    rw [e1, e2]
    refine ⟨hR.2.2.2.2.1 j (by omega), ?_⟩
    have hm : rMem (upd mem j y) (upd m_memory j y) := by
      intro i hi
      unfold upd
      split
      · rfl
      · exact hR.2.2.2.2.1 i hi
    exact ⟨hR.1, hR.2.1, hR.2.2.1, hR.2.2.2.1, hm, hR.2.2.2.2.2.1, hR.2.2.2.2.2.2.1, hR.2.2.2.2.2.2.2.1, hR.2.2.2.2.2.2.2.2.1, hR.2.2.2.2.2.2.2.2.2.1, hR.2.2.2.2.2.2.2.2.2.2.1, hR.2.2.2.2.2.2.2.2.2.2.2.1, hR.2.2.2.2.2.2.2.2.2.2.2.2.1, hR.2.2.2.2.2.2.2.2.2.2.2.2.2.1, hR.2.2.2.2.2.2.2.2.2.2.2.2.2.2.1, hR.2.2.2.2.2.2.2.2.2.2.2.2.2.2.2.1, hR.2.2.2.2.2.2.2.2.2.2.2.2.2.2.2.2.1, hR.2.2.2.2.2.2.2.2.2.2.2.2.2.2.2.2.2.1, hR.2.2.2.2.2.2.2.2.2.2.2.2.2.2.2.2.2.2.1, hR.2.2.2.2.2.2.2.2.2.2.2.2.2.2.2.2.2.2.2.1, hR.2.2.2.2.2.2.2.2.2.2.2.2.2.2.2.2.2.2.2.2⟩
theorem rr_give (n : Nat) : ok_give (RR n) := by
  intro c mem cdv cdB cdW dtv dtB dtW bfv bfP bfV evv evD evW evV dvL itv srv rqv rqB sqv sqB otv otC otV bsv krv rgs ctv acv acC acV mv mvL m_lastCycle m_lastAddress m_memory m_kept m_copy m_register m_special m_storeWord m_storeValue m_planCycle m_planWhat m_planValue m_high m_pending m_service m_received m_sending m_out x y hR
  by_cases h : p_Model_in x (0 : Int32) (31 : Int32) = (0 : Int32)
  · have e1 : p_Chip_give krv rgs x y = (0, rgs) := by rw [p_Chip_give, p_Chip_give_1, ir_eq, if_pos h]
    have e2 : p_Model_give mv mvL m_register x y = (0, m_register) := by rw [p_Model_give, p_Model_give_1, if_pos h]
    rw [e1, e2]
    exact ⟨rfl, hR⟩
  · obtain ⟨j, hj, hx⟩ := in_0 (n := 31) rfl rfl h
    by_cases h0 : x = (0 : Int32)
    · have e1 : p_Chip_give krv rgs x y = (1, rgs) := by rw [p_Chip_give, p_Chip_give_1, ir_eq, if_neg h, p_Chip_give_2, p_Core_setRegister, if_pos h0]
      have e2 : p_Model_give mv mvL m_register x y = (1, upd m_register 0 0) := by rw [p_Model_give, p_Model_give_1, if_neg h, if_pos h0, h0]; rfl
      rw [e1, e2]
      refine ⟨rfl, ?_⟩
      have hm : rReg rgs (upd m_register 0 0) := by
        refine ⟨hR.2.2.2.2.2.2.2.1.1, fun i hi => ?_⟩
        by_cases hi0 : i = 0
        · subst hi0; exact hR.2.2.2.2.2.2.2.1.1
        · rw [pk_un hi0]; exact hR.2.2.2.2.2.2.2.1.2 i hi
      exact ⟨hR.1, hR.2.1, hR.2.2.1, hR.2.2.2.1, hR.2.2.2.2.1, hR.2.2.2.2.2.1, hR.2.2.2.2.2.2.1, hm, hR.2.2.2.2.2.2.2.2.1, hR.2.2.2.2.2.2.2.2.2.1, hR.2.2.2.2.2.2.2.2.2.2.1, hR.2.2.2.2.2.2.2.2.2.2.2.1, hR.2.2.2.2.2.2.2.2.2.2.2.2.1, hR.2.2.2.2.2.2.2.2.2.2.2.2.2.1, hR.2.2.2.2.2.2.2.2.2.2.2.2.2.2.1, hR.2.2.2.2.2.2.2.2.2.2.2.2.2.2.2.1, hR.2.2.2.2.2.2.2.2.2.2.2.2.2.2.2.2.1, hR.2.2.2.2.2.2.2.2.2.2.2.2.2.2.2.2.2.1, hR.2.2.2.2.2.2.2.2.2.2.2.2.2.2.2.2.2.2.1, hR.2.2.2.2.2.2.2.2.2.2.2.2.2.2.2.2.2.2.2.1, hR.2.2.2.2.2.2.2.2.2.2.2.2.2.2.2.2.2.2.2.2⟩
    · have hj0 : j ≠ 0 := fun e => h0 (by rw [hx, e]; rfl)
      have e1 : p_Chip_give krv rgs x y = (1, upd rgs j y) := by rw [p_Chip_give, p_Chip_give_1, ir_eq, if_neg h, p_Chip_give_2, p_Core_setRegister, if_neg h0, hx, nI_clamp (by omega)]
      have e2 : p_Model_give mv mvL m_register x y = (1, upd m_register j y) := by rw [p_Model_give, p_Model_give_1, if_neg h, if_neg h0, hx, nI_clamp (by omega)]
      rw [e1, e2]
      refine ⟨rfl, ?_⟩
      have hm : rReg (upd rgs j y) (upd m_register j y) := by
        refine ⟨by rw [pk_un (Ne.symm hj0)]; exact hR.2.2.2.2.2.2.2.1.1, fun i hi => ?_⟩
        unfold upd
        split
        · rfl
        · exact hR.2.2.2.2.2.2.2.1.2 i hi
      exact ⟨hR.1, hR.2.1, hR.2.2.1, hR.2.2.2.1, hR.2.2.2.2.1, hR.2.2.2.2.2.1, hR.2.2.2.2.2.2.1, hm, hR.2.2.2.2.2.2.2.2.1, hR.2.2.2.2.2.2.2.2.2.1, hR.2.2.2.2.2.2.2.2.2.2.1, hR.2.2.2.2.2.2.2.2.2.2.2.1, hR.2.2.2.2.2.2.2.2.2.2.2.2.1, hR.2.2.2.2.2.2.2.2.2.2.2.2.2.1, hR.2.2.2.2.2.2.2.2.2.2.2.2.2.2.1, hR.2.2.2.2.2.2.2.2.2.2.2.2.2.2.2.1, hR.2.2.2.2.2.2.2.2.2.2.2.2.2.2.2.2.1, hR.2.2.2.2.2.2.2.2.2.2.2.2.2.2.2.2.2.1, hR.2.2.2.2.2.2.2.2.2.2.2.2.2.2.2.2.2.2.1, hR.2.2.2.2.2.2.2.2.2.2.2.2.2.2.2.2.2.2.2.1, hR.2.2.2.2.2.2.2.2.2.2.2.2.2.2.2.2.2.2.2.2⟩
/-- a log's place: masked here, a remainder there -/
theorem lg_ix {a j : Nat} (ha : a < 2 ^ 30) (hj : j < a) : ((nI a - (1 : Int32)) - nI j) &&& (15 : Int32) = nI ((a - 1 - j) % 16) ∧ ((nI a - (1 : Int32)) - nI j) - ((nI a - (1 : Int32)) - nI j) / (16 : Int32) * (16 : Int32) = nI ((a - 1 - j) % 16) := by
  have e : (nI a - (1 : Int32)) - nI j = nI (a - 1 - j) := by rw [show (1 : Int32) = nI 1 from rfl, pk_sub (by omega), pk_sub (by omega)]
  rw [e]
  exact ⟨pk_andN (by omega) 4 (by decide +kernel), by rw [show (16 : Int32) = nI 16 from rfl, pk_rem (by omega) (by omega) (by omega)]⟩
theorem lg_has {v : Nat → Int32} {k : Int32} : p_Log_has v k = if p_Model_in k (0 : Int32) (15 : Int32) = (0 : Int32) then 0 else if v 0 ≤ k then 0 else 1 := by
  unfold p_Log_has p_Model_in
  by_cases h1 : k < (0 : Int32)
  · rw [if_pos h1, if_pos h1, if_pos rfl]
  · rw [if_neg h1, if_neg h1]
    obtain ⟨j, hj, rfl⟩ := nI_of h1
    by_cases h2 : (16 : Int32) ≤ nI j
    · have := lp_le (k := j) (n := 16) rfl rfl hj (by omega) h2
      rw [if_pos h2, if_pos (show (15 : Int32) < nI j from nI_lt (a := 15) (by omega) hj), if_pos rfl]
    · have := lp_nle (k := j) (n := 16) rfl rfl hj (by omega) h2
      rw [if_neg h2, if_neg (show ¬ (15 : Int32) < nI j from nI_nlt (a := 15) (by omega) (by omega)), if_neg (show ¬ (1 : Int32) = 0 by decide)]
theorem rr_actCycle (n : Nat) : ok_actCycle (RR n) := by
  intro c mem cdv cdB cdW dtv dtB dtW bfv bfP bfV evv evD evW evV dvL itv srv rqv rqB sqv sqB otv otC otV bsv krv rgs ctv acv acC acV mv mvL m_lastCycle m_lastAddress m_memory m_kept m_copy m_register m_special m_storeWord m_storeValue m_planCycle m_planWhat m_planValue m_high m_pending m_service m_received m_sending m_out x hR
  refine ⟨?_, hR⟩
  obtain ⟨t1, ⟨a, ha, t2⟩, t3⟩ := hR.2.2.2.1
  have hc := hR.1
  unfold p_Chip_actCycle p_Model_actCycle p_Chip_actCycle_1 p_Model_actCycle_1 p_Chip_actCycle_2 p_Log_cycleOf
  rw [lg_has, t1, t2]
  by_cases h : p_Model_in x (0 : Int32) (15 : Int32) = (0 : Int32)
  · rw [if_pos h, if_pos h, if_pos rfl]
  · rw [if_neg h, if_neg h]
    by_cases h2 : nI a ≤ x
    · rw [if_pos h2, if_pos h2, if_pos rfl]
    · rw [if_neg h2, if_neg h2, if_neg (by decide)]
      obtain ⟨j, hj, rfl⟩ := in_0 (n := 15) rfl rfl h
      have hja := lp_nle (k := j) (n := a) rfl rfl (by omega) (by omega) h2
      rw [(lg_ix (by omega) hja).1, (lg_ix (by omega) hja).2, nI_clamp (by omega)]
      exact (t3 _ (by omega)).1
theorem rr_actAddress (n : Nat) : ok_actAddress (RR n) := by
  intro c mem cdv cdB cdW dtv dtB dtW bfv bfP bfV evv evD evW evV dvL itv srv rqv rqB sqv sqB otv otC otV bsv krv rgs ctv acv acC acV mv mvL m_lastCycle m_lastAddress m_memory m_kept m_copy m_register m_special m_storeWord m_storeValue m_planCycle m_planWhat m_planValue m_high m_pending m_service m_received m_sending m_out x hR
  refine ⟨?_, hR⟩
  obtain ⟨t1, ⟨a, ha, t2⟩, t3⟩ := hR.2.2.2.1
  have hc := hR.1
  unfold p_Chip_actAddress p_Model_actAddress p_Chip_actAddress_1 p_Model_actAddress_1 p_Chip_actAddress_2 p_Log_valueOf
  rw [lg_has, t1, t2]
  by_cases h : p_Model_in x (0 : Int32) (15 : Int32) = (0 : Int32)
  · rw [if_pos h, if_pos h, if_pos rfl]
  · rw [if_neg h, if_neg h]
    by_cases h2 : nI a ≤ x
    · rw [if_pos h2, if_pos h2, if_pos rfl]
    · rw [if_neg h2, if_neg h2, if_neg (by decide)]
      obtain ⟨j, hj, rfl⟩ := in_0 (n := 15) rfl rfl h
      have hja := lp_nle (k := j) (n := a) rfl rfl (by omega) (by omega) h2
      rw [(lg_ix (by omega) hja).1, (lg_ix (by omega) hja).2, nI_clamp (by omega)]
      exact (t3 _ (by omega)).2
theorem rr_sent (n : Nat) : ok_sent (RR n) := by
  intro c mem cdv cdB cdW dtv dtB dtW bfv bfP bfV evv evD evW evV dvL itv srv rqv rqB sqv sqB otv otC otV bsv krv rgs ctv acv acC acV mv mvL m_lastCycle m_lastAddress m_memory m_kept m_copy m_register m_special m_storeWord m_storeValue m_planCycle m_planWhat m_planValue m_high m_pending m_service m_received m_sending m_out x hR
  refine ⟨?_, hR⟩
  obtain ⟨t1, ⟨a, ha, t2⟩, t3⟩ := hR.2.2.2.2.2.2.2.2.2.2.2.2.2.2.2.2.2.2.2.2
  have hc := hR.1
  unfold p_Chip_sent p_Model_sent p_Chip_sent_1 p_Model_sent_1 p_Chip_sent_2 p_Chip_sent_3 p_Log_cycleOf p_Log_valueOf
  rw [lg_has, t1, t2]
  by_cases hm : x = (-1 : Int32)
  · rw [if_pos hm, if_pos hm]
  · rw [if_neg hm, if_neg hm]
    by_cases h : p_Model_in x (0 : Int32) (15 : Int32) = (0 : Int32)
    · rw [if_pos h, if_pos h, if_pos rfl]
    · rw [if_neg h, if_neg h]
      by_cases h2 : nI a ≤ x
      · rw [if_pos h2, if_pos h2, if_pos rfl]
      · rw [if_neg h2, if_neg h2, if_neg (by decide)]
        obtain ⟨j, hj, rfl⟩ := in_0 (n := 15) rfl rfl h
        have hja := lp_nle (k := j) (n := a) rfl rfl (by omega) (by omega) h2
        rw [(lg_ix (by omega) hja).1, (lg_ix (by omega) hja).2, nI_clamp (by omega), t3 _ (by omega), Int64.add_comm, Int64.mul_comm]
/-- a cache, by words: what it holds -/
theorem ca_h {v B : Nat → Int32} {n j : Nat} (hl : v 0 = nI n) (hn : 0 < n) (hn8 : n ≤ 8) (hj : j < 128) : p_Cache_holds v B (nI j) = if B (j / 4 % n) = nI (j / 4) then 1 else 0 := by
  unfold p_Cache_holds
  rw [ix_sh (j := j) (by omega) rfl, hl, pk_rem (by omega) hn (by omega), nI_clamp (by have := Nat.mod_lt (j / 4) hn; omega)]
theorem ca_w {v B W : Nat → Int32} {n j : Nat} (hl : v 0 = nI n) (hn : 0 < n) (hn8 : n ≤ 8) (hj : j < 128) : p_Cache_word v B W (nI j) = W (j / 4 % n * 4 + j % 4) := by
  unfold p_Cache_word p_Cache_word_1 p_Cache_place
  rw [ix_place hl hn hn8 hj rfl, nI_clamp (by have := ix_pl_lt (j := j) hn; omega)]
theorem rr_held (n : Nat) : ok_held (RR n) := by
  intro c mem cdv cdB cdW dtv dtB dtW bfv bfP bfV evv evD evW evV dvL itv srv rqv rqB sqv sqB otv otC otV bsv krv rgs ctv acv acC acV mv mvL m_lastCycle m_lastAddress m_memory m_kept m_copy m_register m_special m_storeWord m_storeValue m_planCycle m_planWhat m_planValue m_high m_pending m_service m_received m_sending m_out x y hx hR
  refine ⟨?_, hR⟩
  obtain ⟨a1, a2, a3, a4, a5, a6⟩ := hR.2.1
  unfold p_Chip_held p_Model_held p_Chip_held_1 p_Chip_held_4 p_Model_held_1
  rw [iw_eq]
  by_cases h : p_Model_in y (0 : Int32) (127 : Int32) = (0 : Int32)
  · rw [if_pos h, if_pos h, if_pos h]
    split <;> rfl
  · rw [if_neg h, if_neg h, if_neg h]
    obtain ⟨j, hj, rfl⟩ := in_0 (n := 127) rfl rfl h
    unfold p_Chip_held_2 p_Chip_held_5 p_Chip_held_3 p_Chip_held_6
    rw [ca_h a2 a4 a5 (by omega), ca_h a1 a4 a5 (by omega), ca_w a2 a4 a5 (by omega), ca_w a1 a4 a5 (by omega), show (128 : Int32) = nI 128 from rfl, nI_add, nI_clamp (by omega), nI_clamp (by omega)]
    by_cases hz : x = (0 : Int32)
    · rw [if_pos hz, if_pos hz]
      obtain ⟨b1, b2, b3⟩ := hR.2.2.2.2.2.2.1 j (by omega)
      by_cases hk : m_kept (128 + j) = (0 : Int32)
      · rw [if_pos hk, if_neg (fun e => b2.mpr e hk), if_pos rfl]
      · rw [if_neg hk, if_pos (b2.mp hk), if_neg (by decide), b3 hk]
    · rw [if_neg hz, if_neg hz]
      obtain ⟨b1, b2, b3⟩ := hR.2.2.2.2.2.1 j (by omega)
      by_cases hk : m_kept j = (0 : Int32)
      · rw [if_pos hk, if_neg (fun e => b2.mpr e hk), if_pos rfl]
      · rw [if_neg hk, if_pos (b2.mp hk), if_neg (by decide), b3 hk]
