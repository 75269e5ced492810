def runP (n c : Nat) (cdv dtv : Nat → Int32) (r : Int32 × (Nat → Int32) × (Nat → Int32) × (Nat → Int32) × (Nat → Int32) × (Nat → Int32) × (Nat → Int32) × (Nat → Int32) × (Nat → Int32) × (Nat → Int32) × (Nat → Int32) × (Nat → Int32) × (Nat → Int32) × (Nat → Int64) × (Nat → Int32) × (Nat → Int32) × (Nat → Int32) × (Nat → Int32) × (Nat → Int32) × (Nat → Int32) × (Nat → Int32) × (Nat → Int32) × (Nat → Int32) × (Nat → Int32) × (Nat → Int32) × (Nat → Int32) × (Nat → Int32) × (Nat → Int32) × (Nat → Int32) × (Nat → Int32)) (t : Int32 × (Nat → Int32) × (Nat → Int64) × (Nat → Int32) × (Nat → Int32) × (Nat → Int32) × (Nat → Int32) × (Nat → Int32) × (Nat → Int32) × (Nat → Int32) × (Nat → Int32) × (Nat → Int32) × (Nat → Int32) × (Nat → Int32) × (Nat → Int32) × (Nat → Int32) × (Nat → Int32) × (Nat → Int32) × (Nat → Int32) × (Nat → Int32) × (Nat → Int64)) : Prop := r.1 = t.1 ∧ RR n c r.2.1 cdv r.2.2.1 r.2.2.2.1 dtv r.2.2.2.2.1 r.2.2.2.2.2.1 r.2.2.2.2.2.2.1 r.2.2.2.2.2.2.2.1 r.2.2.2.2.2.2.2.2.1 r.2.2.2.2.2.2.2.2.2.1 r.2.2.2.2.2.2.2.2.2.2.1 r.2.2.2.2.2.2.2.2.2.2.2.1 r.2.2.2.2.2.2.2.2.2.2.2.2.1 r.2.2.2.2.2.2.2.2.2.2.2.2.2.1 r.2.2.2.2.2.2.2.2.2.2.2.2.2.2.1 r.2.2.2.2.2.2.2.2.2.2.2.2.2.2.2.1 r.2.2.2.2.2.2.2.2.2.2.2.2.2.2.2.2.1 r.2.2.2.2.2.2.2.2.2.2.2.2.2.2.2.2.2.1 r.2.2.2.2.2.2.2.2.2.2.2.2.2.2.2.2.2.2.1 r.2.2.2.2.2.2.2.2.2.2.2.2.2.2.2.2.2.2.2.1 r.2.2.2.2.2.2.2.2.2.2.2.2.2.2.2.2.2.2.2.2.1 r.2.2.2.2.2.2.2.2.2.2.2.2.2.2.2.2.2.2.2.2.2.1 r.2.2.2.2.2.2.2.2.2.2.2.2.2.2.2.2.2.2.2.2.2.2.1 r.2.2.2.2.2.2.2.2.2.2.2.2.2.2.2.2.2.2.2.2.2.2.2.1 r.2.2.2.2.2.2.2.2.2.2.2.2.2.2.2.2.2.2.2.2.2.2.2.2.1 r.2.2.2.2.2.2.2.2.2.2.2.2.2.2.2.2.2.2.2.2.2.2.2.2.2.1 r.2.2.2.2.2.2.2.2.2.2.2.2.2.2.2.2.2.2.2.2.2.2.2.2.2.2.1 r.2.2.2.2.2.2.2.2.2.2.2.2.2.2.2.2.2.2.2.2.2.2.2.2.2.2.2.1 r.2.2.2.2.2.2.2.2.2.2.2.2.2.2.2.2.2.2.2.2.2.2.2.2.2.2.2.2.1 r.2.2.2.2.2.2.2.2.2.2.2.2.2.2.2.2.2.2.2.2.2.2.2.2.2.2.2.2.2 t.2.1 t.2.2.1 t.2.2.2.1 t.2.2.2.2.1 t.2.2.2.2.2.1 t.2.2.2.2.2.2.1 t.2.2.2.2.2.2.2.1 t.2.2.2.2.2.2.2.2.1 t.2.2.2.2.2.2.2.2.2.1 t.2.2.2.2.2.2.2.2.2.2.1 t.2.2.2.2.2.2.2.2.2.2.2.1 t.2.2.2.2.2.2.2.2.2.2.2.2.1 t.2.2.2.2.2.2.2.2.2.2.2.2.2.1 t.2.2.2.2.2.2.2.2.2.2.2.2.2.2.1 t.2.2.2.2.2.2.2.2.2.2.2.2.2.2.2.1 t.2.2.2.2.2.2.2.2.2.2.2.2.2.2.2.2.1 t.2.2.2.2.2.2.2.2.2.2.2.2.2.2.2.2.2.1 t.2.2.2.2.2.2.2.2.2.2.2.2.2.2.2.2.2.2.1 t.2.2.2.2.2.2.2.2.2.2.2.2.2.2.2.2.2.2.2.1 t.2.2.2.2.2.2.2.2.2.2.2.2.2.2.2.2.2.2.2.2
set_option maxRecDepth 100000 in
set_option maxHeartbeats 4000000 in
theorem run_L {n : Nat} (hc : ok_cyc n (RR n)) {c0 : Nat} (h6 : c0 + 1000 ≤ 600000) {mem : Nat → Int32} {cdv : Nat → Int32} {cdB : Nat → Int32} {cdW : Nat → Int32} {dtv : Nat → Int32} {dtB : Nat → Int32} {dtW : Nat → Int32} {bfv : Nat → Int32} {bfP : Nat → Int32} {bfV : Nat → Int32} {evv : Nat → Int32} {evD : Nat → Int32} {evW : Nat → Int32} {evV : Nat → Int32} {dvL : Nat → Int64} {itv : Nat → Int32} {srv : Nat → Int32} {rqv : Nat → Int32} {rqB : Nat → Int32} {sqv : Nat → Int32} {sqB : Nat → Int32} {otv : Nat → Int32} {otC : Nat → Int32} {otV : Nat → Int32} {bsv : Nat → Int32} {krv : Nat → Int32} {rgs : Nat → Int32} {ctv : Nat → Int32} {acv : Nat → Int32} {acC : Nat → Int32} {acV : Nat → Int32} {mv : Nat → Int32} {mvL : Nat → Int64} {m_lastCycle : Nat → Int32} {m_lastAddress : Nat → Int32} {m_memory : Nat → Int32} {m_kept : Nat → Int32} {m_copy : Nat → Int32} {m_register : Nat → Int32} {m_special : Nat → Int32} {m_storeWord : Nat → Int32} {m_storeValue : Nat → Int32} {m_planCycle : Nat → Int32} {m_planWhat : Nat → Int32} {m_planValue : Nat → Int32} {m_high : Nat → Int32} {m_pending : Nat → Int32} {m_service : Nat → Int32} {m_received : Nat → Int32} {m_sending : Nat → Int32} {m_out : Nat → Int64} (h0 : acv 0 = mv 3) {q r1 : Int32} {N : Nat} (hq : q = nI N) (hN : N ≤ 1000) : ∀ (fu k : Nat) (i_ : Int32) (mem_ : Nat → Int32) (cdB_ : Nat → Int32) (cdW_ : Nat → Int32) (dtB_ : Nat → Int32) (dtW_ : Nat → Int32) (bfv_ : Nat → Int32) (bfP_ : Nat → Int32) (bfV_ : Nat → Int32) (evv_ : Nat → Int32) (evD_ : Nat → Int32) (evW_ : Nat → Int32) (evV_ : Nat → Int32) (dvL_ : Nat → Int64) (itv_ : Nat → Int32) (srv_ : Nat → Int32) (rqv_ : Nat → Int32) (rqB_ : Nat → Int32) (sqv_ : Nat → Int32) (sqB_ : Nat → Int32) (otv_ : Nat → Int32) (otC_ : Nat → Int32) (otV_ : Nat → Int32) (bsv_ : Nat → Int32) (krv_ : Nat → Int32) (rgs_ : Nat → Int32) (ctv_ : Nat → Int32) (acv_ : Nat → Int32) (acC_ : Nat → Int32) (acV_ : Nat → Int32) (mv_ : Nat → Int32) (mvL_ : Nat → Int64) (m_lastCycle_ : Nat → Int32) (m_lastAddress_ : Nat → Int32) (m_memory_ : Nat → Int32) (m_kept_ : Nat → Int32) (m_copy_ : Nat → Int32) (m_register_ : Nat → Int32) (m_special_ : Nat → Int32) (m_storeWord_ : Nat → Int32) (m_storeValue_ : Nat → Int32) (m_planCycle_ : Nat → Int32) (m_planWhat_ : Nat → Int32) (m_planValue_ : Nat → Int32) (m_high_ : Nat → Int32) (m_pending_ : Nat → Int32) (m_service_ : Nat → Int32) (m_received_ : Nat → Int32) (m_sending_ : Nat → Int32) (m_out_ : Nat → Int64), i_ = nI k → k + fu = 1001 → k ≤ N → RR n (c0 + k) mem_ cdv cdB_ cdW_ dtv dtB_ dtW_ bfv_ bfP_ bfV_ evv_ evD_ evW_ evV_ dvL_ itv_ srv_ rqv_ rqB_ sqv_ sqB_ otv_ otC_ otV_ bsv_ krv_ rgs_ ctv_ acv_ acC_ acV_ mv_ mvL_ m_lastCycle_ m_lastAddress_ m_memory_ m_kept_ m_copy_ m_register_ m_special_ m_storeWord_ m_storeValue_ m_planCycle_ m_planWhat_ m_planValue_ m_high_ m_pending_ m_service_ m_received_ m_sending_ m_out_ → runP n (c0 + 1000) cdv dtv (p_Chip_run_L mem cdv cdB cdW dtv dtB dtW bfv bfP bfV evv evD evW evV dvL itv srv rqv rqB sqv sqB otv otC otV bsv krv rgs ctv acv acC acV q fu i_ mem_ cdB_ cdW_ dtB_ dtW_ bfv_ bfP_ bfV_ evv_ evD_ evW_ evV_ dvL_ itv_ srv_ rqv_ rqB_ sqv_ sqB_ otv_ otC_ otV_ bsv_ krv_ rgs_ ctv_ acv_ acC_ acV_) (p_Model_run_L mv mvL m_lastCycle m_lastAddress m_memory m_kept m_copy m_register m_special m_storeWord m_storeValue m_planCycle m_planWhat m_planValue m_high m_pending m_service m_received m_sending m_out q r1 fu i_ mv_ mvL_ m_lastCycle_ m_lastAddress_ m_memory_ m_kept_ m_copy_ m_register_ m_special_ m_storeWord_ m_storeValue_ m_planCycle_ m_planWhat_ m_planValue_ m_high_ m_pending_ m_service_ m_received_ m_sending_ m_out_) := by
  intro fu
  induction fu with
  | zero => intro k i_ mem_ cdB_ cdW_ dtB_ dtW_ bfv_ bfP_ bfV_ evv_ evD_ evW_ evV_ dvL_ itv_ srv_ rqv_ rqB_ sqv_ sqB_ otv_ otC_ otV_ bsv_ krv_ rgs_ ctv_ acv_ acC_ acV_ mv_ mvL_ m_lastCycle_ m_lastAddress_ m_memory_ m_kept_ m_copy_ m_register_ m_special_ m_storeWord_ m_storeValue_ m_planCycle_ m_planWhat_ m_planValue_ m_high_ m_pending_ m_service_ m_received_ m_sending_ m_out_ hi hf hk hR; exact absurd hf (by omega)
  | succ fu ih =>
    intro k i_ mem_ cdB_ cdW_ dtB_ dtW_ bfv_ bfP_ bfV_ evv_ evD_ evW_ evV_ dvL_ itv_ srv_ rqv_ rqB_ sqv_ sqB_ otv_ otC_ otV_ bsv_ krv_ rgs_ ctv_ acv_ acC_ acV_ mv_ mvL_ m_lastCycle_ m_lastAddress_ m_memory_ m_kept_ m_copy_ m_register_ m_special_ m_storeWord_ m_storeValue_ m_planCycle_ m_planWhat_ m_planValue_ m_high_ m_pending_ m_service_ m_received_ m_sending_ m_out_ hi hf hk hR
    rw [p_Chip_run_L, p_Model_run_L]
    by_cases h : q ≤ i_
    · rw [if_pos h, if_pos h]
      refine ⟨?_, rr_mono n _ _ _ _ _ _ _ _ _ _ _ _ _ _ _ _ _ _ _ _ _ _ _ _ _ _ _ _ _ _ _ _ _ _ _ _ _ _ _ _ _ _ _ _ _ _ _ _ _ _ _ _ _ hR (by omega) (by omega)⟩
      show acv_ 0 - acv 0 = mv_ 3 - mv 3
      rw [h0, hR.2.2.2.1.1]
    · rw [if_neg h, if_neg h, p_Chip_run_1, p_Model_run_2, p_Model_run_3, p_Model_run_4, p_Model_run_5, p_Model_run_6]
      have hkN := mi_idx hi hq (by omega) (by omega) h
      exact ih (k + 1) (i_ + (1 : Int32)) _ _ _ _ _ _ _ _ _ _ _ _ _ _ _ _ _ _ _ _ _ _ _ _ _ _ _ _ _ _ _ _ _ _ _ _ _ _ _ _ _ _ _ _ _ _ _ _ _ (by rw [hi]; exact nI_1 k) (by omega) (by omega) ((hc (c0 + k) _ _ _ _ _ _ _ _ _ _ _ _ _ _ _ _ _ _ _ _ _ _ _ _ _ _ _ _ _ _ _ _ _ _ _ _ _ _ _ _ _ _ _ _ _ _ _ _ _ _ _ (by omega) hR).2 _ _ _ _ _ rfl rfl rfl rfl rfl)
theorem rr_run {n : Nat} (hc : ok_cyc n (RR n)) : ok_run (RR n) := by
  intro c mem cdv cdB cdW dtv dtB dtW bfv bfP bfV evv evD evW evV dvL itv srv rqv rqB sqv sqB otv otC otV bsv krv rgs ctv acv acC acV mv mvL m_lastCycle m_lastAddress m_memory m_kept m_copy m_register m_special m_storeWord m_storeValue m_planCycle m_planWhat m_planValue m_high m_pending m_service m_received m_sending m_out x h6 hR
  have hP : runP n (c + 1000) cdv dtv (p_Chip_run mem cdv cdB cdW dtv dtB dtW bfv bfP bfV evv evD evW evV dvL itv srv rqv rqB sqv sqB otv otC otV bsv krv rgs ctv acv acC acV x) (p_Model_run mv mvL m_lastCycle m_lastAddress m_memory m_kept m_copy m_register m_special m_storeWord m_storeValue m_planCycle m_planWhat m_planValue m_high m_pending m_service m_received m_sending m_out x) := by
    rw [p_Chip_run, p_Model_run, p_Model_run_1, p_Model_in]
    by_cases h1 : x < (0 : Int32)
    · rw [if_pos h1, if_pos h1, if_pos rfl]
      exact ⟨rfl, rr_mono n _ _ _ _ _ _ _ _ _ _ _ _ _ _ _ _ _ _ _ _ _ _ _ _ _ _ _ _ _ _ _ _ _ _ _ _ _ _ _ _ _ _ _ _ _ _ _ _ _ _ _ _ _ hR (by omega) (by omega)⟩
    · rw [if_neg h1, if_neg h1]
      by_cases h2 : x ≤ (1000 : Int32)
      · rw [if_pos h2, if_neg (k2_nlt h2), if_neg (show ¬ (1 : Int32) = (0 : Int32) by decide)]
        obtain ⟨N, hN, hx⟩ := nI_of2 (n := 1000) (x := x) (M := (1000 : Int32)) rfl h1 h2
        exact run_L hc h6 hR.2.2.2.1.1 hx hN 1001 0 0 mem cdB cdW dtB dtW bfv bfP bfV evv evD evW evV dvL itv srv rqv rqB sqv sqB otv otC otV bsv krv rgs ctv acv acC acV mv mvL m_lastCycle m_lastAddress m_memory m_kept m_copy m_register m_special m_storeWord m_storeValue m_planCycle m_planWhat m_planValue m_high m_pending m_service m_received m_sending m_out rfl (by omega) (by omega) hR
      · rw [if_neg h2, if_pos (k2_lt h2), if_pos rfl]
        exact ⟨rfl, rr_mono n _ _ _ _ _ _ _ _ _ _ _ _ _ _ _ _ _ _ _ _ _ _ _ _ _ _ _ _ _ _ _ _ _ _ _ _ _ _ _ _ _ _ _ _ _ _ _ _ _ _ _ _ _ hR (by omega) (by omega)⟩
  exact hP
theorem cl8_eq (x : Int32) : p_Chip_oneToEight x = cl8 x := by
  have e : p_Chip_oneToEight x = j_max (1 : Int32) (j_min (8 : Int32) x) := rfl
  rw [e]
  unfold j_max j_min cl8
  by_cases h1 : x < (8 : Int32)
  · rw [if_pos h1]
    by_cases h2 : (1 : Int32) < x
    · rw [if_pos h2, if_pos (Int32.le_of_lt h2), if_pos (Int32.le_of_lt h1)]
    · rw [if_neg h2]
      by_cases h3 : (1 : Int32) ≤ x
      · rw [if_pos h3, if_pos (Int32.le_of_lt h1)]
        exact Int32.le_antisymm h3 (k2_le h2)
      · rw [if_neg h3]
  · rw [if_neg h1, if_pos (by decide), if_pos (Int32.le_trans (by decide) (k2_le h1))]
    split
    · next h3 => exact Int32.le_antisymm (k2_le h1) h3
    · rfl
theorem rb0 (bsv mv : Nat → Int32) (b1 : bsv 1 = 0) (b5 : bsv 5 = 0) (b4 : bsv 4 = 0) (b2 : bsv 2 = 0) (m9 : mv 9 = 0) (m11 : mv 11 = 0) (m14 : mv 14 = 1) : rBus bsv mv := by
  unfold rBus
  rw [b1, b5, b4, b2, m9, m11, m14]
  exact ⟨rfl, rfl, ⟨0, by omega, rfl⟩, ⟨0, by omega, rfl⟩, fun h => absurd rfl h, fun h => by rcases h with h | h <;> exact absurd h (by decide), fun h => absurd rfl h, Or.inr rfl, ⟨fun _ => Or.inr rfl, fun _ => by decide⟩, ⟨0, by omega, rfl⟩, fun h => absurd rfl h⟩
theorem ri_cac {n : Nat} (hn : 0 < n) (hn8 : n ≤ 8) : ∀ p : Nat, p < 128 → ((0 : Int32) = 0 ∨ (0 : Int32) = 1) ∧ (¬ (0 : Int32) = 0 ↔ p_fillTo n (fun _ => 0) (-1 : Int32) (p / 4 % n) = nI (p / 4)) ∧ (¬ (0 : Int32) = 0 → (0 : Int32) = 0) := by
  intro p hp
  refine ⟨Or.inl rfl, ⟨fun h => absurd rfl h, fun h => ?_⟩, fun h => absurd rfl h⟩
  rw [p_fillTo, if_pos (Nat.mod_lt _ hn)] at h
  have h9 := congrArg Int32.toInt h
  rw [nI_toInt (by omega)] at h9
  have h10 : (-1 : Int32).toInt = -1 := by decide
  omega
theorem ri_rNum (n : Nat) (a b : Int32) (hn : 0 < n) (hn8 : n ≤ 8) (hb : p_Chip_oneToEight b = nI n) : rNum n (fun _ => nI n) (fun _ => nI n) (upd (fun _ => 0) 0 (p_Chip_oneToEight a)) (upd (upd (upd (upd (upd (fun _ => 0) 6 (-1)) 14 1) 27 1) 0 (cl8 a)) 1 (cl8 b)) := by
  obtain ⟨la, h1, h2, h3⟩ := o8_n a
  exact ⟨rfl, rfl, (cl8_eq b).symm.trans hb, hn, hn8, cl8_eq a, la, by omega, h2, (cl8_eq a).symm.trans h3⟩
theorem ri_rCyc (n : Nat) (a b : Int32) (hn : 0 < n) (hn8 : n ≤ 8) (hb : p_Chip_oneToEight b = nI n) : rCyc 500 (fun _ => 0) (upd (upd (upd (upd (upd (fun _ => 0) 6 (-1)) 14 1) 27 1) 0 (cl8 a)) 1 (cl8 b)) := by
  exact ⟨rfl, 0, by omega, rfl⟩
theorem ri_rAct (n : Nat) (a b : Int32) (hn : 0 < n) (hn8 : n ≤ 8) (hb : p_Chip_oneToEight b = nI n) : rAct 500 (fun _ => 0) (fun _ => 0) (fun _ => 0) (upd (upd (upd (upd (upd (fun _ => 0) 6 (-1)) 14 1) 27 1) 0 (cl8 a)) 1 (cl8 b)) (fun _ => 0) (fun _ => 0) := by
  exact ⟨rfl, ⟨0, by omega, rfl⟩, fun i _ => ⟨rfl, rfl⟩⟩
theorem ri_rMem (n : Nat) (a b : Int32) (hn : 0 < n) (hn8 : n ≤ 8) (hb : p_Chip_oneToEight b = nI n) : rMem (fun _ => 0) (fun _ => 0) := by
  exact fun i _ => rfl
theorem ri_rCode (n : Nat) (a b : Int32) (hn : 0 < n) (hn8 : n ≤ 8) (hb : p_Chip_oneToEight b = nI n) : rCode n (p_fillTo n (fun _ => 0) (-1 : Int32)) (fun _ => 0) (fun _ => 0) (fun _ => 0) := by
  exact ri_cac hn hn8
theorem ri_rData (n : Nat) (a b : Int32) (hn : 0 < n) (hn8 : n ≤ 8) (hb : p_Chip_oneToEight b = nI n) : rData n (p_fillTo n (fun _ => 0) (-1 : Int32)) (fun _ => 0) (fun _ => 0) (fun _ => 0) := by
  exact ri_cac hn hn8
theorem ri_rReg (n : Nat) (a b : Int32) (hn : 0 < n) (hn8 : n ≤ 8) (hb : p_Chip_oneToEight b = nI n) : rReg (fun _ => 0) (fun _ => 0) := by
  exact ⟨rfl, fun i _ => rfl⟩
theorem ri_rCtl (n : Nat) (a b : Int32) (hn : 0 < n) (hn8 : n ≤ 8) (hb : p_Chip_oneToEight b = nI n) : rCtl (fun _ => 0) (fun _ => 0) := by
  exact fun i _ => rfl
theorem ri_rCore (n : Nat) (a b : Int32) (hn : 0 < n) (hn8 : n ≤ 8) (hb : p_Chip_oneToEight b = nI n) : rCore (fun _ => 0) (upd (upd (upd (upd (upd (fun _ => 0) 6 (-1)) 14 1) 27 1) 0 (cl8 a)) 1 (cl8 b)) := by
  exact ⟨rfl, rfl, rfl, Or.inl rfl, rfl, rfl, rfl, rfl, j_in 0 (by decide +kernel)⟩
theorem ri_rRest (n : Nat) (a b : Int32) (hn : 0 < n) (hn8 : n ≤ 8) (hb : p_Chip_oneToEight b = nI n) : rRest (fun _ => 0) (upd (upd (upd (upd (upd (fun _ => 0) 6 (-1)) 14 1) 27 1) 0 (cl8 a)) 1 (cl8 b)) := by
  exact ⟨0, 0, rfl, rfl, by omega, Or.inl ⟨rfl, show (-1 : Int32) < nI 0 by decide⟩⟩
theorem ri_rWait (n : Nat) (a b : Int32) (hn : 0 < n) (hn8 : n ≤ 8) (hb : p_Chip_oneToEight b = nI n) : rWait (fun _ => 0) (upd (fun _ => 0) 0 (p_Chip_oneToEight a)) (upd (upd (upd (upd (upd (fun _ => 0) 6 (-1)) 14 1) 27 1) 0 (cl8 a)) 1 (cl8 b)) := by
  exact ⟨Or.inl rfl, ⟨fun h => absurd rfl h, fun h => by rcases h with h | h; exact absurd rfl h; exact absurd rfl h.1⟩, fun _ => rfl⟩
theorem ri_rBus (n : Nat) (a b : Int32) (hn : 0 < n) (hn8 : n ≤ 8) (hb : p_Chip_oneToEight b = nI n) : rBus (upd (fun _ => 0) 0 (p_Chip_oneToEight a)) (upd (upd (upd (upd (upd (fun _ => 0) 6 (-1)) 14 1) 27 1) 0 (cl8 a)) 1 (cl8 b)) := by
  exact rb0 _ _ rfl rfl rfl rfl rfl rfl rfl
theorem ri_rBuf (n : Nat) (a b : Int32) (hn : 0 < n) (hn8 : n ≤ 8) (hb : p_Chip_oneToEight b = nI n) : rBuf (fun _ => 0) (fun _ => 0) (fun _ => 0) (upd (upd (upd (upd (upd (fun _ => 0) 6 (-1)) 14 1) 27 1) 0 (cl8 a)) 1 (cl8 b)) (fun _ => 0) (fun _ => 0) := by
  exact ⟨rfl, ⟨0, by omega, rfl⟩, fun i _ => ⟨rfl, rfl, j_in 0 (by decide +kernel)⟩, fun h => absurd h (show ¬ (0 : Int32) = 4 by decide)⟩
theorem ri_rEv (n : Nat) (a b : Int32) (hn : 0 < n) (hn8 : n ≤ 8) (hb : p_Chip_oneToEight b = nI n) : rEv (fun _ => 0) (fun _ => 0) (fun _ => 0) (fun _ => 0) (upd (upd (upd (upd (upd (fun _ => 0) 6 (-1)) 14 1) 27 1) 0 (cl8 a)) 1 (cl8 b)) (fun _ => 0) (fun _ => 0) (fun _ => 0) := by
  exact ⟨rfl, ⟨0, by omega, rfl⟩, fun i _ => ⟨rfl, rfl, rfl, 0, by omega, by omega, rfl⟩⟩
theorem ri_rTime (n : Nat) (a b : Int32) (hn : 0 < n) (hn8 : n ≤ 8) (hb : p_Chip_oneToEight b = nI n) : rTime (vp_updL (fun _ => 0) 1 (-1)) (vp_updL (fun _ => 0) 1 (-1)) := by
  exact ⟨rfl, rfl⟩
theorem ri_rInt (n : Nat) (a b : Int32) (hn : 0 < n) (hn8 : n ≤ 8) (hb : p_Chip_oneToEight b = nI n) : rInt (fun _ => 0) (upd (upd (upd (upd (upd (fun _ => 0) 6 (-1)) 14 1) 27 1) 0 (cl8 a)) 1 (cl8 b)) (fun _ => 0) (fun _ => 0) (fun _ => 0) := by
  have hbit : ∀ (lo i : Nat), i < 32 → bt (0 : Int32) i = decide (lo ≤ i ∧ i ≤ 7 ∧ ¬ (0 : Int32) = 0) := fun lo i _ => by rw [b_0, decide_eq_false (fun h => h.2.2 rfl)]
  exact ⟨rfl, rfl, rfl, hbit 2, hbit 1, hbit 1, fun i _ => ⟨Or.inl rfl, Or.inl rfl, Or.inl rfl⟩⟩
theorem ri_rSer (n : Nat) (a b : Int32) (hn : 0 < n) (hn8 : n ≤ 8) (hb : p_Chip_oneToEight b = nI n) : rSer (upd (fun _ => 0) 1 1) (upd (upd (upd (upd (upd (fun _ => 0) 6 (-1)) 14 1) 27 1) 0 (cl8 a)) 1 (cl8 b)) := by
  exact ⟨rfl, rfl, rfl, rfl, rfl, rfl, Or.inl rfl, Or.inl rfl, 0, by omega, rfl⟩
theorem ri_rRq (n : Nat) (a b : Int32) (hn : 0 < n) (hn8 : n ≤ 8) (hb : p_Chip_oneToEight b = nI n) : rRq (fun _ => 0) (fun _ => 0) (upd (upd (upd (upd (upd (fun _ => 0) 6 (-1)) 14 1) 27 1) 0 (cl8 a)) 1 (cl8 b)) (fun _ => 0) := by
  exact ⟨0, 0, by omega, by omega, rfl, rfl, rfl, fun i h => absurd h (by omega)⟩
theorem ri_rSq (n : Nat) (a b : Int32) (hn : 0 < n) (hn8 : n ≤ 8) (hb : p_Chip_oneToEight b = nI n) : rSq (fun _ => 0) (fun _ => 0) (upd (upd (upd (upd (upd (fun _ => 0) 6 (-1)) 14 1) 27 1) 0 (cl8 a)) 1 (cl8 b)) (fun _ => 0) := by
  exact ⟨0, 0, by omega, by omega, rfl, rfl, rfl, fun i h => absurd h (by omega)⟩
theorem ri_rOut (n : Nat) (a b : Int32) (hn : 0 < n) (hn8 : n ≤ 8) (hb : p_Chip_oneToEight b = nI n) : rOut 500 (fun _ => 0) (fun _ => 0) (fun _ => 0) (upd (upd (upd (upd (upd (fun _ => 0) 6 (-1)) 14 1) 27 1) 0 (cl8 a)) 1 (cl8 b)) (fun _ => 0) := by
  exact ⟨rfl, ⟨0, by omega, rfl⟩, fun i _ => show (0 : Int64) = (0 : Int32).toInt64 + 256 * (0 : Int32).toInt64 by decide⟩
theorem rr_init {n : Nat} {a b : Int32} (hn : 0 < n) (hn8 : n ≤ 8) (hb : p_Chip_oneToEight b = nI n) : RR n 500 (fun _ => 0) (fun _ => nI n) (p_fillTo n (fun _ => 0) (-1 : Int32)) (fun _ => 0) (fun _ => nI n) (p_fillTo n (fun _ => 0) (-1 : Int32)) (fun _ => 0) (fun _ => 0) (fun _ => 0) (fun _ => 0) (fun _ => 0) (fun _ => 0) (fun _ => 0) (fun _ => 0) (vp_updL (fun _ => 0) 1 (-1)) (fun _ => 0) (upd (fun _ => 0) 1 1) (fun _ => 0) (fun _ => 0) (fun _ => 0) (fun _ => 0) (fun _ => 0) (fun _ => 0) (fun _ => 0) (upd (fun _ => 0) 0 (p_Chip_oneToEight a)) (fun _ => 0) (fun _ => 0) (fun _ => 0) (fun _ => 0) (fun _ => 0) (fun _ => 0) (upd (upd (upd (upd (upd (fun _ => 0) 6 (-1)) 14 1) 27 1) 0 (cl8 a)) 1 (cl8 b)) (vp_updL (fun _ => 0) 1 (-1)) (fun _ => 0) (fun _ => 0) (fun _ => 0) (fun _ => 0) (fun _ => 0) (fun _ => 0) (fun _ => 0) (fun _ => 0) (fun _ => 0) (fun _ => 0) (fun _ => 0) (fun _ => 0) (fun _ => 0) (fun _ => 0) (fun _ => 0) (fun _ => 0) (fun _ => 0) (fun _ => 0) :=
  ⟨Nat.le_of_ble_eq_true rfl, ri_rNum n a b hn hn8 hb, ri_rCyc n a b hn hn8 hb, ri_rAct n a b hn hn8 hb, ri_rMem n a b hn hn8 hb, ri_rCode n a b hn hn8 hb, ri_rData n a b hn hn8 hb, ri_rReg n a b hn hn8 hb, ri_rCtl n a b hn hn8 hb, ri_rCore n a b hn hn8 hb, ri_rRest n a b hn hn8 hb, ri_rWait n a b hn hn8 hb, ri_rBus n a b hn hn8 hb, ri_rBuf n a b hn hn8 hb, ri_rEv n a b hn hn8 hb, ri_rTime n a b hn hn8 hb, ri_rInt n a b hn hn8 hb, ri_rSer n a b hn hn8 hb, ri_rRq n a b hn hn8 hb, ri_rSq n a b hn hn8 hb, ri_rOut n a b hn hn8 hb⟩
/-- all is shown but the cycle -/
theorem pure_of_cyc (h : ∀ n : Nat, ok_cyc n (RR n)) : pure_ok := by
  intro n a b hn hn8 hb
  exact ⟨RR n, rr_wf n, rr_mono n, h n, rr_poke n, rr_peek n, rr_held n, rr_give n, rr_register n, rr_pc n, rr_control n, rr_plan n, rr_planned n, rr_run (h n), rr_cycles n, rr_traps n, rr_actCycle n, rr_actAddress n, rr_sent n, rr_queued n, rr_stores n, rr_bus n, rr_sources n, rr_init hn hn8 hb⟩
