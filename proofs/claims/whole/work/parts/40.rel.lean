/-! the relation. (bt and its rows: from kit/laws/BITS.to-paste) -/
def bt (x : Int32) (i : Nat) : Bool := x.toBitVec.getLsbD i
theorem b_ext {x y : Int32} (h : ∀ i, i < 32 → bt x i = bt y i) : x = y := Int32.toBitVec_inj.mp (BitVec.eq_of_getLsbD_eq (fun i hi => h i hi))
theorem b_or (x y : Int32) (i : Nat) : bt (x ||| y) i = (bt x i || bt y i) := by unfold bt; rw [Int32.toBitVec_or, BitVec.getLsbD_or]
theorem b_and (x y : Int32) (i : Nat) : bt (x &&& y) i = (bt x i && bt y i) := by unfold bt; rw [Int32.toBitVec_and, BitVec.getLsbD_and]
theorem b_xor (x y : Int32) (i : Nat) : bt (x ^^^ y) i = (bt x i ^^ bt y i) := by unfold bt; rw [Int32.toBitVec_xor, BitVec.getLsbD_xor]
theorem b_big {x : Int32} {i : Nat} (h : 32 ≤ i) : bt x i = false := BitVec.getLsbD_of_ge _ _ h
theorem b_255 (i : Nat) : bt 255 i = decide (i < 8) := by
  rcases Nat.lt_or_ge i 32 with h | h
  · exact (by decide +kernel : ∀ i, i < 32 → bt 255 i = decide (i < 8)) i h
  · rw [b_big h, decide_eq_false (by omega)]
theorem b_65535 (i : Nat) : bt 65535 i = decide (i < 16) := by
  rcases Nat.lt_or_ge i 32 with h | h
  · exact (by decide +kernel : ∀ i, i < 32 → bt 65535 i = decide (i < 16)) i h
  · rw [b_big h, decide_eq_false (by omega)]
theorem b_m1 : ∀ i, i < 32 → bt (-1) i = true := by decide +kernel
theorem b_0 (i : Nat) : bt 0 i = false := BitVec.getLsbD_zero
theorem s_l : ∀ n, n < 32 → ((nI n &&& 31).toBitVec.smod 32).toNat = n := by decide +kernel
theorem s_u : ∀ n, n < 32 → (((nI n).toUInt32 &&& Int32.toUInt32 31).toBitVec % 32).toNat = n := by decide +kernel
theorem b_shl (n : Nat) (hn : n < 32) (x : Int32) {i : Nat} (hi : i < 32) : bt (x <<< (nI n &&& 31)) i = (decide (n ≤ i) && bt x (i - n)) := by
  unfold bt
  rw [Int32.toBitVec_shiftLeft]
  show (x.toBitVec <<< ((nI n &&& 31).toBitVec.smod 32).toNat).getLsbD i = _
  rw [s_l n hn, BitVec.getLsbD_shiftLeft]
  rcases Nat.lt_or_ge i n with h | h
  · simp [h, Nat.not_le.mpr h]
  · simp [hi, h, Nat.not_lt.mpr h]
theorem b_ushr (n : Nat) (hn : n < 32) (x : Int32) (i : Nat) : bt ((x.toUInt32 >>> ((nI n).toUInt32 &&& Int32.toUInt32 31)).toInt32) i = bt x (n + i) := by
  show (x.toUInt32 >>> ((nI n).toUInt32 &&& Int32.toUInt32 31)).toBitVec.getLsbD i = x.toUInt32.toBitVec.getLsbD (n + i)
  rw [UInt32.toBitVec_shiftRight]
  show (x.toUInt32.toBitVec >>> (((nI n).toUInt32 &&& Int32.toUInt32 31).toBitVec % 32).toNat).getLsbD i = _
  rw [s_u n hn, BitVec.getLsbD_ushiftRight]
theorem b_sshr (n : Nat) (hn : n < 32) (x : Int32) {i : Nat} (hi : i < 32) : bt (x >>> (nI n &&& 31)) i = if n + i < 32 then bt x (n + i) else bt x 31 := by
  unfold bt
  rw [Int32.toBitVec_shiftRight]
  show (x.toBitVec.sshiftRight ((nI n &&& 31).toBitVec.smod 32).toNat).getLsbD i = _
  rw [s_l n hn, BitVec.getLsbD_sshiftRight, BitVec.msb_eq_getLsbD_last]
  simp [hi]
def rNum (n : Nat) (cdv : Nat → Int32) (dtv : Nat → Int32) (bsv : Nat → Int32) (mv : Nat → Int32) : Prop := cdv 0 = nI n ∧ dtv 0 = nI n ∧ mv 1 = nI n ∧ 0 < n ∧ n ≤ 8 ∧ bsv 0 = mv 0 ∧ ∃ la : Nat, 1 ≤ la ∧ la ≤ 8 ∧ mv 0 = nI la
def rCyc (c : Nat) (krv : Nat → Int32) (mv : Nat → Int32) : Prop := krv 1 = mv 2 ∧ ∃ t : Nat, t ≤ c ∧ mv 2 = nI t
def rAct (c : Nat) (acv : Nat → Int32) (acC : Nat → Int32) (acV : Nat → Int32) (mv : Nat → Int32) (m_lastCycle : Nat → Int32) (m_lastAddress : Nat → Int32) : Prop := acv 0 = mv 3 ∧ (∃ a : Nat, a ≤ 2 * c ∧ mv 3 = nI a) ∧ ∀ i : Nat, i < 16 → acC i = m_lastCycle i ∧ acV i = m_lastAddress i
def rMem (mem : Nat → Int32) (m_memory : Nat → Int32) : Prop := ∀ i : Nat, i < 128 → mem i = m_memory i
def rCode (n : Nat) (cdB : Nat → Int32) (cdW : Nat → Int32) (m_kept : Nat → Int32) (m_copy : Nat → Int32) : Prop := ∀ p : Nat, p < 128 → (m_kept p = 0 ∨ m_kept p = 1) ∧ (¬ m_kept p = 0 ↔ cdB (p / 4 % n) = nI (p / 4)) ∧ (¬ m_kept p = 0 → m_copy p = cdW (p / 4 % n * 4 + p % 4))
def rData (n : Nat) (dtB : Nat → Int32) (dtW : Nat → Int32) (m_kept : Nat → Int32) (m_copy : Nat → Int32) : Prop := ∀ p : Nat, p < 128 → (m_kept (128 + p) = 0 ∨ m_kept (128 + p) = 1) ∧ (¬ m_kept (128 + p) = 0 ↔ dtB (p / 4 % n) = nI (p / 4)) ∧ (¬ m_kept (128 + p) = 0 → m_copy (128 + p) = dtW (p / 4 % n * 4 + p % 4))
def rReg (rgs : Nat → Int32) (m_register : Nat → Int32) : Prop := rgs 0 = 0 ∧ ∀ i : Nat, i < 32 → rgs i = m_register i
def rCtl (ctv : Nat → Int32) (m_special : Nat → Int32) : Prop := ∀ i : Nat, i < 7 → ctv i = m_special i
def rCore (krv : Nat → Int32) (mv : Nat → Int32) : Prop := krv 0 = mv 5 ∧ krv 2 = mv 4 ∧ krv 4 = mv 8 ∧ (mv 8 = 0 ∨ mv 8 = 1) ∧ krv 5 = mv 15 ∧ krv 6 = mv 16 ∧ krv 7 = mv 17 ∧ krv 8 = mv 18 ∧ vp_in (mv 18) 32
def rRest (krv : Nat → Int32) (mv : Nat → Int32) : Prop := ∃ t q : Nat, mv 2 = nI t ∧ krv 3 = nI q ∧ q ≤ 7 ∧ ((q = 0 ∧ mv 6 < nI t) ∨ (0 < q ∧ mv 6 = nI (t + q - 1)))
def rWait (krv : Nat → Int32) (bsv : Nat → Int32) (mv : Nat → Int32) : Prop := (mv 7 = 0 ∨ mv 7 = 1) ∧ (¬ mv 7 = 0 ↔ (¬ bsv 1 = 0 ∨ (¬ bsv 5 = 0 ∧ ¬ bsv 5 = 4))) ∧ (¬ mv 7 = 0 → krv 3 = 0)
def rBus (bsv : Nat → Int32) (mv : Nat → Int32) : Prop := bsv 1 = mv 9 ∧ bsv 5 = mv 11 ∧ (∃ w : Nat, w ≤ 3 ∧ mv 9 = nI w) ∧ (∃ w : Nat, w ≤ 4 ∧ mv 11 = nI w) ∧ (¬ mv 9 = 0 → mv 10 = bsv 2) ∧ (mv 11 = 1 ∨ mv 11 = 2 → mv 12 = bsv 2) ∧ (¬ mv 11 = 0 → bsv 3 = mv 13) ∧ (mv 14 = 0 ∨ mv 14 = 1) ∧ (¬ mv 14 = 0 ↔ bsv 4 = 4 ∨ bsv 4 = 0) ∧ (∃ j : Nat, j < 32 ∧ bsv 2 = nI j) ∧ (¬ mv 9 = 0 → mv 11 = 0 ∨ mv 11 = 4)
def rBuf (bfv : Nat → Int32) (bfP : Nat → Int32) (bfV : Nat → Int32) (mv : Nat → Int32) (m_storeWord : Nat → Int32) (m_storeValue : Nat → Int32) : Prop := bfv 0 = mv 19 ∧ (∃ k : Nat, k ≤ 2 ∧ mv 19 = nI k) ∧ (∀ i : Nat, i < 2 → bfP i = m_storeWord i ∧ bfV i = m_storeValue i ∧ vp_in (m_storeWord i) 128) ∧ (mv 11 = 4 → ¬ mv 19 = 0)
def rEv (evv : Nat → Int32) (evD : Nat → Int32) (evW : Nat → Int32) (evV : Nat → Int32) (mv : Nat → Int32) (m_planCycle : Nat → Int32) (m_planWhat : Nat → Int32) (m_planValue : Nat → Int32) : Prop := evv 0 = mv 20 ∧ (∃ k : Nat, k ≤ 16 ∧ mv 20 = nI k) ∧ ∀ i : Nat, i < 16 → evD i = m_planCycle i ∧ evW i = m_planWhat i ∧ evV i = m_planValue i ∧ ∃ w : Nat, w < 8 ∧ ¬ w = 1 ∧ m_planWhat i = nI w
def rTime (dvL : Nat → Int64) (mvL : Nat → Int64) : Prop := dvL 0 = mvL 0 ∧ dvL 1 = mvL 1
def rInt (itv : Nat → Int32) (mv : Nat → Int32) (m_high : Nat → Int32) (m_pending : Nat → Int32) (m_service : Nat → Int32) : Prop := itv 1 = mv 21 ∧ itv 2 = mv 22 ∧ itv 3 = mv 23 ∧ (∀ i : Nat, i < 32 → bt (itv 0) i = decide (2 ≤ i ∧ i ≤ 7 ∧ ¬ m_high i = 0)) ∧ (∀ i : Nat, i < 32 → bt (itv 4) i = decide (1 ≤ i ∧ i ≤ 7 ∧ ¬ m_pending i = 0)) ∧ (∀ i : Nat, i < 32 → bt (itv 5) i = decide (1 ≤ i ∧ i ≤ 7 ∧ ¬ m_service i = 0)) ∧ ∀ i : Nat, i < 8 → (m_high i = 0 ∨ m_high i = 1) ∧ (m_pending i = 0 ∨ m_pending i = 1) ∧ (m_service i = 0 ∨ m_service i = 1)
def rSer (srv : Nat → Int32) (mv : Nat → Int32) : Prop := srv 0 = mv 25 ∧ srv 1 = mv 27 ∧ srv 2 = mv 28 ∧ srv 3 = mv 29 ∧ srv 4 = mv 30 ∧ srv 5 = mv 31 ∧ (mv 25 = 0 ∨ mv 25 = 1) ∧ (mv 29 = 0 ∨ mv 29 = 1) ∧ ∃ q : Nat, q ≤ 3 ∧ mv 28 = nI q
def rRq (rqv : Nat → Int32) (rqB : Nat → Int32) (mv : Nat → Int32) (m_received : Nat → Int32) : Prop := ∃ f k : Nat, f < 8 ∧ k ≤ 8 ∧ rqv 0 = nI f ∧ rqv 1 = nI k ∧ mv 24 = nI k ∧ ∀ i : Nat, i < k → rqB ((f + i) % 8) = m_received i
def rSq (sqv : Nat → Int32) (sqB : Nat → Int32) (mv : Nat → Int32) (m_sending : Nat → Int32) : Prop := ∃ f k : Nat, f < 8 ∧ k ≤ 8 ∧ sqv 0 = nI f ∧ sqv 1 = nI k ∧ mv 26 = nI k ∧ ∀ i : Nat, i < k → sqB ((f + i) % 8) = m_sending i
def rOut (c : Nat) (otv : Nat → Int32) (otC : Nat → Int32) (otV : Nat → Int32) (mv : Nat → Int32) (m_out : Nat → Int64) : Prop := otv 0 = mv 32 ∧ (∃ a : Nat, a ≤ c ∧ mv 32 = nI a) ∧ ∀ i : Nat, i < 16 → m_out i = (otV i).toInt64 + 256 * (otC i).toInt64
def RR (n c : Nat) (mem : Nat → Int32) (cdv : Nat → Int32) (cdB : Nat → Int32) (cdW : Nat → Int32) (dtv : Nat → Int32) (dtB : Nat → Int32) (dtW : Nat → Int32) (bfv : Nat → Int32) (bfP : Nat → Int32) (bfV : Nat → Int32) (evv : Nat → Int32) (evD : Nat → Int32) (evW : Nat → Int32) (evV : Nat → Int32) (dvL : Nat → Int64) (itv : Nat → Int32) (srv : Nat → Int32) (rqv : Nat → Int32) (rqB : Nat → Int32) (sqv : Nat → Int32) (sqB : Nat → Int32) (otv : Nat → Int32) (otC : Nat → Int32) (otV : Nat → Int32) (bsv : Nat → Int32) (krv : Nat → Int32) (rgs : Nat → Int32) (ctv : Nat → Int32) (acv : Nat → Int32) (acC : Nat → Int32) (acV : Nat → Int32) (mv : Nat → Int32) (mvL : Nat → Int64) (m_lastCycle : Nat → Int32) (m_lastAddress : Nat → Int32) (m_memory : Nat → Int32) (m_kept : Nat → Int32) (m_copy : Nat → Int32) (m_register : Nat → Int32) (m_special : Nat → Int32) (m_storeWord : Nat → Int32) (m_storeValue : Nat → Int32) (m_planCycle : Nat → Int32) (m_planWhat : Nat → Int32) (m_planValue : Nat → Int32) (m_high : Nat → Int32) (m_pending : Nat → Int32) (m_service : Nat → Int32) (m_received : Nat → Int32) (m_sending : Nat → Int32) (m_out : Nat → Int64) : Prop := c ≤ 600000 ∧ rNum n cdv dtv bsv mv ∧ rCyc c krv mv ∧ rAct c acv acC acV mv m_lastCycle m_lastAddress ∧ rMem mem m_memory ∧ rCode n cdB cdW m_kept m_copy ∧ rData n dtB dtW m_kept m_copy ∧ rReg rgs m_register ∧ rCtl ctv m_special ∧ rCore krv mv ∧ rRest krv mv ∧ rWait krv bsv mv ∧ rBus bsv mv ∧ rBuf bfv bfP bfV mv m_storeWord m_storeValue ∧ rEv evv evD evW evV mv m_planCycle m_planWhat m_planValue ∧ rTime dvL mvL ∧ rInt itv mv m_high m_pending m_service ∧ rSer srv mv ∧ rRq rqv rqB mv m_received ∧ rSq sqv sqB mv m_sending ∧ rOut c otv otC otV mv m_out
theorem rr_wf (n : Nat) : ok_wf n (RR n) := by
  intro c mem cdv cdB cdW dtv dtB dtW bfv bfP bfV evv evD evW evV dvL itv srv rqv rqB sqv sqB otv otC otV bsv krv rgs ctv acv acC acV mv mvL m_lastCycle m_lastAddress m_memory m_kept m_copy m_register m_special m_storeWord m_storeValue m_planCycle m_planWhat m_planValue m_high m_pending m_service m_received m_sending m_out hR
  obtain ⟨hc, h1, h2, h3, h4, h5, h6, h7, h8, h9, h10, h11, h12, h13, h14, h15, h16, h17, h18, h19, h20⟩ := hR
  obtain ⟨a1, a2, a3, a4, a5, a6⟩ := h1
  obtain ⟨b1, ⟨k, hk, b2⟩, b3, b4⟩ := h13
  obtain ⟨e1, ⟨ke, hke, e2⟩, e3⟩ := h14
  obtain ⟨f, kq, hf, hkq, q1, q2⟩ := h18
  obtain ⟨f2, kq2, hf2, hkq2, s1, s2⟩ := h19
  obtain ⟨t1, ⟨ac, hac, t2⟩, t3⟩ := h3
  obtain ⟨v1, ⟨oc, hoc, v2⟩, v3⟩ := h20
  refine ⟨⟨a1, a2, a4, a5, ⟨k, hk, by rw [b1, b2]⟩, by rw [(b3 0 (by omega)).1]; exact (b3 0 (by omega)).2.2, h12.2.2.2.2.2.2.2.2.2.1, ⟨ke, hke, by rw [e1, e2]⟩, by rw [q1]; exact vp_in_nI hf (by omega), by rw [s1]; exact vp_in_nI hf2 (by omega), by rw [h9.2.2.2.2.2.2.2.1]; exact h9.2.2.2.2.2.2.2.2⟩, ⟨ac, by omega, t2⟩, ⟨oc, by omega, v2⟩, ⟨ke, hke, e2⟩⟩
theorem rr_mono (n : Nat) : ok_mono (RR n) := by
  intro c d mem cdv cdB cdW dtv dtB dtW bfv bfP bfV evv evD evW evV dvL itv srv rqv rqB sqv sqB otv otC otV bsv krv rgs ctv acv acC acV mv mvL m_lastCycle m_lastAddress m_memory m_kept m_copy m_register m_special m_storeWord m_storeValue m_planCycle m_planWhat m_planValue m_high m_pending m_service m_received m_sending m_out hR hcd hd
  obtain ⟨hc, h1, h2, h3, h4, h5, h6, h7, h8, h9, h10, h11, h12, h13, h14, h15, h16, h17, h18, h19, h20⟩ := hR
  obtain ⟨c1, t, ht, c2⟩ := h2
  obtain ⟨t1, ⟨ac, hac, t2⟩, t3⟩ := h3
  obtain ⟨v1, ⟨oc, hoc, v2⟩, v3⟩ := h20
  exact ⟨hd, h1, ⟨c1, t, by omega, c2⟩, ⟨t1, ⟨ac, by omega, t2⟩, t3⟩, h4, h5, h6, h7, h8, h9, h10, h11, h12, h13, h14, h15, h16, h17, h18, h19, ⟨v1, ⟨oc, by omega, v2⟩, v3⟩⟩
theorem rr_pc (n : Nat) : ok_pc (RR n) := by
  intro c mem cdv cdB cdW dtv dtB dtW bfv bfP bfV evv evD evW evV dvL itv srv rqv rqB sqv sqB otv otC otV bsv krv rgs ctv acv acC acV mv mvL m_lastCycle m_lastAddress m_memory m_kept m_copy m_register m_special m_storeWord m_storeValue m_planCycle m_planWhat m_planValue m_high m_pending m_service m_received m_sending m_out  hR
  refine ⟨?_, hR⟩
  exact hR.2.2.2.2.2.2.2.2.2.1.1
theorem rr_planned (n : Nat) : ok_planned (RR n) := by
  intro c mem cdv cdB cdW dtv dtB dtW bfv bfP bfV evv evD evW evV dvL itv srv rqv rqB sqv sqB otv otC otV bsv krv rgs ctv acv acC acV mv mvL m_lastCycle m_lastAddress m_memory m_kept m_copy m_register m_special m_storeWord m_storeValue m_planCycle m_planWhat m_planValue m_high m_pending m_service m_received m_sending m_out  hR
  refine ⟨?_, hR⟩
  exact hR.2.2.2.2.2.2.2.2.2.2.2.2.2.2.1.1
theorem rr_cycles (n : Nat) : ok_cycles (RR n) := by
  intro c mem cdv cdB cdW dtv dtB dtW bfv bfP bfV evv evD evW evV dvL itv srv rqv rqB sqv sqB otv otC otV bsv krv rgs ctv acv acC acV mv mvL m_lastCycle m_lastAddress m_memory m_kept m_copy m_register m_special m_storeWord m_storeValue m_planCycle m_planWhat m_planValue m_high m_pending m_service m_received m_sending m_out  hR
  refine ⟨?_, hR⟩
  exact hR.2.2.1.1
theorem rr_traps (n : Nat) : ok_traps (RR n) := by
  intro c mem cdv cdB cdW dtv dtB dtW bfv bfP bfV evv evD evW evV dvL itv srv rqv rqB sqv sqB otv otC otV bsv krv rgs ctv acv acC acV mv mvL m_lastCycle m_lastAddress m_memory m_kept m_copy m_register m_special m_storeWord m_storeValue m_planCycle m_planWhat m_planValue m_high m_pending m_service m_received m_sending m_out  hR
  refine ⟨?_, hR⟩
  exact hR.2.2.2.2.2.2.2.2.2.1.2.1
theorem rr_stores (n : Nat) : ok_stores (RR n) := by
  intro c mem cdv cdB cdW dtv dtB dtW bfv bfP bfV evv evD evW evV dvL itv srv rqv rqB sqv sqB otv otC otV bsv krv rgs ctv acv acC acV mv mvL m_lastCycle m_lastAddress m_memory m_kept m_copy m_register m_special m_storeWord m_storeValue m_planCycle m_planWhat m_planValue m_high m_pending m_service m_received m_sending m_out  hR
  refine ⟨?_, hR⟩
  exact hR.2.2.2.2.2.2.2.2.2.2.2.2.2.1.1
theorem rr_bus (n : Nat) : ok_bus (RR n) := by
  intro c mem cdv cdB cdW dtv dtB dtW bfv bfP bfV evv evD evW evV dvL itv srv rqv rqB sqv sqB otv otC otV bsv krv rgs ctv acv acC acV mv mvL m_lastCycle m_lastAddress m_memory m_kept m_copy m_register m_special m_storeWord m_storeValue m_planCycle m_planWhat m_planValue m_high m_pending m_service m_received m_sending m_out  hR
  refine ⟨?_, hR⟩
  exact hR.2.2.2.2.2.2.2.2.2.2.2.2.1.2.1
theorem rr_queued (n : Nat) : ok_queued (RR n) := by
  intro c mem cdv cdB cdW dtv dtB dtW bfv bfP bfV evv evD evW evV dvL itv srv rqv rqB sqv sqB otv otC otV bsv krv rgs ctv acv acC acV mv mvL m_lastCycle m_lastAddress m_memory m_kept m_copy m_register m_special m_storeWord m_storeValue m_planCycle m_planWhat m_planValue m_high m_pending m_service m_received m_sending m_out x _ hR
  refine ⟨?_, hR⟩
  obtain ⟨f, k, hf, hk, q1, q2, q3, q4⟩ := hR.2.2.2.2.2.2.2.2.2.2.2.2.2.2.2.2.2.2.1
  obtain ⟨f2, k2, hf2, hk2, s1, s2, s3, s4⟩ := hR.2.2.2.2.2.2.2.2.2.2.2.2.2.2.2.2.2.2.2.1
  unfold p_Chip_queued p_Model_queued
  rw [q2, q3, s2, s3]
/-- in and isWord, isRegister: the same numbers -/
theorem iw_eq (k : Int32) : p_Chip_isWord k = p_Model_in k (0 : Int32) (127 : Int32) := by
  unfold p_Chip_isWord p_Model_in
  by_cases h1 : k < (0 : Int32)
  · rw [if_pos h1, if_pos h1]
  · rw [if_neg h1, if_neg h1]
    obtain ⟨j, hj, rfl⟩ := nI_of h1
    by_cases h2 : (128 : Int32) ≤ nI j
    · rw [if_pos h2, if_pos]
      have := lp_le (k := j) (n := 128) rfl rfl hj (by omega) h2
      exact nI_lt (a := 127) (by omega) hj
    · rw [if_neg h2, if_neg]
      have := lp_nle (k := j) (n := 128) rfl rfl hj (by omega) h2
      exact nI_nlt (a := 127) (by omega) (by omega)
theorem ir_eq (k : Int32) : p_Chip_isRegister k = p_Model_in k (0 : Int32) (31 : Int32) := by
  unfold p_Chip_isRegister p_Model_in
  by_cases h1 : k < (0 : Int32)
  · rw [if_pos h1, if_pos h1]
  · rw [if_neg h1, if_neg h1]
    obtain ⟨j, hj, rfl⟩ := nI_of h1
    by_cases h2 : (32 : Int32) ≤ nI j
    · rw [if_pos h2, if_pos]
      have := lp_le (k := j) (n := 32) rfl rfl hj (by omega) h2
      exact nI_lt (a := 31) (by omega) hj
    · rw [if_neg h2, if_neg]
      have := lp_nle (k := j) (n := 32) rfl rfl hj (by omega) h2
      exact nI_nlt (a := 31) (by omega) (by omega)
theorem rr_peek (n : Nat) : ok_peek (RR n) := by
  intro c mem cdv cdB cdW dtv dtB dtW bfv bfP bfV evv evD evW evV dvL itv srv rqv rqB sqv sqB otv otC otV bsv krv rgs ctv acv acC acV mv mvL m_lastCycle m_lastAddress m_memory m_kept m_copy m_register m_special m_storeWord m_storeValue m_planCycle m_planWhat m_planValue m_high m_pending m_service m_received m_sending m_out x hR
  refine ⟨?_, hR⟩
  unfold p_Chip_peek p_Model_peek p_Chip_peek_1 p_Model_peek_1
  rw [iw_eq]
  by_cases h : p_Model_in x (0 : Int32) (127 : Int32) = (0 : Int32)
  · rw [if_pos h, if_pos h]
  · rw [if_neg h, if_neg h]
    obtain ⟨j, hj, rfl⟩ := in_0 (n := 127) rfl rfl h
    rw [nI_clamp (by omega)]
    exact hR.2.2.2.2.1 j (by omega)
theorem rr_register (n : Nat) : ok_register (RR n) := by
  intro c mem cdv cdB cdW dtv dtB dtW bfv bfP bfV evv evD evW evV dvL itv srv rqv rqB sqv sqB otv otC otV bsv krv rgs ctv acv acC acV mv mvL m_lastCycle m_lastAddress m_memory m_kept m_copy m_register m_special m_storeWord m_storeValue m_planCycle m_planWhat m_planValue m_high m_pending m_service m_received m_sending m_out x hR
  refine ⟨?_, hR⟩
  unfold p_Chip_register p_Model_register p_Chip_register_1 p_Model_register_1
  rw [ir_eq]
  by_cases h : p_Model_in x (0 : Int32) (31 : Int32) = (0 : Int32)
  · rw [if_pos h, if_pos h]
  · rw [if_neg h, if_neg h]
    obtain ⟨j, hj, rfl⟩ := in_0 (n := 31) rfl rfl h
    rw [nI_clamp (by omega)]
    exact hR.2.2.2.2.2.2.2.1.2 j (by omega)
