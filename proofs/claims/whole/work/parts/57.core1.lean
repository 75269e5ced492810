/-! S5: the core -/
def rRest1 (krv mv : Nat → Int32) : Prop := ∃ t q : Nat, mv 2 = nI t ∧ krv 3 = nI q ∧ q ≤ 7 ∧ ((q = 0 ∧ mv 6 < nI (t + 1)) ∨ (0 < q ∧ mv 6 = nI (t + q)))
def CB (n c a : Nat) (cdv cdB cdW dtv dtB dtW bfv bfP bfV bsv krv rgs ctv acv acC acV mv lc la kp cp reg sp sw sv : Nat → Int32) : Prop := rNum n cdv dtv bsv mv ∧ rCyc c krv mv ∧ rActB a acv acC acV mv lc la ∧ rCode n cdB cdW kp cp ∧ rData n dtB dtW kp cp ∧ rReg rgs reg ∧ rCtl ctv sp ∧ rCore krv mv ∧ rWait krv bsv mv ∧ rBus bsv mv ∧ rBuf bfv bfP bfV mv sw sv
def CI (n c a : Nat) (cdv cdB cdW dtv dtB dtW bfv bfP bfV bsv krv rgs ctv acv acC acV mv lc la kp cp reg sp sw sv : Nat → Int32) : Prop := CB n c a cdv cdB cdW dtv dtB dtW bfv bfP bfV bsv krv rgs ctv acv acC acV mv lc la kp cp reg sp sw sv ∧ mv 7 = 0 ∧ krv 3 = 0 ∧ mv 6 < mv 2 ∧ c < 600000 ∧ a < 2 ^ 30
def CP (n c a : Nat) (cdv cdW dtv dtB mv : Nat → Int32) (r : (Nat → Int32) × (Nat → Int32) × (Nat → Int32) × (Nat → Int32) × (Nat → Int32) × (Nat → Int32) × (Nat → Int32) × (Nat → Int32) × (Nat → Int32) × (Nat → Int32) × (Nat → Int32) × (Nat → Int32)) (t : (Nat → Int32) × (Nat → Int32) × (Nat → Int32) × (Nat → Int32) × (Nat → Int32) × (Nat → Int32) × (Nat → Int32) × (Nat → Int32) × (Nat → Int32)) : Prop := CB n c a cdv (r.1) cdW dtv dtB (r.2.1) (r.2.2.1) (r.2.2.2.1) (r.2.2.2.2.1) (r.2.2.2.2.2.1) (r.2.2.2.2.2.2.1) (r.2.2.2.2.2.2.2.1) (r.2.2.2.2.2.2.2.2.1) (r.2.2.2.2.2.2.2.2.2.1) (r.2.2.2.2.2.2.2.2.2.2.1) (r.2.2.2.2.2.2.2.2.2.2.2) (t.1) (t.2.1) (t.2.2.1) (t.2.2.2.1) (t.2.2.2.2.1) (t.2.2.2.2.2.1) (t.2.2.2.2.2.2.1) (t.2.2.2.2.2.2.2.1) (t.2.2.2.2.2.2.2.2) ∧ rRest1 (r.2.2.2.2.2.2.1) (t.1) ∧ ∀ j, 20 ≤ j → t.1 j = mv j
theorem ra_mono {o p : Nat} {acv acC acV mv lc la : Nat → Int32} (h : rActB o acv acC acV mv lc la) (hp : o ≤ p) : rActB p acv acC acV mv lc la := ⟨h.1, by obtain ⟨a, ha, e⟩ := h.2.1; exact ⟨a, by omega, e⟩, h.2.2⟩
theorem cb_mono {n c a : Nat} {cdv cdB cdW dtv dtB dtW bfv bfP bfV bsv krv rgs ctv acv acC acV mv lc la kp cp reg sp sw sv : Nat → Int32} (h : CB n c a cdv cdB cdW dtv dtB dtW bfv bfP bfV bsv krv rgs ctv acv acC acV mv lc la kp cp reg sp sw sv) {b : Nat} (hb : a ≤ b) : CB n c b cdv cdB cdW dtv dtB dtW bfv bfP bfV bsv krv rgs ctv acv acC acV mv lc la kp cp reg sp sw sv := ⟨h.1, h.2.1, ra_mono h.2.2.1 hb, h.2.2.2⟩
/-- the pieces that stay, where the store buffer, the caches and the bus stay -/
theorem cb_g {n c a : Nat} {cdv cdB cdW dtv dtB dtW bfv bfP bfV bsv krv rgs ctv acv acC acV mv lc la kp cp reg sp sw sv : Nat → Int32} (h : CB n c a cdv cdB cdW dtv dtB dtW bfv bfP bfV bsv krv rgs ctv acv acC acV mv lc la kp cp reg sp sw sv) (h7 : mv 7 = 0) {b : Nat} {krv' rgs' ctv' acv' acC' acV' mv' lc' la' reg' sp' : Nat → Int32} (k1 : krv' 1 = krv 1) (hA : rActB b acv' acC' acV' mv' lc' la') (hG : rReg rgs' reg') (hC : rCtl ctv' sp') (hK : rCore krv' mv') (f : ∀ j, j ≠ 3 → j ≠ 4 → j ≠ 5 → j ≠ 6 → j ≠ 8 → (j < 15 ∨ 18 < j) → mv' j = mv j) : CB n c b cdv cdB cdW dtv dtB dtW bfv bfP bfV bsv krv' rgs' ctv' acv' acC' acV' mv' lc' la' kp cp reg' sp' sw sv := by
  obtain ⟨h1, h2, h3, h4, h5, h6, h7', h8, h9, h10, h11⟩ := h
  have g : ∀ j, j ≠ 3 → j ≠ 4 → j ≠ 5 → j ≠ 6 → j ≠ 8 → (j < 15 ∨ 18 < j) → mv' j = mv j := f
  have e0 : mv' 0 = mv 0 := f 0 (by omega) (by omega) (by omega) (by omega) (by omega) (by omega)
  have e1 : mv' 1 = mv 1 := f 1 (by omega) (by omega) (by omega) (by omega) (by omega) (by omega)
  have e2 : mv' 2 = mv 2 := f 2 (by omega) (by omega) (by omega) (by omega) (by omega) (by omega)
  have e7 : mv' 7 = mv 7 := f 7 (by omega) (by omega) (by omega) (by omega) (by omega) (by omega)
  have e9 : mv' 9 = mv 9 := f 9 (by omega) (by omega) (by omega) (by omega) (by omega) (by omega)
  have e10 : mv' 10 = mv 10 := f 10 (by omega) (by omega) (by omega) (by omega) (by omega) (by omega)
  have e11 : mv' 11 = mv 11 := f 11 (by omega) (by omega) (by omega) (by omega) (by omega) (by omega)
  have e12 : mv' 12 = mv 12 := f 12 (by omega) (by omega) (by omega) (by omega) (by omega) (by omega)
  have e13 : mv' 13 = mv 13 := f 13 (by omega) (by omega) (by omega) (by omega) (by omega) (by omega)
  have e14 : mv' 14 = mv 14 := f 14 (by omega) (by omega) (by omega) (by omega) (by omega) (by omega)
  have e19 : mv' 19 = mv 19 := f 19 (by omega) (by omega) (by omega) (by omega) (by omega) (by omega)
  refine ⟨?_, ?_, hA, h4, h5, hG, hC, hK, ?_, ?_, ?_⟩
  · unfold rNum at h1 ⊢; rw [e0, e1]; exact h1
  · unfold rCyc at h2 ⊢; rw [e2, k1]; exact h2
  · unfold rWait at h9 ⊢
    rw [e7]
    exact ⟨h9.1, h9.2.1, fun x => absurd h7 x⟩
  · unfold rBus at h10 ⊢; rw [e9, e10, e11, e12, e13, e14]; exact h10
  · unfold rBuf at h11 ⊢; rw [e19, e11]; exact h11
theorem rc_up {krv mv : Nat → Int32} (h : rCore krv mv) {krv' mv' : Nat → Int32} (k0 : krv' 0 = mv' 5) (k2 : krv' 2 = mv' 4) (k4 : krv' 4 = mv' 8) (m8 : mv' 8 = 0 ∨ mv' 8 = 1) (kk : ∀ j, 5 ≤ j → j ≤ 8 → krv' j = krv j) (mm : ∀ j, 15 ≤ j → j ≤ 18 → mv' j = mv j) : rCore krv' mv' := by
  obtain ⟨c1, c2, c3, c4, c5, c6, c7, c8, c9⟩ := h
  refine ⟨k0, k2, k4, m8, ?_, ?_, ?_, ?_, ?_⟩
  · rw [kk 5 (by omega) (by omega), mm 15 (by omega) (by omega)]; exact c5
  · rw [kk 6 (by omega) (by omega), mm 16 (by omega) (by omega)]; exact c6
  · rw [kk 7 (by omega) (by omega), mm 17 (by omega) (by omega)]; exact c7
  · rw [kk 8 (by omega) (by omega), mm 18 (by omega) (by omega)]; exact c8
  · rw [mm 18 (by omega) (by omega)]; exact c9
/-- nothing happens -/
theorem rest_0 {c : Nat} {krv mv : Nat → Int32} (h2 : rCyc c krv mv) (hc : c < 600000) (k3 : krv 3 = 0) (h6 : mv 6 < mv 2) : rRest1 krv mv := by
  obtain ⟨e1, t, ht, e2⟩ := h2
  refine ⟨t, 0, e2, k3, by omega, Or.inl ⟨rfl, ?_⟩⟩
  rw [e2] at h6
  exact Int32.lt_trans h6 (nI_lt (by omega) (by omega))
theorem o_stay {n c a : Nat} {cdv cdB cdW dtv dtB dtW bfv bfP bfV bsv krv rgs ctv acv acC acV mv lc la kp cp reg sp sw sv : Nat → Int32} (h : CI n c a cdv cdB cdW dtv dtB dtW bfv bfP bfV bsv krv rgs ctv acv acC acV mv lc la kp cp reg sp sw sv) : CP n c (a + 1) cdv cdW dtv dtB mv (cdB, dtW, bfv, bfP, bfV, bsv, krv, rgs, ctv, acv, acC, acV) (mv, lc, la, kp, cp, reg, sp, sw, sv) :=
  ⟨cb_mono h.1 (by omega), rest_0 h.1.2.1 h.2.2.2.2.1 h.2.2.1 h.2.2.2.1, fun _ _ => rfl⟩
/-- an instruction acts -/
theorem o_act {n c a : Nat} {mvL : Nat → Int64} {cdv cdB cdW dtv dtB dtW bfv bfP bfV bsv krv rgs ctv acv acC acV mv lc la kp cp reg sp sw sv : Nat → Int32} (h : CI n c a cdv cdB cdW dtv dtB dtW bfv bfP bfV bsv krv rgs ctv acv acC acV mv lc la kp cp reg sp sw sv) {rgs' reg' ctv' sp' : Nat → Int32} (hG : rReg rgs' reg') (hC : rCtl ctv' sp') (k : Int32) : CP n c (a + 1) cdv cdW dtv dtB mv (cdB, dtW, bfv, bfP, bfV, bsv, upd krv 0 k, rgs', ctv', (p_Core_act krv acv acC acV k).2.1, (p_Core_act krv acv acC acV k).2.2.1, (p_Core_act krv acv acC acV k).2.2.2) ((p_Model_act mv mvL lc la k).1, (p_Model_act mv mvL lc la k).2.1, (p_Model_act mv mvL lc la k).2.2, kp, cp, reg', sp', sw, sv) := by
  obtain ⟨hB, h7, h3, h6, hc, ha⟩ := h
  have hK := hB.2.2.2.2.2.2.2.1
  have f : ∀ j, j ≠ 3 → j ≠ 5 → (p_Model_act mv mvL lc la k).1 j = mv j := fun j a3 a5 => by
    show upd (upd mv 3 (mv 3 + (1 : Int32))) 5 k j = mv j
    rw [pk_un a5, pk_un a3]
  have kf : ∀ j, j ≠ 0 → upd krv 0 k j = krv j := fun j a0 => pk_un a0
  refine ⟨cb_g hB h7 (kf 1 (by decide)) (act_eq (mvL := mvL) k k ha hB.2.2.1 hB.2.1.1 hK.1) hG hC (rc_up hK ?_ ?_ ?_ ?_ (fun j a b => kf j (by omega)) (fun j a b => f j (by omega) (by omega))) (fun j a b d e g i => f j a d), ?_, fun j hj => f j (by omega) (by omega)⟩
  · show upd krv 0 k 0 = upd (upd mv 3 (mv 3 + (1 : Int32))) 5 k 5
    rw [pk_us, pk_us]
  · exact (kf 2 (by decide)).trans (hK.2.1.trans (f 4 (by decide) (by decide)).symm)
  · exact (kf 4 (by decide)).trans (hK.2.2.1.trans (f 8 (by decide) (by decide)).symm)
  · exact hK.2.2.2.1.imp (fun e => (f 8 (by decide) (by decide)).trans e) (fun e => (f 8 (by decide) (by decide)).trans e)
  · refine rest_0 (c := c) ⟨?_, ?_⟩ hc ((kf 3 (by decide)).trans h3) ?_
    · exact (kf 1 (by decide)).trans (hB.2.1.1.trans (f 2 (by decide) (by decide)).symm)
    · obtain ⟨t, ht, e⟩ := hB.2.1.2; exact ⟨t, ht, (f 2 (by decide) (by decide)).trans e⟩
    · show (p_Model_act mv mvL lc la k).1 6 < (p_Model_act mv mvL lc la k).1 2
      rw [f 6 (by decide) (by decide), f 2 (by decide) (by decide)]; exact h6
/-- it acts, and the core rests for q cycles -/
theorem o_actq {n c a : Nat} {mvL : Nat → Int64} {cdv cdB cdW dtv dtB dtW bfv bfP bfV bsv krv rgs ctv acv acC acV mv lc la kp cp reg sp sw sv : Nat → Int32} (h : CI n c a cdv cdB cdW dtv dtB dtW bfv bfP bfV bsv krv rgs ctv acv acC acV mv lc la kp cp reg sp sw sv) {rgs' reg' ctv' sp' : Nat → Int32} (hG : rReg rgs' reg') (hC : rCtl ctv' sp') (k : Int32) (q : Nat) (q0 : 0 < q) (q7 : q ≤ 7) : CP n c (a + 1) cdv cdW dtv dtB mv (cdB, dtW, bfv, bfP, bfV, bsv, upd (upd krv 0 k) 3 (nI q), rgs', ctv', (p_Core_act krv acv acC acV k).2.1, (p_Core_act krv acv acC acV k).2.2.1, (p_Core_act krv acv acC acV k).2.2.2) (upd (p_Model_act mv mvL lc la k).1 6 (mv 2 + nI q), (p_Model_act mv mvL lc la k).2.1, (p_Model_act mv mvL lc la k).2.2, kp, cp, reg', sp', sw, sv) := by
  obtain ⟨hB, h7, h3, h6, hc, ha⟩ := h
  have hK := hB.2.2.2.2.2.2.2.1
  have f : ∀ j, j ≠ 3 → j ≠ 5 → j ≠ 6 → upd (p_Model_act mv mvL lc la k).1 6 (mv 2 + nI q) j = mv j := fun j a3 a5 a6 => by
    show upd (upd (upd mv 3 (mv 3 + (1 : Int32))) 5 k) 6 (mv 2 + nI q) j = mv j
    rw [pk_un a6, pk_un a5, pk_un a3]
  have kf : ∀ j, j ≠ 0 → j ≠ 3 → upd (upd krv 0 k) 3 (nI q) j = krv j := fun j a0 a3 => by rw [pk_un a3, pk_un a0]
  have hA := act_eq (mvL := mvL) k k ha hB.2.2.1 hB.2.1.1 hK.1
  have hA' : rActB (a + 1) (p_Core_act krv acv acC acV k).2.1 (p_Core_act krv acv acC acV k).2.2.1 (p_Core_act krv acv acC acV k).2.2.2 (upd (p_Model_act mv mvL lc la k).1 6 (mv 2 + nI q)) (p_Model_act mv mvL lc la k).2.1 (p_Model_act mv mvL lc la k).2.2 := by
    have e : upd (p_Model_act mv mvL lc la k).1 6 (mv 2 + nI q) 3 = (p_Model_act mv mvL lc la k).1 3 := pk_un (by decide)
    exact ⟨hA.1.trans e.symm, by obtain ⟨b, hb, e2⟩ := hA.2.1; exact ⟨b, hb, e.trans e2⟩, hA.2.2⟩
  refine ⟨cb_g hB h7 (kf 1 (by decide) (by decide)) hA' hG hC (rc_up hK ?_ ?_ ?_ ?_ (fun j a b => kf j (by omega) (by omega)) (fun j a b => f j (by omega) (by omega) (by omega))) (fun j a b d e g i => f j a d e), ?_, fun j hj => f j (by omega) (by omega) (by omega)⟩
  · show upd (upd krv 0 k) 3 (nI q) 0 = upd (upd (upd mv 3 (mv 3 + (1 : Int32))) 5 k) 6 (mv 2 + nI q) 5
    rw [pk_un (by decide), pk_us, pk_un (by decide), pk_us]
  · exact (kf 2 (by decide) (by decide)).trans (hK.2.1.trans (f 4 (by decide) (by decide) (by decide)).symm)
  · exact (kf 4 (by decide) (by decide)).trans (hK.2.2.1.trans (f 8 (by decide) (by decide) (by decide)).symm)
  · exact hK.2.2.2.1.imp (fun e => (f 8 (by decide) (by decide) (by decide)).trans e) (fun e => (f 8 (by decide) (by decide) (by decide)).trans e)
  · obtain ⟨t, ht, e⟩ := hB.2.1.2
    refine ⟨t, q, (f 2 (by decide) (by decide) (by decide)).trans e, show upd (upd krv 0 k) 3 (nI q) 3 = nI q from pk_us, q7, Or.inr ⟨q0, ?_⟩⟩
    show upd (p_Model_act mv mvL lc la k).1 6 (mv 2 + nI q) 6 = nI (t + q)
    rw [pk_us, e, nI_add]
