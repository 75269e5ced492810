/-! S4: the bus -/
def zBO (n c a : Nat) (cdv dtv rqB ctv sp hi mv0 : Nat → Int32) (k : Int32) (F : Int32 × (Nat → Int32) × (Nat → Int32) × (Nat → Int32) × (Nat → Int32) × (Nat → Int32) × (Nat → Int32) × (Nat → Int32) × (Nat → Int32) × (Nat → Int32)) (D : (Nat → Int64) × (Nat → Int32) × (Nat → Int32) × (Nat → Int32) × (Nat → Int32) × (Nat → Int32) × (Nat → Int32) × (Nat → Int32) × (Nat → Int32) × (Nat → Int32) × (Nat → Int32)) (P : (Nat → Int32) × (Nat → Int64) × (Nat → Int32) × (Nat → Int32) × (Nat → Int32) × (Nat → Int32) × (Nat → Int32) × (Nat → Int32) × (Nat → Int32) × (Nat → Int32) × (Nat → Int32) × (Nat → Int32) × (Nat → Int32) × (Nat → Int32)) : Prop := zBS n c a (D.1) (P.2.1) (F.2.1) cdv (F.2.2.1) (F.2.2.2.1) dtv (F.2.2.2.2.1) (F.2.2.2.2.2.1) (F.2.2.2.2.2.2.1) (F.2.2.2.2.2.2.2.1) (F.2.2.2.2.2.2.2.2.1) (D.2.1) (D.2.2.1) (D.2.2.2.1) rqB (D.2.2.2.2.1) (D.2.2.2.2.2.1) (p_Bus_begin (F.2.2.2.2.2.2.1) (F.2.2.2.2.2.2.2.2.2) k) (D.2.2.2.2.2.2.1) (D.2.2.2.2.2.2.2.1) ctv (D.2.2.2.2.2.2.2.2.1) (D.2.2.2.2.2.2.2.2.2.1) (D.2.2.2.2.2.2.2.2.2.2) (P.1) (P.2.2.1) (P.2.2.2.1) (P.2.2.2.2.1) (P.2.2.2.2.2.1) (P.2.2.2.2.2.2.1) (P.2.2.2.2.2.2.2.1) sp (P.2.2.2.2.2.2.2.2.1) (P.2.2.2.2.2.2.2.2.2.1) hi (P.2.2.2.2.2.2.2.2.2.2.1) (P.2.2.2.2.2.2.2.2.2.2.2.1) (P.2.2.2.2.2.2.2.2.2.2.2.2.1) (P.2.2.2.2.2.2.2.2.2.2.2.2.2) ∧ ∀ j, (j = 20 ∨ 28 < j) → P.1 j = mv0 j
theorem bs_mono {n c a : Nat} {dvL mvL : Nat → Int64} {mem cdv cdB cdW dtv dtB dtW bfv bfP bfV itv srv rqv rqB sqv sqB bsv krv rgs ctv acv acC acV mv lc la mm kp cp reg sp sw sv hi pe se rc sd : Nat → Int32} (h : zBS n c a dvL mvL mem cdv cdB cdW dtv dtB dtW bfv bfP bfV itv srv rqv rqB sqv sqB bsv krv rgs ctv acv acC acV mv lc la mm kp cp reg sp sw sv hi pe se rc sd) : zBS n c (a + 1) dvL mvL mem cdv cdB cdW dtv dtB dtW bfv bfP bfV itv srv rqv rqB sqv sqB bsv krv rgs ctv acv acC acV mv lc la mm kp cp reg sp sw sv hi pe se rc sd := ⟨cb_mono h.1 (by omega), h.2⟩
theorem bd_n {mv : Nat → Int32} {j : Nat} (hj : j = 20 ∨ 28 < j) : bG mv j = mv j := bg_fr mv j (by omega) (by omega) (by omega) (by omega) (by omega)
theorem bo_mk {n c a : Nat} {dvL mvL : Nat → Int64} {mem cdv cdB cdW dtv dtB dtW bfv bfP bfV itv srv rqv rqB sqv sqB bsv krv rgs ctv acv acC acV mv lc la mm kp cp reg sp sw sv hi pe se rc sd : Nat → Int32} (h : zBS n c a dvL mvL mem cdv cdB cdW dtv dtB dtW bfv bfP bfV itv srv rqv rqB sqv sqB bsv krv rgs ctv acv acC acV mv lc la mm kp cp reg sp sw sv hi pe se rc sd) {k : Int32} (hk : k = mv 2) {mv0 : Nat → Int32} (f : ∀ j, (j = 20 ∨ 28 < j) → mv j = mv0 j) (z : Int32) : zBO n c a cdv dtv rqB ctv sp hi mv0 k (z, mem, cdB, cdW, dtB, dtW, bfv, bfP, bfV, bsv) (dvL, itv, srv, rqv, sqv, sqB, krv, rgs, acv, acC, acV) (bG mv, mvL, lc, la, mm, kp, cp, reg, sw, sv, pe, se, rc, sd) := ⟨bs_begin h hk, fun j hj => (bd_n hj).trans (f j hj)⟩
theorem no_9 {bsv mv : Nat → Int32} (h10 : rBus bsv mv) (c0 : ¬ mv 11 = 0) (z : ¬ mv 11 = 4) : bsv 1 = 0 := by
  rw [h10.1]
  exact Decidable.byContradiction fun y => (h10.2.2.2.2.2.2.2.2.2.2 y).elim c0 z
theorem fin_c {n c a : Nat} {dvL mvL : Nat → Int64} {mem cdv cdB cdW dtv dtB dtW bfv bfP bfV itv srv rqv rqB sqv sqB bsv krv rgs ctv acv acC acV mv lc la mm kp cp reg sp sw sv hi pe se rc sd : Nat → Int32} (h : zBS n c a dvL mvL mem cdv cdB cdW dtv dtB dtW bfv bfP bfV itv srv rqv rqB sqv sqB bsv krv rgs ctv acv acC acV mv lc la mm kp cp reg sp sw sv hi pe se rc sd) (e : mv 11 = 1) {q : Nat} (hq : q < 32) : zBS n c (a + 1) dvL mvL mem cdv (upd cdB (q % n) (nI q)) (va_cpy mem cdW (4 * q) (q % n * 4) 4) dtv dtB dtW bfv bfP bfV itv srv rqv rqB sqv sqB (upd bsv 5 (0 : Int32)) krv rgs ctv acv acC acV (upd (upd mv 11 (0 : Int32)) 7 (0 : Int32)) lc la mm (fk n q 0 0 kp) (fc n q 0 0 mm cp) reg sp sw sv hi pe se rc sd := by
  obtain ⟨hB, hM, hR, hD⟩ := h
  obtain ⟨h1, h2, h3, h4, h5, h6, h7, h8, h9, h10, h11⟩ := id hB
  have c0 : ¬ mv 11 = 0 := by rw [e]; decide
  have c4 : ¬ mv 11 = 4 := by rw [e]; decide
  have g := wd_fill (o := 0) h1.2.2.2.1 h1.2.2.2.2.1 hq hM (B := cdB) (W := cdW) (kept := kp) (copy := cp) (fun p hp => by rw [Nat.zero_add]; exact h4 p hp)
  have g4 : rCode n (upd cdB (q % n) (nI q)) (va_cpy mem cdW (4 * q) (q % n * 4) 4) (fk n q 0 0 kp) (fc n q 0 0 mm cp) := by
    intro p hp
    have := g p hp
    rw [Nat.zero_add] at this
    exact this
  have g5 : rData n dtB dtW (fk n q 0 0 kp) (fc n q 0 0 mm cp) := by
    intro p hp
    have z1 : fk n q 0 0 kp (128 + p) = kp (128 + p) := if_neg (by omega)
    have z2 : fc n q 0 0 mm cp (128 + p) = cp (128 + p) := if_neg (by omega)
    rw [z1, z2]
    exact h5 p hp
  have g11 : rBuf bfv bfP bfV (upd (upd mv 11 (0 : Int32)) 7 (0 : Int32)) sw sv := ⟨h11.1, h11.2.1, h11.2.2.1, fun z => absurd z i04⟩
  refine ⟨cb_fin (mv' := (upd (upd mv 11 (0 : Int32)) 7 (0 : Int32))) hB (ra_mono h3 (by omega)) g4 g5 h6 h8 g11 rfl rfl rfl rfl rfl rfl rfl rfl (Or.inl rfl) ⟨fun z => absurd rfl z, fun z => absurd (no_9 h10 c0 c4) z⟩ (fun z => absurd rfl z), hM, rs_mv hR rfl rfl, dv_mv hD (fun j hj => (pk_un (by omega)).trans (pk_un (by omega)))⟩
theorem fin_d {n c a : Nat} {dvL mvL : Nat → Int64} {mem cdv cdB cdW dtv dtB dtW bfv bfP bfV itv srv rqv rqB sqv sqB bsv krv rgs ctv acv acC acV mv lc la mm kp cp reg sp sw sv hi pe se rc sd : Nat → Int32} (h : zBS n c a dvL mvL mem cdv cdB cdW dtv dtB dtW bfv bfP bfV itv srv rqv rqB sqv sqB bsv krv rgs ctv acv acC acV mv lc la mm kp cp reg sp sw sv hi pe se rc sd) (e : mv 11 = 2) {q : Nat} (hq : q < 32) : zBS n c (a + 1) dvL mvL mem cdv cdB cdW dtv (upd dtB (q % n) (nI q)) (va_cpy mem dtW (4 * q) (q % n * 4) 4) bfv bfP bfV itv srv rqv rqB sqv sqB (upd bsv 5 (0 : Int32)) krv rgs ctv acv acC acV (upd (upd mv 11 (0 : Int32)) 7 (0 : Int32)) lc la mm (fk n q 128 0 kp) (fc n q 128 0 mm cp) reg sp sw sv hi pe se rc sd := by
  obtain ⟨hB, hM, hR, hD⟩ := h
  obtain ⟨h1, h2, h3, h4, h5, h6, h7, h8, h9, h10, h11⟩ := id hB
  have c0 : ¬ mv 11 = 0 := by rw [e]; decide
  have c4 : ¬ mv 11 = 4 := by rw [e]; decide
  have g5 : rData n (upd dtB (q % n) (nI q)) (va_cpy mem dtW (4 * q) (q % n * 4) 4) (fk n q 128 0 kp) (fc n q 128 0 mm cp) := wd_fill (o := 128) h1.2.2.2.1 h1.2.2.2.2.1 hq hM (B := dtB) (W := dtW) (kept := kp) (copy := cp) (fun p hp => h5 p hp)
  have g4 : rCode n cdB cdW (fk n q 128 0 kp) (fc n q 128 0 mm cp) := by
    intro p hp
    have z1 : fk n q 128 0 kp p = kp p := if_neg (by omega)
    have z2 : fc n q 128 0 mm cp p = cp p := if_neg (by omega)
    rw [z1, z2]
    exact h4 p hp
  have g11 : rBuf bfv bfP bfV (upd (upd mv 11 (0 : Int32)) 7 (0 : Int32)) sw sv := ⟨h11.1, h11.2.1, h11.2.2.1, fun z => absurd z i04⟩
  refine ⟨cb_fin (mv' := (upd (upd mv 11 (0 : Int32)) 7 (0 : Int32))) hB (ra_mono h3 (by omega)) g4 g5 h6 h8 g11 rfl rfl rfl rfl rfl rfl rfl rfl (Or.inl rfl) ⟨fun z => absurd rfl z, fun z => absurd (no_9 h10 c0 c4) z⟩ (fun z => absurd rfl z), hM, rs_mv hR rfl rfl, dv_mv hD (fun j hj => (pk_un (by omega)).trans (pk_un (by omega)))⟩
theorem fin_v {n c a : Nat} {dvL mvL : Nat → Int64} {mem cdv cdB cdW dtv dtB dtW bfv bfP bfV itv srv rqv rqB sqv sqB bsv krv rgs ctv acv acC acV mv lc la mm kp cp reg sp sw sv hi pe se rc sd : Nat → Int32} (h : zBS n c a dvL mvL mem cdv cdB cdW dtv dtB dtW bfv bfP bfV itv srv rqv rqB sqv sqB bsv krv rgs ctv acv acC acV mv lc la mm kp cp reg sp sw sv hi pe se rc sd) (ha : a < 2 ^ 30) (e : mv 11 = 3) : zBS n c (a + 1) ((p_Core_finishDevice dvL itv srv rqv rqB sqv sqB krv rgs acv acC acV).1) ((p_Model_device (upd (upd mv 11 (0 : Int32)) 7 (0 : Int32)) mvL lc la reg pe se rc sd).2.1) mem cdv cdB cdW dtv dtB dtW bfv bfP bfV ((p_Core_finishDevice dvL itv srv rqv rqB sqv sqB krv rgs acv acC acV).2.1) ((p_Core_finishDevice dvL itv srv rqv rqB sqv sqB krv rgs acv acC acV).2.2.1) ((p_Core_finishDevice dvL itv srv rqv rqB sqv sqB krv rgs acv acC acV).2.2.2.1) rqB ((p_Core_finishDevice dvL itv srv rqv rqB sqv sqB krv rgs acv acC acV).2.2.2.2.1) ((p_Core_finishDevice dvL itv srv rqv rqB sqv sqB krv rgs acv acC acV).2.2.2.2.2.1) (upd bsv 5 (0 : Int32)) ((p_Core_finishDevice dvL itv srv rqv rqB sqv sqB krv rgs acv acC acV).2.2.2.2.2.2.1) ((p_Core_finishDevice dvL itv srv rqv rqB sqv sqB krv rgs acv acC acV).2.2.2.2.2.2.2.1) ctv ((p_Core_finishDevice dvL itv srv rqv rqB sqv sqB krv rgs acv acC acV).2.2.2.2.2.2.2.2.1) ((p_Core_finishDevice dvL itv srv rqv rqB sqv sqB krv rgs acv acC acV).2.2.2.2.2.2.2.2.2.1) ((p_Core_finishDevice dvL itv srv rqv rqB sqv sqB krv rgs acv acC acV).2.2.2.2.2.2.2.2.2.2) ((p_Model_device (upd (upd mv 11 (0 : Int32)) 7 (0 : Int32)) mvL lc la reg pe se rc sd).1) ((p_Model_device (upd (upd mv 11 (0 : Int32)) 7 (0 : Int32)) mvL lc la reg pe se rc sd).2.2.1) ((p_Model_device (upd (upd mv 11 (0 : Int32)) 7 (0 : Int32)) mvL lc la reg pe se rc sd).2.2.2.1) mm kp cp ((p_Model_device (upd (upd mv 11 (0 : Int32)) 7 (0 : Int32)) mvL lc la reg pe se rc sd).2.2.2.2.1) sp sw sv hi ((p_Model_device (upd (upd mv 11 (0 : Int32)) 7 (0 : Int32)) mvL lc la reg pe se rc sd).2.2.2.2.2.1) ((p_Model_device (upd (upd mv 11 (0 : Int32)) 7 (0 : Int32)) mvL lc la reg pe se rc sd).2.2.2.2.2.2.1) ((p_Model_device (upd (upd mv 11 (0 : Int32)) 7 (0 : Int32)) mvL lc la reg pe se rc sd).2.2.2.2.2.2.2.1) ((p_Model_device (upd (upd mv 11 (0 : Int32)) 7 (0 : Int32)) mvL lc la reg pe se rc sd).2.2.2.2.2.2.2.2) ∧ (∀ j, j ≠ 3 → j ≠ 5 → j ≠ 7 → j ≠ 11 → (j < 21 ∨ 28 < j) → (p_Model_device (upd (upd mv 11 (0 : Int32)) 7 (0 : Int32)) mvL lc la reg pe se rc sd).1 j = mv j) ∧ (p_Model_device (upd (upd mv 11 (0 : Int32)) 7 (0 : Int32)) mvL lc la reg pe se rc sd).1 11 = 0 := by
  obtain ⟨hB, hM, hR, hD⟩ := h
  obtain ⟨h1, h2, h3, h4, h5, h6, h7, h8, h9, h10, h11⟩ := id hB
  have c0 : ¬ mv 11 = 0 := by rw [e]; decide
  have c4 : ¬ mv 11 = 4 := by rw [e]; decide
  have g := dev_eq (mv := (upd (upd mv 11 (0 : Int32)) 7 (0 : Int32))) (reg := reg) (lc := lc) (la := la) (hi := hi) ha hD.1 hD.2.1 hD.2.2.1 hD.2.2.2.1 hD.2.2.2.2 h3 h6 h8.1 h2.1 h8.2.2.2.2.1 h8.2.2.2.2.2.1 h8.2.2.2.2.2.2.1 h8.2.2.2.2.2.2.2.1 h8.2.2.2.2.2.2.2.2
  obtain ⟨g1, g2, g3, g4, g5, g6, g7, g8, g9, g10⟩ := g
  revert g1 g2 g3 g4 g5 g6 g7 g8 g9 g10
  generalize (p_Model_device (upd (upd mv 11 (0 : Int32)) 7 (0 : Int32)) mvL lc la reg pe se rc sd) = E
  generalize (p_Core_finishDevice dvL itv srv rqv rqB sqv sqB krv rgs acv acC acV) = D
  intro g1 g2 g3 g4 g5 g6 g7 g8 g9 g10
  have gf : ∀ j, j ≠ 3 → j ≠ 5 → j ≠ 7 → j ≠ 11 → (j < 21 ∨ 28 < j) → E.1 j = mv j := fun j a b d i w => by
    rw [g10 j a b w, pk_un d, pk_un i]
  have gd7 : E.1 7 = 0 := (g10 7 (by decide) (by decide) (by decide)).trans rfl
  have gd11 : E.1 11 = 0 := (g10 11 (by decide) (by decide) (by decide)).trans rfl
  have kf : ∀ j, j ≠ 0 → D.2.2.2.2.2.2.1 j = krv j := fun j a => by rw [g8, pk_un a]
  have gK : rCore D.2.2.2.2.2.2.1 E.1 := by
    refine rc_up h8 ?_ ?_ ?_ ?_ (fun j a b => kf j (by omega)) (fun j a b => gf j (by omega) (by omega) (by omega) (by omega) (by omega))
    · rw [g8, g9, pk_us, h8.1]; rfl
    · exact (kf 2 (by decide)).trans (h8.2.1.trans (gf 4 (by decide) (by decide) (by decide) (by decide) (by decide)).symm)
    · exact (kf 4 (by decide)).trans (h8.2.2.1.trans (gf 8 (by decide) (by decide) (by decide) (by decide) (by decide)).symm)
    · rw [gf 8 (by decide) (by decide) (by decide) (by decide) (by decide)]; exact h8.2.2.2.1
  have gF : rBuf bfv bfP bfV E.1 sw sv := by
    obtain ⟨u1, u2, u3, u4⟩ := h11
    exact ⟨u1.trans (gf 19 (by decide) (by decide) (by decide) (by decide) (by decide)).symm, by rw [gf 19 (by decide) (by decide) (by decide) (by decide) (by decide)]; exact u2, u3, fun z => absurd (gd11.symm.trans z) (by decide)⟩
  have gR : rRest D.2.2.2.2.2.2.1 E.1 := by
    obtain ⟨t, q, t1, t2, t3, t4⟩ := hR
    exact ⟨t, q, (gf 2 (by decide) (by decide) (by decide) (by decide) (by decide)).trans t1, (kf 3 (by decide)).trans t2, t3, by rw [gf 6 (by decide) (by decide) (by decide) (by decide) (by decide)]; exact t4⟩
  exact ⟨⟨cb_fin hB g6 h4 h5 g7 gK gF (kf 1 (by decide)) (gf 0 (by decide) (by decide) (by decide) (by decide) (by decide)) (gf 1 (by decide) (by decide) (by decide) (by decide) (by decide)) (gf 2 (by decide) (by decide) (by decide) (by decide) (by decide)) (gf 9 (by decide) (by decide) (by decide) (by decide) (by decide)) (gf 10 (by decide) (by decide) (by decide) (by decide) (by decide)) (gf 14 (by decide) (by decide) (by decide) (by decide) (by decide)) gd11 (Or.inl gd7) ⟨fun z => absurd gd7 z, fun z => absurd (no_9 h10 c0 c4) z⟩ (fun z => absurd gd7 z), hM, gR, ⟨g2, g1, g3, g4, g5⟩⟩, gf, gd11⟩
theorem fin_s {n c a : Nat} {dvL mvL : Nat → Int64} {mem cdv cdB cdW dtv dtB dtW bfv bfP bfV itv srv rqv rqB sqv sqB bsv krv rgs ctv acv acC acV mv lc la mm kp cp reg sp sw sv hi pe se rc sd : Nat → Int32} (h : zBS n c a dvL mvL mem cdv cdB cdW dtv dtB dtW bfv bfP bfV itv srv rqv rqB sqv sqB bsv krv rgs ctv acv acC acV mv lc la mm kp cp reg sp sw sv hi pe se rc sd) (e : mv 11 = 4) : zBS n c (a + 1) dvL mvL ((p_StoreBuffer_writeOldest bfv bfP bfV mem).2.2.2) cdv cdB cdW dtv dtB dtW ((p_StoreBuffer_writeOldest bfv bfP bfV mem).1) ((p_StoreBuffer_writeOldest bfv bfP bfV mem).2.1) ((p_StoreBuffer_writeOldest bfv bfP bfV mem).2.2.1) itv srv rqv rqB sqv sqB (upd bsv 5 (0 : Int32)) krv rgs ctv acv acC acV (upd (upd mv 11 (0 : Int32)) 19 (mv 19 - (1 : Int32))) lc la (upd mm (sw 0).toNatClampNeg (sv 0)) kp cp reg sp (upd sw 0 (sw 1)) (upd sv 0 (sv 1)) hi pe se rc sd := by
  obtain ⟨hB, hM, hR, hD⟩ := h
  obtain ⟨h1, h2, h3, h4, h5, h6, h7, h8, h9, h10, h11⟩ := id hB
  have b54 : bsv 5 = 4 := h10.2.1.trans e
  have n19 : ¬ mv 19 = 0 := h11.2.2.2 e
  obtain ⟨k, hk1, s1, s2, s3, s4, s5⟩ := wo_eq h11 hM n19
  have gF : rBuf (p_StoreBuffer_writeOldest bfv bfP bfV mem).1 (p_StoreBuffer_writeOldest bfv bfP bfV mem).2.1 (p_StoreBuffer_writeOldest bfv bfP bfV mem).2.2.1 (upd (upd mv 11 (0 : Int32)) 19 (mv 19 - (1 : Int32))) (upd sw 0 (sw 1)) (upd sv 0 (sv 1)) := ⟨s3.trans s2.symm, ⟨k, by omega, s2⟩, s4, fun z => absurd z i04⟩
  refine ⟨cb_fin (mv' := upd (upd mv 11 (0 : Int32)) 19 (mv 19 - (1 : Int32))) hB (ra_mono h3 (by omega)) h4 h5 h6 h8 gF rfl rfl rfl rfl rfl rfl rfl rfl h9.1 ?_ h9.2.2, s5, rs_mv hR rfl rfl, dv_mv hD (fun j hj => (pk_un (by omega)).trans (pk_un (by omega)))⟩
  rw [show (upd (upd mv 11 (0 : Int32)) 19 (mv 19 - (1 : Int32))) 7 = mv 7 from rfl, h9.2.1]
  exact ⟨fun z => z.elim id (fun y => absurd b54 y.2), fun z => Or.inl z⟩
theorem fl_c {n q : Nat} (mv : Nat → Int32) (mvL : Nat → Int64) (mm kp cp : Nat → Int32) (hn : 0 < n) (hn8 : n ≤ 8) (h1 : mv 1 = nI n) (hq : q < 32) : p_Model_fill (upd (upd mv 11 (0 : Int32)) 7 (0 : Int32)) mvL mm kp cp (1 : Int32) (nI q) = (fk n q 0 0 kp, fc n q 0 0 mm cp) := by
  have z := fi_L (mv := (upd (upd mv 11 (0 : Int32)) 7 (0 : Int32))) (mvL := mvL) (mem := mm) (k0 := kp) (c0 := cp) (kd := 1) (n := n) (q := q) (o := 0) hn hn8 h1 hq (by omega) 129 0 kp cp (by omega) (by omega)
  rw [nI_0] at z
  rw [← z]
  exact if_pos rfl
theorem fl_d {n q : Nat} (mv : Nat → Int32) (mvL : Nat → Int64) (mm kp cp : Nat → Int32) (hn : 0 < n) (hn8 : n ≤ 8) (h1 : mv 1 = nI n) (hq : q < 32) : p_Model_fill (upd (upd mv 11 (0 : Int32)) 7 (0 : Int32)) mvL mm kp cp (2 : Int32) (nI q) = (fk n q 128 0 kp, fc n q 128 0 mm cp) := by
  have z := fi_L (mv := (upd (upd mv 11 (0 : Int32)) 7 (0 : Int32))) (mvL := mvL) (mem := mm) (k0 := kp) (c0 := cp) (kd := 2) (n := n) (q := q) (o := 128) hn hn8 h1 hq (by omega) 129 0 kp cp (by omega) (by omega)
  rw [nI_0, show nI 128 = (128 : Int32) from rfl] at z
  rw [← z]
  exact if_neg (by decide)
/-- S4 -/
theorem bus_S4 {n c a : Nat} {dvL mvL : Nat → Int64} {mem cdv cdB cdW dtv dtB dtW bfv bfP bfV itv srv rqv rqB sqv sqB bsv krv rgs ctv acv acC acV mv lc la mm kp cp reg sp sw sv hi pe se rc sd : Nat → Int32} (h : zBS n c a dvL mvL mem cdv cdB cdW dtv dtB dtW bfv bfP bfV itv srv rqv rqB sqv sqB bsv krv rgs ctv acv acC acV mv lc la mm kp cp reg sp sw sv hi pe se rc sd) (ha : a < 2 ^ 30) : zBO n c (a + 1) cdv dtv rqB ctv sp hi mv (krv 1) (p_Bus_finish mem cdv cdB cdW dtv dtB dtW bfv bfP bfV bsv (krv 1)) (if (p_Bus_finish mem cdv cdB cdW dtv dtB dtW bfv bfP bfV bsv (krv 1)).1 = 3 then p_Core_finishDevice dvL itv srv rqv rqB sqv sqB krv rgs acv acC acV else (dvL, itv, srv, rqv, sqv, sqB, krv, rgs, acv, acC, acV)) (p_Model_busPart mv mvL lc la mm kp cp reg sw sv pe se rc sd) := by
  obtain ⟨h1, h2, h3, h4, h5, h6, h7, h8, h9, h10, h11⟩ := h.1
  have b5 : bsv 5 = mv 11 := h10.2.1
  have w9 : ∃ w : Nat, w ≤ 3 ∧ mv 9 = nI w := h10.2.2.1
  have w11 : ∃ w : Nat, w ≤ 4 ∧ mv 11 = nI w := h10.2.2.2.1
  have hk : krv 1 = mv 2 := h2.1
  by_cases c0 : mv 11 = 0
  · have e5 : p_Bus_finish mem cdv cdB cdW dtv dtB dtW bfv bfP bfV bsv (krv 1) = (0, mem, cdB, cdW, dtB, dtW, bfv, bfP, bfV, bsv) := if_pos (b5.trans c0)
    rw [e5, bp_0 mv mvL lc la mm kp cp reg sw sv pe se rc sd w9 c0, if_neg i03]
    exact bo_mk (bs_mono h) hk (fun _ _ => rfl) 0
  · have n5 : ¬ bsv 5 = 0 := fun z => c0 (b5.symm.trans z)
    have b3 : bsv 3 = mv 13 := h10.2.2.2.2.2.2.1 c0
    by_cases c1 : mv 13 = mv 2
    · have q3 : bsv 3 = krv 1 := by rw [b3, c1, hk]
      rcases w4 w11 with e | e | e | e | e
      · exact absurd e c0
      · have b51 : bsv 5 = 1 := b5.trans e
        obtain ⟨q, hq, eq⟩ := h10.2.2.2.2.2.2.2.2.2.1
        have e12 : mv 12 = nI q := (h10.2.2.2.2.2.1 (Or.inl e)).trans eq
        have e5 : p_Bus_finish mem cdv cdB cdW dtv dtB dtW bfv bfP bfV bsv (krv 1) = (1, mem, upd cdB (q % n) (nI q), va_cpy mem cdW (4 * q) (q % n * 4) 4, dtB, dtW, bfv, bfP, bfV, upd bsv 5 (0 : Int32)) := by
          unfold p_Bus_finish p_Bus_finish_2
          rw [if_neg n5, if_pos q3, if_neg (show ¬ bsv 5 = 4 by rw [b51]; decide), if_pos b51, eq, cf_eq h1.1 h1.2.2.2.1 h1.2.2.2.2.1 hq, b51]
        have em := fl_c mv mvL mm kp cp h1.2.2.2.1 h1.2.2.2.2.1 h1.2.2.1 hq
        rw [e5, bp_f mv mvL lc la mm kp cp reg sw sv pe se rc sd w9 (Or.inl e) c1, e, e12, em, if_neg i13]
        exact bo_mk (fin_c h e hq) hk (fun j hj => (pk_un (by omega)).trans (pk_un (by omega))) 1
      · have b52 : bsv 5 = 2 := b5.trans e
        obtain ⟨q, hq, eq⟩ := h10.2.2.2.2.2.2.2.2.2.1
        have e12 : mv 12 = nI q := (h10.2.2.2.2.2.1 (Or.inr e)).trans eq
        have e5 : p_Bus_finish mem cdv cdB cdW dtv dtB dtW bfv bfP bfV bsv (krv 1) = (2, mem, cdB, cdW, upd dtB (q % n) (nI q), va_cpy mem dtW (4 * q) (q % n * 4) 4, bfv, bfP, bfV, upd bsv 5 (0 : Int32)) := by
          unfold p_Bus_finish p_Bus_finish_1
          rw [if_neg n5, if_pos q3, if_neg (show ¬ bsv 5 = 4 by rw [b52]; decide), if_neg (show ¬ bsv 5 = 1 by rw [b52]; decide), if_pos b52, eq, cf_eq h1.2.1 h1.2.2.2.1 h1.2.2.2.2.1 hq, b52]
        have em := fl_d mv mvL mm kp cp h1.2.2.2.1 h1.2.2.2.2.1 h1.2.2.1 hq
        rw [e5, bp_f mv mvL lc la mm kp cp reg sw sv pe se rc sd w9 (Or.inr e) c1, e, e12, em, if_neg i23]
        exact bo_mk (fin_d h e hq) hk (fun j hj => (pk_un (by omega)).trans (pk_un (by omega))) 2
      · have b53 : bsv 5 = 3 := b5.trans e
        have e5 : p_Bus_finish mem cdv cdB cdW dtv dtB dtW bfv bfP bfV bsv (krv 1) = (3, mem, cdB, cdW, dtB, dtW, bfv, bfP, bfV, upd bsv 5 (0 : Int32)) := by
          unfold p_Bus_finish
          rw [if_neg n5, if_pos q3, if_neg (show ¬ bsv 5 = 4 by rw [b53]; decide), if_neg (show ¬ bsv 5 = 1 by rw [b53]; decide), if_neg (show ¬ bsv 5 = 2 by rw [b53]; decide), b53]
        obtain ⟨g1, gf, gd11⟩ := fin_v h ha e
        rw [e5, bp_d mv mvL lc la mm kp cp reg sw sv pe se rc sd w9 e c1 (gf 9 (by decide) (by decide) (by decide) (by decide) (by decide)) gd11, if_pos rfl]
        exact bo_mk g1 (hk.trans (gf 2 (by decide) (by decide) (by decide) (by decide) (by decide)).symm) (fun j hj => gf j (by omega) (by omega) (by omega) (by omega) (by omega)) 3
      · have b54 : bsv 5 = 4 := b5.trans e
        have e5 : p_Bus_finish mem cdv cdB cdW dtv dtB dtW bfv bfP bfV bsv (krv 1) = (4, (p_StoreBuffer_writeOldest bfv bfP bfV mem).2.2.2, cdB, cdW, dtB, dtW, (p_StoreBuffer_writeOldest bfv bfP bfV mem).1, (p_StoreBuffer_writeOldest bfv bfP bfV mem).2.1, (p_StoreBuffer_writeOldest bfv bfP bfV mem).2.2.1, upd bsv 5 (0 : Int32)) := by
          unfold p_Bus_finish p_Bus_finish_3
          rw [if_neg n5, if_pos q3, if_pos b54, b54]
        rw [e5, bp_s mv mvL lc la mm kp cp reg sw sv pe se rc sd w9 e c1, if_neg i43]
        exact bo_mk (fin_s h e) hk (fun j hj => (pk_un (by omega)).trans (pk_un (by omega))) 4
    · have q3 : ¬ bsv 3 = krv 1 := by rw [b3, hk]; exact c1
      have e5 : p_Bus_finish mem cdv cdB cdW dtv dtB dtW bfv bfP bfV bsv (krv 1) = (0, mem, cdB, cdW, dtB, dtW, bfv, bfP, bfV, bsv) := by
        unfold p_Bus_finish
        rw [if_neg n5, if_neg q3]
      rw [e5, bp_w mv mvL lc la mm kp cp reg sw sv pe se rc sd w9 c0 w11 c1, if_neg i03]
      exact bo_mk (bs_mono h) hk (fun _ _ => rfl) 0
