/-! one cycle -/
theorem cyc_pre {n c : Nat} {mem cdv cdB cdW dtv dtB dtW bfv bfP bfV evv evD evW evV itv srv rqv rqB sqv sqB otv otC otV bsv krv rgs ctv acv acC acV : Nat → Int32} {dvL : Nat → Int64} {mv lc la mm kp cp reg sp sw sv pc pw pv hi pe se rc sd : Nat → Int32} {mvL out : Nat → Int64} (hR : RR n c mem cdv cdB cdW dtv dtB dtW bfv bfP bfV evv evD evW evV dvL itv srv rqv rqB sqv sqB otv otC otV bsv krv rgs ctv acv acC acV mv mvL lc la mm kp cp reg sp sw sv pc pw pv hi pe se rc sd out) (hc : c < 600000) {r1 : (Nat → Int32) × (Nat → Int32) × (Nat → Int32) × (Nat → Int32) × (Nat → Int32) × (Nat → Int32) × (Nat → Int32) × (Nat → Int32)} {r2 : (Nat → Int32) × (Nat → Int32) × (Nat → Int32) × (Nat → Int32) × (Nat → Int32)} {r4 : Nat → Int32} {t1 : (Nat → Int32) × (Nat → Int32) × (Nat → Int32) × (Nat → Int32) × (Nat → Int32) × (Nat → Int32)} {t2 : (Nat → Int32) × (Nat → Int32) × (Nat → Int64)} {t3 : (Nat → Int32) × (Nat → Int32)} (e1 : r1 = p_Events_happen evv evD evW evV dvL itv srv rqv rqB (krv 1)) (e2 : r2 = p_Serial_advanceSender r1.2.2.2.2.2.1 sqv sqB otv otC otV (krv 1)) (e4 : r4 = p_Interrupts_gather r1.2.2.2.2.1 (p_Serial_isLineHigh r2.1 r1.2.2.2.2.2.2.1 r1.2.2.2.2.2.2.2 r2.2.1 sqB)) (g1 : t1 = p_Model_events mv mvL pc pw pv hi rc) (g2 : t2 = p_Model_sender t1.1 mvL sd out) (g3 : t3 = p_Model_raiseLines t2.1 mvL t1.2.2.2.2.1 pe se) : evP mv pe se r1 t1 ∧ sdP (c + 1) t1.1 sqB r2 t2 ∧ zBO n c (2 * c + 1) cdv dtv r1.2.2.2.2.2.2.2 ctv sp t3.1 t2.1 (krv 1) (p_Bus_finish mem cdv cdB cdW dtv dtB dtW bfv bfP bfV bsv (krv 1)) (if (p_Bus_finish mem cdv cdB cdW dtv dtB dtW bfv bfP bfV bsv (krv 1)).1 = 3 then p_Core_finishDevice dvL r4 (r2.1) (r1.2.2.2.2.2.2.1) (r1.2.2.2.2.2.2.2) (r2.2.1) sqB krv rgs acv acC acV else (dvL, r4, r2.1, (r1.2.2.2.2.2.2.1), r2.2.1, sqB, krv, rgs, acv, acC, acV)) (p_Model_busPart t2.1 mvL lc la mm kp cp reg sw sv t3.2 se t1.2.2.2.2.2 t2.2.1) := by
  obtain ⟨hc6, h1, h2, h3, h4, h5, h6, h7, h8, h9, h10, h11, h12, h13, h14, h15, h16, h17, h18, h19, h20⟩ := hR
  have E := ev_S1 (dvL := dvL) (mvL := mvL) h2.1 h14 h16 h17 h18
  rw [← e1, ← g1] at E
  obtain ⟨E1, E2, E3, E4, E5⟩ := id E
  have q2 : t1.1 2 = mv 2 := E5 2 (by decide) (by decide) (by decide)
  have q26 : t1.1 26 = mv 26 := E5 26 (by decide) (by decide) (by decide)
  have q32 : t1.1 32 = mv 32 := E5 32 (by decide) (by decide) (by decide)
  have hQ : rQ sqv sqB (t1.1 26) sd := by rw [q26]; exact h19
  have hO : rOutB c otv otC otV t1.1 out := by unfold rOutB; rw [q32]; exact h20
  have S := se_S2 (mvL := mvL) (o := c) (by omega) (h2.1.trans q2.symm) E3 hQ hO
  rw [← e2, ← g2] at S
  obtain ⟨S1, S2, S3, S4⟩ := id S
  have z24 : t2.1 24 = t1.1 24 := S4 24 (by decide) (by decide) (by decide) (by decide) (by decide)
  have z21 : t2.1 21 = t1.1 21 := S4 21 (by decide) (by decide) (by decide) (by decide) (by decide)
  have z22 : t2.1 22 = t1.1 22 := S4 22 (by decide) (by decide) (by decide) (by decide) (by decide)
  have z23 : t2.1 23 = t1.1 23 := S4 23 (by decide) (by decide) (by decide) (by decide) (by decide)
  have I2 : rInt r1.2.2.2.2.1 t2.1 t1.2.2.2.2.1 pe se := by unfold rInt at E2 ⊢; rw [z21, z22, z23]; exact E2
  have Q2 : rQ r1.2.2.2.2.2.2.1 r1.2.2.2.2.2.2.2 (t2.1 24) t1.2.2.2.2.2 := by rw [z24]; exact E4
  have L := ra_S3 (mvL := mvL) I2 S1 Q2 S2
  rw [← e4, ← g3] at L
  have fr : ∀ j, j < 20 → t2.1 j = mv j := fun j hj => (S4 j (by omega) (by omega) (by omega) (by omega) (by omega)).trans (E5 j (by omega) (by omega) (by omega))
  have hB0 : CB n c (2 * c) cdv cdB cdW dtv dtB dtW bfv bfP bfV bsv krv rgs ctv acv acC acV mv lc la kp cp reg sp sw sv := ⟨h1, h2, h3, h5, h6, h7, h8, h9, h11, h12, h13⟩
  have hB := cb_mv hB0 fr
  have hBS : zBS n c (2 * c) dvL mvL mem cdv cdB cdW dtv dtB dtW bfv bfP bfV r4 (r2.1) (r1.2.2.2.2.2.2.1) (r1.2.2.2.2.2.2.2) (r2.2.1) sqB bsv krv rgs ctv acv acC acV (t2.1) lc la mm kp cp reg sp sw sv (t3.1) (t3.2) se (t1.2.2.2.2.2) (t2.2.1) := ⟨hB, h4, rs_mv h10 (fr 2 (by omega)) (fr 6 (by omega)), ⟨L, h15, S1, Q2, S2⟩⟩
  exact ⟨E, S, bus_S4 hBS (by omega)⟩
theorem cyc_wf {n c : Nat} {mem cdv cdB cdW dtv dtB dtW bfv bfP bfV evv evD evW evV itv srv rqv rqB sqv sqB otv otC otV bsv krv rgs ctv acv acC acV : Nat → Int32} {dvL : Nat → Int64} {mv lc la mm kp cp reg sp sw sv pc pw pv hi pe se rc sd : Nat → Int32} {mvL out : Nat → Int64} (hR : RR n c mem cdv cdB cdW dtv dtB dtW bfv bfP bfV evv evD evW evV dvL itv srv rqv rqB sqv sqB otv otC otV bsv krv rgs ctv acv acC acV mv mvL lc la mm kp cp reg sp sw sv pc pw pv hi pe se rc sd out) (hc : c < 600000) : wf_model n mv mvL lc la mm kp cp reg sp sw sv pc pw pv hi pe se rc sd out := by
  obtain ⟨hc6, h1, h2, h3, h4, h5, h6, h7, h8, h9, h10, h11, h12, h13, h14, h15, h16, h17, h18, h19, h20⟩ := id hR
  refine ⟨⟨h14.2.1, fun i hi => ?_, ?_⟩, fun t1 g1 => ?_⟩
  · obtain ⟨w, hw, -, ew⟩ := (h14.2.2 i hi).2.2.2
    rw [ew]; exact vp_in_nI hw (by omega)
  · obtain ⟨f, k, hf, hk, q1, q2, q3, q4⟩ := h18; exact ⟨k, hk, q3⟩
  have E := ev_S1 (dvL := dvL) (mvL := mvL) h2.1 h14 h16 h17 h18
  rw [← g1] at E
  obtain ⟨E1, E2, E3, E4, E5⟩ := E
  have q26 : t1.1 26 = mv 26 := E5 26 (by decide) (by decide) (by decide)
  have q32 : t1.1 32 = mv 32 := E5 32 (by decide) (by decide) (by decide)
  refine ⟨⟨?_, ?_⟩, fun t2 g2 => ⟨trivial, fun t3 g3 => ?_⟩⟩
  · rw [q32]; obtain ⟨o, ho, e⟩ := h20.2.1; exact ⟨o, by omega, e⟩
  · rw [q26]; obtain ⟨f, k, hf, hk, p1, p2, p3, p4⟩ := h19; exact ⟨k, hk, p3⟩
  obtain ⟨A, B, C⟩ := cyc_pre hR hc rfl rfl rfl g1 g2 g3
  have fr : ∀ j, j < 20 → t2.1 j = mv j := fun j hj => (B.2.2.2 j (by omega) (by omega) (by omega) (by omega) (by omega)).trans (E5 j (by omega) (by omega) (by omega))
  refine ⟨⟨(fr 1 (by omega)).trans h1.2.2.1, h1.2.2.2.1, h1.2.2.2.2.1, (h13.2.2.1 0 (by omega)).2.2, by rw [fr 18 (by omega)]; exact h9.2.2.2.2.2.2.2.2, ?_, ?_, ?_⟩, fun t4 g4 => ⟨?_, ?_⟩⟩
  · rw [fr 3 (by omega)]; obtain ⟨o, ho, e⟩ := h3.2.1; exact ⟨o, by omega, e⟩
  · rw [B.2.2.2 24 (by decide) (by decide) (by decide) (by decide) (by decide)]
    obtain ⟨f, k, hf, hk, p1, p2, p3, p4⟩ := A.2.2.2.1; exact ⟨k, hk, p3⟩
  · obtain ⟨f, k, hf, hk, p1, p2, p3, p4⟩ := B.2.1; exact ⟨k, hk, p3⟩
  · rw [g4]; exact C.1.1.2.2.2.2.2.2.2.2.2.2.2.1
  · rw [g4]; obtain ⟨o, ho, e⟩ := C.1.1.2.2.1.2.1; exact ⟨o, by omega, e⟩
theorem cyc_k {n c : Nat} {cdv dtv : Nat → Int32} {r1 : (Nat → Int32) × (Nat → Int32) × (Nat → Int32) × (Nat → Int32) × (Nat → Int32) × (Nat → Int32) × (Nat → Int32) × (Nat → Int32)} {r2 : (Nat → Int32) × (Nat → Int32) × (Nat → Int32) × (Nat → Int32) × (Nat → Int32)} {F : Int32 × (Nat → Int32) × (Nat → Int32) × (Nat → Int32) × (Nat → Int32) × (Nat → Int32) × (Nat → Int32) × (Nat → Int32) × (Nat → Int32) × (Nat → Int32)} {D : (Nat → Int64) × (Nat → Int32) × (Nat → Int32) × (Nat → Int32) × (Nat → Int32) × (Nat → Int32) × (Nat → Int32) × (Nat → Int32) × (Nat → Int32) × (Nat → Int32) × (Nat → Int32)} {K : (Nat → Int32) × (Nat → Int32) × (Nat → Int32) × (Nat → Int32) × (Nat → Int32) × (Nat → Int32) × (Nat → Int32) × (Nat → Int32) × (Nat → Int32) × (Nat → Int32) × (Nat → Int32) × (Nat → Int32)} {P : (Nat → Int32) × (Nat → Int64) × (Nat → Int32) × (Nat → Int32) × (Nat → Int32) × (Nat → Int32) × (Nat → Int32) × (Nat → Int32) × (Nat → Int32) × (Nat → Int32) × (Nat → Int32) × (Nat → Int32) × (Nat → Int32) × (Nat → Int32)} {t5 : (Nat → Int32) × (Nat → Int32) × (Nat → Int32) × (Nat → Int32) × (Nat → Int32) × (Nat → Int32) × (Nat → Int32) × (Nat → Int32) × (Nat → Int32)} {t1 : (Nat → Int32) × (Nat → Int32) × (Nat → Int32) × (Nat → Int32) × (Nat → Int32) × (Nat → Int32)} {t2 : (Nat → Int32) × (Nat → Int32) × (Nat → Int64)} {t3 : (Nat → Int32) × (Nat → Int32)} (hc : c < 600000) (k : CP n c (2 * c + 1 + 1) cdv (F.2.2.2.1) dtv (F.2.2.2.2.1) P.1 K t5) (b2 : rMem (F.2.1) (P.2.2.2.2.1)) (b4 : zDV (D.2.1) (D.2.2.1) (D.2.2.2.1) (r1.2.2.2.2.2.2.2) (D.2.2.2.2.1) (D.2.2.2.2.2.1) (D.1) (P.2.1) P.1 t3.1 (P.2.2.2.2.2.2.2.2.2.2.1) (P.2.2.2.2.2.2.2.2.2.2.2.1) (P.2.2.2.2.2.2.2.2.2.2.2.2.1) (P.2.2.2.2.2.2.2.2.2.2.2.2.2)) (A : rEv (r1.1) (r1.2.1) (r1.2.2.1) (r1.2.2.2.1) t1.1 t1.2.1 t1.2.2.1 t1.2.2.2.1) (B : rOutB (c + 1) (r2.2.2.1) (r2.2.2.2.1) (r2.2.2.2.2) t2.1 t2.2.2) (e20 : P.1 20 = t1.1 20) (e32 : P.1 32 = t2.1 32) : RR n (c + 1) (F.2.1) cdv (K.1) (F.2.2.2.1) dtv (F.2.2.2.2.1) (K.2.1) (K.2.2.1) (K.2.2.2.1) (K.2.2.2.2.1) (r1.1) (r1.2.1) (r1.2.2.1) (r1.2.2.2.1) (vp_updL (D.1) 0 ((D.1) 0 + (1 : Int64))) (D.2.1) (D.2.2.1) (D.2.2.2.1) (r1.2.2.2.2.2.2.2) (D.2.2.2.2.1) (D.2.2.2.2.2.1) (r2.2.2.1) (r2.2.2.2.1) (r2.2.2.2.2) (K.2.2.2.2.2.1) (upd (K.2.2.2.2.2.2.1) 1 ((K.2.2.2.2.2.2.1) 1 + (1 : Int32))) (K.2.2.2.2.2.2.2.1) (K.2.2.2.2.2.2.2.2.1) (K.2.2.2.2.2.2.2.2.2.1) (K.2.2.2.2.2.2.2.2.2.2.1) (K.2.2.2.2.2.2.2.2.2.2.2) (upd t5.1 2 (t5.1 2 + (1 : Int32))) (vp_updL (P.2.1) 0 ((P.2.1) 0 + (1 : Int64))) (t5.2.1) (t5.2.2.1) (P.2.2.2.2.1) (t5.2.2.2.1) (t5.2.2.2.2.1) (t5.2.2.2.2.2.1) (t5.2.2.2.2.2.2.1) (t5.2.2.2.2.2.2.2.1) (t5.2.2.2.2.2.2.2.2) (t1.2.1) (t1.2.2.1) (t1.2.2.2.1) (t3.1) (P.2.2.2.2.2.2.2.2.2.2.1) (P.2.2.2.2.2.2.2.2.2.2.2.1) (P.2.2.2.2.2.2.2.2.2.2.2.2.1) (P.2.2.2.2.2.2.2.2.2.2.2.2.2) (t2.2.2) := by
  obtain ⟨k1, k2, k3⟩ := k
  refine fin_S6 k1 k2 hc b2 (dv_mv b4 (fun j hj => k3 j (by omega))) ?_ ?_
  · have e20 : t5.1 20 = t1.1 20 := (k3 20 (by omega)).trans e20
    unfold rEv at A ⊢
    rw [e20]; exact A
  · have e32 : t5.1 32 = t2.1 32 := (k3 32 (by omega)).trans e32
    unfold rOutB at B ⊢
    rw [e32]; exact B
theorem cyc_step {n c : Nat} {mem cdv cdB cdW dtv dtB dtW bfv bfP bfV evv evD evW evV itv srv rqv rqB sqv sqB otv otC otV bsv krv rgs ctv acv acC acV : Nat → Int32} {dvL : Nat → Int64} {mv lc la mm kp cp reg sp sw sv pc pw pv hi pe se rc sd : Nat → Int32} {mvL out : Nat → Int64} (hR : RR n c mem cdv cdB cdW dtv dtB dtW bfv bfP bfV evv evD evW evV dvL itv srv rqv rqB sqv sqB otv otC otV bsv krv rgs ctv acv acC acV mv mvL lc la mm kp cp reg sp sw sv pc pw pv hi pe se rc sd out) (hc : c < 600000) {r1 : (Nat → Int32) × (Nat → Int32) × (Nat → Int32) × (Nat → Int32) × (Nat → Int32) × (Nat → Int32) × (Nat → Int32) × (Nat → Int32)} {r2 : (Nat → Int32) × (Nat → Int32) × (Nat → Int32) × (Nat → Int32) × (Nat → Int32)} {r4 : Nat → Int32} {t1 : (Nat → Int32) × (Nat → Int32) × (Nat → Int32) × (Nat → Int32) × (Nat → Int32) × (Nat → Int32)} {t2 : (Nat → Int32) × (Nat → Int32) × (Nat → Int64)} {t3 : (Nat → Int32) × (Nat → Int32)} (e1 : r1 = p_Events_happen evv evD evW evV dvL itv srv rqv rqB (krv 1)) (e2 : r2 = p_Serial_advanceSender r1.2.2.2.2.2.1 sqv sqB otv otC otV (krv 1)) (e4 : r4 = p_Interrupts_gather r1.2.2.2.2.1 (p_Serial_isLineHigh r2.1 r1.2.2.2.2.2.2.1 r1.2.2.2.2.2.2.2 r2.2.1 sqB)) (g1 : t1 = p_Model_events mv mvL pc pw pv hi rc) (g2 : t2 = p_Model_sender t1.1 mvL sd out) (g3 : t3 = p_Model_raiseLines t2.1 mvL t1.2.2.2.2.1 pe se) {F : Int32 × (Nat → Int32) × (Nat → Int32) × (Nat → Int32) × (Nat → Int32) × (Nat → Int32) × (Nat → Int32) × (Nat → Int32) × (Nat → Int32) × (Nat → Int32)} {D : (Nat → Int64) × (Nat → Int32) × (Nat → Int32) × (Nat → Int32) × (Nat → Int32) × (Nat → Int32) × (Nat → Int32) × (Nat → Int32) × (Nat → Int32) × (Nat → Int32) × (Nat → Int32)} {P : (Nat → Int32) × (Nat → Int64) × (Nat → Int32) × (Nat → Int32) × (Nat → Int32) × (Nat → Int32) × (Nat → Int32) × (Nat → Int32) × (Nat → Int32) × (Nat → Int32) × (Nat → Int32) × (Nat → Int32) × (Nat → Int32) × (Nat → Int32)} {t5 : (Nat → Int32) × (Nat → Int32) × (Nat → Int32) × (Nat → Int32) × (Nat → Int32) × (Nat → Int32) × (Nat → Int32) × (Nat → Int32) × (Nat → Int32)} (eF : F = p_Bus_finish mem cdv cdB cdW dtv dtB dtW bfv bfP bfV bsv (krv 1)) (eD : D = if F.1 = 3 then p_Core_finishDevice dvL r4 (r2.1) (r1.2.2.2.2.2.2.1) (r1.2.2.2.2.2.2.2) (r2.2.1) sqB krv rgs acv acC acV else (dvL, r4, r2.1, (r1.2.2.2.2.2.2.1), r2.2.1, sqB, krv, rgs, acv, acC, acV)) (g4 : P = p_Model_busPart t2.1 mvL lc la mm kp cp reg sw sv t3.2 se t1.2.2.2.2.2 t2.2.1) (g5 : t5 = p_Model_core (P.1) (P.2.1) (P.2.2.1) (P.2.2.2.1) (P.2.2.2.2.2.1) (P.2.2.2.2.2.2.1) (P.2.2.2.2.2.2.2.1) sp (P.2.2.2.2.2.2.2.2.1) (P.2.2.2.2.2.2.2.2.2.1) (P.2.2.2.2.2.2.2.2.2.2.1)) {O : (Nat → Int32) × (Nat → Int32) × (Nat → Int32) × (Nat → Int32) × (Nat → Int32) × (Nat → Int32) × (Nat → Int32) × (Nat → Int32) × (Nat → Int32) × (Nat → Int32) × (Nat → Int32) × (Nat → Int32) × (Nat → Int64) × (Nat → Int32) × (Nat → Int32) × (Nat → Int32) × (Nat → Int32) × (Nat → Int32) × (Nat → Int32) × (Nat → Int32) × (Nat → Int32) × (Nat → Int32) × (Nat → Int32) × (Nat → Int32) × (Nat → Int32) × (Nat → Int32) × (Nat → Int32) × (Nat → Int32) × (Nat → Int32)} (eO : O = zoC r1 r2 F D (zoK cdv dtv ctv krv F D)) : RR n (c + 1) (O.1) cdv (O.2.1) (O.2.2.1) dtv (O.2.2.2.1) (O.2.2.2.2.1) (O.2.2.2.2.2.1) (O.2.2.2.2.2.2.1) (O.2.2.2.2.2.2.2.1) (O.2.2.2.2.2.2.2.2.1) (O.2.2.2.2.2.2.2.2.2.1) (O.2.2.2.2.2.2.2.2.2.2.1) (O.2.2.2.2.2.2.2.2.2.2.2.1) (O.2.2.2.2.2.2.2.2.2.2.2.2.1) (O.2.2.2.2.2.2.2.2.2.2.2.2.2.1) (O.2.2.2.2.2.2.2.2.2.2.2.2.2.2.1) (O.2.2.2.2.2.2.2.2.2.2.2.2.2.2.2.1) (O.2.2.2.2.2.2.2.2.2.2.2.2.2.2.2.2.1) (O.2.2.2.2.2.2.2.2.2.2.2.2.2.2.2.2.2.1) (O.2.2.2.2.2.2.2.2.2.2.2.2.2.2.2.2.2.2.1) (O.2.2.2.2.2.2.2.2.2.2.2.2.2.2.2.2.2.2.2.1) (O.2.2.2.2.2.2.2.2.2.2.2.2.2.2.2.2.2.2.2.2.1) (O.2.2.2.2.2.2.2.2.2.2.2.2.2.2.2.2.2.2.2.2.2.1) (O.2.2.2.2.2.2.2.2.2.2.2.2.2.2.2.2.2.2.2.2.2.2.1) (O.2.2.2.2.2.2.2.2.2.2.2.2.2.2.2.2.2.2.2.2.2.2.2.1) (O.2.2.2.2.2.2.2.2.2.2.2.2.2.2.2.2.2.2.2.2.2.2.2.2.1) (O.2.2.2.2.2.2.2.2.2.2.2.2.2.2.2.2.2.2.2.2.2.2.2.2.2.1) (O.2.2.2.2.2.2.2.2.2.2.2.2.2.2.2.2.2.2.2.2.2.2.2.2.2.2.1) (O.2.2.2.2.2.2.2.2.2.2.2.2.2.2.2.2.2.2.2.2.2.2.2.2.2.2.2.1) (O.2.2.2.2.2.2.2.2.2.2.2.2.2.2.2.2.2.2.2.2.2.2.2.2.2.2.2.2) (upd t5.1 2 (t5.1 2 + (1 : Int32))) (vp_updL (P.2.1) 0 ((P.2.1) 0 + (1 : Int64))) (t5.2.1) (t5.2.2.1) (P.2.2.2.2.1) (t5.2.2.2.1) (t5.2.2.2.2.1) (t5.2.2.2.2.2.1) (t5.2.2.2.2.2.2.1) (t5.2.2.2.2.2.2.2.1) (t5.2.2.2.2.2.2.2.2) (t1.2.1) (t1.2.2.1) (t1.2.2.2.1) (t3.1) (P.2.2.2.2.2.2.2.2.2.2.1) (P.2.2.2.2.2.2.2.2.2.2.2.1) (P.2.2.2.2.2.2.2.2.2.2.2.2.1) (P.2.2.2.2.2.2.2.2.2.2.2.2.2) (t2.2.2) := by
  obtain ⟨A, B, C⟩ := cyc_pre hR hc e1 e2 e4 g1 g2 g3
  rw [← eF, ← g4] at C
  rw [← eD] at C
  obtain ⟨⟨b1, b2, b3, b4⟩, fr⟩ := C
  have K := core_S5 (pe := (P.2.2.2.2.2.2.2.2.2.2.1)) (se := (P.2.2.2.2.2.2.2.2.2.2.2.1)) b1 b3 hc (by omega) b4.1 b4.2.1
  rw [← g5] at K
  subst eO
  have K' : CP n c (2 * c + 1 + 1) cdv (F.2.2.2.1) dtv (F.2.2.2.2.1) P.1 (zoK cdv dtv ctv krv F D) t5 := K
  clear K
  revert K'
  generalize zoK cdv dtv ctv krv F D = K
  intro K'
  exact cyc_k hc K' b2 b4 A.1 B.2.2.1 ((fr 20 (by omega)).trans (B.2.2.2 20 (by decide) (by decide) (by decide) (by decide) (by decide))) (fr 32 (by omega))
theorem oc_eq (mem : Nat → Int32) (cdv : Nat → Int32) (cdB : Nat → Int32) (cdW : Nat → Int32) (dtv : Nat → Int32) (dtB : Nat → Int32) (dtW : Nat → Int32) (bfv : Nat → Int32) (bfP : Nat → Int32) (bfV : Nat → Int32) (evv : Nat → Int32) (evD : Nat → Int32) (evW : Nat → Int32) (evV : Nat → Int32) (dvL : Nat → Int64) (itv : Nat → Int32) (srv : Nat → Int32) (rqv : Nat → Int32) (rqB : Nat → Int32) (sqv : Nat → Int32) (sqB : Nat → Int32) (otv : Nat → Int32) (otC : Nat → Int32) (otV : Nat → Int32) (bsv : Nat → Int32) (krv : Nat → Int32) (rgs : Nat → Int32) (ctv : Nat → Int32) (acv : Nat → Int32) (acC : Nat → Int32) (acV : Nat → Int32) {r1 : (Nat → Int32) × (Nat → Int32) × (Nat → Int32) × (Nat → Int32) × (Nat → Int32) × (Nat → Int32) × (Nat → Int32) × (Nat → Int32)} {r2 : (Nat → Int32) × (Nat → Int32) × (Nat → Int32) × (Nat → Int32) × (Nat → Int32)} {r3 : Int32} {r4 : Nat → Int32} {F : Int32 × (Nat → Int32) × (Nat → Int32) × (Nat → Int32) × (Nat → Int32) × (Nat → Int32) × (Nat → Int32) × (Nat → Int32) × (Nat → Int32) × (Nat → Int32)} (e1 : r1 = p_Events_happen evv evD evW evV dvL itv srv rqv rqB (krv 1)) (e2 : r2 = p_Serial_advanceSender r1.2.2.2.2.2.1 sqv sqB otv otC otV (krv 1)) (e3 : r3 = p_Serial_isLineHigh r2.1 r1.2.2.2.2.2.2.1 r1.2.2.2.2.2.2.2 r2.2.1 sqB) (e4 : r4 = p_Interrupts_gather r1.2.2.2.2.1 r3) (eF : F = p_Bus_finish mem cdv cdB cdW dtv dtB dtW bfv bfP bfV bsv (krv 1)) : p_Chip_oneCycle mem cdv cdB cdW dtv dtB dtW bfv bfP bfV evv evD evW evV dvL itv srv rqv rqB sqv sqB otv otC otV bsv krv rgs ctv acv acC acV = p_Chip_oneCycle_5 mem cdv cdB cdW dtv dtB dtW bfv bfP bfV evv evD evW evV dvL itv srv rqv rqB sqv sqB otv otC otV bsv krv rgs ctv acv acC acV r1 r2 r3 r4 F := by
  unfold p_Chip_oneCycle
  rw [← e1]
  unfold p_Chip_oneCycle_1
  rw [← e2]
  unfold p_Chip_oneCycle_2
  rw [← e3]
  unfold p_Chip_oneCycle_3
  rw [← e4]
  unfold p_Chip_oneCycle_4
  rw [← eF]
theorem rr_cyc : ∀ n : Nat, ok_cyc n (RR n) := by
  intro n c mem cdv cdB cdW dtv dtB dtW bfv bfP bfV evv evD evW evV dvL itv srv rqv rqB sqv sqB otv otC otV bsv krv rgs ctv acv acC acV mv mvL lc la mm kp cp reg sp sw sv pc pw pv hi pe se rc sd out hc hR
  refine ⟨cyc_wf hR hc, fun t1 t2 t3 P t5 g1 g2 g3 g4 g5 => ?_⟩
  obtain ⟨r1, e1⟩ : ∃ r1, r1 = p_Events_happen evv evD evW evV dvL itv srv rqv rqB (krv 1) := ⟨_, rfl⟩
  obtain ⟨r2, e2⟩ : ∃ r2, r2 = p_Serial_advanceSender r1.2.2.2.2.2.1 sqv sqB otv otC otV (krv 1) := ⟨_, rfl⟩
  obtain ⟨r3, e3⟩ : ∃ r3, r3 = p_Serial_isLineHigh r2.1 r1.2.2.2.2.2.2.1 r1.2.2.2.2.2.2.2 r2.2.1 sqB := ⟨_, rfl⟩
  obtain ⟨r4, e4⟩ : ∃ r4, r4 = p_Interrupts_gather r1.2.2.2.2.1 r3 := ⟨_, rfl⟩
  obtain ⟨F, eF⟩ : ∃ F, F = p_Bus_finish mem cdv cdB cdW dtv dtB dtW bfv bfP bfV bsv (krv 1) := ⟨_, rfl⟩
  obtain ⟨O, eO⟩ : ∃ O, O = p_Chip_oneCycle mem cdv cdB cdW dtv dtB dtW bfv bfP bfV evv evD evW evV dvL itv srv rqv rqB sqv sqB otv otC otV bsv krv rgs ctv acv acC acV := ⟨_, rfl⟩
  have e := eO.trans ((oc_eq mem cdv cdB cdW dtv dtB dtW bfv bfP bfV evv evD evW evV dvL itv srv rqv rqB sqv sqB otv otC otV bsv krv rgs ctv acv acC acV e1 e2 e3 e4 eF).trans (oc_5 mem cdv cdB cdW dtv dtB dtW bfv bfP bfV evv evD evW evV dvL itv srv rqv rqB sqv sqB otv otC otV bsv krv rgs ctv acv acC acV r1 r2 r3 r4 F))
  rw [← eO]
  exact cyc_step hR hc e1 e2 (e4.trans (by rw [e3])) g1 g2 g3 eF rfl g4 g5 e
