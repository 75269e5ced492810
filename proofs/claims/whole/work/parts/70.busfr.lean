/-! S4: the bus, the frame -/
def zDV (itv srv rqv rqB sqv sqB : Nat → Int32) (dvL mvL : Nat → Int64) (mv hi pe se rc sd : Nat → Int32) : Prop := rInt itv mv hi pe se ∧ rTime dvL mvL ∧ rSer srv mv ∧ rQ rqv rqB (mv 24) rc ∧ rQ sqv sqB (mv 26) sd
theorem dv_mv {itv srv rqv rqB sqv sqB : Nat → Int32} {dvL mvL : Nat → Int64} {mv mv' hi pe se rc sd : Nat → Int32} (h : zDV itv srv rqv rqB sqv sqB dvL mvL mv hi pe se rc sd) (f : ∀ j, 21 ≤ j → mv' j = mv j) : zDV itv srv rqv rqB sqv sqB dvL mvL mv' hi pe se rc sd := by
  obtain ⟨h1, h2, h3, h4, h5⟩ := h
  refine ⟨?_, h2, ?_, ?_, ?_⟩
  · unfold rInt at h1 ⊢
    rw [f 21 (by omega), f 22 (by omega), f 23 (by omega)]; exact h1
  · unfold rSer at h3 ⊢
    rw [f 25 (by omega), f 27 (by omega), f 28 (by omega), f 29 (by omega), f 30 (by omega), f 31 (by omega)]; exact h3
  · rw [f 24 (by omega)]; exact h4
  · rw [f 26 (by omega)]; exact h5
/-- CB speaks of the first twenty fields alone -/
theorem cb_mv {n c a : Nat} {cdv cdB cdW dtv dtB dtW bfv bfP bfV bsv krv rgs ctv acv acC acV mv lc la kp cp reg sp sw sv : Nat → Int32} (h : CB n c a cdv cdB cdW dtv dtB dtW bfv bfP bfV bsv krv rgs ctv acv acC acV mv lc la kp cp reg sp sw sv) {mv' : Nat → Int32} (f : ∀ j, j < 20 → mv' j = mv j) : CB n c a cdv cdB cdW dtv dtB dtW bfv bfP bfV bsv krv rgs ctv acv acC acV mv' lc la kp cp reg sp sw sv := by
  obtain ⟨h1, h2, h3, h4, h5, h6, h7, h8, h9, h10, h11⟩ := h
  have e0 := f 0 (by omega)
  have e1 := f 1 (by omega)
  have e2 := f 2 (by omega)
  have e3 := f 3 (by omega)
  have e4 := f 4 (by omega)
  have e5 := f 5 (by omega)
  have e7 := f 7 (by omega)
  have e8 := f 8 (by omega)
  have e9 := f 9 (by omega)
  have e10 := f 10 (by omega)
  have e11 := f 11 (by omega)
  have e12 := f 12 (by omega)
  have e13 := f 13 (by omega)
  have e14 := f 14 (by omega)
  have e15 := f 15 (by omega)
  have e16 := f 16 (by omega)
  have e17 := f 17 (by omega)
  have e18 := f 18 (by omega)
  have e19 := f 19 (by omega)
  refine ⟨?_, ?_, ?_, h4, h5, h6, h7, ?_, ?_, ?_, ?_⟩
  · unfold rNum at h1 ⊢; rw [e0, e1]; exact h1
  · unfold rCyc at h2 ⊢; rw [e2]; exact h2
  · unfold rActB at h3 ⊢; rw [e3]; exact h3
  · unfold rCore at h8 ⊢; rw [e4, e5, e8, e15, e16, e17, e18]; exact h8
  · unfold rWait at h9 ⊢; rw [e7]; exact h9
  · unfold rBus at h10 ⊢; rw [e9, e10, e11, e12, e13, e14]; exact h10
  · unfold rBuf at h11 ⊢; rw [e19, e11]; exact h11
theorem rs_mv {krv mv mv' : Nat → Int32} (h : rRest krv mv) (e2 : mv' 2 = mv 2) (e6 : mv' 6 = mv 6) : rRest krv mv' := by
  unfold rRest at h ⊢; rw [e2, e6]; exact h
def zBS (n c a : Nat) (dvL mvL : Nat → Int64) (mem cdv cdB cdW dtv dtB dtW bfv bfP bfV itv srv rqv rqB sqv sqB bsv krv rgs ctv acv acC acV mv lc la mm kp cp reg sp sw sv hi pe se rc sd : Nat → Int32) : Prop := CB n c a cdv cdB cdW dtv dtB dtW bfv bfP bfV bsv krv rgs ctv acv acC acV mv lc la kp cp reg sp sw sv ∧ rMem mem mm ∧ rRest krv mv ∧ zDV itv srv rqv rqB sqv sqB dvL mvL mv hi pe se rc sd
/-- the bus begins -/
theorem bs_begin {n c a : Nat} {dvL mvL : Nat → Int64} {mem cdv cdB cdW dtv dtB dtW bfv bfP bfV itv srv rqv rqB sqv sqB bsv krv rgs ctv acv acC acV mv lc la mm kp cp reg sp sw sv hi pe se rc sd : Nat → Int32} (h : zBS n c a dvL mvL mem cdv cdB cdW dtv dtB dtW bfv bfP bfV itv srv rqv rqB sqv sqB bsv krv rgs ctv acv acC acV mv lc la mm kp cp reg sp sw sv hi pe se rc sd) {k : Int32} (hk : k = mv 2) : zBS n c a dvL mvL mem cdv cdB cdW dtv dtB dtW bfv bfP bfV itv srv rqv rqB sqv sqB (p_Bus_begin bfv bsv k) krv rgs ctv acv acC acV (bG mv) lc la mm kp cp reg sp sw sv hi pe se rc sd := by
  obtain ⟨⟨h1, h2, h3, h4, h5, h6, h7, h8, h9, h10, h11⟩, hM, hR, hD⟩ := h
  obtain ⟨g1, g2, g3, g4⟩ := bg_eq (bfv := bfv) h10 h1.2.2.2.2.2.1 h11.1 hk h11.2.1 h9 h11.2.2.2
  have f : ∀ j, j ≠ 9 → j ≠ 11 → j ≠ 12 → j ≠ 13 → j ≠ 14 → bG mv j = mv j := fun j a b d e i => bg_fr mv j a b d e i
  have e0 : bG mv 0 = mv 0 := f 0 (by decide) (by decide) (by decide) (by decide) (by decide)
  have e1 : bG mv 1 = mv 1 := f 1 (by decide) (by decide) (by decide) (by decide) (by decide)
  have e2 : bG mv 2 = mv 2 := f 2 (by decide) (by decide) (by decide) (by decide) (by decide)
  have e3 : bG mv 3 = mv 3 := f 3 (by decide) (by decide) (by decide) (by decide) (by decide)
  have e4 : bG mv 4 = mv 4 := f 4 (by decide) (by decide) (by decide) (by decide) (by decide)
  have e5 : bG mv 5 = mv 5 := f 5 (by decide) (by decide) (by decide) (by decide) (by decide)
  have e6 : bG mv 6 = mv 6 := f 6 (by decide) (by decide) (by decide) (by decide) (by decide)
  have e8 : bG mv 8 = mv 8 := f 8 (by decide) (by decide) (by decide) (by decide) (by decide)
  have e15 : bG mv 15 = mv 15 := f 15 (by decide) (by decide) (by decide) (by decide) (by decide)
  have e16 : bG mv 16 = mv 16 := f 16 (by decide) (by decide) (by decide) (by decide) (by decide)
  have e17 : bG mv 17 = mv 17 := f 17 (by decide) (by decide) (by decide) (by decide) (by decide)
  have e18 : bG mv 18 = mv 18 := f 18 (by decide) (by decide) (by decide) (by decide) (by decide)
  have e19 : bG mv 19 = mv 19 := f 19 (by decide) (by decide) (by decide) (by decide) (by decide)
  refine ⟨⟨?_, ?_, ?_, h4, h5, h6, h7, ?_, g3, g1, ?_⟩, hM, rs_mv hR e2 e6, dv_mv hD (fun j hj => f j (by omega) (by omega) (by omega) (by omega) (by omega))⟩
  · obtain ⟨n1, n2, n3, n4, n5, n6, n7⟩ := h1
    exact ⟨n1, n2, e1.trans n3, n4, n5, g2.trans e0.symm, by rw [e0]; exact n7⟩
  · unfold rCyc at h2 ⊢; rw [e2]; exact h2
  · unfold rActB at h3 ⊢; rw [e3]; exact h3
  · unfold rCore at h8 ⊢; rw [e4, e5, e8, e15, e16, e17, e18]; exact h8
  · obtain ⟨b1, b2, b3, b4⟩ := h11
    refine ⟨b1.trans e19.symm, by rw [e19]; exact b2, b3, fun z => by rw [e19]; exact g4 z⟩
/-- the bus has finished -/
theorem cb_fin {n c a : Nat} {cdv cdB cdW dtv dtB dtW bfv bfP bfV bsv krv rgs ctv acv acC acV mv lc la kp cp reg sp sw sv : Nat → Int32} (h : CB n c a cdv cdB cdW dtv dtB dtW bfv bfP bfV bsv krv rgs ctv acv acC acV mv lc la kp cp reg sp sw sv) {b : Nat} {cdB' cdW' dtB' dtW' bfv' bfP' bfV' krv' rgs' acv' acC' acV' mv' lc' la' kp' cp' reg' sw' sv' : Nat → Int32} (hA : rActB b acv' acC' acV' mv' lc' la') (hCo : rCode n cdB' cdW' kp' cp') (hDa : rData n dtB' dtW' kp' cp') (hG : rReg rgs' reg') (hK : rCore krv' mv') (hF : rBuf bfv' bfP' bfV' mv' sw' sv') (k1 : krv' 1 = krv 1) (f0 : mv' 0 = mv 0) (f1 : mv' 1 = mv 1) (f2 : mv' 2 = mv 2) (f9 : mv' 9 = mv 9) (f10 : mv' 10 = mv 10) (f14 : mv' 14 = mv 14) (f11 : mv' 11 = 0) (w1 : mv' 7 = 0 ∨ mv' 7 = 1) (w2 : ¬ mv' 7 = 0 ↔ ¬ bsv 1 = 0) (w3 : ¬ mv' 7 = 0 → krv' 3 = 0) : CB n c b cdv cdB' cdW' dtv dtB' dtW' bfv' bfP' bfV' (upd bsv 5 0) krv' rgs' ctv acv' acC' acV' mv' lc' la' kp' cp' reg' sp sw' sv' := by
  obtain ⟨h1, h2, h3, h4, h5, h6, h7, h8, h9, h10, h11⟩ := h
  refine ⟨?_, ?_, hA, hCo, hDa, hG, h7, hK, ⟨w1, ?_, w3⟩, ?_, hF⟩
  · obtain ⟨n1, n2, n3, n4, n5, n6, n7⟩ := h1
    exact ⟨n1, n2, f1.trans n3, n4, n5, n6.trans f0.symm, by rw [f0]; exact n7⟩
  · unfold rCyc at h2 ⊢; rw [f2, k1]; exact h2
  · rw [w2]
    constructor
    · exact fun z => Or.inl z
    · intro z
      rcases z with z | z
      · exact z
      · exact absurd pk_us z.1
  · obtain ⟨u1, u2, u3, u4, u5, u6, u7, u8, u9, u10, u11⟩ := h10
    refine ⟨?_, ?_, ?_, ⟨0, by omega, f11⟩, ?_, ?_, ?_, ?_, ?_, u10, fun _ => Or.inl f11⟩
    · exact u1.trans f9.symm
    · exact (pk_us).trans f11.symm
    · rw [f9]; exact u3
    · rw [f9, f10]; exact u5
    · intro z; rw [f11] at z; rcases z with z | z <;> exact absurd z (by decide)
    · intro z; exact absurd f11 z
    · rw [f14]; exact u8
    · rw [f14]; exact u9
