/-! S6, and the cycle of the chip -/
def zoC (r1 : (Nat → Int32) × (Nat → Int32) × (Nat → Int32) × (Nat → Int32) × (Nat → Int32) × (Nat → Int32) × (Nat → Int32) × (Nat → Int32)) (r2 : (Nat → Int32) × (Nat → Int32) × (Nat → Int32) × (Nat → Int32) × (Nat → Int32)) (F : Int32 × (Nat → Int32) × (Nat → Int32) × (Nat → Int32) × (Nat → Int32) × (Nat → Int32) × (Nat → Int32) × (Nat → Int32) × (Nat → Int32) × (Nat → Int32)) (D : (Nat → Int64) × (Nat → Int32) × (Nat → Int32) × (Nat → Int32) × (Nat → Int32) × (Nat → Int32) × (Nat → Int32) × (Nat → Int32) × (Nat → Int32) × (Nat → Int32) × (Nat → Int32)) (K : (Nat → Int32) × (Nat → Int32) × (Nat → Int32) × (Nat → Int32) × (Nat → Int32) × (Nat → Int32) × (Nat → Int32) × (Nat → Int32) × (Nat → Int32) × (Nat → Int32) × (Nat → Int32) × (Nat → Int32)) : (Nat → Int32) × (Nat → Int32) × (Nat → Int32) × (Nat → Int32) × (Nat → Int32) × (Nat → Int32) × (Nat → Int32) × (Nat → Int32) × (Nat → Int32) × (Nat → Int32) × (Nat → Int32) × (Nat → Int32) × (Nat → Int64) × (Nat → Int32) × (Nat → Int32) × (Nat → Int32) × (Nat → Int32) × (Nat → Int32) × (Nat → Int32) × (Nat → Int32) × (Nat → Int32) × (Nat → Int32) × (Nat → Int32) × (Nat → Int32) × (Nat → Int32) × (Nat → Int32) × (Nat → Int32) × (Nat → Int32) × (Nat → Int32) := ((F.2.1), (K.1), (F.2.2.2.1), (F.2.2.2.2.1), (K.2.1), (K.2.2.1), (K.2.2.2.1), (K.2.2.2.2.1), (r1.1), (r1.2.1), (r1.2.2.1), (r1.2.2.2.1), (vp_updL (D.1) 0 ((D.1) 0 + (1 : Int64))), (D.2.1), (D.2.2.1), (D.2.2.2.1), (r1.2.2.2.2.2.2.2), (D.2.2.2.2.1), (D.2.2.2.2.2.1), (r2.2.2.1), (r2.2.2.2.1), (r2.2.2.2.2), (K.2.2.2.2.2.1), (upd (K.2.2.2.2.2.2.1) 1 ((K.2.2.2.2.2.2.1) 1 + (1 : Int32))), (K.2.2.2.2.2.2.2.1), (K.2.2.2.2.2.2.2.2.1), (K.2.2.2.2.2.2.2.2.2.1), (K.2.2.2.2.2.2.2.2.2.2.1), (K.2.2.2.2.2.2.2.2.2.2.2))
def zoK (cdv dtv ctv krv : Nat → Int32) (F : Int32 × (Nat → Int32) × (Nat → Int32) × (Nat → Int32) × (Nat → Int32) × (Nat → Int32) × (Nat → Int32) × (Nat → Int32) × (Nat → Int32) × (Nat → Int32)) (D : (Nat → Int64) × (Nat → Int32) × (Nat → Int32) × (Nat → Int32) × (Nat → Int32) × (Nat → Int32) × (Nat → Int32) × (Nat → Int32) × (Nat → Int32) × (Nat → Int32) × (Nat → Int32)) : (Nat → Int32) × (Nat → Int32) × (Nat → Int32) × (Nat → Int32) × (Nat → Int32) × (Nat → Int32) × (Nat → Int32) × (Nat → Int32) × (Nat → Int32) × (Nat → Int32) × (Nat → Int32) × (Nat → Int32) := zkD cdv (F.2.2.1) (F.2.2.2.1) dtv (F.2.2.2.2.1) (F.2.2.2.2.2.1) (F.2.2.2.2.2.2.1) (F.2.2.2.2.2.2.2.1) (F.2.2.2.2.2.2.2.2.1) (D.1) (D.2.1) (D.2.2.2.2.2.2.2.1) (D.2.2.2.2.2.2.2.2.1) (D.2.2.2.2.2.2.2.2.2.1) (D.2.2.2.2.2.2.2.2.2.2) (p_Core_comesToInstruction cdv (F.2.2.1) (F.2.2.2.1) (D.1) (D.2.1) (p_Bus_begin (F.2.2.2.2.2.2.1) (F.2.2.2.2.2.2.2.2.2) (krv 1)) (D.2.2.2.2.2.2.1) ctv)
theorem oc_5 (mem : Nat → Int32) (cdv : Nat → Int32) (cdB : Nat → Int32) (cdW : Nat → Int32) (dtv : Nat → Int32) (dtB : Nat → Int32) (dtW : Nat → Int32) (bfv : Nat → Int32) (bfP : Nat → Int32) (bfV : Nat → Int32) (evv : Nat → Int32) (evD : Nat → Int32) (evW : Nat → Int32) (evV : Nat → Int32) (dvL : Nat → Int64) (itv : Nat → Int32) (srv : Nat → Int32) (rqv : Nat → Int32) (rqB : Nat → Int32) (sqv : Nat → Int32) (sqB : Nat → Int32) (otv : Nat → Int32) (otC : Nat → Int32) (otV : Nat → Int32) (bsv : Nat → Int32) (krv : Nat → Int32) (rgs : Nat → Int32) (ctv : Nat → Int32) (acv : Nat → Int32) (acC : Nat → Int32) (acV : Nat → Int32) (r1 : (Nat → Int32) × (Nat → Int32) × (Nat → Int32) × (Nat → Int32) × (Nat → Int32) × (Nat → Int32) × (Nat → Int32) × (Nat → Int32)) (r2 : (Nat → Int32) × (Nat → Int32) × (Nat → Int32) × (Nat → Int32) × (Nat → Int32)) (r3 : Int32) (r4 : Nat → Int32) (F : Int32 × (Nat → Int32) × (Nat → Int32) × (Nat → Int32) × (Nat → Int32) × (Nat → Int32) × (Nat → Int32) × (Nat → Int32) × (Nat → Int32) × (Nat → Int32)) : p_Chip_oneCycle_5 mem cdv cdB cdW dtv dtB dtW bfv bfP bfV evv evD evW evV dvL itv srv rqv rqB sqv sqB otv otC otV bsv krv rgs ctv acv acC acV r1 r2 r3 r4 F = zoC r1 r2 F (if F.1 = 3 then p_Core_finishDevice dvL r4 (r2.1) (r1.2.2.2.2.2.2.1) (r1.2.2.2.2.2.2.2) (r2.2.1) sqB krv rgs acv acC acV else (dvL, r4, r2.1, (r1.2.2.2.2.2.2.1), r2.2.1, sqB, krv, rgs, acv, acC, acV)) (zoK cdv dtv ctv krv F (if F.1 = 3 then p_Core_finishDevice dvL r4 (r2.1) (r1.2.2.2.2.2.2.1) (r1.2.2.2.2.2.2.2) (r2.2.1) sqB krv rgs acv acC acV else (dvL, r4, r2.1, (r1.2.2.2.2.2.2.1), r2.2.1, sqB, krv, rgs, acv, acC, acV))) := by
  unfold p_Chip_oneCycle_5
  by_cases e : F.1 = (3 : Int32)
  · rw [if_pos e, if_pos e]
    unfold p_Chip_oneCycle_9 p_Chip_oneCycle_10 p_Chip_oneCycle_11 p_Chip_oneCycle_12 zoK zkD zoC
    generalize p_Core_finishDevice dvL r4 (r2.1) (r1.2.2.2.2.2.2.1) (r1.2.2.2.2.2.2.2) (r2.2.1) sqB krv rgs acv acC acV = D
    generalize p_Core_comesToInstruction cdv F.2.2.1 F.2.2.2.1 D.1 D.2.1 _ _ ctv = q
    by_cases z : q.1 = (0 : Int32)
    · simp only [if_pos z]
    · simp only [if_neg z]
  · rw [if_neg e, if_neg e]
    unfold p_Chip_oneCycle_6 p_Chip_oneCycle_7 p_Chip_oneCycle_8 zoK zkD zoC
    dsimp only
    generalize p_Core_comesToInstruction cdv F.2.2.1 F.2.2.2.1 dvL r4 _ _ ctv = q
    by_cases z : q.1 = (0 : Int32)
    · simp only [if_pos z]
    · simp only [if_neg z]
/-- S6: the cycle is over -/
theorem fin_S6 {n c : Nat} {mem cdv cdB cdW dtv dtB dtW bfv bfP bfV evv evD evW evV itv srv rqv rqB sqv sqB otv otC otV bsv krv rgs ctv acv acC acV : Nat → Int32} {dvL : Nat → Int64} {mv lc la mm kp cp reg sp sw sv pc pw pv hi pe se rc sd : Nat → Int32} {mvL out : Nat → Int64} (hB : CB n c (2 * c + 2) cdv cdB cdW dtv dtB dtW bfv bfP bfV bsv krv rgs ctv acv acC acV mv lc la kp cp reg sp sw sv) (hR : rRest1 krv mv) (hc : c < 600000) (hM : rMem mem mm) (hD : zDV itv srv rqv rqB sqv sqB dvL mvL mv hi pe se rc sd) (hE : rEv evv evD evW evV mv pc pw pv) (hO : rOutB (c + 1) otv otC otV mv out) : RR n (c + 1) mem cdv cdB cdW dtv dtB dtW bfv bfP bfV evv evD evW evV (vp_updL dvL 0 (dvL 0 + (1 : Int64))) itv srv rqv rqB sqv sqB otv otC otV bsv (upd krv 1 (krv 1 + (1 : Int32))) rgs ctv acv acC acV (upd mv 2 (mv 2 + (1 : Int32))) (vp_updL mvL 0 (mvL 0 + (1 : Int64))) lc la mm kp cp reg sp sw sv pc pw pv hi pe se rc sd out := by
  obtain ⟨h1, h2, h3, h4, h5, h6, h7, h8, h9, h10, h11⟩ := hB
  obtain ⟨d1, d2, d3, d4, d5⟩ := hD
  have f : ∀ j, j ≠ 2 → upd mv 2 (mv 2 + (1 : Int32)) j = mv j := fun j a => pk_un a
  have kf : ∀ j, j ≠ 1 → upd krv 1 (krv 1 + (1 : Int32)) j = krv j := fun j a => pk_un a
  refine ⟨by omega, h1, ?_, ?_, hM, h4, h5, h6, h7, h8, ?_, h9, h10, h11, hE, ?_, d1, d3, d4, d5, hO⟩
  · obtain ⟨a1, t, ht, a2⟩ := h2
    refine ⟨?_, t + 1, by omega, ?_⟩
    · show upd krv 1 (krv 1 + (1 : Int32)) 1 = upd mv 2 (mv 2 + (1 : Int32)) 2
      rw [pk_us, pk_us, a1]
    · show upd mv 2 (mv 2 + (1 : Int32)) 2 = nI (t + 1)
      rw [pk_us, a2, nI_1]
  · obtain ⟨a1, ⟨o, ho, a2⟩, a3⟩ := h3
    exact ⟨a1, ⟨o, by omega, a2⟩, a3⟩
  · obtain ⟨t, q, t1, t2, t3, t4⟩ := hR
    refine ⟨t + 1, q, ?_, t2, t3, ?_⟩
    · show upd mv 2 (mv 2 + (1 : Int32)) 2 = nI (t + 1)
      rw [pk_us, t1, nI_1]
    · rcases t4 with z | z
      · exact Or.inl z
      · exact Or.inr ⟨z.1, z.2.trans (by congr 1; omega)⟩
  · obtain ⟨a1, a2⟩ := d2
    refine ⟨?_, ?_⟩
    · show vp_updL dvL 0 (dvL 0 + (1 : Int64)) 0 = vp_updL mvL 0 (mvL 0 + (1 : Int64)) 0
      rw [pk_uLs, pk_uLs, a1]
    · show vp_updL dvL 0 (dvL 0 + (1 : Int64)) 1 = vp_updL mvL 0 (mvL 0 + (1 : Int64)) 1
      rw [pk_uLn (by decide), pk_uLn (by decide), a2]
