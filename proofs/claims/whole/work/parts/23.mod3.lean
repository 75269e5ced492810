-- CycleChipModel.happen(II)V
def p_Model_happen (mv : Nat → Int32) (mvL : Nat → Int64) (m_high : Nat → Int32) (m_received : Nat → Int32) (k : Int32) (x : Int32) : (Nat → Int32) × (Nat → Int32) × (Nat → Int32) := if k ≤ (0 : Int32) then if (mv 24) = (8 : Int32) then ((upd mv 25 (1 : Int32)), m_high, m_received) else ((upd mv 24 ((mv 24) + (1 : Int32))), m_high, (upd m_received ((mv 24).toNatClampNeg) (x &&& (255 : Int32)))) else if x = (0 : Int32) then (mv, (upd m_high k.toNatClampNeg (0 : Int32)), m_received) else (mv, (upd m_high k.toNatClampNeg (1 : Int32)), m_received)
set_option maxRecDepth 100000 in
set_option maxHeartbeats 4000000 in
theorem m_Model_happen (l : Launch) (dC : Nat → ClassId) (dI : Nat → Nat → Nat) (tys : List (ClassId × FieldType)) (md : Nat → Nat) (mc : Nat → ClassId) (n : Nat) (hmys : ∀ k, k < 18 → tys[17 + k]? = some (mc k, mty k)) (mv : Nat → Int32) (mvL : Nat → Int64) (m_high : Nat → Int32) (m_received : Nat → Int32) (k : Int32) (x : Int32) (hw : vp_in k 8) (hrc : ∃ k : Nat, k ≤ 8 ∧ mv 24 = nI k) : cv_Mv l y_Model_happen (Cond.code y_Model_happen c_Model_happen 3 (none) :: gw) { frames := 0, cells := 0, slots := 0, locals := 0 } (dC, dI) vwCl tys [.ref (md 0), .int k, .int x] [k_Model (md 0) (md 1) (md 2) (md 3) (md 4) (md 5) (md 6) (md 7) (md 8) (md 9) (md 10) (md 11) (md 12) (md 13) (md 14) (md 15) (md 16) (md 17) (md 18) mv mvL, k_arr (md 13) (mc 12) 8 m_high, k_arr (md 16) (mc 15) 8 m_received] (p_Model_happen mv mvL m_high m_received k x) (fun r => [k_Model (md 0) (md 1) (md 2) (md 3) (md 4) (md 5) (md 6) (md 7) (md 8) (md 9) (md 10) (md 11) (md 12) (md 13) (md 14) (md 15) (md 16) (md 17) (md 18) r.1 mvL, k_arr (md 13) (mc 12) 8 r.2.1, k_arr (md 16) (mc 15) 8 r.2.2]) := by
  refine cv_startv (by decide) (Nat.le_of_ble_eq_true rfl) [(0, .ref (md 0)), (1, .int k), (2, .int x)] rfl ?_
  intro p e s m below meth c A K hm
  refine cv_iload_n K 1 d_Model_happen_0 rfl rfl ?_
  refine cv_if_le K d_Model_happen_1 22 rfl (fun h1 => ?_) (fun h1 => ?_)
  · refine cv_aload_n K 0 d_Model_happen_22 rfl rfl ?_
    refine cv_get K d_Model_happen_23 0 42 rfl rfl in_Model (by decide) tm_875 rfl ?_
    refine cv_bipush (v := 8) K d_Model_happen_26 (by decide +kernel) ?_
    refine cv_icmp_ne K d_Model_happen_28 39 rfl (fun h2 => ?_) (fun h2 => ?_)
    · refine cv_aload_n K 0 d_Model_happen_39 rfl rfl ?_
      refine cv_get K d_Model_happen_40 0 41 rfl rfl in_Model (by decide) tm_874 rfl ?_
      refine cv_aload_n K 0 d_Model_happen_43 rfl rfl ?_
      refine cv_get K d_Model_happen_44 0 42 rfl rfl in_Model (by decide) tm_875 rfl ?_
      refine cv_iload_n K 2 d_Model_happen_47 rfl rfl ?_
      refine cv_sipush (v := 255) K d_Model_happen_48 (by decide +kernel) ?_
      refine cv_iand K d_Model_happen_51 ?_
      refine cv_iast K d_Model_happen_52 [k_Model (md 0) (md 1) (md 2) (md 3) (md 4) (md 5) (md 6) (md 7) (md 8) (md 9) (md 10) (md 11) (md 12) (md 13) (md 14) (md 15) (md 16) (md 17) (md 18) mv mvL, k_arr (md 13) (mc 12) 8 m_high, k_arr (md 16) (mc 15) 8 (upd m_received ((mv 24).toNatClampNeg) (x &&& (255 : Int32)))] 2 32 rfl (hmys 15 (by decide)) (mi_8 hrc h2) rfl ?_
      refine cv_aload_n K 0 d_Model_happen_53 rfl rfl ?_
      refine cv_dup K d_Model_happen_54 rfl ?_
      refine cv_get K d_Model_happen_55 0 42 rfl rfl in_Model (by decide) tm_875 rfl ?_
      refine cv_iconst (v := 1) K d_Model_happen_58 rfl ?_
      refine cv_iadd K d_Model_happen_59 ?_
      refine cv_put K d_Model_happen_60 [k_Model (md 0) (md 1) (md 2) (md 3) (md 4) (md 5) (md 6) (md 7) (md 8) (md 9) (md 10) (md 11) (md 12) (md 13) (md 14) (md 15) (md 16) (md 17) (md 18) (upd mv 24 ((mv 24) + (1 : Int32))) mvL, k_arr (md 13) (mc 12) 8 m_high, k_arr (md 16) (mc 15) 8 (upd m_received ((mv 24).toNatClampNeg) (x &&& (255 : Int32)))] 0 42 rfl rfl in_Model t_Model o_Model n_Model (by decide) tm_875 rfl rfl rfl (Nat.le_of_ble_eq_true rfl) rfl ?_
      exact cv_retv K hm d_Model_happen_63 (((upd mv 24 ((mv 24) + (1 : Int32))), m_high, (upd m_received ((mv 24).toNatClampNeg) (x &&& (255 : Int32))))) (by rw [p_Model_happen, if_pos (c := k ≤ (0 : Int32)) h1, if_neg (c := (mv 24) = (8 : Int32)) h2]) rfl
    · refine cv_aload_n K 0 d_Model_happen_31 rfl rfl ?_
      refine cv_iconst (v := 1) K d_Model_happen_32 rfl ?_
      refine cv_put K d_Model_happen_33 [k_Model (md 0) (md 1) (md 2) (md 3) (md 4) (md 5) (md 6) (md 7) (md 8) (md 9) (md 10) (md 11) (md 12) (md 13) (md 14) (md 15) (md 16) (md 17) (md 18) (upd mv 25 (1 : Int32)) mvL, k_arr (md 13) (mc 12) 8 m_high, k_arr (md 16) (mc 15) 8 m_received] 0 43 rfl rfl in_Model t_Model o_Model n_Model (by decide) tm_876 rfl rfl rfl (Nat.le_of_ble_eq_true rfl) rfl ?_
      refine cv_goto K d_Model_happen_36 63 rfl ?_
      exact cv_retv K hm d_Model_happen_63 (((upd mv 25 (1 : Int32)), m_high, m_received)) (by rw [p_Model_happen, if_pos (c := k ≤ (0 : Int32)) h1, if_pos (c := (mv 24) = (8 : Int32)) h2]) rfl
  · refine cv_aload_n K 0 d_Model_happen_4 rfl rfl ?_
    refine cv_get K d_Model_happen_5 0 38 rfl rfl in_Model (by decide) tm_871 rfl ?_
    refine cv_iload_n K 1 d_Model_happen_8 rfl rfl ?_
    refine cv_iload_n K 2 d_Model_happen_9 rfl rfl ?_
    refine cv_if_eq K d_Model_happen_10 17 rfl (fun h3 => ?_) (fun h3 => ?_)
    · refine cv_iconst (v := 0) K d_Model_happen_17 rfl ?_
      refine cv_zast K d_Model_happen_18 [k_Model (md 0) (md 1) (md 2) (md 3) (md 4) (md 5) (md 6) (md 7) (md 8) (md 9) (md 10) (md 11) (md 12) (md 13) (md 14) (md 15) (md 16) (md 17) (md 18) mv mvL, k_arr (md 13) (mc 12) 8 (upd m_high k.toNatClampNeg (0 : Int32)), k_arr (md 16) (mc 15) 8 m_received] 1 29 rfl (hmys 12 (by decide)) hw rfl rfl ?_
      refine cv_goto K d_Model_happen_19 63 rfl ?_
      exact cv_retv K hm d_Model_happen_63 ((mv, (upd m_high k.toNatClampNeg (0 : Int32)), m_received)) (by rw [p_Model_happen, if_neg (c := k ≤ (0 : Int32)) h1, if_pos (c := x = (0 : Int32)) h3]) rfl
    · refine cv_iconst (v := 1) K d_Model_happen_13 rfl ?_
      refine cv_goto K d_Model_happen_14 18 rfl ?_
      refine cv_zast K d_Model_happen_18 [k_Model (md 0) (md 1) (md 2) (md 3) (md 4) (md 5) (md 6) (md 7) (md 8) (md 9) (md 10) (md 11) (md 12) (md 13) (md 14) (md 15) (md 16) (md 17) (md 18) mv mvL, k_arr (md 13) (mc 12) 8 (upd m_high k.toNatClampNeg (1 : Int32)), k_arr (md 16) (mc 15) 8 m_received] 1 29 rfl (hmys 12 (by decide)) hw rfl rfl ?_
      refine cv_goto K d_Model_happen_19 63 rfl ?_
      exact cv_retv K hm d_Model_happen_63 ((mv, (upd m_high k.toNatClampNeg (1 : Int32)), m_received)) (by rw [p_Model_happen, if_neg (c := k ≤ (0 : Int32)) h1, if_neg (c := x = (0 : Int32)) h3]) rfl
theorem hap_20 {mv : Nat → Int32} {mvL : Nat → Int64} {m_high : Nat → Int32} {m_received : Nat → Int32} {k x : Int32} : (p_Model_happen mv mvL m_high m_received k x).1 20 = mv 20 := by
  unfold p_Model_happen
  repeat (first | rfl | split)
theorem hap_24 {mv : Nat → Int32} {mvL : Nat → Int64} {m_high : Nat → Int32} {m_received : Nat → Int32} {k x : Int32} (h : ∃ k : Nat, k ≤ 8 ∧ mv 24 = nI k) : ∃ j : Nat, j ≤ 8 ∧ (p_Model_happen mv mvL m_high m_received k x).1 24 = nI j := by
  obtain ⟨c, hc, hm⟩ := h
  by_cases h8 : mv 24 = (8 : Int32)
  · refine ⟨c, hc, ?_⟩
    rw [← hm]
    unfold p_Model_happen
    repeat (first | rfl | (rw [if_pos h8]; rfl) | split)
  · have hc8 : c ≠ 8 := fun e => h8 (by rw [hm, e]; rfl)
    by_cases h0 : k ≤ (0 : Int32)
    · refine ⟨c + 1, by omega, ?_⟩
      unfold p_Model_happen
      rw [if_pos h0, if_neg h8]
      show mv 24 + (1 : Int32) = nI (c + 1)
      rw [hm]; exact nI_1 c
    · refine ⟨c, hc, ?_⟩
      rw [← hm]
      unfold p_Model_happen
      rw [if_neg h0]
      repeat (first | rfl | split)
-- CycleChipModel.events()V
def p_Model_events_1 (mv : Nat → Int32) (mvL : Nat → Int64) (m_planCycle : Nat → Int32) (m_planWhat : Nat → Int32) (m_planValue : Nat → Int32) (m_high : Nat → Int32) (m_received : Nat → Int32) (j_ : Int32) (i_ : Int32) (mv_ : Nat → Int32) (m_planCycle_ : Nat → Int32) (m_planWhat_ : Nat → Int32) (m_planValue_ : Nat → Int32) (m_high_ : Nat → Int32) (m_received_ : Nat → Int32) (go : (Int32) → (Int32) → (Nat → Int32) → (Nat → Int32) → (Nat → Int32) → (Nat → Int32) → (Nat → Int32) → (Nat → Int32) → (Nat → Int32) × (Nat → Int32) × (Nat → Int32) × (Nat → Int32) × (Nat → Int32) × (Nat → Int32)) (r1 : (Nat → Int32) × (Nat → Int32) × (Nat → Int32)) : (Nat → Int32) × (Nat → Int32) × (Nat → Int32) × (Nat → Int32) × (Nat → Int32) × (Nat → Int32) := go j_ (i_ + (1 : Int32)) r1.1 m_planCycle_ m_planWhat_ m_planValue_ r1.2.1 r1.2.2
def p_Model_events_L (mv : Nat → Int32) (mvL : Nat → Int64) (m_planCycle : Nat → Int32) (m_planWhat : Nat → Int32) (m_planValue : Nat → Int32) (m_high : Nat → Int32) (m_received : Nat → Int32) : Nat → (Int32) → (Int32) → (Nat → Int32) → (Nat → Int32) → (Nat → Int32) → (Nat → Int32) → (Nat → Int32) → (Nat → Int32) → (Nat → Int32) × (Nat → Int32) × (Nat → Int32) × (Nat → Int32) × (Nat → Int32) × (Nat → Int32)
  | 0, j_, i_, mv_, m_planCycle_, m_planWhat_, m_planValue_, m_high_, m_received_ => (mv_, m_planCycle_, m_planWhat_, m_planValue_, m_high_, m_received_)
  | fu + 1, j_, i_, mv_, m_planCycle_, m_planWhat_, m_planValue_, m_high_, m_received_ => if (mv_ 20) ≤ i_ then ((upd mv_ 20 j_), m_planCycle_, m_planWhat_, m_planValue_, m_high_, m_received_) else if (m_planCycle_ i_.toNatClampNeg) = (mv_ 2) then p_Model_events_1 mv mvL m_planCycle m_planWhat m_planValue m_high m_received j_ i_ mv_ m_planCycle_ m_planWhat_ m_planValue_ m_high_ m_received_ (fun j_ i_ mv_ m_planCycle_ m_planWhat_ m_planValue_ m_high_ m_received_ => p_Model_events_L mv mvL m_planCycle m_planWhat m_planValue m_high m_received fu j_ i_ mv_ m_planCycle_ m_planWhat_ m_planValue_ m_high_ m_received_) (p_Model_happen mv_ mvL m_high_ m_received_ (m_planWhat_ i_.toNatClampNeg) (m_planValue_ i_.toNatClampNeg)) else (fun j_ i_ mv_ m_planCycle_ m_planWhat_ m_planValue_ m_high_ m_received_ => p_Model_events_L mv mvL m_planCycle m_planWhat m_planValue m_high m_received fu j_ i_ mv_ m_planCycle_ m_planWhat_ m_planValue_ m_high_ m_received_) (j_ + (1 : Int32)) (i_ + (1 : Int32)) mv_ (upd m_planCycle_ j_.toNatClampNeg (m_planCycle_ i_.toNatClampNeg)) (upd m_planWhat_ j_.toNatClampNeg (m_planWhat_ i_.toNatClampNeg)) (upd m_planValue_ j_.toNatClampNeg (m_planValue_ i_.toNatClampNeg)) m_high_ m_received_
def p_Model_events (mv : Nat → Int32) (mvL : Nat → Int64) (m_planCycle : Nat → Int32) (m_planWhat : Nat → Int32) (m_planValue : Nat → Int32) (m_high : Nat → Int32) (m_received : Nat → Int32) : (Nat → Int32) × (Nat → Int32) × (Nat → Int32) × (Nat → Int32) × (Nat → Int32) × (Nat → Int32) := p_Model_events_L mv mvL m_planCycle m_planWhat m_planValue m_high m_received 17 (0 : Int32) (0 : Int32) mv m_planCycle m_planWhat m_planValue m_high m_received
set_option maxRecDepth 100000 in
set_option maxHeartbeats 4000000 in
theorem m_Model_events (l : Launch) (dC : Nat → ClassId) (dI : Nat → Nat → Nat) (tys : List (ClassId × FieldType)) (md : Nat → Nat) (mc : Nat → ClassId) (n : Nat) (hmys : ∀ k, k < 18 → tys[17 + k]? = some (mc k, mty k)) (mv : Nat → Int32) (mvL : Nat → Int64) (m_planCycle : Nat → Int32) (m_planWhat : Nat → Int32) (m_planValue : Nat → Int32) (m_high : Nat → Int32) (m_received : Nat → Int32) (hpl : ∃ k : Nat, k ≤ 16 ∧ mv 20 = nI k) (hpw : ∀ i : Nat, i < 16 → vp_in (m_planWhat i) 8) (hrc : ∃ k : Nat, k ≤ 8 ∧ mv 24 = nI k) : cv_Mv l y_Model_events (Cond.code y_Model_events c_Model_events 3 (none) :: gw) { frames := 1, cells := 0, slots := 0, locals := 22 } (dC, dI) vwCl tys [.ref (md 0)] [k_Model (md 0) (md 1) (md 2) (md 3) (md 4) (md 5) (md 6) (md 7) (md 8) (md 9) (md 10) (md 11) (md 12) (md 13) (md 14) (md 15) (md 16) (md 17) (md 18) mv mvL, k_arr (md 10) (mc 9) 16 m_planCycle, k_arr (md 11) (mc 10) 16 m_planWhat, k_arr (md 12) (mc 11) 16 m_planValue, k_arr (md 13) (mc 12) 8 m_high, k_arr (md 16) (mc 15) 8 m_received] (p_Model_events mv mvL m_planCycle m_planWhat m_planValue m_high m_received) (fun r => [k_Model (md 0) (md 1) (md 2) (md 3) (md 4) (md 5) (md 6) (md 7) (md 8) (md 9) (md 10) (md 11) (md 12) (md 13) (md 14) (md 15) (md 16) (md 17) (md 18) r.1 mvL, k_arr (md 10) (mc 9) 16 r.2.1, k_arr (md 11) (mc 10) 16 r.2.2.1, k_arr (md 12) (mc 11) 16 r.2.2.2.1, k_arr (md 13) (mc 12) 8 r.2.2.2.2.1, k_arr (md 16) (mc 15) 8 r.2.2.2.2.2]) := by
  refine cv_startv (by decide) (Nat.le_of_ble_eq_true rfl) [(0, .ref (md 0))] rfl ?_
  intro p e s m below meth c A K hm
  refine cv_iconst (v := 0) K d_Model_events_0 rfl ?_
  refine cv_istore_n K d_Model_events_1 [(1, .int (0 : Int32)), (0, .ref (md 0))] rfl (by decide) rfl ?_
  refine cv_iconst (v := 0) K d_Model_events_2 rfl ?_
  refine cv_istore_n K d_Model_events_3 [(2, .int (0 : Int32)), (1, .int (0 : Int32)), (0, .ref (md 0))] rfl (by decide) rfl ?_
  have loop : ∀ (fu : Nat) (j_ : Int32) (i_ : Int32) (mv_ : Nat → Int32) (m_planCycle_ : Nat → Int32) (m_planWhat_ : Nat → Int32) (m_planValue_ : Nat → Int32) (m_high_ : Nat → Int32) (m_received_ : Nat → Int32) (i : Nat) (j : Nat) (cnt : Nat) (hi : i_ = nI i) (hj : j_ = nI j) (hcnt : mv 20 = nI cnt) (hp20 : mv_ 20 = mv 20) (hr24 : ∃ k : Nat, k ≤ 8 ∧ mv_ 24 = nI k) (hww : ∀ i : Nat, i < 16 → vp_in (m_planWhat_ i) 8) (hmm : i + fu = 17 ∧ i ≤ cnt ∧ j ≤ i ∧ cnt ≤ 16), (p_Model_events mv mvL m_planCycle m_planWhat m_planValue m_high m_received) = p_Model_events_L mv mvL m_planCycle m_planWhat m_planValue m_high m_received fu j_ i_ mv_ m_planCycle_ m_planWhat_ m_planValue_ m_high_ m_received_ → cv_V p l e { frames := 1, cells := 0, slots := 0, locals := 22 } s m ([.ref (md 0)] : List Value).toArray below meth c 0 0 (MQ below (cv_Qv (dC, dI) vwCl tys A (p_Model_events mv mvL m_planCycle m_planWhat m_planValue m_high m_received) (fun r => [k_Model (md 0) (md 1) (md 2) (md 3) (md 4) (md 5) (md 6) (md 7) (md 8) (md 9) (md 10) (md 11) (md 12) (md 13) (md 14) (md 15) (md 16) (md 17) (md 18) r.1 mvL, k_arr (md 10) (mc 9) 16 r.2.1, k_arr (md 11) (mc 10) 16 r.2.2.1, k_arr (md 12) (mc 11) 16 r.2.2.2.1, k_arr (md 13) (mc 12) 8 r.2.2.2.2.1, k_arr (md 16) (mc 15) 8 r.2.2.2.2.2])) ([.ref (md 0)] : List Value).toArray s 0 0 A) 3 (dC, dI) vwCl A 4 [(0, .ref (md 0)), (1, .int j_), (2, .int i_)] [] [k_Model (md 0) (md 1) (md 2) (md 3) (md 4) (md 5) (md 6) (md 7) (md 8) (md 9) (md 10) (md 11) (md 12) (md 13) (md 14) (md 15) (md 16) (md 17) (md 18) mv_ mvL, k_arr (md 10) (mc 9) 16 m_planCycle_, k_arr (md 11) (mc 10) 16 m_planWhat_, k_arr (md 12) (mc 11) 16 m_planValue_, k_arr (md 13) (mc 12) 8 m_high_, k_arr (md 16) (mc 15) 8 m_received_] := by
    intro fu
    induction fu with
    | zero => intro j_ i_ mv_ m_planCycle_ m_planWhat_ m_planValue_ m_high_ m_received_ i j cnt hi hj hcnt hp20 hr24 hww hmm hE; exact absurd hmm (by omega)
    | succ fu ih =>
      intro j_ i_ mv_ m_planCycle_ m_planWhat_ m_planValue_ m_high_ m_received_ i j cnt hi hj hcnt hp20 hr24 hww hmm hE
      refine cv_iload_n K 2 d_Model_events_4 rfl rfl ?_
      refine cv_aload_n K 0 d_Model_events_5 rfl rfl ?_
      refine cv_get K d_Model_events_6 0 29 rfl rfl in_Model (by decide) tm_862 rfl ?_
      refine cv_icmp_ge K d_Model_events_9 89 rfl (fun h1 => ?_) (fun h1 => ?_)
      · refine cv_aload_n K 0 d_Model_events_89 rfl rfl ?_
        refine cv_iload_n K 1 d_Model_events_90 rfl rfl ?_
        refine cv_put K d_Model_events_91 [k_Model (md 0) (md 1) (md 2) (md 3) (md 4) (md 5) (md 6) (md 7) (md 8) (md 9) (md 10) (md 11) (md 12) (md 13) (md 14) (md 15) (md 16) (md 17) (md 18) (upd mv_ 20 j_) mvL, k_arr (md 10) (mc 9) 16 m_planCycle_, k_arr (md 11) (mc 10) 16 m_planWhat_, k_arr (md 12) (mc 11) 16 m_planValue_, k_arr (md 13) (mc 12) 8 m_high_, k_arr (md 16) (mc 15) 8 m_received_] 0 29 rfl rfl in_Model t_Model o_Model n_Model (by decide) tm_862 rfl rfl rfl (Nat.le_of_ble_eq_true rfl) rfl ?_
        exact cv_retv K hm d_Model_events_94 (((upd mv_ 20 j_), m_planCycle_, m_planWhat_, m_planValue_, m_high_, m_received_)) (hE.trans (by rw [p_Model_events_L, if_pos (c := (mv_ 20) ≤ i_) h1])) rfl
      · refine cv_aload_n K 0 d_Model_events_12 rfl rfl ?_
        refine cv_get K d_Model_events_13 0 30 rfl rfl in_Model (by decide) tm_863 rfl ?_
        refine cv_iload_n K 2 d_Model_events_16 rfl rfl ?_
        refine cv_iald K d_Model_events_17 1 26 rfl (hmys 9 (by decide)) (by rw [hi]; exact vp_in_nI (by have := (mi_idx hi (hp20.trans hcnt) (by omega) (by omega) h1); omega) (by omega)) ?_
        refine cv_aload_n K 0 d_Model_events_18 rfl rfl ?_
        refine cv_get K d_Model_events_19 0 2 rfl rfl in_Model (by decide) tm_835 rfl ?_
        refine cv_icmp_ne K d_Model_events_22 44 rfl (fun h2 => ?_) (fun h2 => ?_)
        · refine cv_aload_n K 0 d_Model_events_44 rfl rfl ?_
          refine cv_get K d_Model_events_45 0 30 rfl rfl in_Model (by decide) tm_863 rfl ?_
          refine cv_iload_n K 1 d_Model_events_48 rfl rfl ?_
          refine cv_aload_n K 0 d_Model_events_49 rfl rfl ?_
          refine cv_get K d_Model_events_50 0 30 rfl rfl in_Model (by decide) tm_863 rfl ?_
          refine cv_iload_n K 2 d_Model_events_53 rfl rfl ?_
          refine cv_iald K d_Model_events_54 1 26 rfl (hmys 9 (by decide)) (by rw [hi]; exact vp_in_nI (by have := (mi_idx hi (hp20.trans hcnt) (by omega) (by omega) h1); omega) (by omega)) ?_
          refine cv_iast K d_Model_events_55 [k_Model (md 0) (md 1) (md 2) (md 3) (md 4) (md 5) (md 6) (md 7) (md 8) (md 9) (md 10) (md 11) (md 12) (md 13) (md 14) (md 15) (md 16) (md 17) (md 18) mv_ mvL, k_arr (md 10) (mc 9) 16 (upd m_planCycle_ j_.toNatClampNeg (m_planCycle_ i_.toNatClampNeg)), k_arr (md 11) (mc 10) 16 m_planWhat_, k_arr (md 12) (mc 11) 16 m_planValue_, k_arr (md 13) (mc 12) 8 m_high_, k_arr (md 16) (mc 15) 8 m_received_] 1 26 rfl (hmys 9 (by decide)) (by rw [hj]; exact vp_in_nI (by have := (mi_idx hi (hp20.trans hcnt) (by omega) (by omega) h1); omega) (by omega)) rfl ?_
          refine cv_aload_n K 0 d_Model_events_56 rfl rfl ?_
          refine cv_get K d_Model_events_57 0 31 rfl rfl in_Model (by decide) tm_864 rfl ?_
          refine cv_iload_n K 1 d_Model_events_60 rfl rfl ?_
          refine cv_aload_n K 0 d_Model_events_61 rfl rfl ?_
          refine cv_get K d_Model_events_62 0 31 rfl rfl in_Model (by decide) tm_864 rfl ?_
          refine cv_iload_n K 2 d_Model_events_65 rfl rfl ?_
          refine cv_iald K d_Model_events_66 2 27 rfl (hmys 10 (by decide)) (by rw [hi]; exact vp_in_nI (by have := (mi_idx hi (hp20.trans hcnt) (by omega) (by omega) h1); omega) (by omega)) ?_
          refine cv_iast K d_Model_events_67 [k_Model (md 0) (md 1) (md 2) (md 3) (md 4) (md 5) (md 6) (md 7) (md 8) (md 9) (md 10) (md 11) (md 12) (md 13) (md 14) (md 15) (md 16) (md 17) (md 18) mv_ mvL, k_arr (md 10) (mc 9) 16 (upd m_planCycle_ j_.toNatClampNeg (m_planCycle_ i_.toNatClampNeg)), k_arr (md 11) (mc 10) 16 (upd m_planWhat_ j_.toNatClampNeg (m_planWhat_ i_.toNatClampNeg)), k_arr (md 12) (mc 11) 16 m_planValue_, k_arr (md 13) (mc 12) 8 m_high_, k_arr (md 16) (mc 15) 8 m_received_] 2 27 rfl (hmys 10 (by decide)) (by rw [hj]; exact vp_in_nI (by have := (mi_idx hi (hp20.trans hcnt) (by omega) (by omega) h1); omega) (by omega)) rfl ?_
          refine cv_aload_n K 0 d_Model_events_68 rfl rfl ?_
          refine cv_get K d_Model_events_69 0 32 rfl rfl in_Model (by decide) tm_865 rfl ?_
          refine cv_iload_n K 1 d_Model_events_72 rfl rfl ?_
          refine cv_aload_n K 0 d_Model_events_73 rfl rfl ?_
          refine cv_get K d_Model_events_74 0 32 rfl rfl in_Model (by decide) tm_865 rfl ?_
          refine cv_iload_n K 2 d_Model_events_77 rfl rfl ?_
          refine cv_iald K d_Model_events_78 3 28 rfl (hmys 11 (by decide)) (by rw [hi]; exact vp_in_nI (by have := (mi_idx hi (hp20.trans hcnt) (by omega) (by omega) h1); omega) (by omega)) ?_
          refine cv_iast K d_Model_events_79 [k_Model (md 0) (md 1) (md 2) (md 3) (md 4) (md 5) (md 6) (md 7) (md 8) (md 9) (md 10) (md 11) (md 12) (md 13) (md 14) (md 15) (md 16) (md 17) (md 18) mv_ mvL, k_arr (md 10) (mc 9) 16 (upd m_planCycle_ j_.toNatClampNeg (m_planCycle_ i_.toNatClampNeg)), k_arr (md 11) (mc 10) 16 (upd m_planWhat_ j_.toNatClampNeg (m_planWhat_ i_.toNatClampNeg)), k_arr (md 12) (mc 11) 16 (upd m_planValue_ j_.toNatClampNeg (m_planValue_ i_.toNatClampNeg)), k_arr (md 13) (mc 12) 8 m_high_, k_arr (md 16) (mc 15) 8 m_received_] 3 28 rfl (hmys 11 (by decide)) (by rw [hj]; exact vp_in_nI (by have := (mi_idx hi (hp20.trans hcnt) (by omega) (by omega) h1); omega) (by omega)) rfl ?_
          refine cv_iinc K d_Model_events_80 [(1, .int (j_ + (1 : Int32))), (0, .ref (md 0)), (2, .int i_)] 1 rfl rfl (by decide) rfl ?_
          refine cv_iinc K d_Model_events_83 [(2, .int (i_ + (1 : Int32))), (1, .int (j_ + (1 : Int32))), (0, .ref (md 0))] 2 rfl rfl (by decide) rfl ?_
          refine cv_goto K d_Model_events_86 4 rfl ?_
          refine cv_loc [2, 1, 0] [(0, .ref (md 0)), (1, .int (j_ + (1 : Int32))), (2, .int (i_ + (1 : Int32)))] rfl ?_
          exact ih (j_ + (1 : Int32)) (i_ + (1 : Int32)) mv_ (upd m_planCycle_ j_.toNatClampNeg (m_planCycle_ i_.toNatClampNeg)) (upd m_planWhat_ j_.toNatClampNeg (m_planWhat_ i_.toNatClampNeg)) (upd m_planValue_ j_.toNatClampNeg (m_planValue_ i_.toNatClampNeg)) m_high_ m_received_ (i + 1) (j + 1) cnt (by rw [hi]; exact nI_1 i) (by rw [hj]; exact nI_1 j) hcnt hp20 hr24 (mi_up hww (mi_pw hww hi (by have := (mi_idx hi (hp20.trans hcnt) (by omega) (by omega) h1); omega))) (by have := (mi_idx hi (hp20.trans hcnt) (by omega) (by omega) h1); omega) (hE.trans (by rw [p_Model_events_L, if_neg (c := (mv_ 20) ≤ i_) h1, if_neg (c := (m_planCycle_ i_.toNatClampNeg) = (mv_ 2)) h2]))
        · refine cv_aload_n K 0 d_Model_events_25 rfl rfl ?_
          refine cv_aload_n K 0 d_Model_events_26 rfl rfl ?_
          refine cv_get K d_Model_events_27 0 31 rfl rfl in_Model (by decide) tm_864 rfl ?_
          refine cv_iload_n K 2 d_Model_events_30 rfl rfl ?_
          refine cv_iald K d_Model_events_31 2 27 rfl (hmys 10 (by decide)) (by rw [hi]; exact vp_in_nI (by have := (mi_idx hi (hp20.trans hcnt) (by omega) (by omega) h1); omega) (by omega)) ?_
          refine cv_aload_n K 0 d_Model_events_32 rfl rfl ?_
          refine cv_get K d_Model_events_33 0 32 rfl rfl in_Model (by decide) tm_865 rfl ?_
          refine cv_iload_n K 2 d_Model_events_36 rfl rfl ?_
          refine cv_iald K d_Model_events_37 3 28 rfl (hmys 11 (by decide)) (by rw [hi]; exact vp_in_nI (by have := (mi_idx hi (hp20.trans hcnt) (by omega) (by omega) h1); omega) (by omega)) ?_
          refine cv_callVv K (m_Model_happen l dC dI tys md mc n hmys mv_ mvL m_high_ m_received_ (m_planWhat_ i_.toNatClampNeg) (m_planValue_ i_.toNatClampNeg) (mi_pw hww hi (by have := (mi_idx hi (hp20.trans hcnt) (by omega) (by omega) h1); omega)) hr24) d_Model_events_38 (cw_V (n := 2) K.2.2.2.2.1 tm_1063 tm_1065 sm_27 tm_15 tm_1066 rfl rfl ⟨rfl, wd_of (by decide +kernel) (by decide +kernel)⟩ ⟨Nat.le_of_ble_eq_true rfl, Nat.le_of_ble_eq_true rfl⟩) 0 rfl rfl [0, 4, 5] rfl rfl (fun _ => rfl) rfl rfl (Nat.le_of_ble_eq_true rfl) (Nat.zero_le _) (Nat.zero_le _) (fun r1 hr1 => ?_)
          refine cv_norm [k_Model (md 0) (md 1) (md 2) (md 3) (md 4) (md 5) (md 6) (md 7) (md 8) (md 9) (md 10) (md 11) (md 12) (md 13) (md 14) (md 15) (md 16) (md 17) (md 18) r1.1 mvL, k_arr (md 10) (mc 9) 16 m_planCycle_, k_arr (md 11) (mc 10) 16 m_planWhat_, k_arr (md 12) (mc 11) 16 m_planValue_, k_arr (md 13) (mc 12) 8 r1.2.1, k_arr (md 16) (mc 15) 8 r1.2.2] rfl ?_
          refine cv_goto K d_Model_events_41 83 rfl ?_
          refine cv_iinc K d_Model_events_83 [(2, .int (i_ + (1 : Int32))), (0, .ref (md 0)), (1, .int j_)] 2 rfl rfl (by decide) rfl ?_
          refine cv_goto K d_Model_events_86 4 rfl ?_
          refine cv_loc [1, 2, 0] [(0, .ref (md 0)), (1, .int j_), (2, .int (i_ + (1 : Int32)))] rfl ?_
          exact ih j_ (i_ + (1 : Int32)) r1.1 m_planCycle_ m_planWhat_ m_planValue_ r1.2.1 r1.2.2 (i + 1) j cnt (by rw [hi]; exact nI_1 i) hj hcnt (by rw [hr1, hap_20]; exact hp20) (by rw [hr1]; exact hap_24 hr24) hww (by have := (mi_idx hi (hp20.trans hcnt) (by omega) (by omega) h1); omega) (hE.trans (by rw [p_Model_events_L, if_neg (c := (mv_ 20) ≤ i_) h1, if_pos (c := (m_planCycle_ i_.toNatClampNeg) = (mv_ 2)) h2, ← hr1, p_Model_events_1]))
  refine cv_loc [2, 1, 0] [(0, .ref (md 0)), (1, .int (0 : Int32)), (2, .int (0 : Int32))] rfl ?_
  obtain ⟨cnt, hcnt16, hcnt⟩ := hpl
  exact loop 17 (0 : Int32) (0 : Int32) mv m_planCycle m_planWhat m_planValue m_high m_received 0 0 cnt rfl rfl hcnt rfl hrc hpw (by omega) (by rw [p_Model_events])
-- CycleChipModel.sender()V
def p_Model_sender_L (mv : Nat → Int32) (mvL : Nat → Int64) (m_sending : Nat → Int32) (m_out : Nat → Int64) : Nat → (Int32) → (Nat → Int32) → (Nat → Int32) → (Nat → Int64) → (Nat → Int32) × (Nat → Int32) × (Nat → Int64)
  | 0, k_, mv_, m_sending_, m_out_ => (mv_, m_sending_, m_out_)
  | fu + 1, k_, mv_, m_sending_, m_out_ => if (mv_ 26) ≤ k_ then (mv_, m_sending_, m_out_) else (fun k_ mv_ m_sending_ m_out_ => p_Model_sender_L mv mvL m_sending m_out fu k_ mv_ m_sending_ m_out_) (k_ + (1 : Int32)) mv_ (upd m_sending_ k_.toNatClampNeg (m_sending_ (k_ + (1 : Int32)).toNatClampNeg)) m_out_
def p_Model_sender (mv : Nat → Int32) (mvL : Nat → Int64) (m_sending : Nat → Int32) (m_out : Nat → Int64) : (Nat → Int32) × (Nat → Int32) × (Nat → Int64) := if (mv 29) = (0 : Int32) then if (mv 29) = (0 : Int32) then if (mv 26) = (0 : Int32) then (mv, m_sending, m_out) else p_Model_sender_L mv mvL m_sending m_out 9 (0 : Int32) (upd (upd (upd (upd mv 29 (1 : Int32)) 30 (m_sending (0 : Int32).toNatClampNeg)) 31 ((mv 2) + ((10 : Int32) * (mv 27)))) 26 ((mv 26) - (1 : Int32))) m_sending m_out else (mv, m_sending, m_out) else if (mv 31) = (mv 2) then if (0 : Int32) = (0 : Int32) then if (mv 26) = (0 : Int32) then ((upd (upd mv 32 ((mv 32) + (1 : Int32))) 29 (0 : Int32)), m_sending, (vp_updL m_out (((mv 32) - (mv 32) / (16 : Int32) * (16 : Int32)).toNatClampNeg) (((mv 30).toInt64) + ((256 : Int64) * ((mv 2).toInt64))))) else p_Model_sender_L mv mvL m_sending m_out 9 (0 : Int32) (upd (upd (upd (upd (upd (upd mv 32 ((mv 32) + (1 : Int32))) 29 (0 : Int32)) 29 (1 : Int32)) 30 (m_sending (0 : Int32).toNatClampNeg)) 31 ((mv 2) + ((10 : Int32) * (mv 27)))) 26 ((mv 26) - (1 : Int32))) m_sending (vp_updL m_out (((mv 32) - (mv 32) / (16 : Int32) * (16 : Int32)).toNatClampNeg) (((mv 30).toInt64) + ((256 : Int64) * ((mv 2).toInt64)))) else ((upd (upd mv 32 ((mv 32) + (1 : Int32))) 29 (0 : Int32)), m_sending, (vp_updL m_out (((mv 32) - (mv 32) / (16 : Int32) * (16 : Int32)).toNatClampNeg) (((mv 30).toInt64) + ((256 : Int64) * ((mv 2).toInt64))))) else if (mv 29) = (0 : Int32) then (mv, m_sending, m_out) else (mv, m_sending, m_out)
set_option maxRecDepth 100000 in
set_option maxHeartbeats 4000000 in
theorem m_Model_sender (l : Launch) (dC : Nat → ClassId) (dI : Nat → Nat → Nat) (tys : List (ClassId × FieldType)) (md : Nat → Nat) (mc : Nat → ClassId) (n : Nat) (hmys : ∀ k, k < 18 → tys[17 + k]? = some (mc k, mty k)) (mv : Nat → Int32) (mvL : Nat → Int64) (m_sending : Nat → Int32) (m_out : Nat → Int64) (hoc : ∃ a : Nat, a < 2 ^ 30 ∧ mv 32 = nI a) (hsc : ∃ k : Nat, k ≤ 8 ∧ mv 26 = nI k) : cv_Mv l y_Model_sender (Cond.code y_Model_sender c_Model_sender 2 (none) :: gw) { frames := 0, cells := 0, slots := 0, locals := 0 } (dC, dI) vwCl tys [.ref (md 0)] [k_Model (md 0) (md 1) (md 2) (md 3) (md 4) (md 5) (md 6) (md 7) (md 8) (md 9) (md 10) (md 11) (md 12) (md 13) (md 14) (md 15) (md 16) (md 17) (md 18) mv mvL, k_arr (md 17) (mc 16) 8 m_sending, k_arrL (md 18) (mc 17) 16 m_out] (p_Model_sender mv mvL m_sending m_out) (fun r => [k_Model (md 0) (md 1) (md 2) (md 3) (md 4) (md 5) (md 6) (md 7) (md 8) (md 9) (md 10) (md 11) (md 12) (md 13) (md 14) (md 15) (md 16) (md 17) (md 18) r.1 mvL, k_arr (md 17) (mc 16) 8 r.2.1, k_arrL (md 18) (mc 17) 16 r.2.2]) := by
  refine cv_startv (by decide) (Nat.le_of_ble_eq_true rfl) [(0, .ref (md 0))] rfl ?_
  intro p e s m below meth c A K hm
  refine cv_aload_n K 0 d_Model_sender_0 rfl rfl ?_
  refine cv_get K d_Model_sender_1 0 48 rfl rfl in_Model (by decide) tm_881 rfl ?_
  refine cv_if_eq K d_Model_sender_4 60 rfl (fun h1 => ?_) (fun h1 => ?_)
  · refine cv_aload_n K 0 d_Model_sender_60 rfl rfl ?_
    refine cv_get K d_Model_sender_61 0 48 rfl rfl in_Model (by decide) tm_881 rfl ?_
    refine cv_if_ne K d_Model_sender_64 74 rfl (fun h2 => ?_) (fun h2 => ?_)
    · exact absurd h1 h2
    · refine cv_aload_n K 0 d_Model_sender_67 rfl rfl ?_
      refine cv_get K d_Model_sender_68 0 45 rfl rfl in_Model (by decide) tm_878 rfl ?_
      refine cv_if_ne K d_Model_sender_71 75 rfl (fun h3 => ?_) (fun h3 => ?_)
      · refine cv_aload_n K 0 d_Model_sender_75 rfl rfl ?_
        refine cv_iconst (v := 1) K d_Model_sender_76 rfl ?_
        refine cv_put K d_Model_sender_77 [k_Model (md 0) (md 1) (md 2) (md 3) (md 4) (md 5) (md 6) (md 7) (md 8) (md 9) (md 10) (md 11) (md 12) (md 13) (md 14) (md 15) (md 16) (md 17) (md 18) (upd mv 29 (1 : Int32)) mvL, k_arr (md 17) (mc 16) 8 m_sending, k_arrL (md 18) (mc 17) 16 m_out] 0 48 rfl rfl in_Model t_Model o_Model n_Model (by decide) tm_881 rfl rfl rfl (Nat.le_of_ble_eq_true rfl) rfl ?_
        refine cv_aload_n K 0 d_Model_sender_80 rfl rfl ?_
        refine cv_aload_n K 0 d_Model_sender_81 rfl rfl ?_
        refine cv_get K d_Model_sender_82 0 44 rfl rfl in_Model (by decide) tm_877 rfl ?_
        refine cv_iconst (v := 0) K d_Model_sender_85 rfl ?_
        refine cv_iald K d_Model_sender_86 1 33 rfl (hmys 16 (by decide)) (j_in (0 : Int32) (by decide +kernel)) ?_
        refine cv_put K d_Model_sender_87 [k_Model (md 0) (md 1) (md 2) (md 3) (md 4) (md 5) (md 6) (md 7) (md 8) (md 9) (md 10) (md 11) (md 12) (md 13) (md 14) (md 15) (md 16) (md 17) (md 18) (upd (upd mv 29 (1 : Int32)) 30 (m_sending (0 : Int32).toNatClampNeg)) mvL, k_arr (md 17) (mc 16) 8 m_sending, k_arrL (md 18) (mc 17) 16 m_out] 0 49 rfl rfl in_Model t_Model o_Model n_Model (by decide) tm_882 rfl rfl rfl (Nat.le_of_ble_eq_true rfl) rfl ?_
        refine cv_aload_n K 0 d_Model_sender_90 rfl rfl ?_
        refine cv_aload_n K 0 d_Model_sender_91 rfl rfl ?_
        refine cv_get K d_Model_sender_92 0 2 rfl rfl in_Model (by decide) tm_835 rfl ?_
        refine cv_bipush (v := 10) K d_Model_sender_95 (by decide +kernel) ?_
        refine cv_aload_n K 0 d_Model_sender_97 rfl rfl ?_
        refine cv_get K d_Model_sender_98 0 46 rfl rfl in_Model (by decide) tm_879 rfl ?_
        refine cv_imul K d_Model_sender_101 ?_
        refine cv_iadd K d_Model_sender_102 ?_
        refine cv_put K d_Model_sender_103 [k_Model (md 0) (md 1) (md 2) (md 3) (md 4) (md 5) (md 6) (md 7) (md 8) (md 9) (md 10) (md 11) (md 12) (md 13) (md 14) (md 15) (md 16) (md 17) (md 18) (upd (upd (upd mv 29 (1 : Int32)) 30 (m_sending (0 : Int32).toNatClampNeg)) 31 ((mv 2) + ((10 : Int32) * (mv 27)))) mvL, k_arr (md 17) (mc 16) 8 m_sending, k_arrL (md 18) (mc 17) 16 m_out] 0 50 rfl rfl in_Model t_Model o_Model n_Model (by decide) tm_883 rfl rfl rfl (Nat.le_of_ble_eq_true rfl) rfl ?_
        refine cv_aload_n K 0 d_Model_sender_106 rfl rfl ?_
        refine cv_dup K d_Model_sender_107 rfl ?_
        refine cv_get K d_Model_sender_108 0 45 rfl rfl in_Model (by decide) tm_878 rfl ?_
        refine cv_iconst (v := 1) K d_Model_sender_111 rfl ?_
        refine cv_isub K d_Model_sender_112 ?_
        refine cv_put K d_Model_sender_113 [k_Model (md 0) (md 1) (md 2) (md 3) (md 4) (md 5) (md 6) (md 7) (md 8) (md 9) (md 10) (md 11) (md 12) (md 13) (md 14) (md 15) (md 16) (md 17) (md 18) (upd (upd (upd (upd mv 29 (1 : Int32)) 30 (m_sending (0 : Int32).toNatClampNeg)) 31 ((mv 2) + ((10 : Int32) * (mv 27)))) 26 ((mv 26) - (1 : Int32))) mvL, k_arr (md 17) (mc 16) 8 m_sending, k_arrL (md 18) (mc 17) 16 m_out] 0 45 rfl rfl in_Model t_Model o_Model n_Model (by decide) tm_878 rfl rfl rfl (Nat.le_of_ble_eq_true rfl) rfl ?_
        refine cv_iconst (v := 0) K d_Model_sender_116 rfl ?_
        refine cv_istore_n K d_Model_sender_117 [(1, .int (0 : Int32)), (0, .ref (md 0))] rfl (by decide) rfl ?_
        have loop : ∀ (fu : Nat) (k_ : Int32) (mv_ : Nat → Int32) (m_sending_ : Nat → Int32) (m_out_ : Nat → Int64) (k : Nat) (cn : Nat) (hk : k_ = nI k) (hc : mv_ 26 = nI cn) (hmm : k + fu = 9 ∧ k ≤ cn ∧ cn ≤ 7), (p_Model_sender mv mvL m_sending m_out) = p_Model_sender_L mv mvL m_sending m_out fu k_ mv_ m_sending_ m_out_ → cv_V p l e { frames := 0, cells := 0, slots := 0, locals := 0 } s m ([.ref (md 0)] : List Value).toArray below meth c 0 0 (MQ below (cv_Qv (dC, dI) vwCl tys A (p_Model_sender mv mvL m_sending m_out) (fun r => [k_Model (md 0) (md 1) (md 2) (md 3) (md 4) (md 5) (md 6) (md 7) (md 8) (md 9) (md 10) (md 11) (md 12) (md 13) (md 14) (md 15) (md 16) (md 17) (md 18) r.1 mvL, k_arr (md 17) (mc 16) 8 r.2.1, k_arrL (md 18) (mc 17) 16 r.2.2])) ([.ref (md 0)] : List Value).toArray s 0 0 A) 2 (dC, dI) vwCl A 118 [(0, .ref (md 0)), (1, .int k_)] [] [k_Model (md 0) (md 1) (md 2) (md 3) (md 4) (md 5) (md 6) (md 7) (md 8) (md 9) (md 10) (md 11) (md 12) (md 13) (md 14) (md 15) (md 16) (md 17) (md 18) mv_ mvL, k_arr (md 17) (mc 16) 8 m_sending_, k_arrL (md 18) (mc 17) 16 m_out_] := by
          intro fu
          induction fu with
          | zero => intro k_ mv_ m_sending_ m_out_ k cn hk hc hmm hE; exact absurd hmm (by omega)
          | succ fu ih =>
            intro k_ mv_ m_sending_ m_out_ k cn hk hc hmm hE
            refine cv_iload_n K 1 d_Model_sender_118 rfl rfl ?_
            refine cv_aload_n K 0 d_Model_sender_119 rfl rfl ?_
            refine cv_get K d_Model_sender_120 0 45 rfl rfl in_Model (by decide) tm_878 rfl ?_
            refine cv_icmp_ge K d_Model_sender_123 146 rfl (fun h4 => ?_) (fun h4 => ?_)
            · exact cv_retv K hm d_Model_sender_146 ((mv_, m_sending_, m_out_)) (hE.trans (by rw [p_Model_sender_L, if_pos (c := (mv_ 26) ≤ k_) h4])) rfl
            · refine cv_aload_n K 0 d_Model_sender_126 rfl rfl ?_
              refine cv_get K d_Model_sender_127 0 44 rfl rfl in_Model (by decide) tm_877 rfl ?_
              refine cv_iload_n K 1 d_Model_sender_130 rfl rfl ?_
              refine cv_aload_n K 0 d_Model_sender_131 rfl rfl ?_
              refine cv_get K d_Model_sender_132 0 44 rfl rfl in_Model (by decide) tm_877 rfl ?_
              refine cv_iload_n K 1 d_Model_sender_135 rfl rfl ?_
              refine cv_iconst (v := 1) K d_Model_sender_136 rfl ?_
              refine cv_iadd K d_Model_sender_137 ?_
              refine cv_iald K d_Model_sender_138 1 33 rfl (hmys 16 (by decide)) (mi_k1 hk (by have := (mi_idx hk hc (by omega) (by omega) h4); omega)) ?_
              refine cv_iast K d_Model_sender_139 [k_Model (md 0) (md 1) (md 2) (md 3) (md 4) (md 5) (md 6) (md 7) (md 8) (md 9) (md 10) (md 11) (md 12) (md 13) (md 14) (md 15) (md 16) (md 17) (md 18) mv_ mvL, k_arr (md 17) (mc 16) 8 (upd m_sending_ k_.toNatClampNeg (m_sending_ (k_ + (1 : Int32)).toNatClampNeg)), k_arrL (md 18) (mc 17) 16 m_out_] 1 33 rfl (hmys 16 (by decide)) (by rw [hk]; exact vp_in_nI (by have := (mi_idx hk hc (by omega) (by omega) h4); omega) (by omega)) rfl ?_
              refine cv_iinc K d_Model_sender_140 [(1, .int (k_ + (1 : Int32))), (0, .ref (md 0))] 1 rfl rfl (by decide) rfl ?_
              refine cv_goto K d_Model_sender_143 118 rfl ?_
              refine cv_loc [1, 0] [(0, .ref (md 0)), (1, .int (k_ + (1 : Int32)))] rfl ?_
              exact ih (k_ + (1 : Int32)) mv_ (upd m_sending_ k_.toNatClampNeg (m_sending_ (k_ + (1 : Int32)).toNatClampNeg)) m_out_ (k + 1) cn (by rw [hk]; exact nI_1 k) hc (by have := (mi_idx hk hc (by omega) (by omega) h4); omega) (hE.trans (by rw [p_Model_sender_L, if_neg (c := (mv_ 26) ≤ k_) h4]))
        refine cv_loc [1, 0] [(0, .ref (md 0)), (1, .int (0 : Int32))] rfl ?_
        obtain ⟨cn, hc7, hc⟩ := mi_dec hsc h3
        exact loop 9 (0 : Int32) (upd (upd (upd (upd mv 29 (1 : Int32)) 30 (m_sending (0 : Int32).toNatClampNeg)) 31 ((mv 2) + ((10 : Int32) * (mv 27)))) 26 ((mv 26) - (1 : Int32))) m_sending m_out 0 cn rfl hc (by omega) (by rw [p_Model_sender, if_pos (c := (mv 29) = (0 : Int32)) h1, if_pos (c := (mv 29) = (0 : Int32)) h2, if_neg (c := (mv 26) = (0 : Int32)) h3])
      · exact cv_retv K hm d_Model_sender_74 ((mv, m_sending, m_out)) (by rw [p_Model_sender, if_pos (c := (mv 29) = (0 : Int32)) h1, if_pos (c := (mv 29) = (0 : Int32)) h2, if_pos (c := (mv 26) = (0 : Int32)) h3]) rfl
  · refine cv_aload_n K 0 d_Model_sender_7 rfl rfl ?_
    refine cv_get K d_Model_sender_8 0 50 rfl rfl in_Model (by decide) tm_883 rfl ?_
    refine cv_aload_n K 0 d_Model_sender_11 rfl rfl ?_
    refine cv_get K d_Model_sender_12 0 2 rfl rfl in_Model (by decide) tm_835 rfl ?_
    refine cv_icmp_ne K d_Model_sender_15 60 rfl (fun h5 => ?_) (fun h5 => ?_)
    · refine cv_aload_n K 0 d_Model_sender_60 rfl rfl ?_
      refine cv_get K d_Model_sender_61 0 48 rfl rfl in_Model (by decide) tm_881 rfl ?_
      refine cv_if_ne K d_Model_sender_64 74 rfl (fun h6 => ?_) (fun h6 => ?_)
      · exact cv_retv K hm d_Model_sender_74 ((mv, m_sending, m_out)) (by rw [p_Model_sender, if_neg (c := (mv 29) = (0 : Int32)) h1, if_neg (c := (mv 31) = (mv 2)) h5, if_neg (c := (mv 29) = (0 : Int32)) h6]) rfl
      · exact absurd h6 h1
    · refine cv_aload_n K 0 d_Model_sender_18 rfl rfl ?_
      refine cv_get K d_Model_sender_19 0 52 rfl rfl in_Model (by decide) tm_885 rfl ?_
      refine cv_aload_n K 0 d_Model_sender_22 rfl rfl ?_
      refine cv_get K d_Model_sender_23 0 51 rfl rfl in_Model (by decide) tm_884 rfl ?_
      refine cv_bipush (v := 16) K d_Model_sender_26 (by decide +kernel) ?_
      refine cv_irem K d_Model_sender_28 (by decide) ?_
      refine cv_aload_n K 0 d_Model_sender_29 rfl rfl ?_
      refine cv_get K d_Model_sender_30 0 49 rfl rfl in_Model (by decide) tm_882 rfl ?_
      refine cv_i2l K d_Model_sender_33 rfl ?_
      refine cv_ldc2 (v := 256) K d_Model_sender_34 tm_1071 ?_
      refine cv_aload_n K 0 d_Model_sender_37 rfl rfl ?_
      refine cv_get K d_Model_sender_38 0 2 rfl rfl in_Model (by decide) tm_835 rfl ?_
      refine cv_i2l K d_Model_sender_41 rfl ?_
      refine cv_lmul K d_Model_sender_42 ?_
      refine cv_ladd K d_Model_sender_43 ?_
      refine cv_last K d_Model_sender_44 [k_Model (md 0) (md 1) (md 2) (md 3) (md 4) (md 5) (md 6) (md 7) (md 8) (md 9) (md 10) (md 11) (md 12) (md 13) (md 14) (md 15) (md 16) (md 17) (md 18) mv mvL, k_arr (md 17) (mc 16) 8 m_sending, k_arrL (md 18) (mc 17) 16 (vp_updL m_out (((mv 32) - (mv 32) / (16 : Int32) * (16 : Int32)).toNatClampNeg) (((mv 30).toInt64) + ((256 : Int64) * ((mv 2).toInt64))))] 2 34 rfl (hmys 17 (by decide)) (mi_r16 hoc) rfl ?_
      refine cv_aload_n K 0 d_Model_sender_45 rfl rfl ?_
      refine cv_dup K d_Model_sender_46 rfl ?_
      refine cv_get K d_Model_sender_47 0 51 rfl rfl in_Model (by decide) tm_884 rfl ?_
      refine cv_iconst (v := 1) K d_Model_sender_50 rfl ?_
      refine cv_iadd K d_Model_sender_51 ?_
      refine cv_put K d_Model_sender_52 [k_Model (md 0) (md 1) (md 2) (md 3) (md 4) (md 5) (md 6) (md 7) (md 8) (md 9) (md 10) (md 11) (md 12) (md 13) (md 14) (md 15) (md 16) (md 17) (md 18) (upd mv 32 ((mv 32) + (1 : Int32))) mvL, k_arr (md 17) (mc 16) 8 m_sending, k_arrL (md 18) (mc 17) 16 (vp_updL m_out (((mv 32) - (mv 32) / (16 : Int32) * (16 : Int32)).toNatClampNeg) (((mv 30).toInt64) + ((256 : Int64) * ((mv 2).toInt64))))] 0 51 rfl rfl in_Model t_Model o_Model n_Model (by decide) tm_884 rfl rfl rfl (Nat.le_of_ble_eq_true rfl) rfl ?_
      refine cv_aload_n K 0 d_Model_sender_55 rfl rfl ?_
      refine cv_iconst (v := 0) K d_Model_sender_56 rfl ?_
      refine cv_put K d_Model_sender_57 [k_Model (md 0) (md 1) (md 2) (md 3) (md 4) (md 5) (md 6) (md 7) (md 8) (md 9) (md 10) (md 11) (md 12) (md 13) (md 14) (md 15) (md 16) (md 17) (md 18) (upd (upd mv 32 ((mv 32) + (1 : Int32))) 29 (0 : Int32)) mvL, k_arr (md 17) (mc 16) 8 m_sending, k_arrL (md 18) (mc 17) 16 (vp_updL m_out (((mv 32) - (mv 32) / (16 : Int32) * (16 : Int32)).toNatClampNeg) (((mv 30).toInt64) + ((256 : Int64) * ((mv 2).toInt64))))] 0 48 rfl rfl in_Model t_Model o_Model n_Model (by decide) tm_881 rfl rfl rfl (Nat.le_of_ble_eq_true rfl) rfl ?_
      refine cv_aload_n K 0 d_Model_sender_60 rfl rfl ?_
      refine cv_get K d_Model_sender_61 0 48 rfl rfl in_Model (by decide) tm_881 rfl ?_
      refine cv_if_ne K d_Model_sender_64 74 rfl (fun h7 => ?_) (fun h7 => ?_)
      · exact cv_retv K hm d_Model_sender_74 (((upd (upd mv 32 ((mv 32) + (1 : Int32))) 29 (0 : Int32)), m_sending, (vp_updL m_out (((mv 32) - (mv 32) / (16 : Int32) * (16 : Int32)).toNatClampNeg) (((mv 30).toInt64) + ((256 : Int64) * ((mv 2).toInt64)))))) (by rw [p_Model_sender, if_neg (c := (mv 29) = (0 : Int32)) h1, if_pos (c := (mv 31) = (mv 2)) h5, if_neg (c := (0 : Int32) = (0 : Int32)) h7]) rfl
      · refine cv_aload_n K 0 d_Model_sender_67 rfl rfl ?_
        refine cv_get K d_Model_sender_68 0 45 rfl rfl in_Model (by decide) tm_878 rfl ?_
        refine cv_if_ne K d_Model_sender_71 75 rfl (fun h8 => ?_) (fun h8 => ?_)
        · refine cv_aload_n K 0 d_Model_sender_75 rfl rfl ?_
          refine cv_iconst (v := 1) K d_Model_sender_76 rfl ?_
          refine cv_put K d_Model_sender_77 [k_Model (md 0) (md 1) (md 2) (md 3) (md 4) (md 5) (md 6) (md 7) (md 8) (md 9) (md 10) (md 11) (md 12) (md 13) (md 14) (md 15) (md 16) (md 17) (md 18) (upd (upd (upd mv 32 ((mv 32) + (1 : Int32))) 29 (0 : Int32)) 29 (1 : Int32)) mvL, k_arr (md 17) (mc 16) 8 m_sending, k_arrL (md 18) (mc 17) 16 (vp_updL m_out (((mv 32) - (mv 32) / (16 : Int32) * (16 : Int32)).toNatClampNeg) (((mv 30).toInt64) + ((256 : Int64) * ((mv 2).toInt64))))] 0 48 rfl rfl in_Model t_Model o_Model n_Model (by decide) tm_881 rfl rfl rfl (Nat.le_of_ble_eq_true rfl) rfl ?_
          refine cv_aload_n K 0 d_Model_sender_80 rfl rfl ?_
          refine cv_aload_n K 0 d_Model_sender_81 rfl rfl ?_
          refine cv_get K d_Model_sender_82 0 44 rfl rfl in_Model (by decide) tm_877 rfl ?_
          refine cv_iconst (v := 0) K d_Model_sender_85 rfl ?_
          refine cv_iald K d_Model_sender_86 1 33 rfl (hmys 16 (by decide)) (j_in (0 : Int32) (by decide +kernel)) ?_
          refine cv_put K d_Model_sender_87 [k_Model (md 0) (md 1) (md 2) (md 3) (md 4) (md 5) (md 6) (md 7) (md 8) (md 9) (md 10) (md 11) (md 12) (md 13) (md 14) (md 15) (md 16) (md 17) (md 18) (upd (upd (upd (upd mv 32 ((mv 32) + (1 : Int32))) 29 (0 : Int32)) 29 (1 : Int32)) 30 (m_sending (0 : Int32).toNatClampNeg)) mvL, k_arr (md 17) (mc 16) 8 m_sending, k_arrL (md 18) (mc 17) 16 (vp_updL m_out (((mv 32) - (mv 32) / (16 : Int32) * (16 : Int32)).toNatClampNeg) (((mv 30).toInt64) + ((256 : Int64) * ((mv 2).toInt64))))] 0 49 rfl rfl in_Model t_Model o_Model n_Model (by decide) tm_882 rfl rfl rfl (Nat.le_of_ble_eq_true rfl) rfl ?_
          refine cv_aload_n K 0 d_Model_sender_90 rfl rfl ?_
          refine cv_aload_n K 0 d_Model_sender_91 rfl rfl ?_
          refine cv_get K d_Model_sender_92 0 2 rfl rfl in_Model (by decide) tm_835 rfl ?_
          refine cv_bipush (v := 10) K d_Model_sender_95 (by decide +kernel) ?_
          refine cv_aload_n K 0 d_Model_sender_97 rfl rfl ?_
          refine cv_get K d_Model_sender_98 0 46 rfl rfl in_Model (by decide) tm_879 rfl ?_
          refine cv_imul K d_Model_sender_101 ?_
          refine cv_iadd K d_Model_sender_102 ?_
          refine cv_put K d_Model_sender_103 [k_Model (md 0) (md 1) (md 2) (md 3) (md 4) (md 5) (md 6) (md 7) (md 8) (md 9) (md 10) (md 11) (md 12) (md 13) (md 14) (md 15) (md 16) (md 17) (md 18) (upd (upd (upd (upd (upd mv 32 ((mv 32) + (1 : Int32))) 29 (0 : Int32)) 29 (1 : Int32)) 30 (m_sending (0 : Int32).toNatClampNeg)) 31 ((mv 2) + ((10 : Int32) * (mv 27)))) mvL, k_arr (md 17) (mc 16) 8 m_sending, k_arrL (md 18) (mc 17) 16 (vp_updL m_out (((mv 32) - (mv 32) / (16 : Int32) * (16 : Int32)).toNatClampNeg) (((mv 30).toInt64) + ((256 : Int64) * ((mv 2).toInt64))))] 0 50 rfl rfl in_Model t_Model o_Model n_Model (by decide) tm_883 rfl rfl rfl (Nat.le_of_ble_eq_true rfl) rfl ?_
          refine cv_aload_n K 0 d_Model_sender_106 rfl rfl ?_
          refine cv_dup K d_Model_sender_107 rfl ?_
          refine cv_get K d_Model_sender_108 0 45 rfl rfl in_Model (by decide) tm_878 rfl ?_
          refine cv_iconst (v := 1) K d_Model_sender_111 rfl ?_
          refine cv_isub K d_Model_sender_112 ?_
          refine cv_put K d_Model_sender_113 [k_Model (md 0) (md 1) (md 2) (md 3) (md 4) (md 5) (md 6) (md 7) (md 8) (md 9) (md 10) (md 11) (md 12) (md 13) (md 14) (md 15) (md 16) (md 17) (md 18) (upd (upd (upd (upd (upd (upd mv 32 ((mv 32) + (1 : Int32))) 29 (0 : Int32)) 29 (1 : Int32)) 30 (m_sending (0 : Int32).toNatClampNeg)) 31 ((mv 2) + ((10 : Int32) * (mv 27)))) 26 ((mv 26) - (1 : Int32))) mvL, k_arr (md 17) (mc 16) 8 m_sending, k_arrL (md 18) (mc 17) 16 (vp_updL m_out (((mv 32) - (mv 32) / (16 : Int32) * (16 : Int32)).toNatClampNeg) (((mv 30).toInt64) + ((256 : Int64) * ((mv 2).toInt64))))] 0 45 rfl rfl in_Model t_Model o_Model n_Model (by decide) tm_878 rfl rfl rfl (Nat.le_of_ble_eq_true rfl) rfl ?_
          refine cv_iconst (v := 0) K d_Model_sender_116 rfl ?_
          refine cv_istore_n K d_Model_sender_117 [(1, .int (0 : Int32)), (0, .ref (md 0))] rfl (by decide) rfl ?_
          have loop : ∀ (fu : Nat) (k_ : Int32) (mv_ : Nat → Int32) (m_sending_ : Nat → Int32) (m_out_ : Nat → Int64) (k : Nat) (cn : Nat) (hk : k_ = nI k) (hc : mv_ 26 = nI cn) (hmm : k + fu = 9 ∧ k ≤ cn ∧ cn ≤ 7), (p_Model_sender mv mvL m_sending m_out) = p_Model_sender_L mv mvL m_sending m_out fu k_ mv_ m_sending_ m_out_ → cv_V p l e { frames := 0, cells := 0, slots := 0, locals := 0 } s m ([.ref (md 0)] : List Value).toArray below meth c 0 0 (MQ below (cv_Qv (dC, dI) vwCl tys A (p_Model_sender mv mvL m_sending m_out) (fun r => [k_Model (md 0) (md 1) (md 2) (md 3) (md 4) (md 5) (md 6) (md 7) (md 8) (md 9) (md 10) (md 11) (md 12) (md 13) (md 14) (md 15) (md 16) (md 17) (md 18) r.1 mvL, k_arr (md 17) (mc 16) 8 r.2.1, k_arrL (md 18) (mc 17) 16 r.2.2])) ([.ref (md 0)] : List Value).toArray s 0 0 A) 2 (dC, dI) vwCl A 118 [(0, .ref (md 0)), (1, .int k_)] [] [k_Model (md 0) (md 1) (md 2) (md 3) (md 4) (md 5) (md 6) (md 7) (md 8) (md 9) (md 10) (md 11) (md 12) (md 13) (md 14) (md 15) (md 16) (md 17) (md 18) mv_ mvL, k_arr (md 17) (mc 16) 8 m_sending_, k_arrL (md 18) (mc 17) 16 m_out_] := by
            intro fu
            induction fu with
            | zero => intro k_ mv_ m_sending_ m_out_ k cn hk hc hmm hE; exact absurd hmm (by omega)
            | succ fu ih =>
              intro k_ mv_ m_sending_ m_out_ k cn hk hc hmm hE
              refine cv_iload_n K 1 d_Model_sender_118 rfl rfl ?_
              refine cv_aload_n K 0 d_Model_sender_119 rfl rfl ?_
              refine cv_get K d_Model_sender_120 0 45 rfl rfl in_Model (by decide) tm_878 rfl ?_
              refine cv_icmp_ge K d_Model_sender_123 146 rfl (fun h9 => ?_) (fun h9 => ?_)
              · exact cv_retv K hm d_Model_sender_146 ((mv_, m_sending_, m_out_)) (hE.trans (by rw [p_Model_sender_L, if_pos (c := (mv_ 26) ≤ k_) h9])) rfl
              · refine cv_aload_n K 0 d_Model_sender_126 rfl rfl ?_
                refine cv_get K d_Model_sender_127 0 44 rfl rfl in_Model (by decide) tm_877 rfl ?_
                refine cv_iload_n K 1 d_Model_sender_130 rfl rfl ?_
                refine cv_aload_n K 0 d_Model_sender_131 rfl rfl ?_
                refine cv_get K d_Model_sender_132 0 44 rfl rfl in_Model (by decide) tm_877 rfl ?_
                refine cv_iload_n K 1 d_Model_sender_135 rfl rfl ?_
                refine cv_iconst (v := 1) K d_Model_sender_136 rfl ?_
                refine cv_iadd K d_Model_sender_137 ?_
                refine cv_iald K d_Model_sender_138 1 33 rfl (hmys 16 (by decide)) (mi_k1 hk (by have := (mi_idx hk hc (by omega) (by omega) h9); omega)) ?_
                refine cv_iast K d_Model_sender_139 [k_Model (md 0) (md 1) (md 2) (md 3) (md 4) (md 5) (md 6) (md 7) (md 8) (md 9) (md 10) (md 11) (md 12) (md 13) (md 14) (md 15) (md 16) (md 17) (md 18) mv_ mvL, k_arr (md 17) (mc 16) 8 (upd m_sending_ k_.toNatClampNeg (m_sending_ (k_ + (1 : Int32)).toNatClampNeg)), k_arrL (md 18) (mc 17) 16 m_out_] 1 33 rfl (hmys 16 (by decide)) (by rw [hk]; exact vp_in_nI (by have := (mi_idx hk hc (by omega) (by omega) h9); omega) (by omega)) rfl ?_
                refine cv_iinc K d_Model_sender_140 [(1, .int (k_ + (1 : Int32))), (0, .ref (md 0))] 1 rfl rfl (by decide) rfl ?_
                refine cv_goto K d_Model_sender_143 118 rfl ?_
                refine cv_loc [1, 0] [(0, .ref (md 0)), (1, .int (k_ + (1 : Int32)))] rfl ?_
                exact ih (k_ + (1 : Int32)) mv_ (upd m_sending_ k_.toNatClampNeg (m_sending_ (k_ + (1 : Int32)).toNatClampNeg)) m_out_ (k + 1) cn (by rw [hk]; exact nI_1 k) hc (by have := (mi_idx hk hc (by omega) (by omega) h9); omega) (hE.trans (by rw [p_Model_sender_L, if_neg (c := (mv_ 26) ≤ k_) h9]))
          refine cv_loc [1, 0] [(0, .ref (md 0)), (1, .int (0 : Int32))] rfl ?_
          obtain ⟨cn, hc7, hc⟩ := mi_dec hsc h8
          exact loop 9 (0 : Int32) (upd (upd (upd (upd (upd (upd mv 32 ((mv 32) + (1 : Int32))) 29 (0 : Int32)) 29 (1 : Int32)) 30 (m_sending (0 : Int32).toNatClampNeg)) 31 ((mv 2) + ((10 : Int32) * (mv 27)))) 26 ((mv 26) - (1 : Int32))) m_sending (vp_updL m_out (((mv 32) - (mv 32) / (16 : Int32) * (16 : Int32)).toNatClampNeg) (((mv 30).toInt64) + ((256 : Int64) * ((mv 2).toInt64)))) 0 cn rfl hc (by omega) (by rw [p_Model_sender, if_neg (c := (mv 29) = (0 : Int32)) h1, if_pos (c := (mv 31) = (mv 2)) h5, if_pos (c := (0 : Int32) = (0 : Int32)) h7, if_neg (c := (mv 26) = (0 : Int32)) h8])
        · exact cv_retv K hm d_Model_sender_74 (((upd (upd mv 32 ((mv 32) + (1 : Int32))) 29 (0 : Int32)), m_sending, (vp_updL m_out (((mv 32) - (mv 32) / (16 : Int32) * (16 : Int32)).toNatClampNeg) (((mv 30).toInt64) + ((256 : Int64) * ((mv 2).toInt64)))))) (by rw [p_Model_sender, if_neg (c := (mv 29) = (0 : Int32)) h1, if_pos (c := (mv 31) = (mv 2)) h5, if_pos (c := (0 : Int32) = (0 : Int32)) h7, if_pos (c := (mv 26) = (0 : Int32)) h8]) rfl
-- CycleChipModel.raiseLines()V
def p_Model_raiseLines_L (mv : Nat → Int32) (mvL : Nat → Int64) (m_high : Nat → Int32) (m_pending : Nat → Int32) (m_service : Nat → Int32) : Nat → (Int32) → (Nat → Int32) → (Nat → Int32) → (Nat → Int32) × (Nat → Int32)
  | 0, s_, m_high_, m_pending_ => (m_high_, m_pending_)
  | fu + 1, s_, m_high_, m_pending_ => if (7 : Int32) < s_ then (m_high_, m_pending_) else if (m_high_ s_.toNatClampNeg) = (0 : Int32) then (fun s_ m_high_ m_pending_ => p_Model_raiseLines_L mv mvL m_high m_pending m_service fu s_ m_high_ m_pending_) (s_ + (1 : Int32)) m_high_ m_pending_ else if (m_service s_.toNatClampNeg) = (0 : Int32) then (fun s_ m_high_ m_pending_ => p_Model_raiseLines_L mv mvL m_high m_pending m_service fu s_ m_high_ m_pending_) (s_ + (1 : Int32)) m_high_ (upd m_pending_ s_.toNatClampNeg (1 : Int32)) else (fun s_ m_high_ m_pending_ => p_Model_raiseLines_L mv mvL m_high m_pending m_service fu s_ m_high_ m_pending_) (s_ + (1 : Int32)) m_high_ m_pending_
def p_Model_raiseLines (mv : Nat → Int32) (mvL : Nat → Int64) (m_high : Nat → Int32) (m_pending : Nat → Int32) (m_service : Nat → Int32) : (Nat → Int32) × (Nat → Int32) := if (mv 24) ≤ (0 : Int32) then if (mv 26) = (0 : Int32) then if ((mv 28) / (2 : Int32)) = (1 : Int32) then p_Model_raiseLines_L mv mvL m_high m_pending m_service 8 (1 : Int32) (upd m_high ((1 : Int32).toNatClampNeg) (1 : Int32)) m_pending else p_Model_raiseLines_L mv mvL m_high m_pending m_service 8 (1 : Int32) (upd m_high ((1 : Int32).toNatClampNeg) (0 : Int32)) m_pending else p_Model_raiseLines_L mv mvL m_high m_pending m_service 8 (1 : Int32) (upd m_high ((1 : Int32).toNatClampNeg) (0 : Int32)) m_pending else if ((mv 28) - (mv 28) / (2 : Int32) * (2 : Int32)) = (1 : Int32) then p_Model_raiseLines_L mv mvL m_high m_pending m_service 8 (1 : Int32) (upd m_high ((1 : Int32).toNatClampNeg) (1 : Int32)) m_pending else if (mv 26) = (0 : Int32) then if ((mv 28) / (2 : Int32)) = (1 : Int32) then p_Model_raiseLines_L mv mvL m_high m_pending m_service 8 (1 : Int32) (upd m_high ((1 : Int32).toNatClampNeg) (1 : Int32)) m_pending else p_Model_raiseLines_L mv mvL m_high m_pending m_service 8 (1 : Int32) (upd m_high ((1 : Int32).toNatClampNeg) (0 : Int32)) m_pending else p_Model_raiseLines_L mv mvL m_high m_pending m_service 8 (1 : Int32) (upd m_high ((1 : Int32).toNatClampNeg) (0 : Int32)) m_pending
set_option maxRecDepth 100000 in
set_option maxHeartbeats 4000000 in
theorem m_Model_raiseLines (l : Launch) (dC : Nat → ClassId) (dI : Nat → Nat → Nat) (tys : List (ClassId × FieldType)) (md : Nat → Nat) (mc : Nat → ClassId) (n : Nat) (hmys : ∀ k, k < 18 → tys[17 + k]? = some (mc k, mty k)) (mv : Nat → Int32) (mvL : Nat → Int64) (m_high : Nat → Int32) (m_pending : Nat → Int32) (m_service : Nat → Int32)  : cv_Mv l y_Model_raiseLines (Cond.code y_Model_raiseLines c_Model_raiseLines 2 (none) :: gw) { frames := 0, cells := 0, slots := 0, locals := 0 } (dC, dI) vwCl tys [.ref (md 0)] [k_Model (md 0) (md 1) (md 2) (md 3) (md 4) (md 5) (md 6) (md 7) (md 8) (md 9) (md 10) (md 11) (md 12) (md 13) (md 14) (md 15) (md 16) (md 17) (md 18) mv mvL, k_arr (md 13) (mc 12) 8 m_high, k_arr (md 14) (mc 13) 8 m_pending, k_arr (md 15) (mc 14) 8 m_service] (p_Model_raiseLines mv mvL m_high m_pending m_service) (fun r => [k_Model (md 0) (md 1) (md 2) (md 3) (md 4) (md 5) (md 6) (md 7) (md 8) (md 9) (md 10) (md 11) (md 12) (md 13) (md 14) (md 15) (md 16) (md 17) (md 18) mv mvL, k_arr (md 13) (mc 12) 8 r.1, k_arr (md 14) (mc 13) 8 r.2, k_arr (md 15) (mc 14) 8 m_service]) := by
  refine cv_startv (by decide) (Nat.le_of_ble_eq_true rfl) [(0, .ref (md 0))] rfl ?_
  intro p e s m below meth c A K hm
  refine cv_aload_n K 0 d_Model_raiseLines_0 rfl rfl ?_
  refine cv_get K d_Model_raiseLines_1 0 38 rfl rfl in_Model (by decide) tm_871 rfl ?_
  refine cv_iconst (v := 1) K d_Model_raiseLines_4 rfl ?_
  refine cv_aload_n K 0 d_Model_raiseLines_5 rfl rfl ?_
  refine cv_get K d_Model_raiseLines_6 0 42 rfl rfl in_Model (by decide) tm_875 rfl ?_
  refine cv_if_le K d_Model_raiseLines_9 22 rfl (fun h1 => ?_) (fun h1 => ?_)
  · refine cv_aload_n K 0 d_Model_raiseLines_22 rfl rfl ?_
    refine cv_get K d_Model_raiseLines_23 0 45 rfl rfl in_Model (by decide) tm_878 rfl ?_
    refine cv_if_ne K d_Model_raiseLines_26 43 rfl (fun h2 => ?_) (fun h2 => ?_)
    · refine cv_iconst (v := 0) K d_Model_raiseLines_43 rfl ?_
      refine cv_zast K d_Model_raiseLines_44 [k_Model (md 0) (md 1) (md 2) (md 3) (md 4) (md 5) (md 6) (md 7) (md 8) (md 9) (md 10) (md 11) (md 12) (md 13) (md 14) (md 15) (md 16) (md 17) (md 18) mv mvL, k_arr (md 13) (mc 12) 8 (upd m_high ((1 : Int32).toNatClampNeg) (0 : Int32)), k_arr (md 14) (mc 13) 8 m_pending, k_arr (md 15) (mc 14) 8 m_service] 1 29 rfl (hmys 12 (by decide)) (j_in (1 : Int32) (by decide +kernel)) rfl rfl ?_
      refine cv_iconst (v := 1) K d_Model_raiseLines_45 rfl ?_
      refine cv_istore_n K d_Model_raiseLines_46 [(1, .int (1 : Int32)), (0, .ref (md 0))] rfl (by decide) rfl ?_
      have loop : ∀ (fu : Nat) (s_ : Int32) (m_high_ : Nat → Int32) (m_pending_ : Nat → Int32) (k : Nat) (hk : s_ = nI k) (hmm : k + fu = 9 ∧ k ≤ 8), (p_Model_raiseLines mv mvL m_high m_pending m_service) = p_Model_raiseLines_L mv mvL m_high m_pending m_service fu s_ m_high_ m_pending_ → cv_V p l e { frames := 0, cells := 0, slots := 0, locals := 0 } s m ([.ref (md 0)] : List Value).toArray below meth c 0 0 (MQ below (cv_Qv (dC, dI) vwCl tys A (p_Model_raiseLines mv mvL m_high m_pending m_service) (fun r => [k_Model (md 0) (md 1) (md 2) (md 3) (md 4) (md 5) (md 6) (md 7) (md 8) (md 9) (md 10) (md 11) (md 12) (md 13) (md 14) (md 15) (md 16) (md 17) (md 18) mv mvL, k_arr (md 13) (mc 12) 8 r.1, k_arr (md 14) (mc 13) 8 r.2, k_arr (md 15) (mc 14) 8 m_service])) ([.ref (md 0)] : List Value).toArray s 0 0 A) 2 (dC, dI) vwCl A 47 [(0, .ref (md 0)), (1, .int s_)] [] [k_Model (md 0) (md 1) (md 2) (md 3) (md 4) (md 5) (md 6) (md 7) (md 8) (md 9) (md 10) (md 11) (md 12) (md 13) (md 14) (md 15) (md 16) (md 17) (md 18) mv mvL, k_arr (md 13) (mc 12) 8 m_high_, k_arr (md 14) (mc 13) 8 m_pending_, k_arr (md 15) (mc 14) 8 m_service] := by
        intro fu
        induction fu with
        | zero => intro s_ m_high_ m_pending_ k hk hmm hE; exact absurd hmm (by omega)
        | succ fu ih =>
          intro s_ m_high_ m_pending_ k hk hmm hE
          refine cv_iload_n K 1 d_Model_raiseLines_47 rfl rfl ?_
          refine cv_bipush (v := 7) K d_Model_raiseLines_48 (by decide +kernel) ?_
          refine cv_icmp_gt K d_Model_raiseLines_50 84 rfl (fun h3 => ?_) (fun h3 => ?_)
          · exact cv_retv K hm d_Model_raiseLines_84 ((m_high_, m_pending_)) (hE.trans (by rw [p_Model_raiseLines_L, if_pos (c := (7 : Int32) < s_) h3])) rfl
          · refine cv_aload_n K 0 d_Model_raiseLines_53 rfl rfl ?_
            refine cv_get K d_Model_raiseLines_54 0 38 rfl rfl in_Model (by decide) tm_871 rfl ?_
            refine cv_iload_n K 1 d_Model_raiseLines_57 rfl rfl ?_
            refine cv_zald K d_Model_raiseLines_58 1 29 rfl (hmys 12 (by decide)) (by rw [hk]; exact vp_in_nI (by have := (lp_nlt (n := 7) hk rfl (by omega) (by omega) h3); omega) (by omega)) ?_
            refine cv_if_eq K d_Model_raiseLines_59 78 rfl (fun h4 => ?_) (fun h4 => ?_)
            · refine cv_iinc K d_Model_raiseLines_78 [(1, .int (s_ + (1 : Int32))), (0, .ref (md 0))] 1 rfl rfl (by decide) rfl ?_
              refine cv_goto K d_Model_raiseLines_81 47 rfl ?_
              refine cv_loc [1, 0] [(0, .ref (md 0)), (1, .int (s_ + (1 : Int32)))] rfl ?_
              exact ih (s_ + (1 : Int32)) m_high_ m_pending_ (k + 1) (by rw [hk]; exact nI_1 k) (by have := (lp_nlt (n := 7) hk rfl (by omega) (by omega) h3); omega) (hE.trans (by rw [p_Model_raiseLines_L, if_neg (c := (7 : Int32) < s_) h3, if_pos (c := (m_high_ s_.toNatClampNeg) = (0 : Int32)) h4]))
            · refine cv_aload_n K 0 d_Model_raiseLines_62 rfl rfl ?_
              refine cv_get K d_Model_raiseLines_63 0 40 rfl rfl in_Model (by decide) tm_873 rfl ?_
              refine cv_iload_n K 1 d_Model_raiseLines_66 rfl rfl ?_
              refine cv_zald K d_Model_raiseLines_67 3 31 rfl (hmys 14 (by decide)) (by rw [hk]; exact vp_in_nI (by have := (lp_nlt (n := 7) hk rfl (by omega) (by omega) h3); omega) (by omega)) ?_
              refine cv_if_ne K d_Model_raiseLines_68 78 rfl (fun h5 => ?_) (fun h5 => ?_)
              · refine cv_iinc K d_Model_raiseLines_78 [(1, .int (s_ + (1 : Int32))), (0, .ref (md 0))] 1 rfl rfl (by decide) rfl ?_
                refine cv_goto K d_Model_raiseLines_81 47 rfl ?_
                refine cv_loc [1, 0] [(0, .ref (md 0)), (1, .int (s_ + (1 : Int32)))] rfl ?_
                exact ih (s_ + (1 : Int32)) m_high_ m_pending_ (k + 1) (by rw [hk]; exact nI_1 k) (by have := (lp_nlt (n := 7) hk rfl (by omega) (by omega) h3); omega) (hE.trans (by rw [p_Model_raiseLines_L, if_neg (c := (7 : Int32) < s_) h3, if_neg (c := (m_high_ s_.toNatClampNeg) = (0 : Int32)) h4, if_neg (c := (m_service s_.toNatClampNeg) = (0 : Int32)) h5]))
              · refine cv_aload_n K 0 d_Model_raiseLines_71 rfl rfl ?_
                refine cv_get K d_Model_raiseLines_72 0 39 rfl rfl in_Model (by decide) tm_872 rfl ?_
                refine cv_iload_n K 1 d_Model_raiseLines_75 rfl rfl ?_
                refine cv_iconst (v := 1) K d_Model_raiseLines_76 rfl ?_
                refine cv_zast K d_Model_raiseLines_77 [k_Model (md 0) (md 1) (md 2) (md 3) (md 4) (md 5) (md 6) (md 7) (md 8) (md 9) (md 10) (md 11) (md 12) (md 13) (md 14) (md 15) (md 16) (md 17) (md 18) mv mvL, k_arr (md 13) (mc 12) 8 m_high_, k_arr (md 14) (mc 13) 8 (upd m_pending_ s_.toNatClampNeg (1 : Int32)), k_arr (md 15) (mc 14) 8 m_service] 2 30 rfl (hmys 13 (by decide)) (by rw [hk]; exact vp_in_nI (by have := (lp_nlt (n := 7) hk rfl (by omega) (by omega) h3); omega) (by omega)) rfl rfl ?_
                refine cv_iinc K d_Model_raiseLines_78 [(1, .int (s_ + (1 : Int32))), (0, .ref (md 0))] 1 rfl rfl (by decide) rfl ?_
                refine cv_goto K d_Model_raiseLines_81 47 rfl ?_
                refine cv_loc [1, 0] [(0, .ref (md 0)), (1, .int (s_ + (1 : Int32)))] rfl ?_
                exact ih (s_ + (1 : Int32)) m_high_ (upd m_pending_ s_.toNatClampNeg (1 : Int32)) (k + 1) (by rw [hk]; exact nI_1 k) (by have := (lp_nlt (n := 7) hk rfl (by omega) (by omega) h3); omega) (hE.trans (by rw [p_Model_raiseLines_L, if_neg (c := (7 : Int32) < s_) h3, if_neg (c := (m_high_ s_.toNatClampNeg) = (0 : Int32)) h4, if_pos (c := (m_service s_.toNatClampNeg) = (0 : Int32)) h5]))
      refine cv_loc [1, 0] [(0, .ref (md 0)), (1, .int (1 : Int32))] rfl ?_
      exact loop 8 (1 : Int32) (upd m_high ((1 : Int32).toNatClampNeg) (0 : Int32)) m_pending 1 rfl (by omega) (by rw [p_Model_raiseLines, if_pos (c := (mv 24) ≤ (0 : Int32)) h1, if_neg (c := (mv 26) = (0 : Int32)) h2])
    · refine cv_aload_n K 0 d_Model_raiseLines_29 rfl rfl ?_
      refine cv_get K d_Model_raiseLines_30 0 47 rfl rfl in_Model (by decide) tm_880 rfl ?_
      refine cv_iconst (v := 2) K d_Model_raiseLines_33 rfl ?_
      refine cv_idiv K d_Model_raiseLines_34 (by decide) ?_
      refine cv_iconst (v := 1) K d_Model_raiseLines_35 rfl ?_
      refine cv_icmp_ne K d_Model_raiseLines_36 43 rfl (fun h6 => ?_) (fun h6 => ?_)
      · refine cv_iconst (v := 0) K d_Model_raiseLines_43 rfl ?_
        refine cv_zast K d_Model_raiseLines_44 [k_Model (md 0) (md 1) (md 2) (md 3) (md 4) (md 5) (md 6) (md 7) (md 8) (md 9) (md 10) (md 11) (md 12) (md 13) (md 14) (md 15) (md 16) (md 17) (md 18) mv mvL, k_arr (md 13) (mc 12) 8 (upd m_high ((1 : Int32).toNatClampNeg) (0 : Int32)), k_arr (md 14) (mc 13) 8 m_pending, k_arr (md 15) (mc 14) 8 m_service] 1 29 rfl (hmys 12 (by decide)) (j_in (1 : Int32) (by decide +kernel)) rfl rfl ?_
        refine cv_iconst (v := 1) K d_Model_raiseLines_45 rfl ?_
        refine cv_istore_n K d_Model_raiseLines_46 [(1, .int (1 : Int32)), (0, .ref (md 0))] rfl (by decide) rfl ?_
        have loop : ∀ (fu : Nat) (s_ : Int32) (m_high_ : Nat → Int32) (m_pending_ : Nat → Int32) (k : Nat) (hk : s_ = nI k) (hmm : k + fu = 9 ∧ k ≤ 8), (p_Model_raiseLines mv mvL m_high m_pending m_service) = p_Model_raiseLines_L mv mvL m_high m_pending m_service fu s_ m_high_ m_pending_ → cv_V p l e { frames := 0, cells := 0, slots := 0, locals := 0 } s m ([.ref (md 0)] : List Value).toArray below meth c 0 0 (MQ below (cv_Qv (dC, dI) vwCl tys A (p_Model_raiseLines mv mvL m_high m_pending m_service) (fun r => [k_Model (md 0) (md 1) (md 2) (md 3) (md 4) (md 5) (md 6) (md 7) (md 8) (md 9) (md 10) (md 11) (md 12) (md 13) (md 14) (md 15) (md 16) (md 17) (md 18) mv mvL, k_arr (md 13) (mc 12) 8 r.1, k_arr (md 14) (mc 13) 8 r.2, k_arr (md 15) (mc 14) 8 m_service])) ([.ref (md 0)] : List Value).toArray s 0 0 A) 2 (dC, dI) vwCl A 47 [(0, .ref (md 0)), (1, .int s_)] [] [k_Model (md 0) (md 1) (md 2) (md 3) (md 4) (md 5) (md 6) (md 7) (md 8) (md 9) (md 10) (md 11) (md 12) (md 13) (md 14) (md 15) (md 16) (md 17) (md 18) mv mvL, k_arr (md 13) (mc 12) 8 m_high_, k_arr (md 14) (mc 13) 8 m_pending_, k_arr (md 15) (mc 14) 8 m_service] := by
          intro fu
          induction fu with
          | zero => intro s_ m_high_ m_pending_ k hk hmm hE; exact absurd hmm (by omega)
          | succ fu ih =>
            intro s_ m_high_ m_pending_ k hk hmm hE
            refine cv_iload_n K 1 d_Model_raiseLines_47 rfl rfl ?_
            refine cv_bipush (v := 7) K d_Model_raiseLines_48 (by decide +kernel) ?_
            refine cv_icmp_gt K d_Model_raiseLines_50 84 rfl (fun h7 => ?_) (fun h7 => ?_)
            · exact cv_retv K hm d_Model_raiseLines_84 ((m_high_, m_pending_)) (hE.trans (by rw [p_Model_raiseLines_L, if_pos (c := (7 : Int32) < s_) h7])) rfl
            · refine cv_aload_n K 0 d_Model_raiseLines_53 rfl rfl ?_
              refine cv_get K d_Model_raiseLines_54 0 38 rfl rfl in_Model (by decide) tm_871 rfl ?_
              refine cv_iload_n K 1 d_Model_raiseLines_57 rfl rfl ?_
              refine cv_zald K d_Model_raiseLines_58 1 29 rfl (hmys 12 (by decide)) (by rw [hk]; exact vp_in_nI (by have := (lp_nlt (n := 7) hk rfl (by omega) (by omega) h7); omega) (by omega)) ?_
              refine cv_if_eq K d_Model_raiseLines_59 78 rfl (fun h8 => ?_) (fun h8 => ?_)
              · refine cv_iinc K d_Model_raiseLines_78 [(1, .int (s_ + (1 : Int32))), (0, .ref (md 0))] 1 rfl rfl (by decide) rfl ?_
                refine cv_goto K d_Model_raiseLines_81 47 rfl ?_
                refine cv_loc [1, 0] [(0, .ref (md 0)), (1, .int (s_ + (1 : Int32)))] rfl ?_
                exact ih (s_ + (1 : Int32)) m_high_ m_pending_ (k + 1) (by rw [hk]; exact nI_1 k) (by have := (lp_nlt (n := 7) hk rfl (by omega) (by omega) h7); omega) (hE.trans (by rw [p_Model_raiseLines_L, if_neg (c := (7 : Int32) < s_) h7, if_pos (c := (m_high_ s_.toNatClampNeg) = (0 : Int32)) h8]))
              · refine cv_aload_n K 0 d_Model_raiseLines_62 rfl rfl ?_
                refine cv_get K d_Model_raiseLines_63 0 40 rfl rfl in_Model (by decide) tm_873 rfl ?_
                refine cv_iload_n K 1 d_Model_raiseLines_66 rfl rfl ?_
                refine cv_zald K d_Model_raiseLines_67 3 31 rfl (hmys 14 (by decide)) (by rw [hk]; exact vp_in_nI (by have := (lp_nlt (n := 7) hk rfl (by omega) (by omega) h7); omega) (by omega)) ?_
                refine cv_if_ne K d_Model_raiseLines_68 78 rfl (fun h9 => ?_) (fun h9 => ?_)
                · refine cv_iinc K d_Model_raiseLines_78 [(1, .int (s_ + (1 : Int32))), (0, .ref (md 0))] 1 rfl rfl (by decide) rfl ?_
                  refine cv_goto K d_Model_raiseLines_81 47 rfl ?_
                  refine cv_loc [1, 0] [(0, .ref (md 0)), (1, .int (s_ + (1 : Int32)))] rfl ?_
                  exact ih (s_ + (1 : Int32)) m_high_ m_pending_ (k + 1) (by rw [hk]; exact nI_1 k) (by have := (lp_nlt (n := 7) hk rfl (by omega) (by omega) h7); omega) (hE.trans (by rw [p_Model_raiseLines_L, if_neg (c := (7 : Int32) < s_) h7, if_neg (c := (m_high_ s_.toNatClampNeg) = (0 : Int32)) h8, if_neg (c := (m_service s_.toNatClampNeg) = (0 : Int32)) h9]))
                · refine cv_aload_n K 0 d_Model_raiseLines_71 rfl rfl ?_
                  refine cv_get K d_Model_raiseLines_72 0 39 rfl rfl in_Model (by decide) tm_872 rfl ?_
                  refine cv_iload_n K 1 d_Model_raiseLines_75 rfl rfl ?_
                  refine cv_iconst (v := 1) K d_Model_raiseLines_76 rfl ?_
                  refine cv_zast K d_Model_raiseLines_77 [k_Model (md 0) (md 1) (md 2) (md 3) (md 4) (md 5) (md 6) (md 7) (md 8) (md 9) (md 10) (md 11) (md 12) (md 13) (md 14) (md 15) (md 16) (md 17) (md 18) mv mvL, k_arr (md 13) (mc 12) 8 m_high_, k_arr (md 14) (mc 13) 8 (upd m_pending_ s_.toNatClampNeg (1 : Int32)), k_arr (md 15) (mc 14) 8 m_service] 2 30 rfl (hmys 13 (by decide)) (by rw [hk]; exact vp_in_nI (by have := (lp_nlt (n := 7) hk rfl (by omega) (by omega) h7); omega) (by omega)) rfl rfl ?_
                  refine cv_iinc K d_Model_raiseLines_78 [(1, .int (s_ + (1 : Int32))), (0, .ref (md 0))] 1 rfl rfl (by decide) rfl ?_
                  refine cv_goto K d_Model_raiseLines_81 47 rfl ?_
                  refine cv_loc [1, 0] [(0, .ref (md 0)), (1, .int (s_ + (1 : Int32)))] rfl ?_
                  exact ih (s_ + (1 : Int32)) m_high_ (upd m_pending_ s_.toNatClampNeg (1 : Int32)) (k + 1) (by rw [hk]; exact nI_1 k) (by have := (lp_nlt (n := 7) hk rfl (by omega) (by omega) h7); omega) (hE.trans (by rw [p_Model_raiseLines_L, if_neg (c := (7 : Int32) < s_) h7, if_neg (c := (m_high_ s_.toNatClampNeg) = (0 : Int32)) h8, if_pos (c := (m_service s_.toNatClampNeg) = (0 : Int32)) h9]))
        refine cv_loc [1, 0] [(0, .ref (md 0)), (1, .int (1 : Int32))] rfl ?_
        exact loop 8 (1 : Int32) (upd m_high ((1 : Int32).toNatClampNeg) (0 : Int32)) m_pending 1 rfl (by omega) (by rw [p_Model_raiseLines, if_pos (c := (mv 24) ≤ (0 : Int32)) h1, if_pos (c := (mv 26) = (0 : Int32)) h2, if_neg (c := ((mv 28) / (2 : Int32)) = (1 : Int32)) h6])
      · refine cv_iconst (v := 1) K d_Model_raiseLines_39 rfl ?_
        refine cv_goto K d_Model_raiseLines_40 44 rfl ?_
        refine cv_zast K d_Model_raiseLines_44 [k_Model (md 0) (md 1) (md 2) (md 3) (md 4) (md 5) (md 6) (md 7) (md 8) (md 9) (md 10) (md 11) (md 12) (md 13) (md 14) (md 15) (md 16) (md 17) (md 18) mv mvL, k_arr (md 13) (mc 12) 8 (upd m_high ((1 : Int32).toNatClampNeg) (1 : Int32)), k_arr (md 14) (mc 13) 8 m_pending, k_arr (md 15) (mc 14) 8 m_service] 1 29 rfl (hmys 12 (by decide)) (j_in (1 : Int32) (by decide +kernel)) rfl rfl ?_
        refine cv_iconst (v := 1) K d_Model_raiseLines_45 rfl ?_
        refine cv_istore_n K d_Model_raiseLines_46 [(1, .int (1 : Int32)), (0, .ref (md 0))] rfl (by decide) rfl ?_
        have loop : ∀ (fu : Nat) (s_ : Int32) (m_high_ : Nat → Int32) (m_pending_ : Nat → Int32) (k : Nat) (hk : s_ = nI k) (hmm : k + fu = 9 ∧ k ≤ 8), (p_Model_raiseLines mv mvL m_high m_pending m_service) = p_Model_raiseLines_L mv mvL m_high m_pending m_service fu s_ m_high_ m_pending_ → cv_V p l e { frames := 0, cells := 0, slots := 0, locals := 0 } s m ([.ref (md 0)] : List Value).toArray below meth c 0 0 (MQ below (cv_Qv (dC, dI) vwCl tys A (p_Model_raiseLines mv mvL m_high m_pending m_service) (fun r => [k_Model (md 0) (md 1) (md 2) (md 3) (md 4) (md 5) (md 6) (md 7) (md 8) (md 9) (md 10) (md 11) (md 12) (md 13) (md 14) (md 15) (md 16) (md 17) (md 18) mv mvL, k_arr (md 13) (mc 12) 8 r.1, k_arr (md 14) (mc 13) 8 r.2, k_arr (md 15) (mc 14) 8 m_service])) ([.ref (md 0)] : List Value).toArray s 0 0 A) 2 (dC, dI) vwCl A 47 [(0, .ref (md 0)), (1, .int s_)] [] [k_Model (md 0) (md 1) (md 2) (md 3) (md 4) (md 5) (md 6) (md 7) (md 8) (md 9) (md 10) (md 11) (md 12) (md 13) (md 14) (md 15) (md 16) (md 17) (md 18) mv mvL, k_arr (md 13) (mc 12) 8 m_high_, k_arr (md 14) (mc 13) 8 m_pending_, k_arr (md 15) (mc 14) 8 m_service] := by
          intro fu
          induction fu with
          | zero => intro s_ m_high_ m_pending_ k hk hmm hE; exact absurd hmm (by omega)
          | succ fu ih =>
            intro s_ m_high_ m_pending_ k hk hmm hE
            refine cv_iload_n K 1 d_Model_raiseLines_47 rfl rfl ?_
            refine cv_bipush (v := 7) K d_Model_raiseLines_48 (by decide +kernel) ?_
            refine cv_icmp_gt K d_Model_raiseLines_50 84 rfl (fun h10 => ?_) (fun h10 => ?_)
            · exact cv_retv K hm d_Model_raiseLines_84 ((m_high_, m_pending_)) (hE.trans (by rw [p_Model_raiseLines_L, if_pos (c := (7 : Int32) < s_) h10])) rfl
            · refine cv_aload_n K 0 d_Model_raiseLines_53 rfl rfl ?_
              refine cv_get K d_Model_raiseLines_54 0 38 rfl rfl in_Model (by decide) tm_871 rfl ?_
              refine cv_iload_n K 1 d_Model_raiseLines_57 rfl rfl ?_
              refine cv_zald K d_Model_raiseLines_58 1 29 rfl (hmys 12 (by decide)) (by rw [hk]; exact vp_in_nI (by have := (lp_nlt (n := 7) hk rfl (by omega) (by omega) h10); omega) (by omega)) ?_
              refine cv_if_eq K d_Model_raiseLines_59 78 rfl (fun h11 => ?_) (fun h11 => ?_)
              · refine cv_iinc K d_Model_raiseLines_78 [(1, .int (s_ + (1 : Int32))), (0, .ref (md 0))] 1 rfl rfl (by decide) rfl ?_
                refine cv_goto K d_Model_raiseLines_81 47 rfl ?_
                refine cv_loc [1, 0] [(0, .ref (md 0)), (1, .int (s_ + (1 : Int32)))] rfl ?_
                exact ih (s_ + (1 : Int32)) m_high_ m_pending_ (k + 1) (by rw [hk]; exact nI_1 k) (by have := (lp_nlt (n := 7) hk rfl (by omega) (by omega) h10); omega) (hE.trans (by rw [p_Model_raiseLines_L, if_neg (c := (7 : Int32) < s_) h10, if_pos (c := (m_high_ s_.toNatClampNeg) = (0 : Int32)) h11]))
              · refine cv_aload_n K 0 d_Model_raiseLines_62 rfl rfl ?_
                refine cv_get K d_Model_raiseLines_63 0 40 rfl rfl in_Model (by decide) tm_873 rfl ?_
                refine cv_iload_n K 1 d_Model_raiseLines_66 rfl rfl ?_
                refine cv_zald K d_Model_raiseLines_67 3 31 rfl (hmys 14 (by decide)) (by rw [hk]; exact vp_in_nI (by have := (lp_nlt (n := 7) hk rfl (by omega) (by omega) h10); omega) (by omega)) ?_
                refine cv_if_ne K d_Model_raiseLines_68 78 rfl (fun h12 => ?_) (fun h12 => ?_)
                · refine cv_iinc K d_Model_raiseLines_78 [(1, .int (s_ + (1 : Int32))), (0, .ref (md 0))] 1 rfl rfl (by decide) rfl ?_
                  refine cv_goto K d_Model_raiseLines_81 47 rfl ?_
                  refine cv_loc [1, 0] [(0, .ref (md 0)), (1, .int (s_ + (1 : Int32)))] rfl ?_
                  exact ih (s_ + (1 : Int32)) m_high_ m_pending_ (k + 1) (by rw [hk]; exact nI_1 k) (by have := (lp_nlt (n := 7) hk rfl (by omega) (by omega) h10); omega) (hE.trans (by rw [p_Model_raiseLines_L, if_neg (c := (7 : Int32) < s_) h10, if_neg (c := (m_high_ s_.toNatClampNeg) = (0 : Int32)) h11, if_neg (c := (m_service s_.toNatClampNeg) = (0 : Int32)) h12]))
                · refine cv_aload_n K 0 d_Model_raiseLines_71 rfl rfl ?_
                  refine cv_get K d_Model_raiseLines_72 0 39 rfl rfl in_Model (by decide) tm_872 rfl ?_
                  refine cv_iload_n K 1 d_Model_raiseLines_75 rfl rfl ?_
                  refine cv_iconst (v := 1) K d_Model_raiseLines_76 rfl ?_
                  refine cv_zast K d_Model_raiseLines_77 [k_Model (md 0) (md 1) (md 2) (md 3) (md 4) (md 5) (md 6) (md 7) (md 8) (md 9) (md 10) (md 11) (md 12) (md 13) (md 14) (md 15) (md 16) (md 17) (md 18) mv mvL, k_arr (md 13) (mc 12) 8 m_high_, k_arr (md 14) (mc 13) 8 (upd m_pending_ s_.toNatClampNeg (1 : Int32)), k_arr (md 15) (mc 14) 8 m_service] 2 30 rfl (hmys 13 (by decide)) (by rw [hk]; exact vp_in_nI (by have := (lp_nlt (n := 7) hk rfl (by omega) (by omega) h10); omega) (by omega)) rfl rfl ?_
                  refine cv_iinc K d_Model_raiseLines_78 [(1, .int (s_ + (1 : Int32))), (0, .ref (md 0))] 1 rfl rfl (by decide) rfl ?_
                  refine cv_goto K d_Model_raiseLines_81 47 rfl ?_
                  refine cv_loc [1, 0] [(0, .ref (md 0)), (1, .int (s_ + (1 : Int32)))] rfl ?_
                  exact ih (s_ + (1 : Int32)) m_high_ (upd m_pending_ s_.toNatClampNeg (1 : Int32)) (k + 1) (by rw [hk]; exact nI_1 k) (by have := (lp_nlt (n := 7) hk rfl (by omega) (by omega) h10); omega) (hE.trans (by rw [p_Model_raiseLines_L, if_neg (c := (7 : Int32) < s_) h10, if_neg (c := (m_high_ s_.toNatClampNeg) = (0 : Int32)) h11, if_pos (c := (m_service s_.toNatClampNeg) = (0 : Int32)) h12]))
        refine cv_loc [1, 0] [(0, .ref (md 0)), (1, .int (1 : Int32))] rfl ?_
        exact loop 8 (1 : Int32) (upd m_high ((1 : Int32).toNatClampNeg) (1 : Int32)) m_pending 1 rfl (by omega) (by rw [p_Model_raiseLines, if_pos (c := (mv 24) ≤ (0 : Int32)) h1, if_pos (c := (mv 26) = (0 : Int32)) h2, if_pos (c := ((mv 28) / (2 : Int32)) = (1 : Int32)) h6])
  · refine cv_aload_n K 0 d_Model_raiseLines_12 rfl rfl ?_
    refine cv_get K d_Model_raiseLines_13 0 47 rfl rfl in_Model (by decide) tm_880 rfl ?_
    refine cv_iconst (v := 2) K d_Model_raiseLines_16 rfl ?_
    refine cv_irem K d_Model_raiseLines_17 (by decide) ?_
    refine cv_iconst (v := 1) K d_Model_raiseLines_18 rfl ?_
    refine cv_icmp_eq K d_Model_raiseLines_19 39 rfl (fun h13 => ?_) (fun h13 => ?_)
    · refine cv_iconst (v := 1) K d_Model_raiseLines_39 rfl ?_
      refine cv_goto K d_Model_raiseLines_40 44 rfl ?_
      refine cv_zast K d_Model_raiseLines_44 [k_Model (md 0) (md 1) (md 2) (md 3) (md 4) (md 5) (md 6) (md 7) (md 8) (md 9) (md 10) (md 11) (md 12) (md 13) (md 14) (md 15) (md 16) (md 17) (md 18) mv mvL, k_arr (md 13) (mc 12) 8 (upd m_high ((1 : Int32).toNatClampNeg) (1 : Int32)), k_arr (md 14) (mc 13) 8 m_pending, k_arr (md 15) (mc 14) 8 m_service] 1 29 rfl (hmys 12 (by decide)) (j_in (1 : Int32) (by decide +kernel)) rfl rfl ?_
      refine cv_iconst (v := 1) K d_Model_raiseLines_45 rfl ?_
      refine cv_istore_n K d_Model_raiseLines_46 [(1, .int (1 : Int32)), (0, .ref (md 0))] rfl (by decide) rfl ?_
      have loop : ∀ (fu : Nat) (s_ : Int32) (m_high_ : Nat → Int32) (m_pending_ : Nat → Int32) (k : Nat) (hk : s_ = nI k) (hmm : k + fu = 9 ∧ k ≤ 8), (p_Model_raiseLines mv mvL m_high m_pending m_service) = p_Model_raiseLines_L mv mvL m_high m_pending m_service fu s_ m_high_ m_pending_ → cv_V p l e { frames := 0, cells := 0, slots := 0, locals := 0 } s m ([.ref (md 0)] : List Value).toArray below meth c 0 0 (MQ below (cv_Qv (dC, dI) vwCl tys A (p_Model_raiseLines mv mvL m_high m_pending m_service) (fun r => [k_Model (md 0) (md 1) (md 2) (md 3) (md 4) (md 5) (md 6) (md 7) (md 8) (md 9) (md 10) (md 11) (md 12) (md 13) (md 14) (md 15) (md 16) (md 17) (md 18) mv mvL, k_arr (md 13) (mc 12) 8 r.1, k_arr (md 14) (mc 13) 8 r.2, k_arr (md 15) (mc 14) 8 m_service])) ([.ref (md 0)] : List Value).toArray s 0 0 A) 2 (dC, dI) vwCl A 47 [(0, .ref (md 0)), (1, .int s_)] [] [k_Model (md 0) (md 1) (md 2) (md 3) (md 4) (md 5) (md 6) (md 7) (md 8) (md 9) (md 10) (md 11) (md 12) (md 13) (md 14) (md 15) (md 16) (md 17) (md 18) mv mvL, k_arr (md 13) (mc 12) 8 m_high_, k_arr (md 14) (mc 13) 8 m_pending_, k_arr (md 15) (mc 14) 8 m_service] := by
        intro fu
        induction fu with
        | zero => intro s_ m_high_ m_pending_ k hk hmm hE; exact absurd hmm (by omega)
        | succ fu ih =>
          intro s_ m_high_ m_pending_ k hk hmm hE
          refine cv_iload_n K 1 d_Model_raiseLines_47 rfl rfl ?_
          refine cv_bipush (v := 7) K d_Model_raiseLines_48 (by decide +kernel) ?_
          refine cv_icmp_gt K d_Model_raiseLines_50 84 rfl (fun h14 => ?_) (fun h14 => ?_)
          · exact cv_retv K hm d_Model_raiseLines_84 ((m_high_, m_pending_)) (hE.trans (by rw [p_Model_raiseLines_L, if_pos (c := (7 : Int32) < s_) h14])) rfl
          · refine cv_aload_n K 0 d_Model_raiseLines_53 rfl rfl ?_
            refine cv_get K d_Model_raiseLines_54 0 38 rfl rfl in_Model (by decide) tm_871 rfl ?_
            refine cv_iload_n K 1 d_Model_raiseLines_57 rfl rfl ?_
            refine cv_zald K d_Model_raiseLines_58 1 29 rfl (hmys 12 (by decide)) (by rw [hk]; exact vp_in_nI (by have := (lp_nlt (n := 7) hk rfl (by omega) (by omega) h14); omega) (by omega)) ?_
            refine cv_if_eq K d_Model_raiseLines_59 78 rfl (fun h15 => ?_) (fun h15 => ?_)
            · refine cv_iinc K d_Model_raiseLines_78 [(1, .int (s_ + (1 : Int32))), (0, .ref (md 0))] 1 rfl rfl (by decide) rfl ?_
              refine cv_goto K d_Model_raiseLines_81 47 rfl ?_
              refine cv_loc [1, 0] [(0, .ref (md 0)), (1, .int (s_ + (1 : Int32)))] rfl ?_
              exact ih (s_ + (1 : Int32)) m_high_ m_pending_ (k + 1) (by rw [hk]; exact nI_1 k) (by have := (lp_nlt (n := 7) hk rfl (by omega) (by omega) h14); omega) (hE.trans (by rw [p_Model_raiseLines_L, if_neg (c := (7 : Int32) < s_) h14, if_pos (c := (m_high_ s_.toNatClampNeg) = (0 : Int32)) h15]))
            · refine cv_aload_n K 0 d_Model_raiseLines_62 rfl rfl ?_
              refine cv_get K d_Model_raiseLines_63 0 40 rfl rfl in_Model (by decide) tm_873 rfl ?_
              refine cv_iload_n K 1 d_Model_raiseLines_66 rfl rfl ?_
              refine cv_zald K d_Model_raiseLines_67 3 31 rfl (hmys 14 (by decide)) (by rw [hk]; exact vp_in_nI (by have := (lp_nlt (n := 7) hk rfl (by omega) (by omega) h14); omega) (by omega)) ?_
              refine cv_if_ne K d_Model_raiseLines_68 78 rfl (fun h16 => ?_) (fun h16 => ?_)
              · refine cv_iinc K d_Model_raiseLines_78 [(1, .int (s_ + (1 : Int32))), (0, .ref (md 0))] 1 rfl rfl (by decide) rfl ?_
                refine cv_goto K d_Model_raiseLines_81 47 rfl ?_
                refine cv_loc [1, 0] [(0, .ref (md 0)), (1, .int (s_ + (1 : Int32)))] rfl ?_
                exact ih (s_ + (1 : Int32)) m_high_ m_pending_ (k + 1) (by rw [hk]; exact nI_1 k) (by have := (lp_nlt (n := 7) hk rfl (by omega) (by omega) h14); omega) (hE.trans (by rw [p_Model_raiseLines_L, if_neg (c := (7 : Int32) < s_) h14, if_neg (c := (m_high_ s_.toNatClampNeg) = (0 : Int32)) h15, if_neg (c := (m_service s_.toNatClampNeg) = (0 : Int32)) h16]))
              · refine cv_aload_n K 0 d_Model_raiseLines_71 rfl rfl ?_
                refine cv_get K d_Model_raiseLines_72 0 39 rfl rfl in_Model (by decide) tm_872 rfl ?_
                refine cv_iload_n K 1 d_Model_raiseLines_75 rfl rfl ?_
                refine cv_iconst (v := 1) K d_Model_raiseLines_76 rfl ?_
                refine cv_zast K d_Model_raiseLines_77 [k_Model (md 0) (md 1) (md 2) (md 3) (md 4) (md 5) (md 6) (md 7) (md 8) (md 9) (md 10) (md 11) (md 12) (md 13) (md 14) (md 15) (md 16) (md 17) (md 18) mv mvL, k_arr (md 13) (mc 12) 8 m_high_, k_arr (md 14) (mc 13) 8 (upd m_pending_ s_.toNatClampNeg (1 : Int32)), k_arr (md 15) (mc 14) 8 m_service] 2 30 rfl (hmys 13 (by decide)) (by rw [hk]; exact vp_in_nI (by have := (lp_nlt (n := 7) hk rfl (by omega) (by omega) h14); omega) (by omega)) rfl rfl ?_
                refine cv_iinc K d_Model_raiseLines_78 [(1, .int (s_ + (1 : Int32))), (0, .ref (md 0))] 1 rfl rfl (by decide) rfl ?_
                refine cv_goto K d_Model_raiseLines_81 47 rfl ?_
                refine cv_loc [1, 0] [(0, .ref (md 0)), (1, .int (s_ + (1 : Int32)))] rfl ?_
                exact ih (s_ + (1 : Int32)) m_high_ (upd m_pending_ s_.toNatClampNeg (1 : Int32)) (k + 1) (by rw [hk]; exact nI_1 k) (by have := (lp_nlt (n := 7) hk rfl (by omega) (by omega) h14); omega) (hE.trans (by rw [p_Model_raiseLines_L, if_neg (c := (7 : Int32) < s_) h14, if_neg (c := (m_high_ s_.toNatClampNeg) = (0 : Int32)) h15, if_pos (c := (m_service s_.toNatClampNeg) = (0 : Int32)) h16]))
      refine cv_loc [1, 0] [(0, .ref (md 0)), (1, .int (1 : Int32))] rfl ?_
      exact loop 8 (1 : Int32) (upd m_high ((1 : Int32).toNatClampNeg) (1 : Int32)) m_pending 1 rfl (by omega) (by rw [p_Model_raiseLines, if_neg (c := (mv 24) ≤ (0 : Int32)) h1, if_pos (c := ((mv 28) - (mv 28) / (2 : Int32) * (2 : Int32)) = (1 : Int32)) h13])
    · refine cv_aload_n K 0 d_Model_raiseLines_22 rfl rfl ?_
      refine cv_get K d_Model_raiseLines_23 0 45 rfl rfl in_Model (by decide) tm_878 rfl ?_
      refine cv_if_ne K d_Model_raiseLines_26 43 rfl (fun h17 => ?_) (fun h17 => ?_)
      · refine cv_iconst (v := 0) K d_Model_raiseLines_43 rfl ?_
        refine cv_zast K d_Model_raiseLines_44 [k_Model (md 0) (md 1) (md 2) (md 3) (md 4) (md 5) (md 6) (md 7) (md 8) (md 9) (md 10) (md 11) (md 12) (md 13) (md 14) (md 15) (md 16) (md 17) (md 18) mv mvL, k_arr (md 13) (mc 12) 8 (upd m_high ((1 : Int32).toNatClampNeg) (0 : Int32)), k_arr (md 14) (mc 13) 8 m_pending, k_arr (md 15) (mc 14) 8 m_service] 1 29 rfl (hmys 12 (by decide)) (j_in (1 : Int32) (by decide +kernel)) rfl rfl ?_
        refine cv_iconst (v := 1) K d_Model_raiseLines_45 rfl ?_
        refine cv_istore_n K d_Model_raiseLines_46 [(1, .int (1 : Int32)), (0, .ref (md 0))] rfl (by decide) rfl ?_
        have loop : ∀ (fu : Nat) (s_ : Int32) (m_high_ : Nat → Int32) (m_pending_ : Nat → Int32) (k : Nat) (hk : s_ = nI k) (hmm : k + fu = 9 ∧ k ≤ 8), (p_Model_raiseLines mv mvL m_high m_pending m_service) = p_Model_raiseLines_L mv mvL m_high m_pending m_service fu s_ m_high_ m_pending_ → cv_V p l e { frames := 0, cells := 0, slots := 0, locals := 0 } s m ([.ref (md 0)] : List Value).toArray below meth c 0 0 (MQ below (cv_Qv (dC, dI) vwCl tys A (p_Model_raiseLines mv mvL m_high m_pending m_service) (fun r => [k_Model (md 0) (md 1) (md 2) (md 3) (md 4) (md 5) (md 6) (md 7) (md 8) (md 9) (md 10) (md 11) (md 12) (md 13) (md 14) (md 15) (md 16) (md 17) (md 18) mv mvL, k_arr (md 13) (mc 12) 8 r.1, k_arr (md 14) (mc 13) 8 r.2, k_arr (md 15) (mc 14) 8 m_service])) ([.ref (md 0)] : List Value).toArray s 0 0 A) 2 (dC, dI) vwCl A 47 [(0, .ref (md 0)), (1, .int s_)] [] [k_Model (md 0) (md 1) (md 2) (md 3) (md 4) (md 5) (md 6) (md 7) (md 8) (md 9) (md 10) (md 11) (md 12) (md 13) (md 14) (md 15) (md 16) (md 17) (md 18) mv mvL, k_arr (md 13) (mc 12) 8 m_high_, k_arr (md 14) (mc 13) 8 m_pending_, k_arr (md 15) (mc 14) 8 m_service] := by
          intro fu
          induction fu with
          | zero => intro s_ m_high_ m_pending_ k hk hmm hE; exact absurd hmm (by omega)
          | succ fu ih =>
            intro s_ m_high_ m_pending_ k hk hmm hE
            refine cv_iload_n K 1 d_Model_raiseLines_47 rfl rfl ?_
            refine cv_bipush (v := 7) K d_Model_raiseLines_48 (by decide +kernel) ?_
            refine cv_icmp_gt K d_Model_raiseLines_50 84 rfl (fun h18 => ?_) (fun h18 => ?_)
            · exact cv_retv K hm d_Model_raiseLines_84 ((m_high_, m_pending_)) (hE.trans (by rw [p_Model_raiseLines_L, if_pos (c := (7 : Int32) < s_) h18])) rfl
            · refine cv_aload_n K 0 d_Model_raiseLines_53 rfl rfl ?_
              refine cv_get K d_Model_raiseLines_54 0 38 rfl rfl in_Model (by decide) tm_871 rfl ?_
              refine cv_iload_n K 1 d_Model_raiseLines_57 rfl rfl ?_
              refine cv_zald K d_Model_raiseLines_58 1 29 rfl (hmys 12 (by decide)) (by rw [hk]; exact vp_in_nI (by have := (lp_nlt (n := 7) hk rfl (by omega) (by omega) h18); omega) (by omega)) ?_
              refine cv_if_eq K d_Model_raiseLines_59 78 rfl (fun h19 => ?_) (fun h19 => ?_)
              · refine cv_iinc K d_Model_raiseLines_78 [(1, .int (s_ + (1 : Int32))), (0, .ref (md 0))] 1 rfl rfl (by decide) rfl ?_
                refine cv_goto K d_Model_raiseLines_81 47 rfl ?_
                refine cv_loc [1, 0] [(0, .ref (md 0)), (1, .int (s_ + (1 : Int32)))] rfl ?_
                exact ih (s_ + (1 : Int32)) m_high_ m_pending_ (k + 1) (by rw [hk]; exact nI_1 k) (by have := (lp_nlt (n := 7) hk rfl (by omega) (by omega) h18); omega) (hE.trans (by rw [p_Model_raiseLines_L, if_neg (c := (7 : Int32) < s_) h18, if_pos (c := (m_high_ s_.toNatClampNeg) = (0 : Int32)) h19]))
              · refine cv_aload_n K 0 d_Model_raiseLines_62 rfl rfl ?_
                refine cv_get K d_Model_raiseLines_63 0 40 rfl rfl in_Model (by decide) tm_873 rfl ?_
                refine cv_iload_n K 1 d_Model_raiseLines_66 rfl rfl ?_
                refine cv_zald K d_Model_raiseLines_67 3 31 rfl (hmys 14 (by decide)) (by rw [hk]; exact vp_in_nI (by have := (lp_nlt (n := 7) hk rfl (by omega) (by omega) h18); omega) (by omega)) ?_
                refine cv_if_ne K d_Model_raiseLines_68 78 rfl (fun h20 => ?_) (fun h20 => ?_)
                · refine cv_iinc K d_Model_raiseLines_78 [(1, .int (s_ + (1 : Int32))), (0, .ref (md 0))] 1 rfl rfl (by decide) rfl ?_
                  refine cv_goto K d_Model_raiseLines_81 47 rfl ?_
                  refine cv_loc [1, 0] [(0, .ref (md 0)), (1, .int (s_ + (1 : Int32)))] rfl ?_
                  exact ih (s_ + (1 : Int32)) m_high_ m_pending_ (k + 1) (by rw [hk]; exact nI_1 k) (by have := (lp_nlt (n := 7) hk rfl (by omega) (by omega) h18); omega) (hE.trans (by rw [p_Model_raiseLines_L, if_neg (c := (7 : Int32) < s_) h18, if_neg (c := (m_high_ s_.toNatClampNeg) = (0 : Int32)) h19, if_neg (c := (m_service s_.toNatClampNeg) = (0 : Int32)) h20]))
                · refine cv_aload_n K 0 d_Model_raiseLines_71 rfl rfl ?_
                  refine cv_get K d_Model_raiseLines_72 0 39 rfl rfl in_Model (by decide) tm_872 rfl ?_
                  refine cv_iload_n K 1 d_Model_raiseLines_75 rfl rfl ?_
                  refine cv_iconst (v := 1) K d_Model_raiseLines_76 rfl ?_
                  refine cv_zast K d_Model_raiseLines_77 [k_Model (md 0) (md 1) (md 2) (md 3) (md 4) (md 5) (md 6) (md 7) (md 8) (md 9) (md 10) (md 11) (md 12) (md 13) (md 14) (md 15) (md 16) (md 17) (md 18) mv mvL, k_arr (md 13) (mc 12) 8 m_high_, k_arr (md 14) (mc 13) 8 (upd m_pending_ s_.toNatClampNeg (1 : Int32)), k_arr (md 15) (mc 14) 8 m_service] 2 30 rfl (hmys 13 (by decide)) (by rw [hk]; exact vp_in_nI (by have := (lp_nlt (n := 7) hk rfl (by omega) (by omega) h18); omega) (by omega)) rfl rfl ?_
                  refine cv_iinc K d_Model_raiseLines_78 [(1, .int (s_ + (1 : Int32))), (0, .ref (md 0))] 1 rfl rfl (by decide) rfl ?_
                  refine cv_goto K d_Model_raiseLines_81 47 rfl ?_
                  refine cv_loc [1, 0] [(0, .ref (md 0)), (1, .int (s_ + (1 : Int32)))] rfl ?_
                  exact ih (s_ + (1 : Int32)) m_high_ (upd m_pending_ s_.toNatClampNeg (1 : Int32)) (k + 1) (by rw [hk]; exact nI_1 k) (by have := (lp_nlt (n := 7) hk rfl (by omega) (by omega) h18); omega) (hE.trans (by rw [p_Model_raiseLines_L, if_neg (c := (7 : Int32) < s_) h18, if_neg (c := (m_high_ s_.toNatClampNeg) = (0 : Int32)) h19, if_pos (c := (m_service s_.toNatClampNeg) = (0 : Int32)) h20]))
        refine cv_loc [1, 0] [(0, .ref (md 0)), (1, .int (1 : Int32))] rfl ?_
        exact loop 8 (1 : Int32) (upd m_high ((1 : Int32).toNatClampNeg) (0 : Int32)) m_pending 1 rfl (by omega) (by rw [p_Model_raiseLines, if_neg (c := (mv 24) ≤ (0 : Int32)) h1, if_neg (c := ((mv 28) - (mv 28) / (2 : Int32) * (2 : Int32)) = (1 : Int32)) h13, if_neg (c := (mv 26) = (0 : Int32)) h17])
      · refine cv_aload_n K 0 d_Model_raiseLines_29 rfl rfl ?_
        refine cv_get K d_Model_raiseLines_30 0 47 rfl rfl in_Model (by decide) tm_880 rfl ?_
        refine cv_iconst (v := 2) K d_Model_raiseLines_33 rfl ?_
        refine cv_idiv K d_Model_raiseLines_34 (by decide) ?_
        refine cv_iconst (v := 1) K d_Model_raiseLines_35 rfl ?_
        refine cv_icmp_ne K d_Model_raiseLines_36 43 rfl (fun h21 => ?_) (fun h21 => ?_)
        · refine cv_iconst (v := 0) K d_Model_raiseLines_43 rfl ?_
          refine cv_zast K d_Model_raiseLines_44 [k_Model (md 0) (md 1) (md 2) (md 3) (md 4) (md 5) (md 6) (md 7) (md 8) (md 9) (md 10) (md 11) (md 12) (md 13) (md 14) (md 15) (md 16) (md 17) (md 18) mv mvL, k_arr (md 13) (mc 12) 8 (upd m_high ((1 : Int32).toNatClampNeg) (0 : Int32)), k_arr (md 14) (mc 13) 8 m_pending, k_arr (md 15) (mc 14) 8 m_service] 1 29 rfl (hmys 12 (by decide)) (j_in (1 : Int32) (by decide +kernel)) rfl rfl ?_
          refine cv_iconst (v := 1) K d_Model_raiseLines_45 rfl ?_
          refine cv_istore_n K d_Model_raiseLines_46 [(1, .int (1 : Int32)), (0, .ref (md 0))] rfl (by decide) rfl ?_
          have loop : ∀ (fu : Nat) (s_ : Int32) (m_high_ : Nat → Int32) (m_pending_ : Nat → Int32) (k : Nat) (hk : s_ = nI k) (hmm : k + fu = 9 ∧ k ≤ 8), (p_Model_raiseLines mv mvL m_high m_pending m_service) = p_Model_raiseLines_L mv mvL m_high m_pending m_service fu s_ m_high_ m_pending_ → cv_V p l e { frames := 0, cells := 0, slots := 0, locals := 0 } s m ([.ref (md 0)] : List Value).toArray below meth c 0 0 (MQ below (cv_Qv (dC, dI) vwCl tys A (p_Model_raiseLines mv mvL m_high m_pending m_service) (fun r => [k_Model (md 0) (md 1) (md 2) (md 3) (md 4) (md 5) (md 6) (md 7) (md 8) (md 9) (md 10) (md 11) (md 12) (md 13) (md 14) (md 15) (md 16) (md 17) (md 18) mv mvL, k_arr (md 13) (mc 12) 8 r.1, k_arr (md 14) (mc 13) 8 r.2, k_arr (md 15) (mc 14) 8 m_service])) ([.ref (md 0)] : List Value).toArray s 0 0 A) 2 (dC, dI) vwCl A 47 [(0, .ref (md 0)), (1, .int s_)] [] [k_Model (md 0) (md 1) (md 2) (md 3) (md 4) (md 5) (md 6) (md 7) (md 8) (md 9) (md 10) (md 11) (md 12) (md 13) (md 14) (md 15) (md 16) (md 17) (md 18) mv mvL, k_arr (md 13) (mc 12) 8 m_high_, k_arr (md 14) (mc 13) 8 m_pending_, k_arr (md 15) (mc 14) 8 m_service] := by
            intro fu
            induction fu with
            | zero => intro s_ m_high_ m_pending_ k hk hmm hE; exact absurd hmm (by omega)
            | succ fu ih =>
              intro s_ m_high_ m_pending_ k hk hmm hE
              refine cv_iload_n K 1 d_Model_raiseLines_47 rfl rfl ?_
              refine cv_bipush (v := 7) K d_Model_raiseLines_48 (by decide +kernel) ?_
              refine cv_icmp_gt K d_Model_raiseLines_50 84 rfl (fun h22 => ?_) (fun h22 => ?_)
              · exact cv_retv K hm d_Model_raiseLines_84 ((m_high_, m_pending_)) (hE.trans (by rw [p_Model_raiseLines_L, if_pos (c := (7 : Int32) < s_) h22])) rfl
              · refine cv_aload_n K 0 d_Model_raiseLines_53 rfl rfl ?_
                refine cv_get K d_Model_raiseLines_54 0 38 rfl rfl in_Model (by decide) tm_871 rfl ?_
                refine cv_iload_n K 1 d_Model_raiseLines_57 rfl rfl ?_
                refine cv_zald K d_Model_raiseLines_58 1 29 rfl (hmys 12 (by decide)) (by rw [hk]; exact vp_in_nI (by have := (lp_nlt (n := 7) hk rfl (by omega) (by omega) h22); omega) (by omega)) ?_
                refine cv_if_eq K d_Model_raiseLines_59 78 rfl (fun h23 => ?_) (fun h23 => ?_)
                · refine cv_iinc K d_Model_raiseLines_78 [(1, .int (s_ + (1 : Int32))), (0, .ref (md 0))] 1 rfl rfl (by decide) rfl ?_
                  refine cv_goto K d_Model_raiseLines_81 47 rfl ?_
                  refine cv_loc [1, 0] [(0, .ref (md 0)), (1, .int (s_ + (1 : Int32)))] rfl ?_
                  exact ih (s_ + (1 : Int32)) m_high_ m_pending_ (k + 1) (by rw [hk]; exact nI_1 k) (by have := (lp_nlt (n := 7) hk rfl (by omega) (by omega) h22); omega) (hE.trans (by rw [p_Model_raiseLines_L, if_neg (c := (7 : Int32) < s_) h22, if_pos (c := (m_high_ s_.toNatClampNeg) = (0 : Int32)) h23]))
                · refine cv_aload_n K 0 d_Model_raiseLines_62 rfl rfl ?_
                  refine cv_get K d_Model_raiseLines_63 0 40 rfl rfl in_Model (by decide) tm_873 rfl ?_
                  refine cv_iload_n K 1 d_Model_raiseLines_66 rfl rfl ?_
                  refine cv_zald K d_Model_raiseLines_67 3 31 rfl (hmys 14 (by decide)) (by rw [hk]; exact vp_in_nI (by have := (lp_nlt (n := 7) hk rfl (by omega) (by omega) h22); omega) (by omega)) ?_
                  refine cv_if_ne K d_Model_raiseLines_68 78 rfl (fun h24 => ?_) (fun h24 => ?_)
                  · refine cv_iinc K d_Model_raiseLines_78 [(1, .int (s_ + (1 : Int32))), (0, .ref (md 0))] 1 rfl rfl (by decide) rfl ?_
                    refine cv_goto K d_Model_raiseLines_81 47 rfl ?_
                    refine cv_loc [1, 0] [(0, .ref (md 0)), (1, .int (s_ + (1 : Int32)))] rfl ?_
                    exact ih (s_ + (1 : Int32)) m_high_ m_pending_ (k + 1) (by rw [hk]; exact nI_1 k) (by have := (lp_nlt (n := 7) hk rfl (by omega) (by omega) h22); omega) (hE.trans (by rw [p_Model_raiseLines_L, if_neg (c := (7 : Int32) < s_) h22, if_neg (c := (m_high_ s_.toNatClampNeg) = (0 : Int32)) h23, if_neg (c := (m_service s_.toNatClampNeg) = (0 : Int32)) h24]))
                  · refine cv_aload_n K 0 d_Model_raiseLines_71 rfl rfl ?_
                    refine cv_get K d_Model_raiseLines_72 0 39 rfl rfl in_Model (by decide) tm_872 rfl ?_
                    refine cv_iload_n K 1 d_Model_raiseLines_75 rfl rfl ?_
                    refine cv_iconst (v := 1) K d_Model_raiseLines_76 rfl ?_
                    refine cv_zast K d_Model_raiseLines_77 [k_Model (md 0) (md 1) (md 2) (md 3) (md 4) (md 5) (md 6) (md 7) (md 8) (md 9) (md 10) (md 11) (md 12) (md 13) (md 14) (md 15) (md 16) (md 17) (md 18) mv mvL, k_arr (md 13) (mc 12) 8 m_high_, k_arr (md 14) (mc 13) 8 (upd m_pending_ s_.toNatClampNeg (1 : Int32)), k_arr (md 15) (mc 14) 8 m_service] 2 30 rfl (hmys 13 (by decide)) (by rw [hk]; exact vp_in_nI (by have := (lp_nlt (n := 7) hk rfl (by omega) (by omega) h22); omega) (by omega)) rfl rfl ?_
                    refine cv_iinc K d_Model_raiseLines_78 [(1, .int (s_ + (1 : Int32))), (0, .ref (md 0))] 1 rfl rfl (by decide) rfl ?_
                    refine cv_goto K d_Model_raiseLines_81 47 rfl ?_
                    refine cv_loc [1, 0] [(0, .ref (md 0)), (1, .int (s_ + (1 : Int32)))] rfl ?_
                    exact ih (s_ + (1 : Int32)) m_high_ (upd m_pending_ s_.toNatClampNeg (1 : Int32)) (k + 1) (by rw [hk]; exact nI_1 k) (by have := (lp_nlt (n := 7) hk rfl (by omega) (by omega) h22); omega) (hE.trans (by rw [p_Model_raiseLines_L, if_neg (c := (7 : Int32) < s_) h22, if_neg (c := (m_high_ s_.toNatClampNeg) = (0 : Int32)) h23, if_pos (c := (m_service s_.toNatClampNeg) = (0 : Int32)) h24]))
          refine cv_loc [1, 0] [(0, .ref (md 0)), (1, .int (1 : Int32))] rfl ?_
          exact loop 8 (1 : Int32) (upd m_high ((1 : Int32).toNatClampNeg) (0 : Int32)) m_pending 1 rfl (by omega) (by rw [p_Model_raiseLines, if_neg (c := (mv 24) ≤ (0 : Int32)) h1, if_neg (c := ((mv 28) - (mv 28) / (2 : Int32) * (2 : Int32)) = (1 : Int32)) h13, if_pos (c := (mv 26) = (0 : Int32)) h17, if_neg (c := ((mv 28) / (2 : Int32)) = (1 : Int32)) h21])
        · refine cv_iconst (v := 1) K d_Model_raiseLines_39 rfl ?_
          refine cv_goto K d_Model_raiseLines_40 44 rfl ?_
          refine cv_zast K d_Model_raiseLines_44 [k_Model (md 0) (md 1) (md 2) (md 3) (md 4) (md 5) (md 6) (md 7) (md 8) (md 9) (md 10) (md 11) (md 12) (md 13) (md 14) (md 15) (md 16) (md 17) (md 18) mv mvL, k_arr (md 13) (mc 12) 8 (upd m_high ((1 : Int32).toNatClampNeg) (1 : Int32)), k_arr (md 14) (mc 13) 8 m_pending, k_arr (md 15) (mc 14) 8 m_service] 1 29 rfl (hmys 12 (by decide)) (j_in (1 : Int32) (by decide +kernel)) rfl rfl ?_
          refine cv_iconst (v := 1) K d_Model_raiseLines_45 rfl ?_
          refine cv_istore_n K d_Model_raiseLines_46 [(1, .int (1 : Int32)), (0, .ref (md 0))] rfl (by decide) rfl ?_
          have loop : ∀ (fu : Nat) (s_ : Int32) (m_high_ : Nat → Int32) (m_pending_ : Nat → Int32) (k : Nat) (hk : s_ = nI k) (hmm : k + fu = 9 ∧ k ≤ 8), (p_Model_raiseLines mv mvL m_high m_pending m_service) = p_Model_raiseLines_L mv mvL m_high m_pending m_service fu s_ m_high_ m_pending_ → cv_V p l e { frames := 0, cells := 0, slots := 0, locals := 0 } s m ([.ref (md 0)] : List Value).toArray below meth c 0 0 (MQ below (cv_Qv (dC, dI) vwCl tys A (p_Model_raiseLines mv mvL m_high m_pending m_service) (fun r => [k_Model (md 0) (md 1) (md 2) (md 3) (md 4) (md 5) (md 6) (md 7) (md 8) (md 9) (md 10) (md 11) (md 12) (md 13) (md 14) (md 15) (md 16) (md 17) (md 18) mv mvL, k_arr (md 13) (mc 12) 8 r.1, k_arr (md 14) (mc 13) 8 r.2, k_arr (md 15) (mc 14) 8 m_service])) ([.ref (md 0)] : List Value).toArray s 0 0 A) 2 (dC, dI) vwCl A 47 [(0, .ref (md 0)), (1, .int s_)] [] [k_Model (md 0) (md 1) (md 2) (md 3) (md 4) (md 5) (md 6) (md 7) (md 8) (md 9) (md 10) (md 11) (md 12) (md 13) (md 14) (md 15) (md 16) (md 17) (md 18) mv mvL, k_arr (md 13) (mc 12) 8 m_high_, k_arr (md 14) (mc 13) 8 m_pending_, k_arr (md 15) (mc 14) 8 m_service] := by
            intro fu
            induction fu with
            | zero => intro s_ m_high_ m_pending_ k hk hmm hE; exact absurd hmm (by omega)
            | succ fu ih =>
              intro s_ m_high_ m_pending_ k hk hmm hE
              refine cv_iload_n K 1 d_Model_raiseLines_47 rfl rfl ?_
              refine cv_bipush (v := 7) K d_Model_raiseLines_48 (by decide +kernel) ?_
              refine cv_icmp_gt K d_Model_raiseLines_50 84 rfl (fun h25 => ?_) (fun h25 => ?_)
              · exact cv_retv K hm d_Model_raiseLines_84 ((m_high_, m_pending_)) (hE.trans (by rw [p_Model_raiseLines_L, if_pos (c := (7 : Int32) < s_) h25])) rfl
              · refine cv_aload_n K 0 d_Model_raiseLines_53 rfl rfl ?_
                refine cv_get K d_Model_raiseLines_54 0 38 rfl rfl in_Model (by decide) tm_871 rfl ?_
                refine cv_iload_n K 1 d_Model_raiseLines_57 rfl rfl ?_
                refine cv_zald K d_Model_raiseLines_58 1 29 rfl (hmys 12 (by decide)) (by rw [hk]; exact vp_in_nI (by have := (lp_nlt (n := 7) hk rfl (by omega) (by omega) h25); omega) (by omega)) ?_
                refine cv_if_eq K d_Model_raiseLines_59 78 rfl (fun h26 => ?_) (fun h26 => ?_)
                · refine cv_iinc K d_Model_raiseLines_78 [(1, .int (s_ + (1 : Int32))), (0, .ref (md 0))] 1 rfl rfl (by decide) rfl ?_
                  refine cv_goto K d_Model_raiseLines_81 47 rfl ?_
                  refine cv_loc [1, 0] [(0, .ref (md 0)), (1, .int (s_ + (1 : Int32)))] rfl ?_
                  exact ih (s_ + (1 : Int32)) m_high_ m_pending_ (k + 1) (by rw [hk]; exact nI_1 k) (by have := (lp_nlt (n := 7) hk rfl (by omega) (by omega) h25); omega) (hE.trans (by rw [p_Model_raiseLines_L, if_neg (c := (7 : Int32) < s_) h25, if_pos (c := (m_high_ s_.toNatClampNeg) = (0 : Int32)) h26]))
                · refine cv_aload_n K 0 d_Model_raiseLines_62 rfl rfl ?_
                  refine cv_get K d_Model_raiseLines_63 0 40 rfl rfl in_Model (by decide) tm_873 rfl ?_
                  refine cv_iload_n K 1 d_Model_raiseLines_66 rfl rfl ?_
                  refine cv_zald K d_Model_raiseLines_67 3 31 rfl (hmys 14 (by decide)) (by rw [hk]; exact vp_in_nI (by have := (lp_nlt (n := 7) hk rfl (by omega) (by omega) h25); omega) (by omega)) ?_
                  refine cv_if_ne K d_Model_raiseLines_68 78 rfl (fun h27 => ?_) (fun h27 => ?_)
                  · refine cv_iinc K d_Model_raiseLines_78 [(1, .int (s_ + (1 : Int32))), (0, .ref (md 0))] 1 rfl rfl (by decide) rfl ?_
                    refine cv_goto K d_Model_raiseLines_81 47 rfl ?_
                    refine cv_loc [1, 0] [(0, .ref (md 0)), (1, .int (s_ + (1 : Int32)))] rfl ?_
                    exact ih (s_ + (1 : Int32)) m_high_ m_pending_ (k + 1) (by rw [hk]; exact nI_1 k) (by have := (lp_nlt (n := 7) hk rfl (by omega) (by omega) h25); omega) (hE.trans (by rw [p_Model_raiseLines_L, if_neg (c := (7 : Int32) < s_) h25, if_neg (c := (m_high_ s_.toNatClampNeg) = (0 : Int32)) h26, if_neg (c := (m_service s_.toNatClampNeg) = (0 : Int32)) h27]))
                  · refine cv_aload_n K 0 d_Model_raiseLines_71 rfl rfl ?_
                    refine cv_get K d_Model_raiseLines_72 0 39 rfl rfl in_Model (by decide) tm_872 rfl ?_
                    refine cv_iload_n K 1 d_Model_raiseLines_75 rfl rfl ?_
                    refine cv_iconst (v := 1) K d_Model_raiseLines_76 rfl ?_
                    refine cv_zast K d_Model_raiseLines_77 [k_Model (md 0) (md 1) (md 2) (md 3) (md 4) (md 5) (md 6) (md 7) (md 8) (md 9) (md 10) (md 11) (md 12) (md 13) (md 14) (md 15) (md 16) (md 17) (md 18) mv mvL, k_arr (md 13) (mc 12) 8 m_high_, k_arr (md 14) (mc 13) 8 (upd m_pending_ s_.toNatClampNeg (1 : Int32)), k_arr (md 15) (mc 14) 8 m_service] 2 30 rfl (hmys 13 (by decide)) (by rw [hk]; exact vp_in_nI (by have := (lp_nlt (n := 7) hk rfl (by omega) (by omega) h25); omega) (by omega)) rfl rfl ?_
                    refine cv_iinc K d_Model_raiseLines_78 [(1, .int (s_ + (1 : Int32))), (0, .ref (md 0))] 1 rfl rfl (by decide) rfl ?_
                    refine cv_goto K d_Model_raiseLines_81 47 rfl ?_
                    refine cv_loc [1, 0] [(0, .ref (md 0)), (1, .int (s_ + (1 : Int32)))] rfl ?_
                    exact ih (s_ + (1 : Int32)) m_high_ (upd m_pending_ s_.toNatClampNeg (1 : Int32)) (k + 1) (by rw [hk]; exact nI_1 k) (by have := (lp_nlt (n := 7) hk rfl (by omega) (by omega) h25); omega) (hE.trans (by rw [p_Model_raiseLines_L, if_neg (c := (7 : Int32) < s_) h25, if_neg (c := (m_high_ s_.toNatClampNeg) = (0 : Int32)) h26, if_pos (c := (m_service s_.toNatClampNeg) = (0 : Int32)) h27]))
          refine cv_loc [1, 0] [(0, .ref (md 0)), (1, .int (1 : Int32))] rfl ?_
          exact loop 8 (1 : Int32) (upd m_high ((1 : Int32).toNatClampNeg) (1 : Int32)) m_pending 1 rfl (by omega) (by rw [p_Model_raiseLines, if_neg (c := (mv 24) ≤ (0 : Int32)) h1, if_neg (c := ((mv 28) - (mv 28) / (2 : Int32) * (2 : Int32)) = (1 : Int32)) h13, if_pos (c := (mv 26) = (0 : Int32)) h17, if_pos (c := ((mv 28) / (2 : Int32)) = (1 : Int32)) h21])
-- CycleChipModel.fill(II)V
def p_Model_fill_L (mv : Nat → Int32) (mvL : Nat → Int64) (m_memory : Nat → Int32) (m_kept : Nat → Int32) (m_copy : Nat → Int32) (kd : Int32) (bk : Int32) : Nat → (Int32) → (Int32) → (Nat → Int32) → (Nat → Int32) → (Nat → Int32) × (Nat → Int32)
  | 0, b_, p_, m_kept_, m_copy_ => (m_kept_, m_copy_)
  | fu + 1, b_, p_, m_kept_, m_copy_ => if (128 : Int32) ≤ p_ then (m_kept_, m_copy_) else if ((p_ / (4 : Int32)) - (p_ / (4 : Int32)) / (mv 1) * (mv 1)) = (bk - bk / (mv 1) * (mv 1)) then if (p_ / (4 : Int32)) = bk then (fun b_ p_ m_kept_ m_copy_ => p_Model_fill_L mv mvL m_memory m_kept m_copy kd bk fu b_ p_ m_kept_ m_copy_) b_ (p_ + (1 : Int32)) (upd m_kept_ ((b_ + p_).toNatClampNeg) (1 : Int32)) (upd m_copy_ ((b_ + p_).toNatClampNeg) (m_memory p_.toNatClampNeg)) else (fun b_ p_ m_kept_ m_copy_ => p_Model_fill_L mv mvL m_memory m_kept m_copy kd bk fu b_ p_ m_kept_ m_copy_) b_ (p_ + (1 : Int32)) (upd m_kept_ ((b_ + p_).toNatClampNeg) (0 : Int32)) (upd m_copy_ ((b_ + p_).toNatClampNeg) (m_memory p_.toNatClampNeg)) else (fun b_ p_ m_kept_ m_copy_ => p_Model_fill_L mv mvL m_memory m_kept m_copy kd bk fu b_ p_ m_kept_ m_copy_) b_ (p_ + (1 : Int32)) m_kept_ m_copy_
def p_Model_fill (mv : Nat → Int32) (mvL : Nat → Int64) (m_memory : Nat → Int32) (m_kept : Nat → Int32) (m_copy : Nat → Int32) (kd : Int32) (bk : Int32) : (Nat → Int32) × (Nat → Int32) := if kd = (1 : Int32) then p_Model_fill_L mv mvL m_memory m_kept m_copy kd bk 129 (0 : Int32) (0 : Int32) m_kept m_copy else p_Model_fill_L mv mvL m_memory m_kept m_copy kd bk 129 (128 : Int32) (0 : Int32) m_kept m_copy
set_option maxRecDepth 100000 in
set_option maxHeartbeats 4000000 in
theorem m_Model_fill (l : Launch) (dC : Nat → ClassId) (dI : Nat → Nat → Nat) (tys : List (ClassId × FieldType)) (md : Nat → Nat) (mc : Nat → ClassId) (n : Nat) (hmys : ∀ k, k < 18 → tys[17 + k]? = some (mc k, mty k)) (mv : Nat → Int32) (mvL : Nat → Int64) (m_memory : Nat → Int32) (m_kept : Nat → Int32) (m_copy : Nat → Int32) (kd : Int32) (bk : Int32) (hml : mv 1 = nI n) (hn : 0 < n) (hn8 : n ≤ 8) : cv_Mv l y_Model_fill (Cond.code y_Model_fill c_Model_fill 5 (none) :: gw) { frames := 0, cells := 0, slots := 0, locals := 0 } (dC, dI) vwCl tys [.ref (md 0), .int kd, .int bk] [k_Model (md 0) (md 1) (md 2) (md 3) (md 4) (md 5) (md 6) (md 7) (md 8) (md 9) (md 10) (md 11) (md 12) (md 13) (md 14) (md 15) (md 16) (md 17) (md 18) mv mvL, k_arr (md 3) (mc 2) 128 m_memory, k_arr (md 4) (mc 3) 256 m_kept, k_arr (md 5) (mc 4) 256 m_copy] (p_Model_fill mv mvL m_memory m_kept m_copy kd bk) (fun r => [k_Model (md 0) (md 1) (md 2) (md 3) (md 4) (md 5) (md 6) (md 7) (md 8) (md 9) (md 10) (md 11) (md 12) (md 13) (md 14) (md 15) (md 16) (md 17) (md 18) mv mvL, k_arr (md 3) (mc 2) 128 m_memory, k_arr (md 4) (mc 3) 256 r.1, k_arr (md 5) (mc 4) 256 r.2]) := by
  refine cv_startv (by decide) (Nat.le_of_ble_eq_true rfl) [(0, .ref (md 0)), (1, .int kd), (2, .int bk)] rfl ?_
  intro p e s m below meth c A K hm
  refine cv_iload_n K 1 d_Model_fill_0 rfl rfl ?_
  refine cv_iconst (v := 1) K d_Model_fill_1 rfl ?_
  refine cv_icmp_ne K d_Model_fill_2 9 rfl (fun h1 => ?_) (fun h1 => ?_)
  · refine cv_sipush (v := 128) K d_Model_fill_9 (by decide +kernel) ?_
    refine cv_istore_n K d_Model_fill_12 [(3, .int (128 : Int32)), (0, .ref (md 0)), (1, .int kd), (2, .int bk)] rfl (by decide) rfl ?_
    refine cv_iconst (v := 0) K d_Model_fill_13 rfl ?_
    refine cv_istore K d_Model_fill_14 [(4, .int (0 : Int32)), (3, .int (128 : Int32)), (0, .ref (md 0)), (1, .int kd), (2, .int bk)] (by decide) rfl ?_
    have loop : ∀ (fu : Nat) (b_ : Int32) (p_ : Int32) (m_kept_ : Nat → Int32) (m_copy_ : Nat → Int32) (b : Nat) (k : Nat) (hb : b_ = nI b) (hk : p_ = nI k) (hmm : k + fu = 129 ∧ k ≤ 128 ∧ b ≤ 128), (p_Model_fill mv mvL m_memory m_kept m_copy kd bk) = p_Model_fill_L mv mvL m_memory m_kept m_copy kd bk fu b_ p_ m_kept_ m_copy_ → cv_V p l e { frames := 0, cells := 0, slots := 0, locals := 0 } s m ([.ref (md 0), .int kd, .int bk] : List Value).toArray below meth c 0 0 (MQ below (cv_Qv (dC, dI) vwCl tys A (p_Model_fill mv mvL m_memory m_kept m_copy kd bk) (fun r => [k_Model (md 0) (md 1) (md 2) (md 3) (md 4) (md 5) (md 6) (md 7) (md 8) (md 9) (md 10) (md 11) (md 12) (md 13) (md 14) (md 15) (md 16) (md 17) (md 18) mv mvL, k_arr (md 3) (mc 2) 128 m_memory, k_arr (md 4) (mc 3) 256 r.1, k_arr (md 5) (mc 4) 256 r.2])) ([.ref (md 0), .int kd, .int bk] : List Value).toArray s 0 0 A) 5 (dC, dI) vwCl A 16 [(0, .ref (md 0)), (1, .int kd), (2, .int bk), (3, .int b_), (4, .int p_)] [] [k_Model (md 0) (md 1) (md 2) (md 3) (md 4) (md 5) (md 6) (md 7) (md 8) (md 9) (md 10) (md 11) (md 12) (md 13) (md 14) (md 15) (md 16) (md 17) (md 18) mv mvL, k_arr (md 3) (mc 2) 128 m_memory, k_arr (md 4) (mc 3) 256 m_kept_, k_arr (md 5) (mc 4) 256 m_copy_] := by
      intro fu
      induction fu with
      | zero => intro b_ p_ m_kept_ m_copy_ b k hb hk hmm hE; exact absurd hmm (by omega)
      | succ fu ih =>
        intro b_ p_ m_kept_ m_copy_ b k hb hk hmm hE
        refine cv_iload K 4 d_Model_fill_16 rfl ?_
        refine cv_sipush (v := 128) K d_Model_fill_18 (by decide +kernel) ?_
        refine cv_icmp_ge K d_Model_fill_21 86 rfl (fun h2 => ?_) (fun h2 => ?_)
        · exact cv_retv K hm d_Model_fill_86 ((m_kept_, m_copy_)) (hE.trans (by rw [p_Model_fill_L, if_pos (c := (128 : Int32) ≤ p_) h2])) rfl
        · refine cv_iload K 4 d_Model_fill_24 rfl ?_
          refine cv_iconst (v := 4) K d_Model_fill_26 rfl ?_
          refine cv_idiv K d_Model_fill_27 (by decide) ?_
          refine cv_aload_n K 0 d_Model_fill_28 rfl rfl ?_
          refine cv_get K d_Model_fill_29 0 1 rfl rfl in_Model (by decide) tm_834 rfl ?_
          refine cv_irem K d_Model_fill_32 (ix_nz hml hn hn8) ?_
          refine cv_iload_n K 2 d_Model_fill_33 rfl rfl ?_
          refine cv_aload_n K 0 d_Model_fill_34 rfl rfl ?_
          refine cv_get K d_Model_fill_35 0 1 rfl rfl in_Model (by decide) tm_834 rfl ?_
          refine cv_irem K d_Model_fill_38 (ix_nz hml hn hn8) ?_
          refine cv_icmp_ne K d_Model_fill_39 80 rfl (fun h3 => ?_) (fun h3 => ?_)
          · refine cv_iinc K d_Model_fill_80 [(4, .int (p_ + (1 : Int32))), (0, .ref (md 0)), (1, .int kd), (2, .int bk), (3, .int b_)] 4 rfl rfl (by decide) rfl ?_
            refine cv_goto K d_Model_fill_83 16 rfl ?_
            refine cv_loc [1, 2, 3, 4, 0] [(0, .ref (md 0)), (1, .int kd), (2, .int bk), (3, .int b_), (4, .int (p_ + (1 : Int32)))] rfl ?_
            exact ih b_ (p_ + (1 : Int32)) m_kept_ m_copy_ b (k + 1) hb (by rw [hk]; exact nI_1 k) (by have := (mi_idx (c := 128) hk rfl (by omega) (by omega) h2); omega) (hE.trans (by rw [p_Model_fill_L, if_neg (c := (128 : Int32) ≤ p_) h2, if_neg (c := ((p_ / (4 : Int32)) - (p_ / (4 : Int32)) / (mv 1) * (mv 1)) = (bk - bk / (mv 1) * (mv 1))) h3]))
          · refine cv_aload_n K 0 d_Model_fill_42 rfl rfl ?_
            refine cv_get K d_Model_fill_43 0 8 rfl rfl in_Model (by decide) tm_841 rfl ?_
            refine cv_iload_n K 3 d_Model_fill_46 rfl rfl ?_
            refine cv_iload K 4 d_Model_fill_47 rfl ?_
            refine cv_iadd K d_Model_fill_49 ?_
            refine cv_iload K 4 d_Model_fill_50 rfl ?_
            refine cv_iconst (v := 4) K d_Model_fill_52 rfl ?_
            refine cv_idiv K d_Model_fill_53 (by decide) ?_
            refine cv_iload_n K 2 d_Model_fill_54 rfl rfl ?_
            refine cv_icmp_ne K d_Model_fill_55 62 rfl (fun h4 => ?_) (fun h4 => ?_)
            · refine cv_iconst (v := 0) K d_Model_fill_62 rfl ?_
              refine cv_zast K d_Model_fill_63 [k_Model (md 0) (md 1) (md 2) (md 3) (md 4) (md 5) (md 6) (md 7) (md 8) (md 9) (md 10) (md 11) (md 12) (md 13) (md 14) (md 15) (md 16) (md 17) (md 18) mv mvL, k_arr (md 3) (mc 2) 128 m_memory, k_arr (md 4) (mc 3) 256 (upd m_kept_ ((b_ + p_).toNatClampNeg) (0 : Int32)), k_arr (md 5) (mc 4) 256 m_copy_] 2 20 rfl (hmys 3 (by decide)) (mi_bp hb hk hmm.2.2 (mi_idx (c := 128) hk rfl (by omega) (by omega) h2)) rfl rfl ?_
              refine cv_aload_n K 0 d_Model_fill_64 rfl rfl ?_
              refine cv_get K d_Model_fill_65 0 9 rfl rfl in_Model (by decide) tm_842 rfl ?_
              refine cv_iload_n K 3 d_Model_fill_68 rfl rfl ?_
              refine cv_iload K 4 d_Model_fill_69 rfl ?_
              refine cv_iadd K d_Model_fill_71 ?_
              refine cv_aload_n K 0 d_Model_fill_72 rfl rfl ?_
              refine cv_get K d_Model_fill_73 0 7 rfl rfl in_Model (by decide) tm_840 rfl ?_
              refine cv_iload K 4 d_Model_fill_76 rfl ?_
              refine cv_iald K d_Model_fill_78 1 19 rfl (hmys 2 (by decide)) (by rw [hk]; exact vp_in_nI (mi_idx (c := 128) hk rfl (by omega) (by omega) h2) (by omega)) ?_
              refine cv_iast K d_Model_fill_79 [k_Model (md 0) (md 1) (md 2) (md 3) (md 4) (md 5) (md 6) (md 7) (md 8) (md 9) (md 10) (md 11) (md 12) (md 13) (md 14) (md 15) (md 16) (md 17) (md 18) mv mvL, k_arr (md 3) (mc 2) 128 m_memory, k_arr (md 4) (mc 3) 256 (upd m_kept_ ((b_ + p_).toNatClampNeg) (0 : Int32)), k_arr (md 5) (mc 4) 256 (upd m_copy_ ((b_ + p_).toNatClampNeg) (m_memory p_.toNatClampNeg))] 3 21 rfl (hmys 4 (by decide)) (mi_bp hb hk hmm.2.2 (mi_idx (c := 128) hk rfl (by omega) (by omega) h2)) rfl ?_
              refine cv_iinc K d_Model_fill_80 [(4, .int (p_ + (1 : Int32))), (0, .ref (md 0)), (1, .int kd), (2, .int bk), (3, .int b_)] 4 rfl rfl (by decide) rfl ?_
              refine cv_goto K d_Model_fill_83 16 rfl ?_
              refine cv_loc [1, 2, 3, 4, 0] [(0, .ref (md 0)), (1, .int kd), (2, .int bk), (3, .int b_), (4, .int (p_ + (1 : Int32)))] rfl ?_
              exact ih b_ (p_ + (1 : Int32)) (upd m_kept_ ((b_ + p_).toNatClampNeg) (0 : Int32)) (upd m_copy_ ((b_ + p_).toNatClampNeg) (m_memory p_.toNatClampNeg)) b (k + 1) hb (by rw [hk]; exact nI_1 k) (by have := (mi_idx (c := 128) hk rfl (by omega) (by omega) h2); omega) (hE.trans (by rw [p_Model_fill_L, if_neg (c := (128 : Int32) ≤ p_) h2, if_pos (c := ((p_ / (4 : Int32)) - (p_ / (4 : Int32)) / (mv 1) * (mv 1)) = (bk - bk / (mv 1) * (mv 1))) h3, if_neg (c := (p_ / (4 : Int32)) = bk) h4]))
            · refine cv_iconst (v := 1) K d_Model_fill_58 rfl ?_
              refine cv_goto K d_Model_fill_59 63 rfl ?_
              refine cv_zast K d_Model_fill_63 [k_Model (md 0) (md 1) (md 2) (md 3) (md 4) (md 5) (md 6) (md 7) (md 8) (md 9) (md 10) (md 11) (md 12) (md 13) (md 14) (md 15) (md 16) (md 17) (md 18) mv mvL, k_arr (md 3) (mc 2) 128 m_memory, k_arr (md 4) (mc 3) 256 (upd m_kept_ ((b_ + p_).toNatClampNeg) (1 : Int32)), k_arr (md 5) (mc 4) 256 m_copy_] 2 20 rfl (hmys 3 (by decide)) (mi_bp hb hk hmm.2.2 (mi_idx (c := 128) hk rfl (by omega) (by omega) h2)) rfl rfl ?_
              refine cv_aload_n K 0 d_Model_fill_64 rfl rfl ?_
              refine cv_get K d_Model_fill_65 0 9 rfl rfl in_Model (by decide) tm_842 rfl ?_
              refine cv_iload_n K 3 d_Model_fill_68 rfl rfl ?_
              refine cv_iload K 4 d_Model_fill_69 rfl ?_
              refine cv_iadd K d_Model_fill_71 ?_
              refine cv_aload_n K 0 d_Model_fill_72 rfl rfl ?_
              refine cv_get K d_Model_fill_73 0 7 rfl rfl in_Model (by decide) tm_840 rfl ?_
              refine cv_iload K 4 d_Model_fill_76 rfl ?_
              refine cv_iald K d_Model_fill_78 1 19 rfl (hmys 2 (by decide)) (by rw [hk]; exact vp_in_nI (mi_idx (c := 128) hk rfl (by omega) (by omega) h2) (by omega)) ?_
              refine cv_iast K d_Model_fill_79 [k_Model (md 0) (md 1) (md 2) (md 3) (md 4) (md 5) (md 6) (md 7) (md 8) (md 9) (md 10) (md 11) (md 12) (md 13) (md 14) (md 15) (md 16) (md 17) (md 18) mv mvL, k_arr (md 3) (mc 2) 128 m_memory, k_arr (md 4) (mc 3) 256 (upd m_kept_ ((b_ + p_).toNatClampNeg) (1 : Int32)), k_arr (md 5) (mc 4) 256 (upd m_copy_ ((b_ + p_).toNatClampNeg) (m_memory p_.toNatClampNeg))] 3 21 rfl (hmys 4 (by decide)) (mi_bp hb hk hmm.2.2 (mi_idx (c := 128) hk rfl (by omega) (by omega) h2)) rfl ?_
              refine cv_iinc K d_Model_fill_80 [(4, .int (p_ + (1 : Int32))), (0, .ref (md 0)), (1, .int kd), (2, .int bk), (3, .int b_)] 4 rfl rfl (by decide) rfl ?_
              refine cv_goto K d_Model_fill_83 16 rfl ?_
              refine cv_loc [1, 2, 3, 4, 0] [(0, .ref (md 0)), (1, .int kd), (2, .int bk), (3, .int b_), (4, .int (p_ + (1 : Int32)))] rfl ?_
              exact ih b_ (p_ + (1 : Int32)) (upd m_kept_ ((b_ + p_).toNatClampNeg) (1 : Int32)) (upd m_copy_ ((b_ + p_).toNatClampNeg) (m_memory p_.toNatClampNeg)) b (k + 1) hb (by rw [hk]; exact nI_1 k) (by have := (mi_idx (c := 128) hk rfl (by omega) (by omega) h2); omega) (hE.trans (by rw [p_Model_fill_L, if_neg (c := (128 : Int32) ≤ p_) h2, if_pos (c := ((p_ / (4 : Int32)) - (p_ / (4 : Int32)) / (mv 1) * (mv 1)) = (bk - bk / (mv 1) * (mv 1))) h3, if_pos (c := (p_ / (4 : Int32)) = bk) h4]))
    refine cv_loc [2, 3, 4, 1, 0] [(0, .ref (md 0)), (1, .int kd), (2, .int bk), (3, .int (128 : Int32)), (4, .int (0 : Int32))] rfl ?_
    exact loop 129 (128 : Int32) (0 : Int32) m_kept m_copy 128 0 rfl rfl (by omega) (by rw [p_Model_fill, if_neg (c := kd = (1 : Int32)) h1])
  · refine cv_iconst (v := 0) K d_Model_fill_5 rfl ?_
    refine cv_goto K d_Model_fill_6 12 rfl ?_
    refine cv_istore_n K d_Model_fill_12 [(3, .int (0 : Int32)), (0, .ref (md 0)), (1, .int kd), (2, .int bk)] rfl (by decide) rfl ?_
    refine cv_iconst (v := 0) K d_Model_fill_13 rfl ?_
    refine cv_istore K d_Model_fill_14 [(4, .int (0 : Int32)), (3, .int (0 : Int32)), (0, .ref (md 0)), (1, .int kd), (2, .int bk)] (by decide) rfl ?_
    have loop : ∀ (fu : Nat) (b_ : Int32) (p_ : Int32) (m_kept_ : Nat → Int32) (m_copy_ : Nat → Int32) (b : Nat) (k : Nat) (hb : b_ = nI b) (hk : p_ = nI k) (hmm : k + fu = 129 ∧ k ≤ 128 ∧ b ≤ 128), (p_Model_fill mv mvL m_memory m_kept m_copy kd bk) = p_Model_fill_L mv mvL m_memory m_kept m_copy kd bk fu b_ p_ m_kept_ m_copy_ → cv_V p l e { frames := 0, cells := 0, slots := 0, locals := 0 } s m ([.ref (md 0), .int kd, .int bk] : List Value).toArray below meth c 0 0 (MQ below (cv_Qv (dC, dI) vwCl tys A (p_Model_fill mv mvL m_memory m_kept m_copy kd bk) (fun r => [k_Model (md 0) (md 1) (md 2) (md 3) (md 4) (md 5) (md 6) (md 7) (md 8) (md 9) (md 10) (md 11) (md 12) (md 13) (md 14) (md 15) (md 16) (md 17) (md 18) mv mvL, k_arr (md 3) (mc 2) 128 m_memory, k_arr (md 4) (mc 3) 256 r.1, k_arr (md 5) (mc 4) 256 r.2])) ([.ref (md 0), .int kd, .int bk] : List Value).toArray s 0 0 A) 5 (dC, dI) vwCl A 16 [(0, .ref (md 0)), (1, .int kd), (2, .int bk), (3, .int b_), (4, .int p_)] [] [k_Model (md 0) (md 1) (md 2) (md 3) (md 4) (md 5) (md 6) (md 7) (md 8) (md 9) (md 10) (md 11) (md 12) (md 13) (md 14) (md 15) (md 16) (md 17) (md 18) mv mvL, k_arr (md 3) (mc 2) 128 m_memory, k_arr (md 4) (mc 3) 256 m_kept_, k_arr (md 5) (mc 4) 256 m_copy_] := by
      intro fu
      induction fu with
      | zero => intro b_ p_ m_kept_ m_copy_ b k hb hk hmm hE; exact absurd hmm (by omega)
      | succ fu ih =>
        intro b_ p_ m_kept_ m_copy_ b k hb hk hmm hE
        refine cv_iload K 4 d_Model_fill_16 rfl ?_
        refine cv_sipush (v := 128) K d_Model_fill_18 (by decide +kernel) ?_
        refine cv_icmp_ge K d_Model_fill_21 86 rfl (fun h5 => ?_) (fun h5 => ?_)
        · exact cv_retv K hm d_Model_fill_86 ((m_kept_, m_copy_)) (hE.trans (by rw [p_Model_fill_L, if_pos (c := (128 : Int32) ≤ p_) h5])) rfl
        · refine cv_iload K 4 d_Model_fill_24 rfl ?_
          refine cv_iconst (v := 4) K d_Model_fill_26 rfl ?_
          refine cv_idiv K d_Model_fill_27 (by decide) ?_
          refine cv_aload_n K 0 d_Model_fill_28 rfl rfl ?_
          refine cv_get K d_Model_fill_29 0 1 rfl rfl in_Model (by decide) tm_834 rfl ?_
          refine cv_irem K d_Model_fill_32 (ix_nz hml hn hn8) ?_
          refine cv_iload_n K 2 d_Model_fill_33 rfl rfl ?_
          refine cv_aload_n K 0 d_Model_fill_34 rfl rfl ?_
          refine cv_get K d_Model_fill_35 0 1 rfl rfl in_Model (by decide) tm_834 rfl ?_
          refine cv_irem K d_Model_fill_38 (ix_nz hml hn hn8) ?_
          refine cv_icmp_ne K d_Model_fill_39 80 rfl (fun h6 => ?_) (fun h6 => ?_)
          · refine cv_iinc K d_Model_fill_80 [(4, .int (p_ + (1 : Int32))), (0, .ref (md 0)), (1, .int kd), (2, .int bk), (3, .int b_)] 4 rfl rfl (by decide) rfl ?_
            refine cv_goto K d_Model_fill_83 16 rfl ?_
            refine cv_loc [1, 2, 3, 4, 0] [(0, .ref (md 0)), (1, .int kd), (2, .int bk), (3, .int b_), (4, .int (p_ + (1 : Int32)))] rfl ?_
            exact ih b_ (p_ + (1 : Int32)) m_kept_ m_copy_ b (k + 1) hb (by rw [hk]; exact nI_1 k) (by have := (mi_idx (c := 128) hk rfl (by omega) (by omega) h5); omega) (hE.trans (by rw [p_Model_fill_L, if_neg (c := (128 : Int32) ≤ p_) h5, if_neg (c := ((p_ / (4 : Int32)) - (p_ / (4 : Int32)) / (mv 1) * (mv 1)) = (bk - bk / (mv 1) * (mv 1))) h6]))
          · refine cv_aload_n K 0 d_Model_fill_42 rfl rfl ?_
            refine cv_get K d_Model_fill_43 0 8 rfl rfl in_Model (by decide) tm_841 rfl ?_
            refine cv_iload_n K 3 d_Model_fill_46 rfl rfl ?_
            refine cv_iload K 4 d_Model_fill_47 rfl ?_
            refine cv_iadd K d_Model_fill_49 ?_
            refine cv_iload K 4 d_Model_fill_50 rfl ?_
            refine cv_iconst (v := 4) K d_Model_fill_52 rfl ?_
            refine cv_idiv K d_Model_fill_53 (by decide) ?_
            refine cv_iload_n K 2 d_Model_fill_54 rfl rfl ?_
            refine cv_icmp_ne K d_Model_fill_55 62 rfl (fun h7 => ?_) (fun h7 => ?_)
            · refine cv_iconst (v := 0) K d_Model_fill_62 rfl ?_
              refine cv_zast K d_Model_fill_63 [k_Model (md 0) (md 1) (md 2) (md 3) (md 4) (md 5) (md 6) (md 7) (md 8) (md 9) (md 10) (md 11) (md 12) (md 13) (md 14) (md 15) (md 16) (md 17) (md 18) mv mvL, k_arr (md 3) (mc 2) 128 m_memory, k_arr (md 4) (mc 3) 256 (upd m_kept_ ((b_ + p_).toNatClampNeg) (0 : Int32)), k_arr (md 5) (mc 4) 256 m_copy_] 2 20 rfl (hmys 3 (by decide)) (mi_bp hb hk hmm.2.2 (mi_idx (c := 128) hk rfl (by omega) (by omega) h5)) rfl rfl ?_
              refine cv_aload_n K 0 d_Model_fill_64 rfl rfl ?_
              refine cv_get K d_Model_fill_65 0 9 rfl rfl in_Model (by decide) tm_842 rfl ?_
              refine cv_iload_n K 3 d_Model_fill_68 rfl rfl ?_
              refine cv_iload K 4 d_Model_fill_69 rfl ?_
              refine cv_iadd K d_Model_fill_71 ?_
              refine cv_aload_n K 0 d_Model_fill_72 rfl rfl ?_
              refine cv_get K d_Model_fill_73 0 7 rfl rfl in_Model (by decide) tm_840 rfl ?_
              refine cv_iload K 4 d_Model_fill_76 rfl ?_
              refine cv_iald K d_Model_fill_78 1 19 rfl (hmys 2 (by decide)) (by rw [hk]; exact vp_in_nI (mi_idx (c := 128) hk rfl (by omega) (by omega) h5) (by omega)) ?_
              refine cv_iast K d_Model_fill_79 [k_Model (md 0) (md 1) (md 2) (md 3) (md 4) (md 5) (md 6) (md 7) (md 8) (md 9) (md 10) (md 11) (md 12) (md 13) (md 14) (md 15) (md 16) (md 17) (md 18) mv mvL, k_arr (md 3) (mc 2) 128 m_memory, k_arr (md 4) (mc 3) 256 (upd m_kept_ ((b_ + p_).toNatClampNeg) (0 : Int32)), k_arr (md 5) (mc 4) 256 (upd m_copy_ ((b_ + p_).toNatClampNeg) (m_memory p_.toNatClampNeg))] 3 21 rfl (hmys 4 (by decide)) (mi_bp hb hk hmm.2.2 (mi_idx (c := 128) hk rfl (by omega) (by omega) h5)) rfl ?_
              refine cv_iinc K d_Model_fill_80 [(4, .int (p_ + (1 : Int32))), (0, .ref (md 0)), (1, .int kd), (2, .int bk), (3, .int b_)] 4 rfl rfl (by decide) rfl ?_
              refine cv_goto K d_Model_fill_83 16 rfl ?_
              refine cv_loc [1, 2, 3, 4, 0] [(0, .ref (md 0)), (1, .int kd), (2, .int bk), (3, .int b_), (4, .int (p_ + (1 : Int32)))] rfl ?_
              exact ih b_ (p_ + (1 : Int32)) (upd m_kept_ ((b_ + p_).toNatClampNeg) (0 : Int32)) (upd m_copy_ ((b_ + p_).toNatClampNeg) (m_memory p_.toNatClampNeg)) b (k + 1) hb (by rw [hk]; exact nI_1 k) (by have := (mi_idx (c := 128) hk rfl (by omega) (by omega) h5); omega) (hE.trans (by rw [p_Model_fill_L, if_neg (c := (128 : Int32) ≤ p_) h5, if_pos (c := ((p_ / (4 : Int32)) - (p_ / (4 : Int32)) / (mv 1) * (mv 1)) = (bk - bk / (mv 1) * (mv 1))) h6, if_neg (c := (p_ / (4 : Int32)) = bk) h7]))
            · refine cv_iconst (v := 1) K d_Model_fill_58 rfl ?_
              refine cv_goto K d_Model_fill_59 63 rfl ?_
              refine cv_zast K d_Model_fill_63 [k_Model (md 0) (md 1) (md 2) (md 3) (md 4) (md 5) (md 6) (md 7) (md 8) (md 9) (md 10) (md 11) (md 12) (md 13) (md 14) (md 15) (md 16) (md 17) (md 18) mv mvL, k_arr (md 3) (mc 2) 128 m_memory, k_arr (md 4) (mc 3) 256 (upd m_kept_ ((b_ + p_).toNatClampNeg) (1 : Int32)), k_arr (md 5) (mc 4) 256 m_copy_] 2 20 rfl (hmys 3 (by decide)) (mi_bp hb hk hmm.2.2 (mi_idx (c := 128) hk rfl (by omega) (by omega) h5)) rfl rfl ?_
              refine cv_aload_n K 0 d_Model_fill_64 rfl rfl ?_
              refine cv_get K d_Model_fill_65 0 9 rfl rfl in_Model (by decide) tm_842 rfl ?_
              refine cv_iload_n K 3 d_Model_fill_68 rfl rfl ?_
              refine cv_iload K 4 d_Model_fill_69 rfl ?_
              refine cv_iadd K d_Model_fill_71 ?_
              refine cv_aload_n K 0 d_Model_fill_72 rfl rfl ?_
              refine cv_get K d_Model_fill_73 0 7 rfl rfl in_Model (by decide) tm_840 rfl ?_
              refine cv_iload K 4 d_Model_fill_76 rfl ?_
              refine cv_iald K d_Model_fill_78 1 19 rfl (hmys 2 (by decide)) (by rw [hk]; exact vp_in_nI (mi_idx (c := 128) hk rfl (by omega) (by omega) h5) (by omega)) ?_
              refine cv_iast K d_Model_fill_79 [k_Model (md 0) (md 1) (md 2) (md 3) (md 4) (md 5) (md 6) (md 7) (md 8) (md 9) (md 10) (md 11) (md 12) (md 13) (md 14) (md 15) (md 16) (md 17) (md 18) mv mvL, k_arr (md 3) (mc 2) 128 m_memory, k_arr (md 4) (mc 3) 256 (upd m_kept_ ((b_ + p_).toNatClampNeg) (1 : Int32)), k_arr (md 5) (mc 4) 256 (upd m_copy_ ((b_ + p_).toNatClampNeg) (m_memory p_.toNatClampNeg))] 3 21 rfl (hmys 4 (by decide)) (mi_bp hb hk hmm.2.2 (mi_idx (c := 128) hk rfl (by omega) (by omega) h5)) rfl ?_
              refine cv_iinc K d_Model_fill_80 [(4, .int (p_ + (1 : Int32))), (0, .ref (md 0)), (1, .int kd), (2, .int bk), (3, .int b_)] 4 rfl rfl (by decide) rfl ?_
              refine cv_goto K d_Model_fill_83 16 rfl ?_
              refine cv_loc [1, 2, 3, 4, 0] [(0, .ref (md 0)), (1, .int kd), (2, .int bk), (3, .int b_), (4, .int (p_ + (1 : Int32)))] rfl ?_
              exact ih b_ (p_ + (1 : Int32)) (upd m_kept_ ((b_ + p_).toNatClampNeg) (1 : Int32)) (upd m_copy_ ((b_ + p_).toNatClampNeg) (m_memory p_.toNatClampNeg)) b (k + 1) hb (by rw [hk]; exact nI_1 k) (by have := (mi_idx (c := 128) hk rfl (by omega) (by omega) h5); omega) (hE.trans (by rw [p_Model_fill_L, if_neg (c := (128 : Int32) ≤ p_) h5, if_pos (c := ((p_ / (4 : Int32)) - (p_ / (4 : Int32)) / (mv 1) * (mv 1)) = (bk - bk / (mv 1) * (mv 1))) h6, if_pos (c := (p_ / (4 : Int32)) = bk) h7]))
    refine cv_loc [2, 3, 4, 1, 0] [(0, .ref (md 0)), (1, .int kd), (2, .int bk), (3, .int (0 : Int32)), (4, .int (0 : Int32))] rfl ?_
    exact loop 129 (0 : Int32) (0 : Int32) m_kept m_copy 0 0 rfl rfl (by omega) (by rw [p_Model_fill, if_pos (c := kd = (1 : Int32)) h1])
-- CycleChipModel.takeByte()I
def p_Model_takeByte_L (mv : Nat → Int32) (mvL : Nat → Int64) (m_received : Nat → Int32) : Nat → (Int32) → (Nat → Int32) → Int32 × (Nat → Int32) × (Nat → Int32)
  | 0, k_, m_received_ => (0, (upd mv 24 ((mv 24) - (1 : Int32))), m_received_)
  | fu + 1, k_, m_received_ => if ((mv 24) - (1 : Int32)) ≤ k_ then (m_received (0 : Int32).toNatClampNeg, (upd mv 24 ((mv 24) - (1 : Int32))), m_received_) else (fun k_ m_received_ => p_Model_takeByte_L mv mvL m_received fu k_ m_received_) (k_ + (1 : Int32)) (upd m_received_ k_.toNatClampNeg (m_received_ (k_ + (1 : Int32)).toNatClampNeg))
def p_Model_takeByte (mv : Nat → Int32) (mvL : Nat → Int64) (m_received : Nat → Int32) : Int32 × (Nat → Int32) × (Nat → Int32) := if (mv 24) = (0 : Int32) then ((-1 : Int32), mv, m_received) else p_Model_takeByte_L mv mvL m_received 9 (0 : Int32) m_received
set_option maxRecDepth 100000 in
set_option maxHeartbeats 4000000 in
theorem m_Model_takeByte (l : Launch) (dC : Nat → ClassId) (dI : Nat → Nat → Nat) (tys : List (ClassId × FieldType)) (md : Nat → Nat) (mc : Nat → ClassId) (n : Nat) (hmys : ∀ k, k < 18 → tys[17 + k]? = some (mc k, mty k)) (mv : Nat → Int32) (mvL : Nat → Int64) (m_received : Nat → Int32) (hrc : ∃ k : Nat, k ≤ 8 ∧ mv 24 = nI k) : cv_Mi l y_Model_takeByte (Cond.code y_Model_takeByte c_Model_takeByte 3 (some .int) :: gw) { frames := 0, cells := 0, slots := 0, locals := 0 } (dC, dI) vwCl tys [.ref (md 0)] [k_Model (md 0) (md 1) (md 2) (md 3) (md 4) (md 5) (md 6) (md 7) (md 8) (md 9) (md 10) (md 11) (md 12) (md 13) (md 14) (md 15) (md 16) (md 17) (md 18) mv mvL, k_arr (md 16) (mc 15) 8 m_received] (p_Model_takeByte mv mvL m_received) (fun r => r.1) (fun r => [k_Model (md 0) (md 1) (md 2) (md 3) (md 4) (md 5) (md 6) (md 7) (md 8) (md 9) (md 10) (md 11) (md 12) (md 13) (md 14) (md 15) (md 16) (md 17) (md 18) r.2.1 mvL, k_arr (md 16) (mc 15) 8 r.2.2]) := by
  refine cv_starti (by decide) (Nat.le_of_ble_eq_true rfl) [(0, .ref (md 0))] rfl ?_
  intro p e s m below meth c A K hm
  refine cv_aload_n K 0 d_Model_takeByte_0 rfl rfl ?_
  refine cv_get K d_Model_takeByte_1 0 42 rfl rfl in_Model (by decide) tm_875 rfl ?_
  refine cv_if_ne K d_Model_takeByte_4 9 rfl (fun h1 => ?_) (fun h1 => ?_)
  · refine cv_aload_n K 0 d_Model_takeByte_9 rfl rfl ?_
    refine cv_get K d_Model_takeByte_10 0 41 rfl rfl in_Model (by decide) tm_874 rfl ?_
    refine cv_iconst (v := 0) K d_Model_takeByte_13 rfl ?_
    refine cv_iald K d_Model_takeByte_14 1 32 rfl (hmys 15 (by decide)) (j_in (0 : Int32) (by decide +kernel)) ?_
    refine cv_istore_n K d_Model_takeByte_15 [(1, .int (m_received (0 : Int32).toNatClampNeg)), (0, .ref (md 0))] rfl (by decide) rfl ?_
    refine cv_aload_n K 1 d_Model_takeByte_16 rfl rfl ?_
    refine cv_dup K d_Model_takeByte_17 rfl ?_
    refine cv_get K d_Model_takeByte_18 0 42 rfl rfl in_Model (by decide) tm_875 rfl ?_
    refine cv_iconst (v := 1) K d_Model_takeByte_21 rfl ?_
    refine cv_isub K d_Model_takeByte_22 ?_
    refine cv_put K d_Model_takeByte_23 [k_Model (md 0) (md 1) (md 2) (md 3) (md 4) (md 5) (md 6) (md 7) (md 8) (md 9) (md 10) (md 11) (md 12) (md 13) (md 14) (md 15) (md 16) (md 17) (md 18) (upd mv 24 ((mv 24) - (1 : Int32))) mvL, k_arr (md 16) (mc 15) 8 m_received] 0 42 rfl rfl in_Model t_Model o_Model n_Model (by decide) tm_875 rfl rfl rfl (Nat.le_of_ble_eq_true rfl) rfl ?_
    refine cv_iconst (v := 0) K d_Model_takeByte_26 rfl ?_
    refine cv_istore_n K d_Model_takeByte_27 [(2, .int (0 : Int32)), (1, .int (m_received (0 : Int32).toNatClampNeg)), (0, .ref (md 0))] rfl (by decide) rfl ?_
    have loop : ∀ (fu : Nat) (k_ : Int32) (m_received_ : Nat → Int32) (k : Nat) (cn : Nat) (hk : k_ = nI k) (hc : mv 24 - (1 : Int32) = nI cn) (hmm : k + fu = 9 ∧ k ≤ cn ∧ cn ≤ 7), (p_Model_takeByte mv mvL m_received) = p_Model_takeByte_L mv mvL m_received fu k_ m_received_ → cv_V p l e { frames := 0, cells := 0, slots := 0, locals := 0 } s m ([.ref (md 0)] : List Value).toArray below meth c 0 0 (MQ below (cv_Qi (dC, dI) vwCl tys A (p_Model_takeByte mv mvL m_received) (fun r => r.1) (fun r => [k_Model (md 0) (md 1) (md 2) (md 3) (md 4) (md 5) (md 6) (md 7) (md 8) (md 9) (md 10) (md 11) (md 12) (md 13) (md 14) (md 15) (md 16) (md 17) (md 18) r.2.1 mvL, k_arr (md 16) (mc 15) 8 r.2.2])) ([.ref (md 0)] : List Value).toArray s 0 0 A) 3 (dC, dI) vwCl A 28 [(0, .ref (md 0)), (1, .int (m_received (0 : Int32).toNatClampNeg)), (2, .int k_)] [] [k_Model (md 0) (md 1) (md 2) (md 3) (md 4) (md 5) (md 6) (md 7) (md 8) (md 9) (md 10) (md 11) (md 12) (md 13) (md 14) (md 15) (md 16) (md 17) (md 18) (upd mv 24 ((mv 24) - (1 : Int32))) mvL, k_arr (md 16) (mc 15) 8 m_received_] := by
      intro fu
      induction fu with
      | zero => intro k_ m_received_ k cn hk hc hmm hE; exact absurd hmm (by omega)
      | succ fu ih =>
        intro k_ m_received_ k cn hk hc hmm hE
        refine cv_iload_n K 2 d_Model_takeByte_28 rfl rfl ?_
        refine cv_aload_n K 0 d_Model_takeByte_29 rfl rfl ?_
        refine cv_get K d_Model_takeByte_30 0 42 rfl rfl in_Model (by decide) tm_875 rfl ?_
        refine cv_icmp_ge K d_Model_takeByte_33 56 rfl (fun h2 => ?_) (fun h2 => ?_)
        · refine cv_iload_n K 1 d_Model_takeByte_56 rfl rfl ?_
          exact cv_reti K hm d_Model_takeByte_57 ((m_received (0 : Int32).toNatClampNeg, (upd mv 24 ((mv 24) - (1 : Int32))), m_received_)) (hE.trans (by rw [p_Model_takeByte_L, if_pos (c := ((mv 24) - (1 : Int32)) ≤ k_) h2])) rfl rfl
        · refine cv_aload_n K 0 d_Model_takeByte_36 rfl rfl ?_
          refine cv_get K d_Model_takeByte_37 0 41 rfl rfl in_Model (by decide) tm_874 rfl ?_
          refine cv_iload_n K 2 d_Model_takeByte_40 rfl rfl ?_
          refine cv_aload_n K 0 d_Model_takeByte_41 rfl rfl ?_
          refine cv_get K d_Model_takeByte_42 0 41 rfl rfl in_Model (by decide) tm_874 rfl ?_
          refine cv_iload_n K 2 d_Model_takeByte_45 rfl rfl ?_
          refine cv_iconst (v := 1) K d_Model_takeByte_46 rfl ?_
          refine cv_iadd K d_Model_takeByte_47 ?_
          refine cv_iald K d_Model_takeByte_48 1 32 rfl (hmys 15 (by decide)) (mi_k1 hk (by have := (mi_idx hk hc (by omega) (by omega) h2); omega)) ?_
          refine cv_iast K d_Model_takeByte_49 [k_Model (md 0) (md 1) (md 2) (md 3) (md 4) (md 5) (md 6) (md 7) (md 8) (md 9) (md 10) (md 11) (md 12) (md 13) (md 14) (md 15) (md 16) (md 17) (md 18) (upd mv 24 ((mv 24) - (1 : Int32))) mvL, k_arr (md 16) (mc 15) 8 (upd m_received_ k_.toNatClampNeg (m_received_ (k_ + (1 : Int32)).toNatClampNeg))] 1 32 rfl (hmys 15 (by decide)) (by rw [hk]; exact vp_in_nI (by have := (mi_idx hk hc (by omega) (by omega) h2); omega) (by omega)) rfl ?_
          refine cv_iinc K d_Model_takeByte_50 [(2, .int (k_ + (1 : Int32))), (0, .ref (md 0)), (1, .int (m_received (0 : Int32).toNatClampNeg))] 2 rfl rfl (by decide) rfl ?_
          refine cv_goto K d_Model_takeByte_53 28 rfl ?_
          refine cv_loc [1, 2, 0] [(0, .ref (md 0)), (1, .int (m_received (0 : Int32).toNatClampNeg)), (2, .int (k_ + (1 : Int32)))] rfl ?_
          exact ih (k_ + (1 : Int32)) (upd m_received_ k_.toNatClampNeg (m_received_ (k_ + (1 : Int32)).toNatClampNeg)) (k + 1) cn (by rw [hk]; exact nI_1 k) hc (by have := (mi_idx hk hc (by omega) (by omega) h2); omega) (hE.trans (by rw [p_Model_takeByte_L, if_neg (c := ((mv 24) - (1 : Int32)) ≤ k_) h2]))
    refine cv_loc [2, 1, 0] [(0, .ref (md 0)), (1, .int (m_received (0 : Int32).toNatClampNeg)), (2, .int (0 : Int32))] rfl ?_
    obtain ⟨cn, hc7, hc⟩ := mi_dec hrc h1
    exact loop 9 (0 : Int32) m_received 0 cn rfl hc (by omega) (by rw [p_Model_takeByte, if_neg (c := (mv 24) = (0 : Int32)) h1])
  · refine cv_iconst (v := (-1)) K d_Model_takeByte_7 rfl ?_
    exact cv_reti K hm d_Model_takeByte_8 (((-1 : Int32), mv, m_received)) (by rw [p_Model_takeByte, if_pos (c := (mv 24) = (0 : Int32)) h1]) rfl rfl
-- CycleChipModel.loaded()I
def p_Model_loaded_1 (mv : Nat → Int32) (mvL : Nat → Int64) (m_pending : Nat → Int32) (m_service : Nat → Int32) (m_received : Nat → Int32) (r1 : Int32 × (Nat → Int32) × (Nat → Int32)) : Int32 × (Nat → Int32) × (Nat → Int32) × (Nat → Int32) × (Nat → Int32) := (r1.1, mv, r1.2.1, r1.2.2, m_received)
def p_Model_loaded_2 (mv : Nat → Int32) (mvL : Nat → Int64) (m_pending : Nat → Int32) (m_service : Nat → Int32) (m_received : Nat → Int32) (r2 : Int32) : Int32 × (Nat → Int32) × (Nat → Int32) × (Nat → Int32) × (Nat → Int32) := (r2, mv, m_pending, m_service, m_received)
def p_Model_loaded_3 (mv : Nat → Int32) (mvL : Nat → Int64) (m_pending : Nat → Int32) (m_service : Nat → Int32) (m_received : Nat → Int32) (r3 : Int32 × (Nat → Int32) × (Nat → Int32)) : Int32 × (Nat → Int32) × (Nat → Int32) × (Nat → Int32) × (Nat → Int32) := (r3.1, r3.2.1, m_pending, m_service, r3.2.2)
def p_Model_loaded (mv : Nat → Int32) (mvL : Nat → Int64) (m_pending : Nat → Int32) (m_service : Nat → Int32) (m_received : Nat → Int32) : Int32 × (Nat → Int32) × (Nat → Int32) × (Nat → Int32) × (Nat → Int32) := if (mv 15) = (0 : Int32) then ((mvL 0).toInt32, mv, m_pending, m_service, m_received) else if (mv 15) = (1 : Int32) then ((j_lshr (mvL 0) (32 : Int32)).toInt32, mv, m_pending, m_service, m_received) else if (mv 15) = (2 : Int32) then ((mvL 1).toInt32, mv, m_pending, m_service, m_received) else if (mv 15) = (3 : Int32) then ((j_lshr (mvL 1) (32 : Int32)).toInt32, mv, m_pending, m_service, m_received) else if (mv 15) = (4 : Int32) then (mv 21, mv, m_pending, m_service, m_received) else if (mv 15) = (5 : Int32) then (mv 22, mv, m_pending, m_service, m_received) else if (mv 15) = (6 : Int32) then p_Model_loaded_1 mv mvL m_pending m_service m_received (p_Model_claim mv mvL m_pending m_service) else if (mv 15) = (7 : Int32) then p_Model_loaded_2 mv mvL m_pending m_service m_received (p_Model_bits mv mvL m_pending m_service (0 : Int32)) else if (mv 15) = (8 : Int32) then (mv 23, mv, m_pending, m_service, m_received) else if (mv 15) = (12 : Int32) then p_Model_loaded_3 mv mvL m_pending m_service m_received (p_Model_takeByte mv mvL m_received) else if (mv 15) = (13 : Int32) then if (mv 24) ≤ (0 : Int32) then if (mv 26) = (8 : Int32) then if (mv 25) = (0 : Int32) then if (mv 29) = (0 : Int32) then ((((0 : Int32) + (2 : Int32)) + (0 : Int32)) + (0 : Int32), mv, m_pending, m_service, m_received) else ((((0 : Int32) + (2 : Int32)) + (0 : Int32)) + (8 : Int32), mv, m_pending, m_service, m_received) else if (mv 29) = (0 : Int32) then ((((0 : Int32) + (2 : Int32)) + (4 : Int32)) + (0 : Int32), mv, m_pending, m_service, m_received) else ((((0 : Int32) + (2 : Int32)) + (4 : Int32)) + (8 : Int32), mv, m_pending, m_service, m_received) else if (mv 25) = (0 : Int32) then if (mv 29) = (0 : Int32) then ((((0 : Int32) + (0 : Int32)) + (0 : Int32)) + (0 : Int32), mv, m_pending, m_service, m_received) else ((((0 : Int32) + (0 : Int32)) + (0 : Int32)) + (8 : Int32), mv, m_pending, m_service, m_received) else if (mv 29) = (0 : Int32) then ((((0 : Int32) + (0 : Int32)) + (4 : Int32)) + (0 : Int32), mv, m_pending, m_service, m_received) else ((((0 : Int32) + (0 : Int32)) + (4 : Int32)) + (8 : Int32), mv, m_pending, m_service, m_received) else if (mv 26) = (8 : Int32) then if (mv 25) = (0 : Int32) then if (mv 29) = (0 : Int32) then ((((1 : Int32) + (2 : Int32)) + (0 : Int32)) + (0 : Int32), mv, m_pending, m_service, m_received) else ((((1 : Int32) + (2 : Int32)) + (0 : Int32)) + (8 : Int32), mv, m_pending, m_service, m_received) else if (mv 29) = (0 : Int32) then ((((1 : Int32) + (2 : Int32)) + (4 : Int32)) + (0 : Int32), mv, m_pending, m_service, m_received) else ((((1 : Int32) + (2 : Int32)) + (4 : Int32)) + (8 : Int32), mv, m_pending, m_service, m_received) else if (mv 25) = (0 : Int32) then if (mv 29) = (0 : Int32) then ((((1 : Int32) + (0 : Int32)) + (0 : Int32)) + (0 : Int32), mv, m_pending, m_service, m_received) else ((((1 : Int32) + (0 : Int32)) + (0 : Int32)) + (8 : Int32), mv, m_pending, m_service, m_received) else if (mv 29) = (0 : Int32) then ((((1 : Int32) + (0 : Int32)) + (4 : Int32)) + (0 : Int32), mv, m_pending, m_service, m_received) else ((((1 : Int32) + (0 : Int32)) + (4 : Int32)) + (8 : Int32), mv, m_pending, m_service, m_received) else if (mv 15) = (14 : Int32) then (mv 27, mv, m_pending, m_service, m_received) else if (mv 15) = (15 : Int32) then (mv 28, mv, m_pending, m_service, m_received) else ((0 : Int32), mv, m_pending, m_service, m_received)
set_option maxRecDepth 100000 in
set_option maxHeartbeats 4000000 in
theorem m_Model_loaded (l : Launch) (dC : Nat → ClassId) (dI : Nat → Nat → Nat) (tys : List (ClassId × FieldType)) (md : Nat → Nat) (mc : Nat → ClassId) (n : Nat) (hmys : ∀ k, k < 18 → tys[17 + k]? = some (mc k, mty k)) (mv : Nat → Int32) (mvL : Nat → Int64) (m_pending : Nat → Int32) (m_service : Nat → Int32) (m_received : Nat → Int32) (hrc : ∃ k : Nat, k ≤ 8 ∧ mv 24 = nI k) : cv_Mi l y_Model_loaded (Cond.code y_Model_loaded c_Model_loaded 1 (some .int) :: gw) { frames := 3, cells := 0, slots := 0, locals := 66 } (dC, dI) vwCl tys [.ref (md 0)] [k_Model (md 0) (md 1) (md 2) (md 3) (md 4) (md 5) (md 6) (md 7) (md 8) (md 9) (md 10) (md 11) (md 12) (md 13) (md 14) (md 15) (md 16) (md 17) (md 18) mv mvL, k_arr (md 14) (mc 13) 8 m_pending, k_arr (md 15) (mc 14) 8 m_service, k_arr (md 16) (mc 15) 8 m_received] (p_Model_loaded mv mvL m_pending m_service m_received) (fun r => r.1) (fun r => [k_Model (md 0) (md 1) (md 2) (md 3) (md 4) (md 5) (md 6) (md 7) (md 8) (md 9) (md 10) (md 11) (md 12) (md 13) (md 14) (md 15) (md 16) (md 17) (md 18) r.2.1 mvL, k_arr (md 14) (mc 13) 8 r.2.2.1, k_arr (md 15) (mc 14) 8 r.2.2.2.1, k_arr (md 16) (mc 15) 8 r.2.2.2.2]) := by
  refine cv_starti (by decide) (Nat.le_of_ble_eq_true rfl) [(0, .ref (md 0))] rfl ?_
  intro p e s m below meth c A K hm
  refine cv_aload_n K 0 d_Model_loaded_0 rfl rfl ?_
  refine cv_get K d_Model_loaded_1 0 22 rfl rfl in_Model (by decide) tm_855 rfl ?_
  by_cases h1 : (mv 15) = (0 : Int32)
  · refine cv_tab K d_Model_loaded_4 84 h1 80 (by decide +kernel) rfl ?_
    refine cv_aload_n K 0 d_Model_loaded_84 rfl rfl ?_
    refine cv_get K d_Model_loaded_85 0 33 rfl rfl in_Model (by decide) tm_866 rfl ?_
    refine cv_l2i K d_Model_loaded_88 rfl ?_
    exact cv_reti K hm d_Model_loaded_89 (((mvL 0).toInt32, mv, m_pending, m_service, m_received)) (by rw [p_Model_loaded, if_pos (c := (mv 15) = (0 : Int32)) h1]) rfl rfl
  by_cases h2 : (mv 15) = (1 : Int32)
  · refine cv_tab K d_Model_loaded_4 90 h2 86 (by decide +kernel) rfl ?_
    refine cv_aload_n K 0 d_Model_loaded_90 rfl rfl ?_
    refine cv_get K d_Model_loaded_91 0 33 rfl rfl in_Model (by decide) tm_866 rfl ?_
    refine cv_bipush (v := 32) K d_Model_loaded_94 (by decide +kernel) ?_
    refine cv_lshr (v := j_lshr (mvL 0) (32 : Int32)) K d_Model_loaded_96 rfl ?_
    refine cv_l2i K d_Model_loaded_97 rfl ?_
    exact cv_reti K hm d_Model_loaded_98 (((j_lshr (mvL 0) (32 : Int32)).toInt32, mv, m_pending, m_service, m_received)) (by rw [p_Model_loaded, if_neg (c := (mv 15) = (0 : Int32)) h1, if_pos (c := (mv 15) = (1 : Int32)) h2]) rfl rfl
  by_cases h3 : (mv 15) = (2 : Int32)
  · refine cv_tab K d_Model_loaded_4 99 h3 95 (by decide +kernel) rfl ?_
    refine cv_aload_n K 0 d_Model_loaded_99 rfl rfl ?_
    refine cv_get K d_Model_loaded_100 0 34 rfl rfl in_Model (by decide) tm_867 rfl ?_
    refine cv_l2i K d_Model_loaded_103 rfl ?_
    exact cv_reti K hm d_Model_loaded_104 (((mvL 1).toInt32, mv, m_pending, m_service, m_received)) (by rw [p_Model_loaded, if_neg (c := (mv 15) = (0 : Int32)) h1, if_neg (c := (mv 15) = (1 : Int32)) h2, if_pos (c := (mv 15) = (2 : Int32)) h3]) rfl rfl
  by_cases h4 : (mv 15) = (3 : Int32)
  · refine cv_tab K d_Model_loaded_4 105 h4 101 (by decide +kernel) rfl ?_
    refine cv_aload_n K 0 d_Model_loaded_105 rfl rfl ?_
    refine cv_get K d_Model_loaded_106 0 34 rfl rfl in_Model (by decide) tm_867 rfl ?_
    refine cv_bipush (v := 32) K d_Model_loaded_109 (by decide +kernel) ?_
    refine cv_lshr (v := j_lshr (mvL 1) (32 : Int32)) K d_Model_loaded_111 rfl ?_
    refine cv_l2i K d_Model_loaded_112 rfl ?_
    exact cv_reti K hm d_Model_loaded_113 (((j_lshr (mvL 1) (32 : Int32)).toInt32, mv, m_pending, m_service, m_received)) (by rw [p_Model_loaded, if_neg (c := (mv 15) = (0 : Int32)) h1, if_neg (c := (mv 15) = (1 : Int32)) h2, if_neg (c := (mv 15) = (2 : Int32)) h3, if_pos (c := (mv 15) = (3 : Int32)) h4]) rfl rfl
  by_cases h5 : (mv 15) = (4 : Int32)
  · refine cv_tab K d_Model_loaded_4 114 h5 110 (by decide +kernel) rfl ?_
    refine cv_aload_n K 0 d_Model_loaded_114 rfl rfl ?_
    refine cv_get K d_Model_loaded_115 0 35 rfl rfl in_Model (by decide) tm_868 rfl ?_
    exact cv_reti K hm d_Model_loaded_118 ((mv 21, mv, m_pending, m_service, m_received)) (by rw [p_Model_loaded, if_neg (c := (mv 15) = (0 : Int32)) h1, if_neg (c := (mv 15) = (1 : Int32)) h2, if_neg (c := (mv 15) = (2 : Int32)) h3, if_neg (c := (mv 15) = (3 : Int32)) h4, if_pos (c := (mv 15) = (4 : Int32)) h5]) rfl rfl
  by_cases h6 : (mv 15) = (5 : Int32)
  · refine cv_tab K d_Model_loaded_4 119 h6 115 (by decide +kernel) rfl ?_
    refine cv_aload_n K 0 d_Model_loaded_119 rfl rfl ?_
    refine cv_get K d_Model_loaded_120 0 36 rfl rfl in_Model (by decide) tm_869 rfl ?_
    exact cv_reti K hm d_Model_loaded_123 ((mv 22, mv, m_pending, m_service, m_received)) (by rw [p_Model_loaded, if_neg (c := (mv 15) = (0 : Int32)) h1, if_neg (c := (mv 15) = (1 : Int32)) h2, if_neg (c := (mv 15) = (2 : Int32)) h3, if_neg (c := (mv 15) = (3 : Int32)) h4, if_neg (c := (mv 15) = (4 : Int32)) h5, if_pos (c := (mv 15) = (5 : Int32)) h6]) rfl rfl
  by_cases h7 : (mv 15) = (6 : Int32)
  · refine cv_tab K d_Model_loaded_4 124 h7 120 (by decide +kernel) rfl ?_
    refine cv_aload_n K 0 d_Model_loaded_124 rfl rfl ?_
    refine cv_callVi K (m_Model_claim l dC dI tys md mc n hmys mv mvL m_pending m_service) d_Model_loaded_125 (cw_V (n := 0) K.2.2.2.2.1 tm_1100 tm_1102 sm_35 tm_15 tm_1103 rfl rfl ⟨rfl, wd_of (by decide +kernel) (by decide +kernel)⟩ ⟨Nat.le_of_ble_eq_true rfl, Nat.le_of_ble_eq_true rfl⟩) 0 rfl rfl [0, 1, 2] rfl rfl (fun _ => rfl) rfl rfl (Nat.le_of_ble_eq_true rfl) (Nat.zero_le _) (Nat.zero_le _) (fun r1 hr1 => ?_)
    refine cv_norm [k_Model (md 0) (md 1) (md 2) (md 3) (md 4) (md 5) (md 6) (md 7) (md 8) (md 9) (md 10) (md 11) (md 12) (md 13) (md 14) (md 15) (md 16) (md 17) (md 18) mv mvL, k_arr (md 14) (mc 13) 8 r1.2.1, k_arr (md 15) (mc 14) 8 r1.2.2, k_arr (md 16) (mc 15) 8 m_received] rfl ?_
    exact cv_reti K hm d_Model_loaded_128 ((r1.1, mv, r1.2.1, r1.2.2, m_received)) (by rw [p_Model_loaded, if_neg (c := (mv 15) = (0 : Int32)) h1, if_neg (c := (mv 15) = (1 : Int32)) h2, if_neg (c := (mv 15) = (2 : Int32)) h3, if_neg (c := (mv 15) = (3 : Int32)) h4, if_neg (c := (mv 15) = (4 : Int32)) h5, if_neg (c := (mv 15) = (5 : Int32)) h6, if_pos (c := (mv 15) = (6 : Int32)) h7, ← hr1, p_Model_loaded_1]) rfl rfl
  by_cases h8 : (mv 15) = (7 : Int32)
  · refine cv_tab K d_Model_loaded_4 129 h8 125 (by decide +kernel) rfl ?_
    refine cv_aload_n K 0 d_Model_loaded_129 rfl rfl ?_
    refine cv_iconst (v := 0) K d_Model_loaded_130 rfl ?_
    refine cv_callVi K (m_Model_bits l dC dI tys md mc n hmys mv mvL m_pending m_service (0 : Int32)) d_Model_loaded_131 (cw_V (n := 1) K.2.2.2.2.1 tm_1104 tm_1106 sm_36 tm_15 tm_1107 rfl rfl ⟨rfl, wd_of (by decide +kernel) (by decide +kernel)⟩ ⟨Nat.le_of_ble_eq_true rfl, Nat.le_of_ble_eq_true rfl⟩) 0 rfl rfl [0, 1, 2] rfl rfl (fun _ => rfl) rfl rfl (Nat.le_of_ble_eq_true rfl) (Nat.zero_le _) (Nat.zero_le _) (fun r2 hr2 => ?_)
    refine cv_norm [k_Model (md 0) (md 1) (md 2) (md 3) (md 4) (md 5) (md 6) (md 7) (md 8) (md 9) (md 10) (md 11) (md 12) (md 13) (md 14) (md 15) (md 16) (md 17) (md 18) mv mvL, k_arr (md 14) (mc 13) 8 m_pending, k_arr (md 15) (mc 14) 8 m_service, k_arr (md 16) (mc 15) 8 m_received] rfl ?_
    exact cv_reti K hm d_Model_loaded_134 ((r2, mv, m_pending, m_service, m_received)) (by rw [p_Model_loaded, if_neg (c := (mv 15) = (0 : Int32)) h1, if_neg (c := (mv 15) = (1 : Int32)) h2, if_neg (c := (mv 15) = (2 : Int32)) h3, if_neg (c := (mv 15) = (3 : Int32)) h4, if_neg (c := (mv 15) = (4 : Int32)) h5, if_neg (c := (mv 15) = (5 : Int32)) h6, if_neg (c := (mv 15) = (6 : Int32)) h7, if_pos (c := (mv 15) = (7 : Int32)) h8, ← hr2, p_Model_loaded_2]) rfl rfl
  by_cases h9 : (mv 15) = (8 : Int32)
  · refine cv_tab K d_Model_loaded_4 135 h9 131 (by decide +kernel) rfl ?_
    refine cv_aload_n K 0 d_Model_loaded_135 rfl rfl ?_
    refine cv_get K d_Model_loaded_136 0 37 rfl rfl in_Model (by decide) tm_870 rfl ?_
    exact cv_reti K hm d_Model_loaded_139 ((mv 23, mv, m_pending, m_service, m_received)) (by rw [p_Model_loaded, if_neg (c := (mv 15) = (0 : Int32)) h1, if_neg (c := (mv 15) = (1 : Int32)) h2, if_neg (c := (mv 15) = (2 : Int32)) h3, if_neg (c := (mv 15) = (3 : Int32)) h4, if_neg (c := (mv 15) = (4 : Int32)) h5, if_neg (c := (mv 15) = (5 : Int32)) h6, if_neg (c := (mv 15) = (6 : Int32)) h7, if_neg (c := (mv 15) = (7 : Int32)) h8, if_pos (c := (mv 15) = (8 : Int32)) h9]) rfl rfl
  by_cases h10 : (mv 15) = (12 : Int32)
  · refine cv_tab K d_Model_loaded_4 140 h10 136 (by decide +kernel) rfl ?_
    refine cv_aload_n K 0 d_Model_loaded_140 rfl rfl ?_
    refine cv_callVi K (m_Model_takeByte l dC dI tys md mc n hmys mv mvL m_received hrc) d_Model_loaded_141 (cw_V (n := 0) K.2.2.2.2.1 tm_1108 tm_1110 sm_37 tm_15 tm_1111 rfl rfl ⟨rfl, wd_of (by decide +kernel) (by decide +kernel)⟩ ⟨Nat.le_of_ble_eq_true rfl, Nat.le_of_ble_eq_true rfl⟩) 0 rfl rfl [0, 3] rfl rfl (fun _ => rfl) rfl rfl (Nat.le_of_ble_eq_true rfl) (Nat.zero_le _) (Nat.zero_le _) (fun r3 hr3 => ?_)
    refine cv_norm [k_Model (md 0) (md 1) (md 2) (md 3) (md 4) (md 5) (md 6) (md 7) (md 8) (md 9) (md 10) (md 11) (md 12) (md 13) (md 14) (md 15) (md 16) (md 17) (md 18) r3.2.1 mvL, k_arr (md 14) (mc 13) 8 m_pending, k_arr (md 15) (mc 14) 8 m_service, k_arr (md 16) (mc 15) 8 r3.2.2] rfl ?_
    exact cv_reti K hm d_Model_loaded_144 ((r3.1, r3.2.1, m_pending, m_service, r3.2.2)) (by rw [p_Model_loaded, if_neg (c := (mv 15) = (0 : Int32)) h1, if_neg (c := (mv 15) = (1 : Int32)) h2, if_neg (c := (mv 15) = (2 : Int32)) h3, if_neg (c := (mv 15) = (3 : Int32)) h4, if_neg (c := (mv 15) = (4 : Int32)) h5, if_neg (c := (mv 15) = (5 : Int32)) h6, if_neg (c := (mv 15) = (6 : Int32)) h7, if_neg (c := (mv 15) = (7 : Int32)) h8, if_neg (c := (mv 15) = (8 : Int32)) h9, if_pos (c := (mv 15) = (12 : Int32)) h10, ← hr3, p_Model_loaded_3]) rfl rfl
  by_cases h11 : (mv 15) = (13 : Int32)
  · refine cv_tab K d_Model_loaded_4 145 h11 141 (by decide +kernel) rfl ?_
    refine cv_aload_n K 0 d_Model_loaded_145 rfl rfl ?_
    refine cv_get K d_Model_loaded_146 0 42 rfl rfl in_Model (by decide) tm_875 rfl ?_
    refine cv_if_le K d_Model_loaded_149 156 rfl (fun h12 => ?_) (fun h12 => ?_)
    · refine cv_iconst (v := 0) K d_Model_loaded_156 rfl ?_
      refine cv_aload_n K 0 d_Model_loaded_157 rfl rfl ?_
      refine cv_get K d_Model_loaded_158 0 45 rfl rfl in_Model (by decide) tm_878 rfl ?_
      refine cv_bipush (v := 8) K d_Model_loaded_161 (by decide +kernel) ?_
      refine cv_icmp_ne K d_Model_loaded_163 170 rfl (fun h13 => ?_) (fun h13 => ?_)
      · refine cv_iconst (v := 0) K d_Model_loaded_170 rfl ?_
        refine cv_iadd K d_Model_loaded_171 ?_
        refine cv_aload_n K 0 d_Model_loaded_172 rfl rfl ?_
        refine cv_get K d_Model_loaded_173 0 43 rfl rfl in_Model (by decide) tm_876 rfl ?_
        refine cv_if_eq K d_Model_loaded_176 183 rfl (fun h14 => ?_) (fun h14 => ?_)
        · refine cv_iconst (v := 0) K d_Model_loaded_183 rfl ?_
          refine cv_iadd K d_Model_loaded_184 ?_
          refine cv_aload_n K 0 d_Model_loaded_185 rfl rfl ?_
          refine cv_get K d_Model_loaded_186 0 48 rfl rfl in_Model (by decide) tm_881 rfl ?_
          refine cv_if_eq K d_Model_loaded_189 197 rfl (fun h15 => ?_) (fun h15 => ?_)
          · refine cv_iconst (v := 0) K d_Model_loaded_197 rfl ?_
            refine cv_iadd K d_Model_loaded_198 ?_
            exact cv_reti K hm d_Model_loaded_199 (((((0 : Int32) + (0 : Int32)) + (0 : Int32)) + (0 : Int32), mv, m_pending, m_service, m_received)) (by rw [p_Model_loaded, if_neg (c := (mv 15) = (0 : Int32)) h1, if_neg (c := (mv 15) = (1 : Int32)) h2, if_neg (c := (mv 15) = (2 : Int32)) h3, if_neg (c := (mv 15) = (3 : Int32)) h4, if_neg (c := (mv 15) = (4 : Int32)) h5, if_neg (c := (mv 15) = (5 : Int32)) h6, if_neg (c := (mv 15) = (6 : Int32)) h7, if_neg (c := (mv 15) = (7 : Int32)) h8, if_neg (c := (mv 15) = (8 : Int32)) h9, if_neg (c := (mv 15) = (12 : Int32)) h10, if_pos (c := (mv 15) = (13 : Int32)) h11, if_pos (c := (mv 24) ≤ (0 : Int32)) h12, if_neg (c := (mv 26) = (8 : Int32)) h13, if_pos (c := (mv 25) = (0 : Int32)) h14, if_pos (c := (mv 29) = (0 : Int32)) h15]) rfl rfl
          · refine cv_bipush (v := 8) K d_Model_loaded_192 (by decide +kernel) ?_
            refine cv_goto K d_Model_loaded_194 198 rfl ?_
            refine cv_iadd K d_Model_loaded_198 ?_
            exact cv_reti K hm d_Model_loaded_199 (((((0 : Int32) + (0 : Int32)) + (0 : Int32)) + (8 : Int32), mv, m_pending, m_service, m_received)) (by rw [p_Model_loaded, if_neg (c := (mv 15) = (0 : Int32)) h1, if_neg (c := (mv 15) = (1 : Int32)) h2, if_neg (c := (mv 15) = (2 : Int32)) h3, if_neg (c := (mv 15) = (3 : Int32)) h4, if_neg (c := (mv 15) = (4 : Int32)) h5, if_neg (c := (mv 15) = (5 : Int32)) h6, if_neg (c := (mv 15) = (6 : Int32)) h7, if_neg (c := (mv 15) = (7 : Int32)) h8, if_neg (c := (mv 15) = (8 : Int32)) h9, if_neg (c := (mv 15) = (12 : Int32)) h10, if_pos (c := (mv 15) = (13 : Int32)) h11, if_pos (c := (mv 24) ≤ (0 : Int32)) h12, if_neg (c := (mv 26) = (8 : Int32)) h13, if_pos (c := (mv 25) = (0 : Int32)) h14, if_neg (c := (mv 29) = (0 : Int32)) h15]) rfl rfl
        · refine cv_iconst (v := 4) K d_Model_loaded_179 rfl ?_
          refine cv_goto K d_Model_loaded_180 184 rfl ?_
          refine cv_iadd K d_Model_loaded_184 ?_
          refine cv_aload_n K 0 d_Model_loaded_185 rfl rfl ?_
          refine cv_get K d_Model_loaded_186 0 48 rfl rfl in_Model (by decide) tm_881 rfl ?_
          refine cv_if_eq K d_Model_loaded_189 197 rfl (fun h16 => ?_) (fun h16 => ?_)
          · refine cv_iconst (v := 0) K d_Model_loaded_197 rfl ?_
            refine cv_iadd K d_Model_loaded_198 ?_
            exact cv_reti K hm d_Model_loaded_199 (((((0 : Int32) + (0 : Int32)) + (4 : Int32)) + (0 : Int32), mv, m_pending, m_service, m_received)) (by rw [p_Model_loaded, if_neg (c := (mv 15) = (0 : Int32)) h1, if_neg (c := (mv 15) = (1 : Int32)) h2, if_neg (c := (mv 15) = (2 : Int32)) h3, if_neg (c := (mv 15) = (3 : Int32)) h4, if_neg (c := (mv 15) = (4 : Int32)) h5, if_neg (c := (mv 15) = (5 : Int32)) h6, if_neg (c := (mv 15) = (6 : Int32)) h7, if_neg (c := (mv 15) = (7 : Int32)) h8, if_neg (c := (mv 15) = (8 : Int32)) h9, if_neg (c := (mv 15) = (12 : Int32)) h10, if_pos (c := (mv 15) = (13 : Int32)) h11, if_pos (c := (mv 24) ≤ (0 : Int32)) h12, if_neg (c := (mv 26) = (8 : Int32)) h13, if_neg (c := (mv 25) = (0 : Int32)) h14, if_pos (c := (mv 29) = (0 : Int32)) h16]) rfl rfl
          · refine cv_bipush (v := 8) K d_Model_loaded_192 (by decide +kernel) ?_
            refine cv_goto K d_Model_loaded_194 198 rfl ?_
            refine cv_iadd K d_Model_loaded_198 ?_
            exact cv_reti K hm d_Model_loaded_199 (((((0 : Int32) + (0 : Int32)) + (4 : Int32)) + (8 : Int32), mv, m_pending, m_service, m_received)) (by rw [p_Model_loaded, if_neg (c := (mv 15) = (0 : Int32)) h1, if_neg (c := (mv 15) = (1 : Int32)) h2, if_neg (c := (mv 15) = (2 : Int32)) h3, if_neg (c := (mv 15) = (3 : Int32)) h4, if_neg (c := (mv 15) = (4 : Int32)) h5, if_neg (c := (mv 15) = (5 : Int32)) h6, if_neg (c := (mv 15) = (6 : Int32)) h7, if_neg (c := (mv 15) = (7 : Int32)) h8, if_neg (c := (mv 15) = (8 : Int32)) h9, if_neg (c := (mv 15) = (12 : Int32)) h10, if_pos (c := (mv 15) = (13 : Int32)) h11, if_pos (c := (mv 24) ≤ (0 : Int32)) h12, if_neg (c := (mv 26) = (8 : Int32)) h13, if_neg (c := (mv 25) = (0 : Int32)) h14, if_neg (c := (mv 29) = (0 : Int32)) h16]) rfl rfl
      · refine cv_iconst (v := 2) K d_Model_loaded_166 rfl ?_
        refine cv_goto K d_Model_loaded_167 171 rfl ?_
        refine cv_iadd K d_Model_loaded_171 ?_
        refine cv_aload_n K 0 d_Model_loaded_172 rfl rfl ?_
        refine cv_get K d_Model_loaded_173 0 43 rfl rfl in_Model (by decide) tm_876 rfl ?_
        refine cv_if_eq K d_Model_loaded_176 183 rfl (fun h17 => ?_) (fun h17 => ?_)
        · refine cv_iconst (v := 0) K d_Model_loaded_183 rfl ?_
          refine cv_iadd K d_Model_loaded_184 ?_
          refine cv_aload_n K 0 d_Model_loaded_185 rfl rfl ?_
          refine cv_get K d_Model_loaded_186 0 48 rfl rfl in_Model (by decide) tm_881 rfl ?_
          refine cv_if_eq K d_Model_loaded_189 197 rfl (fun h18 => ?_) (fun h18 => ?_)
          · refine cv_iconst (v := 0) K d_Model_loaded_197 rfl ?_
            refine cv_iadd K d_Model_loaded_198 ?_
            exact cv_reti K hm d_Model_loaded_199 (((((0 : Int32) + (2 : Int32)) + (0 : Int32)) + (0 : Int32), mv, m_pending, m_service, m_received)) (by rw [p_Model_loaded, if_neg (c := (mv 15) = (0 : Int32)) h1, if_neg (c := (mv 15) = (1 : Int32)) h2, if_neg (c := (mv 15) = (2 : Int32)) h3, if_neg (c := (mv 15) = (3 : Int32)) h4, if_neg (c := (mv 15) = (4 : Int32)) h5, if_neg (c := (mv 15) = (5 : Int32)) h6, if_neg (c := (mv 15) = (6 : Int32)) h7, if_neg (c := (mv 15) = (7 : Int32)) h8, if_neg (c := (mv 15) = (8 : Int32)) h9, if_neg (c := (mv 15) = (12 : Int32)) h10, if_pos (c := (mv 15) = (13 : Int32)) h11, if_pos (c := (mv 24) ≤ (0 : Int32)) h12, if_pos (c := (mv 26) = (8 : Int32)) h13, if_pos (c := (mv 25) = (0 : Int32)) h17, if_pos (c := (mv 29) = (0 : Int32)) h18]) rfl rfl
          · refine cv_bipush (v := 8) K d_Model_loaded_192 (by decide +kernel) ?_
            refine cv_goto K d_Model_loaded_194 198 rfl ?_
            refine cv_iadd K d_Model_loaded_198 ?_
            exact cv_reti K hm d_Model_loaded_199 (((((0 : Int32) + (2 : Int32)) + (0 : Int32)) + (8 : Int32), mv, m_pending, m_service, m_received)) (by rw [p_Model_loaded, if_neg (c := (mv 15) = (0 : Int32)) h1, if_neg (c := (mv 15) = (1 : Int32)) h2, if_neg (c := (mv 15) = (2 : Int32)) h3, if_neg (c := (mv 15) = (3 : Int32)) h4, if_neg (c := (mv 15) = (4 : Int32)) h5, if_neg (c := (mv 15) = (5 : Int32)) h6, if_neg (c := (mv 15) = (6 : Int32)) h7, if_neg (c := (mv 15) = (7 : Int32)) h8, if_neg (c := (mv 15) = (8 : Int32)) h9, if_neg (c := (mv 15) = (12 : Int32)) h10, if_pos (c := (mv 15) = (13 : Int32)) h11, if_pos (c := (mv 24) ≤ (0 : Int32)) h12, if_pos (c := (mv 26) = (8 : Int32)) h13, if_pos (c := (mv 25) = (0 : Int32)) h17, if_neg (c := (mv 29) = (0 : Int32)) h18]) rfl rfl
        · refine cv_iconst (v := 4) K d_Model_loaded_179 rfl ?_
          refine cv_goto K d_Model_loaded_180 184 rfl ?_
          refine cv_iadd K d_Model_loaded_184 ?_
          refine cv_aload_n K 0 d_Model_loaded_185 rfl rfl ?_
          refine cv_get K d_Model_loaded_186 0 48 rfl rfl in_Model (by decide) tm_881 rfl ?_
          refine cv_if_eq K d_Model_loaded_189 197 rfl (fun h19 => ?_) (fun h19 => ?_)
          · refine cv_iconst (v := 0) K d_Model_loaded_197 rfl ?_
            refine cv_iadd K d_Model_loaded_198 ?_
            exact cv_reti K hm d_Model_loaded_199 (((((0 : Int32) + (2 : Int32)) + (4 : Int32)) + (0 : Int32), mv, m_pending, m_service, m_received)) (by rw [p_Model_loaded, if_neg (c := (mv 15) = (0 : Int32)) h1, if_neg (c := (mv 15) = (1 : Int32)) h2, if_neg (c := (mv 15) = (2 : Int32)) h3, if_neg (c := (mv 15) = (3 : Int32)) h4, if_neg (c := (mv 15) = (4 : Int32)) h5, if_neg (c := (mv 15) = (5 : Int32)) h6, if_neg (c := (mv 15) = (6 : Int32)) h7, if_neg (c := (mv 15) = (7 : Int32)) h8, if_neg (c := (mv 15) = (8 : Int32)) h9, if_neg (c := (mv 15) = (12 : Int32)) h10, if_pos (c := (mv 15) = (13 : Int32)) h11, if_pos (c := (mv 24) ≤ (0 : Int32)) h12, if_pos (c := (mv 26) = (8 : Int32)) h13, if_neg (c := (mv 25) = (0 : Int32)) h17, if_pos (c := (mv 29) = (0 : Int32)) h19]) rfl rfl
          · refine cv_bipush (v := 8) K d_Model_loaded_192 (by decide +kernel) ?_
            refine cv_goto K d_Model_loaded_194 198 rfl ?_
            refine cv_iadd K d_Model_loaded_198 ?_
            exact cv_reti K hm d_Model_loaded_199 (((((0 : Int32) + (2 : Int32)) + (4 : Int32)) + (8 : Int32), mv, m_pending, m_service, m_received)) (by rw [p_Model_loaded, if_neg (c := (mv 15) = (0 : Int32)) h1, if_neg (c := (mv 15) = (1 : Int32)) h2, if_neg (c := (mv 15) = (2 : Int32)) h3, if_neg (c := (mv 15) = (3 : Int32)) h4, if_neg (c := (mv 15) = (4 : Int32)) h5, if_neg (c := (mv 15) = (5 : Int32)) h6, if_neg (c := (mv 15) = (6 : Int32)) h7, if_neg (c := (mv 15) = (7 : Int32)) h8, if_neg (c := (mv 15) = (8 : Int32)) h9, if_neg (c := (mv 15) = (12 : Int32)) h10, if_pos (c := (mv 15) = (13 : Int32)) h11, if_pos (c := (mv 24) ≤ (0 : Int32)) h12, if_pos (c := (mv 26) = (8 : Int32)) h13, if_neg (c := (mv 25) = (0 : Int32)) h17, if_neg (c := (mv 29) = (0 : Int32)) h19]) rfl rfl
    · refine cv_iconst (v := 1) K d_Model_loaded_152 rfl ?_
      refine cv_goto K d_Model_loaded_153 157 rfl ?_
      refine cv_aload_n K 0 d_Model_loaded_157 rfl rfl ?_
      refine cv_get K d_Model_loaded_158 0 45 rfl rfl in_Model (by decide) tm_878 rfl ?_
      refine cv_bipush (v := 8) K d_Model_loaded_161 (by decide +kernel) ?_
      refine cv_icmp_ne K d_Model_loaded_163 170 rfl (fun h20 => ?_) (fun h20 => ?_)
      · refine cv_iconst (v := 0) K d_Model_loaded_170 rfl ?_
        refine cv_iadd K d_Model_loaded_171 ?_
        refine cv_aload_n K 0 d_Model_loaded_172 rfl rfl ?_
        refine cv_get K d_Model_loaded_173 0 43 rfl rfl in_Model (by decide) tm_876 rfl ?_
        refine cv_if_eq K d_Model_loaded_176 183 rfl (fun h21 => ?_) (fun h21 => ?_)
        · refine cv_iconst (v := 0) K d_Model_loaded_183 rfl ?_
          refine cv_iadd K d_Model_loaded_184 ?_
          refine cv_aload_n K 0 d_Model_loaded_185 rfl rfl ?_
          refine cv_get K d_Model_loaded_186 0 48 rfl rfl in_Model (by decide) tm_881 rfl ?_
          refine cv_if_eq K d_Model_loaded_189 197 rfl (fun h22 => ?_) (fun h22 => ?_)
          · refine cv_iconst (v := 0) K d_Model_loaded_197 rfl ?_
            refine cv_iadd K d_Model_loaded_198 ?_
            exact cv_reti K hm d_Model_loaded_199 (((((1 : Int32) + (0 : Int32)) + (0 : Int32)) + (0 : Int32), mv, m_pending, m_service, m_received)) (by rw [p_Model_loaded, if_neg (c := (mv 15) = (0 : Int32)) h1, if_neg (c := (mv 15) = (1 : Int32)) h2, if_neg (c := (mv 15) = (2 : Int32)) h3, if_neg (c := (mv 15) = (3 : Int32)) h4, if_neg (c := (mv 15) = (4 : Int32)) h5, if_neg (c := (mv 15) = (5 : Int32)) h6, if_neg (c := (mv 15) = (6 : Int32)) h7, if_neg (c := (mv 15) = (7 : Int32)) h8, if_neg (c := (mv 15) = (8 : Int32)) h9, if_neg (c := (mv 15) = (12 : Int32)) h10, if_pos (c := (mv 15) = (13 : Int32)) h11, if_neg (c := (mv 24) ≤ (0 : Int32)) h12, if_neg (c := (mv 26) = (8 : Int32)) h20, if_pos (c := (mv 25) = (0 : Int32)) h21, if_pos (c := (mv 29) = (0 : Int32)) h22]) rfl rfl
          · refine cv_bipush (v := 8) K d_Model_loaded_192 (by decide +kernel) ?_
            refine cv_goto K d_Model_loaded_194 198 rfl ?_
            refine cv_iadd K d_Model_loaded_198 ?_
            exact cv_reti K hm d_Model_loaded_199 (((((1 : Int32) + (0 : Int32)) + (0 : Int32)) + (8 : Int32), mv, m_pending, m_service, m_received)) (by rw [p_Model_loaded, if_neg (c := (mv 15) = (0 : Int32)) h1, if_neg (c := (mv 15) = (1 : Int32)) h2, if_neg (c := (mv 15) = (2 : Int32)) h3, if_neg (c := (mv 15) = (3 : Int32)) h4, if_neg (c := (mv 15) = (4 : Int32)) h5, if_neg (c := (mv 15) = (5 : Int32)) h6, if_neg (c := (mv 15) = (6 : Int32)) h7, if_neg (c := (mv 15) = (7 : Int32)) h8, if_neg (c := (mv 15) = (8 : Int32)) h9, if_neg (c := (mv 15) = (12 : Int32)) h10, if_pos (c := (mv 15) = (13 : Int32)) h11, if_neg (c := (mv 24) ≤ (0 : Int32)) h12, if_neg (c := (mv 26) = (8 : Int32)) h20, if_pos (c := (mv 25) = (0 : Int32)) h21, if_neg (c := (mv 29) = (0 : Int32)) h22]) rfl rfl
        · refine cv_iconst (v := 4) K d_Model_loaded_179 rfl ?_
          refine cv_goto K d_Model_loaded_180 184 rfl ?_
          refine cv_iadd K d_Model_loaded_184 ?_
          refine cv_aload_n K 0 d_Model_loaded_185 rfl rfl ?_
          refine cv_get K d_Model_loaded_186 0 48 rfl rfl in_Model (by decide) tm_881 rfl ?_
          refine cv_if_eq K d_Model_loaded_189 197 rfl (fun h23 => ?_) (fun h23 => ?_)
          · refine cv_iconst (v := 0) K d_Model_loaded_197 rfl ?_
            refine cv_iadd K d_Model_loaded_198 ?_
            exact cv_reti K hm d_Model_loaded_199 (((((1 : Int32) + (0 : Int32)) + (4 : Int32)) + (0 : Int32), mv, m_pending, m_service, m_received)) (by rw [p_Model_loaded, if_neg (c := (mv 15) = (0 : Int32)) h1, if_neg (c := (mv 15) = (1 : Int32)) h2, if_neg (c := (mv 15) = (2 : Int32)) h3, if_neg (c := (mv 15) = (3 : Int32)) h4, if_neg (c := (mv 15) = (4 : Int32)) h5, if_neg (c := (mv 15) = (5 : Int32)) h6, if_neg (c := (mv 15) = (6 : Int32)) h7, if_neg (c := (mv 15) = (7 : Int32)) h8, if_neg (c := (mv 15) = (8 : Int32)) h9, if_neg (c := (mv 15) = (12 : Int32)) h10, if_pos (c := (mv 15) = (13 : Int32)) h11, if_neg (c := (mv 24) ≤ (0 : Int32)) h12, if_neg (c := (mv 26) = (8 : Int32)) h20, if_neg (c := (mv 25) = (0 : Int32)) h21, if_pos (c := (mv 29) = (0 : Int32)) h23]) rfl rfl
          · refine cv_bipush (v := 8) K d_Model_loaded_192 (by decide +kernel) ?_
            refine cv_goto K d_Model_loaded_194 198 rfl ?_
            refine cv_iadd K d_Model_loaded_198 ?_
            exact cv_reti K hm d_Model_loaded_199 (((((1 : Int32) + (0 : Int32)) + (4 : Int32)) + (8 : Int32), mv, m_pending, m_service, m_received)) (by rw [p_Model_loaded, if_neg (c := (mv 15) = (0 : Int32)) h1, if_neg (c := (mv 15) = (1 : Int32)) h2, if_neg (c := (mv 15) = (2 : Int32)) h3, if_neg (c := (mv 15) = (3 : Int32)) h4, if_neg (c := (mv 15) = (4 : Int32)) h5, if_neg (c := (mv 15) = (5 : Int32)) h6, if_neg (c := (mv 15) = (6 : Int32)) h7, if_neg (c := (mv 15) = (7 : Int32)) h8, if_neg (c := (mv 15) = (8 : Int32)) h9, if_neg (c := (mv 15) = (12 : Int32)) h10, if_pos (c := (mv 15) = (13 : Int32)) h11, if_neg (c := (mv 24) ≤ (0 : Int32)) h12, if_neg (c := (mv 26) = (8 : Int32)) h20, if_neg (c := (mv 25) = (0 : Int32)) h21, if_neg (c := (mv 29) = (0 : Int32)) h23]) rfl rfl
      · refine cv_iconst (v := 2) K d_Model_loaded_166 rfl ?_
        refine cv_goto K d_Model_loaded_167 171 rfl ?_
        refine cv_iadd K d_Model_loaded_171 ?_
        refine cv_aload_n K 0 d_Model_loaded_172 rfl rfl ?_
        refine cv_get K d_Model_loaded_173 0 43 rfl rfl in_Model (by decide) tm_876 rfl ?_
        refine cv_if_eq K d_Model_loaded_176 183 rfl (fun h24 => ?_) (fun h24 => ?_)
        · refine cv_iconst (v := 0) K d_Model_loaded_183 rfl ?_
          refine cv_iadd K d_Model_loaded_184 ?_
          refine cv_aload_n K 0 d_Model_loaded_185 rfl rfl ?_
          refine cv_get K d_Model_loaded_186 0 48 rfl rfl in_Model (by decide) tm_881 rfl ?_
          refine cv_if_eq K d_Model_loaded_189 197 rfl (fun h25 => ?_) (fun h25 => ?_)
          · refine cv_iconst (v := 0) K d_Model_loaded_197 rfl ?_
            refine cv_iadd K d_Model_loaded_198 ?_
            exact cv_reti K hm d_Model_loaded_199 (((((1 : Int32) + (2 : Int32)) + (0 : Int32)) + (0 : Int32), mv, m_pending, m_service, m_received)) (by rw [p_Model_loaded, if_neg (c := (mv 15) = (0 : Int32)) h1, if_neg (c := (mv 15) = (1 : Int32)) h2, if_neg (c := (mv 15) = (2 : Int32)) h3, if_neg (c := (mv 15) = (3 : Int32)) h4, if_neg (c := (mv 15) = (4 : Int32)) h5, if_neg (c := (mv 15) = (5 : Int32)) h6, if_neg (c := (mv 15) = (6 : Int32)) h7, if_neg (c := (mv 15) = (7 : Int32)) h8, if_neg (c := (mv 15) = (8 : Int32)) h9, if_neg (c := (mv 15) = (12 : Int32)) h10, if_pos (c := (mv 15) = (13 : Int32)) h11, if_neg (c := (mv 24) ≤ (0 : Int32)) h12, if_pos (c := (mv 26) = (8 : Int32)) h20, if_pos (c := (mv 25) = (0 : Int32)) h24, if_pos (c := (mv 29) = (0 : Int32)) h25]) rfl rfl
          · refine cv_bipush (v := 8) K d_Model_loaded_192 (by decide +kernel) ?_
            refine cv_goto K d_Model_loaded_194 198 rfl ?_
            refine cv_iadd K d_Model_loaded_198 ?_
            exact cv_reti K hm d_Model_loaded_199 (((((1 : Int32) + (2 : Int32)) + (0 : Int32)) + (8 : Int32), mv, m_pending, m_service, m_received)) (by rw [p_Model_loaded, if_neg (c := (mv 15) = (0 : Int32)) h1, if_neg (c := (mv 15) = (1 : Int32)) h2, if_neg (c := (mv 15) = (2 : Int32)) h3, if_neg (c := (mv 15) = (3 : Int32)) h4, if_neg (c := (mv 15) = (4 : Int32)) h5, if_neg (c := (mv 15) = (5 : Int32)) h6, if_neg (c := (mv 15) = (6 : Int32)) h7, if_neg (c := (mv 15) = (7 : Int32)) h8, if_neg (c := (mv 15) = (8 : Int32)) h9, if_neg (c := (mv 15) = (12 : Int32)) h10, if_pos (c := (mv 15) = (13 : Int32)) h11, if_neg (c := (mv 24) ≤ (0 : Int32)) h12, if_pos (c := (mv 26) = (8 : Int32)) h20, if_pos (c := (mv 25) = (0 : Int32)) h24, if_neg (c := (mv 29) = (0 : Int32)) h25]) rfl rfl
        · refine cv_iconst (v := 4) K d_Model_loaded_179 rfl ?_
          refine cv_goto K d_Model_loaded_180 184 rfl ?_
          refine cv_iadd K d_Model_loaded_184 ?_
          refine cv_aload_n K 0 d_Model_loaded_185 rfl rfl ?_
          refine cv_get K d_Model_loaded_186 0 48 rfl rfl in_Model (by decide) tm_881 rfl ?_
          refine cv_if_eq K d_Model_loaded_189 197 rfl (fun h26 => ?_) (fun h26 => ?_)
          · refine cv_iconst (v := 0) K d_Model_loaded_197 rfl ?_
            refine cv_iadd K d_Model_loaded_198 ?_
            exact cv_reti K hm d_Model_loaded_199 (((((1 : Int32) + (2 : Int32)) + (4 : Int32)) + (0 : Int32), mv, m_pending, m_service, m_received)) (by rw [p_Model_loaded, if_neg (c := (mv 15) = (0 : Int32)) h1, if_neg (c := (mv 15) = (1 : Int32)) h2, if_neg (c := (mv 15) = (2 : Int32)) h3, if_neg (c := (mv 15) = (3 : Int32)) h4, if_neg (c := (mv 15) = (4 : Int32)) h5, if_neg (c := (mv 15) = (5 : Int32)) h6, if_neg (c := (mv 15) = (6 : Int32)) h7, if_neg (c := (mv 15) = (7 : Int32)) h8, if_neg (c := (mv 15) = (8 : Int32)) h9, if_neg (c := (mv 15) = (12 : Int32)) h10, if_pos (c := (mv 15) = (13 : Int32)) h11, if_neg (c := (mv 24) ≤ (0 : Int32)) h12, if_pos (c := (mv 26) = (8 : Int32)) h20, if_neg (c := (mv 25) = (0 : Int32)) h24, if_pos (c := (mv 29) = (0 : Int32)) h26]) rfl rfl
          · refine cv_bipush (v := 8) K d_Model_loaded_192 (by decide +kernel) ?_
            refine cv_goto K d_Model_loaded_194 198 rfl ?_
            refine cv_iadd K d_Model_loaded_198 ?_
            exact cv_reti K hm d_Model_loaded_199 (((((1 : Int32) + (2 : Int32)) + (4 : Int32)) + (8 : Int32), mv, m_pending, m_service, m_received)) (by rw [p_Model_loaded, if_neg (c := (mv 15) = (0 : Int32)) h1, if_neg (c := (mv 15) = (1 : Int32)) h2, if_neg (c := (mv 15) = (2 : Int32)) h3, if_neg (c := (mv 15) = (3 : Int32)) h4, if_neg (c := (mv 15) = (4 : Int32)) h5, if_neg (c := (mv 15) = (5 : Int32)) h6, if_neg (c := (mv 15) = (6 : Int32)) h7, if_neg (c := (mv 15) = (7 : Int32)) h8, if_neg (c := (mv 15) = (8 : Int32)) h9, if_neg (c := (mv 15) = (12 : Int32)) h10, if_pos (c := (mv 15) = (13 : Int32)) h11, if_neg (c := (mv 24) ≤ (0 : Int32)) h12, if_pos (c := (mv 26) = (8 : Int32)) h20, if_neg (c := (mv 25) = (0 : Int32)) h24, if_neg (c := (mv 29) = (0 : Int32)) h26]) rfl rfl
  by_cases h27 : (mv 15) = (14 : Int32)
  · refine cv_tab K d_Model_loaded_4 200 h27 196 (by decide +kernel) rfl ?_
    refine cv_aload_n K 0 d_Model_loaded_200 rfl rfl ?_
    refine cv_get K d_Model_loaded_201 0 46 rfl rfl in_Model (by decide) tm_879 rfl ?_
    exact cv_reti K hm d_Model_loaded_204 ((mv 27, mv, m_pending, m_service, m_received)) (by rw [p_Model_loaded, if_neg (c := (mv 15) = (0 : Int32)) h1, if_neg (c := (mv 15) = (1 : Int32)) h2, if_neg (c := (mv 15) = (2 : Int32)) h3, if_neg (c := (mv 15) = (3 : Int32)) h4, if_neg (c := (mv 15) = (4 : Int32)) h5, if_neg (c := (mv 15) = (5 : Int32)) h6, if_neg (c := (mv 15) = (6 : Int32)) h7, if_neg (c := (mv 15) = (7 : Int32)) h8, if_neg (c := (mv 15) = (8 : Int32)) h9, if_neg (c := (mv 15) = (12 : Int32)) h10, if_neg (c := (mv 15) = (13 : Int32)) h11, if_pos (c := (mv 15) = (14 : Int32)) h27]) rfl rfl
  by_cases h28 : (mv 15) = (15 : Int32)
  · refine cv_tab K d_Model_loaded_4 205 h28 201 (by decide +kernel) rfl ?_
    refine cv_aload_n K 0 d_Model_loaded_205 rfl rfl ?_
    refine cv_get K d_Model_loaded_206 0 47 rfl rfl in_Model (by decide) tm_880 rfl ?_
    exact cv_reti K hm d_Model_loaded_209 ((mv 28, mv, m_pending, m_service, m_received)) (by rw [p_Model_loaded, if_neg (c := (mv 15) = (0 : Int32)) h1, if_neg (c := (mv 15) = (1 : Int32)) h2, if_neg (c := (mv 15) = (2 : Int32)) h3, if_neg (c := (mv 15) = (3 : Int32)) h4, if_neg (c := (mv 15) = (4 : Int32)) h5, if_neg (c := (mv 15) = (5 : Int32)) h6, if_neg (c := (mv 15) = (6 : Int32)) h7, if_neg (c := (mv 15) = (7 : Int32)) h8, if_neg (c := (mv 15) = (8 : Int32)) h9, if_neg (c := (mv 15) = (12 : Int32)) h10, if_neg (c := (mv 15) = (13 : Int32)) h11, if_neg (c := (mv 15) = (14 : Int32)) h27, if_pos (c := (mv 15) = (15 : Int32)) h28]) rfl rfl
  refine cv_tabD K d_Model_loaded_4 210 (by
      have zh1 := j_ne 0 h1 (by decide +kernel); have zh2 := j_ne 1 h2 (by decide +kernel); have zh3 := j_ne 2 h3 (by decide +kernel); have zh4 := j_ne 3 h4 (by decide +kernel); have zh5 := j_ne 4 h5 (by decide +kernel); have zh6 := j_ne 5 h6 (by decide +kernel); have zh7 := j_ne 6 h7 (by decide +kernel); have zh8 := j_ne 7 h8 (by decide +kernel); have zh9 := j_ne 8 h9 (by decide +kernel); have zh10 := j_ne 12 h10 (by decide +kernel); have zh11 := j_ne 13 h11 (by decide +kernel); have zh27 := j_ne 14 h27 (by decide +kernel); have zh28 := j_ne 15 h28 (by decide +kernel); 
      by_cases hlo : (mv 15).toInt < 0 ∨ 15 < (mv 15).toInt
      · exact Or.inl hlo
      · have hq : (mv 15).toInt = 9 ∨ (mv 15).toInt = 10 ∨ (mv 15).toInt = 11 := by omega
        rcases hq with hz | hz | hz <;> (rw [hz]; exact Or.inr rfl)) rfl ?_
  refine cv_iconst (v := 0) K d_Model_loaded_210 rfl ?_
  exact cv_reti K hm d_Model_loaded_211 (((0 : Int32), mv, m_pending, m_service, m_received)) (by rw [p_Model_loaded, if_neg (c := (mv 15) = (0 : Int32)) h1, if_neg (c := (mv 15) = (1 : Int32)) h2, if_neg (c := (mv 15) = (2 : Int32)) h3, if_neg (c := (mv 15) = (3 : Int32)) h4, if_neg (c := (mv 15) = (4 : Int32)) h5, if_neg (c := (mv 15) = (5 : Int32)) h6, if_neg (c := (mv 15) = (6 : Int32)) h7, if_neg (c := (mv 15) = (7 : Int32)) h8, if_neg (c := (mv 15) = (8 : Int32)) h9, if_neg (c := (mv 15) = (12 : Int32)) h10, if_neg (c := (mv 15) = (13 : Int32)) h11, if_neg (c := (mv 15) = (14 : Int32)) h27, if_neg (c := (mv 15) = (15 : Int32)) h28]) rfl rfl
theorem in_17 {k r : Int32} (hr : r = p_Model_in k (1 : Int32) (7 : Int32)) (h : ¬ r = (0 : Int32)) : vp_in k 8 := by
  have h2 := in_r hr h
  exact mi_in 8 (nI_of2 (n := 7) (M := (7 : Int32)) rfl (fun h5 => h2.1 (Int32.lt_trans h5 (by decide))) (k2_le h2.2))
-- CycleChipModel.putDevice()V
def p_Model_putDevice_1 (mv : Nat → Int32) (mvL : Nat → Int64) (m_service : Nat → Int32) (m_sending : Nat → Int32) (r1 : Int64) : (Nat → Int32) × (Nat → Int64) × (Nat → Int32) × (Nat → Int32) := (mv, (vp_updL mvL 0 r1), m_service, m_sending)
def p_Model_putDevice_2 (mv : Nat → Int32) (mvL : Nat → Int64) (m_service : Nat → Int32) (m_sending : Nat → Int32) (r2 : Int64) : (Nat → Int32) × (Nat → Int64) × (Nat → Int32) × (Nat → Int32) := (mv, (vp_updL mvL 0 r2), m_service, m_sending)
def p_Model_putDevice_3 (mv : Nat → Int32) (mvL : Nat → Int64) (m_service : Nat → Int32) (m_sending : Nat → Int32) (r3 : Int64) : (Nat → Int32) × (Nat → Int64) × (Nat → Int32) × (Nat → Int32) := (mv, (vp_updL mvL 1 r3), m_service, m_sending)
def p_Model_putDevice_4 (mv : Nat → Int32) (mvL : Nat → Int64) (m_service : Nat → Int32) (m_sending : Nat → Int32) (r4 : Int64) : (Nat → Int32) × (Nat → Int64) × (Nat → Int32) × (Nat → Int32) := (mv, (vp_updL mvL 1 r4), m_service, m_sending)
def p_Model_putDevice_5 (mv : Nat → Int32) (mvL : Nat → Int64) (m_service : Nat → Int32) (m_sending : Nat → Int32) (r5 : Int32) : (Nat → Int32) × (Nat → Int64) × (Nat → Int32) × (Nat → Int32) := if r5 = (0 : Int32) then (mv, mvL, m_service, m_sending) else (mv, mvL, (upd m_service ((mv 17).toNatClampNeg) (0 : Int32)), m_sending)
def p_Model_putDevice (mv : Nat → Int32) (mvL : Nat → Int64) (m_service : Nat → Int32) (m_sending : Nat → Int32) : (Nat → Int32) × (Nat → Int64) × (Nat → Int32) × (Nat → Int32) := if (mv 15) = (0 : Int32) then p_Model_putDevice_1 mv mvL m_service m_sending (p_Model_joinWords ((j_lshr (mvL 0) (32 : Int32)).toInt32) ((mv 17).toInt64)) else if (mv 15) = (1 : Int32) then p_Model_putDevice_2 mv mvL m_service m_sending (p_Model_joinWords (mv 17) (mvL 0)) else if (mv 15) = (2 : Int32) then p_Model_putDevice_3 mv mvL m_service m_sending (p_Model_joinWords ((j_lshr (mvL 1) (32 : Int32)).toInt32) ((mv 17).toInt64)) else if (mv 15) = (3 : Int32) then p_Model_putDevice_4 mv mvL m_service m_sending (p_Model_joinWords (mv 17) (mvL 1)) else if (mv 15) = (4 : Int32) then ((upd mv 21 ((mv 17) &&& (254 : Int32))), mvL, m_service, m_sending) else if (mv 15) = (5 : Int32) then ((upd mv 22 ((mv 17) &&& (7 : Int32))), mvL, m_service, m_sending) else if (mv 15) = (6 : Int32) then p_Model_putDevice_5 mv mvL m_service m_sending (p_Model_in (mv 17) (1 : Int32) (7 : Int32)) else if (mv 15) = (8 : Int32) then ((upd mv 23 ((mv 17) &&& (2004318064 : Int32))), mvL, m_service, m_sending) else if (mv 15) = (12 : Int32) then if (8 : Int32) ≤ (mv 26) then (mv, mvL, m_service, m_sending) else ((upd mv 26 ((mv 26) + (1 : Int32))), mvL, m_service, (upd m_sending ((mv 26).toNatClampNeg) ((mv 17) &&& (255 : Int32)))) else if (mv 15) = (13 : Int32) then ((upd mv 25 (0 : Int32)), mvL, m_service, m_sending) else if (mv 15) = (14 : Int32) then if ((mv 17) &&& (255 : Int32)) = (0 : Int32) then ((upd mv 27 (1 : Int32)), mvL, m_service, m_sending) else ((upd mv 27 ((mv 17) &&& (255 : Int32))), mvL, m_service, m_sending) else if (mv 15) = (15 : Int32) then ((upd mv 28 ((mv 17) &&& (3 : Int32))), mvL, m_service, m_sending) else (mv, mvL, m_service, m_sending)
set_option maxRecDepth 100000 in
set_option maxHeartbeats 4000000 in
theorem m_Model_putDevice (l : Launch) (dC : Nat → ClassId) (dI : Nat → Nat → Nat) (tys : List (ClassId × FieldType)) (md : Nat → Nat) (mc : Nat → ClassId) (n : Nat) (hmys : ∀ k, k < 18 → tys[17 + k]? = some (mc k, mty k)) (mv : Nat → Int32) (mvL : Nat → Int64) (m_service : Nat → Int32) (m_sending : Nat → Int32) (hsc : ∃ k : Nat, k ≤ 8 ∧ mv 26 = nI k) : cv_Mv l y_Model_putDevice (Cond.code y_Model_putDevice c_Model_putDevice 2 (none) :: gw) { frames := 1, cells := 0, slots := 0, locals := 22 } (dC, dI) vwCl tys [.ref (md 0)] [k_Model (md 0) (md 1) (md 2) (md 3) (md 4) (md 5) (md 6) (md 7) (md 8) (md 9) (md 10) (md 11) (md 12) (md 13) (md 14) (md 15) (md 16) (md 17) (md 18) mv mvL, k_arr (md 15) (mc 14) 8 m_service, k_arr (md 17) (mc 16) 8 m_sending] (p_Model_putDevice mv mvL m_service m_sending) (fun r => [k_Model (md 0) (md 1) (md 2) (md 3) (md 4) (md 5) (md 6) (md 7) (md 8) (md 9) (md 10) (md 11) (md 12) (md 13) (md 14) (md 15) (md 16) (md 17) (md 18) r.1 r.2.1, k_arr (md 15) (mc 14) 8 r.2.2.1, k_arr (md 17) (mc 16) 8 r.2.2.2]) := by
  refine cv_startv (by decide) (Nat.le_of_ble_eq_true rfl) [(0, .ref (md 0))] rfl ?_
  intro p e s m below meth c A K hm
  refine cv_aload_n K 0 d_Model_putDevice_0 rfl rfl ?_
  refine cv_get K d_Model_putDevice_1 0 24 rfl rfl in_Model (by decide) tm_857 rfl ?_
  refine cv_istore_n K d_Model_putDevice_4 [(1, .int (mv 17)), (0, .ref (md 0))] rfl (by decide) rfl ?_
  refine cv_aload_n K 1 d_Model_putDevice_5 rfl rfl ?_
  refine cv_get K d_Model_putDevice_6 0 22 rfl rfl in_Model (by decide) tm_855 rfl ?_
  by_cases h1 : (mv 15) = (0 : Int32)
  · refine cv_tab K d_Model_putDevice_9 88 h1 79 (by decide +kernel) rfl ?_
    refine cv_aload_n K 1 d_Model_putDevice_88 rfl rfl ?_
    refine cv_aload_n K 1 d_Model_putDevice_89 rfl rfl ?_
    refine cv_get K d_Model_putDevice_90 0 33 rfl rfl in_Model (by decide) tm_866 rfl ?_
    refine cv_bipush (v := 32) K d_Model_putDevice_93 (by decide +kernel) ?_
    refine cv_lshr (v := j_lshr (mvL 0) (32 : Int32)) K d_Model_putDevice_95 rfl ?_
    refine cv_l2i K d_Model_putDevice_96 rfl ?_
    refine cv_iload_n K 0 d_Model_putDevice_97 rfl rfl ?_
    refine cv_i2l K d_Model_putDevice_98 rfl ?_
    refine cv_callSl K (m_Model_joinWords l dC dI tys ((j_lshr (mvL 0) (32 : Int32)).toInt32) ((mv 17).toInt64)) d_Model_putDevice_99 (cw_S (n := 2) K.2.2.2.2.1 tm_1088 tm_1089 tm_15 tm_1090 rfl rfl (wd_of (by decide +kernel) (by decide +kernel)) ⟨Nat.le_of_ble_eq_true rfl, Nat.le_of_ble_eq_true rfl⟩) [] rfl rfl (fun _ => rfl) rfl rfl (Nat.le_of_ble_eq_true rfl) (Nat.zero_le _) (Nat.zero_le _) (fun r1 hr1 => ?_)
    refine cv_norm [k_Model (md 0) (md 1) (md 2) (md 3) (md 4) (md 5) (md 6) (md 7) (md 8) (md 9) (md 10) (md 11) (md 12) (md 13) (md 14) (md 15) (md 16) (md 17) (md 18) mv mvL, k_arr (md 15) (mc 14) 8 m_service, k_arr (md 17) (mc 16) 8 m_sending] rfl ?_
    refine cv_put K d_Model_putDevice_102 [k_Model (md 0) (md 1) (md 2) (md 3) (md 4) (md 5) (md 6) (md 7) (md 8) (md 9) (md 10) (md 11) (md 12) (md 13) (md 14) (md 15) (md 16) (md 17) (md 18) mv (vp_updL mvL 0 r1), k_arr (md 15) (mc 14) 8 m_service, k_arr (md 17) (mc 16) 8 m_sending] 0 33 rfl rfl in_Model t_Model o_Model n_Model (by decide) tm_866 rfl rfl rfl (Nat.le_of_ble_eq_true rfl) rfl ?_
    refine cv_goto K d_Model_putDevice_105 291 rfl ?_
    exact cv_retv K hm d_Model_putDevice_291 ((mv, (vp_updL mvL 0 r1), m_service, m_sending)) (by rw [p_Model_putDevice, if_pos (c := (mv 15) = (0 : Int32)) h1, ← hr1, p_Model_putDevice_1]) rfl
  by_cases h2 : (mv 15) = (1 : Int32)
  · refine cv_tab K d_Model_putDevice_9 108 h2 99 (by decide +kernel) rfl ?_
    refine cv_aload_n K 1 d_Model_putDevice_108 rfl rfl ?_
    refine cv_iload_n K 0 d_Model_putDevice_109 rfl rfl ?_
    refine cv_aload_n K 1 d_Model_putDevice_110 rfl rfl ?_
    refine cv_get K d_Model_putDevice_111 0 33 rfl rfl in_Model (by decide) tm_866 rfl ?_
    refine cv_callSl K (m_Model_joinWords l dC dI tys (mv 17) (mvL 0)) d_Model_putDevice_114 (cw_S (n := 2) K.2.2.2.2.1 tm_1088 tm_1089 tm_15 tm_1090 rfl rfl (wd_of (by decide +kernel) (by decide +kernel)) ⟨Nat.le_of_ble_eq_true rfl, Nat.le_of_ble_eq_true rfl⟩) [] rfl rfl (fun _ => rfl) rfl rfl (Nat.le_of_ble_eq_true rfl) (Nat.zero_le _) (Nat.zero_le _) (fun r2 hr2 => ?_)
    refine cv_norm [k_Model (md 0) (md 1) (md 2) (md 3) (md 4) (md 5) (md 6) (md 7) (md 8) (md 9) (md 10) (md 11) (md 12) (md 13) (md 14) (md 15) (md 16) (md 17) (md 18) mv mvL, k_arr (md 15) (mc 14) 8 m_service, k_arr (md 17) (mc 16) 8 m_sending] rfl ?_
    refine cv_put K d_Model_putDevice_117 [k_Model (md 0) (md 1) (md 2) (md 3) (md 4) (md 5) (md 6) (md 7) (md 8) (md 9) (md 10) (md 11) (md 12) (md 13) (md 14) (md 15) (md 16) (md 17) (md 18) mv (vp_updL mvL 0 r2), k_arr (md 15) (mc 14) 8 m_service, k_arr (md 17) (mc 16) 8 m_sending] 0 33 rfl rfl in_Model t_Model o_Model n_Model (by decide) tm_866 rfl rfl rfl (Nat.le_of_ble_eq_true rfl) rfl ?_
    refine cv_goto K d_Model_putDevice_120 291 rfl ?_
    exact cv_retv K hm d_Model_putDevice_291 ((mv, (vp_updL mvL 0 r2), m_service, m_sending)) (by rw [p_Model_putDevice, if_neg (c := (mv 15) = (0 : Int32)) h1, if_pos (c := (mv 15) = (1 : Int32)) h2, ← hr2, p_Model_putDevice_2]) rfl
  by_cases h3 : (mv 15) = (2 : Int32)
  · refine cv_tab K d_Model_putDevice_9 123 h3 114 (by decide +kernel) rfl ?_
    refine cv_aload_n K 1 d_Model_putDevice_123 rfl rfl ?_
    refine cv_aload_n K 1 d_Model_putDevice_124 rfl rfl ?_
    refine cv_get K d_Model_putDevice_125 0 34 rfl rfl in_Model (by decide) tm_867 rfl ?_
    refine cv_bipush (v := 32) K d_Model_putDevice_128 (by decide +kernel) ?_
    refine cv_lshr (v := j_lshr (mvL 1) (32 : Int32)) K d_Model_putDevice_130 rfl ?_
    refine cv_l2i K d_Model_putDevice_131 rfl ?_
    refine cv_iload_n K 0 d_Model_putDevice_132 rfl rfl ?_
    refine cv_i2l K d_Model_putDevice_133 rfl ?_
    refine cv_callSl K (m_Model_joinWords l dC dI tys ((j_lshr (mvL 1) (32 : Int32)).toInt32) ((mv 17).toInt64)) d_Model_putDevice_134 (cw_S (n := 2) K.2.2.2.2.1 tm_1088 tm_1089 tm_15 tm_1090 rfl rfl (wd_of (by decide +kernel) (by decide +kernel)) ⟨Nat.le_of_ble_eq_true rfl, Nat.le_of_ble_eq_true rfl⟩) [] rfl rfl (fun _ => rfl) rfl rfl (Nat.le_of_ble_eq_true rfl) (Nat.zero_le _) (Nat.zero_le _) (fun r3 hr3 => ?_)
    refine cv_norm [k_Model (md 0) (md 1) (md 2) (md 3) (md 4) (md 5) (md 6) (md 7) (md 8) (md 9) (md 10) (md 11) (md 12) (md 13) (md 14) (md 15) (md 16) (md 17) (md 18) mv mvL, k_arr (md 15) (mc 14) 8 m_service, k_arr (md 17) (mc 16) 8 m_sending] rfl ?_
    refine cv_put K d_Model_putDevice_137 [k_Model (md 0) (md 1) (md 2) (md 3) (md 4) (md 5) (md 6) (md 7) (md 8) (md 9) (md 10) (md 11) (md 12) (md 13) (md 14) (md 15) (md 16) (md 17) (md 18) mv (vp_updL mvL 1 r3), k_arr (md 15) (mc 14) 8 m_service, k_arr (md 17) (mc 16) 8 m_sending] 0 34 rfl rfl in_Model t_Model o_Model n_Model (by decide) tm_867 rfl rfl rfl (Nat.le_of_ble_eq_true rfl) rfl ?_
    refine cv_goto K d_Model_putDevice_140 291 rfl ?_
    exact cv_retv K hm d_Model_putDevice_291 ((mv, (vp_updL mvL 1 r3), m_service, m_sending)) (by rw [p_Model_putDevice, if_neg (c := (mv 15) = (0 : Int32)) h1, if_neg (c := (mv 15) = (1 : Int32)) h2, if_pos (c := (mv 15) = (2 : Int32)) h3, ← hr3, p_Model_putDevice_3]) rfl
  by_cases h4 : (mv 15) = (3 : Int32)
  · refine cv_tab K d_Model_putDevice_9 143 h4 134 (by decide +kernel) rfl ?_
    refine cv_aload_n K 1 d_Model_putDevice_143 rfl rfl ?_
    refine cv_iload_n K 0 d_Model_putDevice_144 rfl rfl ?_
    refine cv_aload_n K 1 d_Model_putDevice_145 rfl rfl ?_
    refine cv_get K d_Model_putDevice_146 0 34 rfl rfl in_Model (by decide) tm_867 rfl ?_
    refine cv_callSl K (m_Model_joinWords l dC dI tys (mv 17) (mvL 1)) d_Model_putDevice_149 (cw_S (n := 2) K.2.2.2.2.1 tm_1088 tm_1089 tm_15 tm_1090 rfl rfl (wd_of (by decide +kernel) (by decide +kernel)) ⟨Nat.le_of_ble_eq_true rfl, Nat.le_of_ble_eq_true rfl⟩) [] rfl rfl (fun _ => rfl) rfl rfl (Nat.le_of_ble_eq_true rfl) (Nat.zero_le _) (Nat.zero_le _) (fun r4 hr4 => ?_)
    refine cv_norm [k_Model (md 0) (md 1) (md 2) (md 3) (md 4) (md 5) (md 6) (md 7) (md 8) (md 9) (md 10) (md 11) (md 12) (md 13) (md 14) (md 15) (md 16) (md 17) (md 18) mv mvL, k_arr (md 15) (mc 14) 8 m_service, k_arr (md 17) (mc 16) 8 m_sending] rfl ?_
    refine cv_put K d_Model_putDevice_152 [k_Model (md 0) (md 1) (md 2) (md 3) (md 4) (md 5) (md 6) (md 7) (md 8) (md 9) (md 10) (md 11) (md 12) (md 13) (md 14) (md 15) (md 16) (md 17) (md 18) mv (vp_updL mvL 1 r4), k_arr (md 15) (mc 14) 8 m_service, k_arr (md 17) (mc 16) 8 m_sending] 0 34 rfl rfl in_Model t_Model o_Model n_Model (by decide) tm_867 rfl rfl rfl (Nat.le_of_ble_eq_true rfl) rfl ?_
    refine cv_goto K d_Model_putDevice_155 291 rfl ?_
    exact cv_retv K hm d_Model_putDevice_291 ((mv, (vp_updL mvL 1 r4), m_service, m_sending)) (by rw [p_Model_putDevice, if_neg (c := (mv 15) = (0 : Int32)) h1, if_neg (c := (mv 15) = (1 : Int32)) h2, if_neg (c := (mv 15) = (2 : Int32)) h3, if_pos (c := (mv 15) = (3 : Int32)) h4, ← hr4, p_Model_putDevice_4]) rfl
  by_cases h5 : (mv 15) = (4 : Int32)
  · refine cv_tab K d_Model_putDevice_9 158 h5 149 (by decide +kernel) rfl ?_
    refine cv_aload_n K 1 d_Model_putDevice_158 rfl rfl ?_
    refine cv_iload_n K 0 d_Model_putDevice_159 rfl rfl ?_
    refine cv_sipush (v := 254) K d_Model_putDevice_160 (by decide +kernel) ?_
    refine cv_iand K d_Model_putDevice_163 ?_
    refine cv_put K d_Model_putDevice_164 [k_Model (md 0) (md 1) (md 2) (md 3) (md 4) (md 5) (md 6) (md 7) (md 8) (md 9) (md 10) (md 11) (md 12) (md 13) (md 14) (md 15) (md 16) (md 17) (md 18) (upd mv 21 ((mv 17) &&& (254 : Int32))) mvL, k_arr (md 15) (mc 14) 8 m_service, k_arr (md 17) (mc 16) 8 m_sending] 0 35 rfl rfl in_Model t_Model o_Model n_Model (by decide) tm_868 rfl rfl rfl (Nat.le_of_ble_eq_true rfl) rfl ?_
    refine cv_goto K d_Model_putDevice_167 291 rfl ?_
    exact cv_retv K hm d_Model_putDevice_291 (((upd mv 21 ((mv 17) &&& (254 : Int32))), mvL, m_service, m_sending)) (by rw [p_Model_putDevice, if_neg (c := (mv 15) = (0 : Int32)) h1, if_neg (c := (mv 15) = (1 : Int32)) h2, if_neg (c := (mv 15) = (2 : Int32)) h3, if_neg (c := (mv 15) = (3 : Int32)) h4, if_pos (c := (mv 15) = (4 : Int32)) h5]) rfl
  by_cases h6 : (mv 15) = (5 : Int32)
  · refine cv_tab K d_Model_putDevice_9 170 h6 161 (by decide +kernel) rfl ?_
    refine cv_aload_n K 1 d_Model_putDevice_170 rfl rfl ?_
    refine cv_iload_n K 0 d_Model_putDevice_171 rfl rfl ?_
    refine cv_bipush (v := 7) K d_Model_putDevice_172 (by decide +kernel) ?_
    refine cv_iand K d_Model_putDevice_174 ?_
    refine cv_put K d_Model_putDevice_175 [k_Model (md 0) (md 1) (md 2) (md 3) (md 4) (md 5) (md 6) (md 7) (md 8) (md 9) (md 10) (md 11) (md 12) (md 13) (md 14) (md 15) (md 16) (md 17) (md 18) (upd mv 22 ((mv 17) &&& (7 : Int32))) mvL, k_arr (md 15) (mc 14) 8 m_service, k_arr (md 17) (mc 16) 8 m_sending] 0 36 rfl rfl in_Model t_Model o_Model n_Model (by decide) tm_869 rfl rfl rfl (Nat.le_of_ble_eq_true rfl) rfl ?_
    refine cv_goto K d_Model_putDevice_178 291 rfl ?_
    exact cv_retv K hm d_Model_putDevice_291 (((upd mv 22 ((mv 17) &&& (7 : Int32))), mvL, m_service, m_sending)) (by rw [p_Model_putDevice, if_neg (c := (mv 15) = (0 : Int32)) h1, if_neg (c := (mv 15) = (1 : Int32)) h2, if_neg (c := (mv 15) = (2 : Int32)) h3, if_neg (c := (mv 15) = (3 : Int32)) h4, if_neg (c := (mv 15) = (4 : Int32)) h5, if_pos (c := (mv 15) = (5 : Int32)) h6]) rfl
  by_cases h7 : (mv 15) = (6 : Int32)
  · refine cv_tab K d_Model_putDevice_9 181 h7 172 (by decide +kernel) rfl ?_
    refine cv_iload_n K 0 d_Model_putDevice_181 rfl rfl ?_
    refine cv_iconst (v := 1) K d_Model_putDevice_182 rfl ?_
    refine cv_bipush (v := 7) K d_Model_putDevice_183 (by decide +kernel) ?_
    refine cv_callSz K (m_Model_in l dC dI tys (mv 17) (1 : Int32) (7 : Int32)) d_Model_putDevice_185 (cw_S (n := 3) K.2.2.2.2.1 tm_999 tm_1000 tm_15 tm_1001 rfl rfl (wd_of (by decide +kernel) (by decide +kernel)) ⟨Nat.le_of_ble_eq_true rfl, Nat.le_of_ble_eq_true rfl⟩) [] rfl rfl (fun _ => rfl) rfl rfl (Nat.le_of_ble_eq_true rfl) (Nat.zero_le _) (Nat.zero_le _) (fun r5 hr5 => ?_)
    refine cv_norm [k_Model (md 0) (md 1) (md 2) (md 3) (md 4) (md 5) (md 6) (md 7) (md 8) (md 9) (md 10) (md 11) (md 12) (md 13) (md 14) (md 15) (md 16) (md 17) (md 18) mv mvL, k_arr (md 15) (mc 14) 8 m_service, k_arr (md 17) (mc 16) 8 m_sending] rfl ?_
    refine cv_if_eq K d_Model_putDevice_188 291 rfl (fun h8 => ?_) (fun h8 => ?_)
    · exact cv_retv K hm d_Model_putDevice_291 ((mv, mvL, m_service, m_sending)) (by rw [p_Model_putDevice, if_neg (c := (mv 15) = (0 : Int32)) h1, if_neg (c := (mv 15) = (1 : Int32)) h2, if_neg (c := (mv 15) = (2 : Int32)) h3, if_neg (c := (mv 15) = (3 : Int32)) h4, if_neg (c := (mv 15) = (4 : Int32)) h5, if_neg (c := (mv 15) = (5 : Int32)) h6, if_pos (c := (mv 15) = (6 : Int32)) h7, ← hr5, p_Model_putDevice_5, if_pos (c := r5 = (0 : Int32)) h8]) rfl
    · refine cv_aload_n K 1 d_Model_putDevice_191 rfl rfl ?_
      refine cv_get K d_Model_putDevice_192 0 40 rfl rfl in_Model (by decide) tm_873 rfl ?_
      refine cv_iload_n K 0 d_Model_putDevice_195 rfl rfl ?_
      refine cv_iconst (v := 0) K d_Model_putDevice_196 rfl ?_
      refine cv_zast K d_Model_putDevice_197 [k_Model (md 0) (md 1) (md 2) (md 3) (md 4) (md 5) (md 6) (md 7) (md 8) (md 9) (md 10) (md 11) (md 12) (md 13) (md 14) (md 15) (md 16) (md 17) (md 18) mv mvL, k_arr (md 15) (mc 14) 8 (upd m_service ((mv 17).toNatClampNeg) (0 : Int32)), k_arr (md 17) (mc 16) 8 m_sending] 1 31 rfl (hmys 14 (by decide)) (in_17 hr5 h8) rfl rfl ?_
      refine cv_goto K d_Model_putDevice_198 291 rfl ?_
      exact cv_retv K hm d_Model_putDevice_291 ((mv, mvL, (upd m_service ((mv 17).toNatClampNeg) (0 : Int32)), m_sending)) (by rw [p_Model_putDevice, if_neg (c := (mv 15) = (0 : Int32)) h1, if_neg (c := (mv 15) = (1 : Int32)) h2, if_neg (c := (mv 15) = (2 : Int32)) h3, if_neg (c := (mv 15) = (3 : Int32)) h4, if_neg (c := (mv 15) = (4 : Int32)) h5, if_neg (c := (mv 15) = (5 : Int32)) h6, if_pos (c := (mv 15) = (6 : Int32)) h7, ← hr5, p_Model_putDevice_5, if_neg (c := r5 = (0 : Int32)) h8]) rfl
  by_cases h9 : (mv 15) = (8 : Int32)
  · refine cv_tab K d_Model_putDevice_9 201 h9 192 (by decide +kernel) rfl ?_
    refine cv_aload_n K 1 d_Model_putDevice_201 rfl rfl ?_
    refine cv_iload_n K 0 d_Model_putDevice_202 rfl rfl ?_
    refine cv_ldcw (v := 2004318064) K d_Model_putDevice_203 tm_1091 ?_
    refine cv_iand K d_Model_putDevice_206 ?_
    refine cv_put K d_Model_putDevice_207 [k_Model (md 0) (md 1) (md 2) (md 3) (md 4) (md 5) (md 6) (md 7) (md 8) (md 9) (md 10) (md 11) (md 12) (md 13) (md 14) (md 15) (md 16) (md 17) (md 18) (upd mv 23 ((mv 17) &&& (2004318064 : Int32))) mvL, k_arr (md 15) (mc 14) 8 m_service, k_arr (md 17) (mc 16) 8 m_sending] 0 37 rfl rfl in_Model t_Model o_Model n_Model (by decide) tm_870 rfl rfl rfl (Nat.le_of_ble_eq_true rfl) rfl ?_
    refine cv_goto K d_Model_putDevice_210 291 rfl ?_
    exact cv_retv K hm d_Model_putDevice_291 (((upd mv 23 ((mv 17) &&& (2004318064 : Int32))), mvL, m_service, m_sending)) (by rw [p_Model_putDevice, if_neg (c := (mv 15) = (0 : Int32)) h1, if_neg (c := (mv 15) = (1 : Int32)) h2, if_neg (c := (mv 15) = (2 : Int32)) h3, if_neg (c := (mv 15) = (3 : Int32)) h4, if_neg (c := (mv 15) = (4 : Int32)) h5, if_neg (c := (mv 15) = (5 : Int32)) h6, if_neg (c := (mv 15) = (6 : Int32)) h7, if_pos (c := (mv 15) = (8 : Int32)) h9]) rfl
  by_cases h10 : (mv 15) = (12 : Int32)
  · refine cv_tab K d_Model_putDevice_9 213 h10 204 (by decide +kernel) rfl ?_
    refine cv_aload_n K 1 d_Model_putDevice_213 rfl rfl ?_
    refine cv_get K d_Model_putDevice_214 0 45 rfl rfl in_Model (by decide) tm_878 rfl ?_
    refine cv_bipush (v := 8) K d_Model_putDevice_217 (by decide +kernel) ?_
    refine cv_icmp_ge K d_Model_putDevice_219 291 rfl (fun h11 => ?_) (fun h11 => ?_)
    · exact cv_retv K hm d_Model_putDevice_291 ((mv, mvL, m_service, m_sending)) (by rw [p_Model_putDevice, if_neg (c := (mv 15) = (0 : Int32)) h1, if_neg (c := (mv 15) = (1 : Int32)) h2, if_neg (c := (mv 15) = (2 : Int32)) h3, if_neg (c := (mv 15) = (3 : Int32)) h4, if_neg (c := (mv 15) = (4 : Int32)) h5, if_neg (c := (mv 15) = (5 : Int32)) h6, if_neg (c := (mv 15) = (6 : Int32)) h7, if_neg (c := (mv 15) = (8 : Int32)) h9, if_pos (c := (mv 15) = (12 : Int32)) h10, if_pos (c := (8 : Int32) ≤ (mv 26)) h11]) rfl
    · refine cv_aload_n K 1 d_Model_putDevice_222 rfl rfl ?_
      refine cv_get K d_Model_putDevice_223 0 44 rfl rfl in_Model (by decide) tm_877 rfl ?_
      refine cv_aload_n K 1 d_Model_putDevice_226 rfl rfl ?_
      refine cv_get K d_Model_putDevice_227 0 45 rfl rfl in_Model (by decide) tm_878 rfl ?_
      refine cv_iload_n K 0 d_Model_putDevice_230 rfl rfl ?_
      refine cv_sipush (v := 255) K d_Model_putDevice_231 (by decide +kernel) ?_
      refine cv_iand K d_Model_putDevice_234 ?_
      refine cv_iast K d_Model_putDevice_235 [k_Model (md 0) (md 1) (md 2) (md 3) (md 4) (md 5) (md 6) (md 7) (md 8) (md 9) (md 10) (md 11) (md 12) (md 13) (md 14) (md 15) (md 16) (md 17) (md 18) mv mvL, k_arr (md 15) (mc 14) 8 m_service, k_arr (md 17) (mc 16) 8 (upd m_sending ((mv 26).toNatClampNeg) ((mv 17) &&& (255 : Int32)))] 2 33 rfl (hmys 16 (by decide)) (mi_8l hsc h11) rfl ?_
      refine cv_aload_n K 1 d_Model_putDevice_236 rfl rfl ?_
      refine cv_dup K d_Model_putDevice_237 rfl ?_
      refine cv_get K d_Model_putDevice_238 0 45 rfl rfl in_Model (by decide) tm_878 rfl ?_
      refine cv_iconst (v := 1) K d_Model_putDevice_241 rfl ?_
      refine cv_iadd K d_Model_putDevice_242 ?_
      refine cv_put K d_Model_putDevice_243 [k_Model (md 0) (md 1) (md 2) (md 3) (md 4) (md 5) (md 6) (md 7) (md 8) (md 9) (md 10) (md 11) (md 12) (md 13) (md 14) (md 15) (md 16) (md 17) (md 18) (upd mv 26 ((mv 26) + (1 : Int32))) mvL, k_arr (md 15) (mc 14) 8 m_service, k_arr (md 17) (mc 16) 8 (upd m_sending ((mv 26).toNatClampNeg) ((mv 17) &&& (255 : Int32)))] 0 45 rfl rfl in_Model t_Model o_Model n_Model (by decide) tm_878 rfl rfl rfl (Nat.le_of_ble_eq_true rfl) rfl ?_
      refine cv_goto K d_Model_putDevice_246 291 rfl ?_
      exact cv_retv K hm d_Model_putDevice_291 (((upd mv 26 ((mv 26) + (1 : Int32))), mvL, m_service, (upd m_sending ((mv 26).toNatClampNeg) ((mv 17) &&& (255 : Int32))))) (by rw [p_Model_putDevice, if_neg (c := (mv 15) = (0 : Int32)) h1, if_neg (c := (mv 15) = (1 : Int32)) h2, if_neg (c := (mv 15) = (2 : Int32)) h3, if_neg (c := (mv 15) = (3 : Int32)) h4, if_neg (c := (mv 15) = (4 : Int32)) h5, if_neg (c := (mv 15) = (5 : Int32)) h6, if_neg (c := (mv 15) = (6 : Int32)) h7, if_neg (c := (mv 15) = (8 : Int32)) h9, if_pos (c := (mv 15) = (12 : Int32)) h10, if_neg (c := (8 : Int32) ≤ (mv 26)) h11]) rfl
  by_cases h12 : (mv 15) = (13 : Int32)
  · refine cv_tab K d_Model_putDevice_9 249 h12 240 (by decide +kernel) rfl ?_
    refine cv_aload_n K 1 d_Model_putDevice_249 rfl rfl ?_
    refine cv_iconst (v := 0) K d_Model_putDevice_250 rfl ?_
    refine cv_put K d_Model_putDevice_251 [k_Model (md 0) (md 1) (md 2) (md 3) (md 4) (md 5) (md 6) (md 7) (md 8) (md 9) (md 10) (md 11) (md 12) (md 13) (md 14) (md 15) (md 16) (md 17) (md 18) (upd mv 25 (0 : Int32)) mvL, k_arr (md 15) (mc 14) 8 m_service, k_arr (md 17) (mc 16) 8 m_sending] 0 43 rfl rfl in_Model t_Model o_Model n_Model (by decide) tm_876 rfl rfl rfl (Nat.le_of_ble_eq_true rfl) rfl ?_
    refine cv_goto K d_Model_putDevice_254 291 rfl ?_
    exact cv_retv K hm d_Model_putDevice_291 (((upd mv 25 (0 : Int32)), mvL, m_service, m_sending)) (by rw [p_Model_putDevice, if_neg (c := (mv 15) = (0 : Int32)) h1, if_neg (c := (mv 15) = (1 : Int32)) h2, if_neg (c := (mv 15) = (2 : Int32)) h3, if_neg (c := (mv 15) = (3 : Int32)) h4, if_neg (c := (mv 15) = (4 : Int32)) h5, if_neg (c := (mv 15) = (5 : Int32)) h6, if_neg (c := (mv 15) = (6 : Int32)) h7, if_neg (c := (mv 15) = (8 : Int32)) h9, if_neg (c := (mv 15) = (12 : Int32)) h10, if_pos (c := (mv 15) = (13 : Int32)) h12]) rfl
  by_cases h13 : (mv 15) = (14 : Int32)
  · refine cv_tab K d_Model_putDevice_9 257 h13 248 (by decide +kernel) rfl ?_
    refine cv_aload_n K 1 d_Model_putDevice_257 rfl rfl ?_
    refine cv_iload_n K 0 d_Model_putDevice_258 rfl rfl ?_
    refine cv_sipush (v := 255) K d_Model_putDevice_259 (by decide +kernel) ?_
    refine cv_iand K d_Model_putDevice_262 ?_
    refine cv_if_ne K d_Model_putDevice_263 270 rfl (fun h14 => ?_) (fun h14 => ?_)
    · refine cv_iload_n K 0 d_Model_putDevice_270 rfl rfl ?_
      refine cv_sipush (v := 255) K d_Model_putDevice_271 (by decide +kernel) ?_
      refine cv_iand K d_Model_putDevice_274 ?_
      refine cv_put K d_Model_putDevice_275 [k_Model (md 0) (md 1) (md 2) (md 3) (md 4) (md 5) (md 6) (md 7) (md 8) (md 9) (md 10) (md 11) (md 12) (md 13) (md 14) (md 15) (md 16) (md 17) (md 18) (upd mv 27 ((mv 17) &&& (255 : Int32))) mvL, k_arr (md 15) (mc 14) 8 m_service, k_arr (md 17) (mc 16) 8 m_sending] 0 46 rfl rfl in_Model t_Model o_Model n_Model (by decide) tm_879 rfl rfl rfl (Nat.le_of_ble_eq_true rfl) rfl ?_
      refine cv_goto K d_Model_putDevice_278 291 rfl ?_
      exact cv_retv K hm d_Model_putDevice_291 (((upd mv 27 ((mv 17) &&& (255 : Int32))), mvL, m_service, m_sending)) (by rw [p_Model_putDevice, if_neg (c := (mv 15) = (0 : Int32)) h1, if_neg (c := (mv 15) = (1 : Int32)) h2, if_neg (c := (mv 15) = (2 : Int32)) h3, if_neg (c := (mv 15) = (3 : Int32)) h4, if_neg (c := (mv 15) = (4 : Int32)) h5, if_neg (c := (mv 15) = (5 : Int32)) h6, if_neg (c := (mv 15) = (6 : Int32)) h7, if_neg (c := (mv 15) = (8 : Int32)) h9, if_neg (c := (mv 15) = (12 : Int32)) h10, if_neg (c := (mv 15) = (13 : Int32)) h12, if_pos (c := (mv 15) = (14 : Int32)) h13, if_neg (c := ((mv 17) &&& (255 : Int32)) = (0 : Int32)) h14]) rfl
    · refine cv_iconst (v := 1) K d_Model_putDevice_266 rfl ?_
      refine cv_goto K d_Model_putDevice_267 275 rfl ?_
      refine cv_put K d_Model_putDevice_275 [k_Model (md 0) (md 1) (md 2) (md 3) (md 4) (md 5) (md 6) (md 7) (md 8) (md 9) (md 10) (md 11) (md 12) (md 13) (md 14) (md 15) (md 16) (md 17) (md 18) (upd mv 27 (1 : Int32)) mvL, k_arr (md 15) (mc 14) 8 m_service, k_arr (md 17) (mc 16) 8 m_sending] 0 46 rfl rfl in_Model t_Model o_Model n_Model (by decide) tm_879 rfl rfl rfl (Nat.le_of_ble_eq_true rfl) rfl ?_
      refine cv_goto K d_Model_putDevice_278 291 rfl ?_
      exact cv_retv K hm d_Model_putDevice_291 (((upd mv 27 (1 : Int32)), mvL, m_service, m_sending)) (by rw [p_Model_putDevice, if_neg (c := (mv 15) = (0 : Int32)) h1, if_neg (c := (mv 15) = (1 : Int32)) h2, if_neg (c := (mv 15) = (2 : Int32)) h3, if_neg (c := (mv 15) = (3 : Int32)) h4, if_neg (c := (mv 15) = (4 : Int32)) h5, if_neg (c := (mv 15) = (5 : Int32)) h6, if_neg (c := (mv 15) = (6 : Int32)) h7, if_neg (c := (mv 15) = (8 : Int32)) h9, if_neg (c := (mv 15) = (12 : Int32)) h10, if_neg (c := (mv 15) = (13 : Int32)) h12, if_pos (c := (mv 15) = (14 : Int32)) h13, if_pos (c := ((mv 17) &&& (255 : Int32)) = (0 : Int32)) h14]) rfl
  by_cases h15 : (mv 15) = (15 : Int32)
  · refine cv_tab K d_Model_putDevice_9 281 h15 272 (by decide +kernel) rfl ?_
    refine cv_aload_n K 1 d_Model_putDevice_281 rfl rfl ?_
    refine cv_iload_n K 0 d_Model_putDevice_282 rfl rfl ?_
    refine cv_iconst (v := 3) K d_Model_putDevice_283 rfl ?_
    refine cv_iand K d_Model_putDevice_284 ?_
    refine cv_put K d_Model_putDevice_285 [k_Model (md 0) (md 1) (md 2) (md 3) (md 4) (md 5) (md 6) (md 7) (md 8) (md 9) (md 10) (md 11) (md 12) (md 13) (md 14) (md 15) (md 16) (md 17) (md 18) (upd mv 28 ((mv 17) &&& (3 : Int32))) mvL, k_arr (md 15) (mc 14) 8 m_service, k_arr (md 17) (mc 16) 8 m_sending] 0 47 rfl rfl in_Model t_Model o_Model n_Model (by decide) tm_880 rfl rfl rfl (Nat.le_of_ble_eq_true rfl) rfl ?_
    refine cv_goto K d_Model_putDevice_288 291 rfl ?_
    exact cv_retv K hm d_Model_putDevice_291 (((upd mv 28 ((mv 17) &&& (3 : Int32))), mvL, m_service, m_sending)) (by rw [p_Model_putDevice, if_neg (c := (mv 15) = (0 : Int32)) h1, if_neg (c := (mv 15) = (1 : Int32)) h2, if_neg (c := (mv 15) = (2 : Int32)) h3, if_neg (c := (mv 15) = (3 : Int32)) h4, if_neg (c := (mv 15) = (4 : Int32)) h5, if_neg (c := (mv 15) = (5 : Int32)) h6, if_neg (c := (mv 15) = (6 : Int32)) h7, if_neg (c := (mv 15) = (8 : Int32)) h9, if_neg (c := (mv 15) = (12 : Int32)) h10, if_neg (c := (mv 15) = (13 : Int32)) h12, if_neg (c := (mv 15) = (14 : Int32)) h13, if_pos (c := (mv 15) = (15 : Int32)) h15]) rfl
  refine cv_tabD K d_Model_putDevice_9 291 (by
      have zh1 := j_ne 0 h1 (by decide +kernel); have zh2 := j_ne 1 h2 (by decide +kernel); have zh3 := j_ne 2 h3 (by decide +kernel); have zh4 := j_ne 3 h4 (by decide +kernel); have zh5 := j_ne 4 h5 (by decide +kernel); have zh6 := j_ne 5 h6 (by decide +kernel); have zh7 := j_ne 6 h7 (by decide +kernel); have zh9 := j_ne 8 h9 (by decide +kernel); have zh10 := j_ne 12 h10 (by decide +kernel); have zh12 := j_ne 13 h12 (by decide +kernel); have zh13 := j_ne 14 h13 (by decide +kernel); have zh15 := j_ne 15 h15 (by decide +kernel); 
      by_cases hlo : (mv 15).toInt < 0 ∨ 15 < (mv 15).toInt
      · exact Or.inl hlo
      · have hq : (mv 15).toInt = 7 ∨ (mv 15).toInt = 9 ∨ (mv 15).toInt = 10 ∨ (mv 15).toInt = 11 := by omega
        rcases hq with hz | hz | hz | hz <;> (rw [hz]; exact Or.inr rfl)) rfl ?_
  exact cv_retv K hm d_Model_putDevice_291 ((mv, mvL, m_service, m_sending)) (by rw [p_Model_putDevice, if_neg (c := (mv 15) = (0 : Int32)) h1, if_neg (c := (mv 15) = (1 : Int32)) h2, if_neg (c := (mv 15) = (2 : Int32)) h3, if_neg (c := (mv 15) = (3 : Int32)) h4, if_neg (c := (mv 15) = (4 : Int32)) h5, if_neg (c := (mv 15) = (5 : Int32)) h6, if_neg (c := (mv 15) = (6 : Int32)) h7, if_neg (c := (mv 15) = (8 : Int32)) h9, if_neg (c := (mv 15) = (12 : Int32)) h10, if_neg (c := (mv 15) = (13 : Int32)) h12, if_neg (c := (mv 15) = (14 : Int32)) h13, if_neg (c := (mv 15) = (15 : Int32)) h15]) rfl
