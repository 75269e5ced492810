theorem fx_A {w r : Int32} (h : r = p_Core_fieldA w) : vp_in r 32 := by rw [h, p_Core_fieldA]; exact pk_andIn _ 5 (by decide +kernel) (by decide)
theorem fx_B {w r : Int32} (h : r = p_Core_fieldB w) : vp_in r 32 := by rw [h, p_Core_fieldB]; exact pk_andIn _ 5 (by decide +kernel) (by decide)
theorem fx_D {w r : Int32} (h : r = p_Core_fieldD w) : vp_in r 32 := by rw [h, p_Core_fieldD]; exact pk_andIn _ 5 (by decide +kernel) (by decide)
theorem ix_16c {v0 : Int32} (hc : ∃ k : Nat, k ≤ 16 ∧ v0 = nI k) (h : v0 < (16 : Int32)) : vp_in v0 16 := by
  obtain ⟨k, hk, rfl⟩ := hc
  have h2 := (nI_ltI (a := k) (b := 16) (by omega) (by omega)).mp h
  exact vp_in_nI h2 (by omega)
theorem ec_n {v0 : Int32} (hc : ∃ k : Nat, k ≤ 16 ∧ v0 = nI k) : v0 = nI v0.toNatClampNeg ∧ v0.toNatClampNeg ≤ 16 := by
  obtain ⟨k, hk, rfl⟩ := hc
  rw [nI_clamp (by omega)]
  exact ⟨rfl, hk⟩
theorem ec_i {v0 i_ : Int32} {i : Nat} (hc : ∃ k : Nat, k ≤ 16 ∧ v0 = nI k) (hi : i_ = nI i) (hle : i ≤ v0.toNatClampNeg) (h : ¬ v0 ≤ i_) : i < v0.toNatClampNeg := lp_nle hi (ec_n hc).1 (by have := (ec_n hc).2; omega) (by have := (ec_n hc).2; omega) h
theorem ec_in {v0 i_ j_ : Int32} {i j : Nat} (hc : ∃ k : Nat, k ≤ 16 ∧ v0 = nI k) (hi : i_ = nI i) (hj : j_ = nI j) (hle : i ≤ v0.toNatClampNeg) (hji : j ≤ i) (h : ¬ v0 ≤ i_) : vp_in j_ 16 := by
  have h1 := ec_i hc hi hle h
  have h2 := (ec_n hc).2
  rw [hj]
  exact vp_in_nI (by omega) (by omega)
-- CycleChip$Serial.arrive(I)V
def p_Serial_arrive_2 (srv : Nat → Int32) (rqv : Nat → Int32) (rqB : Nat → Int32) (b : Int32) (r1 : Int32) (r2 : (Nat → Int32) × (Nat → Int32)) : (Nat → Int32) × (Nat → Int32) × (Nat → Int32) := (srv, r2.1, r2.2)
def p_Serial_arrive_1 (srv : Nat → Int32) (rqv : Nat → Int32) (rqB : Nat → Int32) (b : Int32) (r1 : Int32) : (Nat → Int32) × (Nat → Int32) × (Nat → Int32) := if r1 = (0 : Int32) then p_Serial_arrive_2 srv rqv rqB b r1 (p_ByteQueue_put rqv rqB b) else ((upd srv 0 (1 : Int32)), rqv, rqB)
def p_Serial_arrive (srv : Nat → Int32) (rqv : Nat → Int32) (rqB : Nat → Int32) (b : Int32) : (Nat → Int32) × (Nat → Int32) × (Nat → Int32) := p_Serial_arrive_1 srv rqv rqB b (p_ByteQueue_isFull rqv)
set_option maxRecDepth 100000 in
set_option maxHeartbeats 4000000 in
theorem m_Serial_arrive (l : Launch) (dC : Nat → ClassId) (dI : Nat → Nat → Nat) (tys : List (ClassId × FieldType)) (ad : Nat → Nat) (ca : Nat → ClassId) (n : Nat) (htys : ∀ k, k < 17 → tys[k]? = some (ca k, .int)) (srv : Nat → Int32) (rqv : Nat → Int32) (rqB : Nat → Int32) (b : Int32)  : cv_Mv l y_Serial_arrive (Cond.code y_Serial_arrive c_Serial_arrive 2 (none) :: gw) { frames := 2, cells := 0, slots := 0, locals := 41 } (dC, dI) vwCl tys [.ref (ad 17), .int b] [k_Serial (ad 17) (ad 18) (ad 20) (ad 22) srv, k_ByteQueue (ad 18) (ad 19) rqv, k_arr (ad 19) (ca 10) 8 rqB] (p_Serial_arrive srv rqv rqB b) (fun r => [k_Serial (ad 17) (ad 18) (ad 20) (ad 22) r.1, k_ByteQueue (ad 18) (ad 19) r.2.1, k_arr (ad 19) (ca 10) 8 r.2.2]) := by
  refine cv_startv (by decide) (Nat.le_of_ble_eq_true rfl) [(0, .ref (ad 17)), (1, .int b)] rfl ?_
  intro p e s m below meth c A K hm
  refine cv_aload_n K 0 d_Serial_arrive_0 rfl rfl ?_
  refine cv_get K d_Serial_arrive_1 0 0 rfl rfl in_Serial (by decide) tm_140 rfl ?_
  refine cv_callVz K (m_ByteQueue_isFull l dC dI tys (ad 18) (ad 19) rqv) d_Serial_arrive_4 (cw_V (n := 0) K.2.2.2.2.1 tm_477 tm_478 tm_479 tm_7 tm_480 rfl rfl ⟨rfl, wd_of (by decide +kernel) (by decide +kernel)⟩ ⟨Nat.le_of_ble_eq_true rfl, Nat.le_of_ble_eq_true rfl⟩) 1 rfl rfl [1] rfl rfl (fun _ => rfl) rfl rfl (Nat.le_of_ble_eq_true rfl) (Nat.zero_le _) (Nat.zero_le _) (fun r1 hr1 => ?_)
  refine cv_norm [k_Serial (ad 17) (ad 18) (ad 20) (ad 22) srv, k_ByteQueue (ad 18) (ad 19) rqv, k_arr (ad 19) (ca 10) 8 rqB] rfl ?_
  refine cv_if_eq K d_Serial_arrive_7 18 rfl (fun h1 => ?_) (fun h1 => ?_)
  · refine cv_aload_n K 0 d_Serial_arrive_18 rfl rfl ?_
    refine cv_get K d_Serial_arrive_19 0 0 rfl rfl in_Serial (by decide) tm_140 rfl ?_
    refine cv_iload_n K 1 d_Serial_arrive_22 rfl rfl ?_
    refine cv_callVv K (m_ByteQueue_put l dC dI tys (ad 18) (ad 19) (ca 10) 10 (htys 10 (by decide)) rqv rqB b) d_Serial_arrive_23 (cw_V (n := 1) K.2.2.2.2.1 tm_481 tm_482 tm_483 tm_7 tm_484 rfl rfl ⟨rfl, wd_of (by decide +kernel) (by decide +kernel)⟩ ⟨Nat.le_of_ble_eq_true rfl, Nat.le_of_ble_eq_true rfl⟩) 1 rfl rfl [1, 2] rfl rfl (fun _ => rfl) rfl rfl (Nat.le_of_ble_eq_true rfl) (Nat.zero_le _) (Nat.zero_le _) (fun r2 hr2 => ?_)
    refine cv_norm [k_Serial (ad 17) (ad 18) (ad 20) (ad 22) srv, k_ByteQueue (ad 18) (ad 19) r2.1, k_arr (ad 19) (ca 10) 8 r2.2] rfl ?_
    exact cv_retv K hm d_Serial_arrive_26 ((srv, r2.1, r2.2)) (by rw [p_Serial_arrive, ← hr1, p_Serial_arrive_1, if_pos (c := r1 = (0 : Int32)) h1, ← hr2, p_Serial_arrive_2]) rfl
  · refine cv_aload_n K 0 d_Serial_arrive_10 rfl rfl ?_
    refine cv_iconst (v := 1) K d_Serial_arrive_11 rfl ?_
    refine cv_put K d_Serial_arrive_12 [k_Serial (ad 17) (ad 18) (ad 20) (ad 22) (upd srv 0 (1 : Int32)), k_ByteQueue (ad 18) (ad 19) rqv, k_arr (ad 19) (ca 10) 8 rqB] 0 3 rfl rfl in_Serial t_Serial o_Serial n_Serial (by decide) tm_146 rfl rfl rfl (Nat.le_of_ble_eq_true rfl) rfl ?_
    refine cv_goto K d_Serial_arrive_15 26 rfl ?_
    exact cv_retv K hm d_Serial_arrive_26 (((upd srv 0 (1 : Int32)), rqv, rqB)) (by rw [p_Serial_arrive, ← hr1, p_Serial_arrive_1, if_neg (c := r1 = (0 : Int32)) h1]) rfl
-- CycleChip$Serial.advanceSender(I)V
def p_Serial_advanceSender_2 (srv : Nat → Int32) (sqv : Nat → Int32) (sqB : Nat → Int32) (otv : Nat → Int32) (otC : Nat → Int32) (otV : Nat → Int32) (k : Int32) (r1 : Int32) (r2 : Int32 × (Nat → Int32)) : (Nat → Int32) × (Nat → Int32) × (Nat → Int32) × (Nat → Int32) × (Nat → Int32) := ((upd (upd (upd srv 4 r2.1) 5 (k + ((10 : Int32) * (srv 1)))) 3 (1 : Int32)), r2.2, otv, otC, otV)
def p_Serial_advanceSender_1 (srv : Nat → Int32) (sqv : Nat → Int32) (sqB : Nat → Int32) (otv : Nat → Int32) (otC : Nat → Int32) (otV : Nat → Int32) (k : Int32) (r1 : Int32) : (Nat → Int32) × (Nat → Int32) × (Nat → Int32) × (Nat → Int32) × (Nat → Int32) := if r1 = (0 : Int32) then p_Serial_advanceSender_2 srv sqv sqB otv otC otV k r1 (p_ByteQueue_take sqv sqB) else (srv, sqv, otv, otC, otV)
def p_Serial_advanceSender_5 (srv : Nat → Int32) (sqv : Nat → Int32) (sqB : Nat → Int32) (otv : Nat → Int32) (otC : Nat → Int32) (otV : Nat → Int32) (k : Int32) (r3 : (Nat → Int32) × (Nat → Int32) × (Nat → Int32)) (r4 : Int32) (r5 : Int32 × (Nat → Int32)) : (Nat → Int32) × (Nat → Int32) × (Nat → Int32) × (Nat → Int32) × (Nat → Int32) := ((upd (upd (upd (upd srv 3 (0 : Int32)) 4 r5.1) 5 (k + ((10 : Int32) * (srv 1)))) 3 (1 : Int32)), r5.2, r3.1, r3.2.1, r3.2.2)
def p_Serial_advanceSender_4 (srv : Nat → Int32) (sqv : Nat → Int32) (sqB : Nat → Int32) (otv : Nat → Int32) (otC : Nat → Int32) (otV : Nat → Int32) (k : Int32) (r3 : (Nat → Int32) × (Nat → Int32) × (Nat → Int32)) (r4 : Int32) : (Nat → Int32) × (Nat → Int32) × (Nat → Int32) × (Nat → Int32) × (Nat → Int32) := if r4 = (0 : Int32) then p_Serial_advanceSender_5 srv sqv sqB otv otC otV k r3 r4 (p_ByteQueue_take sqv sqB) else ((upd srv 3 (0 : Int32)), sqv, r3.1, r3.2.1, r3.2.2)
def p_Serial_advanceSender_3 (srv : Nat → Int32) (sqv : Nat → Int32) (sqB : Nat → Int32) (otv : Nat → Int32) (otC : Nat → Int32) (otV : Nat → Int32) (k : Int32) (r3 : (Nat → Int32) × (Nat → Int32) × (Nat → Int32)) : (Nat → Int32) × (Nat → Int32) × (Nat → Int32) × (Nat → Int32) × (Nat → Int32) := if (0 : Int32) = (0 : Int32) then p_Serial_advanceSender_4 srv sqv sqB otv otC otV k r3 (p_ByteQueue_isEmpty sqv) else ((upd srv 3 (0 : Int32)), sqv, r3.1, r3.2.1, r3.2.2)
def p_Serial_advanceSender (srv : Nat → Int32) (sqv : Nat → Int32) (sqB : Nat → Int32) (otv : Nat → Int32) (otC : Nat → Int32) (otV : Nat → Int32) (k : Int32) : (Nat → Int32) × (Nat → Int32) × (Nat → Int32) × (Nat → Int32) × (Nat → Int32) := if (srv 3) = (0 : Int32) then if (srv 3) = (0 : Int32) then p_Serial_advanceSender_1 srv sqv sqB otv otC otV k (p_ByteQueue_isEmpty sqv) else (srv, sqv, otv, otC, otV) else if (srv 5) = k then p_Serial_advanceSender_3 srv sqv sqB otv otC otV k (p_Log_add otv otC otV k (srv 4)) else if (srv 3) = (0 : Int32) then (srv, sqv, otv, otC, otV) else (srv, sqv, otv, otC, otV)
set_option maxRecDepth 100000 in
set_option maxHeartbeats 4000000 in
theorem m_Serial_advanceSender (l : Launch) (dC : Nat → ClassId) (dI : Nat → Nat → Nat) (tys : List (ClassId × FieldType)) (ad : Nat → Nat) (ca : Nat → ClassId) (n : Nat) (htys : ∀ k, k < 17 → tys[k]? = some (ca k, .int)) (srv : Nat → Int32) (sqv : Nat → Int32) (sqB : Nat → Int32) (otv : Nat → Int32) (otC : Nat → Int32) (otV : Nat → Int32) (k : Int32) (hsq : vp_in (sqv 0) 8) : cv_Mv l y_Serial_advanceSender (Cond.code y_Serial_advanceSender c_Serial_advanceSender 2 (none) :: gw) { frames := 2, cells := 0, slots := 0, locals := 41 } (dC, dI) vwCl tys [.ref (ad 17), .int k] [k_Serial (ad 17) (ad 18) (ad 20) (ad 22) srv, k_ByteQueue (ad 20) (ad 21) sqv, k_arr (ad 21) (ca 11) 8 sqB, k_Log (ad 22) (ad 23) (ad 24) otv, k_arr (ad 23) (ca 12) 16 otC, k_arr (ad 24) (ca 13) 16 otV] (p_Serial_advanceSender srv sqv sqB otv otC otV k) (fun r => [k_Serial (ad 17) (ad 18) (ad 20) (ad 22) r.1, k_ByteQueue (ad 20) (ad 21) r.2.1, k_arr (ad 21) (ca 11) 8 sqB, k_Log (ad 22) (ad 23) (ad 24) r.2.2.1, k_arr (ad 23) (ca 12) 16 r.2.2.2.1, k_arr (ad 24) (ca 13) 16 r.2.2.2.2]) := by
  refine cv_startv (by decide) (Nat.le_of_ble_eq_true rfl) [(0, .ref (ad 17)), (1, .int k)] rfl ?_
  intro p e s m below meth c A K hm
  refine cv_aload_n K 0 d_Serial_advanceSender_0 rfl rfl ?_
  refine cv_get K d_Serial_advanceSender_1 0 6 rfl rfl in_Serial (by decide) tm_149 rfl ?_
  refine cv_if_eq K d_Serial_advanceSender_4 32 rfl (fun h1 => ?_) (fun h1 => ?_)
  · refine cv_aload_n K 0 d_Serial_advanceSender_32 rfl rfl ?_
    refine cv_get K d_Serial_advanceSender_33 0 6 rfl rfl in_Serial (by decide) tm_149 rfl ?_
    refine cv_if_ne K d_Serial_advanceSender_36 78 rfl (fun h2 => ?_) (fun h2 => ?_)
    · exact absurd h1 h2
    · refine cv_aload_n K 0 d_Serial_advanceSender_39 rfl rfl ?_
      refine cv_get K d_Serial_advanceSender_40 0 1 rfl rfl in_Serial (by decide) tm_142 rfl ?_
      refine cv_callVz K (m_ByteQueue_isEmpty l dC dI tys (ad 20) (ad 21) sqv) d_Serial_advanceSender_43 (cw_V (n := 0) K.2.2.2.2.1 tm_498 tm_499 tm_500 tm_7 tm_501 rfl rfl ⟨rfl, wd_of (by decide +kernel) (by decide +kernel)⟩ ⟨Nat.le_of_ble_eq_true rfl, Nat.le_of_ble_eq_true rfl⟩) 1 rfl rfl [1] rfl rfl (fun _ => rfl) rfl rfl (Nat.le_of_ble_eq_true rfl) (Nat.zero_le _) (Nat.zero_le _) (fun r1 hr1 => ?_)
      refine cv_norm [k_Serial (ad 17) (ad 18) (ad 20) (ad 22) srv, k_ByteQueue (ad 20) (ad 21) sqv, k_arr (ad 21) (ca 11) 8 sqB, k_Log (ad 22) (ad 23) (ad 24) otv, k_arr (ad 23) (ca 12) 16 otC, k_arr (ad 24) (ca 13) 16 otV] rfl ?_
      refine cv_if_ne K d_Serial_advanceSender_46 78 rfl (fun h3 => ?_) (fun h3 => ?_)
      · exact cv_retv K hm d_Serial_advanceSender_78 ((srv, sqv, otv, otC, otV)) (by rw [p_Serial_advanceSender, if_pos (c := (srv 3) = (0 : Int32)) h1, if_pos (c := (srv 3) = (0 : Int32)) h2, ← hr1, p_Serial_advanceSender_1, if_neg (c := r1 = (0 : Int32)) h3]) rfl
      · refine cv_aload_n K 0 d_Serial_advanceSender_49 rfl rfl ?_
        refine cv_aload_n K 0 d_Serial_advanceSender_50 rfl rfl ?_
        refine cv_get K d_Serial_advanceSender_51 0 1 rfl rfl in_Serial (by decide) tm_142 rfl ?_
        refine cv_callVi K (m_ByteQueue_take l dC dI tys (ad 20) (ad 21) (ca 11) 11 (htys 11 (by decide)) sqv sqB hsq) d_Serial_advanceSender_54 (cw_V (n := 0) K.2.2.2.2.1 tm_502 tm_503 tm_504 tm_7 tm_505 rfl rfl ⟨rfl, wd_of (by decide +kernel) (by decide +kernel)⟩ ⟨Nat.le_of_ble_eq_true rfl, Nat.le_of_ble_eq_true rfl⟩) 1 rfl rfl [1, 2] rfl rfl (fun _ => rfl) rfl rfl (Nat.le_of_ble_eq_true rfl) (Nat.zero_le _) (Nat.zero_le _) (fun r2 hr2 => ?_)
        refine cv_norm [k_Serial (ad 17) (ad 18) (ad 20) (ad 22) srv, k_ByteQueue (ad 20) (ad 21) r2.2, k_arr (ad 21) (ca 11) 8 sqB, k_Log (ad 22) (ad 23) (ad 24) otv, k_arr (ad 23) (ca 12) 16 otC, k_arr (ad 24) (ca 13) 16 otV] rfl ?_
        refine cv_put K d_Serial_advanceSender_57 [k_Serial (ad 17) (ad 18) (ad 20) (ad 22) (upd srv 4 r2.1), k_ByteQueue (ad 20) (ad 21) r2.2, k_arr (ad 21) (ca 11) 8 sqB, k_Log (ad 22) (ad 23) (ad 24) otv, k_arr (ad 23) (ca 12) 16 otC, k_arr (ad 24) (ca 13) 16 otV] 0 7 rfl rfl in_Serial t_Serial o_Serial n_Serial (by decide) tm_150 rfl rfl rfl (Nat.le_of_ble_eq_true rfl) rfl ?_
        refine cv_aload_n K 0 d_Serial_advanceSender_60 rfl rfl ?_
        refine cv_iload_n K 1 d_Serial_advanceSender_61 rfl rfl ?_
        refine cv_bipush (v := 10) K d_Serial_advanceSender_62 (by decide +kernel) ?_
        refine cv_aload_n K 0 d_Serial_advanceSender_64 rfl rfl ?_
        refine cv_get K d_Serial_advanceSender_65 0 4 rfl rfl in_Serial (by decide) tm_147 rfl ?_
        refine cv_imul K d_Serial_advanceSender_68 ?_
        refine cv_iadd K d_Serial_advanceSender_69 ?_
        refine cv_put K d_Serial_advanceSender_70 [k_Serial (ad 17) (ad 18) (ad 20) (ad 22) (upd (upd srv 4 r2.1) 5 (k + ((10 : Int32) * (srv 1)))), k_ByteQueue (ad 20) (ad 21) r2.2, k_arr (ad 21) (ca 11) 8 sqB, k_Log (ad 22) (ad 23) (ad 24) otv, k_arr (ad 23) (ca 12) 16 otC, k_arr (ad 24) (ca 13) 16 otV] 0 8 rfl rfl in_Serial t_Serial o_Serial n_Serial (by decide) tm_151 rfl rfl rfl (Nat.le_of_ble_eq_true rfl) rfl ?_
        refine cv_aload_n K 0 d_Serial_advanceSender_73 rfl rfl ?_
        refine cv_iconst (v := 1) K d_Serial_advanceSender_74 rfl ?_
        refine cv_put K d_Serial_advanceSender_75 [k_Serial (ad 17) (ad 18) (ad 20) (ad 22) (upd (upd (upd srv 4 r2.1) 5 (k + ((10 : Int32) * (srv 1)))) 3 (1 : Int32)), k_ByteQueue (ad 20) (ad 21) r2.2, k_arr (ad 21) (ca 11) 8 sqB, k_Log (ad 22) (ad 23) (ad 24) otv, k_arr (ad 23) (ca 12) 16 otC, k_arr (ad 24) (ca 13) 16 otV] 0 6 rfl rfl in_Serial t_Serial o_Serial n_Serial (by decide) tm_149 rfl rfl rfl (Nat.le_of_ble_eq_true rfl) rfl ?_
        exact cv_retv K hm d_Serial_advanceSender_78 (((upd (upd (upd srv 4 r2.1) 5 (k + ((10 : Int32) * (srv 1)))) 3 (1 : Int32)), r2.2, otv, otC, otV)) (by rw [p_Serial_advanceSender, if_pos (c := (srv 3) = (0 : Int32)) h1, if_pos (c := (srv 3) = (0 : Int32)) h2, ← hr1, p_Serial_advanceSender_1, if_pos (c := r1 = (0 : Int32)) h3, ← hr2, p_Serial_advanceSender_2]) rfl
  · refine cv_aload_n K 0 d_Serial_advanceSender_7 rfl rfl ?_
    refine cv_get K d_Serial_advanceSender_8 0 8 rfl rfl in_Serial (by decide) tm_151 rfl ?_
    refine cv_iload_n K 1 d_Serial_advanceSender_11 rfl rfl ?_
    refine cv_icmp_ne K d_Serial_advanceSender_12 32 rfl (fun h4 => ?_) (fun h4 => ?_)
    · refine cv_aload_n K 0 d_Serial_advanceSender_32 rfl rfl ?_
      refine cv_get K d_Serial_advanceSender_33 0 6 rfl rfl in_Serial (by decide) tm_149 rfl ?_
      refine cv_if_ne K d_Serial_advanceSender_36 78 rfl (fun h5 => ?_) (fun h5 => ?_)
      · exact cv_retv K hm d_Serial_advanceSender_78 ((srv, sqv, otv, otC, otV)) (by rw [p_Serial_advanceSender, if_neg (c := (srv 3) = (0 : Int32)) h1, if_neg (c := (srv 5) = k) h4, if_neg (c := (srv 3) = (0 : Int32)) h5]) rfl
      · exact absurd h5 h1
    · refine cv_aload_n K 0 d_Serial_advanceSender_15 rfl rfl ?_
      refine cv_get K d_Serial_advanceSender_16 0 2 rfl rfl in_Serial (by decide) tm_144 rfl ?_
      refine cv_iload_n K 1 d_Serial_advanceSender_19 rfl rfl ?_
      refine cv_aload_n K 0 d_Serial_advanceSender_20 rfl rfl ?_
      refine cv_get K d_Serial_advanceSender_21 0 7 rfl rfl in_Serial (by decide) tm_150 rfl ?_
      refine cv_callVv K (m_Log_add l dC dI tys (ad 22) (ad 23) (ad 24) (ca 12) 12 (htys 12 (by decide)) (ca 13) 13 (htys 13 (by decide)) otv otC otV k (srv 4)) d_Serial_advanceSender_24 (cw_V (n := 2) K.2.2.2.2.1 tm_494 tm_495 tm_496 tm_8 tm_497 rfl rfl ⟨rfl, wd_of (by decide +kernel) (by decide +kernel)⟩ ⟨Nat.le_of_ble_eq_true rfl, Nat.le_of_ble_eq_true rfl⟩) 3 rfl rfl [3, 4, 5] rfl rfl (fun _ => rfl) rfl rfl (Nat.le_of_ble_eq_true rfl) (Nat.zero_le _) (Nat.zero_le _) (fun r3 hr3 => ?_)
      refine cv_norm [k_Serial (ad 17) (ad 18) (ad 20) (ad 22) srv, k_ByteQueue (ad 20) (ad 21) sqv, k_arr (ad 21) (ca 11) 8 sqB, k_Log (ad 22) (ad 23) (ad 24) r3.1, k_arr (ad 23) (ca 12) 16 r3.2.1, k_arr (ad 24) (ca 13) 16 r3.2.2] rfl ?_
      refine cv_aload_n K 0 d_Serial_advanceSender_27 rfl rfl ?_
      refine cv_iconst (v := 0) K d_Serial_advanceSender_28 rfl ?_
      refine cv_put K d_Serial_advanceSender_29 [k_Serial (ad 17) (ad 18) (ad 20) (ad 22) (upd srv 3 (0 : Int32)), k_ByteQueue (ad 20) (ad 21) sqv, k_arr (ad 21) (ca 11) 8 sqB, k_Log (ad 22) (ad 23) (ad 24) r3.1, k_arr (ad 23) (ca 12) 16 r3.2.1, k_arr (ad 24) (ca 13) 16 r3.2.2] 0 6 rfl rfl in_Serial t_Serial o_Serial n_Serial (by decide) tm_149 rfl rfl rfl (Nat.le_of_ble_eq_true rfl) rfl ?_
      refine cv_aload_n K 0 d_Serial_advanceSender_32 rfl rfl ?_
      refine cv_get K d_Serial_advanceSender_33 0 6 rfl rfl in_Serial (by decide) tm_149 rfl ?_
      refine cv_if_ne K d_Serial_advanceSender_36 78 rfl (fun h6 => ?_) (fun h6 => ?_)
      · exact cv_retv K hm d_Serial_advanceSender_78 (((upd srv 3 (0 : Int32)), sqv, r3.1, r3.2.1, r3.2.2)) (by rw [p_Serial_advanceSender, if_neg (c := (srv 3) = (0 : Int32)) h1, if_pos (c := (srv 5) = k) h4, ← hr3, p_Serial_advanceSender_3, if_neg (c := (0 : Int32) = (0 : Int32)) h6]) rfl
      · refine cv_aload_n K 0 d_Serial_advanceSender_39 rfl rfl ?_
        refine cv_get K d_Serial_advanceSender_40 0 1 rfl rfl in_Serial (by decide) tm_142 rfl ?_
        refine cv_callVz K (m_ByteQueue_isEmpty l dC dI tys (ad 20) (ad 21) sqv) d_Serial_advanceSender_43 (cw_V (n := 0) K.2.2.2.2.1 tm_498 tm_499 tm_500 tm_7 tm_501 rfl rfl ⟨rfl, wd_of (by decide +kernel) (by decide +kernel)⟩ ⟨Nat.le_of_ble_eq_true rfl, Nat.le_of_ble_eq_true rfl⟩) 1 rfl rfl [1] rfl rfl (fun _ => rfl) rfl rfl (Nat.le_of_ble_eq_true rfl) (Nat.zero_le _) (Nat.zero_le _) (fun r4 hr4 => ?_)
        refine cv_norm [k_Serial (ad 17) (ad 18) (ad 20) (ad 22) (upd srv 3 (0 : Int32)), k_ByteQueue (ad 20) (ad 21) sqv, k_arr (ad 21) (ca 11) 8 sqB, k_Log (ad 22) (ad 23) (ad 24) r3.1, k_arr (ad 23) (ca 12) 16 r3.2.1, k_arr (ad 24) (ca 13) 16 r3.2.2] rfl ?_
        refine cv_if_ne K d_Serial_advanceSender_46 78 rfl (fun h7 => ?_) (fun h7 => ?_)
        · exact cv_retv K hm d_Serial_advanceSender_78 (((upd srv 3 (0 : Int32)), sqv, r3.1, r3.2.1, r3.2.2)) (by rw [p_Serial_advanceSender, if_neg (c := (srv 3) = (0 : Int32)) h1, if_pos (c := (srv 5) = k) h4, ← hr3, p_Serial_advanceSender_3, if_pos (c := (0 : Int32) = (0 : Int32)) h6, ← hr4, p_Serial_advanceSender_4, if_neg (c := r4 = (0 : Int32)) h7]) rfl
        · refine cv_aload_n K 0 d_Serial_advanceSender_49 rfl rfl ?_
          refine cv_aload_n K 0 d_Serial_advanceSender_50 rfl rfl ?_
          refine cv_get K d_Serial_advanceSender_51 0 1 rfl rfl in_Serial (by decide) tm_142 rfl ?_
          refine cv_callVi K (m_ByteQueue_take l dC dI tys (ad 20) (ad 21) (ca 11) 11 (htys 11 (by decide)) sqv sqB hsq) d_Serial_advanceSender_54 (cw_V (n := 0) K.2.2.2.2.1 tm_502 tm_503 tm_504 tm_7 tm_505 rfl rfl ⟨rfl, wd_of (by decide +kernel) (by decide +kernel)⟩ ⟨Nat.le_of_ble_eq_true rfl, Nat.le_of_ble_eq_true rfl⟩) 1 rfl rfl [1, 2] rfl rfl (fun _ => rfl) rfl rfl (Nat.le_of_ble_eq_true rfl) (Nat.zero_le _) (Nat.zero_le _) (fun r5 hr5 => ?_)
          refine cv_norm [k_Serial (ad 17) (ad 18) (ad 20) (ad 22) (upd srv 3 (0 : Int32)), k_ByteQueue (ad 20) (ad 21) r5.2, k_arr (ad 21) (ca 11) 8 sqB, k_Log (ad 22) (ad 23) (ad 24) r3.1, k_arr (ad 23) (ca 12) 16 r3.2.1, k_arr (ad 24) (ca 13) 16 r3.2.2] rfl ?_
          refine cv_put K d_Serial_advanceSender_57 [k_Serial (ad 17) (ad 18) (ad 20) (ad 22) (upd (upd srv 3 (0 : Int32)) 4 r5.1), k_ByteQueue (ad 20) (ad 21) r5.2, k_arr (ad 21) (ca 11) 8 sqB, k_Log (ad 22) (ad 23) (ad 24) r3.1, k_arr (ad 23) (ca 12) 16 r3.2.1, k_arr (ad 24) (ca 13) 16 r3.2.2] 0 7 rfl rfl in_Serial t_Serial o_Serial n_Serial (by decide) tm_150 rfl rfl rfl (Nat.le_of_ble_eq_true rfl) rfl ?_
          refine cv_aload_n K 0 d_Serial_advanceSender_60 rfl rfl ?_
          refine cv_iload_n K 1 d_Serial_advanceSender_61 rfl rfl ?_
          refine cv_bipush (v := 10) K d_Serial_advanceSender_62 (by decide +kernel) ?_
          refine cv_aload_n K 0 d_Serial_advanceSender_64 rfl rfl ?_
          refine cv_get K d_Serial_advanceSender_65 0 4 rfl rfl in_Serial (by decide) tm_147 rfl ?_
          refine cv_imul K d_Serial_advanceSender_68 ?_
          refine cv_iadd K d_Serial_advanceSender_69 ?_
          refine cv_put K d_Serial_advanceSender_70 [k_Serial (ad 17) (ad 18) (ad 20) (ad 22) (upd (upd (upd srv 3 (0 : Int32)) 4 r5.1) 5 (k + ((10 : Int32) * (srv 1)))), k_ByteQueue (ad 20) (ad 21) r5.2, k_arr (ad 21) (ca 11) 8 sqB, k_Log (ad 22) (ad 23) (ad 24) r3.1, k_arr (ad 23) (ca 12) 16 r3.2.1, k_arr (ad 24) (ca 13) 16 r3.2.2] 0 8 rfl rfl in_Serial t_Serial o_Serial n_Serial (by decide) tm_151 rfl rfl rfl (Nat.le_of_ble_eq_true rfl) rfl ?_
          refine cv_aload_n K 0 d_Serial_advanceSender_73 rfl rfl ?_
          refine cv_iconst (v := 1) K d_Serial_advanceSender_74 rfl ?_
          refine cv_put K d_Serial_advanceSender_75 [k_Serial (ad 17) (ad 18) (ad 20) (ad 22) (upd (upd (upd (upd srv 3 (0 : Int32)) 4 r5.1) 5 (k + ((10 : Int32) * (srv 1)))) 3 (1 : Int32)), k_ByteQueue (ad 20) (ad 21) r5.2, k_arr (ad 21) (ca 11) 8 sqB, k_Log (ad 22) (ad 23) (ad 24) r3.1, k_arr (ad 23) (ca 12) 16 r3.2.1, k_arr (ad 24) (ca 13) 16 r3.2.2] 0 6 rfl rfl in_Serial t_Serial o_Serial n_Serial (by decide) tm_149 rfl rfl rfl (Nat.le_of_ble_eq_true rfl) rfl ?_
          exact cv_retv K hm d_Serial_advanceSender_78 (((upd (upd (upd (upd srv 3 (0 : Int32)) 4 r5.1) 5 (k + ((10 : Int32) * (srv 1)))) 3 (1 : Int32)), r5.2, r3.1, r3.2.1, r3.2.2)) (by rw [p_Serial_advanceSender, if_neg (c := (srv 3) = (0 : Int32)) h1, if_pos (c := (srv 5) = k) h4, ← hr3, p_Serial_advanceSender_3, if_pos (c := (0 : Int32) = (0 : Int32)) h6, ← hr4, p_Serial_advanceSender_4, if_pos (c := r4 = (0 : Int32)) h7, ← hr5, p_Serial_advanceSender_5]) rfl
-- CycleChip$Serial.isLineHigh()Z
def p_Serial_isLineHigh_1 (srv : Nat → Int32) (rqv : Nat → Int32) (rqB : Nat → Int32) (sqv : Nat → Int32) (sqB : Nat → Int32) (r1 : Int32) : Int32 := if r1 = (0 : Int32) then (0 : Int32) else (1 : Int32)
def p_Serial_isLineHigh_3 (srv : Nat → Int32) (rqv : Nat → Int32) (rqB : Nat → Int32) (sqv : Nat → Int32) (sqB : Nat → Int32) (r2 : Int32) (r3 : Int32) : Int32 := if r3 = (0 : Int32) then (0 : Int32) else (1 : Int32)
def p_Serial_isLineHigh_2 (srv : Nat → Int32) (rqv : Nat → Int32) (rqB : Nat → Int32) (sqv : Nat → Int32) (sqB : Nat → Int32) (r2 : Int32) : Int32 := if r2 = (0 : Int32) then (1 : Int32) else if ((srv 2) &&& (2 : Int32)) = (0 : Int32) then (0 : Int32) else p_Serial_isLineHigh_3 srv rqv rqB sqv sqB r2 (p_ByteQueue_isEmpty sqv)
def p_Serial_isLineHigh (srv : Nat → Int32) (rqv : Nat → Int32) (rqB : Nat → Int32) (sqv : Nat → Int32) (sqB : Nat → Int32) : Int32 := if ((srv 2) &&& (1 : Int32)) = (0 : Int32) then if ((srv 2) &&& (2 : Int32)) = (0 : Int32) then (0 : Int32) else p_Serial_isLineHigh_1 srv rqv rqB sqv sqB (p_ByteQueue_isEmpty sqv) else p_Serial_isLineHigh_2 srv rqv rqB sqv sqB (p_ByteQueue_isEmpty rqv)
set_option maxRecDepth 100000 in
set_option maxHeartbeats 4000000 in
theorem m_Serial_isLineHigh (l : Launch) (dC : Nat → ClassId) (dI : Nat → Nat → Nat) (tys : List (ClassId × FieldType)) (ad : Nat → Nat) (ca : Nat → ClassId) (n : Nat) (htys : ∀ k, k < 17 → tys[k]? = some (ca k, .int)) (srv : Nat → Int32) (rqv : Nat → Int32) (rqB : Nat → Int32) (sqv : Nat → Int32) (sqB : Nat → Int32)  : cv_Mz l y_Serial_isLineHigh (Cond.code y_Serial_isLineHigh c_Serial_isLineHigh 1 (some .boolean) :: gw) { frames := 1, cells := 0, slots := 0, locals := 20 } (dC, dI) vwCl tys [.ref (ad 17)] [k_Serial (ad 17) (ad 18) (ad 20) (ad 22) srv, k_ByteQueue (ad 18) (ad 19) rqv, k_arr (ad 19) (ca 10) 8 rqB, k_ByteQueue (ad 20) (ad 21) sqv, k_arr (ad 21) (ca 11) 8 sqB] (p_Serial_isLineHigh srv rqv rqB sqv sqB) (fun r => r) (fun r => [k_Serial (ad 17) (ad 18) (ad 20) (ad 22) srv, k_ByteQueue (ad 18) (ad 19) rqv, k_arr (ad 19) (ca 10) 8 rqB, k_ByteQueue (ad 20) (ad 21) sqv, k_arr (ad 21) (ca 11) 8 sqB]) := by
  refine cv_startz (by decide) (Nat.le_of_ble_eq_true rfl) [(0, .ref (ad 17))] rfl ?_
  intro p e s m below meth c A K hm
  refine cv_aload_n K 0 d_Serial_isLineHigh_0 rfl rfl ?_
  refine cv_get K d_Serial_isLineHigh_1 0 5 rfl rfl in_Serial (by decide) tm_148 rfl ?_
  refine cv_iconst (v := 1) K d_Serial_isLineHigh_4 rfl ?_
  refine cv_iand K d_Serial_isLineHigh_5 ?_
  refine cv_if_eq K d_Serial_isLineHigh_6 19 rfl (fun h1 => ?_) (fun h1 => ?_)
  · refine cv_aload_n K 0 d_Serial_isLineHigh_19 rfl rfl ?_
    refine cv_get K d_Serial_isLineHigh_20 0 5 rfl rfl in_Serial (by decide) tm_148 rfl ?_
    refine cv_iconst (v := 2) K d_Serial_isLineHigh_23 rfl ?_
    refine cv_iand K d_Serial_isLineHigh_24 ?_
    refine cv_if_eq K d_Serial_isLineHigh_25 42 rfl (fun h2 => ?_) (fun h2 => ?_)
    · refine cv_iconst (v := 0) K d_Serial_isLineHigh_42 rfl ?_
      exact cv_retz K hm d_Serial_isLineHigh_43 ((0 : Int32)) (by rw [p_Serial_isLineHigh, if_pos (c := ((srv 2) &&& (1 : Int32)) = (0 : Int32)) h1, if_pos (c := ((srv 2) &&& (2 : Int32)) = (0 : Int32)) h2]) rfl rfl rfl
    · refine cv_aload_n K 0 d_Serial_isLineHigh_28 rfl rfl ?_
      refine cv_get K d_Serial_isLineHigh_29 0 1 rfl rfl in_Serial (by decide) tm_142 rfl ?_
      refine cv_callVz K (m_ByteQueue_isEmpty l dC dI tys (ad 20) (ad 21) sqv) d_Serial_isLineHigh_32 (cw_V (n := 0) K.2.2.2.2.1 tm_498 tm_499 tm_500 tm_7 tm_501 rfl rfl ⟨rfl, wd_of (by decide +kernel) (by decide +kernel)⟩ ⟨Nat.le_of_ble_eq_true rfl, Nat.le_of_ble_eq_true rfl⟩) 3 rfl rfl [3] rfl rfl (fun _ => rfl) rfl rfl (Nat.le_of_ble_eq_true rfl) (Nat.zero_le _) (Nat.zero_le _) (fun r1 hr1 => ?_)
      refine cv_norm [k_Serial (ad 17) (ad 18) (ad 20) (ad 22) srv, k_ByteQueue (ad 18) (ad 19) rqv, k_arr (ad 19) (ca 10) 8 rqB, k_ByteQueue (ad 20) (ad 21) sqv, k_arr (ad 21) (ca 11) 8 sqB] rfl ?_
      refine cv_if_eq K d_Serial_isLineHigh_35 42 rfl (fun h3 => ?_) (fun h3 => ?_)
      · refine cv_iconst (v := 0) K d_Serial_isLineHigh_42 rfl ?_
        exact cv_retz K hm d_Serial_isLineHigh_43 ((0 : Int32)) (by rw [p_Serial_isLineHigh, if_pos (c := ((srv 2) &&& (1 : Int32)) = (0 : Int32)) h1, if_neg (c := ((srv 2) &&& (2 : Int32)) = (0 : Int32)) h2, ← hr1, p_Serial_isLineHigh_1, if_pos (c := r1 = (0 : Int32)) h3]) rfl rfl rfl
      · refine cv_iconst (v := 1) K d_Serial_isLineHigh_38 rfl ?_
        refine cv_goto K d_Serial_isLineHigh_39 43 rfl ?_
        exact cv_retz K hm d_Serial_isLineHigh_43 ((1 : Int32)) (by rw [p_Serial_isLineHigh, if_pos (c := ((srv 2) &&& (1 : Int32)) = (0 : Int32)) h1, if_neg (c := ((srv 2) &&& (2 : Int32)) = (0 : Int32)) h2, ← hr1, p_Serial_isLineHigh_1, if_neg (c := r1 = (0 : Int32)) h3]) rfl rfl rfl
  · refine cv_aload_n K 0 d_Serial_isLineHigh_9 rfl rfl ?_
    refine cv_get K d_Serial_isLineHigh_10 0 0 rfl rfl in_Serial (by decide) tm_140 rfl ?_
    refine cv_callVz K (m_ByteQueue_isEmpty l dC dI tys (ad 18) (ad 19) rqv) d_Serial_isLineHigh_13 (cw_V (n := 0) K.2.2.2.2.1 tm_498 tm_499 tm_500 tm_7 tm_501 rfl rfl ⟨rfl, wd_of (by decide +kernel) (by decide +kernel)⟩ ⟨Nat.le_of_ble_eq_true rfl, Nat.le_of_ble_eq_true rfl⟩) 1 rfl rfl [1] rfl rfl (fun _ => rfl) rfl rfl (Nat.le_of_ble_eq_true rfl) (Nat.zero_le _) (Nat.zero_le _) (fun r2 hr2 => ?_)
    refine cv_norm [k_Serial (ad 17) (ad 18) (ad 20) (ad 22) srv, k_ByteQueue (ad 18) (ad 19) rqv, k_arr (ad 19) (ca 10) 8 rqB, k_ByteQueue (ad 20) (ad 21) sqv, k_arr (ad 21) (ca 11) 8 sqB] rfl ?_
    refine cv_if_eq K d_Serial_isLineHigh_16 38 rfl (fun h4 => ?_) (fun h4 => ?_)
    · refine cv_iconst (v := 1) K d_Serial_isLineHigh_38 rfl ?_
      refine cv_goto K d_Serial_isLineHigh_39 43 rfl ?_
      exact cv_retz K hm d_Serial_isLineHigh_43 ((1 : Int32)) (by rw [p_Serial_isLineHigh, if_neg (c := ((srv 2) &&& (1 : Int32)) = (0 : Int32)) h1, ← hr2, p_Serial_isLineHigh_2, if_pos (c := r2 = (0 : Int32)) h4]) rfl rfl rfl
    · refine cv_aload_n K 0 d_Serial_isLineHigh_19 rfl rfl ?_
      refine cv_get K d_Serial_isLineHigh_20 0 5 rfl rfl in_Serial (by decide) tm_148 rfl ?_
      refine cv_iconst (v := 2) K d_Serial_isLineHigh_23 rfl ?_
      refine cv_iand K d_Serial_isLineHigh_24 ?_
      refine cv_if_eq K d_Serial_isLineHigh_25 42 rfl (fun h5 => ?_) (fun h5 => ?_)
      · refine cv_iconst (v := 0) K d_Serial_isLineHigh_42 rfl ?_
        exact cv_retz K hm d_Serial_isLineHigh_43 ((0 : Int32)) (by rw [p_Serial_isLineHigh, if_neg (c := ((srv 2) &&& (1 : Int32)) = (0 : Int32)) h1, ← hr2, p_Serial_isLineHigh_2, if_neg (c := r2 = (0 : Int32)) h4, if_pos (c := ((srv 2) &&& (2 : Int32)) = (0 : Int32)) h5]) rfl rfl rfl
      · refine cv_aload_n K 0 d_Serial_isLineHigh_28 rfl rfl ?_
        refine cv_get K d_Serial_isLineHigh_29 0 1 rfl rfl in_Serial (by decide) tm_142 rfl ?_
        refine cv_callVz K (m_ByteQueue_isEmpty l dC dI tys (ad 20) (ad 21) sqv) d_Serial_isLineHigh_32 (cw_V (n := 0) K.2.2.2.2.1 tm_498 tm_499 tm_500 tm_7 tm_501 rfl rfl ⟨rfl, wd_of (by decide +kernel) (by decide +kernel)⟩ ⟨Nat.le_of_ble_eq_true rfl, Nat.le_of_ble_eq_true rfl⟩) 3 rfl rfl [3] rfl rfl (fun _ => rfl) rfl rfl (Nat.le_of_ble_eq_true rfl) (Nat.zero_le _) (Nat.zero_le _) (fun r3 hr3 => ?_)
        refine cv_norm [k_Serial (ad 17) (ad 18) (ad 20) (ad 22) srv, k_ByteQueue (ad 18) (ad 19) rqv, k_arr (ad 19) (ca 10) 8 rqB, k_ByteQueue (ad 20) (ad 21) sqv, k_arr (ad 21) (ca 11) 8 sqB] rfl ?_
        refine cv_if_eq K d_Serial_isLineHigh_35 42 rfl (fun h6 => ?_) (fun h6 => ?_)
        · refine cv_iconst (v := 0) K d_Serial_isLineHigh_42 rfl ?_
          exact cv_retz K hm d_Serial_isLineHigh_43 ((0 : Int32)) (by rw [p_Serial_isLineHigh, if_neg (c := ((srv 2) &&& (1 : Int32)) = (0 : Int32)) h1, ← hr2, p_Serial_isLineHigh_2, if_neg (c := r2 = (0 : Int32)) h4, if_neg (c := ((srv 2) &&& (2 : Int32)) = (0 : Int32)) h5, ← hr3, p_Serial_isLineHigh_3, if_pos (c := r3 = (0 : Int32)) h6]) rfl rfl rfl
        · refine cv_iconst (v := 1) K d_Serial_isLineHigh_38 rfl ?_
          refine cv_goto K d_Serial_isLineHigh_39 43 rfl ?_
          exact cv_retz K hm d_Serial_isLineHigh_43 ((1 : Int32)) (by rw [p_Serial_isLineHigh, if_neg (c := ((srv 2) &&& (1 : Int32)) = (0 : Int32)) h1, ← hr2, p_Serial_isLineHigh_2, if_neg (c := r2 = (0 : Int32)) h4, if_neg (c := ((srv 2) &&& (2 : Int32)) = (0 : Int32)) h5, ← hr3, p_Serial_isLineHigh_3, if_neg (c := r3 = (0 : Int32)) h6]) rfl rfl rfl
-- CycleChip$Serial.state()I
def p_Serial_state_2 (srv : Nat → Int32) (rqv : Nat → Int32) (rqB : Nat → Int32) (sqv : Nat → Int32) (sqB : Nat → Int32) (r1 : Int32) (r2 : Int32) : Int32 := if r2 = (0 : Int32) then if (srv 0) = (0 : Int32) then if (srv 3) = (0 : Int32) then (((1 : Int32) + (0 : Int32)) + (0 : Int32)) + (0 : Int32) else (((1 : Int32) + (0 : Int32)) + (0 : Int32)) + (8 : Int32) else if (srv 3) = (0 : Int32) then (((1 : Int32) + (0 : Int32)) + (4 : Int32)) + (0 : Int32) else (((1 : Int32) + (0 : Int32)) + (4 : Int32)) + (8 : Int32) else if (srv 0) = (0 : Int32) then if (srv 3) = (0 : Int32) then (((1 : Int32) + (2 : Int32)) + (0 : Int32)) + (0 : Int32) else (((1 : Int32) + (2 : Int32)) + (0 : Int32)) + (8 : Int32) else if (srv 3) = (0 : Int32) then (((1 : Int32) + (2 : Int32)) + (4 : Int32)) + (0 : Int32) else (((1 : Int32) + (2 : Int32)) + (4 : Int32)) + (8 : Int32)
def p_Serial_state_3 (srv : Nat → Int32) (rqv : Nat → Int32) (rqB : Nat → Int32) (sqv : Nat → Int32) (sqB : Nat → Int32) (r1 : Int32) (r3 : Int32) : Int32 := if r3 = (0 : Int32) then if (srv 0) = (0 : Int32) then if (srv 3) = (0 : Int32) then (((0 : Int32) + (0 : Int32)) + (0 : Int32)) + (0 : Int32) else (((0 : Int32) + (0 : Int32)) + (0 : Int32)) + (8 : Int32) else if (srv 3) = (0 : Int32) then (((0 : Int32) + (0 : Int32)) + (4 : Int32)) + (0 : Int32) else (((0 : Int32) + (0 : Int32)) + (4 : Int32)) + (8 : Int32) else if (srv 0) = (0 : Int32) then if (srv 3) = (0 : Int32) then (((0 : Int32) + (2 : Int32)) + (0 : Int32)) + (0 : Int32) else (((0 : Int32) + (2 : Int32)) + (0 : Int32)) + (8 : Int32) else if (srv 3) = (0 : Int32) then (((0 : Int32) + (2 : Int32)) + (4 : Int32)) + (0 : Int32) else (((0 : Int32) + (2 : Int32)) + (4 : Int32)) + (8 : Int32)
def p_Serial_state_1 (srv : Nat → Int32) (rqv : Nat → Int32) (rqB : Nat → Int32) (sqv : Nat → Int32) (sqB : Nat → Int32) (r1 : Int32) : Int32 := if r1 = (0 : Int32) then p_Serial_state_2 srv rqv rqB sqv sqB r1 (p_ByteQueue_isFull sqv) else p_Serial_state_3 srv rqv rqB sqv sqB r1 (p_ByteQueue_isFull sqv)
def p_Serial_state (srv : Nat → Int32) (rqv : Nat → Int32) (rqB : Nat → Int32) (sqv : Nat → Int32) (sqB : Nat → Int32) : Int32 := p_Serial_state_1 srv rqv rqB sqv sqB (p_ByteQueue_isEmpty rqv)
set_option maxRecDepth 100000 in
set_option maxHeartbeats 4000000 in
theorem m_Serial_state (l : Launch) (dC : Nat → ClassId) (dI : Nat → Nat → Nat) (tys : List (ClassId × FieldType)) (ad : Nat → Nat) (ca : Nat → ClassId) (n : Nat) (htys : ∀ k, k < 17 → tys[k]? = some (ca k, .int)) (srv : Nat → Int32) (rqv : Nat → Int32) (rqB : Nat → Int32) (sqv : Nat → Int32) (sqB : Nat → Int32)  : cv_Mi l y_Serial_state (Cond.code y_Serial_state c_Serial_state 1 (some .int) :: gw) { frames := 1, cells := 0, slots := 0, locals := 20 } (dC, dI) vwCl tys [.ref (ad 17)] [k_Serial (ad 17) (ad 18) (ad 20) (ad 22) srv, k_ByteQueue (ad 18) (ad 19) rqv, k_arr (ad 19) (ca 10) 8 rqB, k_ByteQueue (ad 20) (ad 21) sqv, k_arr (ad 21) (ca 11) 8 sqB] (p_Serial_state srv rqv rqB sqv sqB) (fun r => r) (fun r => [k_Serial (ad 17) (ad 18) (ad 20) (ad 22) srv, k_ByteQueue (ad 18) (ad 19) rqv, k_arr (ad 19) (ca 10) 8 rqB, k_ByteQueue (ad 20) (ad 21) sqv, k_arr (ad 21) (ca 11) 8 sqB]) := by
  refine cv_starti (by decide) (Nat.le_of_ble_eq_true rfl) [(0, .ref (ad 17))] rfl ?_
  intro p e s m below meth c A K hm
  refine cv_aload_n K 0 d_Serial_state_0 rfl rfl ?_
  refine cv_get K d_Serial_state_1 0 0 rfl rfl in_Serial (by decide) tm_140 rfl ?_
  refine cv_callVz K (m_ByteQueue_isEmpty l dC dI tys (ad 18) (ad 19) rqv) d_Serial_state_4 (cw_V (n := 0) K.2.2.2.2.1 tm_498 tm_499 tm_500 tm_7 tm_501 rfl rfl ⟨rfl, wd_of (by decide +kernel) (by decide +kernel)⟩ ⟨Nat.le_of_ble_eq_true rfl, Nat.le_of_ble_eq_true rfl⟩) 1 rfl rfl [1] rfl rfl (fun _ => rfl) rfl rfl (Nat.le_of_ble_eq_true rfl) (Nat.zero_le _) (Nat.zero_le _) (fun r1 hr1 => ?_)
  refine cv_norm [k_Serial (ad 17) (ad 18) (ad 20) (ad 22) srv, k_ByteQueue (ad 18) (ad 19) rqv, k_arr (ad 19) (ca 10) 8 rqB, k_ByteQueue (ad 20) (ad 21) sqv, k_arr (ad 21) (ca 11) 8 sqB] rfl ?_
  refine cv_if_eq K d_Serial_state_7 14 rfl (fun h1 => ?_) (fun h1 => ?_)
  · refine cv_iconst (v := 1) K d_Serial_state_14 rfl ?_
    refine cv_aload_n K 0 d_Serial_state_15 rfl rfl ?_
    refine cv_get K d_Serial_state_16 0 1 rfl rfl in_Serial (by decide) tm_142 rfl ?_
    refine cv_callVz K (m_ByteQueue_isFull l dC dI tys (ad 20) (ad 21) sqv) d_Serial_state_19 (cw_V (n := 0) K.2.2.2.2.1 tm_477 tm_478 tm_479 tm_7 tm_480 rfl rfl ⟨rfl, wd_of (by decide +kernel) (by decide +kernel)⟩ ⟨Nat.le_of_ble_eq_true rfl, Nat.le_of_ble_eq_true rfl⟩) 3 rfl rfl [3] rfl rfl (fun _ => rfl) rfl rfl (Nat.le_of_ble_eq_true rfl) (Nat.zero_le _) (Nat.zero_le _) (fun r2 hr2 => ?_)
    refine cv_norm [k_Serial (ad 17) (ad 18) (ad 20) (ad 22) srv, k_ByteQueue (ad 18) (ad 19) rqv, k_arr (ad 19) (ca 10) 8 rqB, k_ByteQueue (ad 20) (ad 21) sqv, k_arr (ad 21) (ca 11) 8 sqB] rfl ?_
    refine cv_if_eq K d_Serial_state_22 29 rfl (fun h2 => ?_) (fun h2 => ?_)
    · refine cv_iconst (v := 0) K d_Serial_state_29 rfl ?_
      refine cv_iadd K d_Serial_state_30 ?_
      refine cv_aload_n K 0 d_Serial_state_31 rfl rfl ?_
      refine cv_get K d_Serial_state_32 0 3 rfl rfl in_Serial (by decide) tm_146 rfl ?_
      refine cv_if_eq K d_Serial_state_35 42 rfl (fun h3 => ?_) (fun h3 => ?_)
      · refine cv_iconst (v := 0) K d_Serial_state_42 rfl ?_
        refine cv_iadd K d_Serial_state_43 ?_
        refine cv_aload_n K 0 d_Serial_state_44 rfl rfl ?_
        refine cv_get K d_Serial_state_45 0 6 rfl rfl in_Serial (by decide) tm_149 rfl ?_
        refine cv_if_eq K d_Serial_state_48 56 rfl (fun h4 => ?_) (fun h4 => ?_)
        · refine cv_iconst (v := 0) K d_Serial_state_56 rfl ?_
          refine cv_iadd K d_Serial_state_57 ?_
          exact cv_reti K hm d_Serial_state_58 ((((1 : Int32) + (0 : Int32)) + (0 : Int32)) + (0 : Int32)) (by rw [p_Serial_state, ← hr1, p_Serial_state_1, if_pos (c := r1 = (0 : Int32)) h1, ← hr2, p_Serial_state_2, if_pos (c := r2 = (0 : Int32)) h2, if_pos (c := (srv 0) = (0 : Int32)) h3, if_pos (c := (srv 3) = (0 : Int32)) h4]) rfl rfl
        · refine cv_bipush (v := 8) K d_Serial_state_51 (by decide +kernel) ?_
          refine cv_goto K d_Serial_state_53 57 rfl ?_
          refine cv_iadd K d_Serial_state_57 ?_
          exact cv_reti K hm d_Serial_state_58 ((((1 : Int32) + (0 : Int32)) + (0 : Int32)) + (8 : Int32)) (by rw [p_Serial_state, ← hr1, p_Serial_state_1, if_pos (c := r1 = (0 : Int32)) h1, ← hr2, p_Serial_state_2, if_pos (c := r2 = (0 : Int32)) h2, if_pos (c := (srv 0) = (0 : Int32)) h3, if_neg (c := (srv 3) = (0 : Int32)) h4]) rfl rfl
      · refine cv_iconst (v := 4) K d_Serial_state_38 rfl ?_
        refine cv_goto K d_Serial_state_39 43 rfl ?_
        refine cv_iadd K d_Serial_state_43 ?_
        refine cv_aload_n K 0 d_Serial_state_44 rfl rfl ?_
        refine cv_get K d_Serial_state_45 0 6 rfl rfl in_Serial (by decide) tm_149 rfl ?_
        refine cv_if_eq K d_Serial_state_48 56 rfl (fun h5 => ?_) (fun h5 => ?_)
        · refine cv_iconst (v := 0) K d_Serial_state_56 rfl ?_
          refine cv_iadd K d_Serial_state_57 ?_
          exact cv_reti K hm d_Serial_state_58 ((((1 : Int32) + (0 : Int32)) + (4 : Int32)) + (0 : Int32)) (by rw [p_Serial_state, ← hr1, p_Serial_state_1, if_pos (c := r1 = (0 : Int32)) h1, ← hr2, p_Serial_state_2, if_pos (c := r2 = (0 : Int32)) h2, if_neg (c := (srv 0) = (0 : Int32)) h3, if_pos (c := (srv 3) = (0 : Int32)) h5]) rfl rfl
        · refine cv_bipush (v := 8) K d_Serial_state_51 (by decide +kernel) ?_
          refine cv_goto K d_Serial_state_53 57 rfl ?_
          refine cv_iadd K d_Serial_state_57 ?_
          exact cv_reti K hm d_Serial_state_58 ((((1 : Int32) + (0 : Int32)) + (4 : Int32)) + (8 : Int32)) (by rw [p_Serial_state, ← hr1, p_Serial_state_1, if_pos (c := r1 = (0 : Int32)) h1, ← hr2, p_Serial_state_2, if_pos (c := r2 = (0 : Int32)) h2, if_neg (c := (srv 0) = (0 : Int32)) h3, if_neg (c := (srv 3) = (0 : Int32)) h5]) rfl rfl
    · refine cv_iconst (v := 2) K d_Serial_state_25 rfl ?_
      refine cv_goto K d_Serial_state_26 30 rfl ?_
      refine cv_iadd K d_Serial_state_30 ?_
      refine cv_aload_n K 0 d_Serial_state_31 rfl rfl ?_
      refine cv_get K d_Serial_state_32 0 3 rfl rfl in_Serial (by decide) tm_146 rfl ?_
      refine cv_if_eq K d_Serial_state_35 42 rfl (fun h6 => ?_) (fun h6 => ?_)
      · refine cv_iconst (v := 0) K d_Serial_state_42 rfl ?_
        refine cv_iadd K d_Serial_state_43 ?_
        refine cv_aload_n K 0 d_Serial_state_44 rfl rfl ?_
        refine cv_get K d_Serial_state_45 0 6 rfl rfl in_Serial (by decide) tm_149 rfl ?_
        refine cv_if_eq K d_Serial_state_48 56 rfl (fun h7 => ?_) (fun h7 => ?_)
        · refine cv_iconst (v := 0) K d_Serial_state_56 rfl ?_
          refine cv_iadd K d_Serial_state_57 ?_
          exact cv_reti K hm d_Serial_state_58 ((((1 : Int32) + (2 : Int32)) + (0 : Int32)) + (0 : Int32)) (by rw [p_Serial_state, ← hr1, p_Serial_state_1, if_pos (c := r1 = (0 : Int32)) h1, ← hr2, p_Serial_state_2, if_neg (c := r2 = (0 : Int32)) h2, if_pos (c := (srv 0) = (0 : Int32)) h6, if_pos (c := (srv 3) = (0 : Int32)) h7]) rfl rfl
        · refine cv_bipush (v := 8) K d_Serial_state_51 (by decide +kernel) ?_
          refine cv_goto K d_Serial_state_53 57 rfl ?_
          refine cv_iadd K d_Serial_state_57 ?_
          exact cv_reti K hm d_Serial_state_58 ((((1 : Int32) + (2 : Int32)) + (0 : Int32)) + (8 : Int32)) (by rw [p_Serial_state, ← hr1, p_Serial_state_1, if_pos (c := r1 = (0 : Int32)) h1, ← hr2, p_Serial_state_2, if_neg (c := r2 = (0 : Int32)) h2, if_pos (c := (srv 0) = (0 : Int32)) h6, if_neg (c := (srv 3) = (0 : Int32)) h7]) rfl rfl
      · refine cv_iconst (v := 4) K d_Serial_state_38 rfl ?_
        refine cv_goto K d_Serial_state_39 43 rfl ?_
        refine cv_iadd K d_Serial_state_43 ?_
        refine cv_aload_n K 0 d_Serial_state_44 rfl rfl ?_
        refine cv_get K d_Serial_state_45 0 6 rfl rfl in_Serial (by decide) tm_149 rfl ?_
        refine cv_if_eq K d_Serial_state_48 56 rfl (fun h8 => ?_) (fun h8 => ?_)
        · refine cv_iconst (v := 0) K d_Serial_state_56 rfl ?_
          refine cv_iadd K d_Serial_state_57 ?_
          exact cv_reti K hm d_Serial_state_58 ((((1 : Int32) + (2 : Int32)) + (4 : Int32)) + (0 : Int32)) (by rw [p_Serial_state, ← hr1, p_Serial_state_1, if_pos (c := r1 = (0 : Int32)) h1, ← hr2, p_Serial_state_2, if_neg (c := r2 = (0 : Int32)) h2, if_neg (c := (srv 0) = (0 : Int32)) h6, if_pos (c := (srv 3) = (0 : Int32)) h8]) rfl rfl
        · refine cv_bipush (v := 8) K d_Serial_state_51 (by decide +kernel) ?_
          refine cv_goto K d_Serial_state_53 57 rfl ?_
          refine cv_iadd K d_Serial_state_57 ?_
          exact cv_reti K hm d_Serial_state_58 ((((1 : Int32) + (2 : Int32)) + (4 : Int32)) + (8 : Int32)) (by rw [p_Serial_state, ← hr1, p_Serial_state_1, if_pos (c := r1 = (0 : Int32)) h1, ← hr2, p_Serial_state_2, if_neg (c := r2 = (0 : Int32)) h2, if_neg (c := (srv 0) = (0 : Int32)) h6, if_neg (c := (srv 3) = (0 : Int32)) h8]) rfl rfl
  · refine cv_iconst (v := 0) K d_Serial_state_10 rfl ?_
    refine cv_goto K d_Serial_state_11 15 rfl ?_
    refine cv_aload_n K 0 d_Serial_state_15 rfl rfl ?_
    refine cv_get K d_Serial_state_16 0 1 rfl rfl in_Serial (by decide) tm_142 rfl ?_
    refine cv_callVz K (m_ByteQueue_isFull l dC dI tys (ad 20) (ad 21) sqv) d_Serial_state_19 (cw_V (n := 0) K.2.2.2.2.1 tm_477 tm_478 tm_479 tm_7 tm_480 rfl rfl ⟨rfl, wd_of (by decide +kernel) (by decide +kernel)⟩ ⟨Nat.le_of_ble_eq_true rfl, Nat.le_of_ble_eq_true rfl⟩) 3 rfl rfl [3] rfl rfl (fun _ => rfl) rfl rfl (Nat.le_of_ble_eq_true rfl) (Nat.zero_le _) (Nat.zero_le _) (fun r3 hr3 => ?_)
    refine cv_norm [k_Serial (ad 17) (ad 18) (ad 20) (ad 22) srv, k_ByteQueue (ad 18) (ad 19) rqv, k_arr (ad 19) (ca 10) 8 rqB, k_ByteQueue (ad 20) (ad 21) sqv, k_arr (ad 21) (ca 11) 8 sqB] rfl ?_
    refine cv_if_eq K d_Serial_state_22 29 rfl (fun h9 => ?_) (fun h9 => ?_)
    · refine cv_iconst (v := 0) K d_Serial_state_29 rfl ?_
      refine cv_iadd K d_Serial_state_30 ?_
      refine cv_aload_n K 0 d_Serial_state_31 rfl rfl ?_
      refine cv_get K d_Serial_state_32 0 3 rfl rfl in_Serial (by decide) tm_146 rfl ?_
      refine cv_if_eq K d_Serial_state_35 42 rfl (fun h10 => ?_) (fun h10 => ?_)
      · refine cv_iconst (v := 0) K d_Serial_state_42 rfl ?_
        refine cv_iadd K d_Serial_state_43 ?_
        refine cv_aload_n K 0 d_Serial_state_44 rfl rfl ?_
        refine cv_get K d_Serial_state_45 0 6 rfl rfl in_Serial (by decide) tm_149 rfl ?_
        refine cv_if_eq K d_Serial_state_48 56 rfl (fun h11 => ?_) (fun h11 => ?_)
        · refine cv_iconst (v := 0) K d_Serial_state_56 rfl ?_
          refine cv_iadd K d_Serial_state_57 ?_
          exact cv_reti K hm d_Serial_state_58 ((((0 : Int32) + (0 : Int32)) + (0 : Int32)) + (0 : Int32)) (by rw [p_Serial_state, ← hr1, p_Serial_state_1, if_neg (c := r1 = (0 : Int32)) h1, ← hr3, p_Serial_state_3, if_pos (c := r3 = (0 : Int32)) h9, if_pos (c := (srv 0) = (0 : Int32)) h10, if_pos (c := (srv 3) = (0 : Int32)) h11]) rfl rfl
        · refine cv_bipush (v := 8) K d_Serial_state_51 (by decide +kernel) ?_
          refine cv_goto K d_Serial_state_53 57 rfl ?_
          refine cv_iadd K d_Serial_state_57 ?_
          exact cv_reti K hm d_Serial_state_58 ((((0 : Int32) + (0 : Int32)) + (0 : Int32)) + (8 : Int32)) (by rw [p_Serial_state, ← hr1, p_Serial_state_1, if_neg (c := r1 = (0 : Int32)) h1, ← hr3, p_Serial_state_3, if_pos (c := r3 = (0 : Int32)) h9, if_pos (c := (srv 0) = (0 : Int32)) h10, if_neg (c := (srv 3) = (0 : Int32)) h11]) rfl rfl
      · refine cv_iconst (v := 4) K d_Serial_state_38 rfl ?_
        refine cv_goto K d_Serial_state_39 43 rfl ?_
        refine cv_iadd K d_Serial_state_43 ?_
        refine cv_aload_n K 0 d_Serial_state_44 rfl rfl ?_
        refine cv_get K d_Serial_state_45 0 6 rfl rfl in_Serial (by decide) tm_149 rfl ?_
        refine cv_if_eq K d_Serial_state_48 56 rfl (fun h12 => ?_) (fun h12 => ?_)
        · refine cv_iconst (v := 0) K d_Serial_state_56 rfl ?_
          refine cv_iadd K d_Serial_state_57 ?_
          exact cv_reti K hm d_Serial_state_58 ((((0 : Int32) + (0 : Int32)) + (4 : Int32)) + (0 : Int32)) (by rw [p_Serial_state, ← hr1, p_Serial_state_1, if_neg (c := r1 = (0 : Int32)) h1, ← hr3, p_Serial_state_3, if_pos (c := r3 = (0 : Int32)) h9, if_neg (c := (srv 0) = (0 : Int32)) h10, if_pos (c := (srv 3) = (0 : Int32)) h12]) rfl rfl
        · refine cv_bipush (v := 8) K d_Serial_state_51 (by decide +kernel) ?_
          refine cv_goto K d_Serial_state_53 57 rfl ?_
          refine cv_iadd K d_Serial_state_57 ?_
          exact cv_reti K hm d_Serial_state_58 ((((0 : Int32) + (0 : Int32)) + (4 : Int32)) + (8 : Int32)) (by rw [p_Serial_state, ← hr1, p_Serial_state_1, if_neg (c := r1 = (0 : Int32)) h1, ← hr3, p_Serial_state_3, if_pos (c := r3 = (0 : Int32)) h9, if_neg (c := (srv 0) = (0 : Int32)) h10, if_neg (c := (srv 3) = (0 : Int32)) h12]) rfl rfl
    · refine cv_iconst (v := 2) K d_Serial_state_25 rfl ?_
      refine cv_goto K d_Serial_state_26 30 rfl ?_
      refine cv_iadd K d_Serial_state_30 ?_
      refine cv_aload_n K 0 d_Serial_state_31 rfl rfl ?_
      refine cv_get K d_Serial_state_32 0 3 rfl rfl in_Serial (by decide) tm_146 rfl ?_
      refine cv_if_eq K d_Serial_state_35 42 rfl (fun h13 => ?_) (fun h13 => ?_)
      · refine cv_iconst (v := 0) K d_Serial_state_42 rfl ?_
        refine cv_iadd K d_Serial_state_43 ?_
        refine cv_aload_n K 0 d_Serial_state_44 rfl rfl ?_
        refine cv_get K d_Serial_state_45 0 6 rfl rfl in_Serial (by decide) tm_149 rfl ?_
        refine cv_if_eq K d_Serial_state_48 56 rfl (fun h14 => ?_) (fun h14 => ?_)
        · refine cv_iconst (v := 0) K d_Serial_state_56 rfl ?_
          refine cv_iadd K d_Serial_state_57 ?_
          exact cv_reti K hm d_Serial_state_58 ((((0 : Int32) + (2 : Int32)) + (0 : Int32)) + (0 : Int32)) (by rw [p_Serial_state, ← hr1, p_Serial_state_1, if_neg (c := r1 = (0 : Int32)) h1, ← hr3, p_Serial_state_3, if_neg (c := r3 = (0 : Int32)) h9, if_pos (c := (srv 0) = (0 : Int32)) h13, if_pos (c := (srv 3) = (0 : Int32)) h14]) rfl rfl
        · refine cv_bipush (v := 8) K d_Serial_state_51 (by decide +kernel) ?_
          refine cv_goto K d_Serial_state_53 57 rfl ?_
          refine cv_iadd K d_Serial_state_57 ?_
          exact cv_reti K hm d_Serial_state_58 ((((0 : Int32) + (2 : Int32)) + (0 : Int32)) + (8 : Int32)) (by rw [p_Serial_state, ← hr1, p_Serial_state_1, if_neg (c := r1 = (0 : Int32)) h1, ← hr3, p_Serial_state_3, if_neg (c := r3 = (0 : Int32)) h9, if_pos (c := (srv 0) = (0 : Int32)) h13, if_neg (c := (srv 3) = (0 : Int32)) h14]) rfl rfl
      · refine cv_iconst (v := 4) K d_Serial_state_38 rfl ?_
        refine cv_goto K d_Serial_state_39 43 rfl ?_
        refine cv_iadd K d_Serial_state_43 ?_
        refine cv_aload_n K 0 d_Serial_state_44 rfl rfl ?_
        refine cv_get K d_Serial_state_45 0 6 rfl rfl in_Serial (by decide) tm_149 rfl ?_
        refine cv_if_eq K d_Serial_state_48 56 rfl (fun h15 => ?_) (fun h15 => ?_)
        · refine cv_iconst (v := 0) K d_Serial_state_56 rfl ?_
          refine cv_iadd K d_Serial_state_57 ?_
          exact cv_reti K hm d_Serial_state_58 ((((0 : Int32) + (2 : Int32)) + (4 : Int32)) + (0 : Int32)) (by rw [p_Serial_state, ← hr1, p_Serial_state_1, if_neg (c := r1 = (0 : Int32)) h1, ← hr3, p_Serial_state_3, if_neg (c := r3 = (0 : Int32)) h9, if_neg (c := (srv 0) = (0 : Int32)) h13, if_pos (c := (srv 3) = (0 : Int32)) h15]) rfl rfl
        · refine cv_bipush (v := 8) K d_Serial_state_51 (by decide +kernel) ?_
          refine cv_goto K d_Serial_state_53 57 rfl ?_
          refine cv_iadd K d_Serial_state_57 ?_
          exact cv_reti K hm d_Serial_state_58 ((((0 : Int32) + (2 : Int32)) + (4 : Int32)) + (8 : Int32)) (by rw [p_Serial_state, ← hr1, p_Serial_state_1, if_neg (c := r1 = (0 : Int32)) h1, ← hr3, p_Serial_state_3, if_neg (c := r3 = (0 : Int32)) h9, if_neg (c := (srv 0) = (0 : Int32)) h13, if_neg (c := (srv 3) = (0 : Int32)) h15]) rfl rfl
-- CycleChip$Serial.load(I)I
def p_Serial_load_1 (srv : Nat → Int32) (rqv : Nat → Int32) (rqB : Nat → Int32) (sqv : Nat → Int32) (sqB : Nat → Int32) (k : Int32) (r1 : Int32 × (Nat → Int32)) : Int32 × (Nat → Int32) := (r1.1, r1.2)
def p_Serial_load_2 (srv : Nat → Int32) (rqv : Nat → Int32) (rqB : Nat → Int32) (sqv : Nat → Int32) (sqB : Nat → Int32) (k : Int32) (r2 : Int32) : Int32 × (Nat → Int32) := (r2, rqv)
def p_Serial_load (srv : Nat → Int32) (rqv : Nat → Int32) (rqB : Nat → Int32) (sqv : Nat → Int32) (sqB : Nat → Int32) (k : Int32) : Int32 × (Nat → Int32) := if k = (12 : Int32) then p_Serial_load_1 srv rqv rqB sqv sqB k (p_ByteQueue_take rqv rqB) else if k = (13 : Int32) then p_Serial_load_2 srv rqv rqB sqv sqB k (p_Serial_state srv rqv rqB sqv sqB) else if k = (14 : Int32) then (srv 1, rqv) else (srv 2, rqv)
set_option maxRecDepth 100000 in
set_option maxHeartbeats 4000000 in
theorem m_Serial_load (l : Launch) (dC : Nat → ClassId) (dI : Nat → Nat → Nat) (tys : List (ClassId × FieldType)) (ad : Nat → Nat) (ca : Nat → ClassId) (n : Nat) (htys : ∀ k, k < 17 → tys[k]? = some (ca k, .int)) (srv : Nat → Int32) (rqv : Nat → Int32) (rqB : Nat → Int32) (sqv : Nat → Int32) (sqB : Nat → Int32) (k : Int32) (hrq : vp_in (rqv 0) 8) : cv_Mi l y_Serial_load (Cond.code y_Serial_load c_Serial_load 2 (some .int) :: gw) { frames := 2, cells := 0, slots := 0, locals := 41 } (dC, dI) vwCl tys [.ref (ad 17), .int k] [k_Serial (ad 17) (ad 18) (ad 20) (ad 22) srv, k_ByteQueue (ad 18) (ad 19) rqv, k_arr (ad 19) (ca 10) 8 rqB, k_ByteQueue (ad 20) (ad 21) sqv, k_arr (ad 21) (ca 11) 8 sqB] (p_Serial_load srv rqv rqB sqv sqB k) (fun r => r.1) (fun r => [k_Serial (ad 17) (ad 18) (ad 20) (ad 22) srv, k_ByteQueue (ad 18) (ad 19) r.2, k_arr (ad 19) (ca 10) 8 rqB, k_ByteQueue (ad 20) (ad 21) sqv, k_arr (ad 21) (ca 11) 8 sqB]) := by
  refine cv_starti (by decide) (Nat.le_of_ble_eq_true rfl) [(0, .ref (ad 17)), (1, .int k)] rfl ?_
  intro p e s m below meth c A K hm
  refine cv_iload_n K 1 d_Serial_load_0 rfl rfl ?_
  by_cases h1 : k = (12 : Int32)
  · refine cv_tab K d_Serial_load_1 28 h1 27 (by decide +kernel) rfl ?_
    refine cv_aload_n K 0 d_Serial_load_28 rfl rfl ?_
    refine cv_get K d_Serial_load_29 0 0 rfl rfl in_Serial (by decide) tm_140 rfl ?_
    refine cv_callVi K (m_ByteQueue_take l dC dI tys (ad 18) (ad 19) (ca 10) 10 (htys 10 (by decide)) rqv rqB hrq) d_Serial_load_32 (cw_V (n := 0) K.2.2.2.2.1 tm_502 tm_503 tm_504 tm_7 tm_505 rfl rfl ⟨rfl, wd_of (by decide +kernel) (by decide +kernel)⟩ ⟨Nat.le_of_ble_eq_true rfl, Nat.le_of_ble_eq_true rfl⟩) 1 rfl rfl [1, 2] rfl rfl (fun _ => rfl) rfl rfl (Nat.le_of_ble_eq_true rfl) (Nat.zero_le _) (Nat.zero_le _) (fun r1 hr1 => ?_)
    refine cv_norm [k_Serial (ad 17) (ad 18) (ad 20) (ad 22) srv, k_ByteQueue (ad 18) (ad 19) r1.2, k_arr (ad 19) (ca 10) 8 rqB, k_ByteQueue (ad 20) (ad 21) sqv, k_arr (ad 21) (ca 11) 8 sqB] rfl ?_
    exact cv_reti K hm d_Serial_load_35 ((r1.1, r1.2)) (by rw [p_Serial_load, if_pos (c := k = (12 : Int32)) h1, ← hr1, p_Serial_load_1]) rfl rfl
  by_cases h2 : k = (13 : Int32)
  · refine cv_tab K d_Serial_load_1 36 h2 35 (by decide +kernel) rfl ?_
    refine cv_aload_n K 0 d_Serial_load_36 rfl rfl ?_
    refine cv_callVi K (m_Serial_state l dC dI tys ad ca n htys srv rqv rqB sqv sqB) d_Serial_load_37 (cw_V (n := 0) K.2.2.2.2.1 tm_577 tm_579 sm_4 tm_6 tm_580 rfl rfl ⟨rfl, wd_of (by decide +kernel) (by decide +kernel)⟩ ⟨Nat.le_of_ble_eq_true rfl, Nat.le_of_ble_eq_true rfl⟩) 0 rfl rfl [0, 1, 2, 3, 4] rfl rfl (fun _ => rfl) rfl rfl (Nat.le_of_ble_eq_true rfl) (Nat.zero_le _) (Nat.zero_le _) (fun r2 hr2 => ?_)
    refine cv_norm [k_Serial (ad 17) (ad 18) (ad 20) (ad 22) srv, k_ByteQueue (ad 18) (ad 19) rqv, k_arr (ad 19) (ca 10) 8 rqB, k_ByteQueue (ad 20) (ad 21) sqv, k_arr (ad 21) (ca 11) 8 sqB] rfl ?_
    exact cv_reti K hm d_Serial_load_40 ((r2, rqv)) (by rw [p_Serial_load, if_neg (c := k = (12 : Int32)) h1, if_pos (c := k = (13 : Int32)) h2, ← hr2, p_Serial_load_2]) rfl rfl
  by_cases h3 : k = (14 : Int32)
  · refine cv_tab K d_Serial_load_1 41 h3 40 (by decide +kernel) rfl ?_
    refine cv_aload_n K 0 d_Serial_load_41 rfl rfl ?_
    refine cv_get K d_Serial_load_42 0 4 rfl rfl in_Serial (by decide) tm_147 rfl ?_
    exact cv_reti K hm d_Serial_load_45 ((srv 1, rqv)) (by rw [p_Serial_load, if_neg (c := k = (12 : Int32)) h1, if_neg (c := k = (13 : Int32)) h2, if_pos (c := k = (14 : Int32)) h3]) rfl rfl
  refine cv_tabD K d_Serial_load_1 46 (by have zh1 := j_ne 12 h1 (by decide +kernel); have zh2 := j_ne 13 h2 (by decide +kernel); have zh3 := j_ne 14 h3 (by decide +kernel); exact Or.inl (by omega)) rfl ?_
  refine cv_aload_n K 0 d_Serial_load_46 rfl rfl ?_
  refine cv_get K d_Serial_load_47 0 5 rfl rfl in_Serial (by decide) tm_148 rfl ?_
  exact cv_reti K hm d_Serial_load_50 ((srv 2, rqv)) (by rw [p_Serial_load, if_neg (c := k = (12 : Int32)) h1, if_neg (c := k = (13 : Int32)) h2, if_neg (c := k = (14 : Int32)) h3]) rfl rfl
-- CycleChip$Serial.store(II)V
def p_Serial_store_1 (srv : Nat → Int32) (sqv : Nat → Int32) (sqB : Nat → Int32) (k : Int32) (x : Int32) (r1 : (Nat → Int32) × (Nat → Int32)) : (Nat → Int32) × (Nat → Int32) × (Nat → Int32) := (srv, r1.1, r1.2)
def p_Serial_store (srv : Nat → Int32) (sqv : Nat → Int32) (sqB : Nat → Int32) (k : Int32) (x : Int32) : (Nat → Int32) × (Nat → Int32) × (Nat → Int32) := if k = (12 : Int32) then p_Serial_store_1 srv sqv sqB k x (p_ByteQueue_put sqv sqB x) else if k = (13 : Int32) then ((upd srv 0 (0 : Int32)), sqv, sqB) else if k = (14 : Int32) then ((upd srv 1 (j_max (1 : Int32) (x &&& (255 : Int32)))), sqv, sqB) else ((upd srv 2 (x &&& (3 : Int32))), sqv, sqB)
set_option maxRecDepth 100000 in
set_option maxHeartbeats 4000000 in
theorem m_Serial_store (l : Launch) (dC : Nat → ClassId) (dI : Nat → Nat → Nat) (tys : List (ClassId × FieldType)) (ad : Nat → Nat) (ca : Nat → ClassId) (n : Nat) (htys : ∀ k, k < 17 → tys[k]? = some (ca k, .int)) (srv : Nat → Int32) (sqv : Nat → Int32) (sqB : Nat → Int32) (k : Int32) (x : Int32)  : cv_Mv l y_Serial_store (Cond.code y_Serial_store c_Serial_store 3 (none) :: gw) { frames := 2, cells := 0, slots := 0, locals := 41 } (dC, dI) vwCl tys [.ref (ad 17), .int k, .int x] [k_Serial (ad 17) (ad 18) (ad 20) (ad 22) srv, k_ByteQueue (ad 20) (ad 21) sqv, k_arr (ad 21) (ca 11) 8 sqB] (p_Serial_store srv sqv sqB k x) (fun r => [k_Serial (ad 17) (ad 18) (ad 20) (ad 22) r.1, k_ByteQueue (ad 20) (ad 21) r.2.1, k_arr (ad 21) (ca 11) 8 r.2.2]) := by
  refine cv_startv (by decide) (Nat.le_of_ble_eq_true rfl) [(0, .ref (ad 17)), (1, .int k), (2, .int x)] rfl ?_
  intro p e s m below meth c A K hm
  refine cv_iload_n K 1 d_Serial_store_0 rfl rfl ?_
  by_cases h1 : k = (12 : Int32)
  · refine cv_tab K d_Serial_store_1 28 h1 27 (by decide +kernel) rfl ?_
    refine cv_aload_n K 0 d_Serial_store_28 rfl rfl ?_
    refine cv_get K d_Serial_store_29 0 1 rfl rfl in_Serial (by decide) tm_142 rfl ?_
    refine cv_iload_n K 2 d_Serial_store_32 rfl rfl ?_
    refine cv_callVv K (m_ByteQueue_put l dC dI tys (ad 20) (ad 21) (ca 11) 11 (htys 11 (by decide)) sqv sqB x) d_Serial_store_33 (cw_V (n := 1) K.2.2.2.2.1 tm_481 tm_482 tm_483 tm_7 tm_484 rfl rfl ⟨rfl, wd_of (by decide +kernel) (by decide +kernel)⟩ ⟨Nat.le_of_ble_eq_true rfl, Nat.le_of_ble_eq_true rfl⟩) 1 rfl rfl [1, 2] rfl rfl (fun _ => rfl) rfl rfl (Nat.le_of_ble_eq_true rfl) (Nat.zero_le _) (Nat.zero_le _) (fun r1 hr1 => ?_)
    refine cv_norm [k_Serial (ad 17) (ad 18) (ad 20) (ad 22) srv, k_ByteQueue (ad 20) (ad 21) r1.1, k_arr (ad 21) (ca 11) 8 r1.2] rfl ?_
    refine cv_goto K d_Serial_store_36 70 rfl ?_
    exact cv_retv K hm d_Serial_store_70 ((srv, r1.1, r1.2)) (by rw [p_Serial_store, if_pos (c := k = (12 : Int32)) h1, ← hr1, p_Serial_store_1]) rfl
  by_cases h2 : k = (13 : Int32)
  · refine cv_tab K d_Serial_store_1 39 h2 38 (by decide +kernel) rfl ?_
    refine cv_aload_n K 0 d_Serial_store_39 rfl rfl ?_
    refine cv_iconst (v := 0) K d_Serial_store_40 rfl ?_
    refine cv_put K d_Serial_store_41 [k_Serial (ad 17) (ad 18) (ad 20) (ad 22) (upd srv 0 (0 : Int32)), k_ByteQueue (ad 20) (ad 21) sqv, k_arr (ad 21) (ca 11) 8 sqB] 0 3 rfl rfl in_Serial t_Serial o_Serial n_Serial (by decide) tm_146 rfl rfl rfl (Nat.le_of_ble_eq_true rfl) rfl ?_
    refine cv_goto K d_Serial_store_44 70 rfl ?_
    exact cv_retv K hm d_Serial_store_70 (((upd srv 0 (0 : Int32)), sqv, sqB)) (by rw [p_Serial_store, if_neg (c := k = (12 : Int32)) h1, if_pos (c := k = (13 : Int32)) h2]) rfl
  by_cases h3 : k = (14 : Int32)
  · refine cv_tab K d_Serial_store_1 47 h3 46 (by decide +kernel) rfl ?_
    refine cv_aload_n K 0 d_Serial_store_47 rfl rfl ?_
    refine cv_iconst (v := 1) K d_Serial_store_48 rfl ?_
    refine cv_iload_n K 2 d_Serial_store_49 rfl rfl ?_
    refine cv_sipush (v := 255) K d_Serial_store_50 (by decide +kernel) ?_
    refine cv_iand K d_Serial_store_53 ?_
    refine cv_mmax K d_Serial_store_54 tm_559 tm_197 tm_10 tm_198 (Nat.le_of_ble_eq_true rfl) (Nat.le_of_ble_eq_true rfl) (Nat.zero_le _) (Nat.zero_le _) ?_
    refine cv_top (j_max (1 : Int32) (x &&& (255 : Int32))) rfl ?_
    refine cv_put K d_Serial_store_57 [k_Serial (ad 17) (ad 18) (ad 20) (ad 22) (upd srv 1 (j_max (1 : Int32) (x &&& (255 : Int32)))), k_ByteQueue (ad 20) (ad 21) sqv, k_arr (ad 21) (ca 11) 8 sqB] 0 4 rfl rfl in_Serial t_Serial o_Serial n_Serial (by decide) tm_147 rfl rfl rfl (Nat.le_of_ble_eq_true rfl) rfl ?_
    refine cv_goto K d_Serial_store_60 70 rfl ?_
    exact cv_retv K hm d_Serial_store_70 (((upd srv 1 (j_max (1 : Int32) (x &&& (255 : Int32)))), sqv, sqB)) (by rw [p_Serial_store, if_neg (c := k = (12 : Int32)) h1, if_neg (c := k = (13 : Int32)) h2, if_pos (c := k = (14 : Int32)) h3]) rfl
  refine cv_tabD K d_Serial_store_1 63 (by have zh1 := j_ne 12 h1 (by decide +kernel); have zh2 := j_ne 13 h2 (by decide +kernel); have zh3 := j_ne 14 h3 (by decide +kernel); exact Or.inl (by omega)) rfl ?_
  refine cv_aload_n K 0 d_Serial_store_63 rfl rfl ?_
  refine cv_iload_n K 2 d_Serial_store_64 rfl rfl ?_
  refine cv_iconst (v := 3) K d_Serial_store_65 rfl ?_
  refine cv_iand K d_Serial_store_66 ?_
  refine cv_put K d_Serial_store_67 [k_Serial (ad 17) (ad 18) (ad 20) (ad 22) (upd srv 2 (x &&& (3 : Int32))), k_ByteQueue (ad 20) (ad 21) sqv, k_arr (ad 21) (ca 11) 8 sqB] 0 5 rfl rfl in_Serial t_Serial o_Serial n_Serial (by decide) tm_148 rfl rfl rfl (Nat.le_of_ble_eq_true rfl) rfl ?_
  exact cv_retv K hm d_Serial_store_70 (((upd srv 2 (x &&& (3 : Int32))), sqv, sqB)) (by rw [p_Serial_store, if_neg (c := k = (12 : Int32)) h1, if_neg (c := k = (13 : Int32)) h2, if_neg (c := k = (14 : Int32)) h3]) rfl
-- CycleChip$Devices.happen(II)V
def p_Devices_happen_1 (dvL : Nat → Int64) (itv : Nat → Int32) (srv : Nat → Int32) (rqv : Nat → Int32) (rqB : Nat → Int32) (k : Int32) (x : Int32) (r1 : (Nat → Int32)) : (Nat → Int32) × (Nat → Int32) × (Nat → Int32) × (Nat → Int32) := (r1, srv, rqv, rqB)
def p_Devices_happen_2 (dvL : Nat → Int64) (itv : Nat → Int32) (srv : Nat → Int32) (rqv : Nat → Int32) (rqB : Nat → Int32) (k : Int32) (x : Int32) (r2 : (Nat → Int32)) : (Nat → Int32) × (Nat → Int32) × (Nat → Int32) × (Nat → Int32) := (r2, srv, rqv, rqB)
def p_Devices_happen_3 (dvL : Nat → Int64) (itv : Nat → Int32) (srv : Nat → Int32) (rqv : Nat → Int32) (rqB : Nat → Int32) (k : Int32) (x : Int32) (r3 : (Nat → Int32) × (Nat → Int32) × (Nat → Int32)) : (Nat → Int32) × (Nat → Int32) × (Nat → Int32) × (Nat → Int32) := (itv, r3.1, r3.2.1, r3.2.2)
def p_Devices_happen (dvL : Nat → Int64) (itv : Nat → Int32) (srv : Nat → Int32) (rqv : Nat → Int32) (rqB : Nat → Int32) (k : Int32) (x : Int32) : (Nat → Int32) × (Nat → Int32) × (Nat → Int32) × (Nat → Int32) := if k = (0 : Int32) then p_Devices_happen_3 dvL itv srv rqv rqB k x (p_Serial_arrive srv rqv rqB x) else if x = (0 : Int32) then p_Devices_happen_1 dvL itv srv rqv rqB k x (p_Interrupts_setLine itv k (0 : Int32)) else p_Devices_happen_2 dvL itv srv rqv rqB k x (p_Interrupts_setLine itv k (1 : Int32))
set_option maxRecDepth 100000 in
set_option maxHeartbeats 4000000 in
theorem m_Devices_happen (l : Launch) (dC : Nat → ClassId) (dI : Nat → Nat → Nat) (tys : List (ClassId × FieldType)) (ad : Nat → Nat) (ca : Nat → ClassId) (n : Nat) (htys : ∀ k, k < 17 → tys[k]? = some (ca k, .int)) (dvL : Nat → Int64) (itv : Nat → Int32) (srv : Nat → Int32) (rqv : Nat → Int32) (rqB : Nat → Int32) (k : Int32) (x : Int32)  : cv_Mv l y_Devices_happen (Cond.code y_Devices_happen c_Devices_happen 3 (none) :: gw) { frames := 3, cells := 0, slots := 0, locals := 62 } (dC, dI) vwCl tys [.ref (ad 15), .int k, .int x] [k_Devices (ad 15) (ad 16) (ad 17) dvL, k_Interrupts (ad 16) itv, k_Serial (ad 17) (ad 18) (ad 20) (ad 22) srv, k_ByteQueue (ad 18) (ad 19) rqv, k_arr (ad 19) (ca 10) 8 rqB] (p_Devices_happen dvL itv srv rqv rqB k x) (fun r => [k_Devices (ad 15) (ad 16) (ad 17) dvL, k_Interrupts (ad 16) r.1, k_Serial (ad 17) (ad 18) (ad 20) (ad 22) r.2.1, k_ByteQueue (ad 18) (ad 19) r.2.2.1, k_arr (ad 19) (ca 10) 8 r.2.2.2]) := by
  refine cv_startv (by decide) (Nat.le_of_ble_eq_true rfl) [(0, .ref (ad 15)), (1, .int k), (2, .int x)] rfl ?_
  intro p e s m below meth c A K hm
  refine cv_iload_n K 1 d_Devices_happen_0 rfl rfl ?_
  refine cv_if_ne K d_Devices_happen_1 15 rfl (fun h1 => ?_) (fun h1 => ?_)
  · refine cv_aload_n K 0 d_Devices_happen_15 rfl rfl ?_
    refine cv_get K d_Devices_happen_16 0 0 rfl rfl in_Devices (by decide) tm_172 rfl ?_
    refine cv_iload_n K 1 d_Devices_happen_19 rfl rfl ?_
    refine cv_iload_n K 2 d_Devices_happen_20 rfl rfl ?_
    refine cv_if_eq K d_Devices_happen_21 28 rfl (fun h2 => ?_) (fun h2 => ?_)
    · refine cv_iconst (v := 0) K d_Devices_happen_28 rfl ?_
      refine cv_callVv K (m_Interrupts_setLine l dC dI tys (ad 16) itv k (0 : Int32)) d_Devices_happen_29 (cw_V (n := 2) K.2.2.2.2.1 tm_486 tm_487 tm_488 tm_5 tm_489 rfl rfl ⟨rfl, wd_of (by decide +kernel) (by decide +kernel)⟩ ⟨Nat.le_of_ble_eq_true rfl, Nat.le_of_ble_eq_true rfl⟩) 1 rfl rfl [1] rfl rfl (fun _ => rfl) rfl rfl (Nat.le_of_ble_eq_true rfl) (Nat.zero_le _) (Nat.zero_le _) (fun r1 hr1 => ?_)
      refine cv_norm [k_Devices (ad 15) (ad 16) (ad 17) dvL, k_Interrupts (ad 16) r1, k_Serial (ad 17) (ad 18) (ad 20) (ad 22) srv, k_ByteQueue (ad 18) (ad 19) rqv, k_arr (ad 19) (ca 10) 8 rqB] rfl ?_
      exact cv_retv K hm d_Devices_happen_32 ((r1, srv, rqv, rqB)) (by rw [p_Devices_happen, if_neg (c := k = (0 : Int32)) h1, if_pos (c := x = (0 : Int32)) h2, ← hr1, p_Devices_happen_1]) rfl
    · refine cv_iconst (v := 1) K d_Devices_happen_24 rfl ?_
      refine cv_goto K d_Devices_happen_25 29 rfl ?_
      refine cv_callVv K (m_Interrupts_setLine l dC dI tys (ad 16) itv k (1 : Int32)) d_Devices_happen_29 (cw_V (n := 2) K.2.2.2.2.1 tm_486 tm_487 tm_488 tm_5 tm_489 rfl rfl ⟨rfl, wd_of (by decide +kernel) (by decide +kernel)⟩ ⟨Nat.le_of_ble_eq_true rfl, Nat.le_of_ble_eq_true rfl⟩) 1 rfl rfl [1] rfl rfl (fun _ => rfl) rfl rfl (Nat.le_of_ble_eq_true rfl) (Nat.zero_le _) (Nat.zero_le _) (fun r2 hr2 => ?_)
      refine cv_norm [k_Devices (ad 15) (ad 16) (ad 17) dvL, k_Interrupts (ad 16) r2, k_Serial (ad 17) (ad 18) (ad 20) (ad 22) srv, k_ByteQueue (ad 18) (ad 19) rqv, k_arr (ad 19) (ca 10) 8 rqB] rfl ?_
      exact cv_retv K hm d_Devices_happen_32 ((r2, srv, rqv, rqB)) (by rw [p_Devices_happen, if_neg (c := k = (0 : Int32)) h1, if_neg (c := x = (0 : Int32)) h2, ← hr2, p_Devices_happen_2]) rfl
  · refine cv_aload_n K 0 d_Devices_happen_4 rfl rfl ?_
    refine cv_get K d_Devices_happen_5 0 1 rfl rfl in_Devices (by decide) tm_174 rfl ?_
    refine cv_iload_n K 2 d_Devices_happen_8 rfl rfl ?_
    refine cv_callVv K (m_Serial_arrive l dC dI tys ad ca n htys srv rqv rqB x) d_Devices_happen_9 (cw_V (n := 1) K.2.2.2.2.1 tm_473 tm_474 tm_475 tm_6 tm_476 rfl rfl ⟨rfl, wd_of (by decide +kernel) (by decide +kernel)⟩ ⟨Nat.le_of_ble_eq_true rfl, Nat.le_of_ble_eq_true rfl⟩) 2 rfl rfl [2, 3, 4] rfl rfl (fun _ => rfl) rfl rfl (Nat.le_of_ble_eq_true rfl) (Nat.zero_le _) (Nat.zero_le _) (fun r3 hr3 => ?_)
    refine cv_norm [k_Devices (ad 15) (ad 16) (ad 17) dvL, k_Interrupts (ad 16) itv, k_Serial (ad 17) (ad 18) (ad 20) (ad 22) r3.1, k_ByteQueue (ad 18) (ad 19) r3.2.1, k_arr (ad 19) (ca 10) 8 r3.2.2] rfl ?_
    refine cv_goto K d_Devices_happen_12 32 rfl ?_
    exact cv_retv K hm d_Devices_happen_32 ((itv, r3.1, r3.2.1, r3.2.2)) (by rw [p_Devices_happen, if_pos (c := k = (0 : Int32)) h1, ← hr3, p_Devices_happen_3]) rfl
-- CycleChip$Devices.interruptBits()I
def p_Devices_interruptBits_2 (dvL : Nat → Int64) (itv : Nat → Int32) (r1 : Int32) (r2 : Int32) : Int32 := if r2 = (0 : Int32) then (0 : Int32) ||| (0 : Int32) else (0 : Int32) ||| (2048 : Int32)
def p_Devices_interruptBits_3 (dvL : Nat → Int64) (itv : Nat → Int32) (r1 : Int32) (r3 : Int32) : Int32 := if r3 = (0 : Int32) then (128 : Int32) ||| (0 : Int32) else (128 : Int32) ||| (2048 : Int32)
def p_Devices_interruptBits_1 (dvL : Nat → Int64) (itv : Nat → Int32) (r1 : Int32) : Int32 := if r1 < (0 : Int32) then p_Devices_interruptBits_2 dvL itv r1 (p_Interrupts_firstRaised itv) else p_Devices_interruptBits_3 dvL itv r1 (p_Interrupts_firstRaised itv)
def p_Devices_interruptBits (dvL : Nat → Int64) (itv : Nat → Int32) : Int32 := p_Devices_interruptBits_1 dvL itv (p_JLong_compareUnsigned (dvL 0) (dvL 1))
set_option maxRecDepth 100000 in
set_option maxHeartbeats 4000000 in
theorem m_Devices_interruptBits (l : Launch) (dC : Nat → ClassId) (dI : Nat → Nat → Nat) (tys : List (ClassId × FieldType)) (ad : Nat → Nat) (ca : Nat → ClassId) (n : Nat) (htys : ∀ k, k < 17 → tys[k]? = some (ca k, .int)) (dvL : Nat → Int64) (itv : Nat → Int32)  : cv_Mi l y_Devices_interruptBits (Cond.code y_Devices_interruptBits c_Devices_interruptBits 3 (some .int) :: gw) { frames := 2, cells := 0, slots := 0, locals := 46 } (dC, dI) vwCl tys [.ref (ad 15)] [k_Devices (ad 15) (ad 16) (ad 17) dvL, k_Interrupts (ad 16) itv] (p_Devices_interruptBits dvL itv) (fun r => r) (fun r => [k_Devices (ad 15) (ad 16) (ad 17) dvL, k_Interrupts (ad 16) itv]) := by
  refine cv_starti (by decide) (Nat.le_of_ble_eq_true rfl) [(0, .ref (ad 15))] rfl ?_
  intro p e s m below meth c A K hm
  refine cv_aload_n K 0 d_Devices_interruptBits_0 rfl rfl ?_
  refine cv_get K d_Devices_interruptBits_1 0 2 rfl rfl in_Devices (by decide) tm_176 rfl ?_
  refine cv_aload_n K 0 d_Devices_interruptBits_4 rfl rfl ?_
  refine cv_get K d_Devices_interruptBits_5 0 3 rfl rfl in_Devices (by decide) tm_178 rfl ?_
  refine cv_callSi K (m_JLong_compareUnsigned l dC dI tys (dvL 0) (dvL 1)) d_Devices_interruptBits_8 (cw_S (n := 2) K.2.2.2.2.1 tm_430 tm_431 tm_16 tm_432 rfl rfl (wd_of (by decide +kernel) (by decide +kernel)) ⟨Nat.le_of_ble_eq_true rfl, Nat.le_of_ble_eq_true rfl⟩) [] rfl rfl (fun _ => rfl) rfl rfl (Nat.le_of_ble_eq_true rfl) (Nat.zero_le _) (Nat.zero_le _) (fun r1 hr1 => ?_)
  refine cv_norm [k_Devices (ad 15) (ad 16) (ad 17) dvL, k_Interrupts (ad 16) itv] rfl ?_
  refine cv_if_lt K d_Devices_interruptBits_11 20 rfl (fun h1 => ?_) (fun h1 => ?_)
  · refine cv_iconst (v := 0) K d_Devices_interruptBits_20 rfl ?_
    refine cv_istore_n K d_Devices_interruptBits_21 [(1, .int (0 : Int32)), (0, .ref (ad 15))] rfl (by decide) rfl ?_
    refine cv_aload_n K 1 d_Devices_interruptBits_22 rfl rfl ?_
    refine cv_get K d_Devices_interruptBits_23 0 0 rfl rfl in_Devices (by decide) tm_172 rfl ?_
    refine cv_callVi K (m_Interrupts_firstRaised l dC dI tys (ad 16) itv) d_Devices_interruptBits_26 (cw_V (n := 0) K.2.2.2.2.1 tm_437 tm_438 tm_439 tm_5 tm_440 rfl rfl ⟨rfl, wd_of (by decide +kernel) (by decide +kernel)⟩ ⟨Nat.le_of_ble_eq_true rfl, Nat.le_of_ble_eq_true rfl⟩) 1 rfl rfl [1] rfl rfl (fun _ => rfl) rfl rfl (Nat.le_of_ble_eq_true rfl) (Nat.zero_le _) (Nat.zero_le _) (fun r2 hr2 => ?_)
    refine cv_norm [k_Devices (ad 15) (ad 16) (ad 17) dvL, k_Interrupts (ad 16) itv] rfl ?_
    refine cv_if_eq K d_Devices_interruptBits_29 38 rfl (fun h2 => ?_) (fun h2 => ?_)
    · refine cv_iconst (v := 0) K d_Devices_interruptBits_38 rfl ?_
      refine cv_istore_n K d_Devices_interruptBits_39 [(2, .int (0 : Int32)), (1, .int (0 : Int32)), (0, .ref (ad 15))] rfl (by decide) rfl ?_
      refine cv_iload_n K 1 d_Devices_interruptBits_40 rfl rfl ?_
      refine cv_iload_n K 0 d_Devices_interruptBits_41 rfl rfl ?_
      refine cv_ior K d_Devices_interruptBits_42 ?_
      exact cv_reti K hm d_Devices_interruptBits_43 ((0 : Int32) ||| (0 : Int32)) (by rw [p_Devices_interruptBits, ← hr1, p_Devices_interruptBits_1, if_pos (c := r1 < (0 : Int32)) h1, ← hr2, p_Devices_interruptBits_2, if_pos (c := r2 = (0 : Int32)) h2]) rfl rfl
    · refine cv_sipush (v := 2048) K d_Devices_interruptBits_32 (by decide +kernel) ?_
      refine cv_goto K d_Devices_interruptBits_35 39 rfl ?_
      refine cv_istore_n K d_Devices_interruptBits_39 [(2, .int (2048 : Int32)), (1, .int (0 : Int32)), (0, .ref (ad 15))] rfl (by decide) rfl ?_
      refine cv_iload_n K 1 d_Devices_interruptBits_40 rfl rfl ?_
      refine cv_iload_n K 0 d_Devices_interruptBits_41 rfl rfl ?_
      refine cv_ior K d_Devices_interruptBits_42 ?_
      exact cv_reti K hm d_Devices_interruptBits_43 ((0 : Int32) ||| (2048 : Int32)) (by rw [p_Devices_interruptBits, ← hr1, p_Devices_interruptBits_1, if_pos (c := r1 < (0 : Int32)) h1, ← hr2, p_Devices_interruptBits_2, if_neg (c := r2 = (0 : Int32)) h2]) rfl rfl
  · refine cv_sipush (v := 128) K d_Devices_interruptBits_14 (by decide +kernel) ?_
    refine cv_goto K d_Devices_interruptBits_17 21 rfl ?_
    refine cv_istore_n K d_Devices_interruptBits_21 [(1, .int (128 : Int32)), (0, .ref (ad 15))] rfl (by decide) rfl ?_
    refine cv_aload_n K 1 d_Devices_interruptBits_22 rfl rfl ?_
    refine cv_get K d_Devices_interruptBits_23 0 0 rfl rfl in_Devices (by decide) tm_172 rfl ?_
    refine cv_callVi K (m_Interrupts_firstRaised l dC dI tys (ad 16) itv) d_Devices_interruptBits_26 (cw_V (n := 0) K.2.2.2.2.1 tm_437 tm_438 tm_439 tm_5 tm_440 rfl rfl ⟨rfl, wd_of (by decide +kernel) (by decide +kernel)⟩ ⟨Nat.le_of_ble_eq_true rfl, Nat.le_of_ble_eq_true rfl⟩) 1 rfl rfl [1] rfl rfl (fun _ => rfl) rfl rfl (Nat.le_of_ble_eq_true rfl) (Nat.zero_le _) (Nat.zero_le _) (fun r3 hr3 => ?_)
    refine cv_norm [k_Devices (ad 15) (ad 16) (ad 17) dvL, k_Interrupts (ad 16) itv] rfl ?_
    refine cv_if_eq K d_Devices_interruptBits_29 38 rfl (fun h3 => ?_) (fun h3 => ?_)
    · refine cv_iconst (v := 0) K d_Devices_interruptBits_38 rfl ?_
      refine cv_istore_n K d_Devices_interruptBits_39 [(2, .int (0 : Int32)), (1, .int (128 : Int32)), (0, .ref (ad 15))] rfl (by decide) rfl ?_
      refine cv_iload_n K 1 d_Devices_interruptBits_40 rfl rfl ?_
      refine cv_iload_n K 0 d_Devices_interruptBits_41 rfl rfl ?_
      refine cv_ior K d_Devices_interruptBits_42 ?_
      exact cv_reti K hm d_Devices_interruptBits_43 ((128 : Int32) ||| (0 : Int32)) (by rw [p_Devices_interruptBits, ← hr1, p_Devices_interruptBits_1, if_neg (c := r1 < (0 : Int32)) h1, ← hr3, p_Devices_interruptBits_3, if_pos (c := r3 = (0 : Int32)) h3]) rfl rfl
    · refine cv_sipush (v := 2048) K d_Devices_interruptBits_32 (by decide +kernel) ?_
      refine cv_goto K d_Devices_interruptBits_35 39 rfl ?_
      refine cv_istore_n K d_Devices_interruptBits_39 [(2, .int (2048 : Int32)), (1, .int (128 : Int32)), (0, .ref (ad 15))] rfl (by decide) rfl ?_
      refine cv_iload_n K 1 d_Devices_interruptBits_40 rfl rfl ?_
      refine cv_iload_n K 0 d_Devices_interruptBits_41 rfl rfl ?_
      refine cv_ior K d_Devices_interruptBits_42 ?_
      exact cv_reti K hm d_Devices_interruptBits_43 ((128 : Int32) ||| (2048 : Int32)) (by rw [p_Devices_interruptBits, ← hr1, p_Devices_interruptBits_1, if_neg (c := r1 < (0 : Int32)) h1, ← hr3, p_Devices_interruptBits_3, if_neg (c := r3 = (0 : Int32)) h3]) rfl rfl
-- CycleChip$Devices.load(I)I
def p_Devices_load_1 (dvL : Nat → Int64) (itv : Nat → Int32) (srv : Nat → Int32) (rqv : Nat → Int32) (rqB : Nat → Int32) (sqv : Nat → Int32) (sqB : Nat → Int32) (k : Int32) (r1 : Int32 × (Nat → Int32)) : Int32 × (Nat → Int32) × (Nat → Int32) := (r1.1, r1.2, rqv)
def p_Devices_load_2 (dvL : Nat → Int64) (itv : Nat → Int32) (srv : Nat → Int32) (rqv : Nat → Int32) (rqB : Nat → Int32) (sqv : Nat → Int32) (sqB : Nat → Int32) (k : Int32) (r2 : Int32 × (Nat → Int32)) : Int32 × (Nat → Int32) × (Nat → Int32) := (r2.1, r2.2, rqv)
def p_Devices_load_3 (dvL : Nat → Int64) (itv : Nat → Int32) (srv : Nat → Int32) (rqv : Nat → Int32) (rqB : Nat → Int32) (sqv : Nat → Int32) (sqB : Nat → Int32) (k : Int32) (r3 : Int32 × (Nat → Int32)) : Int32 × (Nat → Int32) × (Nat → Int32) := (r3.1, r3.2, rqv)
def p_Devices_load_4 (dvL : Nat → Int64) (itv : Nat → Int32) (srv : Nat → Int32) (rqv : Nat → Int32) (rqB : Nat → Int32) (sqv : Nat → Int32) (sqB : Nat → Int32) (k : Int32) (r4 : Int32 × (Nat → Int32)) : Int32 × (Nat → Int32) × (Nat → Int32) := (r4.1, r4.2, rqv)
def p_Devices_load_5 (dvL : Nat → Int64) (itv : Nat → Int32) (srv : Nat → Int32) (rqv : Nat → Int32) (rqB : Nat → Int32) (sqv : Nat → Int32) (sqB : Nat → Int32) (k : Int32) (r5 : Int32 × (Nat → Int32)) : Int32 × (Nat → Int32) × (Nat → Int32) := (r5.1, r5.2, rqv)
def p_Devices_load_6 (dvL : Nat → Int64) (itv : Nat → Int32) (srv : Nat → Int32) (rqv : Nat → Int32) (rqB : Nat → Int32) (sqv : Nat → Int32) (sqB : Nat → Int32) (k : Int32) (r6 : Int32 × (Nat → Int32)) : Int32 × (Nat → Int32) × (Nat → Int32) := (r6.1, itv, r6.2)
def p_Devices_load_7 (dvL : Nat → Int64) (itv : Nat → Int32) (srv : Nat → Int32) (rqv : Nat → Int32) (rqB : Nat → Int32) (sqv : Nat → Int32) (sqB : Nat → Int32) (k : Int32) (r7 : Int32 × (Nat → Int32)) : Int32 × (Nat → Int32) × (Nat → Int32) := (r7.1, itv, r7.2)
def p_Devices_load_8 (dvL : Nat → Int64) (itv : Nat → Int32) (srv : Nat → Int32) (rqv : Nat → Int32) (rqB : Nat → Int32) (sqv : Nat → Int32) (sqB : Nat → Int32) (k : Int32) (r8 : Int32 × (Nat → Int32)) : Int32 × (Nat → Int32) × (Nat → Int32) := (r8.1, itv, r8.2)
def p_Devices_load_9 (dvL : Nat → Int64) (itv : Nat → Int32) (srv : Nat → Int32) (rqv : Nat → Int32) (rqB : Nat → Int32) (sqv : Nat → Int32) (sqB : Nat → Int32) (k : Int32) (r9 : Int32 × (Nat → Int32)) : Int32 × (Nat → Int32) × (Nat → Int32) := (r9.1, itv, r9.2)
def p_Devices_load (dvL : Nat → Int64) (itv : Nat → Int32) (srv : Nat → Int32) (rqv : Nat → Int32) (rqB : Nat → Int32) (sqv : Nat → Int32) (sqB : Nat → Int32) (k : Int32) : Int32 × (Nat → Int32) × (Nat → Int32) := if k = (0 : Int32) then ((dvL 0).toInt32, itv, rqv) else if k = (1 : Int32) then ((j_lshr (dvL 0) (32 : Int32)).toInt32, itv, rqv) else if k = (2 : Int32) then ((dvL 1).toInt32, itv, rqv) else if k = (3 : Int32) then ((j_lshr (dvL 1) (32 : Int32)).toInt32, itv, rqv) else if k = (4 : Int32) then p_Devices_load_1 dvL itv srv rqv rqB sqv sqB k (p_Interrupts_load itv k) else if k = (5 : Int32) then p_Devices_load_2 dvL itv srv rqv rqB sqv sqB k (p_Interrupts_load itv k) else if k = (6 : Int32) then p_Devices_load_3 dvL itv srv rqv rqB sqv sqB k (p_Interrupts_load itv k) else if k = (7 : Int32) then p_Devices_load_4 dvL itv srv rqv rqB sqv sqB k (p_Interrupts_load itv k) else if k = (8 : Int32) then p_Devices_load_5 dvL itv srv rqv rqB sqv sqB k (p_Interrupts_load itv k) else if k = (12 : Int32) then p_Devices_load_6 dvL itv srv rqv rqB sqv sqB k (p_Serial_load srv rqv rqB sqv sqB k) else if k = (13 : Int32) then p_Devices_load_7 dvL itv srv rqv rqB sqv sqB k (p_Serial_load srv rqv rqB sqv sqB k) else if k = (14 : Int32) then p_Devices_load_8 dvL itv srv rqv rqB sqv sqB k (p_Serial_load srv rqv rqB sqv sqB k) else if k = (15 : Int32) then p_Devices_load_9 dvL itv srv rqv rqB sqv sqB k (p_Serial_load srv rqv rqB sqv sqB k) else ((0 : Int32), itv, rqv)
set_option maxRecDepth 100000 in
set_option maxHeartbeats 4000000 in
theorem m_Devices_load (l : Launch) (dC : Nat → ClassId) (dI : Nat → Nat → Nat) (tys : List (ClassId × FieldType)) (ad : Nat → Nat) (ca : Nat → ClassId) (n : Nat) (htys : ∀ k, k < 17 → tys[k]? = some (ca k, .int)) (dvL : Nat → Int64) (itv : Nat → Int32) (srv : Nat → Int32) (rqv : Nat → Int32) (rqB : Nat → Int32) (sqv : Nat → Int32) (sqB : Nat → Int32) (k : Int32) (hrq : vp_in (rqv 0) 8) : cv_Mi l y_Devices_load (Cond.code y_Devices_load c_Devices_load 2 (some .int) :: gw) { frames := 3, cells := 0, slots := 0, locals := 67 } (dC, dI) vwCl tys [.ref (ad 15), .int k] [k_Devices (ad 15) (ad 16) (ad 17) dvL, k_Interrupts (ad 16) itv, k_Serial (ad 17) (ad 18) (ad 20) (ad 22) srv, k_ByteQueue (ad 18) (ad 19) rqv, k_arr (ad 19) (ca 10) 8 rqB, k_ByteQueue (ad 20) (ad 21) sqv, k_arr (ad 21) (ca 11) 8 sqB] (p_Devices_load dvL itv srv rqv rqB sqv sqB k) (fun r => r.1) (fun r => [k_Devices (ad 15) (ad 16) (ad 17) dvL, k_Interrupts (ad 16) r.2.1, k_Serial (ad 17) (ad 18) (ad 20) (ad 22) srv, k_ByteQueue (ad 18) (ad 19) r.2.2, k_arr (ad 19) (ca 10) 8 rqB, k_ByteQueue (ad 20) (ad 21) sqv, k_arr (ad 21) (ca 11) 8 sqB]) := by
  refine cv_starti (by decide) (Nat.le_of_ble_eq_true rfl) [(0, .ref (ad 15)), (1, .int k)] rfl ?_
  intro p e s m below meth c A K hm
  refine cv_iload_n K 1 d_Devices_load_0 rfl rfl ?_
  by_cases h1 : k = (0 : Int32)
  · refine cv_tab K d_Devices_load_1 80 h1 79 (by decide +kernel) rfl ?_
    refine cv_aload_n K 0 d_Devices_load_80 rfl rfl ?_
    refine cv_get K d_Devices_load_81 0 2 rfl rfl in_Devices (by decide) tm_176 rfl ?_
    refine cv_l2i K d_Devices_load_84 rfl ?_
    exact cv_reti K hm d_Devices_load_85 (((dvL 0).toInt32, itv, rqv)) (by rw [p_Devices_load, if_pos (c := k = (0 : Int32)) h1]) rfl rfl
  by_cases h2 : k = (1 : Int32)
  · refine cv_tab K d_Devices_load_1 86 h2 85 (by decide +kernel) rfl ?_
    refine cv_aload_n K 0 d_Devices_load_86 rfl rfl ?_
    refine cv_get K d_Devices_load_87 0 2 rfl rfl in_Devices (by decide) tm_176 rfl ?_
    refine cv_bipush (v := 32) K d_Devices_load_90 (by decide +kernel) ?_
    refine cv_lshr (v := j_lshr (dvL 0) (32 : Int32)) K d_Devices_load_92 rfl ?_
    refine cv_l2i K d_Devices_load_93 rfl ?_
    exact cv_reti K hm d_Devices_load_94 (((j_lshr (dvL 0) (32 : Int32)).toInt32, itv, rqv)) (by rw [p_Devices_load, if_neg (c := k = (0 : Int32)) h1, if_pos (c := k = (1 : Int32)) h2]) rfl rfl
  by_cases h3 : k = (2 : Int32)
  · refine cv_tab K d_Devices_load_1 95 h3 94 (by decide +kernel) rfl ?_
    refine cv_aload_n K 0 d_Devices_load_95 rfl rfl ?_
    refine cv_get K d_Devices_load_96 0 3 rfl rfl in_Devices (by decide) tm_178 rfl ?_
    refine cv_l2i K d_Devices_load_99 rfl ?_
    exact cv_reti K hm d_Devices_load_100 (((dvL 1).toInt32, itv, rqv)) (by rw [p_Devices_load, if_neg (c := k = (0 : Int32)) h1, if_neg (c := k = (1 : Int32)) h2, if_pos (c := k = (2 : Int32)) h3]) rfl rfl
  by_cases h4 : k = (3 : Int32)
  · refine cv_tab K d_Devices_load_1 101 h4 100 (by decide +kernel) rfl ?_
    refine cv_aload_n K 0 d_Devices_load_101 rfl rfl ?_
    refine cv_get K d_Devices_load_102 0 3 rfl rfl in_Devices (by decide) tm_178 rfl ?_
    refine cv_bipush (v := 32) K d_Devices_load_105 (by decide +kernel) ?_
    refine cv_lshr (v := j_lshr (dvL 1) (32 : Int32)) K d_Devices_load_107 rfl ?_
    refine cv_l2i K d_Devices_load_108 rfl ?_
    exact cv_reti K hm d_Devices_load_109 (((j_lshr (dvL 1) (32 : Int32)).toInt32, itv, rqv)) (by rw [p_Devices_load, if_neg (c := k = (0 : Int32)) h1, if_neg (c := k = (1 : Int32)) h2, if_neg (c := k = (2 : Int32)) h3, if_pos (c := k = (3 : Int32)) h4]) rfl rfl
  by_cases h5 : k = (4 : Int32)
  · refine cv_tab K d_Devices_load_1 110 h5 109 (by decide +kernel) rfl ?_
    refine cv_aload_n K 0 d_Devices_load_110 rfl rfl ?_
    refine cv_get K d_Devices_load_111 0 0 rfl rfl in_Devices (by decide) tm_172 rfl ?_
    refine cv_iload_n K 1 d_Devices_load_114 rfl rfl ?_
    refine cv_callVi K (m_Interrupts_load l dC dI tys (ad 16) itv k) d_Devices_load_115 (cw_V (n := 1) K.2.2.2.2.1 tm_564 tm_565 tm_566 tm_5 tm_567 rfl rfl ⟨rfl, wd_of (by decide +kernel) (by decide +kernel)⟩ ⟨Nat.le_of_ble_eq_true rfl, Nat.le_of_ble_eq_true rfl⟩) 1 rfl rfl [1] rfl rfl (fun _ => rfl) rfl rfl (Nat.le_of_ble_eq_true rfl) (Nat.zero_le _) (Nat.zero_le _) (fun r1 hr1 => ?_)
    refine cv_norm [k_Devices (ad 15) (ad 16) (ad 17) dvL, k_Interrupts (ad 16) r1.2, k_Serial (ad 17) (ad 18) (ad 20) (ad 22) srv, k_ByteQueue (ad 18) (ad 19) rqv, k_arr (ad 19) (ca 10) 8 rqB, k_ByteQueue (ad 20) (ad 21) sqv, k_arr (ad 21) (ca 11) 8 sqB] rfl ?_
    exact cv_reti K hm d_Devices_load_118 ((r1.1, r1.2, rqv)) (by rw [p_Devices_load, if_neg (c := k = (0 : Int32)) h1, if_neg (c := k = (1 : Int32)) h2, if_neg (c := k = (2 : Int32)) h3, if_neg (c := k = (3 : Int32)) h4, if_pos (c := k = (4 : Int32)) h5, ← hr1, p_Devices_load_1]) rfl rfl
  by_cases h6 : k = (5 : Int32)
  · refine cv_tab K d_Devices_load_1 110 h6 109 (by decide +kernel) rfl ?_
    refine cv_aload_n K 0 d_Devices_load_110 rfl rfl ?_
    refine cv_get K d_Devices_load_111 0 0 rfl rfl in_Devices (by decide) tm_172 rfl ?_
    refine cv_iload_n K 1 d_Devices_load_114 rfl rfl ?_
    refine cv_callVi K (m_Interrupts_load l dC dI tys (ad 16) itv k) d_Devices_load_115 (cw_V (n := 1) K.2.2.2.2.1 tm_564 tm_565 tm_566 tm_5 tm_567 rfl rfl ⟨rfl, wd_of (by decide +kernel) (by decide +kernel)⟩ ⟨Nat.le_of_ble_eq_true rfl, Nat.le_of_ble_eq_true rfl⟩) 1 rfl rfl [1] rfl rfl (fun _ => rfl) rfl rfl (Nat.le_of_ble_eq_true rfl) (Nat.zero_le _) (Nat.zero_le _) (fun r2 hr2 => ?_)
    refine cv_norm [k_Devices (ad 15) (ad 16) (ad 17) dvL, k_Interrupts (ad 16) r2.2, k_Serial (ad 17) (ad 18) (ad 20) (ad 22) srv, k_ByteQueue (ad 18) (ad 19) rqv, k_arr (ad 19) (ca 10) 8 rqB, k_ByteQueue (ad 20) (ad 21) sqv, k_arr (ad 21) (ca 11) 8 sqB] rfl ?_
    exact cv_reti K hm d_Devices_load_118 ((r2.1, r2.2, rqv)) (by rw [p_Devices_load, if_neg (c := k = (0 : Int32)) h1, if_neg (c := k = (1 : Int32)) h2, if_neg (c := k = (2 : Int32)) h3, if_neg (c := k = (3 : Int32)) h4, if_neg (c := k = (4 : Int32)) h5, if_pos (c := k = (5 : Int32)) h6, ← hr2, p_Devices_load_2]) rfl rfl
  by_cases h7 : k = (6 : Int32)
  · refine cv_tab K d_Devices_load_1 110 h7 109 (by decide +kernel) rfl ?_
    refine cv_aload_n K 0 d_Devices_load_110 rfl rfl ?_
    refine cv_get K d_Devices_load_111 0 0 rfl rfl in_Devices (by decide) tm_172 rfl ?_
    refine cv_iload_n K 1 d_Devices_load_114 rfl rfl ?_
    refine cv_callVi K (m_Interrupts_load l dC dI tys (ad 16) itv k) d_Devices_load_115 (cw_V (n := 1) K.2.2.2.2.1 tm_564 tm_565 tm_566 tm_5 tm_567 rfl rfl ⟨rfl, wd_of (by decide +kernel) (by decide +kernel)⟩ ⟨Nat.le_of_ble_eq_true rfl, Nat.le_of_ble_eq_true rfl⟩) 1 rfl rfl [1] rfl rfl (fun _ => rfl) rfl rfl (Nat.le_of_ble_eq_true rfl) (Nat.zero_le _) (Nat.zero_le _) (fun r3 hr3 => ?_)
    refine cv_norm [k_Devices (ad 15) (ad 16) (ad 17) dvL, k_Interrupts (ad 16) r3.2, k_Serial (ad 17) (ad 18) (ad 20) (ad 22) srv, k_ByteQueue (ad 18) (ad 19) rqv, k_arr (ad 19) (ca 10) 8 rqB, k_ByteQueue (ad 20) (ad 21) sqv, k_arr (ad 21) (ca 11) 8 sqB] rfl ?_
    exact cv_reti K hm d_Devices_load_118 ((r3.1, r3.2, rqv)) (by rw [p_Devices_load, if_neg (c := k = (0 : Int32)) h1, if_neg (c := k = (1 : Int32)) h2, if_neg (c := k = (2 : Int32)) h3, if_neg (c := k = (3 : Int32)) h4, if_neg (c := k = (4 : Int32)) h5, if_neg (c := k = (5 : Int32)) h6, if_pos (c := k = (6 : Int32)) h7, ← hr3, p_Devices_load_3]) rfl rfl
  by_cases h8 : k = (7 : Int32)
  · refine cv_tab K d_Devices_load_1 110 h8 109 (by decide +kernel) rfl ?_
    refine cv_aload_n K 0 d_Devices_load_110 rfl rfl ?_
    refine cv_get K d_Devices_load_111 0 0 rfl rfl in_Devices (by decide) tm_172 rfl ?_
    refine cv_iload_n K 1 d_Devices_load_114 rfl rfl ?_
    refine cv_callVi K (m_Interrupts_load l dC dI tys (ad 16) itv k) d_Devices_load_115 (cw_V (n := 1) K.2.2.2.2.1 tm_564 tm_565 tm_566 tm_5 tm_567 rfl rfl ⟨rfl, wd_of (by decide +kernel) (by decide +kernel)⟩ ⟨Nat.le_of_ble_eq_true rfl, Nat.le_of_ble_eq_true rfl⟩) 1 rfl rfl [1] rfl rfl (fun _ => rfl) rfl rfl (Nat.le_of_ble_eq_true rfl) (Nat.zero_le _) (Nat.zero_le _) (fun r4 hr4 => ?_)
    refine cv_norm [k_Devices (ad 15) (ad 16) (ad 17) dvL, k_Interrupts (ad 16) r4.2, k_Serial (ad 17) (ad 18) (ad 20) (ad 22) srv, k_ByteQueue (ad 18) (ad 19) rqv, k_arr (ad 19) (ca 10) 8 rqB, k_ByteQueue (ad 20) (ad 21) sqv, k_arr (ad 21) (ca 11) 8 sqB] rfl ?_
    exact cv_reti K hm d_Devices_load_118 ((r4.1, r4.2, rqv)) (by rw [p_Devices_load, if_neg (c := k = (0 : Int32)) h1, if_neg (c := k = (1 : Int32)) h2, if_neg (c := k = (2 : Int32)) h3, if_neg (c := k = (3 : Int32)) h4, if_neg (c := k = (4 : Int32)) h5, if_neg (c := k = (5 : Int32)) h6, if_neg (c := k = (6 : Int32)) h7, if_pos (c := k = (7 : Int32)) h8, ← hr4, p_Devices_load_4]) rfl rfl
  by_cases h9 : k = (8 : Int32)
  · refine cv_tab K d_Devices_load_1 110 h9 109 (by decide +kernel) rfl ?_
    refine cv_aload_n K 0 d_Devices_load_110 rfl rfl ?_
    refine cv_get K d_Devices_load_111 0 0 rfl rfl in_Devices (by decide) tm_172 rfl ?_
    refine cv_iload_n K 1 d_Devices_load_114 rfl rfl ?_
    refine cv_callVi K (m_Interrupts_load l dC dI tys (ad 16) itv k) d_Devices_load_115 (cw_V (n := 1) K.2.2.2.2.1 tm_564 tm_565 tm_566 tm_5 tm_567 rfl rfl ⟨rfl, wd_of (by decide +kernel) (by decide +kernel)⟩ ⟨Nat.le_of_ble_eq_true rfl, Nat.le_of_ble_eq_true rfl⟩) 1 rfl rfl [1] rfl rfl (fun _ => rfl) rfl rfl (Nat.le_of_ble_eq_true rfl) (Nat.zero_le _) (Nat.zero_le _) (fun r5 hr5 => ?_)
    refine cv_norm [k_Devices (ad 15) (ad 16) (ad 17) dvL, k_Interrupts (ad 16) r5.2, k_Serial (ad 17) (ad 18) (ad 20) (ad 22) srv, k_ByteQueue (ad 18) (ad 19) rqv, k_arr (ad 19) (ca 10) 8 rqB, k_ByteQueue (ad 20) (ad 21) sqv, k_arr (ad 21) (ca 11) 8 sqB] rfl ?_
    exact cv_reti K hm d_Devices_load_118 ((r5.1, r5.2, rqv)) (by rw [p_Devices_load, if_neg (c := k = (0 : Int32)) h1, if_neg (c := k = (1 : Int32)) h2, if_neg (c := k = (2 : Int32)) h3, if_neg (c := k = (3 : Int32)) h4, if_neg (c := k = (4 : Int32)) h5, if_neg (c := k = (5 : Int32)) h6, if_neg (c := k = (6 : Int32)) h7, if_neg (c := k = (7 : Int32)) h8, if_pos (c := k = (8 : Int32)) h9, ← hr5, p_Devices_load_5]) rfl rfl
  by_cases h10 : k = (12 : Int32)
  · refine cv_tab K d_Devices_load_1 119 h10 118 (by decide +kernel) rfl ?_
    refine cv_aload_n K 0 d_Devices_load_119 rfl rfl ?_
    refine cv_get K d_Devices_load_120 0 1 rfl rfl in_Devices (by decide) tm_174 rfl ?_
    refine cv_iload_n K 1 d_Devices_load_123 rfl rfl ?_
    refine cv_callVi K (m_Serial_load l dC dI tys ad ca n htys srv rqv rqB sqv sqB k hrq) d_Devices_load_124 (cw_V (n := 1) K.2.2.2.2.1 tm_573 tm_574 tm_575 tm_6 tm_576 rfl rfl ⟨rfl, wd_of (by decide +kernel) (by decide +kernel)⟩ ⟨Nat.le_of_ble_eq_true rfl, Nat.le_of_ble_eq_true rfl⟩) 2 rfl rfl [2, 3, 4, 5, 6] rfl rfl (fun _ => rfl) rfl rfl (Nat.le_of_ble_eq_true rfl) (Nat.zero_le _) (Nat.zero_le _) (fun r6 hr6 => ?_)
    refine cv_norm [k_Devices (ad 15) (ad 16) (ad 17) dvL, k_Interrupts (ad 16) itv, k_Serial (ad 17) (ad 18) (ad 20) (ad 22) srv, k_ByteQueue (ad 18) (ad 19) r6.2, k_arr (ad 19) (ca 10) 8 rqB, k_ByteQueue (ad 20) (ad 21) sqv, k_arr (ad 21) (ca 11) 8 sqB] rfl ?_
    exact cv_reti K hm d_Devices_load_127 ((r6.1, itv, r6.2)) (by rw [p_Devices_load, if_neg (c := k = (0 : Int32)) h1, if_neg (c := k = (1 : Int32)) h2, if_neg (c := k = (2 : Int32)) h3, if_neg (c := k = (3 : Int32)) h4, if_neg (c := k = (4 : Int32)) h5, if_neg (c := k = (5 : Int32)) h6, if_neg (c := k = (6 : Int32)) h7, if_neg (c := k = (7 : Int32)) h8, if_neg (c := k = (8 : Int32)) h9, if_pos (c := k = (12 : Int32)) h10, ← hr6, p_Devices_load_6]) rfl rfl
  by_cases h11 : k = (13 : Int32)
  · refine cv_tab K d_Devices_load_1 119 h11 118 (by decide +kernel) rfl ?_
    refine cv_aload_n K 0 d_Devices_load_119 rfl rfl ?_
    refine cv_get K d_Devices_load_120 0 1 rfl rfl in_Devices (by decide) tm_174 rfl ?_
    refine cv_iload_n K 1 d_Devices_load_123 rfl rfl ?_
    refine cv_callVi K (m_Serial_load l dC dI tys ad ca n htys srv rqv rqB sqv sqB k hrq) d_Devices_load_124 (cw_V (n := 1) K.2.2.2.2.1 tm_573 tm_574 tm_575 tm_6 tm_576 rfl rfl ⟨rfl, wd_of (by decide +kernel) (by decide +kernel)⟩ ⟨Nat.le_of_ble_eq_true rfl, Nat.le_of_ble_eq_true rfl⟩) 2 rfl rfl [2, 3, 4, 5, 6] rfl rfl (fun _ => rfl) rfl rfl (Nat.le_of_ble_eq_true rfl) (Nat.zero_le _) (Nat.zero_le _) (fun r7 hr7 => ?_)
    refine cv_norm [k_Devices (ad 15) (ad 16) (ad 17) dvL, k_Interrupts (ad 16) itv, k_Serial (ad 17) (ad 18) (ad 20) (ad 22) srv, k_ByteQueue (ad 18) (ad 19) r7.2, k_arr (ad 19) (ca 10) 8 rqB, k_ByteQueue (ad 20) (ad 21) sqv, k_arr (ad 21) (ca 11) 8 sqB] rfl ?_
    exact cv_reti K hm d_Devices_load_127 ((r7.1, itv, r7.2)) (by rw [p_Devices_load, if_neg (c := k = (0 : Int32)) h1, if_neg (c := k = (1 : Int32)) h2, if_neg (c := k = (2 : Int32)) h3, if_neg (c := k = (3 : Int32)) h4, if_neg (c := k = (4 : Int32)) h5, if_neg (c := k = (5 : Int32)) h6, if_neg (c := k = (6 : Int32)) h7, if_neg (c := k = (7 : Int32)) h8, if_neg (c := k = (8 : Int32)) h9, if_neg (c := k = (12 : Int32)) h10, if_pos (c := k = (13 : Int32)) h11, ← hr7, p_Devices_load_7]) rfl rfl
  by_cases h12 : k = (14 : Int32)
  · refine cv_tab K d_Devices_load_1 119 h12 118 (by decide +kernel) rfl ?_
    refine cv_aload_n K 0 d_Devices_load_119 rfl rfl ?_
    refine cv_get K d_Devices_load_120 0 1 rfl rfl in_Devices (by decide) tm_174 rfl ?_
    refine cv_iload_n K 1 d_Devices_load_123 rfl rfl ?_
    refine cv_callVi K (m_Serial_load l dC dI tys ad ca n htys srv rqv rqB sqv sqB k hrq) d_Devices_load_124 (cw_V (n := 1) K.2.2.2.2.1 tm_573 tm_574 tm_575 tm_6 tm_576 rfl rfl ⟨rfl, wd_of (by decide +kernel) (by decide +kernel)⟩ ⟨Nat.le_of_ble_eq_true rfl, Nat.le_of_ble_eq_true rfl⟩) 2 rfl rfl [2, 3, 4, 5, 6] rfl rfl (fun _ => rfl) rfl rfl (Nat.le_of_ble_eq_true rfl) (Nat.zero_le _) (Nat.zero_le _) (fun r8 hr8 => ?_)
    refine cv_norm [k_Devices (ad 15) (ad 16) (ad 17) dvL, k_Interrupts (ad 16) itv, k_Serial (ad 17) (ad 18) (ad 20) (ad 22) srv, k_ByteQueue (ad 18) (ad 19) r8.2, k_arr (ad 19) (ca 10) 8 rqB, k_ByteQueue (ad 20) (ad 21) sqv, k_arr (ad 21) (ca 11) 8 sqB] rfl ?_
    exact cv_reti K hm d_Devices_load_127 ((r8.1, itv, r8.2)) (by rw [p_Devices_load, if_neg (c := k = (0 : Int32)) h1, if_neg (c := k = (1 : Int32)) h2, if_neg (c := k = (2 : Int32)) h3, if_neg (c := k = (3 : Int32)) h4, if_neg (c := k = (4 : Int32)) h5, if_neg (c := k = (5 : Int32)) h6, if_neg (c := k = (6 : Int32)) h7, if_neg (c := k = (7 : Int32)) h8, if_neg (c := k = (8 : Int32)) h9, if_neg (c := k = (12 : Int32)) h10, if_neg (c := k = (13 : Int32)) h11, if_pos (c := k = (14 : Int32)) h12, ← hr8, p_Devices_load_8]) rfl rfl
  by_cases h13 : k = (15 : Int32)
  · refine cv_tab K d_Devices_load_1 119 h13 118 (by decide +kernel) rfl ?_
    refine cv_aload_n K 0 d_Devices_load_119 rfl rfl ?_
    refine cv_get K d_Devices_load_120 0 1 rfl rfl in_Devices (by decide) tm_174 rfl ?_
    refine cv_iload_n K 1 d_Devices_load_123 rfl rfl ?_
    refine cv_callVi K (m_Serial_load l dC dI tys ad ca n htys srv rqv rqB sqv sqB k hrq) d_Devices_load_124 (cw_V (n := 1) K.2.2.2.2.1 tm_573 tm_574 tm_575 tm_6 tm_576 rfl rfl ⟨rfl, wd_of (by decide +kernel) (by decide +kernel)⟩ ⟨Nat.le_of_ble_eq_true rfl, Nat.le_of_ble_eq_true rfl⟩) 2 rfl rfl [2, 3, 4, 5, 6] rfl rfl (fun _ => rfl) rfl rfl (Nat.le_of_ble_eq_true rfl) (Nat.zero_le _) (Nat.zero_le _) (fun r9 hr9 => ?_)
    refine cv_norm [k_Devices (ad 15) (ad 16) (ad 17) dvL, k_Interrupts (ad 16) itv, k_Serial (ad 17) (ad 18) (ad 20) (ad 22) srv, k_ByteQueue (ad 18) (ad 19) r9.2, k_arr (ad 19) (ca 10) 8 rqB, k_ByteQueue (ad 20) (ad 21) sqv, k_arr (ad 21) (ca 11) 8 sqB] rfl ?_
    exact cv_reti K hm d_Devices_load_127 ((r9.1, itv, r9.2)) (by rw [p_Devices_load, if_neg (c := k = (0 : Int32)) h1, if_neg (c := k = (1 : Int32)) h2, if_neg (c := k = (2 : Int32)) h3, if_neg (c := k = (3 : Int32)) h4, if_neg (c := k = (4 : Int32)) h5, if_neg (c := k = (5 : Int32)) h6, if_neg (c := k = (6 : Int32)) h7, if_neg (c := k = (7 : Int32)) h8, if_neg (c := k = (8 : Int32)) h9, if_neg (c := k = (12 : Int32)) h10, if_neg (c := k = (13 : Int32)) h11, if_neg (c := k = (14 : Int32)) h12, if_pos (c := k = (15 : Int32)) h13, ← hr9, p_Devices_load_9]) rfl rfl
  refine cv_tabD K d_Devices_load_1 128 (by
      have zh1 := j_ne 0 h1 (by decide +kernel); have zh2 := j_ne 1 h2 (by decide +kernel); have zh3 := j_ne 2 h3 (by decide +kernel); have zh4 := j_ne 3 h4 (by decide +kernel); have zh5 := j_ne 4 h5 (by decide +kernel); have zh6 := j_ne 5 h6 (by decide +kernel); have zh7 := j_ne 6 h7 (by decide +kernel); have zh8 := j_ne 7 h8 (by decide +kernel); have zh9 := j_ne 8 h9 (by decide +kernel); have zh10 := j_ne 12 h10 (by decide +kernel); have zh11 := j_ne 13 h11 (by decide +kernel); have zh12 := j_ne 14 h12 (by decide +kernel); have zh13 := j_ne 15 h13 (by decide +kernel); 
      by_cases hlo : k.toInt < 0 ∨ 15 < k.toInt
      · exact Or.inl hlo
      · have hq : k.toInt = 9 ∨ k.toInt = 10 ∨ k.toInt = 11 := by omega
        rcases hq with hz | hz | hz <;> (rw [hz]; exact Or.inr rfl)) rfl ?_
  refine cv_iconst (v := 0) K d_Devices_load_128 rfl ?_
  exact cv_reti K hm d_Devices_load_129 (((0 : Int32), itv, rqv)) (by rw [p_Devices_load, if_neg (c := k = (0 : Int32)) h1, if_neg (c := k = (1 : Int32)) h2, if_neg (c := k = (2 : Int32)) h3, if_neg (c := k = (3 : Int32)) h4, if_neg (c := k = (4 : Int32)) h5, if_neg (c := k = (5 : Int32)) h6, if_neg (c := k = (6 : Int32)) h7, if_neg (c := k = (7 : Int32)) h8, if_neg (c := k = (8 : Int32)) h9, if_neg (c := k = (12 : Int32)) h10, if_neg (c := k = (13 : Int32)) h11, if_neg (c := k = (14 : Int32)) h12, if_neg (c := k = (15 : Int32)) h13]) rfl rfl
-- CycleChip$Devices.store(II)V
def p_Devices_store_1 (dvL : Nat → Int64) (itv : Nat → Int32) (srv : Nat → Int32) (sqv : Nat → Int32) (sqB : Nat → Int32) (k : Int32) (x : Int32) (r1 : Int64) : (Nat → Int64) × (Nat → Int32) × (Nat → Int32) × (Nat → Int32) × (Nat → Int32) := ((vp_updL dvL 0 r1), itv, srv, sqv, sqB)
def p_Devices_store_2 (dvL : Nat → Int64) (itv : Nat → Int32) (srv : Nat → Int32) (sqv : Nat → Int32) (sqB : Nat → Int32) (k : Int32) (x : Int32) (r2 : Int64) : (Nat → Int64) × (Nat → Int32) × (Nat → Int32) × (Nat → Int32) × (Nat → Int32) := ((vp_updL dvL 0 r2), itv, srv, sqv, sqB)
def p_Devices_store_3 (dvL : Nat → Int64) (itv : Nat → Int32) (srv : Nat → Int32) (sqv : Nat → Int32) (sqB : Nat → Int32) (k : Int32) (x : Int32) (r3 : Int64) : (Nat → Int64) × (Nat → Int32) × (Nat → Int32) × (Nat → Int32) × (Nat → Int32) := ((vp_updL dvL 1 r3), itv, srv, sqv, sqB)
def p_Devices_store_4 (dvL : Nat → Int64) (itv : Nat → Int32) (srv : Nat → Int32) (sqv : Nat → Int32) (sqB : Nat → Int32) (k : Int32) (x : Int32) (r4 : Int64) : (Nat → Int64) × (Nat → Int32) × (Nat → Int32) × (Nat → Int32) × (Nat → Int32) := ((vp_updL dvL 1 r4), itv, srv, sqv, sqB)
def p_Devices_store_5 (dvL : Nat → Int64) (itv : Nat → Int32) (srv : Nat → Int32) (sqv : Nat → Int32) (sqB : Nat → Int32) (k : Int32) (x : Int32) (r5 : (Nat → Int32)) : (Nat → Int64) × (Nat → Int32) × (Nat → Int32) × (Nat → Int32) × (Nat → Int32) := (dvL, r5, srv, sqv, sqB)
def p_Devices_store_6 (dvL : Nat → Int64) (itv : Nat → Int32) (srv : Nat → Int32) (sqv : Nat → Int32) (sqB : Nat → Int32) (k : Int32) (x : Int32) (r6 : (Nat → Int32)) : (Nat → Int64) × (Nat → Int32) × (Nat → Int32) × (Nat → Int32) × (Nat → Int32) := (dvL, r6, srv, sqv, sqB)
def p_Devices_store_7 (dvL : Nat → Int64) (itv : Nat → Int32) (srv : Nat → Int32) (sqv : Nat → Int32) (sqB : Nat → Int32) (k : Int32) (x : Int32) (r7 : (Nat → Int32)) : (Nat → Int64) × (Nat → Int32) × (Nat → Int32) × (Nat → Int32) × (Nat → Int32) := (dvL, r7, srv, sqv, sqB)
def p_Devices_store_8 (dvL : Nat → Int64) (itv : Nat → Int32) (srv : Nat → Int32) (sqv : Nat → Int32) (sqB : Nat → Int32) (k : Int32) (x : Int32) (r8 : (Nat → Int32)) : (Nat → Int64) × (Nat → Int32) × (Nat → Int32) × (Nat → Int32) × (Nat → Int32) := (dvL, r8, srv, sqv, sqB)
def p_Devices_store_9 (dvL : Nat → Int64) (itv : Nat → Int32) (srv : Nat → Int32) (sqv : Nat → Int32) (sqB : Nat → Int32) (k : Int32) (x : Int32) (r9 : (Nat → Int32)) : (Nat → Int64) × (Nat → Int32) × (Nat → Int32) × (Nat → Int32) × (Nat → Int32) := (dvL, r9, srv, sqv, sqB)
def p_Devices_store_10 (dvL : Nat → Int64) (itv : Nat → Int32) (srv : Nat → Int32) (sqv : Nat → Int32) (sqB : Nat → Int32) (k : Int32) (x : Int32) (r10 : (Nat → Int32) × (Nat → Int32) × (Nat → Int32)) : (Nat → Int64) × (Nat → Int32) × (Nat → Int32) × (Nat → Int32) × (Nat → Int32) := (dvL, itv, r10.1, r10.2.1, r10.2.2)
def p_Devices_store_11 (dvL : Nat → Int64) (itv : Nat → Int32) (srv : Nat → Int32) (sqv : Nat → Int32) (sqB : Nat → Int32) (k : Int32) (x : Int32) (r11 : (Nat → Int32) × (Nat → Int32) × (Nat → Int32)) : (Nat → Int64) × (Nat → Int32) × (Nat → Int32) × (Nat → Int32) × (Nat → Int32) := (dvL, itv, r11.1, r11.2.1, r11.2.2)
def p_Devices_store_12 (dvL : Nat → Int64) (itv : Nat → Int32) (srv : Nat → Int32) (sqv : Nat → Int32) (sqB : Nat → Int32) (k : Int32) (x : Int32) (r12 : (Nat → Int32) × (Nat → Int32) × (Nat → Int32)) : (Nat → Int64) × (Nat → Int32) × (Nat → Int32) × (Nat → Int32) × (Nat → Int32) := (dvL, itv, r12.1, r12.2.1, r12.2.2)
def p_Devices_store_13 (dvL : Nat → Int64) (itv : Nat → Int32) (srv : Nat → Int32) (sqv : Nat → Int32) (sqB : Nat → Int32) (k : Int32) (x : Int32) (r13 : (Nat → Int32) × (Nat → Int32) × (Nat → Int32)) : (Nat → Int64) × (Nat → Int32) × (Nat → Int32) × (Nat → Int32) × (Nat → Int32) := (dvL, itv, r13.1, r13.2.1, r13.2.2)
def p_Devices_store (dvL : Nat → Int64) (itv : Nat → Int32) (srv : Nat → Int32) (sqv : Nat → Int32) (sqB : Nat → Int32) (k : Int32) (x : Int32) : (Nat → Int64) × (Nat → Int32) × (Nat → Int32) × (Nat → Int32) × (Nat → Int32) := if k = (0 : Int32) then p_Devices_store_1 dvL itv srv sqv sqB k x (p_Devices_withLow (dvL 0) x) else if k = (1 : Int32) then p_Devices_store_2 dvL itv srv sqv sqB k x (p_Devices_withHigh (dvL 0) x) else if k = (2 : Int32) then p_Devices_store_3 dvL itv srv sqv sqB k x (p_Devices_withLow (dvL 1) x) else if k = (3 : Int32) then p_Devices_store_4 dvL itv srv sqv sqB k x (p_Devices_withHigh (dvL 1) x) else if k = (4 : Int32) then p_Devices_store_5 dvL itv srv sqv sqB k x (p_Interrupts_store itv k x) else if k = (5 : Int32) then p_Devices_store_6 dvL itv srv sqv sqB k x (p_Interrupts_store itv k x) else if k = (6 : Int32) then p_Devices_store_7 dvL itv srv sqv sqB k x (p_Interrupts_store itv k x) else if k = (7 : Int32) then p_Devices_store_8 dvL itv srv sqv sqB k x (p_Interrupts_store itv k x) else if k = (8 : Int32) then p_Devices_store_9 dvL itv srv sqv sqB k x (p_Interrupts_store itv k x) else if k = (12 : Int32) then p_Devices_store_10 dvL itv srv sqv sqB k x (p_Serial_store srv sqv sqB k x) else if k = (13 : Int32) then p_Devices_store_11 dvL itv srv sqv sqB k x (p_Serial_store srv sqv sqB k x) else if k = (14 : Int32) then p_Devices_store_12 dvL itv srv sqv sqB k x (p_Serial_store srv sqv sqB k x) else if k = (15 : Int32) then p_Devices_store_13 dvL itv srv sqv sqB k x (p_Serial_store srv sqv sqB k x) else (dvL, itv, srv, sqv, sqB)
set_option maxRecDepth 100000 in
set_option maxHeartbeats 4000000 in
theorem m_Devices_store (l : Launch) (dC : Nat → ClassId) (dI : Nat → Nat → Nat) (tys : List (ClassId × FieldType)) (ad : Nat → Nat) (ca : Nat → ClassId) (n : Nat) (htys : ∀ k, k < 17 → tys[k]? = some (ca k, .int)) (dvL : Nat → Int64) (itv : Nat → Int32) (srv : Nat → Int32) (sqv : Nat → Int32) (sqB : Nat → Int32) (k : Int32) (x : Int32)  : cv_Mv l y_Devices_store (Cond.code y_Devices_store c_Devices_store 3 (none) :: gw) { frames := 3, cells := 0, slots := 0, locals := 63 } (dC, dI) vwCl tys [.ref (ad 15), .int k, .int x] [k_Devices (ad 15) (ad 16) (ad 17) dvL, k_Interrupts (ad 16) itv, k_Serial (ad 17) (ad 18) (ad 20) (ad 22) srv, k_ByteQueue (ad 20) (ad 21) sqv, k_arr (ad 21) (ca 11) 8 sqB] (p_Devices_store dvL itv srv sqv sqB k x) (fun r => [k_Devices (ad 15) (ad 16) (ad 17) r.1, k_Interrupts (ad 16) r.2.1, k_Serial (ad 17) (ad 18) (ad 20) (ad 22) r.2.2.1, k_ByteQueue (ad 20) (ad 21) r.2.2.2.1, k_arr (ad 21) (ca 11) 8 r.2.2.2.2]) := by
  refine cv_startv (by decide) (Nat.le_of_ble_eq_true rfl) [(0, .ref (ad 15)), (1, .int k), (2, .int x)] rfl ?_
  intro p e s m below meth c A K hm
  refine cv_iload_n K 1 d_Devices_store_0 rfl rfl ?_
  by_cases h1 : k = (0 : Int32)
  · refine cv_tab K d_Devices_store_1 80 h1 79 (by decide +kernel) rfl ?_
    refine cv_aload_n K 0 d_Devices_store_80 rfl rfl ?_
    refine cv_aload_n K 0 d_Devices_store_81 rfl rfl ?_
    refine cv_get K d_Devices_store_82 0 2 rfl rfl in_Devices (by decide) tm_176 rfl ?_
    refine cv_iload_n K 2 d_Devices_store_85 rfl rfl ?_
    refine cv_callSl K (m_Devices_withLow l dC dI tys (dvL 0) x) d_Devices_store_86 (cw_S (n := 2) K.2.2.2.2.1 tm_538 tm_539 tm_4 tm_540 rfl rfl (wd_of (by decide +kernel) (by decide +kernel)) ⟨Nat.le_of_ble_eq_true rfl, Nat.le_of_ble_eq_true rfl⟩) [] rfl rfl (fun _ => rfl) rfl rfl (Nat.le_of_ble_eq_true rfl) (Nat.zero_le _) (Nat.zero_le _) (fun r1 hr1 => ?_)
    refine cv_norm [k_Devices (ad 15) (ad 16) (ad 17) dvL, k_Interrupts (ad 16) itv, k_Serial (ad 17) (ad 18) (ad 20) (ad 22) srv, k_ByteQueue (ad 20) (ad 21) sqv, k_arr (ad 21) (ca 11) 8 sqB] rfl ?_
    refine cv_put K d_Devices_store_89 [k_Devices (ad 15) (ad 16) (ad 17) (vp_updL dvL 0 r1), k_Interrupts (ad 16) itv, k_Serial (ad 17) (ad 18) (ad 20) (ad 22) srv, k_ByteQueue (ad 20) (ad 21) sqv, k_arr (ad 21) (ca 11) 8 sqB] 0 2 rfl rfl in_Devices t_Devices o_Devices n_Devices (by decide) tm_176 rfl rfl rfl (Nat.le_of_ble_eq_true rfl) rfl ?_
    refine cv_goto K d_Devices_store_92 164 rfl ?_
    exact cv_retv K hm d_Devices_store_164 (((vp_updL dvL 0 r1), itv, srv, sqv, sqB)) (by rw [p_Devices_store, if_pos (c := k = (0 : Int32)) h1, ← hr1, p_Devices_store_1]) rfl
  by_cases h2 : k = (1 : Int32)
  · refine cv_tab K d_Devices_store_1 95 h2 94 (by decide +kernel) rfl ?_
    refine cv_aload_n K 0 d_Devices_store_95 rfl rfl ?_
    refine cv_aload_n K 0 d_Devices_store_96 rfl rfl ?_
    refine cv_get K d_Devices_store_97 0 2 rfl rfl in_Devices (by decide) tm_176 rfl ?_
    refine cv_iload_n K 2 d_Devices_store_100 rfl rfl ?_
    refine cv_callSl K (m_Devices_withHigh l dC dI tys (dvL 0) x) d_Devices_store_101 (cw_S (n := 2) K.2.2.2.2.1 tm_543 tm_544 tm_4 tm_545 rfl rfl (wd_of (by decide +kernel) (by decide +kernel)) ⟨Nat.le_of_ble_eq_true rfl, Nat.le_of_ble_eq_true rfl⟩) [] rfl rfl (fun _ => rfl) rfl rfl (Nat.le_of_ble_eq_true rfl) (Nat.zero_le _) (Nat.zero_le _) (fun r2 hr2 => ?_)
    refine cv_norm [k_Devices (ad 15) (ad 16) (ad 17) dvL, k_Interrupts (ad 16) itv, k_Serial (ad 17) (ad 18) (ad 20) (ad 22) srv, k_ByteQueue (ad 20) (ad 21) sqv, k_arr (ad 21) (ca 11) 8 sqB] rfl ?_
    refine cv_put K d_Devices_store_104 [k_Devices (ad 15) (ad 16) (ad 17) (vp_updL dvL 0 r2), k_Interrupts (ad 16) itv, k_Serial (ad 17) (ad 18) (ad 20) (ad 22) srv, k_ByteQueue (ad 20) (ad 21) sqv, k_arr (ad 21) (ca 11) 8 sqB] 0 2 rfl rfl in_Devices t_Devices o_Devices n_Devices (by decide) tm_176 rfl rfl rfl (Nat.le_of_ble_eq_true rfl) rfl ?_
    refine cv_goto K d_Devices_store_107 164 rfl ?_
    exact cv_retv K hm d_Devices_store_164 (((vp_updL dvL 0 r2), itv, srv, sqv, sqB)) (by rw [p_Devices_store, if_neg (c := k = (0 : Int32)) h1, if_pos (c := k = (1 : Int32)) h2, ← hr2, p_Devices_store_2]) rfl
  by_cases h3 : k = (2 : Int32)
  · refine cv_tab K d_Devices_store_1 110 h3 109 (by decide +kernel) rfl ?_
    refine cv_aload_n K 0 d_Devices_store_110 rfl rfl ?_
    refine cv_aload_n K 0 d_Devices_store_111 rfl rfl ?_
    refine cv_get K d_Devices_store_112 0 3 rfl rfl in_Devices (by decide) tm_178 rfl ?_
    refine cv_iload_n K 2 d_Devices_store_115 rfl rfl ?_
    refine cv_callSl K (m_Devices_withLow l dC dI tys (dvL 1) x) d_Devices_store_116 (cw_S (n := 2) K.2.2.2.2.1 tm_538 tm_539 tm_4 tm_540 rfl rfl (wd_of (by decide +kernel) (by decide +kernel)) ⟨Nat.le_of_ble_eq_true rfl, Nat.le_of_ble_eq_true rfl⟩) [] rfl rfl (fun _ => rfl) rfl rfl (Nat.le_of_ble_eq_true rfl) (Nat.zero_le _) (Nat.zero_le _) (fun r3 hr3 => ?_)
    refine cv_norm [k_Devices (ad 15) (ad 16) (ad 17) dvL, k_Interrupts (ad 16) itv, k_Serial (ad 17) (ad 18) (ad 20) (ad 22) srv, k_ByteQueue (ad 20) (ad 21) sqv, k_arr (ad 21) (ca 11) 8 sqB] rfl ?_
    refine cv_put K d_Devices_store_119 [k_Devices (ad 15) (ad 16) (ad 17) (vp_updL dvL 1 r3), k_Interrupts (ad 16) itv, k_Serial (ad 17) (ad 18) (ad 20) (ad 22) srv, k_ByteQueue (ad 20) (ad 21) sqv, k_arr (ad 21) (ca 11) 8 sqB] 0 3 rfl rfl in_Devices t_Devices o_Devices n_Devices (by decide) tm_178 rfl rfl rfl (Nat.le_of_ble_eq_true rfl) rfl ?_
    refine cv_goto K d_Devices_store_122 164 rfl ?_
    exact cv_retv K hm d_Devices_store_164 (((vp_updL dvL 1 r3), itv, srv, sqv, sqB)) (by rw [p_Devices_store, if_neg (c := k = (0 : Int32)) h1, if_neg (c := k = (1 : Int32)) h2, if_pos (c := k = (2 : Int32)) h3, ← hr3, p_Devices_store_3]) rfl
  by_cases h4 : k = (3 : Int32)
  · refine cv_tab K d_Devices_store_1 125 h4 124 (by decide +kernel) rfl ?_
    refine cv_aload_n K 0 d_Devices_store_125 rfl rfl ?_
    refine cv_aload_n K 0 d_Devices_store_126 rfl rfl ?_
    refine cv_get K d_Devices_store_127 0 3 rfl rfl in_Devices (by decide) tm_178 rfl ?_
    refine cv_iload_n K 2 d_Devices_store_130 rfl rfl ?_
    refine cv_callSl K (m_Devices_withHigh l dC dI tys (dvL 1) x) d_Devices_store_131 (cw_S (n := 2) K.2.2.2.2.1 tm_543 tm_544 tm_4 tm_545 rfl rfl (wd_of (by decide +kernel) (by decide +kernel)) ⟨Nat.le_of_ble_eq_true rfl, Nat.le_of_ble_eq_true rfl⟩) [] rfl rfl (fun _ => rfl) rfl rfl (Nat.le_of_ble_eq_true rfl) (Nat.zero_le _) (Nat.zero_le _) (fun r4 hr4 => ?_)
    refine cv_norm [k_Devices (ad 15) (ad 16) (ad 17) dvL, k_Interrupts (ad 16) itv, k_Serial (ad 17) (ad 18) (ad 20) (ad 22) srv, k_ByteQueue (ad 20) (ad 21) sqv, k_arr (ad 21) (ca 11) 8 sqB] rfl ?_
    refine cv_put K d_Devices_store_134 [k_Devices (ad 15) (ad 16) (ad 17) (vp_updL dvL 1 r4), k_Interrupts (ad 16) itv, k_Serial (ad 17) (ad 18) (ad 20) (ad 22) srv, k_ByteQueue (ad 20) (ad 21) sqv, k_arr (ad 21) (ca 11) 8 sqB] 0 3 rfl rfl in_Devices t_Devices o_Devices n_Devices (by decide) tm_178 rfl rfl rfl (Nat.le_of_ble_eq_true rfl) rfl ?_
    refine cv_goto K d_Devices_store_137 164 rfl ?_
    exact cv_retv K hm d_Devices_store_164 (((vp_updL dvL 1 r4), itv, srv, sqv, sqB)) (by rw [p_Devices_store, if_neg (c := k = (0 : Int32)) h1, if_neg (c := k = (1 : Int32)) h2, if_neg (c := k = (2 : Int32)) h3, if_pos (c := k = (3 : Int32)) h4, ← hr4, p_Devices_store_4]) rfl
  by_cases h5 : k = (4 : Int32)
  · refine cv_tab K d_Devices_store_1 140 h5 139 (by decide +kernel) rfl ?_
    refine cv_aload_n K 0 d_Devices_store_140 rfl rfl ?_
    refine cv_get K d_Devices_store_141 0 0 rfl rfl in_Devices (by decide) tm_172 rfl ?_
    refine cv_iload_n K 1 d_Devices_store_144 rfl rfl ?_
    refine cv_iload_n K 2 d_Devices_store_145 rfl rfl ?_
    refine cv_callVv K (m_Interrupts_store l dC dI tys (ad 16) itv k x) d_Devices_store_146 (cw_V (n := 2) K.2.2.2.2.1 tm_546 tm_547 tm_548 tm_5 tm_549 rfl rfl ⟨rfl, wd_of (by decide +kernel) (by decide +kernel)⟩ ⟨Nat.le_of_ble_eq_true rfl, Nat.le_of_ble_eq_true rfl⟩) 1 rfl rfl [1] rfl rfl (fun _ => rfl) rfl rfl (Nat.le_of_ble_eq_true rfl) (Nat.zero_le _) (Nat.zero_le _) (fun r5 hr5 => ?_)
    refine cv_norm [k_Devices (ad 15) (ad 16) (ad 17) dvL, k_Interrupts (ad 16) r5, k_Serial (ad 17) (ad 18) (ad 20) (ad 22) srv, k_ByteQueue (ad 20) (ad 21) sqv, k_arr (ad 21) (ca 11) 8 sqB] rfl ?_
    refine cv_goto K d_Devices_store_149 164 rfl ?_
    exact cv_retv K hm d_Devices_store_164 ((dvL, r5, srv, sqv, sqB)) (by rw [p_Devices_store, if_neg (c := k = (0 : Int32)) h1, if_neg (c := k = (1 : Int32)) h2, if_neg (c := k = (2 : Int32)) h3, if_neg (c := k = (3 : Int32)) h4, if_pos (c := k = (4 : Int32)) h5, ← hr5, p_Devices_store_5]) rfl
  by_cases h6 : k = (5 : Int32)
  · refine cv_tab K d_Devices_store_1 140 h6 139 (by decide +kernel) rfl ?_
    refine cv_aload_n K 0 d_Devices_store_140 rfl rfl ?_
    refine cv_get K d_Devices_store_141 0 0 rfl rfl in_Devices (by decide) tm_172 rfl ?_
    refine cv_iload_n K 1 d_Devices_store_144 rfl rfl ?_
    refine cv_iload_n K 2 d_Devices_store_145 rfl rfl ?_
    refine cv_callVv K (m_Interrupts_store l dC dI tys (ad 16) itv k x) d_Devices_store_146 (cw_V (n := 2) K.2.2.2.2.1 tm_546 tm_547 tm_548 tm_5 tm_549 rfl rfl ⟨rfl, wd_of (by decide +kernel) (by decide +kernel)⟩ ⟨Nat.le_of_ble_eq_true rfl, Nat.le_of_ble_eq_true rfl⟩) 1 rfl rfl [1] rfl rfl (fun _ => rfl) rfl rfl (Nat.le_of_ble_eq_true rfl) (Nat.zero_le _) (Nat.zero_le _) (fun r6 hr6 => ?_)
    refine cv_norm [k_Devices (ad 15) (ad 16) (ad 17) dvL, k_Interrupts (ad 16) r6, k_Serial (ad 17) (ad 18) (ad 20) (ad 22) srv, k_ByteQueue (ad 20) (ad 21) sqv, k_arr (ad 21) (ca 11) 8 sqB] rfl ?_
    refine cv_goto K d_Devices_store_149 164 rfl ?_
    exact cv_retv K hm d_Devices_store_164 ((dvL, r6, srv, sqv, sqB)) (by rw [p_Devices_store, if_neg (c := k = (0 : Int32)) h1, if_neg (c := k = (1 : Int32)) h2, if_neg (c := k = (2 : Int32)) h3, if_neg (c := k = (3 : Int32)) h4, if_neg (c := k = (4 : Int32)) h5, if_pos (c := k = (5 : Int32)) h6, ← hr6, p_Devices_store_6]) rfl
  by_cases h7 : k = (6 : Int32)
  · refine cv_tab K d_Devices_store_1 140 h7 139 (by decide +kernel) rfl ?_
    refine cv_aload_n K 0 d_Devices_store_140 rfl rfl ?_
    refine cv_get K d_Devices_store_141 0 0 rfl rfl in_Devices (by decide) tm_172 rfl ?_
    refine cv_iload_n K 1 d_Devices_store_144 rfl rfl ?_
    refine cv_iload_n K 2 d_Devices_store_145 rfl rfl ?_
    refine cv_callVv K (m_Interrupts_store l dC dI tys (ad 16) itv k x) d_Devices_store_146 (cw_V (n := 2) K.2.2.2.2.1 tm_546 tm_547 tm_548 tm_5 tm_549 rfl rfl ⟨rfl, wd_of (by decide +kernel) (by decide +kernel)⟩ ⟨Nat.le_of_ble_eq_true rfl, Nat.le_of_ble_eq_true rfl⟩) 1 rfl rfl [1] rfl rfl (fun _ => rfl) rfl rfl (Nat.le_of_ble_eq_true rfl) (Nat.zero_le _) (Nat.zero_le _) (fun r7 hr7 => ?_)
    refine cv_norm [k_Devices (ad 15) (ad 16) (ad 17) dvL, k_Interrupts (ad 16) r7, k_Serial (ad 17) (ad 18) (ad 20) (ad 22) srv, k_ByteQueue (ad 20) (ad 21) sqv, k_arr (ad 21) (ca 11) 8 sqB] rfl ?_
    refine cv_goto K d_Devices_store_149 164 rfl ?_
    exact cv_retv K hm d_Devices_store_164 ((dvL, r7, srv, sqv, sqB)) (by rw [p_Devices_store, if_neg (c := k = (0 : Int32)) h1, if_neg (c := k = (1 : Int32)) h2, if_neg (c := k = (2 : Int32)) h3, if_neg (c := k = (3 : Int32)) h4, if_neg (c := k = (4 : Int32)) h5, if_neg (c := k = (5 : Int32)) h6, if_pos (c := k = (6 : Int32)) h7, ← hr7, p_Devices_store_7]) rfl
  by_cases h8 : k = (7 : Int32)
  · refine cv_tab K d_Devices_store_1 140 h8 139 (by decide +kernel) rfl ?_
    refine cv_aload_n K 0 d_Devices_store_140 rfl rfl ?_
    refine cv_get K d_Devices_store_141 0 0 rfl rfl in_Devices (by decide) tm_172 rfl ?_
    refine cv_iload_n K 1 d_Devices_store_144 rfl rfl ?_
    refine cv_iload_n K 2 d_Devices_store_145 rfl rfl ?_
    refine cv_callVv K (m_Interrupts_store l dC dI tys (ad 16) itv k x) d_Devices_store_146 (cw_V (n := 2) K.2.2.2.2.1 tm_546 tm_547 tm_548 tm_5 tm_549 rfl rfl ⟨rfl, wd_of (by decide +kernel) (by decide +kernel)⟩ ⟨Nat.le_of_ble_eq_true rfl, Nat.le_of_ble_eq_true rfl⟩) 1 rfl rfl [1] rfl rfl (fun _ => rfl) rfl rfl (Nat.le_of_ble_eq_true rfl) (Nat.zero_le _) (Nat.zero_le _) (fun r8 hr8 => ?_)
    refine cv_norm [k_Devices (ad 15) (ad 16) (ad 17) dvL, k_Interrupts (ad 16) r8, k_Serial (ad 17) (ad 18) (ad 20) (ad 22) srv, k_ByteQueue (ad 20) (ad 21) sqv, k_arr (ad 21) (ca 11) 8 sqB] rfl ?_
    refine cv_goto K d_Devices_store_149 164 rfl ?_
    exact cv_retv K hm d_Devices_store_164 ((dvL, r8, srv, sqv, sqB)) (by rw [p_Devices_store, if_neg (c := k = (0 : Int32)) h1, if_neg (c := k = (1 : Int32)) h2, if_neg (c := k = (2 : Int32)) h3, if_neg (c := k = (3 : Int32)) h4, if_neg (c := k = (4 : Int32)) h5, if_neg (c := k = (5 : Int32)) h6, if_neg (c := k = (6 : Int32)) h7, if_pos (c := k = (7 : Int32)) h8, ← hr8, p_Devices_store_8]) rfl
  by_cases h9 : k = (8 : Int32)
  · refine cv_tab K d_Devices_store_1 140 h9 139 (by decide +kernel) rfl ?_
    refine cv_aload_n K 0 d_Devices_store_140 rfl rfl ?_
    refine cv_get K d_Devices_store_141 0 0 rfl rfl in_Devices (by decide) tm_172 rfl ?_
    refine cv_iload_n K 1 d_Devices_store_144 rfl rfl ?_
    refine cv_iload_n K 2 d_Devices_store_145 rfl rfl ?_
    refine cv_callVv K (m_Interrupts_store l dC dI tys (ad 16) itv k x) d_Devices_store_146 (cw_V (n := 2) K.2.2.2.2.1 tm_546 tm_547 tm_548 tm_5 tm_549 rfl rfl ⟨rfl, wd_of (by decide +kernel) (by decide +kernel)⟩ ⟨Nat.le_of_ble_eq_true rfl, Nat.le_of_ble_eq_true rfl⟩) 1 rfl rfl [1] rfl rfl (fun _ => rfl) rfl rfl (Nat.le_of_ble_eq_true rfl) (Nat.zero_le _) (Nat.zero_le _) (fun r9 hr9 => ?_)
    refine cv_norm [k_Devices (ad 15) (ad 16) (ad 17) dvL, k_Interrupts (ad 16) r9, k_Serial (ad 17) (ad 18) (ad 20) (ad 22) srv, k_ByteQueue (ad 20) (ad 21) sqv, k_arr (ad 21) (ca 11) 8 sqB] rfl ?_
    refine cv_goto K d_Devices_store_149 164 rfl ?_
    exact cv_retv K hm d_Devices_store_164 ((dvL, r9, srv, sqv, sqB)) (by rw [p_Devices_store, if_neg (c := k = (0 : Int32)) h1, if_neg (c := k = (1 : Int32)) h2, if_neg (c := k = (2 : Int32)) h3, if_neg (c := k = (3 : Int32)) h4, if_neg (c := k = (4 : Int32)) h5, if_neg (c := k = (5 : Int32)) h6, if_neg (c := k = (6 : Int32)) h7, if_neg (c := k = (7 : Int32)) h8, if_pos (c := k = (8 : Int32)) h9, ← hr9, p_Devices_store_9]) rfl
  by_cases h10 : k = (12 : Int32)
  · refine cv_tab K d_Devices_store_1 152 h10 151 (by decide +kernel) rfl ?_
    refine cv_aload_n K 0 d_Devices_store_152 rfl rfl ?_
    refine cv_get K d_Devices_store_153 0 1 rfl rfl in_Devices (by decide) tm_174 rfl ?_
    refine cv_iload_n K 1 d_Devices_store_156 rfl rfl ?_
    refine cv_iload_n K 2 d_Devices_store_157 rfl rfl ?_
    refine cv_callVv K (m_Serial_store l dC dI tys ad ca n htys srv sqv sqB k x) d_Devices_store_158 (cw_V (n := 2) K.2.2.2.2.1 tm_555 tm_556 tm_557 tm_6 tm_558 rfl rfl ⟨rfl, wd_of (by decide +kernel) (by decide +kernel)⟩ ⟨Nat.le_of_ble_eq_true rfl, Nat.le_of_ble_eq_true rfl⟩) 2 rfl rfl [2, 3, 4] rfl rfl (fun _ => rfl) rfl rfl (Nat.le_of_ble_eq_true rfl) (Nat.zero_le _) (Nat.zero_le _) (fun r10 hr10 => ?_)
    refine cv_norm [k_Devices (ad 15) (ad 16) (ad 17) dvL, k_Interrupts (ad 16) itv, k_Serial (ad 17) (ad 18) (ad 20) (ad 22) r10.1, k_ByteQueue (ad 20) (ad 21) r10.2.1, k_arr (ad 21) (ca 11) 8 r10.2.2] rfl ?_
    refine cv_goto K d_Devices_store_161 164 rfl ?_
    exact cv_retv K hm d_Devices_store_164 ((dvL, itv, r10.1, r10.2.1, r10.2.2)) (by rw [p_Devices_store, if_neg (c := k = (0 : Int32)) h1, if_neg (c := k = (1 : Int32)) h2, if_neg (c := k = (2 : Int32)) h3, if_neg (c := k = (3 : Int32)) h4, if_neg (c := k = (4 : Int32)) h5, if_neg (c := k = (5 : Int32)) h6, if_neg (c := k = (6 : Int32)) h7, if_neg (c := k = (7 : Int32)) h8, if_neg (c := k = (8 : Int32)) h9, if_pos (c := k = (12 : Int32)) h10, ← hr10, p_Devices_store_10]) rfl
  by_cases h11 : k = (13 : Int32)
  · refine cv_tab K d_Devices_store_1 152 h11 151 (by decide +kernel) rfl ?_
    refine cv_aload_n K 0 d_Devices_store_152 rfl rfl ?_
    refine cv_get K d_Devices_store_153 0 1 rfl rfl in_Devices (by decide) tm_174 rfl ?_
    refine cv_iload_n K 1 d_Devices_store_156 rfl rfl ?_
    refine cv_iload_n K 2 d_Devices_store_157 rfl rfl ?_
    refine cv_callVv K (m_Serial_store l dC dI tys ad ca n htys srv sqv sqB k x) d_Devices_store_158 (cw_V (n := 2) K.2.2.2.2.1 tm_555 tm_556 tm_557 tm_6 tm_558 rfl rfl ⟨rfl, wd_of (by decide +kernel) (by decide +kernel)⟩ ⟨Nat.le_of_ble_eq_true rfl, Nat.le_of_ble_eq_true rfl⟩) 2 rfl rfl [2, 3, 4] rfl rfl (fun _ => rfl) rfl rfl (Nat.le_of_ble_eq_true rfl) (Nat.zero_le _) (Nat.zero_le _) (fun r11 hr11 => ?_)
    refine cv_norm [k_Devices (ad 15) (ad 16) (ad 17) dvL, k_Interrupts (ad 16) itv, k_Serial (ad 17) (ad 18) (ad 20) (ad 22) r11.1, k_ByteQueue (ad 20) (ad 21) r11.2.1, k_arr (ad 21) (ca 11) 8 r11.2.2] rfl ?_
    refine cv_goto K d_Devices_store_161 164 rfl ?_
    exact cv_retv K hm d_Devices_store_164 ((dvL, itv, r11.1, r11.2.1, r11.2.2)) (by rw [p_Devices_store, if_neg (c := k = (0 : Int32)) h1, if_neg (c := k = (1 : Int32)) h2, if_neg (c := k = (2 : Int32)) h3, if_neg (c := k = (3 : Int32)) h4, if_neg (c := k = (4 : Int32)) h5, if_neg (c := k = (5 : Int32)) h6, if_neg (c := k = (6 : Int32)) h7, if_neg (c := k = (7 : Int32)) h8, if_neg (c := k = (8 : Int32)) h9, if_neg (c := k = (12 : Int32)) h10, if_pos (c := k = (13 : Int32)) h11, ← hr11, p_Devices_store_11]) rfl
  by_cases h12 : k = (14 : Int32)
  · refine cv_tab K d_Devices_store_1 152 h12 151 (by decide +kernel) rfl ?_
    refine cv_aload_n K 0 d_Devices_store_152 rfl rfl ?_
    refine cv_get K d_Devices_store_153 0 1 rfl rfl in_Devices (by decide) tm_174 rfl ?_
    refine cv_iload_n K 1 d_Devices_store_156 rfl rfl ?_
    refine cv_iload_n K 2 d_Devices_store_157 rfl rfl ?_
    refine cv_callVv K (m_Serial_store l dC dI tys ad ca n htys srv sqv sqB k x) d_Devices_store_158 (cw_V (n := 2) K.2.2.2.2.1 tm_555 tm_556 tm_557 tm_6 tm_558 rfl rfl ⟨rfl, wd_of (by decide +kernel) (by decide +kernel)⟩ ⟨Nat.le_of_ble_eq_true rfl, Nat.le_of_ble_eq_true rfl⟩) 2 rfl rfl [2, 3, 4] rfl rfl (fun _ => rfl) rfl rfl (Nat.le_of_ble_eq_true rfl) (Nat.zero_le _) (Nat.zero_le _) (fun r12 hr12 => ?_)
    refine cv_norm [k_Devices (ad 15) (ad 16) (ad 17) dvL, k_Interrupts (ad 16) itv, k_Serial (ad 17) (ad 18) (ad 20) (ad 22) r12.1, k_ByteQueue (ad 20) (ad 21) r12.2.1, k_arr (ad 21) (ca 11) 8 r12.2.2] rfl ?_
    refine cv_goto K d_Devices_store_161 164 rfl ?_
    exact cv_retv K hm d_Devices_store_164 ((dvL, itv, r12.1, r12.2.1, r12.2.2)) (by rw [p_Devices_store, if_neg (c := k = (0 : Int32)) h1, if_neg (c := k = (1 : Int32)) h2, if_neg (c := k = (2 : Int32)) h3, if_neg (c := k = (3 : Int32)) h4, if_neg (c := k = (4 : Int32)) h5, if_neg (c := k = (5 : Int32)) h6, if_neg (c := k = (6 : Int32)) h7, if_neg (c := k = (7 : Int32)) h8, if_neg (c := k = (8 : Int32)) h9, if_neg (c := k = (12 : Int32)) h10, if_neg (c := k = (13 : Int32)) h11, if_pos (c := k = (14 : Int32)) h12, ← hr12, p_Devices_store_12]) rfl
  by_cases h13 : k = (15 : Int32)
  · refine cv_tab K d_Devices_store_1 152 h13 151 (by decide +kernel) rfl ?_
    refine cv_aload_n K 0 d_Devices_store_152 rfl rfl ?_
    refine cv_get K d_Devices_store_153 0 1 rfl rfl in_Devices (by decide) tm_174 rfl ?_
    refine cv_iload_n K 1 d_Devices_store_156 rfl rfl ?_
    refine cv_iload_n K 2 d_Devices_store_157 rfl rfl ?_
    refine cv_callVv K (m_Serial_store l dC dI tys ad ca n htys srv sqv sqB k x) d_Devices_store_158 (cw_V (n := 2) K.2.2.2.2.1 tm_555 tm_556 tm_557 tm_6 tm_558 rfl rfl ⟨rfl, wd_of (by decide +kernel) (by decide +kernel)⟩ ⟨Nat.le_of_ble_eq_true rfl, Nat.le_of_ble_eq_true rfl⟩) 2 rfl rfl [2, 3, 4] rfl rfl (fun _ => rfl) rfl rfl (Nat.le_of_ble_eq_true rfl) (Nat.zero_le _) (Nat.zero_le _) (fun r13 hr13 => ?_)
    refine cv_norm [k_Devices (ad 15) (ad 16) (ad 17) dvL, k_Interrupts (ad 16) itv, k_Serial (ad 17) (ad 18) (ad 20) (ad 22) r13.1, k_ByteQueue (ad 20) (ad 21) r13.2.1, k_arr (ad 21) (ca 11) 8 r13.2.2] rfl ?_
    refine cv_goto K d_Devices_store_161 164 rfl ?_
    exact cv_retv K hm d_Devices_store_164 ((dvL, itv, r13.1, r13.2.1, r13.2.2)) (by rw [p_Devices_store, if_neg (c := k = (0 : Int32)) h1, if_neg (c := k = (1 : Int32)) h2, if_neg (c := k = (2 : Int32)) h3, if_neg (c := k = (3 : Int32)) h4, if_neg (c := k = (4 : Int32)) h5, if_neg (c := k = (5 : Int32)) h6, if_neg (c := k = (6 : Int32)) h7, if_neg (c := k = (7 : Int32)) h8, if_neg (c := k = (8 : Int32)) h9, if_neg (c := k = (12 : Int32)) h10, if_neg (c := k = (13 : Int32)) h11, if_neg (c := k = (14 : Int32)) h12, if_pos (c := k = (15 : Int32)) h13, ← hr13, p_Devices_store_13]) rfl
  refine cv_tabD K d_Devices_store_1 164 (by
      have zh1 := j_ne 0 h1 (by decide +kernel); have zh2 := j_ne 1 h2 (by decide +kernel); have zh3 := j_ne 2 h3 (by decide +kernel); have zh4 := j_ne 3 h4 (by decide +kernel); have zh5 := j_ne 4 h5 (by decide +kernel); have zh6 := j_ne 5 h6 (by decide +kernel); have zh7 := j_ne 6 h7 (by decide +kernel); have zh8 := j_ne 7 h8 (by decide +kernel); have zh9 := j_ne 8 h9 (by decide +kernel); have zh10 := j_ne 12 h10 (by decide +kernel); have zh11 := j_ne 13 h11 (by decide +kernel); have zh12 := j_ne 14 h12 (by decide +kernel); have zh13 := j_ne 15 h13 (by decide +kernel); 
      by_cases hlo : k.toInt < 0 ∨ 15 < k.toInt
      · exact Or.inl hlo
      · have hq : k.toInt = 9 ∨ k.toInt = 10 ∨ k.toInt = 11 := by omega
        rcases hq with hz | hz | hz <;> (rw [hz]; exact Or.inr rfl)) rfl ?_
  exact cv_retv K hm d_Devices_store_164 ((dvL, itv, srv, sqv, sqB)) (by rw [p_Devices_store, if_neg (c := k = (0 : Int32)) h1, if_neg (c := k = (1 : Int32)) h2, if_neg (c := k = (2 : Int32)) h3, if_neg (c := k = (3 : Int32)) h4, if_neg (c := k = (4 : Int32)) h5, if_neg (c := k = (5 : Int32)) h6, if_neg (c := k = (6 : Int32)) h7, if_neg (c := k = (7 : Int32)) h8, if_neg (c := k = (8 : Int32)) h9, if_neg (c := k = (12 : Int32)) h10, if_neg (c := k = (13 : Int32)) h11, if_neg (c := k = (14 : Int32)) h12, if_neg (c := k = (15 : Int32)) h13]) rfl
-- CycleChip$Events.add(III)Z
def p_Events_add (evv : Nat → Int32) (evD : Nat → Int32) (evW : Nat → Int32) (evV : Nat → Int32) (k : Int32) (x : Int32) (y : Int32) : Int32 × (Nat → Int32) × (Nat → Int32) × (Nat → Int32) × (Nat → Int32) := if (evv 0) < (16 : Int32) then ((1 : Int32), (upd evv 0 ((evv 0) + (1 : Int32))), (upd evD ((evv 0).toNatClampNeg) k), (upd evW ((evv 0).toNatClampNeg) x), (upd evV ((evv 0).toNatClampNeg) y)) else ((0 : Int32), evv, evD, evW, evV)
set_option maxRecDepth 100000 in
set_option maxHeartbeats 4000000 in
theorem m_Events_add (l : Launch) (dC : Nat → ClassId) (dI : Nat → Nat → Nat) (tys : List (ClassId × FieldType)) (ad : Nat → Nat) (ca : Nat → ClassId) (n : Nat) (htys : ∀ k, k < 17 → tys[k]? = some (ca k, .int)) (evv : Nat → Int32) (evD : Nat → Int32) (evW : Nat → Int32) (evV : Nat → Int32) (k : Int32) (x : Int32) (y : Int32) (hec : ∃ k : Nat, k ≤ 16 ∧ evv 0 = nI k) : cv_Mz l y_Events_add (Cond.code y_Events_add c_Events_add 4 (some .boolean) :: gw) { frames := 0, cells := 0, slots := 0, locals := 0 } (dC, dI) vwCl tys [.ref (ad 11), .int k, .int x, .int y] [k_Events (ad 11) (ad 12) (ad 13) (ad 14) evv, k_arr (ad 12) (ca 7) 16 evD, k_arr (ad 13) (ca 8) 16 evW, k_arr (ad 14) (ca 9) 16 evV] (p_Events_add evv evD evW evV k x y) (fun r => r.1) (fun r => [k_Events (ad 11) (ad 12) (ad 13) (ad 14) r.2.1, k_arr (ad 12) (ca 7) 16 r.2.2.1, k_arr (ad 13) (ca 8) 16 r.2.2.2.1, k_arr (ad 14) (ca 9) 16 r.2.2.2.2]) := by
  refine cv_startz (by decide) (Nat.le_of_ble_eq_true rfl) [(0, .ref (ad 11)), (1, .int k), (2, .int x), (3, .int y)] rfl ?_
  intro p e s m below meth c A K hm
  refine cv_aload_n K 0 d_Events_add_0 rfl rfl ?_
  refine cv_get K d_Events_add_1 0 3 rfl rfl in_Events (by decide) tm_56 rfl ?_
  refine cv_bipush (v := 16) K d_Events_add_4 (by decide +kernel) ?_
  refine cv_icmp_lt K d_Events_add_6 11 rfl (fun h1 => ?_) (fun h1 => ?_)
  · refine cv_aload_n K 0 d_Events_add_11 rfl rfl ?_
    refine cv_get K d_Events_add_12 0 0 rfl rfl in_Events (by decide) tm_53 rfl ?_
    refine cv_aload_n K 0 d_Events_add_15 rfl rfl ?_
    refine cv_get K d_Events_add_16 0 3 rfl rfl in_Events (by decide) tm_56 rfl ?_
    refine cv_iload_n K 1 d_Events_add_19 rfl rfl ?_
    refine cv_iast K d_Events_add_20 [k_Events (ad 11) (ad 12) (ad 13) (ad 14) evv, k_arr (ad 12) (ca 7) 16 (upd evD ((evv 0).toNatClampNeg) k), k_arr (ad 13) (ca 8) 16 evW, k_arr (ad 14) (ca 9) 16 evV] 1 7 rfl (htys 7 (by decide)) (ix_16c hec h1) rfl ?_
    refine cv_aload_n K 0 d_Events_add_21 rfl rfl ?_
    refine cv_get K d_Events_add_22 0 1 rfl rfl in_Events (by decide) tm_54 rfl ?_
    refine cv_aload_n K 0 d_Events_add_25 rfl rfl ?_
    refine cv_get K d_Events_add_26 0 3 rfl rfl in_Events (by decide) tm_56 rfl ?_
    refine cv_iload_n K 2 d_Events_add_29 rfl rfl ?_
    refine cv_iast K d_Events_add_30 [k_Events (ad 11) (ad 12) (ad 13) (ad 14) evv, k_arr (ad 12) (ca 7) 16 (upd evD ((evv 0).toNatClampNeg) k), k_arr (ad 13) (ca 8) 16 (upd evW ((evv 0).toNatClampNeg) x), k_arr (ad 14) (ca 9) 16 evV] 2 8 rfl (htys 8 (by decide)) (ix_16c hec h1) rfl ?_
    refine cv_aload_n K 0 d_Events_add_31 rfl rfl ?_
    refine cv_get K d_Events_add_32 0 2 rfl rfl in_Events (by decide) tm_55 rfl ?_
    refine cv_aload_n K 0 d_Events_add_35 rfl rfl ?_
    refine cv_get K d_Events_add_36 0 3 rfl rfl in_Events (by decide) tm_56 rfl ?_
    refine cv_iload_n K 3 d_Events_add_39 rfl rfl ?_
    refine cv_iast K d_Events_add_40 [k_Events (ad 11) (ad 12) (ad 13) (ad 14) evv, k_arr (ad 12) (ca 7) 16 (upd evD ((evv 0).toNatClampNeg) k), k_arr (ad 13) (ca 8) 16 (upd evW ((evv 0).toNatClampNeg) x), k_arr (ad 14) (ca 9) 16 (upd evV ((evv 0).toNatClampNeg) y)] 3 9 rfl (htys 9 (by decide)) (ix_16c hec h1) rfl ?_
    refine cv_aload_n K 0 d_Events_add_41 rfl rfl ?_
    refine cv_dup K d_Events_add_42 rfl ?_
    refine cv_get K d_Events_add_43 0 3 rfl rfl in_Events (by decide) tm_56 rfl ?_
    refine cv_iconst (v := 1) K d_Events_add_46 rfl ?_
    refine cv_iadd K d_Events_add_47 ?_
    refine cv_put K d_Events_add_48 [k_Events (ad 11) (ad 12) (ad 13) (ad 14) (upd evv 0 ((evv 0) + (1 : Int32))), k_arr (ad 12) (ca 7) 16 (upd evD ((evv 0).toNatClampNeg) k), k_arr (ad 13) (ca 8) 16 (upd evW ((evv 0).toNatClampNeg) x), k_arr (ad 14) (ca 9) 16 (upd evV ((evv 0).toNatClampNeg) y)] 0 3 rfl rfl in_Events t_Events o_Events n_Events (by decide) tm_56 rfl rfl rfl (Nat.le_of_ble_eq_true rfl) rfl ?_
    refine cv_iconst (v := 1) K d_Events_add_51 rfl ?_
    exact cv_retz K hm d_Events_add_52 (((1 : Int32), (upd evv 0 ((evv 0) + (1 : Int32))), (upd evD ((evv 0).toNatClampNeg) k), (upd evW ((evv 0).toNatClampNeg) x), (upd evV ((evv 0).toNatClampNeg) y))) (by rw [p_Events_add, if_pos (c := (evv 0) < (16 : Int32)) h1]) rfl rfl rfl
  · refine cv_iconst (v := 0) K d_Events_add_9 rfl ?_
    exact cv_retz K hm d_Events_add_10 (((0 : Int32), evv, evD, evW, evV)) (by rw [p_Events_add, if_neg (c := (evv 0) < (16 : Int32)) h1]) rfl rfl rfl
-- CycleChip$Events.happen(ILCycleChip$Devices;)V
def p_Events_happen_1 (evv : Nat → Int32) (evD : Nat → Int32) (evW : Nat → Int32) (evV : Nat → Int32) (dvL : Nat → Int64) (itv : Nat → Int32) (srv : Nat → Int32) (rqv : Nat → Int32) (rqB : Nat → Int32) (k : Int32) (j_ : Int32) (i_ : Int32) (evD_ : Nat → Int32) (evW_ : Nat → Int32) (evV_ : Nat → Int32) (itv_ : Nat → Int32) (srv_ : Nat → Int32) (rqv_ : Nat → Int32) (rqB_ : Nat → Int32) (go : (Int32) → (Int32) → (Nat → Int32) → (Nat → Int32) → (Nat → Int32) → (Nat → Int32) → (Nat → Int32) → (Nat → Int32) → (Nat → Int32) → (Nat → Int32) × (Nat → Int32) × (Nat → Int32) × (Nat → Int32) × (Nat → Int32) × (Nat → Int32) × (Nat → Int32) × (Nat → Int32)) (r1 : (Nat → Int32) × (Nat → Int32) × (Nat → Int32) × (Nat → Int32)) : (Nat → Int32) × (Nat → Int32) × (Nat → Int32) × (Nat → Int32) × (Nat → Int32) × (Nat → Int32) × (Nat → Int32) × (Nat → Int32) := go j_ (i_ + (1 : Int32)) evD_ evW_ evV_ r1.1 r1.2.1 r1.2.2.1 r1.2.2.2
def p_Events_happen_L (evv : Nat → Int32) (evD : Nat → Int32) (evW : Nat → Int32) (evV : Nat → Int32) (dvL : Nat → Int64) (itv : Nat → Int32) (srv : Nat → Int32) (rqv : Nat → Int32) (rqB : Nat → Int32) (k : Int32) : Nat → (Int32) → (Int32) → (Nat → Int32) → (Nat → Int32) → (Nat → Int32) → (Nat → Int32) → (Nat → Int32) → (Nat → Int32) → (Nat → Int32) → (Nat → Int32) × (Nat → Int32) × (Nat → Int32) × (Nat → Int32) × (Nat → Int32) × (Nat → Int32) × (Nat → Int32) × (Nat → Int32)
  | 0, j_, i_, evD_, evW_, evV_, itv_, srv_, rqv_, rqB_ => (evv, evD_, evW_, evV_, itv_, srv_, rqv_, rqB_)
  | fu + 1, j_, i_, evD_, evW_, evV_, itv_, srv_, rqv_, rqB_ => if (evv 0) ≤ i_ then ((upd evv 0 j_), evD_, evW_, evV_, itv_, srv_, rqv_, rqB_) else if (evD_ i_.toNatClampNeg) = k then p_Events_happen_1 evv evD evW evV dvL itv srv rqv rqB k j_ i_ evD_ evW_ evV_ itv_ srv_ rqv_ rqB_ (fun j_ i_ evD_ evW_ evV_ itv_ srv_ rqv_ rqB_ => p_Events_happen_L evv evD evW evV dvL itv srv rqv rqB k fu j_ i_ evD_ evW_ evV_ itv_ srv_ rqv_ rqB_) (p_Devices_happen dvL itv_ srv_ rqv_ rqB_ (evW_ i_.toNatClampNeg) (evV_ i_.toNatClampNeg)) else (fun j_ i_ evD_ evW_ evV_ itv_ srv_ rqv_ rqB_ => p_Events_happen_L evv evD evW evV dvL itv srv rqv rqB k fu j_ i_ evD_ evW_ evV_ itv_ srv_ rqv_ rqB_) (j_ + (1 : Int32)) (i_ + (1 : Int32)) (upd evD_ j_.toNatClampNeg (evD_ i_.toNatClampNeg)) (upd evW_ j_.toNatClampNeg (evW_ i_.toNatClampNeg)) (upd evV_ j_.toNatClampNeg (evV_ i_.toNatClampNeg)) itv_ srv_ rqv_ rqB_
def p_Events_happen (evv : Nat → Int32) (evD : Nat → Int32) (evW : Nat → Int32) (evV : Nat → Int32) (dvL : Nat → Int64) (itv : Nat → Int32) (srv : Nat → Int32) (rqv : Nat → Int32) (rqB : Nat → Int32) (k : Int32) : (Nat → Int32) × (Nat → Int32) × (Nat → Int32) × (Nat → Int32) × (Nat → Int32) × (Nat → Int32) × (Nat → Int32) × (Nat → Int32) := p_Events_happen_L evv evD evW evV dvL itv srv rqv rqB k ((evv 0).toNatClampNeg + 1) (0 : Int32) (0 : Int32) evD evW evV itv srv rqv rqB
set_option maxRecDepth 100000 in
set_option maxHeartbeats 4000000 in
theorem m_Events_happen (l : Launch) (dC : Nat → ClassId) (dI : Nat → Nat → Nat) (tys : List (ClassId × FieldType)) (ad : Nat → Nat) (ca : Nat → ClassId) (n : Nat) (htys : ∀ k, k < 17 → tys[k]? = some (ca k, .int)) (evv : Nat → Int32) (evD : Nat → Int32) (evW : Nat → Int32) (evV : Nat → Int32) (dvL : Nat → Int64) (itv : Nat → Int32) (srv : Nat → Int32) (rqv : Nat → Int32) (rqB : Nat → Int32) (k : Int32) (hec : ∃ k : Nat, k ≤ 16 ∧ evv 0 = nI k) : cv_Mv l y_Events_happen (Cond.code y_Events_happen c_Events_happen 5 (none) :: gw) { frames := 4, cells := 0, slots := 0, locals := 84 } (dC, dI) vwCl tys [.ref (ad 11), .int k, .ref (ad 15)] [k_Events (ad 11) (ad 12) (ad 13) (ad 14) evv, k_arr (ad 12) (ca 7) 16 evD, k_arr (ad 13) (ca 8) 16 evW, k_arr (ad 14) (ca 9) 16 evV, k_Devices (ad 15) (ad 16) (ad 17) dvL, k_Interrupts (ad 16) itv, k_Serial (ad 17) (ad 18) (ad 20) (ad 22) srv, k_ByteQueue (ad 18) (ad 19) rqv, k_arr (ad 19) (ca 10) 8 rqB] (p_Events_happen evv evD evW evV dvL itv srv rqv rqB k) (fun r => [k_Events (ad 11) (ad 12) (ad 13) (ad 14) r.1, k_arr (ad 12) (ca 7) 16 r.2.1, k_arr (ad 13) (ca 8) 16 r.2.2.1, k_arr (ad 14) (ca 9) 16 r.2.2.2.1, k_Devices (ad 15) (ad 16) (ad 17) dvL, k_Interrupts (ad 16) r.2.2.2.2.1, k_Serial (ad 17) (ad 18) (ad 20) (ad 22) r.2.2.2.2.2.1, k_ByteQueue (ad 18) (ad 19) r.2.2.2.2.2.2.1, k_arr (ad 19) (ca 10) 8 r.2.2.2.2.2.2.2]) := by
  refine cv_startv (by decide) (Nat.le_of_ble_eq_true rfl) [(0, .ref (ad 11)), (1, .int k), (2, .ref (ad 15))] rfl ?_
  intro p e s m below meth c A K hm
  refine cv_iconst (v := 0) K d_Events_happen_0 rfl ?_
  refine cv_istore_n K d_Events_happen_1 [(3, .int (0 : Int32)), (0, .ref (ad 11)), (1, .int k), (2, .ref (ad 15))] rfl (by decide) rfl ?_
  refine cv_iconst (v := 0) K d_Events_happen_2 rfl ?_
  refine cv_istore K d_Events_happen_3 [(4, .int (0 : Int32)), (3, .int (0 : Int32)), (0, .ref (ad 11)), (1, .int k), (2, .ref (ad 15))] (by decide) rfl ?_
  have loop : ∀ (fu : Nat) (j_ : Int32) (i_ : Int32) (evD_ : Nat → Int32) (evW_ : Nat → Int32) (evV_ : Nat → Int32) (itv_ : Nat → Int32) (srv_ : Nat → Int32) (rqv_ : Nat → Int32) (rqB_ : Nat → Int32) (i : Nat) (j : Nat) (hi : i_ = nI i) (hj : j_ = nI j) (hmm : i + fu = (evv 0).toNatClampNeg + 1 ∧ i ≤ (evv 0).toNatClampNeg ∧ j ≤ i), (p_Events_happen evv evD evW evV dvL itv srv rqv rqB k) = p_Events_happen_L evv evD evW evV dvL itv srv rqv rqB k fu j_ i_ evD_ evW_ evV_ itv_ srv_ rqv_ rqB_ → cv_V p l e { frames := 4, cells := 0, slots := 0, locals := 84 } s m ([.ref (ad 11), .int k, .ref (ad 15)] : List Value).toArray below meth c 0 0 (MQ below (cv_Qv (dC, dI) vwCl tys A (p_Events_happen evv evD evW evV dvL itv srv rqv rqB k) (fun r => [k_Events (ad 11) (ad 12) (ad 13) (ad 14) r.1, k_arr (ad 12) (ca 7) 16 r.2.1, k_arr (ad 13) (ca 8) 16 r.2.2.1, k_arr (ad 14) (ca 9) 16 r.2.2.2.1, k_Devices (ad 15) (ad 16) (ad 17) dvL, k_Interrupts (ad 16) r.2.2.2.2.1, k_Serial (ad 17) (ad 18) (ad 20) (ad 22) r.2.2.2.2.2.1, k_ByteQueue (ad 18) (ad 19) r.2.2.2.2.2.2.1, k_arr (ad 19) (ca 10) 8 r.2.2.2.2.2.2.2])) ([.ref (ad 11), .int k, .ref (ad 15)] : List Value).toArray s 0 0 A) 5 (dC, dI) vwCl A 5 [(0, .ref (ad 11)), (1, .int k), (2, .ref (ad 15)), (3, .int j_), (4, .int i_)] [] [k_Events (ad 11) (ad 12) (ad 13) (ad 14) evv, k_arr (ad 12) (ca 7) 16 evD_, k_arr (ad 13) (ca 8) 16 evW_, k_arr (ad 14) (ca 9) 16 evV_, k_Devices (ad 15) (ad 16) (ad 17) dvL, k_Interrupts (ad 16) itv_, k_Serial (ad 17) (ad 18) (ad 20) (ad 22) srv_, k_ByteQueue (ad 18) (ad 19) rqv_, k_arr (ad 19) (ca 10) 8 rqB_] := by
    intro fu
    induction fu with
    | zero => intro j_ i_ evD_ evW_ evV_ itv_ srv_ rqv_ rqB_ i j hi hj hmm hE; exact absurd hmm (by omega)
    | succ fu ih =>
      intro j_ i_ evD_ evW_ evV_ itv_ srv_ rqv_ rqB_ i j hi hj hmm hE
      refine cv_iload K 4 d_Events_happen_5 rfl ?_
      refine cv_aload_n K 0 d_Events_happen_7 rfl rfl ?_
      refine cv_get K d_Events_happen_8 0 3 rfl rfl in_Events (by decide) tm_56 rfl ?_
      refine cv_icmp_ge K d_Events_happen_11 94 rfl (fun h1 => ?_) (fun h1 => ?_)
      · refine cv_aload_n K 0 d_Events_happen_94 rfl rfl ?_
        refine cv_iload_n K 3 d_Events_happen_95 rfl rfl ?_
        refine cv_put K d_Events_happen_96 [k_Events (ad 11) (ad 12) (ad 13) (ad 14) (upd evv 0 j_), k_arr (ad 12) (ca 7) 16 evD_, k_arr (ad 13) (ca 8) 16 evW_, k_arr (ad 14) (ca 9) 16 evV_, k_Devices (ad 15) (ad 16) (ad 17) dvL, k_Interrupts (ad 16) itv_, k_Serial (ad 17) (ad 18) (ad 20) (ad 22) srv_, k_ByteQueue (ad 18) (ad 19) rqv_, k_arr (ad 19) (ca 10) 8 rqB_] 0 3 rfl rfl in_Events t_Events o_Events n_Events (by decide) tm_56 rfl rfl rfl (Nat.le_of_ble_eq_true rfl) rfl ?_
        exact cv_retv K hm d_Events_happen_99 (((upd evv 0 j_), evD_, evW_, evV_, itv_, srv_, rqv_, rqB_)) (hE.trans (by rw [p_Events_happen_L, if_pos (c := (evv 0) ≤ i_) h1])) rfl
      · refine cv_aload_n K 0 d_Events_happen_14 rfl rfl ?_
        refine cv_get K d_Events_happen_15 0 0 rfl rfl in_Events (by decide) tm_53 rfl ?_
        refine cv_iload K 4 d_Events_happen_18 rfl ?_
        refine cv_iald K d_Events_happen_20 1 7 rfl (htys 7 (by decide)) (ec_in hec hi hi hmm.2.1 (Nat.le_refl _) h1) ?_
        refine cv_iload_n K 1 d_Events_happen_21 rfl rfl ?_
        refine cv_icmp_ne K d_Events_happen_22 46 rfl (fun h2 => ?_) (fun h2 => ?_)
        · refine cv_aload_n K 0 d_Events_happen_46 rfl rfl ?_
          refine cv_get K d_Events_happen_47 0 0 rfl rfl in_Events (by decide) tm_53 rfl ?_
          refine cv_iload_n K 3 d_Events_happen_50 rfl rfl ?_
          refine cv_aload_n K 0 d_Events_happen_51 rfl rfl ?_
          refine cv_get K d_Events_happen_52 0 0 rfl rfl in_Events (by decide) tm_53 rfl ?_
          refine cv_iload K 4 d_Events_happen_55 rfl ?_
          refine cv_iald K d_Events_happen_57 1 7 rfl (htys 7 (by decide)) (ec_in hec hi hi hmm.2.1 (Nat.le_refl _) h1) ?_
          refine cv_iast K d_Events_happen_58 [k_Events (ad 11) (ad 12) (ad 13) (ad 14) evv, k_arr (ad 12) (ca 7) 16 (upd evD_ j_.toNatClampNeg (evD_ i_.toNatClampNeg)), k_arr (ad 13) (ca 8) 16 evW_, k_arr (ad 14) (ca 9) 16 evV_, k_Devices (ad 15) (ad 16) (ad 17) dvL, k_Interrupts (ad 16) itv_, k_Serial (ad 17) (ad 18) (ad 20) (ad 22) srv_, k_ByteQueue (ad 18) (ad 19) rqv_, k_arr (ad 19) (ca 10) 8 rqB_] 1 7 rfl (htys 7 (by decide)) (ec_in hec hi hj hmm.2.1 hmm.2.2 h1) rfl ?_
          refine cv_aload_n K 0 d_Events_happen_59 rfl rfl ?_
          refine cv_get K d_Events_happen_60 0 1 rfl rfl in_Events (by decide) tm_54 rfl ?_
          refine cv_iload_n K 3 d_Events_happen_63 rfl rfl ?_
          refine cv_aload_n K 0 d_Events_happen_64 rfl rfl ?_
          refine cv_get K d_Events_happen_65 0 1 rfl rfl in_Events (by decide) tm_54 rfl ?_
          refine cv_iload K 4 d_Events_happen_68 rfl ?_
          refine cv_iald K d_Events_happen_70 2 8 rfl (htys 8 (by decide)) (ec_in hec hi hi hmm.2.1 (Nat.le_refl _) h1) ?_
          refine cv_iast K d_Events_happen_71 [k_Events (ad 11) (ad 12) (ad 13) (ad 14) evv, k_arr (ad 12) (ca 7) 16 (upd evD_ j_.toNatClampNeg (evD_ i_.toNatClampNeg)), k_arr (ad 13) (ca 8) 16 (upd evW_ j_.toNatClampNeg (evW_ i_.toNatClampNeg)), k_arr (ad 14) (ca 9) 16 evV_, k_Devices (ad 15) (ad 16) (ad 17) dvL, k_Interrupts (ad 16) itv_, k_Serial (ad 17) (ad 18) (ad 20) (ad 22) srv_, k_ByteQueue (ad 18) (ad 19) rqv_, k_arr (ad 19) (ca 10) 8 rqB_] 2 8 rfl (htys 8 (by decide)) (ec_in hec hi hj hmm.2.1 hmm.2.2 h1) rfl ?_
          refine cv_aload_n K 0 d_Events_happen_72 rfl rfl ?_
          refine cv_get K d_Events_happen_73 0 2 rfl rfl in_Events (by decide) tm_55 rfl ?_
          refine cv_iload_n K 3 d_Events_happen_76 rfl rfl ?_
          refine cv_aload_n K 0 d_Events_happen_77 rfl rfl ?_
          refine cv_get K d_Events_happen_78 0 2 rfl rfl in_Events (by decide) tm_55 rfl ?_
          refine cv_iload K 4 d_Events_happen_81 rfl ?_
          refine cv_iald K d_Events_happen_83 3 9 rfl (htys 9 (by decide)) (ec_in hec hi hi hmm.2.1 (Nat.le_refl _) h1) ?_
          refine cv_iast K d_Events_happen_84 [k_Events (ad 11) (ad 12) (ad 13) (ad 14) evv, k_arr (ad 12) (ca 7) 16 (upd evD_ j_.toNatClampNeg (evD_ i_.toNatClampNeg)), k_arr (ad 13) (ca 8) 16 (upd evW_ j_.toNatClampNeg (evW_ i_.toNatClampNeg)), k_arr (ad 14) (ca 9) 16 (upd evV_ j_.toNatClampNeg (evV_ i_.toNatClampNeg)), k_Devices (ad 15) (ad 16) (ad 17) dvL, k_Interrupts (ad 16) itv_, k_Serial (ad 17) (ad 18) (ad 20) (ad 22) srv_, k_ByteQueue (ad 18) (ad 19) rqv_, k_arr (ad 19) (ca 10) 8 rqB_] 3 9 rfl (htys 9 (by decide)) (ec_in hec hi hj hmm.2.1 hmm.2.2 h1) rfl ?_
          refine cv_iinc K d_Events_happen_85 [(3, .int (j_ + (1 : Int32))), (0, .ref (ad 11)), (1, .int k), (2, .ref (ad 15)), (4, .int i_)] 3 rfl rfl (by decide) rfl ?_
          refine cv_iinc K d_Events_happen_88 [(4, .int (i_ + (1 : Int32))), (3, .int (j_ + (1 : Int32))), (0, .ref (ad 11)), (1, .int k), (2, .ref (ad 15))] 4 rfl rfl (by decide) rfl ?_
          refine cv_goto K d_Events_happen_91 5 rfl ?_
          refine cv_loc [2, 3, 4, 1, 0] [(0, .ref (ad 11)), (1, .int k), (2, .ref (ad 15)), (3, .int (j_ + (1 : Int32))), (4, .int (i_ + (1 : Int32)))] rfl ?_
          exact ih (j_ + (1 : Int32)) (i_ + (1 : Int32)) (upd evD_ j_.toNatClampNeg (evD_ i_.toNatClampNeg)) (upd evW_ j_.toNatClampNeg (evW_ i_.toNatClampNeg)) (upd evV_ j_.toNatClampNeg (evV_ i_.toNatClampNeg)) itv_ srv_ rqv_ rqB_ (i + 1) (j + 1) (by rw [hi]; exact nI_1 i) (by rw [hj]; exact nI_1 j) (by have := ec_i hec hi hmm.2.1 h1; omega) (hE.trans (by rw [p_Events_happen_L, if_neg (c := (evv 0) ≤ i_) h1, if_neg (c := (evD_ i_.toNatClampNeg) = k) h2]))
        · refine cv_aload_n K 2 d_Events_happen_25 rfl rfl ?_
          refine cv_aload_n K 0 d_Events_happen_26 rfl rfl ?_
          refine cv_get K d_Events_happen_27 0 1 rfl rfl in_Events (by decide) tm_54 rfl ?_
          refine cv_iload K 4 d_Events_happen_30 rfl ?_
          refine cv_iald K d_Events_happen_32 2 8 rfl (htys 8 (by decide)) (ec_in hec hi hi hmm.2.1 (Nat.le_refl _) h1) ?_
          refine cv_aload_n K 0 d_Events_happen_33 rfl rfl ?_
          refine cv_get K d_Events_happen_34 0 2 rfl rfl in_Events (by decide) tm_55 rfl ?_
          refine cv_iload K 4 d_Events_happen_37 rfl ?_
          refine cv_iald K d_Events_happen_39 3 9 rfl (htys 9 (by decide)) (ec_in hec hi hi hmm.2.1 (Nat.le_refl _) h1) ?_
          refine cv_callVv K (m_Devices_happen l dC dI tys ad ca n htys dvL itv_ srv_ rqv_ rqB_ (evW_ i_.toNatClampNeg) (evV_ i_.toNatClampNeg)) d_Events_happen_40 (cw_V (n := 2) K.2.2.2.2.1 tm_469 tm_470 tm_471 tm_4 tm_472 rfl rfl ⟨rfl, wd_of (by decide +kernel) (by decide +kernel)⟩ ⟨Nat.le_of_ble_eq_true rfl, Nat.le_of_ble_eq_true rfl⟩) 4 rfl rfl [4, 5, 6, 7, 8] rfl rfl (fun _ => rfl) rfl rfl (Nat.le_of_ble_eq_true rfl) (Nat.zero_le _) (Nat.zero_le _) (fun r1 hr1 => ?_)
          refine cv_norm [k_Events (ad 11) (ad 12) (ad 13) (ad 14) evv, k_arr (ad 12) (ca 7) 16 evD_, k_arr (ad 13) (ca 8) 16 evW_, k_arr (ad 14) (ca 9) 16 evV_, k_Devices (ad 15) (ad 16) (ad 17) dvL, k_Interrupts (ad 16) r1.1, k_Serial (ad 17) (ad 18) (ad 20) (ad 22) r1.2.1, k_ByteQueue (ad 18) (ad 19) r1.2.2.1, k_arr (ad 19) (ca 10) 8 r1.2.2.2] rfl ?_
          refine cv_goto K d_Events_happen_43 88 rfl ?_
          refine cv_iinc K d_Events_happen_88 [(4, .int (i_ + (1 : Int32))), (0, .ref (ad 11)), (1, .int k), (2, .ref (ad 15)), (3, .int j_)] 4 rfl rfl (by decide) rfl ?_
          refine cv_goto K d_Events_happen_91 5 rfl ?_
          refine cv_loc [1, 2, 3, 4, 0] [(0, .ref (ad 11)), (1, .int k), (2, .ref (ad 15)), (3, .int j_), (4, .int (i_ + (1 : Int32)))] rfl ?_
          exact ih j_ (i_ + (1 : Int32)) evD_ evW_ evV_ r1.1 r1.2.1 r1.2.2.1 r1.2.2.2 (i + 1) j (by rw [hi]; exact nI_1 i) hj (by have := ec_i hec hi hmm.2.1 h1; omega) (hE.trans (by rw [p_Events_happen_L, if_neg (c := (evv 0) ≤ i_) h1, if_pos (c := (evD_ i_.toNatClampNeg) = k) h2, ← hr1, p_Events_happen_1]))
  refine cv_loc [2, 3, 4, 1, 0] [(0, .ref (ad 11)), (1, .int k), (2, .ref (ad 15)), (3, .int (0 : Int32)), (4, .int (0 : Int32))] rfl ?_
  exact loop ((evv 0).toNatClampNeg + 1) (0 : Int32) (0 : Int32) evD evW evV itv srv rqv rqB 0 0 rfl rfl (by omega) (by rw [p_Events_happen])
-- CycleChip$Bus.want(II)V
def p_Bus_want (bsv : Nat → Int32) (k : Int32) (x : Int32) : (Nat → Int32) := (upd (upd bsv 1 k) 2 x)
set_option maxRecDepth 100000 in
set_option maxHeartbeats 4000000 in
theorem m_Bus_want (l : Launch) (dC : Nat → ClassId) (dI : Nat → Nat → Nat) (tys : List (ClassId × FieldType)) (ad : Nat → Nat) (ca : Nat → ClassId) (n : Nat) (htys : ∀ k, k < 17 → tys[k]? = some (ca k, .int)) (bsv : Nat → Int32) (k : Int32) (x : Int32)  : cv_Mv l y_Bus_want (Cond.code y_Bus_want c_Bus_want 3 (none) :: gw) { frames := 0, cells := 0, slots := 0, locals := 0 } (dC, dI) vwCl tys [.ref (ad 25), .int k, .int x] [k_Bus (ad 25) (ad 1) (ad 2) (ad 5) (ad 8) bsv] (p_Bus_want bsv k x) (fun r => [k_Bus (ad 25) (ad 1) (ad 2) (ad 5) (ad 8) r]) := by
  refine cv_startv (by decide) (Nat.le_of_ble_eq_true rfl) [(0, .ref (ad 25)), (1, .int k), (2, .int x)] rfl ?_
  intro p e s m below meth c A K hm
  refine cv_aload_n K 0 d_Bus_want_0 rfl rfl ?_
  refine cv_iload_n K 1 d_Bus_want_1 rfl rfl ?_
  refine cv_put K d_Bus_want_2 [k_Bus (ad 25) (ad 1) (ad 2) (ad 5) (ad 8) (upd bsv 1 k)] 0 5 rfl rfl in_Bus t_Bus o_Bus n_Bus (by decide) tm_227 rfl rfl rfl (Nat.le_of_ble_eq_true rfl) rfl ?_
  refine cv_aload_n K 0 d_Bus_want_5 rfl rfl ?_
  refine cv_iload_n K 2 d_Bus_want_6 rfl rfl ?_
  refine cv_put K d_Bus_want_7 [k_Bus (ad 25) (ad 1) (ad 2) (ad 5) (ad 8) (upd (upd bsv 1 k) 2 x)] 0 6 rfl rfl in_Bus t_Bus o_Bus n_Bus (by decide) tm_228 rfl rfl rfl (Nat.le_of_ble_eq_true rfl) rfl ?_
  exact cv_retv K hm d_Bus_want_10 ((upd (upd bsv 1 k) 2 x)) (by rw [p_Bus_want]) rfl
-- CycleChip$Bus.keepsCoreWaiting()Z
def p_Bus_keepsCoreWaiting (bsv : Nat → Int32) : Int32 := if (bsv 1) = (0 : Int32) then if (bsv 5) = (0 : Int32) then (0 : Int32) else if (bsv 5) = (4 : Int32) then (0 : Int32) else (1 : Int32) else (1 : Int32)
set_option maxRecDepth 100000 in
set_option maxHeartbeats 4000000 in
theorem m_Bus_keepsCoreWaiting (l : Launch) (dC : Nat → ClassId) (dI : Nat → Nat → Nat) (tys : List (ClassId × FieldType)) (ad : Nat → Nat) (ca : Nat → ClassId) (n : Nat) (htys : ∀ k, k < 17 → tys[k]? = some (ca k, .int)) (bsv : Nat → Int32)  : cv_Mz l y_Bus_keepsCoreWaiting (Cond.code y_Bus_keepsCoreWaiting c_Bus_keepsCoreWaiting 1 (some .boolean) :: gw) { frames := 0, cells := 0, slots := 0, locals := 0 } (dC, dI) vwCl tys [.ref (ad 25)] [k_Bus (ad 25) (ad 1) (ad 2) (ad 5) (ad 8) bsv] (p_Bus_keepsCoreWaiting bsv) (fun r => r) (fun r => [k_Bus (ad 25) (ad 1) (ad 2) (ad 5) (ad 8) bsv]) := by
  refine cv_startz (by decide) (Nat.le_of_ble_eq_true rfl) [(0, .ref (ad 25))] rfl ?_
  intro p e s m below meth c A K hm
  refine cv_aload_n K 0 d_Bus_keepsCoreWaiting_0 rfl rfl ?_
  refine cv_get K d_Bus_keepsCoreWaiting_1 0 5 rfl rfl in_Bus (by decide) tm_227 rfl ?_
  refine cv_if_ne K d_Bus_keepsCoreWaiting_4 22 rfl (fun h1 => ?_) (fun h1 => ?_)
  · refine cv_iconst (v := 1) K d_Bus_keepsCoreWaiting_22 rfl ?_
    refine cv_goto K d_Bus_keepsCoreWaiting_23 27 rfl ?_
    exact cv_retz K hm d_Bus_keepsCoreWaiting_27 ((1 : Int32)) (by rw [p_Bus_keepsCoreWaiting, if_neg (c := (bsv 1) = (0 : Int32)) h1]) rfl rfl rfl
  · refine cv_aload_n K 0 d_Bus_keepsCoreWaiting_7 rfl rfl ?_
    refine cv_get K d_Bus_keepsCoreWaiting_8 0 9 rfl rfl in_Bus (by decide) tm_231 rfl ?_
    refine cv_if_eq K d_Bus_keepsCoreWaiting_11 26 rfl (fun h2 => ?_) (fun h2 => ?_)
    · refine cv_iconst (v := 0) K d_Bus_keepsCoreWaiting_26 rfl ?_
      exact cv_retz K hm d_Bus_keepsCoreWaiting_27 ((0 : Int32)) (by rw [p_Bus_keepsCoreWaiting, if_pos (c := (bsv 1) = (0 : Int32)) h1, if_pos (c := (bsv 5) = (0 : Int32)) h2]) rfl rfl rfl
    · refine cv_aload_n K 0 d_Bus_keepsCoreWaiting_14 rfl rfl ?_
      refine cv_get K d_Bus_keepsCoreWaiting_15 0 9 rfl rfl in_Bus (by decide) tm_231 rfl ?_
      refine cv_iconst (v := 4) K d_Bus_keepsCoreWaiting_18 rfl ?_
      refine cv_icmp_eq K d_Bus_keepsCoreWaiting_19 26 rfl (fun h3 => ?_) (fun h3 => ?_)
      · refine cv_iconst (v := 0) K d_Bus_keepsCoreWaiting_26 rfl ?_
        exact cv_retz K hm d_Bus_keepsCoreWaiting_27 ((0 : Int32)) (by rw [p_Bus_keepsCoreWaiting, if_pos (c := (bsv 1) = (0 : Int32)) h1, if_neg (c := (bsv 5) = (0 : Int32)) h2, if_pos (c := (bsv 5) = (4 : Int32)) h3]) rfl rfl rfl
      · refine cv_iconst (v := 1) K d_Bus_keepsCoreWaiting_22 rfl ?_
        refine cv_goto K d_Bus_keepsCoreWaiting_23 27 rfl ?_
        exact cv_retz K hm d_Bus_keepsCoreWaiting_27 ((1 : Int32)) (by rw [p_Bus_keepsCoreWaiting, if_pos (c := (bsv 1) = (0 : Int32)) h1, if_neg (c := (bsv 5) = (0 : Int32)) h2, if_neg (c := (bsv 5) = (4 : Int32)) h3]) rfl rfl rfl
-- CycleChip$Bus.duration(I)I
def p_Bus_duration (bsv : Nat → Int32) (k : Int32) : Int32 := if k = (3 : Int32) then (1 : Int32) else if k = (4 : Int32) then bsv 0 else (4 : Int32) * (bsv 0)
set_option maxRecDepth 100000 in
set_option maxHeartbeats 4000000 in
theorem m_Bus_duration (l : Launch) (dC : Nat → ClassId) (dI : Nat → Nat → Nat) (tys : List (ClassId × FieldType)) (ad : Nat → Nat) (ca : Nat → ClassId) (n : Nat) (htys : ∀ k, k < 17 → tys[k]? = some (ca k, .int)) (bsv : Nat → Int32) (k : Int32)  : cv_Mi l y_Bus_duration (Cond.code y_Bus_duration c_Bus_duration 2 (some .int) :: gw) { frames := 0, cells := 0, slots := 0, locals := 0 } (dC, dI) vwCl tys [.ref (ad 25), .int k] [k_Bus (ad 25) (ad 1) (ad 2) (ad 5) (ad 8) bsv] (p_Bus_duration bsv k) (fun r => r) (fun r => [k_Bus (ad 25) (ad 1) (ad 2) (ad 5) (ad 8) bsv]) := by
  refine cv_starti (by decide) (Nat.le_of_ble_eq_true rfl) [(0, .ref (ad 25)), (1, .int k)] rfl ?_
  intro p e s m below meth c A K hm
  refine cv_iload_n K 1 d_Bus_duration_0 rfl rfl ?_
  refine cv_iconst (v := 3) K d_Bus_duration_1 rfl ?_
  refine cv_icmp_ne K d_Bus_duration_2 7 rfl (fun h1 => ?_) (fun h1 => ?_)
  · refine cv_iload_n K 1 d_Bus_duration_7 rfl rfl ?_
    refine cv_iconst (v := 4) K d_Bus_duration_8 rfl ?_
    refine cv_icmp_ne K d_Bus_duration_9 19 rfl (fun h2 => ?_) (fun h2 => ?_)
    · refine cv_iconst (v := 4) K d_Bus_duration_19 rfl ?_
      refine cv_aload_n K 0 d_Bus_duration_20 rfl rfl ?_
      refine cv_get K d_Bus_duration_21 0 0 rfl rfl in_Bus (by decide) tm_222 rfl ?_
      refine cv_imul K d_Bus_duration_24 ?_
      exact cv_reti K hm d_Bus_duration_25 ((4 : Int32) * (bsv 0)) (by rw [p_Bus_duration, if_neg (c := k = (3 : Int32)) h1, if_neg (c := k = (4 : Int32)) h2]) rfl rfl
    · refine cv_aload_n K 0 d_Bus_duration_12 rfl rfl ?_
      refine cv_get K d_Bus_duration_13 0 0 rfl rfl in_Bus (by decide) tm_222 rfl ?_
      refine cv_goto K d_Bus_duration_16 25 rfl ?_
      exact cv_reti K hm d_Bus_duration_25 (bsv 0) (by rw [p_Bus_duration, if_neg (c := k = (3 : Int32)) h1, if_pos (c := k = (4 : Int32)) h2]) rfl rfl
  · refine cv_iconst (v := 1) K d_Bus_duration_5 rfl ?_
    exact cv_reti K hm d_Bus_duration_6 ((1 : Int32)) (by rw [p_Bus_duration, if_pos (c := k = (3 : Int32)) h1]) rfl rfl
-- CycleChip$Bus.begin(I)V
def p_Bus_begin_1 (bfv : Nat → Int32) (bsv : Nat → Int32) (k : Int32) (r1 : Int32) : (Nat → Int32) := (upd (upd (upd (upd bsv 5 (bsv 1)) 1 (0 : Int32)) 4 (bsv 1)) 3 (k + r1))
def p_Bus_begin_2 (bfv : Nat → Int32) (bsv : Nat → Int32) (k : Int32) (r2 : Int32) : (Nat → Int32) := (upd (upd (upd bsv 5 (4 : Int32)) 4 (4 : Int32)) 3 (k + r2))
def p_Bus_begin_3 (bfv : Nat → Int32) (bsv : Nat → Int32) (k : Int32) (r3 : Int32) : (Nat → Int32) := (upd (upd (upd (upd bsv 5 (bsv 1)) 1 (0 : Int32)) 4 (bsv 1)) 3 (k + r3))
def p_Bus_begin_4 (bfv : Nat → Int32) (bsv : Nat → Int32) (k : Int32) (r4 : Int32) : (Nat → Int32) := (upd (upd (upd (upd bsv 5 (bsv 1)) 1 (0 : Int32)) 4 (bsv 1)) 3 (k + r4))
def p_Bus_begin_5 (bfv : Nat → Int32) (bsv : Nat → Int32) (k : Int32) (r5 : Int32) : (Nat → Int32) := (upd (upd (upd (upd bsv 5 (bsv 1)) 1 (0 : Int32)) 4 (bsv 1)) 3 (k + r5))
def p_Bus_begin_6 (bfv : Nat → Int32) (bsv : Nat → Int32) (k : Int32) (r6 : Int32) : (Nat → Int32) := (upd (upd (upd (upd bsv 5 (bsv 1)) 1 (0 : Int32)) 4 (bsv 1)) 3 (k + r6))
def p_Bus_begin_7 (bfv : Nat → Int32) (bsv : Nat → Int32) (k : Int32) (r7 : Int32) : (Nat → Int32) := (upd (upd (upd bsv 5 (4 : Int32)) 4 (4 : Int32)) 3 (k + r7))
def p_Bus_begin_8 (bfv : Nat → Int32) (bsv : Nat → Int32) (k : Int32) (r8 : Int32) : (Nat → Int32) := (upd (upd (upd (upd bsv 5 (bsv 1)) 1 (0 : Int32)) 4 (bsv 1)) 3 (k + r8))
def p_Bus_begin_9 (bfv : Nat → Int32) (bsv : Nat → Int32) (k : Int32) (r9 : Int32) : (Nat → Int32) := (upd (upd (upd bsv 5 (4 : Int32)) 4 (4 : Int32)) 3 (k + r9))
def p_Bus_begin_10 (bfv : Nat → Int32) (bsv : Nat → Int32) (k : Int32) (r10 : Int32) : (Nat → Int32) := (upd (upd (upd bsv 5 (4 : Int32)) 4 (4 : Int32)) 3 (k + r10))
def p_Bus_begin_11 (bfv : Nat → Int32) (bsv : Nat → Int32) (k : Int32) (r11 : Int32) : (Nat → Int32) := (upd (upd (upd bsv 5 (4 : Int32)) 4 (4 : Int32)) 3 (k + r11))
def p_Bus_begin_12 (bfv : Nat → Int32) (bsv : Nat → Int32) (k : Int32) (r12 : Int32) : (Nat → Int32) := (upd (upd (upd (upd bsv 5 (bsv 1)) 1 (0 : Int32)) 4 (bsv 1)) 3 (k + r12))
def p_Bus_begin_13 (bfv : Nat → Int32) (bsv : Nat → Int32) (k : Int32) (r13 : Int32) : (Nat → Int32) := (upd (upd (upd (upd bsv 5 (bsv 1)) 1 (0 : Int32)) 4 (bsv 1)) 3 (k + r13))
def p_Bus_begin_14 (bfv : Nat → Int32) (bsv : Nat → Int32) (k : Int32) (r14 : Int32) : (Nat → Int32) := (upd (upd (upd (upd bsv 5 (bsv 1)) 1 (0 : Int32)) 4 (bsv 1)) 3 (k + r14))
def p_Bus_begin_15 (bfv : Nat → Int32) (bsv : Nat → Int32) (k : Int32) (r15 : Int32) : (Nat → Int32) := (upd (upd (upd bsv 5 (4 : Int32)) 4 (4 : Int32)) 3 (k + r15))
def p_Bus_begin_16 (bfv : Nat → Int32) (bsv : Nat → Int32) (k : Int32) (r16 : Int32) : (Nat → Int32) := (upd (upd (upd (upd bsv 5 (bsv 1)) 1 (0 : Int32)) 4 (bsv 1)) 3 (k + r16))
def p_Bus_begin_17 (bfv : Nat → Int32) (bsv : Nat → Int32) (k : Int32) (r17 : Int32) : (Nat → Int32) := (upd (upd (upd (upd bsv 5 (bsv 1)) 1 (0 : Int32)) 4 (bsv 1)) 3 (k + r17))
def p_Bus_begin_18 (bfv : Nat → Int32) (bsv : Nat → Int32) (k : Int32) (r18 : Int32) : (Nat → Int32) := (upd (upd (upd (upd bsv 5 (bsv 1)) 1 (0 : Int32)) 4 (bsv 1)) 3 (k + r18))
def p_Bus_begin_19 (bfv : Nat → Int32) (bsv : Nat → Int32) (k : Int32) (r19 : Int32) : (Nat → Int32) := (upd (upd (upd bsv 5 (4 : Int32)) 4 (4 : Int32)) 3 (k + r19))
def p_Bus_begin_20 (bfv : Nat → Int32) (bsv : Nat → Int32) (k : Int32) (r20 : Int32) : (Nat → Int32) := (upd (upd (upd bsv 5 (4 : Int32)) 4 (4 : Int32)) 3 (k + r20))
def p_Bus_begin_21 (bfv : Nat → Int32) (bsv : Nat → Int32) (k : Int32) (r21 : Int32) : (Nat → Int32) := (upd (upd (upd bsv 5 (4 : Int32)) 4 (4 : Int32)) 3 (k + r21))
def p_Bus_begin (bfv : Nat → Int32) (bsv : Nat → Int32) (k : Int32) : (Nat → Int32) := if (bfv 0) ≤ (0 : Int32) then if (bsv 5) = (0 : Int32) then if (bsv 1) = (0 : Int32) then if (0 : Int32) = (0 : Int32) then bsv else if (bsv 4) = (4 : Int32) then if (bsv 1) = (0 : Int32) then p_Bus_begin_9 bfv bsv k (p_Bus_duration (upd (upd bsv 5 (4 : Int32)) 4 (4 : Int32)) (4 : Int32)) else bsv else if (bsv 4) = (0 : Int32) then if (bsv 1) = (0 : Int32) then p_Bus_begin_11 bfv bsv k (p_Bus_duration (upd (upd bsv 5 (4 : Int32)) 4 (4 : Int32)) (4 : Int32)) else bsv else if (bsv 1) = (0 : Int32) then p_Bus_begin_10 bfv bsv k (p_Bus_duration (upd (upd bsv 5 (4 : Int32)) 4 (4 : Int32)) (4 : Int32)) else bsv else if (bsv 4) = (4 : Int32) then if (bsv 1) = (0 : Int32) then bsv else if (1 : Int32) = (0 : Int32) then if (0 : Int32) = (0 : Int32) then p_Bus_begin_3 bfv bsv k (p_Bus_duration (upd (upd (upd bsv 5 (bsv 1)) 1 (0 : Int32)) 4 (bsv 1)) (bsv 1)) else p_Bus_begin_2 bfv bsv k (p_Bus_duration (upd (upd bsv 5 (4 : Int32)) 4 (4 : Int32)) (4 : Int32)) else p_Bus_begin_1 bfv bsv k (p_Bus_duration (upd (upd (upd bsv 5 (bsv 1)) 1 (0 : Int32)) 4 (bsv 1)) (bsv 1)) else if (bsv 4) = (0 : Int32) then if (bsv 1) = (0 : Int32) then bsv else if (1 : Int32) = (0 : Int32) then if (0 : Int32) = (0 : Int32) then p_Bus_begin_8 bfv bsv k (p_Bus_duration (upd (upd (upd bsv 5 (bsv 1)) 1 (0 : Int32)) 4 (bsv 1)) (bsv 1)) else p_Bus_begin_7 bfv bsv k (p_Bus_duration (upd (upd bsv 5 (4 : Int32)) 4 (4 : Int32)) (4 : Int32)) else p_Bus_begin_6 bfv bsv k (p_Bus_duration (upd (upd (upd bsv 5 (bsv 1)) 1 (0 : Int32)) 4 (bsv 1)) (bsv 1)) else if (bsv 1) = (0 : Int32) then bsv else if (0 : Int32) = (0 : Int32) then if (0 : Int32) = (0 : Int32) then p_Bus_begin_5 bfv bsv k (p_Bus_duration (upd (upd (upd bsv 5 (bsv 1)) 1 (0 : Int32)) 4 (bsv 1)) (bsv 1)) else bsv else p_Bus_begin_4 bfv bsv k (p_Bus_duration (upd (upd (upd bsv 5 (bsv 1)) 1 (0 : Int32)) 4 (bsv 1)) (bsv 1)) else bsv else if (bsv 5) = (0 : Int32) then if (bsv 1) = (0 : Int32) then if (1 : Int32) = (0 : Int32) then bsv else if (bsv 4) = (4 : Int32) then if (bsv 1) = (0 : Int32) then p_Bus_begin_19 bfv bsv k (p_Bus_duration (upd (upd bsv 5 (4 : Int32)) 4 (4 : Int32)) (4 : Int32)) else bsv else if (bsv 4) = (0 : Int32) then if (bsv 1) = (0 : Int32) then p_Bus_begin_21 bfv bsv k (p_Bus_duration (upd (upd bsv 5 (4 : Int32)) 4 (4 : Int32)) (4 : Int32)) else bsv else if (bsv 1) = (0 : Int32) then p_Bus_begin_20 bfv bsv k (p_Bus_duration (upd (upd bsv 5 (4 : Int32)) 4 (4 : Int32)) (4 : Int32)) else bsv else if (bsv 4) = (4 : Int32) then if (bsv 1) = (0 : Int32) then bsv else if (1 : Int32) = (0 : Int32) then if (1 : Int32) = (0 : Int32) then p_Bus_begin_13 bfv bsv k (p_Bus_duration (upd (upd (upd bsv 5 (bsv 1)) 1 (0 : Int32)) 4 (bsv 1)) (bsv 1)) else bsv else p_Bus_begin_12 bfv bsv k (p_Bus_duration (upd (upd (upd bsv 5 (bsv 1)) 1 (0 : Int32)) 4 (bsv 1)) (bsv 1)) else if (bsv 4) = (0 : Int32) then if (bsv 1) = (0 : Int32) then bsv else if (1 : Int32) = (0 : Int32) then if (1 : Int32) = (0 : Int32) then p_Bus_begin_18 bfv bsv k (p_Bus_duration (upd (upd (upd bsv 5 (bsv 1)) 1 (0 : Int32)) 4 (bsv 1)) (bsv 1)) else bsv else p_Bus_begin_17 bfv bsv k (p_Bus_duration (upd (upd (upd bsv 5 (bsv 1)) 1 (0 : Int32)) 4 (bsv 1)) (bsv 1)) else if (bsv 1) = (0 : Int32) then bsv else if (0 : Int32) = (0 : Int32) then if (1 : Int32) = (0 : Int32) then p_Bus_begin_16 bfv bsv k (p_Bus_duration (upd (upd (upd bsv 5 (bsv 1)) 1 (0 : Int32)) 4 (bsv 1)) (bsv 1)) else p_Bus_begin_15 bfv bsv k (p_Bus_duration (upd (upd bsv 5 (4 : Int32)) 4 (4 : Int32)) (4 : Int32)) else p_Bus_begin_14 bfv bsv k (p_Bus_duration (upd (upd (upd bsv 5 (bsv 1)) 1 (0 : Int32)) 4 (bsv 1)) (bsv 1)) else bsv
set_option maxRecDepth 100000 in
set_option maxHeartbeats 4000000 in
theorem m_Bus_begin (l : Launch) (dC : Nat → ClassId) (dI : Nat → Nat → Nat) (tys : List (ClassId × FieldType)) (ad : Nat → Nat) (ca : Nat → ClassId) (n : Nat) (htys : ∀ k, k < 17 → tys[k]? = some (ca k, .int)) (bfv : Nat → Int32) (bsv : Nat → Int32) (k : Int32)  : cv_Mv l y_Bus_begin (Cond.code y_Bus_begin c_Bus_begin 4 (none) :: gw) { frames := 1, cells := 0, slots := 0, locals := 21 } (dC, dI) vwCl tys [.ref (ad 25), .int k] [k_StoreBuffer (ad 8) (ad 9) (ad 10) bfv, k_Bus (ad 25) (ad 1) (ad 2) (ad 5) (ad 8) bsv] (p_Bus_begin bfv bsv k) (fun r => [k_StoreBuffer (ad 8) (ad 9) (ad 10) bfv, k_Bus (ad 25) (ad 1) (ad 2) (ad 5) (ad 8) r]) := by
  refine cv_startv (by decide) (Nat.le_of_ble_eq_true rfl) [(0, .ref (ad 25)), (1, .int k)] rfl ?_
  intro p e s m below meth c A K hm
  refine cv_aload_n K 0 d_Bus_begin_0 rfl rfl ?_
  refine cv_get K d_Bus_begin_1 1 4 rfl rfl in_Bus (by decide) tm_226 rfl ?_
  refine cv_get K d_Bus_begin_4 0 2 rfl rfl in_StoreBuffer (by decide) tm_36 rfl ?_
  refine cv_if_le K d_Bus_begin_7 14 rfl (fun h1 => ?_) (fun h1 => ?_)
  · refine cv_iconst (v := 0) K d_Bus_begin_14 rfl ?_
    refine cv_istore_n K d_Bus_begin_15 [(2, .int (0 : Int32)), (0, .ref (ad 25)), (1, .int k)] rfl (by decide) rfl ?_
    refine cv_aload_n K 1 d_Bus_begin_16 rfl rfl ?_
    refine cv_get K d_Bus_begin_17 1 9 rfl rfl in_Bus (by decide) tm_231 rfl ?_
    refine cv_if_ne K d_Bus_begin_20 34 rfl (fun h2 => ?_) (fun h2 => ?_)
    · exact cv_retv K hm d_Bus_begin_34 (bsv) (by rw [p_Bus_begin, if_pos (c := (bfv 0) ≤ (0 : Int32)) h1, if_neg (c := (bsv 5) = (0 : Int32)) h2]) rfl
    · refine cv_aload_n K 1 d_Bus_begin_23 rfl rfl ?_
      refine cv_get K d_Bus_begin_24 1 5 rfl rfl in_Bus (by decide) tm_227 rfl ?_
      refine cv_if_ne K d_Bus_begin_27 35 rfl (fun h3 => ?_) (fun h3 => ?_)
      · refine cv_aload_n K 1 d_Bus_begin_35 rfl rfl ?_
        refine cv_get K d_Bus_begin_36 1 8 rfl rfl in_Bus (by decide) tm_230 rfl ?_
        refine cv_iconst (v := 4) K d_Bus_begin_39 rfl ?_
        refine cv_icmp_eq K d_Bus_begin_40 50 rfl (fun h4 => ?_) (fun h4 => ?_)
        · refine cv_iconst (v := 1) K d_Bus_begin_50 rfl ?_
          refine cv_goto K d_Bus_begin_51 55 rfl ?_
          refine cv_istore_n K d_Bus_begin_55 [(3, .int (1 : Int32)), (2, .int (0 : Int32)), (0, .ref (ad 25)), (1, .int k)] rfl (by decide) rfl ?_
          refine cv_aload_n K 2 d_Bus_begin_56 rfl rfl ?_
          refine cv_get K d_Bus_begin_57 1 5 rfl rfl in_Bus (by decide) tm_227 rfl ?_
          refine cv_if_eq K d_Bus_begin_60 87 rfl (fun h5 => ?_) (fun h5 => ?_)
          · exact absurd h5 h3
          · refine cv_iload_n K 0 d_Bus_begin_63 rfl rfl ?_
            refine cv_if_ne K d_Bus_begin_64 71 rfl (fun h6 => ?_) (fun h6 => ?_)
            · refine cv_aload_n K 2 d_Bus_begin_71 rfl rfl ?_
              refine cv_aload_n K 2 d_Bus_begin_72 rfl rfl ?_
              refine cv_get K d_Bus_begin_73 1 5 rfl rfl in_Bus (by decide) tm_227 rfl ?_
              refine cv_put K d_Bus_begin_76 [k_StoreBuffer (ad 8) (ad 9) (ad 10) bfv, k_Bus (ad 25) (ad 1) (ad 2) (ad 5) (ad 8) (upd bsv 5 (bsv 1))] 1 9 rfl rfl in_Bus t_Bus o_Bus n_Bus (by decide) tm_231 rfl rfl rfl (Nat.le_of_ble_eq_true rfl) rfl ?_
              refine cv_aload_n K 2 d_Bus_begin_79 rfl rfl ?_
              refine cv_iconst (v := 0) K d_Bus_begin_80 rfl ?_
              refine cv_put K d_Bus_begin_81 [k_StoreBuffer (ad 8) (ad 9) (ad 10) bfv, k_Bus (ad 25) (ad 1) (ad 2) (ad 5) (ad 8) (upd (upd bsv 5 (bsv 1)) 1 (0 : Int32))] 1 5 rfl rfl in_Bus t_Bus o_Bus n_Bus (by decide) tm_227 rfl rfl rfl (Nat.le_of_ble_eq_true rfl) rfl ?_
              refine cv_goto K d_Bus_begin_84 92 rfl ?_
              refine cv_aload_n K 2 d_Bus_begin_92 rfl rfl ?_
              refine cv_aload_n K 2 d_Bus_begin_93 rfl rfl ?_
              refine cv_get K d_Bus_begin_94 1 9 rfl rfl in_Bus (by decide) tm_231 rfl ?_
              refine cv_put K d_Bus_begin_97 [k_StoreBuffer (ad 8) (ad 9) (ad 10) bfv, k_Bus (ad 25) (ad 1) (ad 2) (ad 5) (ad 8) (upd (upd (upd bsv 5 (bsv 1)) 1 (0 : Int32)) 4 (bsv 1))] 1 8 rfl rfl in_Bus t_Bus o_Bus n_Bus (by decide) tm_230 rfl rfl rfl (Nat.le_of_ble_eq_true rfl) rfl ?_
              refine cv_aload_n K 2 d_Bus_begin_100 rfl rfl ?_
              refine cv_iload_n K 3 d_Bus_begin_101 rfl rfl ?_
              refine cv_aload_n K 2 d_Bus_begin_102 rfl rfl ?_
              refine cv_aload_n K 2 d_Bus_begin_103 rfl rfl ?_
              refine cv_get K d_Bus_begin_104 1 9 rfl rfl in_Bus (by decide) tm_231 rfl ?_
              refine cv_callVi K (m_Bus_duration l dC dI tys ad ca n htys (upd (upd (upd bsv 5 (bsv 1)) 1 (0 : Int32)) 4 (bsv 1)) (bsv 1)) d_Bus_begin_107 (cw_V (n := 1) K.2.2.2.2.1 tm_591 tm_593 sm_6 tm_12 tm_594 rfl rfl ⟨rfl, wd_of (by decide +kernel) (by decide +kernel)⟩ ⟨Nat.le_of_ble_eq_true rfl, Nat.le_of_ble_eq_true rfl⟩) 1 rfl rfl [1] rfl rfl (fun _ => rfl) rfl rfl (Nat.le_of_ble_eq_true rfl) (Nat.zero_le _) (Nat.zero_le _) (fun r1 hr1 => ?_)
              refine cv_norm [k_StoreBuffer (ad 8) (ad 9) (ad 10) bfv, k_Bus (ad 25) (ad 1) (ad 2) (ad 5) (ad 8) (upd (upd (upd bsv 5 (bsv 1)) 1 (0 : Int32)) 4 (bsv 1))] rfl ?_
              refine cv_iadd K d_Bus_begin_110 ?_
              refine cv_put K d_Bus_begin_111 [k_StoreBuffer (ad 8) (ad 9) (ad 10) bfv, k_Bus (ad 25) (ad 1) (ad 2) (ad 5) (ad 8) (upd (upd (upd (upd bsv 5 (bsv 1)) 1 (0 : Int32)) 4 (bsv 1)) 3 (k + r1))] 1 7 rfl rfl in_Bus t_Bus o_Bus n_Bus (by decide) tm_229 rfl rfl rfl (Nat.le_of_ble_eq_true rfl) rfl ?_
              exact cv_retv K hm d_Bus_begin_114 ((upd (upd (upd (upd bsv 5 (bsv 1)) 1 (0 : Int32)) 4 (bsv 1)) 3 (k + r1))) (by rw [p_Bus_begin, if_pos (c := (bfv 0) ≤ (0 : Int32)) h1, if_pos (c := (bsv 5) = (0 : Int32)) h2, if_neg (c := (bsv 1) = (0 : Int32)) h3, if_pos (c := (bsv 4) = (4 : Int32)) h4, if_neg (c := (bsv 1) = (0 : Int32)) h5, if_neg (c := (1 : Int32) = (0 : Int32)) h6, ← hr1, p_Bus_begin_1]) rfl
            · refine cv_iload_n K 1 d_Bus_begin_67 rfl rfl ?_
              refine cv_if_ne K d_Bus_begin_68 87 rfl (fun h7 => ?_) (fun h7 => ?_)
              · refine cv_aload_n K 2 d_Bus_begin_87 rfl rfl ?_
                refine cv_iconst (v := 4) K d_Bus_begin_88 rfl ?_
                refine cv_put K d_Bus_begin_89 [k_StoreBuffer (ad 8) (ad 9) (ad 10) bfv, k_Bus (ad 25) (ad 1) (ad 2) (ad 5) (ad 8) (upd bsv 5 (4 : Int32))] 1 9 rfl rfl in_Bus t_Bus o_Bus n_Bus (by decide) tm_231 rfl rfl rfl (Nat.le_of_ble_eq_true rfl) rfl ?_
                refine cv_aload_n K 2 d_Bus_begin_92 rfl rfl ?_
                refine cv_aload_n K 2 d_Bus_begin_93 rfl rfl ?_
                refine cv_get K d_Bus_begin_94 1 9 rfl rfl in_Bus (by decide) tm_231 rfl ?_
                refine cv_put K d_Bus_begin_97 [k_StoreBuffer (ad 8) (ad 9) (ad 10) bfv, k_Bus (ad 25) (ad 1) (ad 2) (ad 5) (ad 8) (upd (upd bsv 5 (4 : Int32)) 4 (4 : Int32))] 1 8 rfl rfl in_Bus t_Bus o_Bus n_Bus (by decide) tm_230 rfl rfl rfl (Nat.le_of_ble_eq_true rfl) rfl ?_
                refine cv_aload_n K 2 d_Bus_begin_100 rfl rfl ?_
                refine cv_iload_n K 3 d_Bus_begin_101 rfl rfl ?_
                refine cv_aload_n K 2 d_Bus_begin_102 rfl rfl ?_
                refine cv_aload_n K 2 d_Bus_begin_103 rfl rfl ?_
                refine cv_get K d_Bus_begin_104 1 9 rfl rfl in_Bus (by decide) tm_231 rfl ?_
                refine cv_callVi K (m_Bus_duration l dC dI tys ad ca n htys (upd (upd bsv 5 (4 : Int32)) 4 (4 : Int32)) (4 : Int32)) d_Bus_begin_107 (cw_V (n := 1) K.2.2.2.2.1 tm_591 tm_593 sm_6 tm_12 tm_594 rfl rfl ⟨rfl, wd_of (by decide +kernel) (by decide +kernel)⟩ ⟨Nat.le_of_ble_eq_true rfl, Nat.le_of_ble_eq_true rfl⟩) 1 rfl rfl [1] rfl rfl (fun _ => rfl) rfl rfl (Nat.le_of_ble_eq_true rfl) (Nat.zero_le _) (Nat.zero_le _) (fun r2 hr2 => ?_)
                refine cv_norm [k_StoreBuffer (ad 8) (ad 9) (ad 10) bfv, k_Bus (ad 25) (ad 1) (ad 2) (ad 5) (ad 8) (upd (upd bsv 5 (4 : Int32)) 4 (4 : Int32))] rfl ?_
                refine cv_iadd K d_Bus_begin_110 ?_
                refine cv_put K d_Bus_begin_111 [k_StoreBuffer (ad 8) (ad 9) (ad 10) bfv, k_Bus (ad 25) (ad 1) (ad 2) (ad 5) (ad 8) (upd (upd (upd bsv 5 (4 : Int32)) 4 (4 : Int32)) 3 (k + r2))] 1 7 rfl rfl in_Bus t_Bus o_Bus n_Bus (by decide) tm_229 rfl rfl rfl (Nat.le_of_ble_eq_true rfl) rfl ?_
                exact cv_retv K hm d_Bus_begin_114 ((upd (upd (upd bsv 5 (4 : Int32)) 4 (4 : Int32)) 3 (k + r2))) (by rw [p_Bus_begin, if_pos (c := (bfv 0) ≤ (0 : Int32)) h1, if_pos (c := (bsv 5) = (0 : Int32)) h2, if_neg (c := (bsv 1) = (0 : Int32)) h3, if_pos (c := (bsv 4) = (4 : Int32)) h4, if_neg (c := (bsv 1) = (0 : Int32)) h5, if_pos (c := (1 : Int32) = (0 : Int32)) h6, if_neg (c := (0 : Int32) = (0 : Int32)) h7, ← hr2, p_Bus_begin_2]) rfl
              · refine cv_aload_n K 2 d_Bus_begin_71 rfl rfl ?_
                refine cv_aload_n K 2 d_Bus_begin_72 rfl rfl ?_
                refine cv_get K d_Bus_begin_73 1 5 rfl rfl in_Bus (by decide) tm_227 rfl ?_
                refine cv_put K d_Bus_begin_76 [k_StoreBuffer (ad 8) (ad 9) (ad 10) bfv, k_Bus (ad 25) (ad 1) (ad 2) (ad 5) (ad 8) (upd bsv 5 (bsv 1))] 1 9 rfl rfl in_Bus t_Bus o_Bus n_Bus (by decide) tm_231 rfl rfl rfl (Nat.le_of_ble_eq_true rfl) rfl ?_
                refine cv_aload_n K 2 d_Bus_begin_79 rfl rfl ?_
                refine cv_iconst (v := 0) K d_Bus_begin_80 rfl ?_
                refine cv_put K d_Bus_begin_81 [k_StoreBuffer (ad 8) (ad 9) (ad 10) bfv, k_Bus (ad 25) (ad 1) (ad 2) (ad 5) (ad 8) (upd (upd bsv 5 (bsv 1)) 1 (0 : Int32))] 1 5 rfl rfl in_Bus t_Bus o_Bus n_Bus (by decide) tm_227 rfl rfl rfl (Nat.le_of_ble_eq_true rfl) rfl ?_
                refine cv_goto K d_Bus_begin_84 92 rfl ?_
                refine cv_aload_n K 2 d_Bus_begin_92 rfl rfl ?_
                refine cv_aload_n K 2 d_Bus_begin_93 rfl rfl ?_
                refine cv_get K d_Bus_begin_94 1 9 rfl rfl in_Bus (by decide) tm_231 rfl ?_
                refine cv_put K d_Bus_begin_97 [k_StoreBuffer (ad 8) (ad 9) (ad 10) bfv, k_Bus (ad 25) (ad 1) (ad 2) (ad 5) (ad 8) (upd (upd (upd bsv 5 (bsv 1)) 1 (0 : Int32)) 4 (bsv 1))] 1 8 rfl rfl in_Bus t_Bus o_Bus n_Bus (by decide) tm_230 rfl rfl rfl (Nat.le_of_ble_eq_true rfl) rfl ?_
                refine cv_aload_n K 2 d_Bus_begin_100 rfl rfl ?_
                refine cv_iload_n K 3 d_Bus_begin_101 rfl rfl ?_
                refine cv_aload_n K 2 d_Bus_begin_102 rfl rfl ?_
                refine cv_aload_n K 2 d_Bus_begin_103 rfl rfl ?_
                refine cv_get K d_Bus_begin_104 1 9 rfl rfl in_Bus (by decide) tm_231 rfl ?_
                refine cv_callVi K (m_Bus_duration l dC dI tys ad ca n htys (upd (upd (upd bsv 5 (bsv 1)) 1 (0 : Int32)) 4 (bsv 1)) (bsv 1)) d_Bus_begin_107 (cw_V (n := 1) K.2.2.2.2.1 tm_591 tm_593 sm_6 tm_12 tm_594 rfl rfl ⟨rfl, wd_of (by decide +kernel) (by decide +kernel)⟩ ⟨Nat.le_of_ble_eq_true rfl, Nat.le_of_ble_eq_true rfl⟩) 1 rfl rfl [1] rfl rfl (fun _ => rfl) rfl rfl (Nat.le_of_ble_eq_true rfl) (Nat.zero_le _) (Nat.zero_le _) (fun r3 hr3 => ?_)
                refine cv_norm [k_StoreBuffer (ad 8) (ad 9) (ad 10) bfv, k_Bus (ad 25) (ad 1) (ad 2) (ad 5) (ad 8) (upd (upd (upd bsv 5 (bsv 1)) 1 (0 : Int32)) 4 (bsv 1))] rfl ?_
                refine cv_iadd K d_Bus_begin_110 ?_
                refine cv_put K d_Bus_begin_111 [k_StoreBuffer (ad 8) (ad 9) (ad 10) bfv, k_Bus (ad 25) (ad 1) (ad 2) (ad 5) (ad 8) (upd (upd (upd (upd bsv 5 (bsv 1)) 1 (0 : Int32)) 4 (bsv 1)) 3 (k + r3))] 1 7 rfl rfl in_Bus t_Bus o_Bus n_Bus (by decide) tm_229 rfl rfl rfl (Nat.le_of_ble_eq_true rfl) rfl ?_
                exact cv_retv K hm d_Bus_begin_114 ((upd (upd (upd (upd bsv 5 (bsv 1)) 1 (0 : Int32)) 4 (bsv 1)) 3 (k + r3))) (by rw [p_Bus_begin, if_pos (c := (bfv 0) ≤ (0 : Int32)) h1, if_pos (c := (bsv 5) = (0 : Int32)) h2, if_neg (c := (bsv 1) = (0 : Int32)) h3, if_pos (c := (bsv 4) = (4 : Int32)) h4, if_neg (c := (bsv 1) = (0 : Int32)) h5, if_pos (c := (1 : Int32) = (0 : Int32)) h6, if_pos (c := (0 : Int32) = (0 : Int32)) h7, ← hr3, p_Bus_begin_3]) rfl
        · refine cv_aload_n K 1 d_Bus_begin_43 rfl rfl ?_
          refine cv_get K d_Bus_begin_44 1 8 rfl rfl in_Bus (by decide) tm_230 rfl ?_
          refine cv_if_ne K d_Bus_begin_47 54 rfl (fun h8 => ?_) (fun h8 => ?_)
          · refine cv_iconst (v := 0) K d_Bus_begin_54 rfl ?_
            refine cv_istore_n K d_Bus_begin_55 [(3, .int (0 : Int32)), (2, .int (0 : Int32)), (0, .ref (ad 25)), (1, .int k)] rfl (by decide) rfl ?_
            refine cv_aload_n K 2 d_Bus_begin_56 rfl rfl ?_
            refine cv_get K d_Bus_begin_57 1 5 rfl rfl in_Bus (by decide) tm_227 rfl ?_
            refine cv_if_eq K d_Bus_begin_60 87 rfl (fun h9 => ?_) (fun h9 => ?_)
            · exact absurd h9 h3
            · refine cv_iload_n K 0 d_Bus_begin_63 rfl rfl ?_
              refine cv_if_ne K d_Bus_begin_64 71 rfl (fun h10 => ?_) (fun h10 => ?_)
              · refine cv_aload_n K 2 d_Bus_begin_71 rfl rfl ?_
                refine cv_aload_n K 2 d_Bus_begin_72 rfl rfl ?_
                refine cv_get K d_Bus_begin_73 1 5 rfl rfl in_Bus (by decide) tm_227 rfl ?_
                refine cv_put K d_Bus_begin_76 [k_StoreBuffer (ad 8) (ad 9) (ad 10) bfv, k_Bus (ad 25) (ad 1) (ad 2) (ad 5) (ad 8) (upd bsv 5 (bsv 1))] 1 9 rfl rfl in_Bus t_Bus o_Bus n_Bus (by decide) tm_231 rfl rfl rfl (Nat.le_of_ble_eq_true rfl) rfl ?_
                refine cv_aload_n K 2 d_Bus_begin_79 rfl rfl ?_
                refine cv_iconst (v := 0) K d_Bus_begin_80 rfl ?_
                refine cv_put K d_Bus_begin_81 [k_StoreBuffer (ad 8) (ad 9) (ad 10) bfv, k_Bus (ad 25) (ad 1) (ad 2) (ad 5) (ad 8) (upd (upd bsv 5 (bsv 1)) 1 (0 : Int32))] 1 5 rfl rfl in_Bus t_Bus o_Bus n_Bus (by decide) tm_227 rfl rfl rfl (Nat.le_of_ble_eq_true rfl) rfl ?_
                refine cv_goto K d_Bus_begin_84 92 rfl ?_
                refine cv_aload_n K 2 d_Bus_begin_92 rfl rfl ?_
                refine cv_aload_n K 2 d_Bus_begin_93 rfl rfl ?_
                refine cv_get K d_Bus_begin_94 1 9 rfl rfl in_Bus (by decide) tm_231 rfl ?_
                refine cv_put K d_Bus_begin_97 [k_StoreBuffer (ad 8) (ad 9) (ad 10) bfv, k_Bus (ad 25) (ad 1) (ad 2) (ad 5) (ad 8) (upd (upd (upd bsv 5 (bsv 1)) 1 (0 : Int32)) 4 (bsv 1))] 1 8 rfl rfl in_Bus t_Bus o_Bus n_Bus (by decide) tm_230 rfl rfl rfl (Nat.le_of_ble_eq_true rfl) rfl ?_
                refine cv_aload_n K 2 d_Bus_begin_100 rfl rfl ?_
                refine cv_iload_n K 3 d_Bus_begin_101 rfl rfl ?_
                refine cv_aload_n K 2 d_Bus_begin_102 rfl rfl ?_
                refine cv_aload_n K 2 d_Bus_begin_103 rfl rfl ?_
                refine cv_get K d_Bus_begin_104 1 9 rfl rfl in_Bus (by decide) tm_231 rfl ?_
                refine cv_callVi K (m_Bus_duration l dC dI tys ad ca n htys (upd (upd (upd bsv 5 (bsv 1)) 1 (0 : Int32)) 4 (bsv 1)) (bsv 1)) d_Bus_begin_107 (cw_V (n := 1) K.2.2.2.2.1 tm_591 tm_593 sm_6 tm_12 tm_594 rfl rfl ⟨rfl, wd_of (by decide +kernel) (by decide +kernel)⟩ ⟨Nat.le_of_ble_eq_true rfl, Nat.le_of_ble_eq_true rfl⟩) 1 rfl rfl [1] rfl rfl (fun _ => rfl) rfl rfl (Nat.le_of_ble_eq_true rfl) (Nat.zero_le _) (Nat.zero_le _) (fun r4 hr4 => ?_)
                refine cv_norm [k_StoreBuffer (ad 8) (ad 9) (ad 10) bfv, k_Bus (ad 25) (ad 1) (ad 2) (ad 5) (ad 8) (upd (upd (upd bsv 5 (bsv 1)) 1 (0 : Int32)) 4 (bsv 1))] rfl ?_
                refine cv_iadd K d_Bus_begin_110 ?_
                refine cv_put K d_Bus_begin_111 [k_StoreBuffer (ad 8) (ad 9) (ad 10) bfv, k_Bus (ad 25) (ad 1) (ad 2) (ad 5) (ad 8) (upd (upd (upd (upd bsv 5 (bsv 1)) 1 (0 : Int32)) 4 (bsv 1)) 3 (k + r4))] 1 7 rfl rfl in_Bus t_Bus o_Bus n_Bus (by decide) tm_229 rfl rfl rfl (Nat.le_of_ble_eq_true rfl) rfl ?_
                exact cv_retv K hm d_Bus_begin_114 ((upd (upd (upd (upd bsv 5 (bsv 1)) 1 (0 : Int32)) 4 (bsv 1)) 3 (k + r4))) (by rw [p_Bus_begin, if_pos (c := (bfv 0) ≤ (0 : Int32)) h1, if_pos (c := (bsv 5) = (0 : Int32)) h2, if_neg (c := (bsv 1) = (0 : Int32)) h3, if_neg (c := (bsv 4) = (4 : Int32)) h4, if_neg (c := (bsv 4) = (0 : Int32)) h8, if_neg (c := (bsv 1) = (0 : Int32)) h9, if_neg (c := (0 : Int32) = (0 : Int32)) h10, ← hr4, p_Bus_begin_4]) rfl
              · refine cv_iload_n K 1 d_Bus_begin_67 rfl rfl ?_
                refine cv_if_ne K d_Bus_begin_68 87 rfl (fun h11 => ?_) (fun h11 => ?_)
                · exact absurd h10 h11
                · refine cv_aload_n K 2 d_Bus_begin_71 rfl rfl ?_
                  refine cv_aload_n K 2 d_Bus_begin_72 rfl rfl ?_
                  refine cv_get K d_Bus_begin_73 1 5 rfl rfl in_Bus (by decide) tm_227 rfl ?_
                  refine cv_put K d_Bus_begin_76 [k_StoreBuffer (ad 8) (ad 9) (ad 10) bfv, k_Bus (ad 25) (ad 1) (ad 2) (ad 5) (ad 8) (upd bsv 5 (bsv 1))] 1 9 rfl rfl in_Bus t_Bus o_Bus n_Bus (by decide) tm_231 rfl rfl rfl (Nat.le_of_ble_eq_true rfl) rfl ?_
                  refine cv_aload_n K 2 d_Bus_begin_79 rfl rfl ?_
                  refine cv_iconst (v := 0) K d_Bus_begin_80 rfl ?_
                  refine cv_put K d_Bus_begin_81 [k_StoreBuffer (ad 8) (ad 9) (ad 10) bfv, k_Bus (ad 25) (ad 1) (ad 2) (ad 5) (ad 8) (upd (upd bsv 5 (bsv 1)) 1 (0 : Int32))] 1 5 rfl rfl in_Bus t_Bus o_Bus n_Bus (by decide) tm_227 rfl rfl rfl (Nat.le_of_ble_eq_true rfl) rfl ?_
                  refine cv_goto K d_Bus_begin_84 92 rfl ?_
                  refine cv_aload_n K 2 d_Bus_begin_92 rfl rfl ?_
                  refine cv_aload_n K 2 d_Bus_begin_93 rfl rfl ?_
                  refine cv_get K d_Bus_begin_94 1 9 rfl rfl in_Bus (by decide) tm_231 rfl ?_
                  refine cv_put K d_Bus_begin_97 [k_StoreBuffer (ad 8) (ad 9) (ad 10) bfv, k_Bus (ad 25) (ad 1) (ad 2) (ad 5) (ad 8) (upd (upd (upd bsv 5 (bsv 1)) 1 (0 : Int32)) 4 (bsv 1))] 1 8 rfl rfl in_Bus t_Bus o_Bus n_Bus (by decide) tm_230 rfl rfl rfl (Nat.le_of_ble_eq_true rfl) rfl ?_
                  refine cv_aload_n K 2 d_Bus_begin_100 rfl rfl ?_
                  refine cv_iload_n K 3 d_Bus_begin_101 rfl rfl ?_
                  refine cv_aload_n K 2 d_Bus_begin_102 rfl rfl ?_
                  refine cv_aload_n K 2 d_Bus_begin_103 rfl rfl ?_
                  refine cv_get K d_Bus_begin_104 1 9 rfl rfl in_Bus (by decide) tm_231 rfl ?_
                  refine cv_callVi K (m_Bus_duration l dC dI tys ad ca n htys (upd (upd (upd bsv 5 (bsv 1)) 1 (0 : Int32)) 4 (bsv 1)) (bsv 1)) d_Bus_begin_107 (cw_V (n := 1) K.2.2.2.2.1 tm_591 tm_593 sm_6 tm_12 tm_594 rfl rfl ⟨rfl, wd_of (by decide +kernel) (by decide +kernel)⟩ ⟨Nat.le_of_ble_eq_true rfl, Nat.le_of_ble_eq_true rfl⟩) 1 rfl rfl [1] rfl rfl (fun _ => rfl) rfl rfl (Nat.le_of_ble_eq_true rfl) (Nat.zero_le _) (Nat.zero_le _) (fun r5 hr5 => ?_)
                  refine cv_norm [k_StoreBuffer (ad 8) (ad 9) (ad 10) bfv, k_Bus (ad 25) (ad 1) (ad 2) (ad 5) (ad 8) (upd (upd (upd bsv 5 (bsv 1)) 1 (0 : Int32)) 4 (bsv 1))] rfl ?_
                  refine cv_iadd K d_Bus_begin_110 ?_
                  refine cv_put K d_Bus_begin_111 [k_StoreBuffer (ad 8) (ad 9) (ad 10) bfv, k_Bus (ad 25) (ad 1) (ad 2) (ad 5) (ad 8) (upd (upd (upd (upd bsv 5 (bsv 1)) 1 (0 : Int32)) 4 (bsv 1)) 3 (k + r5))] 1 7 rfl rfl in_Bus t_Bus o_Bus n_Bus (by decide) tm_229 rfl rfl rfl (Nat.le_of_ble_eq_true rfl) rfl ?_
                  exact cv_retv K hm d_Bus_begin_114 ((upd (upd (upd (upd bsv 5 (bsv 1)) 1 (0 : Int32)) 4 (bsv 1)) 3 (k + r5))) (by rw [p_Bus_begin, if_pos (c := (bfv 0) ≤ (0 : Int32)) h1, if_pos (c := (bsv 5) = (0 : Int32)) h2, if_neg (c := (bsv 1) = (0 : Int32)) h3, if_neg (c := (bsv 4) = (4 : Int32)) h4, if_neg (c := (bsv 4) = (0 : Int32)) h8, if_neg (c := (bsv 1) = (0 : Int32)) h9, if_pos (c := (0 : Int32) = (0 : Int32)) h10, if_pos (c := (0 : Int32) = (0 : Int32)) h11, ← hr5, p_Bus_begin_5]) rfl
          · refine cv_iconst (v := 1) K d_Bus_begin_50 rfl ?_
            refine cv_goto K d_Bus_begin_51 55 rfl ?_
            refine cv_istore_n K d_Bus_begin_55 [(3, .int (1 : Int32)), (2, .int (0 : Int32)), (0, .ref (ad 25)), (1, .int k)] rfl (by decide) rfl ?_
            refine cv_aload_n K 2 d_Bus_begin_56 rfl rfl ?_
            refine cv_get K d_Bus_begin_57 1 5 rfl rfl in_Bus (by decide) tm_227 rfl ?_
            refine cv_if_eq K d_Bus_begin_60 87 rfl (fun h12 => ?_) (fun h12 => ?_)
            · exact absurd h12 h3
            · refine cv_iload_n K 0 d_Bus_begin_63 rfl rfl ?_
              refine cv_if_ne K d_Bus_begin_64 71 rfl (fun h13 => ?_) (fun h13 => ?_)
              · refine cv_aload_n K 2 d_Bus_begin_71 rfl rfl ?_
                refine cv_aload_n K 2 d_Bus_begin_72 rfl rfl ?_
                refine cv_get K d_Bus_begin_73 1 5 rfl rfl in_Bus (by decide) tm_227 rfl ?_
                refine cv_put K d_Bus_begin_76 [k_StoreBuffer (ad 8) (ad 9) (ad 10) bfv, k_Bus (ad 25) (ad 1) (ad 2) (ad 5) (ad 8) (upd bsv 5 (bsv 1))] 1 9 rfl rfl in_Bus t_Bus o_Bus n_Bus (by decide) tm_231 rfl rfl rfl (Nat.le_of_ble_eq_true rfl) rfl ?_
                refine cv_aload_n K 2 d_Bus_begin_79 rfl rfl ?_
                refine cv_iconst (v := 0) K d_Bus_begin_80 rfl ?_
                refine cv_put K d_Bus_begin_81 [k_StoreBuffer (ad 8) (ad 9) (ad 10) bfv, k_Bus (ad 25) (ad 1) (ad 2) (ad 5) (ad 8) (upd (upd bsv 5 (bsv 1)) 1 (0 : Int32))] 1 5 rfl rfl in_Bus t_Bus o_Bus n_Bus (by decide) tm_227 rfl rfl rfl (Nat.le_of_ble_eq_true rfl) rfl ?_
                refine cv_goto K d_Bus_begin_84 92 rfl ?_
                refine cv_aload_n K 2 d_Bus_begin_92 rfl rfl ?_
                refine cv_aload_n K 2 d_Bus_begin_93 rfl rfl ?_
                refine cv_get K d_Bus_begin_94 1 9 rfl rfl in_Bus (by decide) tm_231 rfl ?_
                refine cv_put K d_Bus_begin_97 [k_StoreBuffer (ad 8) (ad 9) (ad 10) bfv, k_Bus (ad 25) (ad 1) (ad 2) (ad 5) (ad 8) (upd (upd (upd bsv 5 (bsv 1)) 1 (0 : Int32)) 4 (bsv 1))] 1 8 rfl rfl in_Bus t_Bus o_Bus n_Bus (by decide) tm_230 rfl rfl rfl (Nat.le_of_ble_eq_true rfl) rfl ?_
                refine cv_aload_n K 2 d_Bus_begin_100 rfl rfl ?_
                refine cv_iload_n K 3 d_Bus_begin_101 rfl rfl ?_
                refine cv_aload_n K 2 d_Bus_begin_102 rfl rfl ?_
                refine cv_aload_n K 2 d_Bus_begin_103 rfl rfl ?_
                refine cv_get K d_Bus_begin_104 1 9 rfl rfl in_Bus (by decide) tm_231 rfl ?_
                refine cv_callVi K (m_Bus_duration l dC dI tys ad ca n htys (upd (upd (upd bsv 5 (bsv 1)) 1 (0 : Int32)) 4 (bsv 1)) (bsv 1)) d_Bus_begin_107 (cw_V (n := 1) K.2.2.2.2.1 tm_591 tm_593 sm_6 tm_12 tm_594 rfl rfl ⟨rfl, wd_of (by decide +kernel) (by decide +kernel)⟩ ⟨Nat.le_of_ble_eq_true rfl, Nat.le_of_ble_eq_true rfl⟩) 1 rfl rfl [1] rfl rfl (fun _ => rfl) rfl rfl (Nat.le_of_ble_eq_true rfl) (Nat.zero_le _) (Nat.zero_le _) (fun r6 hr6 => ?_)
                refine cv_norm [k_StoreBuffer (ad 8) (ad 9) (ad 10) bfv, k_Bus (ad 25) (ad 1) (ad 2) (ad 5) (ad 8) (upd (upd (upd bsv 5 (bsv 1)) 1 (0 : Int32)) 4 (bsv 1))] rfl ?_
                refine cv_iadd K d_Bus_begin_110 ?_
                refine cv_put K d_Bus_begin_111 [k_StoreBuffer (ad 8) (ad 9) (ad 10) bfv, k_Bus (ad 25) (ad 1) (ad 2) (ad 5) (ad 8) (upd (upd (upd (upd bsv 5 (bsv 1)) 1 (0 : Int32)) 4 (bsv 1)) 3 (k + r6))] 1 7 rfl rfl in_Bus t_Bus o_Bus n_Bus (by decide) tm_229 rfl rfl rfl (Nat.le_of_ble_eq_true rfl) rfl ?_
                exact cv_retv K hm d_Bus_begin_114 ((upd (upd (upd (upd bsv 5 (bsv 1)) 1 (0 : Int32)) 4 (bsv 1)) 3 (k + r6))) (by rw [p_Bus_begin, if_pos (c := (bfv 0) ≤ (0 : Int32)) h1, if_pos (c := (bsv 5) = (0 : Int32)) h2, if_neg (c := (bsv 1) = (0 : Int32)) h3, if_neg (c := (bsv 4) = (4 : Int32)) h4, if_pos (c := (bsv 4) = (0 : Int32)) h8, if_neg (c := (bsv 1) = (0 : Int32)) h12, if_neg (c := (1 : Int32) = (0 : Int32)) h13, ← hr6, p_Bus_begin_6]) rfl
              · refine cv_iload_n K 1 d_Bus_begin_67 rfl rfl ?_
                refine cv_if_ne K d_Bus_begin_68 87 rfl (fun h14 => ?_) (fun h14 => ?_)
                · refine cv_aload_n K 2 d_Bus_begin_87 rfl rfl ?_
                  refine cv_iconst (v := 4) K d_Bus_begin_88 rfl ?_
                  refine cv_put K d_Bus_begin_89 [k_StoreBuffer (ad 8) (ad 9) (ad 10) bfv, k_Bus (ad 25) (ad 1) (ad 2) (ad 5) (ad 8) (upd bsv 5 (4 : Int32))] 1 9 rfl rfl in_Bus t_Bus o_Bus n_Bus (by decide) tm_231 rfl rfl rfl (Nat.le_of_ble_eq_true rfl) rfl ?_
                  refine cv_aload_n K 2 d_Bus_begin_92 rfl rfl ?_
                  refine cv_aload_n K 2 d_Bus_begin_93 rfl rfl ?_
                  refine cv_get K d_Bus_begin_94 1 9 rfl rfl in_Bus (by decide) tm_231 rfl ?_
                  refine cv_put K d_Bus_begin_97 [k_StoreBuffer (ad 8) (ad 9) (ad 10) bfv, k_Bus (ad 25) (ad 1) (ad 2) (ad 5) (ad 8) (upd (upd bsv 5 (4 : Int32)) 4 (4 : Int32))] 1 8 rfl rfl in_Bus t_Bus o_Bus n_Bus (by decide) tm_230 rfl rfl rfl (Nat.le_of_ble_eq_true rfl) rfl ?_
                  refine cv_aload_n K 2 d_Bus_begin_100 rfl rfl ?_
                  refine cv_iload_n K 3 d_Bus_begin_101 rfl rfl ?_
                  refine cv_aload_n K 2 d_Bus_begin_102 rfl rfl ?_
                  refine cv_aload_n K 2 d_Bus_begin_103 rfl rfl ?_
                  refine cv_get K d_Bus_begin_104 1 9 rfl rfl in_Bus (by decide) tm_231 rfl ?_
                  refine cv_callVi K (m_Bus_duration l dC dI tys ad ca n htys (upd (upd bsv 5 (4 : Int32)) 4 (4 : Int32)) (4 : Int32)) d_Bus_begin_107 (cw_V (n := 1) K.2.2.2.2.1 tm_591 tm_593 sm_6 tm_12 tm_594 rfl rfl ⟨rfl, wd_of (by decide +kernel) (by decide +kernel)⟩ ⟨Nat.le_of_ble_eq_true rfl, Nat.le_of_ble_eq_true rfl⟩) 1 rfl rfl [1] rfl rfl (fun _ => rfl) rfl rfl (Nat.le_of_ble_eq_true rfl) (Nat.zero_le _) (Nat.zero_le _) (fun r7 hr7 => ?_)
                  refine cv_norm [k_StoreBuffer (ad 8) (ad 9) (ad 10) bfv, k_Bus (ad 25) (ad 1) (ad 2) (ad 5) (ad 8) (upd (upd bsv 5 (4 : Int32)) 4 (4 : Int32))] rfl ?_
                  refine cv_iadd K d_Bus_begin_110 ?_
                  refine cv_put K d_Bus_begin_111 [k_StoreBuffer (ad 8) (ad 9) (ad 10) bfv, k_Bus (ad 25) (ad 1) (ad 2) (ad 5) (ad 8) (upd (upd (upd bsv 5 (4 : Int32)) 4 (4 : Int32)) 3 (k + r7))] 1 7 rfl rfl in_Bus t_Bus o_Bus n_Bus (by decide) tm_229 rfl rfl rfl (Nat.le_of_ble_eq_true rfl) rfl ?_
                  exact cv_retv K hm d_Bus_begin_114 ((upd (upd (upd bsv 5 (4 : Int32)) 4 (4 : Int32)) 3 (k + r7))) (by rw [p_Bus_begin, if_pos (c := (bfv 0) ≤ (0 : Int32)) h1, if_pos (c := (bsv 5) = (0 : Int32)) h2, if_neg (c := (bsv 1) = (0 : Int32)) h3, if_neg (c := (bsv 4) = (4 : Int32)) h4, if_pos (c := (bsv 4) = (0 : Int32)) h8, if_neg (c := (bsv 1) = (0 : Int32)) h12, if_pos (c := (1 : Int32) = (0 : Int32)) h13, if_neg (c := (0 : Int32) = (0 : Int32)) h14, ← hr7, p_Bus_begin_7]) rfl
                · refine cv_aload_n K 2 d_Bus_begin_71 rfl rfl ?_
                  refine cv_aload_n K 2 d_Bus_begin_72 rfl rfl ?_
                  refine cv_get K d_Bus_begin_73 1 5 rfl rfl in_Bus (by decide) tm_227 rfl ?_
                  refine cv_put K d_Bus_begin_76 [k_StoreBuffer (ad 8) (ad 9) (ad 10) bfv, k_Bus (ad 25) (ad 1) (ad 2) (ad 5) (ad 8) (upd bsv 5 (bsv 1))] 1 9 rfl rfl in_Bus t_Bus o_Bus n_Bus (by decide) tm_231 rfl rfl rfl (Nat.le_of_ble_eq_true rfl) rfl ?_
                  refine cv_aload_n K 2 d_Bus_begin_79 rfl rfl ?_
                  refine cv_iconst (v := 0) K d_Bus_begin_80 rfl ?_
                  refine cv_put K d_Bus_begin_81 [k_StoreBuffer (ad 8) (ad 9) (ad 10) bfv, k_Bus (ad 25) (ad 1) (ad 2) (ad 5) (ad 8) (upd (upd bsv 5 (bsv 1)) 1 (0 : Int32))] 1 5 rfl rfl in_Bus t_Bus o_Bus n_Bus (by decide) tm_227 rfl rfl rfl (Nat.le_of_ble_eq_true rfl) rfl ?_
                  refine cv_goto K d_Bus_begin_84 92 rfl ?_
                  refine cv_aload_n K 2 d_Bus_begin_92 rfl rfl ?_
                  refine cv_aload_n K 2 d_Bus_begin_93 rfl rfl ?_
                  refine cv_get K d_Bus_begin_94 1 9 rfl rfl in_Bus (by decide) tm_231 rfl ?_
                  refine cv_put K d_Bus_begin_97 [k_StoreBuffer (ad 8) (ad 9) (ad 10) bfv, k_Bus (ad 25) (ad 1) (ad 2) (ad 5) (ad 8) (upd (upd (upd bsv 5 (bsv 1)) 1 (0 : Int32)) 4 (bsv 1))] 1 8 rfl rfl in_Bus t_Bus o_Bus n_Bus (by decide) tm_230 rfl rfl rfl (Nat.le_of_ble_eq_true rfl) rfl ?_
                  refine cv_aload_n K 2 d_Bus_begin_100 rfl rfl ?_
                  refine cv_iload_n K 3 d_Bus_begin_101 rfl rfl ?_
                  refine cv_aload_n K 2 d_Bus_begin_102 rfl rfl ?_
                  refine cv_aload_n K 2 d_Bus_begin_103 rfl rfl ?_
                  refine cv_get K d_Bus_begin_104 1 9 rfl rfl in_Bus (by decide) tm_231 rfl ?_
                  refine cv_callVi K (m_Bus_duration l dC dI tys ad ca n htys (upd (upd (upd bsv 5 (bsv 1)) 1 (0 : Int32)) 4 (bsv 1)) (bsv 1)) d_Bus_begin_107 (cw_V (n := 1) K.2.2.2.2.1 tm_591 tm_593 sm_6 tm_12 tm_594 rfl rfl ⟨rfl, wd_of (by decide +kernel) (by decide +kernel)⟩ ⟨Nat.le_of_ble_eq_true rfl, Nat.le_of_ble_eq_true rfl⟩) 1 rfl rfl [1] rfl rfl (fun _ => rfl) rfl rfl (Nat.le_of_ble_eq_true rfl) (Nat.zero_le _) (Nat.zero_le _) (fun r8 hr8 => ?_)
                  refine cv_norm [k_StoreBuffer (ad 8) (ad 9) (ad 10) bfv, k_Bus (ad 25) (ad 1) (ad 2) (ad 5) (ad 8) (upd (upd (upd bsv 5 (bsv 1)) 1 (0 : Int32)) 4 (bsv 1))] rfl ?_
                  refine cv_iadd K d_Bus_begin_110 ?_
                  refine cv_put K d_Bus_begin_111 [k_StoreBuffer (ad 8) (ad 9) (ad 10) bfv, k_Bus (ad 25) (ad 1) (ad 2) (ad 5) (ad 8) (upd (upd (upd (upd bsv 5 (bsv 1)) 1 (0 : Int32)) 4 (bsv 1)) 3 (k + r8))] 1 7 rfl rfl in_Bus t_Bus o_Bus n_Bus (by decide) tm_229 rfl rfl rfl (Nat.le_of_ble_eq_true rfl) rfl ?_
                  exact cv_retv K hm d_Bus_begin_114 ((upd (upd (upd (upd bsv 5 (bsv 1)) 1 (0 : Int32)) 4 (bsv 1)) 3 (k + r8))) (by rw [p_Bus_begin, if_pos (c := (bfv 0) ≤ (0 : Int32)) h1, if_pos (c := (bsv 5) = (0 : Int32)) h2, if_neg (c := (bsv 1) = (0 : Int32)) h3, if_neg (c := (bsv 4) = (4 : Int32)) h4, if_pos (c := (bsv 4) = (0 : Int32)) h8, if_neg (c := (bsv 1) = (0 : Int32)) h12, if_pos (c := (1 : Int32) = (0 : Int32)) h13, if_pos (c := (0 : Int32) = (0 : Int32)) h14, ← hr8, p_Bus_begin_8]) rfl
      · refine cv_iload_n K 0 d_Bus_begin_30 rfl rfl ?_
        refine cv_if_ne K d_Bus_begin_31 35 rfl (fun h15 => ?_) (fun h15 => ?_)
        · refine cv_aload_n K 1 d_Bus_begin_35 rfl rfl ?_
          refine cv_get K d_Bus_begin_36 1 8 rfl rfl in_Bus (by decide) tm_230 rfl ?_
          refine cv_iconst (v := 4) K d_Bus_begin_39 rfl ?_
          refine cv_icmp_eq K d_Bus_begin_40 50 rfl (fun h16 => ?_) (fun h16 => ?_)
          · refine cv_iconst (v := 1) K d_Bus_begin_50 rfl ?_
            refine cv_goto K d_Bus_begin_51 55 rfl ?_
            refine cv_istore_n K d_Bus_begin_55 [(3, .int (1 : Int32)), (2, .int (0 : Int32)), (0, .ref (ad 25)), (1, .int k)] rfl (by decide) rfl ?_
            refine cv_aload_n K 2 d_Bus_begin_56 rfl rfl ?_
            refine cv_get K d_Bus_begin_57 1 5 rfl rfl in_Bus (by decide) tm_227 rfl ?_
            refine cv_if_eq K d_Bus_begin_60 87 rfl (fun h17 => ?_) (fun h17 => ?_)
            · refine cv_aload_n K 2 d_Bus_begin_87 rfl rfl ?_
              refine cv_iconst (v := 4) K d_Bus_begin_88 rfl ?_
              refine cv_put K d_Bus_begin_89 [k_StoreBuffer (ad 8) (ad 9) (ad 10) bfv, k_Bus (ad 25) (ad 1) (ad 2) (ad 5) (ad 8) (upd bsv 5 (4 : Int32))] 1 9 rfl rfl in_Bus t_Bus o_Bus n_Bus (by decide) tm_231 rfl rfl rfl (Nat.le_of_ble_eq_true rfl) rfl ?_
              refine cv_aload_n K 2 d_Bus_begin_92 rfl rfl ?_
              refine cv_aload_n K 2 d_Bus_begin_93 rfl rfl ?_
              refine cv_get K d_Bus_begin_94 1 9 rfl rfl in_Bus (by decide) tm_231 rfl ?_
              refine cv_put K d_Bus_begin_97 [k_StoreBuffer (ad 8) (ad 9) (ad 10) bfv, k_Bus (ad 25) (ad 1) (ad 2) (ad 5) (ad 8) (upd (upd bsv 5 (4 : Int32)) 4 (4 : Int32))] 1 8 rfl rfl in_Bus t_Bus o_Bus n_Bus (by decide) tm_230 rfl rfl rfl (Nat.le_of_ble_eq_true rfl) rfl ?_
              refine cv_aload_n K 2 d_Bus_begin_100 rfl rfl ?_
              refine cv_iload_n K 3 d_Bus_begin_101 rfl rfl ?_
              refine cv_aload_n K 2 d_Bus_begin_102 rfl rfl ?_
              refine cv_aload_n K 2 d_Bus_begin_103 rfl rfl ?_
              refine cv_get K d_Bus_begin_104 1 9 rfl rfl in_Bus (by decide) tm_231 rfl ?_
              refine cv_callVi K (m_Bus_duration l dC dI tys ad ca n htys (upd (upd bsv 5 (4 : Int32)) 4 (4 : Int32)) (4 : Int32)) d_Bus_begin_107 (cw_V (n := 1) K.2.2.2.2.1 tm_591 tm_593 sm_6 tm_12 tm_594 rfl rfl ⟨rfl, wd_of (by decide +kernel) (by decide +kernel)⟩ ⟨Nat.le_of_ble_eq_true rfl, Nat.le_of_ble_eq_true rfl⟩) 1 rfl rfl [1] rfl rfl (fun _ => rfl) rfl rfl (Nat.le_of_ble_eq_true rfl) (Nat.zero_le _) (Nat.zero_le _) (fun r9 hr9 => ?_)
              refine cv_norm [k_StoreBuffer (ad 8) (ad 9) (ad 10) bfv, k_Bus (ad 25) (ad 1) (ad 2) (ad 5) (ad 8) (upd (upd bsv 5 (4 : Int32)) 4 (4 : Int32))] rfl ?_
              refine cv_iadd K d_Bus_begin_110 ?_
              refine cv_put K d_Bus_begin_111 [k_StoreBuffer (ad 8) (ad 9) (ad 10) bfv, k_Bus (ad 25) (ad 1) (ad 2) (ad 5) (ad 8) (upd (upd (upd bsv 5 (4 : Int32)) 4 (4 : Int32)) 3 (k + r9))] 1 7 rfl rfl in_Bus t_Bus o_Bus n_Bus (by decide) tm_229 rfl rfl rfl (Nat.le_of_ble_eq_true rfl) rfl ?_
              exact cv_retv K hm d_Bus_begin_114 ((upd (upd (upd bsv 5 (4 : Int32)) 4 (4 : Int32)) 3 (k + r9))) (by rw [p_Bus_begin, if_pos (c := (bfv 0) ≤ (0 : Int32)) h1, if_pos (c := (bsv 5) = (0 : Int32)) h2, if_pos (c := (bsv 1) = (0 : Int32)) h3, if_neg (c := (0 : Int32) = (0 : Int32)) h15, if_pos (c := (bsv 4) = (4 : Int32)) h16, if_pos (c := (bsv 1) = (0 : Int32)) h17, ← hr9, p_Bus_begin_9]) rfl
            · exact absurd h3 h17
          · refine cv_aload_n K 1 d_Bus_begin_43 rfl rfl ?_
            refine cv_get K d_Bus_begin_44 1 8 rfl rfl in_Bus (by decide) tm_230 rfl ?_
            refine cv_if_ne K d_Bus_begin_47 54 rfl (fun h18 => ?_) (fun h18 => ?_)
            · refine cv_iconst (v := 0) K d_Bus_begin_54 rfl ?_
              refine cv_istore_n K d_Bus_begin_55 [(3, .int (0 : Int32)), (2, .int (0 : Int32)), (0, .ref (ad 25)), (1, .int k)] rfl (by decide) rfl ?_
              refine cv_aload_n K 2 d_Bus_begin_56 rfl rfl ?_
              refine cv_get K d_Bus_begin_57 1 5 rfl rfl in_Bus (by decide) tm_227 rfl ?_
              refine cv_if_eq K d_Bus_begin_60 87 rfl (fun h19 => ?_) (fun h19 => ?_)
              · refine cv_aload_n K 2 d_Bus_begin_87 rfl rfl ?_
                refine cv_iconst (v := 4) K d_Bus_begin_88 rfl ?_
                refine cv_put K d_Bus_begin_89 [k_StoreBuffer (ad 8) (ad 9) (ad 10) bfv, k_Bus (ad 25) (ad 1) (ad 2) (ad 5) (ad 8) (upd bsv 5 (4 : Int32))] 1 9 rfl rfl in_Bus t_Bus o_Bus n_Bus (by decide) tm_231 rfl rfl rfl (Nat.le_of_ble_eq_true rfl) rfl ?_
                refine cv_aload_n K 2 d_Bus_begin_92 rfl rfl ?_
                refine cv_aload_n K 2 d_Bus_begin_93 rfl rfl ?_
                refine cv_get K d_Bus_begin_94 1 9 rfl rfl in_Bus (by decide) tm_231 rfl ?_
                refine cv_put K d_Bus_begin_97 [k_StoreBuffer (ad 8) (ad 9) (ad 10) bfv, k_Bus (ad 25) (ad 1) (ad 2) (ad 5) (ad 8) (upd (upd bsv 5 (4 : Int32)) 4 (4 : Int32))] 1 8 rfl rfl in_Bus t_Bus o_Bus n_Bus (by decide) tm_230 rfl rfl rfl (Nat.le_of_ble_eq_true rfl) rfl ?_
                refine cv_aload_n K 2 d_Bus_begin_100 rfl rfl ?_
                refine cv_iload_n K 3 d_Bus_begin_101 rfl rfl ?_
                refine cv_aload_n K 2 d_Bus_begin_102 rfl rfl ?_
                refine cv_aload_n K 2 d_Bus_begin_103 rfl rfl ?_
                refine cv_get K d_Bus_begin_104 1 9 rfl rfl in_Bus (by decide) tm_231 rfl ?_
                refine cv_callVi K (m_Bus_duration l dC dI tys ad ca n htys (upd (upd bsv 5 (4 : Int32)) 4 (4 : Int32)) (4 : Int32)) d_Bus_begin_107 (cw_V (n := 1) K.2.2.2.2.1 tm_591 tm_593 sm_6 tm_12 tm_594 rfl rfl ⟨rfl, wd_of (by decide +kernel) (by decide +kernel)⟩ ⟨Nat.le_of_ble_eq_true rfl, Nat.le_of_ble_eq_true rfl⟩) 1 rfl rfl [1] rfl rfl (fun _ => rfl) rfl rfl (Nat.le_of_ble_eq_true rfl) (Nat.zero_le _) (Nat.zero_le _) (fun r10 hr10 => ?_)
                refine cv_norm [k_StoreBuffer (ad 8) (ad 9) (ad 10) bfv, k_Bus (ad 25) (ad 1) (ad 2) (ad 5) (ad 8) (upd (upd bsv 5 (4 : Int32)) 4 (4 : Int32))] rfl ?_
                refine cv_iadd K d_Bus_begin_110 ?_
                refine cv_put K d_Bus_begin_111 [k_StoreBuffer (ad 8) (ad 9) (ad 10) bfv, k_Bus (ad 25) (ad 1) (ad 2) (ad 5) (ad 8) (upd (upd (upd bsv 5 (4 : Int32)) 4 (4 : Int32)) 3 (k + r10))] 1 7 rfl rfl in_Bus t_Bus o_Bus n_Bus (by decide) tm_229 rfl rfl rfl (Nat.le_of_ble_eq_true rfl) rfl ?_
                exact cv_retv K hm d_Bus_begin_114 ((upd (upd (upd bsv 5 (4 : Int32)) 4 (4 : Int32)) 3 (k + r10))) (by rw [p_Bus_begin, if_pos (c := (bfv 0) ≤ (0 : Int32)) h1, if_pos (c := (bsv 5) = (0 : Int32)) h2, if_pos (c := (bsv 1) = (0 : Int32)) h3, if_neg (c := (0 : Int32) = (0 : Int32)) h15, if_neg (c := (bsv 4) = (4 : Int32)) h16, if_neg (c := (bsv 4) = (0 : Int32)) h18, if_pos (c := (bsv 1) = (0 : Int32)) h19, ← hr10, p_Bus_begin_10]) rfl
              · exact absurd h3 h19
            · refine cv_iconst (v := 1) K d_Bus_begin_50 rfl ?_
              refine cv_goto K d_Bus_begin_51 55 rfl ?_
              refine cv_istore_n K d_Bus_begin_55 [(3, .int (1 : Int32)), (2, .int (0 : Int32)), (0, .ref (ad 25)), (1, .int k)] rfl (by decide) rfl ?_
              refine cv_aload_n K 2 d_Bus_begin_56 rfl rfl ?_
              refine cv_get K d_Bus_begin_57 1 5 rfl rfl in_Bus (by decide) tm_227 rfl ?_
              refine cv_if_eq K d_Bus_begin_60 87 rfl (fun h20 => ?_) (fun h20 => ?_)
              · refine cv_aload_n K 2 d_Bus_begin_87 rfl rfl ?_
                refine cv_iconst (v := 4) K d_Bus_begin_88 rfl ?_
                refine cv_put K d_Bus_begin_89 [k_StoreBuffer (ad 8) (ad 9) (ad 10) bfv, k_Bus (ad 25) (ad 1) (ad 2) (ad 5) (ad 8) (upd bsv 5 (4 : Int32))] 1 9 rfl rfl in_Bus t_Bus o_Bus n_Bus (by decide) tm_231 rfl rfl rfl (Nat.le_of_ble_eq_true rfl) rfl ?_
                refine cv_aload_n K 2 d_Bus_begin_92 rfl rfl ?_
                refine cv_aload_n K 2 d_Bus_begin_93 rfl rfl ?_
                refine cv_get K d_Bus_begin_94 1 9 rfl rfl in_Bus (by decide) tm_231 rfl ?_
                refine cv_put K d_Bus_begin_97 [k_StoreBuffer (ad 8) (ad 9) (ad 10) bfv, k_Bus (ad 25) (ad 1) (ad 2) (ad 5) (ad 8) (upd (upd bsv 5 (4 : Int32)) 4 (4 : Int32))] 1 8 rfl rfl in_Bus t_Bus o_Bus n_Bus (by decide) tm_230 rfl rfl rfl (Nat.le_of_ble_eq_true rfl) rfl ?_
                refine cv_aload_n K 2 d_Bus_begin_100 rfl rfl ?_
                refine cv_iload_n K 3 d_Bus_begin_101 rfl rfl ?_
                refine cv_aload_n K 2 d_Bus_begin_102 rfl rfl ?_
                refine cv_aload_n K 2 d_Bus_begin_103 rfl rfl ?_
                refine cv_get K d_Bus_begin_104 1 9 rfl rfl in_Bus (by decide) tm_231 rfl ?_
                refine cv_callVi K (m_Bus_duration l dC dI tys ad ca n htys (upd (upd bsv 5 (4 : Int32)) 4 (4 : Int32)) (4 : Int32)) d_Bus_begin_107 (cw_V (n := 1) K.2.2.2.2.1 tm_591 tm_593 sm_6 tm_12 tm_594 rfl rfl ⟨rfl, wd_of (by decide +kernel) (by decide +kernel)⟩ ⟨Nat.le_of_ble_eq_true rfl, Nat.le_of_ble_eq_true rfl⟩) 1 rfl rfl [1] rfl rfl (fun _ => rfl) rfl rfl (Nat.le_of_ble_eq_true rfl) (Nat.zero_le _) (Nat.zero_le _) (fun r11 hr11 => ?_)
                refine cv_norm [k_StoreBuffer (ad 8) (ad 9) (ad 10) bfv, k_Bus (ad 25) (ad 1) (ad 2) (ad 5) (ad 8) (upd (upd bsv 5 (4 : Int32)) 4 (4 : Int32))] rfl ?_
                refine cv_iadd K d_Bus_begin_110 ?_
                refine cv_put K d_Bus_begin_111 [k_StoreBuffer (ad 8) (ad 9) (ad 10) bfv, k_Bus (ad 25) (ad 1) (ad 2) (ad 5) (ad 8) (upd (upd (upd bsv 5 (4 : Int32)) 4 (4 : Int32)) 3 (k + r11))] 1 7 rfl rfl in_Bus t_Bus o_Bus n_Bus (by decide) tm_229 rfl rfl rfl (Nat.le_of_ble_eq_true rfl) rfl ?_
                exact cv_retv K hm d_Bus_begin_114 ((upd (upd (upd bsv 5 (4 : Int32)) 4 (4 : Int32)) 3 (k + r11))) (by rw [p_Bus_begin, if_pos (c := (bfv 0) ≤ (0 : Int32)) h1, if_pos (c := (bsv 5) = (0 : Int32)) h2, if_pos (c := (bsv 1) = (0 : Int32)) h3, if_neg (c := (0 : Int32) = (0 : Int32)) h15, if_neg (c := (bsv 4) = (4 : Int32)) h16, if_pos (c := (bsv 4) = (0 : Int32)) h18, if_pos (c := (bsv 1) = (0 : Int32)) h20, ← hr11, p_Bus_begin_11]) rfl
              · exact absurd h3 h20
        · exact cv_retv K hm d_Bus_begin_34 (bsv) (by rw [p_Bus_begin, if_pos (c := (bfv 0) ≤ (0 : Int32)) h1, if_pos (c := (bsv 5) = (0 : Int32)) h2, if_pos (c := (bsv 1) = (0 : Int32)) h3, if_pos (c := (0 : Int32) = (0 : Int32)) h15]) rfl
  · refine cv_iconst (v := 1) K d_Bus_begin_10 rfl ?_
    refine cv_goto K d_Bus_begin_11 15 rfl ?_
    refine cv_istore_n K d_Bus_begin_15 [(2, .int (1 : Int32)), (0, .ref (ad 25)), (1, .int k)] rfl (by decide) rfl ?_
    refine cv_aload_n K 1 d_Bus_begin_16 rfl rfl ?_
    refine cv_get K d_Bus_begin_17 1 9 rfl rfl in_Bus (by decide) tm_231 rfl ?_
    refine cv_if_ne K d_Bus_begin_20 34 rfl (fun h21 => ?_) (fun h21 => ?_)
    · exact cv_retv K hm d_Bus_begin_34 (bsv) (by rw [p_Bus_begin, if_neg (c := (bfv 0) ≤ (0 : Int32)) h1, if_neg (c := (bsv 5) = (0 : Int32)) h21]) rfl
    · refine cv_aload_n K 1 d_Bus_begin_23 rfl rfl ?_
      refine cv_get K d_Bus_begin_24 1 5 rfl rfl in_Bus (by decide) tm_227 rfl ?_
      refine cv_if_ne K d_Bus_begin_27 35 rfl (fun h22 => ?_) (fun h22 => ?_)
      · refine cv_aload_n K 1 d_Bus_begin_35 rfl rfl ?_
        refine cv_get K d_Bus_begin_36 1 8 rfl rfl in_Bus (by decide) tm_230 rfl ?_
        refine cv_iconst (v := 4) K d_Bus_begin_39 rfl ?_
        refine cv_icmp_eq K d_Bus_begin_40 50 rfl (fun h23 => ?_) (fun h23 => ?_)
        · refine cv_iconst (v := 1) K d_Bus_begin_50 rfl ?_
          refine cv_goto K d_Bus_begin_51 55 rfl ?_
          refine cv_istore_n K d_Bus_begin_55 [(3, .int (1 : Int32)), (2, .int (1 : Int32)), (0, .ref (ad 25)), (1, .int k)] rfl (by decide) rfl ?_
          refine cv_aload_n K 2 d_Bus_begin_56 rfl rfl ?_
          refine cv_get K d_Bus_begin_57 1 5 rfl rfl in_Bus (by decide) tm_227 rfl ?_
          refine cv_if_eq K d_Bus_begin_60 87 rfl (fun h24 => ?_) (fun h24 => ?_)
          · exact absurd h24 h22
          · refine cv_iload_n K 0 d_Bus_begin_63 rfl rfl ?_
            refine cv_if_ne K d_Bus_begin_64 71 rfl (fun h25 => ?_) (fun h25 => ?_)
            · refine cv_aload_n K 2 d_Bus_begin_71 rfl rfl ?_
              refine cv_aload_n K 2 d_Bus_begin_72 rfl rfl ?_
              refine cv_get K d_Bus_begin_73 1 5 rfl rfl in_Bus (by decide) tm_227 rfl ?_
              refine cv_put K d_Bus_begin_76 [k_StoreBuffer (ad 8) (ad 9) (ad 10) bfv, k_Bus (ad 25) (ad 1) (ad 2) (ad 5) (ad 8) (upd bsv 5 (bsv 1))] 1 9 rfl rfl in_Bus t_Bus o_Bus n_Bus (by decide) tm_231 rfl rfl rfl (Nat.le_of_ble_eq_true rfl) rfl ?_
              refine cv_aload_n K 2 d_Bus_begin_79 rfl rfl ?_
              refine cv_iconst (v := 0) K d_Bus_begin_80 rfl ?_
              refine cv_put K d_Bus_begin_81 [k_StoreBuffer (ad 8) (ad 9) (ad 10) bfv, k_Bus (ad 25) (ad 1) (ad 2) (ad 5) (ad 8) (upd (upd bsv 5 (bsv 1)) 1 (0 : Int32))] 1 5 rfl rfl in_Bus t_Bus o_Bus n_Bus (by decide) tm_227 rfl rfl rfl (Nat.le_of_ble_eq_true rfl) rfl ?_
              refine cv_goto K d_Bus_begin_84 92 rfl ?_
              refine cv_aload_n K 2 d_Bus_begin_92 rfl rfl ?_
              refine cv_aload_n K 2 d_Bus_begin_93 rfl rfl ?_
              refine cv_get K d_Bus_begin_94 1 9 rfl rfl in_Bus (by decide) tm_231 rfl ?_
              refine cv_put K d_Bus_begin_97 [k_StoreBuffer (ad 8) (ad 9) (ad 10) bfv, k_Bus (ad 25) (ad 1) (ad 2) (ad 5) (ad 8) (upd (upd (upd bsv 5 (bsv 1)) 1 (0 : Int32)) 4 (bsv 1))] 1 8 rfl rfl in_Bus t_Bus o_Bus n_Bus (by decide) tm_230 rfl rfl rfl (Nat.le_of_ble_eq_true rfl) rfl ?_
              refine cv_aload_n K 2 d_Bus_begin_100 rfl rfl ?_
              refine cv_iload_n K 3 d_Bus_begin_101 rfl rfl ?_
              refine cv_aload_n K 2 d_Bus_begin_102 rfl rfl ?_
              refine cv_aload_n K 2 d_Bus_begin_103 rfl rfl ?_
              refine cv_get K d_Bus_begin_104 1 9 rfl rfl in_Bus (by decide) tm_231 rfl ?_
              refine cv_callVi K (m_Bus_duration l dC dI tys ad ca n htys (upd (upd (upd bsv 5 (bsv 1)) 1 (0 : Int32)) 4 (bsv 1)) (bsv 1)) d_Bus_begin_107 (cw_V (n := 1) K.2.2.2.2.1 tm_591 tm_593 sm_6 tm_12 tm_594 rfl rfl ⟨rfl, wd_of (by decide +kernel) (by decide +kernel)⟩ ⟨Nat.le_of_ble_eq_true rfl, Nat.le_of_ble_eq_true rfl⟩) 1 rfl rfl [1] rfl rfl (fun _ => rfl) rfl rfl (Nat.le_of_ble_eq_true rfl) (Nat.zero_le _) (Nat.zero_le _) (fun r12 hr12 => ?_)
              refine cv_norm [k_StoreBuffer (ad 8) (ad 9) (ad 10) bfv, k_Bus (ad 25) (ad 1) (ad 2) (ad 5) (ad 8) (upd (upd (upd bsv 5 (bsv 1)) 1 (0 : Int32)) 4 (bsv 1))] rfl ?_
              refine cv_iadd K d_Bus_begin_110 ?_
              refine cv_put K d_Bus_begin_111 [k_StoreBuffer (ad 8) (ad 9) (ad 10) bfv, k_Bus (ad 25) (ad 1) (ad 2) (ad 5) (ad 8) (upd (upd (upd (upd bsv 5 (bsv 1)) 1 (0 : Int32)) 4 (bsv 1)) 3 (k + r12))] 1 7 rfl rfl in_Bus t_Bus o_Bus n_Bus (by decide) tm_229 rfl rfl rfl (Nat.le_of_ble_eq_true rfl) rfl ?_
              exact cv_retv K hm d_Bus_begin_114 ((upd (upd (upd (upd bsv 5 (bsv 1)) 1 (0 : Int32)) 4 (bsv 1)) 3 (k + r12))) (by rw [p_Bus_begin, if_neg (c := (bfv 0) ≤ (0 : Int32)) h1, if_pos (c := (bsv 5) = (0 : Int32)) h21, if_neg (c := (bsv 1) = (0 : Int32)) h22, if_pos (c := (bsv 4) = (4 : Int32)) h23, if_neg (c := (bsv 1) = (0 : Int32)) h24, if_neg (c := (1 : Int32) = (0 : Int32)) h25, ← hr12, p_Bus_begin_12]) rfl
            · refine cv_iload_n K 1 d_Bus_begin_67 rfl rfl ?_
              refine cv_if_ne K d_Bus_begin_68 87 rfl (fun h26 => ?_) (fun h26 => ?_)
              · exact absurd h25 h26
              · refine cv_aload_n K 2 d_Bus_begin_71 rfl rfl ?_
                refine cv_aload_n K 2 d_Bus_begin_72 rfl rfl ?_
                refine cv_get K d_Bus_begin_73 1 5 rfl rfl in_Bus (by decide) tm_227 rfl ?_
                refine cv_put K d_Bus_begin_76 [k_StoreBuffer (ad 8) (ad 9) (ad 10) bfv, k_Bus (ad 25) (ad 1) (ad 2) (ad 5) (ad 8) (upd bsv 5 (bsv 1))] 1 9 rfl rfl in_Bus t_Bus o_Bus n_Bus (by decide) tm_231 rfl rfl rfl (Nat.le_of_ble_eq_true rfl) rfl ?_
                refine cv_aload_n K 2 d_Bus_begin_79 rfl rfl ?_
                refine cv_iconst (v := 0) K d_Bus_begin_80 rfl ?_
                refine cv_put K d_Bus_begin_81 [k_StoreBuffer (ad 8) (ad 9) (ad 10) bfv, k_Bus (ad 25) (ad 1) (ad 2) (ad 5) (ad 8) (upd (upd bsv 5 (bsv 1)) 1 (0 : Int32))] 1 5 rfl rfl in_Bus t_Bus o_Bus n_Bus (by decide) tm_227 rfl rfl rfl (Nat.le_of_ble_eq_true rfl) rfl ?_
                refine cv_goto K d_Bus_begin_84 92 rfl ?_
                refine cv_aload_n K 2 d_Bus_begin_92 rfl rfl ?_
                refine cv_aload_n K 2 d_Bus_begin_93 rfl rfl ?_
                refine cv_get K d_Bus_begin_94 1 9 rfl rfl in_Bus (by decide) tm_231 rfl ?_
                refine cv_put K d_Bus_begin_97 [k_StoreBuffer (ad 8) (ad 9) (ad 10) bfv, k_Bus (ad 25) (ad 1) (ad 2) (ad 5) (ad 8) (upd (upd (upd bsv 5 (bsv 1)) 1 (0 : Int32)) 4 (bsv 1))] 1 8 rfl rfl in_Bus t_Bus o_Bus n_Bus (by decide) tm_230 rfl rfl rfl (Nat.le_of_ble_eq_true rfl) rfl ?_
                refine cv_aload_n K 2 d_Bus_begin_100 rfl rfl ?_
                refine cv_iload_n K 3 d_Bus_begin_101 rfl rfl ?_
                refine cv_aload_n K 2 d_Bus_begin_102 rfl rfl ?_
                refine cv_aload_n K 2 d_Bus_begin_103 rfl rfl ?_
                refine cv_get K d_Bus_begin_104 1 9 rfl rfl in_Bus (by decide) tm_231 rfl ?_
                refine cv_callVi K (m_Bus_duration l dC dI tys ad ca n htys (upd (upd (upd bsv 5 (bsv 1)) 1 (0 : Int32)) 4 (bsv 1)) (bsv 1)) d_Bus_begin_107 (cw_V (n := 1) K.2.2.2.2.1 tm_591 tm_593 sm_6 tm_12 tm_594 rfl rfl ⟨rfl, wd_of (by decide +kernel) (by decide +kernel)⟩ ⟨Nat.le_of_ble_eq_true rfl, Nat.le_of_ble_eq_true rfl⟩) 1 rfl rfl [1] rfl rfl (fun _ => rfl) rfl rfl (Nat.le_of_ble_eq_true rfl) (Nat.zero_le _) (Nat.zero_le _) (fun r13 hr13 => ?_)
                refine cv_norm [k_StoreBuffer (ad 8) (ad 9) (ad 10) bfv, k_Bus (ad 25) (ad 1) (ad 2) (ad 5) (ad 8) (upd (upd (upd bsv 5 (bsv 1)) 1 (0 : Int32)) 4 (bsv 1))] rfl ?_
                refine cv_iadd K d_Bus_begin_110 ?_
                refine cv_put K d_Bus_begin_111 [k_StoreBuffer (ad 8) (ad 9) (ad 10) bfv, k_Bus (ad 25) (ad 1) (ad 2) (ad 5) (ad 8) (upd (upd (upd (upd bsv 5 (bsv 1)) 1 (0 : Int32)) 4 (bsv 1)) 3 (k + r13))] 1 7 rfl rfl in_Bus t_Bus o_Bus n_Bus (by decide) tm_229 rfl rfl rfl (Nat.le_of_ble_eq_true rfl) rfl ?_
                exact cv_retv K hm d_Bus_begin_114 ((upd (upd (upd (upd bsv 5 (bsv 1)) 1 (0 : Int32)) 4 (bsv 1)) 3 (k + r13))) (by rw [p_Bus_begin, if_neg (c := (bfv 0) ≤ (0 : Int32)) h1, if_pos (c := (bsv 5) = (0 : Int32)) h21, if_neg (c := (bsv 1) = (0 : Int32)) h22, if_pos (c := (bsv 4) = (4 : Int32)) h23, if_neg (c := (bsv 1) = (0 : Int32)) h24, if_pos (c := (1 : Int32) = (0 : Int32)) h25, if_pos (c := (1 : Int32) = (0 : Int32)) h26, ← hr13, p_Bus_begin_13]) rfl
        · refine cv_aload_n K 1 d_Bus_begin_43 rfl rfl ?_
          refine cv_get K d_Bus_begin_44 1 8 rfl rfl in_Bus (by decide) tm_230 rfl ?_
          refine cv_if_ne K d_Bus_begin_47 54 rfl (fun h27 => ?_) (fun h27 => ?_)
          · refine cv_iconst (v := 0) K d_Bus_begin_54 rfl ?_
            refine cv_istore_n K d_Bus_begin_55 [(3, .int (0 : Int32)), (2, .int (1 : Int32)), (0, .ref (ad 25)), (1, .int k)] rfl (by decide) rfl ?_
            refine cv_aload_n K 2 d_Bus_begin_56 rfl rfl ?_
            refine cv_get K d_Bus_begin_57 1 5 rfl rfl in_Bus (by decide) tm_227 rfl ?_
            refine cv_if_eq K d_Bus_begin_60 87 rfl (fun h28 => ?_) (fun h28 => ?_)
            · exact absurd h28 h22
            · refine cv_iload_n K 0 d_Bus_begin_63 rfl rfl ?_
              refine cv_if_ne K d_Bus_begin_64 71 rfl (fun h29 => ?_) (fun h29 => ?_)
              · refine cv_aload_n K 2 d_Bus_begin_71 rfl rfl ?_
                refine cv_aload_n K 2 d_Bus_begin_72 rfl rfl ?_
                refine cv_get K d_Bus_begin_73 1 5 rfl rfl in_Bus (by decide) tm_227 rfl ?_
                refine cv_put K d_Bus_begin_76 [k_StoreBuffer (ad 8) (ad 9) (ad 10) bfv, k_Bus (ad 25) (ad 1) (ad 2) (ad 5) (ad 8) (upd bsv 5 (bsv 1))] 1 9 rfl rfl in_Bus t_Bus o_Bus n_Bus (by decide) tm_231 rfl rfl rfl (Nat.le_of_ble_eq_true rfl) rfl ?_
                refine cv_aload_n K 2 d_Bus_begin_79 rfl rfl ?_
                refine cv_iconst (v := 0) K d_Bus_begin_80 rfl ?_
                refine cv_put K d_Bus_begin_81 [k_StoreBuffer (ad 8) (ad 9) (ad 10) bfv, k_Bus (ad 25) (ad 1) (ad 2) (ad 5) (ad 8) (upd (upd bsv 5 (bsv 1)) 1 (0 : Int32))] 1 5 rfl rfl in_Bus t_Bus o_Bus n_Bus (by decide) tm_227 rfl rfl rfl (Nat.le_of_ble_eq_true rfl) rfl ?_
                refine cv_goto K d_Bus_begin_84 92 rfl ?_
                refine cv_aload_n K 2 d_Bus_begin_92 rfl rfl ?_
                refine cv_aload_n K 2 d_Bus_begin_93 rfl rfl ?_
                refine cv_get K d_Bus_begin_94 1 9 rfl rfl in_Bus (by decide) tm_231 rfl ?_
                refine cv_put K d_Bus_begin_97 [k_StoreBuffer (ad 8) (ad 9) (ad 10) bfv, k_Bus (ad 25) (ad 1) (ad 2) (ad 5) (ad 8) (upd (upd (upd bsv 5 (bsv 1)) 1 (0 : Int32)) 4 (bsv 1))] 1 8 rfl rfl in_Bus t_Bus o_Bus n_Bus (by decide) tm_230 rfl rfl rfl (Nat.le_of_ble_eq_true rfl) rfl ?_
                refine cv_aload_n K 2 d_Bus_begin_100 rfl rfl ?_
                refine cv_iload_n K 3 d_Bus_begin_101 rfl rfl ?_
                refine cv_aload_n K 2 d_Bus_begin_102 rfl rfl ?_
                refine cv_aload_n K 2 d_Bus_begin_103 rfl rfl ?_
                refine cv_get K d_Bus_begin_104 1 9 rfl rfl in_Bus (by decide) tm_231 rfl ?_
                refine cv_callVi K (m_Bus_duration l dC dI tys ad ca n htys (upd (upd (upd bsv 5 (bsv 1)) 1 (0 : Int32)) 4 (bsv 1)) (bsv 1)) d_Bus_begin_107 (cw_V (n := 1) K.2.2.2.2.1 tm_591 tm_593 sm_6 tm_12 tm_594 rfl rfl ⟨rfl, wd_of (by decide +kernel) (by decide +kernel)⟩ ⟨Nat.le_of_ble_eq_true rfl, Nat.le_of_ble_eq_true rfl⟩) 1 rfl rfl [1] rfl rfl (fun _ => rfl) rfl rfl (Nat.le_of_ble_eq_true rfl) (Nat.zero_le _) (Nat.zero_le _) (fun r14 hr14 => ?_)
                refine cv_norm [k_StoreBuffer (ad 8) (ad 9) (ad 10) bfv, k_Bus (ad 25) (ad 1) (ad 2) (ad 5) (ad 8) (upd (upd (upd bsv 5 (bsv 1)) 1 (0 : Int32)) 4 (bsv 1))] rfl ?_
                refine cv_iadd K d_Bus_begin_110 ?_
                refine cv_put K d_Bus_begin_111 [k_StoreBuffer (ad 8) (ad 9) (ad 10) bfv, k_Bus (ad 25) (ad 1) (ad 2) (ad 5) (ad 8) (upd (upd (upd (upd bsv 5 (bsv 1)) 1 (0 : Int32)) 4 (bsv 1)) 3 (k + r14))] 1 7 rfl rfl in_Bus t_Bus o_Bus n_Bus (by decide) tm_229 rfl rfl rfl (Nat.le_of_ble_eq_true rfl) rfl ?_
                exact cv_retv K hm d_Bus_begin_114 ((upd (upd (upd (upd bsv 5 (bsv 1)) 1 (0 : Int32)) 4 (bsv 1)) 3 (k + r14))) (by rw [p_Bus_begin, if_neg (c := (bfv 0) ≤ (0 : Int32)) h1, if_pos (c := (bsv 5) = (0 : Int32)) h21, if_neg (c := (bsv 1) = (0 : Int32)) h22, if_neg (c := (bsv 4) = (4 : Int32)) h23, if_neg (c := (bsv 4) = (0 : Int32)) h27, if_neg (c := (bsv 1) = (0 : Int32)) h28, if_neg (c := (0 : Int32) = (0 : Int32)) h29, ← hr14, p_Bus_begin_14]) rfl
              · refine cv_iload_n K 1 d_Bus_begin_67 rfl rfl ?_
                refine cv_if_ne K d_Bus_begin_68 87 rfl (fun h30 => ?_) (fun h30 => ?_)
                · refine cv_aload_n K 2 d_Bus_begin_87 rfl rfl ?_
                  refine cv_iconst (v := 4) K d_Bus_begin_88 rfl ?_
                  refine cv_put K d_Bus_begin_89 [k_StoreBuffer (ad 8) (ad 9) (ad 10) bfv, k_Bus (ad 25) (ad 1) (ad 2) (ad 5) (ad 8) (upd bsv 5 (4 : Int32))] 1 9 rfl rfl in_Bus t_Bus o_Bus n_Bus (by decide) tm_231 rfl rfl rfl (Nat.le_of_ble_eq_true rfl) rfl ?_
                  refine cv_aload_n K 2 d_Bus_begin_92 rfl rfl ?_
                  refine cv_aload_n K 2 d_Bus_begin_93 rfl rfl ?_
                  refine cv_get K d_Bus_begin_94 1 9 rfl rfl in_Bus (by decide) tm_231 rfl ?_
                  refine cv_put K d_Bus_begin_97 [k_StoreBuffer (ad 8) (ad 9) (ad 10) bfv, k_Bus (ad 25) (ad 1) (ad 2) (ad 5) (ad 8) (upd (upd bsv 5 (4 : Int32)) 4 (4 : Int32))] 1 8 rfl rfl in_Bus t_Bus o_Bus n_Bus (by decide) tm_230 rfl rfl rfl (Nat.le_of_ble_eq_true rfl) rfl ?_
                  refine cv_aload_n K 2 d_Bus_begin_100 rfl rfl ?_
                  refine cv_iload_n K 3 d_Bus_begin_101 rfl rfl ?_
                  refine cv_aload_n K 2 d_Bus_begin_102 rfl rfl ?_
                  refine cv_aload_n K 2 d_Bus_begin_103 rfl rfl ?_
                  refine cv_get K d_Bus_begin_104 1 9 rfl rfl in_Bus (by decide) tm_231 rfl ?_
                  refine cv_callVi K (m_Bus_duration l dC dI tys ad ca n htys (upd (upd bsv 5 (4 : Int32)) 4 (4 : Int32)) (4 : Int32)) d_Bus_begin_107 (cw_V (n := 1) K.2.2.2.2.1 tm_591 tm_593 sm_6 tm_12 tm_594 rfl rfl ⟨rfl, wd_of (by decide +kernel) (by decide +kernel)⟩ ⟨Nat.le_of_ble_eq_true rfl, Nat.le_of_ble_eq_true rfl⟩) 1 rfl rfl [1] rfl rfl (fun _ => rfl) rfl rfl (Nat.le_of_ble_eq_true rfl) (Nat.zero_le _) (Nat.zero_le _) (fun r15 hr15 => ?_)
                  refine cv_norm [k_StoreBuffer (ad 8) (ad 9) (ad 10) bfv, k_Bus (ad 25) (ad 1) (ad 2) (ad 5) (ad 8) (upd (upd bsv 5 (4 : Int32)) 4 (4 : Int32))] rfl ?_
                  refine cv_iadd K d_Bus_begin_110 ?_
                  refine cv_put K d_Bus_begin_111 [k_StoreBuffer (ad 8) (ad 9) (ad 10) bfv, k_Bus (ad 25) (ad 1) (ad 2) (ad 5) (ad 8) (upd (upd (upd bsv 5 (4 : Int32)) 4 (4 : Int32)) 3 (k + r15))] 1 7 rfl rfl in_Bus t_Bus o_Bus n_Bus (by decide) tm_229 rfl rfl rfl (Nat.le_of_ble_eq_true rfl) rfl ?_
                  exact cv_retv K hm d_Bus_begin_114 ((upd (upd (upd bsv 5 (4 : Int32)) 4 (4 : Int32)) 3 (k + r15))) (by rw [p_Bus_begin, if_neg (c := (bfv 0) ≤ (0 : Int32)) h1, if_pos (c := (bsv 5) = (0 : Int32)) h21, if_neg (c := (bsv 1) = (0 : Int32)) h22, if_neg (c := (bsv 4) = (4 : Int32)) h23, if_neg (c := (bsv 4) = (0 : Int32)) h27, if_neg (c := (bsv 1) = (0 : Int32)) h28, if_pos (c := (0 : Int32) = (0 : Int32)) h29, if_neg (c := (1 : Int32) = (0 : Int32)) h30, ← hr15, p_Bus_begin_15]) rfl
                · refine cv_aload_n K 2 d_Bus_begin_71 rfl rfl ?_
                  refine cv_aload_n K 2 d_Bus_begin_72 rfl rfl ?_
                  refine cv_get K d_Bus_begin_73 1 5 rfl rfl in_Bus (by decide) tm_227 rfl ?_
                  refine cv_put K d_Bus_begin_76 [k_StoreBuffer (ad 8) (ad 9) (ad 10) bfv, k_Bus (ad 25) (ad 1) (ad 2) (ad 5) (ad 8) (upd bsv 5 (bsv 1))] 1 9 rfl rfl in_Bus t_Bus o_Bus n_Bus (by decide) tm_231 rfl rfl rfl (Nat.le_of_ble_eq_true rfl) rfl ?_
                  refine cv_aload_n K 2 d_Bus_begin_79 rfl rfl ?_
                  refine cv_iconst (v := 0) K d_Bus_begin_80 rfl ?_
                  refine cv_put K d_Bus_begin_81 [k_StoreBuffer (ad 8) (ad 9) (ad 10) bfv, k_Bus (ad 25) (ad 1) (ad 2) (ad 5) (ad 8) (upd (upd bsv 5 (bsv 1)) 1 (0 : Int32))] 1 5 rfl rfl in_Bus t_Bus o_Bus n_Bus (by decide) tm_227 rfl rfl rfl (Nat.le_of_ble_eq_true rfl) rfl ?_
                  refine cv_goto K d_Bus_begin_84 92 rfl ?_
                  refine cv_aload_n K 2 d_Bus_begin_92 rfl rfl ?_
                  refine cv_aload_n K 2 d_Bus_begin_93 rfl rfl ?_
                  refine cv_get K d_Bus_begin_94 1 9 rfl rfl in_Bus (by decide) tm_231 rfl ?_
                  refine cv_put K d_Bus_begin_97 [k_StoreBuffer (ad 8) (ad 9) (ad 10) bfv, k_Bus (ad 25) (ad 1) (ad 2) (ad 5) (ad 8) (upd (upd (upd bsv 5 (bsv 1)) 1 (0 : Int32)) 4 (bsv 1))] 1 8 rfl rfl in_Bus t_Bus o_Bus n_Bus (by decide) tm_230 rfl rfl rfl (Nat.le_of_ble_eq_true rfl) rfl ?_
                  refine cv_aload_n K 2 d_Bus_begin_100 rfl rfl ?_
                  refine cv_iload_n K 3 d_Bus_begin_101 rfl rfl ?_
                  refine cv_aload_n K 2 d_Bus_begin_102 rfl rfl ?_
                  refine cv_aload_n K 2 d_Bus_begin_103 rfl rfl ?_
                  refine cv_get K d_Bus_begin_104 1 9 rfl rfl in_Bus (by decide) tm_231 rfl ?_
                  refine cv_callVi K (m_Bus_duration l dC dI tys ad ca n htys (upd (upd (upd bsv 5 (bsv 1)) 1 (0 : Int32)) 4 (bsv 1)) (bsv 1)) d_Bus_begin_107 (cw_V (n := 1) K.2.2.2.2.1 tm_591 tm_593 sm_6 tm_12 tm_594 rfl rfl ⟨rfl, wd_of (by decide +kernel) (by decide +kernel)⟩ ⟨Nat.le_of_ble_eq_true rfl, Nat.le_of_ble_eq_true rfl⟩) 1 rfl rfl [1] rfl rfl (fun _ => rfl) rfl rfl (Nat.le_of_ble_eq_true rfl) (Nat.zero_le _) (Nat.zero_le _) (fun r16 hr16 => ?_)
                  refine cv_norm [k_StoreBuffer (ad 8) (ad 9) (ad 10) bfv, k_Bus (ad 25) (ad 1) (ad 2) (ad 5) (ad 8) (upd (upd (upd bsv 5 (bsv 1)) 1 (0 : Int32)) 4 (bsv 1))] rfl ?_
                  refine cv_iadd K d_Bus_begin_110 ?_
                  refine cv_put K d_Bus_begin_111 [k_StoreBuffer (ad 8) (ad 9) (ad 10) bfv, k_Bus (ad 25) (ad 1) (ad 2) (ad 5) (ad 8) (upd (upd (upd (upd bsv 5 (bsv 1)) 1 (0 : Int32)) 4 (bsv 1)) 3 (k + r16))] 1 7 rfl rfl in_Bus t_Bus o_Bus n_Bus (by decide) tm_229 rfl rfl rfl (Nat.le_of_ble_eq_true rfl) rfl ?_
                  exact cv_retv K hm d_Bus_begin_114 ((upd (upd (upd (upd bsv 5 (bsv 1)) 1 (0 : Int32)) 4 (bsv 1)) 3 (k + r16))) (by rw [p_Bus_begin, if_neg (c := (bfv 0) ≤ (0 : Int32)) h1, if_pos (c := (bsv 5) = (0 : Int32)) h21, if_neg (c := (bsv 1) = (0 : Int32)) h22, if_neg (c := (bsv 4) = (4 : Int32)) h23, if_neg (c := (bsv 4) = (0 : Int32)) h27, if_neg (c := (bsv 1) = (0 : Int32)) h28, if_pos (c := (0 : Int32) = (0 : Int32)) h29, if_pos (c := (1 : Int32) = (0 : Int32)) h30, ← hr16, p_Bus_begin_16]) rfl
          · refine cv_iconst (v := 1) K d_Bus_begin_50 rfl ?_
            refine cv_goto K d_Bus_begin_51 55 rfl ?_
            refine cv_istore_n K d_Bus_begin_55 [(3, .int (1 : Int32)), (2, .int (1 : Int32)), (0, .ref (ad 25)), (1, .int k)] rfl (by decide) rfl ?_
            refine cv_aload_n K 2 d_Bus_begin_56 rfl rfl ?_
            refine cv_get K d_Bus_begin_57 1 5 rfl rfl in_Bus (by decide) tm_227 rfl ?_
            refine cv_if_eq K d_Bus_begin_60 87 rfl (fun h31 => ?_) (fun h31 => ?_)
            · exact absurd h31 h22
            · refine cv_iload_n K 0 d_Bus_begin_63 rfl rfl ?_
              refine cv_if_ne K d_Bus_begin_64 71 rfl (fun h32 => ?_) (fun h32 => ?_)
              · refine cv_aload_n K 2 d_Bus_begin_71 rfl rfl ?_
                refine cv_aload_n K 2 d_Bus_begin_72 rfl rfl ?_
                refine cv_get K d_Bus_begin_73 1 5 rfl rfl in_Bus (by decide) tm_227 rfl ?_
                refine cv_put K d_Bus_begin_76 [k_StoreBuffer (ad 8) (ad 9) (ad 10) bfv, k_Bus (ad 25) (ad 1) (ad 2) (ad 5) (ad 8) (upd bsv 5 (bsv 1))] 1 9 rfl rfl in_Bus t_Bus o_Bus n_Bus (by decide) tm_231 rfl rfl rfl (Nat.le_of_ble_eq_true rfl) rfl ?_
                refine cv_aload_n K 2 d_Bus_begin_79 rfl rfl ?_
                refine cv_iconst (v := 0) K d_Bus_begin_80 rfl ?_
                refine cv_put K d_Bus_begin_81 [k_StoreBuffer (ad 8) (ad 9) (ad 10) bfv, k_Bus (ad 25) (ad 1) (ad 2) (ad 5) (ad 8) (upd (upd bsv 5 (bsv 1)) 1 (0 : Int32))] 1 5 rfl rfl in_Bus t_Bus o_Bus n_Bus (by decide) tm_227 rfl rfl rfl (Nat.le_of_ble_eq_true rfl) rfl ?_
                refine cv_goto K d_Bus_begin_84 92 rfl ?_
                refine cv_aload_n K 2 d_Bus_begin_92 rfl rfl ?_
                refine cv_aload_n K 2 d_Bus_begin_93 rfl rfl ?_
                refine cv_get K d_Bus_begin_94 1 9 rfl rfl in_Bus (by decide) tm_231 rfl ?_
                refine cv_put K d_Bus_begin_97 [k_StoreBuffer (ad 8) (ad 9) (ad 10) bfv, k_Bus (ad 25) (ad 1) (ad 2) (ad 5) (ad 8) (upd (upd (upd bsv 5 (bsv 1)) 1 (0 : Int32)) 4 (bsv 1))] 1 8 rfl rfl in_Bus t_Bus o_Bus n_Bus (by decide) tm_230 rfl rfl rfl (Nat.le_of_ble_eq_true rfl) rfl ?_
                refine cv_aload_n K 2 d_Bus_begin_100 rfl rfl ?_
                refine cv_iload_n K 3 d_Bus_begin_101 rfl rfl ?_
                refine cv_aload_n K 2 d_Bus_begin_102 rfl rfl ?_
                refine cv_aload_n K 2 d_Bus_begin_103 rfl rfl ?_
                refine cv_get K d_Bus_begin_104 1 9 rfl rfl in_Bus (by decide) tm_231 rfl ?_
                refine cv_callVi K (m_Bus_duration l dC dI tys ad ca n htys (upd (upd (upd bsv 5 (bsv 1)) 1 (0 : Int32)) 4 (bsv 1)) (bsv 1)) d_Bus_begin_107 (cw_V (n := 1) K.2.2.2.2.1 tm_591 tm_593 sm_6 tm_12 tm_594 rfl rfl ⟨rfl, wd_of (by decide +kernel) (by decide +kernel)⟩ ⟨Nat.le_of_ble_eq_true rfl, Nat.le_of_ble_eq_true rfl⟩) 1 rfl rfl [1] rfl rfl (fun _ => rfl) rfl rfl (Nat.le_of_ble_eq_true rfl) (Nat.zero_le _) (Nat.zero_le _) (fun r17 hr17 => ?_)
                refine cv_norm [k_StoreBuffer (ad 8) (ad 9) (ad 10) bfv, k_Bus (ad 25) (ad 1) (ad 2) (ad 5) (ad 8) (upd (upd (upd bsv 5 (bsv 1)) 1 (0 : Int32)) 4 (bsv 1))] rfl ?_
                refine cv_iadd K d_Bus_begin_110 ?_
                refine cv_put K d_Bus_begin_111 [k_StoreBuffer (ad 8) (ad 9) (ad 10) bfv, k_Bus (ad 25) (ad 1) (ad 2) (ad 5) (ad 8) (upd (upd (upd (upd bsv 5 (bsv 1)) 1 (0 : Int32)) 4 (bsv 1)) 3 (k + r17))] 1 7 rfl rfl in_Bus t_Bus o_Bus n_Bus (by decide) tm_229 rfl rfl rfl (Nat.le_of_ble_eq_true rfl) rfl ?_
                exact cv_retv K hm d_Bus_begin_114 ((upd (upd (upd (upd bsv 5 (bsv 1)) 1 (0 : Int32)) 4 (bsv 1)) 3 (k + r17))) (by rw [p_Bus_begin, if_neg (c := (bfv 0) ≤ (0 : Int32)) h1, if_pos (c := (bsv 5) = (0 : Int32)) h21, if_neg (c := (bsv 1) = (0 : Int32)) h22, if_neg (c := (bsv 4) = (4 : Int32)) h23, if_pos (c := (bsv 4) = (0 : Int32)) h27, if_neg (c := (bsv 1) = (0 : Int32)) h31, if_neg (c := (1 : Int32) = (0 : Int32)) h32, ← hr17, p_Bus_begin_17]) rfl
              · refine cv_iload_n K 1 d_Bus_begin_67 rfl rfl ?_
                refine cv_if_ne K d_Bus_begin_68 87 rfl (fun h33 => ?_) (fun h33 => ?_)
                · exact absurd h32 h33
                · refine cv_aload_n K 2 d_Bus_begin_71 rfl rfl ?_
                  refine cv_aload_n K 2 d_Bus_begin_72 rfl rfl ?_
                  refine cv_get K d_Bus_begin_73 1 5 rfl rfl in_Bus (by decide) tm_227 rfl ?_
                  refine cv_put K d_Bus_begin_76 [k_StoreBuffer (ad 8) (ad 9) (ad 10) bfv, k_Bus (ad 25) (ad 1) (ad 2) (ad 5) (ad 8) (upd bsv 5 (bsv 1))] 1 9 rfl rfl in_Bus t_Bus o_Bus n_Bus (by decide) tm_231 rfl rfl rfl (Nat.le_of_ble_eq_true rfl) rfl ?_
                  refine cv_aload_n K 2 d_Bus_begin_79 rfl rfl ?_
                  refine cv_iconst (v := 0) K d_Bus_begin_80 rfl ?_
                  refine cv_put K d_Bus_begin_81 [k_StoreBuffer (ad 8) (ad 9) (ad 10) bfv, k_Bus (ad 25) (ad 1) (ad 2) (ad 5) (ad 8) (upd (upd bsv 5 (bsv 1)) 1 (0 : Int32))] 1 5 rfl rfl in_Bus t_Bus o_Bus n_Bus (by decide) tm_227 rfl rfl rfl (Nat.le_of_ble_eq_true rfl) rfl ?_
                  refine cv_goto K d_Bus_begin_84 92 rfl ?_
                  refine cv_aload_n K 2 d_Bus_begin_92 rfl rfl ?_
                  refine cv_aload_n K 2 d_Bus_begin_93 rfl rfl ?_
                  refine cv_get K d_Bus_begin_94 1 9 rfl rfl in_Bus (by decide) tm_231 rfl ?_
                  refine cv_put K d_Bus_begin_97 [k_StoreBuffer (ad 8) (ad 9) (ad 10) bfv, k_Bus (ad 25) (ad 1) (ad 2) (ad 5) (ad 8) (upd (upd (upd bsv 5 (bsv 1)) 1 (0 : Int32)) 4 (bsv 1))] 1 8 rfl rfl in_Bus t_Bus o_Bus n_Bus (by decide) tm_230 rfl rfl rfl (Nat.le_of_ble_eq_true rfl) rfl ?_
                  refine cv_aload_n K 2 d_Bus_begin_100 rfl rfl ?_
                  refine cv_iload_n K 3 d_Bus_begin_101 rfl rfl ?_
                  refine cv_aload_n K 2 d_Bus_begin_102 rfl rfl ?_
                  refine cv_aload_n K 2 d_Bus_begin_103 rfl rfl ?_
                  refine cv_get K d_Bus_begin_104 1 9 rfl rfl in_Bus (by decide) tm_231 rfl ?_
                  refine cv_callVi K (m_Bus_duration l dC dI tys ad ca n htys (upd (upd (upd bsv 5 (bsv 1)) 1 (0 : Int32)) 4 (bsv 1)) (bsv 1)) d_Bus_begin_107 (cw_V (n := 1) K.2.2.2.2.1 tm_591 tm_593 sm_6 tm_12 tm_594 rfl rfl ⟨rfl, wd_of (by decide +kernel) (by decide +kernel)⟩ ⟨Nat.le_of_ble_eq_true rfl, Nat.le_of_ble_eq_true rfl⟩) 1 rfl rfl [1] rfl rfl (fun _ => rfl) rfl rfl (Nat.le_of_ble_eq_true rfl) (Nat.zero_le _) (Nat.zero_le _) (fun r18 hr18 => ?_)
                  refine cv_norm [k_StoreBuffer (ad 8) (ad 9) (ad 10) bfv, k_Bus (ad 25) (ad 1) (ad 2) (ad 5) (ad 8) (upd (upd (upd bsv 5 (bsv 1)) 1 (0 : Int32)) 4 (bsv 1))] rfl ?_
                  refine cv_iadd K d_Bus_begin_110 ?_
                  refine cv_put K d_Bus_begin_111 [k_StoreBuffer (ad 8) (ad 9) (ad 10) bfv, k_Bus (ad 25) (ad 1) (ad 2) (ad 5) (ad 8) (upd (upd (upd (upd bsv 5 (bsv 1)) 1 (0 : Int32)) 4 (bsv 1)) 3 (k + r18))] 1 7 rfl rfl in_Bus t_Bus o_Bus n_Bus (by decide) tm_229 rfl rfl rfl (Nat.le_of_ble_eq_true rfl) rfl ?_
                  exact cv_retv K hm d_Bus_begin_114 ((upd (upd (upd (upd bsv 5 (bsv 1)) 1 (0 : Int32)) 4 (bsv 1)) 3 (k + r18))) (by rw [p_Bus_begin, if_neg (c := (bfv 0) ≤ (0 : Int32)) h1, if_pos (c := (bsv 5) = (0 : Int32)) h21, if_neg (c := (bsv 1) = (0 : Int32)) h22, if_neg (c := (bsv 4) = (4 : Int32)) h23, if_pos (c := (bsv 4) = (0 : Int32)) h27, if_neg (c := (bsv 1) = (0 : Int32)) h31, if_pos (c := (1 : Int32) = (0 : Int32)) h32, if_pos (c := (1 : Int32) = (0 : Int32)) h33, ← hr18, p_Bus_begin_18]) rfl
      · refine cv_iload_n K 0 d_Bus_begin_30 rfl rfl ?_
        refine cv_if_ne K d_Bus_begin_31 35 rfl (fun h34 => ?_) (fun h34 => ?_)
        · refine cv_aload_n K 1 d_Bus_begin_35 rfl rfl ?_
          refine cv_get K d_Bus_begin_36 1 8 rfl rfl in_Bus (by decide) tm_230 rfl ?_
          refine cv_iconst (v := 4) K d_Bus_begin_39 rfl ?_
          refine cv_icmp_eq K d_Bus_begin_40 50 rfl (fun h35 => ?_) (fun h35 => ?_)
          · refine cv_iconst (v := 1) K d_Bus_begin_50 rfl ?_
            refine cv_goto K d_Bus_begin_51 55 rfl ?_
            refine cv_istore_n K d_Bus_begin_55 [(3, .int (1 : Int32)), (2, .int (1 : Int32)), (0, .ref (ad 25)), (1, .int k)] rfl (by decide) rfl ?_
            refine cv_aload_n K 2 d_Bus_begin_56 rfl rfl ?_
            refine cv_get K d_Bus_begin_57 1 5 rfl rfl in_Bus (by decide) tm_227 rfl ?_
            refine cv_if_eq K d_Bus_begin_60 87 rfl (fun h36 => ?_) (fun h36 => ?_)
            · refine cv_aload_n K 2 d_Bus_begin_87 rfl rfl ?_
              refine cv_iconst (v := 4) K d_Bus_begin_88 rfl ?_
              refine cv_put K d_Bus_begin_89 [k_StoreBuffer (ad 8) (ad 9) (ad 10) bfv, k_Bus (ad 25) (ad 1) (ad 2) (ad 5) (ad 8) (upd bsv 5 (4 : Int32))] 1 9 rfl rfl in_Bus t_Bus o_Bus n_Bus (by decide) tm_231 rfl rfl rfl (Nat.le_of_ble_eq_true rfl) rfl ?_
              refine cv_aload_n K 2 d_Bus_begin_92 rfl rfl ?_
              refine cv_aload_n K 2 d_Bus_begin_93 rfl rfl ?_
              refine cv_get K d_Bus_begin_94 1 9 rfl rfl in_Bus (by decide) tm_231 rfl ?_
              refine cv_put K d_Bus_begin_97 [k_StoreBuffer (ad 8) (ad 9) (ad 10) bfv, k_Bus (ad 25) (ad 1) (ad 2) (ad 5) (ad 8) (upd (upd bsv 5 (4 : Int32)) 4 (4 : Int32))] 1 8 rfl rfl in_Bus t_Bus o_Bus n_Bus (by decide) tm_230 rfl rfl rfl (Nat.le_of_ble_eq_true rfl) rfl ?_
              refine cv_aload_n K 2 d_Bus_begin_100 rfl rfl ?_
              refine cv_iload_n K 3 d_Bus_begin_101 rfl rfl ?_
              refine cv_aload_n K 2 d_Bus_begin_102 rfl rfl ?_
              refine cv_aload_n K 2 d_Bus_begin_103 rfl rfl ?_
              refine cv_get K d_Bus_begin_104 1 9 rfl rfl in_Bus (by decide) tm_231 rfl ?_
              refine cv_callVi K (m_Bus_duration l dC dI tys ad ca n htys (upd (upd bsv 5 (4 : Int32)) 4 (4 : Int32)) (4 : Int32)) d_Bus_begin_107 (cw_V (n := 1) K.2.2.2.2.1 tm_591 tm_593 sm_6 tm_12 tm_594 rfl rfl ⟨rfl, wd_of (by decide +kernel) (by decide +kernel)⟩ ⟨Nat.le_of_ble_eq_true rfl, Nat.le_of_ble_eq_true rfl⟩) 1 rfl rfl [1] rfl rfl (fun _ => rfl) rfl rfl (Nat.le_of_ble_eq_true rfl) (Nat.zero_le _) (Nat.zero_le _) (fun r19 hr19 => ?_)
              refine cv_norm [k_StoreBuffer (ad 8) (ad 9) (ad 10) bfv, k_Bus (ad 25) (ad 1) (ad 2) (ad 5) (ad 8) (upd (upd bsv 5 (4 : Int32)) 4 (4 : Int32))] rfl ?_
              refine cv_iadd K d_Bus_begin_110 ?_
              refine cv_put K d_Bus_begin_111 [k_StoreBuffer (ad 8) (ad 9) (ad 10) bfv, k_Bus (ad 25) (ad 1) (ad 2) (ad 5) (ad 8) (upd (upd (upd bsv 5 (4 : Int32)) 4 (4 : Int32)) 3 (k + r19))] 1 7 rfl rfl in_Bus t_Bus o_Bus n_Bus (by decide) tm_229 rfl rfl rfl (Nat.le_of_ble_eq_true rfl) rfl ?_
              exact cv_retv K hm d_Bus_begin_114 ((upd (upd (upd bsv 5 (4 : Int32)) 4 (4 : Int32)) 3 (k + r19))) (by rw [p_Bus_begin, if_neg (c := (bfv 0) ≤ (0 : Int32)) h1, if_pos (c := (bsv 5) = (0 : Int32)) h21, if_pos (c := (bsv 1) = (0 : Int32)) h22, if_neg (c := (1 : Int32) = (0 : Int32)) h34, if_pos (c := (bsv 4) = (4 : Int32)) h35, if_pos (c := (bsv 1) = (0 : Int32)) h36, ← hr19, p_Bus_begin_19]) rfl
            · exact absurd h22 h36
          · refine cv_aload_n K 1 d_Bus_begin_43 rfl rfl ?_
            refine cv_get K d_Bus_begin_44 1 8 rfl rfl in_Bus (by decide) tm_230 rfl ?_
            refine cv_if_ne K d_Bus_begin_47 54 rfl (fun h37 => ?_) (fun h37 => ?_)
            · refine cv_iconst (v := 0) K d_Bus_begin_54 rfl ?_
              refine cv_istore_n K d_Bus_begin_55 [(3, .int (0 : Int32)), (2, .int (1 : Int32)), (0, .ref (ad 25)), (1, .int k)] rfl (by decide) rfl ?_
              refine cv_aload_n K 2 d_Bus_begin_56 rfl rfl ?_
              refine cv_get K d_Bus_begin_57 1 5 rfl rfl in_Bus (by decide) tm_227 rfl ?_
              refine cv_if_eq K d_Bus_begin_60 87 rfl (fun h38 => ?_) (fun h38 => ?_)
              · refine cv_aload_n K 2 d_Bus_begin_87 rfl rfl ?_
                refine cv_iconst (v := 4) K d_Bus_begin_88 rfl ?_
                refine cv_put K d_Bus_begin_89 [k_StoreBuffer (ad 8) (ad 9) (ad 10) bfv, k_Bus (ad 25) (ad 1) (ad 2) (ad 5) (ad 8) (upd bsv 5 (4 : Int32))] 1 9 rfl rfl in_Bus t_Bus o_Bus n_Bus (by decide) tm_231 rfl rfl rfl (Nat.le_of_ble_eq_true rfl) rfl ?_
                refine cv_aload_n K 2 d_Bus_begin_92 rfl rfl ?_
                refine cv_aload_n K 2 d_Bus_begin_93 rfl rfl ?_
                refine cv_get K d_Bus_begin_94 1 9 rfl rfl in_Bus (by decide) tm_231 rfl ?_
                refine cv_put K d_Bus_begin_97 [k_StoreBuffer (ad 8) (ad 9) (ad 10) bfv, k_Bus (ad 25) (ad 1) (ad 2) (ad 5) (ad 8) (upd (upd bsv 5 (4 : Int32)) 4 (4 : Int32))] 1 8 rfl rfl in_Bus t_Bus o_Bus n_Bus (by decide) tm_230 rfl rfl rfl (Nat.le_of_ble_eq_true rfl) rfl ?_
                refine cv_aload_n K 2 d_Bus_begin_100 rfl rfl ?_
                refine cv_iload_n K 3 d_Bus_begin_101 rfl rfl ?_
                refine cv_aload_n K 2 d_Bus_begin_102 rfl rfl ?_
                refine cv_aload_n K 2 d_Bus_begin_103 rfl rfl ?_
                refine cv_get K d_Bus_begin_104 1 9 rfl rfl in_Bus (by decide) tm_231 rfl ?_
                refine cv_callVi K (m_Bus_duration l dC dI tys ad ca n htys (upd (upd bsv 5 (4 : Int32)) 4 (4 : Int32)) (4 : Int32)) d_Bus_begin_107 (cw_V (n := 1) K.2.2.2.2.1 tm_591 tm_593 sm_6 tm_12 tm_594 rfl rfl ⟨rfl, wd_of (by decide +kernel) (by decide +kernel)⟩ ⟨Nat.le_of_ble_eq_true rfl, Nat.le_of_ble_eq_true rfl⟩) 1 rfl rfl [1] rfl rfl (fun _ => rfl) rfl rfl (Nat.le_of_ble_eq_true rfl) (Nat.zero_le _) (Nat.zero_le _) (fun r20 hr20 => ?_)
                refine cv_norm [k_StoreBuffer (ad 8) (ad 9) (ad 10) bfv, k_Bus (ad 25) (ad 1) (ad 2) (ad 5) (ad 8) (upd (upd bsv 5 (4 : Int32)) 4 (4 : Int32))] rfl ?_
                refine cv_iadd K d_Bus_begin_110 ?_
                refine cv_put K d_Bus_begin_111 [k_StoreBuffer (ad 8) (ad 9) (ad 10) bfv, k_Bus (ad 25) (ad 1) (ad 2) (ad 5) (ad 8) (upd (upd (upd bsv 5 (4 : Int32)) 4 (4 : Int32)) 3 (k + r20))] 1 7 rfl rfl in_Bus t_Bus o_Bus n_Bus (by decide) tm_229 rfl rfl rfl (Nat.le_of_ble_eq_true rfl) rfl ?_
                exact cv_retv K hm d_Bus_begin_114 ((upd (upd (upd bsv 5 (4 : Int32)) 4 (4 : Int32)) 3 (k + r20))) (by rw [p_Bus_begin, if_neg (c := (bfv 0) ≤ (0 : Int32)) h1, if_pos (c := (bsv 5) = (0 : Int32)) h21, if_pos (c := (bsv 1) = (0 : Int32)) h22, if_neg (c := (1 : Int32) = (0 : Int32)) h34, if_neg (c := (bsv 4) = (4 : Int32)) h35, if_neg (c := (bsv 4) = (0 : Int32)) h37, if_pos (c := (bsv 1) = (0 : Int32)) h38, ← hr20, p_Bus_begin_20]) rfl
              · exact absurd h22 h38
            · refine cv_iconst (v := 1) K d_Bus_begin_50 rfl ?_
              refine cv_goto K d_Bus_begin_51 55 rfl ?_
              refine cv_istore_n K d_Bus_begin_55 [(3, .int (1 : Int32)), (2, .int (1 : Int32)), (0, .ref (ad 25)), (1, .int k)] rfl (by decide) rfl ?_
              refine cv_aload_n K 2 d_Bus_begin_56 rfl rfl ?_
              refine cv_get K d_Bus_begin_57 1 5 rfl rfl in_Bus (by decide) tm_227 rfl ?_
              refine cv_if_eq K d_Bus_begin_60 87 rfl (fun h39 => ?_) (fun h39 => ?_)
              · refine cv_aload_n K 2 d_Bus_begin_87 rfl rfl ?_
                refine cv_iconst (v := 4) K d_Bus_begin_88 rfl ?_
                refine cv_put K d_Bus_begin_89 [k_StoreBuffer (ad 8) (ad 9) (ad 10) bfv, k_Bus (ad 25) (ad 1) (ad 2) (ad 5) (ad 8) (upd bsv 5 (4 : Int32))] 1 9 rfl rfl in_Bus t_Bus o_Bus n_Bus (by decide) tm_231 rfl rfl rfl (Nat.le_of_ble_eq_true rfl) rfl ?_
                refine cv_aload_n K 2 d_Bus_begin_92 rfl rfl ?_
                refine cv_aload_n K 2 d_Bus_begin_93 rfl rfl ?_
                refine cv_get K d_Bus_begin_94 1 9 rfl rfl in_Bus (by decide) tm_231 rfl ?_
                refine cv_put K d_Bus_begin_97 [k_StoreBuffer (ad 8) (ad 9) (ad 10) bfv, k_Bus (ad 25) (ad 1) (ad 2) (ad 5) (ad 8) (upd (upd bsv 5 (4 : Int32)) 4 (4 : Int32))] 1 8 rfl rfl in_Bus t_Bus o_Bus n_Bus (by decide) tm_230 rfl rfl rfl (Nat.le_of_ble_eq_true rfl) rfl ?_
                refine cv_aload_n K 2 d_Bus_begin_100 rfl rfl ?_
                refine cv_iload_n K 3 d_Bus_begin_101 rfl rfl ?_
                refine cv_aload_n K 2 d_Bus_begin_102 rfl rfl ?_
                refine cv_aload_n K 2 d_Bus_begin_103 rfl rfl ?_
                refine cv_get K d_Bus_begin_104 1 9 rfl rfl in_Bus (by decide) tm_231 rfl ?_
                refine cv_callVi K (m_Bus_duration l dC dI tys ad ca n htys (upd (upd bsv 5 (4 : Int32)) 4 (4 : Int32)) (4 : Int32)) d_Bus_begin_107 (cw_V (n := 1) K.2.2.2.2.1 tm_591 tm_593 sm_6 tm_12 tm_594 rfl rfl ⟨rfl, wd_of (by decide +kernel) (by decide +kernel)⟩ ⟨Nat.le_of_ble_eq_true rfl, Nat.le_of_ble_eq_true rfl⟩) 1 rfl rfl [1] rfl rfl (fun _ => rfl) rfl rfl (Nat.le_of_ble_eq_true rfl) (Nat.zero_le _) (Nat.zero_le _) (fun r21 hr21 => ?_)
                refine cv_norm [k_StoreBuffer (ad 8) (ad 9) (ad 10) bfv, k_Bus (ad 25) (ad 1) (ad 2) (ad 5) (ad 8) (upd (upd bsv 5 (4 : Int32)) 4 (4 : Int32))] rfl ?_
                refine cv_iadd K d_Bus_begin_110 ?_
                refine cv_put K d_Bus_begin_111 [k_StoreBuffer (ad 8) (ad 9) (ad 10) bfv, k_Bus (ad 25) (ad 1) (ad 2) (ad 5) (ad 8) (upd (upd (upd bsv 5 (4 : Int32)) 4 (4 : Int32)) 3 (k + r21))] 1 7 rfl rfl in_Bus t_Bus o_Bus n_Bus (by decide) tm_229 rfl rfl rfl (Nat.le_of_ble_eq_true rfl) rfl ?_
                exact cv_retv K hm d_Bus_begin_114 ((upd (upd (upd bsv 5 (4 : Int32)) 4 (4 : Int32)) 3 (k + r21))) (by rw [p_Bus_begin, if_neg (c := (bfv 0) ≤ (0 : Int32)) h1, if_pos (c := (bsv 5) = (0 : Int32)) h21, if_pos (c := (bsv 1) = (0 : Int32)) h22, if_neg (c := (1 : Int32) = (0 : Int32)) h34, if_neg (c := (bsv 4) = (4 : Int32)) h35, if_pos (c := (bsv 4) = (0 : Int32)) h37, if_pos (c := (bsv 1) = (0 : Int32)) h39, ← hr21, p_Bus_begin_21]) rfl
              · exact absurd h22 h39
        · exact cv_retv K hm d_Bus_begin_34 (bsv) (by rw [p_Bus_begin, if_neg (c := (bfv 0) ≤ (0 : Int32)) h1, if_pos (c := (bsv 5) = (0 : Int32)) h21, if_pos (c := (bsv 1) = (0 : Int32)) h22, if_pos (c := (1 : Int32) = (0 : Int32)) h34]) rfl
-- CycleChip$Bus.finish(I)I
def p_Bus_finish_1 (mem : Nat → Int32) (cdv : Nat → Int32) (cdB : Nat → Int32) (cdW : Nat → Int32) (dtv : Nat → Int32) (dtB : Nat → Int32) (dtW : Nat → Int32) (bfv : Nat → Int32) (bfP : Nat → Int32) (bfV : Nat → Int32) (bsv : Nat → Int32) (k : Int32) (r1 : (Nat → Int32) × (Nat → Int32)) : Int32 × (Nat → Int32) × (Nat → Int32) × (Nat → Int32) × (Nat → Int32) × (Nat → Int32) × (Nat → Int32) × (Nat → Int32) × (Nat → Int32) × (Nat → Int32) := (bsv 5, mem, cdB, cdW, r1.1, r1.2, bfv, bfP, bfV, (upd bsv 5 (0 : Int32)))
def p_Bus_finish_2 (mem : Nat → Int32) (cdv : Nat → Int32) (cdB : Nat → Int32) (cdW : Nat → Int32) (dtv : Nat → Int32) (dtB : Nat → Int32) (dtW : Nat → Int32) (bfv : Nat → Int32) (bfP : Nat → Int32) (bfV : Nat → Int32) (bsv : Nat → Int32) (k : Int32) (r2 : (Nat → Int32) × (Nat → Int32)) : Int32 × (Nat → Int32) × (Nat → Int32) × (Nat → Int32) × (Nat → Int32) × (Nat → Int32) × (Nat → Int32) × (Nat → Int32) × (Nat → Int32) × (Nat → Int32) := (bsv 5, mem, r2.1, r2.2, dtB, dtW, bfv, bfP, bfV, (upd bsv 5 (0 : Int32)))
def p_Bus_finish_3 (mem : Nat → Int32) (cdv : Nat → Int32) (cdB : Nat → Int32) (cdW : Nat → Int32) (dtv : Nat → Int32) (dtB : Nat → Int32) (dtW : Nat → Int32) (bfv : Nat → Int32) (bfP : Nat → Int32) (bfV : Nat → Int32) (bsv : Nat → Int32) (k : Int32) (r3 : (Nat → Int32) × (Nat → Int32) × (Nat → Int32) × (Nat → Int32)) : Int32 × (Nat → Int32) × (Nat → Int32) × (Nat → Int32) × (Nat → Int32) × (Nat → Int32) × (Nat → Int32) × (Nat → Int32) × (Nat → Int32) × (Nat → Int32) := (bsv 5, r3.2.2.2, cdB, cdW, dtB, dtW, r3.1, r3.2.1, r3.2.2.1, (upd bsv 5 (0 : Int32)))
def p_Bus_finish (mem : Nat → Int32) (cdv : Nat → Int32) (cdB : Nat → Int32) (cdW : Nat → Int32) (dtv : Nat → Int32) (dtB : Nat → Int32) (dtW : Nat → Int32) (bfv : Nat → Int32) (bfP : Nat → Int32) (bfV : Nat → Int32) (bsv : Nat → Int32) (k : Int32) : Int32 × (Nat → Int32) × (Nat → Int32) × (Nat → Int32) × (Nat → Int32) × (Nat → Int32) × (Nat → Int32) × (Nat → Int32) × (Nat → Int32) × (Nat → Int32) := if (bsv 5) = (0 : Int32) then ((0 : Int32), mem, cdB, cdW, dtB, dtW, bfv, bfP, bfV, bsv) else if (bsv 3) = k then if (bsv 5) = (4 : Int32) then p_Bus_finish_3 mem cdv cdB cdW dtv dtB dtW bfv bfP bfV bsv k (p_StoreBuffer_writeOldest bfv bfP bfV mem) else if (bsv 5) = (1 : Int32) then p_Bus_finish_2 mem cdv cdB cdW dtv dtB dtW bfv bfP bfV bsv k (p_Cache_fill cdv cdB cdW mem (bsv 2)) else if (bsv 5) = (2 : Int32) then p_Bus_finish_1 mem cdv cdB cdW dtv dtB dtW bfv bfP bfV bsv k (p_Cache_fill dtv dtB dtW mem (bsv 2)) else (bsv 5, mem, cdB, cdW, dtB, dtW, bfv, bfP, bfV, (upd bsv 5 (0 : Int32))) else ((0 : Int32), mem, cdB, cdW, dtB, dtW, bfv, bfP, bfV, bsv)
set_option maxRecDepth 100000 in
set_option maxHeartbeats 4000000 in
theorem m_Bus_finish (l : Launch) (dC : Nat → ClassId) (dI : Nat → Nat → Nat) (tys : List (ClassId × FieldType)) (ad : Nat → Nat) (ca : Nat → ClassId) (n : Nat) (htys : ∀ k, k < 17 → tys[k]? = some (ca k, .int)) (mem : Nat → Int32) (cdv : Nat → Int32) (cdB : Nat → Int32) (cdW : Nat → Int32) (dtv : Nat → Int32) (dtB : Nat → Int32) (dtW : Nat → Int32) (bfv : Nat → Int32) (bfP : Nat → Int32) (bfV : Nat → Int32) (bsv : Nat → Int32) (k : Int32) (hlc : cdv 0 = nI n) (hld : dtv 0 = nI n) (hn : 0 < n) (hn8 : n ≤ 8) (hbq : vp_in (bfP 0) 128) (hbb : ∃ j : Nat, j < 32 ∧ bsv 2 = nI j) : cv_Mi l y_Bus_finish (Cond.code y_Bus_finish c_Bus_finish 3 (some .int) :: gw) { frames := 2, cells := 0, slots := 0, locals := 82 } (dC, dI) vwCl tys [.ref (ad 25), .int k] [k_arr (ad 1) (ca 0) 128 mem, k_Cache (ad 2) (ad 3) (ad 4) cdv, k_arr (ad 3) (ca 1) n cdB, k_arr (ad 4) (ca 2) (4 * n) cdW, k_Cache (ad 5) (ad 6) (ad 7) dtv, k_arr (ad 6) (ca 3) n dtB, k_arr (ad 7) (ca 4) (4 * n) dtW, k_StoreBuffer (ad 8) (ad 9) (ad 10) bfv, k_arr (ad 9) (ca 5) 2 bfP, k_arr (ad 10) (ca 6) 2 bfV, k_Bus (ad 25) (ad 1) (ad 2) (ad 5) (ad 8) bsv] (p_Bus_finish mem cdv cdB cdW dtv dtB dtW bfv bfP bfV bsv k) (fun r => r.1) (fun r => [k_arr (ad 1) (ca 0) 128 r.2.1, k_Cache (ad 2) (ad 3) (ad 4) cdv, k_arr (ad 3) (ca 1) n r.2.2.1, k_arr (ad 4) (ca 2) (4 * n) r.2.2.2.1, k_Cache (ad 5) (ad 6) (ad 7) dtv, k_arr (ad 6) (ca 3) n r.2.2.2.2.1, k_arr (ad 7) (ca 4) (4 * n) r.2.2.2.2.2.1, k_StoreBuffer (ad 8) (ad 9) (ad 10) r.2.2.2.2.2.2.1, k_arr (ad 9) (ca 5) 2 r.2.2.2.2.2.2.2.1, k_arr (ad 10) (ca 6) 2 r.2.2.2.2.2.2.2.2.1, k_Bus (ad 25) (ad 1) (ad 2) (ad 5) (ad 8) r.2.2.2.2.2.2.2.2.2]) := by
  refine cv_starti (by decide) (Nat.le_of_ble_eq_true rfl) [(0, .ref (ad 25)), (1, .int k)] rfl ?_
  intro p e s m below meth c A K hm
  refine cv_aload_n K 0 d_Bus_finish_0 rfl rfl ?_
  refine cv_get K d_Bus_finish_1 10 9 rfl rfl in_Bus (by decide) tm_231 rfl ?_
  refine cv_if_eq K d_Bus_finish_4 15 rfl (fun h1 => ?_) (fun h1 => ?_)
  · refine cv_iconst (v := 0) K d_Bus_finish_15 rfl ?_
    exact cv_reti K hm d_Bus_finish_16 (((0 : Int32), mem, cdB, cdW, dtB, dtW, bfv, bfP, bfV, bsv)) (by rw [p_Bus_finish, if_pos (c := (bsv 5) = (0 : Int32)) h1]) rfl rfl
  · refine cv_aload_n K 0 d_Bus_finish_7 rfl rfl ?_
    refine cv_get K d_Bus_finish_8 10 7 rfl rfl in_Bus (by decide) tm_229 rfl ?_
    refine cv_iload_n K 1 d_Bus_finish_11 rfl rfl ?_
    refine cv_icmp_eq K d_Bus_finish_12 17 rfl (fun h2 => ?_) (fun h2 => ?_)
    · refine cv_aload_n K 0 d_Bus_finish_17 rfl rfl ?_
      refine cv_get K d_Bus_finish_18 10 9 rfl rfl in_Bus (by decide) tm_231 rfl ?_
      refine cv_istore_n K d_Bus_finish_21 [(2, .int (bsv 5)), (0, .ref (ad 25)), (1, .int k)] rfl (by decide) rfl ?_
      refine cv_aload_n K 1 d_Bus_finish_22 rfl rfl ?_
      refine cv_iconst (v := 0) K d_Bus_finish_23 rfl ?_
      refine cv_put K d_Bus_finish_24 [k_arr (ad 1) (ca 0) 128 mem, k_Cache (ad 2) (ad 3) (ad 4) cdv, k_arr (ad 3) (ca 1) n cdB, k_arr (ad 4) (ca 2) (4 * n) cdW, k_Cache (ad 5) (ad 6) (ad 7) dtv, k_arr (ad 6) (ca 3) n dtB, k_arr (ad 7) (ca 4) (4 * n) dtW, k_StoreBuffer (ad 8) (ad 9) (ad 10) bfv, k_arr (ad 9) (ca 5) 2 bfP, k_arr (ad 10) (ca 6) 2 bfV, k_Bus (ad 25) (ad 1) (ad 2) (ad 5) (ad 8) (upd bsv 5 (0 : Int32))] 10 9 rfl rfl in_Bus t_Bus o_Bus n_Bus (by decide) tm_231 rfl rfl rfl (Nat.le_of_ble_eq_true rfl) rfl ?_
      refine cv_iload_n K 0 d_Bus_finish_27 rfl rfl ?_
      refine cv_iconst (v := 4) K d_Bus_finish_28 rfl ?_
      refine cv_icmp_ne K d_Bus_finish_29 46 rfl (fun h3 => ?_) (fun h3 => ?_)
      · refine cv_iload_n K 0 d_Bus_finish_46 rfl rfl ?_
        refine cv_iconst (v := 1) K d_Bus_finish_47 rfl ?_
        refine cv_icmp_ne K d_Bus_finish_48 69 rfl (fun h4 => ?_) (fun h4 => ?_)
        · refine cv_iload_n K 0 d_Bus_finish_69 rfl rfl ?_
          refine cv_iconst (v := 2) K d_Bus_finish_70 rfl ?_
          refine cv_icmp_ne K d_Bus_finish_71 89 rfl (fun h5 => ?_) (fun h5 => ?_)
          · refine cv_iload_n K 0 d_Bus_finish_89 rfl rfl ?_
            exact cv_reti K hm d_Bus_finish_90 ((bsv 5, mem, cdB, cdW, dtB, dtW, bfv, bfP, bfV, (upd bsv 5 (0 : Int32)))) (by rw [p_Bus_finish, if_neg (c := (bsv 5) = (0 : Int32)) h1, if_pos (c := (bsv 3) = k) h2, if_neg (c := (bsv 5) = (4 : Int32)) h3, if_neg (c := (bsv 5) = (1 : Int32)) h4, if_neg (c := (bsv 5) = (2 : Int32)) h5]) rfl rfl
          · refine cv_aload_n K 1 d_Bus_finish_74 rfl rfl ?_
            refine cv_get K d_Bus_finish_75 10 3 rfl rfl in_Bus (by decide) tm_225 rfl ?_
            refine cv_aload_n K 1 d_Bus_finish_78 rfl rfl ?_
            refine cv_get K d_Bus_finish_79 10 6 rfl rfl in_Bus (by decide) tm_228 rfl ?_
            refine cv_aload_n K 1 d_Bus_finish_82 rfl rfl ?_
            refine cv_get K d_Bus_finish_83 10 1 rfl rfl in_Bus (by decide) tm_223 rfl ?_
            refine cv_callVv K (m_Cache_fill l dC dI tys (ad 5) (ad 6) (ad 7) (ad 1) (ca 3) 3 (htys 3 (by decide)) (ca 4) 4 (htys 4 (by decide)) (ca 0) 0 (htys 0 (by decide)) n dtv dtB dtW mem (bsv 2) hld hn hn8 hbb) d_Bus_finish_86 (cw_V (n := 2) K.2.2.2.2.1 tm_523 tm_524 tm_525 tm_9 tm_526 rfl rfl ⟨rfl, wd_of (by decide +kernel) (by decide +kernel)⟩ ⟨Nat.le_of_ble_eq_true rfl, Nat.le_of_ble_eq_true rfl⟩) 4 rfl rfl [4, 5, 6, 0] rfl rfl (fun _ => rfl) rfl rfl (Nat.le_of_ble_eq_true rfl) (Nat.zero_le _) (Nat.zero_le _) (fun r1 hr1 => ?_)
            refine cv_norm [k_arr (ad 1) (ca 0) 128 mem, k_Cache (ad 2) (ad 3) (ad 4) cdv, k_arr (ad 3) (ca 1) n cdB, k_arr (ad 4) (ca 2) (4 * n) cdW, k_Cache (ad 5) (ad 6) (ad 7) dtv, k_arr (ad 6) (ca 3) n r1.1, k_arr (ad 7) (ca 4) (4 * n) r1.2, k_StoreBuffer (ad 8) (ad 9) (ad 10) bfv, k_arr (ad 9) (ca 5) 2 bfP, k_arr (ad 10) (ca 6) 2 bfV, k_Bus (ad 25) (ad 1) (ad 2) (ad 5) (ad 8) (upd bsv 5 (0 : Int32))] rfl ?_
            refine cv_iload_n K 0 d_Bus_finish_89 rfl rfl ?_
            exact cv_reti K hm d_Bus_finish_90 ((bsv 5, mem, cdB, cdW, r1.1, r1.2, bfv, bfP, bfV, (upd bsv 5 (0 : Int32)))) (by rw [p_Bus_finish, if_neg (c := (bsv 5) = (0 : Int32)) h1, if_pos (c := (bsv 3) = k) h2, if_neg (c := (bsv 5) = (4 : Int32)) h3, if_neg (c := (bsv 5) = (1 : Int32)) h4, if_pos (c := (bsv 5) = (2 : Int32)) h5, ← hr1, p_Bus_finish_1]) rfl rfl
        · refine cv_aload_n K 1 d_Bus_finish_51 rfl rfl ?_
          refine cv_get K d_Bus_finish_52 10 2 rfl rfl in_Bus (by decide) tm_224 rfl ?_
          refine cv_aload_n K 1 d_Bus_finish_55 rfl rfl ?_
          refine cv_get K d_Bus_finish_56 10 6 rfl rfl in_Bus (by decide) tm_228 rfl ?_
          refine cv_aload_n K 1 d_Bus_finish_59 rfl rfl ?_
          refine cv_get K d_Bus_finish_60 10 1 rfl rfl in_Bus (by decide) tm_223 rfl ?_
          refine cv_callVv K (m_Cache_fill l dC dI tys (ad 2) (ad 3) (ad 4) (ad 1) (ca 1) 1 (htys 1 (by decide)) (ca 2) 2 (htys 2 (by decide)) (ca 0) 0 (htys 0 (by decide)) n cdv cdB cdW mem (bsv 2) hlc hn hn8 hbb) d_Bus_finish_63 (cw_V (n := 2) K.2.2.2.2.1 tm_523 tm_524 tm_525 tm_9 tm_526 rfl rfl ⟨rfl, wd_of (by decide +kernel) (by decide +kernel)⟩ ⟨Nat.le_of_ble_eq_true rfl, Nat.le_of_ble_eq_true rfl⟩) 1 rfl rfl [1, 2, 3, 0] rfl rfl (fun _ => rfl) rfl rfl (Nat.le_of_ble_eq_true rfl) (Nat.zero_le _) (Nat.zero_le _) (fun r2 hr2 => ?_)
          refine cv_norm [k_arr (ad 1) (ca 0) 128 mem, k_Cache (ad 2) (ad 3) (ad 4) cdv, k_arr (ad 3) (ca 1) n r2.1, k_arr (ad 4) (ca 2) (4 * n) r2.2, k_Cache (ad 5) (ad 6) (ad 7) dtv, k_arr (ad 6) (ca 3) n dtB, k_arr (ad 7) (ca 4) (4 * n) dtW, k_StoreBuffer (ad 8) (ad 9) (ad 10) bfv, k_arr (ad 9) (ca 5) 2 bfP, k_arr (ad 10) (ca 6) 2 bfV, k_Bus (ad 25) (ad 1) (ad 2) (ad 5) (ad 8) (upd bsv 5 (0 : Int32))] rfl ?_
          refine cv_goto K d_Bus_finish_66 89 rfl ?_
          refine cv_iload_n K 0 d_Bus_finish_89 rfl rfl ?_
          exact cv_reti K hm d_Bus_finish_90 ((bsv 5, mem, r2.1, r2.2, dtB, dtW, bfv, bfP, bfV, (upd bsv 5 (0 : Int32)))) (by rw [p_Bus_finish, if_neg (c := (bsv 5) = (0 : Int32)) h1, if_pos (c := (bsv 3) = k) h2, if_neg (c := (bsv 5) = (4 : Int32)) h3, if_pos (c := (bsv 5) = (1 : Int32)) h4, ← hr2, p_Bus_finish_2]) rfl rfl
      · refine cv_aload_n K 1 d_Bus_finish_32 rfl rfl ?_
        refine cv_get K d_Bus_finish_33 10 4 rfl rfl in_Bus (by decide) tm_226 rfl ?_
        refine cv_aload_n K 1 d_Bus_finish_36 rfl rfl ?_
        refine cv_get K d_Bus_finish_37 10 1 rfl rfl in_Bus (by decide) tm_223 rfl ?_
        refine cv_callVv K (m_StoreBuffer_writeOldest l dC dI tys (ad 8) (ad 9) (ad 10) (ad 1) (ca 5) 5 (htys 5 (by decide)) (ca 6) 6 (htys 6 (by decide)) (ca 0) 0 (htys 0 (by decide)) bfv bfP bfV mem hbq) d_Bus_finish_40 (cw_V (n := 1) K.2.2.2.2.1 tm_519 tm_520 tm_521 tm_2 tm_522 rfl rfl ⟨rfl, wd_of (by decide +kernel) (by decide +kernel)⟩ ⟨Nat.le_of_ble_eq_true rfl, Nat.le_of_ble_eq_true rfl⟩) 7 rfl rfl [7, 8, 9, 0] rfl rfl (fun _ => rfl) rfl rfl (Nat.le_of_ble_eq_true rfl) (Nat.zero_le _) (Nat.zero_le _) (fun r3 hr3 => ?_)
        refine cv_norm [k_arr (ad 1) (ca 0) 128 r3.2.2.2, k_Cache (ad 2) (ad 3) (ad 4) cdv, k_arr (ad 3) (ca 1) n cdB, k_arr (ad 4) (ca 2) (4 * n) cdW, k_Cache (ad 5) (ad 6) (ad 7) dtv, k_arr (ad 6) (ca 3) n dtB, k_arr (ad 7) (ca 4) (4 * n) dtW, k_StoreBuffer (ad 8) (ad 9) (ad 10) r3.1, k_arr (ad 9) (ca 5) 2 r3.2.1, k_arr (ad 10) (ca 6) 2 r3.2.2.1, k_Bus (ad 25) (ad 1) (ad 2) (ad 5) (ad 8) (upd bsv 5 (0 : Int32))] rfl ?_
        refine cv_goto K d_Bus_finish_43 89 rfl ?_
        refine cv_iload_n K 0 d_Bus_finish_89 rfl rfl ?_
        exact cv_reti K hm d_Bus_finish_90 ((bsv 5, r3.2.2.2, cdB, cdW, dtB, dtW, r3.1, r3.2.1, r3.2.2.1, (upd bsv 5 (0 : Int32)))) (by rw [p_Bus_finish, if_neg (c := (bsv 5) = (0 : Int32)) h1, if_pos (c := (bsv 3) = k) h2, if_pos (c := (bsv 5) = (4 : Int32)) h3, ← hr3, p_Bus_finish_3]) rfl rfl
    · refine cv_iconst (v := 0) K d_Bus_finish_15 rfl ?_
      exact cv_reti K hm d_Bus_finish_16 (((0 : Int32), mem, cdB, cdW, dtB, dtW, bfv, bfP, bfV, bsv)) (by rw [p_Bus_finish, if_neg (c := (bsv 5) = (0 : Int32)) h1, if_neg (c := (bsv 3) = k) h2]) rfl rfl
