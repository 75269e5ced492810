set_option maxRecDepth 100000 in
set_option maxHeartbeats 4000000 in
theorem nw_Control_init (l : Launch) (dC : Nat → ClassId) (dI : Nat → Nat → Nat) (tys : List (ClassId × FieldType)) (h : Nat) : cv_Mn (σ := (Nat → Nat) × (Nat → ClassId)) l y_Control_init (Cond.code y_Control_init c_Control_init 1 none :: gw) { frames := 1, cells := 0, slots := 0, locals := 20 } (dC, dI) vwCl tys [.ref h] [(h, .inr (4, [.int 0, .int 0, .int 0, .int 0, .int 0, .int 0, .int 0]))] (fun u => [k_Control h (fun _ => 0)]) (fun u => []) 0 0 := by
  refine cv_startn (by decide) (Nat.le_of_ble_eq_true rfl) [(0, .ref h)] rfl ?_
  intro p e s m below meth c A K hm
  refine cv_aload_n K 0 d_Control_init_0 rfl rfl ?_
  refine cv_objInit K d_Control_init_1 tm_265 tm_25 tm_26 (Nat.le_of_ble_eq_true rfl) (fun _ => Nat.le_of_ble_eq_true rfl) ?_
  refine cv_perm [0] [(h, .inr (4, [.int 0, .int 0, .int 0, .int 0, .int 0, .int 0, .int 0]))] rfl rfl ?_
  exact cv_retn K hm d_Control_init_4 ((fun _ => 0), (fun _ => 0)) (by simp) rfl
set_option maxRecDepth 100000 in
set_option maxHeartbeats 4000000 in
theorem nw_Interrupts_init (l : Launch) (dC : Nat → ClassId) (dI : Nat → Nat → Nat) (tys : List (ClassId × FieldType)) (h : Nat) : cv_Mn (σ := (Nat → Nat) × (Nat → ClassId)) l y_Interrupts_init (Cond.code y_Interrupts_init c_Interrupts_init 1 none :: gw) { frames := 1, cells := 0, slots := 0, locals := 20 } (dC, dI) vwCl tys [.ref h] [(h, .inr (8, [.int 0, .int 0, .int 0, .int 0, .int 0, .int 0]))] (fun u => [k_Interrupts h (fun _ => 0)]) (fun u => []) 0 0 := by
  refine cv_startn (by decide) (Nat.le_of_ble_eq_true rfl) [(0, .ref h)] rfl ?_
  intro p e s m below meth c A K hm
  refine cv_aload_n K 0 d_Interrupts_init_0 rfl rfl ?_
  refine cv_objInit K d_Interrupts_init_1 tm_78 tm_25 tm_26 (Nat.le_of_ble_eq_true rfl) (fun _ => Nat.le_of_ble_eq_true rfl) ?_
  refine cv_perm [0] [(h, .inr (8, [.int 0, .int 0, .int 0, .int 0, .int 0, .int 0]))] rfl rfl ?_
  exact cv_retn K hm d_Interrupts_init_4 ((fun _ => 0), (fun _ => 0)) (by simp) rfl
set_option maxRecDepth 100000 in
set_option maxHeartbeats 4000000 in
theorem nw_Log_init (l : Launch) (dC : Nat → ClassId) (dI : Nat → Nat → Nat) (tys : List (ClassId × FieldType)) (h : Nat) : cv_Mn (σ := (Nat → Nat) × (Nat → ClassId)) l y_Log_init (Cond.code y_Log_init c_Log_init 1 none :: gw) { frames := 1, cells := 2, slots := 32, locals := 20 } (dC, dI) vwCl tys [.ref h] [(h, .inr (9, [.null, .null, .int 0]))] (fun u => [k_Log h (u.1 0) (u.1 1) (fun _ => 0), k_arr (u.1 0) (u.2 0) 16 (fun _ => 0), k_arr (u.1 1) (u.2 1) 16 (fun _ => 0)]) (fun u => [(u.2 0, .int), (u.2 1, .int)]) 2 32 := by
  refine cv_startn (by decide) (Nat.le_of_ble_eq_true rfl) [(0, .ref h)] rfl ?_
  intro p e s m below meth c A K hm
  refine cv_aload_n K 0 d_Log_init_0 rfl rfl ?_
  refine cv_objInit K d_Log_init_1 tm_128 tm_25 tm_26 (Nat.le_of_ble_eq_true rfl) (fun _ => Nat.le_of_ble_eq_true rfl) ?_
  refine cv_aload_n K 0 d_Log_init_4 rfl rfl ?_
  refine cv_bipush (v := 16) K d_Log_init_5 (by decide +kernel) ?_
  refine cv_newa (ty := .int) K d_Log_init_7 16 (16, .inl (fun _ => 0)) tm_46 rfl (fun _ => rfl) (by decide) rfl (by decide) (Nat.le_of_ble_eq_true rfl) (by decide) (fun q7 c7 K => ?_)
  refine cv_putF K d_Log_init_9 [(h, .inr (9, [.ref q7, .null, .int 0])), k_arr q7 c7 16 (fun _ => 0)] 0 0 rfl rfl in_Log t_Log o_Log n_Log (by decide) hm.2.2 tm_129 rfl rfl rfl rfl (Nat.le_of_ble_eq_true rfl) rfl ?_
  refine cv_aload_n K 0 d_Log_init_12 rfl rfl ?_
  refine cv_bipush (v := 16) K d_Log_init_13 (by decide +kernel) ?_
  refine cv_newa (ty := .int) K d_Log_init_15 16 (16, .inl (fun _ => 0)) tm_46 rfl (fun _ => rfl) (by decide) rfl (by decide) (Nat.le_of_ble_eq_true rfl) (by decide) (fun q15 c15 K => ?_)
  refine cv_putF K d_Log_init_17 [(h, .inr (9, [.ref q7, .ref q15, .int 0])), k_arr q7 c7 16 (fun _ => 0), k_arr q15 c15 16 (fun _ => 0)] 0 1 rfl rfl in_Log t_Log o_Log n_Log (by decide) hm.2.2 tm_130 rfl rfl rfl rfl (Nat.le_of_ble_eq_true rfl) rfl ?_
  refine cv_perm [0, 1, 2] [(h, .inr (9, [.ref q7, .ref q15, .int 0])), k_arr q7 c7 16 (fun _ => 0), k_arr q15 c15 16 (fun _ => 0)] rfl rfl ?_
  exact cv_retn K hm d_Log_init_20 ((fun k => [q7, q15].getD k 0), (fun k => [c7, c15].getD k 0)) (by simp) rfl
set_option maxRecDepth 100000 in
set_option maxHeartbeats 4000000 in
theorem nw_ByteQueue_init (l : Launch) (dC : Nat → ClassId) (dI : Nat → Nat → Nat) (tys : List (ClassId × FieldType)) (h : Nat) : cv_Mn (σ := (Nat → Nat) × (Nat → ClassId)) l y_ByteQueue_init (Cond.code y_ByteQueue_init c_ByteQueue_init 1 none :: gw) { frames := 1, cells := 1, slots := 8, locals := 20 } (dC, dI) vwCl tys [.ref h] [(h, .inr (2, [.null, .int 0, .int 0]))] (fun u => [k_ByteQueue h (u.1 0) (fun _ => 0), k_arr (u.1 0) (u.2 0) 8 (fun _ => 0)]) (fun u => [(u.2 0, .int)]) 1 8 := by
  refine cv_startn (by decide) (Nat.le_of_ble_eq_true rfl) [(0, .ref h)] rfl ?_
  intro p e s m below meth c A K hm
  refine cv_aload_n K 0 d_ByteQueue_init_0 rfl rfl ?_
  refine cv_objInit K d_ByteQueue_init_1 tm_111 tm_25 tm_26 (Nat.le_of_ble_eq_true rfl) (fun _ => Nat.le_of_ble_eq_true rfl) ?_
  refine cv_aload_n K 0 d_ByteQueue_init_4 rfl rfl ?_
  refine cv_bipush (v := 8) K d_ByteQueue_init_5 (by decide +kernel) ?_
  refine cv_newa (ty := .int) K d_ByteQueue_init_7 8 (8, .inl (fun _ => 0)) tm_46 rfl (fun _ => rfl) (by decide) rfl (by decide) (Nat.le_of_ble_eq_true rfl) (by decide) (fun q7 c7 K => ?_)
  refine cv_putF K d_ByteQueue_init_9 [(h, .inr (2, [.ref q7, .int 0, .int 0])), k_arr q7 c7 8 (fun _ => 0)] 0 0 rfl rfl in_ByteQueue t_ByteQueue o_ByteQueue n_ByteQueue (by decide) hm.2.2 tm_112 rfl rfl rfl rfl (Nat.le_of_ble_eq_true rfl) rfl ?_
  refine cv_perm [0, 1] [(h, .inr (2, [.ref q7, .int 0, .int 0])), k_arr q7 c7 8 (fun _ => 0)] rfl rfl ?_
  exact cv_retn K hm d_ByteQueue_init_12 ((fun k => [q7].getD k 0), (fun k => [c7].getD k 0)) (by simp) rfl
set_option maxRecDepth 100000 in
set_option maxHeartbeats 4000000 in
theorem nw_StoreBuffer_init (l : Launch) (dC : Nat → ClassId) (dI : Nat → Nat → Nat) (tys : List (ClassId × FieldType)) (h : Nat) : cv_Mn (σ := (Nat → Nat) × (Nat → ClassId)) l y_StoreBuffer_init (Cond.code y_StoreBuffer_init c_StoreBuffer_init 1 none :: gw) { frames := 1, cells := 2, slots := 4, locals := 20 } (dC, dI) vwCl tys [.ref h] [(h, .inr (11, [.null, .null, .int 0]))] (fun u => [k_StoreBuffer h (u.1 0) (u.1 1) (fun _ => 0), k_arr (u.1 0) (u.2 0) 2 (fun _ => 0), k_arr (u.1 1) (u.2 1) 2 (fun _ => 0)]) (fun u => [(u.2 0, .int), (u.2 1, .int)]) 2 4 := by
  refine cv_startn (by decide) (Nat.le_of_ble_eq_true rfl) [(0, .ref h)] rfl ?_
  intro p e s m below meth c A K hm
  refine cv_aload_n K 0 d_StoreBuffer_init_0 rfl rfl ?_
  refine cv_objInit K d_StoreBuffer_init_1 tm_32 tm_25 tm_26 (Nat.le_of_ble_eq_true rfl) (fun _ => Nat.le_of_ble_eq_true rfl) ?_
  refine cv_aload_n K 0 d_StoreBuffer_init_4 rfl rfl ?_
  refine cv_iconst (v := 2) K d_StoreBuffer_init_5 rfl ?_
  refine cv_newa (ty := .int) K d_StoreBuffer_init_6 2 (2, .inl (fun _ => 0)) tm_46 rfl (fun _ => rfl) (by decide) rfl (by decide) (Nat.le_of_ble_eq_true rfl) (by decide) (fun q6 c6 K => ?_)
  refine cv_putF K d_StoreBuffer_init_8 [(h, .inr (11, [.ref q6, .null, .int 0])), k_arr q6 c6 2 (fun _ => 0)] 0 0 rfl rfl in_StoreBuffer t_StoreBuffer o_StoreBuffer n_StoreBuffer (by decide) hm.2.2 tm_33 rfl rfl rfl rfl (Nat.le_of_ble_eq_true rfl) rfl ?_
  refine cv_aload_n K 0 d_StoreBuffer_init_11 rfl rfl ?_
  refine cv_iconst (v := 2) K d_StoreBuffer_init_12 rfl ?_
  refine cv_newa (ty := .int) K d_StoreBuffer_init_13 2 (2, .inl (fun _ => 0)) tm_46 rfl (fun _ => rfl) (by decide) rfl (by decide) (Nat.le_of_ble_eq_true rfl) (by decide) (fun q13 c13 K => ?_)
  refine cv_putF K d_StoreBuffer_init_15 [(h, .inr (11, [.ref q6, .ref q13, .int 0])), k_arr q6 c6 2 (fun _ => 0), k_arr q13 c13 2 (fun _ => 0)] 0 1 rfl rfl in_StoreBuffer t_StoreBuffer o_StoreBuffer n_StoreBuffer (by decide) hm.2.2 tm_34 rfl rfl rfl rfl (Nat.le_of_ble_eq_true rfl) rfl ?_
  refine cv_perm [0, 1, 2] [(h, .inr (11, [.ref q6, .ref q13, .int 0])), k_arr q6 c6 2 (fun _ => 0), k_arr q13 c13 2 (fun _ => 0)] rfl rfl ?_
  exact cv_retn K hm d_StoreBuffer_init_18 ((fun k => [q6, q13].getD k 0), (fun k => [c6, c13].getD k 0)) (by simp) rfl
set_option maxRecDepth 100000 in
set_option maxHeartbeats 4000000 in
theorem nw_Events_init (l : Launch) (dC : Nat → ClassId) (dI : Nat → Nat → Nat) (tys : List (ClassId × FieldType)) (h : Nat) : cv_Mn (σ := (Nat → Nat) × (Nat → ClassId)) l y_Events_init (Cond.code y_Events_init c_Events_init 1 none :: gw) { frames := 1, cells := 3, slots := 48, locals := 20 } (dC, dI) vwCl tys [.ref h] [(h, .inr (7, [.null, .null, .null, .int 0]))] (fun u => [k_Events h (u.1 0) (u.1 1) (u.1 2) (fun _ => 0), k_arr (u.1 0) (u.2 0) 16 (fun _ => 0), k_arr (u.1 1) (u.2 1) 16 (fun _ => 0), k_arr (u.1 2) (u.2 2) 16 (fun _ => 0)]) (fun u => [(u.2 0, .int), (u.2 1, .int), (u.2 2, .int)]) 3 48 := by
  refine cv_startn (by decide) (Nat.le_of_ble_eq_true rfl) [(0, .ref h)] rfl ?_
  intro p e s m below meth c A K hm
  refine cv_aload_n K 0 d_Events_init_0 rfl rfl ?_
  refine cv_objInit K d_Events_init_1 tm_52 tm_25 tm_26 (Nat.le_of_ble_eq_true rfl) (fun _ => Nat.le_of_ble_eq_true rfl) ?_
  refine cv_aload_n K 0 d_Events_init_4 rfl rfl ?_
  refine cv_bipush (v := 16) K d_Events_init_5 (by decide +kernel) ?_
  refine cv_newa (ty := .int) K d_Events_init_7 16 (16, .inl (fun _ => 0)) tm_46 rfl (fun _ => rfl) (by decide) rfl (by decide) (Nat.le_of_ble_eq_true rfl) (by decide) (fun q7 c7 K => ?_)
  refine cv_putF K d_Events_init_9 [(h, .inr (7, [.ref q7, .null, .null, .int 0])), k_arr q7 c7 16 (fun _ => 0)] 0 0 rfl rfl in_Events t_Events o_Events n_Events (by decide) hm.2.2 tm_53 rfl rfl rfl rfl (Nat.le_of_ble_eq_true rfl) rfl ?_
  refine cv_aload_n K 0 d_Events_init_12 rfl rfl ?_
  refine cv_bipush (v := 16) K d_Events_init_13 (by decide +kernel) ?_
  refine cv_newa (ty := .int) K d_Events_init_15 16 (16, .inl (fun _ => 0)) tm_46 rfl (fun _ => rfl) (by decide) rfl (by decide) (Nat.le_of_ble_eq_true rfl) (by decide) (fun q15 c15 K => ?_)
  refine cv_putF K d_Events_init_17 [(h, .inr (7, [.ref q7, .ref q15, .null, .int 0])), k_arr q7 c7 16 (fun _ => 0), k_arr q15 c15 16 (fun _ => 0)] 0 1 rfl rfl in_Events t_Events o_Events n_Events (by decide) hm.2.2 tm_54 rfl rfl rfl rfl (Nat.le_of_ble_eq_true rfl) rfl ?_
  refine cv_aload_n K 0 d_Events_init_20 rfl rfl ?_
  refine cv_bipush (v := 16) K d_Events_init_21 (by decide +kernel) ?_
  refine cv_newa (ty := .int) K d_Events_init_23 16 (16, .inl (fun _ => 0)) tm_46 rfl (fun _ => rfl) (by decide) rfl (by decide) (Nat.le_of_ble_eq_true rfl) (by decide) (fun q23 c23 K => ?_)
  refine cv_putF K d_Events_init_25 [(h, .inr (7, [.ref q7, .ref q15, .ref q23, .int 0])), k_arr q7 c7 16 (fun _ => 0), k_arr q15 c15 16 (fun _ => 0), k_arr q23 c23 16 (fun _ => 0)] 0 2 rfl rfl in_Events t_Events o_Events n_Events (by decide) hm.2.2 tm_55 rfl rfl rfl rfl (Nat.le_of_ble_eq_true rfl) rfl ?_
  refine cv_perm [0, 1, 2, 3] [(h, .inr (7, [.ref q7, .ref q15, .ref q23, .int 0])), k_arr q7 c7 16 (fun _ => 0), k_arr q15 c15 16 (fun _ => 0), k_arr q23 c23 16 (fun _ => 0)] rfl rfl ?_
  exact cv_retn K hm d_Events_init_28 ((fun k => [q7, q15, q23].getD k 0), (fun k => [c7, c15, c23].getD k 0)) (by simp) rfl
theorem cn_a {k : Int32} {n : Nat} (h : k = nI n) (h8 : n ≤ 1000) : ¬ k < 0 := by rw [h]; exact nI_pos (by omega)
theorem cn_b {k : Int32} {n : Nat} (h : k = nI n) (h8 : n ≤ 8) : k.toNatClampNeg = n := by rw [h]; exact nI_clamp (by omega)
theorem cn_4 {k : Int32} {n : Nat} (h : k = nI n) : (4 : Int32) * k = nI (4 * n) := by rw [h, show (4 : Int32) = nI 4 from rfl, pk_mul]
set_option maxRecDepth 100000 in
set_option maxHeartbeats 4000000 in
theorem nw_Cache_init (l : Launch) (dC : Nat → ClassId) (dI : Nat → Nat → Nat) (tys : List (ClassId × FieldType)) (h : Nat) (k : Int32) (n : Nat) (hlin : k = nI n) (hn : 0 < n) (hn8 : n ≤ 8) : cv_Mn (σ := (Nat → Nat) × (Nat → ClassId)) l y_Cache_init (Cond.code y_Cache_init c_Cache_init 2 none :: gw) { frames := 1, cells := 2, slots := 40, locals := 23 } (dC, dI) vwCl tys [.ref h, .int k] [(h, .inr (3, [.int 0, .null, .null]))] (fun u => [k_Cache h (u.1 0) (u.1 1) (fun _ => k), k_arr (u.1 0) (u.2 0) n (p_fillTo n (fun _ => 0) (-1 : Int32)), k_arr (u.1 1) (u.2 1) (4 * n) (fun _ => 0)]) (fun u => [(u.2 0, .int), (u.2 1, .int)]) 2 40 := by
  refine cv_startn (by decide) (Nat.le_of_ble_eq_true rfl) [(0, .ref h), (1, .int k)] rfl ?_
  intro p e s m below meth c A K hm
  refine cv_aload_n K 0 d_Cache_init_0 rfl rfl ?_
  refine cv_objInit K d_Cache_init_1 tm_202 tm_25 tm_26 (Nat.le_of_ble_eq_true rfl) (fun _ => Nat.le_of_ble_eq_true rfl) ?_
  refine cv_aload_n K 0 d_Cache_init_4 rfl rfl ?_
  refine cv_iload_n K 1 d_Cache_init_5 rfl rfl ?_
  refine cv_putF K d_Cache_init_6 [(h, .inr (3, [.int k, .null, .null]))] 0 0 rfl rfl in_Cache t_Cache o_Cache n_Cache (by decide) hm.2.2 tm_206 rfl rfl rfl rfl (Nat.le_of_ble_eq_true rfl) rfl ?_
  refine cv_aload_n K 0 d_Cache_init_9 rfl rfl ?_
  refine cv_iload_n K 1 d_Cache_init_10 rfl rfl ?_
  refine cv_newa (ty := .int) K d_Cache_init_11 n (n, .inl (fun _ => 0)) tm_46 rfl (fun _ => rfl) (cn_a hlin (by omega)) (cn_b hlin hn8) (show n * 4 ≤ _ by omega) (Nat.le_of_ble_eq_true rfl) (show 0 + n ≤ 40 by omega) (fun q11 c11 K => ?_)
  refine cv_putF K d_Cache_init_13 [(h, .inr (3, [.int k, .ref q11, .null])), k_arr q11 c11 n (fun _ => 0)] 0 1 rfl rfl in_Cache t_Cache o_Cache n_Cache (by decide) hm.2.2 tm_207 rfl rfl rfl rfl (Nat.le_of_ble_eq_true rfl) rfl ?_
  refine cv_aload_n K 0 d_Cache_init_16 rfl rfl ?_
  refine cv_iconst (v := 4) K d_Cache_init_17 rfl ?_
  refine cv_iload_n K 1 d_Cache_init_18 rfl rfl ?_
  refine cv_imul K d_Cache_init_19 ?_
  refine cv_newa (ty := .int) K d_Cache_init_20 (4 * n) (4 * n, .inl (fun _ => 0)) tm_46 rfl (fun _ => rfl) (cn_a (cn_4 hlin) (by omega)) (by rw [cn_4 hlin]; exact nI_clamp (by omega)) (show 4 * n * 4 ≤ _ by omega) (Nat.le_of_ble_eq_true rfl) (show 0 + n + 4 * n ≤ 40 by omega) (fun q20 c20 K => ?_)
  refine cv_widen 2 40 (by omega) (by omega) ?_
  refine cv_putF K d_Cache_init_22 [(h, .inr (3, [.int k, .ref q11, .ref q20])), k_arr q11 c11 n (fun _ => 0), k_arr q20 c20 (4 * n) (fun _ => 0)] 0 2 rfl rfl in_Cache t_Cache o_Cache n_Cache (by decide) hm.2.2 tm_208 rfl rfl rfl rfl (Nat.le_of_ble_eq_true rfl) rfl ?_
  refine cv_aload_n K 0 d_Cache_init_25 rfl rfl ?_
  refine cv_get K d_Cache_init_26 0 1 rfl rfl in_Cache (by decide) tm_207 rfl ?_
  refine cv_iconst (v := (-1)) K d_Cache_init_29 rfl ?_
  refine cv_callSv K (m_JArr_fill l dC dI _ q11 c11 tys.length (by simp) n (by omega) (fun _ => 0) (-1 : Int32)) d_Cache_init_30 (cw_S (n := 2) K.2.2.2.2.1 tm_203 tm_204 tm_11 tm_205 rfl rfl (wd_of (by decide +kernel) (by decide +kernel)) ⟨Nat.le_of_ble_eq_true rfl, Nat.le_of_ble_eq_true rfl⟩) [1] rfl rfl (fun _ => rfl) rfl rfl (Nat.le_of_ble_eq_true rfl) (Nat.le_of_ble_eq_true rfl) (Nat.le_of_ble_eq_true rfl) (fun r30 hr30 => ?_)
  subst hr30
  refine cv_norm [(h, .inr (3, [.int k, .ref q11, .ref q20])), k_arr q11 c11 n (p_fillTo n (fun _ => 0) (-1 : Int32)), k_arr q20 c20 (4 * n) (fun _ => 0)] rfl ?_
  refine cv_perm [0, 1, 2] [(h, .inr (3, [.int k, .ref q11, .ref q20])), k_arr q11 c11 n (p_fillTo n (fun _ => 0) (-1 : Int32)), k_arr q20 c20 (4 * n) (fun _ => 0)] rfl rfl ?_
  exact cv_retn K hm d_Cache_init_33 ((fun k => [q11, q20].getD k 0), (fun k => [c11, c20].getD k 0)) (by simp) rfl
set_option maxRecDepth 100000 in
set_option maxHeartbeats 4000000 in
theorem nw_Serial_init (l : Launch) (dC : Nat → ClassId) (dI : Nat → Nat → Nat) (tys : List (ClassId × FieldType)) (h : Nat) : cv_Mn (σ := (Nat → Nat) × (Nat → ClassId)) l y_Serial_init (Cond.code y_Serial_init c_Serial_init 1 none :: gw) { frames := 2, cells := 7, slots := 57, locals := 40 } (dC, dI) vwCl tys [.ref h] [(h, .inr (10, [.null, .null, .null, .int 0, .int 0, .int 0, .int 0, .int 0, .int 0]))] (fun u => [k_Serial h (u.1 0) (u.1 2) (u.1 4) (upd (fun _ => 0) 1 1), k_ByteQueue (u.1 0) (u.1 1) (fun _ => 0), k_arr (u.1 1) (u.2 0) 8 (fun _ => 0), k_ByteQueue (u.1 2) (u.1 3) (fun _ => 0), k_arr (u.1 3) (u.2 1) 8 (fun _ => 0), k_Log (u.1 4) (u.1 5) (u.1 6) (fun _ => 0), k_arr (u.1 5) (u.2 2) 16 (fun _ => 0), k_arr (u.1 6) (u.2 3) 16 (fun _ => 0)]) (fun u => [(u.2 0, .int), (u.2 1, .int), (u.2 2, .int), (u.2 3, .int)]) 7 57 := by
  refine cv_startn (by decide) (Nat.le_of_ble_eq_true rfl) [(0, .ref h)] rfl ?_
  intro p e s m below meth c A K hm
  refine cv_aload_n K 0 d_Serial_init_0 rfl rfl ?_
  refine cv_objInit K d_Serial_init_1 tm_105 tm_25 tm_26 (Nat.le_of_ble_eq_true rfl) (fun _ => Nat.le_of_ble_eq_true rfl) ?_
  refine cv_aload_n K 0 d_Serial_init_4 rfl rfl ?_
  refine cv_new (ci := 2) K d_Serial_init_5 [.null, .int 0, .int 0] in_ByteQueue t_ByteQueue o_ByteQueue tm_106 tm_107 tm_7 rfl (fun j hj => match j, hj with | 0, _ => rfl | 1, _ => rfl | 2, _ => rfl | j + 3, hj => absurd hj (by omega)) (Nat.le_of_ble_eq_true rfl) (Nat.le_of_ble_eq_true rfl) (fun q5 => ?_)
  refine cv_dup K d_Serial_init_8 rfl ?_
  refine cv_callInN K (nw_ByteQueue_init l dC dI _ q5) d_Serial_init_9 (cw_IN (n := 0) K.2.2.2.2.1 K.2.2.2.2.2.2.2 tm_108 tm_109 tm_7 tm_110 rfl rfl rfl (wd_of (by decide +kernel) (by decide +kernel)) ⟨Nat.le_of_ble_eq_true rfl, Nat.le_of_ble_eq_true rfl⟩) [1] [0] [(h, .inr (10, [.null, .null, .null, .int 0, .int 0, .int 0, .int 0, .int 0, .int 0]))] rfl rfl rfl rfl (by decide) rfl rfl (Nat.le_of_ble_eq_true rfl) (Nat.le_of_ble_eq_true rfl) (Nat.le_of_ble_eq_true rfl) (fun u9 K => ?_)
  refine cv_putF K d_Serial_init_12 [(h, .inr (10, [.ref q5, .null, .null, .int 0, .int 0, .int 0, .int 0, .int 0, .int 0])), k_ByteQueue q5 (u9.1 0) (fun _ => 0), k_arr (u9.1 0) (u9.2 0) 8 (fun _ => 0)] 0 0 rfl rfl in_Serial t_Serial o_Serial n_Serial (by decide) hm.2.2 tm_140 rfl rfl rfl rfl (Nat.le_of_ble_eq_true rfl) rfl ?_
  refine cv_aload_n K 0 d_Serial_init_15 rfl rfl ?_
  refine cv_new (ci := 2) K d_Serial_init_16 [.null, .int 0, .int 0] in_ByteQueue t_ByteQueue o_ByteQueue tm_106 tm_107 tm_7 rfl (fun j hj => match j, hj with | 0, _ => rfl | 1, _ => rfl | 2, _ => rfl | j + 3, hj => absurd hj (by omega)) (Nat.le_of_ble_eq_true rfl) (Nat.le_of_ble_eq_true rfl) (fun q16 => ?_)
  refine cv_dup K d_Serial_init_19 rfl ?_
  refine cv_callInN K (nw_ByteQueue_init l dC dI _ q16) d_Serial_init_20 (cw_IN (n := 0) K.2.2.2.2.1 K.2.2.2.2.2.2.2 tm_108 tm_109 tm_7 tm_110 rfl rfl rfl (wd_of (by decide +kernel) (by decide +kernel)) ⟨Nat.le_of_ble_eq_true rfl, Nat.le_of_ble_eq_true rfl⟩) [3] [0, 1, 2] [(h, .inr (10, [.ref q5, .null, .null, .int 0, .int 0, .int 0, .int 0, .int 0, .int 0])), k_ByteQueue q5 (u9.1 0) (fun _ => 0), k_arr (u9.1 0) (u9.2 0) 8 (fun _ => 0)] rfl rfl rfl rfl (by decide) rfl rfl (Nat.le_of_ble_eq_true rfl) (Nat.le_of_ble_eq_true rfl) (Nat.le_of_ble_eq_true rfl) (fun u20 K => ?_)
  refine cv_putF K d_Serial_init_23 [(h, .inr (10, [.ref q5, .ref q16, .null, .int 0, .int 0, .int 0, .int 0, .int 0, .int 0])), k_ByteQueue q5 (u9.1 0) (fun _ => 0), k_arr (u9.1 0) (u9.2 0) 8 (fun _ => 0), k_ByteQueue q16 (u20.1 0) (fun _ => 0), k_arr (u20.1 0) (u20.2 0) 8 (fun _ => 0)] 0 1 rfl rfl in_Serial t_Serial o_Serial n_Serial (by decide) hm.2.2 tm_142 rfl rfl rfl rfl (Nat.le_of_ble_eq_true rfl) rfl ?_
  refine cv_aload_n K 0 d_Serial_init_26 rfl rfl ?_
  refine cv_new (ci := 9) K d_Serial_init_27 [.null, .null, .int 0] in_Log t_Log o_Log tm_123 tm_124 tm_8 rfl (fun j hj => match j, hj with | 0, _ => rfl | 1, _ => rfl | 2, _ => rfl | j + 3, hj => absurd hj (by omega)) (Nat.le_of_ble_eq_true rfl) (Nat.le_of_ble_eq_true rfl) (fun q27 => ?_)
  refine cv_dup K d_Serial_init_30 rfl ?_
  refine cv_callInN K (nw_Log_init l dC dI _ q27) d_Serial_init_31 (cw_IN (n := 0) K.2.2.2.2.1 K.2.2.2.2.2.2.2 tm_125 tm_126 tm_8 tm_127 rfl rfl rfl (wd_of (by decide +kernel) (by decide +kernel)) ⟨Nat.le_of_ble_eq_true rfl, Nat.le_of_ble_eq_true rfl⟩) [5] [0, 1, 2, 3, 4] [(h, .inr (10, [.ref q5, .ref q16, .null, .int 0, .int 0, .int 0, .int 0, .int 0, .int 0])), k_ByteQueue q5 (u9.1 0) (fun _ => 0), k_arr (u9.1 0) (u9.2 0) 8 (fun _ => 0), k_ByteQueue q16 (u20.1 0) (fun _ => 0), k_arr (u20.1 0) (u20.2 0) 8 (fun _ => 0)] rfl rfl rfl rfl (by decide) rfl rfl (Nat.le_of_ble_eq_true rfl) (Nat.le_of_ble_eq_true rfl) (Nat.le_of_ble_eq_true rfl) (fun u31 K => ?_)
  refine cv_putF K d_Serial_init_34 [(h, .inr (10, [.ref q5, .ref q16, .ref q27, .int 0, .int 0, .int 0, .int 0, .int 0, .int 0])), k_ByteQueue q5 (u9.1 0) (fun _ => 0), k_arr (u9.1 0) (u9.2 0) 8 (fun _ => 0), k_ByteQueue q16 (u20.1 0) (fun _ => 0), k_arr (u20.1 0) (u20.2 0) 8 (fun _ => 0), k_Log q27 (u31.1 0) (u31.1 1) (fun _ => 0), k_arr (u31.1 0) (u31.2 0) 16 (fun _ => 0), k_arr (u31.1 1) (u31.2 1) 16 (fun _ => 0)] 0 2 rfl rfl in_Serial t_Serial o_Serial n_Serial (by decide) hm.2.2 tm_144 rfl rfl rfl rfl (Nat.le_of_ble_eq_true rfl) rfl ?_
  refine cv_aload_n K 0 d_Serial_init_37 rfl rfl ?_
  refine cv_iconst (v := 1) K d_Serial_init_38 rfl ?_
  refine cv_put K d_Serial_init_39 [(h, .inr (10, [.ref q5, .ref q16, .ref q27, .int 0, .int (1 : Int32), .int 0, .int 0, .int 0, .int 0])), k_ByteQueue q5 (u9.1 0) (fun _ => 0), k_arr (u9.1 0) (u9.2 0) 8 (fun _ => 0), k_ByteQueue q16 (u20.1 0) (fun _ => 0), k_arr (u20.1 0) (u20.2 0) 8 (fun _ => 0), k_Log q27 (u31.1 0) (u31.1 1) (fun _ => 0), k_arr (u31.1 0) (u31.2 0) 16 (fun _ => 0), k_arr (u31.1 1) (u31.2 1) 16 (fun _ => 0)] 0 4 rfl rfl in_Serial t_Serial o_Serial n_Serial (by decide) tm_147 rfl rfl rfl (Nat.le_of_ble_eq_true rfl) rfl ?_
  refine cv_perm [0, 1, 2, 3, 4, 5, 6, 7] [(h, .inr (10, [.ref q5, .ref q16, .ref q27, .int 0, .int (1 : Int32), .int 0, .int 0, .int 0, .int 0])), k_ByteQueue q5 (u9.1 0) (fun _ => 0), k_arr (u9.1 0) (u9.2 0) 8 (fun _ => 0), k_ByteQueue q16 (u20.1 0) (fun _ => 0), k_arr (u20.1 0) (u20.2 0) 8 (fun _ => 0), k_Log q27 (u31.1 0) (u31.1 1) (fun _ => 0), k_arr (u31.1 0) (u31.2 0) 16 (fun _ => 0), k_arr (u31.1 1) (u31.2 1) 16 (fun _ => 0)] rfl rfl ?_
  exact cv_retn K hm d_Serial_init_42 ((fun k => [q5, u9.1 0, q16, u20.1 0, q27, u31.1 0, u31.1 1].getD k 0), (fun k => [u9.2 0, u20.2 0, u31.2 0, u31.2 1].getD k 0)) (by simp) rfl
set_option maxRecDepth 100000 in
set_option maxHeartbeats 4000000 in
theorem nw_Devices_init (l : Launch) (dC : Nat → ClassId) (dI : Nat → Nat → Nat) (tys : List (ClassId × FieldType)) (h : Nat) : cv_Mn (σ := (Nat → Nat) × (Nat → ClassId)) l y_Devices_init (Cond.code y_Devices_init c_Devices_init 1 none :: gw) { frames := 3, cells := 9, slots := 72, locals := 60 } (dC, dI) vwCl tys [.ref h] [(h, .inr (6, [.null, .null, .long 0, .long 0]))] (fun u => [k_Devices h (u.1 0) (u.1 1) (vp_updL (fun _ => 0) 1 (-1)), k_Interrupts (u.1 0) (fun _ => 0), k_Serial (u.1 1) (u.1 2) (u.1 4) (u.1 6) (upd (fun _ => 0) 1 1), k_ByteQueue (u.1 2) (u.1 3) (fun _ => 0), k_arr (u.1 3) (u.2 0) 8 (fun _ => 0), k_ByteQueue (u.1 4) (u.1 5) (fun _ => 0), k_arr (u.1 5) (u.2 1) 8 (fun _ => 0), k_Log (u.1 6) (u.1 7) (u.1 8) (fun _ => 0), k_arr (u.1 7) (u.2 2) 16 (fun _ => 0), k_arr (u.1 8) (u.2 3) 16 (fun _ => 0)]) (fun u => [(u.2 0, .int), (u.2 1, .int), (u.2 2, .int), (u.2 3, .int)]) 9 72 := by
  refine cv_startn (by decide) (Nat.le_of_ble_eq_true rfl) [(0, .ref h)] rfl ?_
  intro p e s m below meth c A K hm
  refine cv_aload_n K 0 d_Devices_init_0 rfl rfl ?_
  refine cv_objInit K d_Devices_init_1 tm_72 tm_25 tm_26 (Nat.le_of_ble_eq_true rfl) (fun _ => Nat.le_of_ble_eq_true rfl) ?_
  refine cv_aload_n K 0 d_Devices_init_4 rfl rfl ?_
  refine cv_new (ci := 8) K d_Devices_init_5 [.int 0, .int 0, .int 0, .int 0, .int 0, .int 0] in_Interrupts t_Interrupts o_Interrupts tm_73 tm_74 tm_5 rfl (fun j hj => match j, hj with | 0, _ => rfl | 1, _ => rfl | 2, _ => rfl | 3, _ => rfl | 4, _ => rfl | 5, _ => rfl | j + 6, hj => absurd hj (by omega)) (Nat.le_of_ble_eq_true rfl) (Nat.le_of_ble_eq_true rfl) (fun q5 => ?_)
  refine cv_dup K d_Devices_init_8 rfl ?_
  refine cv_callInN K (nw_Interrupts_init l dC dI _ q5) d_Devices_init_9 (cw_IN (n := 0) K.2.2.2.2.1 K.2.2.2.2.2.2.2 tm_75 tm_76 tm_5 tm_77 rfl rfl rfl (wd_of (by decide +kernel) (by decide +kernel)) ⟨Nat.le_of_ble_eq_true rfl, Nat.le_of_ble_eq_true rfl⟩) [1] [0] [(h, .inr (6, [.null, .null, .long 0, .long 0]))] rfl rfl rfl rfl (by decide) rfl rfl (Nat.le_of_ble_eq_true rfl) (Nat.le_of_ble_eq_true rfl) (Nat.le_of_ble_eq_true rfl) (fun u9 K => ?_)
  refine cv_putF K d_Devices_init_12 [(h, .inr (6, [.ref q5, .null, .long 0, .long 0])), k_Interrupts q5 (fun _ => 0)] 0 0 rfl rfl in_Devices t_Devices o_Devices n_Devices (by decide) hm.2.2 tm_172 rfl rfl rfl rfl (Nat.le_of_ble_eq_true rfl) rfl ?_
  refine cv_aload_n K 0 d_Devices_init_15 rfl rfl ?_
  refine cv_new (ci := 10) K d_Devices_init_16 [.null, .null, .null, .int 0, .int 0, .int 0, .int 0, .int 0, .int 0] in_Serial t_Serial o_Serial tm_100 tm_101 tm_6 rfl (fun j hj => match j, hj with | 0, _ => rfl | 1, _ => rfl | 2, _ => rfl | 3, _ => rfl | 4, _ => rfl | 5, _ => rfl | 6, _ => rfl | 7, _ => rfl | 8, _ => rfl | j + 9, hj => absurd hj (by omega)) (Nat.le_of_ble_eq_true rfl) (Nat.le_of_ble_eq_true rfl) (fun q16 => ?_)
  refine cv_dup K d_Devices_init_19 rfl ?_
  refine cv_callInN K (nw_Serial_init l dC dI _ q16) d_Devices_init_20 (cw_IN (n := 0) K.2.2.2.2.1 K.2.2.2.2.2.2.2 tm_102 tm_103 tm_6 tm_104 rfl rfl rfl (wd_of (by decide +kernel) (by decide +kernel)) ⟨Nat.le_of_ble_eq_true rfl, Nat.le_of_ble_eq_true rfl⟩) [2] [0, 1] [(h, .inr (6, [.ref q5, .null, .long 0, .long 0])), k_Interrupts q5 (fun _ => 0)] rfl rfl rfl rfl (by decide) rfl rfl (Nat.le_of_ble_eq_true rfl) (Nat.le_of_ble_eq_true rfl) (Nat.le_of_ble_eq_true rfl) (fun u20 K => ?_)
  refine cv_putF K d_Devices_init_23 [(h, .inr (6, [.ref q5, .ref q16, .long 0, .long 0])), k_Interrupts q5 (fun _ => 0), k_Serial q16 (u20.1 0) (u20.1 2) (u20.1 4) (upd (fun _ => 0) 1 1), k_ByteQueue (u20.1 0) (u20.1 1) (fun _ => 0), k_arr (u20.1 1) (u20.2 0) 8 (fun _ => 0), k_ByteQueue (u20.1 2) (u20.1 3) (fun _ => 0), k_arr (u20.1 3) (u20.2 1) 8 (fun _ => 0), k_Log (u20.1 4) (u20.1 5) (u20.1 6) (fun _ => 0), k_arr (u20.1 5) (u20.2 2) 16 (fun _ => 0), k_arr (u20.1 6) (u20.2 3) 16 (fun _ => 0)] 0 1 rfl rfl in_Devices t_Devices o_Devices n_Devices (by decide) hm.2.2 tm_174 rfl rfl rfl rfl (Nat.le_of_ble_eq_true rfl) rfl ?_
  refine cv_aload_n K 0 d_Devices_init_26 rfl rfl ?_
  refine cv_ldc2 (v := (-1)) K d_Devices_init_27 tm_171 ?_
  refine cv_put K d_Devices_init_30 [(h, .inr (6, [.ref q5, .ref q16, .long 0, .long (-1 : Int64)])), k_Interrupts q5 (fun _ => 0), k_Serial q16 (u20.1 0) (u20.1 2) (u20.1 4) (upd (fun _ => 0) 1 1), k_ByteQueue (u20.1 0) (u20.1 1) (fun _ => 0), k_arr (u20.1 1) (u20.2 0) 8 (fun _ => 0), k_ByteQueue (u20.1 2) (u20.1 3) (fun _ => 0), k_arr (u20.1 3) (u20.2 1) 8 (fun _ => 0), k_Log (u20.1 4) (u20.1 5) (u20.1 6) (fun _ => 0), k_arr (u20.1 5) (u20.2 2) 16 (fun _ => 0), k_arr (u20.1 6) (u20.2 3) 16 (fun _ => 0)] 0 3 rfl rfl in_Devices t_Devices o_Devices n_Devices (by decide) tm_178 rfl rfl rfl (Nat.le_of_ble_eq_true rfl) rfl ?_
  refine cv_perm [0, 1, 2, 3, 4, 5, 6, 7, 8, 9] [(h, .inr (6, [.ref q5, .ref q16, .long 0, .long (-1 : Int64)])), k_Interrupts q5 (fun _ => 0), k_Serial q16 (u20.1 0) (u20.1 2) (u20.1 4) (upd (fun _ => 0) 1 1), k_ByteQueue (u20.1 0) (u20.1 1) (fun _ => 0), k_arr (u20.1 1) (u20.2 0) 8 (fun _ => 0), k_ByteQueue (u20.1 2) (u20.1 3) (fun _ => 0), k_arr (u20.1 3) (u20.2 1) 8 (fun _ => 0), k_Log (u20.1 4) (u20.1 5) (u20.1 6) (fun _ => 0), k_arr (u20.1 5) (u20.2 2) 16 (fun _ => 0), k_arr (u20.1 6) (u20.2 3) 16 (fun _ => 0)] rfl rfl ?_
  exact cv_retn K hm d_Devices_init_33 ((fun k => [q5, q16, u20.1 0, u20.1 1, u20.1 2, u20.1 3, u20.1 4, u20.1 5, u20.1 6].getD k 0), (fun k => [u20.2 0, u20.2 1, u20.2 2, u20.2 3].getD k 0)) (by simp) rfl
set_option maxRecDepth 100000 in
set_option maxHeartbeats 4000000 in
theorem nw_Bus_init (l : Launch) (dC : Nat → ClassId) (dI : Nat → Nat → Nat) (tys : List (ClassId × FieldType)) (h : Nat) (hM : Nat) (hC : Nat) (hD : Nat) (hB : Nat) (k : Int32) : cv_Mn (σ := (Nat → Nat) × (Nat → ClassId)) l y_Bus_init (Cond.code y_Bus_init c_Bus_init 6 none :: gw) { frames := 1, cells := 0, slots := 0, locals := 20 } (dC, dI) vwCl tys [.ref h, .int k, .ref hM, .ref hC, .ref hD, .ref hB] [(h, .inr (1, [.int 0, .null, .null, .null, .null, .int 0, .int 0, .int 0, .int 0, .int 0]))] (fun u => [k_Bus h hM hC hD hB (upd (fun _ => 0) 0 k)]) (fun u => []) 0 0 := by
  refine cv_startn (by decide) (Nat.le_of_ble_eq_true rfl) [(0, .ref h), (1, .int k), (2, .ref hM), (3, .ref hC), (4, .ref hD), (5, .ref hB)] rfl ?_
  intro p e s m below meth c A K hm
  refine cv_aload_n K 0 d_Bus_init_0 rfl rfl ?_
  refine cv_objInit K d_Bus_init_1 tm_221 tm_25 tm_26 (Nat.le_of_ble_eq_true rfl) (fun _ => Nat.le_of_ble_eq_true rfl) ?_
  refine cv_aload_n K 0 d_Bus_init_4 rfl rfl ?_
  refine cv_iconst (v := 0) K d_Bus_init_5 rfl ?_
  refine cv_put K d_Bus_init_6 [(h, .inr (1, [.int 0, .null, .null, .null, .null, .int (0 : Int32), .int 0, .int 0, .int 0, .int 0]))] 0 5 rfl rfl in_Bus t_Bus o_Bus n_Bus (by decide) tm_227 rfl rfl rfl (Nat.le_of_ble_eq_true rfl) rfl ?_
  refine cv_aload_n K 0 d_Bus_init_9 rfl rfl ?_
  refine cv_iconst (v := 0) K d_Bus_init_10 rfl ?_
  refine cv_put K d_Bus_init_11 [(h, .inr (1, [.int 0, .null, .null, .null, .null, .int (0 : Int32), .int 0, .int 0, .int (0 : Int32), .int 0]))] 0 8 rfl rfl in_Bus t_Bus o_Bus n_Bus (by decide) tm_230 rfl rfl rfl (Nat.le_of_ble_eq_true rfl) rfl ?_
  refine cv_aload_n K 0 d_Bus_init_14 rfl rfl ?_
  refine cv_iconst (v := 0) K d_Bus_init_15 rfl ?_
  refine cv_put K d_Bus_init_16 [(h, .inr (1, [.int 0, .null, .null, .null, .null, .int (0 : Int32), .int 0, .int 0, .int (0 : Int32), .int (0 : Int32)]))] 0 9 rfl rfl in_Bus t_Bus o_Bus n_Bus (by decide) tm_231 rfl rfl rfl (Nat.le_of_ble_eq_true rfl) rfl ?_
  refine cv_aload_n K 0 d_Bus_init_19 rfl rfl ?_
  refine cv_iload_n K 1 d_Bus_init_20 rfl rfl ?_
  refine cv_putF K d_Bus_init_21 [(h, .inr (1, [.int k, .null, .null, .null, .null, .int (0 : Int32), .int 0, .int 0, .int (0 : Int32), .int (0 : Int32)]))] 0 0 rfl rfl in_Bus t_Bus o_Bus n_Bus (by decide) hm.2.2 tm_222 rfl rfl rfl rfl (Nat.le_of_ble_eq_true rfl) rfl ?_
  refine cv_aload_n K 0 d_Bus_init_24 rfl rfl ?_
  refine cv_aload_n K 2 d_Bus_init_25 rfl rfl ?_
  refine cv_putF K d_Bus_init_26 [(h, .inr (1, [.int k, .ref hM, .null, .null, .null, .int (0 : Int32), .int 0, .int 0, .int (0 : Int32), .int (0 : Int32)]))] 0 1 rfl rfl in_Bus t_Bus o_Bus n_Bus (by decide) hm.2.2 tm_223 rfl rfl rfl rfl (Nat.le_of_ble_eq_true rfl) rfl ?_
  refine cv_aload_n K 0 d_Bus_init_29 rfl rfl ?_
  refine cv_aload_n K 3 d_Bus_init_30 rfl rfl ?_
  refine cv_putF K d_Bus_init_31 [(h, .inr (1, [.int k, .ref hM, .ref hC, .null, .null, .int (0 : Int32), .int 0, .int 0, .int (0 : Int32), .int (0 : Int32)]))] 0 2 rfl rfl in_Bus t_Bus o_Bus n_Bus (by decide) hm.2.2 tm_224 rfl rfl rfl rfl (Nat.le_of_ble_eq_true rfl) rfl ?_
  refine cv_aload_n K 0 d_Bus_init_34 rfl rfl ?_
  refine cv_aload K 4 d_Bus_init_35 rfl ?_
  refine cv_putF K d_Bus_init_37 [(h, .inr (1, [.int k, .ref hM, .ref hC, .ref hD, .null, .int (0 : Int32), .int 0, .int 0, .int (0 : Int32), .int (0 : Int32)]))] 0 3 rfl rfl in_Bus t_Bus o_Bus n_Bus (by decide) hm.2.2 tm_225 rfl rfl rfl rfl (Nat.le_of_ble_eq_true rfl) rfl ?_
  refine cv_aload_n K 0 d_Bus_init_40 rfl rfl ?_
  refine cv_aload K 5 d_Bus_init_41 rfl ?_
  refine cv_putF K d_Bus_init_43 [(h, .inr (1, [.int k, .ref hM, .ref hC, .ref hD, .ref hB, .int (0 : Int32), .int 0, .int 0, .int (0 : Int32), .int (0 : Int32)]))] 0 4 rfl rfl in_Bus t_Bus o_Bus n_Bus (by decide) hm.2.2 tm_226 rfl rfl rfl rfl (Nat.le_of_ble_eq_true rfl) rfl ?_
  refine cv_perm [0] [(h, .inr (1, [.int k, .ref hM, .ref hC, .ref hD, .ref hB, .int (0 : Int32), .int 0, .int 0, .int (0 : Int32), .int (0 : Int32)]))] rfl rfl ?_
  exact cv_retn K hm d_Bus_init_46 ((fun _ => 0), (fun _ => 0)) (by simp) rfl
set_option maxRecDepth 100000 in
set_option maxHeartbeats 4000000 in
theorem nw_Core_init (l : Launch) (dC : Nat → ClassId) (dI : Nat → Nat → Nat) (tys : List (ClassId × FieldType)) (h : Nat) (hV : Nat) (hS : Nat) (hC : Nat) (hD : Nat) (hB : Nat) : cv_Mn (σ := (Nat → Nat) × (Nat → ClassId)) l y_Core_init (Cond.code y_Core_init c_Core_init 6 none :: gw) { frames := 2, cells := 5, slots := 74, locals := 40 } (dC, dI) vwCl tys [.ref h, .ref hV, .ref hS, .ref hC, .ref hD, .ref hB] [(h, .inr (5, [.null, .null, .null, .int 0, .int 0, .int 0, .null, .null, .null, .null, .null, .int 0, .int 0, .int 0, .int 0, .int 0, .int 0]))] (fun u => [k_Core h (u.1 0) (u.1 1) (u.1 2) hV hS hC hD hB (fun _ => 0), k_arr (u.1 0) (u.2 0) 32 (fun _ => 0), k_Control (u.1 1) (fun _ => 0), k_Log (u.1 2) (u.1 3) (u.1 4) (fun _ => 0), k_arr (u.1 3) (u.2 1) 16 (fun _ => 0), k_arr (u.1 4) (u.2 2) 16 (fun _ => 0)]) (fun u => [(u.2 0, .int), (u.2 1, .int), (u.2 2, .int)]) 5 74 := by
  refine cv_startn (by decide) (Nat.le_of_ble_eq_true rfl) [(0, .ref h), (1, .ref hV), (2, .ref hS), (3, .ref hC), (4, .ref hD), (5, .ref hB)] rfl ?_
  intro p e s m below meth c A K hm
  refine cv_aload_n K 0 d_Core_init_0 rfl rfl ?_
  refine cv_objInit K d_Core_init_1 tm_259 tm_25 tm_26 (Nat.le_of_ble_eq_true rfl) (fun _ => Nat.le_of_ble_eq_true rfl) ?_
  refine cv_aload_n K 0 d_Core_init_4 rfl rfl ?_
  refine cv_bipush (v := 32) K d_Core_init_5 (by decide +kernel) ?_
  refine cv_newa (ty := .int) K d_Core_init_7 32 (32, .inl (fun _ => 0)) tm_46 rfl (fun _ => rfl) (by decide) rfl (by decide) (Nat.le_of_ble_eq_true rfl) (by decide) (fun q7 c7 K => ?_)
  refine cv_putF K d_Core_init_9 [(h, .inr (5, [.ref q7, .null, .null, .int 0, .int 0, .int 0, .null, .null, .null, .null, .null, .int 0, .int 0, .int 0, .int 0, .int 0, .int 0])), k_arr q7 c7 32 (fun _ => 0)] 0 0 rfl rfl in_Core t_Core o_Core n_Core (by decide) hm.2.2 tm_291 rfl rfl rfl rfl (Nat.le_of_ble_eq_true rfl) rfl ?_
  refine cv_aload_n K 0 d_Core_init_12 rfl rfl ?_
  refine cv_new (ci := 4) K d_Core_init_13 [.int 0, .int 0, .int 0, .int 0, .int 0, .int 0, .int 0] in_Control t_Control o_Control tm_260 tm_261 tm_14 rfl (fun j hj => match j, hj with | 0, _ => rfl | 1, _ => rfl | 2, _ => rfl | 3, _ => rfl | 4, _ => rfl | 5, _ => rfl | 6, _ => rfl | j + 7, hj => absurd hj (by omega)) (Nat.le_of_ble_eq_true rfl) (Nat.le_of_ble_eq_true rfl) (fun q13 => ?_)
  refine cv_dup K d_Core_init_16 rfl ?_
  refine cv_callInN K (nw_Control_init l dC dI _ q13) d_Core_init_17 (cw_IN (n := 0) K.2.2.2.2.1 K.2.2.2.2.2.2.2 tm_262 tm_263 tm_14 tm_264 rfl rfl rfl (wd_of (by decide +kernel) (by decide +kernel)) ⟨Nat.le_of_ble_eq_true rfl, Nat.le_of_ble_eq_true rfl⟩) [2] [0, 1] [(h, .inr (5, [.ref q7, .null, .null, .int 0, .int 0, .int 0, .null, .null, .null, .null, .null, .int 0, .int 0, .int 0, .int 0, .int 0, .int 0])), k_arr q7 c7 32 (fun _ => 0)] rfl rfl rfl rfl (by decide) rfl rfl (Nat.le_of_ble_eq_true rfl) (Nat.le_of_ble_eq_true rfl) (Nat.le_of_ble_eq_true rfl) (fun u17 K => ?_)
  refine cv_putF K d_Core_init_20 [(h, .inr (5, [.ref q7, .ref q13, .null, .int 0, .int 0, .int 0, .null, .null, .null, .null, .null, .int 0, .int 0, .int 0, .int 0, .int 0, .int 0])), k_arr q7 c7 32 (fun _ => 0), k_Control q13 (fun _ => 0)] 0 1 rfl rfl in_Core t_Core o_Core n_Core (by decide) hm.2.2 tm_293 rfl rfl rfl rfl (Nat.le_of_ble_eq_true rfl) rfl ?_
  refine cv_aload_n K 0 d_Core_init_23 rfl rfl ?_
  refine cv_new (ci := 9) K d_Core_init_24 [.null, .null, .int 0] in_Log t_Log o_Log tm_289 tm_124 tm_8 rfl (fun j hj => match j, hj with | 0, _ => rfl | 1, _ => rfl | 2, _ => rfl | j + 3, hj => absurd hj (by omega)) (Nat.le_of_ble_eq_true rfl) (Nat.le_of_ble_eq_true rfl) (fun q24 => ?_)
  refine cv_dup K d_Core_init_27 rfl ?_
  refine cv_callInN K (nw_Log_init l dC dI _ q24) d_Core_init_28 (cw_IN (n := 0) K.2.2.2.2.1 K.2.2.2.2.2.2.2 tm_290 tm_126 tm_8 tm_127 rfl rfl rfl (wd_of (by decide +kernel) (by decide +kernel)) ⟨Nat.le_of_ble_eq_true rfl, Nat.le_of_ble_eq_true rfl⟩) [3] [0, 1, 2] [(h, .inr (5, [.ref q7, .ref q13, .null, .int 0, .int 0, .int 0, .null, .null, .null, .null, .null, .int 0, .int 0, .int 0, .int 0, .int 0, .int 0])), k_arr q7 c7 32 (fun _ => 0), k_Control q13 (fun _ => 0)] rfl rfl rfl rfl (by decide) rfl rfl (Nat.le_of_ble_eq_true rfl) (Nat.le_of_ble_eq_true rfl) (Nat.le_of_ble_eq_true rfl) (fun u28 K => ?_)
  refine cv_putF K d_Core_init_31 [(h, .inr (5, [.ref q7, .ref q13, .ref q24, .int 0, .int 0, .int 0, .null, .null, .null, .null, .null, .int 0, .int 0, .int 0, .int 0, .int 0, .int 0])), k_arr q7 c7 32 (fun _ => 0), k_Control q13 (fun _ => 0), k_Log q24 (u28.1 0) (u28.1 1) (fun _ => 0), k_arr (u28.1 0) (u28.2 0) 16 (fun _ => 0), k_arr (u28.1 1) (u28.2 1) 16 (fun _ => 0)] 0 2 rfl rfl in_Core t_Core o_Core n_Core (by decide) hm.2.2 tm_295 rfl rfl rfl rfl (Nat.le_of_ble_eq_true rfl) rfl ?_
  refine cv_aload_n K 0 d_Core_init_34 rfl rfl ?_
  refine cv_aload_n K 1 d_Core_init_35 rfl rfl ?_
  refine cv_putF K d_Core_init_36 [(h, .inr (5, [.ref q7, .ref q13, .ref q24, .int 0, .int 0, .int 0, .ref hV, .null, .null, .null, .null, .int 0, .int 0, .int 0, .int 0, .int 0, .int 0])), k_arr q7 c7 32 (fun _ => 0), k_Control q13 (fun _ => 0), k_Log q24 (u28.1 0) (u28.1 1) (fun _ => 0), k_arr (u28.1 0) (u28.2 0) 16 (fun _ => 0), k_arr (u28.1 1) (u28.2 1) 16 (fun _ => 0)] 0 6 rfl rfl in_Core t_Core o_Core n_Core (by decide) hm.2.2 tm_303 rfl rfl rfl rfl (Nat.le_of_ble_eq_true rfl) rfl ?_
  refine cv_aload_n K 0 d_Core_init_39 rfl rfl ?_
  refine cv_aload_n K 2 d_Core_init_40 rfl rfl ?_
  refine cv_putF K d_Core_init_41 [(h, .inr (5, [.ref q7, .ref q13, .ref q24, .int 0, .int 0, .int 0, .ref hV, .ref hS, .null, .null, .null, .int 0, .int 0, .int 0, .int 0, .int 0, .int 0])), k_arr q7 c7 32 (fun _ => 0), k_Control q13 (fun _ => 0), k_Log q24 (u28.1 0) (u28.1 1) (fun _ => 0), k_arr (u28.1 0) (u28.2 0) 16 (fun _ => 0), k_arr (u28.1 1) (u28.2 1) 16 (fun _ => 0)] 0 7 rfl rfl in_Core t_Core o_Core n_Core (by decide) hm.2.2 tm_304 rfl rfl rfl rfl (Nat.le_of_ble_eq_true rfl) rfl ?_
  refine cv_aload_n K 0 d_Core_init_44 rfl rfl ?_
  refine cv_aload_n K 3 d_Core_init_45 rfl rfl ?_
  refine cv_putF K d_Core_init_46 [(h, .inr (5, [.ref q7, .ref q13, .ref q24, .int 0, .int 0, .int 0, .ref hV, .ref hS, .ref hC, .null, .null, .int 0, .int 0, .int 0, .int 0, .int 0, .int 0])), k_arr q7 c7 32 (fun _ => 0), k_Control q13 (fun _ => 0), k_Log q24 (u28.1 0) (u28.1 1) (fun _ => 0), k_arr (u28.1 0) (u28.2 0) 16 (fun _ => 0), k_arr (u28.1 1) (u28.2 1) 16 (fun _ => 0)] 0 8 rfl rfl in_Core t_Core o_Core n_Core (by decide) hm.2.2 tm_305 rfl rfl rfl rfl (Nat.le_of_ble_eq_true rfl) rfl ?_
  refine cv_aload_n K 0 d_Core_init_49 rfl rfl ?_
  refine cv_aload K 4 d_Core_init_50 rfl ?_
  refine cv_putF K d_Core_init_52 [(h, .inr (5, [.ref q7, .ref q13, .ref q24, .int 0, .int 0, .int 0, .ref hV, .ref hS, .ref hC, .ref hD, .null, .int 0, .int 0, .int 0, .int 0, .int 0, .int 0])), k_arr q7 c7 32 (fun _ => 0), k_Control q13 (fun _ => 0), k_Log q24 (u28.1 0) (u28.1 1) (fun _ => 0), k_arr (u28.1 0) (u28.2 0) 16 (fun _ => 0), k_arr (u28.1 1) (u28.2 1) 16 (fun _ => 0)] 0 9 rfl rfl in_Core t_Core o_Core n_Core (by decide) hm.2.2 tm_306 rfl rfl rfl rfl (Nat.le_of_ble_eq_true rfl) rfl ?_
  refine cv_aload_n K 0 d_Core_init_55 rfl rfl ?_
  refine cv_aload K 5 d_Core_init_56 rfl ?_
  refine cv_putF K d_Core_init_58 [(h, .inr (5, [.ref q7, .ref q13, .ref q24, .int 0, .int 0, .int 0, .ref hV, .ref hS, .ref hC, .ref hD, .ref hB, .int 0, .int 0, .int 0, .int 0, .int 0, .int 0])), k_arr q7 c7 32 (fun _ => 0), k_Control q13 (fun _ => 0), k_Log q24 (u28.1 0) (u28.1 1) (fun _ => 0), k_arr (u28.1 0) (u28.2 0) 16 (fun _ => 0), k_arr (u28.1 1) (u28.2 1) 16 (fun _ => 0)] 0 10 rfl rfl in_Core t_Core o_Core n_Core (by decide) hm.2.2 tm_307 rfl rfl rfl rfl (Nat.le_of_ble_eq_true rfl) rfl ?_
  refine cv_perm [0, 1, 2, 3, 4, 5] [(h, .inr (5, [.ref q7, .ref q13, .ref q24, .int 0, .int 0, .int 0, .ref hV, .ref hS, .ref hC, .ref hD, .ref hB, .int 0, .int 0, .int 0, .int 0, .int 0, .int 0])), k_arr q7 c7 32 (fun _ => 0), k_Control q13 (fun _ => 0), k_Log q24 (u28.1 0) (u28.1 1) (fun _ => 0), k_arr (u28.1 0) (u28.2 0) 16 (fun _ => 0), k_arr (u28.1 1) (u28.2 1) 16 (fun _ => 0)] rfl rfl ?_
  exact cv_retn K hm d_Core_init_61 ((fun k => [q7, q13, q24, u28.1 0, u28.1 1].getD k 0), (fun k => [c7, u28.2 0, u28.2 1].getD k 0)) (by simp) rfl
