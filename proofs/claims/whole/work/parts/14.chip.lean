-- CycleChip.poke(II)I
def p_Chip_poke_1 (mem : Nat → Int32) (k : Int32) (x : Int32) (r1 : Int32) : Int32 × (Nat → Int32) := if r1 = (0 : Int32) then ((0 : Int32), mem) else (mem k.toNatClampNeg, (upd mem k.toNatClampNeg x))
def p_Chip_poke (mem : Nat → Int32) (k : Int32) (x : Int32) : Int32 × (Nat → Int32) := p_Chip_poke_1 mem k x (p_Chip_isWord k)
set_option maxRecDepth 100000 in
set_option maxHeartbeats 4000000 in
theorem m_Chip_poke (l : Launch) (dC : Nat → ClassId) (dI : Nat → Nat → Nat) (tys : List (ClassId × FieldType)) (ad : Nat → Nat) (ca : Nat → ClassId) (n : Nat) (htys : ∀ k, k < 17 → tys[k]? = some (ca k, .int)) (mem : Nat → Int32) (k : Int32) (x : Int32)  : cv_Mi l y_Chip_poke (Cond.code y_Chip_poke c_Chip_poke 4 (some .int) :: gw) { frames := 1, cells := 0, slots := 0, locals := 20 } (dC, dI) vwCl tys [.ref (ad 0), .int k, .int x] [k_Chip (ad 0) (ad 1) (ad 2) (ad 5) (ad 8) (ad 11) (ad 15) (ad 25) (ad 26), k_arr (ad 1) (ca 0) 128 mem] (p_Chip_poke mem k x) (fun r => r.1) (fun r => [k_Chip (ad 0) (ad 1) (ad 2) (ad 5) (ad 8) (ad 11) (ad 15) (ad 25) (ad 26), k_arr (ad 1) (ca 0) 128 r.2]) := by
  refine cv_starti (by decide) (Nat.le_of_ble_eq_true rfl) [(0, .ref (ad 0)), (1, .int k), (2, .int x)] rfl ?_
  intro p e s m below meth c A K hm
  refine cv_iload_n K 1 d_Chip_poke_0 rfl rfl ?_
  refine cv_callSz K (m_Chip_isWord l dC dI tys k) d_Chip_poke_1 (cw_S (n := 1) K.2.2.2.2.1 tm_378 tm_379 tm_1 tm_380 rfl rfl (wd_of (by decide +kernel) (by decide +kernel)) ⟨Nat.le_of_ble_eq_true rfl, Nat.le_of_ble_eq_true rfl⟩) [] rfl rfl (fun _ => rfl) rfl rfl (Nat.le_of_ble_eq_true rfl) (Nat.zero_le _) (Nat.zero_le _) (fun r1 hr1 => ?_)
  refine cv_norm [k_Chip (ad 0) (ad 1) (ad 2) (ad 5) (ad 8) (ad 11) (ad 15) (ad 25) (ad 26), k_arr (ad 1) (ca 0) 128 mem] rfl ?_
  refine cv_if_ne K d_Chip_poke_4 9 rfl (fun h1 => ?_) (fun h1 => ?_)
  · refine cv_aload_n K 0 d_Chip_poke_9 rfl rfl ?_
    refine cv_get K d_Chip_poke_10 0 0 rfl rfl in_Chip (by decide) tm_349 rfl ?_
    refine cv_iload_n K 1 d_Chip_poke_13 rfl rfl ?_
    refine cv_iald K d_Chip_poke_14 1 0 rfl (htys 0 (by decide)) (iw_in hr1 h1) ?_
    refine cv_istore_n K d_Chip_poke_15 [(3, .int (mem k.toNatClampNeg)), (0, .ref (ad 0)), (1, .int k), (2, .int x)] rfl (by decide) rfl ?_
    refine cv_aload_n K 1 d_Chip_poke_16 rfl rfl ?_
    refine cv_get K d_Chip_poke_17 0 0 rfl rfl in_Chip (by decide) tm_349 rfl ?_
    refine cv_iload_n K 2 d_Chip_poke_20 rfl rfl ?_
    refine cv_iload_n K 3 d_Chip_poke_21 rfl rfl ?_
    refine cv_iast K d_Chip_poke_22 [k_Chip (ad 0) (ad 1) (ad 2) (ad 5) (ad 8) (ad 11) (ad 15) (ad 25) (ad 26), k_arr (ad 1) (ca 0) 128 (upd mem k.toNatClampNeg x)] 1 0 rfl (htys 0 (by decide)) (iw_in hr1 h1) rfl ?_
    refine cv_iload_n K 0 d_Chip_poke_23 rfl rfl ?_
    exact cv_reti K hm d_Chip_poke_24 ((mem k.toNatClampNeg, (upd mem k.toNatClampNeg x))) (by rw [p_Chip_poke, ← hr1, p_Chip_poke_1, if_neg (c := r1 = (0 : Int32)) h1]) rfl rfl
  · refine cv_iconst (v := 0) K d_Chip_poke_7 rfl ?_
    exact cv_reti K hm d_Chip_poke_8 (((0 : Int32), mem)) (by rw [p_Chip_poke, ← hr1, p_Chip_poke_1, if_pos (c := r1 = (0 : Int32)) h1]) rfl rfl
-- CycleChip.peek(I)I
def p_Chip_peek_1 (mem : Nat → Int32) (k : Int32) (r1 : Int32) : Int32 := if r1 = (0 : Int32) then (0 : Int32) else mem k.toNatClampNeg
def p_Chip_peek (mem : Nat → Int32) (k : Int32) : Int32 := p_Chip_peek_1 mem k (p_Chip_isWord k)
set_option maxRecDepth 100000 in
set_option maxHeartbeats 4000000 in
theorem m_Chip_peek (l : Launch) (dC : Nat → ClassId) (dI : Nat → Nat → Nat) (tys : List (ClassId × FieldType)) (ad : Nat → Nat) (ca : Nat → ClassId) (n : Nat) (htys : ∀ k, k < 17 → tys[k]? = some (ca k, .int)) (mem : Nat → Int32) (k : Int32)  : cv_Mi l y_Chip_peek (Cond.code y_Chip_peek c_Chip_peek 2 (some .int) :: gw) { frames := 1, cells := 0, slots := 0, locals := 20 } (dC, dI) vwCl tys [.ref (ad 0), .int k] [k_Chip (ad 0) (ad 1) (ad 2) (ad 5) (ad 8) (ad 11) (ad 15) (ad 25) (ad 26), k_arr (ad 1) (ca 0) 128 mem] (p_Chip_peek mem k) (fun r => r) (fun r => [k_Chip (ad 0) (ad 1) (ad 2) (ad 5) (ad 8) (ad 11) (ad 15) (ad 25) (ad 26), k_arr (ad 1) (ca 0) 128 mem]) := by
  refine cv_starti (by decide) (Nat.le_of_ble_eq_true rfl) [(0, .ref (ad 0)), (1, .int k)] rfl ?_
  intro p e s m below meth c A K hm
  refine cv_iload_n K 1 d_Chip_peek_0 rfl rfl ?_
  refine cv_callSz K (m_Chip_isWord l dC dI tys k) d_Chip_peek_1 (cw_S (n := 1) K.2.2.2.2.1 tm_378 tm_379 tm_1 tm_380 rfl rfl (wd_of (by decide +kernel) (by decide +kernel)) ⟨Nat.le_of_ble_eq_true rfl, Nat.le_of_ble_eq_true rfl⟩) [] rfl rfl (fun _ => rfl) rfl rfl (Nat.le_of_ble_eq_true rfl) (Nat.zero_le _) (Nat.zero_le _) (fun r1 hr1 => ?_)
  refine cv_norm [k_Chip (ad 0) (ad 1) (ad 2) (ad 5) (ad 8) (ad 11) (ad 15) (ad 25) (ad 26), k_arr (ad 1) (ca 0) 128 mem] rfl ?_
  refine cv_if_eq K d_Chip_peek_4 16 rfl (fun h1 => ?_) (fun h1 => ?_)
  · refine cv_iconst (v := 0) K d_Chip_peek_16 rfl ?_
    exact cv_reti K hm d_Chip_peek_17 ((0 : Int32)) (by rw [p_Chip_peek, ← hr1, p_Chip_peek_1, if_pos (c := r1 = (0 : Int32)) h1]) rfl rfl
  · refine cv_aload_n K 0 d_Chip_peek_7 rfl rfl ?_
    refine cv_get K d_Chip_peek_8 0 0 rfl rfl in_Chip (by decide) tm_349 rfl ?_
    refine cv_iload_n K 1 d_Chip_peek_11 rfl rfl ?_
    refine cv_iald K d_Chip_peek_12 1 0 rfl (htys 0 (by decide)) (iw_in hr1 h1) ?_
    refine cv_goto K d_Chip_peek_13 17 rfl ?_
    exact cv_reti K hm d_Chip_peek_17 (mem k.toNatClampNeg) (by rw [p_Chip_peek, ← hr1, p_Chip_peek_1, if_neg (c := r1 = (0 : Int32)) h1]) rfl rfl
-- CycleChip.held(ZI)J
def p_Chip_held_3 (cdv : Nat → Int32) (cdB : Nat → Int32) (cdW : Nat → Int32) (dtv : Nat → Int32) (dtB : Nat → Int32) (dtW : Nat → Int32) (z : Int32) (k : Int32) (r1 : Int32) (r2 : Int32) (r3 : Int32) : Int64 := r3.toInt64 &&& (4294967295 : Int64)
def p_Chip_held_2 (cdv : Nat → Int32) (cdB : Nat → Int32) (cdW : Nat → Int32) (dtv : Nat → Int32) (dtB : Nat → Int32) (dtW : Nat → Int32) (z : Int32) (k : Int32) (r1 : Int32) (r2 : Int32) : Int64 := if r2 = (0 : Int32) then (-1 : Int64) else p_Chip_held_3 cdv cdB cdW dtv dtB dtW z k r1 r2 (p_Cache_word dtv dtB dtW k)
def p_Chip_held_1 (cdv : Nat → Int32) (cdB : Nat → Int32) (cdW : Nat → Int32) (dtv : Nat → Int32) (dtB : Nat → Int32) (dtW : Nat → Int32) (z : Int32) (k : Int32) (r1 : Int32) : Int64 := if r1 = (0 : Int32) then (-1 : Int64) else p_Chip_held_2 cdv cdB cdW dtv dtB dtW z k r1 (p_Cache_holds dtv dtB k)
def p_Chip_held_6 (cdv : Nat → Int32) (cdB : Nat → Int32) (cdW : Nat → Int32) (dtv : Nat → Int32) (dtB : Nat → Int32) (dtW : Nat → Int32) (z : Int32) (k : Int32) (r4 : Int32) (r5 : Int32) (r6 : Int32) : Int64 := r6.toInt64 &&& (4294967295 : Int64)
def p_Chip_held_5 (cdv : Nat → Int32) (cdB : Nat → Int32) (cdW : Nat → Int32) (dtv : Nat → Int32) (dtB : Nat → Int32) (dtW : Nat → Int32) (z : Int32) (k : Int32) (r4 : Int32) (r5 : Int32) : Int64 := if r5 = (0 : Int32) then (-1 : Int64) else p_Chip_held_6 cdv cdB cdW dtv dtB dtW z k r4 r5 (p_Cache_word cdv cdB cdW k)
def p_Chip_held_4 (cdv : Nat → Int32) (cdB : Nat → Int32) (cdW : Nat → Int32) (dtv : Nat → Int32) (dtB : Nat → Int32) (dtW : Nat → Int32) (z : Int32) (k : Int32) (r4 : Int32) : Int64 := if r4 = (0 : Int32) then (-1 : Int64) else p_Chip_held_5 cdv cdB cdW dtv dtB dtW z k r4 (p_Cache_holds cdv cdB k)
def p_Chip_held (cdv : Nat → Int32) (cdB : Nat → Int32) (cdW : Nat → Int32) (dtv : Nat → Int32) (dtB : Nat → Int32) (dtW : Nat → Int32) (z : Int32) (k : Int32) : Int64 := if z = (0 : Int32) then p_Chip_held_1 cdv cdB cdW dtv dtB dtW z k (p_Chip_isWord k) else p_Chip_held_4 cdv cdB cdW dtv dtB dtW z k (p_Chip_isWord k)
set_option maxRecDepth 100000 in
set_option maxHeartbeats 4000000 in
theorem m_Chip_held (l : Launch) (dC : Nat → ClassId) (dI : Nat → Nat → Nat) (tys : List (ClassId × FieldType)) (ad : Nat → Nat) (ca : Nat → ClassId) (n : Nat) (htys : ∀ k, k < 17 → tys[k]? = some (ca k, .int)) (cdv : Nat → Int32) (cdB : Nat → Int32) (cdW : Nat → Int32) (dtv : Nat → Int32) (dtB : Nat → Int32) (dtW : Nat → Int32) (z : Int32) (k : Int32) (hlc : cdv 0 = nI n) (hld : dtv 0 = nI n) (hn : 0 < n) (hn8 : n ≤ 8) : cv_Ml l y_Chip_held (Cond.code y_Chip_held c_Chip_held 4 (some .long) :: gw) { frames := 2, cells := 0, slots := 0, locals := 42 } (dC, dI) vwCl tys [.ref (ad 0), .int z, .int k] [k_Chip (ad 0) (ad 1) (ad 2) (ad 5) (ad 8) (ad 11) (ad 15) (ad 25) (ad 26), k_Cache (ad 2) (ad 3) (ad 4) cdv, k_arr (ad 3) (ca 1) n cdB, k_arr (ad 4) (ca 2) (4 * n) cdW, k_Cache (ad 5) (ad 6) (ad 7) dtv, k_arr (ad 6) (ca 3) n dtB, k_arr (ad 7) (ca 4) (4 * n) dtW] (p_Chip_held cdv cdB cdW dtv dtB dtW z k) (fun r => r) (fun r => [k_Chip (ad 0) (ad 1) (ad 2) (ad 5) (ad 8) (ad 11) (ad 15) (ad 25) (ad 26), k_Cache (ad 2) (ad 3) (ad 4) cdv, k_arr (ad 3) (ca 1) n cdB, k_arr (ad 4) (ca 2) (4 * n) cdW, k_Cache (ad 5) (ad 6) (ad 7) dtv, k_arr (ad 6) (ca 3) n dtB, k_arr (ad 7) (ca 4) (4 * n) dtW]) := by
  refine cv_startl (by decide) (Nat.le_of_ble_eq_true rfl) [(0, .ref (ad 0)), (1, .int z), (2, .int k)] rfl ?_
  intro p e s m below meth c A K hm
  refine cv_iload_n K 1 d_Chip_held_0 rfl rfl ?_
  refine cv_if_eq K d_Chip_held_1 11 rfl (fun h1 => ?_) (fun h1 => ?_)
  · refine cv_aload_n K 0 d_Chip_held_11 rfl rfl ?_
    refine cv_get K d_Chip_held_12 0 2 rfl rfl in_Chip (by decide) tm_351 rfl ?_
    refine cv_astore_n K d_Chip_held_15 [(3, .ref (ad 5)), (0, .ref (ad 0)), (1, .int z), (2, .int k)] rfl (by decide) rfl ?_
    refine cv_iload_n K 3 d_Chip_held_16 rfl rfl ?_
    refine cv_callSz K (m_Chip_isWord l dC dI tys k) d_Chip_held_17 (cw_S (n := 1) K.2.2.2.2.1 tm_378 tm_379 tm_1 tm_380 rfl rfl (wd_of (by decide +kernel) (by decide +kernel)) ⟨Nat.le_of_ble_eq_true rfl, Nat.le_of_ble_eq_true rfl⟩) [] rfl rfl (fun _ => rfl) rfl rfl (Nat.le_of_ble_eq_true rfl) (Nat.zero_le _) (Nat.zero_le _) (fun r1 hr1 => ?_)
    refine cv_norm [k_Chip (ad 0) (ad 1) (ad 2) (ad 5) (ad 8) (ad 11) (ad 15) (ad 25) (ad 26), k_Cache (ad 2) (ad 3) (ad 4) cdv, k_arr (ad 3) (ca 1) n cdB, k_arr (ad 4) (ca 2) (4 * n) cdW, k_Cache (ad 5) (ad 6) (ad 7) dtv, k_arr (ad 6) (ca 3) n dtB, k_arr (ad 7) (ca 4) (4 * n) dtW] rfl ?_
    refine cv_if_eq K d_Chip_held_20 31 rfl (fun h2 => ?_) (fun h2 => ?_)
    · refine cv_ldc2 (v := (-1)) K d_Chip_held_31 tm_393 ?_
      exact cv_retl K hm d_Chip_held_34 ((-1 : Int64)) (by rw [p_Chip_held, if_pos (c := z = (0 : Int32)) h1, ← hr1, p_Chip_held_1, if_pos (c := r1 = (0 : Int32)) h2]) rfl rfl
    · refine cv_aload_n K 0 d_Chip_held_23 rfl rfl ?_
      refine cv_iload_n K 3 d_Chip_held_24 rfl rfl ?_
      refine cv_callVz K (m_Cache_holds l dC dI tys (ad 5) (ad 6) (ad 7) (ca 3) 3 (htys 3 (by decide)) n dtv dtB k hld hn hn8 (iw_ix hr1 h2)) d_Chip_held_25 (cw_V (n := 1) K.2.2.2.2.1 tm_389 tm_390 tm_391 tm_9 tm_392 rfl rfl ⟨rfl, wd_of (by decide +kernel) (by decide +kernel)⟩ ⟨Nat.le_of_ble_eq_true rfl, Nat.le_of_ble_eq_true rfl⟩) 4 rfl rfl [4, 5] rfl rfl (fun _ => rfl) rfl rfl (Nat.le_of_ble_eq_true rfl) (Nat.zero_le _) (Nat.zero_le _) (fun r2 hr2 => ?_)
      refine cv_norm [k_Chip (ad 0) (ad 1) (ad 2) (ad 5) (ad 8) (ad 11) (ad 15) (ad 25) (ad 26), k_Cache (ad 2) (ad 3) (ad 4) cdv, k_arr (ad 3) (ca 1) n cdB, k_arr (ad 4) (ca 2) (4 * n) cdW, k_Cache (ad 5) (ad 6) (ad 7) dtv, k_arr (ad 6) (ca 3) n dtB, k_arr (ad 7) (ca 4) (4 * n) dtW] rfl ?_
      refine cv_if_ne K d_Chip_held_28 35 rfl (fun h3 => ?_) (fun h3 => ?_)
      · refine cv_aload_n K 0 d_Chip_held_35 rfl rfl ?_
        refine cv_iload_n K 3 d_Chip_held_36 rfl rfl ?_
        refine cv_callVi K (m_Cache_word l dC dI tys (ad 5) (ad 6) (ad 7) (ca 3) 3 (htys 3 (by decide)) (ca 4) 4 (htys 4 (by decide)) n dtv dtB dtW k hld hn hn8 (iw_ix hr1 h2)) d_Chip_held_37 (cw_V (n := 1) K.2.2.2.2.1 tm_394 tm_395 tm_396 tm_9 tm_397 rfl rfl ⟨rfl, wd_of (by decide +kernel) (by decide +kernel)⟩ ⟨Nat.le_of_ble_eq_true rfl, Nat.le_of_ble_eq_true rfl⟩) 4 rfl rfl [4, 5, 6] rfl rfl (fun _ => rfl) rfl rfl (Nat.le_of_ble_eq_true rfl) (Nat.zero_le _) (Nat.zero_le _) (fun r3 hr3 => ?_)
        refine cv_norm [k_Chip (ad 0) (ad 1) (ad 2) (ad 5) (ad 8) (ad 11) (ad 15) (ad 25) (ad 26), k_Cache (ad 2) (ad 3) (ad 4) cdv, k_arr (ad 3) (ca 1) n cdB, k_arr (ad 4) (ca 2) (4 * n) cdW, k_Cache (ad 5) (ad 6) (ad 7) dtv, k_arr (ad 6) (ca 3) n dtB, k_arr (ad 7) (ca 4) (4 * n) dtW] rfl ?_
        refine cv_i2l K d_Chip_held_40 rfl ?_
        refine cv_ldc2 (v := 4294967295) K d_Chip_held_41 tm_402 ?_
        refine cv_land K d_Chip_held_44 ?_
        exact cv_retl K hm d_Chip_held_45 (r3.toInt64 &&& (4294967295 : Int64)) (by rw [p_Chip_held, if_pos (c := z = (0 : Int32)) h1, ← hr1, p_Chip_held_1, if_neg (c := r1 = (0 : Int32)) h2, ← hr2, p_Chip_held_2, if_neg (c := r2 = (0 : Int32)) h3, ← hr3, p_Chip_held_3]) rfl rfl
      · refine cv_ldc2 (v := (-1)) K d_Chip_held_31 tm_393 ?_
        exact cv_retl K hm d_Chip_held_34 ((-1 : Int64)) (by rw [p_Chip_held, if_pos (c := z = (0 : Int32)) h1, ← hr1, p_Chip_held_1, if_neg (c := r1 = (0 : Int32)) h2, ← hr2, p_Chip_held_2, if_pos (c := r2 = (0 : Int32)) h3]) rfl rfl
  · refine cv_aload_n K 0 d_Chip_held_4 rfl rfl ?_
    refine cv_get K d_Chip_held_5 0 1 rfl rfl in_Chip (by decide) tm_350 rfl ?_
    refine cv_goto K d_Chip_held_8 15 rfl ?_
    refine cv_astore_n K d_Chip_held_15 [(3, .ref (ad 2)), (0, .ref (ad 0)), (1, .int z), (2, .int k)] rfl (by decide) rfl ?_
    refine cv_iload_n K 3 d_Chip_held_16 rfl rfl ?_
    refine cv_callSz K (m_Chip_isWord l dC dI tys k) d_Chip_held_17 (cw_S (n := 1) K.2.2.2.2.1 tm_378 tm_379 tm_1 tm_380 rfl rfl (wd_of (by decide +kernel) (by decide +kernel)) ⟨Nat.le_of_ble_eq_true rfl, Nat.le_of_ble_eq_true rfl⟩) [] rfl rfl (fun _ => rfl) rfl rfl (Nat.le_of_ble_eq_true rfl) (Nat.zero_le _) (Nat.zero_le _) (fun r4 hr4 => ?_)
    refine cv_norm [k_Chip (ad 0) (ad 1) (ad 2) (ad 5) (ad 8) (ad 11) (ad 15) (ad 25) (ad 26), k_Cache (ad 2) (ad 3) (ad 4) cdv, k_arr (ad 3) (ca 1) n cdB, k_arr (ad 4) (ca 2) (4 * n) cdW, k_Cache (ad 5) (ad 6) (ad 7) dtv, k_arr (ad 6) (ca 3) n dtB, k_arr (ad 7) (ca 4) (4 * n) dtW] rfl ?_
    refine cv_if_eq K d_Chip_held_20 31 rfl (fun h4 => ?_) (fun h4 => ?_)
    · refine cv_ldc2 (v := (-1)) K d_Chip_held_31 tm_393 ?_
      exact cv_retl K hm d_Chip_held_34 ((-1 : Int64)) (by rw [p_Chip_held, if_neg (c := z = (0 : Int32)) h1, ← hr4, p_Chip_held_4, if_pos (c := r4 = (0 : Int32)) h4]) rfl rfl
    · refine cv_aload_n K 0 d_Chip_held_23 rfl rfl ?_
      refine cv_iload_n K 3 d_Chip_held_24 rfl rfl ?_
      refine cv_callVz K (m_Cache_holds l dC dI tys (ad 2) (ad 3) (ad 4) (ca 1) 1 (htys 1 (by decide)) n cdv cdB k hlc hn hn8 (iw_ix hr4 h4)) d_Chip_held_25 (cw_V (n := 1) K.2.2.2.2.1 tm_389 tm_390 tm_391 tm_9 tm_392 rfl rfl ⟨rfl, wd_of (by decide +kernel) (by decide +kernel)⟩ ⟨Nat.le_of_ble_eq_true rfl, Nat.le_of_ble_eq_true rfl⟩) 1 rfl rfl [1, 2] rfl rfl (fun _ => rfl) rfl rfl (Nat.le_of_ble_eq_true rfl) (Nat.zero_le _) (Nat.zero_le _) (fun r5 hr5 => ?_)
      refine cv_norm [k_Chip (ad 0) (ad 1) (ad 2) (ad 5) (ad 8) (ad 11) (ad 15) (ad 25) (ad 26), k_Cache (ad 2) (ad 3) (ad 4) cdv, k_arr (ad 3) (ca 1) n cdB, k_arr (ad 4) (ca 2) (4 * n) cdW, k_Cache (ad 5) (ad 6) (ad 7) dtv, k_arr (ad 6) (ca 3) n dtB, k_arr (ad 7) (ca 4) (4 * n) dtW] rfl ?_
      refine cv_if_ne K d_Chip_held_28 35 rfl (fun h5 => ?_) (fun h5 => ?_)
      · refine cv_aload_n K 0 d_Chip_held_35 rfl rfl ?_
        refine cv_iload_n K 3 d_Chip_held_36 rfl rfl ?_
        refine cv_callVi K (m_Cache_word l dC dI tys (ad 2) (ad 3) (ad 4) (ca 1) 1 (htys 1 (by decide)) (ca 2) 2 (htys 2 (by decide)) n cdv cdB cdW k hlc hn hn8 (iw_ix hr4 h4)) d_Chip_held_37 (cw_V (n := 1) K.2.2.2.2.1 tm_394 tm_395 tm_396 tm_9 tm_397 rfl rfl ⟨rfl, wd_of (by decide +kernel) (by decide +kernel)⟩ ⟨Nat.le_of_ble_eq_true rfl, Nat.le_of_ble_eq_true rfl⟩) 1 rfl rfl [1, 2, 3] rfl rfl (fun _ => rfl) rfl rfl (Nat.le_of_ble_eq_true rfl) (Nat.zero_le _) (Nat.zero_le _) (fun r6 hr6 => ?_)
        refine cv_norm [k_Chip (ad 0) (ad 1) (ad 2) (ad 5) (ad 8) (ad 11) (ad 15) (ad 25) (ad 26), k_Cache (ad 2) (ad 3) (ad 4) cdv, k_arr (ad 3) (ca 1) n cdB, k_arr (ad 4) (ca 2) (4 * n) cdW, k_Cache (ad 5) (ad 6) (ad 7) dtv, k_arr (ad 6) (ca 3) n dtB, k_arr (ad 7) (ca 4) (4 * n) dtW] rfl ?_
        refine cv_i2l K d_Chip_held_40 rfl ?_
        refine cv_ldc2 (v := 4294967295) K d_Chip_held_41 tm_402 ?_
        refine cv_land K d_Chip_held_44 ?_
        exact cv_retl K hm d_Chip_held_45 (r6.toInt64 &&& (4294967295 : Int64)) (by rw [p_Chip_held, if_neg (c := z = (0 : Int32)) h1, ← hr4, p_Chip_held_4, if_neg (c := r4 = (0 : Int32)) h4, ← hr5, p_Chip_held_5, if_neg (c := r5 = (0 : Int32)) h5, ← hr6, p_Chip_held_6]) rfl rfl
      · refine cv_ldc2 (v := (-1)) K d_Chip_held_31 tm_393 ?_
        exact cv_retl K hm d_Chip_held_34 ((-1 : Int64)) (by rw [p_Chip_held, if_neg (c := z = (0 : Int32)) h1, ← hr4, p_Chip_held_4, if_neg (c := r4 = (0 : Int32)) h4, ← hr5, p_Chip_held_5, if_pos (c := r5 = (0 : Int32)) h5]) rfl rfl
-- CycleChip.give(II)Z
def p_Chip_give_2 (krv : Nat → Int32) (rgs : Nat → Int32) (k : Int32) (x : Int32) (r1 : Int32) (r2 : (Nat → Int32)) : Int32 × (Nat → Int32) := ((1 : Int32), r2)
def p_Chip_give_1 (krv : Nat → Int32) (rgs : Nat → Int32) (k : Int32) (x : Int32) (r1 : Int32) : Int32 × (Nat → Int32) := if r1 = (0 : Int32) then ((0 : Int32), rgs) else p_Chip_give_2 krv rgs k x r1 (p_Core_setRegister krv rgs k x)
def p_Chip_give (krv : Nat → Int32) (rgs : Nat → Int32) (k : Int32) (x : Int32) : Int32 × (Nat → Int32) := p_Chip_give_1 krv rgs k x (p_Chip_isRegister k)
set_option maxRecDepth 100000 in
set_option maxHeartbeats 4000000 in
theorem m_Chip_give (l : Launch) (dC : Nat → ClassId) (dI : Nat → Nat → Nat) (tys : List (ClassId × FieldType)) (ad : Nat → Nat) (ca : Nat → ClassId) (n : Nat) (htys : ∀ k, k < 17 → tys[k]? = some (ca k, .int)) (krv : Nat → Int32) (rgs : Nat → Int32) (k : Int32) (x : Int32)  : cv_Mz l y_Chip_give (Cond.code y_Chip_give c_Chip_give 3 (some .boolean) :: gw) { frames := 1, cells := 0, slots := 0, locals := 22 } (dC, dI) vwCl tys [.ref (ad 0), .int k, .int x] [k_Chip (ad 0) (ad 1) (ad 2) (ad 5) (ad 8) (ad 11) (ad 15) (ad 25) (ad 26), k_Core (ad 26) (ad 27) (ad 28) (ad 29) (ad 15) (ad 25) (ad 2) (ad 5) (ad 8) krv, k_arr (ad 27) (ca 14) 32 rgs] (p_Chip_give krv rgs k x) (fun r => r.1) (fun r => [k_Chip (ad 0) (ad 1) (ad 2) (ad 5) (ad 8) (ad 11) (ad 15) (ad 25) (ad 26), k_Core (ad 26) (ad 27) (ad 28) (ad 29) (ad 15) (ad 25) (ad 2) (ad 5) (ad 8) krv, k_arr (ad 27) (ca 14) 32 r.2]) := by
  refine cv_startz (by decide) (Nat.le_of_ble_eq_true rfl) [(0, .ref (ad 0)), (1, .int k), (2, .int x)] rfl ?_
  intro p e s m below meth c A K hm
  refine cv_iload_n K 1 d_Chip_give_0 rfl rfl ?_
  refine cv_callSz K (m_Chip_isRegister l dC dI tys k) d_Chip_give_1 (cw_S (n := 1) K.2.2.2.2.1 tm_407 tm_408 tm_1 tm_409 rfl rfl (wd_of (by decide +kernel) (by decide +kernel)) ⟨Nat.le_of_ble_eq_true rfl, Nat.le_of_ble_eq_true rfl⟩) [] rfl rfl (fun _ => rfl) rfl rfl (Nat.le_of_ble_eq_true rfl) (Nat.zero_le _) (Nat.zero_le _) (fun r1 hr1 => ?_)
  refine cv_norm [k_Chip (ad 0) (ad 1) (ad 2) (ad 5) (ad 8) (ad 11) (ad 15) (ad 25) (ad 26), k_Core (ad 26) (ad 27) (ad 28) (ad 29) (ad 15) (ad 25) (ad 2) (ad 5) (ad 8) krv, k_arr (ad 27) (ca 14) 32 rgs] rfl ?_
  refine cv_if_ne K d_Chip_give_4 9 rfl (fun h1 => ?_) (fun h1 => ?_)
  · refine cv_aload_n K 0 d_Chip_give_9 rfl rfl ?_
    refine cv_get K d_Chip_give_10 0 7 rfl rfl in_Chip (by decide) tm_356 rfl ?_
    refine cv_iload_n K 1 d_Chip_give_13 rfl rfl ?_
    refine cv_iload_n K 2 d_Chip_give_14 rfl rfl ?_
    refine cv_callVv K (m_Core_setRegister l dC dI tys ad ca n htys krv rgs k x (ir_in hr1 h1)) d_Chip_give_15 (cw_V (n := 2) K.2.2.2.2.1 tm_410 tm_411 tm_412 tm_13 tm_413 rfl rfl ⟨rfl, wd_of (by decide +kernel) (by decide +kernel)⟩ ⟨Nat.le_of_ble_eq_true rfl, Nat.le_of_ble_eq_true rfl⟩) 1 rfl rfl [1, 2] rfl rfl (fun _ => rfl) rfl rfl (Nat.le_of_ble_eq_true rfl) (Nat.zero_le _) (Nat.zero_le _) (fun r2 hr2 => ?_)
    refine cv_norm [k_Chip (ad 0) (ad 1) (ad 2) (ad 5) (ad 8) (ad 11) (ad 15) (ad 25) (ad 26), k_Core (ad 26) (ad 27) (ad 28) (ad 29) (ad 15) (ad 25) (ad 2) (ad 5) (ad 8) krv, k_arr (ad 27) (ca 14) 32 r2] rfl ?_
    refine cv_iconst (v := 1) K d_Chip_give_18 rfl ?_
    exact cv_retz K hm d_Chip_give_19 (((1 : Int32), r2)) (by rw [p_Chip_give, ← hr1, p_Chip_give_1, if_neg (c := r1 = (0 : Int32)) h1, ← hr2, p_Chip_give_2]) rfl rfl rfl
  · refine cv_iconst (v := 0) K d_Chip_give_7 rfl ?_
    exact cv_retz K hm d_Chip_give_8 (((0 : Int32), rgs)) (by rw [p_Chip_give, ← hr1, p_Chip_give_1, if_pos (c := r1 = (0 : Int32)) h1]) rfl rfl rfl
-- CycleChip.register(I)I
def p_Chip_register_1 (krv : Nat → Int32) (rgs : Nat → Int32) (k : Int32) (r1 : Int32) : Int32 := if r1 = (0 : Int32) then (0 : Int32) else rgs k.toNatClampNeg
def p_Chip_register (krv : Nat → Int32) (rgs : Nat → Int32) (k : Int32) : Int32 := p_Chip_register_1 krv rgs k (p_Chip_isRegister k)
set_option maxRecDepth 100000 in
set_option maxHeartbeats 4000000 in
theorem m_Chip_register (l : Launch) (dC : Nat → ClassId) (dI : Nat → Nat → Nat) (tys : List (ClassId × FieldType)) (ad : Nat → Nat) (ca : Nat → ClassId) (n : Nat) (htys : ∀ k, k < 17 → tys[k]? = some (ca k, .int)) (krv : Nat → Int32) (rgs : Nat → Int32) (k : Int32)  : cv_Mi l y_Chip_register (Cond.code y_Chip_register c_Chip_register 2 (some .int) :: gw) { frames := 1, cells := 0, slots := 0, locals := 20 } (dC, dI) vwCl tys [.ref (ad 0), .int k] [k_Chip (ad 0) (ad 1) (ad 2) (ad 5) (ad 8) (ad 11) (ad 15) (ad 25) (ad 26), k_Core (ad 26) (ad 27) (ad 28) (ad 29) (ad 15) (ad 25) (ad 2) (ad 5) (ad 8) krv, k_arr (ad 27) (ca 14) 32 rgs] (p_Chip_register krv rgs k) (fun r => r) (fun r => [k_Chip (ad 0) (ad 1) (ad 2) (ad 5) (ad 8) (ad 11) (ad 15) (ad 25) (ad 26), k_Core (ad 26) (ad 27) (ad 28) (ad 29) (ad 15) (ad 25) (ad 2) (ad 5) (ad 8) krv, k_arr (ad 27) (ca 14) 32 rgs]) := by
  refine cv_starti (by decide) (Nat.le_of_ble_eq_true rfl) [(0, .ref (ad 0)), (1, .int k)] rfl ?_
  intro p e s m below meth c A K hm
  refine cv_iload_n K 1 d_Chip_register_0 rfl rfl ?_
  refine cv_callSz K (m_Chip_isRegister l dC dI tys k) d_Chip_register_1 (cw_S (n := 1) K.2.2.2.2.1 tm_407 tm_408 tm_1 tm_409 rfl rfl (wd_of (by decide +kernel) (by decide +kernel)) ⟨Nat.le_of_ble_eq_true rfl, Nat.le_of_ble_eq_true rfl⟩) [] rfl rfl (fun _ => rfl) rfl rfl (Nat.le_of_ble_eq_true rfl) (Nat.zero_le _) (Nat.zero_le _) (fun r1 hr1 => ?_)
  refine cv_norm [k_Chip (ad 0) (ad 1) (ad 2) (ad 5) (ad 8) (ad 11) (ad 15) (ad 25) (ad 26), k_Core (ad 26) (ad 27) (ad 28) (ad 29) (ad 15) (ad 25) (ad 2) (ad 5) (ad 8) krv, k_arr (ad 27) (ca 14) 32 rgs] rfl ?_
  refine cv_if_eq K d_Chip_register_4 19 rfl (fun h1 => ?_) (fun h1 => ?_)
  · refine cv_iconst (v := 0) K d_Chip_register_19 rfl ?_
    exact cv_reti K hm d_Chip_register_20 ((0 : Int32)) (by rw [p_Chip_register, ← hr1, p_Chip_register_1, if_pos (c := r1 = (0 : Int32)) h1]) rfl rfl
  · refine cv_aload_n K 0 d_Chip_register_7 rfl rfl ?_
    refine cv_get K d_Chip_register_8 0 7 rfl rfl in_Chip (by decide) tm_356 rfl ?_
    refine cv_get K d_Chip_register_11 1 0 rfl rfl in_Core (by decide) tm_292 rfl ?_
    refine cv_iload_n K 1 d_Chip_register_14 rfl rfl ?_
    refine cv_iald K d_Chip_register_15 2 14 rfl (htys 14 (by decide)) (ir_in hr1 h1) ?_
    refine cv_goto K d_Chip_register_16 20 rfl ?_
    exact cv_reti K hm d_Chip_register_20 (rgs k.toNatClampNeg) (by rw [p_Chip_register, ← hr1, p_Chip_register_1, if_neg (c := r1 = (0 : Int32)) h1]) rfl rfl
-- CycleChip.pc()I
def p_Chip_pc (krv : Nat → Int32) : Int32 := krv 0
set_option maxRecDepth 100000 in
set_option maxHeartbeats 4000000 in
theorem m_Chip_pc (l : Launch) (dC : Nat → ClassId) (dI : Nat → Nat → Nat) (tys : List (ClassId × FieldType)) (ad : Nat → Nat) (ca : Nat → ClassId) (n : Nat) (htys : ∀ k, k < 17 → tys[k]? = some (ca k, .int)) (krv : Nat → Int32)  : cv_Mi l y_Chip_pc (Cond.code y_Chip_pc c_Chip_pc 1 (some .int) :: gw) { frames := 0, cells := 0, slots := 0, locals := 0 } (dC, dI) vwCl tys [.ref (ad 0)] [k_Chip (ad 0) (ad 1) (ad 2) (ad 5) (ad 8) (ad 11) (ad 15) (ad 25) (ad 26), k_Core (ad 26) (ad 27) (ad 28) (ad 29) (ad 15) (ad 25) (ad 2) (ad 5) (ad 8) krv] (p_Chip_pc krv) (fun r => r) (fun r => [k_Chip (ad 0) (ad 1) (ad 2) (ad 5) (ad 8) (ad 11) (ad 15) (ad 25) (ad 26), k_Core (ad 26) (ad 27) (ad 28) (ad 29) (ad 15) (ad 25) (ad 2) (ad 5) (ad 8) krv]) := by
  refine cv_starti (by decide) (Nat.le_of_ble_eq_true rfl) [(0, .ref (ad 0))] rfl ?_
  intro p e s m below meth c A K hm
  refine cv_aload_n K 0 d_Chip_pc_0 rfl rfl ?_
  refine cv_get K d_Chip_pc_1 0 7 rfl rfl in_Chip (by decide) tm_356 rfl ?_
  refine cv_get K d_Chip_pc_4 1 3 rfl rfl in_Core (by decide) tm_298 rfl ?_
  exact cv_reti K hm d_Chip_pc_7 (krv 0) (by rw [p_Chip_pc]) rfl rfl
-- CycleChip.control(I)I
def p_Chip_control_2 (dvL : Nat → Int64) (itv : Nat → Int32) (krv : Nat → Int32) (ctv : Nat → Int32) (k : Int32) (r1 : Int32) (r2 : Int32) : Int32 := r2
def p_Chip_control_1 (dvL : Nat → Int64) (itv : Nat → Int32) (krv : Nat → Int32) (ctv : Nat → Int32) (k : Int32) (r1 : Int32) : Int32 := p_Chip_control_2 dvL itv krv ctv k r1 (p_Control_read ctv k r1 (krv 1))
def p_Chip_control (dvL : Nat → Int64) (itv : Nat → Int32) (krv : Nat → Int32) (ctv : Nat → Int32) (k : Int32) : Int32 := p_Chip_control_1 dvL itv krv ctv k (p_Devices_interruptBits dvL itv)
set_option maxRecDepth 100000 in
set_option maxHeartbeats 4000000 in
theorem m_Chip_control (l : Launch) (dC : Nat → ClassId) (dI : Nat → Nat → Nat) (tys : List (ClassId × FieldType)) (ad : Nat → Nat) (ca : Nat → ClassId) (n : Nat) (htys : ∀ k, k < 17 → tys[k]? = some (ca k, .int)) (dvL : Nat → Int64) (itv : Nat → Int32) (krv : Nat → Int32) (ctv : Nat → Int32) (k : Int32)  : cv_Mi l y_Chip_control (Cond.code y_Chip_control c_Chip_control 2 (some .int) :: gw) { frames := 3, cells := 0, slots := 0, locals := 68 } (dC, dI) vwCl tys [.ref (ad 0), .int k] [k_Chip (ad 0) (ad 1) (ad 2) (ad 5) (ad 8) (ad 11) (ad 15) (ad 25) (ad 26), k_Devices (ad 15) (ad 16) (ad 17) dvL, k_Interrupts (ad 16) itv, k_Core (ad 26) (ad 27) (ad 28) (ad 29) (ad 15) (ad 25) (ad 2) (ad 5) (ad 8) krv, k_Control (ad 28) ctv] (p_Chip_control dvL itv krv ctv k) (fun r => r) (fun r => [k_Chip (ad 0) (ad 1) (ad 2) (ad 5) (ad 8) (ad 11) (ad 15) (ad 25) (ad 26), k_Devices (ad 15) (ad 16) (ad 17) dvL, k_Interrupts (ad 16) itv, k_Core (ad 26) (ad 27) (ad 28) (ad 29) (ad 15) (ad 25) (ad 2) (ad 5) (ad 8) krv, k_Control (ad 28) ctv]) := by
  refine cv_starti (by decide) (Nat.le_of_ble_eq_true rfl) [(0, .ref (ad 0)), (1, .int k)] rfl ?_
  intro p e s m below meth c A K hm
  refine cv_aload_n K 0 d_Chip_control_0 rfl rfl ?_
  refine cv_get K d_Chip_control_1 0 7 rfl rfl in_Chip (by decide) tm_356 rfl ?_
  refine cv_get K d_Chip_control_4 3 1 rfl rfl in_Core (by decide) tm_294 rfl ?_
  refine cv_iload_n K 1 d_Chip_control_7 rfl rfl ?_
  refine cv_aload_n K 0 d_Chip_control_8 rfl rfl ?_
  refine cv_get K d_Chip_control_9 0 5 rfl rfl in_Chip (by decide) tm_354 rfl ?_
  refine cv_callVi K (m_Devices_interruptBits l dC dI tys ad ca n htys dvL itv) d_Chip_control_12 (cw_V (n := 0) K.2.2.2.2.1 tm_426 tm_427 tm_428 tm_4 tm_429 rfl rfl ⟨rfl, wd_of (by decide +kernel) (by decide +kernel)⟩ ⟨Nat.le_of_ble_eq_true rfl, Nat.le_of_ble_eq_true rfl⟩) 1 rfl rfl [1, 2] rfl rfl (fun _ => rfl) rfl rfl (Nat.le_of_ble_eq_true rfl) (Nat.zero_le _) (Nat.zero_le _) (fun r1 hr1 => ?_)
  refine cv_norm [k_Chip (ad 0) (ad 1) (ad 2) (ad 5) (ad 8) (ad 11) (ad 15) (ad 25) (ad 26), k_Devices (ad 15) (ad 16) (ad 17) dvL, k_Interrupts (ad 16) itv, k_Core (ad 26) (ad 27) (ad 28) (ad 29) (ad 15) (ad 25) (ad 2) (ad 5) (ad 8) krv, k_Control (ad 28) ctv] rfl ?_
  refine cv_aload_n K 0 d_Chip_control_15 rfl rfl ?_
  refine cv_get K d_Chip_control_16 0 7 rfl rfl in_Chip (by decide) tm_356 rfl ?_
  refine cv_get K d_Chip_control_19 3 4 rfl rfl in_Core (by decide) tm_300 rfl ?_
  refine cv_callVi K (m_Control_read l dC dI tys (ad 28) ctv k r1 (krv 1)) d_Chip_control_22 (cw_V (n := 3) K.2.2.2.2.1 tm_441 tm_442 tm_443 tm_14 tm_444 rfl rfl ⟨rfl, wd_of (by decide +kernel) (by decide +kernel)⟩ ⟨Nat.le_of_ble_eq_true rfl, Nat.le_of_ble_eq_true rfl⟩) 4 rfl rfl [4] rfl rfl (fun _ => rfl) rfl rfl (Nat.le_of_ble_eq_true rfl) (Nat.zero_le _) (Nat.zero_le _) (fun r2 hr2 => ?_)
  refine cv_norm [k_Chip (ad 0) (ad 1) (ad 2) (ad 5) (ad 8) (ad 11) (ad 15) (ad 25) (ad 26), k_Devices (ad 15) (ad 16) (ad 17) dvL, k_Interrupts (ad 16) itv, k_Core (ad 26) (ad 27) (ad 28) (ad 29) (ad 15) (ad 25) (ad 2) (ad 5) (ad 8) krv, k_Control (ad 28) ctv] rfl ?_
  exact cv_reti K hm d_Chip_control_25 (r2) (by rw [p_Chip_control, ← hr1, p_Chip_control_1, ← hr2, p_Chip_control_2]) rfl rfl
theorem nzb {x : Int32} (h : x = 0 ∨ x = 1) : narrow .boolean (.int x) = .int x := by rcases h with rfl | rfl <;> rfl
theorem ea_z {a b c d : Nat → Int32} {k x y : Int32} : ∀ r, r = p_Events_add a b c d k x y → narrow .boolean (.int r.1) = .int r.1 := by
  intro r hr
  refine nzb ?_
  rw [hr, p_Events_add]
  split
  · exact Or.inr rfl
  · exact Or.inl rfl
-- CycleChip.plan(III)Z
def p_Chip_plan_1 (evv : Nat → Int32) (evD : Nat → Int32) (evW : Nat → Int32) (evV : Nat → Int32) (krv : Nat → Int32) (k : Int32) (x : Int32) (y : Int32) (r1 : Int32 × (Nat → Int32) × (Nat → Int32) × (Nat → Int32) × (Nat → Int32)) : Int32 × (Nat → Int32) × (Nat → Int32) × (Nat → Int32) × (Nat → Int32) := (r1.1, r1.2.1, r1.2.2.1, r1.2.2.2.1, r1.2.2.2.2)
def p_Chip_plan_2 (evv : Nat → Int32) (evD : Nat → Int32) (evW : Nat → Int32) (evV : Nat → Int32) (krv : Nat → Int32) (k : Int32) (x : Int32) (y : Int32) (r2 : Int32 × (Nat → Int32) × (Nat → Int32) × (Nat → Int32) × (Nat → Int32)) : Int32 × (Nat → Int32) × (Nat → Int32) × (Nat → Int32) × (Nat → Int32) := (r2.1, r2.2.1, r2.2.2.1, r2.2.2.2.1, r2.2.2.2.2)
def p_Chip_plan_3 (evv : Nat → Int32) (evD : Nat → Int32) (evW : Nat → Int32) (evV : Nat → Int32) (krv : Nat → Int32) (k : Int32) (x : Int32) (y : Int32) (r3 : Int32 × (Nat → Int32) × (Nat → Int32) × (Nat → Int32) × (Nat → Int32)) : Int32 × (Nat → Int32) × (Nat → Int32) × (Nat → Int32) × (Nat → Int32) := (r3.1, r3.2.1, r3.2.2.1, r3.2.2.2.1, r3.2.2.2.2)
def p_Chip_plan_4 (evv : Nat → Int32) (evD : Nat → Int32) (evW : Nat → Int32) (evV : Nat → Int32) (krv : Nat → Int32) (k : Int32) (x : Int32) (y : Int32) (r4 : Int32 × (Nat → Int32) × (Nat → Int32) × (Nat → Int32) × (Nat → Int32)) : Int32 × (Nat → Int32) × (Nat → Int32) × (Nat → Int32) × (Nat → Int32) := (r4.1, r4.2.1, r4.2.2.1, r4.2.2.2.1, r4.2.2.2.2)
def p_Chip_plan (evv : Nat → Int32) (evD : Nat → Int32) (evW : Nat → Int32) (evV : Nat → Int32) (krv : Nat → Int32) (k : Int32) (x : Int32) (y : Int32) : Int32 × (Nat → Int32) × (Nat → Int32) × (Nat → Int32) × (Nat → Int32) := if x = (0 : Int32) then if k < (0 : Int32) then ((0 : Int32), evv, evD, evW, evV) else if (2000 : Int32) < k then ((0 : Int32), evv, evD, evW, evV) else if (1 : Int32) = (0 : Int32) then ((0 : Int32), evv, evD, evW, evV) else p_Chip_plan_1 evv evD evW evV krv k x y (p_Events_add evv evD evW evV ((krv 1) + k) x y) else if x < (2 : Int32) then if k < (0 : Int32) then ((0 : Int32), evv, evD, evW, evV) else if (2000 : Int32) < k then ((0 : Int32), evv, evD, evW, evV) else if (0 : Int32) = (0 : Int32) then ((0 : Int32), evv, evD, evW, evV) else p_Chip_plan_2 evv evD evW evV krv k x y (p_Events_add evv evD evW evV ((krv 1) + k) x y) else if (7 : Int32) < x then if k < (0 : Int32) then ((0 : Int32), evv, evD, evW, evV) else if (2000 : Int32) < k then ((0 : Int32), evv, evD, evW, evV) else if (0 : Int32) = (0 : Int32) then ((0 : Int32), evv, evD, evW, evV) else p_Chip_plan_3 evv evD evW evV krv k x y (p_Events_add evv evD evW evV ((krv 1) + k) x y) else if k < (0 : Int32) then ((0 : Int32), evv, evD, evW, evV) else if (2000 : Int32) < k then ((0 : Int32), evv, evD, evW, evV) else if (1 : Int32) = (0 : Int32) then ((0 : Int32), evv, evD, evW, evV) else p_Chip_plan_4 evv evD evW evV krv k x y (p_Events_add evv evD evW evV ((krv 1) + k) x y)
set_option maxRecDepth 100000 in
set_option maxHeartbeats 4000000 in
theorem m_Chip_plan (l : Launch) (dC : Nat → ClassId) (dI : Nat → Nat → Nat) (tys : List (ClassId × FieldType)) (ad : Nat → Nat) (ca : Nat → ClassId) (n : Nat) (htys : ∀ k, k < 17 → tys[k]? = some (ca k, .int)) (evv : Nat → Int32) (evD : Nat → Int32) (evW : Nat → Int32) (evV : Nat → Int32) (krv : Nat → Int32) (k : Int32) (x : Int32) (y : Int32) (hec : ∃ k : Nat, k ≤ 16 ∧ evv 0 = nI k) : cv_Mz l y_Chip_plan (Cond.code y_Chip_plan c_Chip_plan 5 (some .boolean) :: gw) { frames := 1, cells := 0, slots := 0, locals := 23 } (dC, dI) vwCl tys [.ref (ad 0), .int k, .int x, .int y] [k_Chip (ad 0) (ad 1) (ad 2) (ad 5) (ad 8) (ad 11) (ad 15) (ad 25) (ad 26), k_Events (ad 11) (ad 12) (ad 13) (ad 14) evv, k_arr (ad 12) (ca 7) 16 evD, k_arr (ad 13) (ca 8) 16 evW, k_arr (ad 14) (ca 9) 16 evV, k_Core (ad 26) (ad 27) (ad 28) (ad 29) (ad 15) (ad 25) (ad 2) (ad 5) (ad 8) krv] (p_Chip_plan evv evD evW evV krv k x y) (fun r => r.1) (fun r => [k_Chip (ad 0) (ad 1) (ad 2) (ad 5) (ad 8) (ad 11) (ad 15) (ad 25) (ad 26), k_Events (ad 11) (ad 12) (ad 13) (ad 14) r.2.1, k_arr (ad 12) (ca 7) 16 r.2.2.1, k_arr (ad 13) (ca 8) 16 r.2.2.2.1, k_arr (ad 14) (ca 9) 16 r.2.2.2.2, k_Core (ad 26) (ad 27) (ad 28) (ad 29) (ad 15) (ad 25) (ad 2) (ad 5) (ad 8) krv]) := by
  refine cv_startz (by decide) (Nat.le_of_ble_eq_true rfl) [(0, .ref (ad 0)), (1, .int k), (2, .int x), (3, .int y)] rfl ?_
  intro p e s m below meth c A K hm
  refine cv_iload_n K 2 d_Chip_plan_0 rfl rfl ?_
  refine cv_if_eq K d_Chip_plan_1 15 rfl (fun h1 => ?_) (fun h1 => ?_)
  · refine cv_iconst (v := 1) K d_Chip_plan_15 rfl ?_
    refine cv_goto K d_Chip_plan_16 20 rfl ?_
    refine cv_istore K d_Chip_plan_20 [(4, .int (1 : Int32)), (0, .ref (ad 0)), (1, .int k), (2, .int x), (3, .int y)] (by decide) rfl ?_
    refine cv_iload_n K 2 d_Chip_plan_22 rfl rfl ?_
    refine cv_if_lt K d_Chip_plan_23 38 rfl (fun h2 => ?_) (fun h2 => ?_)
    · refine cv_iconst (v := 0) K d_Chip_plan_38 rfl ?_
      exact cv_retz K hm d_Chip_plan_39 (((0 : Int32), evv, evD, evW, evV)) (by rw [p_Chip_plan, if_pos (c := x = (0 : Int32)) h1, if_pos (c := k < (0 : Int32)) h2]) rfl rfl rfl
    · refine cv_iload_n K 2 d_Chip_plan_26 rfl rfl ?_
      refine cv_sipush (v := 2000) K d_Chip_plan_27 (by decide +kernel) ?_
      refine cv_icmp_gt K d_Chip_plan_30 38 rfl (fun h3 => ?_) (fun h3 => ?_)
      · refine cv_iconst (v := 0) K d_Chip_plan_38 rfl ?_
        exact cv_retz K hm d_Chip_plan_39 (((0 : Int32), evv, evD, evW, evV)) (by rw [p_Chip_plan, if_pos (c := x = (0 : Int32)) h1, if_neg (c := k < (0 : Int32)) h2, if_pos (c := (2000 : Int32) < k) h3]) rfl rfl rfl
      · refine cv_iload K 0 d_Chip_plan_33 rfl ?_
        refine cv_if_ne K d_Chip_plan_35 40 rfl (fun h4 => ?_) (fun h4 => ?_)
        · refine cv_aload_n K 1 d_Chip_plan_40 rfl rfl ?_
          refine cv_get K d_Chip_plan_41 0 4 rfl rfl in_Chip (by decide) tm_353 rfl ?_
          refine cv_aload_n K 1 d_Chip_plan_44 rfl rfl ?_
          refine cv_get K d_Chip_plan_45 0 7 rfl rfl in_Chip (by decide) tm_356 rfl ?_
          refine cv_get K d_Chip_plan_48 5 4 rfl rfl in_Core (by decide) tm_300 rfl ?_
          refine cv_iload_n K 2 d_Chip_plan_51 rfl rfl ?_
          refine cv_iadd K d_Chip_plan_52 ?_
          refine cv_iload_n K 3 d_Chip_plan_53 rfl rfl ?_
          refine cv_iload_n K 4 d_Chip_plan_54 rfl rfl ?_
          refine cv_callVz K (m_Events_add l dC dI tys ad ca n htys evv evD evW evV ((krv 1) + k) x y hec) d_Chip_plan_55 (cw_V (n := 3) K.2.2.2.2.1 tm_449 tm_450 tm_451 tm_3 tm_452 rfl rfl ⟨rfl, wd_of (by decide +kernel) (by decide +kernel)⟩ ⟨Nat.le_of_ble_eq_true rfl, Nat.le_of_ble_eq_true rfl⟩) 1 rfl rfl [1, 2, 3, 4] rfl rfl (fun _ => rfl) rfl rfl (Nat.le_of_ble_eq_true rfl) (Nat.zero_le _) (Nat.zero_le _) (fun r1 hr1 => ?_)
          refine cv_norm [k_Chip (ad 0) (ad 1) (ad 2) (ad 5) (ad 8) (ad 11) (ad 15) (ad 25) (ad 26), k_Events (ad 11) (ad 12) (ad 13) (ad 14) r1.2.1, k_arr (ad 12) (ca 7) 16 r1.2.2.1, k_arr (ad 13) (ca 8) 16 r1.2.2.2.1, k_arr (ad 14) (ca 9) 16 r1.2.2.2.2, k_Core (ad 26) (ad 27) (ad 28) (ad 29) (ad 15) (ad 25) (ad 2) (ad 5) (ad 8) krv] rfl ?_
          exact cv_retz K hm d_Chip_plan_58 ((r1.1, r1.2.1, r1.2.2.1, r1.2.2.2.1, r1.2.2.2.2)) (by rw [p_Chip_plan, if_pos (c := x = (0 : Int32)) h1, if_neg (c := k < (0 : Int32)) h2, if_neg (c := (2000 : Int32) < k) h3, if_neg (c := (1 : Int32) = (0 : Int32)) h4, ← hr1, p_Chip_plan_1]) rfl rfl (ea_z _ hr1)
        · refine cv_iconst (v := 0) K d_Chip_plan_38 rfl ?_
          exact cv_retz K hm d_Chip_plan_39 (((0 : Int32), evv, evD, evW, evV)) (by rw [p_Chip_plan, if_pos (c := x = (0 : Int32)) h1, if_neg (c := k < (0 : Int32)) h2, if_neg (c := (2000 : Int32) < k) h3, if_pos (c := (1 : Int32) = (0 : Int32)) h4]) rfl rfl rfl
  · refine cv_iload_n K 2 d_Chip_plan_4 rfl rfl ?_
    refine cv_iconst (v := 2) K d_Chip_plan_5 rfl ?_
    refine cv_icmp_lt K d_Chip_plan_6 19 rfl (fun h5 => ?_) (fun h5 => ?_)
    · refine cv_iconst (v := 0) K d_Chip_plan_19 rfl ?_
      refine cv_istore K d_Chip_plan_20 [(4, .int (0 : Int32)), (0, .ref (ad 0)), (1, .int k), (2, .int x), (3, .int y)] (by decide) rfl ?_
      refine cv_iload_n K 2 d_Chip_plan_22 rfl rfl ?_
      refine cv_if_lt K d_Chip_plan_23 38 rfl (fun h6 => ?_) (fun h6 => ?_)
      · refine cv_iconst (v := 0) K d_Chip_plan_38 rfl ?_
        exact cv_retz K hm d_Chip_plan_39 (((0 : Int32), evv, evD, evW, evV)) (by rw [p_Chip_plan, if_neg (c := x = (0 : Int32)) h1, if_pos (c := x < (2 : Int32)) h5, if_pos (c := k < (0 : Int32)) h6]) rfl rfl rfl
      · refine cv_iload_n K 2 d_Chip_plan_26 rfl rfl ?_
        refine cv_sipush (v := 2000) K d_Chip_plan_27 (by decide +kernel) ?_
        refine cv_icmp_gt K d_Chip_plan_30 38 rfl (fun h7 => ?_) (fun h7 => ?_)
        · refine cv_iconst (v := 0) K d_Chip_plan_38 rfl ?_
          exact cv_retz K hm d_Chip_plan_39 (((0 : Int32), evv, evD, evW, evV)) (by rw [p_Chip_plan, if_neg (c := x = (0 : Int32)) h1, if_pos (c := x < (2 : Int32)) h5, if_neg (c := k < (0 : Int32)) h6, if_pos (c := (2000 : Int32) < k) h7]) rfl rfl rfl
        · refine cv_iload K 0 d_Chip_plan_33 rfl ?_
          refine cv_if_ne K d_Chip_plan_35 40 rfl (fun h8 => ?_) (fun h8 => ?_)
          · refine cv_aload_n K 1 d_Chip_plan_40 rfl rfl ?_
            refine cv_get K d_Chip_plan_41 0 4 rfl rfl in_Chip (by decide) tm_353 rfl ?_
            refine cv_aload_n K 1 d_Chip_plan_44 rfl rfl ?_
            refine cv_get K d_Chip_plan_45 0 7 rfl rfl in_Chip (by decide) tm_356 rfl ?_
            refine cv_get K d_Chip_plan_48 5 4 rfl rfl in_Core (by decide) tm_300 rfl ?_
            refine cv_iload_n K 2 d_Chip_plan_51 rfl rfl ?_
            refine cv_iadd K d_Chip_plan_52 ?_
            refine cv_iload_n K 3 d_Chip_plan_53 rfl rfl ?_
            refine cv_iload_n K 4 d_Chip_plan_54 rfl rfl ?_
            refine cv_callVz K (m_Events_add l dC dI tys ad ca n htys evv evD evW evV ((krv 1) + k) x y hec) d_Chip_plan_55 (cw_V (n := 3) K.2.2.2.2.1 tm_449 tm_450 tm_451 tm_3 tm_452 rfl rfl ⟨rfl, wd_of (by decide +kernel) (by decide +kernel)⟩ ⟨Nat.le_of_ble_eq_true rfl, Nat.le_of_ble_eq_true rfl⟩) 1 rfl rfl [1, 2, 3, 4] rfl rfl (fun _ => rfl) rfl rfl (Nat.le_of_ble_eq_true rfl) (Nat.zero_le _) (Nat.zero_le _) (fun r2 hr2 => ?_)
            refine cv_norm [k_Chip (ad 0) (ad 1) (ad 2) (ad 5) (ad 8) (ad 11) (ad 15) (ad 25) (ad 26), k_Events (ad 11) (ad 12) (ad 13) (ad 14) r2.2.1, k_arr (ad 12) (ca 7) 16 r2.2.2.1, k_arr (ad 13) (ca 8) 16 r2.2.2.2.1, k_arr (ad 14) (ca 9) 16 r2.2.2.2.2, k_Core (ad 26) (ad 27) (ad 28) (ad 29) (ad 15) (ad 25) (ad 2) (ad 5) (ad 8) krv] rfl ?_
            exact cv_retz K hm d_Chip_plan_58 ((r2.1, r2.2.1, r2.2.2.1, r2.2.2.2.1, r2.2.2.2.2)) (by rw [p_Chip_plan, if_neg (c := x = (0 : Int32)) h1, if_pos (c := x < (2 : Int32)) h5, if_neg (c := k < (0 : Int32)) h6, if_neg (c := (2000 : Int32) < k) h7, if_neg (c := (0 : Int32) = (0 : Int32)) h8, ← hr2, p_Chip_plan_2]) rfl rfl (ea_z _ hr2)
          · refine cv_iconst (v := 0) K d_Chip_plan_38 rfl ?_
            exact cv_retz K hm d_Chip_plan_39 (((0 : Int32), evv, evD, evW, evV)) (by rw [p_Chip_plan, if_neg (c := x = (0 : Int32)) h1, if_pos (c := x < (2 : Int32)) h5, if_neg (c := k < (0 : Int32)) h6, if_neg (c := (2000 : Int32) < k) h7, if_pos (c := (0 : Int32) = (0 : Int32)) h8]) rfl rfl rfl
    · refine cv_iload_n K 2 d_Chip_plan_9 rfl rfl ?_
      refine cv_bipush (v := 7) K d_Chip_plan_10 (by decide +kernel) ?_
      refine cv_icmp_gt K d_Chip_plan_12 19 rfl (fun h9 => ?_) (fun h9 => ?_)
      · refine cv_iconst (v := 0) K d_Chip_plan_19 rfl ?_
        refine cv_istore K d_Chip_plan_20 [(4, .int (0 : Int32)), (0, .ref (ad 0)), (1, .int k), (2, .int x), (3, .int y)] (by decide) rfl ?_
        refine cv_iload_n K 2 d_Chip_plan_22 rfl rfl ?_
        refine cv_if_lt K d_Chip_plan_23 38 rfl (fun h10 => ?_) (fun h10 => ?_)
        · refine cv_iconst (v := 0) K d_Chip_plan_38 rfl ?_
          exact cv_retz K hm d_Chip_plan_39 (((0 : Int32), evv, evD, evW, evV)) (by rw [p_Chip_plan, if_neg (c := x = (0 : Int32)) h1, if_neg (c := x < (2 : Int32)) h5, if_pos (c := (7 : Int32) < x) h9, if_pos (c := k < (0 : Int32)) h10]) rfl rfl rfl
        · refine cv_iload_n K 2 d_Chip_plan_26 rfl rfl ?_
          refine cv_sipush (v := 2000) K d_Chip_plan_27 (by decide +kernel) ?_
          refine cv_icmp_gt K d_Chip_plan_30 38 rfl (fun h11 => ?_) (fun h11 => ?_)
          · refine cv_iconst (v := 0) K d_Chip_plan_38 rfl ?_
            exact cv_retz K hm d_Chip_plan_39 (((0 : Int32), evv, evD, evW, evV)) (by rw [p_Chip_plan, if_neg (c := x = (0 : Int32)) h1, if_neg (c := x < (2 : Int32)) h5, if_pos (c := (7 : Int32) < x) h9, if_neg (c := k < (0 : Int32)) h10, if_pos (c := (2000 : Int32) < k) h11]) rfl rfl rfl
          · refine cv_iload K 0 d_Chip_plan_33 rfl ?_
            refine cv_if_ne K d_Chip_plan_35 40 rfl (fun h12 => ?_) (fun h12 => ?_)
            · refine cv_aload_n K 1 d_Chip_plan_40 rfl rfl ?_
              refine cv_get K d_Chip_plan_41 0 4 rfl rfl in_Chip (by decide) tm_353 rfl ?_
              refine cv_aload_n K 1 d_Chip_plan_44 rfl rfl ?_
              refine cv_get K d_Chip_plan_45 0 7 rfl rfl in_Chip (by decide) tm_356 rfl ?_
              refine cv_get K d_Chip_plan_48 5 4 rfl rfl in_Core (by decide) tm_300 rfl ?_
              refine cv_iload_n K 2 d_Chip_plan_51 rfl rfl ?_
              refine cv_iadd K d_Chip_plan_52 ?_
              refine cv_iload_n K 3 d_Chip_plan_53 rfl rfl ?_
              refine cv_iload_n K 4 d_Chip_plan_54 rfl rfl ?_
              refine cv_callVz K (m_Events_add l dC dI tys ad ca n htys evv evD evW evV ((krv 1) + k) x y hec) d_Chip_plan_55 (cw_V (n := 3) K.2.2.2.2.1 tm_449 tm_450 tm_451 tm_3 tm_452 rfl rfl ⟨rfl, wd_of (by decide +kernel) (by decide +kernel)⟩ ⟨Nat.le_of_ble_eq_true rfl, Nat.le_of_ble_eq_true rfl⟩) 1 rfl rfl [1, 2, 3, 4] rfl rfl (fun _ => rfl) rfl rfl (Nat.le_of_ble_eq_true rfl) (Nat.zero_le _) (Nat.zero_le _) (fun r3 hr3 => ?_)
              refine cv_norm [k_Chip (ad 0) (ad 1) (ad 2) (ad 5) (ad 8) (ad 11) (ad 15) (ad 25) (ad 26), k_Events (ad 11) (ad 12) (ad 13) (ad 14) r3.2.1, k_arr (ad 12) (ca 7) 16 r3.2.2.1, k_arr (ad 13) (ca 8) 16 r3.2.2.2.1, k_arr (ad 14) (ca 9) 16 r3.2.2.2.2, k_Core (ad 26) (ad 27) (ad 28) (ad 29) (ad 15) (ad 25) (ad 2) (ad 5) (ad 8) krv] rfl ?_
              exact cv_retz K hm d_Chip_plan_58 ((r3.1, r3.2.1, r3.2.2.1, r3.2.2.2.1, r3.2.2.2.2)) (by rw [p_Chip_plan, if_neg (c := x = (0 : Int32)) h1, if_neg (c := x < (2 : Int32)) h5, if_pos (c := (7 : Int32) < x) h9, if_neg (c := k < (0 : Int32)) h10, if_neg (c := (2000 : Int32) < k) h11, if_neg (c := (0 : Int32) = (0 : Int32)) h12, ← hr3, p_Chip_plan_3]) rfl rfl (ea_z _ hr3)
            · refine cv_iconst (v := 0) K d_Chip_plan_38 rfl ?_
              exact cv_retz K hm d_Chip_plan_39 (((0 : Int32), evv, evD, evW, evV)) (by rw [p_Chip_plan, if_neg (c := x = (0 : Int32)) h1, if_neg (c := x < (2 : Int32)) h5, if_pos (c := (7 : Int32) < x) h9, if_neg (c := k < (0 : Int32)) h10, if_neg (c := (2000 : Int32) < k) h11, if_pos (c := (0 : Int32) = (0 : Int32)) h12]) rfl rfl rfl
      · refine cv_iconst (v := 1) K d_Chip_plan_15 rfl ?_
        refine cv_goto K d_Chip_plan_16 20 rfl ?_
        refine cv_istore K d_Chip_plan_20 [(4, .int (1 : Int32)), (0, .ref (ad 0)), (1, .int k), (2, .int x), (3, .int y)] (by decide) rfl ?_
        refine cv_iload_n K 2 d_Chip_plan_22 rfl rfl ?_
        refine cv_if_lt K d_Chip_plan_23 38 rfl (fun h13 => ?_) (fun h13 => ?_)
        · refine cv_iconst (v := 0) K d_Chip_plan_38 rfl ?_
          exact cv_retz K hm d_Chip_plan_39 (((0 : Int32), evv, evD, evW, evV)) (by rw [p_Chip_plan, if_neg (c := x = (0 : Int32)) h1, if_neg (c := x < (2 : Int32)) h5, if_neg (c := (7 : Int32) < x) h9, if_pos (c := k < (0 : Int32)) h13]) rfl rfl rfl
        · refine cv_iload_n K 2 d_Chip_plan_26 rfl rfl ?_
          refine cv_sipush (v := 2000) K d_Chip_plan_27 (by decide +kernel) ?_
          refine cv_icmp_gt K d_Chip_plan_30 38 rfl (fun h14 => ?_) (fun h14 => ?_)
          · refine cv_iconst (v := 0) K d_Chip_plan_38 rfl ?_
            exact cv_retz K hm d_Chip_plan_39 (((0 : Int32), evv, evD, evW, evV)) (by rw [p_Chip_plan, if_neg (c := x = (0 : Int32)) h1, if_neg (c := x < (2 : Int32)) h5, if_neg (c := (7 : Int32) < x) h9, if_neg (c := k < (0 : Int32)) h13, if_pos (c := (2000 : Int32) < k) h14]) rfl rfl rfl
          · refine cv_iload K 0 d_Chip_plan_33 rfl ?_
            refine cv_if_ne K d_Chip_plan_35 40 rfl (fun h15 => ?_) (fun h15 => ?_)
            · refine cv_aload_n K 1 d_Chip_plan_40 rfl rfl ?_
              refine cv_get K d_Chip_plan_41 0 4 rfl rfl in_Chip (by decide) tm_353 rfl ?_
              refine cv_aload_n K 1 d_Chip_plan_44 rfl rfl ?_
              refine cv_get K d_Chip_plan_45 0 7 rfl rfl in_Chip (by decide) tm_356 rfl ?_
              refine cv_get K d_Chip_plan_48 5 4 rfl rfl in_Core (by decide) tm_300 rfl ?_
              refine cv_iload_n K 2 d_Chip_plan_51 rfl rfl ?_
              refine cv_iadd K d_Chip_plan_52 ?_
              refine cv_iload_n K 3 d_Chip_plan_53 rfl rfl ?_
              refine cv_iload_n K 4 d_Chip_plan_54 rfl rfl ?_
              refine cv_callVz K (m_Events_add l dC dI tys ad ca n htys evv evD evW evV ((krv 1) + k) x y hec) d_Chip_plan_55 (cw_V (n := 3) K.2.2.2.2.1 tm_449 tm_450 tm_451 tm_3 tm_452 rfl rfl ⟨rfl, wd_of (by decide +kernel) (by decide +kernel)⟩ ⟨Nat.le_of_ble_eq_true rfl, Nat.le_of_ble_eq_true rfl⟩) 1 rfl rfl [1, 2, 3, 4] rfl rfl (fun _ => rfl) rfl rfl (Nat.le_of_ble_eq_true rfl) (Nat.zero_le _) (Nat.zero_le _) (fun r4 hr4 => ?_)
              refine cv_norm [k_Chip (ad 0) (ad 1) (ad 2) (ad 5) (ad 8) (ad 11) (ad 15) (ad 25) (ad 26), k_Events (ad 11) (ad 12) (ad 13) (ad 14) r4.2.1, k_arr (ad 12) (ca 7) 16 r4.2.2.1, k_arr (ad 13) (ca 8) 16 r4.2.2.2.1, k_arr (ad 14) (ca 9) 16 r4.2.2.2.2, k_Core (ad 26) (ad 27) (ad 28) (ad 29) (ad 15) (ad 25) (ad 2) (ad 5) (ad 8) krv] rfl ?_
              exact cv_retz K hm d_Chip_plan_58 ((r4.1, r4.2.1, r4.2.2.1, r4.2.2.2.1, r4.2.2.2.2)) (by rw [p_Chip_plan, if_neg (c := x = (0 : Int32)) h1, if_neg (c := x < (2 : Int32)) h5, if_neg (c := (7 : Int32) < x) h9, if_neg (c := k < (0 : Int32)) h13, if_neg (c := (2000 : Int32) < k) h14, if_neg (c := (1 : Int32) = (0 : Int32)) h15, ← hr4, p_Chip_plan_4]) rfl rfl (ea_z _ hr4)
            · refine cv_iconst (v := 0) K d_Chip_plan_38 rfl ?_
              exact cv_retz K hm d_Chip_plan_39 (((0 : Int32), evv, evD, evW, evV)) (by rw [p_Chip_plan, if_neg (c := x = (0 : Int32)) h1, if_neg (c := x < (2 : Int32)) h5, if_neg (c := (7 : Int32) < x) h9, if_neg (c := k < (0 : Int32)) h13, if_neg (c := (2000 : Int32) < k) h14, if_pos (c := (1 : Int32) = (0 : Int32)) h15]) rfl rfl rfl
-- CycleChip.planned()I
def p_Chip_planned (evv : Nat → Int32) : Int32 := evv 0
set_option maxRecDepth 100000 in
set_option maxHeartbeats 4000000 in
theorem m_Chip_planned (l : Launch) (dC : Nat → ClassId) (dI : Nat → Nat → Nat) (tys : List (ClassId × FieldType)) (ad : Nat → Nat) (ca : Nat → ClassId) (n : Nat) (htys : ∀ k, k < 17 → tys[k]? = some (ca k, .int)) (evv : Nat → Int32)  : cv_Mi l y_Chip_planned (Cond.code y_Chip_planned c_Chip_planned 1 (some .int) :: gw) { frames := 0, cells := 0, slots := 0, locals := 0 } (dC, dI) vwCl tys [.ref (ad 0)] [k_Chip (ad 0) (ad 1) (ad 2) (ad 5) (ad 8) (ad 11) (ad 15) (ad 25) (ad 26), k_Events (ad 11) (ad 12) (ad 13) (ad 14) evv] (p_Chip_planned evv) (fun r => r) (fun r => [k_Chip (ad 0) (ad 1) (ad 2) (ad 5) (ad 8) (ad 11) (ad 15) (ad 25) (ad 26), k_Events (ad 11) (ad 12) (ad 13) (ad 14) evv]) := by
  refine cv_starti (by decide) (Nat.le_of_ble_eq_true rfl) [(0, .ref (ad 0))] rfl ?_
  intro p e s m below meth c A K hm
  refine cv_aload_n K 0 d_Chip_planned_0 rfl rfl ?_
  refine cv_get K d_Chip_planned_1 0 4 rfl rfl in_Chip (by decide) tm_353 rfl ?_
  refine cv_get K d_Chip_planned_4 1 3 rfl rfl in_Events (by decide) tm_57 rfl ?_
  exact cv_reti K hm d_Chip_planned_7 (evv 0) (by rw [p_Chip_planned]) rfl rfl
-- CycleChip.cycles()I
def p_Chip_cycles (krv : Nat → Int32) : Int32 := krv 1
set_option maxRecDepth 100000 in
set_option maxHeartbeats 4000000 in
theorem m_Chip_cycles (l : Launch) (dC : Nat → ClassId) (dI : Nat → Nat → Nat) (tys : List (ClassId × FieldType)) (ad : Nat → Nat) (ca : Nat → ClassId) (n : Nat) (htys : ∀ k, k < 17 → tys[k]? = some (ca k, .int)) (krv : Nat → Int32)  : cv_Mi l y_Chip_cycles (Cond.code y_Chip_cycles c_Chip_cycles 1 (some .int) :: gw) { frames := 0, cells := 0, slots := 0, locals := 0 } (dC, dI) vwCl tys [.ref (ad 0)] [k_Chip (ad 0) (ad 1) (ad 2) (ad 5) (ad 8) (ad 11) (ad 15) (ad 25) (ad 26), k_Core (ad 26) (ad 27) (ad 28) (ad 29) (ad 15) (ad 25) (ad 2) (ad 5) (ad 8) krv] (p_Chip_cycles krv) (fun r => r) (fun r => [k_Chip (ad 0) (ad 1) (ad 2) (ad 5) (ad 8) (ad 11) (ad 15) (ad 25) (ad 26), k_Core (ad 26) (ad 27) (ad 28) (ad 29) (ad 15) (ad 25) (ad 2) (ad 5) (ad 8) krv]) := by
  refine cv_starti (by decide) (Nat.le_of_ble_eq_true rfl) [(0, .ref (ad 0))] rfl ?_
  intro p e s m below meth c A K hm
  refine cv_aload_n K 0 d_Chip_cycles_0 rfl rfl ?_
  refine cv_get K d_Chip_cycles_1 0 7 rfl rfl in_Chip (by decide) tm_356 rfl ?_
  refine cv_get K d_Chip_cycles_4 1 4 rfl rfl in_Core (by decide) tm_300 rfl ?_
  exact cv_reti K hm d_Chip_cycles_7 (krv 1) (by rw [p_Chip_cycles]) rfl rfl
-- CycleChip.traps()I
def p_Chip_traps (krv : Nat → Int32) : Int32 := krv 2
set_option maxRecDepth 100000 in
set_option maxHeartbeats 4000000 in
theorem m_Chip_traps (l : Launch) (dC : Nat → ClassId) (dI : Nat → Nat → Nat) (tys : List (ClassId × FieldType)) (ad : Nat → Nat) (ca : Nat → ClassId) (n : Nat) (htys : ∀ k, k < 17 → tys[k]? = some (ca k, .int)) (krv : Nat → Int32)  : cv_Mi l y_Chip_traps (Cond.code y_Chip_traps c_Chip_traps 1 (some .int) :: gw) { frames := 0, cells := 0, slots := 0, locals := 0 } (dC, dI) vwCl tys [.ref (ad 0)] [k_Chip (ad 0) (ad 1) (ad 2) (ad 5) (ad 8) (ad 11) (ad 15) (ad 25) (ad 26), k_Core (ad 26) (ad 27) (ad 28) (ad 29) (ad 15) (ad 25) (ad 2) (ad 5) (ad 8) krv] (p_Chip_traps krv) (fun r => r) (fun r => [k_Chip (ad 0) (ad 1) (ad 2) (ad 5) (ad 8) (ad 11) (ad 15) (ad 25) (ad 26), k_Core (ad 26) (ad 27) (ad 28) (ad 29) (ad 15) (ad 25) (ad 2) (ad 5) (ad 8) krv]) := by
  refine cv_starti (by decide) (Nat.le_of_ble_eq_true rfl) [(0, .ref (ad 0))] rfl ?_
  intro p e s m below meth c A K hm
  refine cv_aload_n K 0 d_Chip_traps_0 rfl rfl ?_
  refine cv_get K d_Chip_traps_1 0 7 rfl rfl in_Chip (by decide) tm_356 rfl ?_
  refine cv_get K d_Chip_traps_4 1 5 rfl rfl in_Core (by decide) tm_302 rfl ?_
  exact cv_reti K hm d_Chip_traps_7 (krv 2) (by rw [p_Chip_traps]) rfl rfl
-- CycleChip.actCycle(I)I
def p_Chip_actCycle_2 (krv : Nat → Int32) (acv : Nat → Int32) (acC : Nat → Int32) (acV : Nat → Int32) (k : Int32) (r1 : Int32) (r2 : Int32) : Int32 := r2
def p_Chip_actCycle_1 (krv : Nat → Int32) (acv : Nat → Int32) (acC : Nat → Int32) (acV : Nat → Int32) (k : Int32) (r1 : Int32) : Int32 := if r1 = (0 : Int32) then (-1 : Int32) else p_Chip_actCycle_2 krv acv acC acV k r1 (p_Log_cycleOf acv acC k)
def p_Chip_actCycle (krv : Nat → Int32) (acv : Nat → Int32) (acC : Nat → Int32) (acV : Nat → Int32) (k : Int32) : Int32 := p_Chip_actCycle_1 krv acv acC acV k (p_Log_has acv k)
set_option maxRecDepth 100000 in
set_option maxHeartbeats 4000000 in
theorem m_Chip_actCycle (l : Launch) (dC : Nat → ClassId) (dI : Nat → Nat → Nat) (tys : List (ClassId × FieldType)) (ad : Nat → Nat) (ca : Nat → ClassId) (n : Nat) (htys : ∀ k, k < 17 → tys[k]? = some (ca k, .int)) (krv : Nat → Int32) (acv : Nat → Int32) (acC : Nat → Int32) (acV : Nat → Int32) (k : Int32)  : cv_Mi l y_Chip_actCycle (Cond.code y_Chip_actCycle c_Chip_actCycle 2 (some .int) :: gw) { frames := 1, cells := 0, slots := 0, locals := 21 } (dC, dI) vwCl tys [.ref (ad 0), .int k] [k_Chip (ad 0) (ad 1) (ad 2) (ad 5) (ad 8) (ad 11) (ad 15) (ad 25) (ad 26), k_Core (ad 26) (ad 27) (ad 28) (ad 29) (ad 15) (ad 25) (ad 2) (ad 5) (ad 8) krv, k_Log (ad 29) (ad 30) (ad 31) acv, k_arr (ad 30) (ca 15) 16 acC, k_arr (ad 31) (ca 16) 16 acV] (p_Chip_actCycle krv acv acC acV k) (fun r => r) (fun r => [k_Chip (ad 0) (ad 1) (ad 2) (ad 5) (ad 8) (ad 11) (ad 15) (ad 25) (ad 26), k_Core (ad 26) (ad 27) (ad 28) (ad 29) (ad 15) (ad 25) (ad 2) (ad 5) (ad 8) krv, k_Log (ad 29) (ad 30) (ad 31) acv, k_arr (ad 30) (ca 15) 16 acC, k_arr (ad 31) (ca 16) 16 acV]) := by
  refine cv_starti (by decide) (Nat.le_of_ble_eq_true rfl) [(0, .ref (ad 0)), (1, .int k)] rfl ?_
  intro p e s m below meth c A K hm
  refine cv_aload_n K 0 d_Chip_actCycle_0 rfl rfl ?_
  refine cv_get K d_Chip_actCycle_1 0 7 rfl rfl in_Chip (by decide) tm_356 rfl ?_
  refine cv_get K d_Chip_actCycle_4 1 2 rfl rfl in_Core (by decide) tm_296 rfl ?_
  refine cv_iload_n K 1 d_Chip_actCycle_7 rfl rfl ?_
  refine cv_callVz K (m_Log_has l dC dI tys (ad 29) (ad 30) (ad 31) acv k) d_Chip_actCycle_8 (cw_V (n := 1) K.2.2.2.2.1 tm_786 tm_787 tm_788 tm_8 tm_789 rfl rfl ⟨rfl, wd_of (by decide +kernel) (by decide +kernel)⟩ ⟨Nat.le_of_ble_eq_true rfl, Nat.le_of_ble_eq_true rfl⟩) 2 rfl rfl [2] rfl rfl (fun _ => rfl) rfl rfl (Nat.le_of_ble_eq_true rfl) (Nat.zero_le _) (Nat.zero_le _) (fun r1 hr1 => ?_)
  refine cv_norm [k_Chip (ad 0) (ad 1) (ad 2) (ad 5) (ad 8) (ad 11) (ad 15) (ad 25) (ad 26), k_Core (ad 26) (ad 27) (ad 28) (ad 29) (ad 15) (ad 25) (ad 2) (ad 5) (ad 8) krv, k_Log (ad 29) (ad 30) (ad 31) acv, k_arr (ad 30) (ca 15) 16 acC, k_arr (ad 31) (ca 16) 16 acV] rfl ?_
  refine cv_if_eq K d_Chip_actCycle_11 28 rfl (fun h1 => ?_) (fun h1 => ?_)
  · refine cv_iconst (v := (-1)) K d_Chip_actCycle_28 rfl ?_
    exact cv_reti K hm d_Chip_actCycle_29 ((-1 : Int32)) (by rw [p_Chip_actCycle, ← hr1, p_Chip_actCycle_1, if_pos (c := r1 = (0 : Int32)) h1]) rfl rfl
  · refine cv_aload_n K 0 d_Chip_actCycle_14 rfl rfl ?_
    refine cv_get K d_Chip_actCycle_15 0 7 rfl rfl in_Chip (by decide) tm_356 rfl ?_
    refine cv_get K d_Chip_actCycle_18 1 2 rfl rfl in_Core (by decide) tm_296 rfl ?_
    refine cv_iload_n K 1 d_Chip_actCycle_21 rfl rfl ?_
    refine cv_callVi K (m_Log_cycleOf l dC dI tys (ad 29) (ad 30) (ad 31) (ca 15) 15 (htys 15 (by decide)) acv acC k) d_Chip_actCycle_22 (cw_V (n := 1) K.2.2.2.2.1 tm_790 tm_791 tm_792 tm_8 tm_793 rfl rfl ⟨rfl, wd_of (by decide +kernel) (by decide +kernel)⟩ ⟨Nat.le_of_ble_eq_true rfl, Nat.le_of_ble_eq_true rfl⟩) 2 rfl rfl [2, 3] rfl rfl (fun _ => rfl) rfl rfl (Nat.le_of_ble_eq_true rfl) (Nat.zero_le _) (Nat.zero_le _) (fun r2 hr2 => ?_)
    refine cv_norm [k_Chip (ad 0) (ad 1) (ad 2) (ad 5) (ad 8) (ad 11) (ad 15) (ad 25) (ad 26), k_Core (ad 26) (ad 27) (ad 28) (ad 29) (ad 15) (ad 25) (ad 2) (ad 5) (ad 8) krv, k_Log (ad 29) (ad 30) (ad 31) acv, k_arr (ad 30) (ca 15) 16 acC, k_arr (ad 31) (ca 16) 16 acV] rfl ?_
    refine cv_goto K d_Chip_actCycle_25 29 rfl ?_
    exact cv_reti K hm d_Chip_actCycle_29 (r2) (by rw [p_Chip_actCycle, ← hr1, p_Chip_actCycle_1, if_neg (c := r1 = (0 : Int32)) h1, ← hr2, p_Chip_actCycle_2]) rfl rfl
-- CycleChip.actAddress(I)I
def p_Chip_actAddress_2 (krv : Nat → Int32) (acv : Nat → Int32) (acC : Nat → Int32) (acV : Nat → Int32) (k : Int32) (r1 : Int32) (r2 : Int32) : Int32 := r2
def p_Chip_actAddress_1 (krv : Nat → Int32) (acv : Nat → Int32) (acC : Nat → Int32) (acV : Nat → Int32) (k : Int32) (r1 : Int32) : Int32 := if r1 = (0 : Int32) then (-1 : Int32) else p_Chip_actAddress_2 krv acv acC acV k r1 (p_Log_valueOf acv acV k)
def p_Chip_actAddress (krv : Nat → Int32) (acv : Nat → Int32) (acC : Nat → Int32) (acV : Nat → Int32) (k : Int32) : Int32 := p_Chip_actAddress_1 krv acv acC acV k (p_Log_has acv k)
set_option maxRecDepth 100000 in
set_option maxHeartbeats 4000000 in
theorem m_Chip_actAddress (l : Launch) (dC : Nat → ClassId) (dI : Nat → Nat → Nat) (tys : List (ClassId × FieldType)) (ad : Nat → Nat) (ca : Nat → ClassId) (n : Nat) (htys : ∀ k, k < 17 → tys[k]? = some (ca k, .int)) (krv : Nat → Int32) (acv : Nat → Int32) (acC : Nat → Int32) (acV : Nat → Int32) (k : Int32)  : cv_Mi l y_Chip_actAddress (Cond.code y_Chip_actAddress c_Chip_actAddress 2 (some .int) :: gw) { frames := 1, cells := 0, slots := 0, locals := 21 } (dC, dI) vwCl tys [.ref (ad 0), .int k] [k_Chip (ad 0) (ad 1) (ad 2) (ad 5) (ad 8) (ad 11) (ad 15) (ad 25) (ad 26), k_Core (ad 26) (ad 27) (ad 28) (ad 29) (ad 15) (ad 25) (ad 2) (ad 5) (ad 8) krv, k_Log (ad 29) (ad 30) (ad 31) acv, k_arr (ad 30) (ca 15) 16 acC, k_arr (ad 31) (ca 16) 16 acV] (p_Chip_actAddress krv acv acC acV k) (fun r => r) (fun r => [k_Chip (ad 0) (ad 1) (ad 2) (ad 5) (ad 8) (ad 11) (ad 15) (ad 25) (ad 26), k_Core (ad 26) (ad 27) (ad 28) (ad 29) (ad 15) (ad 25) (ad 2) (ad 5) (ad 8) krv, k_Log (ad 29) (ad 30) (ad 31) acv, k_arr (ad 30) (ca 15) 16 acC, k_arr (ad 31) (ca 16) 16 acV]) := by
  refine cv_starti (by decide) (Nat.le_of_ble_eq_true rfl) [(0, .ref (ad 0)), (1, .int k)] rfl ?_
  intro p e s m below meth c A K hm
  refine cv_aload_n K 0 d_Chip_actAddress_0 rfl rfl ?_
  refine cv_get K d_Chip_actAddress_1 0 7 rfl rfl in_Chip (by decide) tm_356 rfl ?_
  refine cv_get K d_Chip_actAddress_4 1 2 rfl rfl in_Core (by decide) tm_296 rfl ?_
  refine cv_iload_n K 1 d_Chip_actAddress_7 rfl rfl ?_
  refine cv_callVz K (m_Log_has l dC dI tys (ad 29) (ad 30) (ad 31) acv k) d_Chip_actAddress_8 (cw_V (n := 1) K.2.2.2.2.1 tm_786 tm_787 tm_788 tm_8 tm_789 rfl rfl ⟨rfl, wd_of (by decide +kernel) (by decide +kernel)⟩ ⟨Nat.le_of_ble_eq_true rfl, Nat.le_of_ble_eq_true rfl⟩) 2 rfl rfl [2] rfl rfl (fun _ => rfl) rfl rfl (Nat.le_of_ble_eq_true rfl) (Nat.zero_le _) (Nat.zero_le _) (fun r1 hr1 => ?_)
  refine cv_norm [k_Chip (ad 0) (ad 1) (ad 2) (ad 5) (ad 8) (ad 11) (ad 15) (ad 25) (ad 26), k_Core (ad 26) (ad 27) (ad 28) (ad 29) (ad 15) (ad 25) (ad 2) (ad 5) (ad 8) krv, k_Log (ad 29) (ad 30) (ad 31) acv, k_arr (ad 30) (ca 15) 16 acC, k_arr (ad 31) (ca 16) 16 acV] rfl ?_
  refine cv_if_eq K d_Chip_actAddress_11 28 rfl (fun h1 => ?_) (fun h1 => ?_)
  · refine cv_iconst (v := (-1)) K d_Chip_actAddress_28 rfl ?_
    exact cv_reti K hm d_Chip_actAddress_29 ((-1 : Int32)) (by rw [p_Chip_actAddress, ← hr1, p_Chip_actAddress_1, if_pos (c := r1 = (0 : Int32)) h1]) rfl rfl
  · refine cv_aload_n K 0 d_Chip_actAddress_14 rfl rfl ?_
    refine cv_get K d_Chip_actAddress_15 0 7 rfl rfl in_Chip (by decide) tm_356 rfl ?_
    refine cv_get K d_Chip_actAddress_18 1 2 rfl rfl in_Core (by decide) tm_296 rfl ?_
    refine cv_iload_n K 1 d_Chip_actAddress_21 rfl rfl ?_
    refine cv_callVi K (m_Log_valueOf l dC dI tys (ad 29) (ad 30) (ad 31) (ca 16) 16 (htys 16 (by decide)) acv acV k) d_Chip_actAddress_22 (cw_V (n := 1) K.2.2.2.2.1 tm_798 tm_799 tm_800 tm_8 tm_801 rfl rfl ⟨rfl, wd_of (by decide +kernel) (by decide +kernel)⟩ ⟨Nat.le_of_ble_eq_true rfl, Nat.le_of_ble_eq_true rfl⟩) 2 rfl rfl [2, 4] rfl rfl (fun _ => rfl) rfl rfl (Nat.le_of_ble_eq_true rfl) (Nat.zero_le _) (Nat.zero_le _) (fun r2 hr2 => ?_)
    refine cv_norm [k_Chip (ad 0) (ad 1) (ad 2) (ad 5) (ad 8) (ad 11) (ad 15) (ad 25) (ad 26), k_Core (ad 26) (ad 27) (ad 28) (ad 29) (ad 15) (ad 25) (ad 2) (ad 5) (ad 8) krv, k_Log (ad 29) (ad 30) (ad 31) acv, k_arr (ad 30) (ca 15) 16 acC, k_arr (ad 31) (ca 16) 16 acV] rfl ?_
    refine cv_goto K d_Chip_actAddress_25 29 rfl ?_
    exact cv_reti K hm d_Chip_actAddress_29 (r2) (by rw [p_Chip_actAddress, ← hr1, p_Chip_actAddress_1, if_neg (c := r1 = (0 : Int32)) h1, ← hr2, p_Chip_actAddress_2]) rfl rfl
-- CycleChip.sent(I)J
def p_Chip_sent_3 (dvL : Nat → Int64) (srv : Nat → Int32) (otv : Nat → Int32) (otC : Nat → Int32) (otV : Nat → Int32) (k : Int32) (r1 : Int32) (r2 : Int32) (r3 : Int32) : Int64 := (r2.toInt64 * (256 : Int64)) + r3.toInt64
def p_Chip_sent_2 (dvL : Nat → Int64) (srv : Nat → Int32) (otv : Nat → Int32) (otC : Nat → Int32) (otV : Nat → Int32) (k : Int32) (r1 : Int32) (r2 : Int32) : Int64 := p_Chip_sent_3 dvL srv otv otC otV k r1 r2 (p_Log_valueOf otv otV k)
def p_Chip_sent_1 (dvL : Nat → Int64) (srv : Nat → Int32) (otv : Nat → Int32) (otC : Nat → Int32) (otV : Nat → Int32) (k : Int32) (r1 : Int32) : Int64 := if r1 = (0 : Int32) then (-1 : Int64) else p_Chip_sent_2 dvL srv otv otC otV k r1 (p_Log_cycleOf otv otC k)
def p_Chip_sent (dvL : Nat → Int64) (srv : Nat → Int32) (otv : Nat → Int32) (otC : Nat → Int32) (otV : Nat → Int32) (k : Int32) : Int64 := if k = (-1 : Int32) then (otv 0).toInt64 else p_Chip_sent_1 dvL srv otv otC otV k (p_Log_has otv k)
set_option maxRecDepth 100000 in
set_option maxHeartbeats 4000000 in
theorem m_Chip_sent (l : Launch) (dC : Nat → ClassId) (dI : Nat → Nat → Nat) (tys : List (ClassId × FieldType)) (ad : Nat → Nat) (ca : Nat → ClassId) (n : Nat) (htys : ∀ k, k < 17 → tys[k]? = some (ca k, .int)) (dvL : Nat → Int64) (srv : Nat → Int32) (otv : Nat → Int32) (otC : Nat → Int32) (otV : Nat → Int32) (k : Int32)  : cv_Ml l y_Chip_sent (Cond.code y_Chip_sent c_Chip_sent 3 (some .long) :: gw) { frames := 1, cells := 0, slots := 0, locals := 21 } (dC, dI) vwCl tys [.ref (ad 0), .int k] [k_Chip (ad 0) (ad 1) (ad 2) (ad 5) (ad 8) (ad 11) (ad 15) (ad 25) (ad 26), k_Devices (ad 15) (ad 16) (ad 17) dvL, k_Serial (ad 17) (ad 18) (ad 20) (ad 22) srv, k_Log (ad 22) (ad 23) (ad 24) otv, k_arr (ad 23) (ca 12) 16 otC, k_arr (ad 24) (ca 13) 16 otV] (p_Chip_sent dvL srv otv otC otV k) (fun r => r) (fun r => [k_Chip (ad 0) (ad 1) (ad 2) (ad 5) (ad 8) (ad 11) (ad 15) (ad 25) (ad 26), k_Devices (ad 15) (ad 16) (ad 17) dvL, k_Serial (ad 17) (ad 18) (ad 20) (ad 22) srv, k_Log (ad 22) (ad 23) (ad 24) otv, k_arr (ad 23) (ca 12) 16 otC, k_arr (ad 24) (ca 13) 16 otV]) := by
  refine cv_startl (by decide) (Nat.le_of_ble_eq_true rfl) [(0, .ref (ad 0)), (1, .int k)] rfl ?_
  intro p e s m below meth c A K hm
  refine cv_aload_n K 0 d_Chip_sent_0 rfl rfl ?_
  refine cv_get K d_Chip_sent_1 0 5 rfl rfl in_Chip (by decide) tm_354 rfl ?_
  refine cv_get K d_Chip_sent_4 1 1 rfl rfl in_Devices (by decide) tm_175 rfl ?_
  refine cv_get K d_Chip_sent_7 2 2 rfl rfl in_Serial (by decide) tm_145 rfl ?_
  refine cv_astore_n K d_Chip_sent_10 [(2, .ref (ad 22)), (0, .ref (ad 0)), (1, .int k)] rfl (by decide) rfl ?_
  refine cv_iload_n K 2 d_Chip_sent_11 rfl rfl ?_
  refine cv_iconst (v := (-1)) K d_Chip_sent_12 rfl ?_
  refine cv_icmp_ne K d_Chip_sent_13 22 rfl (fun h1 => ?_) (fun h1 => ?_)
  · refine cv_aload_n K 0 d_Chip_sent_22 rfl rfl ?_
    refine cv_iload_n K 2 d_Chip_sent_23 rfl rfl ?_
    refine cv_callVz K (m_Log_has l dC dI tys (ad 22) (ad 23) (ad 24) otv k) d_Chip_sent_24 (cw_V (n := 1) K.2.2.2.2.1 tm_786 tm_787 tm_788 tm_8 tm_789 rfl rfl ⟨rfl, wd_of (by decide +kernel) (by decide +kernel)⟩ ⟨Nat.le_of_ble_eq_true rfl, Nat.le_of_ble_eq_true rfl⟩) 3 rfl rfl [3] rfl rfl (fun _ => rfl) rfl rfl (Nat.le_of_ble_eq_true rfl) (Nat.zero_le _) (Nat.zero_le _) (fun r1 hr1 => ?_)
    refine cv_norm [k_Chip (ad 0) (ad 1) (ad 2) (ad 5) (ad 8) (ad 11) (ad 15) (ad 25) (ad 26), k_Devices (ad 15) (ad 16) (ad 17) dvL, k_Serial (ad 17) (ad 18) (ad 20) (ad 22) srv, k_Log (ad 22) (ad 23) (ad 24) otv, k_arr (ad 23) (ca 12) 16 otC, k_arr (ad 24) (ca 13) 16 otV] rfl ?_
    refine cv_if_eq K d_Chip_sent_27 50 rfl (fun h2 => ?_) (fun h2 => ?_)
    · refine cv_ldc2 (v := (-1)) K d_Chip_sent_50 tm_393 ?_
      exact cv_retl K hm d_Chip_sent_53 ((-1 : Int64)) (by rw [p_Chip_sent, if_neg (c := k = (-1 : Int32)) h1, ← hr1, p_Chip_sent_1, if_pos (c := r1 = (0 : Int32)) h2]) rfl rfl
    · refine cv_aload_n K 0 d_Chip_sent_30 rfl rfl ?_
      refine cv_iload_n K 2 d_Chip_sent_31 rfl rfl ?_
      refine cv_callVi K (m_Log_cycleOf l dC dI tys (ad 22) (ad 23) (ad 24) (ca 12) 12 (htys 12 (by decide)) otv otC k) d_Chip_sent_32 (cw_V (n := 1) K.2.2.2.2.1 tm_790 tm_791 tm_792 tm_8 tm_793 rfl rfl ⟨rfl, wd_of (by decide +kernel) (by decide +kernel)⟩ ⟨Nat.le_of_ble_eq_true rfl, Nat.le_of_ble_eq_true rfl⟩) 3 rfl rfl [3, 4] rfl rfl (fun _ => rfl) rfl rfl (Nat.le_of_ble_eq_true rfl) (Nat.zero_le _) (Nat.zero_le _) (fun r2 hr2 => ?_)
      refine cv_norm [k_Chip (ad 0) (ad 1) (ad 2) (ad 5) (ad 8) (ad 11) (ad 15) (ad 25) (ad 26), k_Devices (ad 15) (ad 16) (ad 17) dvL, k_Serial (ad 17) (ad 18) (ad 20) (ad 22) srv, k_Log (ad 22) (ad 23) (ad 24) otv, k_arr (ad 23) (ca 12) 16 otC, k_arr (ad 24) (ca 13) 16 otV] rfl ?_
      refine cv_i2l K d_Chip_sent_35 rfl ?_
      refine cv_ldc2 (v := 256) K d_Chip_sent_36 tm_806 ?_
      refine cv_lmul K d_Chip_sent_39 ?_
      refine cv_aload_n K 0 d_Chip_sent_40 rfl rfl ?_
      refine cv_iload_n K 2 d_Chip_sent_41 rfl rfl ?_
      refine cv_callVi K (m_Log_valueOf l dC dI tys (ad 22) (ad 23) (ad 24) (ca 13) 13 (htys 13 (by decide)) otv otV k) d_Chip_sent_42 (cw_V (n := 1) K.2.2.2.2.1 tm_798 tm_799 tm_800 tm_8 tm_801 rfl rfl ⟨rfl, wd_of (by decide +kernel) (by decide +kernel)⟩ ⟨Nat.le_of_ble_eq_true rfl, Nat.le_of_ble_eq_true rfl⟩) 3 rfl rfl [3, 5] rfl rfl (fun _ => rfl) rfl rfl (Nat.le_of_ble_eq_true rfl) (Nat.zero_le _) (Nat.zero_le _) (fun r3 hr3 => ?_)
      refine cv_norm [k_Chip (ad 0) (ad 1) (ad 2) (ad 5) (ad 8) (ad 11) (ad 15) (ad 25) (ad 26), k_Devices (ad 15) (ad 16) (ad 17) dvL, k_Serial (ad 17) (ad 18) (ad 20) (ad 22) srv, k_Log (ad 22) (ad 23) (ad 24) otv, k_arr (ad 23) (ca 12) 16 otC, k_arr (ad 24) (ca 13) 16 otV] rfl ?_
      refine cv_i2l K d_Chip_sent_45 rfl ?_
      refine cv_ladd K d_Chip_sent_46 ?_
      refine cv_goto K d_Chip_sent_47 53 rfl ?_
      exact cv_retl K hm d_Chip_sent_53 ((r2.toInt64 * (256 : Int64)) + r3.toInt64) (by rw [p_Chip_sent, if_neg (c := k = (-1 : Int32)) h1, ← hr1, p_Chip_sent_1, if_neg (c := r1 = (0 : Int32)) h2, ← hr2, p_Chip_sent_2, ← hr3, p_Chip_sent_3]) rfl rfl
  · refine cv_aload_n K 0 d_Chip_sent_16 rfl rfl ?_
    refine cv_get K d_Chip_sent_17 3 2 rfl rfl in_Log (by decide) tm_132 rfl ?_
    refine cv_i2l K d_Chip_sent_20 rfl ?_
    exact cv_retl K hm d_Chip_sent_21 ((otv 0).toInt64) (by rw [p_Chip_sent, if_pos (c := k = (-1 : Int32)) h1]) rfl rfl
-- CycleChip.queued(Z)I
def p_Chip_queued (dvL : Nat → Int64) (srv : Nat → Int32) (rqv : Nat → Int32) (sqv : Nat → Int32) (z : Int32) : Int32 := if z = (0 : Int32) then rqv 1 else sqv 1
set_option maxRecDepth 100000 in
set_option maxHeartbeats 4000000 in
theorem m_Chip_queued (l : Launch) (dC : Nat → ClassId) (dI : Nat → Nat → Nat) (tys : List (ClassId × FieldType)) (ad : Nat → Nat) (ca : Nat → ClassId) (n : Nat) (htys : ∀ k, k < 17 → tys[k]? = some (ca k, .int)) (dvL : Nat → Int64) (srv : Nat → Int32) (rqv : Nat → Int32) (sqv : Nat → Int32) (z : Int32)  : cv_Mi l y_Chip_queued (Cond.code y_Chip_queued c_Chip_queued 2 (some .int) :: gw) { frames := 0, cells := 0, slots := 0, locals := 0 } (dC, dI) vwCl tys [.ref (ad 0), .int z] [k_Chip (ad 0) (ad 1) (ad 2) (ad 5) (ad 8) (ad 11) (ad 15) (ad 25) (ad 26), k_Devices (ad 15) (ad 16) (ad 17) dvL, k_Serial (ad 17) (ad 18) (ad 20) (ad 22) srv, k_ByteQueue (ad 18) (ad 19) rqv, k_ByteQueue (ad 20) (ad 21) sqv] (p_Chip_queued dvL srv rqv sqv z) (fun r => r) (fun r => [k_Chip (ad 0) (ad 1) (ad 2) (ad 5) (ad 8) (ad 11) (ad 15) (ad 25) (ad 26), k_Devices (ad 15) (ad 16) (ad 17) dvL, k_Serial (ad 17) (ad 18) (ad 20) (ad 22) srv, k_ByteQueue (ad 18) (ad 19) rqv, k_ByteQueue (ad 20) (ad 21) sqv]) := by
  refine cv_starti (by decide) (Nat.le_of_ble_eq_true rfl) [(0, .ref (ad 0)), (1, .int z)] rfl ?_
  intro p e s m below meth c A K hm
  refine cv_iload_n K 1 d_Chip_queued_0 rfl rfl ?_
  refine cv_if_eq K d_Chip_queued_1 20 rfl (fun h1 => ?_) (fun h1 => ?_)
  · refine cv_aload_n K 0 d_Chip_queued_20 rfl rfl ?_
    refine cv_get K d_Chip_queued_21 0 5 rfl rfl in_Chip (by decide) tm_354 rfl ?_
    refine cv_get K d_Chip_queued_24 1 1 rfl rfl in_Devices (by decide) tm_175 rfl ?_
    refine cv_get K d_Chip_queued_27 2 0 rfl rfl in_Serial (by decide) tm_141 rfl ?_
    refine cv_get K d_Chip_queued_30 3 2 rfl rfl in_ByteQueue (by decide) tm_115 rfl ?_
    exact cv_reti K hm d_Chip_queued_33 (rqv 1) (by rw [p_Chip_queued, if_pos (c := z = (0 : Int32)) h1]) rfl rfl
  · refine cv_aload_n K 0 d_Chip_queued_4 rfl rfl ?_
    refine cv_get K d_Chip_queued_5 0 5 rfl rfl in_Chip (by decide) tm_354 rfl ?_
    refine cv_get K d_Chip_queued_8 1 1 rfl rfl in_Devices (by decide) tm_175 rfl ?_
    refine cv_get K d_Chip_queued_11 2 1 rfl rfl in_Serial (by decide) tm_143 rfl ?_
    refine cv_get K d_Chip_queued_14 4 2 rfl rfl in_ByteQueue (by decide) tm_115 rfl ?_
    refine cv_goto K d_Chip_queued_17 33 rfl ?_
    exact cv_reti K hm d_Chip_queued_33 (sqv 1) (by rw [p_Chip_queued, if_neg (c := z = (0 : Int32)) h1]) rfl rfl
-- CycleChip.stores()I
def p_Chip_stores (bfv : Nat → Int32) : Int32 := bfv 0
set_option maxRecDepth 100000 in
set_option maxHeartbeats 4000000 in
theorem m_Chip_stores (l : Launch) (dC : Nat → ClassId) (dI : Nat → Nat → Nat) (tys : List (ClassId × FieldType)) (ad : Nat → Nat) (ca : Nat → ClassId) (n : Nat) (htys : ∀ k, k < 17 → tys[k]? = some (ca k, .int)) (bfv : Nat → Int32)  : cv_Mi l y_Chip_stores (Cond.code y_Chip_stores c_Chip_stores 1 (some .int) :: gw) { frames := 0, cells := 0, slots := 0, locals := 0 } (dC, dI) vwCl tys [.ref (ad 0)] [k_Chip (ad 0) (ad 1) (ad 2) (ad 5) (ad 8) (ad 11) (ad 15) (ad 25) (ad 26), k_StoreBuffer (ad 8) (ad 9) (ad 10) bfv] (p_Chip_stores bfv) (fun r => r) (fun r => [k_Chip (ad 0) (ad 1) (ad 2) (ad 5) (ad 8) (ad 11) (ad 15) (ad 25) (ad 26), k_StoreBuffer (ad 8) (ad 9) (ad 10) bfv]) := by
  refine cv_starti (by decide) (Nat.le_of_ble_eq_true rfl) [(0, .ref (ad 0))] rfl ?_
  intro p e s m below meth c A K hm
  refine cv_aload_n K 0 d_Chip_stores_0 rfl rfl ?_
  refine cv_get K d_Chip_stores_1 0 3 rfl rfl in_Chip (by decide) tm_352 rfl ?_
  refine cv_get K d_Chip_stores_4 1 2 rfl rfl in_StoreBuffer (by decide) tm_38 rfl ?_
  exact cv_reti K hm d_Chip_stores_7 (bfv 0) (by rw [p_Chip_stores]) rfl rfl
-- CycleChip.bus()I
def p_Chip_bus (bsv : Nat → Int32) : Int32 := bsv 5
set_option maxRecDepth 100000 in
set_option maxHeartbeats 4000000 in
theorem m_Chip_bus (l : Launch) (dC : Nat → ClassId) (dI : Nat → Nat → Nat) (tys : List (ClassId × FieldType)) (ad : Nat → Nat) (ca : Nat → ClassId) (n : Nat) (htys : ∀ k, k < 17 → tys[k]? = some (ca k, .int)) (bsv : Nat → Int32)  : cv_Mi l y_Chip_bus (Cond.code y_Chip_bus c_Chip_bus 1 (some .int) :: gw) { frames := 0, cells := 0, slots := 0, locals := 0 } (dC, dI) vwCl tys [.ref (ad 0)] [k_Chip (ad 0) (ad 1) (ad 2) (ad 5) (ad 8) (ad 11) (ad 15) (ad 25) (ad 26), k_Bus (ad 25) (ad 1) (ad 2) (ad 5) (ad 8) bsv] (p_Chip_bus bsv) (fun r => r) (fun r => [k_Chip (ad 0) (ad 1) (ad 2) (ad 5) (ad 8) (ad 11) (ad 15) (ad 25) (ad 26), k_Bus (ad 25) (ad 1) (ad 2) (ad 5) (ad 8) bsv]) := by
  refine cv_starti (by decide) (Nat.le_of_ble_eq_true rfl) [(0, .ref (ad 0))] rfl ?_
  intro p e s m below meth c A K hm
  refine cv_aload_n K 0 d_Chip_bus_0 rfl rfl ?_
  refine cv_get K d_Chip_bus_1 0 6 rfl rfl in_Chip (by decide) tm_355 rfl ?_
  refine cv_get K d_Chip_bus_4 1 9 rfl rfl in_Bus (by decide) tm_232 rfl ?_
  exact cv_reti K hm d_Chip_bus_7 (bsv 5) (by rw [p_Chip_bus]) rfl rfl
-- CycleChip.sources()I
def p_Chip_sources (dvL : Nat → Int64) (itv : Nat → Int32) : Int32 := (itv 4) + ((256 : Int32) * (itv 5))
set_option maxRecDepth 100000 in
set_option maxHeartbeats 4000000 in
theorem m_Chip_sources (l : Launch) (dC : Nat → ClassId) (dI : Nat → Nat → Nat) (tys : List (ClassId × FieldType)) (ad : Nat → Nat) (ca : Nat → ClassId) (n : Nat) (htys : ∀ k, k < 17 → tys[k]? = some (ca k, .int)) (dvL : Nat → Int64) (itv : Nat → Int32)  : cv_Mi l y_Chip_sources (Cond.code y_Chip_sources c_Chip_sources 1 (some .int) :: gw) { frames := 0, cells := 0, slots := 0, locals := 0 } (dC, dI) vwCl tys [.ref (ad 0)] [k_Chip (ad 0) (ad 1) (ad 2) (ad 5) (ad 8) (ad 11) (ad 15) (ad 25) (ad 26), k_Devices (ad 15) (ad 16) (ad 17) dvL, k_Interrupts (ad 16) itv] (p_Chip_sources dvL itv) (fun r => r) (fun r => [k_Chip (ad 0) (ad 1) (ad 2) (ad 5) (ad 8) (ad 11) (ad 15) (ad 25) (ad 26), k_Devices (ad 15) (ad 16) (ad 17) dvL, k_Interrupts (ad 16) itv]) := by
  refine cv_starti (by decide) (Nat.le_of_ble_eq_true rfl) [(0, .ref (ad 0))] rfl ?_
  intro p e s m below meth c A K hm
  refine cv_aload_n K 0 d_Chip_sources_0 rfl rfl ?_
  refine cv_get K d_Chip_sources_1 0 5 rfl rfl in_Chip (by decide) tm_354 rfl ?_
  refine cv_get K d_Chip_sources_4 1 0 rfl rfl in_Devices (by decide) tm_173 rfl ?_
  refine cv_get K d_Chip_sources_7 2 4 rfl rfl in_Interrupts (by decide) tm_84 rfl ?_
  refine cv_sipush (v := 256) K d_Chip_sources_10 (by decide +kernel) ?_
  refine cv_aload_n K 0 d_Chip_sources_13 rfl rfl ?_
  refine cv_get K d_Chip_sources_14 0 5 rfl rfl in_Chip (by decide) tm_354 rfl ?_
  refine cv_get K d_Chip_sources_17 1 0 rfl rfl in_Devices (by decide) tm_173 rfl ?_
  refine cv_get K d_Chip_sources_20 2 5 rfl rfl in_Interrupts (by decide) tm_86 rfl ?_
  refine cv_imul K d_Chip_sources_23 ?_
  refine cv_iadd K d_Chip_sources_24 ?_
  exact cv_reti K hm d_Chip_sources_25 ((itv 4) + ((256 : Int32) * (itv 5))) (by rw [p_Chip_sources]) rfl rfl
