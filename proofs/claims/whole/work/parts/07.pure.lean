/-! numbers: what indices and loops need -/
theorem lp_nlt {s c : Int32} {k n : Nat} (hk : s = nI k) (hc : c = nI n) (hk2 : k < 2 ^ 31) (hn : n < 2 ^ 31) (h : ¬ c < s) : k ≤ n := by
  subst hk; subst hc
  rw [nI_ltI hn hk2] at h
  omega
theorem lp_lt {s c : Int32} {k n : Nat} (hk : s = nI k) (hc : c = nI n) (hk2 : k < 2 ^ 31) (hn : n < 2 ^ 31) (h : c < s) : n < k := by
  subst hk; subst hc
  rwa [nI_ltI hn hk2] at h
theorem lp_le {s c : Int32} {k n : Nat} (hk : s = nI k) (hc : c = nI n) (hk2 : k < 2 ^ 31) (hn : n < 2 ^ 31) (h : c ≤ s) : n ≤ k := by
  subst hk; subst hc
  rwa [nI_leI hn hk2] at h
theorem lp_nle {s c : Int32} {k n : Nat} (hk : s = nI k) (hc : c = nI n) (hk2 : k < 2 ^ 31) (hn : n < 2 ^ 31) (h : ¬ c ≤ s) : k < n := by
  subst hk; subst hc
  rw [nI_leI hn hk2] at h
  omega
theorem ix_nz {v0 : Int32} {n : Nat} (hl : v0 = nI n) (hn : 0 < n) (hn8 : n ≤ 8) : ¬ v0 = 0 := by
  subst hl
  exact nI_ne0 hn (by omega)
theorem ix_sh {p : Int32} {j : Nat} (hj : j < 2 ^ 31) (hp : p = nI j) : p >>> ((2 : Int32) &&& (31 : Int32)) = nI (j / 4) := by
  subst hp
  exact pk_shrN hj _ 2 (by decide +kernel)
theorem ix_line {p v0 : Int32} {n : Nat} (hl : v0 = nI n) (hn : 0 < n) (hn8 : n ≤ 8) (hp : ∃ j : Nat, j < 128 ∧ p = nI j) : vp_in ((p >>> ((2 : Int32) &&& (31 : Int32))) - (p >>> ((2 : Int32) &&& (31 : Int32))) / v0 * v0) n := by
  obtain ⟨j, hj, hp⟩ := hp
  subst hl
  rw [ix_sh (by omega) hp, pk_rem (by omega) hn (by omega)]
  exact vp_in_nI (Nat.mod_lt _ hn) (by omega)
theorem ix_blk {b v0 : Int32} {n : Nat} (hl : v0 = nI n) (hn : 0 < n) (hn8 : n ≤ 8) (hb : ∃ j : Nat, j < 32 ∧ b = nI j) : vp_in (b - b / v0 * v0) n := by
  obtain ⟨j, hj, rfl⟩ := hb
  subst hl
  rw [pk_rem (by omega) hn (by omega)]
  exact vp_in_nI (Nat.mod_lt _ hn) (by omega)
theorem ix_m3 {p : Int32} {j : Nat} (hj : j < 2 ^ 31) (hp : p = nI j) : p &&& (3 : Int32) = nI (j % 4) := by
  subst hp
  exact pk_andN (by omega) 2 (by decide +kernel)
theorem ix_place {p v0 : Int32} {n j : Nat} (hl : v0 = nI n) (hn : 0 < n) (hn8 : n ≤ 8) (hj : j < 128) (hp : p = nI j) : ((p >>> ((2 : Int32) &&& (31 : Int32))) - (p >>> ((2 : Int32) &&& (31 : Int32))) / v0 * v0) * (4 : Int32) + (p &&& (3 : Int32)) = nI (j / 4 % n * 4 + j % 4) := by
  subst hl
  rw [ix_sh (by omega) hp, ix_m3 (by omega) hp, pk_rem (by omega) hn (by omega), show (4 : Int32) = nI 4 from rfl, pk_mul, nI_add]
theorem ix_pl_lt {n j : Nat} (hn : 0 < n) : j / 4 % n * 4 + j % 4 < 4 * n := by
  have := Nat.mod_lt (j / 4) hn
  omega
theorem ix_4b {b : Int32} (hb : ∃ j : Nat, j < 32 ∧ b = nI j) : ∃ j : Nat, j < 128 ∧ (4 : Int32) * b = nI j := by
  obtain ⟨j, hj, rfl⟩ := hb
  exact ⟨4 * j, by omega, by rw [show (4 : Int32) = nI 4 from rfl, pk_mul]⟩
theorem ix_s2 {v0 : Int32} (hc : ∃ k : Nat, k ≤ 2 ∧ v0 = nI k) (h : ¬ v0 = (2 : Int32)) : vp_in v0 2 := by
  obtain ⟨k, hk, rfl⟩ := hc
  have : k ≠ 2 := fun e => h (by rw [e]; rfl)
  exact vp_in_nI (by omega) (by omega)
theorem ix_16 {v0 : Int32} (hc : ∃ k : Nat, k ≤ 16 ∧ v0 = nI k) (h : ¬ (16 : Int32) ≤ v0) : vp_in v0 16 := by
  obtain ⟨k, hk, rfl⟩ := hc
  have := lp_nle (k := k) (n := 16) rfl rfl (by omega) (by omega) h
  exact vp_in_nI (by omega) (by omega)
theorem ix_lo {y : Int32} (h : ¬ y = 0) : ¬ y.toInt64 &&& (4294967295 : Int64) = 0 := by
  intro h2
  apply h
  have h3 : (y.toInt64 &&& (4294967295 : Int64)).toBitVec = 0#64 := by rw [h2]; rfl
  rw [Int64.toBitVec_and, Int32.toBitVec_toInt64] at h3
  apply Int32.toBitVec_inj.mp
  have h5 : (4294967295 : Int64).toBitVec = (0xFFFFFFFF#64) := by decide
  rw [h5] at h3
  apply BitVec.eq_of_getLsbD_eq
  intro i hi
  have h4 := congrArg (fun b => BitVec.getLsbD b i) h3
  simp only [BitVec.getLsbD_and, BitVec.getLsbD_zero] at h4
  rw [BitVec.getLsbD_signExtend] at h4
  have h6 : (0xFFFFFFFF#64).getLsbD i = true := by
    have : ∀ i, i < 32 → (0xFFFFFFFF#64).getLsbD i = true := by decide
    exact this i hi
  rw [h6, if_pos hi, decide_eq_true (by omega : i < 64)] at h4
  simpa using h4
/-- the first k places all x -/
def p_fillTo (k : Nat) (f : Nat → Int32) (x : Int32) : Nat → Int32 := fun j => if j < k then x else f j
theorem p_fill0 (f : Nat → Int32) (x : Int32) : p_fillTo 0 f x = f := by funext j; simp [p_fillTo]
theorem p_fillS (k : Nat) (f : Nat → Int32) (x : Int32) : upd (p_fillTo k f x) k x = p_fillTo (k + 1) f x := by
  funext j
  simp only [upd, p_fillTo]
  by_cases h : j = k
  · subst h; simp
  · rw [if_neg h]
    by_cases h2 : j < k
    · rw [if_pos h2, if_pos (by omega)]
    · rw [if_neg h2, if_neg (by omega)]
set_option maxRecDepth 100000 in
set_option maxHeartbeats 4000000 in
theorem m_JArr_fill (l : Launch) (dC : Nat → ClassId) (dI : Nat → Nat → Nat) (tys : List (ClassId × FieldType)) (h : Nat) (a : ClassId) (t : Nat) (ht : tys[t]? = some (a, .int)) (n : Nat) (hn : n < 2 ^ 31) (f : Nat → Int32) (x : Int32) : cv_Mv l y_JArr_fill (Cond.code y_JArr_fill c_JArr_fill 4 (none) :: gw) { frames := 0, cells := 0, slots := 0, locals := 0 } (dC, dI) vwCl tys [.ref h, .int x] [k_arr h a n f] (p_fillTo n f x) (fun r => [k_arr h a n r]) := by
  refine cv_startv (by decide) (Nat.le_of_ble_eq_true rfl) [(0, .ref h), (1, .int x)] rfl ?_
  intro p e s m below meth c A K hm
  refine cv_iconst (v := 0) K d_JArr_fill_0 rfl ?_
  refine cv_istore_n K d_JArr_fill_1 [(2, .int 0), (0, .ref h), (1, .int x)] rfl (by decide) rfl ?_
  refine cv_aload_n K 1 d_JArr_fill_2 rfl rfl ?_
  refine cv_alen (v := nI n) K d_JArr_fill_3 0 t rfl ht rfl ?_
  refine cv_istore_n K d_JArr_fill_4 [(3, .int (nI n)), (2, .int 0), (0, .ref h), (1, .int x)] rfl (by decide) rfl ?_
  have loop : ∀ (d k : Nat), k + d = n → cv_V p l e { frames := 0, cells := 0, slots := 0, locals := 0 } s m ([.ref h, .int x] : List Value).toArray below meth c 0 0 (MQ below (cv_Qv (dC, dI) vwCl tys A (p_fillTo n f x) (fun r => [k_arr h a n r])) ([.ref h, .int x] : List Value).toArray s 0 0 A) 4 (dC, dI) vwCl A 5 [(3, .int (nI n)), (2, .int (nI k)), (0, .ref h), (1, .int x)] [] [k_arr h a n (p_fillTo k f x)] := by
    intro d
    induction d with
    | zero =>
      intro k hk
      have hk : k = n := hk
      subst hk
      refine cv_iload_n K 1 d_JArr_fill_5 rfl rfl ?_
      refine cv_iload_n K 0 d_JArr_fill_6 rfl rfl ?_
      refine cv_icmp_ge K d_JArr_fill_7 20 rfl (fun h1 => ?_) (fun h1 => absurd (Int32.le_refl _) h1)
      exact cv_retv K hm d_JArr_fill_20 _ rfl rfl
    | succ d ih =>
      intro k hk
      refine cv_iload_n K 1 d_JArr_fill_5 rfl rfl ?_
      refine cv_iload_n K 0 d_JArr_fill_6 rfl rfl ?_
      refine cv_icmp_ge K d_JArr_fill_7 20 rfl (fun h1 => absurd h1 (nI_ge (by omega) hn)) (fun h1 => ?_)
      refine cv_aload_n K 2 d_JArr_fill_10 rfl rfl ?_
      refine cv_iload_n K 1 d_JArr_fill_11 rfl rfl ?_
      refine cv_iload_n K 3 d_JArr_fill_12 rfl rfl ?_
      refine cv_iast K d_JArr_fill_13 [k_arr h a n (p_fillTo (k + 1) f x)] 0 t rfl ht (vp_in_nI (by omega) hn) (by rw [nI_clamp (by omega), p_fillS]; rfl) ?_
      refine cv_iinc K d_JArr_fill_14 [(2, .int (nI (k + 1))), (3, .int (nI n)), (0, .ref h), (1, .int x)] 1 rfl (nI_1 k) (by decide) rfl ?_
      refine cv_goto K d_JArr_fill_17 5 rfl ?_
      refine cv_loc [1, 0, 2, 3] [(3, .int (nI n)), (2, .int (nI (k + 1))), (0, .ref h), (1, .int x)] rfl ?_
      exact ih (k + 1) (by omega)
  have h0 := loop n 0 (by omega)
  rw [p_fill0] at h0
  exact h0
