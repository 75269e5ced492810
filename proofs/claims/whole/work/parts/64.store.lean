/-! S5: stores -/
/-- a store goes into the buffer -/
theorem ci_store {n c a : Nat} {cdv cdB cdW dtv dtB dtW bfv bfP bfV bsv krv rgs ctv acv acC acV mv lc la kp cp reg sp sw sv : Nat → Int32} (h : CI n c a cdv cdB cdW dtv dtB dtW bfv bfP bfV bsv krv rgs ctv acv acC acV mv lc la kp cp reg sp sw sv) {p k : Nat} (hp : p < 128) (hk : mv 19 = nI k) (hk1 : k ≤ 1) (x : Int32) : CI n c a cdv cdB cdW dtv dtB (if dtB (p / 4 % n) = nI (p / 4) then upd dtW (p / 4 % n * 4 + p % 4) x else dtW) (upd bfv 0 (nI (k + 1))) (upd bfP k (nI p)) (upd bfV k x) bsv krv rgs ctv acv acC acV (upd mv 19 (nI (k + 1))) lc la kp (if kp (128 + p) = 0 then cp else upd cp (128 + p) x) reg sp (upd sw k (nI p)) (upd sv k x) := by
  obtain ⟨⟨h1, h2, h3, h4, h5, h6, h7, h8, h9, h10, h11⟩, g7, g3, g6, hc, ha⟩ := h
  have f : ∀ j, j ≠ 19 → upd mv 19 (nI (k + 1)) j = mv j := fun j e => pk_un e
  have n0 : 0 < n := h1.2.2.2.1
  refine ⟨⟨h1, h2, h3, ?_, ?_, h6, h7, h8, h9, h10, ?_⟩, g7, g3, g6, hc, ha⟩
  · intro q hq
    have r := h4 q hq
    refine ⟨r.1, r.2.1, fun e => ?_⟩
    rw [← r.2.2 e]
    by_cases k0 : kp (128 + p) = 0
    · rw [if_pos k0]
    · rw [if_neg k0, pk_un (by omega)]
  · intro q hq
    have r := h5 q hq
    have rp := h5 p hp
    refine ⟨r.1, r.2.1, fun e => ?_⟩
    by_cases k0 : kp (128 + p) = 0
    · have nb : ¬ dtB (p / 4 % n) = nI (p / 4) := fun z => (rp.2.1.mpr z) k0
      rw [if_pos k0, if_neg nb]
      exact r.2.2 e
    · have nb := rp.2.1.mp k0
      rw [if_neg k0, if_pos nb]
      by_cases eq : q = p
      · rw [eq, pk_us, pk_us]
      · rw [pk_un (by omega), pk_un ?_]
        · exact r.2.2 e
        · intro z
          have bq := r.2.1.mp e
          have m : q / 4 % n = p / 4 % n := by omega
          rw [m] at bq
          have := (nI_eq (by omega) (by omega)).mp (bq.symm.trans nb)
          omega
  · obtain ⟨b1, b2, b3, b4⟩ := h11
    refine ⟨?_, ⟨k + 1, by omega, pk_us⟩, ?_, fun _ => ?_⟩
    · rw [pk_us, pk_us]
    · intro i hi
      have z := b3 i hi
      by_cases e : i = k
      · rw [e, pk_us, pk_us, pk_us, pk_us]
        exact ⟨rfl, rfl, vp_in_nI hp (by omega)⟩
      · rw [pk_un e, pk_un e, pk_un e, pk_un e]
        exact z
    · rw [pk_us]
      exact nI_ne0 (by omega) (by omega)
def zL10 (n c a : Nat) (cdv cdB cdW dtv dtB rgs kp mv : Nat → Int32) (q : (Nat → Int32) × (Nat → Int32) × (Nat → Int32) × (Nat → Int32) × (Nat → Int32) × (Nat → Int32) × (Nat → Int32) × (Nat → Int32) × (Nat → Int32) × (Nat → Int32)) (s : (Nat → Int32) × (Nat → Int32) × (Nat → Int32) × (Nat → Int32) × (Nat → Int32) × (Nat → Int32) × (Nat → Int32) × (Nat → Int32)) : Prop := CP n c a cdv cdW dtv dtB mv (cdB, q.1, q.2.1, q.2.2.1, q.2.2.2.1, q.2.2.2.2.1, q.2.2.2.2.2.1, rgs, q.2.2.2.2.2.2.1, q.2.2.2.2.2.2.2.1, q.2.2.2.2.2.2.2.2.1, q.2.2.2.2.2.2.2.2.2) (s.1, s.2.1, s.2.2.1, kp, s.2.2.2.1, s.2.2.2.2.1, s.2.2.2.2.2.1, s.2.2.2.2.2.2.1, s.2.2.2.2.2.2.2)
theorem ca_c {v B W : Nat → Int32} {n j : Nat} (x : Int32) (hl : v 0 = nI n) (hn : 0 < n) (hn8 : n ≤ 8) (hj : j < 128) : p_Cache_change v B W (nI j) x = if B (j / 4 % n) = nI (j / 4) then upd W (j / 4 % n * 4 + j % 4) x else W := by
  unfold p_Cache_change p_Cache_change_1
  rw [ca_h hl hn hn8 hj]
  by_cases e : B (j / 4 % n) = nI (j / 4)
  · rw [if_pos e, if_pos e, if_neg zn10]
    unfold p_Cache_change_2 p_Cache_place
    rw [ix_place hl hn hn8 hj rfl, nI_clamp (by have := ix_pl_lt (n := n) (j := j) hn; omega)]
  · rw [if_neg e, if_neg e, if_pos rfl]
theorem o_store {n c a : Nat} {mvL : Nat → Int64} {cdv cdB cdW dtv dtB dtW bfv bfP bfV bsv krv rgs ctv acv acC acV mv lc la kp cp reg sp sw sv : Nat → Int32} (h : CI n c a cdv cdB cdW dtv dtB dtW bfv bfP bfV bsv krv rgs ctv acv acC acV mv lc la kp cp reg sp sw sv) (w : Int32) (f2 : p_Core_fieldF w = 2) : zL10 n c (a + 1) cdv cdB cdW dtv dtB rgs kp mv (p_Core_store dtv dtB dtW bfv bfP bfV bsv krv rgs ctv acv acC acV w) (p_Model_access mv mvL lc la kp cp reg sp sw sv (1 : Int32) ((reg (p_Core_fieldA w).toNatClampNeg + (w >>> ((25 : Int32) &&& (31 : Int32))) * (32 : Int32)) + p_Core_fieldD w) (0 : Int32) (reg (p_Core_fieldB w).toNatClampNeg)) := by
  rw [← rg_A h.1.2.2.2.2.2.1 (vp_fA w), ← rg_A h.1.2.2.2.2.2.1 (vp_fB w)]
  have hN := h.1.1
  have hDa := h.1.2.2.2.2.1
  have hK := h.1.2.2.2.2.2.2.2.1
  have hF := h.1.2.2.2.2.2.2.2.2.2.2
  have hB0 := bf_0 h
  simp only [p_Core_store, p_Core_store_1, p_Core_store_2, p_Core_store_3, p_Core_store_4, p_Core_store_5, p_Core_store_6, p_Core_store_7, p_Core_store_8, p_Core_store_9, p_Core_store_10, p_Core_store_11, p_Core_store_12, p_Core_store_13, p_Core_store_14, if_pos f2, p_Core_wantDevice, p_Core_wantDevice_1, p_Model_access, p_Model_access_1, p_Model_access_2, p_Model_access_3, p_Model_access_4, p_Model_access_5, p_Model_access_6, p_Model_access_7, p_Model_access_8, p_Model_access_9, p_Model_access_10, p_Model_access_11, zn10, if_false]
  generalize (rgs (p_Core_fieldA w).toNatClampNeg + (w >>> ((25 : Int32) &&& (31 : Int32))) * (32 : Int32)) + p_Core_fieldD w = t
  generalize rgs (p_Core_fieldB w).toNatClampNeg = x
  by_cases h3 : t &&& (3 : Int32) = (0 : Int32)
  · simp only [if_pos h3, if_pos ((a_m4 t).mp h3), ↓reduceIte]
    rcases a_kind t h3 with ⟨e1, e2, e3, e4⟩ | ⟨e1, e3, e4, j, hj, hj2, rfl⟩ | ⟨e1, e2, e3, e4, j, hj, rfl⟩
    · simp only [e1, e2, e3, e4, ↓reduceIte]
      exact o_trap (mvL := mvL) h 7 t
    · simp only [e1, e3, e4, ↓reduceIte, zn10]
      by_cases b : bfv 0 = (0 : Int32)
      · simp only [if_pos b, if_pos (hB0.1.mp b)]
        exact o_wd (mvL := mvL) h (a_dv4 hj hj2) vp_00
      · simp only [if_neg b, if_neg (fun q => b (hB0.1.mpr q))]
        exact o_stay h
    · simp only [e1, e2, e3, e4, ↓reduceIte, zn10]
      have d4 : nI j / (4 : Int32) = nI (j / 4) := pk_div (by omega) (d := 4) (by omega) (by omega)
      have hp : j / 4 < 128 := by omega
      simp only [p_Model_save, p_Model_save_1, p_Model_save_2]
      rw [ix_sh (j := j) (by omega) rfl, d4, a_128 hp, ca_c _ hN.2.1 hN.2.2.2.1 hN.2.2.2.2.1 hp]
      obtain ⟨b0, ⟨k, hk, b1⟩, -, -⟩ := hF
      unfold p_StoreBuffer_add p_StoreBuffer_add_1 p_StoreBuffer_isFull
      rw [b0, b1]
      by_cases k2 : k = 2
      · have e5 : nI k = (2 : Int32) := by rw [k2]; rfl
        simp only [if_pos e5, zn10, if_false, ↓reduceIte]
        exact o_stay h
      · have hk1 : k ≤ 1 := by omega
        have e5 : ¬ nI k = (2 : Int32) := fun q => k2 ((nI_eq (b := 2) (by omega) (by omega)).mp q)
        simp only [if_neg e5, zn10, if_false, ↓reduceIte, nI_1]
        rw [nI_clamp (by omega)]
        have g := o_act (mvL := mvL) (ci_store h hp b1 hk1 x) h.1.2.2.2.2.2.1 h.1.2.2.2.2.2.2.1 (krv 0 + (4 : Int32))
        have g' : ∀ r s, CP n c (a + 1) cdv cdW dtv dtB (upd mv 19 (nI (k + 1))) r s → CP n c (a + 1) cdv cdW dtv dtB mv r s := fun r s z => ⟨z.1, z.2.1, fun i hi => (z.2.2 i hi).trans (pk_un (by omega))⟩
        rw [← hK.1]
        by_cases k0 : kp (128 + j / 4) = 0
        · rw [if_pos k0] at g ⊢
          exact g' _ _ g
        · rw [if_neg k0] at g ⊢
          exact g' _ _ g
  · simp only [if_neg h3, if_neg (fun q => h3 ((a_m4 t).mpr q)), ↓reduceIte]
    exact o_trap (mvL := mvL) h 6 t
