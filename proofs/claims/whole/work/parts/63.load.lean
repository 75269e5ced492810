/-! S5: loads -/
theorem zn10 : ¬ (1 : Int32) = (0 : Int32) := by decide
theorem a_m4 (t : Int32) : t &&& (3 : Int32) = (0 : Int32) ↔ t - t / (4 : Int32) * (4 : Int32) = (0 : Int32) := by
  rw [pk_and t 2 rfl, ← Int32.toInt_inj, ← Int32.toInt_inj, Int32.toInt_sub, Int32.toInt_mul, Int32.toInt_div]
  have hr := Int32.toInt_lt t
  have hl := Int32.le_toInt t
  have hu := a_un t
  rw [nI_toInt (by omega)]
  show (_ = (0 : Int)) ↔ ((t.toInt - (((t.toInt.tdiv 4).bmod (2 ^ 32)) * 4).bmod (2 ^ 32)).bmod (2 ^ 32) = (0 : Int))
  have hn := t.toBitVec.isLt
  have hq : t.toInt.tdiv 4 = if 0 ≤ t.toInt ∨ (4 : Int) ∣ t.toInt then t.toInt / 4 else t.toInt / 4 + 1 := by
    rw [Int.tdiv_eq_ediv]
    split
    · omega
    · rfl
  generalize t.toInt.tdiv 4 = q at hq ⊢
  have g1 : -536870912 ≤ q ∧ q ≤ 536870911 := by
    split at hq <;> omega
  have b1 : q.bmod (2 ^ 32) = q := Int.bmod_eq_of_le (by omega) (by omega)
  have b2 : (q * 4).bmod (2 ^ 32) = q * 4 := Int.bmod_eq_of_le (by omega) (by omega)
  rw [b1, b2]
  have g2 : -4 < t.toInt - q * 4 ∧ t.toInt - q * 4 < 4 := by
    split at hq <;> omega
  have b3 : (t.toInt - q * 4).bmod (2 ^ 32) = t.toInt - q * 4 := Int.bmod_eq_of_le (by omega) (by omega)
  rw [b3]
  by_cases hh : t.toBitVec.toNat < 2147483648
  · rw [if_pos hh] at hu
    rw [if_pos (by omega)] at hq
    omega
  · rw [if_neg hh] at hu
    split at hq <;> omega
theorem a_kind (t : Int32) (h3 : t &&& (3 : Int32) = (0 : Int32)) : (p_Core_isDevice t = 0 ∧ p_Core_isMemory t = 0 ∧ p_Model_in t (0 : Int32) (511 : Int32) = 0 ∧ p_Model_in t (4096 : Int32) (4159 : Int32) = 0) ∨ (p_Core_isDevice t = 1 ∧ p_Model_in t (0 : Int32) (511 : Int32) = 0 ∧ p_Model_in t (4096 : Int32) (4159 : Int32) = 1 ∧ ∃ j : Nat, 4096 ≤ j ∧ j < 4160 ∧ t = nI j) ∨ (p_Core_isDevice t = 0 ∧ p_Core_isMemory t = 1 ∧ p_Model_in t (0 : Int32) (511 : Int32) = 1 ∧ p_Model_in t (4096 : Int32) (4159 : Int32) = 0 ∧ ∃ j : Nat, j < 512 ∧ t = nI j) := by
  unfold p_Core_isDevice p_Core_isMemory p_Model_in
  rw [if_pos h3]
  by_cases h0 : t < (0 : Int32)
  · have h1 : t < (4096 : Int32) := Int32.lt_trans h0 (by decide)
    rw [if_pos h1, if_pos h0, if_pos h0, if_pos h1]
    exact Or.inl ⟨rfl, rfl, rfl, rfl⟩
  · rw [if_neg h0, if_neg h0]
    obtain ⟨j, hj, rfl⟩ := nI_of h0
    have i1 : nI j < (4096 : Int32) ↔ j < 4096 := nI_ltI hj (b := 4096) (by omega)
    have i2 : (4160 : Int32) ≤ nI j ↔ 4160 ≤ j := nI_leI (a := 4160) (by omega) hj
    have i3 : (512 : Int32) ≤ nI j ↔ 512 ≤ j := nI_leI (a := 512) (by omega) hj
    have i4 : (511 : Int32) < nI j ↔ 511 < j := nI_ltI (a := 511) (by omega) hj
    have i5 : (4159 : Int32) < nI j ↔ 4159 < j := nI_ltI (a := 4159) (by omega) hj
    by_cases c1 : j < 512
    · refine Or.inr (Or.inr ?_)
      rw [if_pos (i1.mpr (by omega)), if_neg (fun q => absurd (i3.mp q) (by omega)), if_neg (fun q => absurd (i4.mp q) (by omega)), if_pos (i1.mpr (by omega))]
      exact ⟨rfl, rfl, rfl, rfl, j, c1, rfl⟩
    · by_cases c2 : 4096 ≤ j ∧ j < 4160
      · refine Or.inr (Or.inl ?_)
        rw [if_neg (fun q => absurd (i1.mp q) (by omega)), if_neg (fun q => absurd (i2.mp q) (by omega)), if_pos (i4.mpr (by omega)), if_neg (fun q => absurd (i1.mp q) (by omega)), if_neg (fun q => absurd (i5.mp q) (by omega))]
        exact ⟨rfl, rfl, rfl, j, c2.1, c2.2, rfl⟩
      · refine Or.inl ?_
        rw [if_pos (i3.mpr (by omega)), if_pos (i4.mpr (by omega))]
        by_cases c3 : j < 4096
        · rw [if_pos (i1.mpr c3), if_pos (i1.mpr c3)]; exact ⟨rfl, rfl, rfl, rfl⟩
        · rw [if_neg (fun q => absurd (i1.mp q) (by omega)), if_pos (i2.mpr (by omega)), if_neg (fun q => absurd (i1.mp q) (by omega)), if_pos (i5.mpr (by omega))]; exact ⟨rfl, rfl, rfl, rfl⟩
theorem a_128 {p : Nat} (hp : p < 128) : ((128 : Int32) + nI p).toNatClampNeg = 128 + p := by
  rw [show (128 : Int32) = nI 128 from rfl, nI_add, nI_clamp (by omega)]
/-- a wish for a block -/
theorem o_wb {n c a : Nat} {mvL : Nat → Int64} {cdv cdB cdW dtv dtB dtW bfv bfP bfV bsv krv rgs ctv acv acC acV mv lc la kp cp reg sp sw sv : Nat → Int32} (h : CI n c a cdv cdB cdW dtv dtB dtW bfv bfP bfV bsv krv rgs ctv acv acC acV mv lc la kp cp reg sp sw sv) {w j : Nat} (w0 : 0 < w) (w3 : w ≤ 3) (hj : j < 32) : CP n c (a + 1) cdv cdW dtv dtB mv (cdB, dtW, bfv, bfP, bfV, p_Bus_want bsv (nI w) (nI j), krv, rgs, ctv, acv, acC, acV) (p_Model_want mv mvL (nI w) (nI j), lc, la, kp, cp, reg, sp, sw, sv) := by
  have hK := h.1.2.2.2.2.2.2.2.1
  have f : ∀ i, i ≠ 7 → i ≠ 9 → i ≠ 10 → p_Model_want mv mvL (nI w) (nI j) i = mv i := fun i a b d => by
    show upd (upd (upd mv 9 (nI w)) 10 (nI j)) 7 (1 : Int32) i = mv i
    rw [pk_un a, pk_un d, pk_un b]
  refine o_want h w0 w3 hj (fun _ _ => rfl) (fun i a b d _ => f i a b d) ?_ ?_ ?_ (rc_up hK ?_ ?_ ?_ ?_ (fun _ _ _ => rfl) (fun i a b => f i (by omega) (by omega) (by omega)))
  · show upd (upd (upd mv 9 (nI w)) 10 (nI j)) 7 (1 : Int32) 9 = nI w
    rw [pk_un (by decide), pk_un (by decide), pk_us]
  · show upd (upd (upd mv 9 (nI w)) 10 (nI j)) 7 (1 : Int32) 10 = nI j
    rw [pk_un (by decide), pk_us]
  · show upd (upd (upd mv 9 (nI w)) 10 (nI j)) 7 (1 : Int32) 7 = 1
    rw [pk_us]
  · exact hK.1.trans (f 5 (by decide) (by decide) (by decide)).symm
  · exact hK.2.1.trans (f 4 (by decide) (by decide) (by decide)).symm
  · exact hK.2.2.1.trans (f 8 (by decide) (by decide) (by decide)).symm
  · exact hK.2.2.2.1.imp (fun e => (f 8 (by decide) (by decide) (by decide)).trans e) (fun e => (f 8 (by decide) (by decide) (by decide)).trans e)
/-- a wish for a device -/
theorem o_wd {n c a : Nat} {mvL : Nat → Int64} {cdv cdB cdW dtv dtB dtW bfv bfP bfV bsv krv rgs ctv acv acC acV mv lc la kp cp reg sp sw sv : Nat → Int32} (h : CI n c a cdv cdB cdW dtv dtB dtW bfv bfP bfV bsv krv rgs ctv acv acC acV mv lc la kp cp reg sp sw sv) {u u' z x d : Int32} (hu : u = u') (hd : vp_in d 32) : CP n c (a + 1) cdv cdW dtv dtB mv (cdB, dtW, bfv, bfP, bfV, p_Bus_want bsv (3 : Int32) (0 : Int32), upd (upd (upd (upd krv 5 u) 6 z) 7 x) 8 d, rgs, ctv, acv, acC, acV) (upd (upd (upd (upd (p_Model_want mv mvL (3 : Int32) (0 : Int32)) 15 u') 16 z) 17 x) 18 d, lc, la, kp, cp, reg, sp, sw, sv) := by
  have hK := h.1.2.2.2.2.2.2.2.1
  subst hu
  have f : ∀ i, i ≠ 7 → i ≠ 9 → i ≠ 10 → (i < 15 ∨ 18 < i) → upd (upd (upd (upd (p_Model_want mv mvL (3 : Int32) (0 : Int32)) 15 u) 16 z) 17 x) 18 d i = mv i := fun i a b e g => by
    show upd (upd (upd (upd (upd (upd (upd mv 9 (3 : Int32)) 10 (0 : Int32)) 7 (1 : Int32)) 15 u) 16 z) 17 x) 18 d i = mv i
    rw [pk_un (by omega), pk_un (by omega), pk_un (by omega), pk_un (by omega), pk_un a, pk_un e, pk_un b]
  have kf : ∀ i, i < 5 → upd (upd (upd (upd krv 5 u) 6 z) 7 x) 8 d i = krv i := fun i a => by
    rw [pk_un (by omega), pk_un (by omega), pk_un (by omega), pk_un (by omega)]
  refine o_want h (w := 3) (j := 0) (by omega) (by omega) (by omega) kf f rfl rfl rfl ⟨?_, ?_, ?_, ?_, rfl, rfl, rfl, rfl, hd⟩
  · exact (kf 0 (by decide)).trans (hK.1.trans (f 5 (by decide) (by decide) (by decide) (by decide)).symm)
  · exact (kf 2 (by decide)).trans (hK.2.1.trans (f 4 (by decide) (by decide) (by decide) (by decide)).symm)
  · exact (kf 4 (by decide)).trans (hK.2.2.1.trans (f 8 (by decide) (by decide) (by decide) (by decide)).symm)
  · exact hK.2.2.2.1.imp (fun e => (f 8 (by decide) (by decide) (by decide) (by decide)).trans e) (fun e => (f 8 (by decide) (by decide) (by decide) (by decide)).trans e)
theorem bf_0 {n c a : Nat} {cdv cdB cdW dtv dtB dtW bfv bfP bfV bsv krv rgs ctv acv acC acV mv lc la kp cp reg sp sw sv : Nat → Int32} (h : CI n c a cdv cdB cdW dtv dtB dtW bfv bfP bfV bsv krv rgs ctv acv acC acV mv lc la kp cp reg sp sw sv) : (bfv 0 = (0 : Int32) ↔ mv 19 ≤ (0 : Int32)) ∧ (bfv 0 = (0 : Int32) ↔ mv 19 = (0 : Int32)) := by
  obtain ⟨e, ⟨k, hk, e2⟩, -, -⟩ := h.1.2.2.2.2.2.2.2.2.2.2
  rw [e, e2]
  have : k = 0 ∨ k = 1 ∨ k = 2 := by omega
  rcases this with rfl | rfl | rfl <;> exact ⟨by decide, by decide⟩
theorem a_dv4 {j : Nat} (h1 : 4096 ≤ j) (h2 : j < 4160) : (nI j - (4096 : Int32)) >>> ((2 : Int32) &&& (31 : Int32)) = nI j / (4 : Int32) - (1024 : Int32) := by
  rw [show (4096 : Int32) = nI 4096 from rfl, pk_sub h1, ix_sh (j := j - 4096) (by omega) rfl, show (4 : Int32) = nI 4 from rfl, pk_div (by omega) (by omega) (by omega), show (1024 : Int32) = nI 1024 from rfl, pk_sub (by omega)]
  exact congrArg nI (by omega)
theorem a_sh4 {j : Nat} (h2 : j < 512) : nI j >>> ((4 : Int32) &&& (31 : Int32)) = nI (j / 16) := pk_shrN (by omega) _ 4 rfl
def zL7 (n c a : Nat) (cdv cdB cdW dtv dtB dtW bfv bfP bfV kp mv : Nat → Int32) (q : (Nat → Int32) × (Nat → Int32) × (Nat → Int32) × (Nat → Int32) × (Nat → Int32) × (Nat → Int32) × (Nat → Int32)) (s : (Nat → Int32) × (Nat → Int32) × (Nat → Int32) × (Nat → Int32) × (Nat → Int32) × (Nat → Int32) × (Nat → Int32) × (Nat → Int32)) : Prop := CP n c a cdv cdW dtv dtB mv (cdB, dtW, bfv, bfP, bfV, q.1, q.2.1, q.2.2.1, q.2.2.2.1, q.2.2.2.2.1, q.2.2.2.2.2.1, q.2.2.2.2.2.2) (s.1, s.2.1, s.2.2.1, kp, s.2.2.2.1, s.2.2.2.2.1, s.2.2.2.2.2.1, s.2.2.2.2.2.2.1, s.2.2.2.2.2.2.2)
theorem o_load {n c a : Nat} {mvL : Nat → Int64} {cdv cdB cdW dtv dtB dtW bfv bfP bfV bsv krv rgs ctv acv acC acV mv lc la kp cp reg sp sw sv : Nat → Int32} (h : CI n c a cdv cdB cdW dtv dtB dtW bfv bfP bfV bsv krv rgs ctv acv acC acV mv lc la kp cp reg sp sw sv) (w : Int32) (f2 : p_Core_fieldF w = 2) : zL7 n c (a + 1) cdv cdB cdW dtv dtB dtW bfv bfP bfV kp mv (p_Core_load dtv dtB dtW bfv bsv krv rgs ctv acv acC acV w) (p_Model_access mv mvL lc la kp cp reg sp sw sv (0 : Int32) (reg (p_Core_fieldA w).toNatClampNeg + (w >>> ((20 : Int32) &&& (31 : Int32)))) (p_Core_fieldD w) (0 : Int32)) := by
  rw [← rg_A h.1.2.2.2.2.2.1 (vp_fA w)]
  have hD := vp_fD w
  have hN := h.1.1
  have hDa := h.1.2.2.2.2.1
  have hB0 := bf_0 h
  simp only [p_Core_load, p_Core_load_1, p_Core_load_2, p_Core_load_3, p_Core_load_4, p_Core_load_5, p_Core_load_6, p_Core_load_7, p_Core_load_8, p_Core_load_9, p_Core_load_10, p_Core_load_11, p_Core_load_12, p_Core_load_13, p_Core_load_14, if_pos f2, p_Core_wantDevice, p_Core_wantDevice_1, p_Model_access, p_Model_access_1, p_Model_access_2, p_Model_access_3, p_Model_access_4, p_Model_access_5, p_Model_access_6, p_Model_access_7, p_Model_access_8, p_Model_access_9, p_Model_access_10, p_Model_access_11]
  generalize rgs (p_Core_fieldA w).toNatClampNeg + (w >>> ((20 : Int32) &&& (31 : Int32))) = t
  by_cases h3 : t &&& (3 : Int32) = (0 : Int32)
  · simp only [if_pos h3, if_pos ((a_m4 t).mp h3), ↓reduceIte]
    rcases a_kind t h3 with ⟨e1, e2, e3, e4⟩ | ⟨e1, e3, e4, j, hj, hj2, rfl⟩ | ⟨e1, e2, e3, e4, j, hj, rfl⟩
    · simp only [e1, e2, e3, e4, ↓reduceIte]
      exact o_trap (mvL := mvL) h 5 t
    · simp only [e1, e3, e4, ↓reduceIte, zn10]
      by_cases b : bfv 0 = (0 : Int32)
      · simp only [if_pos b, if_pos (hB0.1.mp b)]
        exact o_wd (mvL := mvL) h (a_dv4 hj hj2) hD
      · simp only [if_neg b, if_neg (fun q => b (hB0.1.mpr q))]
        exact o_stay h
    · simp only [e1, e2, e3, e4, ↓reduceIte, zn10]
      have d4 : nI j / (4 : Int32) = nI (j / 4) := pk_div (by omega) (d := 4) (by omega) (by omega)
      have d16 : nI j / (16 : Int32) = nI (j / 16) := pk_div (by omega) (d := 16) (by omega) (by omega)
      have hp : j / 4 < 128 := by omega
      have r := hDa (j / 4) hp
      rw [ix_sh (j := j) (by omega) rfl, a_sh4 hj, d4, d16, a_128 hp, ca_h hN.2.1 hN.2.2.2.1 hN.2.2.2.2.1 hp, ca_w hN.2.1 hN.2.2.2.1 hN.2.2.2.2.1 hp]
      by_cases k0 : kp (128 + j / 4) = 0
      · have nb : ¬ dtB (j / 4 / 4 % n) = nI (j / 4 / 4) := fun q => (r.2.1.mpr q) k0
        simp only [if_neg nb, if_pos k0, ↓reduceIte]
        by_cases b : bfv 0 = (0 : Int32)
        · simp only [if_pos b, if_pos (hB0.2.mp b)]
          exact o_wb (mvL := mvL) h (w := 2) (by omega) (by omega) (by omega)
        · simp only [if_neg b, if_neg (fun q => b (hB0.2.mpr q))]
          exact o_stay h
      · have nb : dtB (j / 4 / 4 % n) = nI (j / 4 / 4) := r.2.1.mp k0
        simp only [if_pos nb, if_neg k0, zn10, ↓reduceIte]
        rw [r.2.2 k0]
        exact k6_set (mvL := mvL) h (p_Core_fieldD w) _ hD
  · simp only [if_neg h3, if_neg (fun q => h3 ((a_m4 t).mpr q)), ↓reduceIte]
    exact o_trap (mvL := mvL) h 4 t
