def uN (x : Int64) : Nat := x.toUInt64.toNat
theorem uN_lt (x : Int64) : uN x < 18446744073709551616 := x.toUInt64.toNat_lt
theorem uN_inj {x y : Int64} (h : uN x = uN y) : x = y := congrArg UInt64.toInt64 (UInt64.toNat_inj.mp h)
theorem uN_add (x y : Int64) : uN (x + y) = (uN x + uN y) % 18446744073709551616 := by
  show (x.toUInt64 + y.toUInt64).toNat = _
  exact UInt64.toNat_add _ _
theorem nat_xor {a : Nat} (h : a < 18446744073709551616) : a ^^^ 2 ^ 63 = (a + 9223372036854775808) % 18446744073709551616 := by
  have h1 : (a ^^^ 2 ^ 63) % 2 ^ 63 = a % 2 ^ 63 := by rw [Nat.xor_mod_two_pow, Nat.mod_self, Nat.xor_zero]
  have h2 : (a ^^^ 2 ^ 63) / 2 ^ 63 = (a / 2 ^ 63) ^^^ 1 := by rw [Nat.xor_div_two_pow, Nat.div_self (Nat.two_pow_pos 63)]
  have h3 : a / 2 ^ 63 = 0 ∨ a / 2 ^ 63 = 1 := by omega
  generalize a ^^^ 2 ^ 63 = t at h1 h2
  rcases h3 with h3 | h3
  · rw [h3] at h2
    have h2 : t / 2 ^ 63 = 1 := h2
    omega
  · rw [h3] at h2
    have h2 : t / 2 ^ 63 = 0 := h2
    omega
theorem uN_xor (x : Int64) : uN (x ^^^ (-9223372036854775808)) = (uN x + 9223372036854775808) % 18446744073709551616 := by
  rw [← nat_xor (uN_lt x)]
  exact UInt64.toNat_xor _ _
theorem top_add (x : Int64) : x + (-9223372036854775808 : Int64) = x ^^^ (-9223372036854775808 : Int64) := by
  apply uN_inj
  rw [uN_add, uN_xor]
  rfl
theorem jc_lt (a b : Int64) : p_JLong_compare a b < (0 : Int32) ↔ lg_cmp a b < (0 : Int32) := by
  unfold p_JLong_compare
  generalize lg_cmp a b = q
  by_cases h : (0 : Int32) ≤ q
  · rw [if_pos h]
    have h2 : ¬ q < (0 : Int32) := k2_nlt h
    split
    · exact ⟨fun h3 => absurd h3 (by decide), fun h3 => absurd h3 h2⟩
    · exact ⟨fun h3 => absurd h3 (by decide), fun h3 => absurd h3 h2⟩
  · rw [if_neg h]
    exact ⟨fun _ => k2_lt h, fun _ => by decide⟩
theorem jl_gen (x y t : Int64) (h : ∀ z : Int64, z + t = z ^^^ t) : p_JLong_compare (x + t) (y + t) < (0 : Int32) ↔ lg_cmp (x ^^^ t) (y ^^^ t) < (0 : Int32) := by
  rw [h, h]
  exact jc_lt _ _
theorem jl_lt (x y : Int64) : p_JLong_compareUnsigned x y < (0 : Int32) ↔ lg_cmp (x ^^^ (-9223372036854775808 : Int64)) (y ^^^ (-9223372036854775808 : Int64)) < (0 : Int32) := by
  rw [p_JLong_compareUnsigned, p_JLong_compareUnsigned_1]
  exact jl_gen x y _ top_add
/-- MIP, here and there -/
theorem ib_mip {dvL mvL : Nat → Int64} {itv mv hi pe se : Nat → Int32} (h : rInt itv mv hi pe se) (ht : rTime dvL mvL) : p_Devices_interruptBits dvL itv = p_Model_mip mv mvL pe := by
  unfold p_Devices_interruptBits p_Devices_interruptBits_1 p_Devices_interruptBits_2 p_Devices_interruptBits_3 p_Model_mip p_Model_mip_1 p_Model_mip_4
  rw [fr_best mvL h, ht.1, ht.2, if_pos rfl, if_neg (show ¬ (1 : Int32) = (0 : Int32) by decide)]
  obtain ⟨j, hj, e⟩ := best_ix mv mvL pe
  rw [e]
  have hz : nI j = (0 : Int32) ↔ nI j ≤ (0 : Int32) := by
    constructor
    · intro h1; rw [h1]; decide
    · intro h1
      have := lp_le (c := nI j) (s := (0 : Int32)) (k := 0) (n := j) rfl rfl (by omega) (by omega) h1
      have : j = 0 := by omega
      rw [this]; rfl
  by_cases hl : p_JLong_compareUnsigned (mvL 0) (mvL 1) < (0 : Int32)
  · rw [if_pos hl, if_pos ((jl_lt _ _).mp hl)]
    by_cases h0 : nI j = (0 : Int32)
    · rw [if_pos h0, if_pos (hz.mp h0)]; decide
    · rw [if_neg h0, if_neg (fun h1 => h0 (hz.mpr h1))]; decide
  · rw [if_neg hl, if_neg (fun h1 => hl ((jl_lt _ _).mpr h1))]
    by_cases h0 : nI j = (0 : Int32)
    · rw [if_pos h0, if_pos (hz.mp h0)]; decide
    · rw [if_neg h0, if_neg (fun h1 => h0 (hz.mpr h1))]; decide
theorem wh_none {k : Int32} (h1 : ¬ k = (768 : Int32)) (h2 : ¬ k = (772 : Int32)) (h3 : ¬ k = (773 : Int32)) (h4 : ¬ k = (832 : Int32)) (h5 : ¬ k = (833 : Int32)) (h6 : ¬ k = (834 : Int32)) (h7 : ¬ k = (835 : Int32)) (h8 : ¬ k = (836 : Int32)) (h9 : ¬ k = (3072 : Int32)) : p_Model_which k = (-1 : Int32) := by
  rw [p_Model_which, if_neg h1, if_neg h2, if_neg h3, p_Model_which_1]
  by_cases hi : p_Model_in k (832 : Int32) (836 : Int32) = (0 : Int32)
  · rw [if_pos hi, if_neg h9]
  · exfalso
    have hq := in_r rfl hi
    obtain ⟨j, hj, rfl⟩ := nI_of2 (n := 836) (x := k) (M := 836) rfl (fun h5 => hq.1 (Int32.lt_trans h5 (by decide))) (k2_le hq.2)
    have hj2 : 832 ≤ j := by
      have := hq.1
      rw [show (832 : Int32) = nI 832 from rfl, nI_ltI (by omega) (by omega)] at this
      omega
    rcases (show j = 832 ∨ j = 833 ∨ j = 834 ∨ j = 835 ∨ j = 836 by omega) with rfl | rfl | rfl | rfl | rfl
    · exact h4 rfl
    · exact h5 rfl
    · exact h6 rfl
    · exact h7 rfl
    · exact h8 rfl
/-- a control register's value, here and there -/
theorem cr_eq {dvL mvL : Nat → Int64} {itv mv hi pe se ctv sp : Nat → Int32} {cy : Int32} (h : rInt itv mv hi pe se) (ht : rTime dvL mvL) (hc : rCtl ctv sp) (hcy : cy = mv 2) (k : Int32) : p_Control_read ctv k (p_Devices_interruptBits dvL itv) cy = p_Model_controlValue mv mvL sp pe (p_Model_which k) := by
  rw [ib_mip h ht, hcy]
  unfold p_Control_read
  by_cases h1 : k = (768 : Int32)
  · rw [if_pos h1, h1, show p_Model_which (768 : Int32) = 0 by decide]; exact hc 0 (by omega)
  rw [if_neg h1]
  by_cases h2 : k = (772 : Int32)
  · rw [if_pos h2, h2, show p_Model_which (772 : Int32) = 1 by decide]; exact hc 1 (by omega)
  rw [if_neg h2]
  by_cases h3 : k = (773 : Int32)
  · rw [if_pos h3, h3, show p_Model_which (773 : Int32) = 2 by decide]; exact hc 2 (by omega)
  rw [if_neg h3]
  by_cases h4 : k = (832 : Int32)
  · rw [if_pos h4, h4, show p_Model_which (832 : Int32) = 3 by decide]; exact hc 3 (by omega)
  rw [if_neg h4]
  by_cases h5 : k = (833 : Int32)
  · rw [if_pos h5, h5, show p_Model_which (833 : Int32) = 4 by decide]; exact hc 4 (by omega)
  rw [if_neg h5]
  by_cases h6 : k = (834 : Int32)
  · rw [if_pos h6, h6, show p_Model_which (834 : Int32) = 5 by decide]; exact hc 5 (by omega)
  rw [if_neg h6]
  by_cases h7 : k = (835 : Int32)
  · rw [if_pos h7, h7, show p_Model_which (835 : Int32) = 6 by decide]; exact hc 6 (by omega)
  rw [if_neg h7]
  by_cases h8 : k = (836 : Int32)
  · rw [if_pos h8, h8, show p_Model_which (836 : Int32) = 7 by decide]; rfl
  rw [if_neg h8]
  by_cases h9 : k = (3072 : Int32)
  · rw [if_pos h9, h9, show p_Model_which (3072 : Int32) = 8 by decide]; rfl
  rw [if_neg h9, wh_none h1 h2 h3 h4 h5 h6 h7 h8 h9]
  rfl
theorem rr_control (n : Nat) : ok_control (RR n) := by
  intro c mem cdv cdB cdW dtv dtB dtW bfv bfP bfV evv evD evW evV dvL itv srv rqv rqB sqv sqB otv otC otV bsv krv rgs ctv acv acC acV mv mvL m_lastCycle m_lastAddress m_memory m_kept m_copy m_register m_special m_storeWord m_storeValue m_planCycle m_planWhat m_planValue m_high m_pending m_service m_received m_sending m_out x hR
  refine ⟨?_, hR⟩
  exact cr_eq hR.2.2.2.2.2.2.2.2.2.2.2.2.2.2.2.2.1 hR.2.2.2.2.2.2.2.2.2.2.2.2.2.2.2.1 hR.2.2.2.2.2.2.2.2.1 hR.2.2.1.1 x
/-- bits of a row, as a number -/
def bn (f : Nat → Int32) : Nat → Nat
  | 0 => 0
  | k + 1 => (if f (k + 1) = 0 then 0 else 2 ^ k) + bn f k
theorem bi_L (mv : Nat → Int32) (mvL : Nat → Int64) (pe se : Nat → Int32) (z : Int32) (f : Nat → Int32) (hf : f = if z = (0 : Int32) then pe else se) : ∀ (k m : Nat), k ≤ 7 → p_Model_bits_L mv mvL pe se z (k + 1) (nI m) (nI k) = nI (2 * (m * 2 ^ k + bn f k)) := by
  intro k
  induction k with
  | zero =>
    intro m _
    rw [p_Model_bits_L, if_pos (show nI 0 < (1 : Int32) by decide), show (2 : Int32) = nI 2 from rfl, pk_mul, bn]
    congr 1; omega
  | succ k ih =>
    intro m hk
    have e1 : nI (k + 1) + (-1 : Int32) = nI k := pk_m1 k
    have e2 : (2 : Int32) * nI m + (0 : Int32) = nI (2 * m) := by rw [show (2 : Int32) = nI 2 from rfl, pk_mul, show (0 : Int32) = nI 0 from rfl, nI_add, Nat.add_zero]
    have e3 : (2 : Int32) * nI m + (1 : Int32) = nI (2 * m + 1) := by rw [show (2 : Int32) = nI 2 from rfl, pk_mul, show (1 : Int32) = nI 1 from rfl, nI_add]
    have hp : (2 * m) * 2 ^ k = m * 2 ^ (k + 1) := by rw [Nat.pow_succ]; rw [Nat.mul_comm 2 m, Nat.mul_assoc, Nat.mul_comm 2]
    have hp1 : (2 * m + 1) * 2 ^ k = m * 2 ^ (k + 1) + 2 ^ k := by rw [Nat.add_mul, hp, Nat.one_mul]
    rw [p_Model_bits_L, if_neg (show ¬ nI (k + 1) < (1 : Int32) from nI_nlt (b := 1) (by omega) (by omega)), nI_clamp (by omega), e1, e2, e3, bn]
    have i0 : p_Model_bits_L mv mvL pe se z (k + 1) (nI (2 * m)) (nI k) = nI (2 * (m * 2 ^ (k + 1) + bn f k)) := by rw [ih (2 * m) (by omega), hp]
    have i1 : p_Model_bits_L mv mvL pe se z (k + 1) (nI (2 * m + 1)) (nI k) = nI (2 * (m * 2 ^ (k + 1) + (2 ^ k + bn f k))) := by rw [ih (2 * m + 1) (by omega), hp1, Nat.add_assoc]
    by_cases hz : z = (0 : Int32)
    · rw [if_pos hz] at hf ⊢
      subst hf
      by_cases h0 : f (k + 1) = (0 : Int32)
      · rw [if_pos h0, if_pos h0, Nat.zero_add]; exact i0
      · rw [if_neg h0, if_neg h0]; exact i1
    · rw [if_neg hz] at hf ⊢
      subst hf
      by_cases h0 : f (k + 1) = (0 : Int32)
      · rw [if_pos h0, if_pos h0, Nat.zero_add]; exact i0
      · rw [if_neg h0, if_neg h0]; exact i1
def b7 (b1 b2 b3 b4 b5 b6 b7 : Bool) (i : Nat) : Bool := match i with
  | 1 => b1 | 2 => b2 | 3 => b3 | 4 => b4 | 5 => b5 | 6 => b6 | 7 => b7 | _ => false
def n7 (b1 b2 b3 b4 b5 b6 b7 : Bool) : Nat := b1.toNat * 2 + b2.toNat * 4 + b3.toNat * 8 + b4.toNat * 16 + b5.toNat * 32 + b6.toNat * 64 + b7.toNat * 128
theorem n7_bt : ∀ c1 c2 c3 c4 c5 c6 c7 : Bool, ∀ i, i < 32 → bt (nI (n7 c1 c2 c3 c4 c5 c6 c7)) i = b7 c1 c2 c3 c4 c5 c6 c7 i := by decide +kernel
theorem bn_7 (f : Nat → Int32) : 2 * bn f 7 = n7 (decide (¬ f 1 = 0)) (decide (¬ f 2 = 0)) (decide (¬ f 3 = 0)) (decide (¬ f 4 = 0)) (decide (¬ f 5 = 0)) (decide (¬ f 6 = 0)) (decide (¬ f 7 = 0)) := by
  have e : ∀ (q : Int32) (k : Nat), (if q = 0 then 0 else k) = (decide (¬ q = 0)).toNat * k := by
    intro q k
    by_cases h : q = 0
    · rw [if_pos h, decide_eq_false (fun h2 => h2 h)]; simp
    · rw [if_neg h, decide_eq_true h]; simp
  simp only [bn, n7, e, Nat.zero_add, Nat.reduceAdd, Nat.reducePow, Nat.add_zero]
  omega
theorem bn_eq {x : Int32} {f : Nat → Int32} (h : ∀ i : Nat, i < 32 → bt x i = decide (1 ≤ i ∧ i ≤ 7 ∧ ¬ f i = 0)) : x = nI (2 * bn f 7) := by
  apply b_ext
  intro i hi
  rw [h i hi, bn_7, n7_bt _ _ _ _ _ _ _ i hi]
  by_cases h8 : i < 8
  · rcases (show i = 0 ∨ i = 1 ∨ i = 2 ∨ i = 3 ∨ i = 4 ∨ i = 5 ∨ i = 6 ∨ i = 7 by omega) with rfl | rfl | rfl | rfl | rfl | rfl | rfl | rfl <;> simp [b7]
  · rw [decide_eq_false (by omega)]
    unfold b7
    split <;> first | omega | rfl
theorem bits_eq {itv mv hi pe se : Nat → Int32} (mvL : Nat → Int64) (h : rInt itv mv hi pe se) : p_Model_bits mv mvL pe se (0 : Int32) = itv 4 ∧ p_Model_bits mv mvL pe se (1 : Int32) = itv 5 := by
  obtain ⟨h1, h2, h3, h4, h5, h6, h7⟩ := h
  constructor
  · rw [bn_eq h5]
    have := bi_L mv mvL pe se (0 : Int32) pe (by rw [if_pos rfl]) 7 0 (by omega)
    rw [Nat.zero_mul, Nat.zero_add] at this
    exact this
  · rw [bn_eq h6]
    have := bi_L mv mvL pe se (1 : Int32) se (by rw [if_neg (by decide)]) 7 0 (by omega)
    rw [Nat.zero_mul, Nat.zero_add] at this
    exact this
theorem rr_sources (n : Nat) : ok_sources (RR n) := by
  intro c mem cdv cdB cdW dtv dtB dtW bfv bfP bfV evv evD evW evV dvL itv srv rqv rqB sqv sqB otv otC otV bsv krv rgs ctv acv acC acV mv mvL m_lastCycle m_lastAddress m_memory m_kept m_copy m_register m_special m_storeWord m_storeValue m_planCycle m_planWhat m_planValue m_high m_pending m_service m_received m_sending m_out hR
  refine ⟨?_, hR⟩
  unfold p_Chip_sources p_Model_sources p_Model_sources_1 p_Model_sources_2
  rw [(bits_eq mvL hR.2.2.2.2.2.2.2.2.2.2.2.2.2.2.2.2.1).1, (bits_eq mvL hR.2.2.2.2.2.2.2.2.2.2.2.2.2.2.2.2.1).2]
