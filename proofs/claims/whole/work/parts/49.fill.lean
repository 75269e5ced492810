/-! S4, first half: a block comes into a cache -/
/-- the words from place k on, of the lines of the block q, in the half that begins at o -/
def fk (n q o k : Nat) (kept : Nat → Int32) : Nat → Int32 := fun j => if o + k ≤ j ∧ j < o + 128 ∧ (j - o) / 4 % n = q % n then (if (j - o) / 4 = q then 1 else 0) else kept j
def fc (n q o k : Nat) (mem copy : Nat → Int32) : Nat → Int32 := fun j => if o + k ≤ j ∧ j < o + 128 ∧ (j - o) / 4 % n = q % n then mem (j - o) else copy j
theorem fk_in {n q o k : Nat} {kept : Nat → Int32} {v : Int32} (hk : k < 128) (h : k / 4 % n = q % n) (hv : v = if k / 4 = q then 1 else 0) : fk n q o (k + 1) (upd kept (o + k) v) = fk n q o k kept := by
  funext j
  unfold fk
  by_cases hj : j = o + k
  · subst hj
    have e : o + k - o = k := by omega
    rw [if_neg (by omega), if_pos ⟨by omega, by omega, by rw [e]; exact h⟩, pk_us, hv, e]
  · by_cases hc : o + k ≤ j ∧ j < o + 128 ∧ (j - o) / 4 % n = q % n
    · rw [if_pos ⟨by omega, hc.2⟩, if_pos hc]
    · rw [if_neg (fun hh => hc ⟨by omega, hh.2⟩), if_neg hc, pk_un hj]
theorem fk_out {n q o k : Nat} {kept : Nat → Int32} (h : ¬ k / 4 % n = q % n) : fk n q o (k + 1) kept = fk n q o k kept := by
  funext j
  unfold fk
  by_cases hj : j = o + k
  · subst hj
    have e : o + k - o = k := by omega
    rw [if_neg (by omega), if_neg (fun hh => h (by rw [← e]; exact hh.2.2))]
  · by_cases hc : o + k ≤ j ∧ j < o + 128 ∧ (j - o) / 4 % n = q % n
    · rw [if_pos ⟨by omega, hc.2⟩, if_pos hc]
    · rw [if_neg (fun hh => hc ⟨by omega, hh.2⟩), if_neg hc]
theorem fc_in {n q o k : Nat} {mem copy : Nat → Int32} (hk : k < 128) (h : k / 4 % n = q % n) : fc n q o (k + 1) mem (upd copy (o + k) (mem k)) = fc n q o k mem copy := by
  funext j
  unfold fc
  by_cases hj : j = o + k
  · subst hj
    have e : o + k - o = k := by omega
    rw [if_neg (by omega), if_pos ⟨by omega, by omega, by rw [e]; exact h⟩, pk_us, e]
  · by_cases hc : o + k ≤ j ∧ j < o + 128 ∧ (j - o) / 4 % n = q % n
    · rw [if_pos ⟨by omega, hc.2⟩, if_pos hc]
    · rw [if_neg (fun hh => hc ⟨by omega, hh.2⟩), if_neg hc, pk_un hj]
theorem fc_out {n q o k : Nat} {mem copy : Nat → Int32} (h : ¬ k / 4 % n = q % n) : fc n q o (k + 1) mem copy = fc n q o k mem copy := by
  funext j
  unfold fc
  by_cases hj : j = o + k
  · subst hj
    have e : o + k - o = k := by omega
    rw [if_neg (by omega), if_neg (fun hh => h (by rw [← e]; exact hh.2.2))]
  · by_cases hc : o + k ≤ j ∧ j < o + 128 ∧ (j - o) / 4 % n = q % n
    · rw [if_pos ⟨by omega, hc.2⟩, if_pos hc]
    · rw [if_neg (fun hh => hc ⟨by omega, hh.2⟩), if_neg hc]
theorem fi_L {mv : Nat → Int32} {mvL : Nat → Int64} {mem k0 c0 : Nat → Int32} {kd : Int32} {n q o : Nat} (hn : 0 < n) (hn8 : n ≤ 8) (hm : mv 1 = nI n) (hq : q < 32) (ho : o ≤ 128) : ∀ (fu k : Nat) (kept copy : Nat → Int32), k ≤ 128 → 128 < k + fu → p_Model_fill_L mv mvL mem k0 c0 kd (nI q) fu (nI o) (nI k) kept copy = (fk n q o k kept, fc n q o k mem copy) := by
  intro fu
  induction fu with
  | zero => intro k kept copy h1 h2; exact absurd h2 (by omega)
  | succ fu ih =>
    intro k kept copy h1 h2
    rw [p_Model_fill_L]
    by_cases h : (128 : Int32) ≤ nI k
    · have hk := lp_le (c := (128 : Int32)) (n := 128) rfl rfl (by omega) (by omega) h
      rw [if_pos h]
      have e1 : fk n q o k kept = kept := by funext j; unfold fk; rw [if_neg (by omega)]
      have e2 : fc n q o k mem copy = copy := by funext j; unfold fc; rw [if_neg (by omega)]
      rw [e1, e2]
    · have hk := lp_nle (c := (128 : Int32)) (n := 128) rfl rfl (by omega) (by omega) h
      have d4 : nI k / (4 : Int32) = nI (k / 4) := by rw [show (4 : Int32) = nI 4 from rfl, pk_div (by omega) (by omega) (by omega)]
      rw [if_neg h, d4, hm, pk_rem (by omega) hn (by omega), pk_rem (by omega) hn (by omega), nI_add, nI_clamp (by omega), nI_clamp (by omega), show nI k + (1 : Int32) = nI (k + 1) from nI_1 k]
      have hm1 := Nat.mod_lt (k / 4) hn
      have hm2 := Nat.mod_lt q hn
      by_cases ha : k / 4 % n = q % n
      · rw [if_pos (by rw [ha])]
        by_cases hb : k / 4 = q
        · rw [if_pos (by rw [hb]), ← fk_in (kept := kept) (v := 1) hk ha (by rw [if_pos hb]), ← fc_in (mem := mem) (copy := copy) hk ha]
          exact ih (k + 1) _ _ (by omega) (by omega)
        · rw [if_neg (fun e => hb ((nI_eq (by omega) (by omega)).mp e)), ← fk_in (kept := kept) (v := 0) hk ha (by rw [if_neg hb]), ← fc_in (mem := mem) (copy := copy) hk ha]
          exact ih (k + 1) _ _ (by omega) (by omega)
      · rw [if_neg (fun e => ha ((nI_eq (by omega) (by omega)).mp e)), ← fk_out (kept := kept) ha, ← fc_out (mem := mem) (copy := copy) ha]
        exact ih (k + 1) _ _ (by omega) (by omega)
/-- the chip's fill, by numbers -/
theorem cf_eq {v B W mem : Nat → Int32} {n q : Nat} (hl : v 0 = nI n) (hn : 0 < n) (hn8 : n ≤ 8) (hq : q < 32) : p_Cache_fill v B W mem (nI q) = (upd B (q % n) (nI q), va_cpy mem W (4 * q) (q % n * 4) 4) := by
  have h4 : (4 : Int32) * nI q = nI (4 * q) := by rw [show (4 : Int32) = nI 4 from rfl, pk_mul]
  have hm := Nat.mod_lt q hn
  rw [p_Cache_fill, p_Cache_fill_1, p_Cache_place, h4, ix_place hl hn hn8 (j := 4 * q) (by omega) rfl, hl, pk_rem (by omega) hn (by omega), nI_clamp (by omega), nI_clamp (by omega), show (4 : Int32).toNatClampNeg = 4 from rfl]
  have e : 4 * q / 4 % n * 4 + 4 * q % 4 = q % n * 4 := by
    rw [Nat.mul_div_cancel_left q (by omega : 0 < 4)]
    omega
  rw [e, nI_clamp (by omega)]
/-- one word of a cache, alike here and there -/
def rWd (n : Nat) (B W : Nat → Int32) (kp cp : Int32) (p : Nat) : Prop := (kp = 0 ∨ kp = 1) ∧ (¬ kp = 0 ↔ B (p / 4 % n) = nI (p / 4)) ∧ (¬ kp = 0 → cp = W (p / 4 % n * 4 + p % 4))
theorem wd_fill {n q o : Nat} {B W mem mm kept copy : Nat → Int32} (hn : 0 < n) (hn8 : n ≤ 8) (hq : q < 32) (hM : rMem mem mm) (h : ∀ p, p < 128 → rWd n B W (kept (o + p)) (copy (o + p)) p) : ∀ p, p < 128 → rWd n (upd B (q % n) (nI q)) (va_cpy mem W (4 * q) (q % n * 4) 4) (fk n q o 0 kept (o + p)) (fc n q o 0 mm copy (o + p)) p := by
  intro p hp
  have e : o + p - o = p := by omega
  have hm := Nat.mod_lt q hn
  have hm2 := Nat.mod_lt (p / 4) hn
  by_cases hc : p / 4 % n = q % n
  · have e1 : fk n q o 0 kept (o + p) = if p / 4 = q then 1 else 0 := by unfold fk; rw [e, if_pos ⟨by omega, by omega, hc⟩]
    have e2 : fc n q o 0 mm copy (o + p) = mm p := by unfold fc; rw [e, if_pos ⟨by omega, by omega, hc⟩]
    rw [e1, e2]
    unfold rWd
    rw [hc, pk_us]
    by_cases hb : p / 4 = q
    · rw [if_pos hb]
      refine ⟨Or.inr rfl, ⟨fun _ => by rw [hb], fun _ => by decide⟩, fun _ => ?_⟩
      rw [pk_cpy_in (by omega) (by omega), ← hM p hp]
      congr 1
      omega
    · rw [if_neg hb]
      exact ⟨Or.inl rfl, ⟨fun h1 => absurd rfl h1, fun h1 => absurd ((nI_eq (by omega) (by omega)).mp h1).symm hb⟩, fun h1 => absurd rfl h1⟩
  · have e1 : fk n q o 0 kept (o + p) = kept (o + p) := by unfold fk; rw [e, if_neg (fun hh => hc hh.2.2)]
    have e2 : fc n q o 0 mm copy (o + p) = copy (o + p) := by unfold fc; rw [e, if_neg (fun hh => hc hh.2.2)]
    rw [e1, e2]
    obtain ⟨h1, h2, h3⟩ := h p hp
    refine ⟨h1, by rw [pk_un hc]; exact h2, fun hh => ?_⟩
    rw [pk_cpy_out (by omega)]
    exact h3 hh
