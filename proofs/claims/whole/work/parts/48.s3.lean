/-! S3: the lines, here and there -/
theorem lh_eq {mvL : Nat → Int64} {srv rqv rqB sqv sqB mv hi pe se rc sd : Nat → Int32} (hS : rSer srv mv) (hR : rQ rqv rqB (mv 24) rc) (hQ : rQ sqv sqB (mv 26) sd) : ∃ z : Int32, (z = 0 ∨ z = 1) ∧ p_Serial_isLineHigh srv rqv rqB sqv sqB = z ∧ p_Model_raiseLines mv mvL hi pe se = p_Model_raiseLines_L mv mvL hi pe se 8 (1 : Int32) (upd hi 1 z) pe := by
  obtain ⟨s0, s1, s2, s3, s4, s5, s6, s7, ee, he3, he⟩ := hS
  have hz : mv 24 ≤ (0 : Int32) ↔ mv 24 = (0 : Int32) := by
    obtain ⟨f, k, hf, hk, h0, h1, h2, h3⟩ := hR
    rw [h2]
    constructor
    · intro h
      have := lp_le (c := nI k) (s := (0 : Int32)) (k := 0) (n := k) rfl rfl (by omega) (by omega) h
      have : k = 0 := by omega
      rw [this]; rfl
    · intro h; rw [h]; decide
  have c1 : ((1 : Int32) = (0 : Int32)) = False := eq_false (by decide)
  have c0 : ((0 : Int32) = (0 : Int32)) = True := eq_true rfl
  have cc : (1 : Int32).toNatClampNeg = 1 := by decide
  unfold p_Serial_isLineHigh p_Serial_isLineHigh_1 p_Serial_isLineHigh_2 p_Serial_isLineHigh_3 p_Model_raiseLines
  rw [q_emp hR, q_emp hQ, s2, he, cc]
  rcases (show ee = 0 ∨ ee = 1 ∨ ee = 2 ∨ ee = 3 by omega) with rfl | rfl | rfl | rfl
  · by_cases h1 : mv 24 = (0 : Int32)
    · by_cases h2 : mv 26 = (0 : Int32)
      · exact ⟨0, Or.inl rfl, by simp only [eq_true h1, eq_true h2, (eq_true (by decide) : ((nI 0 &&& (1 : Int32)) = (0 : Int32)) = True), (eq_true (by decide) : ((nI 0 &&& (2 : Int32)) = (0 : Int32)) = True), (eq_false (by decide) : ((nI 0 / (2 : Int32)) = (1 : Int32)) = False), (eq_false (by decide) : ((nI 0 - nI 0 / (2 : Int32) * (2 : Int32)) = (1 : Int32)) = False), c1, c0, if_true, if_false], by simp only [eq_true (hz.mpr h1), eq_true h2, (eq_true (by decide) : ((nI 0 &&& (1 : Int32)) = (0 : Int32)) = True), (eq_true (by decide) : ((nI 0 &&& (2 : Int32)) = (0 : Int32)) = True), (eq_false (by decide) : ((nI 0 / (2 : Int32)) = (1 : Int32)) = False), (eq_false (by decide) : ((nI 0 - nI 0 / (2 : Int32) * (2 : Int32)) = (1 : Int32)) = False), if_true, if_false]⟩
      · exact ⟨0, Or.inl rfl, by simp only [eq_true h1, eq_false h2, (eq_true (by decide) : ((nI 0 &&& (1 : Int32)) = (0 : Int32)) = True), (eq_true (by decide) : ((nI 0 &&& (2 : Int32)) = (0 : Int32)) = True), (eq_false (by decide) : ((nI 0 / (2 : Int32)) = (1 : Int32)) = False), (eq_false (by decide) : ((nI 0 - nI 0 / (2 : Int32) * (2 : Int32)) = (1 : Int32)) = False), c1, c0, if_true, if_false], by simp only [eq_true (hz.mpr h1), eq_false h2, (eq_true (by decide) : ((nI 0 &&& (1 : Int32)) = (0 : Int32)) = True), (eq_true (by decide) : ((nI 0 &&& (2 : Int32)) = (0 : Int32)) = True), (eq_false (by decide) : ((nI 0 / (2 : Int32)) = (1 : Int32)) = False), (eq_false (by decide) : ((nI 0 - nI 0 / (2 : Int32) * (2 : Int32)) = (1 : Int32)) = False), if_true, if_false]⟩
    · by_cases h2 : mv 26 = (0 : Int32)
      · exact ⟨0, Or.inl rfl, by simp only [eq_false h1, eq_true h2, (eq_true (by decide) : ((nI 0 &&& (1 : Int32)) = (0 : Int32)) = True), (eq_true (by decide) : ((nI 0 &&& (2 : Int32)) = (0 : Int32)) = True), (eq_false (by decide) : ((nI 0 / (2 : Int32)) = (1 : Int32)) = False), (eq_false (by decide) : ((nI 0 - nI 0 / (2 : Int32) * (2 : Int32)) = (1 : Int32)) = False), c1, c0, if_true, if_false], by simp only [eq_false (fun h => h1 (hz.mp h)), eq_true h2, (eq_true (by decide) : ((nI 0 &&& (1 : Int32)) = (0 : Int32)) = True), (eq_true (by decide) : ((nI 0 &&& (2 : Int32)) = (0 : Int32)) = True), (eq_false (by decide) : ((nI 0 / (2 : Int32)) = (1 : Int32)) = False), (eq_false (by decide) : ((nI 0 - nI 0 / (2 : Int32) * (2 : Int32)) = (1 : Int32)) = False), if_true, if_false]⟩
      · exact ⟨0, Or.inl rfl, by simp only [eq_false h1, eq_false h2, (eq_true (by decide) : ((nI 0 &&& (1 : Int32)) = (0 : Int32)) = True), (eq_true (by decide) : ((nI 0 &&& (2 : Int32)) = (0 : Int32)) = True), (eq_false (by decide) : ((nI 0 / (2 : Int32)) = (1 : Int32)) = False), (eq_false (by decide) : ((nI 0 - nI 0 / (2 : Int32) * (2 : Int32)) = (1 : Int32)) = False), c1, c0, if_true, if_false], by simp only [eq_false (fun h => h1 (hz.mp h)), eq_false h2, (eq_true (by decide) : ((nI 0 &&& (1 : Int32)) = (0 : Int32)) = True), (eq_true (by decide) : ((nI 0 &&& (2 : Int32)) = (0 : Int32)) = True), (eq_false (by decide) : ((nI 0 / (2 : Int32)) = (1 : Int32)) = False), (eq_false (by decide) : ((nI 0 - nI 0 / (2 : Int32) * (2 : Int32)) = (1 : Int32)) = False), if_true, if_false]⟩
  · by_cases h1 : mv 24 = (0 : Int32)
    · by_cases h2 : mv 26 = (0 : Int32)
      · exact ⟨0, Or.inl rfl, by simp only [eq_true h1, eq_true h2, (eq_false (by decide) : ((nI 1 &&& (1 : Int32)) = (0 : Int32)) = False), (eq_true (by decide) : ((nI 1 &&& (2 : Int32)) = (0 : Int32)) = True), (eq_false (by decide) : ((nI 1 / (2 : Int32)) = (1 : Int32)) = False), (eq_true (by decide) : ((nI 1 - nI 1 / (2 : Int32) * (2 : Int32)) = (1 : Int32)) = True), c1, c0, if_true, if_false], by simp only [eq_true (hz.mpr h1), eq_true h2, (eq_false (by decide) : ((nI 1 &&& (1 : Int32)) = (0 : Int32)) = False), (eq_true (by decide) : ((nI 1 &&& (2 : Int32)) = (0 : Int32)) = True), (eq_false (by decide) : ((nI 1 / (2 : Int32)) = (1 : Int32)) = False), (eq_true (by decide) : ((nI 1 - nI 1 / (2 : Int32) * (2 : Int32)) = (1 : Int32)) = True), if_true, if_false]⟩
      · exact ⟨0, Or.inl rfl, by simp only [eq_true h1, eq_false h2, (eq_false (by decide) : ((nI 1 &&& (1 : Int32)) = (0 : Int32)) = False), (eq_true (by decide) : ((nI 1 &&& (2 : Int32)) = (0 : Int32)) = True), (eq_false (by decide) : ((nI 1 / (2 : Int32)) = (1 : Int32)) = False), (eq_true (by decide) : ((nI 1 - nI 1 / (2 : Int32) * (2 : Int32)) = (1 : Int32)) = True), c1, c0, if_true, if_false], by simp only [eq_true (hz.mpr h1), eq_false h2, (eq_false (by decide) : ((nI 1 &&& (1 : Int32)) = (0 : Int32)) = False), (eq_true (by decide) : ((nI 1 &&& (2 : Int32)) = (0 : Int32)) = True), (eq_false (by decide) : ((nI 1 / (2 : Int32)) = (1 : Int32)) = False), (eq_true (by decide) : ((nI 1 - nI 1 / (2 : Int32) * (2 : Int32)) = (1 : Int32)) = True), if_true, if_false]⟩
    · by_cases h2 : mv 26 = (0 : Int32)
      · exact ⟨1, Or.inr rfl, by simp only [eq_false h1, eq_true h2, (eq_false (by decide) : ((nI 1 &&& (1 : Int32)) = (0 : Int32)) = False), (eq_true (by decide) : ((nI 1 &&& (2 : Int32)) = (0 : Int32)) = True), (eq_false (by decide) : ((nI 1 / (2 : Int32)) = (1 : Int32)) = False), (eq_true (by decide) : ((nI 1 - nI 1 / (2 : Int32) * (2 : Int32)) = (1 : Int32)) = True), c1, c0, if_true, if_false], by simp only [eq_false (fun h => h1 (hz.mp h)), eq_true h2, (eq_false (by decide) : ((nI 1 &&& (1 : Int32)) = (0 : Int32)) = False), (eq_true (by decide) : ((nI 1 &&& (2 : Int32)) = (0 : Int32)) = True), (eq_false (by decide) : ((nI 1 / (2 : Int32)) = (1 : Int32)) = False), (eq_true (by decide) : ((nI 1 - nI 1 / (2 : Int32) * (2 : Int32)) = (1 : Int32)) = True), if_true, if_false]⟩
      · exact ⟨1, Or.inr rfl, by simp only [eq_false h1, eq_false h2, (eq_false (by decide) : ((nI 1 &&& (1 : Int32)) = (0 : Int32)) = False), (eq_true (by decide) : ((nI 1 &&& (2 : Int32)) = (0 : Int32)) = True), (eq_false (by decide) : ((nI 1 / (2 : Int32)) = (1 : Int32)) = False), (eq_true (by decide) : ((nI 1 - nI 1 / (2 : Int32) * (2 : Int32)) = (1 : Int32)) = True), c1, c0, if_true, if_false], by simp only [eq_false (fun h => h1 (hz.mp h)), eq_false h2, (eq_false (by decide) : ((nI 1 &&& (1 : Int32)) = (0 : Int32)) = False), (eq_true (by decide) : ((nI 1 &&& (2 : Int32)) = (0 : Int32)) = True), (eq_false (by decide) : ((nI 1 / (2 : Int32)) = (1 : Int32)) = False), (eq_true (by decide) : ((nI 1 - nI 1 / (2 : Int32) * (2 : Int32)) = (1 : Int32)) = True), if_true, if_false]⟩
  · by_cases h1 : mv 24 = (0 : Int32)
    · by_cases h2 : mv 26 = (0 : Int32)
      · exact ⟨1, Or.inr rfl, by simp only [eq_true h1, eq_true h2, (eq_true (by decide) : ((nI 2 &&& (1 : Int32)) = (0 : Int32)) = True), (eq_false (by decide) : ((nI 2 &&& (2 : Int32)) = (0 : Int32)) = False), (eq_true (by decide) : ((nI 2 / (2 : Int32)) = (1 : Int32)) = True), (eq_false (by decide) : ((nI 2 - nI 2 / (2 : Int32) * (2 : Int32)) = (1 : Int32)) = False), c1, c0, if_true, if_false], by simp only [eq_true (hz.mpr h1), eq_true h2, (eq_true (by decide) : ((nI 2 &&& (1 : Int32)) = (0 : Int32)) = True), (eq_false (by decide) : ((nI 2 &&& (2 : Int32)) = (0 : Int32)) = False), (eq_true (by decide) : ((nI 2 / (2 : Int32)) = (1 : Int32)) = True), (eq_false (by decide) : ((nI 2 - nI 2 / (2 : Int32) * (2 : Int32)) = (1 : Int32)) = False), if_true, if_false]⟩
      · exact ⟨0, Or.inl rfl, by simp only [eq_true h1, eq_false h2, (eq_true (by decide) : ((nI 2 &&& (1 : Int32)) = (0 : Int32)) = True), (eq_false (by decide) : ((nI 2 &&& (2 : Int32)) = (0 : Int32)) = False), (eq_true (by decide) : ((nI 2 / (2 : Int32)) = (1 : Int32)) = True), (eq_false (by decide) : ((nI 2 - nI 2 / (2 : Int32) * (2 : Int32)) = (1 : Int32)) = False), c1, c0, if_true, if_false], by simp only [eq_true (hz.mpr h1), eq_false h2, (eq_true (by decide) : ((nI 2 &&& (1 : Int32)) = (0 : Int32)) = True), (eq_false (by decide) : ((nI 2 &&& (2 : Int32)) = (0 : Int32)) = False), (eq_true (by decide) : ((nI 2 / (2 : Int32)) = (1 : Int32)) = True), (eq_false (by decide) : ((nI 2 - nI 2 / (2 : Int32) * (2 : Int32)) = (1 : Int32)) = False), if_true, if_false]⟩
    · by_cases h2 : mv 26 = (0 : Int32)
      · exact ⟨1, Or.inr rfl, by simp only [eq_false h1, eq_true h2, (eq_true (by decide) : ((nI 2 &&& (1 : Int32)) = (0 : Int32)) = True), (eq_false (by decide) : ((nI 2 &&& (2 : Int32)) = (0 : Int32)) = False), (eq_true (by decide) : ((nI 2 / (2 : Int32)) = (1 : Int32)) = True), (eq_false (by decide) : ((nI 2 - nI 2 / (2 : Int32) * (2 : Int32)) = (1 : Int32)) = False), c1, c0, if_true, if_false], by simp only [eq_false (fun h => h1 (hz.mp h)), eq_true h2, (eq_true (by decide) : ((nI 2 &&& (1 : Int32)) = (0 : Int32)) = True), (eq_false (by decide) : ((nI 2 &&& (2 : Int32)) = (0 : Int32)) = False), (eq_true (by decide) : ((nI 2 / (2 : Int32)) = (1 : Int32)) = True), (eq_false (by decide) : ((nI 2 - nI 2 / (2 : Int32) * (2 : Int32)) = (1 : Int32)) = False), if_true, if_false]⟩
      · exact ⟨0, Or.inl rfl, by simp only [eq_false h1, eq_false h2, (eq_true (by decide) : ((nI 2 &&& (1 : Int32)) = (0 : Int32)) = True), (eq_false (by decide) : ((nI 2 &&& (2 : Int32)) = (0 : Int32)) = False), (eq_true (by decide) : ((nI 2 / (2 : Int32)) = (1 : Int32)) = True), (eq_false (by decide) : ((nI 2 - nI 2 / (2 : Int32) * (2 : Int32)) = (1 : Int32)) = False), c1, c0, if_true, if_false], by simp only [eq_false (fun h => h1 (hz.mp h)), eq_false h2, (eq_true (by decide) : ((nI 2 &&& (1 : Int32)) = (0 : Int32)) = True), (eq_false (by decide) : ((nI 2 &&& (2 : Int32)) = (0 : Int32)) = False), (eq_true (by decide) : ((nI 2 / (2 : Int32)) = (1 : Int32)) = True), (eq_false (by decide) : ((nI 2 - nI 2 / (2 : Int32) * (2 : Int32)) = (1 : Int32)) = False), if_true, if_false]⟩
  · by_cases h1 : mv 24 = (0 : Int32)
    · by_cases h2 : mv 26 = (0 : Int32)
      · exact ⟨1, Or.inr rfl, by simp only [eq_true h1, eq_true h2, (eq_false (by decide) : ((nI 3 &&& (1 : Int32)) = (0 : Int32)) = False), (eq_false (by decide) : ((nI 3 &&& (2 : Int32)) = (0 : Int32)) = False), (eq_true (by decide) : ((nI 3 / (2 : Int32)) = (1 : Int32)) = True), (eq_true (by decide) : ((nI 3 - nI 3 / (2 : Int32) * (2 : Int32)) = (1 : Int32)) = True), c1, c0, if_true, if_false], by simp only [eq_true (hz.mpr h1), eq_true h2, (eq_false (by decide) : ((nI 3 &&& (1 : Int32)) = (0 : Int32)) = False), (eq_false (by decide) : ((nI 3 &&& (2 : Int32)) = (0 : Int32)) = False), (eq_true (by decide) : ((nI 3 / (2 : Int32)) = (1 : Int32)) = True), (eq_true (by decide) : ((nI 3 - nI 3 / (2 : Int32) * (2 : Int32)) = (1 : Int32)) = True), if_true, if_false]⟩
      · exact ⟨0, Or.inl rfl, by simp only [eq_true h1, eq_false h2, (eq_false (by decide) : ((nI 3 &&& (1 : Int32)) = (0 : Int32)) = False), (eq_false (by decide) : ((nI 3 &&& (2 : Int32)) = (0 : Int32)) = False), (eq_true (by decide) : ((nI 3 / (2 : Int32)) = (1 : Int32)) = True), (eq_true (by decide) : ((nI 3 - nI 3 / (2 : Int32) * (2 : Int32)) = (1 : Int32)) = True), c1, c0, if_true, if_false], by simp only [eq_true (hz.mpr h1), eq_false h2, (eq_false (by decide) : ((nI 3 &&& (1 : Int32)) = (0 : Int32)) = False), (eq_false (by decide) : ((nI 3 &&& (2 : Int32)) = (0 : Int32)) = False), (eq_true (by decide) : ((nI 3 / (2 : Int32)) = (1 : Int32)) = True), (eq_true (by decide) : ((nI 3 - nI 3 / (2 : Int32) * (2 : Int32)) = (1 : Int32)) = True), if_true, if_false]⟩
    · by_cases h2 : mv 26 = (0 : Int32)
      · exact ⟨1, Or.inr rfl, by simp only [eq_false h1, eq_true h2, (eq_false (by decide) : ((nI 3 &&& (1 : Int32)) = (0 : Int32)) = False), (eq_false (by decide) : ((nI 3 &&& (2 : Int32)) = (0 : Int32)) = False), (eq_true (by decide) : ((nI 3 / (2 : Int32)) = (1 : Int32)) = True), (eq_true (by decide) : ((nI 3 - nI 3 / (2 : Int32) * (2 : Int32)) = (1 : Int32)) = True), c1, c0, if_true, if_false], by simp only [eq_false (fun h => h1 (hz.mp h)), eq_true h2, (eq_false (by decide) : ((nI 3 &&& (1 : Int32)) = (0 : Int32)) = False), (eq_false (by decide) : ((nI 3 &&& (2 : Int32)) = (0 : Int32)) = False), (eq_true (by decide) : ((nI 3 / (2 : Int32)) = (1 : Int32)) = True), (eq_true (by decide) : ((nI 3 - nI 3 / (2 : Int32) * (2 : Int32)) = (1 : Int32)) = True), if_true, if_false]⟩
      · exact ⟨1, Or.inr rfl, by simp only [eq_false h1, eq_false h2, (eq_false (by decide) : ((nI 3 &&& (1 : Int32)) = (0 : Int32)) = False), (eq_false (by decide) : ((nI 3 &&& (2 : Int32)) = (0 : Int32)) = False), (eq_true (by decide) : ((nI 3 / (2 : Int32)) = (1 : Int32)) = True), (eq_true (by decide) : ((nI 3 - nI 3 / (2 : Int32) * (2 : Int32)) = (1 : Int32)) = True), c1, c0, if_true, if_false], by simp only [eq_false (fun h => h1 (hz.mp h)), eq_false h2, (eq_false (by decide) : ((nI 3 &&& (1 : Int32)) = (0 : Int32)) = False), (eq_false (by decide) : ((nI 3 &&& (2 : Int32)) = (0 : Int32)) = False), (eq_true (by decide) : ((nI 3 / (2 : Int32)) = (1 : Int32)) = True), (eq_true (by decide) : ((nI 3 - nI 3 / (2 : Int32) * (2 : Int32)) = (1 : Int32)) = True), if_true, if_false]⟩
/-- what the lines raise, from source k on -/
def rl (k : Nat) (hi se pe : Nat → Int32) : Nat → Int32 := fun i => if k ≤ i ∧ i ≤ 7 ∧ ¬ hi i = 0 ∧ se i = 0 then 1 else pe i
theorem rl_L {mv : Nat → Int32} {mvL : Nat → Int64} {h0 p0 se hi : Nat → Int32} : ∀ (fu k : Nat) (pe : Nat → Int32), k ≤ 8 → 8 < k + fu → p_Model_raiseLines_L mv mvL h0 p0 se fu (nI k) hi pe = (hi, rl k hi se pe) := by
  intro fu
  induction fu with
  | zero => intro k pe h1 h2; exact absurd h2 (by omega)
  | succ fu ih =>
    intro k pe h1 h2
    rw [p_Model_raiseLines_L]
    by_cases h : (7 : Int32) < nI k
    · have hk := lp_lt (c := (7 : Int32)) (n := 7) rfl rfl (by omega) (by omega) h
      rw [if_pos h]
      have e : rl k hi se pe = pe := by
        funext i
        unfold rl
        rw [if_neg (by omega)]
      rw [e]
    · have hk := lp_nlt (c := (7 : Int32)) (n := 7) rfl rfl (by omega) (by omega) h
      rw [if_neg h, nI_clamp (by omega), show nI k + (1 : Int32) = nI (k + 1) from nI_1 k]
      by_cases ha : hi k = (0 : Int32)
      · rw [if_pos ha]
        have e : rl k hi se pe = rl (k + 1) hi se pe := by
          funext i
          unfold rl
          by_cases hik : i = k
          · subst hik
            rw [if_neg (fun hh => hh.2.2.1 ha), if_neg (by omega)]
          · by_cases hc : k ≤ i ∧ i ≤ 7 ∧ ¬ hi i = 0 ∧ se i = 0
            · rw [if_pos hc, if_pos ⟨by omega, hc.2⟩]
            · rw [if_neg hc, if_neg (fun hh => hc ⟨by omega, hh.2⟩)]
        rw [e]
        exact ih (k + 1) pe (by omega) (by omega)
      · rw [if_neg ha]
        by_cases hb : se k = (0 : Int32)
        · rw [if_pos hb]
          have e : rl k hi se pe = rl (k + 1) hi se (upd pe k 1) := by
            funext i
            unfold rl
            by_cases hik : i = k
            · subst hik
              rw [if_pos ⟨by omega, by omega, ha, hb⟩, if_neg (by omega), pk_us]
            · by_cases hc : k ≤ i ∧ i ≤ 7 ∧ ¬ hi i = 0 ∧ se i = 0
              · rw [if_pos hc, if_pos ⟨by omega, hc.2⟩]
              · rw [if_neg hc, if_neg (fun hh => hc ⟨by omega, hh.2⟩), pk_un hik]
          rw [e]
          exact ih (k + 1) _ (by omega) (by omega)
        · rw [if_neg hb]
          have e : rl k hi se pe = rl (k + 1) hi se pe := by
            funext i
            unfold rl
            by_cases hik : i = k
            · subst hik
              rw [if_neg (fun hh => hb hh.2.2.2), if_neg (by omega)]
            · by_cases hc : k ≤ i ∧ i ≤ 7 ∧ ¬ hi i = 0 ∧ se i = 0
              · rw [if_pos hc, if_pos ⟨by omega, hc.2⟩]
              · rw [if_neg hc, if_neg (fun hh => hc ⟨by omega, hh.2⟩)]
          rw [e]
          exact ih (k + 1) pe (by omega) (by omega)
theorem b_2 : ∀ i, i < 32 → bt 2 i = decide (i = 1) := by decide +kernel
theorem ga_eq (itv : Nat → Int32) {z : Int32} (hz : z = 0 ∨ z = 1) : p_Interrupts_gather itv z = upd itv 4 (itv 4 ||| ((itv 0 ||| (if z = 0 then (0 : Int32) else 2)) &&& (itv 5 ^^^ (-1 : Int32)))) := by
  unfold p_Interrupts_gather
  by_cases h : z = (0 : Int32)
  · rw [if_pos h, if_pos h]
  · rw [if_neg h, if_neg h]
theorem ra_S3 {mvL : Nat → Int64} {itv srv rqv rqB sqv sqB mv hi pe se rc sd : Nat → Int32} (hI : rInt itv mv hi pe se) (hS : rSer srv mv) (hR : rQ rqv rqB (mv 24) rc) (hQ : rQ sqv sqB (mv 26) sd) : rInt (p_Interrupts_gather itv (p_Serial_isLineHigh srv rqv rqB sqv sqB)) mv (p_Model_raiseLines mv mvL hi pe se).1 (p_Model_raiseLines mv mvL hi pe se).2 se := by
  obtain ⟨z, hz, e1, e2⟩ := lh_eq (mvL := mvL) (hi := hi) (pe := pe) (se := se) hS hR hQ
  have e3 : p_Model_raiseLines mv mvL hi pe se = (upd hi 1 z, rl 1 (upd hi 1 z) se pe) := by rw [e2]; exact rl_L 8 1 pe (by omega) (by omega)
  rw [e1, e3, ga_eq itv hz]
  obtain ⟨i1, i2, i3, i4, i5, i6, i7⟩ := hI
  refine ⟨i1, i2, i3, fun i hi32 => ?_, fun i hi32 => ?_, i6, fun i hi8 => ⟨?_, ?_, (i7 i hi8).2.2⟩⟩
  · show bt (itv 0) i = decide (2 ≤ i ∧ i ≤ 7 ∧ ¬ upd hi 1 z i = 0)
    rw [i4 i hi32]
    by_cases h1 : i = 1
    · rw [decide_eq_false (by omega), decide_eq_false (by omega)]
    · rw [pk_un h1]
  · show bt (itv 4 ||| ((itv 0 ||| (if z = 0 then (0 : Int32) else 2)) &&& (itv 5 ^^^ (-1 : Int32)))) i = decide (1 ≤ i ∧ i ≤ 7 ∧ ¬ rl 1 (upd hi 1 z) se pe i = 0)
    rw [b_or, b_and, b_or, b_xor, i4 i hi32, i5 i hi32, i6 i hi32, b_m1 i hi32]
    by_cases hr : 1 ≤ i ∧ i ≤ 7
    · have hzb : bt (if z = 0 then (0 : Int32) else 2) i = decide (i = 1 ∧ ¬ z = 0) := by
        by_cases hz0 : z = 0
        · rw [if_pos hz0, b_0, decide_eq_false (fun h => h.2 hz0)]
        · rw [if_neg hz0, b_2 i hi32]
          by_cases h1 : i = 1
          · rw [decide_eq_true h1, decide_eq_true ⟨h1, hz0⟩]
          · rw [decide_eq_false h1, decide_eq_false (fun h => h1 h.1)]
      rw [hzb]
      have hline : (decide (2 ≤ i ∧ i ≤ 7 ∧ ¬ hi i = 0) || decide (i = 1 ∧ ¬ z = 0)) = decide (¬ upd hi 1 z i = 0) := by
        by_cases h1 : i = 1
        · subst h1
          rw [pk_us, decide_eq_false (by omega), Bool.false_or]
          by_cases hz0 : z = 0
          · rw [decide_eq_false (fun h => h.2 hz0), decide_eq_false (fun h => h hz0)]
          · rw [decide_eq_true ⟨rfl, hz0⟩, decide_eq_true hz0]
        · rw [pk_un h1, decide_eq_false (fun h : i = 1 ∧ ¬ z = 0 => h1 h.1), Bool.or_false]
          by_cases hh : hi i = 0
          · rw [decide_eq_false (fun h => h.2.2 hh), decide_eq_false (fun h => h hh)]
          · rw [decide_eq_true ⟨by omega, hr.2, hh⟩, decide_eq_true hh]
      rw [hline]
      unfold rl
      by_cases hp : pe i = 0
      · rw [decide_eq_false (fun h : 1 ≤ i ∧ i ≤ 7 ∧ ¬ pe i = 0 => h.2.2 hp), Bool.false_or]
        by_cases hl : upd hi 1 z i = 0
        · rw [decide_eq_false (fun h => h hl), Bool.false_and, if_neg (fun h => h.2.2.1 hl), decide_eq_false (fun h => h.2.2 hp)]
        · rw [decide_eq_true hl, Bool.true_and]
          by_cases hs : se i = 0
          · rw [decide_eq_false (fun h : 1 ≤ i ∧ i ≤ 7 ∧ ¬ se i = 0 => h.2.2 hs), if_pos ⟨hr.1, hr.2, hl, hs⟩, decide_eq_true ⟨hr.1, hr.2, by decide⟩]; rfl
          · rw [decide_eq_true (⟨hr.1, hr.2, hs⟩ : 1 ≤ i ∧ i ≤ 7 ∧ ¬ se i = 0), if_neg (fun h => hs h.2.2.2), decide_eq_false (fun h => h.2.2 hp)]; rfl
      · rw [decide_eq_true (⟨hr.1, hr.2, hp⟩ : 1 ≤ i ∧ i ≤ 7 ∧ ¬ pe i = 0), Bool.true_or]
        split
        · rw [decide_eq_true ⟨hr.1, hr.2, by decide⟩]
        · rw [decide_eq_true ⟨hr.1, hr.2, hp⟩]
    · have hzb : bt (if z = 0 then (0 : Int32) else 2) i = false := by
        split
        · exact b_0 i
        · rw [b_2 i hi32, decide_eq_false (by omega)]
      rw [hzb, decide_eq_false (by omega), decide_eq_false (by omega), decide_eq_false (fun h : 1 ≤ i ∧ i ≤ 7 ∧ ¬ rl 1 (upd hi 1 z) se pe i = 0 => hr ⟨h.1, h.2.1⟩)]
      rfl
  · show upd hi 1 z i = 0 ∨ upd hi 1 z i = 1
    by_cases h1 : i = 1
    · rw [h1, pk_us]; exact hz
    · rw [pk_un h1]; exact (i7 i hi8).1
  · show rl 1 (upd hi 1 z) se pe i = 0 ∨ rl 1 (upd hi 1 z) se pe i = 1
    unfold rl
    split
    · exact Or.inr rfl
    · exact (i7 i hi8).2.1
