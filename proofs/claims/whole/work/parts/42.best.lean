/-! the source that a claim would get: upward here, downward there -/
def ba_up (E : Nat → Bool) (P : Nat → Int) : Nat → Nat → Int → Nat → Nat
  | 0, b, _, _ => b
  | d + 1, b, q, s => if E s = true ∧ q < P s then ba_up E P d s (P s) (s + 1) else ba_up E P d b q (s + 1)
def ba_dn (E : Nat → Bool) (P : Nat → Int) (th : Int) : Nat → Nat → Nat
  | 0, f => f
  | s + 1, f => if E (s + 1) = true ∧ th < P (s + 1) ∧ (f = 0 ∨ P f ≤ P (s + 1)) then ba_dn E P th s (s + 1) else ba_dn E P th s f
def ba_is (E : Nat → Bool) (P : Nat → Int) (th : Int) (lo hi x : Nat) : Prop :=
  (x = 0 ∧ ∀ s, lo ≤ s → s ≤ hi → E s = true → P s ≤ th) ∨ (1 ≤ x ∧ lo ≤ x ∧ x ≤ hi ∧ E x = true ∧ th < P x ∧ ∀ s, lo ≤ s → s ≤ hi → E s = true → P s < P x ∨ (P s = P x ∧ x ≤ s))
theorem ba_up_is (E : Nat → Bool) (P : Nat → Int) (th : Int) : ∀ (d b : Nat) (q : Int) (s : Nat), 1 ≤ s → ba_is E P th 1 (s - 1) b → q = (if b = 0 then th else P b) → ba_is E P th 1 (s - 1 + d) (ba_up E P d b q s) := by
  intro d
  induction d with
  | zero => intro b q s hs h hq; exact h
  | succ d ih =>
    intro b q s hs h hq
    have e : s - 1 + (d + 1) = s + 1 - 1 + d := by omega
    rw [ba_up, e]
    split
    · next hc =>
      refine ih s (P s) (s + 1) (by omega) (Or.inr ⟨by omega, by omega, by omega, hc.1, ?_, ?_⟩) (by rw [if_neg (by omega)])
      · rcases h with ⟨h0, h1⟩ | ⟨h0, h1, h2, h3, h4, h5⟩
        · rw [h0, if_pos rfl] at hq; omega
        · rw [if_neg (by omega)] at hq; omega
      · intro t ht1 ht2 hE
        by_cases hts : t = s
        · exact Or.inr ⟨by rw [hts], by omega⟩
        · left
          rcases h with ⟨h0, h1⟩ | ⟨h0, h1, h2, h3, h4, h5⟩
          · have := h1 t ht1 (by omega) hE
            rw [h0, if_pos rfl] at hq; omega
          · rw [if_neg (by omega)] at hq
            rcases h5 t ht1 (by omega) hE with h6 | h6
            · omega
            · omega
    · next hc =>
      refine ih b q (s + 1) (by omega) ?_ hq
      rcases h with ⟨h0, h1⟩ | ⟨h0, h1, h2, h3, h4, h5⟩
      · refine Or.inl ⟨h0, fun t ht1 ht2 hE => ?_⟩
        by_cases hts : t = s
        · subst hts
          rw [h0, if_pos rfl] at hq
          have : ¬ q < P t := fun h9 => hc ⟨hE, h9⟩
          omega
        · exact h1 t ht1 (by omega) hE
      · refine Or.inr ⟨h0, h1, by omega, h3, h4, fun t ht1 ht2 hE => ?_⟩
        by_cases hts : t = s
        · subst hts
          rw [if_neg (by omega)] at hq
          have h9 : ¬ q < P t := fun h9 => hc ⟨hE, h9⟩
          by_cases h10 : P t = P b
          · exact Or.inr ⟨h10, by omega⟩
          · left; omega
        · exact h5 t ht1 (by omega) hE
theorem ba_dn_is (E : Nat → Bool) (P : Nat → Int) (th : Int) (hi : Nat) : ∀ (s f : Nat), s ≤ hi → ba_is E P th (s + 1) hi f → ba_is E P th 1 hi (ba_dn E P th s f) := by
  intro s
  induction s with
  | zero => intro f _ h; exact h
  | succ s ih =>
    intro f hs h
    rw [ba_dn]
    split
    · next hc =>
      refine ih (s + 1) (by omega) (Or.inr ⟨by omega, by omega, hs, hc.1, hc.2.1, fun t ht1 ht2 hE => ?_⟩)
      by_cases hts : t = s + 1
      · exact Or.inr ⟨by rw [hts], by omega⟩
      · rcases h with ⟨h0, h1⟩ | ⟨h0, h1, h2, h3, h4, h5⟩
        · have := h1 t (by omega) ht2 hE
          left; omega
        · have hf : P f ≤ P (s + 1) := by rcases hc.2.2 with h9 | h9; omega; exact h9
          rcases h5 t (by omega) ht2 hE with h6 | h6
          · left; omega
          · by_cases h10 : P t = P (s + 1)
            · exact Or.inr ⟨h10, by omega⟩
            · left; omega
    · next hc =>
      refine ih f (by omega) ?_
      rcases h with ⟨h0, h1⟩ | ⟨h0, h1, h2, h3, h4, h5⟩
      · refine Or.inl ⟨h0, fun t ht1 ht2 hE => ?_⟩
        by_cases hts : t = s + 1
        · subst hts
          by_cases h9 : th < P (s + 1)
          · exact absurd ⟨hE, h9, Or.inl h0⟩ hc
          · omega
        · exact h1 t (by omega) ht2 hE
      · refine Or.inr ⟨h0, by omega, h2, h3, h4, fun t ht1 ht2 hE => ?_⟩
        by_cases hts : t = s + 1
        · subst hts
          left
          by_cases h9 : th < P (s + 1)
          · by_cases h10 : P f ≤ P (s + 1)
            · exact absurd ⟨hE, h9, Or.inr h10⟩ hc
            · omega
          · omega
        · exact h5 t (by omega) ht2 hE
theorem ba_one {E : Nat → Bool} {P : Nat → Int} {th : Int} {hi x y : Nat} (h : ba_is E P th 1 hi x) (h2 : ba_is E P th 1 hi y) : x = y := by
  rcases h with ⟨h0, h1⟩ | ⟨a0, a1, a2, a3, a4, a5⟩
  · rcases h2 with ⟨b0, b1⟩ | ⟨b0, b1, b2, b3, b4, b5⟩
    · omega
    · have := h1 y b1 b2 b3; omega
  · rcases h2 with ⟨b0, b1⟩ | ⟨b0, b1, b2, b3, b4, b5⟩
    · have := b1 x a1 a2 a3; omega
    · rcases a5 y b1 b2 b3 with h6 | h6
      · rcases b5 x a1 a2 a3 with h7 | h7 <;> omega
      · rcases b5 x a1 a2 a3 with h7 | h7 <;> omega
theorem ba_eq (E : Nat → Bool) (P : Nat → Int) (th : Int) : ba_up E P 7 0 th 1 = ba_dn E P th 7 0 := by
  have h1 := ba_up_is E P th 7 0 th 1 (by omega) (Or.inl ⟨rfl, fun s h1 h2 _ => by omega⟩) rfl
  have h2 := ba_dn_is E P th 7 7 0 (by omega) (Or.inl ⟨rfl, fun s h1 h2 _ => by omega⟩)
  exact ba_one h1 h2
theorem b_1 : ∀ i, i < 32 → bt 1 i = decide (i = 0) := by decide +kernel
/-- one bit -/
theorem bt_1 (x : Int32) {k : Nat} (hk : k < 32) : (x >>> (nI k &&& (31 : Int32))) &&& (1 : Int32) = if bt x k = true then 1 else 0 := by
  apply b_ext
  intro i hi
  rw [b_and, b_sshr k hk x hi, b_1 i hi]
  by_cases h0 : i = 0
  · subst h0
    rw [if_pos (by omega), Nat.add_zero]
    cases hb : bt x k
    · simp [b_0]
    · simp [b_1]
  · rw [decide_eq_false h0, Bool.and_false]
    split
    · rw [b_1 i hi, decide_eq_false h0]
    · rw [b_0]
/-- the priority of a source, as a number -/
def pri (x : Int32) (k : Nat) : Int := ((x >>> (((4 : Int32) * nI k) &&& (31 : Int32))) &&& (7 : Int32)).toInt
def elig (x : Int32) (k : Nat) : Bool := bt x k
theorem fr_L (v : Nat → Int32) : ∀ (d : Nat) (b s : Nat) (q : Int32), s + d = 8 → 1 ≤ s → p_Interrupts_firstRaised_L v (d + 1) (nI b) q (nI s) = nI (ba_up (elig (v 4 &&& v 1)) (pri (v 3)) d b q.toInt s) := by
  intro d
  induction d with
  | zero =>
    intro b s q hsd hs
    have : s = 8 := by omega
    subst this
    rw [p_Interrupts_firstRaised_L, if_pos (show (7 : Int32) < nI 8 by decide)]
    rfl
  | succ d ih =>
    intro b s q hsd hs
    rw [p_Interrupts_firstRaised_L, if_neg (show ¬ (7 : Int32) < nI s from nI_nlt (a := 7) (by omega) (by omega)), ba_up]
    by_cases h0 : (v 4 &&& v 1) = (0 : Int32)
    · rw [if_pos h0]
      have hz : ∀ (d b s : Nat) (q : Int), ba_up (elig (v 4 &&& v 1)) (pri (v 3)) d b q s = b := by
        intro d
        induction d with
        | zero => intros; rfl
        | succ d ih2 =>
          intro b s q
          rw [ba_up, if_neg (fun h => by rw [elig, h0, b_0] at h; exact absurd h.1 (by decide)), ih2]
      rw [if_neg (fun h => by rw [elig, h0, b_0] at h; exact absurd h.1 (by decide)), hz]
    · rw [if_neg h0, bt_1 _ (by omega)]
      have e1 : nI s + (1 : Int32) = nI (s + 1) := nI_1 s
      cases hb : bt (v 4 &&& v 1) s
      · rw [if_pos (by simp), if_neg (fun h => by rw [elig, hb] at h; exact absurd h.1 (by decide)), e1]
        exact ih b (s + 1) q (by omega) (by omega)
      · rw [if_neg (by simp)]
        by_cases h2 : ((v 3) >>> (((4 : Int32) * nI s) &&& (31 : Int32))) &&& (7 : Int32) ≤ q
        · rw [if_pos h2, if_neg (fun h => by have := Int32.le_iff_toInt_le.mp h2; have h3 := h.2; unfold pri at h3; omega), e1]
          exact ih b (s + 1) q (by omega) (by omega)
        · rw [if_neg h2, if_pos ⟨hb, by have := (not_congr Int32.le_iff_toInt_le).mp h2; unfold pri; omega⟩, e1]
          exact ih s (s + 1) _ (by omega) (by omega)
theorem be_L (mv : Nat → Int32) (mvL : Nat → Int64) (pe : Nat → Int32) (E : Nat → Bool) (hE : ∀ k, 1 ≤ k → k ≤ 7 → (E k = true ↔ (¬ pe k = 0 ∧ bt (mv 21) k = true))) : ∀ (s f : Nat), s ≤ 7 → f ≤ 7 → p_Model_best_L mv mvL pe (s + 1) (nI f) (nI s) = nI (ba_dn E (pri (mv 23)) (mv 22).toInt s f) := by
  intro s
  induction s with
  | zero => intro f _ _; rw [p_Model_best_L, if_pos (show nI 0 < (1 : Int32) by decide)]; rfl
  | succ s ih =>
    intro f hs hf
    have e1 : nI (s + 1) + (-1 : Int32) = nI s := pk_m1 s
    rw [p_Model_best_L, if_neg (show ¬ nI (s + 1) < (1 : Int32) from nI_nlt (b := 1) (by omega) (by omega)), ba_dn]
    unfold p_Model_best_1 p_Model_best_5 p_Model_priority
    rw [if_pos rfl, if_pos rfl, if_pos rfl, if_neg (show ¬ (1 : Int32) = (0 : Int32) by decide), nI_clamp (by omega), bt_1 _ (by omega), e1]
    have hq := hE (s + 1) (by omega) (by omega)
    by_cases hp : pe (s + 1) = (0 : Int32)
    · rw [if_pos hp, if_neg (fun h => absurd hp (hq.mp h.1).1)]
      exact ih f (by omega) hf
    · rw [if_neg hp]
      cases hb : bt (mv 21) (s + 1)
      · rw [if_neg (by simp), if_neg (fun h => by have := (hq.mp h.1).2; rw [hb] at this; cases this)]
        exact ih f (by omega) hf
      · rw [if_pos (by simp)]
        have hEt : E (s + 1) = true := hq.mpr ⟨hp, hb⟩
        by_cases h2 : ((mv 23) >>> (((4 : Int32) * nI (s + 1)) &&& (31 : Int32))) &&& (7 : Int32) ≤ mv 22
        · rw [if_pos h2, if_neg (fun h => by have := Int32.le_iff_toInt_le.mp h2; have h3 := h.2.1; unfold pri at h3; omega)]
          exact ih f (by omega) hf
        · have h2' : (mv 22).toInt < pri (mv 23) (s + 1) := by have := (not_congr Int32.le_iff_toInt_le).mp h2; unfold pri; omega
          rw [if_neg h2]
          by_cases h3 : f = 0
          · rw [if_pos (show nI f = (0 : Int32) by rw [h3]; rfl), if_pos ⟨hEt, h2', Or.inl h3⟩]
            exact ih (s + 1) (by omega) hs
          · rw [if_neg (show ¬ nI f = (0 : Int32) from nI_ne0 (by omega) (by omega))]
            by_cases h4 : ((mv 23) >>> (((4 : Int32) * nI (s + 1)) &&& (31 : Int32))) &&& (7 : Int32) < ((mv 23) >>> (((4 : Int32) * nI f) &&& (31 : Int32))) &&& (7 : Int32)
            · rw [if_pos h4, if_neg (fun h => by have := Int32.lt_iff_toInt_lt.mp h4; rcases h.2.2 with h5 | h5; exact h3 h5; unfold pri at h5; omega)]
              exact ih f (by omega) hf
            · rw [if_neg h4, if_pos ⟨hEt, h2', Or.inr (by have := (not_congr Int32.lt_iff_toInt_lt).mp h4; unfold pri; omega)⟩]
              exact ih (s + 1) (by omega) hs
/-- the two answer alike -/
theorem fr_best {itv mv hi pe se : Nat → Int32} (mvL : Nat → Int64) (h : rInt itv mv hi pe se) : p_Interrupts_firstRaised itv = p_Model_best mv mvL pe := by
  obtain ⟨h1, h2, h3, h4, h5, h6, h7⟩ := h
  have e1 := fr_L itv 7 0 1 (itv 2) (by omega) (by omega)
  have e2 := be_L mv mvL pe (elig (itv 4 &&& itv 1)) (fun k k1 k7 => by
    rw [elig, b_and, h5 k (by omega), h1]
    constructor
    · intro hh
      rw [Bool.and_eq_true, decide_eq_true_eq] at hh
      exact ⟨hh.1.2.2, hh.2⟩
    · intro hh
      rw [Bool.and_eq_true, decide_eq_true_eq]
      exact ⟨⟨k1, k7, hh.1⟩, hh.2⟩) 7 0 (by omega) (by omega)
  show p_Interrupts_firstRaised_L itv 8 (nI 0) (itv 2) (nI 1) = p_Model_best_L mv mvL pe 8 (nI 0) (nI 7)
  rw [e1, e2, h2, h3, ba_eq]
