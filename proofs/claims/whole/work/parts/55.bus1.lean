/-! S4: the bus begins -/
theorem i10 : ¬ ((1 : Int32) = 0) := by decide
theorem i04 : ¬ ((0 : Int32) = 4) := by decide
theorem i40 : ¬ ((4 : Int32) = 0) := by decide
theorem i43 : ¬ ((4 : Int32) = 3) := by decide
theorem i34 : ¬ ((3 : Int32) = 4) := by decide
theorem i30 : ¬ ((3 : Int32) = 0) := by decide
theorem i13 : ¬ ((1 : Int32) = 3) := by decide
theorem i14 : ¬ ((1 : Int32) = 4) := by decide
theorem i23 : ¬ ((2 : Int32) = 3) := by decide
theorem i24 : ¬ ((2 : Int32) = 4) := by decide
theorem i20 : ¬ ((2 : Int32) = 0) := by decide
theorem i01 : ¬ ((0 : Int32) = 1) := by decide
theorem i02 : ¬ ((0 : Int32) = 2) := by decide
theorem i03 : ¬ ((0 : Int32) = 3) := by decide
theorem i00 : ¬ ((0 : Int32) < 0) := by decide
def bG (mv : Nat → Int32) : Nat → Int32 :=
  if mv 11 = (0 : Int32) then
    if mv 9 = (0 : Int32) then
      if mv 19 = (0 : Int32) then mv else upd (upd (upd (upd mv 14 (1 : Int32)) 11 (4 : Int32)) 12 (mv 10)) 13 (mv 2 + mv 0)
    else if mv 19 = (0 : Int32) ∨ ¬ mv 14 = (0 : Int32) then
      upd (upd (upd (upd (upd mv 14 (0 : Int32)) 11 (mv 9)) 12 (mv 10)) 13 (mv 2 + (if mv 9 = (3 : Int32) then (1 : Int32) else (4 : Int32) * mv 0))) 9 (0 : Int32)
    else upd (upd (upd (upd mv 14 (1 : Int32)) 11 (4 : Int32)) 12 (mv 10)) 13 (mv 2 + mv 0)
  else mv
theorem w3 {x : Int32} (h : ∃ w : Nat, w ≤ 3 ∧ x = nI w) : x = (0 : Int32) ∨ x = (1 : Int32) ∨ x = (2 : Int32) ∨ x = (3 : Int32) := by
  obtain ⟨w, hw, e⟩ := h
  have : w = 0 ∨ w = 1 ∨ w = 2 ∨ w = 3 := by omega
  rcases this with rfl | rfl | rfl | rfl
  · exact Or.inl e
  · exact Or.inr (Or.inl e)
  · exact Or.inr (Or.inr (Or.inl e))
  · exact Or.inr (Or.inr (Or.inr e))
theorem w4 {x : Int32} (h : ∃ w : Nat, w ≤ 4 ∧ x = nI w) : x = (0 : Int32) ∨ x = (1 : Int32) ∨ x = (2 : Int32) ∨ x = (3 : Int32) ∨ x = (4 : Int32) := by
  obtain ⟨w, hw, e⟩ := h
  have : w = 0 ∨ w = 1 ∨ w = 2 ∨ w = 3 ∨ w = 4 := by omega
  rcases this with rfl | rfl | rfl | rfl | rfl
  · exact Or.inl e
  · exact Or.inr (Or.inl e)
  · exact Or.inr (Or.inr (Or.inl e))
  · exact Or.inr (Or.inr (Or.inr (Or.inl e)))
  · exact Or.inr (Or.inr (Or.inr (Or.inr e)))
theorem w2 {x : Int32} (h : ∃ w : Nat, w ≤ 2 ∧ x = nI w) : x = (0 : Int32) ∨ x = (1 : Int32) ∨ x = (2 : Int32) := by
  obtain ⟨w, hw, e⟩ := h
  have : w = 0 ∨ w = 1 ∨ w = 2 := by omega
  rcases this with rfl | rfl | rfl
  · exact Or.inl e
  · exact Or.inr (Or.inl e)
  · exact Or.inr (Or.inr e)
theorem bg_st (bfv bsv : Nat → Int32) (k : Int32) (h5 : ¬ bsv 5 = (0 : Int32)) : p_Bus_begin bfv bsv k = bsv := by
  unfold p_Bus_begin
  by_cases h : bfv 0 ≤ (0 : Int32)
  · rw [if_pos h, if_neg h5]
  · rw [if_neg h, if_neg h5]
def bSt (bsv : Nat → Int32) (k : Int32) : Nat → Int32 := upd (upd (upd bsv 5 (4 : Int32)) 4 (4 : Int32)) 3 (k + bsv 0)
def bCo (bsv : Nat → Int32) (k : Int32) : Nat → Int32 := upd (upd (upd (upd bsv 5 (bsv 1)) 1 (0 : Int32)) 4 (bsv 1)) 3 (k + (if bsv 1 = (3 : Int32) then (1 : Int32) else (4 : Int32) * bsv 0))
theorem du_4 (bsv : Nat → Int32) : p_Bus_duration (upd (upd bsv 5 (4 : Int32)) 4 (4 : Int32)) (4 : Int32) = bsv 0 := by
  unfold p_Bus_duration
  rw [if_neg (by decide), if_pos rfl, pk_un (by decide), pk_un (by decide)]
theorem du_c (bsv : Nat → Int32) (h : ∃ w : Nat, w ≤ 3 ∧ bsv 1 = nI w) : p_Bus_duration (upd (upd (upd bsv 5 (bsv 1)) 1 (0 : Int32)) 4 (bsv 1)) (bsv 1) = if bsv 1 = (3 : Int32) then (1 : Int32) else (4 : Int32) * bsv 0 := by
  unfold p_Bus_duration
  rw [if_neg (c := bsv 1 = (4 : Int32)) (by rcases w3 h with e | e | e | e <;> rw [e] <;> decide), pk_un (by decide), pk_un (by decide), pk_un (by decide)]
theorem bg_0 (bfv bsv : Nat → Int32) (k : Int32) (h5 : bsv 5 = (0 : Int32)) (h1 : bsv 1 = (0 : Int32)) (hf : bfv 0 ≤ (0 : Int32)) : p_Bus_begin bfv bsv k = bsv := by
  unfold p_Bus_begin
  rw [if_pos hf, if_pos h5, if_pos h1, if_pos rfl]
theorem bg_s (bfv bsv : Nat → Int32) (k : Int32) (h5 : bsv 5 = (0 : Int32)) (hf : ¬ bfv 0 ≤ (0 : Int32)) (h : bsv 1 = (0 : Int32) ∨ ¬ (bsv 4 = (4 : Int32) ∨ bsv 4 = (0 : Int32))) : p_Bus_begin bfv bsv k = bSt bsv k := by
  have d := du_4 bsv
  by_cases h1 : bsv 1 = (0 : Int32)
  · by_cases h44 : bsv 4 = (4 : Int32)
    · simp only [p_Bus_begin, p_Bus_begin_1, p_Bus_begin_2, p_Bus_begin_3, p_Bus_begin_4, p_Bus_begin_5, p_Bus_begin_6, p_Bus_begin_7, p_Bus_begin_8, p_Bus_begin_9, p_Bus_begin_10, p_Bus_begin_11, p_Bus_begin_12, p_Bus_begin_13, p_Bus_begin_14, p_Bus_begin_15, p_Bus_begin_16, p_Bus_begin_17, p_Bus_begin_18, p_Bus_begin_19, p_Bus_begin_20, p_Bus_begin_21, hf, h5, h1, h44, d, bSt, ↓reduceIte, i10, i04, i40, i43, i34, i30, i00]
    · by_cases h40 : bsv 4 = (0 : Int32)
      · simp only [p_Bus_begin, p_Bus_begin_1, p_Bus_begin_2, p_Bus_begin_3, p_Bus_begin_4, p_Bus_begin_5, p_Bus_begin_6, p_Bus_begin_7, p_Bus_begin_8, p_Bus_begin_9, p_Bus_begin_10, p_Bus_begin_11, p_Bus_begin_12, p_Bus_begin_13, p_Bus_begin_14, p_Bus_begin_15, p_Bus_begin_16, p_Bus_begin_17, p_Bus_begin_18, p_Bus_begin_19, p_Bus_begin_20, p_Bus_begin_21, hf, h5, h1, h44, h40, d, bSt, ↓reduceIte, i10, i04, i40, i43, i34, i30, i00]
      · simp only [p_Bus_begin, p_Bus_begin_1, p_Bus_begin_2, p_Bus_begin_3, p_Bus_begin_4, p_Bus_begin_5, p_Bus_begin_6, p_Bus_begin_7, p_Bus_begin_8, p_Bus_begin_9, p_Bus_begin_10, p_Bus_begin_11, p_Bus_begin_12, p_Bus_begin_13, p_Bus_begin_14, p_Bus_begin_15, p_Bus_begin_16, p_Bus_begin_17, p_Bus_begin_18, p_Bus_begin_19, p_Bus_begin_20, p_Bus_begin_21, hf, h5, h1, h44, h40, d, bSt, ↓reduceIte, i10, i04, i40, i43, i34, i30, i00]
  · have h44 : ¬ bsv 4 = (4 : Int32) := fun e => (h.resolve_left h1) (Or.inl e)
    have h40 : ¬ bsv 4 = (0 : Int32) := fun e => (h.resolve_left h1) (Or.inr e)
    simp only [p_Bus_begin, p_Bus_begin_1, p_Bus_begin_2, p_Bus_begin_3, p_Bus_begin_4, p_Bus_begin_5, p_Bus_begin_6, p_Bus_begin_7, p_Bus_begin_8, p_Bus_begin_9, p_Bus_begin_10, p_Bus_begin_11, p_Bus_begin_12, p_Bus_begin_13, p_Bus_begin_14, p_Bus_begin_15, p_Bus_begin_16, p_Bus_begin_17, p_Bus_begin_18, p_Bus_begin_19, p_Bus_begin_20, p_Bus_begin_21, hf, h5, h1, h44, h40, d, bSt, ↓reduceIte, i10, i04, i40, i43, i34, i30, i00]
theorem bg_c (bfv bsv : Nat → Int32) (k : Int32) (hw : ∃ w : Nat, w ≤ 3 ∧ bsv 1 = nI w) (h5 : bsv 5 = (0 : Int32)) (h1 : ¬ bsv 1 = (0 : Int32)) (h : bfv 0 ≤ (0 : Int32) ∨ bsv 4 = (4 : Int32) ∨ bsv 4 = (0 : Int32)) : p_Bus_begin bfv bsv k = bCo bsv k := by
  have d := du_c bsv hw
  by_cases hf : bfv 0 ≤ (0 : Int32)
  · by_cases h44 : bsv 4 = (4 : Int32)
    · simp only [p_Bus_begin, p_Bus_begin_1, p_Bus_begin_2, p_Bus_begin_3, p_Bus_begin_4, p_Bus_begin_5, p_Bus_begin_6, p_Bus_begin_7, p_Bus_begin_8, p_Bus_begin_9, p_Bus_begin_10, p_Bus_begin_11, p_Bus_begin_12, p_Bus_begin_13, p_Bus_begin_14, p_Bus_begin_15, p_Bus_begin_16, p_Bus_begin_17, p_Bus_begin_18, p_Bus_begin_19, p_Bus_begin_20, p_Bus_begin_21, hf, h5, h1, h44, d, bCo, ↓reduceIte, i10, i04, i40, i43, i34, i30, i00]
    · by_cases h40 : bsv 4 = (0 : Int32)
      · simp only [p_Bus_begin, p_Bus_begin_1, p_Bus_begin_2, p_Bus_begin_3, p_Bus_begin_4, p_Bus_begin_5, p_Bus_begin_6, p_Bus_begin_7, p_Bus_begin_8, p_Bus_begin_9, p_Bus_begin_10, p_Bus_begin_11, p_Bus_begin_12, p_Bus_begin_13, p_Bus_begin_14, p_Bus_begin_15, p_Bus_begin_16, p_Bus_begin_17, p_Bus_begin_18, p_Bus_begin_19, p_Bus_begin_20, p_Bus_begin_21, hf, h5, h1, h44, h40, d, bCo, ↓reduceIte, i10, i04, i40, i43, i34, i30, i00]
      · simp only [p_Bus_begin, p_Bus_begin_1, p_Bus_begin_2, p_Bus_begin_3, p_Bus_begin_4, p_Bus_begin_5, p_Bus_begin_6, p_Bus_begin_7, p_Bus_begin_8, p_Bus_begin_9, p_Bus_begin_10, p_Bus_begin_11, p_Bus_begin_12, p_Bus_begin_13, p_Bus_begin_14, p_Bus_begin_15, p_Bus_begin_16, p_Bus_begin_17, p_Bus_begin_18, p_Bus_begin_19, p_Bus_begin_20, p_Bus_begin_21, hf, h5, h1, h44, h40, d, bCo, ↓reduceIte, i10, i04, i40, i43, i34, i30, i00]
  · by_cases h44 : bsv 4 = (4 : Int32)
    · simp only [p_Bus_begin, p_Bus_begin_1, p_Bus_begin_2, p_Bus_begin_3, p_Bus_begin_4, p_Bus_begin_5, p_Bus_begin_6, p_Bus_begin_7, p_Bus_begin_8, p_Bus_begin_9, p_Bus_begin_10, p_Bus_begin_11, p_Bus_begin_12, p_Bus_begin_13, p_Bus_begin_14, p_Bus_begin_15, p_Bus_begin_16, p_Bus_begin_17, p_Bus_begin_18, p_Bus_begin_19, p_Bus_begin_20, p_Bus_begin_21, hf, h5, h1, h44, d, bCo, ↓reduceIte, i10, i04, i40, i43, i34, i30, i00]
    · have h40 : bsv 4 = (0 : Int32) := (h.resolve_left hf).resolve_left h44
      simp only [p_Bus_begin, p_Bus_begin_1, p_Bus_begin_2, p_Bus_begin_3, p_Bus_begin_4, p_Bus_begin_5, p_Bus_begin_6, p_Bus_begin_7, p_Bus_begin_8, p_Bus_begin_9, p_Bus_begin_10, p_Bus_begin_11, p_Bus_begin_12, p_Bus_begin_13, p_Bus_begin_14, p_Bus_begin_15, p_Bus_begin_16, p_Bus_begin_17, p_Bus_begin_18, p_Bus_begin_19, p_Bus_begin_20, p_Bus_begin_21, hf, h5, h1, h44, h40, d, bCo, ↓reduceIte, i10, i04, i40, i43, i34, i30, i00]
theorem bg_fr (mv : Nat → Int32) (j : Nat) (h9 : j ≠ 9) (h11 : j ≠ 11) (h12 : j ≠ 12) (h13 : j ≠ 13) (h14 : j ≠ 14) : bG mv j = mv j := by
  unfold bG
  split
  · split
    · split
      · rfl
      · rw [pk_un h13, pk_un h12, pk_un h11, pk_un h14]
    · split
      · rw [pk_un h9, pk_un h13, pk_un h12, pk_un h11, pk_un h14]
      · rw [pk_un h13, pk_un h12, pk_un h11, pk_un h14]
  · rfl
theorem bg_eq {bfv bsv krv mv : Nat → Int32} {k : Int32} (hB : rBus bsv mv) (h0 : bsv 0 = mv 0) (hf : bfv 0 = mv 19) (hk : k = mv 2) (h19 : ∃ q : Nat, q ≤ 2 ∧ mv 19 = nI q) (hW : rWait krv bsv mv) (h4 : mv 11 = (4 : Int32) → ¬ mv 19 = (0 : Int32)) : rBus (p_Bus_begin bfv bsv k) (bG mv) ∧ (p_Bus_begin bfv bsv k) 0 = mv 0 ∧ rWait krv (p_Bus_begin bfv bsv k) (bG mv) ∧ (bG mv 11 = (4 : Int32) → ¬ mv 19 = (0 : Int32)) := by
  subst hk
  obtain ⟨e1, e2, e3, e4, e5, e6, e7, e8, e9, e10, e11⟩ := hB
  obtain ⟨w1, w2', w3'⟩ := hW
  by_cases h11 : mv 11 = (0 : Int32)
  · by_cases h9 : mv 9 = (0 : Int32)
    · by_cases hm : mv 19 = (0 : Int32)
      · rw [bg_0 bfv bsv _ (e2.trans h11) (e1.trans h9) (by rw [hf, hm]; decide), show bG mv = mv from by unfold bG; rw [if_pos h11, if_pos h9, if_pos hm]]
        exact ⟨⟨e1, e2, e3, e4, e5, e6, e7, e8, e9, e10, e11⟩, h0, ⟨w1, w2', w3'⟩, h4⟩
      · have hn : ¬ bfv 0 ≤ (0 : Int32) := by rw [hf]; rcases w2 h19 with e | e | e <;> first | exact absurd e hm | (rw [e]; decide)
        rw [bg_s bfv bsv _ (e2.trans h11) hn (Or.inl (e1.trans h9)), show bG mv = upd (upd (upd (upd mv 14 (1 : Int32)) 11 (4 : Int32)) 12 (mv 10)) 13 (mv 2 + mv 0) from by unfold bG; rw [if_pos h11, if_pos h9, if_neg hm]]
        refine ⟨?_, ?_, ?_, fun _ => hm⟩
        · unfold rBus bSt
          simp [upd, e1, h9, h0, e10]
          exact ⟨⟨0, by omega, rfl⟩, ⟨4, by omega, rfl⟩⟩
        · simp [bSt, upd, h0]
        · unfold rWait bSt
          rw [e1, h9, e2, h11] at w2'
          simp [upd, e1, h9] at w2' ⊢
          simp [w2']
    · have h1' : ¬ bsv 1 = (0 : Int32) := by rw [e1]; exact h9
      have hw : ∃ w : Nat, w ≤ 3 ∧ bsv 1 = nI w := by rw [e1]; exact e3
      by_cases hc : mv 19 = (0 : Int32) ∨ ¬ mv 14 = (0 : Int32)
      · have hn : bfv 0 ≤ (0 : Int32) ∨ bsv 4 = (4 : Int32) ∨ bsv 4 = (0 : Int32) := by
          rcases hc with a | a
          · left; rw [hf, a]; decide
          · exact Or.inr (e9.mp a)
        rw [bg_c bfv bsv _ hw (e2.trans h11) h1' hn, show bG mv = upd (upd (upd (upd (upd mv 14 (0 : Int32)) 11 (mv 9)) 12 (mv 10)) 13 (mv 2 + (if mv 9 = (3 : Int32) then (1 : Int32) else (4 : Int32) * mv 0))) 9 (0 : Int32) from by unfold bG; rw [if_pos h11, if_neg h9, if_pos hc]]
        have n4 : ¬ mv 9 = (4 : Int32) := by rcases w3 e3 with e | e | e | e <;> rw [e] <;> decide
        have m7 : ¬ mv 7 = (0 : Int32) := w2'.mpr (Or.inl h1')
        refine ⟨?_, ?_, ?_, ?_⟩
        · unfold rBus bCo
          simp [upd, e1, h9, h0, e10, n4, e5 h9]
          obtain ⟨w, hw, e⟩ := e3
          exact ⟨⟨0, by omega, rfl⟩, ⟨w, by omega, e⟩⟩
        · simp [bCo, upd, h0]
        · unfold rWait bCo
          simp [upd, e1, h9, n4, m7, w3' m7]
          exact w1.resolve_left m7
        · simp [upd, n4]
      · have hm : ¬ mv 19 = (0 : Int32) := fun e => hc (Or.inl e)
        have h14 : mv 14 = (0 : Int32) := Classical.byContradiction fun e => hc (Or.inr e)
        have hn : ¬ bfv 0 ≤ (0 : Int32) := by rw [hf]; rcases w2 h19 with e | e | e <;> first | exact absurd e hm | (rw [e]; decide)
        have m7 : ¬ mv 7 = (0 : Int32) := w2'.mpr (Or.inl h1')
        rw [bg_s bfv bsv _ (e2.trans h11) hn (Or.inr fun a => e9.mpr a h14), show bG mv = upd (upd (upd (upd mv 14 (1 : Int32)) 11 (4 : Int32)) 12 (mv 10)) 13 (mv 2 + mv 0) from by unfold bG; rw [if_pos h11, if_neg h9, if_neg hc]]
        refine ⟨?_, ?_, ?_, fun _ => hm⟩
        · unfold rBus bSt
          simp [upd, e1, h9, h0, e10, e5 h9]
          exact ⟨e3, ⟨4, by omega, rfl⟩⟩
        · simp [bSt, upd, h0]
        · unfold rWait bSt
          simp [upd, e1, h9, m7, w3' m7]
          exact w1.resolve_left m7
  · rw [bg_st bfv bsv _ (by rw [e2]; exact h11), show bG mv = mv from by unfold bG; rw [if_neg h11]]
    exact ⟨⟨e1, e2, e3, e4, e5, e6, e7, e8, e9, e10, e11⟩, h0, ⟨w1, w2', w3'⟩, h4⟩
