/-! an act, a register, here and there -/
def rActB (o : Nat) (acv acC acV mv lc la : Nat → Int32) : Prop := acv 0 = mv 3 ∧ (∃ a : Nat, a ≤ o ∧ mv 3 = nI a) ∧ ∀ i : Nat, i < 16 → acC i = lc i ∧ acV i = la i
theorem act_C (krv acv acC acV : Nat → Int32) (k : Int32) : (p_Core_act krv acv acC acV k).1 = upd krv 0 k := rfl
theorem act_M (mv : Nat → Int32) (mvL : Nat → Int64) (lc la : Nat → Int32) (k : Int32) : (p_Model_act mv mvL lc la k).1 = upd (upd mv 3 (mv 3 + (1 : Int32))) 5 k := rfl
theorem act_eq {o : Nat} {krv acv acC acV mv lc la : Nat → Int32} {mvL : Nat → Int64} (k k' : Int32) (ho : o < 2 ^ 30) (hA : rActB o acv acC acV mv lc la) (h1 : krv 1 = mv 2) (h0 : krv 0 = mv 5) : rActB (o + 1) (p_Core_act krv acv acC acV k).2.1 (p_Core_act krv acv acC acV k).2.2.1 (p_Core_act krv acv acC acV k).2.2.2 (p_Model_act mv mvL lc la k').1 (p_Model_act mv mvL lc la k').2.1 (p_Model_act mv mvL lc la k').2.2 := by
  obtain ⟨a1, ⟨a, ha, a2⟩, a3⟩ := hA
  have e1 : (acv 0 &&& (15 : Int32)).toNatClampNeg = a % 16 := by rw [a1, a2, show nI a &&& (15 : Int32) = nI (a % 16) from pk_andN (by omega) 4 (by decide +kernel), nI_clamp (by omega)]
  have e2 : ((mv 3) - (mv 3) / (16 : Int32) * (16 : Int32)).toNatClampNeg = a % 16 := by rw [a2, show (16 : Int32) = nI 16 from rfl, pk_rem (by omega) (by omega) (by omega), nI_clamp (by omega)]
  rw [p_Core_act, p_Core_act_1, p_Log_add, p_Model_act, e1, e2]
  refine ⟨?_, ⟨a + 1, by omega, ?_⟩, fun i hi => ?_⟩
  · show upd acv 0 (acv 0 + (1 : Int32)) 0 = upd (upd mv 3 (mv 3 + (1 : Int32))) 5 k' 3
    rw [pk_us, pk_un (by decide), pk_us, a1]
  · show upd (upd mv 3 (mv 3 + (1 : Int32))) 5 k' 3 = nI (a + 1)
    rw [pk_un (by decide), pk_us, a2]; exact nI_1 a
  · show upd acC (a % 16) (krv 1) i = upd lc (a % 16) (mv 2) i ∧ upd acV (a % 16) (krv 0) i = upd la (a % 16) (mv 5) i
    by_cases hia : i = a % 16
    · rw [← hia, pk_us, pk_us, pk_us, pk_us]; exact ⟨h1, h0⟩
    · rw [pk_un hia, pk_un hia, pk_un hia, pk_un hia]; exact a3 i hi
theorem reg_eq {rgs reg : Nat → Int32} (krv : Nat → Int32) {d : Int32} (x : Int32) (hd : vp_in d 32) (h : rReg rgs reg) : rReg (p_Core_setRegister krv rgs d x) (if d ≤ (0 : Int32) then reg else upd reg d.toNatClampNeg x) := by
  obtain ⟨w, hw, rfl⟩ := vp_in_of hd (by omega)
  rw [p_Core_setRegister, nI_clamp (by omega)]
  by_cases h0 : w = 0
  · subst h0
    rw [if_pos (show nI 0 = (0 : Int32) from rfl), if_pos (show nI 0 ≤ (0 : Int32) by decide)]
    exact h
  · rw [if_neg (show ¬ nI w = (0 : Int32) from nI_ne0 (by omega) (by omega)), if_neg (show ¬ nI w ≤ (0 : Int32) from nI_nle (by omega) (by omega))]
    refine ⟨by rw [pk_un (Ne.symm h0)]; exact h.1, fun i hi => ?_⟩
    by_cases hiw : i = w
    · rw [hiw, pk_us, pk_us]
    · rw [pk_un hiw, pk_un hiw]; exact h.2 i hi
/-- the reference's set: a register, then the act -/
theorem set_M (mv : Nat → Int32) (mvL : Nat → Int64) (lc la reg : Nat → Int32) (d x : Int32) : p_Model_set mv mvL lc la reg d x = ((p_Model_act mv mvL lc la (mv 5 + (4 : Int32))).1, (p_Model_act mv mvL lc la (mv 5 + (4 : Int32))).2.1, (p_Model_act mv mvL lc la (mv 5 + (4 : Int32))).2.2, if d ≤ (0 : Int32) then reg else upd reg d.toNatClampNeg x) := by
  rw [p_Model_set, p_Model_set_1, p_Model_set_2]
  by_cases h : d ≤ (0 : Int32)
  · rw [if_pos h, if_pos h]
  · rw [if_neg h, if_neg h]
/-- a store reaches the memory -/
theorem wo_eq {bfv bfP bfV mem mv sw sv mm : Nat → Int32} (hB : rBuf bfv bfP bfV mv sw sv) (hM : rMem mem mm) (h4 : ¬ mv 19 = (0 : Int32)) : ∃ k : Nat, k ≤ 1 ∧ mv 19 = nI (k + 1) ∧ mv 19 - (1 : Int32) = nI k ∧ (p_StoreBuffer_writeOldest bfv bfP bfV mem).1 0 = nI k ∧ (∀ i : Nat, i < 2 → (p_StoreBuffer_writeOldest bfv bfP bfV mem).2.1 i = upd sw 0 (sw 1) i ∧ (p_StoreBuffer_writeOldest bfv bfP bfV mem).2.2.1 i = upd sv 0 (sv 1) i ∧ vp_in (upd sw 0 (sw 1) i) 128) ∧ rMem (p_StoreBuffer_writeOldest bfv bfP bfV mem).2.2.2 (upd mm (sw 0).toNatClampNeg (sv 0)) := by
  obtain ⟨b1, ⟨q, hq, b2⟩, b3, b4⟩ := hB
  have hq0 : q ≠ 0 := fun e => h4 (by rw [b2, e]; rfl)
  have hs : nI q - (1 : Int32) = nI (q - 1) := by rw [show (1 : Int32) = nI 1 from rfl, pk_sub (by omega)]
  have hle : ¬ bfv 0 ≤ (0 : Int32) := by rw [b1, b2]; exact nI_nle (by omega) (by omega)
  have z0 : (0 : Int32).toNatClampNeg = 0 := by decide
  have z1 : (1 : Int32).toNatClampNeg = 1 := by decide
  have e : p_StoreBuffer_writeOldest bfv bfP bfV mem = (upd bfv 0 (nI (q - 1)), upd bfP 0 (bfP 1), upd bfV 0 (bfV 1), upd mem (bfP 0).toNatClampNeg (bfV 0)) := by rw [p_StoreBuffer_writeOldest, if_neg hle, z0, z1, b1, b2, hs]
  rw [e]
  obtain ⟨c1, c2, c3⟩ := b3 0 (by omega)
  obtain ⟨d1, d2, d3⟩ := b3 1 (by omega)
  refine ⟨q - 1, by omega, by rw [b2]; congr 1; omega, by rw [b2, hs], rfl, fun i hi => ?_, fun i hi => ?_⟩
  · show upd bfP 0 (bfP 1) i = upd sw 0 (sw 1) i ∧ upd bfV 0 (bfV 1) i = upd sv 0 (sv 1) i ∧ vp_in (upd sw 0 (sw 1) i) 128
    by_cases hi0 : i = 0
    · rw [hi0, pk_us, pk_us, pk_us, pk_us]; exact ⟨d1, d2, d3⟩
    · rw [pk_un hi0, pk_un hi0, pk_un hi0, pk_un hi0]; exact b3 i hi
  · show upd mem (bfP 0).toNatClampNeg (bfV 0) i = upd mm (sw 0).toNatClampNeg (sv 0) i
    rw [c1, c2]
    by_cases hi2 : i = (sw 0).toNatClampNeg
    · rw [hi2, pk_us, pk_us]
    · rw [pk_un hi2, pk_un hi2]; exact hM i hi
