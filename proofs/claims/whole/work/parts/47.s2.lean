/-! S2: the sender, here and there -/
theorem q_emp {v B q : Nat → Int32} {cnt : Int32} (h : rQ v B cnt q) : p_ByteQueue_isEmpty v = if cnt = (0 : Int32) then 1 else 0 := by
  obtain ⟨f, k, hf, hk, h0, h1, h2, h3⟩ := h
  rw [p_ByteQueue_isEmpty, h1, h2]
theorem q_take {v B q : Nat → Int32} {cnt : Int32} (h : rQ v B cnt q) (hn : ¬ cnt = (0 : Int32)) : (p_ByteQueue_take v B).1 = q 0 ∧ ∃ d : Nat, d ≤ 7 ∧ cnt = nI (d + 1) ∧ cnt - (1 : Int32) = nI d ∧ ∀ q' : Nat → Int32, (∀ i, i < d → q' i = q (i + 1)) → rQ (p_ByteQueue_take v B).2 B (cnt - (1 : Int32)) q' := by
  have hem := q_emp h
  obtain ⟨f, k, hf, hk, h0, h1, h2, h3⟩ := h
  have hk0 : k ≠ 0 := fun e => hn (by rw [h2, e]; rfl)
  have hs : nI k - (1 : Int32) = nI (k - 1) := by rw [show (1 : Int32) = nI 1 from rfl, pk_sub (by omega)]
  have e : p_ByteQueue_take v B = (B f, upd (upd v 0 (nI ((f + 1) % 8))) 1 (nI (k - 1))) := by
    rw [p_ByteQueue_take, p_ByteQueue_take_1, hem, if_neg hn, if_pos rfl, h0, h1, nI_clamp (by omega), hs, show nI f + (1 : Int32) = nI (f + 1) from nI_1 f, show nI (f + 1) &&& (7 : Int32) = nI ((f + 1) % 8) from pk_andN (by omega) 3 (by decide +kernel)]
  rw [e]
  refine ⟨?_, k - 1, by omega, by rw [h2]; congr 1; omega, by rw [h2, hs], fun q' hq => ⟨(f + 1) % 8, k - 1, by omega, by omega, rfl, rfl, by rw [h2, hs], fun i hi => ?_⟩⟩
  · show B f = q 0
    have := h3 0 (by omega)
    rwa [Nat.add_zero, Nat.mod_eq_of_lt hf] at this
  · rw [hq i hi, ← h3 (i + 1) (by omega)]
    congr 1
    omega
/-- a queue moved up by one, from place k on -/
def sh (d k : Nat) (s : Nat → Int32) : Nat → Int32 := fun i => if k ≤ i ∧ i < d then s (i + 1) else s i
theorem sh_step (d k : Nat) (s : Nat → Int32) (h : k < d) : sh d (k + 1) (upd s k (s (k + 1))) = sh d k s := by
  funext i
  unfold sh
  by_cases h1 : i = k
  · subst h1
    rw [if_neg (by omega), if_pos (by omega), pk_us]
  · by_cases h2 : k ≤ i ∧ i < d
    · rw [if_pos (by omega), if_pos h2, pk_un (by omega)]
    · rw [if_neg (by omega), if_neg h2, pk_un h1]
theorem se_L {mv0 : Nat → Int32} {mvL : Nat → Int64} {s0 : Nat → Int32} {o0 : Nat → Int64} {mv : Nat → Int32} {out : Nat → Int64} {d : Nat} (hd : d ≤ 7) (hm : mv 26 = nI d) : ∀ (fu k : Nat) (s : Nat → Int32), k ≤ d → d < k + fu → p_Model_sender_L mv0 mvL s0 o0 fu (nI k) mv s out = (mv, sh d k s, out) := by
  intro fu
  induction fu with
  | zero => intro k s h1 h2; exact absurd h2 (by omega)
  | succ fu ih =>
    intro k s h1 h2
    rw [p_Model_sender_L, hm]
    by_cases h : nI d ≤ nI k
    · rw [if_pos h]
      have hdk := (nI_leI (by omega) (by omega)).mp h
      have e : sh d k s = s := by
        funext i
        unfold sh
        rw [if_neg (by omega)]
      rw [e]
    · have hkd : k < d := by have h3 : ¬ d ≤ k := fun h4 => h ((nI_leI (by omega) (by omega)).mpr h4); omega
      rw [if_neg h, show nI k + (1 : Int32) = nI (k + 1) from nI_1 k, nI_clamp (by omega), nI_clamp (by omega), ← sh_step d k s hkd]
      exact ih (k + 1) _ (by omega) (by omega)
theorem sh_0 (d : Nat) (s : Nat → Int32) : ∀ i, i < d → sh d 0 s i = s (i + 1) := by
  intro i hi
  unfold sh
  rw [if_pos (by omega)]
def rOutB (o : Nat) (otv otC otV mv : Nat → Int32) (out : Nat → Int64) : Prop := otv 0 = mv 32 ∧ (∃ a : Nat, a ≤ o ∧ mv 32 = nI a) ∧ ∀ i : Nat, i < 16 → out i = (otV i).toInt64 + 256 * (otC i).toInt64
/-- a byte goes out -/
theorem out_add {o : Nat} {otv otC otV mv mv' : Nat → Int32} {out : Nat → Int64} {k x : Int32} (ho : o < 2 ^ 30) (h : rOutB o otv otC otV mv out) (hm : mv' 32 = mv 32 + (1 : Int32)) : rOutB (o + 1) (p_Log_add otv otC otV k x).1 (p_Log_add otv otC otV k x).2.1 (p_Log_add otv otC otV k x).2.2 mv' (vp_updL out ((mv 32) - (mv 32) / (16 : Int32) * (16 : Int32)).toNatClampNeg (x.toInt64 + (256 : Int64) * k.toInt64)) := by
  obtain ⟨h1, ⟨a, ha, h2⟩, h3⟩ := h
  have e1 : (otv 0 &&& (15 : Int32)).toNatClampNeg = a % 16 := by rw [h1, h2, show nI a &&& (15 : Int32) = nI (a % 16) from pk_andN (by omega) 4 (by decide +kernel), nI_clamp (by omega)]
  have e2 : ((mv 32) - (mv 32) / (16 : Int32) * (16 : Int32)).toNatClampNeg = a % 16 := by rw [h2, show (16 : Int32) = nI 16 from rfl, pk_rem (by omega) (by omega) (by omega), nI_clamp (by omega)]
  rw [p_Log_add, e1, e2]
  refine ⟨?_, ⟨a + 1, by omega, by rw [hm, h2]; exact nI_1 a⟩, fun i hi => ?_⟩
  · show upd otv 0 (otv 0 + (1 : Int32)) 0 = mv' 32
    rw [pk_us, hm, h1]
  · show vp_updL out (a % 16) (x.toInt64 + (256 : Int64) * k.toInt64) i = (upd otV (a % 16) x i).toInt64 + 256 * (upd otC (a % 16) k i).toInt64
    by_cases hia : i = a % 16
    · rw [← hia, pk_uLs, pk_us, pk_us]
    · rw [pk_uLn hia, pk_un hia, pk_un hia]
      exact h3 i hi
def sdP (o : Nat) (mv sqB : Nat → Int32) (r : (Nat → Int32) × (Nat → Int32) × (Nat → Int32) × (Nat → Int32) × (Nat → Int32)) (t : (Nat → Int32) × (Nat → Int32) × (Nat → Int64)) : Prop :=
  rSer r.1 t.1 ∧ rQ r.2.1 sqB (t.1 26) t.2.1 ∧ rOutB o r.2.2.1 r.2.2.2.1 r.2.2.2.2 t.1 t.2.2 ∧ ∀ j, j ≠ 26 → j ≠ 29 → j ≠ 30 → j ≠ 31 → j ≠ 32 → t.1 j = mv j
theorem se_S2 {o : Nat} {mvL : Nat → Int64} {srv sqv sqB otv otC otV mv sd : Nat → Int32} {out : Nat → Int64} {k : Int32} (ho : o < 2 ^ 30) (hk : k = mv 2) (hS : rSer srv mv) (hQ : rQ sqv sqB (mv 26) sd) (hO : rOutB o otv otC otV mv out) : sdP (o + 1) mv sqB (p_Serial_advanceSender srv sqv sqB otv otC otV k) (p_Model_sender mv mvL sd out) := by
  subst hk
  have hO1 : rOutB (o + 1) otv otC otV mv out := ⟨hO.1, by obtain ⟨a, ha, h2⟩ := hO.2.1; exact ⟨a, by omega, h2⟩, hO.2.2⟩
  have hS' := hS
  obtain ⟨s0, s1, s2, s3, s4, s5, s6, s7, s8⟩ := hS'
  have hemp := q_emp hQ
  by_cases hb : mv 29 = (0 : Int32)
  · have hb' : srv 3 = (0 : Int32) := by rw [s3]; exact hb
    by_cases hq : mv 26 = (0 : Int32)
    · have eC : p_Serial_advanceSender srv sqv sqB otv otC otV (mv 2) = (srv, sqv, otv, otC, otV) := by rw [p_Serial_advanceSender, if_pos hb', if_pos hb', p_Serial_advanceSender_1, hemp, if_pos hq, if_neg (show ¬ (1 : Int32) = (0 : Int32) by decide)]
      have eM : p_Model_sender mv mvL sd out = (mv, sd, out) := by rw [p_Model_sender, if_pos hb, if_pos hb, if_pos hq]
      rw [eC, eM]
      exact ⟨hS, hQ, hO1, fun j _ _ _ _ _ => rfl⟩
    · obtain ⟨t1, d, hd, hc1, hc2, hc3⟩ := q_take hQ hq
      have eC : p_Serial_advanceSender srv sqv sqB otv otC otV (mv 2) = (upd (upd (upd srv 4 (sd 0)) 5 (mv 2 + (10 : Int32) * mv 27)) 3 1, (p_ByteQueue_take sqv sqB).2, otv, otC, otV) := by rw [p_Serial_advanceSender, if_pos hb', if_pos hb', p_Serial_advanceSender_1, hemp, if_neg hq, if_pos rfl, p_Serial_advanceSender_2, t1, s1]
      have eM : p_Model_sender mv mvL sd out = (upd (upd (upd (upd mv 29 1) 30 (sd 0)) 31 (mv 2 + (10 : Int32) * mv 27)) 26 (nI d), sh d 0 sd, out) := by
        rw [p_Model_sender, if_pos hb, if_pos hb, if_neg hq, hc2]
        exact se_L hd rfl 9 0 sd (by omega) (by omega)
      rw [eC, eM]
      refine ⟨⟨s0, s1, s2, rfl, rfl, rfl, s6, Or.inr rfl, s8⟩, ?_, hO1, fun j h1 h2 h3 h4 _ => ?_⟩
      · have := hc3 (sh d 0 sd) (sh_0 d sd)
        rw [hc2] at this
        exact this
      · show upd (upd (upd (upd mv 29 1) 30 (sd 0)) 31 (mv 2 + (10 : Int32) * mv 27)) 26 (nI d) j = mv j
        rw [pk_un h1, pk_un h4, pk_un h3, pk_un h2]
  · have hb' : ¬ srv 3 = (0 : Int32) := by rw [s3]; exact hb
    by_cases hr : mv 31 = mv 2
    · have hr' : srv 5 = mv 2 := by rw [s5]; exact hr
      have hO2 : ∀ mv' : Nat → Int32, mv' 32 = mv 32 + (1 : Int32) → rOutB (o + 1) (p_Log_add otv otC otV (mv 2) (mv 30)).1 (p_Log_add otv otC otV (mv 2) (mv 30)).2.1 (p_Log_add otv otC otV (mv 2) (mv 30)).2.2 mv' (vp_updL out ((mv 32) - (mv 32) / (16 : Int32) * (16 : Int32)).toNatClampNeg ((mv 30).toInt64 + (256 : Int64) * (mv 2).toInt64)) := fun mv' h => out_add ho hO h
      by_cases hq : mv 26 = (0 : Int32)
      · have eC : p_Serial_advanceSender srv sqv sqB otv otC otV (mv 2) = (upd srv 3 0, sqv, (p_Log_add otv otC otV (mv 2) (mv 30)).1, (p_Log_add otv otC otV (mv 2) (mv 30)).2.1, (p_Log_add otv otC otV (mv 2) (mv 30)).2.2) := by rw [p_Serial_advanceSender, if_neg hb', if_pos hr', p_Serial_advanceSender_3, if_pos rfl, p_Serial_advanceSender_4, hemp, if_pos hq, if_neg (show ¬ (1 : Int32) = (0 : Int32) by decide), s4]
        have eM : p_Model_sender mv mvL sd out = (upd (upd mv 32 (mv 32 + (1 : Int32))) 29 0, sd, vp_updL out ((mv 32) - (mv 32) / (16 : Int32) * (16 : Int32)).toNatClampNeg ((mv 30).toInt64 + (256 : Int64) * (mv 2).toInt64)) := by rw [p_Model_sender, if_neg hb, if_pos hr, if_pos rfl, if_pos hq]
        rw [eC, eM]
        refine ⟨⟨s0, s1, s2, rfl, s4, s5, s6, Or.inl rfl, s8⟩, hQ, hO2 _ rfl, fun j _ h2 _ _ h5 => ?_⟩
        show upd (upd mv 32 (mv 32 + (1 : Int32))) 29 0 j = mv j
        rw [pk_un h2, pk_un h5]
      · obtain ⟨t1, d, hd, hc1, hc2, hc3⟩ := q_take hQ hq
        have eC : p_Serial_advanceSender srv sqv sqB otv otC otV (mv 2) = (upd (upd (upd (upd srv 3 0) 4 (sd 0)) 5 (mv 2 + (10 : Int32) * mv 27)) 3 1, (p_ByteQueue_take sqv sqB).2, (p_Log_add otv otC otV (mv 2) (mv 30)).1, (p_Log_add otv otC otV (mv 2) (mv 30)).2.1, (p_Log_add otv otC otV (mv 2) (mv 30)).2.2) := by rw [p_Serial_advanceSender, if_neg hb', if_pos hr', p_Serial_advanceSender_3, if_pos rfl, p_Serial_advanceSender_4, hemp, if_neg hq, if_pos rfl, p_Serial_advanceSender_5, t1, s1, s4]
        have eM : p_Model_sender mv mvL sd out = (upd (upd (upd (upd (upd (upd mv 32 (mv 32 + (1 : Int32))) 29 0) 29 1) 30 (sd 0)) 31 (mv 2 + (10 : Int32) * mv 27)) 26 (nI d), sh d 0 sd, vp_updL out ((mv 32) - (mv 32) / (16 : Int32) * (16 : Int32)).toNatClampNeg ((mv 30).toInt64 + (256 : Int64) * (mv 2).toInt64)) := by
          rw [p_Model_sender, if_neg hb, if_pos hr, if_pos rfl, if_neg hq, hc2]
          exact se_L hd rfl 9 0 sd (by omega) (by omega)
        rw [eC, eM]
        refine ⟨⟨s0, s1, s2, rfl, rfl, rfl, s6, Or.inr rfl, s8⟩, ?_, hO2 _ rfl, fun j h1 h2 h3 h4 h5 => ?_⟩
        · have := hc3 (sh d 0 sd) (sh_0 d sd)
          rw [hc2] at this
          exact this
        · show upd (upd (upd (upd (upd (upd mv 32 (mv 32 + (1 : Int32))) 29 0) 29 1) 30 (sd 0)) 31 (mv 2 + (10 : Int32) * mv 27)) 26 (nI d) j = mv j
          rw [pk_un h1, pk_un h4, pk_un h3, pk_un h2, pk_un h2, pk_un h5]
    · have hr' : ¬ srv 5 = mv 2 := by rw [s5]; exact hr
      have eC : p_Serial_advanceSender srv sqv sqB otv otC otV (mv 2) = (srv, sqv, otv, otC, otV) := by rw [p_Serial_advanceSender, if_neg hb', if_neg hr', ite_self]
      have eM : p_Model_sender mv mvL sd out = (mv, sd, out) := by rw [p_Model_sender, if_neg hb, if_neg hr, if_neg hb]
      rw [eC, eM]
      exact ⟨hS, hQ, hO1, fun j _ _ _ _ _ => rfl⟩
