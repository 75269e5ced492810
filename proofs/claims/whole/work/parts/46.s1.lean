/-! S1: what happens at a cycle's start, here and there -/
def rQ (v B : Nat → Int32) (cnt : Int32) (q : Nat → Int32) : Prop := ∃ f k : Nat, f < 8 ∧ k ≤ 8 ∧ v 0 = nI f ∧ v 1 = nI k ∧ cnt = nI k ∧ ∀ i : Nat, i < k → B ((f + i) % 8) = q i
theorem q_full {v B q : Nat → Int32} {cnt : Int32} (h : rQ v B cnt q) : p_ByteQueue_isFull v = if cnt = (8 : Int32) then 1 else 0 := by
  obtain ⟨f, k, hf, hk, h0, h1, h2, h3⟩ := h
  rw [p_ByteQueue_isFull, h1, h2]
theorem q_put {v B q : Nat → Int32} {cnt : Int32} (x : Int32) (h : rQ v B cnt q) (hn : ¬ cnt = (8 : Int32)) : rQ (p_ByteQueue_put v B x).1 (p_ByteQueue_put v B x).2 (cnt + (1 : Int32)) (upd q cnt.toNatClampNeg (x &&& (255 : Int32))) := by
  have hfu := q_full h
  obtain ⟨f, k, hf, hk, h0, h1, h2, h3⟩ := h
  have hk8 : k ≠ 8 := fun e => hn (by rw [h2, e]; rfl)
  have e : p_ByteQueue_put v B x = (upd v 1 (nI (k + 1)), upd B ((f + k) % 8) (x &&& (255 : Int32))) := by
    rw [p_ByteQueue_put, p_ByteQueue_put_1, hfu, if_neg hn, if_pos rfl, h0, h1, nI_add, show nI k + (1 : Int32) = nI (k + 1) from nI_1 k, show nI (f + k) &&& (7 : Int32) = nI ((f + k) % 8) from pk_andN (by omega) 3 (by decide +kernel), nI_clamp (by omega)]
  rw [e, h2, nI_clamp (by omega)]
  refine ⟨f, k + 1, hf, by omega, h0, rfl, nI_1 k, fun i hi => ?_⟩
  show upd B ((f + k) % 8) (x &&& (255 : Int32)) ((f + i) % 8) = upd q k (x &&& (255 : Int32)) i
  by_cases hik : i = k
  · subst hik
    rw [pk_us, pk_us]
  · rw [pk_un hik, pk_un (by omega)]
    exact h3 i (by omega)
theorem b_sh1 {w i : Nat} (hw : w < 32) (hi : i < 32) : bt ((1 : Int32) <<< (nI w &&& (31 : Int32))) i = decide (i = w) := by
  rw [b_shl w hw 1 hi]
  by_cases h : w ≤ i
  · rw [decide_eq_true h, Bool.true_and, b_1 _ (by omega)]
    by_cases h2 : i = w
    · rw [decide_eq_true h2, decide_eq_true (by omega)]
    · rw [decide_eq_false h2, decide_eq_false (by omega)]
  · rw [decide_eq_false h, Bool.false_and, decide_eq_false (by omega)]
/-- a bit set, a bit cleared, beside a row of flags -/
theorem b_set {x : Int32} {f : Nat → Int32} {lo w : Nat} (h : ∀ i : Nat, i < 32 → bt x i = decide (lo ≤ i ∧ i ≤ 7 ∧ ¬ f i = 0)) (hw : lo ≤ w) (hw7 : w ≤ 7) : ∀ i : Nat, i < 32 → bt (x ||| ((1 : Int32) <<< (nI w &&& (31 : Int32)))) i = decide (lo ≤ i ∧ i ≤ 7 ∧ ¬ upd f w 1 i = 0) := by
  intro i hi
  rw [b_or, h i hi, b_sh1 (by omega) hi]
  by_cases hiw : i = w
  · subst hiw
    rw [pk_us, decide_eq_true (rfl : i = i), Bool.or_true, decide_eq_true ⟨hw, hw7, by decide⟩]
  · rw [pk_un hiw, decide_eq_false hiw, Bool.or_false]
theorem b_clr {x : Int32} {f : Nat → Int32} {lo w : Nat} (h : ∀ i : Nat, i < 32 → bt x i = decide (lo ≤ i ∧ i ≤ 7 ∧ ¬ f i = 0)) (hw7 : w ≤ 7) : ∀ i : Nat, i < 32 → bt (x &&& (((1 : Int32) <<< (nI w &&& (31 : Int32))) ^^^ (-1 : Int32))) i = decide (lo ≤ i ∧ i ≤ 7 ∧ ¬ upd f w 0 i = 0) := by
  intro i hi
  rw [b_and, b_xor, h i hi, b_sh1 (by omega) hi, b_m1 i hi]
  by_cases hiw : i = w
  · subst hiw
    rw [pk_us, decide_eq_true (rfl : i = i), decide_eq_false (show ¬ (lo ≤ i ∧ i ≤ 7 ∧ ¬ (0 : Int32) = 0) from fun hh => hh.2.2 rfl)]
    simp
  · rw [pk_un hiw, decide_eq_false hiw]
    simp
/-- what one event does -/
theorem ev_one {dvL mvL : Nat → Int64} {itv srv rqv rqB mv hi pe se rc : Nat → Int32} {w : Nat} {k x : Int32} (hw : w < 8) (hw1 : ¬ w = 1) (hk : k = nI w) (hI : rInt itv mv hi pe se) (hS : rSer srv mv) (hQ : rQ rqv rqB (mv 24) rc) :
    rInt (p_Devices_happen dvL itv srv rqv rqB k x).1 (p_Model_happen mv mvL hi rc k x).1 (p_Model_happen mv mvL hi rc k x).2.1 pe se ∧ rSer (p_Devices_happen dvL itv srv rqv rqB k x).2.1 (p_Model_happen mv mvL hi rc k x).1 ∧ rQ (p_Devices_happen dvL itv srv rqv rqB k x).2.2.1 (p_Devices_happen dvL itv srv rqv rqB k x).2.2.2 ((p_Model_happen mv mvL hi rc k x).1 24) (p_Model_happen mv mvL hi rc k x).2.2 ∧ ∀ j, j ≠ 24 → j ≠ 25 → (p_Model_happen mv mvL hi rc k x).1 j = mv j := by
  by_cases h0 : k = (0 : Int32)
  · have eC : p_Devices_happen dvL itv srv rqv rqB k x = (itv, (p_Serial_arrive srv rqv rqB x).1, (p_Serial_arrive srv rqv rqB x).2.1, (p_Serial_arrive srv rqv rqB x).2.2) := by rw [p_Devices_happen, if_pos h0, p_Devices_happen_3]
    have hle : k ≤ (0 : Int32) := by rw [h0]; decide
    by_cases h8 : mv 24 = (8 : Int32)
    · have eA : p_Serial_arrive srv rqv rqB x = (upd srv 0 1, rqv, rqB) := by rw [p_Serial_arrive, p_Serial_arrive_1, q_full hQ, if_pos h8, if_neg (show ¬ (1 : Int32) = (0 : Int32) by decide)]
      have eM : p_Model_happen mv mvL hi rc k x = (upd mv 25 1, hi, rc) := by rw [p_Model_happen, if_pos hle, if_pos h8]
      rw [eC, eA, eM]
      refine ⟨hI, ?_, hQ, fun j _ h25 => pk_un h25⟩
      obtain ⟨s0, s1, s2, s3, s4, s5, s6, s7, s8⟩ := hS
      exact ⟨rfl, s1, s2, s3, s4, s5, Or.inr rfl, s7, s8⟩
    · have eA : p_Serial_arrive srv rqv rqB x = (srv, (p_ByteQueue_put rqv rqB x).1, (p_ByteQueue_put rqv rqB x).2) := by rw [p_Serial_arrive, p_Serial_arrive_1, q_full hQ, if_neg h8, if_pos rfl, p_Serial_arrive_2]
      have eM : p_Model_happen mv mvL hi rc k x = (upd mv 24 (mv 24 + (1 : Int32)), hi, upd rc (mv 24).toNatClampNeg (x &&& (255 : Int32))) := by rw [p_Model_happen, if_pos hle, if_neg h8]
      rw [eC, eA, eM]
      exact ⟨hI, hS, q_put x hQ h8, fun j h24 _ => pk_un h24⟩
  · have hw0 : w ≠ 0 := fun e => h0 (by rw [hk, e]; rfl)
    have hle : ¬ k ≤ (0 : Int32) := by rw [hk]; exact nI_nle (by omega) (by omega)
    have hcl : k.toNatClampNeg = w := by rw [hk]; exact nI_clamp (by omega)
    obtain ⟨i1, i2, i3, i4, i5, i6, i7⟩ := hI
    by_cases hx : x = (0 : Int32)
    · have eC : p_Devices_happen dvL itv srv rqv rqB k x = (upd itv 0 (itv 0 &&& (((1 : Int32) <<< (nI w &&& (31 : Int32))) ^^^ (-1 : Int32))), srv, rqv, rqB) := by rw [p_Devices_happen, if_neg h0, if_pos hx, p_Devices_happen_1, p_Interrupts_setLine, if_pos rfl, hk]
      have eM : p_Model_happen mv mvL hi rc k x = (mv, upd hi w 0, rc) := by rw [p_Model_happen, if_neg hle, if_pos hx, hcl]
      rw [eC, eM]
      refine ⟨⟨i1, i2, i3, b_clr i4 (by omega), i5, i6, fun i hi8 => ⟨?_, (i7 i hi8).2⟩⟩, hS, hQ, fun j _ _ => rfl⟩
      show upd hi w 0 i = 0 ∨ upd hi w 0 i = 1
      by_cases hiw : i = w
      · rw [hiw, pk_us]; exact Or.inl rfl
      · rw [pk_un hiw]; exact (i7 i hi8).1
    · have eC : p_Devices_happen dvL itv srv rqv rqB k x = (upd itv 0 (itv 0 ||| ((1 : Int32) <<< (nI w &&& (31 : Int32)))), srv, rqv, rqB) := by rw [p_Devices_happen, if_neg h0, if_neg hx, p_Devices_happen_2, p_Interrupts_setLine, if_neg (show ¬ (1 : Int32) = (0 : Int32) by decide), hk]
      have eM : p_Model_happen mv mvL hi rc k x = (mv, upd hi w 1, rc) := by rw [p_Model_happen, if_neg hle, if_neg hx, hcl]
      rw [eC, eM]
      refine ⟨⟨i1, i2, i3, b_set i4 (by omega) (by omega), i5, i6, fun i hi8 => ⟨?_, (i7 i hi8).2⟩⟩, hS, hQ, fun j _ _ => rfl⟩
      show upd hi w 1 i = 0 ∨ upd hi w 1 i = 1
      by_cases hiw : i = w
      · rw [hiw, pk_us]; exact Or.inr rfl
      · rw [pk_un hiw]; exact (i7 i hi8).1
/-- the rows of plans alike -/
def rPl (evD evW evV pc pw pv : Nat → Int32) : Prop := ∀ i : Nat, i < 16 → evD i = pc i ∧ evW i = pw i ∧ evV i = pv i ∧ ∃ w : Nat, w < 8 ∧ ¬ w = 1 ∧ pw i = nI w
theorem rPl_up {evD evW evV pc pw pv : Nat → Int32} {i j : Nat} (h : rPl evD evW evV pc pw pv) (hi : i < 16) : rPl (upd evD j (evD i)) (upd evW j (evW i)) (upd evV j (evV i)) (upd pc j (pc i)) (upd pw j (pw i)) (upd pv j (pv i)) := by
  intro t ht
  by_cases htj : t = j
  · subst htj
    rw [pk_us, pk_us, pk_us, pk_us, pk_us, pk_us]
    exact h i hi
  · rw [pk_un htj, pk_un htj, pk_un htj, pk_un htj, pk_un htj, pk_un htj]
    exact h t ht
/-- what holds behind the events: chip's (evv, evD, evW, evV, itv, srv, rqv, rqB), the reference's (mv, .., high, received) -/
def evP (mv pe se : Nat → Int32) (r : (Nat → Int32) × (Nat → Int32) × (Nat → Int32) × (Nat → Int32) × (Nat → Int32) × (Nat → Int32) × (Nat → Int32) × (Nat → Int32)) (t : (Nat → Int32) × (Nat → Int32) × (Nat → Int32) × (Nat → Int32) × (Nat → Int32) × (Nat → Int32)) : Prop :=
  rEv r.1 r.2.1 r.2.2.1 r.2.2.2.1 t.1 t.2.1 t.2.2.1 t.2.2.2.1 ∧ rInt r.2.2.2.2.1 t.1 t.2.2.2.2.1 pe se ∧ rSer r.2.2.2.2.2.1 t.1 ∧ rQ r.2.2.2.2.2.2.1 r.2.2.2.2.2.2.2 (t.1 24) t.2.2.2.2.2 ∧ ∀ j, j ≠ 20 → j ≠ 24 → j ≠ 25 → t.1 j = mv j
theorem ev_L {evv evD0 evW0 evV0 : Nat → Int32} {dvL mvL : Nat → Int64} {itv0 srv0 rqv0 rqB0 mv0 pc0 pw0 pv0 hi0 rc0 mvs pe se : Nat → Int32} {k : Int32} {cnt : Nat} (hcnt : cnt ≤ 16) (hev : evv 0 = nI cnt) (hk : k = mvs 2) : ∀ (fu fm i j : Nat) (i_ j_ : Int32) (evD evW evV itv srv rqv rqB mv pc pw pv hi rc : Nat → Int32), i_ = nI i → j_ = nI j → i ≤ cnt → j ≤ i → cnt < i + fu → cnt < i + fm → mv 20 = nI cnt → (∀ q, q ≠ 20 → q ≠ 24 → q ≠ 25 → mv q = mvs q) → rPl evD evW evV pc pw pv → rInt itv mv hi pe se → rSer srv mv → rQ rqv rqB (mv 24) rc →
    evP mvs pe se (p_Events_happen_L evv evD0 evW0 evV0 dvL itv0 srv0 rqv0 rqB0 k fu j_ i_ evD evW evV itv srv rqv rqB) (p_Model_events_L mv0 mvL pc0 pw0 pv0 hi0 rc0 fm j_ i_ mv pc pw pv hi rc) := by
  subst hk
  intro fu
  induction fu with
  | zero => intro fm i j i_ j_ evD evW evV itv srv rqv rqB mv pc pw pv hi rc h1 h2 h3 h4 h5; exact absurd h5 (by omega)
  | succ fu ih =>
    intro fm i j i_ j_ evD evW evV itv srv rqv rqB mv pc pw pv hi rc h1 h2 h3 h4 h5 h6 h7 h8 h9 h10 h11 h12
    cases fm with
    | zero => exact absurd h6 (by omega)
    | succ fm =>
      rw [p_Events_happen_L, p_Model_events_L, hev, h7]
      by_cases hle : nI cnt ≤ i_
      · rw [if_pos hle, if_pos hle]
        refine ⟨⟨?_, ⟨j, by omega, ?_⟩, h9⟩, h10, h11, h12, fun q a b d => ?_⟩
        · show upd evv 0 j_ 0 = upd mv 20 j_ 20
          rw [pk_us, pk_us]
        · show upd mv 20 j_ 20 = nI j
          rw [pk_us, h2]
        · show upd mv 20 j_ q = mvs q
          rw [pk_un a]; exact h8 q a b d
      · rw [if_neg hle, if_neg hle]
        have hic := mi_idx h1 rfl (by omega) (by omega) hle
        have hi16 : i < 16 := by omega
        have hcl : i_.toNatClampNeg = i := by rw [h1]; exact nI_clamp (by omega)
        have hclj : j_.toNatClampNeg = j := by rw [h2]; exact nI_clamp (by omega)
        obtain ⟨p1, p2, p3, w, hw, hw1, hpw⟩ := h9 i hi16
        rw [hcl, hclj, h8 2 (by decide) (by decide) (by decide), p1]
        have hi' : i_ + (1 : Int32) = nI (i + 1) := by rw [h1]; exact nI_1 i
        by_cases hd : pc i = mvs 2
        · rw [if_pos hd, if_pos hd, p_Events_happen_1, p_Model_events_1, p2, p3]
          obtain ⟨a1, a2, a3, a4⟩ := ev_one (dvL := dvL) (mvL := mvL) (x := pv i) hw hw1 hpw h10 h11 h12
          refine ih fm (i + 1) j _ _ _ _ _ _ _ _ _ _ _ _ _ _ _ hi' h2 (by omega) (by omega) (by omega) (by omega) ?_ (fun q b1 b2 b3 => ?_) h9 a1 a2 a3
          · rw [a4 20 (by decide) (by decide)]; exact h7
          · rw [a4 q b2 b3]; exact h8 q b1 b2 b3
        · rw [if_neg hd, if_neg hd]
          have hup := rPl_up (j := j) h9 hi16
          rw [p1] at hup
          exact ih fm (i + 1) (j + 1) (i_ + (1 : Int32)) (j_ + (1 : Int32)) _ _ _ _ _ _ _ _ _ _ _ _ _ hi' (by rw [h2]; exact nI_1 j) (by omega) (by omega) (by omega) (by omega) h7 h8 hup h10 h11 h12
theorem ev_S1 {evv evD evW evV : Nat → Int32} {dvL mvL : Nat → Int64} {itv srv rqv rqB mv pc pw pv hi rc pe se : Nat → Int32} {k : Int32} (hk : k = mv 2) (hE : rEv evv evD evW evV mv pc pw pv) (hI : rInt itv mv hi pe se) (hS : rSer srv mv) (hQ : rQ rqv rqB (mv 24) rc) : evP mv pe se (p_Events_happen evv evD evW evV dvL itv srv rqv rqB k) (p_Model_events mv mvL pc pw pv hi rc) := by
  obtain ⟨e1, ⟨cnt, hcnt, e2⟩, e3⟩ := hE
  rw [p_Events_happen, p_Model_events]
  have hev : evv 0 = nI cnt := by rw [e1, e2]
  have hcl : (evv 0).toNatClampNeg = cnt := by rw [hev]; exact nI_clamp (by omega)
  exact ev_L hcnt hev hk ((evv 0).toNatClampNeg + 1) 17 0 0 _ _ _ _ _ _ _ _ _ _ _ _ _ _ _ rfl rfl (by omega) (by omega) (by omega) (by omega) e2 (fun q _ _ _ => rfl) e3 hI hS hQ
