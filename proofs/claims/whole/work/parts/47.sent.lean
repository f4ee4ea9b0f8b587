section RM
variable {n cap S K : Nat} {u r : mz_S} {i : Nat}
theorem re.sVote (h : re n cap S K u r) (hc : cap ≤ 12) (hn : n ≤ 5) (hff : rs_ff S r < S) (hi : i < n) {f : Nat} (hf : f < n) {g : Int32} (hg : g = 0 ∨ g = 1) : re n cap S K (qs_sVote S u i (nI f) g) (rs_ans S r 2 (nI i) (nI f) g 0) := by
  have h0 := h.1 i hi
  unfold qs_sVote
  refine h.sent hc hn hff (fun k y q hk => ?_) (fun a y ha => ?_) (fun a j ha hj => ?_) ?_ ?_ ?_
  · unfold qs_mVote
    rw [mz_uo hk, qs_begin_o _ _ _ _ _ _ hk]
  · unfold rs_ans
    rw [mz_uk (by omega), mz_uk (by omega), rs_send_o _ _ _ _ _ ha]
  · unfold rs_ans rs_send
    simp only [mz_at, hj, and_false, if_false]
  · unfold rs_ans rs_send qs_mVote qs_begin
    refine ⟨?_, 2, by omega, ?_, fun _ => ⟨⟨i, f, hi, hf, ?_, ?_⟩, ?_, ?_, ?_, fun z => absurd rfl z, fun z => absurd z (by omega), fun _ => ?_, fun z => absurd z (by omega), fun z => absurd z (by omega)⟩⟩
    all_goals simp [mz_at, h0.1.1, h0.1.2.2.2.1, nI_clamp (show i < 2 ^ 31 by omega)]
    all_goals rfl
  · unfold qs_mVote qs_begin
    simp [mz_at]
  · unfold rs_ans
    rw [mz_uk (by decide), mz_us]
    exact hg
theorem re.sAsk (h : re n cap S K u r) (hc : cap ≤ 12) (hn : n ≤ 5) (hK : K ≤ 100000) (hff : rs_ff S r < S) (hi : i < n) {f : Nat} (hf : f < n) : re n cap S K (qs_sAsk S u i (nI f)) (rs_sAsk S r (nI i) (nI f)) := by
  have h0 := h.1 i hi
  have e1 := h0.last (by omega)
  have e2 := h0.lastT (by omega) hc hK
  obtain ⟨-, -, ⟨b, c, k, q1, q2, q3, q4, q5, q6, q7, q8⟩, -⟩ := id h0
  have el : qs_last u i = nI (b + c) := by unfold qs_last; rw [q1, q2, nI_add]
  unfold qs_sAsk
  refine h.sent hc hn hff (fun k y q hk => ?_) (fun a y ha => ?_) (fun a j ha hj => ?_) ?_ ?_ ?_
  · unfold qs_mAsk
    rw [mz_uo hk, mz_uo hk, qs_begin_o _ _ _ _ _ _ hk]
  · rw [rs_sAsk_o _ _ _ _ ha]
  · unfold rs_sAsk rs_send
    simp only [mz_at, hj, and_false, if_false]
  · unfold rs_sAsk
    rw [e2, e1, el]
    unfold rs_send qs_mAsk qs_begin
    rw [el]
    refine ⟨?_, 1, by omega, ?_, fun _ => ⟨⟨i, f, hi, hf, ?_, ?_⟩, ?_, ?_, ?_, fun _ => ⟨?_, b + c, q7, ?_⟩, fun _ => ?_, fun z => absurd z (by omega), fun z => absurd z (by omega), fun z => absurd z (by omega)⟩⟩
    all_goals simp [mz_at, h0.1.1, h0.1.2.2.2.1, nI_clamp (show i < 2 ^ 31 by omega)]
    all_goals rfl
  · unfold qs_mAsk qs_begin
    simp [mz_at]
  · unfold rs_sAsk rs_send
    rw [mz_uk (by decide), mz_uk (by decide), mz_uk (by decide), mz_uk (by decide), mz_uk (by decide), mz_uk (by decide)]
    exact h.2.2.2 _
theorem re.sSnap (h : re n cap S K u r) (hc : cap ≤ 12) (hn : n ≤ 5) (hff : rs_ff S r < S) (hi : i < n) {f : Nat} (hf : f < n) : re n cap S K (qs_sSnap S u i (nI f)) (rs_sSnap S r (nI i) (nI f)) := by
  have h0 := h.1 i hi
  obtain ⟨-, -, ⟨b, c, k, q1, q2, q3, q4, q5, q6, q7, q8⟩, -⟩ := id h0
  unfold qs_sSnap
  refine h.sent hc hn hff (fun k y q hk => ?_) (fun a y ha => ?_) (fun a j ha hj => ?_) ?_ ?_ ?_
  · unfold qs_mSnap
    rw [mz_uo hk, mz_uo hk, mz_uo hk, qs_begin_o _ _ _ _ _ _ hk]
  · unfold rs_sSnap
    rw [mz_uk (by omega), mz_uk (by omega), mz_uk (by omega), rs_send_o _ _ _ _ _ ha]
  · unfold rs_sSnap rs_send
    simp only [mz_at, hj, and_false, if_false]
  · unfold rs_sSnap rs_send qs_mSnap qs_begin
    rw [nI_clamp (show i < 2 ^ 31 by omega), h0.2.1.1, h0.2.1.2.1, h0.2.1.2.2.1, q1]
    refine ⟨?_, 5, by omega, ?_, fun _ => ⟨⟨i, f, hi, hf, ?_, ?_⟩, ?_, ?_, ?_, fun _ => ⟨?_, b, by omega, ?_⟩, fun _ => ?_, fun z => absurd z (by omega), fun z => absurd z (by omega), fun _ => ?_⟩⟩
    all_goals simp [mz_at, h0.1.1, h0.1.2.2.2.1]
    all_goals rfl
  · unfold qs_mSnap qs_begin
    simp [mz_at]
  · unfold rs_sSnap rs_send
    rw [mz_uk (by decide), mz_uk (by decide), mz_uk (by decide), mz_uk (by decide), mz_uk (by decide), mz_uk (by decide), mz_uk (by decide)]
    exact h.2.2.2 _
theorem re.sApp (h : re n cap S K u r) (hc : cap ≤ 12) (hn : n ≤ 5) (hK : K ≤ 100000) (hff : rs_ff S r < S) (hi : i < n) {f a : Nat} (hf : f < n) (ha1 : 1 ≤ a) (ha : a ≤ K + 1) (ea : u 7 i f = nI a) : re n cap S K (qs_sApp S u i (nI f)) (rs_sApp S r (nI i) (nI f) (nI a)) := by
  have h0 := h.1 i hi
  obtain ⟨-, -, ⟨b, c, k, q1, q2, q3, q4, q5, q6, q7, q8⟩, -⟩ := id h0
  have em : nI a - 1 = nI (a - 1) := by rw [show a = (a - 1) + 1 by omega, nI_pred]; rfl
  have et := h0.term (by omega) hc hK (nI a - 1)
  have eh := h0.has (by omega) (nI a)
  have ec := h0.cmd (by omega) hc hK (nI a)
  unfold qs_sApp
  rw [nI_clamp (show f < 2 ^ 31 by omega), ea]
  refine h.sent hc hn hff (fun k y q hk => ?_) (fun a y ha => ?_) (fun a j ha hj => ?_) ?_ ?_ ?_
  · unfold qs_mApp qs_mApp0
    rw [mz_uo hk]
    split
    · rw [mz_uo hk, mz_uo hk, mz_uo hk, mz_uo hk, mz_uo hk, qs_begin_o _ _ _ _ _ _ hk]
    · rw [mz_uo hk, mz_uo hk, mz_uo hk, qs_begin_o _ _ _ _ _ _ hk]
  · unfold rs_sApp
    rw [mz_uk (by omega), mz_uk (by omega), mz_uk (by omega), mz_uk (by omega), mz_uk (by omega), mz_uk (by omega), rs_send_o _ _ _ _ _ ha]
  · unfold rs_sApp rs_send
    simp only [mz_at, hj, and_false, if_false]
  · unfold rs_sApp
    rw [et, ec, mz_b_iff eh, em, show r 8 0 (nI i).toNatClampNeg = u 2 i 5 from by rw [nI_clamp (by omega)]; exact h0.1.2.2.2.2.2]
    unfold rs_send qs_mApp qs_mApp0 qs_begin
    rw [em]
    by_cases hh : qs_has u i (nI a)
    · rw [if_pos hh, if_pos (eh.mpr hh), h0.entT (by omega) hc hK hh]
      refine ⟨?_, 3, by omega, ?_, fun _ => ⟨⟨i, f, hi, hf, ?_, ?_⟩, ?_, ?_, ?_, fun _ => ⟨?_, a - 1, by omega, ?_⟩, fun _ => ?_, fun z => absurd z (by omega), fun _ => ⟨?_, ?_, ⟨k, by omega, ?_⟩, fun _ => ⟨?_, ?_⟩⟩, fun z => absurd z (by omega)⟩⟩
      all_goals simp [mz_at, h0.1.1, h0.1.2.2.2.1, nI_clamp (show i < 2 ^ 31 by omega), q3]
      all_goals rfl
    · rw [if_neg hh, if_neg (fun z => hh (eh.mp z)), mz_b_f hh]
      refine ⟨?_, 3, by omega, ?_, fun _ => ⟨⟨i, f, hi, hf, ?_, ?_⟩, ?_, ?_, ?_, fun _ => ⟨?_, a - 1, by omega, ?_⟩, fun _ => ?_, fun z => absurd z (by omega), fun _ => ⟨?_, ?_, ⟨k, by omega, ?_⟩, fun z => absurd z ?_⟩, fun z => absurd z (by omega)⟩⟩
      all_goals simp [mz_at, h0.1.1, h0.1.2.2.2.1, nI_clamp (show i < 2 ^ 31 by omega), q3]
      all_goals rfl
  · unfold qs_mApp qs_mApp0 qs_begin
    split <;> simp [mz_at]
  · unfold rs_sApp
    rw [mz_uk (by decide), mz_uk (by decide), mz_us]
    by_cases hh : rs_has r (nI i) (nI a)
    · rw [mz_b_t hh]; exact Or.inr rfl
    · rw [mz_b_f hh]; exact Or.inl rfl
end RM
