section RT
variable {n cap S K : Nat} {u r : mz_S} {i : Nat}
theorem re.take1 (h : re n cap S K u r) (hc : cap ≤ 12) (hn : n ≤ 5) (hK : K ≤ 100000) (hi : i < n) (k t : Int32) : re n cap S K (qs_take1 u i k t) (rs_take1 r (nI i) k t) := by
  have h0 := h.1 i hi
  have eh := h0.has (by omega) k
  unfold qs_take1 rs_take1
  by_cases hh : qs_has u i k
  · have et := h0.entT (by omega) hc hK hh
    rw [et]
    by_cases ht : qs_term u i k = t
    · rw [if_neg (fun z => z.2 ht), if_neg (fun z => z.2 ht)]
      exact h
    · rw [if_pos ⟨hh, ht⟩, if_pos ⟨eh.mpr hh, ht⟩]
      have e8 := h0.1.2.2.2.2.2
      have e5 := h0.2.1.1
      obtain ⟨-, -, ⟨b, c, q, q1, q2, q3, q4, q5, q6, q7, q8⟩, -⟩ := id h0
      have hh2 := hh
      obtain ⟨g1, g2⟩ := hh
      rw [q1] at g1 g2
      rw [q2] at g2
      obtain ⟨j, g3, g4, rfl⟩ := nz_mid (by omega) g1 g2
      have ec : nI j - u 3 i 0 - 1 = nI (j - 1 - b) := by
        rw [q1, pk_sub (by omega), show j - b = (j - 1 - b) + 1 by omega, nI_pred]
      have er : nI j - 1 - r 5 0 i = nI (j - 1 - b) := by
        rw [e5, q1, show nI j - 1 = nI (j - 1) from by rw [show j = (j - 1) + 1 by omega, nI_pred]; rfl, pk_sub (by omega)]
      obtain ⟨m, hm, em1, em2⟩ : ∃ m : Nat, b ≤ m ∧ m ≤ j - 1 ∧ (mz_min (nI q) (nI (j - 1)) = nI m ∧ (if nI q < nI (j - 1) then nI q else nI (j - 1)) = nI m) := by
        unfold mz_min
        by_cases z : j - 1 < q
        · exact ⟨j - 1, by omega, by omega, by rw [if_pos (nI_lt z (by omega))], by rw [if_neg (nI_nlt (by omega) (by omega))]⟩
        · refine ⟨q, by omega, by omega, by rw [if_neg (nI_nlt (by omega) (by omega))], ?_⟩
          by_cases y : q < j - 1
          · rw [if_pos (nI_lt y (by omega))]
          · rw [if_neg (nI_nlt (by omega) (by omega)), show j - 1 = q by omega]
      have el : qs_last (qs_cut u i (nI j)) i = nI (j - 1) := by
        unfold qs_last qs_cut
        rw [if_pos hh2, mz_uf (by decide), mz_us, ec, q1, nI_add, show b + (j - 1 - b) = j - 1 by omega]
      have el2 : rs_last (mz_u r 10 0 (nI i).toNatClampNeg (nI j - 1 - r 5 0 (nI i).toNatClampNeg)) (nI i) = nI (j - 1) := by
        unfold rs_last
        rw [nI_clamp (by omega), mz_uk (by decide), mz_us, er, e5, q1, nI_add, show b + (j - 1 - b) = j - 1 by omega]
      unfold qs_cutc
      rw [el, el2, q3, em2.1, nI_clamp (by omega), e8, q3, em2.2, er]
      unfold qs_cut
      rw [if_pos hh2, ec]
      refine h.at (i := i) hc hn (Nat.le_refl K) ?_ (fun k x f z => ?_) (fun a x z => ?_)
      · obtain ⟨⟨a0, a1, a2, a3, a4, a8⟩, ⟨b5, b6, b7, b10⟩, -, d, e, f⟩ := h0
        refine ⟨⟨?_, ?_, ?_, ?_, ?_, ?_⟩, ⟨?_, ?_, ?_, ?_⟩, ⟨b, j - 1 - b, m, ?_, ?_, ?_, hm, by omega, by omega, by omega, fun j2 hj2 => ?_⟩, fun hl => ?_, fun hl => ?_, fun hz => ?_⟩
        all_goals simp only [mz_at, Nat.reduceEqDiff, false_and, and_false, and_true, true_and, if_true, if_false] at *
        any_goals assumption
        · exact q8 j2 (by omega)
        · exact d hl
        · exact e hl
        · exact f hz
      · rcases mz_ne z with q | q
        · omega
        rcases mz_ne q with q | q
        · omega
        · exact absurd rfl q
      · rcases mz_ne z with q | q
        · omega
        rcases mz_ne q with q | q
        · omega
        · exact absurd rfl q
  · rw [if_neg (fun z => hh z.1), if_neg (fun z => hh (eh.mp z.1))]
    exact h
theorem re.take (h : re n cap S K u r) (hc : cap ≤ 12) (hn : n ≤ 5) (hK : K ≤ 100000) (hi : i < n) (k t x : Int32) : re n cap S (K + 1) (qs_take cap u i k t x) (rs_take cap r (nI i) k t x) := by
  have h1 := h.take1 hc hn hK hi k t
  unfold qs_take rs_take
  generalize qs_take1 u i k t = w at h1 ⊢
  generalize rs_take1 r (nI i) k t = v at h1 ⊢
  have h0 := h1.1 i hi
  have eh := h0.has (by omega) k
  by_cases hh : qs_has w i k
  · rw [if_pos hh, if_neg (fun z => z.1 (eh.mpr hh))]
    exact h1.mono (by omega)
  · rw [if_neg hh]
    have e10 := h0.2.1.2.2.2
    by_cases hf : qs_full cap w i
    · rw [if_neg (fun z => by
        have := z.2
        rw [nI_clamp (by omega), e10] at this
        exact absurd hf (Int32.not_le.mpr this))]
      unfold qs_add
      rw [if_pos hf]
      exact h1.mono (by omega)
    · rw [if_pos ⟨fun z => hh (eh.mp z), by rw [nI_clamp (by omega), e10]; exact Int32.not_le.mp hf⟩]
      exact h1.add hc hn hK hi hf t x
theorem re.takeR (h : re n cap S K u r) (hc : cap ≤ 12) (hn : n ≤ 5) (hK : K ≤ 100000) (hi : i < n) (k t x : Int32) : rs_takeR cap r (nI i) k t x = if qs_has (qs_take cap u i k t x) i k then k else k - 1 := by
  have h1 := h.take hc hn hK hi k t x
  have eh := (h1.1 i hi).has (by omega) k
  unfold rs_takeR
  by_cases hh : qs_has (qs_take cap u i k t x) i k
  · rw [if_pos hh, if_pos (eh.mpr hh)]
  · rw [if_neg hh, if_neg (fun z => hh (eh.mp z))]
-- messages that are sent
theorem re.ans (h : re n cap S K u r) (hc : cap ≤ 12) (hn : n ≤ 5) (hff : rs_ff S r < S) (hi : i < n) {f x : Nat} (hf : f < n) (hx : x ≤ K) {g : Int32} (hg : g = 0 ∨ g = 1) : re n cap S K (qs_sAns S u i (nI f) g (nI x)) (rs_ans S r 4 (nI i) (nI f) g (nI x)) := by
  have h0 := h.1 i hi
  unfold qs_sAns
  refine h.sent hc hn hff (fun k y q hk => ?_) (fun a y ha => ?_) (fun a j ha hj => ?_) ?_ ?_ ?_
  · unfold qs_mAns
    rw [mz_uo hk, mz_uo hk, qs_begin_o _ _ _ _ _ _ hk]
  · unfold rs_ans
    rw [mz_uk (by omega), mz_uk (by omega), rs_send_o _ _ _ _ _ ha]
  · unfold rs_ans rs_send
    simp only [mz_at, hj, and_false, if_false]
  · unfold rs_ans rs_send qs_mAns qs_begin
    refine ⟨?_, 4, by omega, ?_, fun _ => ⟨⟨i, f, hi, hf, ?_, ?_⟩, ?_, ?_, ?_, fun _ => ⟨?_, x, hx, ?_⟩, fun z => absurd z (by omega), fun _ => ?_, fun z => absurd z (by omega), fun z => absurd z (by omega)⟩⟩
    all_goals simp [mz_at, h0.1.1, h0.1.2.2.2.1, nI_clamp (show i < 2 ^ 31 by omega)]
    all_goals rfl
  · unfold qs_mAns qs_begin
    simp [mz_at]
  · unfold rs_ans
    rw [mz_uk (by decide), mz_us]
    exact hg
end RT
