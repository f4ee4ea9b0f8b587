section RH
variable {n cap S K : Nat} {u r : mz_S} {i a s f : Nat}
theorem re.vote (h : re n cap S K u r) (hc : cap ≤ 12) (hn : n ≤ 5) (hi : i < n) (v : Int32) : re n cap S K (mz_u u 2 i 4 v) (mz_u r 4 0 i v) := by
  have h0 := h.1 i hi
  refine h.at (i := i) hc hn (Nat.le_refl K) ?_ (fun k x f z => ?_) (fun a x z => ?_)
  · obtain ⟨⟨a0, a1, a2, a3, a4, a8⟩, ⟨b5, b6, b7, b10⟩, ⟨b, c, k, q1, q2, q3, q4, q5, q6, q7, q8⟩, d, e, f⟩ := h0
    refine ⟨⟨?_, ?_, ?_, ?_, ?_, ?_⟩, ⟨?_, ?_, ?_, ?_⟩, ⟨b, c, k, ?_, ?_, ?_, q4, q5, q6, q7, ?_⟩, fun hl => ?_, fun hl => ?_, fun hz => ?_⟩
    all_goals simp only [mz_at, Nat.reduceEqDiff, false_and, and_false, and_true, true_and, if_true, if_false] at *
    any_goals assumption
    · exact d hl
    · exact e hl
    · exact f hz
  · rcases mz_ne z with q | q
    · omega
    · exact absurd rfl q
  · rcases mz_ne z with q | q
    · omega
    · exact absurd rfl q
theorem re.rAsk (h : re n cap S K u r) (hc : cap ≤ 12) (hn : n ≤ 5) (hK : K ≤ 100000) (hff : rs_ff S r < S) (hi : i < n) (hf : f < n) (e1 : u 11 a 1 = nI f) (e3 : r 18 0 s = u 11 a 3) (e4 : r 19 0 s = u 11 a 4) (e5 : r 20 0 s = u 11 a 5) : re n cap S K (qs_rAsk S u i a) (rs_rAsk S r s (nI i) (nI f)) := by
  have h0 := h.1 i hi
  have g1 := h0.last (by omega)
  have g2 := h0.lastT (by omega) hc hK
  have eg : rs_gr r s (nI i) (nI f) ↔ (u 11 a 3 = u 2 i 3 ∧ (u 2 i 4 = -1 ∨ u 2 i 4 = u 11 a 1) ∧ qs_nah u i (u 11 a 4) (u 11 a 5)) := by
    unfold rs_gr rs_nb qs_nah
    rw [g2, g1, nI_clamp (by omega), e3, e4, e5, h0.1.2.2.2.1, h0.1.2.2.2.2.1, e1]
  unfold qs_rAsk rs_rAsk
  by_cases hg : rs_gr r s (nI i) (nI f)
  · rw [if_pos (eg.mp hg), if_pos hg, mz_b_t hg, nI_clamp (by omega), e1]
    exact (h.vote hc hn hi (nI f)).sVote hc hn (by rw [rs_ff_u (by decide)]; exact hff) hi hf (Or.inr rfl)
  · rw [if_neg (fun z => hg (eg.mpr z)), if_neg hg, mz_b_f hg, mz_self, e1]
    exact h.sVote hc hn hff hi hf (Or.inl rfl)
theorem qs_lv_7 (u : mz_S) (i j : Nat) : ∀ m, qs_lv u i m 7 i j = if j < m then qs_last u i + 1 else u 7 i j
  | 0 => by simp [qs_lv]
  | m + 1 => by
    unfold qs_lv
    rw [mz_uk (by decide), mz_at, qs_lv_7 u i j m]
    by_cases z : j = m
    · subst z
      simp
    · have : j < m + 1 ↔ j < m := by omega
      simp [z, this]
theorem qs_lv_8 (u : mz_S) (i j : Nat) : ∀ m, qs_lv u i m 8 i j = if j < m then 0 else u 8 i j
  | 0 => by simp [qs_lv]
  | m + 1 => by
    unfold qs_lv
    rw [mz_at, mz_uk (by decide), qs_lv_8 u i j m]
    by_cases z : j = m
    · subst z
      simp
    · have : j < m + 1 ↔ j < m := by omega
      simp [z, this]
theorem rs_lv_13 (u : mz_S) {i j : Nat} (hi : i < 5) (hj : j < 5) : ∀ m, m ≤ 5 → rs_lv u (nI i) m 13 0 (5 * i + j) = if j < m then rs_last u (nI i) + 1 else u 13 0 (5 * i + j)
  | 0, _ => by simp [rs_lv]
  | m + 1, hm => by
    unfold rs_lv
    rw [mz_uk (by decide), mz_at, rs_lv_13 u hi hj m (by omega), rz_i5, nI_clamp (by omega)]
    by_cases z : j = m
    · subst z
      simp
    · have : j < m + 1 ↔ j < m := by omega
      have z2 : ¬ 5 * i + j = 5 * i + m := by omega
      simp [z, z2, this]
theorem rs_lv_14 (u : mz_S) {i j : Nat} (hi : i < 5) (hj : j < 5) : ∀ m, m ≤ 5 → rs_lv u (nI i) m 14 0 (5 * i + j) = if j < m then 0 else u 14 0 (5 * i + j)
  | 0, _ => by simp [rs_lv]
  | m + 1, hm => by
    unfold rs_lv
    rw [mz_at, mz_uk (by decide), rs_lv_14 u hi hj m (by omega), rz_i5, nI_clamp (by omega)]
    by_cases z : j = m
    · subst z
      simp
    · have : j < m + 1 ↔ j < m := by omega
      have z2 : ¬ 5 * i + j = 5 * i + m := by omega
      simp [z, z2, this]
theorem qs_lv_fr (u : mz_S) (i : Nat) {k x f : Nat} : ∀ m, ¬ qs_lv u i m k x f = u k x f → x = i ∧ (k = 7 ∨ k = 8)
  | 0, h => absurd rfl h
  | m + 1, h => by
    unfold qs_lv at h
    rcases mz_ne h with q | q
    · omega
    rcases mz_ne q with q | q
    · omega
    · exact qs_lv_fr u i m q
theorem rs_lv_fr (u : mz_S) {i : Nat} (hi : i < 5) {a x : Nat} : ∀ m, m ≤ 5 → ¬ rs_lv u (nI i) m a 0 x = u a 0 x → (a = 13 ∨ a = 14) ∧ 5 * i ≤ x ∧ x < 5 * i + 5
  | 0, _, h => absurd rfl h
  | m + 1, hm, h => by
    unfold rs_lv at h
    rw [rz_i5, nI_clamp (by omega)] at h
    rcases mz_ne h with q | q
    · omega
    rcases mz_ne q with q | q
    · omega
    · exact rs_lv_fr u hi m (by omega) q
theorem re.lead (h : re n cap S K u r) (hc : cap ≤ 12) (hn : n ≤ 5) (hK : K ≤ 100000) (hi : i < n) (hz : ¬ u 2 i 1 = 0) : re n cap S K (qs_lead n u i) (rs_lv (mz_u r 2 0 i 2) (nI i) 5) := by
  have h0 := h.1 i hi
  have g1 := h0.last (by omega)
  unfold qs_lead
  refine h.at (i := i) hc hn (Nat.le_refl K) ?_ (fun k x f z => ?_) (fun a x z => ?_)
  · obtain ⟨⟨a0, a1, a2, a3, a4, a8⟩, ⟨b5, b6, b7, b10⟩, ⟨b, c, k, q1, q2, q3, q4, q5, q6, q7, q8⟩, d, e, f⟩ := h0
    refine ⟨⟨?_, ?_, ?_, ?_, ?_, ?_⟩, ⟨?_, ?_, ?_, ?_⟩, ⟨b, c, k, ?_, ?_, ?_, q4, q5, q6, q7, fun j hj => ?_⟩, fun hl => ?_, fun hl j hj => ?_, fun y => ?_⟩
    any_goals simp only [qs_lv_o _ _ (show 2 ≠ 7 by decide) (show 2 ≠ 8 by decide), qs_lv_o _ _ (show 3 ≠ 7 by decide) (show 3 ≠ 8 by decide), qs_lv_o _ _ (show 4 ≠ 7 by decide) (show 4 ≠ 8 by decide), qs_lv_o _ _ (show 5 ≠ 7 by decide) (show 5 ≠ 8 by decide), rs_lv_o _ _ (show 1 ≠ 13 by decide) (show 1 ≠ 14 by decide), rs_lv_o _ _ (show 2 ≠ 13 by decide) (show 2 ≠ 14 by decide), rs_lv_o _ _ (show 3 ≠ 13 by decide) (show 3 ≠ 14 by decide), rs_lv_o _ _ (show 4 ≠ 13 by decide) (show 4 ≠ 14 by decide), rs_lv_o _ _ (show 5 ≠ 13 by decide) (show 5 ≠ 14 by decide), rs_lv_o _ _ (show 6 ≠ 13 by decide) (show 6 ≠ 14 by decide), rs_lv_o _ _ (show 7 ≠ 13 by decide) (show 7 ≠ 14 by decide), rs_lv_o _ _ (show 8 ≠ 13 by decide) (show 8 ≠ 14 by decide), rs_lv_o _ _ (show 10 ≠ 13 by decide) (show 10 ≠ 14 by decide), rs_lv_o _ _ (show 11 ≠ 13 by decide) (show 11 ≠ 14 by decide), rs_lv_o _ _ (show 12 ≠ 13 by decide) (show 12 ≠ 14 by decide), mz_at, Nat.reduceEqDiff, false_and, and_false, and_true, true_and, if_true, if_false]
    any_goals assumption
    · exact q8 j hj
    · rw [qs_lv_o _ _ (by decide) (by decide), mz_us] at hl
      exact absurd hl (by decide)
    · have el : qs_last (mz_u u 2 i 2 2) i = nI (b + c) := by
        unfold qs_last
        rw [mz_uk (by decide), mz_uk (by decide), q1, q2, nI_add]
      have er : rs_last (mz_u r 2 0 i 2) (nI i) = nI (b + c) := by
        rw [rs_last_same (u := r) (fun x => mz_uk (by decide)) (fun x => mz_uk (by decide)), g1]
        unfold qs_last
        rw [q1, q2, nI_add]
      rw [rs_lv_13 _ (by omega) (by omega) 5 (Nat.le_refl 5), rs_lv_14 _ (by omega) (by omega) 5 (Nat.le_refl 5), qs_lv_7, qs_lv_8, if_pos hj, if_pos hj, if_pos (by omega), if_pos (by omega), el, er, nI_1]
      exact ⟨rfl, rfl, b + c + 1, 0, rfl, rfl, by omega, by omega⟩
    · rw [qs_lv_o _ _ (by decide) (by decide), mz_uf (by decide)] at y
      exact absurd y hz
  · rcases Classical.em (qs_lv (mz_u u 2 i 2 2) i n k x f = mz_u u 2 i 2 2 k x f) with y | y
    · rw [y] at z
      rcases mz_ne z with q | q
      · omega
      · exact absurd rfl q
    · have := qs_lv_fr _ _ _ y
      omega
  · rcases Classical.em (rs_lv (mz_u r 2 0 i 2) (nI i) 5 a 0 x = mz_u r 2 0 i 2 a 0 x) with y | y
    · rw [y] at z
      rcases mz_ne z with q | q
      · omega
      · exact absurd rfl q
    · have := rs_lv_fr _ (by omega) _ (Nat.le_refl 5) y
      omega
/-- a voter more -/
theorem re.voter (h : re n cap S K u r) (hc : cap ≤ 12) (hn : n ≤ 5) (hi : i < n) (hf : f < n) (hr : u 2 i 2 = 1) : re n cap S K (mz_u u 6 i f 1) (mz_u r 9 0 i (r 9 0 i ||| 1 <<< (nI f &&& 31))) := by
  have h0 := h.1 i hi
  refine h.at (i := i) hc hn (Nat.le_refl K) ?_ (fun k x f z => ?_) (fun a x z => ?_)
  · obtain ⟨⟨a0, a1, a2, a3, a4, a8⟩, ⟨b5, b6, b7, b10⟩, ⟨b, c, k, q1, q2, q3, q4, q5, q6, q7, q8⟩, d, e, f9⟩ := h0
    refine ⟨⟨?_, ?_, ?_, ?_, ?_, ?_⟩, ⟨?_, ?_, ?_, ?_⟩, ⟨b, c, k, ?_, ?_, ?_, q4, q5, q6, q7, ?_⟩, fun hl j hj => ?_, fun hl => ?_, fun hz => ?_⟩
    any_goals simp only [mz_at, Nat.reduceEqDiff, false_and, and_false, and_true, true_and, if_true, if_false]
    any_goals assumption
    · have := d hr j hj
      rw [bt_val _ (by omega)] at this ⊢
      rw [b_or, bt_sh (by omega) (by omega)]
      by_cases z : j = f
      · subst z
        simp [hf]
      · simp only [z, decide_false, Bool.or_false, if_false]
        exact this
    · rw [mz_uk (by decide)] at hl
      exact absurd (hr.symm.trans hl) (by decide)
    · rw [mz_uk (by decide)] at hz
      exact f9 hz
  · rcases mz_ne z with q | q
    · omega
    · exact absurd rfl q
  · rcases mz_ne z with q | q
    · omega
    · exact absurd rfl q
theorem re.rVote (h : re n cap S K u r) (hc : cap ≤ 12) (hn : n ≤ 5) (hK : K ≤ 100000) (hi : i < n) (hf : f < n) (e1 : u 11 a 1 = nI f) (e3 : r 18 0 s = u 11 a 3) (e6 : r 21 0 s = 0 ↔ u 11 a 6 = 0) : re n cap S K (qs_rVote n u i a) (rs_rVote n r s (nI i) (nI f)) := by
  have h0 := h.1 i hi
  unfold qs_rVote rs_rVote
  rw [nI_clamp (by omega), h0.1.2.2.1, h0.1.2.2.2.1, e3]
  by_cases h1 : u 2 i 2 = 1
  · rw [if_neg (not_not_intro h1), if_neg (not_not_intro h1)]
    by_cases h2 : u 11 a 3 = u 2 i 3
    · rw [if_neg (not_not_intro h2), if_neg (not_not_intro h2)]
      by_cases h3 : u 11 a 6 = 0
      · rw [if_pos h3, if_pos (e6.mpr h3)]
        exact h
      · rw [if_neg h3, if_neg (fun z => h3 (e6.mp z))]
        have hv := h.voter hc hn hi hf h1
        have eq1 : qs_rVote1 u i a = mz_u u 6 i f 1 := by unfold qs_rVote1; rw [e1, nI_clamp (by omega)]
        have er1 : rs_rVote1 r (nI i) (nI f) = mz_u r 9 0 i (r 9 0 i ||| 1 <<< (nI f &&& 31)) := by unfold rs_rVote1; rw [nI_clamp (by omega)]
        rw [eq1, er1]
        generalize mz_u r 9 0 i (r 9 0 i ||| 1 <<< (nI f &&& 31)) = v at hv ⊢
        have hr1 : mz_u u 6 i f 1 2 i 2 = 1 := by rw [mz_uk (by decide)]; exact h1
        have hz1 : ¬ mz_u u 6 i f 1 2 i 1 = 0 := by
          rw [mz_uk (by decide)]
          intro z
          have := h0.2.2.2.2.2 z
          rw [h1] at this
          exact absurd this (by decide)
        generalize mz_u u 6 i f 1 = w at hv hr1 hz1 ⊢
        have em := rs_most_cv (u := w) (i := i) ((hv.1 i hi).2.2.2.1 hr1) hn
        by_cases hm : qs_maj n (qs_cv w i n)
        · rw [if_pos hm, if_neg (not_not_intro (em.mpr hm))]
          exact hv.lead hc hn hK hi hz1
        · rw [if_neg hm, if_pos (fun z => hm (em.mp z))]
          exact hv
    · rw [if_pos h2, if_pos h2]
      exact h
  · rw [if_pos h1, if_pos h1]
    exact h
end RH
