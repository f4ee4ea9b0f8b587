section RC
variable {n cap S K : Nat} {u r : mz_S} {i a s f : Nat}
theorem re.nextm (h : re n cap S K u r) (hc : cap ≤ 12) (hn : n ≤ 5) (hi : i < n) (hf : f < n) {v : Nat} (hv : v ≤ K + 1) : re n cap S K (mz_u u 7 i f (nI v)) (mz_u r 13 0 (5 * i + f) (nI v)) := by
  have h0 := h.1 i hi
  refine h.at (i := i) hc hn (Nat.le_refl K) ?_ (fun k x f z => ?_) (fun a x z => ?_)
  · obtain ⟨⟨a0, a1, a2, a3, a4, a8⟩, ⟨b5, b6, b7, b10⟩, ⟨b, c, k, q1, q2, q3, q4, q5, q6, q7, q8⟩, d, e, f9⟩ := h0
    refine ⟨⟨?_, ?_, ?_, ?_, ?_, ?_⟩, ⟨?_, ?_, ?_, ?_⟩, ⟨b, c, k, ?_, ?_, ?_, q4, q5, q6, q7, ?_⟩, fun hl => ?_, fun hl j hj => ?_, fun hz => ?_⟩
    any_goals simp only [mz_at, Nat.reduceEqDiff, false_and, and_false, and_true, true_and, if_true, if_false]
    any_goals assumption
    · rw [mz_uk (by decide)] at hl
      exact d hl
    · rw [mz_uk (by decide)] at hl
      by_cases z : j = f
      · subst z
        obtain ⟨g1, g2, a9, b9, g3, g4, g5, g6⟩ := e hl j hj
        simp only [if_true]
        exact ⟨trivial, g2, v, b9, rfl, g4, hv, g6⟩
      · rw [if_neg (by omega), if_neg z]
        exact e hl j hj
    · rw [mz_uk (by decide)] at hz
      exact f9 hz
  · rcases mz_ne z with q | q
    · omega
    · exact absurd rfl q
  · rcases mz_ne z with q | q
    · omega
    · exact absurd rfl q
theorem re.matchm (h : re n cap S K u r) (hc : cap ≤ 12) (hn : n ≤ 5) (hi : i < n) (hf : f < n) {v : Nat} (hv : v ≤ K) : re n cap S K (mz_u u 8 i f (nI v)) (mz_u r 14 0 (5 * i + f) (nI v)) := by
  have h0 := h.1 i hi
  refine h.at (i := i) hc hn (Nat.le_refl K) ?_ (fun k x f z => ?_) (fun a x z => ?_)
  · obtain ⟨⟨a0, a1, a2, a3, a4, a8⟩, ⟨b5, b6, b7, b10⟩, ⟨b, c, k, q1, q2, q3, q4, q5, q6, q7, q8⟩, d, e, f9⟩ := h0
    refine ⟨⟨?_, ?_, ?_, ?_, ?_, ?_⟩, ⟨?_, ?_, ?_, ?_⟩, ⟨b, c, k, ?_, ?_, ?_, q4, q5, q6, q7, ?_⟩, fun hl => ?_, fun hl j hj => ?_, fun hz => ?_⟩
    any_goals simp only [mz_at, Nat.reduceEqDiff, false_and, and_false, and_true, true_and, if_true, if_false]
    any_goals assumption
    · rw [mz_uk (by decide)] at hl
      exact d hl
    · rw [mz_uk (by decide)] at hl
      by_cases z : j = f
      · subst z
        obtain ⟨g1, g2, a9, b9, g3, g4, g5, g6⟩ := e hl j hj
        simp only [if_true]
        exact ⟨g1, trivial, a9, v, g3, rfl, g5, hv⟩
      · rw [if_neg (by omega), if_neg z]
        exact e hl j hj
    · rw [mz_uk (by decide)] at hz
      exact f9 hz
  · rcases mz_ne z with q | q
    · omega
    · exact absurd rfl q
  · rcases mz_ne z with q | q
    · omega
    · exact absurd rfl q
/-- what most have is committed: from above, from below -/
theorem qs_adv_best (h0 : re_N n cap K u r i) (hi : i < n) (hn : n ≤ 5) (hc : cap ≤ 12) (hK : K ≤ 100000) (hr : u 2 i 2 = 2) {k : Nat} (ek : u 2 i 5 = nI k) (hk : k ≤ 100000) : ∀ d, d ≤ 100000 → (∃ m, k ≤ m ∧ m ≤ k + d ∧ rs_best n r (nI i) d = nI m) ∧ qs_adv n u i d (nI (k + d)) = mz_u u 2 i 5 (rs_best n r (nI i) d)
  | 0, _ => by
    unfold rs_best qs_adv
    rw [nI_clamp (by omega), h0.1.2.2.2.2.2]
    exact ⟨⟨k, Nat.le_refl k, Nat.le_refl k, ek⟩, (mz_self u 2 i 5).symm⟩
  | d + 1, hd => by
    obtain ⟨⟨m, l1, l2, l3⟩, ih⟩ := qs_adv_best h0 hi hn hc hK hr ek hk d (by omega)
    unfold rs_best qs_adv
    rw [nI_clamp (by omega), h0.1.2.2.2.2.2, ek, nI_add, h0.1.2.2.2.1, if_pos (nI_lt (show k < k + (d + 1) by omega) (by omega))]
    have em := rs_most_ch h0 hi hn hr (nI (k + (d + 1)))
    have et := h0.term (by omega) hc hK (nI (k + (d + 1)))
    by_cases z : qs_term u i (nI (k + (d + 1))) = u 2 i 3 ∧ qs_maj n (qs_ch u i (nI (k + (d + 1))) n)
    · rw [if_pos z, if_pos ⟨et.trans z.1, em.mpr z.2⟩]
      exact ⟨⟨k + (d + 1), by omega, Nat.le_refl _, rfl⟩, rfl⟩
    · rw [if_neg z, if_neg (fun y => z ⟨et.symm.trans y.1, em.mp y.2⟩)]
      refine ⟨⟨m, l1, by omega, l3⟩, ?_⟩
      rw [show nI (k + (d + 1)) - 1 = nI (k + d) from by rw [show k + (d + 1) = (k + d) + 1 by omega, nI_pred]]
      exact ih
theorem re.advance (h : re n cap S K u r) (hc : cap ≤ 12) (hn : n ≤ 5) (hK : K ≤ 100000) (hi : i < n) (hr : u 2 i 2 = 2) : re n cap S K (qs_advance n u i) (rs_count n r (nI i)) := by
  have h0 := h.1 i hi
  have el := h0.last (by omega)
  have e8 := h0.1.2.2.2.2.2
  obtain ⟨-, -, ⟨b, c, k, q1, q2, q3, q4, q5, q6, q7, q8⟩, -⟩ := id h0
  have elq : qs_last u i = nI (b + c) := by unfold qs_last; rw [q1, q2, nI_add]
  obtain ⟨⟨m, l1, l2, l3⟩, ea⟩ := qs_adv_best h0 hi hn hc hK hr q3 (by omega) (b + c - k) (by omega)
  unfold qs_advance rs_count
  rw [el, elq, nI_clamp (show i < 2 ^ 31 by omega), e8, q3, pk_sub (by omega), nI_clamp (by omega)]
  rw [show k + (b + c - k) = b + c by omega] at ea l2
  rw [ea, l3]
  exact h.commit hc hn hi q1 q2 (by omega) (by omega) (by omega) (by omega) hK
theorem re.rAns (h : re n cap S K u r) (hc : cap ≤ 12) (hn : n ≤ 5) (hK : K ≤ 100000) (hi : i < n) (hf : f < n) {p : Nat} (e1 : u 11 a 1 = nI f) (e3 : r 18 0 s = u 11 a 3) (e4 : r 19 0 s = u 11 a 4) (ep : u 11 a 4 = nI p) (hp : p ≤ K) (e6 : r 21 0 s = 0 ↔ u 11 a 6 = 0) : re n cap S K (qs_rAns n u i a) (rs_rAns n r s (nI i) (nI f)) := by
  have h0 := h.1 i hi
  unfold qs_rAns rs_rAns
  rw [nI_clamp (show i < 2 ^ 31 by omega), h0.1.2.2.1, h0.1.2.2.2.1, e3]
  by_cases h1 : u 2 i 2 = 2
  · rw [if_neg (not_not_intro h1), if_neg (not_not_intro h1)]
    by_cases h2 : u 11 a 3 = u 2 i 3
    · rw [if_neg (not_not_intro h2), if_neg (not_not_intro h2)]
      obtain ⟨g1, g2, a9, b9, g3, g4, g5, g6⟩ := h0.2.2.2.2.1 h1 f hf
      by_cases h3 : u 11 a 6 = 0
      · rw [if_pos h3, if_pos (e6.mpr h3), e1, nI_clamp (show f < 2 ^ 31 by omega), rz_i5, nI_clamp (show 5 * i + f < 2 ^ 31 by omega), g1, g3]
        have e9 : mz_max 1 (nI a9 - 1) = nI (if 2 < a9 then a9 - 1 else 1) ∧ (if 2 < nI a9 then nI a9 - 1 else 1) = nI (if 2 < a9 then a9 - 1 else 1) := by
          by_cases z : 2 < a9
          · have z2 : (2 : Int32) < nI a9 := by
              rw [show (2 : Int32) = nI 2 from rfl, nI_ltI (by omega) (by omega)]
              exact z
            rw [if_pos z, if_pos z2, show nI a9 - 1 = nI (a9 - 1) from by rw [show a9 = (a9 - 1) + 1 by omega, nI_pred]; rfl]
            refine ⟨?_, rfl⟩
            rw [show (1 : Int32) = nI 1 from rfl, nI_max _ _ (by omega) (by omega), show max 1 (a9 - 1) = a9 - 1 by omega]
          · have z2 : ¬ (2 : Int32) < nI a9 := by
              rw [show (2 : Int32) = nI 2 from rfl, nI_ltI (by omega) (by omega)]
              exact z
            rw [if_neg z, if_neg z2]
            refine ⟨?_, rfl⟩
            rcases (show a9 = 0 ∨ a9 = 1 ∨ a9 = 2 by omega) with rfl | rfl | rfl <;> decide
        rw [e9.1, e9.2]
        exact h.nextm hc hn hi hf (by split <;> omega)
      · rw [if_neg h3, if_neg (fun z => h3 (e6.mp z))]
        have eM : qs_rAnsM u i a = mz_u u 8 i f (nI (max b9 p)) := by
          unfold qs_rAnsM
          rw [e1, nI_clamp (show f < 2 ^ 31 by omega), g4, ep, nI_max _ _ (by omega) (by omega)]
        have fM : rs_rAnsM r s (nI i) (nI f) = mz_u r 14 0 (5 * i + f) (nI (max b9 p)) := by
          unfold rs_rAnsM
          rw [rz_i5, nI_clamp (show 5 * i + f < 2 ^ 31 by omega), g2, g4, e4, ep, nI_ifx _ _ (by omega) (by omega)]
        unfold qs_rAnsN rs_rAnsN
        rw [eM, fM, e1, nI_clamp (show f < 2 ^ 31 by omega), rz_i5, nI_clamp (show 5 * i + f < 2 ^ 31 by omega), mz_us, mz_us, nI_1]
        have hM := h.matchm hc hn hi hf (v := max b9 p) (by omega)
        have hN := hM.nextm hc hn hi hf (v := max b9 p + 1) (by omega)
        exact hN.advance hc hn hK hi (by rw [mz_uk (by decide), mz_uk (by decide)]; exact h1)
    · rw [if_pos h2, if_pos h2]
      exact h
  · rw [if_pos h1, if_pos h1]
    exact h
end RC
