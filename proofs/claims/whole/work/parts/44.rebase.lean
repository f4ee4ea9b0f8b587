theorem mz_self (u : mz_S) (k i f : Nat) : mz_u u k i f (u k i f) = u := by
  funext k' i' f'
  rw [mz_at]
  split
  · rename_i h
    obtain ⟨rfl, rfl, rfl⟩ := h
    rfl
  · rfl
section RB
variable {n cap S K : Nat} {u r : mz_S} {i : Nat}
theorem re_N.rebase (h : re_N n cap K u r i) (hi : i < 5) (hc : cap ≤ 12) {K' : Nat} (hK : K ≤ K') (hK' : K' ≤ 100000) {g c b' k' : Nat} (hcn : u 3 i 3 = nI c) (hcc : c ≤ cap) (hg : g ≤ c) (eg : qs_gone u i (nI b') = nI g) (h1 : b' ≤ k') (h2 : k' ≤ b' + (c - g)) (h3 : b' + (c - g) ≤ K') (t x : Int32) : re_N n cap K' (mz_u (qs_rebase u i (nI b') t x) 2 i 5 (nI k')) (mz_u (rs_rebase r (nI i) (nI g) (nI b') t x) 8 0 i (nI k')) i := by
  obtain ⟨⟨a0, a1, a2, a3, a4, a8⟩, ⟨b5, b6, b7, b10⟩, ⟨b, c1, k, q1, q2, q3, q4, q5, q6, q7, q8⟩, d, e, f⟩ := h
  rw [q2, nI_eq (by omega) (by omega)] at hcn
  subst hcn
  unfold qs_rebase rs_rebase rs_cutF
  rw [eg, q2, pk_sub hg, nI_clamp (show g < 2 ^ 31 by omega), nI_clamp (show i < 2 ^ 31 by omega), b10, q2, pk_sub hg, nI_clamp (show c1 - g < 2 ^ 31 by omega)]
  refine ⟨⟨?_, ?_, ?_, ?_, ?_, ?_⟩, ⟨?_, ?_, ?_, ?_⟩, ⟨b', c1 - g, k', ?_, ?_, ?_, h1, h2, by omega, h3, fun j hj => ?_⟩, fun hl j hj => ?_, fun hl j hj => ?_, fun hz => ?_⟩
  all_goals simp only [mz_at, qs_mv_o _ _ _ (show 2 ≠ 4 by decide) (show 2 ≠ 5 by decide), qs_mv_o _ _ _ (show 3 ≠ 4 by decide) (show 3 ≠ 5 by decide), qs_mv_o _ _ _ (show 6 ≠ 4 by decide) (show 6 ≠ 5 by decide), qs_mv_o _ _ _ (show 7 ≠ 4 by decide) (show 7 ≠ 5 by decide), qs_mv_o _ _ _ (show 8 ≠ 4 by decide) (show 8 ≠ 5 by decide), rs_mv_o _ _ _ (show 1 ≠ 11 by decide) (show 1 ≠ 12 by decide), rs_mv_o _ _ _ (show 2 ≠ 11 by decide) (show 2 ≠ 12 by decide), rs_mv_o _ _ _ (show 3 ≠ 11 by decide) (show 3 ≠ 12 by decide), rs_mv_o _ _ _ (show 4 ≠ 11 by decide) (show 4 ≠ 12 by decide), rs_mv_o _ _ _ (show 9 ≠ 11 by decide) (show 9 ≠ 12 by decide), rs_mv_o _ _ _ (show 13 ≠ 11 by decide) (show 13 ≠ 12 by decide), rs_mv_o _ _ _ (show 14 ≠ 11 by decide) (show 14 ≠ 12 by decide), Nat.reduceEqDiff, false_and, and_false, and_true, true_and, if_true, if_false] at *
  any_goals assumption
  · rw [rs_mv_11, rs_mv_12, qs_mv_4, qs_mv_5, if_pos hj, if_pos hj, if_pos hj, if_pos hj]
    have := q8 (g + j) (by omega)
    rw [show 12 * i + j + g = 12 * i + (g + j) by omega]
    exact this
  · exact d hl j hj
  · obtain ⟨g1, g2, a, b, g3, g4, g5, g6⟩ := e hl j hj
    exact ⟨g1, g2, a, b, g3, g4, by omega, by omega⟩
  · exact f hz
theorem qs_rebase_fr (u : mz_S) (i : Nat) (b t y : Int32) {k x f : Nat} (h : ¬ qs_rebase u i b t y k x f = u k x f) : x = i ∧ 3 ≤ k ∧ k ≤ 5 := by
  unfold qs_rebase at h
  rcases mz_ne h with q | q
  · omega
  rcases mz_ne q with q | q
  · omega
  rcases mz_ne q with q | q
  · omega
  rcases mz_ne q with q | q
  · omega
  have := qs_mv_fr _ _ _ _ q
  omega
theorem rs_rebase_fr (u : mz_S) {i g c : Nat} (hi : i < 5) (hg : g ≤ c) (hc : c ≤ 12) (hcn : u 10 0 i = nI c) (b t y : Int32) {a x : Nat} (h : ¬ rs_rebase u (nI i) (nI g) b t y a 0 x = u a 0 x) : a ≤ 10 ∧ x = i ∨ (a = 11 ∨ a = 12) ∧ 12 * i ≤ x ∧ x < 12 * i + 12 := by
  unfold rs_rebase rs_cutF at h
  rw [nI_clamp (show i < 2 ^ 31 by omega), hcn, pk_sub hg, nI_clamp (show c - g < 2 ^ 31 by omega)] at h
  rcases mz_ne h with q | q
  · omega
  rcases mz_ne q with q | q
  · omega
  rcases mz_ne q with q | q
  · omega
  rcases mz_ne q with q | q
  · omega
  have := rs_mv_fr _ _ _ _ (by omega) q
  omega
/-- compact -/
theorem re.compact (h : re n cap S K u r) (hc : cap ≤ 12) (hn : n ≤ 5) (hK : K + 1 ≤ 100000) (x : Int32) : (rs_compact n r x).2 = (qs_compact n u x).2 ∧ re n cap S (K + 1) (qs_compact n u x).1 (rs_compact n r x).1 := by
  unfold qs_compact rs_compact
  by_cases hx : qs_isN n x
  · rw [if_neg (not_not_intro hx), if_neg (not_not_intro hx)]
    obtain ⟨i, hi, rfl⟩ := nz_of (by omega) hx
    simp only [nI_clamp (show i < 2 ^ 31 by omega)]
    have h0 := h.1 i hi
    by_cases hz : u 2 i 1 = 0
    · rw [if_pos hz, if_pos (h0.1.2.1.mpr hz)]
      exact ⟨rfl, h.mono (by omega)⟩
    · rw [if_neg hz, if_neg (fun z => hz (h0.1.2.1.mp z))]
      have e1 := h0.term (by omega) hc (by omega) (u 2 i 5)
      have e2 := h0.state (by omega) hc (by omega)
      have e8 := h0.1.2.2.2.2.2
      have e5 := h0.2.1.1
      have e10 := h0.2.1.2.2.2
      obtain ⟨-, -, ⟨b, c, k, q1, q2, q3, q4, q5, q6, q7, q8⟩, -⟩ := id h0
      have eg : qs_gone u i (nI k) = nI (k - b) := by
        unfold qs_gone mz_min mz_max
        rw [q1, q2, pk_sub q4]
        by_cases z : k - b = 0
        · rw [z, nI_0, if_neg Int32.lt_irrefl]
          by_cases y : c = 0
          · rw [y, nI_0, if_neg Int32.lt_irrefl]
          · rw [if_pos ((nz_qp (by omega)).mpr y)]
        · rw [if_pos ((nz_qp (by omega)).mpr z)]
          by_cases y : k - b < c
          · rw [if_pos (nI_lt y (by omega))]
          · rw [if_neg (nI_nlt (by omega) (by omega)), show c = k - b by omega]
      have eR : rs_state r (nI i) (u 2 i 5) = qs_state u i (u 2 i 5) := by rw [← e8]; rw [e8] at e2 ⊢; exact e2
      refine ⟨?_, ?_⟩
      · show r 8 0 i - r 5 0 i = qs_compactU u i 3 i 0 - u 3 i 0
        rw [e8, e5]
        unfold qs_compactU qs_rebase
        simp only [mz_at, Nat.reduceEqDiff, false_and, and_false, and_true, true_and, if_true, if_false]
      · show re n cap S (K + 1) (qs_compactU u i) (rs_rebase r (nI i) (r 8 0 i - r 5 0 i) (r 8 0 i) (rs_term r (nI i) (r 8 0 i)) (rs_state r (nI i) (r 8 0 i)))
        unfold qs_compactU
        rw [e8, e5, e1, eR, q3, q1, pk_sub q4]
        have hN := h0.rebase (K' := K + 1) (by omega) hc (by omega) (by omega) q2 q6 (show k - b ≤ c by omega) eg (Nat.le_refl k) (by omega) (by omega) (qs_term u i (nI k)) (qs_state u i (nI k))
        rw [show mz_u (qs_rebase u i (nI k) (qs_term u i (nI k)) (qs_state u i (nI k))) 2 i 5 (nI k) = qs_rebase u i (nI k) (qs_term u i (nI k)) (qs_state u i (nI k)) from by
          have := mz_self (qs_rebase u i (nI k) (qs_term u i (nI k)) (qs_state u i (nI k))) 2 i 5
          rw [qs_rebase_o _ _ _ _ _ (by decide) (by decide) (by decide), q3] at this
          exact this] at hN
        rw [show mz_u (rs_rebase r (nI i) (nI (k - b)) (nI k) (qs_term u i (nI k)) (qs_state u i (nI k))) 8 0 i (nI k) = rs_rebase r (nI i) (nI (k - b)) (nI k) (qs_term u i (nI k)) (qs_state u i (nI k)) from by
          have := mz_self (rs_rebase r (nI i) (nI (k - b)) (nI k) (qs_term u i (nI k)) (qs_state u i (nI k))) 8 0 i
          rw [show rs_rebase r (nI i) (nI (k - b)) (nI k) (qs_term u i (nI k)) (qs_state u i (nI k)) 8 0 i = nI k from by
            unfold rs_rebase rs_cutF
            rw [mz_uk (by decide), mz_uk (by decide), mz_uk (by decide), mz_uk (by decide), rs_mv_o _ _ _ (by decide) (by decide), e8, q3]] at this
          exact this] at hN
        refine h.at (i := i) hc hn (Nat.le_succ K) hN (fun k x f z => ?_) (fun a x z => ?_)
        · have := qs_rebase_fr _ _ _ _ _ z
          omega
        · have := rs_rebase_fr r (by omega) (show k - b ≤ c by omega) (by omega) (e10.trans q2) _ _ _ z
          omega
  · rw [if_pos hx, if_pos hx]
    exact ⟨rfl, h.mono (by omega)⟩
end RB
