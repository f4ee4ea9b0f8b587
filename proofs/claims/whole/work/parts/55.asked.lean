section RQ
variable {n cap S K : Nat} {u r : mz_S}
theorem re.role (h : re n cap S K u r) (hn : n ≤ 5) (x : Int32) : rs_role n r x = qs_role n u x := by
  unfold qs_role rs_role
  by_cases hx : qs_isN n x
  · rw [if_pos hx, if_neg (not_not_intro hx)]
    obtain ⟨i, hi, rfl⟩ := nz_of (by omega) hx
    simp only [nI_clamp (show i < 2 ^ 31 by omega)]
    have h0 := h.1 i hi
    rw [h0.1.2.2.1]
    by_cases hz : u 2 i 1 = 0
    · rw [if_pos hz, if_pos (h0.1.2.1.mpr hz), Int32.add_zero]
    · rw [if_neg hz, if_neg (fun z => hz (h0.1.2.1.mp z))]
  · rw [if_neg hx, if_pos hx]
theorem re.term (h : re n cap S K u r) (hn : n ≤ 5) (x : Int32) : rs_get n r 3 x = qs_termQ n u x := by
  unfold qs_termQ rs_get
  by_cases hx : qs_isN n x
  · rw [if_pos hx, if_pos hx]
    obtain ⟨i, hi, rfl⟩ := nz_of (by omega) hx
    rw [nI_clamp (by omega)]
    exact (h.1 i hi).1.2.2.2.1
  · rw [if_neg hx, if_neg hx]
theorem re.voteQ (h : re n cap S K u r) (hn : n ≤ 5) (x : Int32) : rs_get n r 4 x = qs_vote n u x := by
  unfold qs_vote rs_get
  by_cases hx : qs_isN n x
  · rw [if_pos hx, if_neg (not_not_intro hx)]
    obtain ⟨i, hi, rfl⟩ := nz_of (by omega) hx
    simp only [nI_clamp (show i < 2 ^ 31 by omega)]
    rw [(h.1 i hi).1.2.2.2.2.1]
    by_cases hz : u 2 i 4 = -1
    · rw [if_pos hz, hz]
    · rw [if_neg hz]
  · rw [if_neg hx, if_pos hx]
theorem re.base (h : re n cap S K u r) (hn : n ≤ 5) (x : Int32) : rs_get n r 5 x = qs_base n u x := by
  unfold qs_base rs_get
  by_cases hx : qs_isN n x
  · rw [if_pos hx, if_pos hx]
    obtain ⟨i, hi, rfl⟩ := nz_of (by omega) hx
    rw [nI_clamp (by omega)]
    exact (h.1 i hi).2.1.1
  · rw [if_neg hx, if_neg hx]
theorem re.commitQ (h : re n cap S K u r) (hn : n ≤ 5) (x : Int32) : rs_get n r 8 x = qs_commit n u x := by
  unfold qs_commit rs_get
  by_cases hx : qs_isN n x
  · rw [if_pos hx, if_pos hx]
    obtain ⟨i, hi, rfl⟩ := nz_of (by omega) hx
    rw [nI_clamp (by omega)]
    exact (h.1 i hi).1.2.2.2.2.2
  · rw [if_neg hx, if_neg hx]
theorem re.last (h : re n cap S K u r) (hn : n ≤ 5) (x : Int32) : rs_lastQ n r x = qs_lastQ n u x := by
  unfold qs_lastQ rs_lastQ
  by_cases hx : qs_isN n x
  · rw [if_pos hx, if_pos hx]
    obtain ⟨i, hi, rfl⟩ := nz_of (by omega) hx
    rw [nI_clamp (by omega)]
    exact (h.1 i hi).last (by omega)
  · rw [if_neg hx, if_neg hx]
theorem re.termAt (h : re n cap S K u r) (hc : cap ≤ 12) (hn : n ≤ 5) (hK : K ≤ 100000) (x y : Int32) : rs_termAt n r x y = qs_termAt n u x y := by
  unfold qs_termAt rs_termAt
  by_cases hx : qs_isN n x
  · rw [if_pos hx, if_pos hx]
    obtain ⟨i, hi, rfl⟩ := nz_of (by omega) hx
    rw [nI_clamp (by omega)]
    exact (h.1 i hi).term (by omega) hc hK y
  · rw [if_neg hx, if_neg hx]
theorem re.commandAt (h : re n cap S K u r) (hc : cap ≤ 12) (hn : n ≤ 5) (hK : K ≤ 100000) (x y : Int32) : rs_commandAt n r x y = qs_commandAt n u x y := by
  unfold qs_commandAt rs_commandAt
  by_cases hx : qs_isN n x
  · rw [if_pos hx]
    obtain ⟨i, hi, rfl⟩ := nz_of (by omega) hx
    have := (h.1 i hi).cmd (by omega) hc hK y
    rw [show qs_cmd u (nI i).toNatClampNeg y = qs_cmd u i y from by rw [nI_clamp (by omega)], ← this]
    by_cases z : rs_has r (nI i) y
    · rw [if_pos ⟨hx, z⟩, if_pos z]
    · rw [if_neg (fun w => z w.2), if_neg z]
  · rw [if_neg hx, if_neg (fun w => hx w.1)]
theorem re.state (h : re n cap S K u r) (hc : cap ≤ 12) (hn : n ≤ 5) (hK : K ≤ 100000) (x : Int32) : rs_stateQ n r x = qs_stateQ n u x := by
  unfold qs_stateQ rs_stateQ
  by_cases hx : qs_isN n x
  · rw [if_pos hx, if_pos hx]
    obtain ⟨i, hi, rfl⟩ := nz_of (by omega) hx
    rw [nI_clamp (by omega)]
    exact (h.1 i hi).state (by omega) hc hK
  · rw [if_neg hx, if_neg hx]
theorem re.peer (h : re n cap S K u r) (hn : n ≤ 5) (x y : Int32) : rs_peer n r x y = qs_peer n u x y := by
  unfold qs_peer rs_peer
  by_cases hx : qs_two n x y
  · rw [if_neg (not_not_intro hx), if_neg (not_not_intro hx)]
    obtain ⟨i, hi, rfl⟩ := nz_of (by omega) hx.1
    obtain ⟨f, hf, rfl⟩ := nz_of (by omega) hx.2.1
    simp only [nI_clamp (show i < 2 ^ 31 by omega), nI_clamp (show f < 2 ^ 31 by omega), rz_i5, nI_clamp (show 5 * i + f < 2 ^ 31 by omega)]
    have h0 := h.1 i hi
    rw [h0.1.2.2.1]
    by_cases h2 : u 2 i 2 = 2
    · rw [if_neg (not_not_intro h2), if_neg (not_not_intro h2)]
      obtain ⟨g1, g2, -⟩ := h0.2.2.2.2.1 h2 f hf
      rw [g1, g2]
    · rw [if_pos h2, if_pos h2]
  · rw [if_pos hx, if_pos hx]
theorem re.slot (h : re n cap S K u r) (hS : S ≤ 40) (x : Int32) : rs_slot S r x = qs_slot S u x := by
  unfold qs_slot rs_slot
  by_cases hx : qs_isN S x
  · rw [if_neg (not_not_intro hx), if_neg (not_not_intro hx)]
    obtain ⟨j, hj, rfl⟩ := nz_of (by omega) hx
    simp only [nI_clamp (show j < 2 ^ 31 by omega)]
    obtain ⟨e15, q, hq5, eq, hR⟩ := h.2.1 j hj
    have e15 : r 15 0 j = u 11 j 0 := e15
    rw [e15]
    by_cases hz : u 11 j 0 = 0
    · rw [if_pos hz, if_pos hz]
    · rw [if_neg hz, if_neg hz]
      have hq0 : q ≠ 0 := by
        intro z
        rw [eq, z] at hz
        exact hz rfl
      obtain ⟨-, m16, m17, m18, -⟩ := hR hq0
      have m16 : r 16 0 j = u 11 j 1 := m16
      have m17 : r 17 0 j = u 11 j 2 := m17
      have m18 : r 18 0 j = u 11 j 3 := m18
      rw [m16, m17, m18]
  · rw [if_pos hx, if_pos hx]
-- what the contracts want
theorem re.hq (h : re n cap S K u r) (hK : K ≤ 100000) : ∀ i, i < n → qwc cap u i (u 2 i 5) := fun i hi => (h.1 i hi).qwc hK
theorem re.hw (h : re n cap S K u r) (hK : K ≤ 100000) : ∀ i, i < n → qw cap u i := fun i hi => ((h.1 i hi).qwc hK).qw
theorem re.hrq (h : re n cap S K u r) (hn : n ≤ 5) (hK : K ≤ 100000) : ∀ i, i < n → rzc cap r (nI i) (r 8 0 i) := fun i hi => (h.1 i hi).rzc (by omega) hK
theorem re.hrz (h : re n cap S K u r) (hn : n ≤ 5) (hK : K ≤ 100000) : ∀ i, i < n → rz cap r (nI i) := fun i hi => ((h.1 i hi).rzc (by omega) hK).rz
theorem re.hm (h : re n cap S K u r) (hn : n ≤ 5) : ∀ j, j < S → ¬ u 11 j 0 = 0 → vp_in (u 11 j 1) n ∧ vp_in (u 11 j 2) n := by
  intro j hj hz
  obtain ⟨-, q, hq5, eq, hR⟩ := h.2.1 j hj
  have hq0 : q ≠ 0 := by
    intro z
    rw [eq, z] at hz
    exact hz rfl
  obtain ⟨⟨f, t, hf, ht, ef, et⟩, -⟩ := hR hq0
  rw [ef, et]
  exact ⟨vp_in_nI hf (by omega), vp_in_nI ht (by omega)⟩
theorem re.hrm (h : re n cap S K u r) (hc : cap ≤ 12) (hn : n ≤ 5) (hK : K ≤ 100000) : ∀ j, j < S → ¬ r 15 0 j = 0 → ∃ f t, f < n ∧ t < n ∧ r 16 0 j = nI f ∧ r 17 0 j = nI t ∧ (rs_has r (nI t) (r 19 0 j) → ∃ g e : Nat, r 19 0 j - r 5 0 t = nI g ∧ r 10 0 t = nI e ∧ g ≤ e ∧ e ≤ 12) := by
  intro j hj hz
  obtain ⟨e15, q, hq5, eq, hR⟩ := h.2.1 j hj
  have e15 : r 15 0 j = u 11 j 0 := e15
  have hq0 : q ≠ 0 := by
    intro z
    rw [e15, eq, z] at hz
    exact hz rfl
  obtain ⟨⟨f, t, hf, ht, ef, et⟩, m16, m17, -⟩ := hR hq0
  have m16 : r 16 0 j = u 11 j 1 := m16
  have m17 : r 17 0 j = u 11 j 2 := m17
  refine ⟨f, t, hf, ht, m16.trans ef, m17.trans et, fun hh => ?_⟩
  obtain ⟨-, ⟨h5, -, -, h10⟩, ⟨b, c, k, q1, q2, q3, q4, q5, q6, q7, q8⟩, -⟩ := h.1 t ht
  obtain ⟨g1, g2⟩ := hh
  unfold rs_last at g2
  rw [nI_clamp (by omega), h5, q1] at g1 g2
  rw [h10, q2] at g2
  obtain ⟨x, l1, l2, l3⟩ := nz_mid (by omega) g1 g2
  rw [l3, h5, q1, h10, q2, pk_sub (by omega)]
  exact ⟨x - b, c, rfl, rfl, by omega, by omega⟩
end RQ
