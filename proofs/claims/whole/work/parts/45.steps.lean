section RS
variable {n cap S K : Nat} {u r : mz_S} {i : Nat}
/-- restart -/
theorem re.restart (h : re n cap S K u r) (hc : cap ≤ 12) (hn : n ≤ 5) (x : Int32) : (rs_restart n r x).2 = (qs_restart n u x).2 ∧ re n cap S (K + 1) (qs_restart n u x).1 (rs_restart n r x).1 := by
  unfold qs_restart rs_restart
  by_cases hx : qs_isN n x
  · rw [if_neg (not_not_intro hx), if_neg (not_not_intro hx)]
    obtain ⟨i, hi, rfl⟩ := nz_of (by omega) hx
    simp only [nI_clamp (show i < 2 ^ 31 by omega)]
    have h0 := h.1 i hi
    by_cases hz : u 2 i 1 = 0
    · rw [if_neg (not_not_intro hz), if_neg (not_not_intro (h0.1.2.1.mpr hz))]
      refine ⟨rfl, h.at (i := i) hc hn (Nat.le_succ K) (re_N.mono (K := K) ?_ (Nat.le_succ K)) (fun k x f z => ?_) (fun a x z => ?_)⟩
      · obtain ⟨⟨a0, a1, a2, a3, a4, a8⟩, ⟨b5, b6, b7, b10⟩, ⟨b, c, k, q1, q2, q3, q4, q5, q6, q7, q8⟩, d, e, f⟩ := h0
        have f0 := f hz
        refine ⟨⟨?_, ?_, ?_, ?_, ?_, ?_⟩, ⟨?_, ?_, ?_, ?_⟩, ⟨b, c, b, ?_, ?_, ?_, Nat.le_refl b, by omega, q6, q7, ?_⟩, fun hl => ?_, fun hl => ?_, fun _ => ?_⟩ <;> simp_all [mz_at]
      · rcases mz_ne z with q | q
        · omega
        rcases mz_ne q with q | q
        · omega
        rcases mz_ne q with q | q
        · omega
        · exact absurd rfl q
      · rcases mz_ne z with q | q
        · omega
        rcases mz_ne q with q | q
        · omega
        · exact absurd rfl q
    · rw [if_pos hz, if_pos (fun z => hz (h0.1.2.1.mp z))]
      exact ⟨rfl, h.mono (by omega)⟩
  · rw [if_pos hx, if_pos hx]
    exact ⟨rfl, h.mono (by omega)⟩
theorem qs_add_fr (c : Nat) (u : mz_S) (i : Nat) (t y : Int32) {k x f : Nat} (h : ¬ qs_add c u i t y k x f = u k x f) : x = i ∧ k ≤ 8 := by
  unfold qs_add at h
  split at h
  · exact absurd rfl h
  rcases mz_ne h with q | q
  · omega
  rcases mz_ne q with q | q
  · omega
  rcases mz_ne q with q | q
  · omega
  · exact absurd rfl q
theorem rs_add_fr (u : mz_S) {i c : Nat} (hi : i < 5) (hc : c < 12) (hcn : u 10 0 i = nI c) (t y : Int32) {a x : Nat} (h : ¬ rs_add u (nI i) t y a 0 x = u a 0 x) : a ≤ 10 ∧ x = i ∨ (a = 11 ∨ a = 12) ∧ 12 * i ≤ x ∧ x < 12 * i + 12 ∨ (a = 13 ∨ a = 14) ∧ 5 * i ≤ x ∧ x < 5 * i + 5 := by
  unfold rs_add at h
  rw [nI_clamp (show i < 2 ^ 31 by omega), hcn, rz_ix, nI_clamp (show 12 * i + c < 2 ^ 31 by omega)] at h
  rcases mz_ne h with q | q
  · omega
  rcases mz_ne q with q | q
  · omega
  rcases mz_ne q with q | q
  · omega
  · exact absurd rfl q
/-- an entry is added at node i -/
theorem re.add (h : re n cap S K u r) (hc : cap ≤ 12) (hn : n ≤ 5) (hK : K ≤ 100000) (hi : i < n) (hf : ¬ qs_full cap u i) (t x : Int32) : re n cap S (K + 1) (qs_add cap u i t x) (rs_add r (nI i) t x) := by
  have h0 := h.1 i hi
  have e10 := h0.2.1.2.2.2
  obtain ⟨-, -, ⟨b, c, k, q1, q2, q3, q4, q5, q6, q7, q8⟩, -⟩ := id h0
  have hlt : c < cap := by
    unfold qs_full at hf
    rw [q2, nI_leI (by omega) (by omega)] at hf
    omega
  exact h.at (i := i) hc hn (Nat.le_succ K) (h0.add (by omega) hc hK hf t x) (fun k x f z => qs_add_fr _ _ _ _ _ z) (fun a x z => rs_add_fr r (by omega) (show c < 12 by omega) (e10.trans q2) _ _ z)
theorem re_N.full (h : re_N n cap K u r i) (hc : cap ≤ 12) : r 10 0 i = nI cap ↔ qs_full cap u i := by
  obtain ⟨-, ⟨-, -, -, b10⟩, ⟨b, c, k, q1, q2, q3, q4, q5, q6, q7, q8⟩, -⟩ := h
  unfold qs_full
  rw [b10, q2, nI_eq (by omega) (by omega), nI_leI (by omega) (by omega)]
  omega
/-- propose -/
theorem re.propose (h : re n cap S K u r) (hc : cap ≤ 12) (hn : n ≤ 5) (hK : K + 1 ≤ 100000) (x y : Int32) : (rs_propose n cap r x y).2 = (qs_propose n cap u x y).2 ∧ re n cap S (K + 1) (qs_propose n cap u x y).1 (rs_propose n cap r x y).1 := by
  unfold qs_propose rs_propose
  by_cases hx : qs_isN n x
  · rw [if_neg (not_not_intro hx), if_neg (not_not_intro hx)]
    obtain ⟨i, hi, rfl⟩ := nz_of (by omega) hx
    simp only [nI_clamp (show i < 2 ^ 31 by omega)]
    have h0 := h.1 i hi
    have ef := h0.full hc
    by_cases hz : u 2 i 1 = 0
    · rw [if_pos hz, if_pos (h0.1.2.1.mpr hz)]
      exact ⟨rfl, h.mono (by omega)⟩
    · rw [if_neg hz, if_neg (fun z => hz (h0.1.2.1.mp z)), h0.1.2.2.1]
      by_cases h2 : u 2 i 2 = 2
      · rw [if_neg (not_not_intro h2), if_neg (not_not_intro h2)]
        by_cases h3 : qs_full cap u i
        · rw [if_pos h3, if_pos (ef.mpr h3)]
          exact ⟨rfl, h.mono (by omega)⟩
        · rw [if_neg h3, if_neg (fun z => h3 (ef.mp z)), h0.1.2.2.2.1]
          have hA := h.add hc hn (by omega) hi h3 (u 2 i 3) y
          exact ⟨(hA.1 i hi).last (by omega), hA⟩
      · rw [if_pos h2, if_pos h2]
        exact ⟨rfl, h.mono (by omega)⟩
  · rw [if_pos hx, if_pos hx]
    exact ⟨rfl, h.mono (by omega)⟩
/-- a new role: none -/
theorem re.role0 (h : re n cap S K u r) (hc : cap ≤ 12) (hn : n ≤ 5) (hi : i < n) : re n cap S K (mz_u u 2 i 2 0) (mz_u r 2 0 i 0) := by
  have h0 := h.1 i hi
  refine h.at (i := i) hc hn (Nat.le_refl K) ?_ (fun k x f z => ?_) (fun a x z => ?_)
  · obtain ⟨⟨a0, a1, a2, a3, a4, a8⟩, ⟨b5, b6, b7, b10⟩, ⟨b, c, k, q1, q2, q3, q4, q5, q6, q7, q8⟩, d, e, f⟩ := h0
    refine ⟨⟨?_, ?_, ?_, ?_, ?_, ?_⟩, ⟨?_, ?_, ?_, ?_⟩, ⟨b, c, k, ?_, ?_, ?_, q4, q5, q6, q7, ?_⟩, fun hl => ?_, fun hl => ?_, fun _ => ?_⟩ <;> simp_all [mz_at]
  · rcases mz_ne z with q | q
    · omega
    · exact absurd rfl q
  · rcases mz_ne z with q | q
    · omega
    · exact absurd rfl q
/-- a new term -/
theorem re.enter (h : re n cap S K u r) (hc : cap ≤ 12) (hn : n ≤ 5) (hi : i < n) (t : Int32) : re n cap S K (qs_enter u i t) (rs_enter r (nI i) t) := by
  have h0 := h.1 i hi
  unfold qs_enter rs_enter
  rw [nI_clamp (by omega)]
  refine h.at (i := i) hc hn (Nat.le_refl K) ?_ (fun k x f z => ?_) (fun a x z => ?_)
  · obtain ⟨⟨a0, a1, a2, a3, a4, a8⟩, ⟨b5, b6, b7, b10⟩, ⟨b, c, k, q1, q2, q3, q4, q5, q6, q7, q8⟩, d, e, f⟩ := h0
    refine ⟨⟨?_, ?_, ?_, ?_, ?_, ?_⟩, ⟨?_, ?_, ?_, ?_⟩, ⟨b, c, k, ?_, ?_, ?_, q4, q5, q6, q7, ?_⟩, fun hl => ?_, fun hl => ?_, fun _ => ?_⟩ <;> simp_all [mz_at]
  · rcases mz_ne z with q | q
    · omega
    rcases mz_ne q with q | q
    · omega
    rcases mz_ne q with q | q
    · omega
    · exact absurd rfl q
  · rcases mz_ne z with q | q
    · omega
    rcases mz_ne q with q | q
    · omega
    rcases mz_ne q with q | q
    · omega
    · exact absurd rfl q
/-- a new commit -/
theorem re.commit (h : re n cap S K u r) (hc : cap ≤ 12) (hn : n ≤ 5) (hi : i < n) {b c k' : Nat} (e1 : u 3 i 0 = nI b) (e2 : u 3 i 3 = nI c) (hb9 : b ≤ 100000) (hc9 : c ≤ 12) (h1 : b ≤ k') (h2 : k' ≤ b + c) (hK : K ≤ 100000) : re n cap S K (mz_u u 2 i 5 (nI k')) (mz_u r 8 0 i (nI k')) := by
  have h0 := h.1 i hi
  refine h.at (i := i) hc hn (Nat.le_refl K) ?_ (fun k x f z => ?_) (fun a x z => ?_)
  · obtain ⟨⟨a0, a1, a2, a3, a4, a8⟩, ⟨b5, b6, b7, b10⟩, ⟨b2, c2, k, q1, q2, q3, q4, q5, q6, q7, q8⟩, d, e, f⟩ := h0
    rw [q1, nI_eq (by omega) (by omega)] at e1
    rw [q2, nI_eq (by omega) (by omega)] at e2
    subst e1
    subst e2
    refine ⟨⟨?_, ?_, ?_, ?_, ?_, ?_⟩, ⟨?_, ?_, ?_, ?_⟩, ⟨b2, c2, k', ?_, ?_, ?_, h1, h2, q6, q7, ?_⟩, fun hl => ?_, fun hl => ?_, fun _ => ?_⟩ <;> simp_all [mz_at]
  · rcases mz_ne z with q | q
    · omega
    · exact absurd rfl q
  · rcases mz_ne z with q | q
    · omega
    · exact absurd rfl q
end RS
