section RN
variable {n cap S K : Nat} {u r : mz_S} {i : Nat}
/-- a change at node i alone, where the reference's arrays change at i, or among the places of i -/
theorem re.at {u' r' : mz_S} (h : re n cap S K u r) (hc : cap ≤ 12) (hn : n ≤ 5) {K' : Nat} (hK : K ≤ K') (hi : re_N n cap K' u' r' i) (hu : ∀ k x f, ¬ u' k x f = u k x f → x = i ∧ k ≤ 8) (hr : ∀ a x, ¬ r' a 0 x = r a 0 x → a ≤ 10 ∧ x = i ∨ (a = 11 ∨ a = 12) ∧ 12 * i ≤ x ∧ x < 12 * i + 12 ∨ (a = 13 ∨ a = 14) ∧ 5 * i ≤ x ∧ x < 5 * i + 5) : re n cap S K' u' r' := by
  refine h.node hc hn hK hi (fun k x f hx => ?_) (fun a x ha hx => ?_) (fun x hx => ⟨?_, ?_⟩) (fun x hx => ⟨?_, ?_⟩) (fun a x ha => ?_)
  · exact Classical.byContradiction fun z => by have := hu k x f z; omega
  · exact Classical.byContradiction fun z => by have := hr a x z; omega
  · exact Classical.byContradiction fun z => by have := hr 11 x z; omega
  · exact Classical.byContradiction fun z => by have := hr 12 x z; omega
  · exact Classical.byContradiction fun z => by have := hr 13 x z; omega
  · exact Classical.byContradiction fun z => by have := hr 14 x z; omega
  · exact Classical.byContradiction fun z => by have := hr a x z; omega
theorem mz_ne {u w : mz_S} {k i f : Nat} {v : Int32} {k' i' f' : Nat} (h : ¬ mz_u w k i f v k' i' f' = u k' i' f') : (k' = k ∧ i' = i ∧ f' = f) ∨ ¬ w k' i' f' = u k' i' f' := by
  by_cases e : k' = k ∧ i' = i ∧ f' = f
  · exact Or.inl e
  · right
    rw [mz_at, if_neg e] at h
    exact h
/-- crash -/
theorem re.crash (h : re n cap S K u r) (hc : cap ≤ 12) (hn : n ≤ 5) (x : Int32) : (rs_crash n r x).2 = (qs_crash n u x).2 ∧ re n cap S (K + 1) (qs_crash n u x).1 (rs_crash n r x).1 := by
  unfold qs_crash rs_crash
  by_cases hx : qs_isN n x
  · rw [if_neg (not_not_intro hx), if_neg (not_not_intro hx)]
    obtain ⟨i, hi, rfl⟩ := nz_of (by omega) hx
    simp only [nI_clamp (show i < 2 ^ 31 by omega)]
    have h0 := h.1 i hi
    by_cases hz : u 2 i 1 = 0
    · rw [if_pos hz, if_pos (h0.1.2.1.mpr hz)]
      exact ⟨rfl, h.mono (by omega)⟩
    · rw [if_neg hz, if_neg (fun z => hz (h0.1.2.1.mp z))]
      refine ⟨rfl, h.at (i := i) hc hn (Nat.le_succ K) (re_N.mono (K := K) ?_ (Nat.le_succ K)) (fun k x f z => ?_) (fun a x z => ?_)⟩
      · obtain ⟨⟨a0, a1, a2, a3, a4, a8⟩, hb, ⟨b, c, k, q1, q2, q3, q4, q5, q6, q7, q8⟩, d, e, f⟩ := h0
        refine ⟨⟨?_, ?_, ?_, ?_, ?_, ?_⟩, ?_, ⟨b, c, k, ?_, ?_, ?_, q4, q5, q6, q7, ?_⟩, fun hl => ?_, fun hl => ?_, fun _ => ?_⟩ <;> simp_all [mz_at]
      · have := mz_ne z
        have : (k = 2 ∧ x = i ∧ f = 2) ∨ (k = 2 ∧ x = i ∧ f = 1) := by
          rcases mz_ne z with q | q
          · exact Or.inl q
          · rcases mz_ne q with q | q
            · exact Or.inr q
            · exact absurd rfl q
        omega
      · rcases mz_ne z with q | q
        · omega
        · rcases mz_ne q with q | q
          · omega
          · exact absurd rfl q
  · rw [if_pos hx, if_pos hx]
    exact ⟨rfl, h.mono (by omega)⟩
end RN
