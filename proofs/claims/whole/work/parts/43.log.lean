theorem qs_mv_4 (u : mz_S) (i g : Nat) (x : Nat) : ∀ m, qs_mv u i g m 4 i x = if x < m then u 4 i (g + x) else u 4 i x
  | 0 => by simp [qs_mv]
  | m + 1 => by
    unfold qs_mv
    rw [mz_uk (by decide), mz_at]
    have e := qs_mv_4 u i g (g + m) m
    rw [if_neg (by omega)] at e
    rw [e, qs_mv_4 u i g x m]
    by_cases z : x = m
    · subst z
      rw [if_pos ⟨rfl, rfl, rfl⟩, if_pos (by omega)]
    · rw [if_neg (fun y => z y.2.2)]
      by_cases y : x < m
      · rw [if_pos y, if_pos (by omega)]
      · rw [if_neg y, if_neg (by omega)]
theorem qs_mv_5 (u : mz_S) (i g : Nat) (x : Nat) : ∀ m, qs_mv u i g m 5 i x = if x < m then u 5 i (g + x) else u 5 i x
  | 0 => by simp [qs_mv]
  | m + 1 => by
    unfold qs_mv
    have e := qs_mv_5 u i g (g + m) m
    rw [if_neg (by omega)] at e
    rw [mz_at, e, mz_uk (by decide), qs_mv_5 u i g x m]
    by_cases z : x = m
    · subst z
      rw [if_pos ⟨rfl, rfl, rfl⟩, if_pos (by omega)]
    · rw [if_neg (fun y => z y.2.2)]
      by_cases y : x < m
      · rw [if_pos y, if_pos (by omega)]
      · rw [if_neg y, if_neg (by omega)]
theorem rs_mv_11 (u : mz_S) (i g : Nat) (x : Nat) : ∀ m, rs_mv u i g m 11 0 (12 * i + x) = if x < m then u 11 0 (12 * i + x + g) else u 11 0 (12 * i + x)
  | 0 => by simp [rs_mv]
  | m + 1 => by
    unfold rs_mv
    rw [mz_uk (by decide), mz_at]
    have e := rs_mv_11 u i g (m + g) m
    rw [if_neg (by omega), ← Nat.add_assoc] at e
    rw [e, rs_mv_11 u i g x m]
    by_cases z : x = m
    · subst z
      rw [if_pos ⟨rfl, rfl, rfl⟩, if_pos (by omega)]
    · rw [if_neg (fun y => z (by omega))]
      by_cases y : x < m
      · rw [if_pos y, if_pos (by omega)]
      · rw [if_neg y, if_neg (by omega)]
theorem rs_mv_12 (u : mz_S) (i g : Nat) (x : Nat) : ∀ m, rs_mv u i g m 12 0 (12 * i + x) = if x < m then u 12 0 (12 * i + x + g) else u 12 0 (12 * i + x)
  | 0 => by simp [rs_mv]
  | m + 1 => by
    unfold rs_mv
    have e := rs_mv_12 u i g (m + g) m
    rw [if_neg (by omega), ← Nat.add_assoc] at e
    rw [mz_at, e, mz_uk (by decide), rs_mv_12 u i g x m]
    by_cases z : x = m
    · subst z
      rw [if_pos ⟨rfl, rfl, rfl⟩, if_pos (by omega)]
    · rw [if_neg (fun y => z (by omega))]
      by_cases y : x < m
      · rw [if_pos y, if_pos (by omega)]
      · rw [if_neg y, if_neg (by omega)]
theorem qs_mv_fr (u : mz_S) (i g : Nat) {k x f : Nat} : ∀ m, ¬ qs_mv u i g m k x f = u k x f → x = i ∧ (k = 4 ∨ k = 5)
  | 0, h => absurd rfl h
  | m + 1, h => by
    unfold qs_mv at h
    rcases mz_ne h with q | q
    · omega
    · rcases mz_ne q with q | q
      · omega
      · exact qs_mv_fr u i g m q
theorem rs_mv_fr (u : mz_S) (i g : Nat) {a x : Nat} : ∀ m, m ≤ 12 → ¬ rs_mv u i g m a 0 x = u a 0 x → (a = 11 ∨ a = 12) ∧ 12 * i ≤ x ∧ x < 12 * i + 12
  | 0, _, h => absurd rfl h
  | m + 1, hm, h => by
    unfold rs_mv at h
    rcases mz_ne h with q | q
    · omega
    · rcases mz_ne q with q | q
      · omega
      · exact rs_mv_fr u i g m (by omega) q
section RL
variable {n cap S K : Nat} {u r : mz_S} {i : Nat}
theorem re_N.qwc (h : re_N n cap K u r i) (hK : K ≤ 100000) : qwc cap u i (u 2 i 5) := by
  obtain ⟨-, -, ⟨b, c, k, q1, q2, q3, q4, q5, q6, q7, q8⟩, -⟩ := h
  exact ⟨b, c, k, q1, q2, q3, q4, q5, q6, by omega⟩
theorem re_N.rzc (h : re_N n cap K u r i) (hi : i < 5) (hK : K ≤ 100000) : rzc cap r (nI i) (r 8 0 i) := by
  obtain ⟨⟨-, -, -, -, -, e8⟩, ⟨e5, -, -, e10⟩, ⟨b, c, k, q1, q2, q3, q4, q5, q6, q7, q8⟩, -⟩ := h
  exact ⟨i, b, c, k, rfl, hi, e5.trans q1, e10.trans q2, e8.trans q3, q4, q5, q6, by omega⟩
/-- an entry is added -/
theorem re_N.add (h : re_N n cap K u r i) (hi : i < 5) (hc : cap ≤ 12) (hK : K ≤ 100000) (hf : ¬ qs_full cap u i) (t x : Int32) : re_N n cap (K + 1) (qs_add cap u i t x) (rs_add r (nI i) t x) i := by
  obtain ⟨⟨a0, a1, a2, a3, a4, a8⟩, ⟨b5, b6, b7, b10⟩, ⟨b, c, k, q1, q2, q3, q4, q5, q6, q7, q8⟩, d, e, f⟩ := h
  have hlt : c < cap := by
    unfold qs_full at hf
    rw [q2, nI_leI (by omega) (by omega)] at hf
    omega
  unfold qs_add rs_add
  rw [if_neg hf]
  rw [nI_clamp (by omega), b10, q2, rz_ix, nI_clamp (by omega), nI_clamp (by omega)]
  refine ⟨⟨?_, ?_, ?_, ?_, ?_, ?_⟩, ⟨?_, ?_, ?_, ?_⟩, ⟨b, c + 1, k, ?_, ?_, ?_, q4, by omega, by omega, by omega, fun j hj => ?_⟩, fun hl j hj => ?_, fun hl j hj => ?_, fun hz => ?_⟩
  all_goals simp only [mz_at, Nat.reduceEqDiff, false_and, and_false, and_true, true_and, if_true, if_false] at *
  any_goals assumption
  · exact nI_1 c
  · by_cases z : j = c
    · subst z
      simp
    · have := q8 j (by omega)
      have z2 : ¬ (12 * i + j = 12 * i + c) := by omega
      simp [z, z2, this]
  · exact d hl j hj
  · obtain ⟨g1, g2, a, b, g3, g4, g5, g6⟩ := e hl j hj
    exact ⟨g1, g2, a, b, g3, g4, by omega, by omega⟩
  · exact f hz
end RL
