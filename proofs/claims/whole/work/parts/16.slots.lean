def mz_cnt (f : Nat → Int32) : Nat → Nat
  | 0 => 0
  | j + 1 => mz_cnt f j + (if f j = 0 then 0 else 1)
theorem mz_cnt_le (f : Nat → Int32) : ∀ S, mz_cnt f S ≤ S
  | 0 => Nat.le_refl _
  | S + 1 => by
    have := mz_cnt_le f S
    unfold mz_cnt
    split <;> omega
theorem mz_cnt_same {f g : Nat → Int32} : ∀ S, (∀ j, j < S → (g j = 0 ↔ f j = 0)) → mz_cnt g S = mz_cnt f S
  | 0, _ => rfl
  | S + 1, h => by
    unfold mz_cnt
    rw [mz_cnt_same S (fun j hj => h j (by omega))]
    by_cases e : f S = 0
    · rw [if_pos e, if_pos ((h S (by omega)).mpr e)]
    · rw [if_neg e, if_neg (fun z => e ((h S (by omega)).mp z))]
theorem mz_cnt_put {f g : Nat → Int32} {x : Nat} (hf : f x = 0) (hg : g x ≠ 0) : ∀ S, x < S → (∀ j, j < S → j ≠ x → (g j = 0 ↔ f j = 0)) → mz_cnt g S = mz_cnt f S + 1
  | 0, h, _ => absurd h (by omega)
  | S + 1, h, hs => by
    unfold mz_cnt
    by_cases e : x = S
    · subst e
      rw [if_pos hf, if_neg hg, mz_cnt_same x (fun j hj => hs j (by omega) (by omega))]
    · rw [mz_cnt_put hf hg S (by omega) (fun j hj => hs j (by omega))]
      by_cases e2 : f S = 0
      · rw [if_pos e2, if_pos ((hs S (by omega) (by omega)).mpr e2)]
      · rw [if_neg e2, if_neg (fun z => e2 ((hs S (by omega) (by omega)).mp z))]
theorem mz_ff_ge (f : Nat → Int32) : ∀ d j, j ≤ mz_ff f d j ∧ mz_ff f d j ≤ j + d
  | 0, j => ⟨Nat.le_refl _, Nat.le_refl _⟩
  | d + 1, j => by
    unfold mz_ff
    split
    · omega
    · have := mz_ff_ge f d (j + 1)
      omega
theorem mz_ff_free (f : Nat → Int32) : ∀ d j, mz_ff f d j < j + d → f (mz_ff f d j) = 0
  | 0, j, h => absurd h (by unfold mz_ff; omega)
  | d + 1, j, h => by
    unfold mz_ff at h ⊢
    split
    · assumption
    · rename_i e
      rw [if_neg e] at h
      exact mz_ff_free f d (j + 1) (by omega)
theorem mz_ff_none (f : Nat → Int32) : ∀ d j, ¬ mz_ff f d j < j + d → ∀ x, j ≤ x → x < j + d → f x ≠ 0
  | 0, j, _, x, h1, h2 => absurd h1 (by omega)
  | d + 1, j, h, x, h1, h2 => by
    unfold mz_ff at h
    split at h
    · omega
    · rename_i e
      by_cases ex : x = j
      · subst ex
        exact e
      · exact mz_ff_none f d (j + 1) (by omega) x (by omega) (by omega)
theorem mz_ff_same {f g : Nat → Int32} : ∀ d j, (∀ x, j ≤ x → x < j + d → (g x = 0 ↔ f x = 0)) → mz_ff g d j = mz_ff f d j
  | 0, _, _ => rfl
  | d + 1, j, h => by
    unfold mz_ff
    rw [mz_ff_same d (j + 1) (fun x h1 h2 => h x (by omega) (by omega))]
    by_cases e : f j = 0
    · rw [if_pos e, if_pos ((h j (by omega) (by omega)).mpr e)]
    · rw [if_neg e, if_neg (fun z => e ((h j (by omega) (by omega)).mp z))]
theorem mz_cnt_full {f : Nat → Int32} : ∀ S, (∀ j, j < S → f j ≠ 0) → mz_cnt f S = S
  | 0, _ => rfl
  | S + 1, h => by
    unfold mz_cnt
    rw [mz_cnt_full S (fun j hj => h j (by omega)), if_neg (h S (by omega))]
theorem mz_cnt_lt {f : Nat → Int32} {x : Nat} (hx : f x = 0) : ∀ S, x < S → mz_cnt f S < S
  | 0, h => absurd h (by omega)
  | S + 1, h => by
    unfold mz_cnt
    by_cases e : x = S
    · subst e
      rw [if_pos hx]
      have := mz_cnt_le f x
      omega
    · have := mz_cnt_lt hx S (by omega)
      split <;> omega
theorem mz_ff_cnt (f : Nat → Int32) (S : Nat) : mz_ff f S 0 < S ↔ mz_cnt f S < S := by
  constructor
  · intro h
    exact mz_cnt_lt (mz_ff_free f S 0 (by omega)) S h
  · intro h
    by_cases e : mz_ff f S 0 < S
    · exact e
    · have := mz_cnt_full S (f := f) (fun j hj => mz_ff_none f S 0 (by omega) j (by omega) (by omega))
      omega
theorem nz_q0 {q : Nat} (h : q < 2 ^ 31) : nI q = 0 ↔ q = 0 := by
  rw [← nI_0, nI_eq h (by omega)]
theorem nz_qp {q : Nat} (h : q < 2 ^ 31) : 0 < nI q ↔ q ≠ 0 := by
  rw [← nI_0, nI_ltI (by omega) h]
  omega
theorem rs_w_cnt {r : mz_S} : ∀ S, (∀ j, j < S → ∃ q, q ≤ 5 ∧ r 15 0 j = nI q) → rs_w r S = nI (mz_cnt (fun j => r 15 0 j) S)
  | 0, _ => rfl
  | S + 1, h => by
    unfold rs_w mz_cnt
    rw [rs_w_cnt S (fun j hj => h j (by omega))]
    obtain ⟨q, hq, e⟩ := h S (by omega)
    by_cases z : q = 0
    · rw [mz_b_f (fun y => by rw [e, nz_qp (by omega)] at y; exact y z), if_pos (by rw [e, nz_q0 (by omega)]; exact z)]
      exact Int32.add_zero _
    · rw [mz_b_t (by rw [e, nz_qp (by omega)]; exact z), if_neg (fun y => by rw [e, nz_q0 (by omega)] at y; exact z y)]
      exact nI_1 _
