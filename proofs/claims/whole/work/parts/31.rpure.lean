def rz (c : Nat) (u : mz_S) (k : Int32) : Prop := ∃ q b e : Nat, k = nI q ∧ q < 5 ∧ u 5 0 q = nI b ∧ u 10 0 q = nI e ∧ e ≤ c ∧ b ≤ 100000
theorem rz.k {c : Nat} {u : mz_S} {k : Int32} (h : rz c u k) : vp_in k 5 := by
  obtain ⟨q, b, e, rfl, h1, -⟩ := h
  exact vp_in_nI h1 (by omega)
theorem rz.same {c : Nat} {u u' : mz_S} {k : Int32} (h : rz c u k) (h5 : ∀ x, u' 5 0 x = u 5 0 x) (h10 : ∀ x, u' 10 0 x = u 10 0 x) : rz c u' k := by
  obtain ⟨q, b, e, e1, h1, e2, e3, h2⟩ := h
  exact ⟨q, b, e, e1, h1, by rw [h5]; exact e2, by rw [h10]; exact e3, h2⟩
theorem rz_ix (q j : Nat) : (12 : Int32) * nI q + nI j = nI (12 * q + j) := by
  rw [show (12 : Int32) = nI 12 from rfl, pk_mul, nI_add]
theorem rz_i5 (q j : Nat) : (5 : Int32) * nI q + nI j = nI (5 * q + j) := by
  rw [show (5 : Int32) = nI 5 from rfl, pk_mul, nI_add]
theorem rz_in5 {k f : Int32} (h : vp_in k 5) (h2 : vp_in f 5) : vp_in (5 * k + f) 25 := by
  obtain ⟨q, hq, rfl⟩ := vp_in_of h (by omega)
  obtain ⟨j, hj, rfl⟩ := vp_in_of h2 (by omega)
  rw [rz_i5]
  exact vp_in_nI (by omega) (by omega)
theorem rs_place_eq {u : mz_S} {q b : Nat} (hq : q < 5) (h : u 5 0 q = nI b) (j : Nat) : rs_place u (nI q) (nI (b + 1 + j)) = nI (12 * q + j) := by
  unfold rs_place
  rw [nI_clamp (by omega), h, rz_ix, pk_sub (by omega), show 12 * q + (b + 1 + j) - b = (12 * q + j) + 1 by omega, nI_pred]
theorem rz.ix {c : Nat} {u : mz_S} {k : Int32} (hc : c ≤ 12) (h : rz c u k) {i : Int32} (hi : rs_has u k i) : vp_in (rs_place u k i) 60 := by
  obtain ⟨q, b, e, rfl, h1, e2, e3, h2, h3⟩ := h
  obtain ⟨g1, g2⟩ := hi
  unfold rs_last at g2
  rw [nI_clamp (by omega), e2] at g1 g2
  rw [e3] at g2
  obtain ⟨j, g3, g4, rfl⟩ := nz_mid (by omega) g1 g2
  rw [show j = b + 1 + (j - b - 1) by omega, rs_place_eq h1 e2]
  exact vp_in_nI (by omega) (by omega)
theorem rz.add {c : Nat} {u : mz_S} {k : Int32} (hc : c ≤ 12) (h : rz c u k) (hl : u 10 0 k.toNatClampNeg < nI c) : vp_in (12 * k + u 10 0 k.toNatClampNeg) 60 := by
  obtain ⟨q, b, e, rfl, h1, e2, e3, h2, h3⟩ := h
  rw [nI_clamp (by omega), e3, nI_ltI (by omega) (by omega)] at hl
  rw [nI_clamp (by omega), e3, rz_ix]
  exact vp_in_nI (by omega) (by omega)
def rzc (c : Nat) (u : mz_S) (k i : Int32) : Prop := ∃ q b e p : Nat, k = nI q ∧ q < 5 ∧ u 5 0 q = nI b ∧ u 10 0 q = nI e ∧ i = nI p ∧ b ≤ p ∧ p ≤ b + e ∧ e ≤ c ∧ b ≤ 100000
theorem rzc.rz {c : Nat} {u : mz_S} {k i : Int32} (h : rzc c u k i) : rz c u k := by
  obtain ⟨q, b, e, p, e1, h1, e2, e3, -, -, -, h2, h3⟩ := h
  exact ⟨q, b, e, e1, h1, e2, e3, h2, h3⟩
theorem rs_mv_o (u : mz_S) (k g : Nat) {a : Nat} (h11 : a ≠ 11) (h12 : a ≠ 12) (x f : Nat) : ∀ j, rs_mv u k g j a x f = u a x f
  | 0 => rfl
  | j + 1 => by
    unfold rs_mv
    rw [mz_uk h12, mz_uk h11, rs_mv_o u k g h11 h12 x f j]
def rs_fd (S : Nat) (u : mz_S) (t : Nat) : Int32 := if mz_ff (fun x => u 15 0 x) (S - t) t < S then nI (mz_ff (fun x => u 15 0 x) (S - t) t) else -1
theorem rs_fd_s {S : Nat} {u : mz_S} {t : Nat} (h : t < S) : rs_fd S u t = if u 15 0 t = 0 then nI t else rs_fd S u (t + 1) := by
  have e : mz_ff (fun x => u 15 0 x) (S - t) t = if u 15 0 t = 0 then t else mz_ff (fun x => u 15 0 x) (S - (t + 1)) (t + 1) := by
    rw [show S - t = (S - (t + 1)) + 1 by omega]
    rfl
  unfold rs_fd
  rw [e]
  by_cases z : u 15 0 t = 0
  · rw [if_pos z, if_pos z, if_pos h]
  · rw [if_neg z, if_neg z]
theorem rs_fd_0 (S : Nat) (u : mz_S) : rs_fd S u 0 = rs_free S u := rfl
theorem rs_fd_S (S : Nat) (u : mz_S) : rs_fd S u S = -1 := by
  unfold rs_fd
  rw [Nat.sub_self]
  exact if_neg (by show ¬ S < S; omega)
theorem rs_w_s (u : mz_S) (j : Nat) : rs_w u (j + 1) = rs_w u j + mz_b (0 < u 15 0 j) := rfl
theorem rs_ff_same {S : Nat} {u u' : mz_S} (h : ∀ x, u' 15 0 x = u 15 0 x) : rs_ff S u' = rs_ff S u := by
  unfold rs_ff
  rw [show (fun j => u' 15 0 j) = (fun j => u 15 0 j) from funext h]
theorem rs_ff_u {S : Nat} {u : mz_S} {a : Nat} (h : a ≠ 15) (i f : Nat) (v : Int32) : rs_ff S (mz_u u a i f v) = rs_ff S u := rs_ff_same (fun x => mz_uk (Ne.symm h))
theorem rs_last_same {u w : mz_S} {k : Int32} (h5 : ∀ x, w 5 0 x = u 5 0 x) (h10 : ∀ x, w 10 0 x = u 10 0 x) : rs_last w k = rs_last u k := by
  unfold rs_last
  rw [h5, h10]
theorem rs_has_same {u w : mz_S} {k i : Int32} (h5 : ∀ x, w 5 0 x = u 5 0 x) (h10 : ∀ x, w 10 0 x = u 10 0 x) : rs_has w k i ↔ rs_has u k i := by
  unfold rs_has
  rw [h5, rs_last_same h5 h10]
theorem rs_term_same {u w : mz_S} {k i : Int32} (h5 : ∀ x, w 5 0 x = u 5 0 x) (h6 : ∀ x, w 6 0 x = u 6 0 x) (h10 : ∀ x, w 10 0 x = u 10 0 x) (h11 : ∀ x, w 11 0 x = u 11 0 x) : rs_term w k i = rs_term u k i := by
  unfold rs_term rs_has rs_last rs_place
  simp only [h5, h6, h10, h11]
theorem rs_place_same {u w : mz_S} {k i : Int32} (h5 : ∀ x, w 5 0 x = u 5 0 x) : rs_place w k i = rs_place u k i := by
  unfold rs_place
  simp only [h5]
theorem rs_free_ge {S : Nat} {u : mz_S} (hS : S ≤ 40) : 0 ≤ rs_free S u ↔ rs_ff S u < S := by
  unfold rs_free
  constructor
  · intro h
    by_cases z : rs_ff S u < S
    · exact z
    · rw [if_neg z] at h
      exact absurd h (by decide)
  · intro h
    rw [if_pos h]
    exact nI_pos' (by omega)
theorem rs_lv_o (u : mz_S) (k : Int32) {a : Nat} (h13 : a ≠ 13) (h14 : a ≠ 14) (x f : Nat) : ∀ j, rs_lv u k j a x f = u a x f
  | 0 => rfl
  | j + 1 => by
    unfold rs_lv
    rw [mz_uk h14, mz_uk h13, rs_lv_o u k h13 h14 x f j]
theorem rz.take1 {c : Nat} {u : mz_S} {k : Int32} (hc : c ≤ 12) (h : rz c u k) (i t : Int32) : rz c (rs_take1 u k i t) k := by
  unfold rs_take1
  split
  · rename_i hh
    obtain ⟨q, b, e, rfl, h1, e2, e3, h2, h3⟩ := h
    obtain ⟨⟨g1, g2⟩, -⟩ := hh
    unfold rs_last at g2
    rw [nI_clamp (by omega), e2] at g1 g2
    rw [e3] at g2
    obtain ⟨j, g3, g4, rfl⟩ := nz_mid (by omega) g1 g2
    refine ⟨q, b, j - 1 - b, rfl, h1, ?_, ?_, by omega, h3⟩
    · rw [mz_uk (by decide), mz_uk (by decide)]
      exact e2
    · rw [nI_clamp (by omega), mz_uk (by decide), mz_us, e2, show nI j - 1 = nI (j - 1) from by rw [show j = (j - 1) + 1 by omega, nI_pred]; rfl, pk_sub (by omega)]
  · exact h
theorem rs_add_o (u : mz_S) (k t y : Int32) {a : Nat} (h10 : a ≠ 10) (h11 : a ≠ 11) (h12 : a ≠ 12) (x f : Nat) : rs_add u k t y a x f = u a x f := by
  unfold rs_add
  rw [mz_uk h10, mz_uk h12, mz_uk h11]
theorem rs_take1_o (u : mz_S) (k i t : Int32) {a : Nat} (h8 : a ≠ 8) (h10 : a ≠ 10) (x f : Nat) : rs_take1 u k i t a x f = u a x f := by
  unfold rs_take1
  split
  · rw [mz_uk h8, mz_uk h10]
  · rfl
theorem rs_take_o (c : Nat) (u : mz_S) (k i t y : Int32) {a : Nat} (h8 : a ≠ 8) (h10 : a ≠ 10) (h11 : a ≠ 11) (h12 : a ≠ 12) (x f : Nat) : rs_take c u k i t y a x f = u a x f := by
  unfold rs_take
  split
  · rw [rs_add_o _ _ _ _ h10 h11 h12, rs_take1_o _ _ _ _ h8 h10]
  · rw [rs_take1_o _ _ _ _ h8 h10]
theorem rs_rAppE_o (c : Nat) (u : mz_S) (s : Nat) (k : Int32) {a : Nat} (h8 : a ≠ 8) (h10 : a ≠ 10) (h11 : a ≠ 11) (h12 : a ≠ 12) (x f : Nat) : rs_rAppE c u s k a x f = u a x f := by
  unfold rs_rAppE
  split
  · rfl
  · rw [rs_take_o _ _ _ _ _ _ h8 h10 h11 h12]
theorem rzc.same {c : Nat} {u u' : mz_S} {k i i' : Int32} (h : rzc c u k i) (h5 : ∀ x, u' 5 0 x = u 5 0 x) (h10 : ∀ x, u' 10 0 x = u 10 0 x) (hi : i' = i) : rzc c u' k i' := by
  obtain ⟨q, b, e, p, e1, h1, e2, e3, e4, h⟩ := h
  exact ⟨q, b, e, p, e1, h1, by rw [h5]; exact e2, by rw [h10]; exact e3, by rw [hi]; exact e4, h⟩
