def bt (x : Int32) (i : Nat) : Bool := x.toBitVec.getLsbD i
theorem b_ext {x y : Int32} (h : ∀ i, i < 32 → bt x i = bt y i) : x = y := Int32.toBitVec_inj.mp (BitVec.eq_of_getLsbD_eq (fun i hi => h i hi))
theorem b_or (x y : Int32) (i : Nat) : bt (x ||| y) i = (bt x i || bt y i) := by unfold bt; rw [Int32.toBitVec_or, BitVec.getLsbD_or]
theorem b_and (x y : Int32) (i : Nat) : bt (x &&& y) i = (bt x i && bt y i) := by unfold bt; rw [Int32.toBitVec_and, BitVec.getLsbD_and]
theorem b_big {x : Int32} {i : Nat} (h : 32 ≤ i) : bt x i = false := BitVec.getLsbD_of_ge _ _ h
theorem b_0 (i : Nat) : bt 0 i = false := BitVec.getLsbD_zero
theorem s_l : ∀ n, n < 32 → ((nI n &&& 31).toBitVec.smod 32).toNat = n := by decide +kernel
theorem b_shl (n : Nat) (hn : n < 32) (x : Int32) {i : Nat} (hi : i < 32) : bt (x <<< (nI n &&& 31)) i = (decide (n ≤ i) && bt x (i - n)) := by
  unfold bt
  rw [Int32.toBitVec_shiftLeft]
  show (x.toBitVec <<< ((nI n &&& 31).toBitVec.smod 32).toNat).getLsbD i = _
  rw [s_l n hn, BitVec.getLsbD_shiftLeft]
  rcases Nat.lt_or_ge i n with h | h
  · simp [h, Nat.not_le.mpr h]
  · simp [hi, h, Nat.not_lt.mpr h]
theorem b_sshr (n : Nat) (hn : n < 32) (x : Int32) {i : Nat} (hi : i < 32) : bt (x >>> (nI n &&& 31)) i = if n + i < 32 then bt x (n + i) else bt x 31 := by
  unfold bt
  rw [Int32.toBitVec_shiftRight]
  show (x.toBitVec.sshiftRight ((nI n &&& 31).toBitVec.smod 32).toNat).getLsbD i = _
  rw [s_l n hn, BitVec.getLsbD_sshiftRight, BitVec.msb_eq_getLsbD_last]
  simp [hi]
theorem bt_1 : ∀ j, j < 32 → bt 1 j = decide (j = 0) := by decide +kernel
theorem bt_val (x : Int32) {j : Nat} (hj : j < 32) : x >>> (nI j &&& 31) &&& 1 = mz_b (bt x j = true) := by
  refine b_ext (fun i hi => ?_)
  rw [b_and, b_sshr j hj x hi, bt_1 i hi]
  by_cases z : i = 0
  · subst z
    rw [if_pos (by omega), Nat.add_zero]
    by_cases y : bt x j = true
    · rw [mz_b_t y, y]
      rfl
    · rw [mz_b_f y]
      simp at y
      rw [y]
      rfl
  · simp only [z, decide_false, Bool.and_false]
    by_cases y : bt x j = true
    · rw [mz_b_t y, bt_1 i hi]
      simp [z]
    · rw [mz_b_f y, b_0]
theorem bt_sh {f j : Nat} (hf : f < 32) (hj : j < 32) : bt ((1 : Int32) <<< (nI f &&& 31)) j = decide (j = f) := by
  rw [b_shl f hf 1 hj, bt_1 _ (by omega)]
  by_cases z : f ≤ j
  · simp only [z, decide_true, Bool.true_and]
    by_cases y : j = f
    · simp [y]
    · simp [y]
      omega
  · have : ¬ j = f := by omega
    simp [z, this]
theorem rs_bits_s (x : Int32) (k : Nat) : rs_bits x (k + 1) = rs_bits x k + (x >>> (nI k &&& 31) &&& 1) := rfl
/-- the bits of a set, counted: as many as the p that hold -/
theorem rs_bits_up {x : Int32} {n : Nat} (h : ∀ j, n ≤ j → j < 5 → x >>> (nI j &&& 31) &&& 1 = 0) : ∀ j, n ≤ j → j ≤ 5 → rs_bits x j = rs_bits x n
  | 0, h1, _ => by rw [show n = 0 by omega]
  | j + 1, h1, h2 => by
    by_cases z : n = j + 1
    · rw [z]
    · rw [rs_bits_s, h j (by omega) (by omega), Int32.add_zero]
      exact rs_bits_up h j (by omega) (by omega)
section RV
variable {n cap S K : Nat} {u r : mz_S} {i : Nat}
theorem qs_cv_bits {x : Int32} (h : ∀ j, j < 5 → x >>> (nI j &&& 31) &&& 1 = mz_b (j < n ∧ ¬ u 6 i j = 0)) (hn : n ≤ 5) : ∀ j, j ≤ n → rs_bits x j = qs_cv u i j
  | 0, _ => rfl
  | j + 1, hj => by
    rw [rs_bits_s, qs_cv_s, qs_cv_bits h hn j (by omega), h j (by omega)]
    by_cases z : u 6 i j = 0
    · rw [if_pos z, mz_b_f (fun y => y.2 z), Int32.add_zero]
    · rw [if_neg z, mz_b_t ⟨by omega, z⟩]
theorem rs_most_cv {x : Int32} (h : ∀ j, j < 5 → x >>> (nI j &&& 31) &&& 1 = mz_b (j < n ∧ ¬ u 6 i j = 0)) (hn : n ≤ 5) : rs_most x (nI n) ↔ qs_maj n (qs_cv u i n) := by
  unfold rs_most qs_maj
  rw [rs_bits_up (n := n) (fun j h1 h2 => by rw [h j h2, mz_b_f (fun z => by omega)]) 5 hn (Nat.le_refl 5), qs_cv_bits h hn n (Nat.le_refl n)]
/-- who has the entry: the set of the reference, the count of the class -/
theorem rs_set_bt (k y : Int32) : ∀ m j, j < 5 → m ≤ 5 → bt (rs_set r k y m) j = (bt ((1 : Int32) <<< (k &&& 31)) j || decide (j < m ∧ y ≤ r 14 0 (5 * k + nI j).toNatClampNeg))
  | 0, j, _, _ => by
    unfold rs_set
    simp
  | m + 1, j, hj, hm => by
    unfold rs_set
    have ih := rs_set_bt k y m j hj (by omega)
    by_cases z : y ≤ r 14 0 (5 * k + nI m).toNatClampNeg
    · rw [if_pos z, b_or, ih, bt_sh (by omega) (by omega)]
      by_cases e : j = m
      · subst e
        simp [z]
      · have : (j < m + 1) ↔ j < m := by omega
        simp [e, this]
    · rw [if_neg z, ih]
      by_cases e : j = m
      · subst e
        simp [z]
      · have : (j < m + 1) ↔ j < m := by omega
        simp [this]
theorem qs_ch_bits {x y : Int32} (h : ∀ j, j < 5 → x >>> (nI j &&& 31) &&& 1 = mz_b (j < n ∧ (nI j = u 2 i 0 ∨ y ≤ u 8 i j))) (hn : n ≤ 5) : ∀ j, j ≤ n → rs_bits x j = qs_ch u i y j
  | 0, _ => rfl
  | j + 1, hj => by
    rw [rs_bits_s, qs_ch_s, qs_ch_bits h hn j (by omega), h j (by omega)]
    by_cases z : nI j = u 2 i 0 ∨ y ≤ u 8 i j
    · rw [if_pos z, mz_b_t ⟨by omega, z⟩]
    · rw [if_neg z, mz_b_f (fun y => z y.2), Int32.add_zero]
theorem rs_most_ch (h0 : re_N n cap K u r i) (hi : i < n) (hn : n ≤ 5) (hr : u 2 i 2 = 2) (y : Int32) : rs_most (rs_set r (nI i) y n) (nI n) ↔ qs_maj n (qs_ch u i y n) := by
  have h : ∀ j, j < 5 → rs_set r (nI i) y n >>> (nI j &&& 31) &&& 1 = mz_b (j < n ∧ (nI j = u 2 i 0 ∨ y ≤ u 8 i j)) := by
    intro j hj
    rw [bt_val _ (by omega), rs_set_bt _ _ n j hj hn, bt_sh (by omega) (by omega)]
    refine mz_b_iff ?_
    rw [rz_i5, nI_clamp (by omega), h0.1.1, nI_eq (by omega) (by omega)]
    by_cases e : j < n
    · have := (h0.2.2.2.2.1 hr j e).2.1
      simp [e, this]
    · simp [e]
      omega
  unfold rs_most qs_maj
  rw [rs_bits_up (n := n) (fun j h1 h2 => by rw [h j h2, mz_b_f (fun z => by omega)]) 5 hn (Nat.le_refl 5), qs_ch_bits h hn n (Nat.le_refl n)]
end RV
