section RR
variable {n cap S K : Nat} {u u' w r r' : mz_S} {i : Nat}
theorem re.kinds (h : re n cap S K u r) : ∀ j, j < S → ∃ q, q ≤ 5 ∧ r 15 0 j = nI q := by
  intro j hj
  obtain ⟨h0, q, hq, h1, -⟩ := h.2.1 j hj
  exact ⟨q, hq, h0.trans h1⟩
theorem re.ff (h : re n cap S K u r) : qs_ff S u = rs_ff S r := by
  unfold qs_ff rs_ff
  refine mz_ff_same S 0 (fun x _ hx => ?_)
  have := (h.2.1 x (by omega)).1
  simp only at this ⊢
  rw [this]
theorem re.wait (h : re n cap S K u r) : u 9 0 1 = nI (mz_cnt (fun j => r 15 0 j) S) := h.2.2.1.trans (rs_w_cnt S h.kinds)
theorem re.put (h : re n cap S K u r) (hc : cap ≤ 12) (hn : n ≤ 5) (hf : rs_ff S r < S) (hu : ∀ k x f, k ≤ 8 → u' k x f = u k x f) (hm : ∀ j, j < S → j ≠ rs_ff S r → ∀ f, u' 11 j f = u 11 j f) (hw : u' 9 0 1 = u 9 0 1 + 1) (h1 : ∀ a x, a ≤ 14 → r' a 0 x = r a 0 x) (h2 : ∀ a j, 15 ≤ a → j ≠ rs_ff S r → r' a 0 j = r a 0 j) (hj : re_M n K u' r' (rs_ff S r)) (hz : r' 15 0 (rs_ff S r) ≠ 0) (h21 : r' 21 0 (rs_ff S r) = 0 ∨ r' 21 0 (rs_ff S r) = 1) : re n cap S K u' r' := by
  have hM : ∀ j, j < S → re_M n K u' r' j := fun j hj' => by
    by_cases e : j = rs_ff S r
    · rw [e]; exact hj
    · exact (h.2.1 j hj').same (hm j hj' e) (fun a ha => h2 a j ha e)
  refine ⟨fun x hx => (h.1 x hx).same hc hn (fun k f _ hk => hu k x f hk) (fun a ha => h1 a x (by omega)) (fun j _ => ⟨h1 _ _ (by omega), h1 _ _ (by omega)⟩) (fun j _ => ⟨h1 _ _ (by omega), h1 _ _ (by omega)⟩), hM, ?_, fun j => ?_⟩
  case refine_2 =>
    by_cases e : j = rs_ff S r
    · rw [e]; exact h21
    · rw [h2 21 j (by omega) e]; exact h.2.2.2 j
  have hk : ∀ j, j < S → ∃ q, q ≤ 5 ∧ r' 15 0 j = nI q := fun j hj' => by
    obtain ⟨h0, q, hq, e, -⟩ := hM j hj'
    exact ⟨q, hq, h0.trans e⟩
  rw [hw, h.wait, rs_w_cnt S hk, nI_1, mz_cnt_put (f := fun j => r 15 0 j) (g := fun j => r' 15 0 j) (x := rs_ff S r) (mz_ff_free _ S 0 (by rw [Nat.zero_add]; exact hf)) hz S hf (fun j _ e => by rw [h2 15 j (by omega) e])]
-- a copy, place by place
theorem qs_copy_f (u : mz_S) (a b : Nat) {f : Nat} (hf : f < 12) (h6 : f ≠ 6) (h7 : f ≠ 7) : qs_copy u a b 11 a f = u 11 b f := by
  rcases (show f = 0 ∨ f = 1 ∨ f = 2 ∨ f = 3 ∨ f = 4 ∨ f = 5 ∨ f = 8 ∨ f = 9 ∨ f = 10 ∨ f = 11 by omega) with rfl | rfl | rfl | rfl | rfl | rfl | rfl | rfl | rfl | rfl <;> simp [qs_copy, mz_at]
theorem qs_copy_6 (u : mz_S) (a b : Nat) : qs_copy u a b 11 a 6 = 0 ↔ u 11 b 6 = 0 := by
  have : qs_copy u a b 11 a 6 = mz_b (u 11 b 6 ≠ 0) := by simp [qs_copy, mz_at]
  rw [this, mz_b_0]
  simp
theorem qs_copy_7 (u : mz_S) (a b : Nat) : qs_copy u a b 11 a 7 = 0 ↔ u 11 b 7 = 0 := by
  have : qs_copy u a b 11 a 7 = mz_b (u 11 b 7 ≠ 0) := by simp [qs_copy, mz_at]
  rw [this, mz_b_0]
  simp
/-- a message is put: the draft w lies at S; r' has it in the first free slot -/
theorem re.sent (h : re n cap S K u r) (hc : cap ≤ 12) (hn : n ≤ 5) (hf : rs_ff S r < S) (hw : ∀ k x f, ¬ (k = 11 ∧ x = S) → w k x f = u k x f) (h1 : ∀ a x, a ≤ 14 → r' a 0 x = r a 0 x) (h2 : ∀ a j, 15 ≤ a → j ≠ rs_ff S r → r' a 0 j = r a 0 j) (hM : re_Mf n K (w 11 S) (fun a => r' a 0 (rs_ff S r))) (hz : w 11 S 0 ≠ 0) (h21 : r' 21 0 (rs_ff S r) = 0 ∨ r' 21 0 (rs_ff S r) = 1) : re n cap S K (qs_put S w S) r' := by
  have ef : qs_ff S w = rs_ff S r := by
    rw [← h.ff]
    unfold qs_ff
    exact mz_ff_same S 0 (fun x _ hx => by rw [hw 11 x 0 (by omega)])
  have e : qs_put S w S = qs_put1 w (rs_ff S r) S := by
    unfold qs_put
    rw [ef, if_pos hf]
  rw [e]
  unfold qs_put1
  refine h.put hc hn hf (fun k x f hk => ?_) (fun j hj e f => ?_) ?_ h1 h2 ?_ ?_ h21
  · rw [mz_uk (by omega), qs_copy_o _ _ _ (by omega), hw k x f (by omega)]
  · rw [mz_uk (by omega), qs_copy_o _ _ _ (by omega), hw 11 j f (by omega)]
  · rw [mz_us, hw 9 0 1 (by omega)]
  · refine re_Mf.cp (m := w 11 S) (r := fun a => r' a 0 (rs_ff S r)) hM (fun f hf h6 h7 => ?_) ?_ ?_ (fun _ _ _ _ => rfl) Iff.rfl
    · rw [mz_uk (by omega), qs_copy_f _ _ _ hf h6 h7]
    · rw [mz_uk (by omega), qs_copy_6]
    · rw [mz_uk (by omega), qs_copy_7]
  · have := hM.1
    simp only at this
    rw [this]
    exact hz
-- a node's reads
theorem re_N.last (h : re_N n cap K u r i) (hi : i < 5) : rs_last r (nI i) = qs_last u i := by
  obtain ⟨-, ⟨h5, -, -, h10⟩, -⟩ := h
  unfold rs_last qs_last
  rw [nI_clamp (by omega), h5, h10]
theorem re_N.has (h : re_N n cap K u r i) (hi : i < 5) (x : Int32) : rs_has r (nI i) x ↔ qs_has u i x := by
  unfold rs_has
  rw [h.last hi, nI_clamp (by omega), h.2.1.1]
  exact Iff.rfl
theorem re_N.ix (h : re_N n cap K u r i) (hi : i < 5) (hc : cap ≤ 12) (hK : K ≤ 100000) {x : Int32} (hx : qs_has u i x) : ∃ j c : Nat, j < c ∧ u 3 i 3 = nI c ∧ c ≤ cap ∧ (x - u 3 i 0 - 1).toNatClampNeg = j ∧ (rs_place r (nI i) x).toNatClampNeg = 12 * i + j ∧ r 11 0 (12 * i + j) = u 4 i j ∧ r 12 0 (12 * i + j) = u 5 i j := by
  obtain ⟨-, ⟨h5, -, -, h10⟩, ⟨b, c, k, a1, a2, a3, a4, a5, a6, a7, a8⟩, -⟩ := h
  obtain ⟨g1, g2⟩ := hx
  rw [a1] at g1 g2
  rw [a2] at g2
  obtain ⟨j, g3, g4, rfl⟩ := nz_mid (by omega) g1 g2
  refine ⟨j - b - 1, c, by omega, a2, a6, ?_, ?_, a8 _ (by omega)⟩
  · rw [a1, pk_sub (by omega), show nI (j - b) - 1 = nI (j - b - 1) from by
      rw [show j - b = (j - b - 1) + 1 by omega, nI_pred]; rfl, nI_clamp (by omega)]
  · unfold rs_place
    rw [nI_clamp (by omega), h5, a1, show (12 : Int32) = nI 12 from rfl, pk_mul, nI_add, pk_sub (by omega), show nI (12 * i + j - b) - 1 = nI (12 * i + (j - b - 1)) from by
      rw [show 12 * i + j - b = (12 * i + (j - b - 1)) + 1 by omega, nI_pred], nI_clamp (by omega)]
theorem re_N.term (h : re_N n cap K u r i) (hi : i < 5) (hc : cap ≤ 12) (hK : K ≤ 100000) (x : Int32) : rs_term r (nI i) x = qs_term u i x := by
  unfold rs_term qs_term
  simp only [nI_clamp (show i < 2 ^ 31 by omega), h.2.1.1, h.2.1.2.1]
  by_cases hx : x = u 3 i 0
  · rw [if_pos hx, if_neg (fun z => absurd z.1 (by rw [hx]; exact Int32.lt_irrefl)), if_pos hx]
  · rw [if_neg hx]
    by_cases hh : qs_has u i x
    · rw [if_pos ((h.has hi x).mpr hh), if_pos hh]
      obtain ⟨j, c, -, -, -, e1, e2, e3, -⟩ := h.ix hi hc hK hh
      rw [e1, e2, e3]
    · rw [if_neg (fun z => hh ((h.has hi x).mp z)), if_neg hh, if_neg hx]
theorem re_N.lastT (h : re_N n cap K u r i) (hi : i < 5) (hc : cap ≤ 12) (hK : K ≤ 100000) : rs_term r (nI i) (rs_last r (nI i)) = qs_lastT u i := by
  rw [h.term hi hc hK, h.last hi]
  obtain ⟨-, -, ⟨b, c, k, a1, a2, a3, a4, a5, a6, a7, a8⟩, -⟩ := h
  unfold qs_term qs_lastT qs_last qs_has
  simp only [a1, a2, nI_add]
  by_cases z : c = 0
  · subst z
    rw [if_neg (fun y => absurd y.1 (by rw [Nat.add_zero]; exact Int32.lt_irrefl)), if_pos (by rw [Nat.add_zero]), if_neg (by rw [nI_0]; exact Int32.lt_irrefl)]
  · rw [if_pos ⟨nI_lt (by omega) (by omega), Int32.le_refl _⟩, if_pos ((nz_qp (by omega)).mpr z), pk_sub (by omega), show b + c - b = c by omega]
theorem re_N.cmd (h : re_N n cap K u r i) (hi : i < 5) (hc : cap ≤ 12) (hK : K ≤ 100000) (x : Int32) : (if rs_has r (nI i) x then r 12 0 (rs_place r (nI i) x).toNatClampNeg else 0) = qs_cmd u i x := by
  unfold qs_cmd
  by_cases hh : qs_has u i x
  · rw [if_pos ((h.has hi x).mpr hh), if_pos hh]
    obtain ⟨j, c, -, -, -, e1, e2, -, e3⟩ := h.ix hi hc hK hh
    rw [e1, e2, e3]
  · rw [if_neg (fun z => hh ((h.has hi x).mp z)), if_neg hh]
theorem re_N.entT (h : re_N n cap K u r i) (hi : i < 5) (hc : cap ≤ 12) (hK : K ≤ 100000) {x : Int32} (hh : qs_has u i x) : r 11 0 (rs_place r (nI i) x).toNatClampNeg = qs_term u i x := by
  unfold qs_term
  rw [if_pos hh]
  obtain ⟨j, c, -, -, -, e1, e2, e3, -⟩ := h.ix hi hc hK hh
  rw [e1, e2, e3]
theorem re_N.fold (h : re_N n cap K u r i) : ∀ j c : Nat, u 3 i 3 = nI c → c ≤ cap → cap ≤ 12 → j ≤ c → rs_fold r i j = qs_fold u i j
  | 0, _, _, _, _, _ => h.2.1.2.2.1
  | j + 1, c, hc, h1, h2, h3 => by
    unfold rs_fold qs_fold
    rw [h.fold j c hc h1 h2 (by omega)]
    obtain ⟨-, -, ⟨b, c', k, a1, a2, a3, a4, a5, a6, a7, a8⟩, -⟩ := h
    rw [a2, nI_eq (by omega) (by omega)] at hc
    rw [(a8 j (by omega)).2]
theorem re_N.state (h : re_N n cap K u r i) (hi : i < 5) (hc : cap ≤ 12) (hK : K ≤ 100000) : rs_state r (nI i) (r 8 0 i) = qs_state u i (u 2 i 5) := by
  have hh := h
  obtain ⟨⟨-, -, -, -, -, h8⟩, ⟨h5, -, -, -⟩, ⟨b, c, k, a1, a2, a3, a4, a5, a6, a7, a8⟩, -⟩ := h
  unfold rs_state qs_state
  rw [nI_clamp (by omega), h8, h5, a3, a1, pk_sub (by omega), nI_clamp (by omega)]
  exact hh.fold _ c a2 a6 hc (by omega)
end RR
