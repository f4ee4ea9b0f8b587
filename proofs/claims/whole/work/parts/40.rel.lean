def re_N (n cap K : Nat) (u r : mz_S) (i : Nat) : Prop :=
  (u 2 i 0 = nI i ∧ (r 1 0 i = 0 ↔ u 2 i 1 = 0) ∧ r 2 0 i = u 2 i 2 ∧ r 3 0 i = u 2 i 3 ∧ r 4 0 i = u 2 i 4 ∧ r 8 0 i = u 2 i 5) ∧
  (r 5 0 i = u 3 i 0 ∧ r 6 0 i = u 3 i 1 ∧ r 7 0 i = u 3 i 2 ∧ r 10 0 i = u 3 i 3) ∧
  (∃ b c k : Nat, u 3 i 0 = nI b ∧ u 3 i 3 = nI c ∧ u 2 i 5 = nI k ∧ b ≤ k ∧ k ≤ b + c ∧ c ≤ cap ∧ b + c ≤ K ∧ ∀ j, j < c → r 11 0 (12 * i + j) = u 4 i j ∧ r 12 0 (12 * i + j) = u 5 i j) ∧
  (u 2 i 2 = 1 → ∀ j, j < 5 → (r 9 0 i >>> (nI j &&& 31) &&& 1 = mz_b (j < n ∧ ¬ u 6 i j = 0))) ∧
  (u 2 i 2 = 2 → ∀ j, j < n → r 13 0 (5 * i + j) = u 7 i j ∧ r 14 0 (5 * i + j) = u 8 i j ∧ ∃ a b, u 7 i j = nI a ∧ u 8 i j = nI b ∧ a ≤ K + 1 ∧ b ≤ K) ∧
  (u 2 i 1 = 0 → u 2 i 2 = 0)
def re_Mf (n K : Nat) (m r : Nat → Int32) : Prop :=
  r 15 = m 0 ∧ ∃ q, q ≤ 5 ∧ m 0 = nI q ∧ (q ≠ 0 →
    (∃ f t, f < n ∧ t < n ∧ m 1 = nI f ∧ m 2 = nI t) ∧ r 16 = m 1 ∧ r 17 = m 2 ∧ r 18 = m 3 ∧ (q ≠ 2 → r 19 = m 4 ∧ ∃ x, x ≤ K ∧ m 4 = nI x) ∧ (q = 1 ∨ q = 3 ∨ q = 5 → r 20 = m 5) ∧
    (q = 2 ∨ q = 4 → (r 21 = 0 ↔ m 6 = 0)) ∧ (q = 3 → (r 21 = 0 ↔ m 7 = 0) ∧ r 24 = m 10 ∧ (∃ w, w ≤ K ∧ m 10 = nI w) ∧ (m 7 ≠ 0 → r 22 = m 8 ∧ r 23 = m 9)) ∧ (q = 5 → r 23 = m 11))
def re_M (n K : Nat) (u r : mz_S) (j : Nat) : Prop := re_Mf n K (u 11 j) (fun a => r a 0 j)
def re (n cap S K : Nat) (u r : mz_S) : Prop := (∀ i, i < n → re_N n cap K u r i) ∧ (∀ j, j < S → re_M n K u r j) ∧ u 9 0 1 = rs_w r S ∧ ∀ j, r 21 0 j = 0 ∨ r 21 0 j = 1
theorem re_N.mono {n cap K K' : Nat} {u r : mz_S} {i : Nat} (h : re_N n cap K u r i) (hK : K ≤ K') : re_N n cap K' u r i := by
  obtain ⟨h0, h1, ⟨b, c, k, a1, a2, a3, a4, a5, a6, a7, a8⟩, h3, h4, h5⟩ := h
  refine ⟨h0, h1, ⟨b, c, k, a1, a2, a3, a4, a5, a6, by omega, a8⟩, h3, fun hl j hj => ?_, h5⟩
  obtain ⟨g1, g2, a, b, g3, g4, g5, g6⟩ := h4 hl j hj
  exact ⟨g1, g2, a, b, g3, g4, by omega, by omega⟩
theorem re_Mf.mono {n K K' : Nat} {m r : Nat → Int32} (h : re_Mf n K m r) (hK : K ≤ K') : re_Mf n K' m r := by
  obtain ⟨h0, q, hq, h1, h2⟩ := h
  refine ⟨h0, q, hq, h1, fun z => ?_⟩
  obtain ⟨g1, g2, g3, g4, g5, g6, g7, g8, g9⟩ := h2 z
  refine ⟨g1, g2, g3, g4, fun y => ?_, g6, g7, fun y => ?_, g9⟩
  · obtain ⟨e, x, hx, ex⟩ := g5 y
    exact ⟨e, x, by omega, ex⟩
  · obtain ⟨e1, e2, ⟨w, hw, ew⟩, e3⟩ := g8 y
    exact ⟨e1, e2, ⟨w, by omega, ew⟩, e3⟩
theorem re_M.mono {n K K' : Nat} {u r : mz_S} {j : Nat} (h : re_M n K u r j) (hK : K ≤ K') : re_M n K' u r j := re_Mf.mono h hK
/-- a copied message -/
theorem re_Mf.cp {n K : Nat} {m m' r r' : Nat → Int32} (h : re_Mf n K m r) (hm : ∀ f, f < 12 → f ≠ 6 → f ≠ 7 → m' f = m f) (h6 : m' 6 = 0 ↔ m 6 = 0) (h7 : m' 7 = 0 ↔ m 7 = 0) (hr : ∀ a, 15 ≤ a → a ≤ 24 → a ≠ 21 → r' a = r a) (h21 : r' 21 = 0 ↔ r 21 = 0) : re_Mf n K m' r' := by
  unfold re_Mf at h ⊢
  rw [ne_eq (m' 7), h7, h21, h6]
  simp only [hm 0 (by omega) (by omega) (by omega), hm 1 (by omega) (by omega) (by omega), hm 2 (by omega) (by omega) (by omega), hm 3 (by omega) (by omega) (by omega), hm 4 (by omega) (by omega) (by omega), hm 5 (by omega) (by omega) (by omega), hm 8 (by omega) (by omega) (by omega), hm 9 (by omega) (by omega) (by omega), hm 10 (by omega) (by omega) (by omega), hm 11 (by omega) (by omega) (by omega),
    hr 15 (by omega) (by omega) (by omega), hr 16 (by omega) (by omega) (by omega), hr 17 (by omega) (by omega) (by omega), hr 18 (by omega) (by omega) (by omega), hr 19 (by omega) (by omega) (by omega), hr 20 (by omega) (by omega) (by omega), hr 22 (by omega) (by omega) (by omega), hr 23 (by omega) (by omega) (by omega), hr 24 (by omega) (by omega) (by omega)]
  exact h
theorem re.mono {n cap S K K' : Nat} {u r : mz_S} (h : re n cap S K u r) (hK : K ≤ K') : re n cap S K' u r := ⟨fun i hi => (h.1 i hi).mono hK, fun j hj => (h.2.1 j hj).mono hK, h.2.2⟩
/-- what a node's relation reads of the two states -/
theorem re_N.same {n cap K : Nat} {u u' r r' : mz_S} {i : Nat} (h : re_N n cap K u r i) (hc : cap ≤ 12) (hn : n ≤ 5) (hu : ∀ k f, 2 ≤ k → k ≤ 8 → u' k i f = u k i f) (h1 : ∀ a, a ≤ 10 → r' a 0 i = r a 0 i) (h2 : ∀ j, j < 12 → r' 11 0 (12 * i + j) = r 11 0 (12 * i + j) ∧ r' 12 0 (12 * i + j) = r 12 0 (12 * i + j)) (h3 : ∀ j, j < 5 → r' 13 0 (5 * i + j) = r 13 0 (5 * i + j) ∧ r' 14 0 (5 * i + j) = r 14 0 (5 * i + j)) : re_N n cap K u' r' i := by
  obtain ⟨p0, p1, ⟨b, c, k, a1, a2, a3, a4, a5, a6, a7, a8⟩, p3, p4, p5⟩ := h
  have e2 : ∀ f, u' 2 i f = u 2 i f := fun f => hu 2 f (by omega) (by omega)
  have e3 : ∀ f, u' 3 i f = u 3 i f := fun f => hu 3 f (by omega) (by omega)
  have e4 : ∀ f, u' 4 i f = u 4 i f := fun f => hu 4 f (by omega) (by omega)
  have e5 : ∀ f, u' 5 i f = u 5 i f := fun f => hu 5 f (by omega) (by omega)
  have e6 : ∀ f, u' 6 i f = u 6 i f := fun f => hu 6 f (by omega) (by omega)
  have e7 : ∀ f, u' 7 i f = u 7 i f := fun f => hu 7 f (by omega) (by omega)
  have e8 : ∀ f, u' 8 i f = u 8 i f := fun f => hu 8 f (by omega) (by omega)
  refine ⟨?_, ?_, ⟨b, c, k, by rw [e3]; exact a1, by rw [e3]; exact a2, by rw [e2]; exact a3, a4, a5, a6, a7, fun j hj => ?_⟩, fun hl j hj => ?_, fun hl j hj => ?_, fun hz => ?_⟩
  · simp only [e2, h1 1 (by omega), h1 2 (by omega), h1 3 (by omega), h1 4 (by omega), h1 8 (by omega)]
    exact p0
  · simp only [e3, h1 5 (by omega), h1 6 (by omega), h1 7 (by omega), h1 10 (by omega)]
    exact p1
  · rw [(h2 j (by omega)).1, (h2 j (by omega)).2, e4, e5]
    exact a8 j hj
  · rw [h1 9 (by omega), e6]
    exact p3 (by rw [← e2]; exact hl) j hj
  · rw [(h3 j (by omega)).1, (h3 j (by omega)).2, e7, e8]
    exact p4 (by rw [← e2]; exact hl) j hj
  · rw [e2] at hz ⊢
    exact p5 hz
theorem re_M.same {n K : Nat} {u u' r r' : mz_S} {j : Nat} (h : re_M n K u r j) (hu : ∀ f, u' 11 j f = u 11 j f) (hr : ∀ a, 15 ≤ a → r' a 0 j = r a 0 j) : re_M n K u' r' j :=
  re_Mf.cp h (fun f _ _ _ => hu f) (by rw [hu]) (by rw [hu]) (fun a h1 _ _ => hr a h1) (by rw [hr 21 (by omega)])
theorem rs_w_same {r r' : mz_S} : ∀ (S : Nat), (∀ j, j < S → r' 15 0 j = r 15 0 j) → rs_w r' S = rs_w r S
  | 0, _ => rfl
  | S + 1, h => by
    unfold rs_w
    rw [rs_w_same S (fun j hj => h j (by omega)), h S (by omega)]
/-- only node i is touched -/
theorem re.node {n cap S K K' : Nat} {u u' r r' : mz_S} {i : Nat} (h : re n cap S K u r) (hc : cap ≤ 12) (hn : n ≤ 5) (hK : K ≤ K') (hi : re_N n cap K' u' r' i)
    (hu : ∀ k x f, x ≠ i ∨ 8 < k → u' k x f = u k x f) (h1 : ∀ a x, a ≤ 10 → x ≠ i → r' a 0 x = r a 0 x) (h2 : ∀ x, (x < 12 * i ∨ 12 * i + 12 ≤ x) → r' 11 0 x = r 11 0 x ∧ r' 12 0 x = r 12 0 x) (h3 : ∀ x, (x < 5 * i ∨ 5 * i + 5 ≤ x) → r' 13 0 x = r 13 0 x ∧ r' 14 0 x = r 14 0 x) (h4 : ∀ a x, 15 ≤ a → r' a 0 x = r a 0 x) : re n cap S K' u' r' := by
  refine ⟨fun x hx => ?_, fun j hj => ?_, ?_, ?_⟩
  · by_cases e : x = i
    · subst e
      exact hi
    · exact ((h.1 x hx).same hc hn (fun k f _ _ => hu k x f (Or.inl e)) (fun a ha => h1 a x ha e) (fun j hj => h2 _ (by omega)) (fun j hj => h3 _ (by omega))).mono hK
  · exact ((h.2.1 j hj).same (fun f => hu 11 j f (Or.inr (by omega))) (fun a ha => h4 a j ha)).mono hK
  · rw [hu 9 0 1 (Or.inr (by omega)), h.2.2.1, rs_w_same S (fun j _ => h4 15 j (by omega))]
  · intro j
    rw [h4 21 j (by omega)]
    exact h.2.2.2 j
