theorem sw_q {q : Nat} (h : q ≤ 5) (h0 : q ≠ 0) : q = 1 ∨ q = 2 ∨ q = 3 ∨ q = 4 ∨ q = 5 := by omega
theorem sw_1 {α : Type} (A B C D E : α) : (if nI 1 = 1 then A else if nI 1 = 2 then B else if nI 1 = 3 then C else if nI 1 = 4 then D else E) = A := if_pos rfl
theorem sw_2 {α : Type} (A B C D E : α) : (if nI 2 = 1 then A else if nI 2 = 2 then B else if nI 2 = 3 then C else if nI 2 = 4 then D else E) = B := (if_neg (by decide)).trans (if_pos rfl)
theorem sw_3 {α : Type} (A B C D E : α) : (if nI 3 = 1 then A else if nI 3 = 2 then B else if nI 3 = 3 then C else if nI 3 = 4 then D else E) = C := (if_neg (by decide)).trans ((if_neg (by decide)).trans (if_pos rfl))
theorem sw_4 {α : Type} (A B C D E : α) : (if nI 4 = 1 then A else if nI 4 = 2 then B else if nI 4 = 3 then C else if nI 4 = 4 then D else E) = D := (if_neg (by decide)).trans ((if_neg (by decide)).trans ((if_neg (by decide)).trans (if_pos rfl)))
theorem sw_5 {α : Type} (A B C D E : α) : (if nI 5 = 1 then A else if nI 5 = 2 then B else if nI 5 = 3 then C else if nI 5 = 4 then D else E) = E := (if_neg (by decide)).trans ((if_neg (by decide)).trans ((if_neg (by decide)).trans (if_neg (by decide))))
section RD
variable {n cap S K : Nat} {u r : mz_S} {i a s f : Nat}
/-- a message is received; m: what the slot bore -/
theorem re.rcv (h : re n cap S K u r) (hc : cap ≤ 12) (hn : n ≤ 5) (hK : K + 1 ≤ 100000) (hff : rs_ff S r < S) {m : Nat → Int32} (hM : re_Mf n K (u 11 a) m) (hm : ∀ b, 16 ≤ b → r b 0 s = m b) (hq : u 11 a 0 ≠ 0) : re n cap S (K + 1) (qs_rcv n cap S u (u 11 a 2).toNatClampNeg a) (rs_rcv n cap S r (u 11 a 0) s (m 17) (m 16)) := by
  obtain ⟨-, q, hq5, eq, hR⟩ := hM
  have hq0 : q ≠ 0 := by
    intro z
    rw [eq, z] at hq
    exact hq rfl
  obtain ⟨⟨f, t, hf, ht, ef, et⟩, m16, m17, m18, m19, m20, m21, m3, m5⟩ := hR hq0
  rw [m17, m16, et, ef, nI_clamp (show t < 2 ^ 31 by omega)]
  unfold qs_rcv rs_rcv
  have h0 := h.1 t ht
  rw [nI_clamp (show t < 2 ^ 31 by omega), h0.1.2.2.2.1, hm 18 (by omega), m18]
  -- the term
  obtain ⟨hE, hffE, eu, er⟩ : re n cap S K (if u 2 t 3 < u 11 a 3 then qs_enter u t (u 11 a 3) else u) (if u 2 t 3 < u 11 a 3 then rs_enter r (nI t) (u 11 a 3) else r) ∧ rs_ff S (if u 2 t 3 < u 11 a 3 then rs_enter r (nI t) (u 11 a 3) else r) < S ∧ (∀ k, (if u 2 t 3 < u 11 a 3 then qs_enter u t (u 11 a 3) else u) 11 a k = u 11 a k) ∧ (∀ b, 16 ≤ b → (if u 2 t 3 < u 11 a 3 then rs_enter r (nI t) (u 11 a 3) else r) b 0 s = m b) := by
    by_cases z : u 2 t 3 < u 11 a 3
    · rw [if_pos z, if_pos z]
      refine ⟨h.enter hc hn ht _, ?_, fun k => ?_, fun b hb => ?_⟩
      · unfold rs_enter
        rw [rs_ff_u (by decide), rs_ff_u (by decide), rs_ff_u (by decide)]
        exact hff
      · unfold qs_enter
        rw [mz_uk (by decide), mz_uk (by decide), mz_uk (by decide)]
      · unfold rs_enter
        rw [mz_uk (by omega), mz_uk (by omega), mz_uk (by omega)]
        exact hm b hb
    · rw [if_neg z, if_neg z]
      exact ⟨h, hff, fun k => rfl, hm⟩
  generalize (if u 2 t 3 < u 11 a 3 then qs_enter u t (u 11 a 3) else u) = v at hE eu ⊢
  generalize (if u 2 t 3 < u 11 a 3 then rs_enter r (nI t) (u 11 a 3) else r) = y at hE hffE er ⊢
  unfold qs_rcv1 rs_act
  rw [eu, eq]
  rcases sw_q hq5 hq0 with rfl | rfl | rfl | rfl | rfl
  · rw [sw_1, sw_1]
    obtain ⟨g1, x, hx, g2⟩ := m19 (by decide)
    exact (hE.rAsk hc hn (by omega) hffE ht hf (by rw [eu]; exact ef) (by rw [er 18 (by omega), eu]; exact m18) (by rw [er 19 (by omega), eu]; exact g1) (by rw [er 20 (by omega), eu]; exact m20 (Or.inl rfl))).mono (by omega)
  · rw [sw_2, sw_2]
    exact (hE.rVote hc hn (by omega) ht hf (by rw [eu]; exact ef) (by rw [er 18 (by omega), eu]; exact m18) (by rw [er 21 (by omega), eu]; exact m21 (Or.inl rfl))).mono (by omega)
  · rw [sw_3, sw_3]
    obtain ⟨g1, x, hx, g2⟩ := m19 (by decide)
    obtain ⟨k1, k2, ⟨w, hw, k3⟩, k4⟩ := m3 rfl
    exact hE.rApp hc hn hK hffE ht hf (by rw [eu]; exact ef) (by rw [er 18 (by omega), eu]; exact m18) (by rw [er 19 (by omega), eu]; exact g1) (by rw [eu]; exact g2) hx (by rw [er 20 (by omega), eu]; exact m20 (Or.inr (Or.inl rfl))) (by rw [er 21 (by omega), eu]; exact k1) (by rw [er 24 (by omega), eu]; exact k2) (by rw [eu]; exact k3) hw (by rw [er 22 (by omega), er 23 (by omega), eu, eu, eu]; exact k4)
  · rw [sw_4, sw_4]
    obtain ⟨g1, x, hx, g2⟩ := m19 (by decide)
    exact (hE.rAns hc hn (by omega) ht hf (by rw [eu]; exact ef) (by rw [er 18 (by omega), eu]; exact m18) (by rw [er 19 (by omega), eu]; exact g1) (by rw [eu]; exact g2) hx (by rw [er 21 (by omega), eu]; exact m21 (Or.inr rfl))).mono (by omega)
  · rw [sw_5, sw_5]
    obtain ⟨g1, x, hx, g2⟩ := m19 (by decide)
    exact (hE.rSnap hc hn hK hffE ht hf (by rw [eu]; exact ef) (by rw [er 18 (by omega), eu]; exact m18) (by rw [er 19 (by omega), eu]; exact g1) (by rw [eu]; exact g2) hx (by rw [er 20 (by omega), eu]; exact m20 (Or.inr (Or.inr rfl))) (by rw [er 23 (by omega), eu]; exact m5 rfl)).mono (by omega)
/-- a slot becomes free -/
theorem re.clear {u' : mz_S} (h : re n cap S K u r) (hc : cap ≤ 12) (hn : n ≤ 5) {j : Nat} (hj : j < S) (hz : ¬ u 11 j 0 = 0) (hu : ∀ k x f, k ≤ 8 → u' k x f = u k x f) (hm : ∀ x, x < S → x ≠ j → ∀ f, u' 11 x f = u 11 x f) (h0 : u' 11 j 0 = 0) (hw : u' 9 0 1 = u 9 0 1 - 1) : re n cap S K u' (mz_u r 15 0 j 0) := by
  have hr : ∀ a x, ¬ (a = 15 ∧ x = j) → mz_u r 15 0 j 0 a 0 x = r a 0 x := fun a x z => by
    rw [mz_at, if_neg (fun y => z ⟨y.1, y.2.2⟩)]
  have hM : ∀ x, x < S → re_M n K u' (mz_u r 15 0 j 0) x := fun x hx => by
    by_cases e : x = j
    · subst e
      refine ⟨?_, 0, by omega, h0, fun z => absurd rfl z⟩
      show mz_u r 15 0 x 0 15 0 x = u' 11 x 0
      rw [mz_us, h0]
    · exact (h.2.1 x hx).same (hm x hx e) (fun a _ => hr a x (fun y => e y.2))
  refine ⟨fun x hx => (h.1 x hx).same hc hn (fun k f _ hk => hu k x f hk) (fun a ha => hr a x (by omega)) (fun j _ => ⟨hr _ _ (by omega), hr _ _ (by omega)⟩) (fun j _ => ⟨hr _ _ (by omega), hr _ _ (by omega)⟩), hM, ?_, fun x => ?_⟩
  · have hk : ∀ x, x < S → ∃ q, q ≤ 5 ∧ mz_u r 15 0 j 0 15 0 x = nI q := fun x hx => by
      obtain ⟨h0, q, hq, e, -⟩ := hM x hx
      exact ⟨q, hq, h0.trans e⟩
    have e15 : r 15 0 j = u 11 j 0 := (h.2.1 j hj).1
    have := mz_cnt_put (f := fun x => mz_u r 15 0 j 0 15 0 x) (g := fun x => r 15 0 x) (x := j) (by rw [mz_us]) (by rw [e15]; exact hz) S hj (fun x _ e => by rw [hr 15 x (fun y => e y.2)])
    rw [hw, h.wait, rs_w_cnt S hk, this, nI_pred]
  · rw [hr 21 x (by omega)]
    exact h.2.2.2 x
theorem re.dlv (h : re n cap S K u r) (hc : cap ≤ 12) (hn : n ≤ 5) {j : Nat} (hj : j < S) (hz : ¬ u 11 j 0 = 0) : re n cap S K (qs_dlv S u j) (mz_u r 15 0 j 0) ∧ rs_ff S (mz_u r 15 0 j 0) < S ∧ re_Mf n K (qs_dlv S u j 11 (S + 1)) (fun a => r a 0 j) := by
  refine ⟨h.clear hc hn hj hz (fun k x f hk => ?_) (fun x hx e f => ?_) ?_ ?_, ?_, ?_⟩
  · unfold qs_dlv qs_clear
    rw [mz_uk (by omega), mz_uk (by omega), qs_copy_o _ _ _ (by omega)]
  · unfold qs_dlv qs_clear
    rw [mz_uk (by decide), mz_ui (by omega), qs_copy_o _ _ _ (by omega)]
  · unfold qs_dlv qs_clear
    rw [mz_uk (by decide), mz_us]
  · unfold qs_dlv qs_clear
    rw [mz_us, qs_copy_o _ _ _ (by omega)]
  · exact (mz_ff_cnt _ _).mpr (mz_cnt_lt (x := j) (by rw [mz_us]) _ hj)
  · have e : ∀ f, qs_dlv S u j 11 (S + 1) f = qs_copy u (S + 1) j 11 (S + 1) f := fun f => by
      unfold qs_dlv qs_clear
      rw [mz_uk (by decide), mz_ui (by omega)]
    refine re_Mf.cp (h.2.1 j hj) (fun f hf h6 h7 => ?_) ?_ ?_ (fun _ _ _ _ => rfl) Iff.rfl
    · rw [e, qs_copy_f _ _ _ hf h6 h7]
    · rw [e, qs_copy_6]
    · rw [e, qs_copy_7]
/-- deliver -/
theorem re.deliver (h : re n cap S K u r) (hc : cap ≤ 12) (hn : n ≤ 5) (hS : S ≤ 40) (hK : K + 1 ≤ 100000) (x : Int32) : (rs_deliver n cap S r x).2 = (qs_deliver n cap S u x).2 ∧ re n cap S (K + 1) (qs_deliver n cap S u x).1 (rs_deliver n cap S r x).1 := by
  unfold qs_deliver rs_deliver
  by_cases hx : qs_isN S x
  · rw [if_neg (not_not_intro hx), if_neg (not_not_intro hx)]
    obtain ⟨j, hj, rfl⟩ := nz_of (by omega) hx
    simp only [nI_clamp (show j < 2 ^ 31 by omega)]
    have e15 : r 15 0 j = u 11 j 0 := (h.2.1 j hj).1
    rw [e15]
    by_cases hz : u 11 j 0 = 0
    · rw [if_pos hz, if_pos hz]
      exact ⟨rfl, h.mono (by omega)⟩
    · rw [if_neg hz, if_neg hz]
      obtain ⟨hD, hff, hM⟩ := h.dlv hc hn hj hz
      obtain ⟨-, q, hq5, eq, hR⟩ := h.2.1 j hj
      have hq0 : q ≠ 0 := by
        intro z
        rw [eq, z] at hz
        exact hz rfl
      obtain ⟨⟨f, t, hf, ht, ef, et⟩, m16, m17, -⟩ := hR hq0
      have m17 : r 17 0 j = u 11 j 2 := m17
      rw [m17, et, nI_clamp (show t < 2 ^ 31 by omega)]
      have eup := (h.1 t ht).1.2.1
      have ed : ∀ q, q < 12 → q ≠ 6 → q ≠ 7 → qs_dlv S u j 11 (S + 1) q = u 11 j q := fun q h1 h2 h3 => by
        unfold qs_dlv qs_clear
        rw [mz_uk (by decide), mz_ui (by omega), qs_copy_f _ _ _ h1 h2 h3]
      by_cases hu : u 2 t 1 = 0
      · rw [if_pos hu, if_pos (eup.mpr hu)]
        exact ⟨rfl, hD.mono (by omega)⟩
      · rw [if_neg hu, if_neg (fun z => hu (eup.mp z))]
        refine ⟨rfl, ?_⟩
        have := hD.rcv hc hn hK hff hM (s := j) (fun b hb => mz_uk (by omega)) (by rw [ed 0 (by omega) (by omega) (by omega)]; exact hz)
        rw [ed 0 (by omega) (by omega) (by omega), ed 2 (by omega) (by omega) (by omega), et, nI_clamp (show t < 2 ^ 31 by omega), m17, et] at this
        exact this
  · rw [if_pos hx, if_pos hx]
    exact ⟨rfl, h.mono (by omega)⟩
end RD
