section MZT
variable {p : Program} {l : Launch} {e : Env} {R : Room} {s : State} {m : MethodId} {args : Array Value} {below : List Frame} {meth : Method} {c : Code} {H : Heap} {locs : List Loc} {cells slots : Nat} {Q : State → Prop} {pc : Nat} {ls : Array Slot} {rest : List Value}
theorem mz_topE {x y : Int32} (h : x = y) (k : W p l e R s m args below meth c H locs cells slots Q (F0 m pc ls (.int y :: rest))) : W p l e R s m args below meth c H locs cells slots Q (F0 m pc ls (.int x :: rest)) := h ▸ k
end MZT
theorem qs_last_same {u w : mz_S} {i : Nat} (h3 : ∀ f, w 3 i f = u 3 i f) : qs_last w i = qs_last u i := by
  unfold qs_last
  rw [h3, h3]
theorem qs_has_same {u w : mz_S} {i : Nat} (h3 : ∀ f, w 3 i f = u 3 i f) {k : Int32} : qs_has w i k ↔ qs_has u i k := by
  unfold qs_has
  rw [h3, h3]
theorem qs_term_same {u w : mz_S} {i : Nat} (h3 : ∀ f, w 3 i f = u 3 i f) (h4 : ∀ f, w 4 i f = u 4 i f) {k : Int32} : qs_term w i k = qs_term u i k := by
  unfold qs_term qs_has
  simp only [h3, h4]
theorem qs_lastT_same {u w : mz_S} {i : Nat} (h3 : ∀ f, w 3 i f = u 3 i f) (h4 : ∀ f, w 4 i f = u 4 i f) : qs_lastT w i = qs_lastT u i := by
  unfold qs_lastT
  simp only [h3, h4]
theorem qs_cmd_same {u w : mz_S} {i : Nat} (h3 : ∀ f, w 3 i f = u 3 i f) (h5 : ∀ f, w 5 i f = u 5 i f) {k : Int32} : qs_cmd w i k = qs_cmd u i k := by
  unfold qs_cmd qs_has
  simp only [h3, h5]
theorem qs_add_o (c : Nat) (u : mz_S) (i : Nat) (t y : Int32) {k : Nat} (h3 : k ≠ 3) (h4 : k ≠ 4) (h5 : k ≠ 5) (x f : Nat) : qs_add c u i t y k x f = u k x f := by
  unfold qs_add
  split
  · rfl
  · rw [mz_uk h3, mz_uk h5, mz_uk h4]
theorem qs_take1_o (u : mz_S) (i : Nat) (z t : Int32) {k : Nat} (h2 : k ≠ 2) (h3 : k ≠ 3) (x f : Nat) : qs_take1 u i z t k x f = u k x f := by
  unfold qs_take1 qs_cutc
  split
  · rw [mz_uk h2, qs_cut_o _ _ _ h3]
  · rfl
theorem qs_take_o (c : Nat) (u : mz_S) (i : Nat) (z t y : Int32) {k : Nat} (h2 : k ≠ 2) (h3 : k ≠ 3) (h4 : k ≠ 4) (h5 : k ≠ 5) (x f : Nat) : qs_take c u i z t y k x f = u k x f := by
  unfold qs_take
  split
  · rw [qs_take1_o _ _ _ _ h2 h3]
  · rw [qs_add_o _ _ _ _ _ h3 h4 h5, qs_take1_o _ _ _ _ h2 h3]
theorem qs_rAppE_o (c : Nat) (u : mz_S) (i a : Nat) {k : Nat} (h2 : k ≠ 2) (h3 : k ≠ 3) (h4 : k ≠ 4) (h5 : k ≠ 5) (x f : Nat) : qs_rAppE c u i a k x f = u k x f := by
  unfold qs_rAppE
  split
  · rfl
  · rw [qs_take_o _ _ _ _ _ _ h2 h3 h4 h5]
theorem qs_rebase_o (u : mz_S) (i : Nat) (b t y : Int32) {k : Nat} (h3 : k ≠ 3) (h4 : k ≠ 4) (h5 : k ≠ 5) (x f : Nat) : qs_rebase u i b t y k x f = u k x f := by
  unfold qs_rebase
  rw [mz_uk h3, mz_uk h3, mz_uk h3, mz_uk h3, qs_mv_o _ _ _ h4 h5]
theorem qs_rSnapC_o (u : mz_S) (i a : Nat) {k : Nat} (h3 : k ≠ 3) (x f : Nat) : qs_rSnapC u i a k x f = u k x f := by
  unfold qs_rSnapC
  split
  · rfl
  · rw [qs_cut_o _ _ _ h3]
theorem qs_put_o (S : Nat) (u : mz_S) (b : Nat) {k : Nat} (h9 : k ≠ 9) (h11 : k ≠ 11) (x f : Nat) : qs_put S u b k x f = u k x f := by
  unfold qs_put qs_put1
  split
  · rw [mz_uk h9, qs_copy_o _ _ _ (fun z => h11 z.1)]
  · rfl
theorem qs_put_hi (S : Nat) (u : mz_S) (b : Nat) {x : Nat} (h : S ≤ x) (f : Nat) : qs_put S u b 11 x f = u 11 x f := by
  unfold qs_put qs_put1
  split
  · rename_i hh
    rw [mz_uk (by decide), qs_copy_o _ _ _ (by omega)]
  · rfl
theorem qs_sAsk_o (S : Nat) (u : mz_S) (i : Nat) (t : Int32) {k : Nat} (h9 : k ≠ 9) (h11 : k ≠ 11) (x f : Nat) : qs_sAsk S u i t k x f = u k x f := by
  unfold qs_sAsk qs_mAsk
  rw [qs_put_o _ _ _ h9 h11, mz_uk h11, mz_uk h11, qs_begin_o _ _ _ _ _ _ (fun z => h11 z.1)]
theorem qs_asks_o (S : Nat) (u : mz_S) (z : Int32) {k : Nat} (h9 : k ≠ 9) (h11 : k ≠ 11) (x f : Nat) : ∀ j, qs_asks S u z j k x f = u k x f
  | 0 => rfl
  | j + 1 => by
    unfold qs_asks
    split
    · exact qs_asks_o S u z h9 h11 x f j
    · rw [qs_sAsk_o _ _ _ _ h9 h11, qs_asks_o S u z h9 h11 x f j]
theorem qs_stand_o (n : Nat) (u : mz_S) (i : Nat) {k : Nat} (h2 : k ≠ 2) (h6 : k ≠ 6) (x f : Nat) : qs_stand n u i k x f = u k x f := by
  unfold qs_stand qs_enter
  rw [qs_sv_o _ _ h6, mz_uk h2, mz_uk h2, mz_uk h2, mz_uk h2, mz_uk h2]
theorem qwc.same {c : Nat} {u u' : mz_S} {i : Nat} {x x' : Int32} (h : qwc c u i x) (h0 : u' 3 i 0 = u 3 i 0) (h3 : u' 3 i 3 = u 3 i 3) (hx : x' = x) : qwc c u' i x' := by
  obtain ⟨b, k, q, e1, e2, e3, g⟩ := h
  exact ⟨b, k, q, by rw [h0]; exact e1, by rw [h3]; exact e2, by rw [hx]; exact e3, g⟩
-- the message that has arrived stays as it is while it is received
theorem qs_sVote_hi (S : Nat) (u : mz_S) (i : Nat) (t g : Int32) (f : Nat) : qs_sVote S u i t g 11 (S + 1) f = u 11 (S + 1) f := by
  unfold qs_sVote qs_mVote
  rw [qs_put_hi _ _ _ (by omega), mz_ui (by omega), qs_begin_o _ _ _ _ _ _ (by omega)]
theorem qs_sAns_hi (S : Nat) (u : mz_S) (i : Nat) (t g y : Int32) (f : Nat) : qs_sAns S u i t g y 11 (S + 1) f = u 11 (S + 1) f := by
  unfold qs_sAns qs_mAns
  rw [qs_put_hi _ _ _ (by omega), mz_ui (by omega), mz_ui (by omega), qs_begin_o _ _ _ _ _ _ (by omega)]
theorem qs_adv_o (n : Nat) (u : mz_S) (i : Nat) {k : Nat} (h2 : k ≠ 2) (x f : Nat) : ∀ d y, qs_adv n u i d y k x f = u k x f
  | 0, _ => rfl
  | d + 1, y => by
    unfold qs_adv
    split
    · split
      · rw [mz_uk h2]
      · exact qs_adv_o n u i h2 x f d _
    · rfl
theorem qs_lead_o (n : Nat) (u : mz_S) (i : Nat) {k : Nat} (h2 : k ≠ 2) (h7 : k ≠ 7) (h8 : k ≠ 8) (x f : Nat) : qs_lead n u i k x f = u k x f := by
  unfold qs_lead
  rw [qs_lv_o _ _ h7 h8, mz_uk h2]
theorem qs_rcv_hi (n c S : Nat) (u : mz_S) (i a : Nat) (f : Nat) : qs_rcv n c S u i a 11 (S + 1) f = u 11 (S + 1) f := by
  unfold qs_rcv
  generalize hw : (if u 2 i 3 < u 11 a 3 then qs_enter u i (u 11 a 3) else u) = w
  have e : w 11 (S + 1) f = u 11 (S + 1) f := by
    rw [← hw]
    split
    · unfold qs_enter
      rw [mz_uk (by decide), mz_uk (by decide), mz_uk (by decide)]
    · rfl
  rw [← e]
  unfold qs_rcv1
  split
  · unfold qs_rAsk
    split
    · rw [qs_sVote_hi, mz_uk (by decide)]
    · rw [qs_sVote_hi]
  split
  · unfold qs_rVote qs_rVote1
    split
    · rfl
    split
    · rfl
    split
    · rfl
    split
    · rw [qs_lead_o _ _ _ (by decide) (by decide) (by decide), mz_uk (by decide)]
    · rw [mz_uk (by decide)]
  split
  · unfold qs_rApp
    split
    · rw [qs_sAns_hi]
    · unfold qs_rApp1
      split
      · rw [qs_sAns_hi, mz_uk (by decide)]
      split
      · rw [qs_sAns_hi, mz_uk (by decide)]
      · unfold qs_rAppC
        rw [qs_sAns_hi, mz_uk (by decide), qs_rAppE_o _ _ _ _ (by decide) (by decide) (by decide) (by decide), mz_uk (by decide)]
  split
  · unfold qs_rAns qs_advance qs_rAnsN qs_rAnsM
    split
    · rfl
    split
    · rfl
    split
    · rw [mz_uk (by decide)]
    · rw [qs_adv_o _ _ _ (by decide), mz_uk (by decide), mz_uk (by decide)]
  · unfold qs_rSnap
    split
    · rw [qs_sAns_hi]
    · unfold qs_rSnap1
      split
      · rw [qs_sAns_hi, mz_uk (by decide)]
      · unfold qs_rSnapB
        rw [qs_sAns_hi, mz_uk (by decide), qs_rebase_o _ _ _ _ _ (by decide) (by decide) (by decide), qs_rSnapC_o _ _ _ (by decide), mz_uk (by decide)]
theorem mz_out {lo hi : Int} {x : Int32} (h : ∀ k : Int, lo ≤ k → k ≤ hi → ¬ x = Int32.ofInt k) : x.toInt < lo ∨ hi < x.toInt := by
  by_cases h1 : x.toInt < lo
  · exact Or.inl h1
  · by_cases h2 : hi < x.toInt
    · exact Or.inr h2
    · exact absurd (Int32.ofInt_toInt x).symm (h x.toInt (by omega) (by omega))
