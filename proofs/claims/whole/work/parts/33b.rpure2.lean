theorem vp_up {x : Int32} {a b : Nat} (h : vp_in x a) (hab : a ≤ b) : vp_in x b := by
  rw [vp_in_iff] at h ⊢
  omega
theorem rs_send_o (S : Nat) (u : mz_S) (k a b : Int32) {c : Nat} (h : c ≤ 14) (x f : Nat) : rs_send S u k a b c x f = u c x f := by
  unfold rs_send
  rw [mz_uk (by omega), mz_uk (by omega), mz_uk (by omega), mz_uk (by omega)]
theorem rs_sAsk_o (S : Nat) (u : mz_S) (a b : Int32) {c : Nat} (h : c ≤ 14) (x f : Nat) : rs_sAsk S u a b c x f = u c x f := by
  unfold rs_sAsk
  rw [mz_uk (by omega), mz_uk (by omega), rs_send_o _ _ _ _ _ h]
theorem rs_asks_o (S : Nat) (u : mz_S) (z : Int32) {c : Nat} (h : c ≤ 14) (x f : Nat) : ∀ j, rs_asks S u z j c x f = u c x f
  | 0 => rfl
  | j + 1 => by
    unfold rs_asks
    split
    · exact rs_asks_o S u z h x f j
    · rw [rs_sAsk_o _ _ _ _ h, rs_asks_o S u z h x f j]
theorem rz.lt {c : Nat} {u : mz_S} {k : Int32} (hc : c ≤ 12) (h : rz c u k) (hn : ¬ u 10 0 k.toNatClampNeg = nI c) : u 10 0 k.toNatClampNeg < nI c := by
  obtain ⟨q, b, e, rfl, h1, e2, e3, h2, h3⟩ := h
  rw [nI_clamp (by omega), e3] at hn ⊢
  rw [nI_eq (by omega) (by omega)] at hn
  rw [nI_ltI (by omega) (by omega)]
  omega
theorem rzc.gone {c : Nat} {u : mz_S} {k : Int32} (hc : c ≤ 12) (h : rzc c u k (u 8 0 k.toNatClampNeg)) : ∃ g e : Nat, u 8 0 k.toNatClampNeg - u 5 0 k.toNatClampNeg = nI g ∧ u 10 0 k.toNatClampNeg = nI e ∧ g ≤ e ∧ e ≤ 12 := by
  obtain ⟨q, b, e, p, rfl, h1, e2, e3, e4, h2, h3, h4, h5⟩ := h
  rw [e4]
  rw [nI_clamp (by omega), e2, e3]
  exact ⟨p - b, e, pk_sub h2, rfl, by omega, by omega⟩
