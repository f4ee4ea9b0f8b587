/-! Numbers: what the walks need of them. -/
theorem nz_lt {x y : Int32} : x < y ↔ x.toInt < y.toInt := Int32.lt_iff_toInt_lt
theorem nz_le {x y : Int32} : x ≤ y ↔ x.toInt ≤ y.toInt := Int32.le_iff_toInt_le
theorem nz_in {n : Nat} (hn : n < 2 ^ 31) {x : Int32} (h : qs_isN n x) : vp_in x n := by
  rw [vp_in_iff]
  have h1 := nz_le.mp h.1
  have h2 := nz_lt.mp h.2
  rw [nI_toInt hn] at h2
  have h3 : (0 : Int32).toInt = 0 := rfl
  rw [h3] at h1
  exact ⟨h1, h2⟩
theorem nz_of {n : Nat} (hn : n < 2 ^ 31) {x : Int32} (h : qs_isN n x) : ∃ j : Nat, j < n ∧ x = nI j := vp_in_of (nz_in hn h) hn
theorem nz_cl {n : Nat} {x : Int32} (h : vp_in x n) : x.toNatClampNeg < n := Nat.not_le.mp fun q => h (Or.inr q)
theorem nz_mid {b c : Nat} {k : Int32} (hb : b + c < 2 ^ 31) (h1 : nI b < k) (h2 : k ≤ nI b + nI c) : ∃ j : Nat, b < j ∧ j ≤ b + c ∧ k = nI j := by
  rw [nI_add] at h2
  have g1 := nz_lt.mp h1
  have g2 := nz_le.mp h2
  rw [nI_toInt (by omega)] at g1 g2
  have g3 : ¬ k < 0 := fun z => by
    have := nz_lt.mp z
    have h3 : (0 : Int32).toInt = 0 := rfl
    omega
  obtain ⟨j, hj, rfl⟩ := nI_of g3
  rw [nI_toInt hj] at g1 g2
  exact ⟨j, by omega, by omega, rfl⟩
/-- a log's numbers: its base, how many entries -/
def qw (c : Nat) (u : mz_S) (i : Nat) : Prop := ∃ b k : Nat, u 3 i 0 = nI b ∧ u 3 i 3 = nI k ∧ k ≤ c ∧ b ≤ 100000
theorem qw.same {c : Nat} {u u' : mz_S} {i : Nat} (h : qw c u i) (h0 : u' 3 i 0 = u 3 i 0) (h3 : u' 3 i 3 = u 3 i 3) : qw c u' i := by
  obtain ⟨b, k, e1, e2, h1, h2⟩ := h
  exact ⟨b, k, by rw [h0]; exact e1, by rw [h3]; exact e2, h1, h2⟩
theorem qw.ix {c : Nat} {u : mz_S} {i : Nat} (hc : c ≤ 12) (h : qw c u i) {k : Int32} (hk : qs_has u i k) : vp_in (k - u 3 i 0 - 1) c := by
  obtain ⟨b, q, e1, e2, h1, h2⟩ := h
  obtain ⟨h3, h4⟩ := hk
  rw [e1] at h3 h4 ⊢
  rw [e2] at h4
  obtain ⟨j, g1, g2, rfl⟩ := nz_mid (by omega) h3 h4
  rw [pk_sub (by omega), show nI (j - b) - 1 = nI (j - b - 1) from by
    rw [show j - b = (j - b - 1) + 1 by omega, nI_pred]; rfl]
  exact vp_in_nI (by omega) (by omega)
theorem qw.top {c : Nat} {u : mz_S} {i : Nat} (hc : c ≤ 12) (h : qw c u i) (hk : 0 < u 3 i 3) : vp_in (u 3 i 3 - 1) c := by
  obtain ⟨b, q, e1, e2, h1, h2⟩ := h
  rw [e2] at hk ⊢
  have g := nz_lt.mp hk
  rw [nI_toInt (by omega)] at g
  have h3 : (0 : Int32).toInt = 0 := rfl
  rw [show nI q - 1 = nI (q - 1) from by
    rw [show q = (q - 1) + 1 by omega, nI_pred]; rfl]
  exact vp_in_nI (by omega) (by omega)
theorem qw.free {c : Nat} {u : mz_S} {i : Nat} (hc : c ≤ 12) (h : qw c u i) (hk : ¬ qs_full c u i) : vp_in (u 3 i 3) c := by
  obtain ⟨b, q, e1, e2, h1, h2⟩ := h
  unfold qs_full at hk
  rw [e2] at hk ⊢
  rw [nI_leI (by omega) (by omega)] at hk
  exact vp_in_nI (by omega) (by omega)
def qwc (c : Nat) (u : mz_S) (i : Nat) (x : Int32) : Prop := ∃ b k q : Nat, u 3 i 0 = nI b ∧ u 3 i 3 = nI k ∧ x = nI q ∧ b ≤ q ∧ q ≤ b + k ∧ k ≤ c ∧ b ≤ 100000
theorem qwc.qw {c : Nat} {u : mz_S} {i : Nat} {x : Int32} (h : qwc c u i x) : qw c u i := by
  obtain ⟨b, k, q, e1, e2, -, -, -, h1, h2⟩ := h
  exact ⟨b, k, e1, e2, h1, h2⟩
theorem qw.gone {c : Nat} {u : mz_S} {i : Nat} (hc : c ≤ 12) (h : qw c u i) (x : Int32) : ∃ g k : Nat, qs_gone u i x = nI g ∧ u 3 i 3 = nI k ∧ g ≤ k ∧ k ≤ c := by
  obtain ⟨b, k, e1, e2, h1, h2⟩ := h
  have h0 : ¬ mz_max 0 (x - u 3 i 0) < 0 := by
    unfold mz_max
    split
    · rename_i h
      exact fun z => Int32.lt_irrefl (Int32.lt_of_lt_of_le h (Int32.le_of_lt z))
    · exact Int32.lt_irrefl
  obtain ⟨j, hj, e⟩ := nI_of h0
  unfold qs_gone
  rw [e, e2]
  unfold mz_min
  split
  · rename_i h
    rw [nI_ltI (by omega) (by omega)] at h
    exact ⟨j, k, rfl, rfl, by omega, h1⟩
  · exact ⟨k, k, rfl, rfl, Nat.le_refl _, h1⟩
theorem qs_mv_o (u : mz_S) (i g : Nat) {k : Nat} (h4 : k ≠ 4) (h5 : k ≠ 5) (x f : Nat) : ∀ j, qs_mv u i g j k x f = u k x f
  | 0 => rfl
  | j + 1 => by
    unfold qs_mv
    rw [mz_uk h5, mz_uk h4, qs_mv_o u i g h4 h5 x f j]
theorem qs_sv_o (u : mz_S) (i : Nat) {k : Nat} (h : k ≠ 6) (x f : Nat) : ∀ j, qs_sv u i j k x f = u k x f
  | 0 => rfl
  | j + 1 => by
    unfold qs_sv
    rw [mz_uk h, qs_sv_o u i h x f j]
theorem qs_lv_o (u : mz_S) (i : Nat) {k : Nat} (h7 : k ≠ 7) (h8 : k ≠ 8) (x f : Nat) : ∀ j, qs_lv u i j k x f = u k x f
  | 0 => rfl
  | j + 1 => by
    unfold qs_lv
    rw [mz_uk h8, mz_uk h7, qs_lv_o u i h7 h8 x f j]
theorem qs_cut_o (u : mz_S) (i : Nat) (y : Int32) {k : Nat} (h : k ≠ 3) (x f : Nat) : qs_cut u i y k x f = u k x f := by
  unfold qs_cut
  split
  · rw [mz_uk h]
  · rfl
theorem qs_cv_s (u : mz_S) (i j : Nat) : qs_cv u i (j + 1) = if u 6 i j = 0 then qs_cv u i j else qs_cv u i j + 1 := rfl
theorem qs_ch_s (u : mz_S) (i : Nat) (x : Int32) (j : Nat) : qs_ch u i x (j + 1) = if nI j = u 2 i 0 ∨ x ≤ u 8 i j then qs_ch u i x j + 1 else qs_ch u i x j := rfl
theorem qs_copy_o (u : mz_S) (a b : Nat) {k x : Nat} (h : ¬ (k = 11 ∧ x = a)) (f : Nat) : qs_copy u a b k x f = u k x f := by
  unfold qs_copy
  simp only [mz_uo h]
theorem qs_begin_o (u : mz_S) (a : Nat) (p q s t : Int32) {k x : Nat} (h : ¬ (k = 11 ∧ x = a)) (f : Nat) : qs_begin u a p q s t k x f = u k x f := by
  unfold qs_begin
  simp only [mz_uo h]
theorem qw.cut {c : Nat} {u : mz_S} {i : Nat} (hc : c ≤ 12) (h : qw c u i) (y : Int32) : qw c (qs_cut u i y) i := by
  unfold qs_cut
  split
  · rename_i hh
    obtain ⟨b, k, e1, e2, h1, h2⟩ := h
    obtain ⟨g1, g2⟩ := hh
    rw [e1] at g1 g2
    rw [e2] at g2
    obtain ⟨j, g3, g4, rfl⟩ := nz_mid (by omega) g1 g2
    refine ⟨b, j - b - 1, by rw [mz_uf (by decide)]; exact e1, ?_, by omega, h2⟩
    rw [mz_us, e1, pk_sub (by omega), show j - b = (j - b - 1) + 1 by omega, nI_pred]
    congr 1
  · exact h
