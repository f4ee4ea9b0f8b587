section RP
variable {n cap S K : Nat} {u r : mz_S} {i : Nat}
theorem qs_sv_6 (u : mz_S) (i j : Nat) : ∀ m, qs_sv u i m 6 i j = if j < m then mz_b (nI j = u 2 i 0) else u 6 i j
  | 0 => by simp [qs_sv]
  | m + 1 => by
    unfold qs_sv
    rw [mz_at, qs_sv_6 u i j m]
    by_cases z : j = m
    · subst z
      simp
    · have : j < m + 1 ↔ j < m := by omega
      simp [z, this]
theorem qs_sv_fr (u : mz_S) (i : Nat) {k x f : Nat} : ∀ m, ¬ qs_sv u i m k x f = u k x f → x = i ∧ k = 6
  | 0, h => absurd rfl h
  | m + 1, h => by
    unfold qs_sv at h
    rcases mz_ne h with q | q
    · omega
    · exact qs_sv_fr u i m q
theorem re.stand (h : re n cap S K u r) (hc : cap ≤ 12) (hn : n ≤ 5) (hi : i < n) (hz : ¬ u 2 i 1 = 0) : re n cap S K (qs_stand n u i) (rs_stand r (nI i)) := by
  have h0 := h.1 i hi
  unfold qs_stand rs_stand qs_enter
  rw [nI_clamp (by omega), h0.1.2.2.2.1]
  refine h.at (i := i) hc hn (Nat.le_refl K) ?_ (fun k x f z => ?_) (fun a x z => ?_)
  · obtain ⟨⟨a0, a1, a2, a3, a4, a8⟩, ⟨b5, b6, b7, b10⟩, ⟨b, c, k, q1, q2, q3, q4, q5, q6, q7, q8⟩, d, e, f⟩ := h0
    refine ⟨⟨?_, ?_, ?_, ?_, ?_, ?_⟩, ⟨?_, ?_, ?_, ?_⟩, ⟨b, c, k, ?_, ?_, ?_, q4, q5, q6, q7, ?_⟩, fun hl j hj => ?_, fun hl => ?_, fun y => ?_⟩
    any_goals simp only [qs_sv_o _ _ (show 2 ≠ 6 by decide), qs_sv_o _ _ (show 3 ≠ 6 by decide), qs_sv_o _ _ (show 4 ≠ 6 by decide), qs_sv_o _ _ (show 5 ≠ 6 by decide), mz_at, Nat.reduceEqDiff, false_and, and_false, and_true, true_and, if_true, if_false]
    any_goals assumption
    · exact a0.symm
    · rw [bt_val _ (by omega), bt_sh (by omega) (by omega), qs_sv_6]
      refine mz_b_iff ?_
      by_cases z : j < n
      · rw [if_pos z, mz_uf (by decide), mz_uf (by decide), mz_uf (by decide), mz_uf (by decide), mz_uf (by decide), a0, mz_b_0, nI_eq (by omega) (by omega)]
        simp [z]
      · simp [z]
        omega
    · rw [qs_sv_o _ _ (by decide), mz_uf (by decide), mz_us] at hl
      exact absurd hl (by decide)
    · rw [qs_sv_o _ _ (by decide), mz_uf (by decide), mz_uf (by decide), mz_uf (by decide), mz_uf (by decide), mz_uf (by decide)] at y
      exact absurd y hz
  · rcases Classical.em (qs_sv (mz_u (mz_u (mz_u (mz_u (mz_u u 2 i 3 (u 2 i 3 + 1)) 2 i 2 0) 2 i 4 (-1)) 2 i 2 1) 2 i 4 (u 2 i 0)) i n k x f = mz_u (mz_u (mz_u (mz_u (mz_u u 2 i 3 (u 2 i 3 + 1)) 2 i 2 0) 2 i 4 (-1)) 2 i 2 1) 2 i 4 (u 2 i 0) k x f) with y | y
    · rw [y] at z
      rcases mz_ne z with q | q
      · omega
      rcases mz_ne q with q | q
      · omega
      rcases mz_ne q with q | q
      · omega
      rcases mz_ne q with q | q
      · omega
      rcases mz_ne q with q | q
      · omega
      · exact absurd rfl q
    · have := qs_sv_fr _ _ _ y
      omega
  · rcases mz_ne z with q | q
    · omega
    rcases mz_ne q with q | q
    · omega
    rcases mz_ne q with q | q
    · omega
    rcases mz_ne q with q | q
    · omega
    · exact absurd rfl q
theorem rs_sAsk_15 {f : Nat} (r : mz_S) (S : Nat) (a : Int32) (hff : rs_ff S r < S) : mz_cnt (fun y => rs_sAsk S r a (nI f) 15 0 y) S = mz_cnt (fun y => r 15 0 y) S + 1 := by
  refine mz_cnt_put (x := rs_ff S r) (mz_ff_free _ S 0 (by rw [Nat.zero_add]; exact hff)) ?_ S hff (fun j _ e => ?_)
  · unfold rs_sAsk rs_send
    simp [mz_at]
  · unfold rs_sAsk rs_send
    simp [mz_at, e]
/-- the asks, one after the other -/
theorem re.asks (h : re n cap S K u r) (hc : cap ≤ 12) (hn : n ≤ 5) (hK : K ≤ 100000) (hi : i < n) (hfree : mz_cnt (fun y => r 15 0 y) S + (n - 1) ≤ S) : ∀ j, j ≤ n → re n cap S K (qs_asks S u (nI i) j) (rs_asks S r (nI i) j) ∧ mz_cnt (fun y => rs_asks S r (nI i) j 15 0 y) S = mz_cnt (fun y => r 15 0 y) S + (if i < j then j - 1 else j) ∧ (j < n → ¬ nI j = nI i → rs_ff S (rs_asks S r (nI i) j) < S)
  | 0, _ => by
    refine ⟨h, by simp [rs_asks], fun h1 h2 => ?_⟩
    unfold rs_asks
    refine (mz_ff_cnt _ _).mpr ?_
    rw [nI_eq (by omega) (by omega)] at h2
    omega
  | j + 1, hj => by
    obtain ⟨g1, g2, g3⟩ := re.asks h hc hn hK hi hfree j (by omega)
    have key : re n cap S K (qs_asks S u (nI i) (j + 1)) (rs_asks S r (nI i) (j + 1)) ∧ mz_cnt (fun y => rs_asks S r (nI i) (j + 1) 15 0 y) S = mz_cnt (fun y => r 15 0 y) S + (if i < j + 1 then j + 1 - 1 else j + 1) := by
      unfold qs_asks rs_asks
      by_cases z : nI j = nI i
      · rw [if_pos z, if_pos z]
        refine ⟨g1, ?_⟩
        rw [g2]
        rw [nI_eq (by omega) (by omega)] at z
        rw [if_neg (by omega), if_pos (by omega)]
        omega
      · rw [if_neg z, if_neg z, nI_clamp (by omega)]
        have hff := g3 (by omega) z
        refine ⟨g1.sAsk hc hn hK hff hi (by omega), ?_⟩
        rw [rs_sAsk_15 _ _ _ hff, g2]
        rw [nI_eq (by omega) (by omega)] at z
        by_cases y : i < j
        · rw [if_pos y, if_pos (by omega)]
          omega
        · rw [if_neg y, if_neg (by omega)]
          omega
    refine ⟨key.1, key.2, fun h1 h2 => ?_⟩
    refine (mz_ff_cnt _ _).mpr ?_
    show mz_cnt (fun y => rs_asks S r (nI i) (j + 1) 15 0 y) S < S
    rw [key.2]
    rw [nI_eq (by omega) (by omega)] at h2
    split <;> omega
theorem re.room (h : re n cap S K u r) (hn : n ≤ 5) (hn1 : 1 ≤ n) (hS : S ≤ 40) : ¬ (nI S - rs_w r S < nI n - 1) ↔ mz_cnt (fun y => r 15 0 y) S + (n - 1) ≤ S := by
  have e : rs_w r S = nI (mz_cnt (fun y => r 15 0 y) S) := rs_w_cnt S h.kinds
  have hle := mz_cnt_le (fun y => r 15 0 y) S
  rw [e, pk_sub hle, show nI n - 1 = nI (n - 1) from by rw [show n = (n - 1) + 1 by omega, nI_pred]; rfl, nI_ltI (by omega) (by omega)]
  omega
/-- timeout -/
theorem re.timeout (h : re n cap S K u r) (hc : cap ≤ 12) (hn : n ≤ 5) (hn1 : 1 ≤ n) (hS : S ≤ 40) (hK : K + 1 ≤ 100000) (x : Int32) : (rs_timeout n S r x).2 = (qs_timeout n S u x).2 ∧ re n cap S (K + 1) (qs_timeout n S u x).1 (rs_timeout n S r x).1 := by
  unfold qs_timeout rs_timeout
  by_cases hx : qs_isN n x
  · rw [if_neg (not_not_intro hx), if_neg (not_not_intro hx)]
    obtain ⟨i, hi, rfl⟩ := nz_of (by omega) hx
    simp only [nI_clamp (show i < 2 ^ 31 by omega)]
    have h0 := h.1 i hi
    by_cases hz : u 2 i 1 = 0
    · rw [if_pos hz, if_pos (h0.1.2.1.mpr hz)]
      exact ⟨rfl, h.mono (by omega)⟩
    · rw [if_neg hz, if_neg (fun z => hz (h0.1.2.1.mp z)), h0.1.2.2.1, h.2.2.1]
      by_cases h2 : u 2 i 2 = 2
      · rw [if_pos h2, if_pos h2]
        exact ⟨rfl, h.mono (by omega)⟩
      · rw [if_neg h2, if_neg h2]
        by_cases h3 : nI S - rs_w r S < nI n - 1
        · rw [if_pos h3, if_pos h3]
          exact ⟨rfl, h.mono (by omega)⟩
        · rw [if_neg h3, if_neg h3]
          have hs := h.stand hc hn hi hz
          have hf := (h.room hn hn1 hS).mp h3
          have e15 : (fun y => rs_stand r (nI i) 15 0 y) = (fun y => r 15 0 y) := by
            funext y
            unfold rs_stand
            rw [mz_uk (by decide), mz_uk (by decide), mz_uk (by decide), mz_uk (by decide)]
          exact ⟨rfl, ((hs.asks hc hn (by omega) hi (by rw [e15]; exact hf) n (Nat.le_refl n)).1).mono (by omega)⟩
  · rw [if_pos hx, if_pos hx]
    exact ⟨rfl, h.mono (by omega)⟩
/-- what the reference's timeout needs of the slots -/
theorem re.hfr (h : re n cap S K u r) (hc : cap ≤ 12) (hn : n ≤ 5) (hn1 : 1 ≤ n) (hS : S ≤ 40) (hK : K ≤ 100000) (x : Int32) (hx : qs_isN n x) (hz : ¬ r 1 0 x.toNatClampNeg = 0) : ¬ (nI S - rs_w r S < nI n - 1) → ∀ j, j < n → ¬ nI j = x → rs_ff S (rs_asks S (rs_stand r x) x j) < S := by
  intro h3 j hj hjx
  obtain ⟨i, hi, rfl⟩ := nz_of (by omega) hx
  rw [nI_clamp (by omega)] at hz
  have hs := h.stand hc hn hi (fun z => hz ((h.1 i hi).1.2.1.mpr z))
  have hf := (h.room hn hn1 hS).mp h3
  have e15 : (fun y => rs_stand r (nI i) 15 0 y) = (fun y => r 15 0 y) := by
    funext y
    unfold rs_stand
    rw [mz_uk (by decide), mz_uk (by decide), mz_uk (by decide), mz_uk (by decide)]
  exact (hs.asks hc hn hK hi (by rw [e15]; exact hf) j (by omega)).2.2 hj hjx
/-- heartbeat -/
theorem re.heartbeat (h : re n cap S K u r) (hc : cap ≤ 12) (hn : n ≤ 5) (hS : S ≤ 40) (hK : K + 1 ≤ 100000) (x y : Int32) : (rs_heartbeat n S r x y).2 = (qs_heartbeat n S u x y).2 ∧ re n cap S (K + 1) (qs_heartbeat n S u x y).1 (rs_heartbeat n S r x y).1 := by
  unfold qs_heartbeat rs_heartbeat
  by_cases hx : qs_two n x y
  · rw [if_neg (not_not_intro hx), if_neg (not_not_intro hx)]
    obtain ⟨i, hi, rfl⟩ := nz_of (by omega) hx.1
    obtain ⟨f, hf, rfl⟩ := nz_of (by omega) hx.2.1
    simp only [nI_clamp (show i < 2 ^ 31 by omega), nI_clamp (show f < 2 ^ 31 by omega), rz_i5, nI_clamp (show 5 * i + f < 2 ^ 31 by omega)]
    have h0 := h.1 i hi
    by_cases hz : u 2 i 1 = 0
    · rw [if_pos hz, if_pos (h0.1.2.1.mpr hz)]
      exact ⟨rfl, h.mono (by omega)⟩
    · rw [if_neg hz, if_neg (fun z => hz (h0.1.2.1.mp z)), h0.1.2.2.1]
      by_cases h2 : u 2 i 2 = 2
      · rw [if_neg (not_not_intro h2), if_neg (not_not_intro h2)]
        have hle := mz_cnt_le (fun y => r 15 0 y) S
        have e3 : nI S - u 9 0 1 = 0 ↔ ¬ rs_ff S r < S := by
          rw [h.wait, pk_sub hle, nz_q0 (by omega)]
          have := mz_ff_cnt (fun y => r 15 0 y) S
          unfold rs_ff
          rw [this]
          omega
        by_cases h3 : nI S - u 9 0 1 = 0
        · rw [if_pos h3, if_pos (e3.mp h3)]
          exact ⟨rfl, h.mono (by omega)⟩
        · have hff : rs_ff S r < S := Classical.byContradiction fun z => h3 (e3.mpr z)
          rw [if_neg h3, if_neg (not_not_intro hff)]
          obtain ⟨g1, g2, a9, b9, g3, g4, g5, g6⟩ := h0.2.2.2.2.1 h2 f hf
          rw [g1, h0.2.1.1, g3]
          by_cases h4 : nI a9 ≤ u 3 i 0
          · rw [if_pos h4, if_pos h4]
            exact ⟨rfl, (h.sSnap hc hn hff hi hf).mono (by omega)⟩
          · rw [if_neg h4, if_neg h4]
            refine ⟨rfl, (h.sApp hc hn (by omega) hff hi hf ?_ g5 g3).mono (by omega)⟩
            obtain ⟨-, -, ⟨b, c, k, q1, -⟩, -⟩ := id h0
            by_cases z : a9 = 0
            · rw [z, nI_0] at h4
              exact absurd (nI_le (Nat.zero_le b) (by
                obtain ⟨-, -, ⟨b2, c2, k2, r1, r2, r3, r4, r5, r6, r7, r8⟩, -⟩ := id h0
                by_cases w : b < 2 ^ 31
                · exact w
                · exact absurd h4 (fun h4 => by
                    apply h4
                    rw [r1, ← nI_0, nI_leI (by omega) (by omega)]
                    omega))) (by rw [nI_0, ← q1]; exact h4)
            · omega
      · rw [if_pos h2, if_pos h2]
        exact ⟨rfl, h.mono (by omega)⟩
  · rw [if_pos hx, if_pos hx]
    exact ⟨rfl, h.mono (by omega)⟩
/-- drop -/
theorem re.drop (h : re n cap S K u r) (hc : cap ≤ 12) (hn : n ≤ 5) (hS : S ≤ 40) (x : Int32) : (rs_drop S r x).2 = (qs_drop S u x).2 ∧ re n cap S (K + 1) (qs_drop S u x).1 (rs_drop S r x).1 := by
  unfold qs_drop rs_drop
  by_cases hx : qs_isN S x
  · rw [if_neg (not_not_intro hx), if_neg (not_not_intro hx)]
    obtain ⟨j, hj, rfl⟩ := nz_of (by omega) hx
    simp only [nI_clamp (show j < 2 ^ 31 by omega)]
    have e15 : r 15 0 j = u 11 j 0 := (h.2.1 j hj).1
    rw [e15]
    by_cases hz : u 11 j 0 = 0
    · rw [if_pos hz, if_pos hz]
      exact ⟨rfl, h.mono (by omega)⟩
    · rw [if_neg hz, if_neg hz]
      refine ⟨rfl, ?_⟩
      show re n cap S (K + 1) (qs_clear u j) (mz_u r 15 0 j 0)
      refine (h.clear (u' := qs_clear u j) hc hn hj hz (fun k x f hk => ?_) (fun x hx e f => ?_) ?_ ?_).mono (by omega)
      · unfold qs_clear
        rw [mz_uk (by omega), mz_uk (by omega)]
      · unfold qs_clear
        rw [mz_uk (by decide), mz_ui e]
      · unfold qs_clear
        rw [mz_uk (by decide), mz_us]
      · unfold qs_clear
        rw [mz_us]
  · rw [if_pos hx, if_pos hx]
    exact ⟨rfl, h.mono (by omega)⟩
/-- duplicate -/
theorem re.duplicate (h : re n cap S K u r) (hc : cap ≤ 12) (hn : n ≤ 5) (hS : S ≤ 40) (x : Int32) : (rs_duplicate S r x).2 = (qs_duplicate S u x).2 ∧ re n cap S (K + 1) (qs_duplicate S u x).1 (rs_duplicate S r x).1 := by
  unfold qs_duplicate rs_duplicate
  by_cases hx : qs_isN S x
  · rw [if_neg (not_not_intro hx), if_neg (not_not_intro hx)]
    obtain ⟨j, hj, rfl⟩ := nz_of (by omega) hx
    simp only [nI_clamp (show j < 2 ^ 31 by omega)]
    have e15 : r 15 0 j = u 11 j 0 := (h.2.1 j hj).1
    rw [e15]
    by_cases hz : u 11 j 0 = 0
    · rw [if_pos hz, if_pos hz]
      exact ⟨rfl, h.mono (by omega)⟩
    · rw [if_neg hz, if_neg hz]
      unfold qs_put qs_putR
      rw [h.ff]
      by_cases hff : rs_ff S r < S
      · rw [if_neg (not_not_intro hff), if_pos hff, if_pos hff]
        refine ⟨rfl, ?_⟩
        show re n cap S (K + 1) (qs_put1 u (rs_ff S r) j) (rs_copy r (rs_ff S r) j)
        refine (h.put (u' := qs_put1 u (rs_ff S r) j) (r' := rs_copy r (rs_ff S r) j) hc hn hff (fun k x f hk => ?_) (fun x hx e f => ?_) ?_ (fun a x ha => ?_) (fun a x ha e => ?_) ?_ ?_ ?_).mono (by omega)
        · unfold qs_put1
          rw [mz_uk (by omega), qs_copy_o _ _ _ (by omega)]
        · unfold qs_put1
          rw [mz_uk (by decide), qs_copy_o _ _ _ (by omega)]
        · unfold qs_put1
          rw [mz_us]
        · unfold rs_copy
          simp only [mz_at]
          repeat rw [if_neg (by omega)]
        · unfold rs_copy
          simp only [mz_at, e, and_false, if_false]
        · refine re_Mf.cp (h.2.1 j hj) (fun f hf h6 h7 => ?_) ?_ ?_ (fun a h1 h2 h3 => ?_) ?_
          · unfold qs_put1
            rw [mz_uk (by decide), qs_copy_f _ _ _ hf h6 h7]
          · unfold qs_put1
            rw [mz_uk (by decide), qs_copy_6]
          · unfold qs_put1
            rw [mz_uk (by decide), qs_copy_7]
          · rcases (show a = 15 ∨ a = 16 ∨ a = 17 ∨ a = 18 ∨ a = 19 ∨ a = 20 ∨ a = 22 ∨ a = 23 ∨ a = 24 by omega) with rfl | rfl | rfl | rfl | rfl | rfl | rfl | rfl | rfl <;> simp [rs_copy, mz_at]
          · simp [rs_copy, mz_at]
        · have : rs_copy r (rs_ff S r) j 15 0 (rs_ff S r) = r 15 0 j := by simp [rs_copy, mz_at]
          rw [this, e15]
          exact hz
        · have : rs_copy r (rs_ff S r) j 21 0 (rs_ff S r) = r 21 0 j := by simp [rs_copy, mz_at]
          rw [this]
          exact h.2.2.2 j
      · rw [if_pos hff, if_neg hff, if_neg hff]
        exact ⟨rfl, h.mono (by omega)⟩
  · rw [if_pos hx, if_pos hx]
    exact ⟨rfl, h.mono (by omega)⟩
end RP
