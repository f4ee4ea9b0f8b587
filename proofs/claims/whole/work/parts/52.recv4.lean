section RX
variable {n cap S K : Nat} {u r : mz_S} {i a s f : Nat}
/-- a log's new base, in plain form: g entries go -/
def qs_reb (u : mz_S) (i g c : Nat) (b t x : Int32) : mz_S := mz_u (mz_u (mz_u (mz_u (qs_mv u i g (c - g)) 3 i 3 (nI (c - g))) 3 i 0 b) 3 i 1 t) 3 i 2 x
theorem re_N.reb (h : re_N n cap K u r i) (hi : i < 5) (hc : cap ≤ 12) {K' : Nat} (hK : K ≤ K') (hK' : K' ≤ 100000) {g c b' k' : Nat} (hcn : u 3 i 3 = nI c) (hcc : c ≤ cap) (hg : g ≤ c) (h1 : b' ≤ k') (h2 : k' ≤ b' + (c - g)) (h3 : b' + (c - g) ≤ K') (t x : Int32) : re_N n cap K' (mz_u (qs_reb u i g c (nI b') t x) 2 i 5 (nI k')) (mz_u (rs_rebase r (nI i) (nI g) (nI b') t x) 8 0 i (nI k')) i := by
  obtain ⟨⟨a0, a1, a2, a3, a4, a8⟩, ⟨b5, b6, b7, b10⟩, ⟨b, c1, k, q1, q2, q3, q4, q5, q6, q7, q8⟩, d, e, f⟩ := h
  rw [q2, nI_eq (by omega) (by omega)] at hcn
  subst hcn
  unfold qs_reb rs_rebase rs_cutF
  rw [nI_clamp (show g < 2 ^ 31 by omega), nI_clamp (show i < 2 ^ 31 by omega), b10, q2, pk_sub hg, nI_clamp (show c1 - g < 2 ^ 31 by omega)]
  refine ⟨⟨?_, ?_, ?_, ?_, ?_, ?_⟩, ⟨?_, ?_, ?_, ?_⟩, ⟨b', c1 - g, k', ?_, ?_, ?_, h1, h2, by omega, h3, fun j hj => ?_⟩, fun hl j hj => ?_, fun hl j hj => ?_, fun hz => ?_⟩
  all_goals simp only [mz_at, qs_mv_o _ _ _ (show 2 ≠ 4 by decide) (show 2 ≠ 5 by decide), qs_mv_o _ _ _ (show 3 ≠ 4 by decide) (show 3 ≠ 5 by decide), qs_mv_o _ _ _ (show 6 ≠ 4 by decide) (show 6 ≠ 5 by decide), qs_mv_o _ _ _ (show 7 ≠ 4 by decide) (show 7 ≠ 5 by decide), qs_mv_o _ _ _ (show 8 ≠ 4 by decide) (show 8 ≠ 5 by decide), rs_mv_o _ _ _ (show 1 ≠ 11 by decide) (show 1 ≠ 12 by decide), rs_mv_o _ _ _ (show 2 ≠ 11 by decide) (show 2 ≠ 12 by decide), rs_mv_o _ _ _ (show 3 ≠ 11 by decide) (show 3 ≠ 12 by decide), rs_mv_o _ _ _ (show 4 ≠ 11 by decide) (show 4 ≠ 12 by decide), rs_mv_o _ _ _ (show 9 ≠ 11 by decide) (show 9 ≠ 12 by decide), rs_mv_o _ _ _ (show 13 ≠ 11 by decide) (show 13 ≠ 12 by decide), rs_mv_o _ _ _ (show 14 ≠ 11 by decide) (show 14 ≠ 12 by decide), Nat.reduceEqDiff, false_and, and_false, and_true, true_and, if_true, if_false] at *
  any_goals assumption
  · rw [rs_mv_11, rs_mv_12, qs_mv_4, qs_mv_5, if_pos hj, if_pos hj, if_pos hj, if_pos hj]
    have := q8 (g + j) (by omega)
    rw [show 12 * i + j + g = 12 * i + (g + j) by omega]
    exact this
  · exact d hl j hj
  · obtain ⟨g1, g2, a, b, g3, g4, g5, g6⟩ := e hl j hj
    exact ⟨g1, g2, a, b, g3, g4, by omega, by omega⟩
  · exact f hz
theorem qs_reb_fr (u : mz_S) (i g c : Nat) (b t y : Int32) {k x f : Nat} (h : ¬ qs_reb u i g c b t y k x f = u k x f) : x = i ∧ 3 ≤ k ∧ k ≤ 5 := by
  unfold qs_reb at h
  rcases mz_ne h with q | q
  · omega
  rcases mz_ne q with q | q
  · omega
  rcases mz_ne q with q | q
  · omega
  rcases mz_ne q with q | q
  · omega
  have := qs_mv_fr _ _ _ _ q
  omega
theorem re.reb (h : re n cap S K u r) (hc : cap ≤ 12) (hn : n ≤ 5) (hi : i < n) {K' : Nat} (hK : K ≤ K') (hK' : K' ≤ 100000) {g c b' k' : Nat} (hcn : u 3 i 3 = nI c) (hcc : c ≤ cap) (hg : g ≤ c) (h1 : b' ≤ k') (h2 : k' ≤ b' + (c - g)) (h3 : b' + (c - g) ≤ K') (t x : Int32) : re n cap S K' (mz_u (qs_reb u i g c (nI b') t x) 2 i 5 (nI k')) (mz_u (rs_rebase r (nI i) (nI g) (nI b') t x) 8 0 i (nI k')) := by
  have h0 := h.1 i hi
  refine h.at (i := i) hc hn hK (h0.reb (by omega) hc hK hK' hcn hcc hg h1 h2 h3 t x) (fun k x f z => ?_) (fun a x z => ?_)
  · rcases mz_ne z with q | q
    · omega
    · have := qs_reb_fr _ _ _ _ _ _ _ q
      omega
  · rcases mz_ne z with q | q
    · omega
    · have := rs_rebase_fr r (by omega) hg (by omega) (h0.2.1.2.2.2.trans hcn) _ _ _ q
      omega
theorem qs_reb_of {u : mz_S} {i g c : Nat} {b : Int32} (hcn : u 3 i 3 = nI c) (hg : g ≤ c) (hc : c ≤ 12) (eg : qs_gone u i b = nI g) (t x : Int32) : qs_rebase u i b t x = qs_reb u i g c b t x := by
  unfold qs_rebase qs_reb
  rw [eg, hcn, pk_sub hg, nI_clamp (by omega), nI_clamp (by omega)]
theorem mz_tw (u : mz_S) (k i f : Nat) (v w : Int32) : mz_u (mz_u u k i f v) k i f w = mz_u u k i f w := by
  funext k' i' f'
  rw [mz_at, mz_at, mz_at]
  split <;> rfl
/-- all entries were cut before: the same as if all of them go -/
theorem qs_reb_cut {u : mz_S} {i c : Nat} {b0 : Nat} (e0 : u 3 i 0 = nI b0) (hb0 : b0 ≤ 100000) (hcn : u 3 i 3 = nI c) (hc : c ≤ 12) (b t x : Int32) : qs_rebase (qs_cut u i (u 3 i 0 + 1)) i b t x = qs_reb u i c c b t x := by
  have ecut : qs_cut u i (u 3 i 0 + 1) = mz_u u 3 i 3 0 := by
    unfold qs_cut
    by_cases z : c = 0
    · subst z
      rw [if_neg (fun y => by
        have := y.2
        rw [e0, hcn, nI_add, nI_1, nI_leI (by omega) (by omega)] at this
        omega)]
      have := mz_self u 3 i 3
      rw [hcn, nI_0] at this
      exact this.symm
    · rw [if_pos ⟨by rw [e0, nI_1]; exact nI_lt (by omega) (by omega), by rw [e0, hcn, nI_1, nI_add]; exact nI_le (by omega) (by omega)⟩, e0, nI_1, pk_sub (by omega), show b0 + 1 - b0 = 0 + 1 by omega, nI_pred]
      rfl
  rw [ecut]
  have eg : qs_gone (mz_u u 3 i 3 0) i b = nI 0 := by
    unfold qs_gone
    rw [mz_us]
    unfold mz_min
    rw [if_neg (fun z => by
      have h0 : ¬ mz_max 0 (b - mz_u u 3 i 3 0 3 i 0) < 0 := by
        unfold mz_max
        split
        · rename_i h
          exact fun z => Int32.lt_irrefl (Int32.lt_of_lt_of_le h (Int32.le_of_lt z))
        · exact Int32.lt_irrefl
      exact h0 z)]
    rfl
  rw [qs_reb_of (g := 0) (c := 0) (by rw [mz_us]; rfl) (Nat.le_refl 0) (by omega) eg]
  unfold qs_reb
  rw [Nat.sub_self, Nat.sub_self]
  unfold qs_mv
  rw [mz_tw]
theorem re.rSnap (h : re n cap S K u r) (hc : cap ≤ 12) (hn : n ≤ 5) (hK : K + 1 ≤ 100000) (hff : rs_ff S r < S) (hi : i < n) (hf : f < n) {p : Nat} (e1 : u 11 a 1 = nI f) (e3 : r 18 0 s = u 11 a 3) (e4 : r 19 0 s = u 11 a 4) (ep : u 11 a 4 = nI p) (hp : p ≤ K) (e5 : r 20 0 s = u 11 a 5) (e11 : r 23 0 s = u 11 a 11) : re n cap S K (qs_rSnap S u i a) (rs_rSnap S r s (nI i) (nI f)) := by
  have h0 := h.1 i hi
  unfold qs_rSnap rs_rSnap
  rw [nI_clamp (show i < 2 ^ 31 by omega), h0.1.2.2.2.1, e3]
  by_cases ht : u 11 a 3 < u 2 i 3
  · rw [if_pos ht, if_pos ht, e1]
    exact h.ans hc hn hff hi hf (Nat.zero_le K) (Or.inl rfl)
  · rw [if_neg ht, if_neg ht]
    have hv := h.role0 hc hn hi
    have hffv : rs_ff S (mz_u r 2 0 i 0) < S := by rw [rs_ff_u (by decide)]; exact hff
    have eu : ∀ q, mz_u u 2 i 2 0 11 a q = u 11 a q := fun q => mz_uk (by decide)
    have er : ∀ b, 15 ≤ b → mz_u r 2 0 i 0 b 0 s = r b 0 s := fun b hb => mz_uk (by omega)
    generalize mz_u u 2 i 2 0 = v at hv eu ⊢
    generalize mz_u r 2 0 i 0 = y at hv hffv er ⊢
    have g0 := hv.1 i hi
    obtain ⟨-, -, ⟨b, c, k, q1, q2, q3, q4, q5, q6, q7, q8⟩, -⟩ := id g0
    unfold qs_rSnap1 rs_rSnap1
    rw [nI_clamp (show i < 2 ^ 31 by omega), er 19 (by omega), e4, eu, eu, e1, g0.1.2.2.2.2.2, ep, q3]
    by_cases h1 : nI p ≤ nI k
    · rw [if_pos h1, if_pos h1]
      exact hv.ans hc hn hffv hi hf (show k ≤ K by omega) (Or.inr rfl)
    · rw [if_neg h1, if_neg h1]
      rw [nI_leI (by omega) (by omega)] at h1
      -- which entries go
      have key : ∃ g : Nat, g ≤ c ∧ p + (c - g) ≤ K ∧ qs_rSnapB v i a = mz_u (qs_reb v i g c (nI p) (u 11 a 5) (u 11 a 11)) 2 i 5 (nI p) ∧ rs_rSnapB y s (nI i) = mz_u (rs_rebase y (nI i) (nI g) (nI p) (u 11 a 5) (u 11 a 11)) 8 0 i (nI p) := by
        unfold qs_rSnapB rs_rSnapB rs_hasT qs_rSnapC
        simp only [nI_clamp (show i < 2 ^ 31 by omega), er 19 (by omega), er 20 (by omega), er 23 (by omega), e4, e5, e11, eu, ep, g0.2.1.1, g0.2.1.2.2.2, q1, q2]
        by_cases hh : qs_has v i (nI p)
        · have hh1 := hh.2
          rw [q1, q2, nI_add, nI_leI (by omega) (by omega)] at hh1
          rw [g0.entT (by omega) hc (by omega) hh]
          by_cases hT : qs_term v i (nI p) = u 11 a 5
          · rw [if_pos hT, if_pos ⟨(g0.has (by omega) _).mpr hh, hT⟩, pk_sub (by omega)]
            refine ⟨p - b, by omega, by omega, ?_, rfl⟩
            rw [qs_reb_of q2 (show p - b ≤ c by omega) (by omega)]
            unfold qs_gone
            rw [q1, q2, pk_sub (by omega), show (0 : Int32) = nI 0 from rfl, nI_max _ _ (by omega) (by omega), nI_min _ _ (by omega) (by omega), show min c (max 0 (p - b)) = p - b by omega]
          · rw [if_neg hT, if_neg (fun z => hT z.2)]
            refine ⟨c, Nat.le_refl c, by omega, ?_, rfl⟩
            have := qs_reb_cut q1 (by omega) q2 (by omega) (nI p) (u 11 a 5) (u 11 a 11)
            rw [q1] at this
            rw [this]
        · have hh1 : b + c < p := by
            have : ¬ (nI p ≤ nI b + nI c) := fun z => hh ⟨by rw [q1]; exact nI_lt (by omega) (by omega), by rw [q1, q2]; exact z⟩
            rw [nI_add, nI_leI (by omega) (by omega)] at this
            omega
          have hnT : ¬ (rs_has y (nI i) (nI p) ∧ y 11 0 (rs_place y (nI i) (nI p)).toNatClampNeg = u 11 a 5) := fun z => hh ((g0.has (by omega) _).mp z.1)
          rw [if_neg hnT]
          refine ⟨c, Nat.le_refl c, by omega, ?_, rfl⟩
          by_cases hT : qs_term v i (nI p) = u 11 a 5
          · rw [if_pos hT, qs_reb_of q2 (Nat.le_refl c) (by omega)]
            unfold qs_gone
            rw [q1, q2, pk_sub (by omega), show (0 : Int32) = nI 0 from rfl, nI_max _ _ (by omega) (by omega), nI_min _ _ (by omega) (by omega), show min c (max 0 (p - b)) = c by omega]
          · rw [if_neg hT]
            have := qs_reb_cut q1 (by omega) q2 (by omega) (nI p) (u 11 a 5) (u 11 a 11)
            rw [q1] at this
            rw [this]
      obtain ⟨g, hg, hl, k1, k2⟩ := key
      rw [k1, k2]
      have hR := hv.reb hc hn hi (K' := K) (Nat.le_refl K) (by omega) (b' := p) (k' := p) q2 q6 hg (Nat.le_refl p) (by omega) hl (u 11 a 5) (u 11 a 11)
      refine hR.ans hc hn ?_ hi hf hp (Or.inr rfl)
      rw [rs_ff_u (by decide)]
      unfold rs_rebase rs_cutF
      rw [rs_ff_u (by decide), rs_ff_u (by decide), rs_ff_u (by decide), rs_ff_u (by decide), rs_ff_same (fun x => rs_mv_o _ _ _ (by decide) (by decide) _ _ _)]
      exact hffv
end RX
