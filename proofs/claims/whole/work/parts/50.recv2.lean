section RA
variable {n cap S K : Nat} {u r : mz_S} {i a s f : Nat}
theorem nI_max (x y : Nat) (hx : x < 2 ^ 31) (hy : y < 2 ^ 31) : mz_max (nI x) (nI y) = nI (max x y) := by
  unfold mz_max
  by_cases z : x < y
  · rw [if_pos (nI_lt z hy), show max x y = y by omega]
  · rw [if_neg (nI_nlt (by omega) hx), show max x y = x by omega]
theorem nI_min (x y : Nat) (hx : x < 2 ^ 31) (hy : y < 2 ^ 31) : mz_min (nI x) (nI y) = nI (min x y) := by
  unfold mz_min
  by_cases z : y < x
  · rw [if_pos (nI_lt z hx), show min x y = y by omega]
  · rw [if_neg (nI_nlt (by omega) hy), show min x y = x by omega]
theorem nI_ifm (x y : Nat) (hx : x < 2 ^ 31) (hy : y < 2 ^ 31) : (if nI x < nI y then nI x else nI y) = nI (min x y) := by
  by_cases z : x < y
  · rw [if_pos (nI_lt z hy), show min x y = x by omega]
  · rw [if_neg (nI_nlt (by omega) hx), show min x y = y by omega]
theorem nI_ifx (x y : Nat) (hx : x < 2 ^ 31) (hy : y < 2 ^ 31) : (if nI x < nI y then nI y else nI x) = nI (max x y) := nI_max x y hx hy
/-- behind an entry's taking the log reaches at least to where it reached, or was cut -/
theorem qs_take_last (h0 : re_N n cap K u r i) (hc : cap ≤ 12) (hK : K ≤ 100000) {b c p : Nat} (e1 : u 3 i 0 = nI b) (e2 : u 3 i 3 = nI c) (hcc : c ≤ cap) (hb : b + c ≤ 100000) (hp : b ≤ p) (hp2 : p ≤ b + c) (t x : Int32) : ∃ c' : Nat, qs_take cap u i (nI (p + 1)) t x 3 i 0 = nI b ∧ qs_take cap u i (nI (p + 1)) t x 3 i 3 = nI c' ∧ p ≤ b + c' ∧ c' ≤ cap := by
  have h1 : ∃ c1 : Nat, qs_take1 u i (nI (p + 1)) t 3 i 0 = nI b ∧ qs_take1 u i (nI (p + 1)) t 3 i 3 = nI c1 ∧ p ≤ b + c1 ∧ c1 ≤ cap := by
    unfold qs_take1
    split
    · rename_i hh
      unfold qs_cutc qs_cut
      rw [if_pos hh.1]
      refine ⟨p - b, ?_, ?_, by omega, ?_⟩
      · rw [mz_uk (by decide), mz_uf (by decide)]
        exact e1
      · rw [mz_uk (by decide), mz_us, e1, pk_sub (by omega), show p + 1 - b = (p - b) + 1 by omega, nI_pred]
      · have := hh.1.2
        rw [e1, e2, nI_add, nI_leI (by omega) (by omega)] at this
        omega
    · exact ⟨c, e1, e2, hp2, hcc⟩
  obtain ⟨c1, g1, g2, g3, g4⟩ := h1
  unfold qs_take
  split
  · exact ⟨c1, g1, g2, g3, g4⟩
  · unfold qs_add
    split
    · exact ⟨c1, g1, g2, g3, g4⟩
    · rename_i hf
      unfold qs_full at hf
      rw [g2, nI_leI (by omega) (by omega)] at hf
      refine ⟨c1 + 1, ?_, ?_, by omega, by omega⟩
      · rw [mz_uf (by decide), mz_uk (by decide), mz_uk (by decide)]
        exact g1
      · rw [mz_us, g2, nI_1]
theorem re.rApp (h : re n cap S K u r) (hc : cap ≤ 12) (hn : n ≤ 5) (hK : K + 1 ≤ 100000) (hff : rs_ff S r < S) (hi : i < n) (hf : f < n) {p w : Nat} (e1 : u 11 a 1 = nI f) (e3 : r 18 0 s = u 11 a 3) (e4 : r 19 0 s = u 11 a 4) (ep : u 11 a 4 = nI p) (hp : p ≤ K) (e5 : r 20 0 s = u 11 a 5) (e7 : r 21 0 s = 0 ↔ u 11 a 7 = 0) (e10 : r 24 0 s = u 11 a 10) (ew : u 11 a 10 = nI w) (hw : w ≤ K) (e89 : u 11 a 7 ≠ 0 → r 22 0 s = u 11 a 8 ∧ r 23 0 s = u 11 a 9) : re n cap S (K + 1) (qs_rApp cap S u i a) (rs_rApp cap S r s (nI i) (nI f)) := by
  have h0 := h.1 i hi
  unfold qs_rApp rs_rApp
  rw [nI_clamp (show i < 2 ^ 31 by omega), h0.1.2.2.2.1, e3]
  by_cases ht : u 11 a 3 < u 2 i 3
  · rw [if_pos ht, if_pos ht, e1]
    exact (h.ans hc hn hff hi hf (Nat.zero_le K) (Or.inl rfl)).mono (by omega)
  · rw [if_neg ht, if_neg ht]
    have hv := h.role0 hc hn hi
    have hffv : rs_ff S (mz_u r 2 0 i 0) < S := by rw [rs_ff_u (by decide)]; exact hff
    have eu : ∀ q, mz_u u 2 i 2 0 11 a q = u 11 a q := fun q => mz_uk (by decide)
    have er : ∀ b, 15 ≤ b → mz_u r 2 0 i 0 b 0 s = r b 0 s := fun b hb => mz_uk (by omega)
    generalize mz_u u 2 i 2 0 = v at hv eu ⊢
    generalize mz_u r 2 0 i 0 = y at hv hffv er ⊢
    have g0 := hv.1 i hi
    obtain ⟨-, -, ⟨b, c, k, q1, q2, q3, q4, q5, q6, q7, q8⟩, -⟩ := id g0
    have el : qs_last v i = nI (b + c) := by unfold qs_last; rw [q1, q2, nI_add]
    unfold qs_rApp1 rs_rApp1
    rw [nI_clamp (show i < 2 ^ 31 by omega), er 19 (by omega), er 20 (by omega), e4, e5, eu, eu, eu, g0.2.1.1, g0.last (by omega), g0.term (by omega) hc (by omega), e1]
    by_cases h1 : u 11 a 4 < v 3 i 0
    · rw [if_pos h1, if_pos h1, q1]
      exact (hv.ans hc hn hffv hi hf (show b ≤ K by omega) (Or.inr rfl)).mono (by omega)
    · rw [if_neg h1, if_neg h1]
      by_cases h2 : qs_last v i < u 11 a 4 ∨ ¬ qs_term v i (u 11 a 4) = u 11 a 5
      · rw [if_pos h2, if_pos h2]
        exact (hv.ans hc hn hffv hi hf (Nat.zero_le K) (Or.inl rfl)).mono (by omega)
      · rw [if_neg h2, if_neg h2]
        have hp1 : b ≤ p := by
          rw [ep, q1] at h1
          have := Int32.not_lt.mp h1
          rw [nI_leI (by omega) (by omega)] at this
          exact this
        have hp2 : p ≤ b + c := by
          have := Int32.not_lt.mp (fun z => h2 (Or.inl z))
          rw [ep, el, nI_leI (by omega) (by omega)] at this
          exact this
        -- the entry, and how far the log is known to agree
        obtain ⟨hE, hx, eH1, eH2, hx2, hxl⟩ : re n cap S (K + 1) (qs_rAppE cap v i a) (rs_rAppE cap y s (nI i)) ∧ ∃ hx : Nat, qs_rAppH cap v i a = nI hx ∧ rs_rAppH cap y s (nI i) = nI hx ∧ hx ≤ K + 1 ∧ ∃ b' c' : Nat, qs_rAppE cap v i a 3 i 0 = nI b' ∧ qs_rAppE cap v i a 3 i 3 = nI c' ∧ hx ≤ b' + c' ∧ b' ≤ 100000 ∧ c' ≤ 12 := by
          unfold qs_rAppH rs_rAppH qs_rAppE rs_rAppE
          rw [er 21 (by omega), er 19 (by omega), er 22 (by omega), er 23 (by omega), e4, eu, eu, eu, eu]
          by_cases h3 : u 11 a 7 = 0
          · rw [if_pos h3, if_pos h3, if_pos (e7.mpr h3), if_pos (e7.mpr h3), ep]
            exact ⟨hv.mono (by omega), p, rfl, rfl, by omega, b, c, q1, q2, hp2, by omega, by omega⟩
          · rw [if_neg h3, if_neg h3, if_neg (fun z => h3 (e7.mp z)), if_neg (fun z => h3 (e7.mp z)), (e89 h3).1, (e89 h3).2, ep, nI_1]
            have hT := hv.take hc hn (by omega) hi (nI (p + 1)) (u 11 a 8) (u 11 a 9)
            have hR := hv.takeR hc hn (by omega) hi (nI (p + 1)) (u 11 a 8) (u 11 a 9)
            obtain ⟨c', l1, l2, l3, l4⟩ := qs_take_last g0 hc (by omega) q1 q2 q6 (by omega) hp1 hp2 (u 11 a 8) (u 11 a 9)
            rw [hR, nI_pred]
            refine ⟨hT, ?_⟩
            by_cases h4 : qs_has (qs_take cap v i (nI (p + 1)) (u 11 a 8) (u 11 a 9)) i (nI (p + 1))
            · rw [if_pos h4]
              have := h4.2
              rw [l1, l2, nI_add, nI_leI (by omega) (by omega)] at this
              exact ⟨p + 1, rfl, rfl, by omega, b, c', l1, l2, this, by omega, by omega⟩
            · rw [if_neg h4]
              exact ⟨p, rfl, rfl, by omega, b, c', l1, l2, l3, by omega, by omega⟩
        obtain ⟨b', c', l1, l2, l3, l4, l5⟩ := hxl
        have hffE : rs_ff S (rs_rAppE cap y s (nI i)) < S := by
          rw [rs_ff_same (fun x => rs_rAppE_o _ _ _ _ (by decide) (by decide) (by decide) (by decide) _ _)]
          exact hffv
        unfold qs_rAppC rs_rAppC rs_rAppX
        rw [eH1, eH2, er 24 (by omega), e10, eu, ew, nI_clamp (show i < 2 ^ 31 by omega)]
        generalize qs_rAppE cap v i a = w1 at hE l1 l2 ⊢
        generalize rs_rAppE cap y s (nI i) = w2 at hE hffE ⊢
        obtain ⟨⟨-, -, -, -, -, a8⟩, -, ⟨b2, c2, k2, r1, r2, r3, r4, r5, r6, r7, r8⟩, -⟩ := id (hE.1 i hi)
        rw [l1, nI_eq (by omega) (by omega)] at r1
        rw [l2, nI_eq (by omega) (by omega)] at r2
        subst r1
        subst r2
        rw [a8, r3, nI_min _ _ (by omega) (by omega), nI_ifm _ _ (by omega) (by omega), nI_max _ _ (by omega) (by omega), nI_ifx _ _ (by omega) (by omega)]
        have hC := hE.commit hc hn hi (k' := max k2 (min w hx)) l1 l2 (by omega) (by omega) (by omega) (by omega) (by omega)
        exact hC.ans hc hn (by rw [rs_ff_u (by decide)]; exact hffE) hi hf hx2 (Or.inr rfl)
end RA
