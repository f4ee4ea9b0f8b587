set_option maxRecDepth 100000 in
set_option maxHeartbeats 4000000 in
theorem qc_advanceCommit (l : Launch) (D : va_G) (L : qL) (hL : qL_ok L) (u : mz_S) (i : Nat) (hi : i < ql_n L) (hq : qwc (ql_c L) u i (u 2 i 5)) : mz_Cv l (qG D L) (qK D L) (qA L) yX4_advanceCommit (tz_w yX4_advanceCommit cX4_advanceCommit 3 none) ({ frames := 2, cells := 0, slots := 0, locals := 42 } : Room) [.ref (L.1 0 0), .ref (L.1 2 i)] u (qs_advance (ql_n L) u i) := by
  refine mz_Cv.of (cc := cX4_advanceCommit) (maxL := 3) (ret := none) (by decide) rfl (Nat.le_of_ble_eq_true rfl) ?_
  intro p e s m args below meth c ls hx hb hr hlk hml hown hts hl hG hK hS
  have hl : lv_has ls 3 [(0, .ref (L.1 0 0)), (1, .ref (L.1 2 i))] := hl
  have htz : ∀ w ∈ tz, w.before args s = true := fun w h => hts w (List.mem_cons_of_mem _ h)
  have hc12 : ql_c L ≤ 12 := hL.1.2.2.2.1
  have hn5 : ql_n L ≤ 5 := hL.1.2.1
  have h40 : ql_S L ≤ 40 := hL.1.2.2.2.2.2
  refine lv_aload_n hx hb dX4_advanceCommit_0 rfl (lv_at hl 1 rfl) ?_
  refine qgN_2 (f := 6) hx hb htz tin_X3 hown hK hG hi (va_Nw.use rfl (hK.2 _ nX4_72)) (by decide) rfl dX4_advanceCommit_1 ?_
  refine mz_Ni (As := []) (rest := []) ⟨hx, hb, hml, hown, hts⟩ (qc_lastNumber l D L hL _ i hi) (tz_N htz mX0_lastNumber (hK.2 _ nX4_98) rfl rfl ⟨Nat.le_of_ble_eq_true rfl, Nat.le_of_ble_eq_true rfl⟩) (qrecv_3 hK hG hi) qK_ok hK hG hS rfl hl.1 rfl (Nat.le_of_ble_eq_true rfl) dX4_advanceCommit_4 ⟨Nat.zero_le _, Nat.zero_le _⟩ (fun H locs hG hS => ?_)
  refine lv_istore_n hx hb dX4_advanceCommit_7 rfl hl (by decide) rfl (fun ls hl => ?_)
  have hl : lv_has ls 3 [(2, .int _), (0, .ref _), (1, .ref _)] := hl
  have hw := hq.qw
  obtain ⟨b, k9, q, e1, e2, e3, g1, g2, g3, g4⟩ := hq
  have el : qs_last u i = nI (b + k9) := by rw [qs_last, e1, e2, nI_add]
  have hl : lv_has ls 3 [(2, .int (qs_last u i)), (0, .ref (L.1 0 0)), (1, .ref (L.1 2 i))] := hl
  rw [el] at hl
  refine mz_loop (b + k9 - q) (P := fun j ls H locs => lv_has ls 3 [(2, .int (nI (b + k9 - j))), (0, .ref (L.1 0 0)), (1, .ref (L.1 2 i))] ∧ qG D L u H ∧ va_S (qA L) s.heap H locs ∧ j ≤ b + k9 - q ∧ qs_adv (ql_n L) u i (b + k9 - q - j) (nI (b + k9 - j)) = qs_advance (ql_n L) u i) (fun _ _ _ _ h => h.2.2.2.1) ?_ 0 _ _ _ ⟨hl, hG, hS, Nat.zero_le _, by rw [qs_advance, el, e3, pk_sub (by omega), nI_clamp (by omega)]; rfl⟩
  intro j ls H locs ⟨hl, hG, hS, hj, ha9⟩ ih
  refine lv_iload_n hx hb dX4_advanceCommit_8 rfl (lv_at hl 0 rfl) ?_
  refine lv_aload_n hx hb dX4_advanceCommit_9 rfl (lv_at hl 2 rfl) ?_
  refine qgN_2 (f := 5) hx hb htz tin_X3 hown hK hG hi (va_Nw.use rfl (hK.2 _ nX4_101)) (by decide) rfl dX4_advanceCommit_10 ?_
  refine mz_icmp_le hx hb dX4_advanceCommit_13 (tgt := 55) rfl (fun h0 h0' => ?_) (fun h0 h0' => ?_)
  · rw [e3, nI_leI (by omega) (by omega)] at h0'
    exact mz_vret hx hb hr hlk qK_ok hK hS hG dX4_advanceCommit_55 (by rw [← ha9, show b + k9 - q - j = 0 by omega]; rfl)
  · have h9 := h0
    rw [e3, nI_ltI (by omega) (by omega)] at h0
    refine lv_aload_n hx hb dX4_advanceCommit_16 rfl (lv_at hl 2 rfl) ?_
    refine qgN_2 (f := 6) hx hb htz tin_X3 hown hK hG hi (va_Nw.use rfl (hK.2 _ nX4_72)) (by decide) rfl dX4_advanceCommit_17 ?_
    refine lv_iload_n hx hb dX4_advanceCommit_20 rfl (lv_at hl 0 rfl) ?_
    refine mz_Ni (As := [.int _]) (rest := []) ⟨hx, hb, hml, hown, hts⟩ (qc_termOf l D L hL _ i hi _ hw) (tz_N htz mX0_termOf (hK.2 _ nX4_104) rfl rfl ⟨Nat.le_of_ble_eq_true rfl, Nat.le_of_ble_eq_true rfl⟩) (qrecv_3 hK hG hi) qK_ok hK hG hS rfl hl.1 rfl (Nat.le_of_ble_eq_true rfl) dX4_advanceCommit_21 ⟨Nat.zero_le _, Nat.zero_le _⟩ (fun H locs hG hS => ?_)
    refine lv_aload_n hx hb dX4_advanceCommit_24 rfl (lv_at hl 2 rfl) ?_
    refine qgN_2 (f := 3) hx hb htz tin_X3 hown hK hG hi (va_Nw.use rfl (hK.2 _ nX4_91)) (by decide) rfl dX4_advanceCommit_25 ?_
    refine lv_icmp_ne hx hb dX4_advanceCommit_28 (tgt := 49) rfl (fun h1 => ?_) (fun h1 => ?_)
    · refine lv_iinc (k := 0) hx hb dX4_advanceCommit_49 hl rfl (show _ = nI (b + k9 - (j + 1)) from by rw [show b + k9 - (j + 1) = b + k9 - j - 1 by omega]; exact sb_m1 (by omega)) (by decide) rfl (fun ls hl => ?_)
      have hl : lv_has ls 3 [(2, .int _), (0, .ref _), (1, .ref _)] := hl
      refine lv_goto hx hb dX4_advanceCommit_52 (tgt := 8) rfl ?_
      exact ih (by omega) _ _ _ ⟨hl, hG, hS, by omega, by
        rw [← ha9, show b + k9 - q - j = (b + k9 - q - (j + 1)) + 1 by omega, qs_adv, if_pos h9]
        first
          | rw [if_neg (fun z => h1 z.1), show nI (b + k9 - j) - 1 = nI (b + k9 - (j + 1)) from by rw [show b + k9 - j = (b + k9 - (j + 1)) + 1 by omega, nI_pred]]
          | rw [if_neg (fun z => h2 z.2), show nI (b + k9 - j) - 1 = nI (b + k9 - (j + 1)) from by rw [show b + k9 - j = (b + k9 - (j + 1)) + 1 by omega, nI_pred]]⟩
    · refine lv_aload_n hx hb dX4_advanceCommit_31 rfl (lv_at hl 1 rfl) ?_
      refine lv_aload_n hx hb dX4_advanceCommit_32 rfl (lv_at hl 2 rfl) ?_
      refine lv_iload_n hx hb dX4_advanceCommit_33 rfl (lv_at hl 0 rfl) ?_
      refine mz_Ni (As := [.int _]) (rest := [.ref _]) ⟨hx, hb, hml, hown, hts⟩ (qc_countHolders l D L hL _ i hi _) (tz_N htz mX3_countHolders (hK.2 _ nX4_263) rfl rfl ⟨Nat.le_of_ble_eq_true rfl, Nat.le_of_ble_eq_true rfl⟩) (qrecv_2 hK hG hi) qK_ok hK hG hS rfl hl.1 rfl (Nat.le_of_ble_eq_true rfl) dX4_advanceCommit_34 ⟨Nat.zero_le _, Nat.zero_le _⟩ (fun H locs hG hS => ?_)
      refine mz_Vi (As := [.int _]) (rest := []) ⟨hx, hb, hml, hown, hts⟩ (qc_isMajority l D L hL _ _) (tz_V htz mX4_isMajority lX4_243 rfl rfl ⟨Nat.le_of_ble_eq_true rfl, Nat.le_of_ble_eq_true rfl⟩) (qrecv_0 hK hG (by decide)) qK_ok hK hG hS rfl hl.1 rfl (Nat.le_of_ble_eq_true rfl) dX4_advanceCommit_37 ⟨Nat.zero_le _, Nat.zero_le _⟩ (fun H locs hG hS => ?_)
      refine mz_ifeq_b hx hb dX4_advanceCommit_40 (tgt := 49) rfl (fun h2 => ?_) (fun h2 => ?_)
      · refine lv_iinc (k := 0) hx hb dX4_advanceCommit_49 hl rfl (show _ = nI (b + k9 - (j + 1)) from by rw [show b + k9 - (j + 1) = b + k9 - j - 1 by omega]; exact sb_m1 (by omega)) (by decide) rfl (fun ls hl => ?_)
        have hl : lv_has ls 3 [(2, .int _), (0, .ref _), (1, .ref _)] := hl
        refine lv_goto hx hb dX4_advanceCommit_52 (tgt := 8) rfl ?_
        exact ih (by omega) _ _ _ ⟨hl, hG, hS, by omega, by
          rw [← ha9, show b + k9 - q - j = (b + k9 - q - (j + 1)) + 1 by omega, qs_adv, if_pos h9]
          first
            | rw [if_neg (fun z => h1 z.1), show nI (b + k9 - j) - 1 = nI (b + k9 - (j + 1)) from by rw [show b + k9 - j = (b + k9 - (j + 1)) + 1 by omega, nI_pred]]
            | rw [if_neg (fun z => h2 z.2), show nI (b + k9 - j) - 1 = nI (b + k9 - (j + 1)) from by rw [show b + k9 - j = (b + k9 - (j + 1)) + 1 by omega, nI_pred]]⟩
      · refine lv_aload_n hx hb dX4_advanceCommit_43 rfl (lv_at hl 2 rfl) ?_
        refine lv_iload_n hx hb dX4_advanceCommit_44 rfl (lv_at hl 0 rfl) ?_
        refine qpN_2_5 hx hb htz tin_X3 hown hL hK hG hS hi (va_Nw.use rfl (hK.2 _ nX4_101)) dX4_advanceCommit_45 (fun H locs hG hS => ?_)
        exact mz_vret hx hb hr hlk qK_ok hK hS hG dX4_advanceCommit_48 (by rw [← ha9, show b + k9 - q - j = (b + k9 - q - (j + 1)) + 1 by omega, qs_adv, if_pos h9, if_pos ⟨h1, h2⟩])

set_option maxRecDepth 100000 in
set_option maxHeartbeats 4000000 in
theorem qc_receiveAsk (l : Launch) (D : va_G) (L : qL) (hL : qL_ok L) (u : mz_S) (i : Nat) (hi : i < ql_n L) (a : Nat) (ha : a < ql_S L + 2) (hw : qw (ql_c L) u i) : mz_Cv l (qG D L) (qK D L) (qA L) yX4_receiveAsk (tz_w yX4_receiveAsk cX4_receiveAsk 5 none) ({ frames := 3, cells := 0, slots := 0, locals := 66 } : Room) [.ref (L.1 0 0), .ref (L.1 2 i), .ref (L.1 11 a)] u (qs_rAsk (ql_S L) u i a) := by
  refine mz_Cv.of (cc := cX4_receiveAsk) (maxL := 5) (ret := none) (by decide) rfl (Nat.le_of_ble_eq_true rfl) ?_
  intro p e s m args below meth c ls hx hb hr hlk hml hown hts hl hG hK hS
  have hl : lv_has ls 5 [(0, .ref (L.1 0 0)), (1, .ref (L.1 2 i)), (2, .ref (L.1 11 a))] := hl
  have htz : ∀ w ∈ tz, w.before args s = true := fun w h => hts w (List.mem_cons_of_mem _ h)
  refine lv_aload_n hx hb dX4_receiveAsk_0 rfl (lv_at hl 1 rfl) ?_
  refine qgN_2 (f := 4) hx hb htz tin_X3 hown hK hG hi (va_Nw.use rfl (hK.2 _ nX4_145)) (by decide) rfl dX4_receiveAsk_1 ?_
  refine lv_iconst (v := (-1)) hx hb dX4_receiveAsk_4 (by decide) ?_
  refine lv_icmp_eq hx hb dX4_receiveAsk_5 (tgt := 19) rfl (fun h0 => ?_) (fun h0 => ?_)
  · refine lv_iconst (v := 1) hx hb dX4_receiveAsk_19 (by decide) ?_
    refine lv_goto hx hb dX4_receiveAsk_20 (tgt := 24) rfl ?_
    refine lv_istore_n hx hb dX4_receiveAsk_24 rfl hl (by decide) rfl (fun ls hl => ?_)
    have hl : lv_has ls 5 [(3, .int _), (0, .ref _), (1, .ref _), (2, .ref _)] := hl
    refine lv_aload_n hx hb dX4_receiveAsk_25 rfl (lv_at hl 3 rfl) ?_
    refine qgN_11 (f := 3) hx hb htz tin_X1 hown hK hG ha (va_Nw.use rfl (hK.2 _ nX4_161)) (by decide) rfl dX4_receiveAsk_26 ?_
    refine lv_aload_n hx hb dX4_receiveAsk_29 rfl (lv_at hl 2 rfl) ?_
    refine qgN_2 (f := 3) hx hb htz tin_X3 hown hK hG hi (va_Nw.use rfl (hK.2 _ nX4_91)) (by decide) rfl dX4_receiveAsk_30 ?_
    refine lv_icmp_ne hx hb dX4_receiveAsk_33 (tgt := 62) rfl (fun h2 => ?_) (fun h2 => ?_)
    · refine lv_iconst (v := 0) hx hb dX4_receiveAsk_62 (by decide) ?_
      refine lv_istore hx hb dX4_receiveAsk_63 hl (by decide) rfl (fun ls hl => ?_)
      have hl : lv_has ls 5 [(4, .int _), (3, .int _), (0, .ref _), (1, .ref _), (2, .ref _)] := hl
      refine lv_iload hx hb dX4_receiveAsk_65 (lv_at hl 0 rfl) ?_
      refine lv_if_eq hx hb dX4_receiveAsk_67 (tgt := 78) rfl (fun h_1 => ?_) (fun h_1 => ?_)
      · refine lv_aload_n hx hb dX4_receiveAsk_78 rfl (lv_at hl 2 rfl) ?_
        refine lv_aload_n hx hb dX4_receiveAsk_79 rfl (lv_at hl 3 rfl) ?_
        refine lv_aload_n hx hb dX4_receiveAsk_80 rfl (lv_at hl 4 rfl) ?_
        refine qgN_11 (f := 1) (v := .int (u 11 a 1)) hx hb htz tin_X1 hown hK hG ha (va_Nw.use rfl (hK.2 _ nX4_158)) (by decide) (by simp [qf11, mz_at]) dX4_receiveAsk_81 ?_
        refine lv_iload hx hb dX4_receiveAsk_84 (lv_at hl 0 rfl) ?_
        refine mz_Vv (As := [.ref _, .int _, .int _]) (rest := []) ⟨hx, hb, hml, hown, hts⟩ (qc_sendVote l D L hL _ i hi _ _ (by decide)) (tz_V htz mX4_sendVote lX4_232 rfl rfl ⟨Nat.le_of_ble_eq_true rfl, Nat.le_of_ble_eq_true rfl⟩) (qrecv_0 hK hG (by decide)) qK_ok hK hG hS rfl hl.1 rfl (Nat.le_of_ble_eq_true rfl) dX4_receiveAsk_86 ⟨Nat.zero_le _, Nat.zero_le _⟩ (fun H locs hG hS => ?_)
        exact mz_vret hx hb hr hlk qK_ok hK hS hG dX4_receiveAsk_89 (by simp [qs_rAsk, h0, h2, h_1])
      · exact absurd h_1 (by decide)
    · refine lv_iload_n hx hb dX4_receiveAsk_36 rfl (lv_at hl 0 rfl) ?_
      refine lv_if_eq hx hb dX4_receiveAsk_37 (tgt := 62) rfl (fun h_2 => ?_) (fun h_2 => ?_)
      · exact absurd h_2 (by decide)
      · refine lv_aload_n hx hb dX4_receiveAsk_40 rfl (lv_at hl 2 rfl) ?_
        refine qgN_2 (f := 6) hx hb htz tin_X3 hown hK hG hi (va_Nw.use rfl (hK.2 _ nX4_72)) (by decide) rfl dX4_receiveAsk_41 ?_
        refine lv_aload_n hx hb dX4_receiveAsk_44 rfl (lv_at hl 3 rfl) ?_
        refine qgN_11 (f := 4) hx hb htz tin_X1 hown hK hG ha (va_Nw.use rfl (hK.2 _ nX4_178)) (by decide) rfl dX4_receiveAsk_45 ?_
        refine lv_aload_n hx hb dX4_receiveAsk_48 rfl (lv_at hl 3 rfl) ?_
        refine qgN_11 (f := 5) hx hb htz tin_X1 hown hK hG ha (va_Nw.use rfl (hK.2 _ nX4_184)) (by decide) rfl dX4_receiveAsk_49 ?_
        refine mz_Ni (As := [.int _, .int _]) (rest := []) ⟨hx, hb, hml, hown, hts⟩ (qc_isNotAheadOf l D L hL _ i hi _ _ hw) (tz_N htz mX0_isNotAheadOf (hK.2 _ nX4_229) rfl rfl ⟨Nat.le_of_ble_eq_true rfl, Nat.le_of_ble_eq_true rfl⟩) (qrecv_3 hK hG hi) qK_ok hK hG hS rfl hl.1 rfl (Nat.le_of_ble_eq_true rfl) dX4_receiveAsk_52 ⟨Nat.zero_le _, Nat.zero_le _⟩ (fun H locs hG hS => ?_)
        refine mz_ifeq_b hx hb dX4_receiveAsk_55 (tgt := 62) rfl (fun h4 => ?_) (fun h4 => ?_)
        · refine lv_iconst (v := 0) hx hb dX4_receiveAsk_62 (by decide) ?_
          refine lv_istore hx hb dX4_receiveAsk_63 hl (by decide) rfl (fun ls hl => ?_)
          have hl : lv_has ls 5 [(4, .int _), (3, .int _), (0, .ref _), (1, .ref _), (2, .ref _)] := hl
          refine lv_iload hx hb dX4_receiveAsk_65 (lv_at hl 0 rfl) ?_
          refine lv_if_eq hx hb dX4_receiveAsk_67 (tgt := 78) rfl (fun h_3 => ?_) (fun h_3 => ?_)
          · refine lv_aload_n hx hb dX4_receiveAsk_78 rfl (lv_at hl 2 rfl) ?_
            refine lv_aload_n hx hb dX4_receiveAsk_79 rfl (lv_at hl 3 rfl) ?_
            refine lv_aload_n hx hb dX4_receiveAsk_80 rfl (lv_at hl 4 rfl) ?_
            refine qgN_11 (f := 1) (v := .int (u 11 a 1)) hx hb htz tin_X1 hown hK hG ha (va_Nw.use rfl (hK.2 _ nX4_158)) (by decide) (by simp [qf11, mz_at]) dX4_receiveAsk_81 ?_
            refine lv_iload hx hb dX4_receiveAsk_84 (lv_at hl 0 rfl) ?_
            refine mz_Vv (As := [.ref _, .int _, .int _]) (rest := []) ⟨hx, hb, hml, hown, hts⟩ (qc_sendVote l D L hL _ i hi _ _ (by decide)) (tz_V htz mX4_sendVote lX4_232 rfl rfl ⟨Nat.le_of_ble_eq_true rfl, Nat.le_of_ble_eq_true rfl⟩) (qrecv_0 hK hG (by decide)) qK_ok hK hG hS rfl hl.1 rfl (Nat.le_of_ble_eq_true rfl) dX4_receiveAsk_86 ⟨Nat.zero_le _, Nat.zero_le _⟩ (fun H locs hG hS => ?_)
            exact mz_vret hx hb hr hlk qK_ok hK hS hG dX4_receiveAsk_89 (by simp [qs_rAsk, h0, h2, h_2, h4, h_3])
          · exact absurd h_3 (by decide)
        · refine lv_iconst (v := 1) hx hb dX4_receiveAsk_58 (by decide) ?_
          refine lv_goto hx hb dX4_receiveAsk_59 (tgt := 63) rfl ?_
          refine lv_istore hx hb dX4_receiveAsk_63 hl (by decide) rfl (fun ls hl => ?_)
          have hl : lv_has ls 5 [(4, .int _), (3, .int _), (0, .ref _), (1, .ref _), (2, .ref _)] := hl
          refine lv_iload hx hb dX4_receiveAsk_65 (lv_at hl 0 rfl) ?_
          refine lv_if_eq hx hb dX4_receiveAsk_67 (tgt := 78) rfl (fun h_4 => ?_) (fun h_4 => ?_)
          · exact absurd h_4 (by decide)
          · refine lv_aload_n hx hb dX4_receiveAsk_70 rfl (lv_at hl 3 rfl) ?_
            refine lv_aload_n hx hb dX4_receiveAsk_71 rfl (lv_at hl 4 rfl) ?_
            refine qgN_11 (f := 1) hx hb htz tin_X1 hown hK hG ha (va_Nw.use rfl (hK.2 _ nX4_158)) (by decide) rfl dX4_receiveAsk_72 ?_
            refine qpN_2_4 hx hb htz tin_X3 hown hL hK hG hS hi (va_Nw.use rfl (hK.2 _ nX4_145)) dX4_receiveAsk_75 (fun H locs hG hS => ?_)
            refine lv_aload_n hx hb dX4_receiveAsk_78 rfl (lv_at hl 2 rfl) ?_
            refine lv_aload_n hx hb dX4_receiveAsk_79 rfl (lv_at hl 3 rfl) ?_
            refine lv_aload_n hx hb dX4_receiveAsk_80 rfl (lv_at hl 4 rfl) ?_
            refine qgN_11 (f := 1) (v := .int (u 11 a 1)) hx hb htz tin_X1 hown hK hG ha (va_Nw.use rfl (hK.2 _ nX4_158)) (by decide) (by simp [qf11, mz_at]) dX4_receiveAsk_81 ?_
            refine lv_iload hx hb dX4_receiveAsk_84 (lv_at hl 0 rfl) ?_
            refine mz_Vv (As := [.ref _, .int _, .int _]) (rest := []) ⟨hx, hb, hml, hown, hts⟩ (qc_sendVote l D L hL _ i hi _ _ (by decide)) (tz_V htz mX4_sendVote lX4_232 rfl rfl ⟨Nat.le_of_ble_eq_true rfl, Nat.le_of_ble_eq_true rfl⟩) (qrecv_0 hK hG (by decide)) qK_ok hK hG hS rfl hl.1 rfl (Nat.le_of_ble_eq_true rfl) dX4_receiveAsk_86 ⟨Nat.zero_le _, Nat.zero_le _⟩ (fun H locs hG hS => ?_)
            exact mz_vret hx hb hr hlk qK_ok hK hS hG dX4_receiveAsk_89 (by simp [qs_rAsk, h0, h2, h_2, h4, h_4])
  · refine lv_aload_n hx hb dX4_receiveAsk_8 rfl (lv_at hl 1 rfl) ?_
    refine qgN_2 (f := 4) hx hb htz tin_X3 hown hK hG hi (va_Nw.use rfl (hK.2 _ nX4_145)) (by decide) rfl dX4_receiveAsk_9 ?_
    refine lv_aload_n hx hb dX4_receiveAsk_12 rfl (lv_at hl 2 rfl) ?_
    refine qgN_11 (f := 1) hx hb htz tin_X1 hown hK hG ha (va_Nw.use rfl (hK.2 _ nX4_158)) (by decide) rfl dX4_receiveAsk_13 ?_
    refine lv_icmp_ne hx hb dX4_receiveAsk_16 (tgt := 23) rfl (fun h1 => ?_) (fun h1 => ?_)
    · refine lv_iconst (v := 0) hx hb dX4_receiveAsk_23 (by decide) ?_
      refine lv_istore_n hx hb dX4_receiveAsk_24 rfl hl (by decide) rfl (fun ls hl => ?_)
      have hl : lv_has ls 5 [(3, .int _), (0, .ref _), (1, .ref _), (2, .ref _)] := hl
      refine lv_aload_n hx hb dX4_receiveAsk_25 rfl (lv_at hl 3 rfl) ?_
      refine qgN_11 (f := 3) hx hb htz tin_X1 hown hK hG ha (va_Nw.use rfl (hK.2 _ nX4_161)) (by decide) rfl dX4_receiveAsk_26 ?_
      refine lv_aload_n hx hb dX4_receiveAsk_29 rfl (lv_at hl 2 rfl) ?_
      refine qgN_2 (f := 3) hx hb htz tin_X3 hown hK hG hi (va_Nw.use rfl (hK.2 _ nX4_91)) (by decide) rfl dX4_receiveAsk_30 ?_
      refine lv_icmp_ne hx hb dX4_receiveAsk_33 (tgt := 62) rfl (fun h2 => ?_) (fun h2 => ?_)
      · refine lv_iconst (v := 0) hx hb dX4_receiveAsk_62 (by decide) ?_
        refine lv_istore hx hb dX4_receiveAsk_63 hl (by decide) rfl (fun ls hl => ?_)
        have hl : lv_has ls 5 [(4, .int _), (3, .int _), (0, .ref _), (1, .ref _), (2, .ref _)] := hl
        refine lv_iload hx hb dX4_receiveAsk_65 (lv_at hl 0 rfl) ?_
        refine lv_if_eq hx hb dX4_receiveAsk_67 (tgt := 78) rfl (fun h_5 => ?_) (fun h_5 => ?_)
        · refine lv_aload_n hx hb dX4_receiveAsk_78 rfl (lv_at hl 2 rfl) ?_
          refine lv_aload_n hx hb dX4_receiveAsk_79 rfl (lv_at hl 3 rfl) ?_
          refine lv_aload_n hx hb dX4_receiveAsk_80 rfl (lv_at hl 4 rfl) ?_
          refine qgN_11 (f := 1) (v := .int (u 11 a 1)) hx hb htz tin_X1 hown hK hG ha (va_Nw.use rfl (hK.2 _ nX4_158)) (by decide) (by simp [qf11, mz_at]) dX4_receiveAsk_81 ?_
          refine lv_iload hx hb dX4_receiveAsk_84 (lv_at hl 0 rfl) ?_
          refine mz_Vv (As := [.ref _, .int _, .int _]) (rest := []) ⟨hx, hb, hml, hown, hts⟩ (qc_sendVote l D L hL _ i hi _ _ (by decide)) (tz_V htz mX4_sendVote lX4_232 rfl rfl ⟨Nat.le_of_ble_eq_true rfl, Nat.le_of_ble_eq_true rfl⟩) (qrecv_0 hK hG (by decide)) qK_ok hK hG hS rfl hl.1 rfl (Nat.le_of_ble_eq_true rfl) dX4_receiveAsk_86 ⟨Nat.zero_le _, Nat.zero_le _⟩ (fun H locs hG hS => ?_)
          exact mz_vret hx hb hr hlk qK_ok hK hS hG dX4_receiveAsk_89 (by simp [qs_rAsk, h0, h1, h2, h_5])
        · exact absurd h_5 (by decide)
      · refine lv_iload_n hx hb dX4_receiveAsk_36 rfl (lv_at hl 0 rfl) ?_
        refine lv_if_eq hx hb dX4_receiveAsk_37 (tgt := 62) rfl (fun h_6 => ?_) (fun h_6 => ?_)
        · refine lv_iconst (v := 0) hx hb dX4_receiveAsk_62 (by decide) ?_
          refine lv_istore hx hb dX4_receiveAsk_63 hl (by decide) rfl (fun ls hl => ?_)
          have hl : lv_has ls 5 [(4, .int _), (3, .int _), (0, .ref _), (1, .ref _), (2, .ref _)] := hl
          refine lv_iload hx hb dX4_receiveAsk_65 (lv_at hl 0 rfl) ?_
          refine lv_if_eq hx hb dX4_receiveAsk_67 (tgt := 78) rfl (fun h_7 => ?_) (fun h_7 => ?_)
          · refine lv_aload_n hx hb dX4_receiveAsk_78 rfl (lv_at hl 2 rfl) ?_
            refine lv_aload_n hx hb dX4_receiveAsk_79 rfl (lv_at hl 3 rfl) ?_
            refine lv_aload_n hx hb dX4_receiveAsk_80 rfl (lv_at hl 4 rfl) ?_
            refine qgN_11 (f := 1) (v := .int (u 11 a 1)) hx hb htz tin_X1 hown hK hG ha (va_Nw.use rfl (hK.2 _ nX4_158)) (by decide) (by simp [qf11, mz_at]) dX4_receiveAsk_81 ?_
            refine lv_iload hx hb dX4_receiveAsk_84 (lv_at hl 0 rfl) ?_
            refine mz_Vv (As := [.ref _, .int _, .int _]) (rest := []) ⟨hx, hb, hml, hown, hts⟩ (qc_sendVote l D L hL _ i hi _ _ (by decide)) (tz_V htz mX4_sendVote lX4_232 rfl rfl ⟨Nat.le_of_ble_eq_true rfl, Nat.le_of_ble_eq_true rfl⟩) (qrecv_0 hK hG (by decide)) qK_ok hK hG hS rfl hl.1 rfl (Nat.le_of_ble_eq_true rfl) dX4_receiveAsk_86 ⟨Nat.zero_le _, Nat.zero_le _⟩ (fun H locs hG hS => ?_)
            exact mz_vret hx hb hr hlk qK_ok hK hS hG dX4_receiveAsk_89 (by simp [qs_rAsk, h0, h1, h2, h_6, h_7])
          · exact absurd h_7 (by decide)
        · exact absurd h_6 (by decide)
    · refine lv_iconst (v := 1) hx hb dX4_receiveAsk_19 (by decide) ?_
      refine lv_goto hx hb dX4_receiveAsk_20 (tgt := 24) rfl ?_
      refine lv_istore_n hx hb dX4_receiveAsk_24 rfl hl (by decide) rfl (fun ls hl => ?_)
      have hl : lv_has ls 5 [(3, .int _), (0, .ref _), (1, .ref _), (2, .ref _)] := hl
      refine lv_aload_n hx hb dX4_receiveAsk_25 rfl (lv_at hl 3 rfl) ?_
      refine qgN_11 (f := 3) hx hb htz tin_X1 hown hK hG ha (va_Nw.use rfl (hK.2 _ nX4_161)) (by decide) rfl dX4_receiveAsk_26 ?_
      refine lv_aload_n hx hb dX4_receiveAsk_29 rfl (lv_at hl 2 rfl) ?_
      refine qgN_2 (f := 3) hx hb htz tin_X3 hown hK hG hi (va_Nw.use rfl (hK.2 _ nX4_91)) (by decide) rfl dX4_receiveAsk_30 ?_
      refine lv_icmp_ne hx hb dX4_receiveAsk_33 (tgt := 62) rfl (fun h2 => ?_) (fun h2 => ?_)
      · refine lv_iconst (v := 0) hx hb dX4_receiveAsk_62 (by decide) ?_
        refine lv_istore hx hb dX4_receiveAsk_63 hl (by decide) rfl (fun ls hl => ?_)
        have hl : lv_has ls 5 [(4, .int _), (3, .int _), (0, .ref _), (1, .ref _), (2, .ref _)] := hl
        refine lv_iload hx hb dX4_receiveAsk_65 (lv_at hl 0 rfl) ?_
        refine lv_if_eq hx hb dX4_receiveAsk_67 (tgt := 78) rfl (fun h_8 => ?_) (fun h_8 => ?_)
        · refine lv_aload_n hx hb dX4_receiveAsk_78 rfl (lv_at hl 2 rfl) ?_
          refine lv_aload_n hx hb dX4_receiveAsk_79 rfl (lv_at hl 3 rfl) ?_
          refine lv_aload_n hx hb dX4_receiveAsk_80 rfl (lv_at hl 4 rfl) ?_
          refine qgN_11 (f := 1) (v := .int (u 11 a 1)) hx hb htz tin_X1 hown hK hG ha (va_Nw.use rfl (hK.2 _ nX4_158)) (by decide) (by simp [qf11, mz_at]) dX4_receiveAsk_81 ?_
          refine lv_iload hx hb dX4_receiveAsk_84 (lv_at hl 0 rfl) ?_
          refine mz_Vv (As := [.ref _, .int _, .int _]) (rest := []) ⟨hx, hb, hml, hown, hts⟩ (qc_sendVote l D L hL _ i hi _ _ (by decide)) (tz_V htz mX4_sendVote lX4_232 rfl rfl ⟨Nat.le_of_ble_eq_true rfl, Nat.le_of_ble_eq_true rfl⟩) (qrecv_0 hK hG (by decide)) qK_ok hK hG hS rfl hl.1 rfl (Nat.le_of_ble_eq_true rfl) dX4_receiveAsk_86 ⟨Nat.zero_le _, Nat.zero_le _⟩ (fun H locs hG hS => ?_)
          exact mz_vret hx hb hr hlk qK_ok hK hS hG dX4_receiveAsk_89 (by simp [qs_rAsk, h0, h1, h2, h_8])
        · exact absurd h_8 (by decide)
      · refine lv_iload_n hx hb dX4_receiveAsk_36 rfl (lv_at hl 0 rfl) ?_
        refine lv_if_eq hx hb dX4_receiveAsk_37 (tgt := 62) rfl (fun h_9 => ?_) (fun h_9 => ?_)
        · exact absurd h_9 (by decide)
        · refine lv_aload_n hx hb dX4_receiveAsk_40 rfl (lv_at hl 2 rfl) ?_
          refine qgN_2 (f := 6) hx hb htz tin_X3 hown hK hG hi (va_Nw.use rfl (hK.2 _ nX4_72)) (by decide) rfl dX4_receiveAsk_41 ?_
          refine lv_aload_n hx hb dX4_receiveAsk_44 rfl (lv_at hl 3 rfl) ?_
          refine qgN_11 (f := 4) hx hb htz tin_X1 hown hK hG ha (va_Nw.use rfl (hK.2 _ nX4_178)) (by decide) rfl dX4_receiveAsk_45 ?_
          refine lv_aload_n hx hb dX4_receiveAsk_48 rfl (lv_at hl 3 rfl) ?_
          refine qgN_11 (f := 5) hx hb htz tin_X1 hown hK hG ha (va_Nw.use rfl (hK.2 _ nX4_184)) (by decide) rfl dX4_receiveAsk_49 ?_
          refine mz_Ni (As := [.int _, .int _]) (rest := []) ⟨hx, hb, hml, hown, hts⟩ (qc_isNotAheadOf l D L hL _ i hi _ _ hw) (tz_N htz mX0_isNotAheadOf (hK.2 _ nX4_229) rfl rfl ⟨Nat.le_of_ble_eq_true rfl, Nat.le_of_ble_eq_true rfl⟩) (qrecv_3 hK hG hi) qK_ok hK hG hS rfl hl.1 rfl (Nat.le_of_ble_eq_true rfl) dX4_receiveAsk_52 ⟨Nat.zero_le _, Nat.zero_le _⟩ (fun H locs hG hS => ?_)
          refine mz_ifeq_b hx hb dX4_receiveAsk_55 (tgt := 62) rfl (fun h4 => ?_) (fun h4 => ?_)
          · refine lv_iconst (v := 0) hx hb dX4_receiveAsk_62 (by decide) ?_
            refine lv_istore hx hb dX4_receiveAsk_63 hl (by decide) rfl (fun ls hl => ?_)
            have hl : lv_has ls 5 [(4, .int _), (3, .int _), (0, .ref _), (1, .ref _), (2, .ref _)] := hl
            refine lv_iload hx hb dX4_receiveAsk_65 (lv_at hl 0 rfl) ?_
            refine lv_if_eq hx hb dX4_receiveAsk_67 (tgt := 78) rfl (fun h_10 => ?_) (fun h_10 => ?_)
            · refine lv_aload_n hx hb dX4_receiveAsk_78 rfl (lv_at hl 2 rfl) ?_
              refine lv_aload_n hx hb dX4_receiveAsk_79 rfl (lv_at hl 3 rfl) ?_
              refine lv_aload_n hx hb dX4_receiveAsk_80 rfl (lv_at hl 4 rfl) ?_
              refine qgN_11 (f := 1) (v := .int (u 11 a 1)) hx hb htz tin_X1 hown hK hG ha (va_Nw.use rfl (hK.2 _ nX4_158)) (by decide) (by simp [qf11, mz_at]) dX4_receiveAsk_81 ?_
              refine lv_iload hx hb dX4_receiveAsk_84 (lv_at hl 0 rfl) ?_
              refine mz_Vv (As := [.ref _, .int _, .int _]) (rest := []) ⟨hx, hb, hml, hown, hts⟩ (qc_sendVote l D L hL _ i hi _ _ (by decide)) (tz_V htz mX4_sendVote lX4_232 rfl rfl ⟨Nat.le_of_ble_eq_true rfl, Nat.le_of_ble_eq_true rfl⟩) (qrecv_0 hK hG (by decide)) qK_ok hK hG hS rfl hl.1 rfl (Nat.le_of_ble_eq_true rfl) dX4_receiveAsk_86 ⟨Nat.zero_le _, Nat.zero_le _⟩ (fun H locs hG hS => ?_)
              exact mz_vret hx hb hr hlk qK_ok hK hS hG dX4_receiveAsk_89 (by simp [qs_rAsk, h0, h1, h2, h_9, h4, h_10])
            · exact absurd h_10 (by decide)
          · refine lv_iconst (v := 1) hx hb dX4_receiveAsk_58 (by decide) ?_
            refine lv_goto hx hb dX4_receiveAsk_59 (tgt := 63) rfl ?_
            refine lv_istore hx hb dX4_receiveAsk_63 hl (by decide) rfl (fun ls hl => ?_)
            have hl : lv_has ls 5 [(4, .int _), (3, .int _), (0, .ref _), (1, .ref _), (2, .ref _)] := hl
            refine lv_iload hx hb dX4_receiveAsk_65 (lv_at hl 0 rfl) ?_
            refine lv_if_eq hx hb dX4_receiveAsk_67 (tgt := 78) rfl (fun h_11 => ?_) (fun h_11 => ?_)
            · exact absurd h_11 (by decide)
            · refine lv_aload_n hx hb dX4_receiveAsk_70 rfl (lv_at hl 3 rfl) ?_
              refine lv_aload_n hx hb dX4_receiveAsk_71 rfl (lv_at hl 4 rfl) ?_
              refine qgN_11 (f := 1) hx hb htz tin_X1 hown hK hG ha (va_Nw.use rfl (hK.2 _ nX4_158)) (by decide) rfl dX4_receiveAsk_72 ?_
              refine qpN_2_4 hx hb htz tin_X3 hown hL hK hG hS hi (va_Nw.use rfl (hK.2 _ nX4_145)) dX4_receiveAsk_75 (fun H locs hG hS => ?_)
              refine lv_aload_n hx hb dX4_receiveAsk_78 rfl (lv_at hl 2 rfl) ?_
              refine lv_aload_n hx hb dX4_receiveAsk_79 rfl (lv_at hl 3 rfl) ?_
              refine lv_aload_n hx hb dX4_receiveAsk_80 rfl (lv_at hl 4 rfl) ?_
              refine qgN_11 (f := 1) (v := .int (u 11 a 1)) hx hb htz tin_X1 hown hK hG ha (va_Nw.use rfl (hK.2 _ nX4_158)) (by decide) (by simp [qf11, mz_at]) dX4_receiveAsk_81 ?_
              refine lv_iload hx hb dX4_receiveAsk_84 (lv_at hl 0 rfl) ?_
              refine mz_Vv (As := [.ref _, .int _, .int _]) (rest := []) ⟨hx, hb, hml, hown, hts⟩ (qc_sendVote l D L hL _ i hi _ _ (by decide)) (tz_V htz mX4_sendVote lX4_232 rfl rfl ⟨Nat.le_of_ble_eq_true rfl, Nat.le_of_ble_eq_true rfl⟩) (qrecv_0 hK hG (by decide)) qK_ok hK hG hS rfl hl.1 rfl (Nat.le_of_ble_eq_true rfl) dX4_receiveAsk_86 ⟨Nat.zero_le _, Nat.zero_le _⟩ (fun H locs hG hS => ?_)
              exact mz_vret hx hb hr hlk qK_ok hK hS hG dX4_receiveAsk_89 (by simp [qs_rAsk, h0, h1, h2, h_9, h4, h_11])

set_option maxRecDepth 100000 in
set_option maxHeartbeats 4000000 in
theorem qc_receiveVote (l : Launch) (D : va_G) (L : qL) (hL : qL_ok L) (u : mz_S) (i : Nat) (hi : i < ql_n L) (a : Nat) (ha : a < ql_S L + 2) (hf : vp_in (u 11 a 1) (ql_n L)) : mz_Cv l (qG D L) (qK D L) (qA L) yX4_receiveVote (tz_w yX4_receiveVote cX4_receiveVote 3 none) ({ frames := 2, cells := 0, slots := 0, locals := 41 } : Room) [.ref (L.1 0 0), .ref (L.1 2 i), .ref (L.1 11 a)] u (qs_rVote (ql_n L) u i a) := by
  refine mz_Cv.of (cc := cX4_receiveVote) (maxL := 3) (ret := none) (by decide) rfl (Nat.le_of_ble_eq_true rfl) ?_
  intro p e s m args below meth c ls hx hb hr hlk hml hown hts hl hG hK hS
  have hl : lv_has ls 3 [(0, .ref (L.1 0 0)), (1, .ref (L.1 2 i)), (2, .ref (L.1 11 a))] := hl
  have htz : ∀ w ∈ tz, w.before args s = true := fun w h => hts w (List.mem_cons_of_mem _ h)
  refine lv_aload_n hx hb dX4_receiveVote_0 rfl (lv_at hl 1 rfl) ?_
  refine qgN_2 (f := 2) hx hb htz tin_X3 hown hK hG hi (va_Nw.use rfl (hK.2 _ nX4_49)) (by decide) rfl dX4_receiveVote_1 ?_
  refine lv_iconst (v := 1) hx hb dX4_receiveVote_4 (by decide) ?_
  refine lv_icmp_ne hx hb dX4_receiveVote_5 (tgt := 26) rfl (fun h0 => ?_) (fun h0 => ?_)
  · exact mz_vret hx hb hr hlk qK_ok hK hS hG dX4_receiveVote_26 (by unfold qs_rVote; first | rw [if_pos h0] | rw [if_neg (not_not_intro h0), if_pos h1] | rw [if_neg (not_not_intro h0), if_neg (not_not_intro h1), if_pos (Decidable.not_not.mp h2)] | rw [if_neg (not_not_intro h0), if_neg (not_not_intro h1), if_neg h2, if_pos h3] | rw [if_neg (not_not_intro h0), if_neg (not_not_intro h1), if_neg h2, if_neg h3])
  · refine lv_aload_n hx hb dX4_receiveVote_8 rfl (lv_at hl 2 rfl) ?_
    refine qgN_11 (f := 3) hx hb htz tin_X1 hown hK hG ha (va_Nw.use rfl (hK.2 _ nX4_161)) (by decide) rfl dX4_receiveVote_9 ?_
    refine lv_aload_n hx hb dX4_receiveVote_12 rfl (lv_at hl 1 rfl) ?_
    refine qgN_2 (f := 3) hx hb htz tin_X3 hown hK hG hi (va_Nw.use rfl (hK.2 _ nX4_91)) (by decide) rfl dX4_receiveVote_13 ?_
    refine lv_icmp_ne hx hb dX4_receiveVote_16 (tgt := 26) rfl (fun h1 => ?_) (fun h1 => ?_)
    · exact mz_vret hx hb hr hlk qK_ok hK hS hG dX4_receiveVote_26 (by unfold qs_rVote; first | rw [if_pos h0] | rw [if_neg (not_not_intro h0), if_pos h1] | rw [if_neg (not_not_intro h0), if_neg (not_not_intro h1), if_pos (Decidable.not_not.mp h2)] | rw [if_neg (not_not_intro h0), if_neg (not_not_intro h1), if_neg h2, if_pos h3] | rw [if_neg (not_not_intro h0), if_neg (not_not_intro h1), if_neg h2, if_neg h3])
    · refine lv_aload_n hx hb dX4_receiveVote_19 rfl (lv_at hl 2 rfl) ?_
      refine qgN_11 (f := 6) hx hb htz tin_X1 hown hK hG ha (va_Nw.use rfl (hK.2 _ nX4_187)) (by decide) rfl dX4_receiveVote_20 ?_
      refine mz_ifne_b hx hb dX4_receiveVote_23 (tgt := 27) rfl (fun h2 => ?_) (fun h2 => ?_)
      · refine lv_aload_n hx hb dX4_receiveVote_27 rfl (lv_at hl 1 rfl) ?_
        refine qgN_2 (f := 7) hx hb htz tin_X3 hown hK hG hi (va_Nw.use rfl (hK.2 _ nX4_236)) (by decide) rfl dX4_receiveVote_28 ?_
        refine lv_aload_n hx hb dX4_receiveVote_31 rfl (lv_at hl 2 rfl) ?_
        refine qgN_11 (f := 1) hx hb htz tin_X1 hown hK hG ha (va_Nw.use rfl (hK.2 _ nX4_158)) (by decide) rfl dX4_receiveVote_32 ?_
        refine lv_iconst (v := 1) hx hb dX4_receiveVote_35 (by decide) ?_
        refine qt_6 hx hb hL hK hG hS hi hf (by decide) dX4_receiveVote_36 (fun H locs hG hS => ?_)
        have hG : qG D L (qs_rVote1 u i a) H := hG
        refine lv_aload_n hx hb dX4_receiveVote_37 rfl (lv_at hl 0 rfl) ?_
        refine lv_aload_n hx hb dX4_receiveVote_38 rfl (lv_at hl 1 rfl) ?_
        refine mz_Ni (As := []) (rest := [.ref _]) ⟨hx, hb, hml, hown, hts⟩ (qc_countVoters l D L hL _ i hi) (tz_N htz mX3_countVoters (hK.2 _ nX4_240) rfl rfl ⟨Nat.le_of_ble_eq_true rfl, Nat.le_of_ble_eq_true rfl⟩) (qrecv_2 hK hG hi) qK_ok hK hG hS rfl hl.1 rfl (Nat.le_of_ble_eq_true rfl) dX4_receiveVote_39 ⟨Nat.zero_le _, Nat.zero_le _⟩ (fun H locs hG hS => ?_)
        refine mz_Vi (As := [.int _]) (rest := []) ⟨hx, hb, hml, hown, hts⟩ (qc_isMajority l D L hL _ _) (tz_V htz mX4_isMajority lX4_243 rfl rfl ⟨Nat.le_of_ble_eq_true rfl, Nat.le_of_ble_eq_true rfl⟩) (qrecv_0 hK hG (by decide)) qK_ok hK hG hS rfl hl.1 rfl (Nat.le_of_ble_eq_true rfl) dX4_receiveVote_42 ⟨Nat.zero_le _, Nat.zero_le _⟩ (fun H locs hG hS => ?_)
        refine mz_ifeq_b hx hb dX4_receiveVote_45 (tgt := 52) rfl (fun h3 => ?_) (fun h3 => ?_)
        · exact mz_vret hx hb hr hlk qK_ok hK hS hG dX4_receiveVote_52 (by unfold qs_rVote; first | rw [if_pos h0] | rw [if_neg (not_not_intro h0), if_pos h1] | rw [if_neg (not_not_intro h0), if_neg (not_not_intro h1), if_pos (Decidable.not_not.mp h2)] | rw [if_neg (not_not_intro h0), if_neg (not_not_intro h1), if_neg h2, if_pos h3] | rw [if_neg (not_not_intro h0), if_neg (not_not_intro h1), if_neg h2, if_neg h3])
        · refine lv_aload_n hx hb dX4_receiveVote_48 rfl (lv_at hl 1 rfl) ?_
          refine mz_Nv (As := []) (rest := []) ⟨hx, hb, hml, hown, hts⟩ (qc_lead l D L hL _ i hi) (tz_N htz mX3_lead (hK.2 _ nX4_246) rfl rfl ⟨Nat.le_of_ble_eq_true rfl, Nat.le_of_ble_eq_true rfl⟩) (qrecv_2 hK hG hi) qK_ok hK hG hS rfl hl.1 rfl (Nat.le_of_ble_eq_true rfl) dX4_receiveVote_49 ⟨Nat.zero_le _, Nat.zero_le _⟩ (fun H locs hG hS => ?_)
          exact mz_vret hx hb hr hlk qK_ok hK hS hG dX4_receiveVote_52 (by unfold qs_rVote; first | rw [if_pos h0] | rw [if_neg (not_not_intro h0), if_pos h1] | rw [if_neg (not_not_intro h0), if_neg (not_not_intro h1), if_pos (Decidable.not_not.mp h2)] | rw [if_neg (not_not_intro h0), if_neg (not_not_intro h1), if_neg h2, if_pos h3] | rw [if_neg (not_not_intro h0), if_neg (not_not_intro h1), if_neg h2, if_neg h3])
      · exact mz_vret hx hb hr hlk qK_ok hK hS hG dX4_receiveVote_26 (by unfold qs_rVote; first | rw [if_pos h0] | rw [if_neg (not_not_intro h0), if_pos h1] | rw [if_neg (not_not_intro h0), if_neg (not_not_intro h1), if_pos (Decidable.not_not.mp h2)] | rw [if_neg (not_not_intro h0), if_neg (not_not_intro h1), if_neg h2, if_pos h3] | rw [if_neg (not_not_intro h0), if_neg (not_not_intro h1), if_neg h2, if_neg h3])

set_option maxRecDepth 100000 in
set_option maxHeartbeats 4000000 in
theorem qc_receiveAppend (l : Launch) (D : va_G) (L : qL) (hL : qL_ok L) (u : mz_S) (i : Nat) (hi : i < ql_n L) (a : Nat) (ha : a < ql_S L + 2) (hw : qw (ql_c L) u i) : mz_Cv l (qG D L) (qK D L) (qA L) yX4_receiveAppend (tz_w yX4_receiveAppend cX4_receiveAppend 4 none) ({ frames := 3, cells := 0, slots := 0, locals := 67 } : Room) [.ref (L.1 0 0), .ref (L.1 2 i), .ref (L.1 11 a)] u (qs_rApp (ql_c L) (ql_S L) u i a) := by
  refine mz_Cv.of (cc := cX4_receiveAppend) (maxL := 4) (ret := none) (by decide) rfl (Nat.le_of_ble_eq_true rfl) ?_
  intro p e s m args below meth c ls hx hb hr hlk hml hown hts hl hG hK hS
  have hl : lv_has ls 4 [(0, .ref (L.1 0 0)), (1, .ref (L.1 2 i)), (2, .ref (L.1 11 a))] := hl
  have htz : ∀ w ∈ tz, w.before args s = true := fun w h => hts w (List.mem_cons_of_mem _ h)
  have hc12 : ql_c L ≤ 12 := hL.1.2.2.2.1
  have hn5 : ql_n L ≤ 5 := hL.1.2.1
  have h40 : ql_S L ≤ 40 := hL.1.2.2.2.2.2
  refine lv_aload_n hx hb dX4_receiveAppend_0 rfl (lv_at hl 2 rfl) ?_
  refine qgN_11 (f := 3) hx hb htz tin_X1 hown hK hG ha (va_Nw.use rfl (hK.2 _ nX4_161)) (by decide) rfl dX4_receiveAppend_1 ?_
  refine lv_aload_n hx hb dX4_receiveAppend_4 rfl (lv_at hl 1 rfl) ?_
  refine qgN_2 (f := 3) hx hb htz tin_X3 hown hK hG hi (va_Nw.use rfl (hK.2 _ nX4_91)) (by decide) rfl dX4_receiveAppend_5 ?_
  refine mz_icmp_ge hx hb dX4_receiveAppend_8 (tgt := 23) rfl (fun h0 h0' => ?_) (fun h0 h0' => ?_)
  · refine lv_aload_n hx hb dX4_receiveAppend_23 rfl (lv_at hl 1 rfl) ?_
    refine lv_iconst (v := 0) hx hb dX4_receiveAppend_24 (by decide) ?_
    refine qpN_2_2 hx hb htz tin_X3 hown hL hK hG hS hi (va_Nw.use rfl (hK.2 _ nX4_49)) dX4_receiveAppend_25 (fun H locs hG hS => ?_)
    obtain ⟨v, hv⟩ : ∃ v, v = mz_u u 2 i 2 0 := ⟨_, rfl⟩
    rw [← hv] at hG
    have hwv : qw (ql_c L) v i := hw.same (by rw [hv]; simp [mz_at]) (by rw [hv]; simp [mz_at])
    refine lv_aload_n hx hb dX4_receiveAppend_28 rfl (lv_at hl 2 rfl) ?_
    refine qgN_11 (f := 4) hx hb htz tin_X1 hown hK hG ha (va_Nw.use rfl (hK.2 _ nX4_178)) (by decide) rfl dX4_receiveAppend_29 ?_
    refine lv_aload_n hx hb dX4_receiveAppend_32 rfl (lv_at hl 1 rfl) ?_
    refine qgN_2 (f := 6) hx hb htz tin_X3 hown hK hG hi (va_Nw.use rfl (hK.2 _ nX4_72)) (by decide) rfl dX4_receiveAppend_33 ?_
    refine qgN_3 (f := 0) hx hb htz tin_X0 hown hK hG hi (va_Nw.use rfl (hK.2 _ nX4_76)) (by decide) rfl dX4_receiveAppend_36 ?_
    refine mz_icmp_ge hx hb dX4_receiveAppend_39 (tgt := 60) rfl (fun h1 h1' => ?_) (fun h1 h1' => ?_)
    · refine lv_aload_n hx hb dX4_receiveAppend_60 rfl (lv_at hl 2 rfl) ?_
      refine qgN_11 (f := 4) hx hb htz tin_X1 hown hK hG ha (va_Nw.use rfl (hK.2 _ nX4_178)) (by decide) rfl dX4_receiveAppend_61 ?_
      refine lv_aload_n hx hb dX4_receiveAppend_64 rfl (lv_at hl 1 rfl) ?_
      refine qgN_2 (f := 6) hx hb htz tin_X3 hown hK hG hi (va_Nw.use rfl (hK.2 _ nX4_72)) (by decide) rfl dX4_receiveAppend_65 ?_
      refine mz_Ni (As := []) (rest := [.int _]) ⟨hx, hb, hml, hown, hts⟩ (qc_lastNumber l D L hL _ i hi) (tz_N htz mX0_lastNumber (hK.2 _ nX4_98) rfl rfl ⟨Nat.le_of_ble_eq_true rfl, Nat.le_of_ble_eq_true rfl⟩) (qrecv_3 hK hG hi) qK_ok hK hG hS rfl hl.1 rfl (Nat.le_of_ble_eq_true rfl) dX4_receiveAppend_68 ⟨Nat.zero_le _, Nat.zero_le _⟩ (fun H locs hG hS => ?_)
      refine mz_icmp_gt hx hb dX4_receiveAppend_71 (tgt := 92) rfl (fun h2 h2' => ?_) (fun h2 h2' => ?_)
      · refine lv_aload_n hx hb dX4_receiveAppend_92 rfl (lv_at hl 0 rfl) ?_
        refine lv_aload_n hx hb dX4_receiveAppend_93 rfl (lv_at hl 1 rfl) ?_
        refine lv_aload_n hx hb dX4_receiveAppend_94 rfl (lv_at hl 2 rfl) ?_
        refine qgN_11 (f := 1) hx hb htz tin_X1 hown hK hG ha (va_Nw.use rfl (hK.2 _ nX4_158)) (by decide) rfl dX4_receiveAppend_95 ?_
        refine lv_iconst (v := 0) hx hb dX4_receiveAppend_98 (by decide) ?_
        refine lv_iconst (v := 0) hx hb dX4_receiveAppend_99 (by decide) ?_
        refine mz_Vv (As := [.ref _, .int _, .int _, .int _]) (rest := []) ⟨hx, hb, hml, hown, hts⟩ (qc_sendAppended l D L hL _ i hi _ _ _ (by decide)) (tz_V htz mX4_sendAppended lX4_249 rfl rfl ⟨Nat.le_of_ble_eq_true rfl, Nat.le_of_ble_eq_true rfl⟩) (qrecv_0 hK hG (by decide)) qK_ok hK hG hS rfl hl.1 rfl (Nat.le_of_ble_eq_true rfl) dX4_receiveAppend_100 ⟨Nat.zero_le _, Nat.zero_le _⟩ (fun H locs hG hS => ?_)
        exact mz_vret hx hb hr hlk qK_ok hK hS hG dX4_receiveAppend_103 (by rw [qs_rApp, if_neg h0, ← hv, qs_rApp1, if_neg h1]; first | rw [if_pos (Or.inl h2)] | rw [if_pos (Or.inr h3)])
      · refine lv_aload_n hx hb dX4_receiveAppend_74 rfl (lv_at hl 1 rfl) ?_
        refine qgN_2 (f := 6) hx hb htz tin_X3 hown hK hG hi (va_Nw.use rfl (hK.2 _ nX4_72)) (by decide) rfl dX4_receiveAppend_75 ?_
        refine lv_aload_n hx hb dX4_receiveAppend_78 rfl (lv_at hl 2 rfl) ?_
        refine qgN_11 (f := 4) hx hb htz tin_X1 hown hK hG ha (va_Nw.use rfl (hK.2 _ nX4_178)) (by decide) rfl dX4_receiveAppend_79 ?_
        refine mz_Ni (As := [.int _]) (rest := []) ⟨hx, hb, hml, hown, hts⟩ (qc_termOf l D L hL _ i hi _ hwv) (tz_N htz mX0_termOf (hK.2 _ nX4_104) rfl rfl ⟨Nat.le_of_ble_eq_true rfl, Nat.le_of_ble_eq_true rfl⟩) (qrecv_3 hK hG hi) qK_ok hK hG hS rfl hl.1 rfl (Nat.le_of_ble_eq_true rfl) dX4_receiveAppend_82 ⟨Nat.zero_le _, Nat.zero_le _⟩ (fun H locs hG hS => ?_)
        refine lv_aload_n hx hb dX4_receiveAppend_85 rfl (lv_at hl 2 rfl) ?_
        refine qgN_11 (f := 5) hx hb htz tin_X1 hown hK hG ha (va_Nw.use rfl (hK.2 _ nX4_184)) (by decide) rfl dX4_receiveAppend_86 ?_
        refine lv_icmp_eq hx hb dX4_receiveAppend_89 (tgt := 104) rfl (fun h3 => ?_) (fun h3 => ?_)
        · refine lv_aload_n hx hb dX4_receiveAppend_104 rfl (lv_at hl 2 rfl) ?_
          refine qgN_11 (f := 4) hx hb htz tin_X1 hown hK hG ha (va_Nw.use rfl (hK.2 _ nX4_178)) (by decide) rfl dX4_receiveAppend_105 ?_
          refine lv_istore_n hx hb dX4_receiveAppend_108 rfl hl (by decide) rfl (fun ls hl => ?_)
          have hl : lv_has ls 4 [(3, .int _), (0, .ref _), (1, .ref _), (2, .ref _)] := hl
          refine lv_aload_n hx hb dX4_receiveAppend_109 rfl (lv_at hl 3 rfl) ?_
          refine qgN_11 (f := 7) hx hb htz tin_X1 hown hK hG ha (va_Nw.use rfl (hK.2 _ nX4_193)) (by decide) rfl dX4_receiveAppend_110 ?_
          refine mz_ifeq_b hx hb dX4_receiveAppend_113 (tgt := 157) rfl (fun h4 => ?_) (fun h4 => ?_)
          · obtain ⟨w, y9, hwe, hye, hG, hl⟩ : ∃ (w : mz_S) (y9 : Int32), w = qs_rAppE (ql_c L) v i a ∧ y9 = qs_rAppH (ql_c L) v i a ∧ qG D L w H ∧ lv_has ls 4 [(3, .int y9), (0, .ref (L.1 0 0)), (1, .ref (L.1 2 i)), (2, .ref (L.1 11 a))] := by
              first
                | exact ⟨_, _, (by rw [qs_rAppE, if_pos (Decidable.not_not.mp h4)]), (by rw [qs_rAppH, if_pos (Decidable.not_not.mp h4)]), hG, hl⟩
                | exact ⟨_, _, (by rw [qs_rAppE, if_neg h4]), (by rw [qs_rAppH, if_neg h4, qs_rAppE, if_neg h4, if_neg h5]), hG, hl⟩
                | exact ⟨_, _, (by rw [qs_rAppE, if_neg h4]), (by rw [qs_rAppH, if_neg h4, qs_rAppE, if_neg h4, if_pos h5]), hG, hl⟩
            refine lv_aload_n hx hb dX4_receiveAppend_157 rfl (lv_at hl 2 rfl) ?_
            refine lv_aload_n hx hb dX4_receiveAppend_158 rfl (lv_at hl 2 rfl) ?_
            refine qgN_2 (f := 5) hx hb htz tin_X3 hown hK hG hi (va_Nw.use rfl (hK.2 _ nX4_101)) (by decide) rfl dX4_receiveAppend_159 ?_
            refine lv_aload_n hx hb dX4_receiveAppend_162 rfl (lv_at hl 3 rfl) ?_
            refine qgN_11 (f := 10) (v := .int (v 11 a 10)) hx hb htz tin_X1 hown hK hG ha (va_Nw.use rfl (hK.2 _ nX4_201)) (by decide) (by rw [hwe]; simp [qf11, qs_rAppE_o]) dX4_receiveAppend_163 ?_
            refine lv_iload_n hx hb dX4_receiveAppend_166 rfl (lv_at hl 0 rfl) ?_
            refine va_mmin hx hb (hml.trans hl.1.symm) hown (htz _ lX4_162) (htz _ min_stat) (htz _ ini_Math) (htz _ min_code) (Nat.le_of_ble_eq_true rfl) (Nat.le_of_ble_eq_true rfl) (Nat.le_of_ble_eq_true rfl) (Nat.le_of_ble_eq_true rfl) dX4_receiveAppend_167 ?_
            refine va_mmax hx hb (hml.trans hl.1.symm) hown (htz _ lX4_168) (htz _ max_stat) (htz _ ini_Math) (htz _ max_code) (Nat.le_of_ble_eq_true rfl) (Nat.le_of_ble_eq_true rfl) (Nat.le_of_ble_eq_true rfl) (Nat.le_of_ble_eq_true rfl) dX4_receiveAppend_170 ?_
            refine qpN_2_5 hx hb htz tin_X3 hown hL hK hG hS hi (va_Nw.use rfl (hK.2 _ nX4_101)) dX4_receiveAppend_173 (fun H locs hG hS => ?_)
            have hG : qG D L (mz_u w 2 i 5 (mz_max (w 2 i 5) (mz_min (v 11 a 10) y9))) H := hG
            refine lv_aload_n hx hb dX4_receiveAppend_176 rfl (lv_at hl 1 rfl) ?_
            refine lv_aload_n hx hb dX4_receiveAppend_177 rfl (lv_at hl 2 rfl) ?_
            refine lv_aload_n hx hb dX4_receiveAppend_178 rfl (lv_at hl 3 rfl) ?_
            refine qgN_11 (f := 1) (v := .int (v 11 a 1)) hx hb htz tin_X1 hown hK hG ha (va_Nw.use rfl (hK.2 _ nX4_158)) (by decide) (by rw [hwe]; simp [qf11, qs_rAppE_o, mz_at]) dX4_receiveAppend_179 ?_
            refine lv_iconst (v := 1) hx hb dX4_receiveAppend_182 (by decide) ?_
            refine lv_iload_n hx hb dX4_receiveAppend_183 rfl (lv_at hl 0 rfl) ?_
            refine mz_Vv (As := [.ref _, .int _, .int _, .int _]) (rest := []) ⟨hx, hb, hml, hown, hts⟩ (qc_sendAppended l D L hL _ i hi _ _ _ (by decide)) (tz_V htz mX4_sendAppended lX4_249 rfl rfl ⟨Nat.le_of_ble_eq_true rfl, Nat.le_of_ble_eq_true rfl⟩) (qrecv_0 hK hG (by decide)) qK_ok hK hG hS rfl hl.1 rfl (Nat.le_of_ble_eq_true rfl) dX4_receiveAppend_184 ⟨Nat.zero_le _, Nat.zero_le _⟩ (fun H locs hG hS => ?_)
            exact mz_vret hx hb hr hlk qK_ok hK hS hG dX4_receiveAppend_187 (by rw [qs_rApp, if_neg h0, ← hv, qs_rApp1, if_neg h1, if_neg (fun z => z.elim h2 (fun q => q h3)), qs_rAppC, ← hwe, ← hye])
          · refine lv_aload_n hx hb dX4_receiveAppend_116 rfl (lv_at hl 2 rfl) ?_
            refine lv_aload_n hx hb dX4_receiveAppend_117 rfl (lv_at hl 3 rfl) ?_
            refine qgN_11 (f := 4) hx hb htz tin_X1 hown hK hG ha (va_Nw.use rfl (hK.2 _ nX4_178)) (by decide) rfl dX4_receiveAppend_118 ?_
            refine lv_iconst (v := 1) hx hb dX4_receiveAppend_121 (by decide) ?_
            refine lv_iadd hx hb dX4_receiveAppend_122 ?_
            refine lv_aload_n hx hb dX4_receiveAppend_123 rfl (lv_at hl 3 rfl) ?_
            refine qgN_11 (f := 8) hx hb htz tin_X1 hown hK hG ha (va_Nw.use rfl (hK.2 _ nX4_195)) (by decide) rfl dX4_receiveAppend_124 ?_
            refine lv_aload_n hx hb dX4_receiveAppend_127 rfl (lv_at hl 3 rfl) ?_
            refine qgN_11 (f := 9) hx hb htz tin_X1 hown hK hG ha (va_Nw.use rfl (hK.2 _ nX4_198)) (by decide) rfl dX4_receiveAppend_128 ?_
            refine mz_Nv (As := [.int _, .int _, .int _]) (rest := []) ⟨hx, hb, hml, hown, hts⟩ (qc_takeEntry l D L hL _ i hi _ _ _ hwv) (tz_N htz mX3_takeEntry (hK.2 _ nX4_253) rfl rfl ⟨Nat.le_of_ble_eq_true rfl, Nat.le_of_ble_eq_true rfl⟩) (qrecv_2 hK hG hi) qK_ok hK hG hS rfl hl.1 rfl (Nat.le_of_ble_eq_true rfl) dX4_receiveAppend_131 ⟨Nat.zero_le _, Nat.zero_le _⟩ (fun H locs hG hS => ?_)
            refine lv_aload_n hx hb dX4_receiveAppend_134 rfl (lv_at hl 2 rfl) ?_
            refine qgN_2 (f := 6) hx hb htz tin_X3 hown hK hG hi (va_Nw.use rfl (hK.2 _ nX4_72)) (by decide) rfl dX4_receiveAppend_135 ?_
            refine lv_aload_n hx hb dX4_receiveAppend_138 rfl (lv_at hl 3 rfl) ?_
            refine qgN_11 (f := 4) (v := .int (v 11 a 4)) hx hb htz tin_X1 hown hK hG ha (va_Nw.use rfl (hK.2 _ nX4_178)) (by decide) (by simp [qf11, qs_take_o]) dX4_receiveAppend_139 ?_
            refine lv_iconst (v := 1) hx hb dX4_receiveAppend_142 (by decide) ?_
            refine lv_iadd hx hb dX4_receiveAppend_143 ?_
            refine mz_Ni (As := [.int _]) (rest := []) ⟨hx, hb, hml, hown, hts⟩ (qc_hasEntry l D L hL _ i hi _) (tz_N htz mX0_hasEntry (hK.2 _ nX4_190) rfl rfl ⟨Nat.le_of_ble_eq_true rfl, Nat.le_of_ble_eq_true rfl⟩) (qrecv_3 hK hG hi) qK_ok hK hG hS rfl hl.1 rfl (Nat.le_of_ble_eq_true rfl) dX4_receiveAppend_144 ⟨Nat.zero_le _, Nat.zero_le _⟩ (fun H locs hG hS => ?_)
            refine mz_ifeq_b hx hb dX4_receiveAppend_147 (tgt := 157) rfl (fun h5 => ?_) (fun h5 => ?_)
            · obtain ⟨w, y9, hwe, hye, hG, hl⟩ : ∃ (w : mz_S) (y9 : Int32), w = qs_rAppE (ql_c L) v i a ∧ y9 = qs_rAppH (ql_c L) v i a ∧ qG D L w H ∧ lv_has ls 4 [(3, .int y9), (0, .ref (L.1 0 0)), (1, .ref (L.1 2 i)), (2, .ref (L.1 11 a))] := by
                first
                  | exact ⟨_, _, (by rw [qs_rAppE, if_pos (Decidable.not_not.mp h4)]), (by rw [qs_rAppH, if_pos (Decidable.not_not.mp h4)]), hG, hl⟩
                  | exact ⟨_, _, (by rw [qs_rAppE, if_neg h4]), (by rw [qs_rAppH, if_neg h4, qs_rAppE, if_neg h4, if_neg h5]), hG, hl⟩
                  | exact ⟨_, _, (by rw [qs_rAppE, if_neg h4]), (by rw [qs_rAppH, if_neg h4, qs_rAppE, if_neg h4, if_pos h5]), hG, hl⟩
              refine lv_aload_n hx hb dX4_receiveAppend_157 rfl (lv_at hl 2 rfl) ?_
              refine lv_aload_n hx hb dX4_receiveAppend_158 rfl (lv_at hl 2 rfl) ?_
              refine qgN_2 (f := 5) hx hb htz tin_X3 hown hK hG hi (va_Nw.use rfl (hK.2 _ nX4_101)) (by decide) rfl dX4_receiveAppend_159 ?_
              refine lv_aload_n hx hb dX4_receiveAppend_162 rfl (lv_at hl 3 rfl) ?_
              refine qgN_11 (f := 10) (v := .int (v 11 a 10)) hx hb htz tin_X1 hown hK hG ha (va_Nw.use rfl (hK.2 _ nX4_201)) (by decide) (by rw [hwe]; simp [qf11, qs_rAppE_o]) dX4_receiveAppend_163 ?_
              refine lv_iload_n hx hb dX4_receiveAppend_166 rfl (lv_at hl 0 rfl) ?_
              refine va_mmin hx hb (hml.trans hl.1.symm) hown (htz _ lX4_162) (htz _ min_stat) (htz _ ini_Math) (htz _ min_code) (Nat.le_of_ble_eq_true rfl) (Nat.le_of_ble_eq_true rfl) (Nat.le_of_ble_eq_true rfl) (Nat.le_of_ble_eq_true rfl) dX4_receiveAppend_167 ?_
              refine va_mmax hx hb (hml.trans hl.1.symm) hown (htz _ lX4_168) (htz _ max_stat) (htz _ ini_Math) (htz _ max_code) (Nat.le_of_ble_eq_true rfl) (Nat.le_of_ble_eq_true rfl) (Nat.le_of_ble_eq_true rfl) (Nat.le_of_ble_eq_true rfl) dX4_receiveAppend_170 ?_
              refine qpN_2_5 hx hb htz tin_X3 hown hL hK hG hS hi (va_Nw.use rfl (hK.2 _ nX4_101)) dX4_receiveAppend_173 (fun H locs hG hS => ?_)
              have hG : qG D L (mz_u w 2 i 5 (mz_max (w 2 i 5) (mz_min (v 11 a 10) y9))) H := hG
              refine lv_aload_n hx hb dX4_receiveAppend_176 rfl (lv_at hl 1 rfl) ?_
              refine lv_aload_n hx hb dX4_receiveAppend_177 rfl (lv_at hl 2 rfl) ?_
              refine lv_aload_n hx hb dX4_receiveAppend_178 rfl (lv_at hl 3 rfl) ?_
              refine qgN_11 (f := 1) (v := .int (v 11 a 1)) hx hb htz tin_X1 hown hK hG ha (va_Nw.use rfl (hK.2 _ nX4_158)) (by decide) (by rw [hwe]; simp [qf11, qs_rAppE_o, mz_at]) dX4_receiveAppend_179 ?_
              refine lv_iconst (v := 1) hx hb dX4_receiveAppend_182 (by decide) ?_
              refine lv_iload_n hx hb dX4_receiveAppend_183 rfl (lv_at hl 0 rfl) ?_
              refine mz_Vv (As := [.ref _, .int _, .int _, .int _]) (rest := []) ⟨hx, hb, hml, hown, hts⟩ (qc_sendAppended l D L hL _ i hi _ _ _ (by decide)) (tz_V htz mX4_sendAppended lX4_249 rfl rfl ⟨Nat.le_of_ble_eq_true rfl, Nat.le_of_ble_eq_true rfl⟩) (qrecv_0 hK hG (by decide)) qK_ok hK hG hS rfl hl.1 rfl (Nat.le_of_ble_eq_true rfl) dX4_receiveAppend_184 ⟨Nat.zero_le _, Nat.zero_le _⟩ (fun H locs hG hS => ?_)
              exact mz_vret hx hb hr hlk qK_ok hK hS hG dX4_receiveAppend_187 (by rw [qs_rApp, if_neg h0, ← hv, qs_rApp1, if_neg h1, if_neg (fun z => z.elim h2 (fun q => q h3)), qs_rAppC, ← hwe, ← hye])
            · refine lv_aload_n hx hb dX4_receiveAppend_150 rfl (lv_at hl 3 rfl) ?_
              refine qgN_11 (f := 4) (v := .int (v 11 a 4)) hx hb htz tin_X1 hown hK hG ha (va_Nw.use rfl (hK.2 _ nX4_178)) (by decide) (by simp [qf11, qs_take_o]) dX4_receiveAppend_151 ?_
              refine lv_iconst (v := 1) hx hb dX4_receiveAppend_154 (by decide) ?_
              refine lv_iadd hx hb dX4_receiveAppend_155 ?_
              refine lv_istore_n hx hb dX4_receiveAppend_156 rfl hl (by decide) rfl (fun ls hl => ?_)
              have hl : lv_has ls 4 [(3, .int _), (0, .ref _), (1, .ref _), (2, .ref _)] := hl
              obtain ⟨w, y9, hwe, hye, hG, hl⟩ : ∃ (w : mz_S) (y9 : Int32), w = qs_rAppE (ql_c L) v i a ∧ y9 = qs_rAppH (ql_c L) v i a ∧ qG D L w H ∧ lv_has ls 4 [(3, .int y9), (0, .ref (L.1 0 0)), (1, .ref (L.1 2 i)), (2, .ref (L.1 11 a))] := by
                first
                  | exact ⟨_, _, (by rw [qs_rAppE, if_pos (Decidable.not_not.mp h4)]), (by rw [qs_rAppH, if_pos (Decidable.not_not.mp h4)]), hG, hl⟩
                  | exact ⟨_, _, (by rw [qs_rAppE, if_neg h4]), (by rw [qs_rAppH, if_neg h4, qs_rAppE, if_neg h4, if_neg h5]), hG, hl⟩
                  | exact ⟨_, _, (by rw [qs_rAppE, if_neg h4]), (by rw [qs_rAppH, if_neg h4, qs_rAppE, if_neg h4, if_pos h5]), hG, hl⟩
              refine lv_aload_n hx hb dX4_receiveAppend_157 rfl (lv_at hl 2 rfl) ?_
              refine lv_aload_n hx hb dX4_receiveAppend_158 rfl (lv_at hl 2 rfl) ?_
              refine qgN_2 (f := 5) hx hb htz tin_X3 hown hK hG hi (va_Nw.use rfl (hK.2 _ nX4_101)) (by decide) rfl dX4_receiveAppend_159 ?_
              refine lv_aload_n hx hb dX4_receiveAppend_162 rfl (lv_at hl 3 rfl) ?_
              refine qgN_11 (f := 10) (v := .int (v 11 a 10)) hx hb htz tin_X1 hown hK hG ha (va_Nw.use rfl (hK.2 _ nX4_201)) (by decide) (by rw [hwe]; simp [qf11, qs_rAppE_o]) dX4_receiveAppend_163 ?_
              refine lv_iload_n hx hb dX4_receiveAppend_166 rfl (lv_at hl 0 rfl) ?_
              refine va_mmin hx hb (hml.trans hl.1.symm) hown (htz _ lX4_162) (htz _ min_stat) (htz _ ini_Math) (htz _ min_code) (Nat.le_of_ble_eq_true rfl) (Nat.le_of_ble_eq_true rfl) (Nat.le_of_ble_eq_true rfl) (Nat.le_of_ble_eq_true rfl) dX4_receiveAppend_167 ?_
              refine va_mmax hx hb (hml.trans hl.1.symm) hown (htz _ lX4_168) (htz _ max_stat) (htz _ ini_Math) (htz _ max_code) (Nat.le_of_ble_eq_true rfl) (Nat.le_of_ble_eq_true rfl) (Nat.le_of_ble_eq_true rfl) (Nat.le_of_ble_eq_true rfl) dX4_receiveAppend_170 ?_
              refine qpN_2_5 hx hb htz tin_X3 hown hL hK hG hS hi (va_Nw.use rfl (hK.2 _ nX4_101)) dX4_receiveAppend_173 (fun H locs hG hS => ?_)
              have hG : qG D L (mz_u w 2 i 5 (mz_max (w 2 i 5) (mz_min (v 11 a 10) y9))) H := hG
              refine lv_aload_n hx hb dX4_receiveAppend_176 rfl (lv_at hl 1 rfl) ?_
              refine lv_aload_n hx hb dX4_receiveAppend_177 rfl (lv_at hl 2 rfl) ?_
              refine lv_aload_n hx hb dX4_receiveAppend_178 rfl (lv_at hl 3 rfl) ?_
              refine qgN_11 (f := 1) (v := .int (v 11 a 1)) hx hb htz tin_X1 hown hK hG ha (va_Nw.use rfl (hK.2 _ nX4_158)) (by decide) (by rw [hwe]; simp [qf11, qs_rAppE_o, mz_at]) dX4_receiveAppend_179 ?_
              refine lv_iconst (v := 1) hx hb dX4_receiveAppend_182 (by decide) ?_
              refine lv_iload_n hx hb dX4_receiveAppend_183 rfl (lv_at hl 0 rfl) ?_
              refine mz_Vv (As := [.ref _, .int _, .int _, .int _]) (rest := []) ⟨hx, hb, hml, hown, hts⟩ (qc_sendAppended l D L hL _ i hi _ _ _ (by decide)) (tz_V htz mX4_sendAppended lX4_249 rfl rfl ⟨Nat.le_of_ble_eq_true rfl, Nat.le_of_ble_eq_true rfl⟩) (qrecv_0 hK hG (by decide)) qK_ok hK hG hS rfl hl.1 rfl (Nat.le_of_ble_eq_true rfl) dX4_receiveAppend_184 ⟨Nat.zero_le _, Nat.zero_le _⟩ (fun H locs hG hS => ?_)
              exact mz_vret hx hb hr hlk qK_ok hK hS hG dX4_receiveAppend_187 (by rw [qs_rApp, if_neg h0, ← hv, qs_rApp1, if_neg h1, if_neg (fun z => z.elim h2 (fun q => q h3)), qs_rAppC, ← hwe, ← hye])
        · refine lv_aload_n hx hb dX4_receiveAppend_92 rfl (lv_at hl 0 rfl) ?_
          refine lv_aload_n hx hb dX4_receiveAppend_93 rfl (lv_at hl 1 rfl) ?_
          refine lv_aload_n hx hb dX4_receiveAppend_94 rfl (lv_at hl 2 rfl) ?_
          refine qgN_11 (f := 1) hx hb htz tin_X1 hown hK hG ha (va_Nw.use rfl (hK.2 _ nX4_158)) (by decide) rfl dX4_receiveAppend_95 ?_
          refine lv_iconst (v := 0) hx hb dX4_receiveAppend_98 (by decide) ?_
          refine lv_iconst (v := 0) hx hb dX4_receiveAppend_99 (by decide) ?_
          refine mz_Vv (As := [.ref _, .int _, .int _, .int _]) (rest := []) ⟨hx, hb, hml, hown, hts⟩ (qc_sendAppended l D L hL _ i hi _ _ _ (by decide)) (tz_V htz mX4_sendAppended lX4_249 rfl rfl ⟨Nat.le_of_ble_eq_true rfl, Nat.le_of_ble_eq_true rfl⟩) (qrecv_0 hK hG (by decide)) qK_ok hK hG hS rfl hl.1 rfl (Nat.le_of_ble_eq_true rfl) dX4_receiveAppend_100 ⟨Nat.zero_le _, Nat.zero_le _⟩ (fun H locs hG hS => ?_)
          exact mz_vret hx hb hr hlk qK_ok hK hS hG dX4_receiveAppend_103 (by rw [qs_rApp, if_neg h0, ← hv, qs_rApp1, if_neg h1]; first | rw [if_pos (Or.inl h2)] | rw [if_pos (Or.inr h3)])
    · refine lv_aload_n hx hb dX4_receiveAppend_42 rfl (lv_at hl 0 rfl) ?_
      refine lv_aload_n hx hb dX4_receiveAppend_43 rfl (lv_at hl 1 rfl) ?_
      refine lv_aload_n hx hb dX4_receiveAppend_44 rfl (lv_at hl 2 rfl) ?_
      refine qgN_11 (f := 1) hx hb htz tin_X1 hown hK hG ha (va_Nw.use rfl (hK.2 _ nX4_158)) (by decide) rfl dX4_receiveAppend_45 ?_
      refine lv_iconst (v := 1) hx hb dX4_receiveAppend_48 (by decide) ?_
      refine lv_aload_n hx hb dX4_receiveAppend_49 rfl (lv_at hl 1 rfl) ?_
      refine qgN_2 (f := 6) hx hb htz tin_X3 hown hK hG hi (va_Nw.use rfl (hK.2 _ nX4_72)) (by decide) rfl dX4_receiveAppend_50 ?_
      refine qgN_3 (f := 0) hx hb htz tin_X0 hown hK hG hi (va_Nw.use rfl (hK.2 _ nX4_76)) (by decide) rfl dX4_receiveAppend_53 ?_
      refine mz_Vv (As := [.ref _, .int _, .int _, .int _]) (rest := []) ⟨hx, hb, hml, hown, hts⟩ (qc_sendAppended l D L hL _ i hi _ _ _ (by decide)) (tz_V htz mX4_sendAppended lX4_249 rfl rfl ⟨Nat.le_of_ble_eq_true rfl, Nat.le_of_ble_eq_true rfl⟩) (qrecv_0 hK hG (by decide)) qK_ok hK hG hS rfl hl.1 rfl (Nat.le_of_ble_eq_true rfl) dX4_receiveAppend_56 ⟨Nat.zero_le _, Nat.zero_le _⟩ (fun H locs hG hS => ?_)
      exact mz_vret hx hb hr hlk qK_ok hK hS hG dX4_receiveAppend_59 (by rw [qs_rApp, if_neg h0, ← hv, qs_rApp1, if_pos h1])
  · refine lv_aload_n hx hb dX4_receiveAppend_11 rfl (lv_at hl 0 rfl) ?_
    refine lv_aload_n hx hb dX4_receiveAppend_12 rfl (lv_at hl 1 rfl) ?_
    refine lv_aload_n hx hb dX4_receiveAppend_13 rfl (lv_at hl 2 rfl) ?_
    refine qgN_11 (f := 1) hx hb htz tin_X1 hown hK hG ha (va_Nw.use rfl (hK.2 _ nX4_158)) (by decide) rfl dX4_receiveAppend_14 ?_
    refine lv_iconst (v := 0) hx hb dX4_receiveAppend_17 (by decide) ?_
    refine lv_iconst (v := 0) hx hb dX4_receiveAppend_18 (by decide) ?_
    refine mz_Vv (As := [.ref _, .int _, .int _, .int _]) (rest := []) ⟨hx, hb, hml, hown, hts⟩ (qc_sendAppended l D L hL _ i hi _ _ _ (by decide)) (tz_V htz mX4_sendAppended lX4_249 rfl rfl ⟨Nat.le_of_ble_eq_true rfl, Nat.le_of_ble_eq_true rfl⟩) (qrecv_0 hK hG (by decide)) qK_ok hK hG hS rfl hl.1 rfl (Nat.le_of_ble_eq_true rfl) dX4_receiveAppend_19 ⟨Nat.zero_le _, Nat.zero_le _⟩ (fun H locs hG hS => ?_)
    exact mz_vret hx hb hr hlk qK_ok hK hS hG dX4_receiveAppend_22 (by rw [qs_rApp, if_pos h0])

set_option maxRecDepth 100000 in
set_option maxHeartbeats 4000000 in
theorem qc_receiveSnapshot (l : Launch) (D : va_G) (L : qL) (hL : qL_ok L) (u : mz_S) (i : Nat) (hi : i < ql_n L) (a : Nat) (ha : a < ql_S L + 2) (hw : qw (ql_c L) u i) : mz_Cv l (qG D L) (qK D L) (qA L) yX4_receiveSnapshot (tz_w yX4_receiveSnapshot cX4_receiveSnapshot 3 none) ({ frames := 3, cells := 0, slots := 0, locals := 67 } : Room) [.ref (L.1 0 0), .ref (L.1 2 i), .ref (L.1 11 a)] u (qs_rSnap (ql_S L) u i a) := by
  refine mz_Cv.of (cc := cX4_receiveSnapshot) (maxL := 3) (ret := none) (by decide) rfl (Nat.le_of_ble_eq_true rfl) ?_
  intro p e s m args below meth c ls hx hb hr hlk hml hown hts hl hG hK hS
  have hl : lv_has ls 3 [(0, .ref (L.1 0 0)), (1, .ref (L.1 2 i)), (2, .ref (L.1 11 a))] := hl
  have htz : ∀ w ∈ tz, w.before args s = true := fun w h => hts w (List.mem_cons_of_mem _ h)
  have hc12 : ql_c L ≤ 12 := hL.1.2.2.2.1
  have hn5 : ql_n L ≤ 5 := hL.1.2.1
  have h40 : ql_S L ≤ 40 := hL.1.2.2.2.2.2
  refine lv_aload_n hx hb dX4_receiveSnapshot_0 rfl (lv_at hl 2 rfl) ?_
  refine qgN_11 (f := 3) hx hb htz tin_X1 hown hK hG ha (va_Nw.use rfl (hK.2 _ nX4_161)) (by decide) rfl dX4_receiveSnapshot_1 ?_
  refine lv_aload_n hx hb dX4_receiveSnapshot_4 rfl (lv_at hl 1 rfl) ?_
  refine qgN_2 (f := 3) hx hb htz tin_X3 hown hK hG hi (va_Nw.use rfl (hK.2 _ nX4_91)) (by decide) rfl dX4_receiveSnapshot_5 ?_
  refine mz_icmp_ge hx hb dX4_receiveSnapshot_8 (tgt := 23) rfl (fun h0 h0' => ?_) (fun h0 h0' => ?_)
  · refine lv_aload_n hx hb dX4_receiveSnapshot_23 rfl (lv_at hl 1 rfl) ?_
    refine lv_iconst (v := 0) hx hb dX4_receiveSnapshot_24 (by decide) ?_
    refine qpN_2_2 hx hb htz tin_X3 hown hL hK hG hS hi (va_Nw.use rfl (hK.2 _ nX4_49)) dX4_receiveSnapshot_25 (fun H locs hG hS => ?_)
    obtain ⟨v, hv⟩ : ∃ v, v = mz_u u 2 i 2 0 := ⟨_, rfl⟩
    rw [← hv] at hG
    have hwv : qw (ql_c L) v i := hw.same (by rw [hv]; simp [mz_at]) (by rw [hv]; simp [mz_at])
    refine lv_aload_n hx hb dX4_receiveSnapshot_28 rfl (lv_at hl 2 rfl) ?_
    refine qgN_11 (f := 4) hx hb htz tin_X1 hown hK hG ha (va_Nw.use rfl (hK.2 _ nX4_178)) (by decide) rfl dX4_receiveSnapshot_29 ?_
    refine lv_aload_n hx hb dX4_receiveSnapshot_32 rfl (lv_at hl 1 rfl) ?_
    refine qgN_2 (f := 5) hx hb htz tin_X3 hown hK hG hi (va_Nw.use rfl (hK.2 _ nX4_101)) (by decide) rfl dX4_receiveSnapshot_33 ?_
    refine mz_icmp_gt hx hb dX4_receiveSnapshot_36 (tgt := 54) rfl (fun h1 h1' => ?_) (fun h1 h1' => ?_)
    · refine lv_aload_n hx hb dX4_receiveSnapshot_54 rfl (lv_at hl 1 rfl) ?_
      refine qgN_2 (f := 6) hx hb htz tin_X3 hown hK hG hi (va_Nw.use rfl (hK.2 _ nX4_72)) (by decide) rfl dX4_receiveSnapshot_55 ?_
      refine lv_aload_n hx hb dX4_receiveSnapshot_58 rfl (lv_at hl 2 rfl) ?_
      refine qgN_11 (f := 4) hx hb htz tin_X1 hown hK hG ha (va_Nw.use rfl (hK.2 _ nX4_178)) (by decide) rfl dX4_receiveSnapshot_59 ?_
      refine mz_Ni (As := [.int _]) (rest := []) ⟨hx, hb, hml, hown, hts⟩ (qc_termOf l D L hL _ i hi _ hwv) (tz_N htz mX0_termOf (hK.2 _ nX4_104) rfl rfl ⟨Nat.le_of_ble_eq_true rfl, Nat.le_of_ble_eq_true rfl⟩) (qrecv_3 hK hG hi) qK_ok hK hG hS rfl hl.1 rfl (Nat.le_of_ble_eq_true rfl) dX4_receiveSnapshot_62 ⟨Nat.zero_le _, Nat.zero_le _⟩ (fun H locs hG hS => ?_)
      refine lv_aload_n hx hb dX4_receiveSnapshot_65 rfl (lv_at hl 2 rfl) ?_
      refine qgN_11 (f := 5) hx hb htz tin_X1 hown hK hG ha (va_Nw.use rfl (hK.2 _ nX4_184)) (by decide) rfl dX4_receiveSnapshot_66 ?_
      refine lv_icmp_eq hx hb dX4_receiveSnapshot_69 (tgt := 88) rfl (fun h2 => ?_) (fun h2 => ?_)
      · obtain ⟨w, hwe, hG, hww⟩ : ∃ w, w = qs_rSnapC v i a ∧ qG D L w H ∧ qw (ql_c L) w i := by
          first
            | exact ⟨_, (by rw [qs_rSnapC, if_pos h2]), hG, hwv⟩
            | exact ⟨_, (by rw [qs_rSnapC, if_neg h2]), hG, hwv.cut hc12 _⟩
        refine lv_aload_n hx hb dX4_receiveSnapshot_88 rfl (lv_at hl 1 rfl) ?_
        refine qgN_2 (f := 6) hx hb htz tin_X3 hown hK hG hi (va_Nw.use rfl (hK.2 _ nX4_72)) (by decide) rfl dX4_receiveSnapshot_89 ?_
        refine lv_aload_n hx hb dX4_receiveSnapshot_92 rfl (lv_at hl 2 rfl) ?_
        refine qgN_11 (f := 4) (v := .int (v 11 a 4)) hx hb htz tin_X1 hown hK hG ha (va_Nw.use rfl (hK.2 _ nX4_178)) (by decide) (by rw [hwe]; simp [qf11, qs_rSnapC_o]) dX4_receiveSnapshot_93 ?_
        refine lv_aload_n hx hb dX4_receiveSnapshot_96 rfl (lv_at hl 2 rfl) ?_
        refine qgN_11 (f := 5) (v := .int (v 11 a 5)) hx hb htz tin_X1 hown hK hG ha (va_Nw.use rfl (hK.2 _ nX4_184)) (by decide) (by rw [hwe]; simp [qf11, qs_rSnapC_o]) dX4_receiveSnapshot_97 ?_
        refine lv_aload_n hx hb dX4_receiveSnapshot_100 rfl (lv_at hl 2 rfl) ?_
        refine qgN_11 (f := 11) (v := .int (v 11 a 11)) hx hb htz tin_X1 hown hK hG ha (va_Nw.use rfl (hK.2 _ nX4_208)) (by decide) (by rw [hwe]; simp [qf11, qs_rSnapC_o]) dX4_receiveSnapshot_101 ?_
        refine mz_Nv (As := [.int _, .int _, .int _]) (rest := []) ⟨hx, hb, hml, hown, hts⟩ (qc_rebase l D L hL _ i hi _ _ _ hww) (tz_N htz mX0_rebase (hK.2 _ nX4_111) rfl rfl ⟨Nat.le_of_ble_eq_true rfl, Nat.le_of_ble_eq_true rfl⟩) (qrecv_3 hK hG hi) qK_ok hK hG hS rfl hl.1 rfl (Nat.le_of_ble_eq_true rfl) dX4_receiveSnapshot_104 ⟨Nat.zero_le _, Nat.zero_le _⟩ (fun H locs hG hS => ?_)
        refine lv_aload_n hx hb dX4_receiveSnapshot_107 rfl (lv_at hl 1 rfl) ?_
        refine lv_aload_n hx hb dX4_receiveSnapshot_108 rfl (lv_at hl 2 rfl) ?_
        refine qgN_11 (f := 4) (v := .int (v 11 a 4)) hx hb htz tin_X1 hown hK hG ha (va_Nw.use rfl (hK.2 _ nX4_178)) (by decide) (by rw [hwe]; simp [qf11, qs_rSnapC_o, qs_rebase_o]) dX4_receiveSnapshot_109 ?_
        refine qpN_2_5 hx hb htz tin_X3 hown hL hK hG hS hi (va_Nw.use rfl (hK.2 _ nX4_101)) dX4_receiveSnapshot_112 (fun H locs hG hS => ?_)
        refine lv_aload_n hx hb dX4_receiveSnapshot_115 rfl (lv_at hl 0 rfl) ?_
        refine lv_aload_n hx hb dX4_receiveSnapshot_116 rfl (lv_at hl 1 rfl) ?_
        refine lv_aload_n hx hb dX4_receiveSnapshot_117 rfl (lv_at hl 2 rfl) ?_
        refine qgN_11 (f := 1) (v := .int (v 11 a 1)) hx hb htz tin_X1 hown hK hG ha (va_Nw.use rfl (hK.2 _ nX4_158)) (by decide) (by rw [hwe]; simp [qf11, qs_rSnapC_o, qs_rebase_o, mz_at]) dX4_receiveSnapshot_118 ?_
        refine lv_iconst (v := 1) hx hb dX4_receiveSnapshot_121 (by decide) ?_
        refine lv_aload_n hx hb dX4_receiveSnapshot_122 rfl (lv_at hl 2 rfl) ?_
        refine qgN_11 (f := 4) (v := .int (v 11 a 4)) hx hb htz tin_X1 hown hK hG ha (va_Nw.use rfl (hK.2 _ nX4_178)) (by decide) (by rw [hwe]; simp [qf11, qs_rSnapC_o, qs_rebase_o, mz_at]) dX4_receiveSnapshot_123 ?_
        refine mz_Vv (As := [.ref _, .int _, .int _, .int _]) (rest := []) ⟨hx, hb, hml, hown, hts⟩ (qc_sendAppended l D L hL _ i hi _ _ _ (by decide)) (tz_V htz mX4_sendAppended lX4_249 rfl rfl ⟨Nat.le_of_ble_eq_true rfl, Nat.le_of_ble_eq_true rfl⟩) (qrecv_0 hK hG (by decide)) qK_ok hK hG hS rfl hl.1 rfl (Nat.le_of_ble_eq_true rfl) dX4_receiveSnapshot_126 ⟨Nat.zero_le _, Nat.zero_le _⟩ (fun H locs hG hS => ?_)
        exact mz_vret hx hb hr hlk qK_ok hK hS hG dX4_receiveSnapshot_129 (by rw [qs_rSnap, if_neg h0, ← hv, qs_rSnap1, if_neg h1', qs_rSnapB, ← hwe])
      · refine lv_aload_n hx hb dX4_receiveSnapshot_72 rfl (lv_at hl 1 rfl) ?_
        refine qgN_2 (f := 6) hx hb htz tin_X3 hown hK hG hi (va_Nw.use rfl (hK.2 _ nX4_72)) (by decide) rfl dX4_receiveSnapshot_73 ?_
        refine lv_aload_n hx hb dX4_receiveSnapshot_76 rfl (lv_at hl 1 rfl) ?_
        refine qgN_2 (f := 6) hx hb htz tin_X3 hown hK hG hi (va_Nw.use rfl (hK.2 _ nX4_72)) (by decide) rfl dX4_receiveSnapshot_77 ?_
        refine qgN_3 (f := 0) hx hb htz tin_X0 hown hK hG hi (va_Nw.use rfl (hK.2 _ nX4_76)) (by decide) rfl dX4_receiveSnapshot_80 ?_
        refine lv_iconst (v := 1) hx hb dX4_receiveSnapshot_83 (by decide) ?_
        refine lv_iadd hx hb dX4_receiveSnapshot_84 ?_
        refine mz_Nv (As := [.int _]) (rest := []) ⟨hx, hb, hml, hown, hts⟩ (qc_cutFrom l D L hL _ i hi _) (tz_N htz mX0_cutFrom (hK.2 _ nX4_260) rfl rfl ⟨Nat.le_of_ble_eq_true rfl, Nat.le_of_ble_eq_true rfl⟩) (qrecv_3 hK hG hi) qK_ok hK hG hS rfl hl.1 rfl (Nat.le_of_ble_eq_true rfl) dX4_receiveSnapshot_85 ⟨Nat.zero_le _, Nat.zero_le _⟩ (fun H locs hG hS => ?_)
        obtain ⟨w, hwe, hG, hww⟩ : ∃ w, w = qs_rSnapC v i a ∧ qG D L w H ∧ qw (ql_c L) w i := by
          first
            | exact ⟨_, (by rw [qs_rSnapC, if_pos h2]), hG, hwv⟩
            | exact ⟨_, (by rw [qs_rSnapC, if_neg h2]), hG, hwv.cut hc12 _⟩
        refine lv_aload_n hx hb dX4_receiveSnapshot_88 rfl (lv_at hl 1 rfl) ?_
        refine qgN_2 (f := 6) hx hb htz tin_X3 hown hK hG hi (va_Nw.use rfl (hK.2 _ nX4_72)) (by decide) rfl dX4_receiveSnapshot_89 ?_
        refine lv_aload_n hx hb dX4_receiveSnapshot_92 rfl (lv_at hl 2 rfl) ?_
        refine qgN_11 (f := 4) (v := .int (v 11 a 4)) hx hb htz tin_X1 hown hK hG ha (va_Nw.use rfl (hK.2 _ nX4_178)) (by decide) (by rw [hwe]; simp [qf11, qs_rSnapC_o]) dX4_receiveSnapshot_93 ?_
        refine lv_aload_n hx hb dX4_receiveSnapshot_96 rfl (lv_at hl 2 rfl) ?_
        refine qgN_11 (f := 5) (v := .int (v 11 a 5)) hx hb htz tin_X1 hown hK hG ha (va_Nw.use rfl (hK.2 _ nX4_184)) (by decide) (by rw [hwe]; simp [qf11, qs_rSnapC_o]) dX4_receiveSnapshot_97 ?_
        refine lv_aload_n hx hb dX4_receiveSnapshot_100 rfl (lv_at hl 2 rfl) ?_
        refine qgN_11 (f := 11) (v := .int (v 11 a 11)) hx hb htz tin_X1 hown hK hG ha (va_Nw.use rfl (hK.2 _ nX4_208)) (by decide) (by rw [hwe]; simp [qf11, qs_rSnapC_o]) dX4_receiveSnapshot_101 ?_
        refine mz_Nv (As := [.int _, .int _, .int _]) (rest := []) ⟨hx, hb, hml, hown, hts⟩ (qc_rebase l D L hL _ i hi _ _ _ hww) (tz_N htz mX0_rebase (hK.2 _ nX4_111) rfl rfl ⟨Nat.le_of_ble_eq_true rfl, Nat.le_of_ble_eq_true rfl⟩) (qrecv_3 hK hG hi) qK_ok hK hG hS rfl hl.1 rfl (Nat.le_of_ble_eq_true rfl) dX4_receiveSnapshot_104 ⟨Nat.zero_le _, Nat.zero_le _⟩ (fun H locs hG hS => ?_)
        refine lv_aload_n hx hb dX4_receiveSnapshot_107 rfl (lv_at hl 1 rfl) ?_
        refine lv_aload_n hx hb dX4_receiveSnapshot_108 rfl (lv_at hl 2 rfl) ?_
        refine qgN_11 (f := 4) (v := .int (v 11 a 4)) hx hb htz tin_X1 hown hK hG ha (va_Nw.use rfl (hK.2 _ nX4_178)) (by decide) (by rw [hwe]; simp [qf11, qs_rSnapC_o, qs_rebase_o]) dX4_receiveSnapshot_109 ?_
        refine qpN_2_5 hx hb htz tin_X3 hown hL hK hG hS hi (va_Nw.use rfl (hK.2 _ nX4_101)) dX4_receiveSnapshot_112 (fun H locs hG hS => ?_)
        refine lv_aload_n hx hb dX4_receiveSnapshot_115 rfl (lv_at hl 0 rfl) ?_
        refine lv_aload_n hx hb dX4_receiveSnapshot_116 rfl (lv_at hl 1 rfl) ?_
        refine lv_aload_n hx hb dX4_receiveSnapshot_117 rfl (lv_at hl 2 rfl) ?_
        refine qgN_11 (f := 1) (v := .int (v 11 a 1)) hx hb htz tin_X1 hown hK hG ha (va_Nw.use rfl (hK.2 _ nX4_158)) (by decide) (by rw [hwe]; simp [qf11, qs_rSnapC_o, qs_rebase_o, mz_at]) dX4_receiveSnapshot_118 ?_
        refine lv_iconst (v := 1) hx hb dX4_receiveSnapshot_121 (by decide) ?_
        refine lv_aload_n hx hb dX4_receiveSnapshot_122 rfl (lv_at hl 2 rfl) ?_
        refine qgN_11 (f := 4) (v := .int (v 11 a 4)) hx hb htz tin_X1 hown hK hG ha (va_Nw.use rfl (hK.2 _ nX4_178)) (by decide) (by rw [hwe]; simp [qf11, qs_rSnapC_o, qs_rebase_o, mz_at]) dX4_receiveSnapshot_123 ?_
        refine mz_Vv (As := [.ref _, .int _, .int _, .int _]) (rest := []) ⟨hx, hb, hml, hown, hts⟩ (qc_sendAppended l D L hL _ i hi _ _ _ (by decide)) (tz_V htz mX4_sendAppended lX4_249 rfl rfl ⟨Nat.le_of_ble_eq_true rfl, Nat.le_of_ble_eq_true rfl⟩) (qrecv_0 hK hG (by decide)) qK_ok hK hG hS rfl hl.1 rfl (Nat.le_of_ble_eq_true rfl) dX4_receiveSnapshot_126 ⟨Nat.zero_le _, Nat.zero_le _⟩ (fun H locs hG hS => ?_)
        exact mz_vret hx hb hr hlk qK_ok hK hS hG dX4_receiveSnapshot_129 (by rw [qs_rSnap, if_neg h0, ← hv, qs_rSnap1, if_neg h1', qs_rSnapB, ← hwe])
    · refine lv_aload_n hx hb dX4_receiveSnapshot_39 rfl (lv_at hl 0 rfl) ?_
      refine lv_aload_n hx hb dX4_receiveSnapshot_40 rfl (lv_at hl 1 rfl) ?_
      refine lv_aload_n hx hb dX4_receiveSnapshot_41 rfl (lv_at hl 2 rfl) ?_
      refine qgN_11 (f := 1) hx hb htz tin_X1 hown hK hG ha (va_Nw.use rfl (hK.2 _ nX4_158)) (by decide) rfl dX4_receiveSnapshot_42 ?_
      refine lv_iconst (v := 1) hx hb dX4_receiveSnapshot_45 (by decide) ?_
      refine lv_aload_n hx hb dX4_receiveSnapshot_46 rfl (lv_at hl 1 rfl) ?_
      refine qgN_2 (f := 5) hx hb htz tin_X3 hown hK hG hi (va_Nw.use rfl (hK.2 _ nX4_101)) (by decide) rfl dX4_receiveSnapshot_47 ?_
      refine mz_Vv (As := [.ref _, .int _, .int _, .int _]) (rest := []) ⟨hx, hb, hml, hown, hts⟩ (qc_sendAppended l D L hL _ i hi _ _ _ (by decide)) (tz_V htz mX4_sendAppended lX4_249 rfl rfl ⟨Nat.le_of_ble_eq_true rfl, Nat.le_of_ble_eq_true rfl⟩) (qrecv_0 hK hG (by decide)) qK_ok hK hG hS rfl hl.1 rfl (Nat.le_of_ble_eq_true rfl) dX4_receiveSnapshot_50 ⟨Nat.zero_le _, Nat.zero_le _⟩ (fun H locs hG hS => ?_)
      exact mz_vret hx hb hr hlk qK_ok hK hS hG dX4_receiveSnapshot_53 (by rw [qs_rSnap, if_neg h0, ← hv, qs_rSnap1, if_pos h1'])
  · refine lv_aload_n hx hb dX4_receiveSnapshot_11 rfl (lv_at hl 0 rfl) ?_
    refine lv_aload_n hx hb dX4_receiveSnapshot_12 rfl (lv_at hl 1 rfl) ?_
    refine lv_aload_n hx hb dX4_receiveSnapshot_13 rfl (lv_at hl 2 rfl) ?_
    refine qgN_11 (f := 1) hx hb htz tin_X1 hown hK hG ha (va_Nw.use rfl (hK.2 _ nX4_158)) (by decide) rfl dX4_receiveSnapshot_14 ?_
    refine lv_iconst (v := 0) hx hb dX4_receiveSnapshot_17 (by decide) ?_
    refine lv_iconst (v := 0) hx hb dX4_receiveSnapshot_18 (by decide) ?_
    refine mz_Vv (As := [.ref _, .int _, .int _, .int _]) (rest := []) ⟨hx, hb, hml, hown, hts⟩ (qc_sendAppended l D L hL _ i hi _ _ _ (by decide)) (tz_V htz mX4_sendAppended lX4_249 rfl rfl ⟨Nat.le_of_ble_eq_true rfl, Nat.le_of_ble_eq_true rfl⟩) (qrecv_0 hK hG (by decide)) qK_ok hK hG hS rfl hl.1 rfl (Nat.le_of_ble_eq_true rfl) dX4_receiveSnapshot_19 ⟨Nat.zero_le _, Nat.zero_le _⟩ (fun H locs hG hS => ?_)
    exact mz_vret hx hb hr hlk qK_ok hK hS hG dX4_receiveSnapshot_22 (by rw [qs_rSnap, if_pos h0])

set_option maxRecDepth 100000 in
set_option maxHeartbeats 4000000 in
theorem qc_receiveAppended (l : Launch) (D : va_G) (L : qL) (hL : qL_ok L) (u : mz_S) (i : Nat) (hi : i < ql_n L) (a : Nat) (ha : a < ql_S L + 2) (hq : qwc (ql_c L) u i (u 2 i 5)) (hf : vp_in (u 11 a 1) (ql_n L)) : mz_Cv l (qG D L) (qK D L) (qA L) yX4_receiveAppended (tz_w yX4_receiveAppended cX4_receiveAppended 3 none) ({ frames := 3, cells := 0, slots := 0, locals := 64 } : Room) [.ref (L.1 0 0), .ref (L.1 2 i), .ref (L.1 11 a)] u (qs_rAns (ql_n L) u i a) := by
  refine mz_Cv.of (cc := cX4_receiveAppended) (maxL := 3) (ret := none) (by decide) rfl (Nat.le_of_ble_eq_true rfl) ?_
  intro p e s m args below meth c ls hx hb hr hlk hml hown hts hl hG hK hS
  have hl : lv_has ls 3 [(0, .ref (L.1 0 0)), (1, .ref (L.1 2 i)), (2, .ref (L.1 11 a))] := hl
  have htz : ∀ w ∈ tz, w.before args s = true := fun w h => hts w (List.mem_cons_of_mem _ h)
  refine lv_aload_n hx hb dX4_receiveAppended_0 rfl (lv_at hl 1 rfl) ?_
  refine qgN_2 (f := 2) hx hb htz tin_X3 hown hK hG hi (va_Nw.use rfl (hK.2 _ nX4_49)) (by decide) rfl dX4_receiveAppended_1 ?_
  refine lv_iconst (v := 2) hx hb dX4_receiveAppended_4 (by decide) ?_
  refine lv_icmp_ne hx hb dX4_receiveAppended_5 (tgt := 19) rfl (fun h0 => ?_) (fun h0 => ?_)
  · exact mz_vret hx hb hr hlk qK_ok hK hS hG dX4_receiveAppended_19 (by unfold qs_rAns; first | rw [if_pos h0] | rw [if_neg (not_not_intro h0), if_pos h1])
  · refine lv_aload_n hx hb dX4_receiveAppended_8 rfl (lv_at hl 2 rfl) ?_
    refine qgN_11 (f := 3) hx hb htz tin_X1 hown hK hG ha (va_Nw.use rfl (hK.2 _ nX4_161)) (by decide) rfl dX4_receiveAppended_9 ?_
    refine lv_aload_n hx hb dX4_receiveAppended_12 rfl (lv_at hl 1 rfl) ?_
    refine qgN_2 (f := 3) hx hb htz tin_X3 hown hK hG hi (va_Nw.use rfl (hK.2 _ nX4_91)) (by decide) rfl dX4_receiveAppended_13 ?_
    refine lv_icmp_eq hx hb dX4_receiveAppended_16 (tgt := 20) rfl (fun h1 => ?_) (fun h1 => ?_)
    · refine lv_aload_n hx hb dX4_receiveAppended_20 rfl (lv_at hl 2 rfl) ?_
      refine qgN_11 (f := 6) hx hb htz tin_X1 hown hK hG ha (va_Nw.use rfl (hK.2 _ nX4_187)) (by decide) rfl dX4_receiveAppended_21 ?_
      refine mz_ifne_b hx hb dX4_receiveAppended_24 (tgt := 52) rfl (fun h2 => ?_) (fun h2 => ?_)
      · refine lv_aload_n hx hb dX4_receiveAppended_52 rfl (lv_at hl 1 rfl) ?_
        refine qgN_2 (f := 9) hx hb htz tin_X3 hown hK hG hi (va_Nw.use rfl (hK.2 _ nX4_151)) (by decide) rfl dX4_receiveAppended_53 ?_
        refine lv_aload_n hx hb dX4_receiveAppended_56 rfl (lv_at hl 2 rfl) ?_
        refine qgN_11 (f := 1) hx hb htz tin_X1 hown hK hG ha (va_Nw.use rfl (hK.2 _ nX4_158)) (by decide) rfl dX4_receiveAppended_57 ?_
        refine lv_aload_n hx hb dX4_receiveAppended_60 rfl (lv_at hl 1 rfl) ?_
        refine qgN_2 (f := 9) hx hb htz tin_X3 hown hK hG hi (va_Nw.use rfl (hK.2 _ nX4_151)) (by decide) rfl dX4_receiveAppended_61 ?_
        refine lv_aload_n hx hb dX4_receiveAppended_64 rfl (lv_at hl 2 rfl) ?_
        refine qgN_11 (f := 1) hx hb htz tin_X1 hown hK hG ha (va_Nw.use rfl (hK.2 _ nX4_158)) (by decide) rfl dX4_receiveAppended_65 ?_
        refine qa_8 hx hb hK hG hi hf dX4_receiveAppended_68 ?_
        refine lv_aload_n hx hb dX4_receiveAppended_69 rfl (lv_at hl 2 rfl) ?_
        refine qgN_11 (f := 4) hx hb htz tin_X1 hown hK hG ha (va_Nw.use rfl (hK.2 _ nX4_178)) (by decide) rfl dX4_receiveAppended_70 ?_
        refine va_mmax hx hb (hml.trans hl.1.symm) hown (htz _ lX4_168) (htz _ max_stat) (htz _ ini_Math) (htz _ max_code) (Nat.le_of_ble_eq_true rfl) (Nat.le_of_ble_eq_true rfl) (Nat.le_of_ble_eq_true rfl) (Nat.le_of_ble_eq_true rfl) dX4_receiveAppended_73 ?_
        refine qt_8 hx hb hL hK hG hS hi hf dX4_receiveAppended_76 (fun H locs hG hS => ?_)
        have hG : qG D L (qs_rAnsM u i a) H := hG
        refine lv_aload_n hx hb dX4_receiveAppended_77 rfl (lv_at hl 1 rfl) ?_
        refine qgN_2 (f := 8) hx hb htz tin_X3 hown hK hG hi (va_Nw.use rfl (hK.2 _ nX4_68)) (by decide) rfl dX4_receiveAppended_78 ?_
        refine lv_aload_n hx hb dX4_receiveAppended_81 rfl (lv_at hl 2 rfl) ?_
        refine qgN_11 (f := 1) (v := .int (u 11 a 1)) hx hb htz tin_X1 hown hK hG ha (va_Nw.use rfl (hK.2 _ nX4_158)) (by decide) (by simp [qf11, qs_rAnsM, mz_at]) dX4_receiveAppended_82 ?_
        refine lv_aload_n hx hb dX4_receiveAppended_85 rfl (lv_at hl 1 rfl) ?_
        refine qgN_2 (f := 9) hx hb htz tin_X3 hown hK hG hi (va_Nw.use rfl (hK.2 _ nX4_151)) (by decide) rfl dX4_receiveAppended_86 ?_
        refine lv_aload_n hx hb dX4_receiveAppended_89 rfl (lv_at hl 2 rfl) ?_
        refine qgN_11 (f := 1) (v := .int (u 11 a 1)) hx hb htz tin_X1 hown hK hG ha (va_Nw.use rfl (hK.2 _ nX4_158)) (by decide) (by simp [qf11, qs_rAnsM, mz_at]) dX4_receiveAppended_90 ?_
        refine qa_8 hx hb hK hG hi hf dX4_receiveAppended_93 ?_
        refine lv_iconst (v := 1) hx hb dX4_receiveAppended_94 (by decide) ?_
        refine lv_iadd hx hb dX4_receiveAppended_95 ?_
        refine qt_7 hx hb hL hK hG hS hi hf dX4_receiveAppended_96 (fun H locs hG hS => ?_)
        have hG : qG D L (qs_rAnsN u i a) H := hG
        refine lv_aload_n hx hb dX4_receiveAppended_97 rfl (lv_at hl 0 rfl) ?_
        refine lv_aload_n hx hb dX4_receiveAppended_98 rfl (lv_at hl 1 rfl) ?_
        refine mz_Vv (As := [.ref _]) (rest := []) ⟨hx, hb, hml, hown, hts⟩ (qc_advanceCommit l D L hL _ i hi (hq.same (by simp [qs_rAnsN, qs_rAnsM, mz_at]) (by simp [qs_rAnsN, qs_rAnsM, mz_at]) (by simp [qs_rAnsN, qs_rAnsM, mz_at]))) (tz_V htz mX4_advanceCommit lX4_256 rfl rfl ⟨Nat.le_of_ble_eq_true rfl, Nat.le_of_ble_eq_true rfl⟩) (qrecv_0 hK hG (by decide)) qK_ok hK hG hS rfl hl.1 rfl (Nat.le_of_ble_eq_true rfl) dX4_receiveAppended_99 ⟨Nat.zero_le _, Nat.zero_le _⟩ (fun H locs hG hS => ?_)
        exact mz_vret hx hb hr hlk qK_ok hK hS hG dX4_receiveAppended_102 (by rw [qs_rAns, if_neg (not_not_intro h0), if_neg (not_not_intro h1), if_neg h2])
      · refine lv_aload_n hx hb dX4_receiveAppended_27 rfl (lv_at hl 1 rfl) ?_
        refine qgN_2 (f := 8) hx hb htz tin_X3 hown hK hG hi (va_Nw.use rfl (hK.2 _ nX4_68)) (by decide) rfl dX4_receiveAppended_28 ?_
        refine lv_aload_n hx hb dX4_receiveAppended_31 rfl (lv_at hl 2 rfl) ?_
        refine qgN_11 (f := 1) hx hb htz tin_X1 hown hK hG ha (va_Nw.use rfl (hK.2 _ nX4_158)) (by decide) rfl dX4_receiveAppended_32 ?_
        refine lv_iconst (v := 1) hx hb dX4_receiveAppended_35 (by decide) ?_
        refine lv_aload_n hx hb dX4_receiveAppended_36 rfl (lv_at hl 1 rfl) ?_
        refine qgN_2 (f := 8) hx hb htz tin_X3 hown hK hG hi (va_Nw.use rfl (hK.2 _ nX4_68)) (by decide) rfl dX4_receiveAppended_37 ?_
        refine lv_aload_n hx hb dX4_receiveAppended_40 rfl (lv_at hl 2 rfl) ?_
        refine qgN_11 (f := 1) hx hb htz tin_X1 hown hK hG ha (va_Nw.use rfl (hK.2 _ nX4_158)) (by decide) rfl dX4_receiveAppended_41 ?_
        refine qa_7 hx hb hK hG hi hf dX4_receiveAppended_44 ?_
        refine lv_iconst (v := 1) hx hb dX4_receiveAppended_45 (by decide) ?_
        refine lv_isub hx hb dX4_receiveAppended_46 ?_
        refine va_mmax hx hb (hml.trans hl.1.symm) hown (htz _ lX4_168) (htz _ max_stat) (htz _ ini_Math) (htz _ max_code) (Nat.le_of_ble_eq_true rfl) (Nat.le_of_ble_eq_true rfl) (Nat.le_of_ble_eq_true rfl) (Nat.le_of_ble_eq_true rfl) dX4_receiveAppended_47 ?_
        refine qt_7 hx hb hL hK hG hS hi hf dX4_receiveAppended_50 (fun H locs hG hS => ?_)
        exact mz_vret hx hb hr hlk qK_ok hK hS hG dX4_receiveAppended_51 (by rw [qs_rAns, if_neg (not_not_intro h0), if_neg (not_not_intro h1), if_pos (Decidable.not_not.mp h2)]; rfl)
    · exact mz_vret hx hb hr hlk qK_ok hK hS hG dX4_receiveAppended_19 (by unfold qs_rAns; first | rw [if_pos h0] | rw [if_neg (not_not_intro h0), if_pos h1])

set_option maxRecDepth 100000 in
set_option maxHeartbeats 4000000 in
theorem qc_receive (l : Launch) (D : va_G) (L : qL) (hL : qL_ok L) (u : mz_S) (i : Nat) (hi : i < ql_n L) (a : Nat) (ha : a < ql_S L + 2) (hq : qwc (ql_c L) u i (u 2 i 5)) (hf : vp_in (u 11 a 1) (ql_n L)) : mz_Cv l (qG D L) (qK D L) (qA L) yX4_receive (tz_w yX4_receive cX4_receive 3 none) ({ frames := 4, cells := 0, slots := 0, locals := 90 } : Room) [.ref (L.1 0 0), .ref (L.1 2 i), .ref (L.1 11 a)] u (qs_rcv (ql_n L) (ql_c L) (ql_S L) u i a) := by
  refine mz_Cv.of (cc := cX4_receive) (maxL := 3) (ret := none) (by decide) rfl (Nat.le_of_ble_eq_true rfl) ?_
  intro p e s m args below meth c ls hx hb hr hlk hml hown hts hl hG hK hS
  have hl : lv_has ls 3 [(0, .ref (L.1 0 0)), (1, .ref (L.1 2 i)), (2, .ref (L.1 11 a))] := hl
  have htz : ∀ w ∈ tz, w.before args s = true := fun w h => hts w (List.mem_cons_of_mem _ h)
  refine lv_aload_n hx hb dX4_receive_0 rfl (lv_at hl 2 rfl) ?_
  refine qgN_11 (f := 3) hx hb htz tin_X1 hown hK hG ha (va_Nw.use rfl (hK.2 _ nX4_161)) (by decide) rfl dX4_receive_1 ?_
  refine lv_aload_n hx hb dX4_receive_4 rfl (lv_at hl 1 rfl) ?_
  refine qgN_2 (f := 3) hx hb htz tin_X3 hown hK hG hi (va_Nw.use rfl (hK.2 _ nX4_91)) (by decide) rfl dX4_receive_5 ?_
  refine mz_icmp_le hx hb dX4_receive_8 (tgt := 19) rfl (fun h0 h0' => ?_) (fun h0 h0' => ?_)
  · obtain ⟨w, hwe, hG, eE, eC⟩ : ∃ w, w = (if u 2 i 3 < u 11 a 3 then qs_enter u i (u 11 a 3) else u) ∧ qG D L w s.heap ∧ (∀ k x f, k ≠ 2 → w k x f = u k x f) ∧ w 2 i 5 = u 2 i 5 := ⟨_, by rw [if_neg h0], hG, fun _ _ _ _ => rfl, rfl⟩
    have hq9 : qwc (ql_c L) w i (w 2 i 5) := hq.same (eE _ _ _ (by decide)) (eE _ _ _ (by decide)) eC
    have hf9 : vp_in (w 11 a 1) (ql_n L) := by rw [eE _ _ _ (by decide)]; exact hf
    refine lv_aload_n hx hb dX4_receive_19 rfl (lv_at hl 2 rfl) ?_
    refine qgN_11 (f := 0) hx hb htz tin_X1 hown hK hG ha (va_Nw.use rfl (hK.2 _ nX4_138)) (by decide) rfl dX4_receive_20 ?_
    by_cases s1 : w 11 a 0 = 1
    · rw [s1]
      refine lv_tableIn hx hb dX4_receive_23 (by decide) (by decide) (off := 29) rfl (tgt := 52) rfl ?_
      refine lv_aload_n hx hb dX4_receive_52 rfl (lv_at hl 0 rfl) ?_
      refine lv_aload_n hx hb dX4_receive_53 rfl (lv_at hl 1 rfl) ?_
      refine lv_aload_n hx hb dX4_receive_54 rfl (lv_at hl 2 rfl) ?_
      refine mz_Vv (As := [.ref _, .ref _]) (rest := []) ⟨hx, hb, hml, hown, hts⟩ (qc_receiveAsk l D L hL _ i hi a ha hq9.qw) (tz_V htz mX4_receiveAsk lX4_214 rfl rfl ⟨Nat.le_of_ble_eq_true rfl, Nat.le_of_ble_eq_true rfl⟩) (qrecv_0 hK hG (by decide)) qK_ok hK hG hS rfl hl.1 rfl (Nat.le_of_ble_eq_true rfl) dX4_receive_55 ⟨Nat.zero_le _, Nat.zero_le _⟩ (fun H locs hG hS => ?_)
      refine lv_goto hx hb dX4_receive_58 (tgt := 94) rfl ?_
      exact mz_vret hx hb hr hlk qK_ok hK hS hG dX4_receive_94 (by rw [qs_rcv, ← hwe, qs_rcv1]; first | rw [if_pos s1] | rw [if_neg s1, if_pos s2] | rw [if_neg s1, if_neg s2, if_pos s3] | rw [if_neg s1, if_neg s2, if_neg s3, if_pos s4] | rw [if_neg s1, if_neg s2, if_neg s3, if_neg s4])
    by_cases s2 : w 11 a 0 = 2
    · rw [s2]
      refine lv_tableIn hx hb dX4_receive_23 (by decide) (by decide) (off := 38) rfl (tgt := 61) rfl ?_
      refine lv_aload_n hx hb dX4_receive_61 rfl (lv_at hl 0 rfl) ?_
      refine lv_aload_n hx hb dX4_receive_62 rfl (lv_at hl 1 rfl) ?_
      refine lv_aload_n hx hb dX4_receive_63 rfl (lv_at hl 2 rfl) ?_
      refine mz_Vv (As := [.ref _, .ref _]) (rest := []) ⟨hx, hb, hml, hown, hts⟩ (qc_receiveVote l D L hL _ i hi a ha hf9) (tz_V htz mX4_receiveVote lX4_217 rfl rfl ⟨Nat.le_of_ble_eq_true rfl, Nat.le_of_ble_eq_true rfl⟩) (qrecv_0 hK hG (by decide)) qK_ok hK hG hS rfl hl.1 rfl (Nat.le_of_ble_eq_true rfl) dX4_receive_64 ⟨Nat.zero_le _, Nat.zero_le _⟩ (fun H locs hG hS => ?_)
      refine lv_goto hx hb dX4_receive_67 (tgt := 94) rfl ?_
      exact mz_vret hx hb hr hlk qK_ok hK hS hG dX4_receive_94 (by rw [qs_rcv, ← hwe, qs_rcv1]; first | rw [if_pos s1] | rw [if_neg s1, if_pos s2] | rw [if_neg s1, if_neg s2, if_pos s3] | rw [if_neg s1, if_neg s2, if_neg s3, if_pos s4] | rw [if_neg s1, if_neg s2, if_neg s3, if_neg s4])
    by_cases s3 : w 11 a 0 = 3
    · rw [s3]
      refine lv_tableIn hx hb dX4_receive_23 (by decide) (by decide) (off := 47) rfl (tgt := 70) rfl ?_
      refine lv_aload_n hx hb dX4_receive_70 rfl (lv_at hl 0 rfl) ?_
      refine lv_aload_n hx hb dX4_receive_71 rfl (lv_at hl 1 rfl) ?_
      refine lv_aload_n hx hb dX4_receive_72 rfl (lv_at hl 2 rfl) ?_
      refine mz_Vv (As := [.ref _, .ref _]) (rest := []) ⟨hx, hb, hml, hown, hts⟩ (qc_receiveAppend l D L hL _ i hi a ha hq9.qw) (tz_V htz mX4_receiveAppend lX4_220 rfl rfl ⟨Nat.le_of_ble_eq_true rfl, Nat.le_of_ble_eq_true rfl⟩) (qrecv_0 hK hG (by decide)) qK_ok hK hG hS rfl hl.1 rfl (Nat.le_of_ble_eq_true rfl) dX4_receive_73 ⟨Nat.zero_le _, Nat.zero_le _⟩ (fun H locs hG hS => ?_)
      refine lv_goto hx hb dX4_receive_76 (tgt := 94) rfl ?_
      exact mz_vret hx hb hr hlk qK_ok hK hS hG dX4_receive_94 (by rw [qs_rcv, ← hwe, qs_rcv1]; first | rw [if_pos s1] | rw [if_neg s1, if_pos s2] | rw [if_neg s1, if_neg s2, if_pos s3] | rw [if_neg s1, if_neg s2, if_neg s3, if_pos s4] | rw [if_neg s1, if_neg s2, if_neg s3, if_neg s4])
    by_cases s4 : w 11 a 0 = 4
    · rw [s4]
      refine lv_tableIn hx hb dX4_receive_23 (by decide) (by decide) (off := 56) rfl (tgt := 79) rfl ?_
      refine lv_aload_n hx hb dX4_receive_79 rfl (lv_at hl 0 rfl) ?_
      refine lv_aload_n hx hb dX4_receive_80 rfl (lv_at hl 1 rfl) ?_
      refine lv_aload_n hx hb dX4_receive_81 rfl (lv_at hl 2 rfl) ?_
      refine mz_Vv (As := [.ref _, .ref _]) (rest := []) ⟨hx, hb, hml, hown, hts⟩ (qc_receiveAppended l D L hL _ i hi a ha hq9 hf9) (tz_V htz mX4_receiveAppended lX4_223 rfl rfl ⟨Nat.le_of_ble_eq_true rfl, Nat.le_of_ble_eq_true rfl⟩) (qrecv_0 hK hG (by decide)) qK_ok hK hG hS rfl hl.1 rfl (Nat.le_of_ble_eq_true rfl) dX4_receive_82 ⟨Nat.zero_le _, Nat.zero_le _⟩ (fun H locs hG hS => ?_)
      refine lv_goto hx hb dX4_receive_85 (tgt := 94) rfl ?_
      exact mz_vret hx hb hr hlk qK_ok hK hS hG dX4_receive_94 (by rw [qs_rcv, ← hwe, qs_rcv1]; first | rw [if_pos s1] | rw [if_neg s1, if_pos s2] | rw [if_neg s1, if_neg s2, if_pos s3] | rw [if_neg s1, if_neg s2, if_neg s3, if_pos s4] | rw [if_neg s1, if_neg s2, if_neg s3, if_neg s4])
    refine lv_tableOut hx hb dX4_receive_23 (mz_out (lo := 1) (hi := 4) (fun k h1 h2 => by rcases (show k = 1 ∨ k = 2 ∨ k = 3 ∨ k = 4 by omega) with rfl | rfl | rfl | rfl <;> assumption)) (tgt := 88) rfl ?_
    refine lv_aload_n hx hb dX4_receive_88 rfl (lv_at hl 0 rfl) ?_
    refine lv_aload_n hx hb dX4_receive_89 rfl (lv_at hl 1 rfl) ?_
    refine lv_aload_n hx hb dX4_receive_90 rfl (lv_at hl 2 rfl) ?_
    refine mz_Vv (As := [.ref _, .ref _]) (rest := []) ⟨hx, hb, hml, hown, hts⟩ (qc_receiveSnapshot l D L hL _ i hi a ha hq9.qw) (tz_V htz mX4_receiveSnapshot lX4_226 rfl rfl ⟨Nat.le_of_ble_eq_true rfl, Nat.le_of_ble_eq_true rfl⟩) (qrecv_0 hK hG (by decide)) qK_ok hK hG hS rfl hl.1 rfl (Nat.le_of_ble_eq_true rfl) dX4_receive_91 ⟨Nat.zero_le _, Nat.zero_le _⟩ (fun H locs hG hS => ?_)
    exact mz_vret hx hb hr hlk qK_ok hK hS hG dX4_receive_94 (by rw [qs_rcv, ← hwe, qs_rcv1]; first | rw [if_pos s1] | rw [if_neg s1, if_pos s2] | rw [if_neg s1, if_neg s2, if_pos s3] | rw [if_neg s1, if_neg s2, if_neg s3, if_pos s4] | rw [if_neg s1, if_neg s2, if_neg s3, if_neg s4])
  · refine lv_aload_n hx hb dX4_receive_11 rfl (lv_at hl 1 rfl) ?_
    refine lv_aload_n hx hb dX4_receive_12 rfl (lv_at hl 2 rfl) ?_
    refine qgN_11 (f := 3) hx hb htz tin_X1 hown hK hG ha (va_Nw.use rfl (hK.2 _ nX4_161)) (by decide) rfl dX4_receive_13 ?_
    refine mz_Nv (As := [.int _]) (rest := []) ⟨hx, hb, hml, hown, hts⟩ (qc_enterTerm l D L hL _ i hi _) (tz_N htz mX3_enterTerm (hK.2 _ nX4_211) rfl rfl ⟨Nat.le_of_ble_eq_true rfl, Nat.le_of_ble_eq_true rfl⟩) (qrecv_2 hK hG hi) qK_ok hK hG hS rfl hl.1 rfl (Nat.le_of_ble_eq_true rfl) dX4_receive_16 ⟨Nat.zero_le _, Nat.zero_le _⟩ (fun H locs hG hS => ?_)
    obtain ⟨w, hwe, hG, eE, eC⟩ : ∃ w, w = (if u 2 i 3 < u 11 a 3 then qs_enter u i (u 11 a 3) else u) ∧ qG D L w H ∧ (∀ k x f, k ≠ 2 → w k x f = u k x f) ∧ w 2 i 5 = u 2 i 5 := ⟨_, by rw [if_pos h0], hG, fun k x f hk => by simp [qs_enter, mz_at, hk], by simp [qs_enter, mz_at]⟩
    have hq9 : qwc (ql_c L) w i (w 2 i 5) := hq.same (eE _ _ _ (by decide)) (eE _ _ _ (by decide)) eC
    have hf9 : vp_in (w 11 a 1) (ql_n L) := by rw [eE _ _ _ (by decide)]; exact hf
    refine lv_aload_n hx hb dX4_receive_19 rfl (lv_at hl 2 rfl) ?_
    refine qgN_11 (f := 0) hx hb htz tin_X1 hown hK hG ha (va_Nw.use rfl (hK.2 _ nX4_138)) (by decide) rfl dX4_receive_20 ?_
    by_cases s1 : w 11 a 0 = 1
    · rw [s1]
      refine lv_tableIn hx hb dX4_receive_23 (by decide) (by decide) (off := 29) rfl (tgt := 52) rfl ?_
      refine lv_aload_n hx hb dX4_receive_52 rfl (lv_at hl 0 rfl) ?_
      refine lv_aload_n hx hb dX4_receive_53 rfl (lv_at hl 1 rfl) ?_
      refine lv_aload_n hx hb dX4_receive_54 rfl (lv_at hl 2 rfl) ?_
      refine mz_Vv (As := [.ref _, .ref _]) (rest := []) ⟨hx, hb, hml, hown, hts⟩ (qc_receiveAsk l D L hL _ i hi a ha hq9.qw) (tz_V htz mX4_receiveAsk lX4_214 rfl rfl ⟨Nat.le_of_ble_eq_true rfl, Nat.le_of_ble_eq_true rfl⟩) (qrecv_0 hK hG (by decide)) qK_ok hK hG hS rfl hl.1 rfl (Nat.le_of_ble_eq_true rfl) dX4_receive_55 ⟨Nat.zero_le _, Nat.zero_le _⟩ (fun H locs hG hS => ?_)
      refine lv_goto hx hb dX4_receive_58 (tgt := 94) rfl ?_
      exact mz_vret hx hb hr hlk qK_ok hK hS hG dX4_receive_94 (by rw [qs_rcv, ← hwe, qs_rcv1]; first | rw [if_pos s1] | rw [if_neg s1, if_pos s2] | rw [if_neg s1, if_neg s2, if_pos s3] | rw [if_neg s1, if_neg s2, if_neg s3, if_pos s4] | rw [if_neg s1, if_neg s2, if_neg s3, if_neg s4])
    by_cases s2 : w 11 a 0 = 2
    · rw [s2]
      refine lv_tableIn hx hb dX4_receive_23 (by decide) (by decide) (off := 38) rfl (tgt := 61) rfl ?_
      refine lv_aload_n hx hb dX4_receive_61 rfl (lv_at hl 0 rfl) ?_
      refine lv_aload_n hx hb dX4_receive_62 rfl (lv_at hl 1 rfl) ?_
      refine lv_aload_n hx hb dX4_receive_63 rfl (lv_at hl 2 rfl) ?_
      refine mz_Vv (As := [.ref _, .ref _]) (rest := []) ⟨hx, hb, hml, hown, hts⟩ (qc_receiveVote l D L hL _ i hi a ha hf9) (tz_V htz mX4_receiveVote lX4_217 rfl rfl ⟨Nat.le_of_ble_eq_true rfl, Nat.le_of_ble_eq_true rfl⟩) (qrecv_0 hK hG (by decide)) qK_ok hK hG hS rfl hl.1 rfl (Nat.le_of_ble_eq_true rfl) dX4_receive_64 ⟨Nat.zero_le _, Nat.zero_le _⟩ (fun H locs hG hS => ?_)
      refine lv_goto hx hb dX4_receive_67 (tgt := 94) rfl ?_
      exact mz_vret hx hb hr hlk qK_ok hK hS hG dX4_receive_94 (by rw [qs_rcv, ← hwe, qs_rcv1]; first | rw [if_pos s1] | rw [if_neg s1, if_pos s2] | rw [if_neg s1, if_neg s2, if_pos s3] | rw [if_neg s1, if_neg s2, if_neg s3, if_pos s4] | rw [if_neg s1, if_neg s2, if_neg s3, if_neg s4])
    by_cases s3 : w 11 a 0 = 3
    · rw [s3]
      refine lv_tableIn hx hb dX4_receive_23 (by decide) (by decide) (off := 47) rfl (tgt := 70) rfl ?_
      refine lv_aload_n hx hb dX4_receive_70 rfl (lv_at hl 0 rfl) ?_
      refine lv_aload_n hx hb dX4_receive_71 rfl (lv_at hl 1 rfl) ?_
      refine lv_aload_n hx hb dX4_receive_72 rfl (lv_at hl 2 rfl) ?_
      refine mz_Vv (As := [.ref _, .ref _]) (rest := []) ⟨hx, hb, hml, hown, hts⟩ (qc_receiveAppend l D L hL _ i hi a ha hq9.qw) (tz_V htz mX4_receiveAppend lX4_220 rfl rfl ⟨Nat.le_of_ble_eq_true rfl, Nat.le_of_ble_eq_true rfl⟩) (qrecv_0 hK hG (by decide)) qK_ok hK hG hS rfl hl.1 rfl (Nat.le_of_ble_eq_true rfl) dX4_receive_73 ⟨Nat.zero_le _, Nat.zero_le _⟩ (fun H locs hG hS => ?_)
      refine lv_goto hx hb dX4_receive_76 (tgt := 94) rfl ?_
      exact mz_vret hx hb hr hlk qK_ok hK hS hG dX4_receive_94 (by rw [qs_rcv, ← hwe, qs_rcv1]; first | rw [if_pos s1] | rw [if_neg s1, if_pos s2] | rw [if_neg s1, if_neg s2, if_pos s3] | rw [if_neg s1, if_neg s2, if_neg s3, if_pos s4] | rw [if_neg s1, if_neg s2, if_neg s3, if_neg s4])
    by_cases s4 : w 11 a 0 = 4
    · rw [s4]
      refine lv_tableIn hx hb dX4_receive_23 (by decide) (by decide) (off := 56) rfl (tgt := 79) rfl ?_
      refine lv_aload_n hx hb dX4_receive_79 rfl (lv_at hl 0 rfl) ?_
      refine lv_aload_n hx hb dX4_receive_80 rfl (lv_at hl 1 rfl) ?_
      refine lv_aload_n hx hb dX4_receive_81 rfl (lv_at hl 2 rfl) ?_
      refine mz_Vv (As := [.ref _, .ref _]) (rest := []) ⟨hx, hb, hml, hown, hts⟩ (qc_receiveAppended l D L hL _ i hi a ha hq9 hf9) (tz_V htz mX4_receiveAppended lX4_223 rfl rfl ⟨Nat.le_of_ble_eq_true rfl, Nat.le_of_ble_eq_true rfl⟩) (qrecv_0 hK hG (by decide)) qK_ok hK hG hS rfl hl.1 rfl (Nat.le_of_ble_eq_true rfl) dX4_receive_82 ⟨Nat.zero_le _, Nat.zero_le _⟩ (fun H locs hG hS => ?_)
      refine lv_goto hx hb dX4_receive_85 (tgt := 94) rfl ?_
      exact mz_vret hx hb hr hlk qK_ok hK hS hG dX4_receive_94 (by rw [qs_rcv, ← hwe, qs_rcv1]; first | rw [if_pos s1] | rw [if_neg s1, if_pos s2] | rw [if_neg s1, if_neg s2, if_pos s3] | rw [if_neg s1, if_neg s2, if_neg s3, if_pos s4] | rw [if_neg s1, if_neg s2, if_neg s3, if_neg s4])
    refine lv_tableOut hx hb dX4_receive_23 (mz_out (lo := 1) (hi := 4) (fun k h1 h2 => by rcases (show k = 1 ∨ k = 2 ∨ k = 3 ∨ k = 4 by omega) with rfl | rfl | rfl | rfl <;> assumption)) (tgt := 88) rfl ?_
    refine lv_aload_n hx hb dX4_receive_88 rfl (lv_at hl 0 rfl) ?_
    refine lv_aload_n hx hb dX4_receive_89 rfl (lv_at hl 1 rfl) ?_
    refine lv_aload_n hx hb dX4_receive_90 rfl (lv_at hl 2 rfl) ?_
    refine mz_Vv (As := [.ref _, .ref _]) (rest := []) ⟨hx, hb, hml, hown, hts⟩ (qc_receiveSnapshot l D L hL _ i hi a ha hq9.qw) (tz_V htz mX4_receiveSnapshot lX4_226 rfl rfl ⟨Nat.le_of_ble_eq_true rfl, Nat.le_of_ble_eq_true rfl⟩) (qrecv_0 hK hG (by decide)) qK_ok hK hG hS rfl hl.1 rfl (Nat.le_of_ble_eq_true rfl) dX4_receive_91 ⟨Nat.zero_le _, Nat.zero_le _⟩ (fun H locs hG hS => ?_)
    exact mz_vret hx hb hr hlk qK_ok hK hS hG dX4_receive_94 (by rw [qs_rcv, ← hwe, qs_rcv1]; first | rw [if_pos s1] | rw [if_neg s1, if_pos s2] | rw [if_neg s1, if_neg s2, if_pos s3] | rw [if_neg s1, if_neg s2, if_neg s3, if_pos s4] | rw [if_neg s1, if_neg s2, if_neg s3, if_neg s4])
