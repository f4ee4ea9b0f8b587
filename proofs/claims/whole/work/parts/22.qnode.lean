set_option maxRecDepth 100000 in
set_option maxHeartbeats 4000000 in
theorem qc_enterTerm (l : Launch) (D : va_G) (L : qL) (hL : qL_ok L) (u : mz_S) (i : Nat) (hi : i < ql_n L) (t : Int32) : mz_Cv l (qG D L) (qK D L) (qA L) yX3_enterTerm (tz_w yX3_enterTerm cX3_enterTerm 2 none) ({ frames := 0, cells := 0, slots := 0, locals := 0 } : Room) [.ref (L.1 2 i), .int t] u (qs_enter u i t) := by
  refine mz_Cv.of (cc := cX3_enterTerm) (maxL := 2) (ret := none) (by decide) rfl (Nat.le_of_ble_eq_true rfl) ?_
  intro p e s m args below meth c ls hx hb hr hlk hml hown hts hl hG hK hS
  have hl : lv_has ls 2 [(0, .ref (L.1 2 i)), (1, .int t)] := hl
  have htz : ∀ w ∈ tz, w.before args s = true := fun w h => hts w (List.mem_cons_of_mem _ h)
  refine lv_aload_n hx hb dX3_enterTerm_0 rfl (lv_at hl 0 rfl) ?_
  refine lv_iload_n hx hb dX3_enterTerm_1 rfl (lv_at hl 1 rfl) ?_
  refine qp_2_3 hx hb htz tin_X3 hown hL hK hG hS hi (htz _ fX3_45) dX3_enterTerm_2 (fun H locs hG hS => ?_)
  refine lv_aload_n hx hb dX3_enterTerm_5 rfl (lv_at hl 0 rfl) ?_
  refine lv_iconst (v := 0) hx hb dX3_enterTerm_6 (by decide) ?_
  refine qp_2_2 hx hb htz tin_X3 hown hL hK hG hS hi (htz _ fX3_15) dX3_enterTerm_7 (fun H locs hG hS => ?_)
  refine lv_aload_n hx hb dX3_enterTerm_10 rfl (lv_at hl 0 rfl) ?_
  refine lv_iconst (v := (-1)) hx hb dX3_enterTerm_11 (by decide) ?_
  refine qp_2_4 hx hb htz tin_X3 hown hL hK hG hS hi (htz _ fX3_19) dX3_enterTerm_12 (fun H locs hG hS => ?_)
  exact mz_vret hx hb hr hlk qK_ok hK hS hG dX3_enterTerm_15 rfl

set_option maxRecDepth 100000 in
set_option maxHeartbeats 4000000 in
theorem qc_stand (l : Launch) (D : va_G) (L : qL) (hL : qL_ok L) (u : mz_S) (i : Nat) (hi : i < ql_n L) : mz_Cv l (qG D L) (qK D L) (qA L) yX3_stand (tz_w yX3_stand cX3_stand 2 none) ({ frames := 1, cells := 0, slots := 0, locals := 21 } : Room) [.ref (L.1 2 i)] u (qs_stand (ql_n L) u i) := by
  refine mz_Cv.of (cc := cX3_stand) (maxL := 2) (ret := none) (by decide) rfl (Nat.le_of_ble_eq_true rfl) ?_
  intro p e s m args below meth c ls hx hb hr hlk hml hown hts hl hG hK hS
  have hl : lv_has ls 2 [(0, .ref (L.1 2 i))] := hl
  have htz : ∀ w ∈ tz, w.before args s = true := fun w h => hts w (List.mem_cons_of_mem _ h)
  have hc12 : ql_c L ≤ 12 := hL.1.2.2.2.1
  have hn5 : ql_n L ≤ 5 := hL.1.2.1
  have h40 : ql_S L ≤ 40 := hL.1.2.2.2.2.2
  refine lv_aload_n hx hb dX3_stand_0 rfl (lv_at hl 0 rfl) ?_
  refine lv_aload_n hx hb dX3_stand_1 rfl (lv_at hl 0 rfl) ?_
  refine qg_2 (f := 3) hx hb htz tin_X3 hown hK hG hi (htz _ fX3_45) (by decide) rfl dX3_stand_2 ?_
  refine lv_iconst (v := 1) hx hb dX3_stand_5 (by decide) ?_
  refine lv_iadd hx hb dX3_stand_6 ?_
  refine mz_Vv (As := [.int _]) (rest := []) ⟨hx, hb, hml, hown, hts⟩ (qc_enterTerm l D L hL _ i hi _) (tz_V htz mX3_enterTerm lX3_48 rfl rfl ⟨Nat.le_of_ble_eq_true rfl, Nat.le_of_ble_eq_true rfl⟩) (qrecv_2 hK hG hi) qK_ok hK hG hS rfl hl.1 rfl (Nat.le_of_ble_eq_true rfl) dX3_stand_7 ⟨Nat.zero_le _, Nat.zero_le _⟩ (fun H locs hG hS => ?_)
  refine lv_aload_n hx hb dX3_stand_10 rfl (lv_at hl 0 rfl) ?_
  refine lv_iconst (v := 1) hx hb dX3_stand_11 (by decide) ?_
  refine qp_2_2 hx hb htz tin_X3 hown hL hK hG hS hi (htz _ fX3_15) dX3_stand_12 (fun H locs hG hS => ?_)
  refine lv_aload_n hx hb dX3_stand_15 rfl (lv_at hl 0 rfl) ?_
  refine lv_aload_n hx hb dX3_stand_16 rfl (lv_at hl 0 rfl) ?_
  refine qg_2 (f := 0) (v := .int (u 2 i 0)) hx hb htz tin_X3 hown hK hG hi (htz _ fX3_22) (by decide) (by simp [qf2, qs_enter, mz_at]) dX3_stand_17 ?_
  refine qp_2_4 hx hb htz tin_X3 hown hL hK hG hS hi (htz _ fX3_19) dX3_stand_20 (fun H locs hG hS => ?_)
  refine lv_iconst (v := 0) hx hb dX3_stand_23 (by decide) ?_
  refine lv_istore_n hx hb dX3_stand_24 rfl hl (by decide) rfl (fun ls hl => ?_)
  have hl : lv_has ls 2 [(1, .int _), (0, .ref _)] := hl
  obtain ⟨w, hw⟩ : ∃ w, w = mz_u (mz_u (qs_enter u i (u 2 i 3 + 1)) 2 i 2 1) 2 i 4 (u 2 i 0) := ⟨_, rfl⟩
  rw [← hw] at hG
  refine mz_loop (ql_n L) (P := fun j ls H locs => lv_has ls 2 [(1, .int (nI j)), (0, .ref (L.1 2 i))] ∧ qG D L (qs_sv w i j) H ∧ va_S (qA L) s.heap H locs ∧ j ≤ ql_n L) (fun _ _ _ _ h => h.2.2.2) ?_ 0 _ _ _ ⟨hl, hG, hS, Nat.zero_le _⟩
  intro j ls H locs ⟨hl, hG, hS, hj⟩ ih
  refine lv_iload_n hx hb dX3_stand_25 rfl (lv_at hl 0 rfl) ?_
  refine lv_aload_n hx hb dX3_stand_26 rfl (lv_at hl 1 rfl) ?_
  refine qg_2 (f := 7) hx hb htz tin_X3 hown hK hG hi (htz _ fX3_34) (by decide) rfl dX3_stand_27 ?_
  refine qz_6 hx hb hK hG hi dX3_stand_30 ?_
  refine mz_icmp_ge hx hb dX3_stand_31 (tgt := 59) rfl (fun h0 h0' => ?_) (fun h0 h0' => ?_)
  · rw [nI_leI (by omega) (by omega)] at h0'
    exact mz_vret hx hb hr hlk qK_ok hK hS hG dX3_stand_59 (by unfold qs_stand; rw [← hw, show ql_n L = j by omega])
  · rw [nI_ltI (by omega) (by omega)] at h0
    refine lv_aload_n hx hb dX3_stand_34 rfl (lv_at hl 1 rfl) ?_
    refine qg_2 (f := 7) hx hb htz tin_X3 hown hK hG hi (htz _ fX3_34) (by decide) rfl dX3_stand_35 ?_
    refine lv_iload_n hx hb dX3_stand_38 rfl (lv_at hl 0 rfl) ?_
    refine lv_iload_n hx hb dX3_stand_39 rfl (lv_at hl 0 rfl) ?_
    refine lv_aload_n hx hb dX3_stand_40 rfl (lv_at hl 1 rfl) ?_
    refine qg_2 (f := 0) (v := .int (w 2 i 0)) hx hb htz tin_X3 hown hK hG hi (htz _ fX3_22) (by decide) (by simp [qf2, qs_sv_o]) dX3_stand_41 ?_
    refine lv_icmp_ne hx hb dX3_stand_44 (tgt := 51) rfl (fun h1 => ?_) (fun h1 => ?_)
    · refine lv_iconst (v := 0) hx hb dX3_stand_51 (by decide) ?_
      refine qt_6 hx hb hL hK hG hS hi (vp_in_nI (by omega) (by omega)) (by decide) dX3_stand_52 (fun H locs hG hS => ?_)
      rw [nI_clamp (by omega)] at hG
      refine lv_iinc (k := 0) hx hb dX3_stand_53 hl rfl (nI_1 j) (by decide) rfl (fun ls hl => ?_)
      have hl : lv_has ls 2 [(1, .int _), (0, .ref _)] := hl
      refine lv_goto hx hb dX3_stand_56 (tgt := 25) rfl ?_
      exact ih (by omega) _ _ _ ⟨hl, by first | (rw [qs_sv, mz_b_t h1]; exact hG) | (rw [qs_sv, mz_b_f h1]; exact hG), hS, by omega⟩
    · refine lv_iconst (v := 1) hx hb dX3_stand_47 (by decide) ?_
      refine lv_goto hx hb dX3_stand_48 (tgt := 52) rfl ?_
      refine qt_6 hx hb hL hK hG hS hi (vp_in_nI (by omega) (by omega)) (by decide) dX3_stand_52 (fun H locs hG hS => ?_)
      rw [nI_clamp (by omega)] at hG
      refine lv_iinc (k := 0) hx hb dX3_stand_53 hl rfl (nI_1 j) (by decide) rfl (fun ls hl => ?_)
      have hl : lv_has ls 2 [(1, .int _), (0, .ref _)] := hl
      refine lv_goto hx hb dX3_stand_56 (tgt := 25) rfl ?_
      exact ih (by omega) _ _ _ ⟨hl, by first | (rw [qs_sv, mz_b_t h1]; exact hG) | (rw [qs_sv, mz_b_f h1]; exact hG), hS, by omega⟩

set_option maxRecDepth 100000 in
set_option maxHeartbeats 4000000 in
theorem qc_lead (l : Launch) (D : va_G) (L : qL) (hL : qL_ok L) (u : mz_S) (i : Nat) (hi : i < ql_n L) : mz_Cv l (qG D L) (qK D L) (qA L) yX3_lead (tz_w yX3_lead cX3_lead 2 none) ({ frames := 1, cells := 0, slots := 0, locals := 20 } : Room) [.ref (L.1 2 i)] u (qs_lead (ql_n L) u i) := by
  refine mz_Cv.of (cc := cX3_lead) (maxL := 2) (ret := none) (by decide) rfl (Nat.le_of_ble_eq_true rfl) ?_
  intro p e s m args below meth c ls hx hb hr hlk hml hown hts hl hG hK hS
  have hl : lv_has ls 2 [(0, .ref (L.1 2 i))] := hl
  have htz : ∀ w ∈ tz, w.before args s = true := fun w h => hts w (List.mem_cons_of_mem _ h)
  have hc12 : ql_c L ≤ 12 := hL.1.2.2.2.1
  have hn5 : ql_n L ≤ 5 := hL.1.2.1
  have h40 : ql_S L ≤ 40 := hL.1.2.2.2.2.2
  refine lv_aload_n hx hb dX3_lead_0 rfl (lv_at hl 0 rfl) ?_
  refine lv_iconst (v := 2) hx hb dX3_lead_1 (by decide) ?_
  refine qp_2_2 hx hb htz tin_X3 hown hL hK hG hS hi (htz _ fX3_15) dX3_lead_2 (fun H locs hG hS => ?_)
  refine lv_iconst (v := 0) hx hb dX3_lead_5 (by decide) ?_
  refine lv_istore_n hx hb dX3_lead_6 rfl hl (by decide) rfl (fun ls hl => ?_)
  have hl : lv_has ls 2 [(1, .int _), (0, .ref _)] := hl
  obtain ⟨w, hw⟩ : ∃ w, w = mz_u u 2 i 2 2 := ⟨_, rfl⟩
  rw [← hw] at hG
  refine mz_loop (ql_n L) (P := fun j ls H locs => lv_has ls 2 [(1, .int (nI j)), (0, .ref (L.1 2 i))] ∧ qG D L (qs_lv w i j) H ∧ va_S (qA L) s.heap H locs ∧ j ≤ ql_n L) (fun _ _ _ _ h => h.2.2.2) ?_ 0 _ _ _ ⟨hl, hG, hS, Nat.zero_le _⟩
  intro j ls H locs ⟨hl, hG, hS, hj⟩ ih
  refine lv_iload_n hx hb dX3_lead_7 rfl (lv_at hl 0 rfl) ?_
  refine lv_aload_n hx hb dX3_lead_8 rfl (lv_at hl 1 rfl) ?_
  refine qg_2 (f := 8) hx hb htz tin_X3 hown hK hG hi (htz _ fX3_38) (by decide) rfl dX3_lead_9 ?_
  refine qz_7 hx hb hK hG hi dX3_lead_12 ?_
  refine mz_icmp_ge hx hb dX3_lead_13 (tgt := 44) rfl (fun h0 h0' => ?_) (fun h0 h0' => ?_)
  · rw [nI_leI (by omega) (by omega)] at h0'
    exact mz_vret hx hb hr hlk qK_ok hK hS hG dX3_lead_44 (by unfold qs_lead; rw [← hw, show ql_n L = j by omega])
  · rw [nI_ltI (by omega) (by omega)] at h0
    refine lv_aload_n hx hb dX3_lead_16 rfl (lv_at hl 1 rfl) ?_
    refine qg_2 (f := 8) hx hb htz tin_X3 hown hK hG hi (htz _ fX3_38) (by decide) rfl dX3_lead_17 ?_
    refine lv_iload_n hx hb dX3_lead_20 rfl (lv_at hl 0 rfl) ?_
    refine lv_aload_n hx hb dX3_lead_21 rfl (lv_at hl 1 rfl) ?_
    refine qg_2 (f := 6) hx hb htz tin_X3 hown hK hG hi (htz _ fX3_30) (by decide) rfl dX3_lead_22 ?_
    refine mz_Ni (As := []) (rest := [.int _, .ref _]) ⟨hx, hb, hml, hown, hts⟩ (qc_lastNumber l D L hL _ i hi) (tz_N htz mX0_lastNumber (hK.2 _ nX3_51) rfl rfl ⟨Nat.le_of_ble_eq_true rfl, Nat.le_of_ble_eq_true rfl⟩) (qrecv_3 hK hG hi) qK_ok hK hG hS rfl hl.1 rfl (Nat.le_of_ble_eq_true rfl) dX3_lead_25 ⟨Nat.zero_le _, Nat.zero_le _⟩ (fun H locs hG hS => ?_)
    rw [show qs_last (qs_lv w i j) i = qs_last w i from by simp [qs_last, qs_lv_o]]
    refine lv_iconst (v := 1) hx hb dX3_lead_28 (by decide) ?_
    refine lv_iadd hx hb dX3_lead_29 ?_
    refine qt_7 hx hb hL hK hG hS hi (vp_in_nI (by omega) (by omega)) dX3_lead_30 (fun H locs hG hS => ?_)
    rw [nI_clamp (by omega)] at hG
    refine lv_aload_n hx hb dX3_lead_31 rfl (lv_at hl 1 rfl) ?_
    refine qg_2 (f := 9) hx hb htz tin_X3 hown hK hG hi (htz _ fX3_42) (by decide) rfl dX3_lead_32 ?_
    refine lv_iload_n hx hb dX3_lead_35 rfl (lv_at hl 0 rfl) ?_
    refine lv_iconst (v := 0) hx hb dX3_lead_36 (by decide) ?_
    refine qt_8 hx hb hL hK hG hS hi (vp_in_nI (by omega) (by omega)) dX3_lead_37 (fun H locs hG hS => ?_)
    rw [nI_clamp (by omega)] at hG
    refine lv_iinc (k := 0) hx hb dX3_lead_38 hl rfl (nI_1 j) (by decide) rfl (fun ls hl => ?_)
    have hl : lv_has ls 2 [(1, .int _), (0, .ref _)] := hl
    refine lv_goto hx hb dX3_lead_41 (tgt := 7) rfl ?_
    exact ih (by omega) _ _ _ ⟨hl, hG, hS, by omega⟩

set_option maxRecDepth 100000 in
set_option maxHeartbeats 4000000 in
theorem qc_takeEntry (l : Launch) (D : va_G) (L : qL) (hL : qL_ok L) (u : mz_S) (i : Nat) (hi : i < ql_n L) (k t x : Int32) (hw : qw (ql_c L) u i) : mz_Cv l (qG D L) (qK D L) (qA L) yX3_takeEntry (tz_w yX3_takeEntry cX3_takeEntry 4 none) ({ frames := 2, cells := 0, slots := 0, locals := 42 } : Room) [.ref (L.1 2 i), .int k, .int t, .int x] u (qs_take (ql_c L) u i k t x) := by
  refine mz_Cv.of (cc := cX3_takeEntry) (maxL := 4) (ret := none) (by decide) rfl (Nat.le_of_ble_eq_true rfl) ?_
  intro p e s m args below meth c ls hx hb hr hlk hml hown hts hl hG hK hS
  have hl : lv_has ls 4 [(0, .ref (L.1 2 i)), (1, .int k), (2, .int t), (3, .int x)] := hl
  have htz : ∀ w ∈ tz, w.before args s = true := fun w h => hts w (List.mem_cons_of_mem _ h)
  have hc12 : ql_c L ≤ 12 := hL.1.2.2.2.1
  have hn5 : ql_n L ≤ 5 := hL.1.2.1
  have h40 : ql_S L ≤ 40 := hL.1.2.2.2.2.2
  refine lv_aload_n hx hb dX3_takeEntry_0 rfl (lv_at hl 0 rfl) ?_
  refine qg_2 (f := 6) hx hb htz tin_X3 hown hK hG hi (htz _ fX3_30) (by decide) rfl dX3_takeEntry_1 ?_
  refine lv_iload_n hx hb dX3_takeEntry_4 rfl (lv_at hl 1 rfl) ?_
  refine mz_Ni (As := [.int _]) (rest := []) ⟨hx, hb, hml, hown, hts⟩ (qc_hasEntry l D L hL _ i hi _) (tz_N htz mX0_hasEntry (hK.2 _ nX3_55) rfl rfl ⟨Nat.le_of_ble_eq_true rfl, Nat.le_of_ble_eq_true rfl⟩) (qrecv_3 hK hG hi) qK_ok hK hG hS rfl hl.1 rfl (Nat.le_of_ble_eq_true rfl) dX3_takeEntry_5 ⟨Nat.zero_le _, Nat.zero_le _⟩ (fun H locs hG hS => ?_)
  refine mz_ifeq_b hx hb dX3_takeEntry_8 (tgt := 49) rfl (fun h0 => ?_) (fun h0 => ?_)
  · obtain ⟨w, hw9, hG, hw2⟩ : ∃ w, w = qs_take1 u i k t ∧ qG D L w H ∧ qw (ql_c L) w i := by
      first
        | exact ⟨_, (by rw [qs_take1, if_neg (fun z => h0 z.1)]), hG, hw⟩
        | exact ⟨_, (by rw [qs_take1, if_neg (fun z => z.2 h1)]), hG, hw⟩
        | exact ⟨_, (by rw [qs_take1, if_pos ⟨h0, h1⟩]), hG, (hw.cut hc12 k).same (by simp [qs_cutc, mz_at]) (by simp [qs_cutc, mz_at])⟩
    refine lv_aload_n hx hb dX3_takeEntry_49 rfl (lv_at hl 0 rfl) ?_
    refine qg_2 (f := 6) hx hb htz tin_X3 hown hK hG hi (htz _ fX3_30) (by decide) rfl dX3_takeEntry_50 ?_
    refine lv_iload_n hx hb dX3_takeEntry_53 rfl (lv_at hl 1 rfl) ?_
    refine mz_Ni (As := [.int _]) (rest := []) ⟨hx, hb, hml, hown, hts⟩ (qc_hasEntry l D L hL _ i hi _) (tz_N htz mX0_hasEntry (hK.2 _ nX3_55) rfl rfl ⟨Nat.le_of_ble_eq_true rfl, Nat.le_of_ble_eq_true rfl⟩) (qrecv_3 hK hG hi) qK_ok hK hG hS rfl hl.1 rfl (Nat.le_of_ble_eq_true rfl) dX3_takeEntry_54 ⟨Nat.zero_le _, Nat.zero_le _⟩ (fun H locs hG hS => ?_)
    refine mz_ifne_b hx hb dX3_takeEntry_57 (tgt := 69) rfl (fun h2 => ?_) (fun h2 => ?_)
    · exact mz_vret hx hb hr hlk qK_ok hK hS hG dX3_takeEntry_69 (by rw [qs_take, ← hw9]; first | rw [if_pos h2] | rw [if_neg h2])
    · refine lv_aload_n hx hb dX3_takeEntry_60 rfl (lv_at hl 0 rfl) ?_
      refine qg_2 (f := 6) hx hb htz tin_X3 hown hK hG hi (htz _ fX3_30) (by decide) rfl dX3_takeEntry_61 ?_
      refine lv_iload_n hx hb dX3_takeEntry_64 rfl (lv_at hl 2 rfl) ?_
      refine lv_iload_n hx hb dX3_takeEntry_65 rfl (lv_at hl 3 rfl) ?_
      refine mz_Nv (As := [.int _, .int _]) (rest := []) ⟨hx, hb, hml, hown, hts⟩ (qc_add l D L hL _ i hi _ _ hw2) (tz_N htz mX0_add (hK.2 _ nX3_75) rfl rfl ⟨Nat.le_of_ble_eq_true rfl, Nat.le_of_ble_eq_true rfl⟩) (qrecv_3 hK hG hi) qK_ok hK hG hS rfl hl.1 rfl (Nat.le_of_ble_eq_true rfl) dX3_takeEntry_66 ⟨Nat.zero_le _, Nat.zero_le _⟩ (fun H locs hG hS => ?_)
      exact mz_vret hx hb hr hlk qK_ok hK hS hG dX3_takeEntry_69 (by rw [qs_take, ← hw9]; first | rw [if_pos h2] | rw [if_neg h2])
  · refine lv_aload_n hx hb dX3_takeEntry_11 rfl (lv_at hl 0 rfl) ?_
    refine qg_2 (f := 6) hx hb htz tin_X3 hown hK hG hi (htz _ fX3_30) (by decide) rfl dX3_takeEntry_12 ?_
    refine lv_iload_n hx hb dX3_takeEntry_15 rfl (lv_at hl 1 rfl) ?_
    refine mz_Ni (As := [.int _]) (rest := []) ⟨hx, hb, hml, hown, hts⟩ (qc_termOf l D L hL _ i hi _ hw) (tz_N htz mX0_termOf (hK.2 _ nX3_59) rfl rfl ⟨Nat.le_of_ble_eq_true rfl, Nat.le_of_ble_eq_true rfl⟩) (qrecv_3 hK hG hi) qK_ok hK hG hS rfl hl.1 rfl (Nat.le_of_ble_eq_true rfl) dX3_takeEntry_16 ⟨Nat.zero_le _, Nat.zero_le _⟩ (fun H locs hG hS => ?_)
    refine lv_iload_n hx hb dX3_takeEntry_19 rfl (lv_at hl 2 rfl) ?_
    refine lv_icmp_eq hx hb dX3_takeEntry_20 (tgt := 49) rfl (fun h1 => ?_) (fun h1 => ?_)
    · obtain ⟨w, hw9, hG, hw2⟩ : ∃ w, w = qs_take1 u i k t ∧ qG D L w H ∧ qw (ql_c L) w i := by
        first
          | exact ⟨_, (by rw [qs_take1, if_neg (fun z => h0 z.1)]), hG, hw⟩
          | exact ⟨_, (by rw [qs_take1, if_neg (fun z => z.2 h1)]), hG, hw⟩
          | exact ⟨_, (by rw [qs_take1, if_pos ⟨h0, h1⟩]), hG, (hw.cut hc12 k).same (by simp [qs_cutc, mz_at]) (by simp [qs_cutc, mz_at])⟩
      refine lv_aload_n hx hb dX3_takeEntry_49 rfl (lv_at hl 0 rfl) ?_
      refine qg_2 (f := 6) hx hb htz tin_X3 hown hK hG hi (htz _ fX3_30) (by decide) rfl dX3_takeEntry_50 ?_
      refine lv_iload_n hx hb dX3_takeEntry_53 rfl (lv_at hl 1 rfl) ?_
      refine mz_Ni (As := [.int _]) (rest := []) ⟨hx, hb, hml, hown, hts⟩ (qc_hasEntry l D L hL _ i hi _) (tz_N htz mX0_hasEntry (hK.2 _ nX3_55) rfl rfl ⟨Nat.le_of_ble_eq_true rfl, Nat.le_of_ble_eq_true rfl⟩) (qrecv_3 hK hG hi) qK_ok hK hG hS rfl hl.1 rfl (Nat.le_of_ble_eq_true rfl) dX3_takeEntry_54 ⟨Nat.zero_le _, Nat.zero_le _⟩ (fun H locs hG hS => ?_)
      refine mz_ifne_b hx hb dX3_takeEntry_57 (tgt := 69) rfl (fun h2 => ?_) (fun h2 => ?_)
      · exact mz_vret hx hb hr hlk qK_ok hK hS hG dX3_takeEntry_69 (by rw [qs_take, ← hw9]; first | rw [if_pos h2] | rw [if_neg h2])
      · refine lv_aload_n hx hb dX3_takeEntry_60 rfl (lv_at hl 0 rfl) ?_
        refine qg_2 (f := 6) hx hb htz tin_X3 hown hK hG hi (htz _ fX3_30) (by decide) rfl dX3_takeEntry_61 ?_
        refine lv_iload_n hx hb dX3_takeEntry_64 rfl (lv_at hl 2 rfl) ?_
        refine lv_iload_n hx hb dX3_takeEntry_65 rfl (lv_at hl 3 rfl) ?_
        refine mz_Nv (As := [.int _, .int _]) (rest := []) ⟨hx, hb, hml, hown, hts⟩ (qc_add l D L hL _ i hi _ _ hw2) (tz_N htz mX0_add (hK.2 _ nX3_75) rfl rfl ⟨Nat.le_of_ble_eq_true rfl, Nat.le_of_ble_eq_true rfl⟩) (qrecv_3 hK hG hi) qK_ok hK hG hS rfl hl.1 rfl (Nat.le_of_ble_eq_true rfl) dX3_takeEntry_66 ⟨Nat.zero_le _, Nat.zero_le _⟩ (fun H locs hG hS => ?_)
        exact mz_vret hx hb hr hlk qK_ok hK hS hG dX3_takeEntry_69 (by rw [qs_take, ← hw9]; first | rw [if_pos h2] | rw [if_neg h2])
    · refine lv_aload_n hx hb dX3_takeEntry_23 rfl (lv_at hl 0 rfl) ?_
      refine qg_2 (f := 6) hx hb htz tin_X3 hown hK hG hi (htz _ fX3_30) (by decide) rfl dX3_takeEntry_24 ?_
      refine lv_iload_n hx hb dX3_takeEntry_27 rfl (lv_at hl 1 rfl) ?_
      refine mz_Nv (As := [.int _]) (rest := []) ⟨hx, hb, hml, hown, hts⟩ (qc_cutFrom l D L hL _ i hi _) (tz_N htz mX0_cutFrom (hK.2 _ nX3_63) rfl rfl ⟨Nat.le_of_ble_eq_true rfl, Nat.le_of_ble_eq_true rfl⟩) (qrecv_3 hK hG hi) qK_ok hK hG hS rfl hl.1 rfl (Nat.le_of_ble_eq_true rfl) dX3_takeEntry_28 ⟨Nat.zero_le _, Nat.zero_le _⟩ (fun H locs hG hS => ?_)
      refine lv_aload_n hx hb dX3_takeEntry_31 rfl (lv_at hl 0 rfl) ?_
      refine lv_aload_n hx hb dX3_takeEntry_32 rfl (lv_at hl 0 rfl) ?_
      refine qg_2 (f := 5) (v := .int (u 2 i 5)) hx hb htz tin_X3 hown hK hG hi (htz _ fX3_66) (by decide) (by simp [qf2, qs_cut_o]) dX3_takeEntry_33 ?_
      refine lv_aload_n hx hb dX3_takeEntry_36 rfl (lv_at hl 0 rfl) ?_
      refine qg_2 (f := 6) hx hb htz tin_X3 hown hK hG hi (htz _ fX3_30) (by decide) rfl dX3_takeEntry_37 ?_
      refine mz_Ni (As := []) (rest := [.int _, .ref _]) ⟨hx, hb, hml, hown, hts⟩ (qc_lastNumber l D L hL _ i hi) (tz_N htz mX0_lastNumber (hK.2 _ nX3_51) rfl rfl ⟨Nat.le_of_ble_eq_true rfl, Nat.le_of_ble_eq_true rfl⟩) (qrecv_3 hK hG hi) qK_ok hK hG hS rfl hl.1 rfl (Nat.le_of_ble_eq_true rfl) dX3_takeEntry_40 ⟨Nat.zero_le _, Nat.zero_le _⟩ (fun H locs hG hS => ?_)
      refine va_mmin hx hb (hml.trans hl.1.symm) hown (htz _ lX3_69) (htz _ min_stat) (htz _ ini_Math) (htz _ min_code) (Nat.le_of_ble_eq_true rfl) (Nat.le_of_ble_eq_true rfl) (Nat.le_of_ble_eq_true rfl) (Nat.le_of_ble_eq_true rfl) dX3_takeEntry_43 ?_
      refine qp_2_5 hx hb htz tin_X3 hown hL hK hG hS hi (htz _ fX3_66) dX3_takeEntry_46 (fun H locs hG hS => ?_)
      have hG : qG D L (qs_cutc u i k) H := hG
      obtain ⟨w, hw9, hG, hw2⟩ : ∃ w, w = qs_take1 u i k t ∧ qG D L w H ∧ qw (ql_c L) w i := by
        first
          | exact ⟨_, (by rw [qs_take1, if_neg (fun z => h0 z.1)]), hG, hw⟩
          | exact ⟨_, (by rw [qs_take1, if_neg (fun z => z.2 h1)]), hG, hw⟩
          | exact ⟨_, (by rw [qs_take1, if_pos ⟨h0, h1⟩]), hG, (hw.cut hc12 k).same (by simp [qs_cutc, mz_at]) (by simp [qs_cutc, mz_at])⟩
      refine lv_aload_n hx hb dX3_takeEntry_49 rfl (lv_at hl 0 rfl) ?_
      refine qg_2 (f := 6) hx hb htz tin_X3 hown hK hG hi (htz _ fX3_30) (by decide) rfl dX3_takeEntry_50 ?_
      refine lv_iload_n hx hb dX3_takeEntry_53 rfl (lv_at hl 1 rfl) ?_
      refine mz_Ni (As := [.int _]) (rest := []) ⟨hx, hb, hml, hown, hts⟩ (qc_hasEntry l D L hL _ i hi _) (tz_N htz mX0_hasEntry (hK.2 _ nX3_55) rfl rfl ⟨Nat.le_of_ble_eq_true rfl, Nat.le_of_ble_eq_true rfl⟩) (qrecv_3 hK hG hi) qK_ok hK hG hS rfl hl.1 rfl (Nat.le_of_ble_eq_true rfl) dX3_takeEntry_54 ⟨Nat.zero_le _, Nat.zero_le _⟩ (fun H locs hG hS => ?_)
      refine mz_ifne_b hx hb dX3_takeEntry_57 (tgt := 69) rfl (fun h2 => ?_) (fun h2 => ?_)
      · exact mz_vret hx hb hr hlk qK_ok hK hS hG dX3_takeEntry_69 (by rw [qs_take, ← hw9]; first | rw [if_pos h2] | rw [if_neg h2])
      · refine lv_aload_n hx hb dX3_takeEntry_60 rfl (lv_at hl 0 rfl) ?_
        refine qg_2 (f := 6) hx hb htz tin_X3 hown hK hG hi (htz _ fX3_30) (by decide) rfl dX3_takeEntry_61 ?_
        refine lv_iload_n hx hb dX3_takeEntry_64 rfl (lv_at hl 2 rfl) ?_
        refine lv_iload_n hx hb dX3_takeEntry_65 rfl (lv_at hl 3 rfl) ?_
        refine mz_Nv (As := [.int _, .int _]) (rest := []) ⟨hx, hb, hml, hown, hts⟩ (qc_add l D L hL _ i hi _ _ hw2) (tz_N htz mX0_add (hK.2 _ nX3_75) rfl rfl ⟨Nat.le_of_ble_eq_true rfl, Nat.le_of_ble_eq_true rfl⟩) (qrecv_3 hK hG hi) qK_ok hK hG hS rfl hl.1 rfl (Nat.le_of_ble_eq_true rfl) dX3_takeEntry_66 ⟨Nat.zero_le _, Nat.zero_le _⟩ (fun H locs hG hS => ?_)
        exact mz_vret hx hb hr hlk qK_ok hK hS hG dX3_takeEntry_69 (by rw [qs_take, ← hw9]; first | rw [if_pos h2] | rw [if_neg h2])

set_option maxRecDepth 100000 in
set_option maxHeartbeats 4000000 in
theorem qc_countVoters (l : Launch) (D : va_G) (L : qL) (hL : qL_ok L) (u : mz_S) (i : Nat) (hi : i < ql_n L) : mz_Ci l (qG D L) (qK D L) (qA L) yX3_countVoters (tz_w yX3_countVoters cX3_countVoters 3 (some .int)) ({ frames := 0, cells := 0, slots := 0, locals := 0 } : Room) [.ref (L.1 2 i)] u (qs_cv u i (ql_n L)) (u) := by
  refine mz_Ci.of (cc := cX3_countVoters) (maxL := 3) (ret := (some .int)) (by decide) rfl (Nat.le_of_ble_eq_true rfl) ?_
  intro p e s m args below meth c ls hx hb hr hlk hml hown hts hl hG hK hS
  have hl : lv_has ls 3 [(0, .ref (L.1 2 i))] := hl
  have htz : ∀ w ∈ tz, w.before args s = true := fun w h => hts w (List.mem_cons_of_mem _ h)
  have hc12 : ql_c L ≤ 12 := hL.1.2.2.2.1
  have hn5 : ql_n L ≤ 5 := hL.1.2.1
  have h40 : ql_S L ≤ 40 := hL.1.2.2.2.2.2
  refine lv_iconst (v := 0) hx hb dX3_countVoters_0 (by decide) ?_
  refine lv_istore_n hx hb dX3_countVoters_1 rfl hl (by decide) rfl (fun ls hl => ?_)
  have hl : lv_has ls 3 [(1, .int _), (0, .ref _)] := hl
  refine lv_iconst (v := 0) hx hb dX3_countVoters_2 (by decide) ?_
  refine lv_istore_n hx hb dX3_countVoters_3 rfl hl (by decide) rfl (fun ls hl => ?_)
  have hl : lv_has ls 3 [(2, .int _), (1, .int _), (0, .ref _)] := hl
  refine mz_loop (ql_n L) (P := fun j ls H locs => lv_has ls 3 [(2, .int (nI j)), (1, .int (qs_cv u i j)), (0, .ref (L.1 2 i))] ∧ qG D L u H ∧ va_S (qA L) s.heap H locs ∧ j ≤ ql_n L) (fun _ _ _ _ h => h.2.2.2) ?_ 0 _ _ _ ⟨hl, hG, hS, Nat.zero_le _⟩
  intro j ls H locs ⟨hl, hG, hS, hj⟩ ih
  refine lv_iload_n hx hb dX3_countVoters_4 rfl (lv_at hl 0 rfl) ?_
  refine lv_aload_n hx hb dX3_countVoters_5 rfl (lv_at hl 2 rfl) ?_
  refine qg_2 (f := 7) hx hb htz tin_X3 hown hK hG hi (htz _ fX3_34) (by decide) rfl dX3_countVoters_6 ?_
  refine qz_6 hx hb hK hG hi dX3_countVoters_9 ?_
  refine mz_icmp_ge hx hb dX3_countVoters_10 (tgt := 31) rfl (fun h0 h0' => ?_) (fun h0 h0' => ?_)
  · rw [nI_leI (by omega) (by omega)] at h0'
    refine lv_iload_n hx hb dX3_countVoters_31 rfl (lv_at hl 1 rfl) ?_
    exact mz_iret hx hb hr hlk qK_ok hK hS hG dX3_countVoters_32 (by rw [show ql_n L = j by omega]) rfl
  · rw [nI_ltI (by omega) (by omega)] at h0
    refine lv_aload_n hx hb dX3_countVoters_13 rfl (lv_at hl 2 rfl) ?_
    refine qg_2 (f := 7) hx hb htz tin_X3 hown hK hG hi (htz _ fX3_34) (by decide) rfl dX3_countVoters_14 ?_
    refine lv_iload_n hx hb dX3_countVoters_17 rfl (lv_at hl 0 rfl) ?_
    refine qa_6 hx hb hK hG hi (vp_in_nI (by omega) (by omega)) dX3_countVoters_18 ?_
    rw [nI_clamp (by omega)]
    refine lv_if_eq hx hb dX3_countVoters_19 (tgt := 25) rfl (fun h1 => ?_) (fun h1 => ?_)
    · refine lv_iinc (k := 0) hx hb dX3_countVoters_25 hl rfl (nI_1 j) (by decide) rfl (fun ls hl => ?_)
      have hl : lv_has ls 3 [(2, .int _), (1, .int _), (0, .ref _)] := hl
      refine lv_goto hx hb dX3_countVoters_28 (tgt := 4) rfl ?_
      exact ih (by omega) _ _ _ ⟨by first | (rw [qs_cv_s, if_pos h1]; exact hl) | (rw [qs_cv_s, if_neg h1]; exact hl), hG, hS, by omega⟩
    · refine lv_iinc (k := 1) hx hb dX3_countVoters_22 hl rfl (show _ = qs_cv u i j + 1 from rfl) (by decide) rfl (fun ls hl => ?_)
      have hl : lv_has ls 3 [(1, .int _), (2, .int _), (0, .ref _)] := hl
      refine lv_iinc (k := 1) hx hb dX3_countVoters_25 hl rfl (nI_1 j) (by decide) rfl (fun ls hl => ?_)
      have hl : lv_has ls 3 [(2, .int _), (1, .int _), (0, .ref _)] := hl
      refine lv_goto hx hb dX3_countVoters_28 (tgt := 4) rfl ?_
      exact ih (by omega) _ _ _ ⟨by first | (rw [qs_cv_s, if_pos h1]; exact hl) | (rw [qs_cv_s, if_neg h1]; exact hl), hG, hS, by omega⟩

set_option maxRecDepth 100000 in
set_option maxHeartbeats 4000000 in
theorem qc_countHolders (l : Launch) (D : va_G) (L : qL) (hL : qL_ok L) (u : mz_S) (i : Nat) (hi : i < ql_n L) (x : Int32) : mz_Ci l (qG D L) (qK D L) (qA L) yX3_countHolders (tz_w yX3_countHolders cX3_countHolders 4 (some .int)) ({ frames := 0, cells := 0, slots := 0, locals := 0 } : Room) [.ref (L.1 2 i), .int x] u (qs_ch u i x (ql_n L)) (u) := by
  refine mz_Ci.of (cc := cX3_countHolders) (maxL := 4) (ret := (some .int)) (by decide) rfl (Nat.le_of_ble_eq_true rfl) ?_
  intro p e s m args below meth c ls hx hb hr hlk hml hown hts hl hG hK hS
  have hl : lv_has ls 4 [(0, .ref (L.1 2 i)), (1, .int x)] := hl
  have htz : ∀ w ∈ tz, w.before args s = true := fun w h => hts w (List.mem_cons_of_mem _ h)
  have hc12 : ql_c L ≤ 12 := hL.1.2.2.2.1
  have hn5 : ql_n L ≤ 5 := hL.1.2.1
  have h40 : ql_S L ≤ 40 := hL.1.2.2.2.2.2
  refine lv_iconst (v := 0) hx hb dX3_countHolders_0 (by decide) ?_
  refine lv_istore_n hx hb dX3_countHolders_1 rfl hl (by decide) rfl (fun ls hl => ?_)
  have hl : lv_has ls 4 [(2, .int _), (0, .ref _), (1, .int _)] := hl
  refine lv_iconst (v := 0) hx hb dX3_countHolders_2 (by decide) ?_
  refine lv_istore_n hx hb dX3_countHolders_3 rfl hl (by decide) rfl (fun ls hl => ?_)
  have hl : lv_has ls 4 [(3, .int _), (2, .int _), (0, .ref _), (1, .int _)] := hl
  refine mz_loop (ql_n L) (P := fun j ls H locs => lv_has ls 4 [(3, .int (nI j)), (2, .int (qs_ch u i x j)), (0, .ref (L.1 2 i)), (1, .int x)] ∧ qG D L u H ∧ va_S (qA L) s.heap H locs ∧ j ≤ ql_n L) (fun _ _ _ _ h => h.2.2.2) ?_ 0 _ _ _ ⟨hl, hG, hS, Nat.zero_le _⟩
  intro j ls H locs ⟨hl, hG, hS, hj⟩ ih
  refine lv_iload_n hx hb dX3_countHolders_4 rfl (lv_at hl 0 rfl) ?_
  refine lv_aload_n hx hb dX3_countHolders_5 rfl (lv_at hl 2 rfl) ?_
  refine qg_2 (f := 9) hx hb htz tin_X3 hown hK hG hi (htz _ fX3_42) (by decide) rfl dX3_countHolders_6 ?_
  refine qz_8 hx hb hK hG hi dX3_countHolders_9 ?_
  refine mz_icmp_ge hx hb dX3_countHolders_10 (tgt := 40) rfl (fun h0 h0' => ?_) (fun h0 h0' => ?_)
  · rw [nI_leI (by omega) (by omega)] at h0'
    refine lv_iload_n hx hb dX3_countHolders_40 rfl (lv_at hl 1 rfl) ?_
    exact mz_iret hx hb hr hlk qK_ok hK hS hG dX3_countHolders_41 (by rw [show ql_n L = j by omega]) rfl
  · rw [nI_ltI (by omega) (by omega)] at h0
    refine lv_iload_n hx hb dX3_countHolders_13 rfl (lv_at hl 0 rfl) ?_
    refine lv_aload_n hx hb dX3_countHolders_14 rfl (lv_at hl 2 rfl) ?_
    refine qg_2 (f := 0) hx hb htz tin_X3 hown hK hG hi (htz _ fX3_22) (by decide) rfl dX3_countHolders_15 ?_
    refine lv_icmp_eq hx hb dX3_countHolders_18 (tgt := 31) rfl (fun h1 => ?_) (fun h1 => ?_)
    · refine lv_iinc (k := 1) hx hb dX3_countHolders_31 hl rfl (show _ = qs_ch u i x j + 1 from rfl) (by decide) rfl (fun ls hl => ?_)
      have hl : lv_has ls 4 [(2, .int _), (3, .int _), (0, .ref _), (1, .int _)] := hl
      refine lv_iinc (k := 1) hx hb dX3_countHolders_34 hl rfl (nI_1 j) (by decide) rfl (fun ls hl => ?_)
      have hl : lv_has ls 4 [(3, .int _), (2, .int _), (0, .ref _), (1, .int _)] := hl
      refine lv_goto hx hb dX3_countHolders_37 (tgt := 4) rfl ?_
      exact ih (by omega) _ _ _ ⟨by first | (rw [qs_ch_s, if_pos (Or.inl h1)]; exact hl) | (rw [qs_ch_s, if_pos (Or.inr h2')]; exact hl) | (rw [qs_ch_s, if_neg (fun z => z.elim h1 h2')]; exact hl), hG, hS, by omega⟩
    · refine lv_aload_n hx hb dX3_countHolders_21 rfl (lv_at hl 2 rfl) ?_
      refine qg_2 (f := 9) hx hb htz tin_X3 hown hK hG hi (htz _ fX3_42) (by decide) rfl dX3_countHolders_22 ?_
      refine lv_iload_n hx hb dX3_countHolders_25 rfl (lv_at hl 0 rfl) ?_
      refine qa_8 hx hb hK hG hi (vp_in_nI (by omega) (by omega)) dX3_countHolders_26 ?_
      rw [nI_clamp (by omega)]
      refine lv_iload_n hx hb dX3_countHolders_27 rfl (lv_at hl 3 rfl) ?_
      refine mz_icmp_lt hx hb dX3_countHolders_28 (tgt := 34) rfl (fun h2 h2' => ?_) (fun h2 h2' => ?_)
      · refine lv_iinc (k := 0) hx hb dX3_countHolders_34 hl rfl (nI_1 j) (by decide) rfl (fun ls hl => ?_)
        have hl : lv_has ls 4 [(3, .int _), (2, .int _), (0, .ref _), (1, .int _)] := hl
        refine lv_goto hx hb dX3_countHolders_37 (tgt := 4) rfl ?_
        exact ih (by omega) _ _ _ ⟨by first | (rw [qs_ch_s, if_pos (Or.inl h1)]; exact hl) | (rw [qs_ch_s, if_pos (Or.inr h2')]; exact hl) | (rw [qs_ch_s, if_neg (fun z => z.elim h1 h2')]; exact hl), hG, hS, by omega⟩
      · refine lv_iinc (k := 1) hx hb dX3_countHolders_31 hl rfl (show _ = qs_ch u i x j + 1 from rfl) (by decide) rfl (fun ls hl => ?_)
        have hl : lv_has ls 4 [(2, .int _), (3, .int _), (0, .ref _), (1, .int _)] := hl
        refine lv_iinc (k := 1) hx hb dX3_countHolders_34 hl rfl (nI_1 j) (by decide) rfl (fun ls hl => ?_)
        have hl : lv_has ls 4 [(3, .int _), (2, .int _), (0, .ref _), (1, .int _)] := hl
        refine lv_goto hx hb dX3_countHolders_37 (tgt := 4) rfl ?_
        exact ih (by omega) _ _ _ ⟨by first | (rw [qs_ch_s, if_pos (Or.inl h1)]; exact hl) | (rw [qs_ch_s, if_pos (Or.inr h2')]; exact hl) | (rw [qs_ch_s, if_neg (fun z => z.elim h1 h2')]; exact hl), hG, hS, by omega⟩
