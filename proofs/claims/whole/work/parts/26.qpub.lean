set_option maxRecDepth 100000 in
set_option maxHeartbeats 4000000 in
theorem qc_timeout (l : Launch) (D : va_G) (L : qL) (hL : qL_ok L) (u : mz_S) (x : Int32) (hw : ∀ i, i < ql_n L → qw (ql_c L) u i) : mz_Ci l (qG D L) (qK D L) (qA L) yX4_timeout (tz_w yX4_timeout cX4_timeout 4 (some .int)) ({ frames := 3, cells := 0, slots := 0, locals := 65 } : Room) [.ref (L.1 0 0), .int x] u ((qs_timeout (ql_n L) (ql_S L) u x).2) ((qs_timeout (ql_n L) (ql_S L) u x).1) := by
  refine mz_Ci.of (cc := cX4_timeout) (maxL := 4) (ret := (some .int)) (by decide) rfl (Nat.le_of_ble_eq_true rfl) ?_
  intro p e s m args below meth c ls hx hb hr hlk hml hown hts hl hG hK hS
  have hl : lv_has ls 4 [(0, .ref (L.1 0 0)), (1, .int x)] := hl
  have htz : ∀ w ∈ tz, w.before args s = true := fun w h => hts w (List.mem_cons_of_mem _ h)
  have hc12 : ql_c L ≤ 12 := hL.1.2.2.2.1
  have hn5 : ql_n L ≤ 5 := hL.1.2.1
  have h40 : ql_S L ≤ 40 := hL.1.2.2.2.2.2
  refine lv_aload_n hx hb dX4_timeout_0 rfl (lv_at hl 0 rfl) ?_
  refine lv_iload_n hx hb dX4_timeout_1 rfl (lv_at hl 1 rfl) ?_
  refine mz_Vi (As := [.int _]) (rest := []) ⟨hx, hb, hml, hown, hts⟩ (qc_isNode l D L hL _ _) (tz_V htz mX4_isNode lX4_41 rfl rfl ⟨Nat.le_of_ble_eq_true rfl, Nat.le_of_ble_eq_true rfl⟩) (qrecv_0 hK hG (by decide)) qK_ok hK hG hS rfl hl.1 rfl (Nat.le_of_ble_eq_true rfl) dX4_timeout_2 ⟨Nat.zero_le _, Nat.zero_le _⟩ (fun H locs hG hS => ?_)
  refine mz_ifne_b hx hb dX4_timeout_5 (tgt := 10) rfl (fun h0 => ?_) (fun h0 => ?_)
  · refine lv_aload_n hx hb dX4_timeout_10 rfl (lv_at hl 0 rfl) ?_
    refine qg_0 (f := 0) hx hb htz tin_X4 hown hK hG (by decide) (htz _ fX4_15) (by decide) rfl dX4_timeout_11 ?_
    refine lv_iload_n hx hb dX4_timeout_14 rfl (lv_at hl 1 rfl) ?_
    have hi : x.toNatClampNeg < ql_n L := nz_cl (nz_in (by omega) h0)
    refine qa_1 hx hb hK hG (by decide) (nz_in (by omega) h0) dX4_timeout_15 ?_
    refine lv_astore_n hx hb dX4_timeout_16 rfl hl (by decide) rfl (fun ls hl => ?_)
    have hl : lv_has ls 4 [(2, .ref _), (0, .ref _), (1, .int _)] := hl
    refine lv_aload_n hx hb dX4_timeout_17 rfl (lv_at hl 0 rfl) ?_
    refine qgN_2 (f := 1) hx hb htz tin_X3 hown hK hG hi (va_Nw.use rfl (hK.2 _ nX4_45)) (by decide) rfl dX4_timeout_18 ?_
    refine mz_ifne_b hx hb dX4_timeout_21 (tgt := 27) rfl (fun h1 => ?_) (fun h1 => ?_)
    · refine lv_aload_n hx hb dX4_timeout_27 rfl (lv_at hl 0 rfl) ?_
      refine qgN_2 (f := 2) hx hb htz tin_X3 hown hK hG hi (va_Nw.use rfl (hK.2 _ nX4_49)) (by decide) rfl dX4_timeout_28 ?_
      refine lv_iconst (v := 2) hx hb dX4_timeout_31 (by decide) ?_
      refine lv_icmp_ne hx hb dX4_timeout_32 (tgt := 38) rfl (fun h2 => ?_) (fun h2 => ?_)
      · refine lv_aload_n hx hb dX4_timeout_38 rfl (lv_at hl 1 rfl) ?_
        refine qg_0 (f := 1) hx hb htz tin_X4 hown hK hG (by decide) (htz _ fX4_27) (by decide) rfl dX4_timeout_39 ?_
        refine mz_Ni (As := []) (rest := []) ⟨hx, hb, hml, hown, hts⟩ (qc_countFree l D L hL _) (tz_N htz mX2_countFree (hK.2 _ nX4_53) rfl rfl ⟨Nat.le_of_ble_eq_true rfl, Nat.le_of_ble_eq_true rfl⟩) (qrecv_9 hK hG (by decide)) qK_ok hK hG hS rfl hl.1 rfl (Nat.le_of_ble_eq_true rfl) dX4_timeout_42 ⟨Nat.zero_le _, Nat.zero_le _⟩ (fun H locs hG hS => ?_)
        refine lv_aload_n hx hb dX4_timeout_45 rfl (lv_at hl 1 rfl) ?_
        refine qg_0 (f := 0) hx hb htz tin_X4 hown hK hG (by decide) (htz _ fX4_15) (by decide) rfl dX4_timeout_46 ?_
        refine qz_1 hx hb hK hG (by decide) dX4_timeout_49 ?_
        refine lv_iconst (v := 1) hx hb dX4_timeout_50 (by decide) ?_
        refine lv_isub hx hb dX4_timeout_51 ?_
        refine mz_icmp_ge hx hb dX4_timeout_52 (tgt := 58) rfl (fun h3 h3' => ?_) (fun h3 h3' => ?_)
        · refine lv_aload_n hx hb dX4_timeout_58 rfl (lv_at hl 0 rfl) ?_
          refine mz_Nv (As := []) (rest := []) ⟨hx, hb, hml, hown, hts⟩ (qc_stand l D L hL _ _ hi) (tz_N htz mX3_stand (hK.2 _ nX4_57) rfl rfl ⟨Nat.le_of_ble_eq_true rfl, Nat.le_of_ble_eq_true rfl⟩) (qrecv_2 hK hG hi) qK_ok hK hG hS rfl hl.1 rfl (Nat.le_of_ble_eq_true rfl) dX4_timeout_59 ⟨Nat.zero_le _, Nat.zero_le _⟩ (fun H locs hG hS => ?_)
          refine lv_iconst (v := 0) hx hb dX4_timeout_62 (by decide) ?_
          refine lv_istore_n hx hb dX4_timeout_63 rfl hl (by decide) rfl (fun ls hl => ?_)
          have hl : lv_has ls 4 [(3, .int _), (2, .ref _), (0, .ref _), (1, .int _)] := hl
          obtain ⟨w, hw9⟩ : ∃ w, w = qs_stand (ql_n L) u x.toNatClampNeg := ⟨_, rfl⟩
          rw [← hw9] at hG
          refine mz_loop (ql_n L) (P := fun j ls H locs => lv_has ls 4 [(3, .int (nI j)), (2, .ref (L.1 2 x.toNatClampNeg)), (0, .ref (L.1 0 0)), (1, .int x)] ∧ qG D L (qs_asks (ql_S L) w x j) H ∧ va_S (qA L) s.heap H locs ∧ j ≤ ql_n L) (fun _ _ _ _ h => h.2.2.2) ?_ 0 _ _ _ ⟨hl, hG, hS, Nat.zero_le _⟩
          intro j ls H locs ⟨hl, hG, hS, hj⟩ ih
          refine lv_iload_n hx hb dX4_timeout_64 rfl (lv_at hl 0 rfl) ?_
          refine lv_aload_n hx hb dX4_timeout_65 rfl (lv_at hl 2 rfl) ?_
          refine qg_0 (f := 0) hx hb htz tin_X4 hown hK hG (by decide) (htz _ fX4_15) (by decide) rfl dX4_timeout_66 ?_
          refine qz_1 hx hb hK hG (by decide) dX4_timeout_69 ?_
          refine mz_icmp_ge hx hb dX4_timeout_70 (tgt := 90) rfl (fun h4 h4' => ?_) (fun h4 h4' => ?_)
          · rw [nI_leI (by omega) (by omega)] at h4'
            refine lv_iconst (v := 0) hx hb dX4_timeout_90 (by decide) ?_
            exact mz_iret hx hb hr hlk qK_ok hK hS hG dX4_timeout_91 (by rw [qs_timeout, if_neg (not_not_intro h0), if_neg h1, if_neg h2, if_neg h3]) (by rw [qs_timeout, if_neg (not_not_intro h0), if_neg h1, if_neg h2, if_neg h3, ← hw9, show ql_n L = j by omega])
          · rw [nI_ltI (by omega) (by omega)] at h4
            refine lv_iload_n hx hb dX4_timeout_73 rfl (lv_at hl 0 rfl) ?_
            refine lv_iload_n hx hb dX4_timeout_74 rfl (lv_at hl 3 rfl) ?_
            refine lv_icmp_eq hx hb dX4_timeout_75 (tgt := 84) rfl (fun h5 => ?_) (fun h5 => ?_)
            · refine lv_iinc (k := 0) hx hb dX4_timeout_84 hl rfl (nI_1 j) (by decide) rfl (fun ls hl => ?_)
              have hl : lv_has ls 4 [(3, .int _), (2, .ref _), (0, .ref _), (1, .int _)] := hl
              refine lv_goto hx hb dX4_timeout_87 (tgt := 64) rfl ?_
              exact ih (by omega) _ _ _ ⟨hl, by first | (rw [qs_asks, if_pos h5]; exact hG) | (rw [qs_asks, if_neg h5]; exact hG), hS, by omega⟩
            · refine lv_aload_n hx hb dX4_timeout_78 rfl (lv_at hl 2 rfl) ?_
              refine lv_aload_n hx hb dX4_timeout_79 rfl (lv_at hl 1 rfl) ?_
              refine lv_iload_n hx hb dX4_timeout_80 rfl (lv_at hl 0 rfl) ?_
              refine mz_Vv (As := [.ref _, .int _]) (rest := []) ⟨hx, hb, hml, hown, hts⟩ (qc_sendAsk l D L hL _ _ hi _ ((hw _ hi).same (by rw [qs_asks_o _ _ _ (by decide) (by decide), hw9, qs_stand_o _ _ _ (by decide) (by decide)]) (by rw [qs_asks_o _ _ _ (by decide) (by decide), hw9, qs_stand_o _ _ _ (by decide) (by decide)]))) (tz_V htz mX4_sendAsk lX4_60 rfl rfl ⟨Nat.le_of_ble_eq_true rfl, Nat.le_of_ble_eq_true rfl⟩) (qrecv_0 hK hG (by decide)) qK_ok hK hG hS rfl hl.1 rfl (Nat.le_of_ble_eq_true rfl) dX4_timeout_81 ⟨Nat.zero_le _, Nat.zero_le _⟩ (fun H locs hG hS => ?_)
              refine lv_iinc (k := 0) hx hb dX4_timeout_84 hl rfl (nI_1 j) (by decide) rfl (fun ls hl => ?_)
              have hl : lv_has ls 4 [(3, .int _), (2, .ref _), (0, .ref _), (1, .int _)] := hl
              refine lv_goto hx hb dX4_timeout_87 (tgt := 64) rfl ?_
              exact ih (by omega) _ _ _ ⟨hl, by first | (rw [qs_asks, if_pos h5]; exact hG) | (rw [qs_asks, if_neg h5]; exact hG), hS, by omega⟩
        · refine lv_bipush (v := (-4)) hx hb dX4_timeout_55 (by decide) ?_
          exact mz_iret hx hb hr hlk qK_ok hK hS hG dX4_timeout_57 (by rw [qs_timeout, if_neg (not_not_intro h0), if_neg h1, if_neg h2, if_pos h3]) (by rw [qs_timeout, if_neg (not_not_intro h0), if_neg h1, if_neg h2, if_pos h3])
      · refine lv_bipush (v := (-3)) hx hb dX4_timeout_35 (by decide) ?_
        exact mz_iret hx hb hr hlk qK_ok hK hS hG dX4_timeout_37 (by rw [qs_timeout, if_neg (not_not_intro h0), if_neg h1, if_pos h2]) (by rw [qs_timeout, if_neg (not_not_intro h0), if_neg h1, if_pos h2])
    · refine lv_bipush (v := (-2)) hx hb dX4_timeout_24 (by decide) ?_
      exact mz_iret hx hb hr hlk qK_ok hK hS hG dX4_timeout_26 (by rw [qs_timeout, if_neg (not_not_intro h0), if_pos (Decidable.not_not.mp h1)]) (by rw [qs_timeout, if_neg (not_not_intro h0), if_pos (Decidable.not_not.mp h1)])
  · refine lv_iconst (v := (-1)) hx hb dX4_timeout_8 (by decide) ?_
    exact mz_iret hx hb hr hlk qK_ok hK hS hG dX4_timeout_9 (by rw [qs_timeout, if_pos h0]) (by rw [qs_timeout, if_pos h0])

set_option maxRecDepth 100000 in
set_option maxHeartbeats 4000000 in
theorem qc_heartbeat (l : Launch) (D : va_G) (L : qL) (hL : qL_ok L) (u : mz_S) (x y : Int32) (hw : ∀ i, i < ql_n L → qw (ql_c L) u i) : mz_Ci l (qG D L) (qK D L) (qA L) yX4_heartbeat (tz_w yX4_heartbeat cX4_heartbeat 4 (some .int)) ({ frames := 3, cells := 0, slots := 0, locals := 66 } : Room) [.ref (L.1 0 0), .int x, .int y] u ((qs_heartbeat (ql_n L) (ql_S L) u x y).2) ((qs_heartbeat (ql_n L) (ql_S L) u x y).1) := by
  refine mz_Ci.of (cc := cX4_heartbeat) (maxL := 4) (ret := (some .int)) (by decide) rfl (Nat.le_of_ble_eq_true rfl) ?_
  intro p e s m args below meth c ls hx hb hr hlk hml hown hts hl hG hK hS
  have hl : lv_has ls 4 [(0, .ref (L.1 0 0)), (1, .int x), (2, .int y)] := hl
  have htz : ∀ w ∈ tz, w.before args s = true := fun w h => hts w (List.mem_cons_of_mem _ h)
  have hc12 : ql_c L ≤ 12 := hL.1.2.2.2.1
  have hn5 : ql_n L ≤ 5 := hL.1.2.1
  have h40 : ql_S L ≤ 40 := hL.1.2.2.2.2.2
  refine lv_aload_n hx hb dX4_heartbeat_0 rfl (lv_at hl 0 rfl) ?_
  refine lv_iload_n hx hb dX4_heartbeat_1 rfl (lv_at hl 1 rfl) ?_
  refine lv_iload_n hx hb dX4_heartbeat_2 rfl (lv_at hl 2 rfl) ?_
  refine mz_Vi (As := [.int _, .int _]) (rest := []) ⟨hx, hb, hml, hown, hts⟩ (qc_areTwoNodes l D L hL _ _ _) (tz_V htz mX4_areTwoNodes lX4_64 rfl rfl ⟨Nat.le_of_ble_eq_true rfl, Nat.le_of_ble_eq_true rfl⟩) (qrecv_0 hK hG (by decide)) qK_ok hK hG hS rfl hl.1 rfl (Nat.le_of_ble_eq_true rfl) dX4_heartbeat_3 ⟨Nat.zero_le _, Nat.zero_le _⟩ (fun H locs hG hS => ?_)
  refine mz_ifne_b hx hb dX4_heartbeat_6 (tgt := 11) rfl (fun h0 => ?_) (fun h0 => ?_)
  · refine lv_aload_n hx hb dX4_heartbeat_11 rfl (lv_at hl 0 rfl) ?_
    refine qg_0 (f := 0) hx hb htz tin_X4 hown hK hG (by decide) (htz _ fX4_15) (by decide) rfl dX4_heartbeat_12 ?_
    refine lv_iload_n hx hb dX4_heartbeat_15 rfl (lv_at hl 1 rfl) ?_
    have hi : x.toNatClampNeg < ql_n L := nz_cl (nz_in (by omega) h0.1)
    refine qa_1 hx hb hK hG (by decide) (nz_in (by omega) h0.1) dX4_heartbeat_16 ?_
    refine lv_astore_n hx hb dX4_heartbeat_17 rfl hl (by decide) rfl (fun ls hl => ?_)
    have hl : lv_has ls 4 [(3, .ref _), (0, .ref _), (1, .int _), (2, .int _)] := hl
    refine lv_aload_n hx hb dX4_heartbeat_18 rfl (lv_at hl 0 rfl) ?_
    refine qgN_2 (f := 1) hx hb htz tin_X3 hown hK hG hi (va_Nw.use rfl (hK.2 _ nX4_45)) (by decide) rfl dX4_heartbeat_19 ?_
    refine mz_ifne_b hx hb dX4_heartbeat_22 (tgt := 28) rfl (fun h1 => ?_) (fun h1 => ?_)
    · refine lv_aload_n hx hb dX4_heartbeat_28 rfl (lv_at hl 0 rfl) ?_
      refine qgN_2 (f := 2) hx hb htz tin_X3 hown hK hG hi (va_Nw.use rfl (hK.2 _ nX4_49)) (by decide) rfl dX4_heartbeat_29 ?_
      refine lv_iconst (v := 2) hx hb dX4_heartbeat_32 (by decide) ?_
      refine lv_icmp_eq hx hb dX4_heartbeat_33 (tgt := 39) rfl (fun h2 => ?_) (fun h2 => ?_)
      · refine lv_aload_n hx hb dX4_heartbeat_39 rfl (lv_at hl 1 rfl) ?_
        refine qg_0 (f := 1) hx hb htz tin_X4 hown hK hG (by decide) (htz _ fX4_27) (by decide) rfl dX4_heartbeat_40 ?_
        refine mz_Ni (As := []) (rest := []) ⟨hx, hb, hml, hown, hts⟩ (qc_countFree l D L hL _) (tz_N htz mX2_countFree (hK.2 _ nX4_53) rfl rfl ⟨Nat.le_of_ble_eq_true rfl, Nat.le_of_ble_eq_true rfl⟩) (qrecv_9 hK hG (by decide)) qK_ok hK hG hS rfl hl.1 rfl (Nat.le_of_ble_eq_true rfl) dX4_heartbeat_43 ⟨Nat.zero_le _, Nat.zero_le _⟩ (fun H locs hG hS => ?_)
        refine lv_if_ne hx hb dX4_heartbeat_46 (tgt := 52) rfl (fun h3 => ?_) (fun h3 => ?_)
        · refine lv_aload_n hx hb dX4_heartbeat_52 rfl (lv_at hl 0 rfl) ?_
          refine qgN_2 (f := 8) hx hb htz tin_X3 hown hK hG hi (va_Nw.use rfl (hK.2 _ nX4_68)) (by decide) rfl dX4_heartbeat_53 ?_
          refine lv_iload_n hx hb dX4_heartbeat_56 rfl (lv_at hl 3 rfl) ?_
          refine qa_7 hx hb hK hG hi (nz_in (by omega) h0.2.1) dX4_heartbeat_57 ?_
          refine lv_aload_n hx hb dX4_heartbeat_58 rfl (lv_at hl 0 rfl) ?_
          refine qgN_2 (f := 6) hx hb htz tin_X3 hown hK hG hi (va_Nw.use rfl (hK.2 _ nX4_72)) (by decide) rfl dX4_heartbeat_59 ?_
          refine qgN_3 (f := 0) hx hb htz tin_X0 hown hK hG hi (va_Nw.use rfl (hK.2 _ nX4_76)) (by decide) rfl dX4_heartbeat_62 ?_
          refine mz_icmp_gt hx hb dX4_heartbeat_65 (tgt := 76) rfl (fun h4 h4' => ?_) (fun h4 h4' => ?_)
          · refine lv_aload_n hx hb dX4_heartbeat_76 rfl (lv_at hl 1 rfl) ?_
            refine lv_aload_n hx hb dX4_heartbeat_77 rfl (lv_at hl 0 rfl) ?_
            refine lv_iload_n hx hb dX4_heartbeat_78 rfl (lv_at hl 3 rfl) ?_
            refine mz_Vv (As := [.ref _, .int _]) (rest := []) ⟨hx, hb, hml, hown, hts⟩ (qc_sendAppend l D L hL _ _ hi _ (nz_in (by omega) h0.2.1) (hw _ hi)) (tz_V htz mX4_sendAppend lX4_84 rfl rfl ⟨Nat.le_of_ble_eq_true rfl, Nat.le_of_ble_eq_true rfl⟩) (qrecv_0 hK hG (by decide)) qK_ok hK hG hS rfl hl.1 rfl (Nat.le_of_ble_eq_true rfl) dX4_heartbeat_79 ⟨Nat.zero_le _, Nat.zero_le _⟩ (fun H locs hG hS => ?_)
            refine lv_iconst (v := 3) hx hb dX4_heartbeat_82 (by decide) ?_
            exact mz_iret hx hb hr hlk qK_ok hK hS hG dX4_heartbeat_83 (by rw [qs_heartbeat, if_neg (not_not_intro h0), if_neg h1, if_neg (not_not_intro h2), if_neg h3, if_neg h4']) (by rw [qs_heartbeat, if_neg (not_not_intro h0), if_neg h1, if_neg (not_not_intro h2), if_neg h3, if_neg h4'])
          · refine lv_aload_n hx hb dX4_heartbeat_68 rfl (lv_at hl 1 rfl) ?_
            refine lv_aload_n hx hb dX4_heartbeat_69 rfl (lv_at hl 0 rfl) ?_
            refine lv_iload_n hx hb dX4_heartbeat_70 rfl (lv_at hl 3 rfl) ?_
            refine mz_Vv (As := [.ref _, .int _]) (rest := []) ⟨hx, hb, hml, hown, hts⟩ (qc_sendSnapshot l D L hL _ _ hi _) (tz_V htz mX4_sendSnapshot lX4_81 rfl rfl ⟨Nat.le_of_ble_eq_true rfl, Nat.le_of_ble_eq_true rfl⟩) (qrecv_0 hK hG (by decide)) qK_ok hK hG hS rfl hl.1 rfl (Nat.le_of_ble_eq_true rfl) dX4_heartbeat_71 ⟨Nat.zero_le _, Nat.zero_le _⟩ (fun H locs hG hS => ?_)
            refine lv_iconst (v := 5) hx hb dX4_heartbeat_74 (by decide) ?_
            exact mz_iret hx hb hr hlk qK_ok hK hS hG dX4_heartbeat_75 (by rw [qs_heartbeat, if_neg (not_not_intro h0), if_neg h1, if_neg (not_not_intro h2), if_neg h3, if_pos h4']) (by rw [qs_heartbeat, if_neg (not_not_intro h0), if_neg h1, if_neg (not_not_intro h2), if_neg h3, if_pos h4'])
        · refine lv_bipush (v := (-4)) hx hb dX4_heartbeat_49 (by decide) ?_
          exact mz_iret hx hb hr hlk qK_ok hK hS hG dX4_heartbeat_51 (by rw [qs_heartbeat, if_neg (not_not_intro h0), if_neg h1, if_neg (not_not_intro h2), if_pos h3]) (by rw [qs_heartbeat, if_neg (not_not_intro h0), if_neg h1, if_neg (not_not_intro h2), if_pos h3])
      · refine lv_bipush (v := (-3)) hx hb dX4_heartbeat_36 (by decide) ?_
        exact mz_iret hx hb hr hlk qK_ok hK hS hG dX4_heartbeat_38 (by rw [qs_heartbeat, if_neg (not_not_intro h0), if_neg h1, if_pos h2]) (by rw [qs_heartbeat, if_neg (not_not_intro h0), if_neg h1, if_pos h2])
    · refine lv_bipush (v := (-2)) hx hb dX4_heartbeat_25 (by decide) ?_
      exact mz_iret hx hb hr hlk qK_ok hK hS hG dX4_heartbeat_27 (by rw [qs_heartbeat, if_neg (not_not_intro h0), if_pos (Decidable.not_not.mp h1)]) (by rw [qs_heartbeat, if_neg (not_not_intro h0), if_pos (Decidable.not_not.mp h1)])
  · refine lv_iconst (v := (-1)) hx hb dX4_heartbeat_9 (by decide) ?_
    exact mz_iret hx hb hr hlk qK_ok hK hS hG dX4_heartbeat_10 (by rw [qs_heartbeat, if_pos h0]) (by rw [qs_heartbeat, if_pos h0])

set_option maxRecDepth 100000 in
set_option maxHeartbeats 4000000 in
theorem qc_propose (l : Launch) (D : va_G) (L : qL) (hL : qL_ok L) (u : mz_S) (x y : Int32) (hw : ∀ i, i < ql_n L → qw (ql_c L) u i) : mz_Ci l (qG D L) (qK D L) (qA L) yX4_propose (tz_w yX4_propose cX4_propose 4 (some .int)) ({ frames := 2, cells := 0, slots := 0, locals := 42 } : Room) [.ref (L.1 0 0), .int x, .int y] u ((qs_propose (ql_n L) (ql_c L) u x y).2) ((qs_propose (ql_n L) (ql_c L) u x y).1) := by
  refine mz_Ci.of (cc := cX4_propose) (maxL := 4) (ret := (some .int)) (by decide) rfl (Nat.le_of_ble_eq_true rfl) ?_
  intro p e s m args below meth c ls hx hb hr hlk hml hown hts hl hG hK hS
  have hl : lv_has ls 4 [(0, .ref (L.1 0 0)), (1, .int x), (2, .int y)] := hl
  have htz : ∀ w ∈ tz, w.before args s = true := fun w h => hts w (List.mem_cons_of_mem _ h)
  have hc12 : ql_c L ≤ 12 := hL.1.2.2.2.1
  have hn5 : ql_n L ≤ 5 := hL.1.2.1
  have h40 : ql_S L ≤ 40 := hL.1.2.2.2.2.2
  refine lv_aload_n hx hb dX4_propose_0 rfl (lv_at hl 0 rfl) ?_
  refine lv_iload_n hx hb dX4_propose_1 rfl (lv_at hl 1 rfl) ?_
  refine mz_Vi (As := [.int _]) (rest := []) ⟨hx, hb, hml, hown, hts⟩ (qc_isNode l D L hL _ _) (tz_V htz mX4_isNode lX4_41 rfl rfl ⟨Nat.le_of_ble_eq_true rfl, Nat.le_of_ble_eq_true rfl⟩) (qrecv_0 hK hG (by decide)) qK_ok hK hG hS rfl hl.1 rfl (Nat.le_of_ble_eq_true rfl) dX4_propose_2 ⟨Nat.zero_le _, Nat.zero_le _⟩ (fun H locs hG hS => ?_)
  refine mz_ifne_b hx hb dX4_propose_5 (tgt := 10) rfl (fun h0 => ?_) (fun h0 => ?_)
  · refine lv_aload_n hx hb dX4_propose_10 rfl (lv_at hl 0 rfl) ?_
    refine qg_0 (f := 0) hx hb htz tin_X4 hown hK hG (by decide) (htz _ fX4_15) (by decide) rfl dX4_propose_11 ?_
    refine lv_iload_n hx hb dX4_propose_14 rfl (lv_at hl 1 rfl) ?_
    have hi : x.toNatClampNeg < ql_n L := nz_cl (nz_in (by omega) h0)
    refine qa_1 hx hb hK hG (by decide) (nz_in (by omega) h0) dX4_propose_15 ?_
    refine lv_astore_n hx hb dX4_propose_16 rfl hl (by decide) rfl (fun ls hl => ?_)
    have hl : lv_has ls 4 [(3, .ref _), (0, .ref _), (1, .int _), (2, .int _)] := hl
    refine lv_aload_n hx hb dX4_propose_17 rfl (lv_at hl 0 rfl) ?_
    refine qgN_2 (f := 1) hx hb htz tin_X3 hown hK hG hi (va_Nw.use rfl (hK.2 _ nX4_45)) (by decide) rfl dX4_propose_18 ?_
    refine mz_ifne_b hx hb dX4_propose_21 (tgt := 27) rfl (fun h1 => ?_) (fun h1 => ?_)
    · refine lv_aload_n hx hb dX4_propose_27 rfl (lv_at hl 0 rfl) ?_
      refine qgN_2 (f := 2) hx hb htz tin_X3 hown hK hG hi (va_Nw.use rfl (hK.2 _ nX4_49)) (by decide) rfl dX4_propose_28 ?_
      refine lv_iconst (v := 2) hx hb dX4_propose_31 (by decide) ?_
      refine lv_icmp_eq hx hb dX4_propose_32 (tgt := 38) rfl (fun h2 => ?_) (fun h2 => ?_)
      · refine lv_aload_n hx hb dX4_propose_38 rfl (lv_at hl 0 rfl) ?_
        refine qgN_2 (f := 6) hx hb htz tin_X3 hown hK hG hi (va_Nw.use rfl (hK.2 _ nX4_72)) (by decide) rfl dX4_propose_39 ?_
        refine mz_Ni (As := []) (rest := []) ⟨hx, hb, hml, hown, hts⟩ (qc_isFull l D L hL _ _ hi) (tz_N htz mX0_isFull (hK.2 _ nX4_87) rfl rfl ⟨Nat.le_of_ble_eq_true rfl, Nat.le_of_ble_eq_true rfl⟩) (qrecv_3 hK hG hi) qK_ok hK hG hS rfl hl.1 rfl (Nat.le_of_ble_eq_true rfl) dX4_propose_42 ⟨Nat.zero_le _, Nat.zero_le _⟩ (fun H locs hG hS => ?_)
        refine mz_ifeq_b hx hb dX4_propose_45 (tgt := 51) rfl (fun h3 => ?_) (fun h3 => ?_)
        · refine lv_aload_n hx hb dX4_propose_51 rfl (lv_at hl 0 rfl) ?_
          refine qgN_2 (f := 6) hx hb htz tin_X3 hown hK hG hi (va_Nw.use rfl (hK.2 _ nX4_72)) (by decide) rfl dX4_propose_52 ?_
          refine lv_aload_n hx hb dX4_propose_55 rfl (lv_at hl 0 rfl) ?_
          refine qgN_2 (f := 3) hx hb htz tin_X3 hown hK hG hi (va_Nw.use rfl (hK.2 _ nX4_91)) (by decide) rfl dX4_propose_56 ?_
          refine lv_iload_n hx hb dX4_propose_59 rfl (lv_at hl 3 rfl) ?_
          refine mz_Nv (As := [.int _, .int _]) (rest := []) ⟨hx, hb, hml, hown, hts⟩ (qc_add l D L hL _ _ hi _ _ (hw _ hi)) (tz_N htz mX0_add (hK.2 _ nX4_94) rfl rfl ⟨Nat.le_of_ble_eq_true rfl, Nat.le_of_ble_eq_true rfl⟩) (qrecv_3 hK hG hi) qK_ok hK hG hS rfl hl.1 rfl (Nat.le_of_ble_eq_true rfl) dX4_propose_60 ⟨Nat.zero_le _, Nat.zero_le _⟩ (fun H locs hG hS => ?_)
          refine lv_aload_n hx hb dX4_propose_63 rfl (lv_at hl 0 rfl) ?_
          refine qgN_2 (f := 6) hx hb htz tin_X3 hown hK hG hi (va_Nw.use rfl (hK.2 _ nX4_72)) (by decide) rfl dX4_propose_64 ?_
          refine mz_Ni (As := []) (rest := []) ⟨hx, hb, hml, hown, hts⟩ (qc_lastNumber l D L hL _ _ hi) (tz_N htz mX0_lastNumber (hK.2 _ nX4_98) rfl rfl ⟨Nat.le_of_ble_eq_true rfl, Nat.le_of_ble_eq_true rfl⟩) (qrecv_3 hK hG hi) qK_ok hK hG hS rfl hl.1 rfl (Nat.le_of_ble_eq_true rfl) dX4_propose_67 ⟨Nat.zero_le _, Nat.zero_le _⟩ (fun H locs hG hS => ?_)
          exact mz_iret hx hb hr hlk qK_ok hK hS hG dX4_propose_70 (by rw [qs_propose, if_neg (not_not_intro h0), if_neg h1, if_neg (not_not_intro h2), if_neg h3]) (by rw [qs_propose, if_neg (not_not_intro h0), if_neg h1, if_neg (not_not_intro h2), if_neg h3])
        · refine lv_bipush (v := (-4)) hx hb dX4_propose_48 (by decide) ?_
          exact mz_iret hx hb hr hlk qK_ok hK hS hG dX4_propose_50 (by rw [qs_propose, if_neg (not_not_intro h0), if_neg h1, if_neg (not_not_intro h2), if_pos h3]) (by rw [qs_propose, if_neg (not_not_intro h0), if_neg h1, if_neg (not_not_intro h2), if_pos h3])
      · refine lv_bipush (v := (-3)) hx hb dX4_propose_35 (by decide) ?_
        exact mz_iret hx hb hr hlk qK_ok hK hS hG dX4_propose_37 (by rw [qs_propose, if_neg (not_not_intro h0), if_neg h1, if_pos h2]) (by rw [qs_propose, if_neg (not_not_intro h0), if_neg h1, if_pos h2])
    · refine lv_bipush (v := (-2)) hx hb dX4_propose_24 (by decide) ?_
      exact mz_iret hx hb hr hlk qK_ok hK hS hG dX4_propose_26 (by rw [qs_propose, if_neg (not_not_intro h0), if_pos (Decidable.not_not.mp h1)]) (by rw [qs_propose, if_neg (not_not_intro h0), if_pos (Decidable.not_not.mp h1)])
  · refine lv_iconst (v := (-1)) hx hb dX4_propose_8 (by decide) ?_
    exact mz_iret hx hb hr hlk qK_ok hK hS hG dX4_propose_9 (by rw [qs_propose, if_pos h0]) (by rw [qs_propose, if_pos h0])

set_option maxRecDepth 100000 in
set_option maxHeartbeats 4000000 in
theorem qc_compact (l : Launch) (D : va_G) (L : qL) (hL : qL_ok L) (u : mz_S) (x : Int32) (hq : ∀ i, i < ql_n L → qwc (ql_c L) u i (u 2 i 5)) : mz_Ci l (qG D L) (qK D L) (qA L) yX4_compact (tz_w yX4_compact cX4_compact 4 (some .int)) ({ frames := 2, cells := 0, slots := 0, locals := 46 } : Room) [.ref (L.1 0 0), .int x] u ((qs_compact (ql_n L) u x).2) ((qs_compact (ql_n L) u x).1) := by
  refine mz_Ci.of (cc := cX4_compact) (maxL := 4) (ret := (some .int)) (by decide) rfl (Nat.le_of_ble_eq_true rfl) ?_
  intro p e s m args below meth c ls hx hb hr hlk hml hown hts hl hG hK hS
  have hl : lv_has ls 4 [(0, .ref (L.1 0 0)), (1, .int x)] := hl
  have htz : ∀ w ∈ tz, w.before args s = true := fun w h => hts w (List.mem_cons_of_mem _ h)
  have hc12 : ql_c L ≤ 12 := hL.1.2.2.2.1
  have hn5 : ql_n L ≤ 5 := hL.1.2.1
  have h40 : ql_S L ≤ 40 := hL.1.2.2.2.2.2
  refine lv_aload_n hx hb dX4_compact_0 rfl (lv_at hl 0 rfl) ?_
  refine lv_iload_n hx hb dX4_compact_1 rfl (lv_at hl 1 rfl) ?_
  refine mz_Vi (As := [.int _]) (rest := []) ⟨hx, hb, hml, hown, hts⟩ (qc_isNode l D L hL _ _) (tz_V htz mX4_isNode lX4_41 rfl rfl ⟨Nat.le_of_ble_eq_true rfl, Nat.le_of_ble_eq_true rfl⟩) (qrecv_0 hK hG (by decide)) qK_ok hK hG hS rfl hl.1 rfl (Nat.le_of_ble_eq_true rfl) dX4_compact_2 ⟨Nat.zero_le _, Nat.zero_le _⟩ (fun H locs hG hS => ?_)
  refine mz_ifne_b hx hb dX4_compact_5 (tgt := 10) rfl (fun h0 => ?_) (fun h0 => ?_)
  · refine lv_aload_n hx hb dX4_compact_10 rfl (lv_at hl 0 rfl) ?_
    refine qg_0 (f := 0) hx hb htz tin_X4 hown hK hG (by decide) (htz _ fX4_15) (by decide) rfl dX4_compact_11 ?_
    refine lv_iload_n hx hb dX4_compact_14 rfl (lv_at hl 1 rfl) ?_
    have hi : x.toNatClampNeg < ql_n L := nz_cl (nz_in (by omega) h0)
    refine qa_1 hx hb hK hG (by decide) (nz_in (by omega) h0) dX4_compact_15 ?_
    refine lv_astore_n hx hb dX4_compact_16 rfl hl (by decide) rfl (fun ls hl => ?_)
    have hl : lv_has ls 4 [(2, .ref _), (0, .ref _), (1, .int _)] := hl
    refine lv_aload_n hx hb dX4_compact_17 rfl (lv_at hl 0 rfl) ?_
    refine qgN_2 (f := 1) hx hb htz tin_X3 hown hK hG hi (va_Nw.use rfl (hK.2 _ nX4_45)) (by decide) rfl dX4_compact_18 ?_
    refine mz_ifne_b hx hb dX4_compact_21 (tgt := 27) rfl (fun h1 => ?_) (fun h1 => ?_)
    · refine lv_aload_n hx hb dX4_compact_27 rfl (lv_at hl 0 rfl) ?_
      refine qgN_2 (f := 6) hx hb htz tin_X3 hown hK hG hi (va_Nw.use rfl (hK.2 _ nX4_72)) (by decide) rfl dX4_compact_28 ?_
      refine qgN_3 (f := 0) hx hb htz tin_X0 hown hK hG hi (va_Nw.use rfl (hK.2 _ nX4_76)) (by decide) rfl dX4_compact_31 ?_
      refine lv_istore_n hx hb dX4_compact_34 rfl hl (by decide) rfl (fun ls hl => ?_)
      have hl : lv_has ls 4 [(3, .int _), (2, .ref _), (0, .ref _), (1, .int _)] := hl
      refine lv_aload_n hx hb dX4_compact_35 rfl (lv_at hl 1 rfl) ?_
      refine qgN_2 (f := 6) hx hb htz tin_X3 hown hK hG hi (va_Nw.use rfl (hK.2 _ nX4_72)) (by decide) rfl dX4_compact_36 ?_
      refine lv_aload_n hx hb dX4_compact_39 rfl (lv_at hl 1 rfl) ?_
      refine qgN_2 (f := 5) hx hb htz tin_X3 hown hK hG hi (va_Nw.use rfl (hK.2 _ nX4_101)) (by decide) rfl dX4_compact_40 ?_
      refine lv_aload_n hx hb dX4_compact_43 rfl (lv_at hl 1 rfl) ?_
      refine qgN_2 (f := 6) hx hb htz tin_X3 hown hK hG hi (va_Nw.use rfl (hK.2 _ nX4_72)) (by decide) rfl dX4_compact_44 ?_
      refine lv_aload_n hx hb dX4_compact_47 rfl (lv_at hl 1 rfl) ?_
      refine qgN_2 (f := 5) hx hb htz tin_X3 hown hK hG hi (va_Nw.use rfl (hK.2 _ nX4_101)) (by decide) rfl dX4_compact_48 ?_
      refine mz_Ni (As := [.int _]) (rest := [.int _, .ref _]) ⟨hx, hb, hml, hown, hts⟩ (qc_termOf l D L hL _ _ hi _ (hq _ hi).qw) (tz_N htz mX0_termOf (hK.2 _ nX4_104) rfl rfl ⟨Nat.le_of_ble_eq_true rfl, Nat.le_of_ble_eq_true rfl⟩) (qrecv_3 hK hG hi) qK_ok hK hG hS rfl hl.1 rfl (Nat.le_of_ble_eq_true rfl) dX4_compact_51 ⟨Nat.zero_le _, Nat.zero_le _⟩ (fun H locs hG hS => ?_)
      refine lv_aload_n hx hb dX4_compact_54 rfl (lv_at hl 1 rfl) ?_
      refine qgN_2 (f := 6) hx hb htz tin_X3 hown hK hG hi (va_Nw.use rfl (hK.2 _ nX4_72)) (by decide) rfl dX4_compact_55 ?_
      refine lv_aload_n hx hb dX4_compact_58 rfl (lv_at hl 1 rfl) ?_
      refine qgN_2 (f := 5) hx hb htz tin_X3 hown hK hG hi (va_Nw.use rfl (hK.2 _ nX4_101)) (by decide) rfl dX4_compact_59 ?_
      refine mz_Ni (As := [.int _]) (rest := [.int _, .int _, .ref _]) ⟨hx, hb, hml, hown, hts⟩ (qc_stateUpTo l D L hL _ _ hi _ (hq _ hi)) (tz_N htz mX0_stateUpTo (hK.2 _ nX4_108) rfl rfl ⟨Nat.le_of_ble_eq_true rfl, Nat.le_of_ble_eq_true rfl⟩) (qrecv_3 hK hG hi) qK_ok hK hG hS rfl hl.1 rfl (Nat.le_of_ble_eq_true rfl) dX4_compact_62 ⟨Nat.zero_le _, Nat.zero_le _⟩ (fun H locs hG hS => ?_)
      refine mz_Nv (As := [.int _, .int _, .int _]) (rest := []) ⟨hx, hb, hml, hown, hts⟩ (qc_rebase l D L hL _ _ hi _ _ _ (hq _ hi).qw) (tz_N htz mX0_rebase (hK.2 _ nX4_111) rfl rfl ⟨Nat.le_of_ble_eq_true rfl, Nat.le_of_ble_eq_true rfl⟩) (qrecv_3 hK hG hi) qK_ok hK hG hS rfl hl.1 rfl (Nat.le_of_ble_eq_true rfl) dX4_compact_65 ⟨Nat.zero_le _, Nat.zero_le _⟩ (fun H locs hG hS => ?_)
      refine lv_aload_n hx hb dX4_compact_68 rfl (lv_at hl 1 rfl) ?_
      refine qgN_2 (f := 6) hx hb htz tin_X3 hown hK hG hi (va_Nw.use rfl (hK.2 _ nX4_72)) (by decide) rfl dX4_compact_69 ?_
      refine qgN_3 (f := 0) hx hb htz tin_X0 hown hK hG hi (va_Nw.use rfl (hK.2 _ nX4_76)) (by decide) rfl dX4_compact_72 ?_
      refine lv_iload_n hx hb dX4_compact_75 rfl (lv_at hl 0 rfl) ?_
      refine lv_isub hx hb dX4_compact_76 ?_
      exact mz_iret hx hb hr hlk qK_ok hK hS hG dX4_compact_77 (by rw [qs_compact, if_neg (not_not_intro h0), if_neg h1]; try rfl) (by rw [qs_compact, if_neg (not_not_intro h0), if_neg h1]; try rfl)
    · refine lv_bipush (v := (-2)) hx hb dX4_compact_24 (by decide) ?_
      exact mz_iret hx hb hr hlk qK_ok hK hS hG dX4_compact_26 (by rw [qs_compact, if_neg (not_not_intro h0), if_pos (Decidable.not_not.mp h1)]; try rfl) (by rw [qs_compact, if_neg (not_not_intro h0), if_pos (Decidable.not_not.mp h1)]; try rfl)
  · refine lv_iconst (v := (-1)) hx hb dX4_compact_8 (by decide) ?_
    exact mz_iret hx hb hr hlk qK_ok hK hS hG dX4_compact_9 (by rw [qs_compact, if_pos h0]; try rfl) (by rw [qs_compact, if_pos h0]; try rfl)

set_option maxRecDepth 100000 in
set_option maxHeartbeats 4000000 in
theorem qc_deliver (l : Launch) (D : va_G) (L : qL) (hL : qL_ok L) (u : mz_S) (x : Int32) (hq : ∀ i, i < ql_n L → qwc (ql_c L) u i (u 2 i 5)) (hm : ∀ j, j < ql_S L → ¬ u 11 j 0 = 0 → vp_in (u 11 j 1) (ql_n L) ∧ vp_in (u 11 j 2) (ql_n L)) : mz_Ci l (qG D L) (qK D L) (qA L) yX4_deliver (tz_w yX4_deliver cX4_deliver 3 (some .int)) ({ frames := 5, cells := 0, slots := 0, locals := 112 } : Room) [.ref (L.1 0 0), .int x] u ((qs_deliver (ql_n L) (ql_c L) (ql_S L) u x).2) ((qs_deliver (ql_n L) (ql_c L) (ql_S L) u x).1) := by
  refine mz_Ci.of (cc := cX4_deliver) (maxL := 3) (ret := (some .int)) (by decide) rfl (Nat.le_of_ble_eq_true rfl) ?_
  intro p e s m args below meth c ls hx hb hr hlk hml hown hts hl hG hK hS
  have hl : lv_has ls 3 [(0, .ref (L.1 0 0)), (1, .int x)] := hl
  have htz : ∀ w ∈ tz, w.before args s = true := fun w h => hts w (List.mem_cons_of_mem _ h)
  have hc12 : ql_c L ≤ 12 := hL.1.2.2.2.1
  have hn5 : ql_n L ≤ 5 := hL.1.2.1
  have h40 : ql_S L ≤ 40 := hL.1.2.2.2.2.2
  refine lv_aload_n hx hb dX4_deliver_0 rfl (lv_at hl 0 rfl) ?_
  refine qg_0 (f := 1) hx hb htz tin_X4 hown hK hG (by decide) (htz _ fX4_27) (by decide) rfl dX4_deliver_1 ?_
  refine lv_iload_n hx hb dX4_deliver_4 rfl (lv_at hl 1 rfl) ?_
  refine mz_Ni (As := [.int _]) (rest := []) ⟨hx, hb, hml, hown, hts⟩ (qc_isSlot l D L hL _ _) (tz_N htz mX2_isSlot (hK.2 _ nX4_114) rfl rfl ⟨Nat.le_of_ble_eq_true rfl, Nat.le_of_ble_eq_true rfl⟩) (qrecv_9 hK hG (by decide)) qK_ok hK hG hS rfl hl.1 rfl (Nat.le_of_ble_eq_true rfl) dX4_deliver_5 ⟨Nat.zero_le _, Nat.zero_le _⟩ (fun H locs hG hS => ?_)
  refine mz_ifne_b hx hb dX4_deliver_8 (tgt := 13) rfl (fun h0 => ?_) (fun h0 => ?_)
  · refine lv_aload_n hx hb dX4_deliver_13 rfl (lv_at hl 0 rfl) ?_
    refine qg_0 (f := 1) hx hb htz tin_X4 hown hK hG (by decide) (htz _ fX4_27) (by decide) rfl dX4_deliver_14 ?_
    refine lv_iload_n hx hb dX4_deliver_17 rfl (lv_at hl 1 rfl) ?_
    refine mz_Ni (As := [.int _]) (rest := []) ⟨hx, hb, hml, hown, hts⟩ (qc_isFree l D L hL _ _ (nz_in (by omega) h0)) (tz_N htz mX2_isFree (hK.2 _ nX4_117) rfl rfl ⟨Nat.le_of_ble_eq_true rfl, Nat.le_of_ble_eq_true rfl⟩) (qrecv_9 hK hG (by decide)) qK_ok hK hG hS rfl hl.1 rfl (Nat.le_of_ble_eq_true rfl) dX4_deliver_18 ⟨Nat.zero_le _, Nat.zero_le _⟩ (fun H locs hG hS => ?_)
    refine mz_ifeq_b hx hb dX4_deliver_21 (tgt := 27) rfl (fun h1 => ?_) (fun h1 => ?_)
    · refine lv_aload_n hx hb dX4_deliver_27 rfl (lv_at hl 0 rfl) ?_
      refine qg_0 (f := 3) hx hb htz tin_X4 hown hK hG (by decide) (htz _ fX4_38) (by decide) rfl dX4_deliver_28 ?_
      refine lv_aload_n hx hb dX4_deliver_31 rfl (lv_at hl 0 rfl) ?_
      refine qg_0 (f := 1) hx hb htz tin_X4 hown hK hG (by decide) (htz _ fX4_27) (by decide) rfl dX4_deliver_32 ?_
      refine qgN_9 (f := 0) hx hb htz tin_X2 hown hK hG (by decide) (va_Nw.use rfl (hK.2 _ nX4_120)) (by decide) rfl dX4_deliver_35 ?_
      refine lv_iload_n hx hb dX4_deliver_38 rfl (lv_at hl 1 rfl) ?_
      have hj : x.toNatClampNeg < ql_S L := nz_cl (nz_in (by omega) h0)
      refine qa_10 hx hb hK hG (by decide) (nz_in (by omega) h0) dX4_deliver_39 ?_
      refine mz_Nv (As := [.ref _]) (rest := []) ⟨hx, hb, hml, hown, hts⟩ (qc_copy l D L hL _ (ql_S L + 1) x.toNatClampNeg (by omega) (by omega)) (tz_N htz mX1_copy (hK.2 _ nX4_124) rfl rfl ⟨Nat.le_of_ble_eq_true rfl, Nat.le_of_ble_eq_true rfl⟩) (qrecv_11 hK hG (by omega)) qK_ok hK hG hS rfl hl.1 rfl (Nat.le_of_ble_eq_true rfl) dX4_deliver_40 ⟨Nat.zero_le _, Nat.zero_le _⟩ (fun H locs hG hS => ?_)
      refine lv_aload_n hx hb dX4_deliver_43 rfl (lv_at hl 0 rfl) ?_
      refine qg_0 (f := 1) hx hb htz tin_X4 hown hK hG (by decide) (htz _ fX4_27) (by decide) rfl dX4_deliver_44 ?_
      refine lv_iload_n hx hb dX4_deliver_47 rfl (lv_at hl 1 rfl) ?_
      refine mz_Nv (As := [.int _]) (rest := []) ⟨hx, hb, hml, hown, hts⟩ (qc_clear l D L hL _ _ (nz_in (by omega) h0)) (tz_N htz mX2_clear (hK.2 _ nX4_128) rfl rfl ⟨Nat.le_of_ble_eq_true rfl, Nat.le_of_ble_eq_true rfl⟩) (qrecv_9 hK hG (by decide)) qK_ok hK hG hS rfl hl.1 rfl (Nat.le_of_ble_eq_true rfl) dX4_deliver_48 ⟨Nat.zero_le _, Nat.zero_le _⟩ (fun H locs hG hS => ?_)
      have hG : qG D L (qs_dlv (ql_S L) u x.toNatClampNeg) H := hG
      have hm9 := hm _ hj h1
      have hi : (u 11 x.toNatClampNeg 2).toNatClampNeg < ql_n L := nz_cl hm9.2
      refine lv_aload_n hx hb dX4_deliver_51 rfl (lv_at hl 0 rfl) ?_
      refine qg_0 (f := 0) hx hb htz tin_X4 hown hK hG (by decide) (htz _ fX4_15) (by decide) rfl dX4_deliver_52 ?_
      refine lv_aload_n hx hb dX4_deliver_55 rfl (lv_at hl 0 rfl) ?_
      refine qg_0 (f := 3) hx hb htz tin_X4 hown hK hG (by decide) (htz _ fX4_38) (by decide) rfl dX4_deliver_56 ?_
      refine qgN_11 (f := 2) (v := .int (u 11 x.toNatClampNeg 2)) hx hb htz tin_X1 hown hK hG (by omega) (va_Nw.use rfl (hK.2 _ nX4_131)) (by decide) (by simp [qf11, qs_dlv, qs_clear, qs_copy, mz_at]) dX4_deliver_59 ?_
      refine qa_1 hx hb hK hG (by decide) hm9.2 dX4_deliver_62 ?_
      refine lv_astore_n hx hb dX4_deliver_63 rfl hl (by decide) rfl (fun ls hl => ?_)
      have hl : lv_has ls 3 [(2, .ref _), (0, .ref _), (1, .int _)] := hl
      refine lv_aload_n hx hb dX4_deliver_64 rfl (lv_at hl 0 rfl) ?_
      refine qgN_2 (f := 1) (v := .int (mz_b (u 2 (u 11 x.toNatClampNeg 2).toNatClampNeg 1 ≠ 0))) hx hb htz tin_X3 hown hK hG hi (va_Nw.use rfl (hK.2 _ nX4_45)) (by decide) (by simp [qf2, qs_dlv, qs_clear, qs_copy_o, mz_at]) dX4_deliver_65 ?_
      refine mz_ifeq_b hx hb dX4_deliver_68 (tgt := 80) rfl (fun h2 => ?_) (fun h2 => ?_)
      · refine lv_aload_n hx hb dX4_deliver_80 rfl (lv_at hl 1 rfl) ?_
        refine qg_0 (f := 3) hx hb htz tin_X4 hown hK hG (by decide) (htz _ fX4_38) (by decide) rfl dX4_deliver_81 ?_
        refine qgN_11 (f := 0) (v := .int (u 11 x.toNatClampNeg 0)) hx hb htz tin_X1 hown hK hG (by omega) (va_Nw.use rfl (hK.2 _ nX4_138)) (by decide) (by simp [qf11, qs_rcv_hi, qs_dlv, qs_clear, qs_copy, mz_at, show ¬ (ql_S L + 1 = x.toNatClampNeg) by omega]) dX4_deliver_84 ?_
        exact mz_iret hx hb hr hlk qK_ok hK hS hG dX4_deliver_87 (by rw [qs_deliver, if_neg (not_not_intro h0), if_neg h1]; first | rw [if_pos (Decidable.not_not.mp h2)] | rw [if_neg h2]) (by rw [qs_deliver, if_neg (not_not_intro h0), if_neg h1]; first | rw [if_pos (Decidable.not_not.mp h2)] | rw [if_neg h2])
      · refine lv_aload_n hx hb dX4_deliver_71 rfl (lv_at hl 1 rfl) ?_
        refine lv_aload_n hx hb dX4_deliver_72 rfl (lv_at hl 0 rfl) ?_
        refine lv_aload_n hx hb dX4_deliver_73 rfl (lv_at hl 1 rfl) ?_
        refine qg_0 (f := 3) hx hb htz tin_X4 hown hK hG (by decide) (htz _ fX4_38) (by decide) rfl dX4_deliver_74 ?_
        refine mz_Vv (As := [.ref _, .ref _]) (rest := []) ⟨hx, hb, hml, hown, hts⟩ (qc_receive l D L hL _ _ hi (ql_S L + 1) (by omega) ((hq _ hi).same (by simp [qs_dlv, qs_clear, qs_copy_o, mz_at]) (by simp [qs_dlv, qs_clear, qs_copy_o, mz_at]) (by simp [qs_dlv, qs_clear, qs_copy_o, mz_at])) (by rw [show qs_dlv (ql_S L) u x.toNatClampNeg 11 (ql_S L + 1) 1 = u 11 x.toNatClampNeg 1 from by simp [qs_dlv, qs_clear, qs_copy, mz_at]]; exact hm9.1)) (tz_V htz mX4_receive lX4_134 rfl rfl ⟨Nat.le_of_ble_eq_true rfl, Nat.le_of_ble_eq_true rfl⟩) (qrecv_0 hK hG (by decide)) qK_ok hK hG hS rfl hl.1 rfl (Nat.le_of_ble_eq_true rfl) dX4_deliver_77 ⟨Nat.zero_le _, Nat.zero_le _⟩ (fun H locs hG hS => ?_)
        refine lv_aload_n hx hb dX4_deliver_80 rfl (lv_at hl 1 rfl) ?_
        refine qg_0 (f := 3) hx hb htz tin_X4 hown hK hG (by decide) (htz _ fX4_38) (by decide) rfl dX4_deliver_81 ?_
        refine qgN_11 (f := 0) (v := .int (u 11 x.toNatClampNeg 0)) hx hb htz tin_X1 hown hK hG (by omega) (va_Nw.use rfl (hK.2 _ nX4_138)) (by decide) (by simp [qf11, qs_rcv_hi, qs_dlv, qs_clear, qs_copy, mz_at, show ¬ (ql_S L + 1 = x.toNatClampNeg) by omega]) dX4_deliver_84 ?_
        exact mz_iret hx hb hr hlk qK_ok hK hS hG dX4_deliver_87 (by rw [qs_deliver, if_neg (not_not_intro h0), if_neg h1]; first | rw [if_pos (Decidable.not_not.mp h2)] | rw [if_neg h2]) (by rw [qs_deliver, if_neg (not_not_intro h0), if_neg h1]; first | rw [if_pos (Decidable.not_not.mp h2)] | rw [if_neg h2])
    · refine lv_bipush (v := (-5)) hx hb dX4_deliver_24 (by decide) ?_
      exact mz_iret hx hb hr hlk qK_ok hK hS hG dX4_deliver_26 (by rw [qs_deliver, if_neg (not_not_intro h0), if_pos h1]) (by rw [qs_deliver, if_neg (not_not_intro h0), if_pos h1])
  · refine lv_iconst (v := (-1)) hx hb dX4_deliver_11 (by decide) ?_
    exact mz_iret hx hb hr hlk qK_ok hK hS hG dX4_deliver_12 (by rw [qs_deliver, if_pos h0]) (by rw [qs_deliver, if_pos h0])

set_option maxRecDepth 100000 in
set_option maxHeartbeats 4000000 in
theorem qc_drop (l : Launch) (D : va_G) (L : qL) (hL : qL_ok L) (u : mz_S) (x : Int32) : mz_Ci l (qG D L) (qK D L) (qA L) yX4_drop (tz_w yX4_drop cX4_drop 2 (some .int)) ({ frames := 1, cells := 0, slots := 0, locals := 21 } : Room) [.ref (L.1 0 0), .int x] u ((qs_drop (ql_S L) u x).2) ((qs_drop (ql_S L) u x).1) := by
  refine mz_Ci.of (cc := cX4_drop) (maxL := 2) (ret := (some .int)) (by decide) rfl (Nat.le_of_ble_eq_true rfl) ?_
  intro p e s m args below meth c ls hx hb hr hlk hml hown hts hl hG hK hS
  have hl : lv_has ls 2 [(0, .ref (L.1 0 0)), (1, .int x)] := hl
  have htz : ∀ w ∈ tz, w.before args s = true := fun w h => hts w (List.mem_cons_of_mem _ h)
  have hc12 : ql_c L ≤ 12 := hL.1.2.2.2.1
  have hn5 : ql_n L ≤ 5 := hL.1.2.1
  have h40 : ql_S L ≤ 40 := hL.1.2.2.2.2.2
  refine lv_aload_n hx hb dX4_drop_0 rfl (lv_at hl 0 rfl) ?_
  refine qg_0 (f := 1) hx hb htz tin_X4 hown hK hG (by decide) (htz _ fX4_27) (by decide) rfl dX4_drop_1 ?_
  refine lv_iload_n hx hb dX4_drop_4 rfl (lv_at hl 1 rfl) ?_
  refine mz_Ni (As := [.int _]) (rest := []) ⟨hx, hb, hml, hown, hts⟩ (qc_isSlot l D L hL _ _) (tz_N htz mX2_isSlot (hK.2 _ nX4_114) rfl rfl ⟨Nat.le_of_ble_eq_true rfl, Nat.le_of_ble_eq_true rfl⟩) (qrecv_9 hK hG (by decide)) qK_ok hK hG hS rfl hl.1 rfl (Nat.le_of_ble_eq_true rfl) dX4_drop_5 ⟨Nat.zero_le _, Nat.zero_le _⟩ (fun H locs hG hS => ?_)
  refine mz_ifne_b hx hb dX4_drop_8 (tgt := 13) rfl (fun h0 => ?_) (fun h0 => ?_)
  · refine lv_aload_n hx hb dX4_drop_13 rfl (lv_at hl 0 rfl) ?_
    refine qg_0 (f := 1) hx hb htz tin_X4 hown hK hG (by decide) (htz _ fX4_27) (by decide) rfl dX4_drop_14 ?_
    refine lv_iload_n hx hb dX4_drop_17 rfl (lv_at hl 1 rfl) ?_
    refine mz_Ni (As := [.int _]) (rest := []) ⟨hx, hb, hml, hown, hts⟩ (qc_isFree l D L hL _ _ (nz_in (by omega) h0)) (tz_N htz mX2_isFree (hK.2 _ nX4_117) rfl rfl ⟨Nat.le_of_ble_eq_true rfl, Nat.le_of_ble_eq_true rfl⟩) (qrecv_9 hK hG (by decide)) qK_ok hK hG hS rfl hl.1 rfl (Nat.le_of_ble_eq_true rfl) dX4_drop_18 ⟨Nat.zero_le _, Nat.zero_le _⟩ (fun H locs hG hS => ?_)
    refine mz_ifeq_b hx hb dX4_drop_21 (tgt := 27) rfl (fun h1 => ?_) (fun h1 => ?_)
    · refine lv_aload_n hx hb dX4_drop_27 rfl (lv_at hl 0 rfl) ?_
      refine qg_0 (f := 1) hx hb htz tin_X4 hown hK hG (by decide) (htz _ fX4_27) (by decide) rfl dX4_drop_28 ?_
      refine lv_iload_n hx hb dX4_drop_31 rfl (lv_at hl 1 rfl) ?_
      refine mz_Nv (As := [.int _]) (rest := []) ⟨hx, hb, hml, hown, hts⟩ (qc_clear l D L hL _ _ (nz_in (by omega) h0)) (tz_N htz mX2_clear (hK.2 _ nX4_128) rfl rfl ⟨Nat.le_of_ble_eq_true rfl, Nat.le_of_ble_eq_true rfl⟩) (qrecv_9 hK hG (by decide)) qK_ok hK hG hS rfl hl.1 rfl (Nat.le_of_ble_eq_true rfl) dX4_drop_32 ⟨Nat.zero_le _, Nat.zero_le _⟩ (fun H locs hG hS => ?_)
      refine lv_iconst (v := 0) hx hb dX4_drop_35 (by decide) ?_
      exact mz_iret hx hb hr hlk qK_ok hK hS hG dX4_drop_36 (by rw [qs_drop, if_neg (not_not_intro h0), if_neg h1]) (by rw [qs_drop, if_neg (not_not_intro h0), if_neg h1])
    · refine lv_bipush (v := (-5)) hx hb dX4_drop_24 (by decide) ?_
      exact mz_iret hx hb hr hlk qK_ok hK hS hG dX4_drop_26 (by rw [qs_drop, if_neg (not_not_intro h0), if_pos h1]) (by rw [qs_drop, if_neg (not_not_intro h0), if_pos h1])
  · refine lv_iconst (v := (-1)) hx hb dX4_drop_11 (by decide) ?_
    exact mz_iret hx hb hr hlk qK_ok hK hS hG dX4_drop_12 (by rw [qs_drop, if_pos h0]) (by rw [qs_drop, if_pos h0])

set_option maxRecDepth 100000 in
set_option maxHeartbeats 4000000 in
theorem qc_duplicate (l : Launch) (D : va_G) (L : qL) (hL : qL_ok L) (u : mz_S) (x : Int32) : mz_Ci l (qG D L) (qK D L) (qA L) yX4_duplicate (tz_w yX4_duplicate cX4_duplicate 2 (some .int)) ({ frames := 2, cells := 0, slots := 0, locals := 43 } : Room) [.ref (L.1 0 0), .int x] u ((qs_duplicate (ql_S L) u x).2) ((qs_duplicate (ql_S L) u x).1) := by
  refine mz_Ci.of (cc := cX4_duplicate) (maxL := 2) (ret := (some .int)) (by decide) rfl (Nat.le_of_ble_eq_true rfl) ?_
  intro p e s m args below meth c ls hx hb hr hlk hml hown hts hl hG hK hS
  have hl : lv_has ls 2 [(0, .ref (L.1 0 0)), (1, .int x)] := hl
  have htz : ∀ w ∈ tz, w.before args s = true := fun w h => hts w (List.mem_cons_of_mem _ h)
  have hc12 : ql_c L ≤ 12 := hL.1.2.2.2.1
  have hn5 : ql_n L ≤ 5 := hL.1.2.1
  have h40 : ql_S L ≤ 40 := hL.1.2.2.2.2.2
  refine lv_aload_n hx hb dX4_duplicate_0 rfl (lv_at hl 0 rfl) ?_
  refine qg_0 (f := 1) hx hb htz tin_X4 hown hK hG (by decide) (htz _ fX4_27) (by decide) rfl dX4_duplicate_1 ?_
  refine lv_iload_n hx hb dX4_duplicate_4 rfl (lv_at hl 1 rfl) ?_
  refine mz_Ni (As := [.int _]) (rest := []) ⟨hx, hb, hml, hown, hts⟩ (qc_isSlot l D L hL _ _) (tz_N htz mX2_isSlot (hK.2 _ nX4_114) rfl rfl ⟨Nat.le_of_ble_eq_true rfl, Nat.le_of_ble_eq_true rfl⟩) (qrecv_9 hK hG (by decide)) qK_ok hK hG hS rfl hl.1 rfl (Nat.le_of_ble_eq_true rfl) dX4_duplicate_5 ⟨Nat.zero_le _, Nat.zero_le _⟩ (fun H locs hG hS => ?_)
  refine mz_ifne_b hx hb dX4_duplicate_8 (tgt := 13) rfl (fun h0 => ?_) (fun h0 => ?_)
  · refine lv_aload_n hx hb dX4_duplicate_13 rfl (lv_at hl 0 rfl) ?_
    refine qg_0 (f := 1) hx hb htz tin_X4 hown hK hG (by decide) (htz _ fX4_27) (by decide) rfl dX4_duplicate_14 ?_
    refine lv_iload_n hx hb dX4_duplicate_17 rfl (lv_at hl 1 rfl) ?_
    refine mz_Ni (As := [.int _]) (rest := []) ⟨hx, hb, hml, hown, hts⟩ (qc_isFree l D L hL _ _ (nz_in (by omega) h0)) (tz_N htz mX2_isFree (hK.2 _ nX4_117) rfl rfl ⟨Nat.le_of_ble_eq_true rfl, Nat.le_of_ble_eq_true rfl⟩) (qrecv_9 hK hG (by decide)) qK_ok hK hG hS rfl hl.1 rfl (Nat.le_of_ble_eq_true rfl) dX4_duplicate_18 ⟨Nat.zero_le _, Nat.zero_le _⟩ (fun H locs hG hS => ?_)
    refine mz_ifeq_b hx hb dX4_duplicate_21 (tgt := 27) rfl (fun h1 => ?_) (fun h1 => ?_)
    · refine lv_aload_n hx hb dX4_duplicate_27 rfl (lv_at hl 0 rfl) ?_
      refine qg_0 (f := 1) hx hb htz tin_X4 hown hK hG (by decide) (htz _ fX4_27) (by decide) rfl dX4_duplicate_28 ?_
      refine lv_aload_n hx hb dX4_duplicate_31 rfl (lv_at hl 0 rfl) ?_
      refine qg_0 (f := 1) hx hb htz tin_X4 hown hK hG (by decide) (htz _ fX4_27) (by decide) rfl dX4_duplicate_32 ?_
      refine qgN_9 (f := 0) hx hb htz tin_X2 hown hK hG (by decide) (va_Nw.use rfl (hK.2 _ nX4_120)) (by decide) rfl dX4_duplicate_35 ?_
      refine lv_iload_n hx hb dX4_duplicate_38 rfl (lv_at hl 1 rfl) ?_
      have hj : x.toNatClampNeg < ql_S L := nz_cl (nz_in (by omega) h0)
      refine qa_10 hx hb hK hG (by decide) (nz_in (by omega) h0) dX4_duplicate_39 ?_
      refine mz_Ni (As := [.ref _]) (rest := []) ⟨hx, hb, hml, hown, hts⟩ (qc_put l D L hL _ x.toNatClampNeg (by omega)) (tz_N htz mX2_put (hK.2 _ nX4_141) rfl rfl ⟨Nat.le_of_ble_eq_true rfl, Nat.le_of_ble_eq_true rfl⟩) (qrecv_9 hK hG (by decide)) qK_ok hK hG hS rfl hl.1 rfl (Nat.le_of_ble_eq_true rfl) dX4_duplicate_40 ⟨Nat.zero_le _, Nat.zero_le _⟩ (fun H locs hG hS => ?_)
      exact mz_iret hx hb hr hlk qK_ok hK hS hG dX4_duplicate_43 (by rw [qs_duplicate, if_neg (not_not_intro h0), if_neg h1]) (by rw [qs_duplicate, if_neg (not_not_intro h0), if_neg h1])
    · refine lv_bipush (v := (-5)) hx hb dX4_duplicate_24 (by decide) ?_
      exact mz_iret hx hb hr hlk qK_ok hK hS hG dX4_duplicate_26 (by rw [qs_duplicate, if_neg (not_not_intro h0), if_pos h1]) (by rw [qs_duplicate, if_neg (not_not_intro h0), if_pos h1])
  · refine lv_iconst (v := (-1)) hx hb dX4_duplicate_11 (by decide) ?_
    exact mz_iret hx hb hr hlk qK_ok hK hS hG dX4_duplicate_12 (by rw [qs_duplicate, if_pos h0]) (by rw [qs_duplicate, if_pos h0])

set_option maxRecDepth 100000 in
set_option maxHeartbeats 4000000 in
theorem qc_crash (l : Launch) (D : va_G) (L : qL) (hL : qL_ok L) (u : mz_S) (x : Int32) : mz_Ci l (qG D L) (qK D L) (qA L) yX4_crash (tz_w yX4_crash cX4_crash 3 (some .int)) ({ frames := 1, cells := 0, slots := 0, locals := 21 } : Room) [.ref (L.1 0 0), .int x] u ((qs_crash (ql_n L) u x).2) ((qs_crash (ql_n L) u x).1) := by
  refine mz_Ci.of (cc := cX4_crash) (maxL := 3) (ret := (some .int)) (by decide) rfl (Nat.le_of_ble_eq_true rfl) ?_
  intro p e s m args below meth c ls hx hb hr hlk hml hown hts hl hG hK hS
  have hl : lv_has ls 3 [(0, .ref (L.1 0 0)), (1, .int x)] := hl
  have htz : ∀ w ∈ tz, w.before args s = true := fun w h => hts w (List.mem_cons_of_mem _ h)
  have hc12 : ql_c L ≤ 12 := hL.1.2.2.2.1
  have hn5 : ql_n L ≤ 5 := hL.1.2.1
  have h40 : ql_S L ≤ 40 := hL.1.2.2.2.2.2
  refine lv_aload_n hx hb dX4_crash_0 rfl (lv_at hl 0 rfl) ?_
  refine lv_iload_n hx hb dX4_crash_1 rfl (lv_at hl 1 rfl) ?_
  refine mz_Vi (As := [.int _]) (rest := []) ⟨hx, hb, hml, hown, hts⟩ (qc_isNode l D L hL _ _) (tz_V htz mX4_isNode lX4_41 rfl rfl ⟨Nat.le_of_ble_eq_true rfl, Nat.le_of_ble_eq_true rfl⟩) (qrecv_0 hK hG (by decide)) qK_ok hK hG hS rfl hl.1 rfl (Nat.le_of_ble_eq_true rfl) dX4_crash_2 ⟨Nat.zero_le _, Nat.zero_le _⟩ (fun H locs hG hS => ?_)
  refine mz_ifne_b hx hb dX4_crash_5 (tgt := 10) rfl (fun h0 => ?_) (fun h0 => ?_)
  · refine lv_aload_n hx hb dX4_crash_10 rfl (lv_at hl 0 rfl) ?_
    refine qg_0 (f := 0) hx hb htz tin_X4 hown hK hG (by decide) (htz _ fX4_15) (by decide) rfl dX4_crash_11 ?_
    refine lv_iload_n hx hb dX4_crash_14 rfl (lv_at hl 1 rfl) ?_
    have hi : x.toNatClampNeg < ql_n L := nz_cl (nz_in (by omega) h0)
    refine qa_1 hx hb hK hG (by decide) (nz_in (by omega) h0) dX4_crash_15 ?_
    refine lv_astore_n hx hb dX4_crash_16 rfl hl (by decide) rfl (fun ls hl => ?_)
    have hl : lv_has ls 3 [(2, .ref _), (0, .ref _), (1, .int _)] := hl
    refine lv_aload_n hx hb dX4_crash_17 rfl (lv_at hl 0 rfl) ?_
    refine qgN_2 (f := 1) hx hb htz tin_X3 hown hK hG hi (va_Nw.use rfl (hK.2 _ nX4_45)) (by decide) rfl dX4_crash_18 ?_
    refine mz_ifne_b hx hb dX4_crash_21 (tgt := 27) rfl (fun h1 => ?_) (fun h1 => ?_)
    · refine lv_aload_n hx hb dX4_crash_27 rfl (lv_at hl 0 rfl) ?_
      refine lv_iconst (v := 0) hx hb dX4_crash_28 (by decide) ?_
      refine qpN_2_1 hx hb htz tin_X3 hown hL hK hG hS hi (va_Nw.use rfl (hK.2 _ nX4_45)) (by decide) dX4_crash_29 (fun H locs hG hS => ?_)
      refine lv_aload_n hx hb dX4_crash_32 rfl (lv_at hl 0 rfl) ?_
      refine lv_iconst (v := 0) hx hb dX4_crash_33 (by decide) ?_
      refine qpN_2_2 hx hb htz tin_X3 hown hL hK hG hS hi (va_Nw.use rfl (hK.2 _ nX4_49)) dX4_crash_34 (fun H locs hG hS => ?_)
      refine lv_iconst (v := 0) hx hb dX4_crash_37 (by decide) ?_
      exact mz_iret hx hb hr hlk qK_ok hK hS hG dX4_crash_38 (by rw [qs_crash, if_neg (not_not_intro h0), if_neg h1]) (by rw [qs_crash, if_neg (not_not_intro h0), if_neg h1])
    · refine lv_bipush (v := (-2)) hx hb dX4_crash_24 (by decide) ?_
      exact mz_iret hx hb hr hlk qK_ok hK hS hG dX4_crash_26 (by rw [qs_crash, if_neg (not_not_intro h0), if_pos (Decidable.not_not.mp h1)]) (by rw [qs_crash, if_neg (not_not_intro h0), if_pos (Decidable.not_not.mp h1)])
  · refine lv_iconst (v := (-1)) hx hb dX4_crash_8 (by decide) ?_
    exact mz_iret hx hb hr hlk qK_ok hK hS hG dX4_crash_9 (by rw [qs_crash, if_pos h0]) (by rw [qs_crash, if_pos h0])

set_option maxRecDepth 100000 in
set_option maxHeartbeats 4000000 in
theorem qc_restart (l : Launch) (D : va_G) (L : qL) (hL : qL_ok L) (u : mz_S) (x : Int32) : mz_Ci l (qG D L) (qK D L) (qA L) yX4_restart (tz_w yX4_restart cX4_restart 3 (some .int)) ({ frames := 1, cells := 0, slots := 0, locals := 21 } : Room) [.ref (L.1 0 0), .int x] u ((qs_restart (ql_n L) u x).2) ((qs_restart (ql_n L) u x).1) := by
  refine mz_Ci.of (cc := cX4_restart) (maxL := 3) (ret := (some .int)) (by decide) rfl (Nat.le_of_ble_eq_true rfl) ?_
  intro p e s m args below meth c ls hx hb hr hlk hml hown hts hl hG hK hS
  have hl : lv_has ls 3 [(0, .ref (L.1 0 0)), (1, .int x)] := hl
  have htz : ∀ w ∈ tz, w.before args s = true := fun w h => hts w (List.mem_cons_of_mem _ h)
  have hc12 : ql_c L ≤ 12 := hL.1.2.2.2.1
  have hn5 : ql_n L ≤ 5 := hL.1.2.1
  have h40 : ql_S L ≤ 40 := hL.1.2.2.2.2.2
  refine lv_aload_n hx hb dX4_restart_0 rfl (lv_at hl 0 rfl) ?_
  refine lv_iload_n hx hb dX4_restart_1 rfl (lv_at hl 1 rfl) ?_
  refine mz_Vi (As := [.int _]) (rest := []) ⟨hx, hb, hml, hown, hts⟩ (qc_isNode l D L hL _ _) (tz_V htz mX4_isNode lX4_41 rfl rfl ⟨Nat.le_of_ble_eq_true rfl, Nat.le_of_ble_eq_true rfl⟩) (qrecv_0 hK hG (by decide)) qK_ok hK hG hS rfl hl.1 rfl (Nat.le_of_ble_eq_true rfl) dX4_restart_2 ⟨Nat.zero_le _, Nat.zero_le _⟩ (fun H locs hG hS => ?_)
  refine mz_ifne_b hx hb dX4_restart_5 (tgt := 10) rfl (fun h0 => ?_) (fun h0 => ?_)
  · refine lv_aload_n hx hb dX4_restart_10 rfl (lv_at hl 0 rfl) ?_
    refine qg_0 (f := 0) hx hb htz tin_X4 hown hK hG (by decide) (htz _ fX4_15) (by decide) rfl dX4_restart_11 ?_
    refine lv_iload_n hx hb dX4_restart_14 rfl (lv_at hl 1 rfl) ?_
    have hi : x.toNatClampNeg < ql_n L := nz_cl (nz_in (by omega) h0)
    refine qa_1 hx hb hK hG (by decide) (nz_in (by omega) h0) dX4_restart_15 ?_
    refine lv_astore_n hx hb dX4_restart_16 rfl hl (by decide) rfl (fun ls hl => ?_)
    have hl : lv_has ls 3 [(2, .ref _), (0, .ref _), (1, .int _)] := hl
    refine lv_aload_n hx hb dX4_restart_17 rfl (lv_at hl 0 rfl) ?_
    refine qgN_2 (f := 1) hx hb htz tin_X3 hown hK hG hi (va_Nw.use rfl (hK.2 _ nX4_45)) (by decide) rfl dX4_restart_18 ?_
    refine mz_ifeq_b hx hb dX4_restart_21 (tgt := 27) rfl (fun h1 => ?_) (fun h1 => ?_)
    · refine lv_aload_n hx hb dX4_restart_27 rfl (lv_at hl 0 rfl) ?_
      refine lv_iconst (v := 1) hx hb dX4_restart_28 (by decide) ?_
      refine qpN_2_1 hx hb htz tin_X3 hown hL hK hG hS hi (va_Nw.use rfl (hK.2 _ nX4_45)) (by decide) dX4_restart_29 (fun H locs hG hS => ?_)
      refine lv_aload_n hx hb dX4_restart_32 rfl (lv_at hl 0 rfl) ?_
      refine lv_iconst (v := 0) hx hb dX4_restart_33 (by decide) ?_
      refine qpN_2_2 hx hb htz tin_X3 hown hL hK hG hS hi (va_Nw.use rfl (hK.2 _ nX4_49)) dX4_restart_34 (fun H locs hG hS => ?_)
      refine lv_aload_n hx hb dX4_restart_37 rfl (lv_at hl 0 rfl) ?_
      refine lv_aload_n hx hb dX4_restart_38 rfl (lv_at hl 0 rfl) ?_
      refine qgN_2 (f := 6) hx hb htz tin_X3 hown hK hG hi (va_Nw.use rfl (hK.2 _ nX4_72)) (by decide) rfl dX4_restart_39 ?_
      refine qgN_3 (f := 0) (v := .int (u 3 x.toNatClampNeg 0)) hx hb htz tin_X0 hown hK hG hi (va_Nw.use rfl (hK.2 _ nX4_76)) (by decide) (by simp [qf3, mz_at]) dX4_restart_42 ?_
      refine qpN_2_5 hx hb htz tin_X3 hown hL hK hG hS hi (va_Nw.use rfl (hK.2 _ nX4_101)) dX4_restart_45 (fun H locs hG hS => ?_)
      refine lv_iconst (v := 0) hx hb dX4_restart_48 (by decide) ?_
      exact mz_iret hx hb hr hlk qK_ok hK hS hG dX4_restart_49 (by rw [qs_restart, if_neg (not_not_intro h0), if_neg h1]) (by rw [qs_restart, if_neg (not_not_intro h0), if_neg h1])
    · refine lv_bipush (v := (-2)) hx hb dX4_restart_24 (by decide) ?_
      exact mz_iret hx hb hr hlk qK_ok hK hS hG dX4_restart_26 (by rw [qs_restart, if_neg (not_not_intro h0), if_pos h1]) (by rw [qs_restart, if_neg (not_not_intro h0), if_pos h1])
  · refine lv_iconst (v := (-1)) hx hb dX4_restart_8 (by decide) ?_
    exact mz_iret hx hb hr hlk qK_ok hK hS hG dX4_restart_9 (by rw [qs_restart, if_pos h0]) (by rw [qs_restart, if_pos h0])
