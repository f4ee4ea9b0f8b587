set_option maxRecDepth 100000 in
set_option maxHeartbeats 4000000 in
theorem qc_isNode (l : Launch) (D : va_G) (L : qL) (hL : qL_ok L) (u : mz_S) (x : Int32) : mz_Ci l (qG D L) (qK D L) (qA L) yX4_isNode (tz_w yX4_isNode cX4_isNode 2 (some .boolean)) ({ frames := 0, cells := 0, slots := 0, locals := 0 } : Room) [.ref (L.1 0 0), .int x] u (mz_b (qs_isN (ql_n L) x)) (u) := by
  refine mz_Ci.of (cc := cX4_isNode) (maxL := 2) (ret := (some .boolean)) (by decide) rfl (Nat.le_of_ble_eq_true rfl) ?_
  intro p e s m args below meth c ls hx hb hr hlk hml hown hts hl hG hK hS
  have hl : lv_has ls 2 [(0, .ref (L.1 0 0)), (1, .int x)] := hl
  have htz : ∀ w ∈ tz, w.before args s = true := fun w h => hts w (List.mem_cons_of_mem _ h)
  refine lv_iload_n hx hb dX4_isNode_0 rfl (lv_at hl 1 rfl) ?_
  refine mz_if_lt hx hb dX4_isNode_1 (tgt := 17) rfl (fun h_1 h_1' => ?_) (fun h_1 h_1' => ?_)
  · refine lv_iconst (v := 0) hx hb dX4_isNode_17 (by decide) ?_
    exact mz_zret hx hb hr hlk qK_ok hK hS hG dX4_isNode_18 (by decide) (by simp [mz_b, qs_isN, h_1, h_1']) rfl
  · refine lv_iload_n hx hb dX4_isNode_4 rfl (lv_at hl 1 rfl) ?_
    refine lv_aload_n hx hb dX4_isNode_5 rfl (lv_at hl 0 rfl) ?_
    refine qg_0 (f := 0) hx hb htz tin_X4 hown hK hG (by decide) (htz _ fX4_15) (by decide) rfl dX4_isNode_6 ?_
    refine qz_1 hx hb hK hG (by decide) dX4_isNode_9 ?_
    refine mz_icmp_ge hx hb dX4_isNode_10 (tgt := 17) rfl (fun h_2 h_2' => ?_) (fun h_2 h_2' => ?_)
    · refine lv_iconst (v := 0) hx hb dX4_isNode_17 (by decide) ?_
      exact mz_zret hx hb hr hlk qK_ok hK hS hG dX4_isNode_18 (by decide) (by simp [mz_b, qs_isN, h_1, h_1', h_2, h_2']) rfl
    · refine lv_iconst (v := 1) hx hb dX4_isNode_13 (by decide) ?_
      refine lv_goto hx hb dX4_isNode_14 (tgt := 18) rfl ?_
      exact mz_zret hx hb hr hlk qK_ok hK hS hG dX4_isNode_18 (by decide) (by simp [mz_b, qs_isN, h_1, h_1', h_2, h_2']) rfl

set_option maxRecDepth 100000 in
set_option maxHeartbeats 4000000 in
theorem qc_areTwoNodes (l : Launch) (D : va_G) (L : qL) (hL : qL_ok L) (u : mz_S) (x y : Int32) : mz_Ci l (qG D L) (qK D L) (qA L) yX4_areTwoNodes (tz_w yX4_areTwoNodes cX4_areTwoNodes 3 (some .boolean)) ({ frames := 1, cells := 0, slots := 0, locals := 21 } : Room) [.ref (L.1 0 0), .int x, .int y] u (mz_b (qs_two (ql_n L) x y)) (u) := by
  refine mz_Ci.of (cc := cX4_areTwoNodes) (maxL := 3) (ret := (some .boolean)) (by decide) rfl (Nat.le_of_ble_eq_true rfl) ?_
  intro p e s m args below meth c ls hx hb hr hlk hml hown hts hl hG hK hS
  have hl : lv_has ls 3 [(0, .ref (L.1 0 0)), (1, .int x), (2, .int y)] := hl
  have htz : ∀ w ∈ tz, w.before args s = true := fun w h => hts w (List.mem_cons_of_mem _ h)
  refine lv_aload_n hx hb dX4_areTwoNodes_0 rfl (lv_at hl 0 rfl) ?_
  refine lv_iload_n hx hb dX4_areTwoNodes_1 rfl (lv_at hl 1 rfl) ?_
  refine mz_Vi (As := [.int _]) (rest := []) ⟨hx, hb, hml, hown, hts⟩ (qc_isNode l D L hL _ _) (tz_V htz mX4_isNode lX4_41 rfl rfl ⟨Nat.le_of_ble_eq_true rfl, Nat.le_of_ble_eq_true rfl⟩) (qrecv_0 hK hG (by decide)) qK_ok hK hG hS rfl hl.1 rfl (Nat.le_of_ble_eq_true rfl) dX4_areTwoNodes_2 ⟨Nat.zero_le _, Nat.zero_le _⟩ (fun H locs hG hS => ?_)
  refine mz_ifeq_b hx hb dX4_areTwoNodes_5 (tgt := 25) rfl (fun h0 => ?_) (fun h0 => ?_)
  · refine lv_iconst (v := 0) hx hb dX4_areTwoNodes_25 (by decide) ?_
    exact mz_zret hx hb hr hlk qK_ok hK hS hG dX4_areTwoNodes_26 (by decide) (by first | exact (mz_b_f (fun z => h0 z.1)).symm | exact (mz_b_f (fun z => h1 z.2.1)).symm | exact (mz_b_f (fun z => z.2.2 h2)).symm | exact (mz_b_t ⟨h0, h1, h2⟩).symm) rfl
  · refine lv_aload_n hx hb dX4_areTwoNodes_8 rfl (lv_at hl 0 rfl) ?_
    refine lv_iload_n hx hb dX4_areTwoNodes_9 rfl (lv_at hl 2 rfl) ?_
    refine mz_Vi (As := [.int _]) (rest := []) ⟨hx, hb, hml, hown, hts⟩ (qc_isNode l D L hL _ _) (tz_V htz mX4_isNode lX4_41 rfl rfl ⟨Nat.le_of_ble_eq_true rfl, Nat.le_of_ble_eq_true rfl⟩) (qrecv_0 hK hG (by decide)) qK_ok hK hG hS rfl hl.1 rfl (Nat.le_of_ble_eq_true rfl) dX4_areTwoNodes_10 ⟨Nat.zero_le _, Nat.zero_le _⟩ (fun H locs hG hS => ?_)
    refine mz_ifeq_b hx hb dX4_areTwoNodes_13 (tgt := 25) rfl (fun h1 => ?_) (fun h1 => ?_)
    · refine lv_iconst (v := 0) hx hb dX4_areTwoNodes_25 (by decide) ?_
      exact mz_zret hx hb hr hlk qK_ok hK hS hG dX4_areTwoNodes_26 (by decide) (by first | exact (mz_b_f (fun z => h0 z.1)).symm | exact (mz_b_f (fun z => h1 z.2.1)).symm | exact (mz_b_f (fun z => z.2.2 h2)).symm | exact (mz_b_t ⟨h0, h1, h2⟩).symm) rfl
    · refine lv_iload_n hx hb dX4_areTwoNodes_16 rfl (lv_at hl 1 rfl) ?_
      refine lv_iload_n hx hb dX4_areTwoNodes_17 rfl (lv_at hl 2 rfl) ?_
      refine lv_icmp_eq hx hb dX4_areTwoNodes_18 (tgt := 25) rfl (fun h2 => ?_) (fun h2 => ?_)
      · refine lv_iconst (v := 0) hx hb dX4_areTwoNodes_25 (by decide) ?_
        exact mz_zret hx hb hr hlk qK_ok hK hS hG dX4_areTwoNodes_26 (by decide) (by first | exact (mz_b_f (fun z => h0 z.1)).symm | exact (mz_b_f (fun z => h1 z.2.1)).symm | exact (mz_b_f (fun z => z.2.2 h2)).symm | exact (mz_b_t ⟨h0, h1, h2⟩).symm) rfl
      · refine lv_iconst (v := 1) hx hb dX4_areTwoNodes_21 (by decide) ?_
        refine lv_goto hx hb dX4_areTwoNodes_22 (tgt := 26) rfl ?_
        exact mz_zret hx hb hr hlk qK_ok hK hS hG dX4_areTwoNodes_26 (by decide) (by first | exact (mz_b_f (fun z => h0 z.1)).symm | exact (mz_b_f (fun z => h1 z.2.1)).symm | exact (mz_b_f (fun z => z.2.2 h2)).symm | exact (mz_b_t ⟨h0, h1, h2⟩).symm) rfl

set_option maxRecDepth 100000 in
set_option maxHeartbeats 4000000 in
theorem qc_isMajority (l : Launch) (D : va_G) (L : qL) (hL : qL_ok L) (u : mz_S) (k : Int32) : mz_Ci l (qG D L) (qK D L) (qA L) yX4_isMajority (tz_w yX4_isMajority cX4_isMajority 2 (some .boolean)) ({ frames := 0, cells := 0, slots := 0, locals := 0 } : Room) [.ref (L.1 0 0), .int k] u (mz_b (qs_maj (ql_n L) k)) (u) := by
  refine mz_Ci.of (cc := cX4_isMajority) (maxL := 2) (ret := (some .boolean)) (by decide) rfl (Nat.le_of_ble_eq_true rfl) ?_
  intro p e s m args below meth c ls hx hb hr hlk hml hown hts hl hG hK hS
  have hl : lv_has ls 2 [(0, .ref (L.1 0 0)), (1, .int k)] := hl
  have htz : ∀ w ∈ tz, w.before args s = true := fun w h => hts w (List.mem_cons_of_mem _ h)
  refine lv_iconst (v := 2) hx hb dX4_isMajority_0 (by decide) ?_
  refine lv_iload_n hx hb dX4_isMajority_1 rfl (lv_at hl 1 rfl) ?_
  refine lv_imul hx hb dX4_isMajority_2 ?_
  refine lv_aload_n hx hb dX4_isMajority_3 rfl (lv_at hl 0 rfl) ?_
  refine qg_0 (f := 0) hx hb htz tin_X4 hown hK hG (by decide) (htz _ fX4_15) (by decide) rfl dX4_isMajority_4 ?_
  refine qz_1 hx hb hK hG (by decide) dX4_isMajority_7 ?_
  refine mz_icmp_le hx hb dX4_isMajority_8 (tgt := 15) rfl (fun h_1 h_1' => ?_) (fun h_1 h_1' => ?_)
  · refine lv_iconst (v := 0) hx hb dX4_isMajority_15 (by decide) ?_
    exact mz_zret hx hb hr hlk qK_ok hK hS hG dX4_isMajority_16 (by decide) (by simp [mz_b, qs_maj, h_1, h_1']) rfl
  · refine lv_iconst (v := 1) hx hb dX4_isMajority_11 (by decide) ?_
    refine lv_goto hx hb dX4_isMajority_12 (tgt := 16) rfl ?_
    exact mz_zret hx hb hr hlk qK_ok hK hS hG dX4_isMajority_16 (by decide) (by simp [mz_b, qs_maj, h_1, h_1']) rfl

set_option maxRecDepth 100000 in
set_option maxHeartbeats 4000000 in
theorem qc_sendAsk (l : Launch) (D : va_G) (L : qL) (hL : qL_ok L) (u : mz_S) (i : Nat) (hi : i < ql_n L) (t : Int32) (hw : qw (ql_c L) u i) : mz_Cv l (qG D L) (qK D L) (qA L) yX4_sendAsk (tz_w yX4_sendAsk cX4_sendAsk 3 none) ({ frames := 2, cells := 0, slots := 0, locals := 43 } : Room) [.ref (L.1 0 0), .ref (L.1 2 i), .int t] u (qs_sAsk (ql_S L) u i t) := by
  refine mz_Cv.of (cc := cX4_sendAsk) (maxL := 3) (ret := none) (by decide) rfl (Nat.le_of_ble_eq_true rfl) ?_
  intro p e s m args below meth c ls hx hb hr hlk hml hown hts hl hG hK hS
  have hl : lv_has ls 3 [(0, .ref (L.1 0 0)), (1, .ref (L.1 2 i)), (2, .int t)] := hl
  have htz : ∀ w ∈ tz, w.before args s = true := fun w h => hts w (List.mem_cons_of_mem _ h)
  refine lv_aload_n hx hb dX4_sendAsk_0 rfl (lv_at hl 0 rfl) ?_
  refine qg_0 (f := 2) hx hb htz tin_X4 hown hK hG (by decide) (htz _ fX4_34) (by decide) rfl dX4_sendAsk_1 ?_
  refine lv_iconst (v := 1) hx hb dX4_sendAsk_4 (by decide) ?_
  refine lv_aload_n hx hb dX4_sendAsk_5 rfl (lv_at hl 1 rfl) ?_
  refine qgN_2 (f := 0) hx hb htz tin_X3 hown hK hG hi (va_Nw.use rfl (hK.2 _ nX4_171)) (by decide) rfl dX4_sendAsk_6 ?_
  refine lv_iload_n hx hb dX4_sendAsk_9 rfl (lv_at hl 2 rfl) ?_
  refine lv_aload_n hx hb dX4_sendAsk_10 rfl (lv_at hl 1 rfl) ?_
  refine qgN_2 (f := 3) hx hb htz tin_X3 hown hK hG hi (va_Nw.use rfl (hK.2 _ nX4_91)) (by decide) rfl dX4_sendAsk_11 ?_
  refine mz_Nv (As := [.int _, .int _, .int _, .int _]) (rest := []) ⟨hx, hb, hml, hown, hts⟩ (qc_begin l D L hL _ (ql_S L) (by omega) _ _ _ _) (tz_N htz mX1_begin (hK.2 _ nX4_174) rfl rfl ⟨Nat.le_of_ble_eq_true rfl, Nat.le_of_ble_eq_true rfl⟩) (qrecv_11 hK hG (by omega)) qK_ok hK hG hS rfl hl.1 rfl (Nat.le_of_ble_eq_true rfl) dX4_sendAsk_14 ⟨Nat.zero_le _, Nat.zero_le _⟩ (fun H locs hG hS => ?_)
  refine lv_aload_n hx hb dX4_sendAsk_17 rfl (lv_at hl 0 rfl) ?_
  refine qg_0 (f := 2) hx hb htz tin_X4 hown hK hG (by decide) (htz _ fX4_34) (by decide) rfl dX4_sendAsk_18 ?_
  refine lv_aload_n hx hb dX4_sendAsk_21 rfl (lv_at hl 1 rfl) ?_
  refine qgN_2 (f := 6) hx hb htz tin_X3 hown hK hG hi (va_Nw.use rfl (hK.2 _ nX4_72)) (by decide) rfl dX4_sendAsk_22 ?_
  refine mz_Ni (As := []) (rest := [.ref _]) ⟨hx, hb, hml, hown, hts⟩ (qc_lastNumber l D L hL _ i hi) (tz_N htz mX0_lastNumber (hK.2 _ nX4_98) rfl rfl ⟨Nat.le_of_ble_eq_true rfl, Nat.le_of_ble_eq_true rfl⟩) (qrecv_3 hK hG hi) qK_ok hK hG hS rfl hl.1 rfl (Nat.le_of_ble_eq_true rfl) dX4_sendAsk_25 ⟨Nat.zero_le _, Nat.zero_le _⟩ (fun H locs hG hS => ?_)
  refine mz_topE (qs_last_same (u := u) (by simp [qs_begin, mz_at])) ?_
  refine qpN_11_4 hx hb htz tin_X1 hown hL hK hG hS (by omega) (va_Nw.use rfl (hK.2 _ nX4_178)) dX4_sendAsk_28 (fun H locs hG hS => ?_)
  refine lv_aload_n hx hb dX4_sendAsk_31 rfl (lv_at hl 0 rfl) ?_
  refine qg_0 (f := 2) hx hb htz tin_X4 hown hK hG (by decide) (htz _ fX4_34) (by decide) rfl dX4_sendAsk_32 ?_
  refine lv_aload_n hx hb dX4_sendAsk_35 rfl (lv_at hl 1 rfl) ?_
  refine qgN_2 (f := 6) hx hb htz tin_X3 hown hK hG hi (va_Nw.use rfl (hK.2 _ nX4_72)) (by decide) rfl dX4_sendAsk_36 ?_
  refine mz_Ni (As := []) (rest := [.ref _]) ⟨hx, hb, hml, hown, hts⟩ (qc_lastTerm l D L hL _ i hi (hw.same (by simp [qs_begin, mz_at]) (by simp [qs_begin, mz_at]))) (tz_N htz mX0_lastTerm (hK.2 _ nX4_181) rfl rfl ⟨Nat.le_of_ble_eq_true rfl, Nat.le_of_ble_eq_true rfl⟩) (qrecv_3 hK hG hi) qK_ok hK hG hS rfl hl.1 rfl (Nat.le_of_ble_eq_true rfl) dX4_sendAsk_39 ⟨Nat.zero_le _, Nat.zero_le _⟩ (fun H locs hG hS => ?_)
  refine mz_topE (qs_lastT_same (u := u) (by simp [qs_begin, mz_at]) (by simp [qs_begin, mz_at])) ?_
  refine qpN_11_5 hx hb htz tin_X1 hown hL hK hG hS (by omega) (va_Nw.use rfl (hK.2 _ nX4_184)) dX4_sendAsk_42 (fun H locs hG hS => ?_)
  refine lv_aload_n hx hb dX4_sendAsk_45 rfl (lv_at hl 0 rfl) ?_
  refine qg_0 (f := 1) hx hb htz tin_X4 hown hK hG (by decide) (htz _ fX4_27) (by decide) rfl dX4_sendAsk_46 ?_
  refine lv_aload_n hx hb dX4_sendAsk_49 rfl (lv_at hl 0 rfl) ?_
  refine qg_0 (f := 2) hx hb htz tin_X4 hown hK hG (by decide) (htz _ fX4_34) (by decide) rfl dX4_sendAsk_50 ?_
  refine mz_Ni (As := [.ref _]) (rest := []) ⟨hx, hb, hml, hown, hts⟩ (qc_put l D L hL _ (ql_S L) (by omega)) (tz_N htz mX2_put (hK.2 _ nX4_141) rfl rfl ⟨Nat.le_of_ble_eq_true rfl, Nat.le_of_ble_eq_true rfl⟩) (qrecv_9 hK hG (by decide)) qK_ok hK hG hS rfl hl.1 rfl (Nat.le_of_ble_eq_true rfl) dX4_sendAsk_53 ⟨Nat.zero_le _, Nat.zero_le _⟩ (fun H locs hG hS => ?_)
  refine lv_pop hx hb dX4_sendAsk_56 rfl ?_
  exact mz_vret hx hb hr hlk qK_ok hK hS hG dX4_sendAsk_57 rfl

set_option maxRecDepth 100000 in
set_option maxHeartbeats 4000000 in
theorem qc_sendVote (l : Launch) (D : va_G) (L : qL) (hL : qL_ok L) (u : mz_S) (i : Nat) (hi : i < ql_n L) (t g : Int32) (hg : mz_b (g ≠ 0) = g) : mz_Cv l (qG D L) (qK D L) (qA L) yX4_sendVote (tz_w yX4_sendVote cX4_sendVote 4 none) ({ frames := 2, cells := 0, slots := 0, locals := 43 } : Room) [.ref (L.1 0 0), .ref (L.1 2 i), .int t, .int g] u (qs_sVote (ql_S L) u i t g) := by
  refine mz_Cv.of (cc := cX4_sendVote) (maxL := 4) (ret := none) (by decide) rfl (Nat.le_of_ble_eq_true rfl) ?_
  intro p e s m args below meth c ls hx hb hr hlk hml hown hts hl hG hK hS
  have hl : lv_has ls 4 [(0, .ref (L.1 0 0)), (1, .ref (L.1 2 i)), (2, .int t), (3, .int g)] := hl
  have htz : ∀ w ∈ tz, w.before args s = true := fun w h => hts w (List.mem_cons_of_mem _ h)
  refine lv_aload_n hx hb dX4_sendVote_0 rfl (lv_at hl 0 rfl) ?_
  refine qg_0 (f := 2) hx hb htz tin_X4 hown hK hG (by decide) (htz _ fX4_34) (by decide) rfl dX4_sendVote_1 ?_
  refine lv_iconst (v := 2) hx hb dX4_sendVote_4 (by decide) ?_
  refine lv_aload_n hx hb dX4_sendVote_5 rfl (lv_at hl 1 rfl) ?_
  refine qgN_2 (f := 0) hx hb htz tin_X3 hown hK hG hi (va_Nw.use rfl (hK.2 _ nX4_171)) (by decide) rfl dX4_sendVote_6 ?_
  refine lv_iload_n hx hb dX4_sendVote_9 rfl (lv_at hl 2 rfl) ?_
  refine lv_aload_n hx hb dX4_sendVote_10 rfl (lv_at hl 1 rfl) ?_
  refine qgN_2 (f := 3) hx hb htz tin_X3 hown hK hG hi (va_Nw.use rfl (hK.2 _ nX4_91)) (by decide) rfl dX4_sendVote_11 ?_
  refine mz_Nv (As := [.int _, .int _, .int _, .int _]) (rest := []) ⟨hx, hb, hml, hown, hts⟩ (qc_begin l D L hL _ (ql_S L) (by omega) _ _ _ _) (tz_N htz mX1_begin (hK.2 _ nX4_174) rfl rfl ⟨Nat.le_of_ble_eq_true rfl, Nat.le_of_ble_eq_true rfl⟩) (qrecv_11 hK hG (by omega)) qK_ok hK hG hS rfl hl.1 rfl (Nat.le_of_ble_eq_true rfl) dX4_sendVote_14 ⟨Nat.zero_le _, Nat.zero_le _⟩ (fun H locs hG hS => ?_)
  refine lv_aload_n hx hb dX4_sendVote_17 rfl (lv_at hl 0 rfl) ?_
  refine qg_0 (f := 2) hx hb htz tin_X4 hown hK hG (by decide) (htz _ fX4_34) (by decide) rfl dX4_sendVote_18 ?_
  refine lv_iload_n hx hb dX4_sendVote_21 rfl (lv_at hl 3 rfl) ?_
  refine qpN_11_6 hx hb htz tin_X1 hown hL hK hG hS (by omega) (va_Nw.use rfl (hK.2 _ nX4_187)) hg dX4_sendVote_22 (fun H locs hG hS => ?_)
  refine lv_aload_n hx hb dX4_sendVote_25 rfl (lv_at hl 0 rfl) ?_
  refine qg_0 (f := 1) hx hb htz tin_X4 hown hK hG (by decide) (htz _ fX4_27) (by decide) rfl dX4_sendVote_26 ?_
  refine lv_aload_n hx hb dX4_sendVote_29 rfl (lv_at hl 0 rfl) ?_
  refine qg_0 (f := 2) hx hb htz tin_X4 hown hK hG (by decide) (htz _ fX4_34) (by decide) rfl dX4_sendVote_30 ?_
  refine mz_Ni (As := [.ref _]) (rest := []) ⟨hx, hb, hml, hown, hts⟩ (qc_put l D L hL _ (ql_S L) (by omega)) (tz_N htz mX2_put (hK.2 _ nX4_141) rfl rfl ⟨Nat.le_of_ble_eq_true rfl, Nat.le_of_ble_eq_true rfl⟩) (qrecv_9 hK hG (by decide)) qK_ok hK hG hS rfl hl.1 rfl (Nat.le_of_ble_eq_true rfl) dX4_sendVote_33 ⟨Nat.zero_le _, Nat.zero_le _⟩ (fun H locs hG hS => ?_)
  refine lv_pop hx hb dX4_sendVote_36 rfl ?_
  exact mz_vret hx hb hr hlk qK_ok hK hS hG dX4_sendVote_37 rfl

set_option maxRecDepth 100000 in
set_option maxHeartbeats 4000000 in
theorem qc_sendAppended (l : Launch) (D : va_G) (L : qL) (hL : qL_ok L) (u : mz_S) (i : Nat) (hi : i < ql_n L) (t g x : Int32) (hg : mz_b (g ≠ 0) = g) : mz_Cv l (qG D L) (qK D L) (qA L) yX4_sendAppended (tz_w yX4_sendAppended cX4_sendAppended 5 none) ({ frames := 2, cells := 0, slots := 0, locals := 43 } : Room) [.ref (L.1 0 0), .ref (L.1 2 i), .int t, .int g, .int x] u (qs_sAns (ql_S L) u i t g x) := by
  refine mz_Cv.of (cc := cX4_sendAppended) (maxL := 5) (ret := none) (by decide) rfl (Nat.le_of_ble_eq_true rfl) ?_
  intro p e s m args below meth c ls hx hb hr hlk hml hown hts hl hG hK hS
  have hl : lv_has ls 5 [(0, .ref (L.1 0 0)), (1, .ref (L.1 2 i)), (2, .int t), (3, .int g), (4, .int x)] := hl
  have htz : ∀ w ∈ tz, w.before args s = true := fun w h => hts w (List.mem_cons_of_mem _ h)
  refine lv_aload_n hx hb dX4_sendAppended_0 rfl (lv_at hl 0 rfl) ?_
  refine qg_0 (f := 2) hx hb htz tin_X4 hown hK hG (by decide) (htz _ fX4_34) (by decide) rfl dX4_sendAppended_1 ?_
  refine lv_iconst (v := 4) hx hb dX4_sendAppended_4 (by decide) ?_
  refine lv_aload_n hx hb dX4_sendAppended_5 rfl (lv_at hl 1 rfl) ?_
  refine qgN_2 (f := 0) hx hb htz tin_X3 hown hK hG hi (va_Nw.use rfl (hK.2 _ nX4_171)) (by decide) rfl dX4_sendAppended_6 ?_
  refine lv_iload_n hx hb dX4_sendAppended_9 rfl (lv_at hl 2 rfl) ?_
  refine lv_aload_n hx hb dX4_sendAppended_10 rfl (lv_at hl 1 rfl) ?_
  refine qgN_2 (f := 3) hx hb htz tin_X3 hown hK hG hi (va_Nw.use rfl (hK.2 _ nX4_91)) (by decide) rfl dX4_sendAppended_11 ?_
  refine mz_Nv (As := [.int _, .int _, .int _, .int _]) (rest := []) ⟨hx, hb, hml, hown, hts⟩ (qc_begin l D L hL _ (ql_S L) (by omega) _ _ _ _) (tz_N htz mX1_begin (hK.2 _ nX4_174) rfl rfl ⟨Nat.le_of_ble_eq_true rfl, Nat.le_of_ble_eq_true rfl⟩) (qrecv_11 hK hG (by omega)) qK_ok hK hG hS rfl hl.1 rfl (Nat.le_of_ble_eq_true rfl) dX4_sendAppended_14 ⟨Nat.zero_le _, Nat.zero_le _⟩ (fun H locs hG hS => ?_)
  refine lv_aload_n hx hb dX4_sendAppended_17 rfl (lv_at hl 0 rfl) ?_
  refine qg_0 (f := 2) hx hb htz tin_X4 hown hK hG (by decide) (htz _ fX4_34) (by decide) rfl dX4_sendAppended_18 ?_
  refine lv_iload_n hx hb dX4_sendAppended_21 rfl (lv_at hl 3 rfl) ?_
  refine qpN_11_6 hx hb htz tin_X1 hown hL hK hG hS (by omega) (va_Nw.use rfl (hK.2 _ nX4_187)) hg dX4_sendAppended_22 (fun H locs hG hS => ?_)
  refine lv_aload_n hx hb dX4_sendAppended_25 rfl (lv_at hl 0 rfl) ?_
  refine qg_0 (f := 2) hx hb htz tin_X4 hown hK hG (by decide) (htz _ fX4_34) (by decide) rfl dX4_sendAppended_26 ?_
  refine lv_iload hx hb dX4_sendAppended_29 (lv_at hl 4 rfl) ?_
  refine qpN_11_4 hx hb htz tin_X1 hown hL hK hG hS (by omega) (va_Nw.use rfl (hK.2 _ nX4_178)) dX4_sendAppended_31 (fun H locs hG hS => ?_)
  refine lv_aload_n hx hb dX4_sendAppended_34 rfl (lv_at hl 0 rfl) ?_
  refine qg_0 (f := 1) hx hb htz tin_X4 hown hK hG (by decide) (htz _ fX4_27) (by decide) rfl dX4_sendAppended_35 ?_
  refine lv_aload_n hx hb dX4_sendAppended_38 rfl (lv_at hl 0 rfl) ?_
  refine qg_0 (f := 2) hx hb htz tin_X4 hown hK hG (by decide) (htz _ fX4_34) (by decide) rfl dX4_sendAppended_39 ?_
  refine mz_Ni (As := [.ref _]) (rest := []) ⟨hx, hb, hml, hown, hts⟩ (qc_put l D L hL _ (ql_S L) (by omega)) (tz_N htz mX2_put (hK.2 _ nX4_141) rfl rfl ⟨Nat.le_of_ble_eq_true rfl, Nat.le_of_ble_eq_true rfl⟩) (qrecv_9 hK hG (by decide)) qK_ok hK hG hS rfl hl.1 rfl (Nat.le_of_ble_eq_true rfl) dX4_sendAppended_42 ⟨Nat.zero_le _, Nat.zero_le _⟩ (fun H locs hG hS => ?_)
  refine lv_pop hx hb dX4_sendAppended_45 rfl ?_
  exact mz_vret hx hb hr hlk qK_ok hK hS hG dX4_sendAppended_46 rfl

set_option maxRecDepth 100000 in
set_option maxHeartbeats 4000000 in
theorem qc_sendSnapshot (l : Launch) (D : va_G) (L : qL) (hL : qL_ok L) (u : mz_S) (i : Nat) (hi : i < ql_n L) (t : Int32) : mz_Cv l (qG D L) (qK D L) (qA L) yX4_sendSnapshot (tz_w yX4_sendSnapshot cX4_sendSnapshot 3 none) ({ frames := 2, cells := 0, slots := 0, locals := 43 } : Room) [.ref (L.1 0 0), .ref (L.1 2 i), .int t] u (qs_sSnap (ql_S L) u i t) := by
  refine mz_Cv.of (cc := cX4_sendSnapshot) (maxL := 3) (ret := none) (by decide) rfl (Nat.le_of_ble_eq_true rfl) ?_
  intro p e s m args below meth c ls hx hb hr hlk hml hown hts hl hG hK hS
  have hl : lv_has ls 3 [(0, .ref (L.1 0 0)), (1, .ref (L.1 2 i)), (2, .int t)] := hl
  have htz : ∀ w ∈ tz, w.before args s = true := fun w h => hts w (List.mem_cons_of_mem _ h)
  refine lv_aload_n hx hb dX4_sendSnapshot_0 rfl (lv_at hl 0 rfl) ?_
  refine qg_0 (f := 2) hx hb htz tin_X4 hown hK hG (by decide) (htz _ fX4_34) (by decide) rfl dX4_sendSnapshot_1 ?_
  refine lv_iconst (v := 5) hx hb dX4_sendSnapshot_4 (by decide) ?_
  refine lv_aload_n hx hb dX4_sendSnapshot_5 rfl (lv_at hl 1 rfl) ?_
  refine qgN_2 (f := 0) hx hb htz tin_X3 hown hK hG hi (va_Nw.use rfl (hK.2 _ nX4_171)) (by decide) rfl dX4_sendSnapshot_6 ?_
  refine lv_iload_n hx hb dX4_sendSnapshot_9 rfl (lv_at hl 2 rfl) ?_
  refine lv_aload_n hx hb dX4_sendSnapshot_10 rfl (lv_at hl 1 rfl) ?_
  refine qgN_2 (f := 3) hx hb htz tin_X3 hown hK hG hi (va_Nw.use rfl (hK.2 _ nX4_91)) (by decide) rfl dX4_sendSnapshot_11 ?_
  refine mz_Nv (As := [.int _, .int _, .int _, .int _]) (rest := []) ⟨hx, hb, hml, hown, hts⟩ (qc_begin l D L hL _ (ql_S L) (by omega) _ _ _ _) (tz_N htz mX1_begin (hK.2 _ nX4_174) rfl rfl ⟨Nat.le_of_ble_eq_true rfl, Nat.le_of_ble_eq_true rfl⟩) (qrecv_11 hK hG (by omega)) qK_ok hK hG hS rfl hl.1 rfl (Nat.le_of_ble_eq_true rfl) dX4_sendSnapshot_14 ⟨Nat.zero_le _, Nat.zero_le _⟩ (fun H locs hG hS => ?_)
  refine lv_aload_n hx hb dX4_sendSnapshot_17 rfl (lv_at hl 0 rfl) ?_
  refine qg_0 (f := 2) hx hb htz tin_X4 hown hK hG (by decide) (htz _ fX4_34) (by decide) rfl dX4_sendSnapshot_18 ?_
  refine lv_aload_n hx hb dX4_sendSnapshot_21 rfl (lv_at hl 1 rfl) ?_
  refine qgN_2 (f := 6) hx hb htz tin_X3 hown hK hG hi (va_Nw.use rfl (hK.2 _ nX4_72)) (by decide) rfl dX4_sendSnapshot_22 ?_
  refine qgN_3 (f := 0) (v := .int (u 3 i 0)) hx hb htz tin_X0 hown hK hG hi (va_Nw.use rfl (hK.2 _ nX4_76)) (by decide) (by simp [qf3, qs_begin, mz_at]) dX4_sendSnapshot_25 ?_
  refine qpN_11_4 hx hb htz tin_X1 hown hL hK hG hS (by omega) (va_Nw.use rfl (hK.2 _ nX4_178)) dX4_sendSnapshot_28 (fun H locs hG hS => ?_)
  refine lv_aload_n hx hb dX4_sendSnapshot_31 rfl (lv_at hl 0 rfl) ?_
  refine qg_0 (f := 2) hx hb htz tin_X4 hown hK hG (by decide) (htz _ fX4_34) (by decide) rfl dX4_sendSnapshot_32 ?_
  refine lv_aload_n hx hb dX4_sendSnapshot_35 rfl (lv_at hl 1 rfl) ?_
  refine qgN_2 (f := 6) hx hb htz tin_X3 hown hK hG hi (va_Nw.use rfl (hK.2 _ nX4_72)) (by decide) rfl dX4_sendSnapshot_36 ?_
  refine qgN_3 (f := 1) (v := .int (u 3 i 1)) hx hb htz tin_X0 hown hK hG hi (va_Nw.use rfl (hK.2 _ nX4_202)) (by decide) (by simp [qf3, qs_begin, mz_at]) dX4_sendSnapshot_39 ?_
  refine qpN_11_5 hx hb htz tin_X1 hown hL hK hG hS (by omega) (va_Nw.use rfl (hK.2 _ nX4_184)) dX4_sendSnapshot_42 (fun H locs hG hS => ?_)
  refine lv_aload_n hx hb dX4_sendSnapshot_45 rfl (lv_at hl 0 rfl) ?_
  refine qg_0 (f := 2) hx hb htz tin_X4 hown hK hG (by decide) (htz _ fX4_34) (by decide) rfl dX4_sendSnapshot_46 ?_
  refine lv_aload_n hx hb dX4_sendSnapshot_49 rfl (lv_at hl 1 rfl) ?_
  refine qgN_2 (f := 6) hx hb htz tin_X3 hown hK hG hi (va_Nw.use rfl (hK.2 _ nX4_72)) (by decide) rfl dX4_sendSnapshot_50 ?_
  refine qgN_3 (f := 2) (v := .int (u 3 i 2)) hx hb htz tin_X0 hown hK hG hi (va_Nw.use rfl (hK.2 _ nX4_205)) (by decide) (by simp [qf3, qs_begin, mz_at]) dX4_sendSnapshot_53 ?_
  refine qpN_11_11 hx hb htz tin_X1 hown hL hK hG hS (by omega) (va_Nw.use rfl (hK.2 _ nX4_208)) dX4_sendSnapshot_56 (fun H locs hG hS => ?_)
  refine lv_aload_n hx hb dX4_sendSnapshot_59 rfl (lv_at hl 0 rfl) ?_
  refine qg_0 (f := 1) hx hb htz tin_X4 hown hK hG (by decide) (htz _ fX4_27) (by decide) rfl dX4_sendSnapshot_60 ?_
  refine lv_aload_n hx hb dX4_sendSnapshot_63 rfl (lv_at hl 0 rfl) ?_
  refine qg_0 (f := 2) hx hb htz tin_X4 hown hK hG (by decide) (htz _ fX4_34) (by decide) rfl dX4_sendSnapshot_64 ?_
  refine mz_Ni (As := [.ref _]) (rest := []) ⟨hx, hb, hml, hown, hts⟩ (qc_put l D L hL _ (ql_S L) (by omega)) (tz_N htz mX2_put (hK.2 _ nX4_141) rfl rfl ⟨Nat.le_of_ble_eq_true rfl, Nat.le_of_ble_eq_true rfl⟩) (qrecv_9 hK hG (by decide)) qK_ok hK hG hS rfl hl.1 rfl (Nat.le_of_ble_eq_true rfl) dX4_sendSnapshot_67 ⟨Nat.zero_le _, Nat.zero_le _⟩ (fun H locs hG hS => ?_)
  refine lv_pop hx hb dX4_sendSnapshot_70 rfl ?_
  exact mz_vret hx hb hr hlk qK_ok hK hS hG dX4_sendSnapshot_71 rfl

set_option maxRecDepth 100000 in
set_option maxHeartbeats 4000000 in
theorem qc_sendAppend (l : Launch) (D : va_G) (L : qL) (hL : qL_ok L) (u : mz_S) (i : Nat) (hi : i < ql_n L) (t : Int32) (ht : vp_in t (ql_n L)) (hw : qw (ql_c L) u i) : mz_Cv l (qG D L) (qK D L) (qA L) yX4_sendAppend (tz_w yX4_sendAppend cX4_sendAppend 4 none) ({ frames := 2, cells := 0, slots := 0, locals := 43 } : Room) [.ref (L.1 0 0), .ref (L.1 2 i), .int t] u (qs_sApp (ql_S L) u i t) := by
  refine mz_Cv.of (cc := cX4_sendAppend) (maxL := 4) (ret := none) (by decide) rfl (Nat.le_of_ble_eq_true rfl) ?_
  intro p e s m args below meth c ls hx hb hr hlk hml hown hts hl hG hK hS
  have hl : lv_has ls 4 [(0, .ref (L.1 0 0)), (1, .ref (L.1 2 i)), (2, .int t)] := hl
  have htz : ∀ w ∈ tz, w.before args s = true := fun w h => hts w (List.mem_cons_of_mem _ h)
  refine lv_aload_n hx hb dX4_sendAppend_0 rfl (lv_at hl 1 rfl) ?_
  refine qgN_2 (f := 8) hx hb htz tin_X3 hown hK hG hi (va_Nw.use rfl (hK.2 _ nX4_68)) (by decide) rfl dX4_sendAppend_1 ?_
  refine lv_iload_n hx hb dX4_sendAppend_4 rfl (lv_at hl 2 rfl) ?_
  refine qa_7 hx hb hK hG hi ht dX4_sendAppend_5 ?_
  refine lv_istore_n hx hb dX4_sendAppend_6 rfl hl (by decide) rfl (fun ls hl => ?_)
  have hl : lv_has ls 4 [(3, .int _), (0, .ref _), (1, .ref _), (2, .int _)] := hl
  refine lv_aload_n hx hb dX4_sendAppend_7 rfl (lv_at hl 1 rfl) ?_
  refine qg_0 (f := 2) hx hb htz tin_X4 hown hK hG (by decide) (htz _ fX4_34) (by decide) rfl dX4_sendAppend_8 ?_
  refine lv_iconst (v := 3) hx hb dX4_sendAppend_11 (by decide) ?_
  refine lv_aload_n hx hb dX4_sendAppend_12 rfl (lv_at hl 2 rfl) ?_
  refine qgN_2 (f := 0) hx hb htz tin_X3 hown hK hG hi (va_Nw.use rfl (hK.2 _ nX4_171)) (by decide) rfl dX4_sendAppend_13 ?_
  refine lv_iload_n hx hb dX4_sendAppend_16 rfl (lv_at hl 3 rfl) ?_
  refine lv_aload_n hx hb dX4_sendAppend_17 rfl (lv_at hl 2 rfl) ?_
  refine qgN_2 (f := 3) hx hb htz tin_X3 hown hK hG hi (va_Nw.use rfl (hK.2 _ nX4_91)) (by decide) rfl dX4_sendAppend_18 ?_
  refine mz_Nv (As := [.int _, .int _, .int _, .int _]) (rest := []) ⟨hx, hb, hml, hown, hts⟩ (qc_begin l D L hL _ (ql_S L) (by omega) _ _ _ _) (tz_N htz mX1_begin (hK.2 _ nX4_174) rfl rfl ⟨Nat.le_of_ble_eq_true rfl, Nat.le_of_ble_eq_true rfl⟩) (qrecv_11 hK hG (by omega)) qK_ok hK hG hS rfl hl.1 rfl (Nat.le_of_ble_eq_true rfl) dX4_sendAppend_21 ⟨Nat.zero_le _, Nat.zero_le _⟩ (fun H locs hG hS => ?_)
  refine lv_aload_n hx hb dX4_sendAppend_24 rfl (lv_at hl 1 rfl) ?_
  refine qg_0 (f := 2) hx hb htz tin_X4 hown hK hG (by decide) (htz _ fX4_34) (by decide) rfl dX4_sendAppend_25 ?_
  refine lv_iload_n hx hb dX4_sendAppend_28 rfl (lv_at hl 0 rfl) ?_
  refine lv_iconst (v := 1) hx hb dX4_sendAppend_29 (by decide) ?_
  refine lv_isub hx hb dX4_sendAppend_30 ?_
  refine qpN_11_4 hx hb htz tin_X1 hown hL hK hG hS (by omega) (va_Nw.use rfl (hK.2 _ nX4_178)) dX4_sendAppend_31 (fun H locs hG hS => ?_)
  refine lv_aload_n hx hb dX4_sendAppend_34 rfl (lv_at hl 1 rfl) ?_
  refine qg_0 (f := 2) hx hb htz tin_X4 hown hK hG (by decide) (htz _ fX4_34) (by decide) rfl dX4_sendAppend_35 ?_
  refine lv_aload_n hx hb dX4_sendAppend_38 rfl (lv_at hl 2 rfl) ?_
  refine qgN_2 (f := 6) hx hb htz tin_X3 hown hK hG hi (va_Nw.use rfl (hK.2 _ nX4_72)) (by decide) rfl dX4_sendAppend_39 ?_
  refine lv_iload_n hx hb dX4_sendAppend_42 rfl (lv_at hl 0 rfl) ?_
  refine lv_iconst (v := 1) hx hb dX4_sendAppend_43 (by decide) ?_
  refine lv_isub hx hb dX4_sendAppend_44 ?_
  refine mz_Ni (As := [.int _]) (rest := [.ref _]) ⟨hx, hb, hml, hown, hts⟩ (qc_termOf l D L hL _ i hi _ (hw.same (by simp [qs_mApp0, qs_begin, mz_at]) (by simp [qs_mApp0, qs_begin, mz_at]))) (tz_N htz mX0_termOf (hK.2 _ nX4_104) rfl rfl ⟨Nat.le_of_ble_eq_true rfl, Nat.le_of_ble_eq_true rfl⟩) (qrecv_3 hK hG hi) qK_ok hK hG hS rfl hl.1 rfl (Nat.le_of_ble_eq_true rfl) dX4_sendAppend_45 ⟨Nat.zero_le _, Nat.zero_le _⟩ (fun H locs hG hS => ?_)
  refine mz_topE (qs_term_same (u := u) (by simp [qs_mApp0, qs_begin, mz_at]) (by simp [qs_mApp0, qs_begin, mz_at])) ?_
  refine qpN_11_5 hx hb htz tin_X1 hown hL hK hG hS (by omega) (va_Nw.use rfl (hK.2 _ nX4_184)) dX4_sendAppend_48 (fun H locs hG hS => ?_)
  refine lv_aload_n hx hb dX4_sendAppend_51 rfl (lv_at hl 1 rfl) ?_
  refine qg_0 (f := 2) hx hb htz tin_X4 hown hK hG (by decide) (htz _ fX4_34) (by decide) rfl dX4_sendAppend_52 ?_
  refine lv_aload_n hx hb dX4_sendAppend_55 rfl (lv_at hl 2 rfl) ?_
  refine qgN_2 (f := 6) hx hb htz tin_X3 hown hK hG hi (va_Nw.use rfl (hK.2 _ nX4_72)) (by decide) rfl dX4_sendAppend_56 ?_
  refine lv_iload_n hx hb dX4_sendAppend_59 rfl (lv_at hl 0 rfl) ?_
  refine mz_Ni (As := [.int _]) (rest := [.ref _]) ⟨hx, hb, hml, hown, hts⟩ (qc_hasEntry l D L hL _ i hi _) (tz_N htz mX0_hasEntry (hK.2 _ nX4_190) rfl rfl ⟨Nat.le_of_ble_eq_true rfl, Nat.le_of_ble_eq_true rfl⟩) (qrecv_3 hK hG hi) qK_ok hK hG hS rfl hl.1 rfl (Nat.le_of_ble_eq_true rfl) dX4_sendAppend_60 ⟨Nat.zero_le _, Nat.zero_le _⟩ (fun H locs hG hS => ?_)
  refine mz_topE (mz_b_iff (qs_has_same (u := u) (by simp [qs_begin, mz_at]))) ?_
  refine qpN_11_7 hx hb htz tin_X1 hown hL hK hG hS (by omega) (va_Nw.use rfl (hK.2 _ nX4_193)) mz_bb dX4_sendAppend_63 (fun H locs hG hS => ?_)
  have hG : qG D L (qs_mApp0 (ql_S L) u i t (u 7 i t.toNatClampNeg)) H := hG
  refine lv_aload_n hx hb dX4_sendAppend_66 rfl (lv_at hl 1 rfl) ?_
  refine qg_0 (f := 2) hx hb htz tin_X4 hown hK hG (by decide) (htz _ fX4_34) (by decide) rfl dX4_sendAppend_67 ?_
  refine qgN_11 (f := 7) (v := .int (mz_b (qs_has u i (u 7 i t.toNatClampNeg)))) hx hb htz tin_X1 hown hK hG (by omega) (va_Nw.use rfl (hK.2 _ nX4_193)) (by decide) (by rw [show (qf11 (qs_mApp0 (ql_S L) u i t (u 7 i t.toNatClampNeg)) 11 (ql_S L))[7]? = some (.int (mz_b (mz_b (qs_has u i (u 7 i t.toNatClampNeg)) ≠ 0))) from by simp [qf11, qs_mApp0, mz_at], mz_bb]) dX4_sendAppend_70 ?_
  refine mz_ifeq_b hx hb dX4_sendAppend_73 (tgt := 106) rfl (fun h0 => ?_) (fun h0 => ?_)
  · refine lv_aload_n hx hb dX4_sendAppend_106 rfl (lv_at hl 1 rfl) ?_
    refine qg_0 (f := 2) hx hb htz tin_X4 hown hK hG (by decide) (htz _ fX4_34) (by decide) rfl dX4_sendAppend_107 ?_
    refine lv_aload_n hx hb dX4_sendAppend_110 rfl (lv_at hl 2 rfl) ?_
    refine qgN_2 (f := 5) (v := .int (u 2 i 5)) hx hb htz tin_X3 hown hK hG hi (va_Nw.use rfl (hK.2 _ nX4_101)) (by decide) (by simp [qf2, qs_mApp0, qs_begin, mz_at]) dX4_sendAppend_111 ?_
    refine qpN_11_10 hx hb htz tin_X1 hown hL hK hG hS (by omega) (va_Nw.use rfl (hK.2 _ nX4_201)) dX4_sendAppend_114 (fun H locs hG hS => ?_)
    refine lv_aload_n hx hb dX4_sendAppend_117 rfl (lv_at hl 1 rfl) ?_
    refine qg_0 (f := 1) hx hb htz tin_X4 hown hK hG (by decide) (htz _ fX4_27) (by decide) rfl dX4_sendAppend_118 ?_
    refine lv_aload_n hx hb dX4_sendAppend_121 rfl (lv_at hl 1 rfl) ?_
    refine qg_0 (f := 2) hx hb htz tin_X4 hown hK hG (by decide) (htz _ fX4_34) (by decide) rfl dX4_sendAppend_122 ?_
    refine mz_Ni (As := [.ref _]) (rest := []) ⟨hx, hb, hml, hown, hts⟩ (qc_put l D L hL _ (ql_S L) (by omega)) (tz_N htz mX2_put (hK.2 _ nX4_141) rfl rfl ⟨Nat.le_of_ble_eq_true rfl, Nat.le_of_ble_eq_true rfl⟩) (qrecv_9 hK hG (by decide)) qK_ok hK hG hS rfl hl.1 rfl (Nat.le_of_ble_eq_true rfl) dX4_sendAppend_125 ⟨Nat.zero_le _, Nat.zero_le _⟩ (fun H locs hG hS => ?_)
    refine lv_pop hx hb dX4_sendAppend_128 rfl ?_
    exact mz_vret hx hb hr hlk qK_ok hK hS hG dX4_sendAppend_129 (by unfold qs_sApp qs_mApp; first | rw [if_pos h0] | rw [if_neg h0])
  · refine lv_aload_n hx hb dX4_sendAppend_76 rfl (lv_at hl 1 rfl) ?_
    refine qg_0 (f := 2) hx hb htz tin_X4 hown hK hG (by decide) (htz _ fX4_34) (by decide) rfl dX4_sendAppend_77 ?_
    refine lv_aload_n hx hb dX4_sendAppend_80 rfl (lv_at hl 2 rfl) ?_
    refine qgN_2 (f := 6) hx hb htz tin_X3 hown hK hG hi (va_Nw.use rfl (hK.2 _ nX4_72)) (by decide) rfl dX4_sendAppend_81 ?_
    refine lv_iload_n hx hb dX4_sendAppend_84 rfl (lv_at hl 0 rfl) ?_
    refine mz_Ni (As := [.int _]) (rest := [.ref _]) ⟨hx, hb, hml, hown, hts⟩ (qc_termOf l D L hL _ i hi _ (hw.same (by simp [qs_mApp0, qs_begin, mz_at]) (by simp [qs_mApp0, qs_begin, mz_at]))) (tz_N htz mX0_termOf (hK.2 _ nX4_104) rfl rfl ⟨Nat.le_of_ble_eq_true rfl, Nat.le_of_ble_eq_true rfl⟩) (qrecv_3 hK hG hi) qK_ok hK hG hS rfl hl.1 rfl (Nat.le_of_ble_eq_true rfl) dX4_sendAppend_85 ⟨Nat.zero_le _, Nat.zero_le _⟩ (fun H locs hG hS => ?_)
    refine mz_topE (qs_term_same (u := u) (by simp [qs_mApp0, qs_begin, mz_at]) (by simp [qs_mApp0, qs_begin, mz_at])) ?_
    refine qpN_11_8 hx hb htz tin_X1 hown hL hK hG hS (by omega) (va_Nw.use rfl (hK.2 _ nX4_195)) dX4_sendAppend_88 (fun H locs hG hS => ?_)
    refine lv_aload_n hx hb dX4_sendAppend_91 rfl (lv_at hl 1 rfl) ?_
    refine qg_0 (f := 2) hx hb htz tin_X4 hown hK hG (by decide) (htz _ fX4_34) (by decide) rfl dX4_sendAppend_92 ?_
    refine lv_aload_n hx hb dX4_sendAppend_95 rfl (lv_at hl 2 rfl) ?_
    refine qgN_2 (f := 6) hx hb htz tin_X3 hown hK hG hi (va_Nw.use rfl (hK.2 _ nX4_72)) (by decide) rfl dX4_sendAppend_96 ?_
    refine lv_iload_n hx hb dX4_sendAppend_99 rfl (lv_at hl 0 rfl) ?_
    refine mz_Ni (As := [.int _]) (rest := [.ref _]) ⟨hx, hb, hml, hown, hts⟩ (qc_commandOf l D L hL _ i hi _ (hw.same (by simp [qs_mApp0, qs_begin, mz_at]) (by simp [qs_mApp0, qs_begin, mz_at]))) (tz_N htz mX0_commandOf (hK.2 _ nX4_148) rfl rfl ⟨Nat.le_of_ble_eq_true rfl, Nat.le_of_ble_eq_true rfl⟩) (qrecv_3 hK hG hi) qK_ok hK hG hS rfl hl.1 rfl (Nat.le_of_ble_eq_true rfl) dX4_sendAppend_100 ⟨Nat.zero_le _, Nat.zero_le _⟩ (fun H locs hG hS => ?_)
    refine mz_topE (qs_cmd_same (u := u) (by simp [qs_mApp0, qs_begin, mz_at]) (by simp [qs_mApp0, qs_begin, mz_at])) ?_
    refine qpN_11_9 hx hb htz tin_X1 hown hL hK hG hS (by omega) (va_Nw.use rfl (hK.2 _ nX4_198)) dX4_sendAppend_103 (fun H locs hG hS => ?_)
    refine lv_aload_n hx hb dX4_sendAppend_106 rfl (lv_at hl 1 rfl) ?_
    refine qg_0 (f := 2) hx hb htz tin_X4 hown hK hG (by decide) (htz _ fX4_34) (by decide) rfl dX4_sendAppend_107 ?_
    refine lv_aload_n hx hb dX4_sendAppend_110 rfl (lv_at hl 2 rfl) ?_
    refine qgN_2 (f := 5) (v := .int (u 2 i 5)) hx hb htz tin_X3 hown hK hG hi (va_Nw.use rfl (hK.2 _ nX4_101)) (by decide) (by simp [qf2, qs_mApp0, qs_begin, mz_at]) dX4_sendAppend_111 ?_
    refine qpN_11_10 hx hb htz tin_X1 hown hL hK hG hS (by omega) (va_Nw.use rfl (hK.2 _ nX4_201)) dX4_sendAppend_114 (fun H locs hG hS => ?_)
    refine lv_aload_n hx hb dX4_sendAppend_117 rfl (lv_at hl 1 rfl) ?_
    refine qg_0 (f := 1) hx hb htz tin_X4 hown hK hG (by decide) (htz _ fX4_27) (by decide) rfl dX4_sendAppend_118 ?_
    refine lv_aload_n hx hb dX4_sendAppend_121 rfl (lv_at hl 1 rfl) ?_
    refine qg_0 (f := 2) hx hb htz tin_X4 hown hK hG (by decide) (htz _ fX4_34) (by decide) rfl dX4_sendAppend_122 ?_
    refine mz_Ni (As := [.ref _]) (rest := []) ⟨hx, hb, hml, hown, hts⟩ (qc_put l D L hL _ (ql_S L) (by omega)) (tz_N htz mX2_put (hK.2 _ nX4_141) rfl rfl ⟨Nat.le_of_ble_eq_true rfl, Nat.le_of_ble_eq_true rfl⟩) (qrecv_9 hK hG (by decide)) qK_ok hK hG hS rfl hl.1 rfl (Nat.le_of_ble_eq_true rfl) dX4_sendAppend_125 ⟨Nat.zero_le _, Nat.zero_le _⟩ (fun H locs hG hS => ?_)
    refine lv_pop hx hb dX4_sendAppend_128 rfl ?_
    exact mz_vret hx hb hr hlk qK_ok hK hS hG dX4_sendAppend_129 (by unfold qs_sApp qs_mApp; first | rw [if_pos h0] | rw [if_neg h0])
