set_option maxRecDepth 100000 in
set_option maxHeartbeats 4000000 in
theorem qc_lastNumber (l : Launch) (D : va_G) (L : qL) (hL : qL_ok L) (u : mz_S) (i : Nat) (hi : i < ql_n L) : mz_Ci l (qG D L) (qK D L) (qA L) yX0_lastNumber (tz_w yX0_lastNumber cX0_lastNumber 1 (some .int)) ({ frames := 0, cells := 0, slots := 0, locals := 0 } : Room) [.ref (L.1 3 i)] u (qs_last u i) (u) := by
  refine mz_Ci.of (cc := cX0_lastNumber) (maxL := 1) (ret := (some .int)) (by decide) rfl (Nat.le_of_ble_eq_true rfl) ?_
  intro p e s m args below meth c ls hx hb hr hlk hml hown hts hl hG hK hS
  have hl : lv_has ls 1 [(0, .ref (L.1 3 i))] := hl
  have htz : ∀ w ∈ tz, w.before args s = true := fun w h => hts w (List.mem_cons_of_mem _ h)
  refine lv_aload_n hx hb dX0_lastNumber_0 rfl (lv_at hl 0 rfl) ?_
  refine qg_3 (f := 0) hx hb htz tin_X0 hown hK hG hi (htz _ fX0_18) (by decide) rfl dX0_lastNumber_1 ?_
  refine lv_aload_n hx hb dX0_lastNumber_4 rfl (lv_at hl 0 rfl) ?_
  refine qg_3 (f := 3) hx hb htz tin_X0 hown hK hG hi (htz _ fX0_22) (by decide) rfl dX0_lastNumber_5 ?_
  refine lv_iadd hx hb dX0_lastNumber_8 ?_
  exact mz_iret hx hb hr hlk qK_ok hK hS hG dX0_lastNumber_9 rfl rfl

set_option maxRecDepth 100000 in
set_option maxHeartbeats 4000000 in
theorem qc_lastTerm (l : Launch) (D : va_G) (L : qL) (hL : qL_ok L) (u : mz_S) (i : Nat) (hi : i < ql_n L) (hw : qw (ql_c L) u i) : mz_Ci l (qG D L) (qK D L) (qA L) yX0_lastTerm (tz_w yX0_lastTerm cX0_lastTerm 1 (some .int)) ({ frames := 0, cells := 0, slots := 0, locals := 0 } : Room) [.ref (L.1 3 i)] u (qs_lastT u i) (u) := by
  refine mz_Ci.of (cc := cX0_lastTerm) (maxL := 1) (ret := (some .int)) (by decide) rfl (Nat.le_of_ble_eq_true rfl) ?_
  intro p e s m args below meth c ls hx hb hr hlk hml hown hts hl hG hK hS
  have hl : lv_has ls 1 [(0, .ref (L.1 3 i))] := hl
  have htz : ∀ w ∈ tz, w.before args s = true := fun w h => hts w (List.mem_cons_of_mem _ h)
  have hc12 : ql_c L ≤ 12 := hL.1.2.2.2.1
  have hn5 : ql_n L ≤ 5 := hL.1.2.1
  have h40 : ql_S L ≤ 40 := hL.1.2.2.2.2.2
  refine lv_aload_n hx hb dX0_lastTerm_0 rfl (lv_at hl 0 rfl) ?_
  refine qg_3 (f := 3) hx hb htz tin_X0 hown hK hG hi (htz _ fX0_22) (by decide) rfl dX0_lastTerm_1 ?_
  refine mz_if_le hx hb dX0_lastTerm_4 (tgt := 21) rfl (fun h0 h0' => ?_) (fun h0 h0' => ?_)
  · refine lv_aload_n hx hb dX0_lastTerm_21 rfl (lv_at hl 0 rfl) ?_
    refine qg_3 (f := 1) hx hb htz tin_X0 hown hK hG hi (htz _ fX0_25) (by decide) rfl dX0_lastTerm_22 ?_
    exact mz_iret hx hb hr hlk qK_ok hK hS hG dX0_lastTerm_25 (by simp [qs_lastT, h0, h0']) rfl
  · refine lv_aload_n hx hb dX0_lastTerm_7 rfl (lv_at hl 0 rfl) ?_
    refine qg_3 (f := 4) hx hb htz tin_X0 hown hK hG hi (htz _ fX0_9) (by decide) rfl dX0_lastTerm_8 ?_
    refine lv_aload_n hx hb dX0_lastTerm_11 rfl (lv_at hl 0 rfl) ?_
    refine qg_3 (f := 3) hx hb htz tin_X0 hown hK hG hi (htz _ fX0_22) (by decide) rfl dX0_lastTerm_12 ?_
    refine lv_iconst (v := 1) hx hb dX0_lastTerm_15 (by decide) ?_
    refine lv_isub hx hb dX0_lastTerm_16 ?_
    refine qa_4 hx hb hK hG hi (hw.top hc12 h0) dX0_lastTerm_17 ?_
    refine lv_goto hx hb dX0_lastTerm_18 (tgt := 25) rfl ?_
    exact mz_iret hx hb hr hlk qK_ok hK hS hG dX0_lastTerm_25 (by simp [qs_lastT, h0, h0']) rfl

set_option maxRecDepth 100000 in
set_option maxHeartbeats 4000000 in
theorem qc_isFull (l : Launch) (D : va_G) (L : qL) (hL : qL_ok L) (u : mz_S) (i : Nat) (hi : i < ql_n L) : mz_Ci l (qG D L) (qK D L) (qA L) yX0_isFull (tz_w yX0_isFull cX0_isFull 1 (some .boolean)) ({ frames := 0, cells := 0, slots := 0, locals := 0 } : Room) [.ref (L.1 3 i)] u (mz_b (qs_full (ql_c L) u i)) (u) := by
  refine mz_Ci.of (cc := cX0_isFull) (maxL := 1) (ret := (some .boolean)) (by decide) rfl (Nat.le_of_ble_eq_true rfl) ?_
  intro p e s m args below meth c ls hx hb hr hlk hml hown hts hl hG hK hS
  have hl : lv_has ls 1 [(0, .ref (L.1 3 i))] := hl
  have htz : ∀ w ∈ tz, w.before args s = true := fun w h => hts w (List.mem_cons_of_mem _ h)
  refine lv_aload_n hx hb dX0_isFull_0 rfl (lv_at hl 0 rfl) ?_
  refine qg_3 (f := 3) hx hb htz tin_X0 hown hK hG hi (htz _ fX0_22) (by decide) rfl dX0_isFull_1 ?_
  refine lv_aload_n hx hb dX0_isFull_4 rfl (lv_at hl 0 rfl) ?_
  refine qg_3 (f := 4) hx hb htz tin_X0 hown hK hG hi (htz _ fX0_9) (by decide) rfl dX0_isFull_5 ?_
  refine qz_4 hx hb hK hG hi dX0_isFull_8 ?_
  refine mz_icmp_lt hx hb dX0_isFull_9 (tgt := 16) rfl (fun h_1 h_1' => ?_) (fun h_1 h_1' => ?_)
  · refine lv_iconst (v := 0) hx hb dX0_isFull_16 (by decide) ?_
    exact mz_zret hx hb hr hlk qK_ok hK hS hG dX0_isFull_17 (by decide) (by simp [mz_b, qs_full, h_1, h_1']) rfl
  · refine lv_iconst (v := 1) hx hb dX0_isFull_12 (by decide) ?_
    refine lv_goto hx hb dX0_isFull_13 (tgt := 17) rfl ?_
    exact mz_zret hx hb hr hlk qK_ok hK hS hG dX0_isFull_17 (by decide) (by simp [mz_b, qs_full, h_1, h_1']) rfl

set_option maxRecDepth 100000 in
set_option maxHeartbeats 4000000 in
theorem qc_hasEntry (l : Launch) (D : va_G) (L : qL) (hL : qL_ok L) (u : mz_S) (i : Nat) (hi : i < ql_n L) (k : Int32) : mz_Ci l (qG D L) (qK D L) (qA L) yX0_hasEntry (tz_w yX0_hasEntry cX0_hasEntry 2 (some .boolean)) ({ frames := 0, cells := 0, slots := 0, locals := 0 } : Room) [.ref (L.1 3 i), .int k] u (mz_b (qs_has u i k)) (u) := by
  refine mz_Ci.of (cc := cX0_hasEntry) (maxL := 2) (ret := (some .boolean)) (by decide) rfl (Nat.le_of_ble_eq_true rfl) ?_
  intro p e s m args below meth c ls hx hb hr hlk hml hown hts hl hG hK hS
  have hl : lv_has ls 2 [(0, .ref (L.1 3 i)), (1, .int k)] := hl
  have htz : ∀ w ∈ tz, w.before args s = true := fun w h => hts w (List.mem_cons_of_mem _ h)
  refine lv_iload_n hx hb dX0_hasEntry_0 rfl (lv_at hl 1 rfl) ?_
  refine lv_aload_n hx hb dX0_hasEntry_1 rfl (lv_at hl 0 rfl) ?_
  refine qg_3 (f := 0) hx hb htz tin_X0 hown hK hG hi (htz _ fX0_18) (by decide) rfl dX0_hasEntry_2 ?_
  refine mz_icmp_le hx hb dX0_hasEntry_5 (tgt := 25) rfl (fun h_1 h_1' => ?_) (fun h_1 h_1' => ?_)
  · refine lv_iconst (v := 0) hx hb dX0_hasEntry_25 (by decide) ?_
    exact mz_zret hx hb hr hlk qK_ok hK hS hG dX0_hasEntry_26 (by decide) (by simp [mz_b, qs_has, h_1, h_1']) rfl
  · refine lv_iload_n hx hb dX0_hasEntry_8 rfl (lv_at hl 1 rfl) ?_
    refine lv_aload_n hx hb dX0_hasEntry_9 rfl (lv_at hl 0 rfl) ?_
    refine qg_3 (f := 0) hx hb htz tin_X0 hown hK hG hi (htz _ fX0_18) (by decide) rfl dX0_hasEntry_10 ?_
    refine lv_aload_n hx hb dX0_hasEntry_13 rfl (lv_at hl 0 rfl) ?_
    refine qg_3 (f := 3) hx hb htz tin_X0 hown hK hG hi (htz _ fX0_22) (by decide) rfl dX0_hasEntry_14 ?_
    refine lv_iadd hx hb dX0_hasEntry_17 ?_
    refine mz_icmp_gt hx hb dX0_hasEntry_18 (tgt := 25) rfl (fun h_2 h_2' => ?_) (fun h_2 h_2' => ?_)
    · refine lv_iconst (v := 0) hx hb dX0_hasEntry_25 (by decide) ?_
      exact mz_zret hx hb hr hlk qK_ok hK hS hG dX0_hasEntry_26 (by decide) (by simp [mz_b, qs_has, h_1, h_1', h_2, h_2']) rfl
    · refine lv_iconst (v := 1) hx hb dX0_hasEntry_21 (by decide) ?_
      refine lv_goto hx hb dX0_hasEntry_22 (tgt := 26) rfl ?_
      exact mz_zret hx hb hr hlk qK_ok hK hS hG dX0_hasEntry_26 (by decide) (by simp [mz_b, qs_has, h_1, h_1', h_2, h_2']) rfl

set_option maxRecDepth 100000 in
set_option maxHeartbeats 4000000 in
theorem qc_termOf (l : Launch) (D : va_G) (L : qL) (hL : qL_ok L) (u : mz_S) (i : Nat) (hi : i < ql_n L) (k : Int32) (hw : qw (ql_c L) u i) : mz_Ci l (qG D L) (qK D L) (qA L) yX0_termOf (tz_w yX0_termOf cX0_termOf 2 (some .int)) ({ frames := 1, cells := 0, slots := 0, locals := 21 } : Room) [.ref (L.1 3 i), .int k] u (qs_term u i k) (u) := by
  refine mz_Ci.of (cc := cX0_termOf) (maxL := 2) (ret := (some .int)) (by decide) rfl (Nat.le_of_ble_eq_true rfl) ?_
  intro p e s m args below meth c ls hx hb hr hlk hml hown hts hl hG hK hS
  have hl : lv_has ls 2 [(0, .ref (L.1 3 i)), (1, .int k)] := hl
  have htz : ∀ w ∈ tz, w.before args s = true := fun w h => hts w (List.mem_cons_of_mem _ h)
  have hc12 : ql_c L ≤ 12 := hL.1.2.2.2.1
  have hn5 : ql_n L ≤ 5 := hL.1.2.1
  have h40 : ql_S L ≤ 40 := hL.1.2.2.2.2.2
  refine lv_aload_n hx hb dX0_termOf_0 rfl (lv_at hl 0 rfl) ?_
  refine lv_iload_n hx hb dX0_termOf_1 rfl (lv_at hl 1 rfl) ?_
  refine mz_Vi (As := [.int _]) (rest := []) ⟨hx, hb, hml, hown, hts⟩ (qc_hasEntry l D L hL _ i hi _) (tz_V htz mX0_hasEntry lX0_28 rfl rfl ⟨Nat.le_of_ble_eq_true rfl, Nat.le_of_ble_eq_true rfl⟩) (qrecv_3 hK hG hi) qK_ok hK hG hS rfl hl.1 rfl (Nat.le_of_ble_eq_true rfl) dX0_termOf_2 ⟨Nat.zero_le _, Nat.zero_le _⟩ (fun H locs hG hS => ?_)
  refine mz_ifeq_b hx hb dX0_termOf_5 (tgt := 22) rfl (fun h0 => ?_) (fun h0 => ?_)
  · refine lv_iload_n hx hb dX0_termOf_22 rfl (lv_at hl 1 rfl) ?_
    refine lv_aload_n hx hb dX0_termOf_23 rfl (lv_at hl 0 rfl) ?_
    refine qg_3 (f := 0) hx hb htz tin_X0 hown hK hG hi (htz _ fX0_18) (by decide) rfl dX0_termOf_24 ?_
    refine lv_icmp_ne hx hb dX0_termOf_27 (tgt := 37) rfl (fun h1 => ?_) (fun h1 => ?_)
    · refine lv_iconst (v := (-1)) hx hb dX0_termOf_37 (by decide) ?_
      exact mz_iret hx hb hr hlk qK_ok hK hS hG dX0_termOf_38 (by unfold qs_term; first | rw [if_pos h0] | rw [if_neg h0, if_pos h1] | rw [if_neg h0, if_neg h1]) rfl
    · refine lv_aload_n hx hb dX0_termOf_30 rfl (lv_at hl 0 rfl) ?_
      refine qg_3 (f := 1) hx hb htz tin_X0 hown hK hG hi (htz _ fX0_25) (by decide) rfl dX0_termOf_31 ?_
      refine lv_goto hx hb dX0_termOf_34 (tgt := 38) rfl ?_
      exact mz_iret hx hb hr hlk qK_ok hK hS hG dX0_termOf_38 (by unfold qs_term; first | rw [if_pos h0] | rw [if_neg h0, if_pos h1] | rw [if_neg h0, if_neg h1]) rfl
  · refine lv_aload_n hx hb dX0_termOf_8 rfl (lv_at hl 0 rfl) ?_
    refine qg_3 (f := 4) hx hb htz tin_X0 hown hK hG hi (htz _ fX0_9) (by decide) rfl dX0_termOf_9 ?_
    refine lv_iload_n hx hb dX0_termOf_12 rfl (lv_at hl 1 rfl) ?_
    refine lv_aload_n hx hb dX0_termOf_13 rfl (lv_at hl 0 rfl) ?_
    refine qg_3 (f := 0) hx hb htz tin_X0 hown hK hG hi (htz _ fX0_18) (by decide) rfl dX0_termOf_14 ?_
    refine lv_isub hx hb dX0_termOf_17 ?_
    refine lv_iconst (v := 1) hx hb dX0_termOf_18 (by decide) ?_
    refine lv_isub hx hb dX0_termOf_19 ?_
    refine qa_4 hx hb hK hG hi (hw.ix hc12 h0) dX0_termOf_20 ?_
    exact mz_iret hx hb hr hlk qK_ok hK hS hG dX0_termOf_21 (by unfold qs_term; first | rw [if_pos h0] | rw [if_neg h0, if_pos h1] | rw [if_neg h0, if_neg h1]) rfl

set_option maxRecDepth 100000 in
set_option maxHeartbeats 4000000 in
theorem qc_commandOf (l : Launch) (D : va_G) (L : qL) (hL : qL_ok L) (u : mz_S) (i : Nat) (hi : i < ql_n L) (k : Int32) (hw : qw (ql_c L) u i) : mz_Ci l (qG D L) (qK D L) (qA L) yX0_commandOf (tz_w yX0_commandOf cX0_commandOf 2 (some .int)) ({ frames := 1, cells := 0, slots := 0, locals := 21 } : Room) [.ref (L.1 3 i), .int k] u (qs_cmd u i k) (u) := by
  refine mz_Ci.of (cc := cX0_commandOf) (maxL := 2) (ret := (some .int)) (by decide) rfl (Nat.le_of_ble_eq_true rfl) ?_
  intro p e s m args below meth c ls hx hb hr hlk hml hown hts hl hG hK hS
  have hl : lv_has ls 2 [(0, .ref (L.1 3 i)), (1, .int k)] := hl
  have htz : ∀ w ∈ tz, w.before args s = true := fun w h => hts w (List.mem_cons_of_mem _ h)
  have hc12 : ql_c L ≤ 12 := hL.1.2.2.2.1
  have hn5 : ql_n L ≤ 5 := hL.1.2.1
  have h40 : ql_S L ≤ 40 := hL.1.2.2.2.2.2
  refine lv_aload_n hx hb dX0_commandOf_0 rfl (lv_at hl 0 rfl) ?_
  refine lv_iload_n hx hb dX0_commandOf_1 rfl (lv_at hl 1 rfl) ?_
  refine mz_Vi (As := [.int _]) (rest := []) ⟨hx, hb, hml, hown, hts⟩ (qc_hasEntry l D L hL _ i hi _) (tz_V htz mX0_hasEntry lX0_28 rfl rfl ⟨Nat.le_of_ble_eq_true rfl, Nat.le_of_ble_eq_true rfl⟩) (qrecv_3 hK hG hi) qK_ok hK hG hS rfl hl.1 rfl (Nat.le_of_ble_eq_true rfl) dX0_commandOf_2 ⟨Nat.zero_le _, Nat.zero_le _⟩ (fun H locs hG hS => ?_)
  refine mz_ifeq_b hx hb dX0_commandOf_5 (tgt := 24) rfl (fun h0 => ?_) (fun h0 => ?_)
  · refine lv_iconst (v := 0) hx hb dX0_commandOf_24 (by decide) ?_
    exact mz_iret hx hb hr hlk qK_ok hK hS hG dX0_commandOf_25 (by unfold qs_cmd; first | rw [if_pos h0] | rw [if_neg h0]) rfl
  · refine lv_aload_n hx hb dX0_commandOf_8 rfl (lv_at hl 0 rfl) ?_
    refine qg_3 (f := 5) hx hb htz tin_X0 hown hK hG hi (htz _ fX0_15) (by decide) rfl dX0_commandOf_9 ?_
    refine lv_iload_n hx hb dX0_commandOf_12 rfl (lv_at hl 1 rfl) ?_
    refine lv_aload_n hx hb dX0_commandOf_13 rfl (lv_at hl 0 rfl) ?_
    refine qg_3 (f := 0) hx hb htz tin_X0 hown hK hG hi (htz _ fX0_18) (by decide) rfl dX0_commandOf_14 ?_
    refine lv_isub hx hb dX0_commandOf_17 ?_
    refine lv_iconst (v := 1) hx hb dX0_commandOf_18 (by decide) ?_
    refine lv_isub hx hb dX0_commandOf_19 ?_
    refine qa_5 hx hb hK hG hi (hw.ix hc12 h0) dX0_commandOf_20 ?_
    refine lv_goto hx hb dX0_commandOf_21 (tgt := 25) rfl ?_
    exact mz_iret hx hb hr hlk qK_ok hK hS hG dX0_commandOf_25 (by unfold qs_cmd; first | rw [if_pos h0] | rw [if_neg h0]) rfl

set_option maxRecDepth 100000 in
set_option maxHeartbeats 4000000 in
theorem qc_stateUpTo (l : Launch) (D : va_G) (L : qL) (hL : qL_ok L) (u : mz_S) (i : Nat) (hi : i < ql_n L) (x : Int32) (hq : qwc (ql_c L) u i x) : mz_Ci l (qG D L) (qK D L) (qA L) yX0_stateUpTo (tz_w yX0_stateUpTo cX0_stateUpTo 4 (some .int)) ({ frames := 0, cells := 0, slots := 0, locals := 0 } : Room) [.ref (L.1 3 i), .int x] u (qs_state u i x) (u) := by
  refine mz_Ci.of (cc := cX0_stateUpTo) (maxL := 4) (ret := (some .int)) (by decide) rfl (Nat.le_of_ble_eq_true rfl) ?_
  intro p e s m args below meth c ls hx hb hr hlk hml hown hts hl hG hK hS
  have hl : lv_has ls 4 [(0, .ref (L.1 3 i)), (1, .int x)] := hl
  have htz : ∀ w ∈ tz, w.before args s = true := fun w h => hts w (List.mem_cons_of_mem _ h)
  have hc12 : ql_c L ≤ 12 := hL.1.2.2.2.1
  have hn5 : ql_n L ≤ 5 := hL.1.2.1
  have h40 : ql_S L ≤ 40 := hL.1.2.2.2.2.2
  refine lv_aload_n hx hb dX0_stateUpTo_0 rfl (lv_at hl 0 rfl) ?_
  refine qg_3 (f := 2) hx hb htz tin_X0 hown hK hG hi (htz _ fX0_32) (by decide) rfl dX0_stateUpTo_1 ?_
  refine lv_istore_n hx hb dX0_stateUpTo_4 rfl hl (by decide) rfl (fun ls hl => ?_)
  have hl : lv_has ls 4 [(2, .int _), (0, .ref _), (1, .int _)] := hl
  refine lv_iconst (v := 0) hx hb dX0_stateUpTo_5 (by decide) ?_
  refine lv_istore_n hx hb dX0_stateUpTo_6 rfl hl (by decide) rfl (fun ls hl => ?_)
  have hl : lv_has ls 4 [(3, .int _), (2, .int _), (0, .ref _), (1, .int _)] := hl
  obtain ⟨b, c9, q, e1, e2, e3, g1, g2, g3, g4⟩ := hq
  subst e3
  refine mz_loop (q - b) (P := fun j ls H locs => lv_has ls 4 [(3, .int (nI j)), (2, .int (qs_fold u i j)), (0, .ref (L.1 3 i)), (1, .int (nI q))] ∧ qG D L u H ∧ va_S (qA L) s.heap H locs ∧ j ≤ q - b) (fun _ _ _ _ h => h.2.2.2) ?_ 0 _ _ _ ⟨hl, hG, hS, Nat.zero_le _⟩
  intro j ls H locs ⟨hl, hG, hS, hj⟩ ih
  refine lv_iload_n hx hb dX0_stateUpTo_7 rfl (lv_at hl 0 rfl) ?_
  refine lv_aload_n hx hb dX0_stateUpTo_8 rfl (lv_at hl 2 rfl) ?_
  refine qg_3 (f := 3) hx hb htz tin_X0 hown hK hG hi (htz _ fX0_22) (by decide) rfl dX0_stateUpTo_9 ?_
  refine mz_icmp_ge hx hb dX0_stateUpTo_12 (tgt := 43) rfl (fun h0 h0' => ?_) (fun h0 h0' => ?_)
  · rw [e2, nI_leI (by omega) (by omega)] at h0'
    refine lv_iload_n hx hb dX0_stateUpTo_43 rfl (lv_at hl 1 rfl) ?_
    exact mz_iret hx hb hr hlk qK_ok hK hS hG dX0_stateUpTo_44 (by rw [qs_state, e1, pk_sub g1, nI_clamp (by omega), show q - b = j by omega]) rfl
  · rw [e2, nI_ltI (by omega) (by omega)] at h0
    refine lv_aload_n hx hb dX0_stateUpTo_15 rfl (lv_at hl 2 rfl) ?_
    refine qg_3 (f := 0) hx hb htz tin_X0 hown hK hG hi (htz _ fX0_18) (by decide) rfl dX0_stateUpTo_16 ?_
    refine lv_iload_n hx hb dX0_stateUpTo_19 rfl (lv_at hl 0 rfl) ?_
    refine lv_iadd hx hb dX0_stateUpTo_20 ?_
    refine lv_iload_n hx hb dX0_stateUpTo_21 rfl (lv_at hl 3 rfl) ?_
    refine mz_icmp_ge hx hb dX0_stateUpTo_22 (tgt := 43) rfl (fun h1 h1' => ?_) (fun h1 h1' => ?_)
    · rw [e1, nI_add, nI_leI (by omega) (by omega)] at h1'
      refine lv_iload_n hx hb dX0_stateUpTo_43 rfl (lv_at hl 1 rfl) ?_
      exact mz_iret hx hb hr hlk qK_ok hK hS hG dX0_stateUpTo_44 (by rw [qs_state, e1, pk_sub g1, nI_clamp (by omega), show q - b = j by omega]) rfl
    · rw [e1, nI_add, nI_ltI (by omega) (by omega)] at h1
      refine lv_bipush (v := 31) hx hb dX0_stateUpTo_25 (by decide) ?_
      refine lv_iload_n hx hb dX0_stateUpTo_27 rfl (lv_at hl 1 rfl) ?_
      refine lv_imul hx hb dX0_stateUpTo_28 ?_
      refine lv_aload_n hx hb dX0_stateUpTo_29 rfl (lv_at hl 2 rfl) ?_
      refine qg_3 (f := 5) hx hb htz tin_X0 hown hK hG hi (htz _ fX0_15) (by decide) rfl dX0_stateUpTo_30 ?_
      refine lv_iload_n hx hb dX0_stateUpTo_33 rfl (lv_at hl 0 rfl) ?_
      refine qa_5 hx hb hK hG hi (vp_in_nI (by omega) (by omega)) dX0_stateUpTo_34 ?_
      rw [nI_clamp (by omega)]
      refine lv_iadd hx hb dX0_stateUpTo_35 ?_
      refine lv_istore_n hx hb dX0_stateUpTo_36 rfl hl (by decide) rfl (fun ls hl => ?_)
      have hl : lv_has ls 4 [(2, .int _), (3, .int _), (0, .ref _), (1, .int _)] := hl
      refine lv_iinc (k := 1) hx hb dX0_stateUpTo_37 hl rfl (nI_1 j) (by decide) rfl (fun ls hl => ?_)
      have hl : lv_has ls 4 [(3, .int _), (2, .int _), (0, .ref _), (1, .int _)] := hl
      refine lv_goto hx hb dX0_stateUpTo_40 (tgt := 7) rfl ?_
      exact ih (by omega) _ _ _ ⟨hl, hG, hS, by omega⟩

set_option maxRecDepth 100000 in
set_option maxHeartbeats 4000000 in
theorem qc_isNotAheadOf (l : Launch) (D : va_G) (L : qL) (hL : qL_ok L) (u : mz_S) (i : Nat) (hi : i < ql_n L) (x t : Int32) (hw : qw (ql_c L) u i) : mz_Ci l (qG D L) (qK D L) (qA L) yX0_isNotAheadOf (tz_w yX0_isNotAheadOf cX0_isNotAheadOf 3 (some .boolean)) ({ frames := 1, cells := 0, slots := 0, locals := 20 } : Room) [.ref (L.1 3 i), .int x, .int t] u (mz_b (qs_nah u i x t)) (u) := by
  refine mz_Ci.of (cc := cX0_isNotAheadOf) (maxL := 3) (ret := (some .boolean)) (by decide) rfl (Nat.le_of_ble_eq_true rfl) ?_
  intro p e s m args below meth c ls hx hb hr hlk hml hown hts hl hG hK hS
  have hl : lv_has ls 3 [(0, .ref (L.1 3 i)), (1, .int x), (2, .int t)] := hl
  have htz : ∀ w ∈ tz, w.before args s = true := fun w h => hts w (List.mem_cons_of_mem _ h)
  refine lv_iload_n hx hb dX0_isNotAheadOf_0 rfl (lv_at hl 2 rfl) ?_
  refine lv_aload_n hx hb dX0_isNotAheadOf_1 rfl (lv_at hl 0 rfl) ?_
  refine mz_Vi (As := []) (rest := [.int _]) ⟨hx, hb, hml, hown, hts⟩ (qc_lastTerm l D L hL _ i hi hw) (tz_V htz mX0_lastTerm lX0_35 rfl rfl ⟨Nat.le_of_ble_eq_true rfl, Nat.le_of_ble_eq_true rfl⟩) (qrecv_3 hK hG hi) qK_ok hK hG hS rfl hl.1 rfl (Nat.le_of_ble_eq_true rfl) dX0_isNotAheadOf_2 ⟨Nat.zero_le _, Nat.zero_le _⟩ (fun H locs hG hS => ?_)
  refine mz_icmp_gt hx hb dX0_isNotAheadOf_5 (tgt := 24) rfl (fun h0 h0' => ?_) (fun h0 h0' => ?_)
  · refine lv_iconst (v := 1) hx hb dX0_isNotAheadOf_24 (by decide) ?_
    refine lv_goto hx hb dX0_isNotAheadOf_25 (tgt := 29) rfl ?_
    exact mz_zret hx hb hr hlk qK_ok hK hS hG dX0_isNotAheadOf_29 (by decide) (by simp [mz_b, qs_nah, h0, h0']) rfl
  · refine lv_iload_n hx hb dX0_isNotAheadOf_8 rfl (lv_at hl 2 rfl) ?_
    refine lv_aload_n hx hb dX0_isNotAheadOf_9 rfl (lv_at hl 0 rfl) ?_
    refine mz_Vi (As := []) (rest := [.int _]) ⟨hx, hb, hml, hown, hts⟩ (qc_lastTerm l D L hL _ i hi hw) (tz_V htz mX0_lastTerm lX0_35 rfl rfl ⟨Nat.le_of_ble_eq_true rfl, Nat.le_of_ble_eq_true rfl⟩) (qrecv_3 hK hG hi) qK_ok hK hG hS rfl hl.1 rfl (Nat.le_of_ble_eq_true rfl) dX0_isNotAheadOf_10 ⟨Nat.zero_le _, Nat.zero_le _⟩ (fun H locs hG hS => ?_)
    refine lv_icmp_ne hx hb dX0_isNotAheadOf_13 (tgt := 28) rfl (fun h1 => ?_) (fun h1 => ?_)
    · refine lv_iconst (v := 0) hx hb dX0_isNotAheadOf_28 (by decide) ?_
      exact mz_zret hx hb hr hlk qK_ok hK hS hG dX0_isNotAheadOf_29 (by decide) (by simp [mz_b, qs_nah, h0, h0', h1]) rfl
    · refine lv_iload_n hx hb dX0_isNotAheadOf_16 rfl (lv_at hl 1 rfl) ?_
      refine lv_aload_n hx hb dX0_isNotAheadOf_17 rfl (lv_at hl 0 rfl) ?_
      refine mz_Vi (As := []) (rest := [.int _]) ⟨hx, hb, hml, hown, hts⟩ (qc_lastNumber l D L hL _ i hi) (tz_V htz mX0_lastNumber lX0_39 rfl rfl ⟨Nat.le_of_ble_eq_true rfl, Nat.le_of_ble_eq_true rfl⟩) (qrecv_3 hK hG hi) qK_ok hK hG hS rfl hl.1 rfl (Nat.le_of_ble_eq_true rfl) dX0_isNotAheadOf_18 ⟨Nat.zero_le _, Nat.zero_le _⟩ (fun H locs hG hS => ?_)
      refine mz_icmp_lt hx hb dX0_isNotAheadOf_21 (tgt := 28) rfl (fun h2 h2' => ?_) (fun h2 h2' => ?_)
      · refine lv_iconst (v := 0) hx hb dX0_isNotAheadOf_28 (by decide) ?_
        exact mz_zret hx hb hr hlk qK_ok hK hS hG dX0_isNotAheadOf_29 (by decide) (by simp [mz_b, qs_nah, h0, h0', h1, h2, h2']) rfl
      · refine lv_iconst (v := 1) hx hb dX0_isNotAheadOf_24 (by decide) ?_
        refine lv_goto hx hb dX0_isNotAheadOf_25 (tgt := 29) rfl ?_
        exact mz_zret hx hb hr hlk qK_ok hK hS hG dX0_isNotAheadOf_29 (by decide) (by simp [mz_b, qs_nah, h0, h0', h1, h2, h2']) rfl

set_option maxRecDepth 100000 in
set_option maxHeartbeats 4000000 in
theorem qc_add (l : Launch) (D : va_G) (L : qL) (hL : qL_ok L) (u : mz_S) (i : Nat) (hi : i < ql_n L) (t x : Int32) (hw : qw (ql_c L) u i) : mz_Cv l (qG D L) (qK D L) (qA L) yX0_add (tz_w yX0_add cX0_add 3 none) ({ frames := 1, cells := 0, slots := 0, locals := 20 } : Room) [.ref (L.1 3 i), .int t, .int x] u (qs_add (ql_c L) u i t x) := by
  refine mz_Cv.of (cc := cX0_add) (maxL := 3) (ret := none) (by decide) rfl (Nat.le_of_ble_eq_true rfl) ?_
  intro p e s m args below meth c ls hx hb hr hlk hml hown hts hl hG hK hS
  have hl : lv_has ls 3 [(0, .ref (L.1 3 i)), (1, .int t), (2, .int x)] := hl
  have htz : ∀ w ∈ tz, w.before args s = true := fun w h => hts w (List.mem_cons_of_mem _ h)
  have hc12 : ql_c L ≤ 12 := hL.1.2.2.2.1
  have hn5 : ql_n L ≤ 5 := hL.1.2.1
  have h40 : ql_S L ≤ 40 := hL.1.2.2.2.2.2
  refine lv_aload_n hx hb dX0_add_0 rfl (lv_at hl 0 rfl) ?_
  refine mz_Vi (As := []) (rest := []) ⟨hx, hb, hml, hown, hts⟩ (qc_isFull l D L hL _ i hi) (tz_V htz mX0_isFull lX0_42 rfl rfl ⟨Nat.le_of_ble_eq_true rfl, Nat.le_of_ble_eq_true rfl⟩) (qrecv_3 hK hG hi) qK_ok hK hG hS rfl hl.1 rfl (Nat.le_of_ble_eq_true rfl) dX0_add_1 ⟨Nat.zero_le _, Nat.zero_le _⟩ (fun H locs hG hS => ?_)
  refine mz_ifne_b hx hb dX0_add_4 (tgt := 37) rfl (fun h0 => ?_) (fun h0 => ?_)
  · exact mz_vret hx hb hr hlk qK_ok hK hS hG dX0_add_37 (by unfold qs_add; first | rw [if_pos h0] | rw [if_neg h0])
  · refine lv_aload_n hx hb dX0_add_7 rfl (lv_at hl 0 rfl) ?_
    refine qg_3 (f := 4) hx hb htz tin_X0 hown hK hG hi (htz _ fX0_9) (by decide) rfl dX0_add_8 ?_
    refine lv_aload_n hx hb dX0_add_11 rfl (lv_at hl 0 rfl) ?_
    refine qg_3 (f := 3) hx hb htz tin_X0 hown hK hG hi (htz _ fX0_22) (by decide) rfl dX0_add_12 ?_
    refine lv_iload_n hx hb dX0_add_15 rfl (lv_at hl 1 rfl) ?_
    refine qt_4 hx hb hL hK hG hS hi (hw.free hc12 h0) dX0_add_16 (fun H locs hG hS => ?_)
    refine lv_aload_n hx hb dX0_add_17 rfl (lv_at hl 0 rfl) ?_
    refine qg_3 (f := 5) hx hb htz tin_X0 hown hK hG hi (htz _ fX0_15) (by decide) rfl dX0_add_18 ?_
    refine lv_aload_n hx hb dX0_add_21 rfl (lv_at hl 0 rfl) ?_
    refine qg_3 (f := 3) (v := .int (u 3 i 3)) hx hb htz tin_X0 hown hK hG hi (htz _ fX0_22) (by decide) (by simp [qf3, mz_at]) dX0_add_22 ?_
    refine lv_iload_n hx hb dX0_add_25 rfl (lv_at hl 2 rfl) ?_
    refine qt_5 hx hb hL hK hG hS hi (hw.free hc12 h0) dX0_add_26 (fun H locs hG hS => ?_)
    refine lv_aload_n hx hb dX0_add_27 rfl (lv_at hl 0 rfl) ?_
    refine lv_dup hx hb dX0_add_28 rfl ?_
    refine qg_3 (f := 3) (v := .int (u 3 i 3)) hx hb htz tin_X0 hown hK hG hi (htz _ fX0_22) (by decide) (by simp [qf3, mz_at]) dX0_add_29 ?_
    refine lv_iconst (v := 1) hx hb dX0_add_32 (by decide) ?_
    refine lv_iadd hx hb dX0_add_33 ?_
    refine qp_3_3 hx hb htz tin_X0 hown hL hK hG hS hi (htz _ fX0_22) dX0_add_34 (fun H locs hG hS => ?_)
    exact mz_vret hx hb hr hlk qK_ok hK hS hG dX0_add_37 (by unfold qs_add; first | rw [if_pos h0] | rw [if_neg h0])

set_option maxRecDepth 100000 in
set_option maxHeartbeats 4000000 in
theorem qc_cutFrom (l : Launch) (D : va_G) (L : qL) (hL : qL_ok L) (u : mz_S) (i : Nat) (hi : i < ql_n L) (k : Int32) : mz_Cv l (qG D L) (qK D L) (qA L) yX0_cutFrom (tz_w yX0_cutFrom cX0_cutFrom 2 none) ({ frames := 1, cells := 0, slots := 0, locals := 21 } : Room) [.ref (L.1 3 i), .int k] u (qs_cut u i k) := by
  refine mz_Cv.of (cc := cX0_cutFrom) (maxL := 2) (ret := none) (by decide) rfl (Nat.le_of_ble_eq_true rfl) ?_
  intro p e s m args below meth c ls hx hb hr hlk hml hown hts hl hG hK hS
  have hl : lv_has ls 2 [(0, .ref (L.1 3 i)), (1, .int k)] := hl
  have htz : ∀ w ∈ tz, w.before args s = true := fun w h => hts w (List.mem_cons_of_mem _ h)
  refine lv_aload_n hx hb dX0_cutFrom_0 rfl (lv_at hl 0 rfl) ?_
  refine lv_iload_n hx hb dX0_cutFrom_1 rfl (lv_at hl 1 rfl) ?_
  refine mz_Vi (As := [.int _]) (rest := []) ⟨hx, hb, hml, hown, hts⟩ (qc_hasEntry l D L hL _ i hi _) (tz_V htz mX0_hasEntry lX0_28 rfl rfl ⟨Nat.le_of_ble_eq_true rfl, Nat.le_of_ble_eq_true rfl⟩) (qrecv_3 hK hG hi) qK_ok hK hG hS rfl hl.1 rfl (Nat.le_of_ble_eq_true rfl) dX0_cutFrom_2 ⟨Nat.zero_le _, Nat.zero_le _⟩ (fun H locs hG hS => ?_)
  refine mz_ifeq_b hx hb dX0_cutFrom_5 (tgt := 20) rfl (fun h0 => ?_) (fun h0 => ?_)
  · exact mz_vret hx hb hr hlk qK_ok hK hS hG dX0_cutFrom_20 (by unfold qs_cut; first | rw [if_pos h0] | rw [if_neg h0])
  · refine lv_aload_n hx hb dX0_cutFrom_8 rfl (lv_at hl 0 rfl) ?_
    refine lv_iload_n hx hb dX0_cutFrom_9 rfl (lv_at hl 1 rfl) ?_
    refine lv_aload_n hx hb dX0_cutFrom_10 rfl (lv_at hl 0 rfl) ?_
    refine qg_3 (f := 0) hx hb htz tin_X0 hown hK hG hi (htz _ fX0_18) (by decide) rfl dX0_cutFrom_11 ?_
    refine lv_isub hx hb dX0_cutFrom_14 ?_
    refine lv_iconst (v := 1) hx hb dX0_cutFrom_15 (by decide) ?_
    refine lv_isub hx hb dX0_cutFrom_16 ?_
    refine qp_3_3 hx hb htz tin_X0 hown hL hK hG hS hi (htz _ fX0_22) dX0_cutFrom_17 (fun H locs hG hS => ?_)
    exact mz_vret hx hb hr hlk qK_ok hK hS hG dX0_cutFrom_20 (by unfold qs_cut; first | rw [if_pos h0] | rw [if_neg h0])

set_option maxRecDepth 100000 in
set_option maxHeartbeats 4000000 in
theorem qc_rebase (l : Launch) (D : va_G) (L : qL) (hL : qL_ok L) (u : mz_S) (i : Nat) (hi : i < ql_n L) (b t x : Int32) (hw : qw (ql_c L) u i) : mz_Cv l (qG D L) (qK D L) (qA L) yX0_rebase (tz_w yX0_rebase cX0_rebase 6 none) ({ frames := 1, cells := 0, slots := 0, locals := 21 } : Room) [.ref (L.1 3 i), .int b, .int t, .int x] u (qs_rebase u i b t x) := by
  refine mz_Cv.of (cc := cX0_rebase) (maxL := 6) (ret := none) (by decide) rfl (Nat.le_of_ble_eq_true rfl) ?_
  intro p e s m args below meth c ls hx hb hr hlk hml hown hts hl hG hK hS
  have hl : lv_has ls 6 [(0, .ref (L.1 3 i)), (1, .int b), (2, .int t), (3, .int x)] := hl
  have htz : ∀ w ∈ tz, w.before args s = true := fun w h => hts w (List.mem_cons_of_mem _ h)
  have hc12 : ql_c L ≤ 12 := hL.1.2.2.2.1
  have hn5 : ql_n L ≤ 5 := hL.1.2.1
  have h40 : ql_S L ≤ 40 := hL.1.2.2.2.2.2
  refine lv_aload_n hx hb dX0_rebase_0 rfl (lv_at hl 0 rfl) ?_
  refine qg_3 (f := 3) hx hb htz tin_X0 hown hK hG hi (htz _ fX0_22) (by decide) rfl dX0_rebase_1 ?_
  refine lv_iconst (v := 0) hx hb dX0_rebase_4 (by decide) ?_
  refine lv_iload_n hx hb dX0_rebase_5 rfl (lv_at hl 1 rfl) ?_
  refine lv_aload_n hx hb dX0_rebase_6 rfl (lv_at hl 0 rfl) ?_
  refine qg_3 (f := 0) hx hb htz tin_X0 hown hK hG hi (htz _ fX0_18) (by decide) rfl dX0_rebase_7 ?_
  refine lv_isub hx hb dX0_rebase_10 ?_
  refine va_mmax hx hb (hml.trans hl.1.symm) hown (htz _ lX0_46) (htz _ max_stat) (htz _ ini_Math) (htz _ max_code) (Nat.le_of_ble_eq_true rfl) (Nat.le_of_ble_eq_true rfl) (Nat.le_of_ble_eq_true rfl) (Nat.le_of_ble_eq_true rfl) dX0_rebase_11 ?_
  refine va_mmin hx hb (hml.trans hl.1.symm) hown (htz _ lX0_52) (htz _ min_stat) (htz _ ini_Math) (htz _ min_code) (Nat.le_of_ble_eq_true rfl) (Nat.le_of_ble_eq_true rfl) (Nat.le_of_ble_eq_true rfl) (Nat.le_of_ble_eq_true rfl) dX0_rebase_14 ?_
  refine lv_istore hx hb dX0_rebase_17 hl (by decide) rfl (fun ls hl => ?_)
  have hl : lv_has ls 6 [(4, .int _), (0, .ref _), (1, .int _), (2, .int _), (3, .int _)] := hl
  refine lv_iload hx hb dX0_rebase_19 (lv_at hl 0 rfl) ?_
  refine lv_istore hx hb dX0_rebase_21 hl (by decide) rfl (fun ls hl => ?_)
  have hl : lv_has ls 6 [(5, .int _), (4, .int _), (0, .ref _), (1, .int _), (2, .int _), (3, .int _)] := hl
  obtain ⟨g, k9, eg, ek, g1, g2⟩ := hw.gone hc12 b
  have hl : lv_has ls 6 [(5, .int (qs_gone u i b)), (4, .int (qs_gone u i b)), (0, .ref (L.1 3 i)), (1, .int b), (2, .int t), (3, .int x)] := hl
  rw [eg] at hl
  refine mz_loop (k9 - g) (P := fun j ls H locs => lv_has ls 6 [(5, .int (nI (g + j))), (4, .int (nI g)), (0, .ref (L.1 3 i)), (1, .int b), (2, .int t), (3, .int x)] ∧ qG D L (qs_mv u i g j) H ∧ va_S (qA L) s.heap H locs ∧ j ≤ k9 - g) (fun _ _ _ _ h => h.2.2.2) ?_ 0 _ _ _ ⟨hl, hG, hS, Nat.zero_le _⟩
  intro j ls H locs ⟨hl, hG, hS, hj⟩ ih
  refine lv_iload hx hb dX0_rebase_23 (lv_at hl 0 rfl) ?_
  refine lv_aload_n hx hb dX0_rebase_25 rfl (lv_at hl 2 rfl) ?_
  refine qg_3 (f := 3) (v := .int (u 3 i 3)) hx hb htz tin_X0 hown hK hG hi (htz _ fX0_22) (by decide) (by simp [qf3, qs_mv_o]) dX0_rebase_26 ?_
  refine mz_icmp_ge hx hb dX0_rebase_29 (tgt := 72) rfl (fun h0 h0' => ?_) (fun h0 h0' => ?_)
  · rw [ek, nI_leI (by omega) (by omega)] at h0'
    refine lv_aload_n hx hb dX0_rebase_72 rfl (lv_at hl 2 rfl) ?_
    refine lv_dup hx hb dX0_rebase_73 rfl ?_
    refine qg_3 (f := 3) (v := .int (u 3 i 3)) hx hb htz tin_X0 hown hK hG hi (htz _ fX0_22) (by decide) (by simp [qf3, qs_mv_o]) dX0_rebase_74 ?_
    refine lv_iload hx hb dX0_rebase_77 (lv_at hl 1 rfl) ?_
    refine lv_isub hx hb dX0_rebase_79 ?_
    refine qp_3_3 hx hb htz tin_X0 hown hL hK hG hS hi (htz _ fX0_22) dX0_rebase_80 (fun H locs hG hS => ?_)
    refine lv_aload_n hx hb dX0_rebase_83 rfl (lv_at hl 2 rfl) ?_
    refine lv_iload_n hx hb dX0_rebase_84 rfl (lv_at hl 3 rfl) ?_
    refine qp_3_0 hx hb htz tin_X0 hown hL hK hG hS hi (htz _ fX0_18) dX0_rebase_85 (fun H locs hG hS => ?_)
    refine lv_aload_n hx hb dX0_rebase_88 rfl (lv_at hl 2 rfl) ?_
    refine lv_iload_n hx hb dX0_rebase_89 rfl (lv_at hl 4 rfl) ?_
    refine qp_3_1 hx hb htz tin_X0 hown hL hK hG hS hi (htz _ fX0_25) dX0_rebase_90 (fun H locs hG hS => ?_)
    refine lv_aload_n hx hb dX0_rebase_93 rfl (lv_at hl 2 rfl) ?_
    refine lv_iload_n hx hb dX0_rebase_94 rfl (lv_at hl 5 rfl) ?_
    refine qp_3_2 hx hb htz tin_X0 hown hL hK hG hS hi (htz _ fX0_32) dX0_rebase_95 (fun H locs hG hS => ?_)
    exact mz_vret hx hb hr hlk qK_ok hK hS hG dX0_rebase_98 (by rw [qs_rebase, eg, ek, pk_sub (by omega), nI_clamp (by omega), nI_clamp (by omega), show k9 - g = j by omega])
  · rw [ek, nI_ltI (by omega) (by omega)] at h0
    refine lv_aload_n hx hb dX0_rebase_32 rfl (lv_at hl 2 rfl) ?_
    refine qg_3 (f := 4) hx hb htz tin_X0 hown hK hG hi (htz _ fX0_9) (by decide) rfl dX0_rebase_33 ?_
    refine lv_iload hx hb dX0_rebase_36 (lv_at hl 0 rfl) ?_
    refine lv_iload hx hb dX0_rebase_38 (lv_at hl 1 rfl) ?_
    refine lv_isub hx hb dX0_rebase_40 ?_
    rw [pk_sub (by omega), show g + j - g = j by omega]
    refine lv_aload_n hx hb dX0_rebase_41 rfl (lv_at hl 2 rfl) ?_
    refine qg_3 (f := 4) hx hb htz tin_X0 hown hK hG hi (htz _ fX0_9) (by decide) rfl dX0_rebase_42 ?_
    refine lv_iload hx hb dX0_rebase_45 (lv_at hl 0 rfl) ?_
    refine qa_4 hx hb hK hG hi (vp_in_nI (by omega) (by omega)) dX0_rebase_47 ?_
    rw [nI_clamp (by omega)]
    refine qt_4 hx hb hL hK hG hS hi (vp_in_nI (by omega) (by omega)) dX0_rebase_48 (fun H locs hG hS => ?_)
    rw [nI_clamp (by omega)] at hG
    refine lv_aload_n hx hb dX0_rebase_49 rfl (lv_at hl 2 rfl) ?_
    refine qg_3 (f := 5) hx hb htz tin_X0 hown hK hG hi (htz _ fX0_15) (by decide) rfl dX0_rebase_50 ?_
    refine lv_iload hx hb dX0_rebase_53 (lv_at hl 0 rfl) ?_
    refine lv_iload hx hb dX0_rebase_55 (lv_at hl 1 rfl) ?_
    refine lv_isub hx hb dX0_rebase_57 ?_
    rw [pk_sub (by omega), show g + j - g = j by omega]
    refine lv_aload_n hx hb dX0_rebase_58 rfl (lv_at hl 2 rfl) ?_
    refine qg_3 (f := 5) hx hb htz tin_X0 hown hK hG hi (htz _ fX0_15) (by decide) rfl dX0_rebase_59 ?_
    refine lv_iload hx hb dX0_rebase_62 (lv_at hl 0 rfl) ?_
    refine qa_5 hx hb hK hG hi (vp_in_nI (by omega) (by omega)) dX0_rebase_64 ?_
    rw [nI_clamp (by omega), mz_uk (k := 4) (k' := 5) (by decide)]
    refine qt_5 hx hb hL hK hG hS hi (vp_in_nI (by omega) (by omega)) dX0_rebase_65 (fun H locs hG hS => ?_)
    rw [nI_clamp (by omega)] at hG
    refine lv_iinc (k := 0) hx hb dX0_rebase_66 hl rfl (nI_1 (g + j)) (by decide) rfl (fun ls hl => ?_)
    have hl : lv_has ls 6 [(5, .int _), (4, .int _), (0, .ref _), (1, .int _), (2, .int _), (3, .int _)] := hl
    refine lv_goto hx hb dX0_rebase_69 (tgt := 23) rfl ?_
    exact ih (by omega) _ _ _ ⟨hl, hG, hS, by omega⟩
