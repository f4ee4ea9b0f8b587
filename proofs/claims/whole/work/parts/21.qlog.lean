set_option maxRecDepth 100000 in
set_option maxHeartbeats 4000000 in
theorem qc_lastNumber (l : Launch) (D : va_G) (L : qL) (hL : qL_ok L) (u : mz_S) (i : Nat) (hi : i < ql_n L) : mz_Ci l (qG D L) (qK D L) (qA L) yX0_lastNumber (tz_w yX0_lastNumber cX0_lastNumber 1 (some .int)) ({ frames := 0, cells := 0, slots := 0, locals := 0 } : Room) [.ref (L.1 3 i)] u (qs_last u i) (u) := by
  refine mz_Ci.of (cc := cX0_lastNumber) (maxL := 1) (ret := (some .int)) (by decide) rfl (Nat.le_of_ble_eq_true rfl) ?_
  intro p e s m args below meth c ls hx hb hr hlk hml hown hts hl hG hK hS
  have hl : lv_has ls 1 [(0, .ref (L.1 3 i))] := hl
  have htz : ∀ w ∈ tz, w.before args s = true := fun w h => hts w (List.mem_cons_of_mem _ h)
  refine lv_aload_n hx hb dX0_lastNumber_0 rfl (lv_at hl 0 rfl) ?_
  refine qg_3 (f := 0) hx hb htz tin_X0 hown hK hG hi (htz _ fX0_18) (by decide) rfl dX0_lastNumber_1 ?_
  refine lv_aload_n hx hb dX0_lastNumber_4 rfl (lv_at hl 0 rfl) ?_
  refine qg_3 (f := 3) hx hb htz tin_X0 hown hK hG hi (htz _ fX0_22) (by decide) rfl dX0_lastNumber_5 ?_
  refine lv_iadd hx hb dX0_lastNumber_8 ?_
  exact mz_iret hx hb hr hlk qK_ok hK hS hG dX0_lastNumber_9 rfl rfl

set_option maxRecDepth 100000 in
set_option maxHeartbeats 4000000 in
theorem qc_lastTerm (l : Launch) (D : va_G) (L : qL) (hL : qL_ok L) (u : mz_S) (i : Nat) (hi : i < ql_n L) (hw : qw (ql_c L) u i) : mz_Ci l (qG D L) (qK D L) (qA L) yX0_lastTerm (tz_w yX0_lastTerm cX0_lastTerm 1 (some .int)) ({ frames := 0, cells := 0, slots := 0, locals := 0 } : Room) [.ref (L.1 3 i)] u (qs_lastT u i) (u) := by
  refine mz_Ci.of (cc := cX0_lastTerm) (maxL := 1) (ret := (some .int)) (by decide) rfl (Nat.le_of_ble_eq_true rfl) ?_
  intro p e s m args below meth c ls hx hb hr hlk hml hown hts hl hG hK hS
  have hl : lv_has ls 1 [(0, .ref (L.1 3 i))] := hl
  have htz : ∀ w ∈ tz, w.before args s = true := fun w h => hts w (List.mem_cons_of_mem _ h)
  refine lv_aload_n hx hb dX0_lastTerm_0 rfl (lv_at hl 0 rfl) ?_
  refine qg_3 (f := 3) hx hb htz tin_X0 hown hK hG hi (htz _ fX0_22) (by decide) rfl dX0_lastTerm_1 ?_
  refine mz_if_le hx hb dX0_lastTerm_4 (tgt := 21) rfl (fun h0 h0' => ?_) (fun h0 h0' => ?_)
  · refine lv_aload_n hx hb dX0_lastTerm_21 rfl (lv_at hl 0 rfl) ?_
    refine qg_3 (f := 1) hx hb htz tin_X0 hown hK hG hi (htz _ fX0_25) (by decide) rfl dX0_lastTerm_22 ?_
    exact mz_iret hx hb hr hlk qK_ok hK hS hG dX0_lastTerm_25 (by simp [qs_lastT, h0, h0']) rfl
  · refine lv_aload_n hx hb dX0_lastTerm_7 rfl (lv_at hl 0 rfl) ?_
    refine qg_3 (f := 4) hx hb htz tin_X0 hown hK hG hi (htz _ fX0_9) (by decide) rfl dX0_lastTerm_8 ?_
    refine lv_aload_n hx hb dX0_lastTerm_11 rfl (lv_at hl 0 rfl) ?_
    refine qg_3 (f := 3) hx hb htz tin_X0 hown hK hG hi (htz _ fX0_22) (by decide) rfl dX0_lastTerm_12 ?_
    refine lv_iconst (v := 1) hx hb dX0_lastTerm_15 (by decide) ?_
    refine lv_isub hx hb dX0_lastTerm_16 ?_
    refine qa_4 hx hb hK hG hi (hw.top hL.1.2.2.2.1 h0) dX0_lastTerm_17 ?_
    refine lv_goto hx hb dX0_lastTerm_18 (tgt := 25) rfl ?_
    exact mz_iret hx hb hr hlk qK_ok hK hS hG dX0_lastTerm_25 (by simp [qs_lastT, h0, h0']) rfl

set_option maxRecDepth 100000 in
set_option maxHeartbeats 4000000 in
theorem qc_isFull (l : Launch) (D : va_G) (L : qL) (hL : qL_ok L) (u : mz_S) (i : Nat) (hi : i < ql_n L) : mz_Ci l (qG D L) (qK D L) (qA L) yX0_isFull (tz_w yX0_isFull cX0_isFull 1 (some .boolean)) ({ frames := 0, cells := 0, slots := 0, locals := 0 } : Room) [.ref (L.1 3 i)] u (mz_b (qs_full (ql_c L) u i)) (u) := by
  refine mz_Ci.of (cc := cX0_isFull) (maxL := 1) (ret := (some .boolean)) (by decide) rfl (Nat.le_of_ble_eq_true rfl) ?_
  intro p e s m args below meth c ls hx hb hr hlk hml hown hts hl hG hK hS
  have hl : lv_has ls 1 [(0, .ref (L.1 3 i))] := hl
  have htz : ∀ w ∈ tz, w.before args s = true := fun w h => hts w (List.mem_cons_of_mem _ h)
  refine lv_aload_n hx hb dX0_isFull_0 rfl (lv_at hl 0 rfl) ?_
  refine qg_3 (f := 3) hx hb htz tin_X0 hown hK hG hi (htz _ fX0_22) (by decide) rfl dX0_isFull_1 ?_
  refine lv_aload_n hx hb dX0_isFull_4 rfl (lv_at hl 0 rfl) ?_
  refine qg_3 (f := 4) hx hb htz tin_X0 hown hK hG hi (htz _ fX0_9) (by decide) rfl dX0_isFull_5 ?_
  refine qz_4 hx hb hK hG hi dX0_isFull_8 ?_
  refine mz_icmp_lt hx hb dX0_isFull_9 (tgt := 16) rfl (fun h_1 h_1' => ?_) (fun h_1 h_1' => ?_)
  · refine lv_iconst (v := 0) hx hb dX0_isFull_16 (by decide) ?_
    exact mz_zret hx hb hr hlk qK_ok hK hS hG dX0_isFull_17 (by decide) (by simp [mz_b, qs_full, h_1, h_1']) rfl
  · refine lv_iconst (v := 1) hx hb dX0_isFull_12 (by decide) ?_
    refine lv_goto hx hb dX0_isFull_13 (tgt := 17) rfl ?_
    exact mz_zret hx hb hr hlk qK_ok hK hS hG dX0_isFull_17 (by decide) (by simp [mz_b, qs_full, h_1, h_1']) rfl

set_option maxRecDepth 100000 in
set_option maxHeartbeats 4000000 in
theorem qc_hasEntry (l : Launch) (D : va_G) (L : qL) (hL : qL_ok L) (u : mz_S) (i : Nat) (hi : i < ql_n L) (k : Int32) : mz_Ci l (qG D L) (qK D L) (qA L) yX0_hasEntry (tz_w yX0_hasEntry cX0_hasEntry 2 (some .boolean)) ({ frames := 0, cells := 0, slots := 0, locals := 0 } : Room) [.ref (L.1 3 i), .int k] u (mz_b (qs_has u i k)) (u) := by
  refine mz_Ci.of (cc := cX0_hasEntry) (maxL := 2) (ret := (some .boolean)) (by decide) rfl (Nat.le_of_ble_eq_true rfl) ?_
  intro p e s m args below meth c ls hx hb hr hlk hml hown hts hl hG hK hS
  have hl : lv_has ls 2 [(0, .ref (L.1 3 i)), (1, .int k)] := hl
  have htz : ∀ w ∈ tz, w.before args s = true := fun w h => hts w (List.mem_cons_of_mem _ h)
  refine lv_iload_n hx hb dX0_hasEntry_0 rfl (lv_at hl 1 rfl) ?_
  refine lv_aload_n hx hb dX0_hasEntry_1 rfl (lv_at hl 0 rfl) ?_
  refine qg_3 (f := 0) hx hb htz tin_X0 hown hK hG hi (htz _ fX0_18) (by decide) rfl dX0_hasEntry_2 ?_
  refine mz_icmp_le hx hb dX0_hasEntry_5 (tgt := 25) rfl (fun h_1 h_1' => ?_) (fun h_1 h_1' => ?_)
  · refine lv_iconst (v := 0) hx hb dX0_hasEntry_25 (by decide) ?_
    exact mz_zret hx hb hr hlk qK_ok hK hS hG dX0_hasEntry_26 (by decide) (by simp [mz_b, qs_has, h_1, h_1']) rfl
  · refine lv_iload_n hx hb dX0_hasEntry_8 rfl (lv_at hl 1 rfl) ?_
    refine lv_aload_n hx hb dX0_hasEntry_9 rfl (lv_at hl 0 rfl) ?_
    refine qg_3 (f := 0) hx hb htz tin_X0 hown hK hG hi (htz _ fX0_18) (by decide) rfl dX0_hasEntry_10 ?_
    refine lv_aload_n hx hb dX0_hasEntry_13 rfl (lv_at hl 0 rfl) ?_
    refine qg_3 (f := 3) hx hb htz tin_X0 hown hK hG hi (htz _ fX0_22) (by decide) rfl dX0_hasEntry_14 ?_
    refine lv_iadd hx hb dX0_hasEntry_17 ?_
    refine mz_icmp_gt hx hb dX0_hasEntry_18 (tgt := 25) rfl (fun h_2 h_2' => ?_) (fun h_2 h_2' => ?_)
    · refine lv_iconst (v := 0) hx hb dX0_hasEntry_25 (by decide) ?_
      exact mz_zret hx hb hr hlk qK_ok hK hS hG dX0_hasEntry_26 (by decide) (by simp [mz_b, qs_has, h_1, h_1', h_2, h_2']) rfl
    · refine lv_iconst (v := 1) hx hb dX0_hasEntry_21 (by decide) ?_
      refine lv_goto hx hb dX0_hasEntry_22 (tgt := 26) rfl ?_
      exact mz_zret hx hb hr hlk qK_ok hK hS hG dX0_hasEntry_26 (by decide) (by simp [mz_b, qs_has, h_1, h_1', h_2, h_2']) rfl

set_option maxRecDepth 100000 in
set_option maxHeartbeats 4000000 in
theorem qc_termOf (l : Launch) (D : va_G) (L : qL) (hL : qL_ok L) (u : mz_S) (i : Nat) (hi : i < ql_n L) (k : Int32) (hw : qw (ql_c L) u i) : mz_Ci l (qG D L) (qK D L) (qA L) yX0_termOf (tz_w yX0_termOf cX0_termOf 2 (some .int)) ({ frames := 1, cells := 0, slots := 0, locals := 21 } : Room) [.ref (L.1 3 i), .int k] u (qs_term u i k) (u) := by
  refine mz_Ci.of (cc := cX0_termOf) (maxL := 2) (ret := (some .int)) (by decide) rfl (Nat.le_of_ble_eq_true rfl) ?_
  intro p e s m args below meth c ls hx hb hr hlk hml hown hts hl hG hK hS
  have hl : lv_has ls 2 [(0, .ref (L.1 3 i)), (1, .int k)] := hl
  have htz : ∀ w ∈ tz, w.before args s = true := fun w h => hts w (List.mem_cons_of_mem _ h)
  refine lv_aload_n hx hb dX0_termOf_0 rfl (lv_at hl 0 rfl) ?_
  refine lv_iload_n hx hb dX0_termOf_1 rfl (lv_at hl 1 rfl) ?_
  refine mz_Vi (As := [.int _]) (rest := []) ⟨hx, hb, hml, hown, hts⟩ (qc_hasEntry l D L hL _ i hi _) (tz_V htz mX0_hasEntry lX0_28 rfl rfl ⟨Nat.le_of_ble_eq_true rfl, Nat.le_of_ble_eq_true rfl⟩) (qrecv_3 hK hG hi) qK_ok hK hG hS rfl hl.1 rfl (Nat.le_of_ble_eq_true rfl) dX0_termOf_2 ⟨Nat.zero_le _, Nat.zero_le _⟩ (fun H locs hG hS => ?_)
  refine mz_ifeq_b hx hb dX0_termOf_5 (tgt := 22) rfl (fun h0 => ?_) (fun h0 => ?_)
  · refine lv_iload_n hx hb dX0_termOf_22 rfl (lv_at hl 1 rfl) ?_
    refine lv_aload_n hx hb dX0_termOf_23 rfl (lv_at hl 0 rfl) ?_
    refine qg_3 (f := 0) hx hb htz tin_X0 hown hK hG hi (htz _ fX0_18) (by decide) rfl dX0_termOf_24 ?_
    refine lv_icmp_ne hx hb dX0_termOf_27 (tgt := 37) rfl (fun h_1 => ?_) (fun h_1 => ?_)
    · refine lv_iconst (v := (-1)) hx hb dX0_termOf_37 (by decide) ?_
      exact mz_iret hx hb hr hlk qK_ok hK hS hG dX0_termOf_38 (by unfold qs_term; simp only [if_pos, if_neg, h0, h_1, ↓reduceIte, not_false_eq_true]) rfl
    · refine lv_aload_n hx hb dX0_termOf_30 rfl (lv_at hl 0 rfl) ?_
      refine qg_3 (f := 1) hx hb htz tin_X0 hown hK hG hi (htz _ fX0_25) (by decide) rfl dX0_termOf_31 ?_
      refine lv_goto hx hb dX0_termOf_34 (tgt := 38) rfl ?_
      exact mz_iret hx hb hr hlk qK_ok hK hS hG dX0_termOf_38 (by unfold qs_term; simp only [if_pos, if_neg, h0, h_1, ↓reduceIte, not_false_eq_true]) rfl
  · refine lv_aload_n hx hb dX0_termOf_8 rfl (lv_at hl 0 rfl) ?_
    refine qg_3 (f := 4) hx hb htz tin_X0 hown hK hG hi (htz _ fX0_9) (by decide) rfl dX0_termOf_9 ?_
    refine lv_iload_n hx hb dX0_termOf_12 rfl (lv_at hl 1 rfl) ?_
    refine lv_aload_n hx hb dX0_termOf_13 rfl (lv_at hl 0 rfl) ?_
    refine qg_3 (f := 0) hx hb htz tin_X0 hown hK hG hi (htz _ fX0_18) (by decide) rfl dX0_termOf_14 ?_
    refine lv_isub hx hb dX0_termOf_17 ?_
    refine lv_iconst (v := 1) hx hb dX0_termOf_18 (by decide) ?_
    refine lv_isub hx hb dX0_termOf_19 ?_
    refine qa_4 hx hb hK hG hi (hw.ix hL.1.2.2.2.1 h0) dX0_termOf_20 ?_
    exact mz_iret hx hb hr hlk qK_ok hK hS hG dX0_termOf_21 (by unfold qs_term; simp only [if_pos, if_neg, h0, ↓reduceIte, not_false_eq_true]) rfl

set_option maxRecDepth 100000 in
set_option maxHeartbeats 4000000 in
theorem qc_commandOf (l : Launch) (D : va_G) (L : qL) (hL : qL_ok L) (u : mz_S) (i : Nat) (hi : i < ql_n L) (k : Int32) (hw : qw (ql_c L) u i) : mz_Ci l (qG D L) (qK D L) (qA L) yX0_commandOf (tz_w yX0_commandOf cX0_commandOf 2 (some .int)) ({ frames := 1, cells := 0, slots := 0, locals := 21 } : Room) [.ref (L.1 3 i), .int k] u (qs_cmd u i k) (u) := by
  refine mz_Ci.of (cc := cX0_commandOf) (maxL := 2) (ret := (some .int)) (by decide) rfl (Nat.le_of_ble_eq_true rfl) ?_
  intro p e s m args below meth c ls hx hb hr hlk hml hown hts hl hG hK hS
  have hl : lv_has ls 2 [(0, .ref (L.1 3 i)), (1, .int k)] := hl
  have htz : ∀ w ∈ tz, w.before args s = true := fun w h => hts w (List.mem_cons_of_mem _ h)
  refine lv_aload_n hx hb dX0_commandOf_0 rfl (lv_at hl 0 rfl) ?_
  refine lv_iload_n hx hb dX0_commandOf_1 rfl (lv_at hl 1 rfl) ?_
  refine mz_Vi (As := [.int _]) (rest := []) ⟨hx, hb, hml, hown, hts⟩ (qc_hasEntry l D L hL _ i hi _) (tz_V htz mX0_hasEntry lX0_28 rfl rfl ⟨Nat.le_of_ble_eq_true rfl, Nat.le_of_ble_eq_true rfl⟩) (qrecv_3 hK hG hi) qK_ok hK hG hS rfl hl.1 rfl (Nat.le_of_ble_eq_true rfl) dX0_commandOf_2 ⟨Nat.zero_le _, Nat.zero_le _⟩ (fun H locs hG hS => ?_)
  refine mz_ifeq_b hx hb dX0_commandOf_5 (tgt := 24) rfl (fun h0 => ?_) (fun h0 => ?_)
  · refine lv_iconst (v := 0) hx hb dX0_commandOf_24 (by decide) ?_
    exact mz_iret hx hb hr hlk qK_ok hK hS hG dX0_commandOf_25 (by unfold qs_cmd; simp only [if_pos, if_neg, h0, ↓reduceIte, not_false_eq_true]) rfl
  · refine lv_aload_n hx hb dX0_commandOf_8 rfl (lv_at hl 0 rfl) ?_
    refine qg_3 (f := 5) hx hb htz tin_X0 hown hK hG hi (htz _ fX0_15) (by decide) rfl dX0_commandOf_9 ?_
    refine lv_iload_n hx hb dX0_commandOf_12 rfl (lv_at hl 1 rfl) ?_
    refine lv_aload_n hx hb dX0_commandOf_13 rfl (lv_at hl 0 rfl) ?_
    refine qg_3 (f := 0) hx hb htz tin_X0 hown hK hG hi (htz _ fX0_18) (by decide) rfl dX0_commandOf_14 ?_
    refine lv_isub hx hb dX0_commandOf_17 ?_
    refine lv_iconst (v := 1) hx hb dX0_commandOf_18 (by decide) ?_
    refine lv_isub hx hb dX0_commandOf_19 ?_
    refine qa_5 hx hb hK hG hi (hw.ix hL.1.2.2.2.1 h0) dX0_commandOf_20 ?_
    refine lv_goto hx hb dX0_commandOf_21 (tgt := 25) rfl ?_
    exact mz_iret hx hb hr hlk qK_ok hK hS hG dX0_commandOf_25 (by unfold qs_cmd; simp only [if_pos, if_neg, h0, ↓reduceIte, not_false_eq_true]) rfl
