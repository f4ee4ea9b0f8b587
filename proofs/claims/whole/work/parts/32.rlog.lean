set_option maxRecDepth 100000 in
set_option maxHeartbeats 4000000 in
theorem rc_isNode (l : Launch) (D : va_G) (L : rL) (hL : rL_ok L) (u : mz_S) (x : Int32) : mz_Ci l (rG D L) (rK D L) (rA L) yX5_isNode (tz_w yX5_isNode cX5_isNode 2 (some .boolean)) ({ frames := 0, cells := 0, slots := 0, locals := 0 } : Room) [.ref (L.1 0 0), .int x] u (mz_b (qs_isN (rl_n L) x)) (u) := by
  refine mz_Ci.of (cc := cX5_isNode) (maxL := 2) (ret := (some .boolean)) (by decide) rfl (Nat.le_of_ble_eq_true rfl) ?_
  intro p e s m args below meth c ls hx hb hr hlk hml hown hts hl hG hK hS
  have hl : lv_has ls 2 [(0, .ref (L.1 0 0)), (1, .int x)] := hl
  have htz : ∀ w ∈ tz, w.before args s = true := fun w h => hts w (List.mem_cons_of_mem _ h)
  have hc12 : rl_c L ≤ 12 := hL.1.2.2.2.1
  have hn5 : rl_n L ≤ 5 := hL.1.2.1
  have h40 : rl_S L ≤ 40 := hL.1.2.2.2.2.2
  refine lv_iload_n hx hb dX5_isNode_0 rfl (lv_at hl 1 rfl) ?_
  refine mz_if_lt hx hb dX5_isNode_1 (tgt := 16) rfl (fun h_1 h_1' => ?_) (fun h_1 h_1' => ?_)
  · refine lv_iconst (v := 0) hx hb dX5_isNode_16 (by decide) ?_
    exact mz_zret hx hb hr hlk rK_ok hK hS hG dX5_isNode_17 (by decide) (by simp [mz_b, qs_isN, h_1, h_1']) rfl
  · refine lv_iload_n hx hb dX5_isNode_4 rfl (lv_at hl 1 rfl) ?_
    refine lv_aload_n hx hb dX5_isNode_5 rfl (lv_at hl 0 rfl) ?_
    refine rg_0 (f := 0) hx hb htz tin_X5 hown hK hG (by decide) (htz _ fX5_87) (by decide) rfl dX5_isNode_6 ?_
    refine mz_icmp_ge hx hb dX5_isNode_9 (tgt := 16) rfl (fun h_2 h_2' => ?_) (fun h_2 h_2' => ?_)
    · refine lv_iconst (v := 0) hx hb dX5_isNode_16 (by decide) ?_
      exact mz_zret hx hb hr hlk rK_ok hK hS hG dX5_isNode_17 (by decide) (by simp [mz_b, qs_isN, h_1, h_1', h_2, h_2']) rfl
    · refine lv_iconst (v := 1) hx hb dX5_isNode_12 (by decide) ?_
      refine lv_goto hx hb dX5_isNode_13 (tgt := 17) rfl ?_
      exact mz_zret hx hb hr hlk rK_ok hK hS hG dX5_isNode_17 (by decide) (by simp [mz_b, qs_isN, h_1, h_1', h_2, h_2']) rfl

set_option maxRecDepth 100000 in
set_option maxHeartbeats 4000000 in
theorem rc_isSlot (l : Launch) (D : va_G) (L : rL) (hL : rL_ok L) (u : mz_S) (x : Int32) : mz_Ci l (rG D L) (rK D L) (rA L) yX5_isSlot (tz_w yX5_isSlot cX5_isSlot 2 (some .boolean)) ({ frames := 0, cells := 0, slots := 0, locals := 0 } : Room) [.ref (L.1 0 0), .int x] u (mz_b (qs_isN (rl_S L) x)) (u) := by
  refine mz_Ci.of (cc := cX5_isSlot) (maxL := 2) (ret := (some .boolean)) (by decide) rfl (Nat.le_of_ble_eq_true rfl) ?_
  intro p e s m args below meth c ls hx hb hr hlk hml hown hts hl hG hK hS
  have hl : lv_has ls 2 [(0, .ref (L.1 0 0)), (1, .int x)] := hl
  have htz : ∀ w ∈ tz, w.before args s = true := fun w h => hts w (List.mem_cons_of_mem _ h)
  have hc12 : rl_c L ≤ 12 := hL.1.2.2.2.1
  have hn5 : rl_n L ≤ 5 := hL.1.2.1
  have h40 : rl_S L ≤ 40 := hL.1.2.2.2.2.2
  refine lv_iload_n hx hb dX5_isSlot_0 rfl (lv_at hl 1 rfl) ?_
  refine mz_if_lt hx hb dX5_isSlot_1 (tgt := 16) rfl (fun h_1 h_1' => ?_) (fun h_1 h_1' => ?_)
  · refine lv_iconst (v := 0) hx hb dX5_isSlot_16 (by decide) ?_
    exact mz_zret hx hb hr hlk rK_ok hK hS hG dX5_isSlot_17 (by decide) (by simp [mz_b, qs_isN, h_1, h_1']) rfl
  · refine lv_iload_n hx hb dX5_isSlot_4 rfl (lv_at hl 1 rfl) ?_
    refine lv_aload_n hx hb dX5_isSlot_5 rfl (lv_at hl 0 rfl) ?_
    refine rg_0 (f := 2) hx hb htz tin_X5 hown hK hG (by decide) (htz _ fX5_94) (by decide) rfl dX5_isSlot_6 ?_
    refine mz_icmp_ge hx hb dX5_isSlot_9 (tgt := 16) rfl (fun h_2 h_2' => ?_) (fun h_2 h_2' => ?_)
    · refine lv_iconst (v := 0) hx hb dX5_isSlot_16 (by decide) ?_
      exact mz_zret hx hb hr hlk rK_ok hK hS hG dX5_isSlot_17 (by decide) (by simp [mz_b, qs_isN, h_1, h_1', h_2, h_2']) rfl
    · refine lv_iconst (v := 1) hx hb dX5_isSlot_12 (by decide) ?_
      refine lv_goto hx hb dX5_isSlot_13 (tgt := 17) rfl ?_
      exact mz_zret hx hb hr hlk rK_ok hK hS hG dX5_isSlot_17 (by decide) (by simp [mz_b, qs_isN, h_1, h_1', h_2, h_2']) rfl

set_option maxRecDepth 100000 in
set_option maxHeartbeats 4000000 in
theorem rc_lastOf (l : Launch) (D : va_G) (L : rL) (hL : rL_ok L) (u : mz_S) (k : Int32) (hk : vp_in k 5) : mz_Ci l (rG D L) (rK D L) (rA L) yX5_lastOf (tz_w yX5_lastOf cX5_lastOf 2 (some .int)) ({ frames := 0, cells := 0, slots := 0, locals := 0 } : Room) [.ref (L.1 0 0), .int k] u (rs_last u k) (u) := by
  refine mz_Ci.of (cc := cX5_lastOf) (maxL := 2) (ret := (some .int)) (by decide) rfl (Nat.le_of_ble_eq_true rfl) ?_
  intro p e s m args below meth c ls hx hb hr hlk hml hown hts hl hG hK hS
  have hl : lv_has ls 2 [(0, .ref (L.1 0 0)), (1, .int k)] := hl
  have htz : ∀ w ∈ tz, w.before args s = true := fun w h => hts w (List.mem_cons_of_mem _ h)
  have hc12 : rl_c L ≤ 12 := hL.1.2.2.2.1
  have hn5 : rl_n L ≤ 5 := hL.1.2.1
  have h40 : rl_S L ≤ 40 := hL.1.2.2.2.2.2
  refine lv_aload_n hx hb dX5_lastOf_0 rfl (lv_at hl 0 rfl) ?_
  refine rg_0 (f := 7) hx hb htz tin_X5 hown hK hG (by decide) (htz _ fX5_23) (by decide) rfl dX5_lastOf_1 ?_
  refine lv_iload_n hx hb dX5_lastOf_4 rfl (lv_at hl 1 rfl) ?_
  refine ra_5 hx hb hK hG (by decide) hk dX5_lastOf_5 ?_
  refine lv_aload_n hx hb dX5_lastOf_6 rfl (lv_at hl 0 rfl) ?_
  refine rg_0 (f := 12) hx hb htz tin_X5 hown hK hG (by decide) (htz _ fX5_38) (by decide) rfl dX5_lastOf_7 ?_
  refine lv_iload_n hx hb dX5_lastOf_10 rfl (lv_at hl 1 rfl) ?_
  refine ra_10 hx hb hK hG (by decide) hk dX5_lastOf_11 ?_
  refine lv_iadd hx hb dX5_lastOf_12 ?_
  exact mz_iret hx hb hr hlk rK_ok hK hS hG dX5_lastOf_13 rfl rfl

set_option maxRecDepth 100000 in
set_option maxHeartbeats 4000000 in
theorem rc_hasEntry (l : Launch) (D : va_G) (L : rL) (hL : rL_ok L) (u : mz_S) (k i : Int32) (hk : vp_in k 5) : mz_Ci l (rG D L) (rK D L) (rA L) yX5_hasEntry (tz_w yX5_hasEntry cX5_hasEntry 3 (some .boolean)) ({ frames := 1, cells := 0, slots := 0, locals := 21 } : Room) [.ref (L.1 0 0), .int k, .int i] u (mz_b (rs_has u k i)) (u) := by
  refine mz_Ci.of (cc := cX5_hasEntry) (maxL := 3) (ret := (some .boolean)) (by decide) rfl (Nat.le_of_ble_eq_true rfl) ?_
  intro p e s m args below meth c ls hx hb hr hlk hml hown hts hl hG hK hS
  have hl : lv_has ls 3 [(0, .ref (L.1 0 0)), (1, .int k), (2, .int i)] := hl
  have htz : ∀ w ∈ tz, w.before args s = true := fun w h => hts w (List.mem_cons_of_mem _ h)
  have hc12 : rl_c L ≤ 12 := hL.1.2.2.2.1
  have hn5 : rl_n L ≤ 5 := hL.1.2.1
  have h40 : rl_S L ≤ 40 := hL.1.2.2.2.2.2
  refine lv_iload_n hx hb dX5_hasEntry_0 rfl (lv_at hl 2 rfl) ?_
  refine lv_aload_n hx hb dX5_hasEntry_1 rfl (lv_at hl 0 rfl) ?_
  refine rg_0 (f := 7) hx hb htz tin_X5 hown hK hG (by decide) (htz _ fX5_23) (by decide) rfl dX5_hasEntry_2 ?_
  refine lv_iload_n hx hb dX5_hasEntry_5 rfl (lv_at hl 1 rfl) ?_
  refine ra_5 hx hb hK hG (by decide) hk dX5_hasEntry_6 ?_
  refine mz_icmp_le hx hb dX5_hasEntry_7 (tgt := 23) rfl (fun h_1 h_1' => ?_) (fun h_1 h_1' => ?_)
  · refine lv_iconst (v := 0) hx hb dX5_hasEntry_23 (by decide) ?_
    exact mz_zret hx hb hr hlk rK_ok hK hS hG dX5_hasEntry_24 (by decide) (by simp [mz_b, rs_has, h_1, h_1']) rfl
  · refine lv_iload_n hx hb dX5_hasEntry_10 rfl (lv_at hl 2 rfl) ?_
    refine lv_aload_n hx hb dX5_hasEntry_11 rfl (lv_at hl 0 rfl) ?_
    refine lv_iload_n hx hb dX5_hasEntry_12 rfl (lv_at hl 1 rfl) ?_
    refine mz_Vi (As := [.int _]) (rest := [.int _]) ⟨hx, hb, hml, hown, hts⟩ (rc_lastOf l D L hL _ _ hk) (tz_V htz mX5_lastOf lX5_97 rfl rfl ⟨Nat.le_of_ble_eq_true rfl, Nat.le_of_ble_eq_true rfl⟩) (rrecv_0 hK hG (by decide)) rK_ok hK hG hS rfl hl.1 rfl (Nat.le_of_ble_eq_true rfl) dX5_hasEntry_13 ⟨Nat.zero_le _, Nat.zero_le _⟩ (fun H locs hG hS => ?_)
    refine mz_icmp_gt hx hb dX5_hasEntry_16 (tgt := 23) rfl (fun h_2 h_2' => ?_) (fun h_2 h_2' => ?_)
    · refine lv_iconst (v := 0) hx hb dX5_hasEntry_23 (by decide) ?_
      exact mz_zret hx hb hr hlk rK_ok hK hS hG dX5_hasEntry_24 (by decide) (by simp [mz_b, rs_has, h_1, h_1', h_2, h_2']) rfl
    · refine lv_iconst (v := 1) hx hb dX5_hasEntry_19 (by decide) ?_
      refine lv_goto hx hb dX5_hasEntry_20 (tgt := 24) rfl ?_
      exact mz_zret hx hb hr hlk rK_ok hK hS hG dX5_hasEntry_24 (by decide) (by simp [mz_b, rs_has, h_1, h_1', h_2, h_2']) rfl

set_option maxRecDepth 100000 in
set_option maxHeartbeats 4000000 in
theorem rc_place (l : Launch) (D : va_G) (L : rL) (hL : rL_ok L) (u : mz_S) (k i : Int32) (hk : vp_in k 5) : mz_Ci l (rG D L) (rK D L) (rA L) yX5_place (tz_w yX5_place cX5_place 3 (some .int)) ({ frames := 0, cells := 0, slots := 0, locals := 0 } : Room) [.ref (L.1 0 0), .int k, .int i] u (rs_place u k i) (u) := by
  refine mz_Ci.of (cc := cX5_place) (maxL := 3) (ret := (some .int)) (by decide) rfl (Nat.le_of_ble_eq_true rfl) ?_
  intro p e s m args below meth c ls hx hb hr hlk hml hown hts hl hG hK hS
  have hl : lv_has ls 3 [(0, .ref (L.1 0 0)), (1, .int k), (2, .int i)] := hl
  have htz : ∀ w ∈ tz, w.before args s = true := fun w h => hts w (List.mem_cons_of_mem _ h)
  have hc12 : rl_c L ≤ 12 := hL.1.2.2.2.1
  have hn5 : rl_n L ≤ 5 := hL.1.2.1
  have h40 : rl_S L ≤ 40 := hL.1.2.2.2.2.2
  refine lv_bipush (v := 12) hx hb dX5_place_0 (by decide) ?_
  refine lv_iload_n hx hb dX5_place_2 rfl (lv_at hl 1 rfl) ?_
  refine lv_imul hx hb dX5_place_3 ?_
  refine lv_iload_n hx hb dX5_place_4 rfl (lv_at hl 2 rfl) ?_
  refine lv_iadd hx hb dX5_place_5 ?_
  refine lv_aload_n hx hb dX5_place_6 rfl (lv_at hl 0 rfl) ?_
  refine rg_0 (f := 7) hx hb htz tin_X5 hown hK hG (by decide) (htz _ fX5_23) (by decide) rfl dX5_place_7 ?_
  refine lv_iload_n hx hb dX5_place_10 rfl (lv_at hl 1 rfl) ?_
  refine ra_5 hx hb hK hG (by decide) hk dX5_place_11 ?_
  refine lv_isub hx hb dX5_place_12 ?_
  refine lv_iconst (v := 1) hx hb dX5_place_13 (by decide) ?_
  refine lv_isub hx hb dX5_place_14 ?_
  exact mz_iret hx hb hr hlk rK_ok hK hS hG dX5_place_15 rfl rfl

set_option maxRecDepth 100000 in
set_option maxHeartbeats 4000000 in
theorem rc_termOf (l : Launch) (D : va_G) (L : rL) (hL : rL_ok L) (u : mz_S) (k i : Int32) (hz : rz (rl_c L) u k) : mz_Ci l (rG D L) (rK D L) (rA L) yX5_termOf (tz_w yX5_termOf cX5_termOf 3 (some .int)) ({ frames := 2, cells := 0, slots := 0, locals := 43 } : Room) [.ref (L.1 0 0), .int k, .int i] u (rs_term u k i) (u) := by
  refine mz_Ci.of (cc := cX5_termOf) (maxL := 3) (ret := (some .int)) (by decide) rfl (Nat.le_of_ble_eq_true rfl) ?_
  intro p e s m args below meth c ls hx hb hr hlk hml hown hts hl hG hK hS
  have hl : lv_has ls 3 [(0, .ref (L.1 0 0)), (1, .int k), (2, .int i)] := hl
  have htz : ∀ w ∈ tz, w.before args s = true := fun w h => hts w (List.mem_cons_of_mem _ h)
  have hc12 : rl_c L ≤ 12 := hL.1.2.2.2.1
  have hn5 : rl_n L ≤ 5 := hL.1.2.1
  have h40 : rl_S L ≤ 40 := hL.1.2.2.2.2.2
  have hk : vp_in k 5 := hz.k
  refine lv_iload_n hx hb dX5_termOf_0 rfl (lv_at hl 2 rfl) ?_
  refine lv_aload_n hx hb dX5_termOf_1 rfl (lv_at hl 0 rfl) ?_
  refine rg_0 (f := 7) hx hb htz tin_X5 hown hK hG (by decide) (htz _ fX5_23) (by decide) rfl dX5_termOf_2 ?_
  refine lv_iload_n hx hb dX5_termOf_5 rfl (lv_at hl 1 rfl) ?_
  refine ra_5 hx hb hK hG (by decide) hk dX5_termOf_6 ?_
  refine lv_icmp_ne hx hb dX5_termOf_7 (tgt := 19) rfl (fun h0 => ?_) (fun h0 => ?_)
  · refine lv_aload_n hx hb dX5_termOf_19 rfl (lv_at hl 0 rfl) ?_
    refine lv_iload_n hx hb dX5_termOf_20 rfl (lv_at hl 1 rfl) ?_
    refine lv_iload_n hx hb dX5_termOf_21 rfl (lv_at hl 2 rfl) ?_
    refine mz_Vi (As := [.int _, .int _]) (rest := []) ⟨hx, hb, hml, hown, hts⟩ (rc_hasEntry l D L hL _ _ _ hk) (tz_V htz mX5_hasEntry lX5_101 rfl rfl ⟨Nat.le_of_ble_eq_true rfl, Nat.le_of_ble_eq_true rfl⟩) (rrecv_0 hK hG (by decide)) rK_ok hK hG hS rfl hl.1 rfl (Nat.le_of_ble_eq_true rfl) dX5_termOf_22 ⟨Nat.zero_le _, Nat.zero_le _⟩ (fun H locs hG hS => ?_)
    refine mz_ifeq_b hx hb dX5_termOf_25 (tgt := 42) rfl (fun h1 => ?_) (fun h1 => ?_)
    · refine lv_iconst (v := (-1)) hx hb dX5_termOf_42 (by decide) ?_
      exact mz_iret hx hb hr hlk rK_ok hK hS hG dX5_termOf_43 (by unfold rs_term; first | rw [if_pos h0] | rw [if_neg h0, if_pos h1] | rw [if_neg h0, if_neg h1]) rfl
    · refine lv_aload_n hx hb dX5_termOf_28 rfl (lv_at hl 0 rfl) ?_
      refine rg_0 (f := 13) hx hb htz tin_X5 hown hK hG (by decide) (htz _ fX5_41) (by decide) rfl dX5_termOf_29 ?_
      refine lv_aload_n hx hb dX5_termOf_32 rfl (lv_at hl 0 rfl) ?_
      refine lv_iload_n hx hb dX5_termOf_33 rfl (lv_at hl 1 rfl) ?_
      refine lv_iload_n hx hb dX5_termOf_34 rfl (lv_at hl 2 rfl) ?_
      refine mz_Vi (As := [.int _, .int _]) (rest := [.ref _]) ⟨hx, hb, hml, hown, hts⟩ (rc_place l D L hL _ _ _ hk) (tz_V htz mX5_place lX5_105 rfl rfl ⟨Nat.le_of_ble_eq_true rfl, Nat.le_of_ble_eq_true rfl⟩) (rrecv_0 hK hG (by decide)) rK_ok hK hG hS rfl hl.1 rfl (Nat.le_of_ble_eq_true rfl) dX5_termOf_35 ⟨Nat.zero_le _, Nat.zero_le _⟩ (fun H locs hG hS => ?_)
      refine ra_11 hx hb hK hG (by decide) (hz.ix hc12 h1) dX5_termOf_38 ?_
      refine lv_goto hx hb dX5_termOf_39 (tgt := 43) rfl ?_
      exact mz_iret hx hb hr hlk rK_ok hK hS hG dX5_termOf_43 (by unfold rs_term; first | rw [if_pos h0] | rw [if_neg h0, if_pos h1] | rw [if_neg h0, if_neg h1]) rfl
  · refine lv_aload_n hx hb dX5_termOf_10 rfl (lv_at hl 0 rfl) ?_
    refine rg_0 (f := 8) hx hb htz tin_X5 hown hK hG (by decide) (htz _ fX5_26) (by decide) rfl dX5_termOf_11 ?_
    refine lv_iload_n hx hb dX5_termOf_14 rfl (lv_at hl 1 rfl) ?_
    refine ra_6 hx hb hK hG (by decide) hk dX5_termOf_15 ?_
    refine lv_goto hx hb dX5_termOf_16 (tgt := 43) rfl ?_
    exact mz_iret hx hb hr hlk rK_ok hK hS hG dX5_termOf_43 (by unfold rs_term; first | rw [if_pos h0] | rw [if_neg h0, if_pos h1] | rw [if_neg h0, if_neg h1]) rfl

set_option maxRecDepth 100000 in
set_option maxHeartbeats 4000000 in
theorem rc_stateTo (l : Launch) (D : va_G) (L : rL) (hL : rL_ok L) (u : mz_S) (k i : Int32) (hq : rzc (rl_c L) u k i) : mz_Ci l (rG D L) (rK D L) (rA L) yX5_stateTo (tz_w yX5_stateTo cX5_stateTo 5 (some .int)) ({ frames := 1, cells := 0, slots := 0, locals := 22 } : Room) [.ref (L.1 0 0), .int k, .int i] u (rs_state u k i) (u) := by
  refine mz_Ci.of (cc := cX5_stateTo) (maxL := 5) (ret := (some .int)) (by decide) rfl (Nat.le_of_ble_eq_true rfl) ?_
  intro p e s m args below meth c ls hx hb hr hlk hml hown hts hl hG hK hS
  have hl : lv_has ls 5 [(0, .ref (L.1 0 0)), (1, .int k), (2, .int i)] := hl
  have htz : ∀ w ∈ tz, w.before args s = true := fun w h => hts w (List.mem_cons_of_mem _ h)
  have hc12 : rl_c L ≤ 12 := hL.1.2.2.2.1
  have hn5 : rl_n L ≤ 5 := hL.1.2.1
  have h40 : rl_S L ≤ 40 := hL.1.2.2.2.2.2
  have hk : vp_in k 5 := hq.rz.k
  refine lv_aload_n hx hb dX5_stateTo_0 rfl (lv_at hl 0 rfl) ?_
  refine rg_0 (f := 9) hx hb htz tin_X5 hown hK hG (by decide) (htz _ fX5_29) (by decide) rfl dX5_stateTo_1 ?_
  refine lv_iload_n hx hb dX5_stateTo_4 rfl (lv_at hl 1 rfl) ?_
  refine ra_7 hx hb hK hG (by decide) hk dX5_stateTo_5 ?_
  refine lv_istore_n hx hb dX5_stateTo_6 rfl hl (by decide) rfl (fun ls hl => ?_)
  have hl : lv_has ls 5 [(3, .int _), (0, .ref _), (1, .int _), (2, .int _)] := hl
  refine lv_aload_n hx hb dX5_stateTo_7 rfl (lv_at hl 1 rfl) ?_
  refine rg_0 (f := 7) hx hb htz tin_X5 hown hK hG (by decide) (htz _ fX5_23) (by decide) rfl dX5_stateTo_8 ?_
  refine lv_iload_n hx hb dX5_stateTo_11 rfl (lv_at hl 2 rfl) ?_
  refine ra_5 hx hb hK hG (by decide) hk dX5_stateTo_12 ?_
  refine lv_iconst (v := 1) hx hb dX5_stateTo_13 (by decide) ?_
  refine lv_iadd hx hb dX5_stateTo_14 ?_
  refine lv_istore hx hb dX5_stateTo_15 hl (by decide) rfl (fun ls hl => ?_)
  have hl : lv_has ls 5 [(4, .int _), (3, .int _), (0, .ref _), (1, .int _), (2, .int _)] := hl
  obtain ⟨q, b, e9, p9, rfl, g1, e2, e3, rfl, g2, g3, g4, g5⟩ := hq
  rw [nI_clamp (by omega), e2, nI_1] at hl
  refine mz_loop (p9 - b) (P := fun j ls H locs => lv_has ls 5 [(4, .int (nI (b + 1 + j))), (3, .int (rs_fold u q j)), (0, .ref (L.1 0 0)), (1, .int (nI q)), (2, .int (nI p9))] ∧ rG D L u H ∧ va_S (rA L) s.heap H locs ∧ j ≤ p9 - b) (fun _ _ _ _ h => h.2.2.2) ?_ 0 _ _ _ ⟨hl, hG, hS, Nat.zero_le _⟩
  intro j ls H locs ⟨hl, hG, hS, hj⟩ ih
  refine lv_iload hx hb dX5_stateTo_17 (lv_at hl 0 rfl) ?_
  refine lv_iload_n hx hb dX5_stateTo_19 rfl (lv_at hl 4 rfl) ?_
  refine mz_icmp_gt hx hb dX5_stateTo_20 (tgt := 47) rfl (fun h0 h0' => ?_) (fun h0 h0' => ?_)
  · rw [nI_ltI (by omega) (by omega)] at h0
    refine lv_iload_n hx hb dX5_stateTo_47 rfl (lv_at hl 1 rfl) ?_
    exact mz_iret hx hb hr hlk rK_ok hK hS hG dX5_stateTo_48 (by rw [rs_state, nI_clamp (by omega), e2, pk_sub g2, nI_clamp (by omega), show p9 - b = j by omega]) rfl
  · rw [nI_leI (by omega) (by omega)] at h0'
    refine lv_bipush (v := 31) hx hb dX5_stateTo_23 (by decide) ?_
    refine lv_iload_n hx hb dX5_stateTo_25 rfl (lv_at hl 1 rfl) ?_
    refine lv_imul hx hb dX5_stateTo_26 ?_
    refine lv_aload_n hx hb dX5_stateTo_27 rfl (lv_at hl 2 rfl) ?_
    refine rg_0 (f := 14) hx hb htz tin_X5 hown hK hG (by decide) (htz _ fX5_44) (by decide) rfl dX5_stateTo_28 ?_
    refine lv_aload_n hx hb dX5_stateTo_31 rfl (lv_at hl 2 rfl) ?_
    refine lv_iload_n hx hb dX5_stateTo_32 rfl (lv_at hl 3 rfl) ?_
    refine lv_iload hx hb dX5_stateTo_33 (lv_at hl 0 rfl) ?_
    refine mz_Vi (As := [.int _, .int _]) (rest := [.ref _, .int _]) ⟨hx, hb, hml, hown, hts⟩ (rc_place l D L hL _ _ _ hk) (tz_V htz mX5_place lX5_105 rfl rfl ⟨Nat.le_of_ble_eq_true rfl, Nat.le_of_ble_eq_true rfl⟩) (rrecv_0 hK hG (by decide)) rK_ok hK hG hS rfl hl.1 rfl (Nat.le_of_ble_eq_true rfl) dX5_stateTo_35 ⟨Nat.zero_le _, Nat.zero_le _⟩ (fun H locs hG hS => ?_)
    refine mz_topE (rs_place_eq g1 e2 j) ?_
    refine ra_12 hx hb hK hG (by decide) (vp_in_nI (by omega) (by omega)) dX5_stateTo_38 ?_
    rw [nI_clamp (by omega)]
    refine lv_iadd hx hb dX5_stateTo_39 ?_
    refine lv_istore_n hx hb dX5_stateTo_40 rfl hl (by decide) rfl (fun ls hl => ?_)
    have hl : lv_has ls 5 [(3, .int _), (4, .int _), (0, .ref _), (1, .int _), (2, .int _)] := hl
    refine lv_iinc (k := 1) hx hb dX5_stateTo_41 hl rfl (nI_1 (b + 1 + j)) (by decide) rfl (fun ls hl => ?_)
    have hl : lv_has ls 5 [(4, .int _), (3, .int _), (0, .ref _), (1, .int _), (2, .int _)] := hl
    refine lv_goto hx hb dX5_stateTo_44 (tgt := 17) rfl ?_
    exact ih (by omega) _ _ _ ⟨hl, hG, hS, by omega⟩

set_option maxRecDepth 100000 in
set_option maxHeartbeats 4000000 in
theorem rc_addEntry (l : Launch) (D : va_G) (L : rL) (hL : rL_ok L) (u : mz_S) (k t x : Int32) (hz : rz (rl_c L) u k) (hl9 : u 10 0 k.toNatClampNeg < nI (rl_c L)) : mz_Cv l (rG D L) (rK D L) (rA L) yX5_addEntry (tz_w yX5_addEntry cX5_addEntry 4 none) ({ frames := 0, cells := 0, slots := 0, locals := 0 } : Room) [.ref (L.1 0 0), .int k, .int t, .int x] u (rs_add u k t x) := by
  refine mz_Cv.of (cc := cX5_addEntry) (maxL := 4) (ret := none) (by decide) rfl (Nat.le_of_ble_eq_true rfl) ?_
  intro p e s m args below meth c ls hx hb hr hlk hml hown hts hl hG hK hS
  have hl : lv_has ls 4 [(0, .ref (L.1 0 0)), (1, .int k), (2, .int t), (3, .int x)] := hl
  have htz : ∀ w ∈ tz, w.before args s = true := fun w h => hts w (List.mem_cons_of_mem _ h)
  have hc12 : rl_c L ≤ 12 := hL.1.2.2.2.1
  have hn5 : rl_n L ≤ 5 := hL.1.2.1
  have h40 : rl_S L ≤ 40 := hL.1.2.2.2.2.2
  have hk : vp_in k 5 := hz.k
  refine lv_aload_n hx hb dX5_addEntry_0 rfl (lv_at hl 0 rfl) ?_
  refine rg_0 (f := 13) hx hb htz tin_X5 hown hK hG (by decide) (htz _ fX5_41) (by decide) rfl dX5_addEntry_1 ?_
  refine lv_bipush (v := 12) hx hb dX5_addEntry_4 (by decide) ?_
  refine lv_iload_n hx hb dX5_addEntry_6 rfl (lv_at hl 1 rfl) ?_
  refine lv_imul hx hb dX5_addEntry_7 ?_
  refine lv_aload_n hx hb dX5_addEntry_8 rfl (lv_at hl 0 rfl) ?_
  refine rg_0 (f := 12) hx hb htz tin_X5 hown hK hG (by decide) (htz _ fX5_38) (by decide) rfl dX5_addEntry_9 ?_
  refine lv_iload_n hx hb dX5_addEntry_12 rfl (lv_at hl 1 rfl) ?_
  refine ra_10 hx hb hK hG (by decide) hk dX5_addEntry_13 ?_
  refine lv_iadd hx hb dX5_addEntry_14 ?_
  refine lv_iload_n hx hb dX5_addEntry_15 rfl (lv_at hl 2 rfl) ?_
  refine rt_11 hx hb hL hK hG hS (by decide) (hz.add hc12 hl9) dX5_addEntry_16 (fun H locs hG hS => ?_)
  refine lv_aload_n hx hb dX5_addEntry_17 rfl (lv_at hl 0 rfl) ?_
  refine rg_0 (f := 14) hx hb htz tin_X5 hown hK hG (by decide) (htz _ fX5_44) (by decide) rfl dX5_addEntry_18 ?_
  refine lv_bipush (v := 12) hx hb dX5_addEntry_21 (by decide) ?_
  refine lv_iload_n hx hb dX5_addEntry_23 rfl (lv_at hl 1 rfl) ?_
  refine lv_imul hx hb dX5_addEntry_24 ?_
  refine lv_aload_n hx hb dX5_addEntry_25 rfl (lv_at hl 0 rfl) ?_
  refine rg_0 (f := 12) hx hb htz tin_X5 hown hK hG (by decide) (htz _ fX5_38) (by decide) rfl dX5_addEntry_26 ?_
  refine lv_iload_n hx hb dX5_addEntry_29 rfl (lv_at hl 1 rfl) ?_
  refine ra_10 hx hb hK hG (by decide) hk dX5_addEntry_30 ?_
  refine mz_topE (y := u 10 0 k.toNatClampNeg) (by simp [mz_at]) ?_
  refine lv_iadd hx hb dX5_addEntry_31 ?_
  refine lv_iload_n hx hb dX5_addEntry_32 rfl (lv_at hl 3 rfl) ?_
  refine rt_12 hx hb hL hK hG hS (by decide) (hz.add hc12 hl9) dX5_addEntry_33 (fun H locs hG hS => ?_)
  refine lv_aload_n hx hb dX5_addEntry_34 rfl (lv_at hl 0 rfl) ?_
  refine rg_0 (f := 12) hx hb htz tin_X5 hown hK hG (by decide) (htz _ fX5_38) (by decide) rfl dX5_addEntry_35 ?_
  refine lv_iload_n hx hb dX5_addEntry_38 rfl (lv_at hl 1 rfl) ?_
  refine lv_dup2_11 hx hb dX5_addEntry_39 rfl rfl ?_
  refine ra_10 hx hb hK hG (by decide) hk dX5_addEntry_40 ?_
  refine mz_topE (y := u 10 0 k.toNatClampNeg) (by simp [mz_at]) ?_
  refine lv_iconst (v := 1) hx hb dX5_addEntry_41 (by decide) ?_
  refine lv_iadd hx hb dX5_addEntry_42 ?_
  refine rt_10 hx hb hL hK hG hS (by decide) hk dX5_addEntry_43 (fun H locs hG hS => ?_)
  exact mz_vret hx hb hr hlk rK_ok hK hS hG dX5_addEntry_44 rfl

set_option maxRecDepth 100000 in
set_option maxHeartbeats 4000000 in
theorem rc_cutFront (l : Launch) (D : va_G) (L : rL) (hL : rL_ok L) (u : mz_S) (k x : Int32) (hz : rz (rl_c L) u k) (hg : ∃ g e : Nat, x = nI g ∧ u 10 0 k.toNatClampNeg = nI e ∧ g ≤ e ∧ e ≤ 12) : mz_Cv l (rG D L) (rK D L) (rA L) yX5_cutFront (tz_w yX5_cutFront cX5_cutFront 4 none) ({ frames := 0, cells := 0, slots := 0, locals := 0 } : Room) [.ref (L.1 0 0), .int k, .int x] u (rs_cutF u k x) := by
  refine mz_Cv.of (cc := cX5_cutFront) (maxL := 4) (ret := none) (by decide) rfl (Nat.le_of_ble_eq_true rfl) ?_
  intro p e s m args below meth c ls hx hb hr hlk hml hown hts hl hG hK hS
  have hl : lv_has ls 4 [(0, .ref (L.1 0 0)), (1, .int k), (2, .int x)] := hl
  have htz : ∀ w ∈ tz, w.before args s = true := fun w h => hts w (List.mem_cons_of_mem _ h)
  have hc12 : rl_c L ≤ 12 := hL.1.2.2.2.1
  have hn5 : rl_n L ≤ 5 := hL.1.2.1
  have h40 : rl_S L ≤ 40 := hL.1.2.2.2.2.2
  refine lv_iconst (v := 0) hx hb dX5_cutFront_0 (by decide) ?_
  refine lv_istore_n hx hb dX5_cutFront_1 rfl hl (by decide) rfl (fun ls hl => ?_)
  have hl : lv_has ls 4 [(3, .int _), (0, .ref _), (1, .int _), (2, .int _)] := hl
  obtain ⟨q, b, e9, rfl, g1, e2, e3, g2, g3⟩ := hz
  obtain ⟨g, e8, rfl, ee, g4, g5⟩ := hg
  rw [nI_clamp (by omega)] at ee
  rw [e3, nI_eq (by omega) (by omega)] at ee
  subst ee
  have ee := e3
  refine mz_loop (e9 - g) (P := fun j ls H locs => lv_has ls 4 [(3, .int (nI j)), (0, .ref (L.1 0 0)), (1, .int (nI q)), (2, .int (nI g))] ∧ rG D L (rs_mv u q g j) H ∧ va_S (rA L) s.heap H locs ∧ j ≤ e9 - g) (fun _ _ _ _ h => h.2.2.2) ?_ 0 _ _ _ ⟨hl, hG, hS, Nat.zero_le _⟩
  intro j ls H locs ⟨hl, hG, hS, hj⟩ ih
  refine lv_iload_n hx hb dX5_cutFront_2 rfl (lv_at hl 0 rfl) ?_
  refine lv_iload_n hx hb dX5_cutFront_3 rfl (lv_at hl 3 rfl) ?_
  refine lv_iadd hx hb dX5_cutFront_4 ?_
  rw [nI_add]
  refine lv_aload_n hx hb dX5_cutFront_5 rfl (lv_at hl 1 rfl) ?_
  refine rg_0 (f := 12) hx hb htz tin_X5 hown hK hG (by decide) (htz _ fX5_38) (by decide) rfl dX5_cutFront_6 ?_
  refine lv_iload_n hx hb dX5_cutFront_9 rfl (lv_at hl 2 rfl) ?_
  refine ra_10 hx hb hK hG (by decide) (vp_in_nI (by omega) (by omega)) dX5_cutFront_10 ?_
  refine mz_topE (y := u 10 0 q) (by simp [rs_mv_o, nI_clamp (show q < 2 ^ 31 by omega)]) ?_
  refine mz_icmp_ge hx hb dX5_cutFront_11 (tgt := 68) rfl (fun h0 h0' => ?_) (fun h0 h0' => ?_)
  · rw [ee, nI_leI (by omega) (by omega)] at h0'
    refine lv_aload_n hx hb dX5_cutFront_68 rfl (lv_at hl 1 rfl) ?_
    refine rg_0 (f := 12) hx hb htz tin_X5 hown hK hG (by decide) (htz _ fX5_38) (by decide) rfl dX5_cutFront_69 ?_
    refine lv_iload_n hx hb dX5_cutFront_72 rfl (lv_at hl 2 rfl) ?_
    refine lv_dup2_11 hx hb dX5_cutFront_73 rfl rfl ?_
    refine ra_10 hx hb hK hG (by decide) (vp_in_nI (by omega) (by omega)) dX5_cutFront_74 ?_
    refine mz_topE (y := u 10 0 q) (by simp [rs_mv_o, nI_clamp (show q < 2 ^ 31 by omega)]) ?_
    refine lv_iload_n hx hb dX5_cutFront_75 rfl (lv_at hl 3 rfl) ?_
    refine lv_isub hx hb dX5_cutFront_76 ?_
    refine rt_10 hx hb hL hK hG hS (by decide) (vp_in_nI (by omega) (by omega)) dX5_cutFront_77 (fun H locs hG hS => ?_)
    rw [nI_clamp (by omega)] at hG
    exact mz_vret hx hb hr hlk rK_ok hK hS hG dX5_cutFront_78 (by rw [rs_cutF, nI_clamp (by omega), nI_clamp (by omega), ee, pk_sub (by omega), nI_clamp (by omega), show e9 - g = j by omega])
  · rw [ee, nI_ltI (by omega) (by omega)] at h0
    refine lv_aload_n hx hb dX5_cutFront_14 rfl (lv_at hl 1 rfl) ?_
    refine rg_0 (f := 13) hx hb htz tin_X5 hown hK hG (by decide) (htz _ fX5_41) (by decide) rfl dX5_cutFront_15 ?_
    refine lv_bipush (v := 12) hx hb dX5_cutFront_18 (by decide) ?_
    refine lv_iload_n hx hb dX5_cutFront_20 rfl (lv_at hl 2 rfl) ?_
    refine lv_imul hx hb dX5_cutFront_21 ?_
    refine lv_iload_n hx hb dX5_cutFront_22 rfl (lv_at hl 0 rfl) ?_
    refine lv_iadd hx hb dX5_cutFront_23 ?_
    rw [rz_ix]
    refine lv_aload_n hx hb dX5_cutFront_24 rfl (lv_at hl 1 rfl) ?_
    refine rg_0 (f := 13) hx hb htz tin_X5 hown hK hG (by decide) (htz _ fX5_41) (by decide) rfl dX5_cutFront_25 ?_
    refine lv_bipush (v := 12) hx hb dX5_cutFront_28 (by decide) ?_
    refine lv_iload_n hx hb dX5_cutFront_30 rfl (lv_at hl 2 rfl) ?_
    refine lv_imul hx hb dX5_cutFront_31 ?_
    refine lv_iload_n hx hb dX5_cutFront_32 rfl (lv_at hl 0 rfl) ?_
    refine lv_iadd hx hb dX5_cutFront_33 ?_
    rw [rz_ix]
    refine lv_iload_n hx hb dX5_cutFront_34 rfl (lv_at hl 3 rfl) ?_
    refine lv_iadd hx hb dX5_cutFront_35 ?_
    rw [nI_add]
    refine ra_11 hx hb hK hG (by decide) (vp_in_nI (by omega) (by omega)) dX5_cutFront_36 ?_
    rw [nI_clamp (by omega)]
    refine rt_11 hx hb hL hK hG hS (by decide) (vp_in_nI (by omega) (by omega)) dX5_cutFront_37 (fun H locs hG hS => ?_)
    rw [nI_clamp (by omega)] at hG
    refine lv_aload_n hx hb dX5_cutFront_38 rfl (lv_at hl 1 rfl) ?_
    refine rg_0 (f := 14) hx hb htz tin_X5 hown hK hG (by decide) (htz _ fX5_44) (by decide) rfl dX5_cutFront_39 ?_
    refine lv_bipush (v := 12) hx hb dX5_cutFront_42 (by decide) ?_
    refine lv_iload_n hx hb dX5_cutFront_44 rfl (lv_at hl 2 rfl) ?_
    refine lv_imul hx hb dX5_cutFront_45 ?_
    refine lv_iload_n hx hb dX5_cutFront_46 rfl (lv_at hl 0 rfl) ?_
    refine lv_iadd hx hb dX5_cutFront_47 ?_
    rw [rz_ix]
    refine lv_aload_n hx hb dX5_cutFront_48 rfl (lv_at hl 1 rfl) ?_
    refine rg_0 (f := 14) hx hb htz tin_X5 hown hK hG (by decide) (htz _ fX5_44) (by decide) rfl dX5_cutFront_49 ?_
    refine lv_bipush (v := 12) hx hb dX5_cutFront_52 (by decide) ?_
    refine lv_iload_n hx hb dX5_cutFront_54 rfl (lv_at hl 2 rfl) ?_
    refine lv_imul hx hb dX5_cutFront_55 ?_
    refine lv_iload_n hx hb dX5_cutFront_56 rfl (lv_at hl 0 rfl) ?_
    refine lv_iadd hx hb dX5_cutFront_57 ?_
    rw [rz_ix]
    refine lv_iload_n hx hb dX5_cutFront_58 rfl (lv_at hl 3 rfl) ?_
    refine lv_iadd hx hb dX5_cutFront_59 ?_
    rw [nI_add]
    refine ra_12 hx hb hK hG (by decide) (vp_in_nI (by omega) (by omega)) dX5_cutFront_60 ?_
    rw [nI_clamp (by omega), mz_uk (k := 11) (k' := 12) (by decide)]
    refine rt_12 hx hb hL hK hG hS (by decide) (vp_in_nI (by omega) (by omega)) dX5_cutFront_61 (fun H locs hG hS => ?_)
    rw [nI_clamp (by omega)] at hG
    refine lv_iinc (k := 0) hx hb dX5_cutFront_62 hl rfl (nI_1 j) (by decide) rfl (fun ls hl => ?_)
    have hl : lv_has ls 4 [(3, .int _), (0, .ref _), (1, .int _), (2, .int _)] := hl
    refine lv_goto hx hb dX5_cutFront_65 (tgt := 2) rfl ?_
    exact ih (by omega) _ _ _ ⟨hl, hG, hS, by omega⟩

set_option maxRecDepth 100000 in
set_option maxHeartbeats 4000000 in
theorem rc_freeSlot (l : Launch) (D : va_G) (L : rL) (hL : rL_ok L) (u : mz_S)  : mz_Ci l (rG D L) (rK D L) (rA L) yX5_freeSlot (tz_w yX5_freeSlot cX5_freeSlot 3 (some .int)) ({ frames := 0, cells := 0, slots := 0, locals := 0 } : Room) [.ref (L.1 0 0)] u (rs_free (rl_S L) u) (u) := by
  refine mz_Ci.of (cc := cX5_freeSlot) (maxL := 3) (ret := (some .int)) (by decide) rfl (Nat.le_of_ble_eq_true rfl) ?_
  intro p e s m args below meth c ls hx hb hr hlk hml hown hts hl hG hK hS
  have hl : lv_has ls 3 [(0, .ref (L.1 0 0))] := hl
  have htz : ∀ w ∈ tz, w.before args s = true := fun w h => hts w (List.mem_cons_of_mem _ h)
  have hc12 : rl_c L ≤ 12 := hL.1.2.2.2.1
  have hn5 : rl_n L ≤ 5 := hL.1.2.1
  have h40 : rl_S L ≤ 40 := hL.1.2.2.2.2.2
  refine lv_iconst (v := (-1)) hx hb dX5_freeSlot_0 (by decide) ?_
  refine lv_istore_n hx hb dX5_freeSlot_1 rfl hl (by decide) rfl (fun ls hl => ?_)
  have hl : lv_has ls 3 [(1, .int _), (0, .ref _)] := hl
  refine lv_aload_n hx hb dX5_freeSlot_2 rfl (lv_at hl 1 rfl) ?_
  refine rg_0 (f := 2) hx hb htz tin_X5 hown hK hG (by decide) (htz _ fX5_94) (by decide) rfl dX5_freeSlot_3 ?_
  refine lv_iconst (v := 1) hx hb dX5_freeSlot_6 (by decide) ?_
  refine lv_isub hx hb dX5_freeSlot_7 ?_
  refine lv_istore_n hx hb dX5_freeSlot_8 rfl hl (by decide) rfl (fun ls hl => ?_)
  have hl : lv_has ls 3 [(2, .int _), (1, .int _), (0, .ref _)] := hl
  have hl : lv_has ls 3 [(2, .int (nI (rl_S L - 0) - 1)), (1, .int (rs_fd (rl_S L) u (rl_S L - 0))), (0, .ref (L.1 0 0))] := by
    rw [Nat.sub_zero, rs_fd_S]
    exact hl
  refine mz_loop (rl_S L) (P := fun j ls H locs => lv_has ls 3 [(2, .int (nI (rl_S L - j) - 1)), (1, .int (rs_fd (rl_S L) u (rl_S L - j))), (0, .ref (L.1 0 0))] ∧ rG D L u H ∧ va_S (rA L) s.heap H locs ∧ j ≤ rl_S L) (fun _ _ _ _ h => h.2.2.2) ?_ 0 _ _ _ ⟨hl, hG, hS, Nat.zero_le _⟩
  intro j ls H locs ⟨hl, hG, hS, hj⟩ ih
  refine lv_iload_n hx hb dX5_freeSlot_9 rfl (lv_at hl 0 rfl) ?_
  refine mz_if_lt hx hb dX5_freeSlot_10 (tgt := 34) rfl (fun h0 h0' => ?_) (fun h0 h0' => ?_)
  · have ej : rl_S L - j = 0 := by
      by_cases z : rl_S L - j = 0
      · exact z
      · rw [show nI (rl_S L - j) - 1 = nI (rl_S L - j - 1) from by rw [show rl_S L - j = (rl_S L - j - 1) + 1 by omega, nI_pred]; rfl] at h0
        exact absurd h0 (nI_pos (by omega))
    refine lv_iload_n hx hb dX5_freeSlot_34 rfl (lv_at hl 1 rfl) ?_
    exact mz_iret hx hb hr hlk rK_ok hK hS hG dX5_freeSlot_35 (by rw [ej, rs_fd_0]) rfl
  · have ej : ¬ rl_S L - j = 0 := fun z => by
      rw [z] at h0'
      exact absurd h0' (by decide)
    have es : nI (rl_S L - j) - 1 = nI (rl_S L - (j + 1)) := by rw [show rl_S L - j = (rl_S L - (j + 1)) + 1 by omega, nI_pred]
    rw [es] at hl
    refine lv_aload_n hx hb dX5_freeSlot_13 rfl (lv_at hl 2 rfl) ?_
    refine rg_0 (f := 17) hx hb htz tin_X5 hown hK hG (by decide) (htz _ fX5_53) (by decide) rfl dX5_freeSlot_14 ?_
    refine lv_iload_n hx hb dX5_freeSlot_17 rfl (lv_at hl 0 rfl) ?_
    refine ra_15 hx hb hK hG (by decide) (vp_in_nI (by omega) (by omega)) dX5_freeSlot_18 ?_
    rw [nI_clamp (by omega)]
    refine lv_if_ne hx hb dX5_freeSlot_19 (tgt := 26) rfl (fun h1 => ?_) (fun h1 => ?_)
    · refine lv_iload_n hx hb dX5_freeSlot_26 rfl (lv_at hl 1 rfl) ?_
      refine lv_istore_n hx hb dX5_freeSlot_27 rfl hl (by decide) rfl (fun ls hl => ?_)
      have hl : lv_has ls 3 [(1, .int _), (2, .int _), (0, .ref _)] := hl
      refine lv_iinc (k := 1) hx hb dX5_freeSlot_28 hl rfl (show _ = nI (rl_S L - (j + 1)) - 1 from by rw [Int32.sub_eq_add_neg]; rfl) (by decide) rfl (fun ls hl => ?_)
      have hl : lv_has ls 3 [(2, .int _), (1, .int _), (0, .ref _)] := hl
      refine lv_goto hx hb dX5_freeSlot_31 (tgt := 9) rfl ?_
      exact ih (by omega) _ _ _ ⟨by
        rw [rs_fd_s (show rl_S L - (j + 1) < rl_S L by omega), show rl_S L - (j + 1) + 1 = rl_S L - j by omega]
        first
          | (rw [if_pos h1]; exact hl)
          | (rw [if_neg h1]; exact hl), hG, hS, by omega⟩
    · refine lv_iload_n hx hb dX5_freeSlot_22 rfl (lv_at hl 0 rfl) ?_
      refine lv_goto hx hb dX5_freeSlot_23 (tgt := 27) rfl ?_
      refine lv_istore_n hx hb dX5_freeSlot_27 rfl hl (by decide) rfl (fun ls hl => ?_)
      have hl : lv_has ls 3 [(1, .int _), (2, .int _), (0, .ref _)] := hl
      refine lv_iinc (k := 1) hx hb dX5_freeSlot_28 hl rfl (show _ = nI (rl_S L - (j + 1)) - 1 from by rw [Int32.sub_eq_add_neg]; rfl) (by decide) rfl (fun ls hl => ?_)
      have hl : lv_has ls 3 [(2, .int _), (1, .int _), (0, .ref _)] := hl
      refine lv_goto hx hb dX5_freeSlot_31 (tgt := 9) rfl ?_
      exact ih (by omega) _ _ _ ⟨by
        rw [rs_fd_s (show rl_S L - (j + 1) < rl_S L by omega), show rl_S L - (j + 1) + 1 = rl_S L - j by omega]
        first
          | (rw [if_pos h1]; exact hl)
          | (rw [if_neg h1]; exact hl), hG, hS, by omega⟩

set_option maxRecDepth 100000 in
set_option maxHeartbeats 4000000 in
theorem rc_waiting (l : Launch) (D : va_G) (L : rL) (hL : rL_ok L) (u : mz_S)  : mz_Ci l (rG D L) (rK D L) (rA L) yX5_waiting (tz_w yX5_waiting cX5_waiting 3 (some .int)) ({ frames := 0, cells := 0, slots := 0, locals := 0 } : Room) [.ref (L.1 0 0)] u (rs_w u (rl_S L)) (u) := by
  refine mz_Ci.of (cc := cX5_waiting) (maxL := 3) (ret := (some .int)) (by decide) rfl (Nat.le_of_ble_eq_true rfl) ?_
  intro p e s m args below meth c ls hx hb hr hlk hml hown hts hl hG hK hS
  have hl : lv_has ls 3 [(0, .ref (L.1 0 0))] := hl
  have htz : ∀ w ∈ tz, w.before args s = true := fun w h => hts w (List.mem_cons_of_mem _ h)
  have hc12 : rl_c L ≤ 12 := hL.1.2.2.2.1
  have hn5 : rl_n L ≤ 5 := hL.1.2.1
  have h40 : rl_S L ≤ 40 := hL.1.2.2.2.2.2
  refine lv_iconst (v := 0) hx hb dX5_waiting_0 (by decide) ?_
  refine lv_istore_n hx hb dX5_waiting_1 rfl hl (by decide) rfl (fun ls hl => ?_)
  have hl : lv_has ls 3 [(1, .int _), (0, .ref _)] := hl
  refine lv_iconst (v := 0) hx hb dX5_waiting_2 (by decide) ?_
  refine lv_istore_n hx hb dX5_waiting_3 rfl hl (by decide) rfl (fun ls hl => ?_)
  have hl : lv_has ls 3 [(2, .int _), (1, .int _), (0, .ref _)] := hl
  refine mz_loop (rl_S L) (P := fun j ls H locs => lv_has ls 3 [(2, .int (nI j)), (1, .int (rs_w u j)), (0, .ref (L.1 0 0))] ∧ rG D L u H ∧ va_S (rA L) s.heap H locs ∧ j ≤ rl_S L) (fun _ _ _ _ h => h.2.2.2) ?_ 0 _ _ _ ⟨hl, hG, hS, Nat.zero_le _⟩
  intro j ls H locs ⟨hl, hG, hS, hj⟩ ih
  refine lv_iload_n hx hb dX5_waiting_4 rfl (lv_at hl 0 rfl) ?_
  refine lv_aload_n hx hb dX5_waiting_5 rfl (lv_at hl 2 rfl) ?_
  refine rg_0 (f := 2) hx hb htz tin_X5 hown hK hG (by decide) (htz _ fX5_94) (by decide) rfl dX5_waiting_6 ?_
  refine mz_icmp_ge hx hb dX5_waiting_9 (tgt := 35) rfl (fun h0 h0' => ?_) (fun h0 h0' => ?_)
  · rw [nI_leI (by omega) (by omega)] at h0'
    refine lv_iload_n hx hb dX5_waiting_35 rfl (lv_at hl 1 rfl) ?_
    exact mz_iret hx hb hr hlk rK_ok hK hS hG dX5_waiting_36 (by rw [show rl_S L = j by omega]) rfl
  · rw [nI_ltI (by omega) (by omega)] at h0
    refine lv_iload_n hx hb dX5_waiting_12 rfl (lv_at hl 1 rfl) ?_
    refine lv_aload_n hx hb dX5_waiting_13 rfl (lv_at hl 2 rfl) ?_
    refine rg_0 (f := 17) hx hb htz tin_X5 hown hK hG (by decide) (htz _ fX5_53) (by decide) rfl dX5_waiting_14 ?_
    refine lv_iload_n hx hb dX5_waiting_17 rfl (lv_at hl 0 rfl) ?_
    refine ra_15 hx hb hK hG (by decide) (vp_in_nI (by omega) (by omega)) dX5_waiting_18 ?_
    rw [nI_clamp (by omega)]
    refine mz_if_le hx hb dX5_waiting_19 (tgt := 26) rfl (fun h1 h1' => ?_) (fun h1 h1' => ?_)
    · refine lv_iconst (v := 0) hx hb dX5_waiting_26 (by decide) ?_
      refine lv_iadd hx hb dX5_waiting_27 ?_
      refine lv_istore_n hx hb dX5_waiting_28 rfl hl (by decide) rfl (fun ls hl => ?_)
      have hl : lv_has ls 3 [(1, .int _), (2, .int _), (0, .ref _)] := hl
      refine lv_iinc (k := 1) hx hb dX5_waiting_29 hl rfl (nI_1 j) (by decide) rfl (fun ls hl => ?_)
      have hl : lv_has ls 3 [(2, .int _), (1, .int _), (0, .ref _)] := hl
      refine lv_goto hx hb dX5_waiting_32 (tgt := 4) rfl ?_
      exact ih (by omega) _ _ _ ⟨by
        first
          | (rw [rs_w_s, mz_b_t h1]; exact hl)
          | (rw [rs_w_s, mz_b_f h1]; exact hl), hG, hS, by omega⟩
    · refine lv_iconst (v := 1) hx hb dX5_waiting_22 (by decide) ?_
      refine lv_goto hx hb dX5_waiting_23 (tgt := 27) rfl ?_
      refine lv_iadd hx hb dX5_waiting_27 ?_
      refine lv_istore_n hx hb dX5_waiting_28 rfl hl (by decide) rfl (fun ls hl => ?_)
      have hl : lv_has ls 3 [(1, .int _), (2, .int _), (0, .ref _)] := hl
      refine lv_iinc (k := 1) hx hb dX5_waiting_29 hl rfl (nI_1 j) (by decide) rfl (fun ls hl => ?_)
      have hl : lv_has ls 3 [(2, .int _), (1, .int _), (0, .ref _)] := hl
      refine lv_goto hx hb dX5_waiting_32 (tgt := 4) rfl ?_
      exact ih (by omega) _ _ _ ⟨by
        first
          | (rw [rs_w_s, mz_b_t h1]; exact hl)
          | (rw [rs_w_s, mz_b_f h1]; exact hl), hG, hS, by omega⟩

set_option maxRecDepth 100000 in
set_option maxHeartbeats 4000000 in
theorem rc_send (l : Launch) (D : va_G) (L : rL) (hL : rL_ok L) (u : mz_S) (k a b : Int32) (ha : vp_in a 5) (hff : rs_ff (rl_S L) u < rl_S L) : mz_Ci l (rG D L) (rK D L) (rA L) yX5_send (tz_w yX5_send cX5_send 5 (some .int)) ({ frames := 1, cells := 0, slots := 0, locals := 22 } : Room) [.ref (L.1 0 0), .int k, .int a, .int b] u (nI (rs_ff (rl_S L) u)) (rs_send (rl_S L) u k a b) := by
  refine mz_Ci.of (cc := cX5_send) (maxL := 5) (ret := (some .int)) (by decide) rfl (Nat.le_of_ble_eq_true rfl) ?_
  intro p e s m args below meth c ls hx hb hr hlk hml hown hts hl hG hK hS
  have hl : lv_has ls 5 [(0, .ref (L.1 0 0)), (1, .int k), (2, .int a), (3, .int b)] := hl
  have htz : ∀ w ∈ tz, w.before args s = true := fun w h => hts w (List.mem_cons_of_mem _ h)
  have hc12 : rl_c L ≤ 12 := hL.1.2.2.2.1
  have hn5 : rl_n L ≤ 5 := hL.1.2.1
  have h40 : rl_S L ≤ 40 := hL.1.2.2.2.2.2
  refine lv_aload_n hx hb dX5_send_0 rfl (lv_at hl 0 rfl) ?_
  refine mz_Vi (As := []) (rest := []) ⟨hx, hb, hml, hown, hts⟩ (rc_freeSlot l D L hL _) (tz_V htz mX5_freeSlot lX5_109 rfl rfl ⟨Nat.le_of_ble_eq_true rfl, Nat.le_of_ble_eq_true rfl⟩) (rrecv_0 hK hG (by decide)) rK_ok hK hG hS rfl hl.1 rfl (Nat.le_of_ble_eq_true rfl) dX5_send_1 ⟨Nat.zero_le _, Nat.zero_le _⟩ (fun H locs hG hS => ?_)
  refine mz_topE (y := nI (rs_ff (rl_S L) u)) (by rw [rs_free, if_pos hff]) ?_
  refine lv_istore hx hb dX5_send_4 hl (by decide) rfl (fun ls hl => ?_)
  have hl : lv_has ls 5 [(4, .int _), (0, .ref _), (1, .int _), (2, .int _), (3, .int _)] := hl
  refine lv_aload_n hx hb dX5_send_6 rfl (lv_at hl 1 rfl) ?_
  refine rg_0 (f := 17) hx hb htz tin_X5 hown hK hG (by decide) (htz _ fX5_53) (by decide) rfl dX5_send_7 ?_
  refine lv_iload hx hb dX5_send_10 (lv_at hl 0 rfl) ?_
  refine lv_iload_n hx hb dX5_send_12 rfl (lv_at hl 2 rfl) ?_
  refine rt_15 hx hb hL hK hG hS (by decide) (vp_in_nI (by omega) (by omega)) dX5_send_13 (fun H locs hG hS => ?_)
  rw [nI_clamp (by omega)] at hG
  refine lv_aload_n hx hb dX5_send_14 rfl (lv_at hl 1 rfl) ?_
  refine rg_0 (f := 18) hx hb htz tin_X5 hown hK hG (by decide) (htz _ fX5_56) (by decide) rfl dX5_send_15 ?_
  refine lv_iload hx hb dX5_send_18 (lv_at hl 0 rfl) ?_
  refine lv_iload_n hx hb dX5_send_20 rfl (lv_at hl 3 rfl) ?_
  refine rt_16 hx hb hL hK hG hS (by decide) (vp_in_nI (by omega) (by omega)) dX5_send_21 (fun H locs hG hS => ?_)
  rw [nI_clamp (by omega)] at hG
  refine lv_aload_n hx hb dX5_send_22 rfl (lv_at hl 1 rfl) ?_
  refine rg_0 (f := 19) hx hb htz tin_X5 hown hK hG (by decide) (htz _ fX5_59) (by decide) rfl dX5_send_23 ?_
  refine lv_iload hx hb dX5_send_26 (lv_at hl 0 rfl) ?_
  refine lv_iload_n hx hb dX5_send_28 rfl (lv_at hl 4 rfl) ?_
  refine rt_17 hx hb hL hK hG hS (by decide) (vp_in_nI (by omega) (by omega)) dX5_send_29 (fun H locs hG hS => ?_)
  rw [nI_clamp (by omega)] at hG
  refine lv_aload_n hx hb dX5_send_30 rfl (lv_at hl 1 rfl) ?_
  refine rg_0 (f := 20) hx hb htz tin_X5 hown hK hG (by decide) (htz _ fX5_62) (by decide) rfl dX5_send_31 ?_
  refine lv_iload hx hb dX5_send_34 (lv_at hl 0 rfl) ?_
  refine lv_aload_n hx hb dX5_send_36 rfl (lv_at hl 1 rfl) ?_
  refine rg_0 (f := 5) hx hb htz tin_X5 hown hK hG (by decide) (htz _ fX5_17) (by decide) rfl dX5_send_37 ?_
  refine lv_iload_n hx hb dX5_send_40 rfl (lv_at hl 3 rfl) ?_
  refine ra_3 hx hb hK hG (by decide) ha dX5_send_41 ?_
  refine mz_topE (y := u 3 0 a.toNatClampNeg) (by simp [mz_at]) ?_
  refine rt_18 hx hb hL hK hG hS (by decide) (vp_in_nI (by omega) (by omega)) dX5_send_42 (fun H locs hG hS => ?_)
  rw [nI_clamp (by omega)] at hG
  refine lv_iload hx hb dX5_send_43 (lv_at hl 0 rfl) ?_
  exact mz_iret hx hb hr hlk rK_ok hK hS hG dX5_send_45 rfl rfl

set_option maxRecDepth 100000 in
set_option maxHeartbeats 4000000 in
theorem rc_answer (l : Launch) (D : va_G) (L : rL) (hL : rL_ok L) (u : mz_S) (k a b g x : Int32) (ha : vp_in a 5) (hg : narrow .boolean (.int g) = .int g) (hff : rs_ff (rl_S L) u < rl_S L) : mz_Cv l (rG D L) (rK D L) (rA L) yX5_answer (tz_w yX5_answer cX5_answer 7 none) ({ frames := 2, cells := 0, slots := 0, locals := 46 } : Room) [.ref (L.1 0 0), .int k, .int a, .int b, .int g, .int x] u (rs_ans (rl_S L) u k a b g x) := by
  refine mz_Cv.of (cc := cX5_answer) (maxL := 7) (ret := none) (by decide) rfl (Nat.le_of_ble_eq_true rfl) ?_
  intro p e s m args below meth c ls hx hb hr hlk hml hown hts hl hG hK hS
  have hl : lv_has ls 7 [(0, .ref (L.1 0 0)), (1, .int k), (2, .int a), (3, .int b), (4, .int g), (5, .int x)] := hl
  have htz : ∀ w ∈ tz, w.before args s = true := fun w h => hts w (List.mem_cons_of_mem _ h)
  have hc12 : rl_c L ≤ 12 := hL.1.2.2.2.1
  have hn5 : rl_n L ≤ 5 := hL.1.2.1
  have h40 : rl_S L ≤ 40 := hL.1.2.2.2.2.2
  refine lv_aload_n hx hb dX5_answer_0 rfl (lv_at hl 0 rfl) ?_
  refine lv_iload_n hx hb dX5_answer_1 rfl (lv_at hl 1 rfl) ?_
  refine lv_iload_n hx hb dX5_answer_2 rfl (lv_at hl 2 rfl) ?_
  refine lv_iload_n hx hb dX5_answer_3 rfl (lv_at hl 3 rfl) ?_
  refine mz_Vi (As := [.int _, .int _, .int _]) (rest := []) ⟨hx, hb, hml, hown, hts⟩ (rc_send l D L hL _ _ _ _ ha hff) (tz_V htz mX5_send lX5_113 rfl rfl ⟨Nat.le_of_ble_eq_true rfl, Nat.le_of_ble_eq_true rfl⟩) (rrecv_0 hK hG (by decide)) rK_ok hK hG hS rfl hl.1 rfl (Nat.le_of_ble_eq_true rfl) dX5_answer_4 ⟨Nat.zero_le _, Nat.zero_le _⟩ (fun H locs hG hS => ?_)
  refine lv_istore hx hb dX5_answer_7 hl (by decide) rfl (fun ls hl => ?_)
  have hl : lv_has ls 7 [(6, .int _), (0, .ref _), (1, .int _), (2, .int _), (3, .int _), (4, .int _), (5, .int _)] := hl
  refine lv_aload_n hx hb dX5_answer_9 rfl (lv_at hl 1 rfl) ?_
  refine rg_0 (f := 23) hx hb htz tin_X5 hown hK hG (by decide) (htz _ fX5_71) (by decide) rfl dX5_answer_10 ?_
  refine lv_iload hx hb dX5_answer_13 (lv_at hl 0 rfl) ?_
  refine lv_iload hx hb dX5_answer_15 (lv_at hl 5 rfl) ?_
  refine rt_21 hx hb hL hK hG hS (by decide) (vp_in_nI (by omega) (by omega)) hg dX5_answer_17 (fun H locs hG hS => ?_)
  rw [nI_clamp (by omega)] at hG
  refine lv_aload_n hx hb dX5_answer_18 rfl (lv_at hl 1 rfl) ?_
  refine rg_0 (f := 21) hx hb htz tin_X5 hown hK hG (by decide) (htz _ fX5_65) (by decide) rfl dX5_answer_19 ?_
  refine lv_iload hx hb dX5_answer_22 (lv_at hl 0 rfl) ?_
  refine lv_iload hx hb dX5_answer_24 (lv_at hl 6 rfl) ?_
  refine rt_19 hx hb hL hK hG hS (by decide) (vp_in_nI (by omega) (by omega)) dX5_answer_26 (fun H locs hG hS => ?_)
  rw [nI_clamp (by omega)] at hG
  exact mz_vret hx hb hr hlk rK_ok hK hS hG dX5_answer_27 rfl
