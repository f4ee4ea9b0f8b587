set_option maxRecDepth 100000 in
set_option maxHeartbeats 4000000 in
theorem rc_role (l : Launch) (D : va_G) (L : rL) (hL : rL_ok L) (u : mz_S) (x : Int32) : mz_Ci l (rG D L) (rK D L) (rA L) yX5_role (tz_w yX5_role cX5_role 2 (some .int)) ({ frames := 1, cells := 0, slots := 0, locals := 21 } : Room) [.ref (L.1 0 0), .int x] u (rs_role (rl_n L) u x) (u) := by
  refine mz_Ci.of (cc := cX5_role) (maxL := 2) (ret := (some .int)) (by decide) rfl (Nat.le_of_ble_eq_true rfl) ?_
  intro p e s m args below meth c ls hx hb hr hlk hml hown hts hl hG hK hS
  have hl : lv_has ls 2 [(0, .ref (L.1 0 0)), (1, .int x)] := hl
  have htz : ∀ w ∈ tz, w.before args s = true := fun w h => hts w (List.mem_cons_of_mem _ h)
  have hc12 : rl_c L ≤ 12 := hL.1.2.2.2.1
  have hn5 : rl_n L ≤ 5 := hL.1.2.1
  have h40 : rl_S L ≤ 40 := hL.1.2.2.2.2.2
  refine lv_aload_n hx hb dX5_role_0 rfl (lv_at hl 0 rfl) ?_
  refine lv_iload_n hx hb dX5_role_1 rfl (lv_at hl 1 rfl) ?_
  refine mz_Vi (As := [.int _]) (rest := []) ⟨hx, hb, hml, hown, hts⟩ (rc_isNode l D L hL _ _) (tz_V htz mX5_isNode lX5_116 rfl rfl ⟨Nat.le_of_ble_eq_true rfl, Nat.le_of_ble_eq_true rfl⟩) (rrecv_0 hK hG (by decide)) rK_ok hK hG hS rfl hl.1 rfl (Nat.le_of_ble_eq_true rfl) dX5_role_2 ⟨Nat.zero_le _, Nat.zero_le _⟩ (fun H locs hG hS => ?_)
  refine mz_ifeq_b hx hb dX5_role_5 (tgt := 32) rfl (fun h0 => ?_) (fun h0 => ?_)
  · refine lv_iconst (v := (-1)) hx hb dX5_role_32 (by decide) ?_
    exact mz_iret hx hb hr hlk rK_ok hK hS hG dX5_role_33 (by unfold rs_role; first | rw [if_neg h0] | rw [if_pos h0, if_pos h1] | rw [if_pos h0, if_neg h1]) rfl
  · have hk : vp_in x 5 := vp_up (nz_in (by omega) h0) hn5
    refine lv_aload_n hx hb dX5_role_8 rfl (lv_at hl 0 rfl) ?_
    refine rg_0 (f := 4) hx hb htz tin_X5 hown hK hG (by decide) (htz _ fX5_13) (by decide) rfl dX5_role_9 ?_
    refine lv_iload_n hx hb dX5_role_12 rfl (lv_at hl 1 rfl) ?_
    refine ra_2 hx hb hK hG (by decide) hk dX5_role_13 ?_
    refine lv_aload_n hx hb dX5_role_14 rfl (lv_at hl 0 rfl) ?_
    refine rg_0 (f := 3) hx hb htz tin_X5 hown hK hG (by decide) (htz _ fX5_7) (by decide) rfl dX5_role_15 ?_
    refine lv_iload_n hx hb dX5_role_18 rfl (lv_at hl 1 rfl) ?_
    refine ra_1 hx hb hK hG (by decide) hk dX5_role_19 ?_
    refine lv_if_eq hx hb dX5_role_20 (tgt := 27) rfl (fun h1 => ?_) (fun h1 => ?_)
    · refine lv_iconst (v := 0) hx hb dX5_role_27 (by decide) ?_
      refine lv_iadd hx hb dX5_role_28 ?_
      refine lv_goto hx hb dX5_role_29 (tgt := 33) rfl ?_
      exact mz_iret hx hb hr hlk rK_ok hK hS hG dX5_role_33 (by unfold rs_role; first | rw [if_neg h0] | rw [if_pos h0, if_pos h1] | rw [if_pos h0, if_neg h1]) rfl
    · refine lv_iconst (v := 4) hx hb dX5_role_23 (by decide) ?_
      refine lv_goto hx hb dX5_role_24 (tgt := 28) rfl ?_
      refine lv_iadd hx hb dX5_role_28 ?_
      refine lv_goto hx hb dX5_role_29 (tgt := 33) rfl ?_
      exact mz_iret hx hb hr hlk rK_ok hK hS hG dX5_role_33 (by unfold rs_role; first | rw [if_neg h0] | rw [if_pos h0, if_pos h1] | rw [if_pos h0, if_neg h1]) rfl

set_option maxRecDepth 100000 in
set_option maxHeartbeats 4000000 in
theorem rc_term (l : Launch) (D : va_G) (L : rL) (hL : rL_ok L) (u : mz_S) (x : Int32) : mz_Ci l (rG D L) (rK D L) (rA L) yX5_term (tz_w yX5_term cX5_term 2 (some .int)) ({ frames := 1, cells := 0, slots := 0, locals := 21 } : Room) [.ref (L.1 0 0), .int x] u (rs_get (rl_n L) u 3 x) (u) := by
  refine mz_Ci.of (cc := cX5_term) (maxL := 2) (ret := (some .int)) (by decide) rfl (Nat.le_of_ble_eq_true rfl) ?_
  intro p e s m args below meth c ls hx hb hr hlk hml hown hts hl hG hK hS
  have hl : lv_has ls 2 [(0, .ref (L.1 0 0)), (1, .int x)] := hl
  have htz : ∀ w ∈ tz, w.before args s = true := fun w h => hts w (List.mem_cons_of_mem _ h)
  have hc12 : rl_c L ≤ 12 := hL.1.2.2.2.1
  have hn5 : rl_n L ≤ 5 := hL.1.2.1
  have h40 : rl_S L ≤ 40 := hL.1.2.2.2.2.2
  refine lv_aload_n hx hb dX5_term_0 rfl (lv_at hl 0 rfl) ?_
  refine lv_iload_n hx hb dX5_term_1 rfl (lv_at hl 1 rfl) ?_
  refine mz_Vi (As := [.int _]) (rest := []) ⟨hx, hb, hml, hown, hts⟩ (rc_isNode l D L hL _ _) (tz_V htz mX5_isNode lX5_116 rfl rfl ⟨Nat.le_of_ble_eq_true rfl, Nat.le_of_ble_eq_true rfl⟩) (rrecv_0 hK hG (by decide)) rK_ok hK hG hS rfl hl.1 rfl (Nat.le_of_ble_eq_true rfl) dX5_term_2 ⟨Nat.zero_le _, Nat.zero_le _⟩ (fun H locs hG hS => ?_)
  refine mz_ifeq_b hx hb dX5_term_5 (tgt := 17) rfl (fun h0 => ?_) (fun h0 => ?_)
  · refine lv_iconst (v := (-1)) hx hb dX5_term_17 (by decide) ?_
    exact mz_iret hx hb hr hlk rK_ok hK hS hG dX5_term_18 (by unfold rs_get; first | rw [if_pos h0] | rw [if_neg h0]) rfl
  · have hk : vp_in x 5 := vp_up (nz_in (by omega) h0) hn5
    refine lv_aload_n hx hb dX5_term_8 rfl (lv_at hl 0 rfl) ?_
    refine rg_0 (f := 5) hx hb htz tin_X5 hown hK hG (by decide) (htz _ fX5_17) (by decide) rfl dX5_term_9 ?_
    refine lv_iload_n hx hb dX5_term_12 rfl (lv_at hl 1 rfl) ?_
    refine ra_3 hx hb hK hG (by decide) hk dX5_term_13 ?_
    refine lv_goto hx hb dX5_term_14 (tgt := 18) rfl ?_
    exact mz_iret hx hb hr hlk rK_ok hK hS hG dX5_term_18 (by unfold rs_get; first | rw [if_pos h0] | rw [if_neg h0]) rfl

set_option maxRecDepth 100000 in
set_option maxHeartbeats 4000000 in
theorem rc_vote (l : Launch) (D : va_G) (L : rL) (hL : rL_ok L) (u : mz_S) (x : Int32) : mz_Ci l (rG D L) (rK D L) (rA L) yX5_vote (tz_w yX5_vote cX5_vote 2 (some .int)) ({ frames := 1, cells := 0, slots := 0, locals := 21 } : Room) [.ref (L.1 0 0), .int x] u (rs_get (rl_n L) u 4 x) (u) := by
  refine mz_Ci.of (cc := cX5_vote) (maxL := 2) (ret := (some .int)) (by decide) rfl (Nat.le_of_ble_eq_true rfl) ?_
  intro p e s m args below meth c ls hx hb hr hlk hml hown hts hl hG hK hS
  have hl : lv_has ls 2 [(0, .ref (L.1 0 0)), (1, .int x)] := hl
  have htz : ∀ w ∈ tz, w.before args s = true := fun w h => hts w (List.mem_cons_of_mem _ h)
  have hc12 : rl_c L ≤ 12 := hL.1.2.2.2.1
  have hn5 : rl_n L ≤ 5 := hL.1.2.1
  have h40 : rl_S L ≤ 40 := hL.1.2.2.2.2.2
  refine lv_aload_n hx hb dX5_vote_0 rfl (lv_at hl 0 rfl) ?_
  refine lv_iload_n hx hb dX5_vote_1 rfl (lv_at hl 1 rfl) ?_
  refine mz_Vi (As := [.int _]) (rest := []) ⟨hx, hb, hml, hown, hts⟩ (rc_isNode l D L hL _ _) (tz_V htz mX5_isNode lX5_116 rfl rfl ⟨Nat.le_of_ble_eq_true rfl, Nat.le_of_ble_eq_true rfl⟩) (rrecv_0 hK hG (by decide)) rK_ok hK hG hS rfl hl.1 rfl (Nat.le_of_ble_eq_true rfl) dX5_vote_2 ⟨Nat.zero_le _, Nat.zero_le _⟩ (fun H locs hG hS => ?_)
  refine mz_ifeq_b hx hb dX5_vote_5 (tgt := 17) rfl (fun h0 => ?_) (fun h0 => ?_)
  · refine lv_iconst (v := (-1)) hx hb dX5_vote_17 (by decide) ?_
    exact mz_iret hx hb hr hlk rK_ok hK hS hG dX5_vote_18 (by unfold rs_get; first | rw [if_pos h0] | rw [if_neg h0]) rfl
  · have hk : vp_in x 5 := vp_up (nz_in (by omega) h0) hn5
    refine lv_aload_n hx hb dX5_vote_8 rfl (lv_at hl 0 rfl) ?_
    refine rg_0 (f := 6) hx hb htz tin_X5 hown hK hG (by decide) (htz _ fX5_20) (by decide) rfl dX5_vote_9 ?_
    refine lv_iload_n hx hb dX5_vote_12 rfl (lv_at hl 1 rfl) ?_
    refine ra_4 hx hb hK hG (by decide) hk dX5_vote_13 ?_
    refine lv_goto hx hb dX5_vote_14 (tgt := 18) rfl ?_
    exact mz_iret hx hb hr hlk rK_ok hK hS hG dX5_vote_18 (by unfold rs_get; first | rw [if_pos h0] | rw [if_neg h0]) rfl

set_option maxRecDepth 100000 in
set_option maxHeartbeats 4000000 in
theorem rc_base (l : Launch) (D : va_G) (L : rL) (hL : rL_ok L) (u : mz_S) (x : Int32) : mz_Ci l (rG D L) (rK D L) (rA L) yX5_base (tz_w yX5_base cX5_base 2 (some .int)) ({ frames := 1, cells := 0, slots := 0, locals := 21 } : Room) [.ref (L.1 0 0), .int x] u (rs_get (rl_n L) u 5 x) (u) := by
  refine mz_Ci.of (cc := cX5_base) (maxL := 2) (ret := (some .int)) (by decide) rfl (Nat.le_of_ble_eq_true rfl) ?_
  intro p e s m args below meth c ls hx hb hr hlk hml hown hts hl hG hK hS
  have hl : lv_has ls 2 [(0, .ref (L.1 0 0)), (1, .int x)] := hl
  have htz : ∀ w ∈ tz, w.before args s = true := fun w h => hts w (List.mem_cons_of_mem _ h)
  have hc12 : rl_c L ≤ 12 := hL.1.2.2.2.1
  have hn5 : rl_n L ≤ 5 := hL.1.2.1
  have h40 : rl_S L ≤ 40 := hL.1.2.2.2.2.2
  refine lv_aload_n hx hb dX5_base_0 rfl (lv_at hl 0 rfl) ?_
  refine lv_iload_n hx hb dX5_base_1 rfl (lv_at hl 1 rfl) ?_
  refine mz_Vi (As := [.int _]) (rest := []) ⟨hx, hb, hml, hown, hts⟩ (rc_isNode l D L hL _ _) (tz_V htz mX5_isNode lX5_116 rfl rfl ⟨Nat.le_of_ble_eq_true rfl, Nat.le_of_ble_eq_true rfl⟩) (rrecv_0 hK hG (by decide)) rK_ok hK hG hS rfl hl.1 rfl (Nat.le_of_ble_eq_true rfl) dX5_base_2 ⟨Nat.zero_le _, Nat.zero_le _⟩ (fun H locs hG hS => ?_)
  refine mz_ifeq_b hx hb dX5_base_5 (tgt := 17) rfl (fun h0 => ?_) (fun h0 => ?_)
  · refine lv_iconst (v := (-1)) hx hb dX5_base_17 (by decide) ?_
    exact mz_iret hx hb hr hlk rK_ok hK hS hG dX5_base_18 (by unfold rs_get; first | rw [if_pos h0] | rw [if_neg h0]) rfl
  · have hk : vp_in x 5 := vp_up (nz_in (by omega) h0) hn5
    refine lv_aload_n hx hb dX5_base_8 rfl (lv_at hl 0 rfl) ?_
    refine rg_0 (f := 7) hx hb htz tin_X5 hown hK hG (by decide) (htz _ fX5_23) (by decide) rfl dX5_base_9 ?_
    refine lv_iload_n hx hb dX5_base_12 rfl (lv_at hl 1 rfl) ?_
    refine ra_5 hx hb hK hG (by decide) hk dX5_base_13 ?_
    refine lv_goto hx hb dX5_base_14 (tgt := 18) rfl ?_
    exact mz_iret hx hb hr hlk rK_ok hK hS hG dX5_base_18 (by unfold rs_get; first | rw [if_pos h0] | rw [if_neg h0]) rfl

set_option maxRecDepth 100000 in
set_option maxHeartbeats 4000000 in
theorem rc_commit (l : Launch) (D : va_G) (L : rL) (hL : rL_ok L) (u : mz_S) (x : Int32) : mz_Ci l (rG D L) (rK D L) (rA L) yX5_commit (tz_w yX5_commit cX5_commit 2 (some .int)) ({ frames := 1, cells := 0, slots := 0, locals := 21 } : Room) [.ref (L.1 0 0), .int x] u (rs_get (rl_n L) u 8 x) (u) := by
  refine mz_Ci.of (cc := cX5_commit) (maxL := 2) (ret := (some .int)) (by decide) rfl (Nat.le_of_ble_eq_true rfl) ?_
  intro p e s m args below meth c ls hx hb hr hlk hml hown hts hl hG hK hS
  have hl : lv_has ls 2 [(0, .ref (L.1 0 0)), (1, .int x)] := hl
  have htz : ∀ w ∈ tz, w.before args s = true := fun w h => hts w (List.mem_cons_of_mem _ h)
  have hc12 : rl_c L ≤ 12 := hL.1.2.2.2.1
  have hn5 : rl_n L ≤ 5 := hL.1.2.1
  have h40 : rl_S L ≤ 40 := hL.1.2.2.2.2.2
  refine lv_aload_n hx hb dX5_commit_0 rfl (lv_at hl 0 rfl) ?_
  refine lv_iload_n hx hb dX5_commit_1 rfl (lv_at hl 1 rfl) ?_
  refine mz_Vi (As := [.int _]) (rest := []) ⟨hx, hb, hml, hown, hts⟩ (rc_isNode l D L hL _ _) (tz_V htz mX5_isNode lX5_116 rfl rfl ⟨Nat.le_of_ble_eq_true rfl, Nat.le_of_ble_eq_true rfl⟩) (rrecv_0 hK hG (by decide)) rK_ok hK hG hS rfl hl.1 rfl (Nat.le_of_ble_eq_true rfl) dX5_commit_2 ⟨Nat.zero_le _, Nat.zero_le _⟩ (fun H locs hG hS => ?_)
  refine mz_ifeq_b hx hb dX5_commit_5 (tgt := 17) rfl (fun h0 => ?_) (fun h0 => ?_)
  · refine lv_iconst (v := (-1)) hx hb dX5_commit_17 (by decide) ?_
    exact mz_iret hx hb hr hlk rK_ok hK hS hG dX5_commit_18 (by unfold rs_get; first | rw [if_pos h0] | rw [if_neg h0]) rfl
  · have hk : vp_in x 5 := vp_up (nz_in (by omega) h0) hn5
    refine lv_aload_n hx hb dX5_commit_8 rfl (lv_at hl 0 rfl) ?_
    refine rg_0 (f := 10) hx hb htz tin_X5 hown hK hG (by decide) (htz _ fX5_32) (by decide) rfl dX5_commit_9 ?_
    refine lv_iload_n hx hb dX5_commit_12 rfl (lv_at hl 1 rfl) ?_
    refine ra_8 hx hb hK hG (by decide) hk dX5_commit_13 ?_
    refine lv_goto hx hb dX5_commit_14 (tgt := 18) rfl ?_
    exact mz_iret hx hb hr hlk rK_ok hK hS hG dX5_commit_18 (by unfold rs_get; first | rw [if_pos h0] | rw [if_neg h0]) rfl

set_option maxRecDepth 100000 in
set_option maxHeartbeats 4000000 in
theorem rc_last (l : Launch) (D : va_G) (L : rL) (hL : rL_ok L) (u : mz_S) (x : Int32) : mz_Ci l (rG D L) (rK D L) (rA L) yX5_last (tz_w yX5_last cX5_last 2 (some .int)) ({ frames := 1, cells := 0, slots := 0, locals := 21 } : Room) [.ref (L.1 0 0), .int x] u (rs_lastQ (rl_n L) u x) (u) := by
  refine mz_Ci.of (cc := cX5_last) (maxL := 2) (ret := (some .int)) (by decide) rfl (Nat.le_of_ble_eq_true rfl) ?_
  intro p e s m args below meth c ls hx hb hr hlk hml hown hts hl hG hK hS
  have hl : lv_has ls 2 [(0, .ref (L.1 0 0)), (1, .int x)] := hl
  have htz : ∀ w ∈ tz, w.before args s = true := fun w h => hts w (List.mem_cons_of_mem _ h)
  have hc12 : rl_c L ≤ 12 := hL.1.2.2.2.1
  have hn5 : rl_n L ≤ 5 := hL.1.2.1
  have h40 : rl_S L ≤ 40 := hL.1.2.2.2.2.2
  refine lv_aload_n hx hb dX5_last_0 rfl (lv_at hl 0 rfl) ?_
  refine lv_iload_n hx hb dX5_last_1 rfl (lv_at hl 1 rfl) ?_
  refine mz_Vi (As := [.int _]) (rest := []) ⟨hx, hb, hml, hown, hts⟩ (rc_isNode l D L hL _ _) (tz_V htz mX5_isNode lX5_116 rfl rfl ⟨Nat.le_of_ble_eq_true rfl, Nat.le_of_ble_eq_true rfl⟩) (rrecv_0 hK hG (by decide)) rK_ok hK hG hS rfl hl.1 rfl (Nat.le_of_ble_eq_true rfl) dX5_last_2 ⟨Nat.zero_le _, Nat.zero_le _⟩ (fun H locs hG hS => ?_)
  refine mz_ifeq_b hx hb dX5_last_5 (tgt := 16) rfl (fun h0 => ?_) (fun h0 => ?_)
  · refine lv_iconst (v := (-1)) hx hb dX5_last_16 (by decide) ?_
    exact mz_iret hx hb hr hlk rK_ok hK hS hG dX5_last_17 (by unfold rs_lastQ; first | rw [if_pos h0] | rw [if_neg h0]) rfl
  · have hk : vp_in x 5 := vp_up (nz_in (by omega) h0) hn5
    refine lv_aload_n hx hb dX5_last_8 rfl (lv_at hl 0 rfl) ?_
    refine lv_iload_n hx hb dX5_last_9 rfl (lv_at hl 1 rfl) ?_
    refine mz_Vi (As := [.int _]) (rest := []) ⟨hx, hb, hml, hown, hts⟩ (rc_lastOf l D L hL _ _ hk) (tz_V htz mX5_lastOf lX5_97 rfl rfl ⟨Nat.le_of_ble_eq_true rfl, Nat.le_of_ble_eq_true rfl⟩) (rrecv_0 hK hG (by decide)) rK_ok hK hG hS rfl hl.1 rfl (Nat.le_of_ble_eq_true rfl) dX5_last_10 ⟨Nat.zero_le _, Nat.zero_le _⟩ (fun H locs hG hS => ?_)
    refine lv_goto hx hb dX5_last_13 (tgt := 17) rfl ?_
    exact mz_iret hx hb hr hlk rK_ok hK hS hG dX5_last_17 (by unfold rs_lastQ; first | rw [if_pos h0] | rw [if_neg h0]) rfl

set_option maxRecDepth 100000 in
set_option maxHeartbeats 4000000 in
theorem rc_termAt (l : Launch) (D : va_G) (L : rL) (hL : rL_ok L) (u : mz_S) (x y : Int32) (hz : ∀ i, i < rl_n L → rz (rl_c L) u (nI i)) : mz_Ci l (rG D L) (rK D L) (rA L) yX5_termAt (tz_w yX5_termAt cX5_termAt 3 (some .int)) ({ frames := 3, cells := 0, slots := 0, locals := 65 } : Room) [.ref (L.1 0 0), .int x, .int y] u (rs_termAt (rl_n L) u x y) (u) := by
  refine mz_Ci.of (cc := cX5_termAt) (maxL := 3) (ret := (some .int)) (by decide) rfl (Nat.le_of_ble_eq_true rfl) ?_
  intro p e s m args below meth c ls hx hb hr hlk hml hown hts hl hG hK hS
  have hl : lv_has ls 3 [(0, .ref (L.1 0 0)), (1, .int x), (2, .int y)] := hl
  have htz : ∀ w ∈ tz, w.before args s = true := fun w h => hts w (List.mem_cons_of_mem _ h)
  have hc12 : rl_c L ≤ 12 := hL.1.2.2.2.1
  have hn5 : rl_n L ≤ 5 := hL.1.2.1
  have h40 : rl_S L ≤ 40 := hL.1.2.2.2.2.2
  refine lv_aload_n hx hb dX5_termAt_0 rfl (lv_at hl 0 rfl) ?_
  refine lv_iload_n hx hb dX5_termAt_1 rfl (lv_at hl 1 rfl) ?_
  refine mz_Vi (As := [.int _]) (rest := []) ⟨hx, hb, hml, hown, hts⟩ (rc_isNode l D L hL _ _) (tz_V htz mX5_isNode lX5_116 rfl rfl ⟨Nat.le_of_ble_eq_true rfl, Nat.le_of_ble_eq_true rfl⟩) (rrecv_0 hK hG (by decide)) rK_ok hK hG hS rfl hl.1 rfl (Nat.le_of_ble_eq_true rfl) dX5_termAt_2 ⟨Nat.zero_le _, Nat.zero_le _⟩ (fun H locs hG hS => ?_)
  refine mz_ifeq_b hx hb dX5_termAt_5 (tgt := 17) rfl (fun h0 => ?_) (fun h0 => ?_)
  · refine lv_iconst (v := (-1)) hx hb dX5_termAt_17 (by decide) ?_
    exact mz_iret hx hb hr hlk rK_ok hK hS hG dX5_termAt_18 (by unfold rs_termAt; first | rw [if_pos h0] | rw [if_neg h0]) rfl
  · have hk : vp_in x 5 := vp_up (nz_in (by omega) h0) hn5
    have hz : rz (rl_c L) u x := by
      obtain ⟨j9, hj9, rfl⟩ := nz_of (by omega) h0
      exact hz j9 hj9
    refine lv_aload_n hx hb dX5_termAt_8 rfl (lv_at hl 0 rfl) ?_
    refine lv_iload_n hx hb dX5_termAt_9 rfl (lv_at hl 1 rfl) ?_
    refine lv_iload_n hx hb dX5_termAt_10 rfl (lv_at hl 2 rfl) ?_
    refine mz_Vi (As := [.int _, .int _]) (rest := []) ⟨hx, hb, hml, hown, hts⟩ (rc_termOf l D L hL _ _ _ hz) (tz_V htz mX5_termOf lX5_123 rfl rfl ⟨Nat.le_of_ble_eq_true rfl, Nat.le_of_ble_eq_true rfl⟩) (rrecv_0 hK hG (by decide)) rK_ok hK hG hS rfl hl.1 rfl (Nat.le_of_ble_eq_true rfl) dX5_termAt_11 ⟨Nat.zero_le _, Nat.zero_le _⟩ (fun H locs hG hS => ?_)
    refine lv_goto hx hb dX5_termAt_14 (tgt := 18) rfl ?_
    exact mz_iret hx hb hr hlk rK_ok hK hS hG dX5_termAt_18 (by unfold rs_termAt; first | rw [if_pos h0] | rw [if_neg h0]) rfl

set_option maxRecDepth 100000 in
set_option maxHeartbeats 4000000 in
theorem rc_commandAt (l : Launch) (D : va_G) (L : rL) (hL : rL_ok L) (u : mz_S) (x y : Int32) (hz : ∀ i, i < rl_n L → rz (rl_c L) u (nI i)) : mz_Ci l (rG D L) (rK D L) (rA L) yX5_commandAt (tz_w yX5_commandAt cX5_commandAt 3 (some .int)) ({ frames := 2, cells := 0, slots := 0, locals := 43 } : Room) [.ref (L.1 0 0), .int x, .int y] u (rs_commandAt (rl_n L) u x y) (u) := by
  refine mz_Ci.of (cc := cX5_commandAt) (maxL := 3) (ret := (some .int)) (by decide) rfl (Nat.le_of_ble_eq_true rfl) ?_
  intro p e s m args below meth c ls hx hb hr hlk hml hown hts hl hG hK hS
  have hl : lv_has ls 3 [(0, .ref (L.1 0 0)), (1, .int x), (2, .int y)] := hl
  have htz : ∀ w ∈ tz, w.before args s = true := fun w h => hts w (List.mem_cons_of_mem _ h)
  have hc12 : rl_c L ≤ 12 := hL.1.2.2.2.1
  have hn5 : rl_n L ≤ 5 := hL.1.2.1
  have h40 : rl_S L ≤ 40 := hL.1.2.2.2.2.2
  refine lv_aload_n hx hb dX5_commandAt_0 rfl (lv_at hl 0 rfl) ?_
  refine lv_iload_n hx hb dX5_commandAt_1 rfl (lv_at hl 1 rfl) ?_
  refine mz_Vi (As := [.int _]) (rest := []) ⟨hx, hb, hml, hown, hts⟩ (rc_isNode l D L hL _ _) (tz_V htz mX5_isNode lX5_116 rfl rfl ⟨Nat.le_of_ble_eq_true rfl, Nat.le_of_ble_eq_true rfl⟩) (rrecv_0 hK hG (by decide)) rK_ok hK hG hS rfl hl.1 rfl (Nat.le_of_ble_eq_true rfl) dX5_commandAt_2 ⟨Nat.zero_le _, Nat.zero_le _⟩ (fun H locs hG hS => ?_)
  refine mz_ifeq_b hx hb dX5_commandAt_5 (tgt := 31) rfl (fun h0 => ?_) (fun h0 => ?_)
  · refine lv_iconst (v := 0) hx hb dX5_commandAt_31 (by decide) ?_
    exact mz_iret hx hb hr hlk rK_ok hK hS hG dX5_commandAt_32 (by unfold rs_commandAt; first | rw [if_neg (not_and_of_not_left _ h0)] | rw [if_neg (not_and_of_not_right _ h1)] | rw [if_pos (And.intro h0 h1)]) rfl
  · have hk : vp_in x 5 := vp_up (nz_in (by omega) h0) hn5
    have hz : rz (rl_c L) u x := by
      obtain ⟨j9, hj9, rfl⟩ := nz_of (by omega) h0
      exact hz j9 hj9
    refine lv_aload_n hx hb dX5_commandAt_8 rfl (lv_at hl 0 rfl) ?_
    refine lv_iload_n hx hb dX5_commandAt_9 rfl (lv_at hl 1 rfl) ?_
    refine lv_iload_n hx hb dX5_commandAt_10 rfl (lv_at hl 2 rfl) ?_
    refine mz_Vi (As := [.int _, .int _]) (rest := []) ⟨hx, hb, hml, hown, hts⟩ (rc_hasEntry l D L hL _ _ _ hk) (tz_V htz mX5_hasEntry lX5_101 rfl rfl ⟨Nat.le_of_ble_eq_true rfl, Nat.le_of_ble_eq_true rfl⟩) (rrecv_0 hK hG (by decide)) rK_ok hK hG hS rfl hl.1 rfl (Nat.le_of_ble_eq_true rfl) dX5_commandAt_11 ⟨Nat.zero_le _, Nat.zero_le _⟩ (fun H locs hG hS => ?_)
    refine mz_ifeq_b hx hb dX5_commandAt_14 (tgt := 31) rfl (fun h1 => ?_) (fun h1 => ?_)
    · refine lv_iconst (v := 0) hx hb dX5_commandAt_31 (by decide) ?_
      exact mz_iret hx hb hr hlk rK_ok hK hS hG dX5_commandAt_32 (by unfold rs_commandAt; first | rw [if_neg (not_and_of_not_left _ h0)] | rw [if_neg (not_and_of_not_right _ h1)] | rw [if_pos (And.intro h0 h1)]) rfl
    · refine lv_aload_n hx hb dX5_commandAt_17 rfl (lv_at hl 0 rfl) ?_
      refine rg_0 (f := 14) hx hb htz tin_X5 hown hK hG (by decide) (htz _ fX5_44) (by decide) rfl dX5_commandAt_18 ?_
      refine lv_aload_n hx hb dX5_commandAt_21 rfl (lv_at hl 0 rfl) ?_
      refine lv_iload_n hx hb dX5_commandAt_22 rfl (lv_at hl 1 rfl) ?_
      refine lv_iload_n hx hb dX5_commandAt_23 rfl (lv_at hl 2 rfl) ?_
      refine mz_Vi (As := [.int _, .int _]) (rest := [.ref _]) ⟨hx, hb, hml, hown, hts⟩ (rc_place l D L hL _ _ _ hk) (tz_V htz mX5_place lX5_105 rfl rfl ⟨Nat.le_of_ble_eq_true rfl, Nat.le_of_ble_eq_true rfl⟩) (rrecv_0 hK hG (by decide)) rK_ok hK hG hS rfl hl.1 rfl (Nat.le_of_ble_eq_true rfl) dX5_commandAt_24 ⟨Nat.zero_le _, Nat.zero_le _⟩ (fun H locs hG hS => ?_)
      refine ra_12 hx hb hK hG (by decide) (hz.ix hc12 h1) dX5_commandAt_27 ?_
      refine lv_goto hx hb dX5_commandAt_28 (tgt := 32) rfl ?_
      exact mz_iret hx hb hr hlk rK_ok hK hS hG dX5_commandAt_32 (by unfold rs_commandAt; first | rw [if_neg (not_and_of_not_left _ h0)] | rw [if_neg (not_and_of_not_right _ h1)] | rw [if_pos (And.intro h0 h1)]) rfl

set_option maxRecDepth 100000 in
set_option maxHeartbeats 4000000 in
theorem rc_state (l : Launch) (D : va_G) (L : rL) (hL : rL_ok L) (u : mz_S) (x : Int32) (hq : ∀ i, i < rl_n L → rzc (rl_c L) u (nI i) (u 8 0 i)) : mz_Ci l (rG D L) (rK D L) (rA L) yX5_state (tz_w yX5_state cX5_state 2 (some .int)) ({ frames := 2, cells := 0, slots := 0, locals := 46 } : Room) [.ref (L.1 0 0), .int x] u (rs_stateQ (rl_n L) u x) (u) := by
  refine mz_Ci.of (cc := cX5_state) (maxL := 2) (ret := (some .int)) (by decide) rfl (Nat.le_of_ble_eq_true rfl) ?_
  intro p e s m args below meth c ls hx hb hr hlk hml hown hts hl hG hK hS
  have hl : lv_has ls 2 [(0, .ref (L.1 0 0)), (1, .int x)] := hl
  have htz : ∀ w ∈ tz, w.before args s = true := fun w h => hts w (List.mem_cons_of_mem _ h)
  have hc12 : rl_c L ≤ 12 := hL.1.2.2.2.1
  have hn5 : rl_n L ≤ 5 := hL.1.2.1
  have h40 : rl_S L ≤ 40 := hL.1.2.2.2.2.2
  refine lv_aload_n hx hb dX5_state_0 rfl (lv_at hl 0 rfl) ?_
  refine lv_iload_n hx hb dX5_state_1 rfl (lv_at hl 1 rfl) ?_
  refine mz_Vi (As := [.int _]) (rest := []) ⟨hx, hb, hml, hown, hts⟩ (rc_isNode l D L hL _ _) (tz_V htz mX5_isNode lX5_116 rfl rfl ⟨Nat.le_of_ble_eq_true rfl, Nat.le_of_ble_eq_true rfl⟩) (rrecv_0 hK hG (by decide)) rK_ok hK hG hS rfl hl.1 rfl (Nat.le_of_ble_eq_true rfl) dX5_state_2 ⟨Nat.zero_le _, Nat.zero_le _⟩ (fun H locs hG hS => ?_)
  refine mz_ifeq_b hx hb dX5_state_5 (tgt := 22) rfl (fun h0 => ?_) (fun h0 => ?_)
  · refine lv_iconst (v := 0) hx hb dX5_state_22 (by decide) ?_
    exact mz_iret hx hb hr hlk rK_ok hK hS hG dX5_state_23 (by unfold rs_stateQ; first | rw [if_pos h0] | rw [if_neg h0]) rfl
  · have hk : vp_in x 5 := vp_up (nz_in (by omega) h0) hn5
    have hq : rzc (rl_c L) u x (u 8 0 x.toNatClampNeg) := by
      obtain ⟨j9, hj9, rfl⟩ := nz_of (by omega) h0
      rw [nI_clamp (by omega)]
      exact hq j9 hj9
    refine lv_aload_n hx hb dX5_state_8 rfl (lv_at hl 0 rfl) ?_
    refine lv_iload_n hx hb dX5_state_9 rfl (lv_at hl 1 rfl) ?_
    refine lv_aload_n hx hb dX5_state_10 rfl (lv_at hl 0 rfl) ?_
    refine rg_0 (f := 10) hx hb htz tin_X5 hown hK hG (by decide) (htz _ fX5_32) (by decide) rfl dX5_state_11 ?_
    refine lv_iload_n hx hb dX5_state_14 rfl (lv_at hl 1 rfl) ?_
    refine ra_8 hx hb hK hG (by decide) hk dX5_state_15 ?_
    refine mz_Vi (As := [.int _, .int _]) (rest := []) ⟨hx, hb, hml, hown, hts⟩ (rc_stateTo l D L hL _ _ _ hq) (tz_V htz mX5_stateTo lX5_130 rfl rfl ⟨Nat.le_of_ble_eq_true rfl, Nat.le_of_ble_eq_true rfl⟩) (rrecv_0 hK hG (by decide)) rK_ok hK hG hS rfl hl.1 rfl (Nat.le_of_ble_eq_true rfl) dX5_state_16 ⟨Nat.zero_le _, Nat.zero_le _⟩ (fun H locs hG hS => ?_)
    refine lv_goto hx hb dX5_state_19 (tgt := 23) rfl ?_
    exact mz_iret hx hb hr hlk rK_ok hK hS hG dX5_state_23 (by unfold rs_stateQ; first | rw [if_pos h0] | rw [if_neg h0]) rfl

set_option maxRecDepth 100000 in
set_option maxHeartbeats 4000000 in
theorem rc_peer (l : Launch) (D : va_G) (L : rL) (hL : rL_ok L) (u : mz_S) (x y : Int32) : mz_Ci l (rG D L) (rK D L) (rA L) yX5_peer (tz_w yX5_peer cX5_peer 3 (some .int)) ({ frames := 1, cells := 0, slots := 0, locals := 21 } : Room) [.ref (L.1 0 0), .int x, .int y] u (rs_peer (rl_n L) u x y) (u) := by
  refine mz_Ci.of (cc := cX5_peer) (maxL := 3) (ret := (some .int)) (by decide) rfl (Nat.le_of_ble_eq_true rfl) ?_
  intro p e s m args below meth c ls hx hb hr hlk hml hown hts hl hG hK hS
  have hl : lv_has ls 3 [(0, .ref (L.1 0 0)), (1, .int x), (2, .int y)] := hl
  have htz : ∀ w ∈ tz, w.before args s = true := fun w h => hts w (List.mem_cons_of_mem _ h)
  have hc12 : rl_c L ≤ 12 := hL.1.2.2.2.1
  have hn5 : rl_n L ≤ 5 := hL.1.2.1
  have h40 : rl_S L ≤ 40 := hL.1.2.2.2.2.2
  refine lv_aload_n hx hb dX5_peer_0 rfl (lv_at hl 0 rfl) ?_
  refine lv_iload_n hx hb dX5_peer_1 rfl (lv_at hl 1 rfl) ?_
  refine mz_Vi (As := [.int _]) (rest := []) ⟨hx, hb, hml, hown, hts⟩ (rc_isNode l D L hL _ _) (tz_V htz mX5_isNode lX5_116 rfl rfl ⟨Nat.le_of_ble_eq_true rfl, Nat.le_of_ble_eq_true rfl⟩) (rrecv_0 hK hG (by decide)) rK_ok hK hG hS rfl hl.1 rfl (Nat.le_of_ble_eq_true rfl) dX5_peer_2 ⟨Nat.zero_le _, Nat.zero_le _⟩ (fun H locs hG hS => ?_)
  refine mz_ifeq_b hx hb dX5_peer_5 (tgt := 31) rfl (fun h0 => ?_) (fun h0 => ?_)
  · refine lv_iconst (v := (-1)) hx hb dX5_peer_31 (by decide) ?_
    exact mz_iret hx hb hr hlk rK_ok hK hS hG dX5_peer_32 (by unfold rs_peer; first | rw [if_pos (not_and_of_not_left _ h0)] | rw [if_pos (not_and_of_not_right _ (not_and_of_not_left _ h1))] | rw [if_pos (not_and_of_not_right _ (not_and_of_not_right _ (not_not_intro h2)))] | rw [if_neg (not_not_intro (And.intro h0 (And.intro h1 h2))), if_pos h3] | rw [if_neg (not_not_intro (And.intro h0 (And.intro h1 h2))), if_neg (not_not_intro h3)]) rfl
  · refine lv_aload_n hx hb dX5_peer_8 rfl (lv_at hl 0 rfl) ?_
    refine lv_iload_n hx hb dX5_peer_9 rfl (lv_at hl 2 rfl) ?_
    refine mz_Vi (As := [.int _]) (rest := []) ⟨hx, hb, hml, hown, hts⟩ (rc_isNode l D L hL _ _) (tz_V htz mX5_isNode lX5_116 rfl rfl ⟨Nat.le_of_ble_eq_true rfl, Nat.le_of_ble_eq_true rfl⟩) (rrecv_0 hK hG (by decide)) rK_ok hK hG hS rfl hl.1 rfl (Nat.le_of_ble_eq_true rfl) dX5_peer_10 ⟨Nat.zero_le _, Nat.zero_le _⟩ (fun H locs hG hS => ?_)
    refine mz_ifeq_b hx hb dX5_peer_13 (tgt := 31) rfl (fun h1 => ?_) (fun h1 => ?_)
    · refine lv_iconst (v := (-1)) hx hb dX5_peer_31 (by decide) ?_
      exact mz_iret hx hb hr hlk rK_ok hK hS hG dX5_peer_32 (by unfold rs_peer; first | rw [if_pos (not_and_of_not_left _ h0)] | rw [if_pos (not_and_of_not_right _ (not_and_of_not_left _ h1))] | rw [if_pos (not_and_of_not_right _ (not_and_of_not_right _ (not_not_intro h2)))] | rw [if_neg (not_not_intro (And.intro h0 (And.intro h1 h2))), if_pos h3] | rw [if_neg (not_not_intro (And.intro h0 (And.intro h1 h2))), if_neg (not_not_intro h3)]) rfl
    · refine lv_iload_n hx hb dX5_peer_16 rfl (lv_at hl 1 rfl) ?_
      refine lv_iload_n hx hb dX5_peer_17 rfl (lv_at hl 2 rfl) ?_
      refine lv_icmp_eq hx hb dX5_peer_18 (tgt := 31) rfl (fun h2 => ?_) (fun h2 => ?_)
      · refine lv_iconst (v := (-1)) hx hb dX5_peer_31 (by decide) ?_
        exact mz_iret hx hb hr hlk rK_ok hK hS hG dX5_peer_32 (by unfold rs_peer; first | rw [if_pos (not_and_of_not_left _ h0)] | rw [if_pos (not_and_of_not_right _ (not_and_of_not_left _ h1))] | rw [if_pos (not_and_of_not_right _ (not_and_of_not_right _ (not_not_intro h2)))] | rw [if_neg (not_not_intro (And.intro h0 (And.intro h1 h2))), if_pos h3] | rw [if_neg (not_not_intro (And.intro h0 (And.intro h1 h2))), if_neg (not_not_intro h3)]) rfl
      · have hk : vp_in x 5 := vp_up (nz_in (by omega) h0) hn5
        have hy : vp_in y 5 := vp_up (nz_in (by omega) h1) hn5
        have hxy : vp_in (5 * x + y) 25 := rz_in5 hk hy
        refine lv_aload_n hx hb dX5_peer_21 rfl (lv_at hl 0 rfl) ?_
        refine rg_0 (f := 4) hx hb htz tin_X5 hown hK hG (by decide) (htz _ fX5_13) (by decide) rfl dX5_peer_22 ?_
        refine lv_iload_n hx hb dX5_peer_25 rfl (lv_at hl 1 rfl) ?_
        refine ra_2 hx hb hK hG (by decide) hk dX5_peer_26 ?_
        refine lv_iconst (v := 2) hx hb dX5_peer_27 (by decide) ?_
        refine lv_icmp_eq hx hb dX5_peer_28 (tgt := 33) rfl (fun h3 => ?_) (fun h3 => ?_)
        · refine lv_aload_n hx hb dX5_peer_33 rfl (lv_at hl 0 rfl) ?_
          refine rg_0 (f := 16) hx hb htz tin_X5 hown hK hG (by decide) (htz _ fX5_50) (by decide) rfl dX5_peer_34 ?_
          refine lv_iconst (v := 5) hx hb dX5_peer_37 (by decide) ?_
          refine lv_iload_n hx hb dX5_peer_38 rfl (lv_at hl 1 rfl) ?_
          refine lv_imul hx hb dX5_peer_39 ?_
          refine lv_iload_n hx hb dX5_peer_40 rfl (lv_at hl 2 rfl) ?_
          refine lv_iadd hx hb dX5_peer_41 ?_
          refine ra_14 hx hb hK hG (by decide) hxy dX5_peer_42 ?_
          refine lv_ldc (v := 100000) hx hb hown (htz _ kX5_174) dX5_peer_43 ?_
          refine lv_aload_n hx hb dX5_peer_45 rfl (lv_at hl 0 rfl) ?_
          refine rg_0 (f := 15) hx hb htz tin_X5 hown hK hG (by decide) (htz _ fX5_47) (by decide) rfl dX5_peer_46 ?_
          refine lv_iconst (v := 5) hx hb dX5_peer_49 (by decide) ?_
          refine lv_iload_n hx hb dX5_peer_50 rfl (lv_at hl 1 rfl) ?_
          refine lv_imul hx hb dX5_peer_51 ?_
          refine lv_iload_n hx hb dX5_peer_52 rfl (lv_at hl 2 rfl) ?_
          refine lv_iadd hx hb dX5_peer_53 ?_
          refine ra_13 hx hb hK hG (by decide) hxy dX5_peer_54 ?_
          refine lv_imul hx hb dX5_peer_55 ?_
          refine lv_iadd hx hb dX5_peer_56 ?_
          exact mz_iret hx hb hr hlk rK_ok hK hS hG dX5_peer_57 (by unfold rs_peer; first | rw [if_pos (not_and_of_not_left _ h0)] | rw [if_pos (not_and_of_not_right _ (not_and_of_not_left _ h1))] | rw [if_pos (not_and_of_not_right _ (not_and_of_not_right _ (not_not_intro h2)))] | rw [if_neg (not_not_intro (And.intro h0 (And.intro h1 h2))), if_pos h3] | rw [if_neg (not_not_intro (And.intro h0 (And.intro h1 h2))), if_neg (not_not_intro h3)]) rfl
        · refine lv_iconst (v := (-1)) hx hb dX5_peer_31 (by decide) ?_
          exact mz_iret hx hb hr hlk rK_ok hK hS hG dX5_peer_32 (by unfold rs_peer; first | rw [if_pos (not_and_of_not_left _ h0)] | rw [if_pos (not_and_of_not_right _ (not_and_of_not_left _ h1))] | rw [if_pos (not_and_of_not_right _ (not_and_of_not_right _ (not_not_intro h2)))] | rw [if_neg (not_not_intro (And.intro h0 (And.intro h1 h2))), if_pos h3] | rw [if_neg (not_not_intro (And.intro h0 (And.intro h1 h2))), if_neg (not_not_intro h3)]) rfl

set_option maxRecDepth 100000 in
set_option maxHeartbeats 4000000 in
theorem rc_pending (l : Launch) (D : va_G) (L : rL) (hL : rL_ok L) (u : mz_S)  : mz_Ci l (rG D L) (rK D L) (rA L) yX5_pending (tz_w yX5_pending cX5_pending 1 (some .int)) ({ frames := 1, cells := 0, slots := 0, locals := 22 } : Room) [.ref (L.1 0 0)] u (rs_w u (rl_S L)) (u) := by
  refine mz_Ci.of (cc := cX5_pending) (maxL := 1) (ret := (some .int)) (by decide) rfl (Nat.le_of_ble_eq_true rfl) ?_
  intro p e s m args below meth c ls hx hb hr hlk hml hown hts hl hG hK hS
  have hl : lv_has ls 1 [(0, .ref (L.1 0 0))] := hl
  have htz : ∀ w ∈ tz, w.before args s = true := fun w h => hts w (List.mem_cons_of_mem _ h)
  have hc12 : rl_c L ≤ 12 := hL.1.2.2.2.1
  have hn5 : rl_n L ≤ 5 := hL.1.2.1
  have h40 : rl_S L ≤ 40 := hL.1.2.2.2.2.2
  refine lv_aload_n hx hb dX5_pending_0 rfl (lv_at hl 0 rfl) ?_
  refine mz_Vi (As := []) (rest := []) ⟨hx, hb, hml, hown, hts⟩ (rc_waiting l D L hL _) (tz_V htz mX5_waiting lX5_120 rfl rfl ⟨Nat.le_of_ble_eq_true rfl, Nat.le_of_ble_eq_true rfl⟩) (rrecv_0 hK hG (by decide)) rK_ok hK hG hS rfl hl.1 rfl (Nat.le_of_ble_eq_true rfl) dX5_pending_1 ⟨Nat.zero_le _, Nat.zero_le _⟩ (fun H locs hG hS => ?_)
  exact mz_iret hx hb hr hlk rK_ok hK hS hG dX5_pending_4 rfl rfl

set_option maxRecDepth 100000 in
set_option maxHeartbeats 4000000 in
theorem rc_slot (l : Launch) (D : va_G) (L : rL) (hL : rL_ok L) (u : mz_S) (x : Int32) : mz_Ci l (rG D L) (rK D L) (rA L) yX5_slot (tz_w yX5_slot cX5_slot 2 (some .int)) ({ frames := 1, cells := 0, slots := 0, locals := 21 } : Room) [.ref (L.1 0 0), .int x] u (rs_slot (rl_S L) u x) (u) := by
  refine mz_Ci.of (cc := cX5_slot) (maxL := 2) (ret := (some .int)) (by decide) rfl (Nat.le_of_ble_eq_true rfl) ?_
  intro p e s m args below meth c ls hx hb hr hlk hml hown hts hl hG hK hS
  have hl : lv_has ls 2 [(0, .ref (L.1 0 0)), (1, .int x)] := hl
  have htz : ∀ w ∈ tz, w.before args s = true := fun w h => hts w (List.mem_cons_of_mem _ h)
  have hc12 : rl_c L ≤ 12 := hL.1.2.2.2.1
  have hn5 : rl_n L ≤ 5 := hL.1.2.1
  have h40 : rl_S L ≤ 40 := hL.1.2.2.2.2.2
  refine lv_aload_n hx hb dX5_slot_0 rfl (lv_at hl 0 rfl) ?_
  refine lv_iload_n hx hb dX5_slot_1 rfl (lv_at hl 1 rfl) ?_
  refine mz_Vi (As := [.int _]) (rest := []) ⟨hx, hb, hml, hown, hts⟩ (rc_isSlot l D L hL _ _) (tz_V htz mX5_isSlot lX5_137 rfl rfl ⟨Nat.le_of_ble_eq_true rfl, Nat.le_of_ble_eq_true rfl⟩) (rrecv_0 hK hG (by decide)) rK_ok hK hG hS rfl hl.1 rfl (Nat.le_of_ble_eq_true rfl) dX5_slot_2 ⟨Nat.zero_le _, Nat.zero_le _⟩ (fun H locs hG hS => ?_)
  refine mz_ifne_b hx hb dX5_slot_5 (tgt := 10) rfl (fun h0 => ?_) (fun h0 => ?_)
  · have hx9 : vp_in x 40 := vp_up (nz_in (by omega) h0) h40
    refine lv_aload_n hx hb dX5_slot_10 rfl (lv_at hl 0 rfl) ?_
    refine rg_0 (f := 17) hx hb htz tin_X5 hown hK hG (by decide) (htz _ fX5_53) (by decide) rfl dX5_slot_11 ?_
    refine lv_iload_n hx hb dX5_slot_14 rfl (lv_at hl 1 rfl) ?_
    refine ra_15 hx hb hK hG (by decide) hx9 dX5_slot_15 ?_
    refine lv_if_ne hx hb dX5_slot_16 (tgt := 23) rfl (fun h1 => ?_) (fun h1 => ?_)
    · refine lv_aload_n hx hb dX5_slot_23 rfl (lv_at hl 0 rfl) ?_
      refine rg_0 (f := 17) hx hb htz tin_X5 hown hK hG (by decide) (htz _ fX5_53) (by decide) rfl dX5_slot_24 ?_
      refine lv_iload_n hx hb dX5_slot_27 rfl (lv_at hl 1 rfl) ?_
      refine ra_15 hx hb hK hG (by decide) hx9 dX5_slot_28 ?_
      refine lv_bipush (v := 8) hx hb dX5_slot_29 (by decide) ?_
      refine lv_aload_n hx hb dX5_slot_31 rfl (lv_at hl 0 rfl) ?_
      refine rg_0 (f := 18) hx hb htz tin_X5 hown hK hG (by decide) (htz _ fX5_56) (by decide) rfl dX5_slot_32 ?_
      refine lv_iload_n hx hb dX5_slot_35 rfl (lv_at hl 1 rfl) ?_
      refine ra_16 hx hb hK hG (by decide) hx9 dX5_slot_36 ?_
      refine lv_imul hx hb dX5_slot_37 ?_
      refine lv_iadd hx hb dX5_slot_38 ?_
      refine lv_bipush (v := 64) hx hb dX5_slot_39 (by decide) ?_
      refine lv_aload_n hx hb dX5_slot_41 rfl (lv_at hl 0 rfl) ?_
      refine rg_0 (f := 19) hx hb htz tin_X5 hown hK hG (by decide) (htz _ fX5_59) (by decide) rfl dX5_slot_42 ?_
      refine lv_iload_n hx hb dX5_slot_45 rfl (lv_at hl 1 rfl) ?_
      refine ra_17 hx hb hK hG (by decide) hx9 dX5_slot_46 ?_
      refine lv_imul hx hb dX5_slot_47 ?_
      refine lv_iadd hx hb dX5_slot_48 ?_
      refine lv_sipush (v := 512) hx hb dX5_slot_49 (by decide) ?_
      refine lv_aload_n hx hb dX5_slot_52 rfl (lv_at hl 0 rfl) ?_
      refine rg_0 (f := 20) hx hb htz tin_X5 hown hK hG (by decide) (htz _ fX5_62) (by decide) rfl dX5_slot_53 ?_
      refine lv_iload_n hx hb dX5_slot_56 rfl (lv_at hl 1 rfl) ?_
      refine ra_18 hx hb hK hG (by decide) hx9 dX5_slot_57 ?_
      refine lv_imul hx hb dX5_slot_58 ?_
      refine lv_iadd hx hb dX5_slot_59 ?_
      exact mz_iret hx hb hr hlk rK_ok hK hS hG dX5_slot_60 (by unfold rs_slot; first | rw [if_pos h0] | rw [if_neg (not_not_intro h0), if_pos h1] | rw [if_neg (not_not_intro h0), if_neg h1]) rfl
    · refine lv_iconst (v := 0) hx hb dX5_slot_19 (by decide) ?_
      refine lv_goto hx hb dX5_slot_20 (tgt := 60) rfl ?_
      exact mz_iret hx hb hr hlk rK_ok hK hS hG dX5_slot_60 (by unfold rs_slot; first | rw [if_pos h0] | rw [if_neg (not_not_intro h0), if_pos h1] | rw [if_neg (not_not_intro h0), if_neg h1]) rfl
  · refine lv_iconst (v := (-1)) hx hb dX5_slot_8 (by decide) ?_
    exact mz_iret hx hb hr hlk rK_ok hK hS hG dX5_slot_9 (by unfold rs_slot; first | rw [if_pos h0] | rw [if_neg (not_not_intro h0), if_pos h1] | rw [if_neg (not_not_intro h0), if_neg h1]) rfl
