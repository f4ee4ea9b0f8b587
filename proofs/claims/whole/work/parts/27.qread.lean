set_option maxRecDepth 100000 in
set_option maxHeartbeats 4000000 in
theorem qc_role (l : Launch) (D : va_G) (L : qL) (hL : qL_ok L) (u : mz_S) (x : Int32) : mz_Ci l (qG D L) (qK D L) (qA L) yX4_role (tz_w yX4_role cX4_role 3 (some .int)) ({ frames := 1, cells := 0, slots := 0, locals := 21 } : Room) [.ref (L.1 0 0), .int x] u (qs_role (ql_n L) u x) (u) := by
  refine mz_Ci.of (cc := cX4_role) (maxL := 3) (ret := (some .int)) (by decide) rfl (Nat.le_of_ble_eq_true rfl) ?_
  intro p e s m args below meth c ls hx hb hr hlk hml hown hts hl hG hK hS
  have hl : lv_has ls 3 [(0, .ref (L.1 0 0)), (1, .int x)] := hl
  have htz : ∀ w ∈ tz, w.before args s = true := fun w h => hts w (List.mem_cons_of_mem _ h)
  have hc12 : ql_c L ≤ 12 := hL.1.2.2.2.1
  have hn5 : ql_n L ≤ 5 := hL.1.2.1
  have h40 : ql_S L ≤ 40 := hL.1.2.2.2.2.2
  refine lv_aload_n hx hb dX4_role_0 rfl (lv_at hl 0 rfl) ?_
  refine lv_iload_n hx hb dX4_role_1 rfl (lv_at hl 1 rfl) ?_
  refine mz_Vi (As := [.int _]) (rest := []) ⟨hx, hb, hml, hown, hts⟩ (qc_isNode l D L hL _ _) (tz_V htz mX4_isNode lX4_41 rfl rfl ⟨Nat.le_of_ble_eq_true rfl, Nat.le_of_ble_eq_true rfl⟩) (qrecv_0 hK hG (by decide)) qK_ok hK hG hS rfl hl.1 rfl (Nat.le_of_ble_eq_true rfl) dX4_role_2 ⟨Nat.zero_le _, Nat.zero_le _⟩ (fun H locs hG hS => ?_)
  refine mz_ifne_b hx hb dX4_role_5 (tgt := 10) rfl (fun h0 => ?_) (fun h0 => ?_)
  · refine lv_aload_n hx hb dX4_role_10 rfl (lv_at hl 0 rfl) ?_
    refine qg_0 (f := 0) hx hb htz tin_X4 hown hK hG (by decide) (htz _ fX4_15) (by decide) rfl dX4_role_11 ?_
    refine lv_iload_n hx hb dX4_role_14 rfl (lv_at hl 1 rfl) ?_
    refine qa_1 hx hb hK hG (by decide) (nz_in (by omega) h0) dX4_role_15 ?_
    refine lv_astore_n hx hb dX4_role_16 rfl hl (by decide) rfl (fun ls hl => ?_)
    have hl : lv_has ls 3 [(2, .ref _), (0, .ref _), (1, .int _)] := hl
    refine lv_aload_n hx hb dX4_role_17 rfl (lv_at hl 0 rfl) ?_
    refine qgN_2 (f := 1) hx hb htz tin_X3 hown hK hG (nz_cl (nz_in (by omega) h0)) (va_Nw.use rfl (hK.2 _ nX4_45)) (by decide) rfl dX4_role_18 ?_
    refine mz_ifeq_b hx hb dX4_role_21 (tgt := 33) rfl (fun h1 => ?_) (fun h1 => ?_)
    · refine lv_aload_n hx hb dX4_role_33 rfl (lv_at hl 0 rfl) ?_
      refine qgN_2 (f := 2) hx hb htz tin_X3 hown hK hG (nz_cl (nz_in (by omega) h0)) (va_Nw.use rfl (hK.2 _ nX4_49)) (by decide) rfl dX4_role_34 ?_
      exact mz_iret hx hb hr hlk qK_ok hK hS hG dX4_role_37 (by unfold qs_role; first | rw [if_pos h0] | rw [if_neg (not_not_intro h0), if_pos (Decidable.not_not.mp h1)] | rw [if_neg (not_not_intro h0), if_neg h1]) rfl
    · refine lv_aload_n hx hb dX4_role_24 rfl (lv_at hl 0 rfl) ?_
      refine qgN_2 (f := 2) hx hb htz tin_X3 hown hK hG (nz_cl (nz_in (by omega) h0)) (va_Nw.use rfl (hK.2 _ nX4_49)) (by decide) rfl dX4_role_25 ?_
      refine lv_iconst (v := 4) hx hb dX4_role_28 (by decide) ?_
      refine lv_iadd hx hb dX4_role_29 ?_
      refine lv_goto hx hb dX4_role_30 (tgt := 37) rfl ?_
      exact mz_iret hx hb hr hlk qK_ok hK hS hG dX4_role_37 (by unfold qs_role; first | rw [if_pos h0] | rw [if_neg (not_not_intro h0), if_pos (Decidable.not_not.mp h1)] | rw [if_neg (not_not_intro h0), if_neg h1]) rfl
  · refine lv_iconst (v := (-1)) hx hb dX4_role_8 (by decide) ?_
    exact mz_iret hx hb hr hlk qK_ok hK hS hG dX4_role_9 (by unfold qs_role; first | rw [if_pos h0] | rw [if_neg (not_not_intro h0), if_pos (Decidable.not_not.mp h1)] | rw [if_neg (not_not_intro h0), if_neg h1]) rfl

set_option maxRecDepth 100000 in
set_option maxHeartbeats 4000000 in
theorem qc_term (l : Launch) (D : va_G) (L : qL) (hL : qL_ok L) (u : mz_S) (x : Int32) : mz_Ci l (qG D L) (qK D L) (qA L) yX4_term (tz_w yX4_term cX4_term 2 (some .int)) ({ frames := 1, cells := 0, slots := 0, locals := 21 } : Room) [.ref (L.1 0 0), .int x] u (qs_termQ (ql_n L) u x) (u) := by
  refine mz_Ci.of (cc := cX4_term) (maxL := 2) (ret := (some .int)) (by decide) rfl (Nat.le_of_ble_eq_true rfl) ?_
  intro p e s m args below meth c ls hx hb hr hlk hml hown hts hl hG hK hS
  have hl : lv_has ls 2 [(0, .ref (L.1 0 0)), (1, .int x)] := hl
  have htz : ∀ w ∈ tz, w.before args s = true := fun w h => hts w (List.mem_cons_of_mem _ h)
  have hc12 : ql_c L ≤ 12 := hL.1.2.2.2.1
  have hn5 : ql_n L ≤ 5 := hL.1.2.1
  have h40 : ql_S L ≤ 40 := hL.1.2.2.2.2.2
  refine lv_aload_n hx hb dX4_term_0 rfl (lv_at hl 0 rfl) ?_
  refine lv_iload_n hx hb dX4_term_1 rfl (lv_at hl 1 rfl) ?_
  refine mz_Vi (As := [.int _]) (rest := []) ⟨hx, hb, hml, hown, hts⟩ (qc_isNode l D L hL _ _) (tz_V htz mX4_isNode lX4_41 rfl rfl ⟨Nat.le_of_ble_eq_true rfl, Nat.le_of_ble_eq_true rfl⟩) (qrecv_0 hK hG (by decide)) qK_ok hK hG hS rfl hl.1 rfl (Nat.le_of_ble_eq_true rfl) dX4_term_2 ⟨Nat.zero_le _, Nat.zero_le _⟩ (fun H locs hG hS => ?_)
  refine mz_ifeq_b hx hb dX4_term_5 (tgt := 20) rfl (fun h0 => ?_) (fun h0 => ?_)
  · refine lv_iconst (v := (-1)) hx hb dX4_term_20 (by decide) ?_
    exact mz_iret hx hb hr hlk qK_ok hK hS hG dX4_term_21 (by unfold qs_termQ; first | rw [if_pos h0] | rw [if_neg h0]) rfl
  · refine lv_aload_n hx hb dX4_term_8 rfl (lv_at hl 0 rfl) ?_
    refine qg_0 (f := 0) hx hb htz tin_X4 hown hK hG (by decide) (htz _ fX4_15) (by decide) rfl dX4_term_9 ?_
    refine lv_iload_n hx hb dX4_term_12 rfl (lv_at hl 1 rfl) ?_
    refine qa_1 hx hb hK hG (by decide) (nz_in (by omega) h0) dX4_term_13 ?_
    refine qgN_2 (f := 3) hx hb htz tin_X3 hown hK hG (nz_cl (nz_in (by omega) h0)) (va_Nw.use rfl (hK.2 _ nX4_91)) (by decide) rfl dX4_term_14 ?_
    refine lv_goto hx hb dX4_term_17 (tgt := 21) rfl ?_
    exact mz_iret hx hb hr hlk qK_ok hK hS hG dX4_term_21 (by unfold qs_termQ; first | rw [if_pos h0] | rw [if_neg h0]) rfl

set_option maxRecDepth 100000 in
set_option maxHeartbeats 4000000 in
theorem qc_vote (l : Launch) (D : va_G) (L : qL) (hL : qL_ok L) (u : mz_S) (x : Int32) : mz_Ci l (qG D L) (qK D L) (qA L) yX4_vote (tz_w yX4_vote cX4_vote 2 (some .int)) ({ frames := 1, cells := 0, slots := 0, locals := 21 } : Room) [.ref (L.1 0 0), .int x] u (qs_vote (ql_n L) u x) (u) := by
  refine mz_Ci.of (cc := cX4_vote) (maxL := 2) (ret := (some .int)) (by decide) rfl (Nat.le_of_ble_eq_true rfl) ?_
  intro p e s m args below meth c ls hx hb hr hlk hml hown hts hl hG hK hS
  have hl : lv_has ls 2 [(0, .ref (L.1 0 0)), (1, .int x)] := hl
  have htz : ∀ w ∈ tz, w.before args s = true := fun w h => hts w (List.mem_cons_of_mem _ h)
  have hc12 : ql_c L ≤ 12 := hL.1.2.2.2.1
  have hn5 : ql_n L ≤ 5 := hL.1.2.1
  have h40 : ql_S L ≤ 40 := hL.1.2.2.2.2.2
  refine lv_aload_n hx hb dX4_vote_0 rfl (lv_at hl 0 rfl) ?_
  refine lv_iload_n hx hb dX4_vote_1 rfl (lv_at hl 1 rfl) ?_
  refine mz_Vi (As := [.int _]) (rest := []) ⟨hx, hb, hml, hown, hts⟩ (qc_isNode l D L hL _ _) (tz_V htz mX4_isNode lX4_41 rfl rfl ⟨Nat.le_of_ble_eq_true rfl, Nat.le_of_ble_eq_true rfl⟩) (qrecv_0 hK hG (by decide)) qK_ok hK hG hS rfl hl.1 rfl (Nat.le_of_ble_eq_true rfl) dX4_vote_2 ⟨Nat.zero_le _, Nat.zero_le _⟩ (fun H locs hG hS => ?_)
  refine mz_ifeq_b hx hb dX4_vote_5 (tgt := 21) rfl (fun h0 => ?_) (fun h0 => ?_)
  · refine lv_iconst (v := (-1)) hx hb dX4_vote_21 (by decide) ?_
    exact mz_iret hx hb hr hlk qK_ok hK hS hG dX4_vote_22 (by unfold qs_vote; first | rw [if_pos h0] | rw [if_neg (not_not_intro h0), if_pos h1] | rw [if_neg (not_not_intro h0), if_neg h1]) rfl
  · refine lv_aload_n hx hb dX4_vote_8 rfl (lv_at hl 0 rfl) ?_
    refine qg_0 (f := 0) hx hb htz tin_X4 hown hK hG (by decide) (htz _ fX4_15) (by decide) rfl dX4_vote_9 ?_
    refine lv_iload_n hx hb dX4_vote_12 rfl (lv_at hl 1 rfl) ?_
    refine qa_1 hx hb hK hG (by decide) (nz_in (by omega) h0) dX4_vote_13 ?_
    refine qgN_2 (f := 4) hx hb htz tin_X3 hown hK hG (nz_cl (nz_in (by omega) h0)) (va_Nw.use rfl (hK.2 _ nX4_145)) (by decide) rfl dX4_vote_14 ?_
    refine lv_iconst (v := (-1)) hx hb dX4_vote_17 (by decide) ?_
    refine lv_icmp_ne hx hb dX4_vote_18 (tgt := 23) rfl (fun h1 => ?_) (fun h1 => ?_)
    · refine lv_aload_n hx hb dX4_vote_23 rfl (lv_at hl 0 rfl) ?_
      refine qg_0 (f := 0) hx hb htz tin_X4 hown hK hG (by decide) (htz _ fX4_15) (by decide) rfl dX4_vote_24 ?_
      refine lv_iload_n hx hb dX4_vote_27 rfl (lv_at hl 1 rfl) ?_
      refine qa_1 hx hb hK hG (by decide) (nz_in (by omega) h0) dX4_vote_28 ?_
      refine qgN_2 (f := 4) hx hb htz tin_X3 hown hK hG (nz_cl (nz_in (by omega) h0)) (va_Nw.use rfl (hK.2 _ nX4_145)) (by decide) rfl dX4_vote_29 ?_
      exact mz_iret hx hb hr hlk qK_ok hK hS hG dX4_vote_32 (by unfold qs_vote; first | rw [if_pos h0] | rw [if_neg (not_not_intro h0), if_pos h1] | rw [if_neg (not_not_intro h0), if_neg h1]) rfl
    · refine lv_iconst (v := (-1)) hx hb dX4_vote_21 (by decide) ?_
      exact mz_iret hx hb hr hlk qK_ok hK hS hG dX4_vote_22 (by unfold qs_vote; first | rw [if_pos h0] | rw [if_neg (not_not_intro h0), if_pos h1] | rw [if_neg (not_not_intro h0), if_neg h1]) rfl

set_option maxRecDepth 100000 in
set_option maxHeartbeats 4000000 in
theorem qc_base (l : Launch) (D : va_G) (L : qL) (hL : qL_ok L) (u : mz_S) (x : Int32) : mz_Ci l (qG D L) (qK D L) (qA L) yX4_base (tz_w yX4_base cX4_base 2 (some .int)) ({ frames := 1, cells := 0, slots := 0, locals := 21 } : Room) [.ref (L.1 0 0), .int x] u (qs_base (ql_n L) u x) (u) := by
  refine mz_Ci.of (cc := cX4_base) (maxL := 2) (ret := (some .int)) (by decide) rfl (Nat.le_of_ble_eq_true rfl) ?_
  intro p e s m args below meth c ls hx hb hr hlk hml hown hts hl hG hK hS
  have hl : lv_has ls 2 [(0, .ref (L.1 0 0)), (1, .int x)] := hl
  have htz : ∀ w ∈ tz, w.before args s = true := fun w h => hts w (List.mem_cons_of_mem _ h)
  have hc12 : ql_c L ≤ 12 := hL.1.2.2.2.1
  have hn5 : ql_n L ≤ 5 := hL.1.2.1
  have h40 : ql_S L ≤ 40 := hL.1.2.2.2.2.2
  refine lv_aload_n hx hb dX4_base_0 rfl (lv_at hl 0 rfl) ?_
  refine lv_iload_n hx hb dX4_base_1 rfl (lv_at hl 1 rfl) ?_
  refine mz_Vi (As := [.int _]) (rest := []) ⟨hx, hb, hml, hown, hts⟩ (qc_isNode l D L hL _ _) (tz_V htz mX4_isNode lX4_41 rfl rfl ⟨Nat.le_of_ble_eq_true rfl, Nat.le_of_ble_eq_true rfl⟩) (qrecv_0 hK hG (by decide)) qK_ok hK hG hS rfl hl.1 rfl (Nat.le_of_ble_eq_true rfl) dX4_base_2 ⟨Nat.zero_le _, Nat.zero_le _⟩ (fun H locs hG hS => ?_)
  refine mz_ifeq_b hx hb dX4_base_5 (tgt := 23) rfl (fun h0 => ?_) (fun h0 => ?_)
  · refine lv_iconst (v := (-1)) hx hb dX4_base_23 (by decide) ?_
    exact mz_iret hx hb hr hlk qK_ok hK hS hG dX4_base_24 (by unfold qs_base; first | rw [if_pos h0] | rw [if_neg h0]) rfl
  · refine lv_aload_n hx hb dX4_base_8 rfl (lv_at hl 0 rfl) ?_
    refine qg_0 (f := 0) hx hb htz tin_X4 hown hK hG (by decide) (htz _ fX4_15) (by decide) rfl dX4_base_9 ?_
    refine lv_iload_n hx hb dX4_base_12 rfl (lv_at hl 1 rfl) ?_
    refine qa_1 hx hb hK hG (by decide) (nz_in (by omega) h0) dX4_base_13 ?_
    refine qgN_2 (f := 6) hx hb htz tin_X3 hown hK hG (nz_cl (nz_in (by omega) h0)) (va_Nw.use rfl (hK.2 _ nX4_72)) (by decide) rfl dX4_base_14 ?_
    refine qgN_3 (f := 0) hx hb htz tin_X0 hown hK hG (nz_cl (nz_in (by omega) h0)) (va_Nw.use rfl (hK.2 _ nX4_76)) (by decide) rfl dX4_base_17 ?_
    refine lv_goto hx hb dX4_base_20 (tgt := 24) rfl ?_
    exact mz_iret hx hb hr hlk qK_ok hK hS hG dX4_base_24 (by unfold qs_base; first | rw [if_pos h0] | rw [if_neg h0]) rfl

set_option maxRecDepth 100000 in
set_option maxHeartbeats 4000000 in
theorem qc_last (l : Launch) (D : va_G) (L : qL) (hL : qL_ok L) (u : mz_S) (x : Int32) : mz_Ci l (qG D L) (qK D L) (qA L) yX4_last (tz_w yX4_last cX4_last 2 (some .int)) ({ frames := 1, cells := 0, slots := 0, locals := 21 } : Room) [.ref (L.1 0 0), .int x] u (qs_lastQ (ql_n L) u x) (u) := by
  refine mz_Ci.of (cc := cX4_last) (maxL := 2) (ret := (some .int)) (by decide) rfl (Nat.le_of_ble_eq_true rfl) ?_
  intro p e s m args below meth c ls hx hb hr hlk hml hown hts hl hG hK hS
  have hl : lv_has ls 2 [(0, .ref (L.1 0 0)), (1, .int x)] := hl
  have htz : ∀ w ∈ tz, w.before args s = true := fun w h => hts w (List.mem_cons_of_mem _ h)
  have hc12 : ql_c L ≤ 12 := hL.1.2.2.2.1
  have hn5 : ql_n L ≤ 5 := hL.1.2.1
  have h40 : ql_S L ≤ 40 := hL.1.2.2.2.2.2
  refine lv_aload_n hx hb dX4_last_0 rfl (lv_at hl 0 rfl) ?_
  refine lv_iload_n hx hb dX4_last_1 rfl (lv_at hl 1 rfl) ?_
  refine mz_Vi (As := [.int _]) (rest := []) ⟨hx, hb, hml, hown, hts⟩ (qc_isNode l D L hL _ _) (tz_V htz mX4_isNode lX4_41 rfl rfl ⟨Nat.le_of_ble_eq_true rfl, Nat.le_of_ble_eq_true rfl⟩) (qrecv_0 hK hG (by decide)) qK_ok hK hG hS rfl hl.1 rfl (Nat.le_of_ble_eq_true rfl) dX4_last_2 ⟨Nat.zero_le _, Nat.zero_le _⟩ (fun H locs hG hS => ?_)
  refine mz_ifeq_b hx hb dX4_last_5 (tgt := 23) rfl (fun h0 => ?_) (fun h0 => ?_)
  · refine lv_iconst (v := (-1)) hx hb dX4_last_23 (by decide) ?_
    exact mz_iret hx hb hr hlk qK_ok hK hS hG dX4_last_24 (by unfold qs_lastQ; first | rw [if_pos h0] | rw [if_neg h0]) rfl
  · refine lv_aload_n hx hb dX4_last_8 rfl (lv_at hl 0 rfl) ?_
    refine qg_0 (f := 0) hx hb htz tin_X4 hown hK hG (by decide) (htz _ fX4_15) (by decide) rfl dX4_last_9 ?_
    refine lv_iload_n hx hb dX4_last_12 rfl (lv_at hl 1 rfl) ?_
    refine qa_1 hx hb hK hG (by decide) (nz_in (by omega) h0) dX4_last_13 ?_
    refine qgN_2 (f := 6) hx hb htz tin_X3 hown hK hG (nz_cl (nz_in (by omega) h0)) (va_Nw.use rfl (hK.2 _ nX4_72)) (by decide) rfl dX4_last_14 ?_
    refine mz_Ni (As := []) (rest := []) ⟨hx, hb, hml, hown, hts⟩ (qc_lastNumber l D L hL _ _ (nz_cl (nz_in (by omega) h0))) (tz_N htz mX0_lastNumber (hK.2 _ nX4_98) rfl rfl ⟨Nat.le_of_ble_eq_true rfl, Nat.le_of_ble_eq_true rfl⟩) (qrecv_3 hK hG (nz_cl (nz_in (by omega) h0))) qK_ok hK hG hS rfl hl.1 rfl (Nat.le_of_ble_eq_true rfl) dX4_last_17 ⟨Nat.zero_le _, Nat.zero_le _⟩ (fun H locs hG hS => ?_)
    refine lv_goto hx hb dX4_last_20 (tgt := 24) rfl ?_
    exact mz_iret hx hb hr hlk qK_ok hK hS hG dX4_last_24 (by unfold qs_lastQ; first | rw [if_pos h0] | rw [if_neg h0]) rfl

set_option maxRecDepth 100000 in
set_option maxHeartbeats 4000000 in
theorem qc_commit (l : Launch) (D : va_G) (L : qL) (hL : qL_ok L) (u : mz_S) (x : Int32) : mz_Ci l (qG D L) (qK D L) (qA L) yX4_commit (tz_w yX4_commit cX4_commit 2 (some .int)) ({ frames := 1, cells := 0, slots := 0, locals := 21 } : Room) [.ref (L.1 0 0), .int x] u (qs_commit (ql_n L) u x) (u) := by
  refine mz_Ci.of (cc := cX4_commit) (maxL := 2) (ret := (some .int)) (by decide) rfl (Nat.le_of_ble_eq_true rfl) ?_
  intro p e s m args below meth c ls hx hb hr hlk hml hown hts hl hG hK hS
  have hl : lv_has ls 2 [(0, .ref (L.1 0 0)), (1, .int x)] := hl
  have htz : ∀ w ∈ tz, w.before args s = true := fun w h => hts w (List.mem_cons_of_mem _ h)
  have hc12 : ql_c L ≤ 12 := hL.1.2.2.2.1
  have hn5 : ql_n L ≤ 5 := hL.1.2.1
  have h40 : ql_S L ≤ 40 := hL.1.2.2.2.2.2
  refine lv_aload_n hx hb dX4_commit_0 rfl (lv_at hl 0 rfl) ?_
  refine lv_iload_n hx hb dX4_commit_1 rfl (lv_at hl 1 rfl) ?_
  refine mz_Vi (As := [.int _]) (rest := []) ⟨hx, hb, hml, hown, hts⟩ (qc_isNode l D L hL _ _) (tz_V htz mX4_isNode lX4_41 rfl rfl ⟨Nat.le_of_ble_eq_true rfl, Nat.le_of_ble_eq_true rfl⟩) (qrecv_0 hK hG (by decide)) qK_ok hK hG hS rfl hl.1 rfl (Nat.le_of_ble_eq_true rfl) dX4_commit_2 ⟨Nat.zero_le _, Nat.zero_le _⟩ (fun H locs hG hS => ?_)
  refine mz_ifeq_b hx hb dX4_commit_5 (tgt := 20) rfl (fun h0 => ?_) (fun h0 => ?_)
  · refine lv_iconst (v := (-1)) hx hb dX4_commit_20 (by decide) ?_
    exact mz_iret hx hb hr hlk qK_ok hK hS hG dX4_commit_21 (by unfold qs_commit; first | rw [if_pos h0] | rw [if_neg h0]) rfl
  · refine lv_aload_n hx hb dX4_commit_8 rfl (lv_at hl 0 rfl) ?_
    refine qg_0 (f := 0) hx hb htz tin_X4 hown hK hG (by decide) (htz _ fX4_15) (by decide) rfl dX4_commit_9 ?_
    refine lv_iload_n hx hb dX4_commit_12 rfl (lv_at hl 1 rfl) ?_
    refine qa_1 hx hb hK hG (by decide) (nz_in (by omega) h0) dX4_commit_13 ?_
    refine qgN_2 (f := 5) hx hb htz tin_X3 hown hK hG (nz_cl (nz_in (by omega) h0)) (va_Nw.use rfl (hK.2 _ nX4_101)) (by decide) rfl dX4_commit_14 ?_
    refine lv_goto hx hb dX4_commit_17 (tgt := 21) rfl ?_
    exact mz_iret hx hb hr hlk qK_ok hK hS hG dX4_commit_21 (by unfold qs_commit; first | rw [if_pos h0] | rw [if_neg h0]) rfl

set_option maxRecDepth 100000 in
set_option maxHeartbeats 4000000 in
theorem qc_termAt (l : Launch) (D : va_G) (L : qL) (hL : qL_ok L) (u : mz_S) (x y : Int32) (hw : ∀ i, i < ql_n L → qw (ql_c L) u i) : mz_Ci l (qG D L) (qK D L) (qA L) yX4_termAt (tz_w yX4_termAt cX4_termAt 3 (some .int)) ({ frames := 2, cells := 0, slots := 0, locals := 42 } : Room) [.ref (L.1 0 0), .int x, .int y] u (qs_termAt (ql_n L) u x y) (u) := by
  refine mz_Ci.of (cc := cX4_termAt) (maxL := 3) (ret := (some .int)) (by decide) rfl (Nat.le_of_ble_eq_true rfl) ?_
  intro p e s m args below meth c ls hx hb hr hlk hml hown hts hl hG hK hS
  have hl : lv_has ls 3 [(0, .ref (L.1 0 0)), (1, .int x), (2, .int y)] := hl
  have htz : ∀ w ∈ tz, w.before args s = true := fun w h => hts w (List.mem_cons_of_mem _ h)
  have hc12 : ql_c L ≤ 12 := hL.1.2.2.2.1
  have hn5 : ql_n L ≤ 5 := hL.1.2.1
  have h40 : ql_S L ≤ 40 := hL.1.2.2.2.2.2
  refine lv_aload_n hx hb dX4_termAt_0 rfl (lv_at hl 0 rfl) ?_
  refine lv_iload_n hx hb dX4_termAt_1 rfl (lv_at hl 1 rfl) ?_
  refine mz_Vi (As := [.int _]) (rest := []) ⟨hx, hb, hml, hown, hts⟩ (qc_isNode l D L hL _ _) (tz_V htz mX4_isNode lX4_41 rfl rfl ⟨Nat.le_of_ble_eq_true rfl, Nat.le_of_ble_eq_true rfl⟩) (qrecv_0 hK hG (by decide)) qK_ok hK hG hS rfl hl.1 rfl (Nat.le_of_ble_eq_true rfl) dX4_termAt_2 ⟨Nat.zero_le _, Nat.zero_le _⟩ (fun H locs hG hS => ?_)
  refine mz_ifeq_b hx hb dX4_termAt_5 (tgt := 24) rfl (fun h0 => ?_) (fun h0 => ?_)
  · refine lv_iconst (v := (-1)) hx hb dX4_termAt_24 (by decide) ?_
    exact mz_iret hx hb hr hlk qK_ok hK hS hG dX4_termAt_25 (by unfold qs_termAt; first | rw [if_pos h0] | rw [if_neg h0]) rfl
  · refine lv_aload_n hx hb dX4_termAt_8 rfl (lv_at hl 0 rfl) ?_
    refine qg_0 (f := 0) hx hb htz tin_X4 hown hK hG (by decide) (htz _ fX4_15) (by decide) rfl dX4_termAt_9 ?_
    refine lv_iload_n hx hb dX4_termAt_12 rfl (lv_at hl 1 rfl) ?_
    refine qa_1 hx hb hK hG (by decide) (nz_in (by omega) h0) dX4_termAt_13 ?_
    refine qgN_2 (f := 6) hx hb htz tin_X3 hown hK hG (nz_cl (nz_in (by omega) h0)) (va_Nw.use rfl (hK.2 _ nX4_72)) (by decide) rfl dX4_termAt_14 ?_
    refine lv_iload_n hx hb dX4_termAt_17 rfl (lv_at hl 2 rfl) ?_
    refine mz_Ni (As := [.int _]) (rest := []) ⟨hx, hb, hml, hown, hts⟩ (qc_termOf l D L hL _ _ (nz_cl (nz_in (by omega) h0)) _ (hw _ (nz_cl (nz_in (by omega) h0)))) (tz_N htz mX0_termOf (hK.2 _ nX4_104) rfl rfl ⟨Nat.le_of_ble_eq_true rfl, Nat.le_of_ble_eq_true rfl⟩) (qrecv_3 hK hG (nz_cl (nz_in (by omega) h0))) qK_ok hK hG hS rfl hl.1 rfl (Nat.le_of_ble_eq_true rfl) dX4_termAt_18 ⟨Nat.zero_le _, Nat.zero_le _⟩ (fun H locs hG hS => ?_)
    refine lv_goto hx hb dX4_termAt_21 (tgt := 25) rfl ?_
    exact mz_iret hx hb hr hlk qK_ok hK hS hG dX4_termAt_25 (by unfold qs_termAt; first | rw [if_pos h0] | rw [if_neg h0]) rfl

set_option maxRecDepth 100000 in
set_option maxHeartbeats 4000000 in
theorem qc_commandAt (l : Launch) (D : va_G) (L : qL) (hL : qL_ok L) (u : mz_S) (x y : Int32) (hw : ∀ i, i < ql_n L → qw (ql_c L) u i) : mz_Ci l (qG D L) (qK D L) (qA L) yX4_commandAt (tz_w yX4_commandAt cX4_commandAt 3 (some .int)) ({ frames := 2, cells := 0, slots := 0, locals := 42 } : Room) [.ref (L.1 0 0), .int x, .int y] u (qs_commandAt (ql_n L) u x y) (u) := by
  refine mz_Ci.of (cc := cX4_commandAt) (maxL := 3) (ret := (some .int)) (by decide) rfl (Nat.le_of_ble_eq_true rfl) ?_
  intro p e s m args below meth c ls hx hb hr hlk hml hown hts hl hG hK hS
  have hl : lv_has ls 3 [(0, .ref (L.1 0 0)), (1, .int x), (2, .int y)] := hl
  have htz : ∀ w ∈ tz, w.before args s = true := fun w h => hts w (List.mem_cons_of_mem _ h)
  have hc12 : ql_c L ≤ 12 := hL.1.2.2.2.1
  have hn5 : ql_n L ≤ 5 := hL.1.2.1
  have h40 : ql_S L ≤ 40 := hL.1.2.2.2.2.2
  refine lv_aload_n hx hb dX4_commandAt_0 rfl (lv_at hl 0 rfl) ?_
  refine lv_iload_n hx hb dX4_commandAt_1 rfl (lv_at hl 1 rfl) ?_
  refine mz_Vi (As := [.int _]) (rest := []) ⟨hx, hb, hml, hown, hts⟩ (qc_isNode l D L hL _ _) (tz_V htz mX4_isNode lX4_41 rfl rfl ⟨Nat.le_of_ble_eq_true rfl, Nat.le_of_ble_eq_true rfl⟩) (qrecv_0 hK hG (by decide)) qK_ok hK hG hS rfl hl.1 rfl (Nat.le_of_ble_eq_true rfl) dX4_commandAt_2 ⟨Nat.zero_le _, Nat.zero_le _⟩ (fun H locs hG hS => ?_)
  refine mz_ifeq_b hx hb dX4_commandAt_5 (tgt := 24) rfl (fun h0 => ?_) (fun h0 => ?_)
  · refine lv_iconst (v := 0) hx hb dX4_commandAt_24 (by decide) ?_
    exact mz_iret hx hb hr hlk qK_ok hK hS hG dX4_commandAt_25 (by unfold qs_commandAt; first | rw [if_pos h0] | rw [if_neg h0]) rfl
  · refine lv_aload_n hx hb dX4_commandAt_8 rfl (lv_at hl 0 rfl) ?_
    refine qg_0 (f := 0) hx hb htz tin_X4 hown hK hG (by decide) (htz _ fX4_15) (by decide) rfl dX4_commandAt_9 ?_
    refine lv_iload_n hx hb dX4_commandAt_12 rfl (lv_at hl 1 rfl) ?_
    refine qa_1 hx hb hK hG (by decide) (nz_in (by omega) h0) dX4_commandAt_13 ?_
    refine qgN_2 (f := 6) hx hb htz tin_X3 hown hK hG (nz_cl (nz_in (by omega) h0)) (va_Nw.use rfl (hK.2 _ nX4_72)) (by decide) rfl dX4_commandAt_14 ?_
    refine lv_iload_n hx hb dX4_commandAt_17 rfl (lv_at hl 2 rfl) ?_
    refine mz_Ni (As := [.int _]) (rest := []) ⟨hx, hb, hml, hown, hts⟩ (qc_commandOf l D L hL _ _ (nz_cl (nz_in (by omega) h0)) _ (hw _ (nz_cl (nz_in (by omega) h0)))) (tz_N htz mX0_commandOf (hK.2 _ nX4_148) rfl rfl ⟨Nat.le_of_ble_eq_true rfl, Nat.le_of_ble_eq_true rfl⟩) (qrecv_3 hK hG (nz_cl (nz_in (by omega) h0))) qK_ok hK hG hS rfl hl.1 rfl (Nat.le_of_ble_eq_true rfl) dX4_commandAt_18 ⟨Nat.zero_le _, Nat.zero_le _⟩ (fun H locs hG hS => ?_)
    refine lv_goto hx hb dX4_commandAt_21 (tgt := 25) rfl ?_
    exact mz_iret hx hb hr hlk qK_ok hK hS hG dX4_commandAt_25 (by unfold qs_commandAt; first | rw [if_pos h0] | rw [if_neg h0]) rfl

set_option maxRecDepth 100000 in
set_option maxHeartbeats 4000000 in
theorem qc_state (l : Launch) (D : va_G) (L : qL) (hL : qL_ok L) (u : mz_S) (x : Int32) (hq : ∀ i, i < ql_n L → qwc (ql_c L) u i (u 2 i 5)) : mz_Ci l (qG D L) (qK D L) (qA L) yX4_state (tz_w yX4_state cX4_state 2 (some .int)) ({ frames := 1, cells := 0, slots := 0, locals := 23 } : Room) [.ref (L.1 0 0), .int x] u (qs_stateQ (ql_n L) u x) (u) := by
  refine mz_Ci.of (cc := cX4_state) (maxL := 2) (ret := (some .int)) (by decide) rfl (Nat.le_of_ble_eq_true rfl) ?_
  intro p e s m args below meth c ls hx hb hr hlk hml hown hts hl hG hK hS
  have hl : lv_has ls 2 [(0, .ref (L.1 0 0)), (1, .int x)] := hl
  have htz : ∀ w ∈ tz, w.before args s = true := fun w h => hts w (List.mem_cons_of_mem _ h)
  have hc12 : ql_c L ≤ 12 := hL.1.2.2.2.1
  have hn5 : ql_n L ≤ 5 := hL.1.2.1
  have h40 : ql_S L ≤ 40 := hL.1.2.2.2.2.2
  refine lv_aload_n hx hb dX4_state_0 rfl (lv_at hl 0 rfl) ?_
  refine lv_iload_n hx hb dX4_state_1 rfl (lv_at hl 1 rfl) ?_
  refine mz_Vi (As := [.int _]) (rest := []) ⟨hx, hb, hml, hown, hts⟩ (qc_isNode l D L hL _ _) (tz_V htz mX4_isNode lX4_41 rfl rfl ⟨Nat.le_of_ble_eq_true rfl, Nat.le_of_ble_eq_true rfl⟩) (qrecv_0 hK hG (by decide)) qK_ok hK hG hS rfl hl.1 rfl (Nat.le_of_ble_eq_true rfl) dX4_state_2 ⟨Nat.zero_le _, Nat.zero_le _⟩ (fun H locs hG hS => ?_)
  refine mz_ifeq_b hx hb dX4_state_5 (tgt := 32) rfl (fun h0 => ?_) (fun h0 => ?_)
  · refine lv_iconst (v := 0) hx hb dX4_state_32 (by decide) ?_
    exact mz_iret hx hb hr hlk qK_ok hK hS hG dX4_state_33 (by unfold qs_stateQ; first | rw [if_pos h0] | rw [if_neg h0]) rfl
  · refine lv_aload_n hx hb dX4_state_8 rfl (lv_at hl 0 rfl) ?_
    refine qg_0 (f := 0) hx hb htz tin_X4 hown hK hG (by decide) (htz _ fX4_15) (by decide) rfl dX4_state_9 ?_
    refine lv_iload_n hx hb dX4_state_12 rfl (lv_at hl 1 rfl) ?_
    refine qa_1 hx hb hK hG (by decide) (nz_in (by omega) h0) dX4_state_13 ?_
    refine qgN_2 (f := 6) hx hb htz tin_X3 hown hK hG (nz_cl (nz_in (by omega) h0)) (va_Nw.use rfl (hK.2 _ nX4_72)) (by decide) rfl dX4_state_14 ?_
    refine lv_aload_n hx hb dX4_state_17 rfl (lv_at hl 0 rfl) ?_
    refine qg_0 (f := 0) hx hb htz tin_X4 hown hK hG (by decide) (htz _ fX4_15) (by decide) rfl dX4_state_18 ?_
    refine lv_iload_n hx hb dX4_state_21 rfl (lv_at hl 1 rfl) ?_
    refine qa_1 hx hb hK hG (by decide) (nz_in (by omega) h0) dX4_state_22 ?_
    refine qgN_2 (f := 5) hx hb htz tin_X3 hown hK hG (nz_cl (nz_in (by omega) h0)) (va_Nw.use rfl (hK.2 _ nX4_101)) (by decide) rfl dX4_state_23 ?_
    refine mz_Ni (As := [.int _]) (rest := []) ⟨hx, hb, hml, hown, hts⟩ (qc_stateUpTo l D L hL _ _ (nz_cl (nz_in (by omega) h0)) _ (hq _ (nz_cl (nz_in (by omega) h0)))) (tz_N htz mX0_stateUpTo (hK.2 _ nX4_108) rfl rfl ⟨Nat.le_of_ble_eq_true rfl, Nat.le_of_ble_eq_true rfl⟩) (qrecv_3 hK hG (nz_cl (nz_in (by omega) h0))) qK_ok hK hG hS rfl hl.1 rfl (Nat.le_of_ble_eq_true rfl) dX4_state_26 ⟨Nat.zero_le _, Nat.zero_le _⟩ (fun H locs hG hS => ?_)
    refine lv_goto hx hb dX4_state_29 (tgt := 33) rfl ?_
    exact mz_iret hx hb hr hlk qK_ok hK hS hG dX4_state_33 (by unfold qs_stateQ; first | rw [if_pos h0] | rw [if_neg h0]) rfl

set_option maxRecDepth 100000 in
set_option maxHeartbeats 4000000 in
theorem qc_peer (l : Launch) (D : va_G) (L : qL) (hL : qL_ok L) (u : mz_S) (x y : Int32) : mz_Ci l (qG D L) (qK D L) (qA L) yX4_peer (tz_w yX4_peer cX4_peer 3 (some .int)) ({ frames := 2, cells := 0, slots := 0, locals := 43 } : Room) [.ref (L.1 0 0), .int x, .int y] u (qs_peer (ql_n L) u x y) (u) := by
  refine mz_Ci.of (cc := cX4_peer) (maxL := 3) (ret := (some .int)) (by decide) rfl (Nat.le_of_ble_eq_true rfl) ?_
  intro p e s m args below meth c ls hx hb hr hlk hml hown hts hl hG hK hS
  have hl : lv_has ls 3 [(0, .ref (L.1 0 0)), (1, .int x), (2, .int y)] := hl
  have htz : ∀ w ∈ tz, w.before args s = true := fun w h => hts w (List.mem_cons_of_mem _ h)
  have hc12 : ql_c L ≤ 12 := hL.1.2.2.2.1
  have hn5 : ql_n L ≤ 5 := hL.1.2.1
  have h40 : ql_S L ≤ 40 := hL.1.2.2.2.2.2
  refine lv_aload_n hx hb dX4_peer_0 rfl (lv_at hl 0 rfl) ?_
  refine lv_iload_n hx hb dX4_peer_1 rfl (lv_at hl 1 rfl) ?_
  refine lv_iload_n hx hb dX4_peer_2 rfl (lv_at hl 2 rfl) ?_
  refine mz_Vi (As := [.int _, .int _]) (rest := []) ⟨hx, hb, hml, hown, hts⟩ (qc_areTwoNodes l D L hL _ _ _) (tz_V htz mX4_areTwoNodes lX4_64 rfl rfl ⟨Nat.le_of_ble_eq_true rfl, Nat.le_of_ble_eq_true rfl⟩) (qrecv_0 hK hG (by decide)) qK_ok hK hG hS rfl hl.1 rfl (Nat.le_of_ble_eq_true rfl) dX4_peer_3 ⟨Nat.zero_le _, Nat.zero_le _⟩ (fun H locs hG hS => ?_)
  refine mz_ifeq_b hx hb dX4_peer_6 (tgt := 22) rfl (fun h0 => ?_) (fun h0 => ?_)
  · refine lv_iconst (v := (-1)) hx hb dX4_peer_22 (by decide) ?_
    exact mz_iret hx hb hr hlk qK_ok hK hS hG dX4_peer_23 (by unfold qs_peer; first | rw [if_pos h0] | rw [if_neg (not_not_intro h0), if_pos h1] | rw [if_neg (not_not_intro h0), if_neg (not_not_intro h1)]) rfl
  · refine lv_aload_n hx hb dX4_peer_9 rfl (lv_at hl 0 rfl) ?_
    refine qg_0 (f := 0) hx hb htz tin_X4 hown hK hG (by decide) (htz _ fX4_15) (by decide) rfl dX4_peer_10 ?_
    refine lv_iload_n hx hb dX4_peer_13 rfl (lv_at hl 1 rfl) ?_
    refine qa_1 hx hb hK hG (by decide) (nz_in (by omega) h0.1) dX4_peer_14 ?_
    refine qgN_2 (f := 2) hx hb htz tin_X3 hown hK hG (nz_cl (nz_in (by omega) h0.1)) (va_Nw.use rfl (hK.2 _ nX4_49)) (by decide) rfl dX4_peer_15 ?_
    refine lv_iconst (v := 2) hx hb dX4_peer_18 (by decide) ?_
    refine lv_icmp_eq hx hb dX4_peer_19 (tgt := 24) rfl (fun h1 => ?_) (fun h1 => ?_)
    · refine lv_aload_n hx hb dX4_peer_24 rfl (lv_at hl 0 rfl) ?_
      refine qg_0 (f := 0) hx hb htz tin_X4 hown hK hG (by decide) (htz _ fX4_15) (by decide) rfl dX4_peer_25 ?_
      refine lv_iload_n hx hb dX4_peer_28 rfl (lv_at hl 1 rfl) ?_
      refine qa_1 hx hb hK hG (by decide) (nz_in (by omega) h0.1) dX4_peer_29 ?_
      refine qgN_2 (f := 9) hx hb htz tin_X3 hown hK hG (nz_cl (nz_in (by omega) h0.1)) (va_Nw.use rfl (hK.2 _ nX4_151)) (by decide) rfl dX4_peer_30 ?_
      refine lv_iload_n hx hb dX4_peer_33 rfl (lv_at hl 2 rfl) ?_
      refine qa_8 hx hb hK hG (nz_cl (nz_in (by omega) h0.1)) (nz_in (by omega) h0.2.1) dX4_peer_34 ?_
      refine lv_ldc (v := 100000) hx hb hown (htz _ kX4_154) dX4_peer_35 ?_
      refine lv_aload_n hx hb dX4_peer_37 rfl (lv_at hl 0 rfl) ?_
      refine qg_0 (f := 0) hx hb htz tin_X4 hown hK hG (by decide) (htz _ fX4_15) (by decide) rfl dX4_peer_38 ?_
      refine lv_iload_n hx hb dX4_peer_41 rfl (lv_at hl 1 rfl) ?_
      refine qa_1 hx hb hK hG (by decide) (nz_in (by omega) h0.1) dX4_peer_42 ?_
      refine qgN_2 (f := 8) hx hb htz tin_X3 hown hK hG (nz_cl (nz_in (by omega) h0.1)) (va_Nw.use rfl (hK.2 _ nX4_68)) (by decide) rfl dX4_peer_43 ?_
      refine lv_iload_n hx hb dX4_peer_46 rfl (lv_at hl 2 rfl) ?_
      refine qa_7 hx hb hK hG (nz_cl (nz_in (by omega) h0.1)) (nz_in (by omega) h0.2.1) dX4_peer_47 ?_
      refine lv_imul hx hb dX4_peer_48 ?_
      refine lv_iadd hx hb dX4_peer_49 ?_
      exact mz_iret hx hb hr hlk qK_ok hK hS hG dX4_peer_50 (by unfold qs_peer; first | rw [if_pos h0] | rw [if_neg (not_not_intro h0), if_pos h1] | rw [if_neg (not_not_intro h0), if_neg (not_not_intro h1)]) rfl
    · refine lv_iconst (v := (-1)) hx hb dX4_peer_22 (by decide) ?_
      exact mz_iret hx hb hr hlk qK_ok hK hS hG dX4_peer_23 (by unfold qs_peer; first | rw [if_pos h0] | rw [if_neg (not_not_intro h0), if_pos h1] | rw [if_neg (not_not_intro h0), if_neg (not_not_intro h1)]) rfl

set_option maxRecDepth 100000 in
set_option maxHeartbeats 4000000 in
theorem qc_pending (l : Launch) (D : va_G) (L : qL) (hL : qL_ok L) (u : mz_S)  : mz_Ci l (qG D L) (qK D L) (qA L) yX4_pending (tz_w yX4_pending cX4_pending 1 (some .int)) ({ frames := 0, cells := 0, slots := 0, locals := 0 } : Room) [.ref (L.1 0 0)] u (u 9 0 1) (u) := by
  refine mz_Ci.of (cc := cX4_pending) (maxL := 1) (ret := (some .int)) (by decide) rfl (Nat.le_of_ble_eq_true rfl) ?_
  intro p e s m args below meth c ls hx hb hr hlk hml hown hts hl hG hK hS
  have hl : lv_has ls 1 [(0, .ref (L.1 0 0))] := hl
  have htz : ∀ w ∈ tz, w.before args s = true := fun w h => hts w (List.mem_cons_of_mem _ h)
  have hc12 : ql_c L ≤ 12 := hL.1.2.2.2.1
  have hn5 : ql_n L ≤ 5 := hL.1.2.1
  have h40 : ql_S L ≤ 40 := hL.1.2.2.2.2.2
  refine lv_aload_n hx hb dX4_pending_0 rfl (lv_at hl 0 rfl) ?_
  refine qg_0 (f := 1) hx hb htz tin_X4 hown hK hG (by decide) (htz _ fX4_27) (by decide) rfl dX4_pending_1 ?_
  refine qgN_9 (f := 1) hx hb htz tin_X2 hown hK hG (by decide) (va_Nw.use rfl (hK.2 _ nX4_155)) (by decide) rfl dX4_pending_4 ?_
  exact mz_iret hx hb hr hlk qK_ok hK hS hG dX4_pending_7 rfl rfl

set_option maxRecDepth 100000 in
set_option maxHeartbeats 4000000 in
theorem qc_slot (l : Launch) (D : va_G) (L : qL) (hL : qL_ok L) (u : mz_S) (x : Int32) : mz_Ci l (qG D L) (qK D L) (qA L) yX4_slot (tz_w yX4_slot cX4_slot 3 (some .int)) ({ frames := 1, cells := 0, slots := 0, locals := 21 } : Room) [.ref (L.1 0 0), .int x] u (qs_slot (ql_S L) u x) (u) := by
  refine mz_Ci.of (cc := cX4_slot) (maxL := 3) (ret := (some .int)) (by decide) rfl (Nat.le_of_ble_eq_true rfl) ?_
  intro p e s m args below meth c ls hx hb hr hlk hml hown hts hl hG hK hS
  have hl : lv_has ls 3 [(0, .ref (L.1 0 0)), (1, .int x)] := hl
  have htz : ∀ w ∈ tz, w.before args s = true := fun w h => hts w (List.mem_cons_of_mem _ h)
  have hc12 : ql_c L ≤ 12 := hL.1.2.2.2.1
  have hn5 : ql_n L ≤ 5 := hL.1.2.1
  have h40 : ql_S L ≤ 40 := hL.1.2.2.2.2.2
  refine lv_aload_n hx hb dX4_slot_0 rfl (lv_at hl 0 rfl) ?_
  refine qg_0 (f := 1) hx hb htz tin_X4 hown hK hG (by decide) (htz _ fX4_27) (by decide) rfl dX4_slot_1 ?_
  refine lv_iload_n hx hb dX4_slot_4 rfl (lv_at hl 1 rfl) ?_
  refine mz_Ni (As := [.int _]) (rest := []) ⟨hx, hb, hml, hown, hts⟩ (qc_isSlot l D L hL _ _) (tz_N htz mX2_isSlot (hK.2 _ nX4_114) rfl rfl ⟨Nat.le_of_ble_eq_true rfl, Nat.le_of_ble_eq_true rfl⟩) (qrecv_9 hK hG (by decide)) qK_ok hK hG hS rfl hl.1 rfl (Nat.le_of_ble_eq_true rfl) dX4_slot_5 ⟨Nat.zero_le _, Nat.zero_le _⟩ (fun H locs hG hS => ?_)
  refine mz_ifne_b hx hb dX4_slot_8 (tgt := 13) rfl (fun h0 => ?_) (fun h0 => ?_)
  · refine lv_aload_n hx hb dX4_slot_13 rfl (lv_at hl 0 rfl) ?_
    refine qg_0 (f := 1) hx hb htz tin_X4 hown hK hG (by decide) (htz _ fX4_27) (by decide) rfl dX4_slot_14 ?_
    refine lv_iload_n hx hb dX4_slot_17 rfl (lv_at hl 1 rfl) ?_
    refine mz_Ni (As := [.int _]) (rest := []) ⟨hx, hb, hml, hown, hts⟩ (qc_isFree l D L hL _ _ (nz_in (by omega) h0)) (tz_N htz mX2_isFree (hK.2 _ nX4_117) rfl rfl ⟨Nat.le_of_ble_eq_true rfl, Nat.le_of_ble_eq_true rfl⟩) (qrecv_9 hK hG (by decide)) qK_ok hK hG hS rfl hl.1 rfl (Nat.le_of_ble_eq_true rfl) dX4_slot_18 ⟨Nat.zero_le _, Nat.zero_le _⟩ (fun H locs hG hS => ?_)
    refine mz_ifeq_b hx hb dX4_slot_21 (tgt := 26) rfl (fun h1 => ?_) (fun h1 => ?_)
    · refine lv_aload_n hx hb dX4_slot_26 rfl (lv_at hl 0 rfl) ?_
      refine qg_0 (f := 1) hx hb htz tin_X4 hown hK hG (by decide) (htz _ fX4_27) (by decide) rfl dX4_slot_27 ?_
      refine qgN_9 (f := 0) hx hb htz tin_X2 hown hK hG (by decide) (va_Nw.use rfl (hK.2 _ nX4_120)) (by decide) rfl dX4_slot_30 ?_
      refine lv_iload_n hx hb dX4_slot_33 rfl (lv_at hl 1 rfl) ?_
      have hj : x.toNatClampNeg < ql_S L := nz_cl (nz_in (by omega) h0)
      refine qa_10 hx hb hK hG (by decide) (nz_in (by omega) h0) dX4_slot_34 ?_
      refine lv_astore_n hx hb dX4_slot_35 rfl hl (by decide) rfl (fun ls hl => ?_)
      have hl : lv_has ls 3 [(2, .ref _), (0, .ref _), (1, .int _)] := hl
      refine lv_aload_n hx hb dX4_slot_36 rfl (lv_at hl 0 rfl) ?_
      refine qgN_11 (f := 0) hx hb htz tin_X1 hown hK hG (by omega) (va_Nw.use rfl (hK.2 _ nX4_138)) (by decide) rfl dX4_slot_37 ?_
      refine lv_bipush (v := 8) hx hb dX4_slot_40 (by decide) ?_
      refine lv_aload_n hx hb dX4_slot_42 rfl (lv_at hl 0 rfl) ?_
      refine qgN_11 (f := 1) hx hb htz tin_X1 hown hK hG (by omega) (va_Nw.use rfl (hK.2 _ nX4_158)) (by decide) rfl dX4_slot_43 ?_
      refine lv_imul hx hb dX4_slot_46 ?_
      refine lv_iadd hx hb dX4_slot_47 ?_
      refine lv_bipush (v := 64) hx hb dX4_slot_48 (by decide) ?_
      refine lv_aload_n hx hb dX4_slot_50 rfl (lv_at hl 0 rfl) ?_
      refine qgN_11 (f := 2) hx hb htz tin_X1 hown hK hG (by omega) (va_Nw.use rfl (hK.2 _ nX4_131)) (by decide) rfl dX4_slot_51 ?_
      refine lv_imul hx hb dX4_slot_54 ?_
      refine lv_iadd hx hb dX4_slot_55 ?_
      refine lv_sipush (v := 512) hx hb dX4_slot_56 (by decide) ?_
      refine lv_aload_n hx hb dX4_slot_59 rfl (lv_at hl 0 rfl) ?_
      refine qgN_11 (f := 3) hx hb htz tin_X1 hown hK hG (by omega) (va_Nw.use rfl (hK.2 _ nX4_161)) (by decide) rfl dX4_slot_60 ?_
      refine lv_imul hx hb dX4_slot_63 ?_
      refine lv_iadd hx hb dX4_slot_64 ?_
      exact mz_iret hx hb hr hlk qK_ok hK hS hG dX4_slot_65 (by unfold qs_slot; first | rw [if_pos h0] | rw [if_neg (not_not_intro h0), if_pos h1] | rw [if_neg (not_not_intro h0), if_neg h1]) rfl
    · refine lv_iconst (v := 0) hx hb dX4_slot_24 (by decide) ?_
      exact mz_iret hx hb hr hlk qK_ok hK hS hG dX4_slot_25 (by unfold qs_slot; first | rw [if_pos h0] | rw [if_neg (not_not_intro h0), if_pos h1] | rw [if_neg (not_not_intro h0), if_neg h1]) rfl
  · refine lv_iconst (v := (-1)) hx hb dX4_slot_11 (by decide) ?_
    exact mz_iret hx hb hr hlk qK_ok hK hS hG dX4_slot_12 (by unfold qs_slot; first | rw [if_pos h0] | rw [if_neg (not_not_intro h0), if_pos h1] | rw [if_neg (not_not_intro h0), if_neg h1]) rfl
