set_option maxRecDepth 100000 in
set_option maxHeartbeats 4000000 in
theorem qc_begin (l : Launch) (D : va_G) (L : qL) (hL : qL_ok L) (u : mz_S) (j : Nat) (hj : j < ql_S L + 2) (k f t x : Int32) : mz_Cv l (qG D L) (qK D L) (qA L) yX1_begin (tz_w yX1_begin cX1_begin 5 none) ({ frames := 0, cells := 0, slots := 0, locals := 0 } : Room) [.ref (L.1 11 j), .int k, .int f, .int t, .int x] u (qs_begin u j k f t x) := by
  refine mz_Cv.of (cc := cX1_begin) (maxL := 5) (ret := none) (by decide) rfl (Nat.le_of_ble_eq_true rfl) ?_
  intro p e s m args below meth c ls hx hb hr hlk hml hown hts hl hG hK hS
  have hl : lv_has ls 5 [(0, .ref (L.1 11 j)), (1, .int k), (2, .int f), (3, .int t), (4, .int x)] := hl
  have htz : ∀ w ∈ tz, w.before args s = true := fun w h => hts w (List.mem_cons_of_mem _ h)
  refine lv_aload_n hx hb dX1_begin_0 rfl (lv_at hl 0 rfl) ?_
  refine lv_iload_n hx hb dX1_begin_1 rfl (lv_at hl 1 rfl) ?_
  refine qp_11_0 hx hb htz tin_X1 hown hL hK hG hS hj (htz _ fX1_7) dX1_begin_2 (fun H locs hG hS => ?_)
  refine lv_aload_n hx hb dX1_begin_5 rfl (lv_at hl 0 rfl) ?_
  refine lv_iload_n hx hb dX1_begin_6 rfl (lv_at hl 2 rfl) ?_
  refine qp_11_1 hx hb htz tin_X1 hown hL hK hG hS hj (htz _ fX1_13) dX1_begin_7 (fun H locs hG hS => ?_)
  refine lv_aload_n hx hb dX1_begin_10 rfl (lv_at hl 0 rfl) ?_
  refine lv_iload_n hx hb dX1_begin_11 rfl (lv_at hl 3 rfl) ?_
  refine qp_11_2 hx hb htz tin_X1 hown hL hK hG hS hj (htz _ fX1_16) dX1_begin_12 (fun H locs hG hS => ?_)
  refine lv_aload_n hx hb dX1_begin_15 rfl (lv_at hl 0 rfl) ?_
  refine lv_iload hx hb dX1_begin_16 (lv_at hl 4 rfl) ?_
  refine qp_11_3 hx hb htz tin_X1 hown hL hK hG hS hj (htz _ fX1_19) dX1_begin_18 (fun H locs hG hS => ?_)
  exact mz_vret hx hb hr hlk qK_ok hK hS hG dX1_begin_21 rfl

set_option maxRecDepth 100000 in
set_option maxHeartbeats 4000000 in
theorem qc_copy (l : Launch) (D : va_G) (L : qL) (hL : qL_ok L) (u : mz_S) (a b : Nat) (ha : a < ql_S L + 2) (hb9 : b < ql_S L + 2) : mz_Cv l (qG D L) (qK D L) (qA L) yX1_copy (tz_w yX1_copy cX1_copy 2 none) ({ frames := 0, cells := 0, slots := 0, locals := 0 } : Room) [.ref (L.1 11 a), .ref (L.1 11 b)] u (qs_copy u a b) := by
  refine mz_Cv.of (cc := cX1_copy) (maxL := 2) (ret := none) (by decide) rfl (Nat.le_of_ble_eq_true rfl) ?_
  intro p e s m args below meth c ls hx hb hr hlk hml hown hts hl hG hK hS
  have hl : lv_has ls 2 [(0, .ref (L.1 11 a)), (1, .ref (L.1 11 b))] := hl
  have htz : ∀ w ∈ tz, w.before args s = true := fun w h => hts w (List.mem_cons_of_mem _ h)
  refine lv_aload_n hx hb dX1_copy_0 rfl (lv_at hl 0 rfl) ?_
  refine lv_aload_n hx hb dX1_copy_1 rfl (lv_at hl 1 rfl) ?_
  refine qg_11 (f := 0) (v := .int (u 11 b 0)) hx hb htz tin_X1 hown hK hG hb9 (htz _ fX1_7) (by decide) (by simp [qf11, mz_at]) dX1_copy_2 ?_
  refine qp_11_0 hx hb htz tin_X1 hown hL hK hG hS ha (htz _ fX1_7) dX1_copy_5 (fun H locs hG hS => ?_)
  refine lv_aload_n hx hb dX1_copy_8 rfl (lv_at hl 0 rfl) ?_
  refine lv_aload_n hx hb dX1_copy_9 rfl (lv_at hl 1 rfl) ?_
  refine qg_11 (f := 1) (v := .int (u 11 b 1)) hx hb htz tin_X1 hown hK hG hb9 (htz _ fX1_13) (by decide) (by simp [qf11, mz_at]) dX1_copy_10 ?_
  refine qp_11_1 hx hb htz tin_X1 hown hL hK hG hS ha (htz _ fX1_13) dX1_copy_13 (fun H locs hG hS => ?_)
  refine lv_aload_n hx hb dX1_copy_16 rfl (lv_at hl 0 rfl) ?_
  refine lv_aload_n hx hb dX1_copy_17 rfl (lv_at hl 1 rfl) ?_
  refine qg_11 (f := 2) (v := .int (u 11 b 2)) hx hb htz tin_X1 hown hK hG hb9 (htz _ fX1_16) (by decide) (by simp [qf11, mz_at]) dX1_copy_18 ?_
  refine qp_11_2 hx hb htz tin_X1 hown hL hK hG hS ha (htz _ fX1_16) dX1_copy_21 (fun H locs hG hS => ?_)
  refine lv_aload_n hx hb dX1_copy_24 rfl (lv_at hl 0 rfl) ?_
  refine lv_aload_n hx hb dX1_copy_25 rfl (lv_at hl 1 rfl) ?_
  refine qg_11 (f := 3) (v := .int (u 11 b 3)) hx hb htz tin_X1 hown hK hG hb9 (htz _ fX1_19) (by decide) (by simp [qf11, mz_at]) dX1_copy_26 ?_
  refine qp_11_3 hx hb htz tin_X1 hown hL hK hG hS ha (htz _ fX1_19) dX1_copy_29 (fun H locs hG hS => ?_)
  refine lv_aload_n hx hb dX1_copy_32 rfl (lv_at hl 0 rfl) ?_
  refine lv_aload_n hx hb dX1_copy_33 rfl (lv_at hl 1 rfl) ?_
  refine qg_11 (f := 4) (v := .int (u 11 b 4)) hx hb htz tin_X1 hown hK hG hb9 (htz _ fX1_22) (by decide) (by simp [qf11, mz_at]) dX1_copy_34 ?_
  refine qp_11_4 hx hb htz tin_X1 hown hL hK hG hS ha (htz _ fX1_22) dX1_copy_37 (fun H locs hG hS => ?_)
  refine lv_aload_n hx hb dX1_copy_40 rfl (lv_at hl 0 rfl) ?_
  refine lv_aload_n hx hb dX1_copy_41 rfl (lv_at hl 1 rfl) ?_
  refine qg_11 (f := 5) (v := .int (u 11 b 5)) hx hb htz tin_X1 hown hK hG hb9 (htz _ fX1_25) (by decide) (by simp [qf11, mz_at]) dX1_copy_42 ?_
  refine qp_11_5 hx hb htz tin_X1 hown hL hK hG hS ha (htz _ fX1_25) dX1_copy_45 (fun H locs hG hS => ?_)
  refine lv_aload_n hx hb dX1_copy_48 rfl (lv_at hl 0 rfl) ?_
  refine lv_aload_n hx hb dX1_copy_49 rfl (lv_at hl 1 rfl) ?_
  refine qg_11 (f := 6) (v := .int (mz_b (u 11 b 6 ≠ 0))) hx hb htz tin_X1 hown hK hG hb9 (htz _ fX1_28) (by decide) (by simp [qf11, mz_at]) dX1_copy_50 ?_
  refine qp_11_6 hx hb htz tin_X1 hown hL hK hG hS ha (htz _ fX1_28) mz_bb dX1_copy_53 (fun H locs hG hS => ?_)
  refine lv_aload_n hx hb dX1_copy_56 rfl (lv_at hl 0 rfl) ?_
  refine lv_aload_n hx hb dX1_copy_57 rfl (lv_at hl 1 rfl) ?_
  refine qg_11 (f := 7) (v := .int (mz_b (u 11 b 7 ≠ 0))) hx hb htz tin_X1 hown hK hG hb9 (htz _ fX1_32) (by decide) (by simp [qf11, mz_at]) dX1_copy_58 ?_
  refine qp_11_7 hx hb htz tin_X1 hown hL hK hG hS ha (htz _ fX1_32) mz_bb dX1_copy_61 (fun H locs hG hS => ?_)
  refine lv_aload_n hx hb dX1_copy_64 rfl (lv_at hl 0 rfl) ?_
  refine lv_aload_n hx hb dX1_copy_65 rfl (lv_at hl 1 rfl) ?_
  refine qg_11 (f := 8) (v := .int (u 11 b 8)) hx hb htz tin_X1 hown hK hG hb9 (htz _ fX1_35) (by decide) (by simp [qf11, mz_at]) dX1_copy_66 ?_
  refine qp_11_8 hx hb htz tin_X1 hown hL hK hG hS ha (htz _ fX1_35) dX1_copy_69 (fun H locs hG hS => ?_)
  refine lv_aload_n hx hb dX1_copy_72 rfl (lv_at hl 0 rfl) ?_
  refine lv_aload_n hx hb dX1_copy_73 rfl (lv_at hl 1 rfl) ?_
  refine qg_11 (f := 9) (v := .int (u 11 b 9)) hx hb htz tin_X1 hown hK hG hb9 (htz _ fX1_38) (by decide) (by simp [qf11, mz_at]) dX1_copy_74 ?_
  refine qp_11_9 hx hb htz tin_X1 hown hL hK hG hS ha (htz _ fX1_38) dX1_copy_77 (fun H locs hG hS => ?_)
  refine lv_aload_n hx hb dX1_copy_80 rfl (lv_at hl 0 rfl) ?_
  refine lv_aload_n hx hb dX1_copy_81 rfl (lv_at hl 1 rfl) ?_
  refine qg_11 (f := 10) (v := .int (u 11 b 10)) hx hb htz tin_X1 hown hK hG hb9 (htz _ fX1_41) (by decide) (by simp [qf11, mz_at]) dX1_copy_82 ?_
  refine qp_11_10 hx hb htz tin_X1 hown hL hK hG hS ha (htz _ fX1_41) dX1_copy_85 (fun H locs hG hS => ?_)
  refine lv_aload_n hx hb dX1_copy_88 rfl (lv_at hl 0 rfl) ?_
  refine lv_aload_n hx hb dX1_copy_89 rfl (lv_at hl 1 rfl) ?_
  refine qg_11 (f := 11) (v := .int (u 11 b 11)) hx hb htz tin_X1 hown hK hG hb9 (htz _ fX1_44) (by decide) (by simp [qf11, mz_at]) dX1_copy_90 ?_
  refine qp_11_11 hx hb htz tin_X1 hown hL hK hG hS ha (htz _ fX1_44) dX1_copy_93 (fun H locs hG hS => ?_)
  exact mz_vret hx hb hr hlk qK_ok hK hS hG dX1_copy_96 rfl

set_option maxRecDepth 100000 in
set_option maxHeartbeats 4000000 in
theorem qc_isSlot (l : Launch) (D : va_G) (L : qL) (hL : qL_ok L) (u : mz_S) (x : Int32) : mz_Ci l (qG D L) (qK D L) (qA L) yX2_isSlot (tz_w yX2_isSlot cX2_isSlot 2 (some .boolean)) ({ frames := 0, cells := 0, slots := 0, locals := 0 } : Room) [.ref (L.1 9 0), .int x] u (mz_b (qs_isN (ql_S L) x)) (u) := by
  refine mz_Ci.of (cc := cX2_isSlot) (maxL := 2) (ret := (some .boolean)) (by decide) rfl (Nat.le_of_ble_eq_true rfl) ?_
  intro p e s m args below meth c ls hx hb hr hlk hml hown hts hl hG hK hS
  have hl : lv_has ls 2 [(0, .ref (L.1 9 0)), (1, .int x)] := hl
  have htz : ∀ w ∈ tz, w.before args s = true := fun w h => hts w (List.mem_cons_of_mem _ h)
  refine lv_iload_n hx hb dX2_isSlot_0 rfl (lv_at hl 1 rfl) ?_
  refine mz_if_lt hx hb dX2_isSlot_1 (tgt := 17) rfl (fun h_1 h_1' => ?_) (fun h_1 h_1' => ?_)
  · refine lv_iconst (v := 0) hx hb dX2_isSlot_17 (by decide) ?_
    exact mz_zret hx hb hr hlk qK_ok hK hS hG dX2_isSlot_18 (by decide) (by simp [mz_b, qs_isN, h_1, h_1']) rfl
  · refine lv_iload_n hx hb dX2_isSlot_4 rfl (lv_at hl 1 rfl) ?_
    refine lv_aload_n hx hb dX2_isSlot_5 rfl (lv_at hl 0 rfl) ?_
    refine qg_9 (f := 0) hx hb htz tin_X2 hown hK hG (by decide) (htz _ fX2_11) (by decide) rfl dX2_isSlot_6 ?_
    refine qz_10 hx hb hK hG (by decide) dX2_isSlot_9 ?_
    refine mz_icmp_ge hx hb dX2_isSlot_10 (tgt := 17) rfl (fun h_2 h_2' => ?_) (fun h_2 h_2' => ?_)
    · refine lv_iconst (v := 0) hx hb dX2_isSlot_17 (by decide) ?_
      exact mz_zret hx hb hr hlk qK_ok hK hS hG dX2_isSlot_18 (by decide) (by simp [mz_b, qs_isN, h_1, h_1', h_2, h_2']) rfl
    · refine lv_iconst (v := 1) hx hb dX2_isSlot_13 (by decide) ?_
      refine lv_goto hx hb dX2_isSlot_14 (tgt := 18) rfl ?_
      exact mz_zret hx hb hr hlk qK_ok hK hS hG dX2_isSlot_18 (by decide) (by simp [mz_b, qs_isN, h_1, h_1', h_2, h_2']) rfl

set_option maxRecDepth 100000 in
set_option maxHeartbeats 4000000 in
theorem qc_isFree (l : Launch) (D : va_G) (L : qL) (hL : qL_ok L) (u : mz_S) (x : Int32) (hx9 : vp_in x (ql_S L)) : mz_Ci l (qG D L) (qK D L) (qA L) yX2_isFree (tz_w yX2_isFree cX2_isFree 2 (some .boolean)) ({ frames := 0, cells := 0, slots := 0, locals := 0 } : Room) [.ref (L.1 9 0), .int x] u (mz_b (u 11 x.toNatClampNeg 0 = 0)) (u) := by
  refine mz_Ci.of (cc := cX2_isFree) (maxL := 2) (ret := (some .boolean)) (by decide) rfl (Nat.le_of_ble_eq_true rfl) ?_
  intro p e s m args below meth c ls hx hb hr hlk hml hown hts hl hG hK hS
  have hl : lv_has ls 2 [(0, .ref (L.1 9 0)), (1, .int x)] := hl
  have htz : ∀ w ∈ tz, w.before args s = true := fun w h => hts w (List.mem_cons_of_mem _ h)
  refine lv_aload_n hx hb dX2_isFree_0 rfl (lv_at hl 0 rfl) ?_
  refine qg_9 (f := 0) hx hb htz tin_X2 hown hK hG (by decide) (htz _ fX2_11) (by decide) rfl dX2_isFree_1 ?_
  refine lv_iload_n hx hb dX2_isFree_4 rfl (lv_at hl 1 rfl) ?_
  refine qa_10 hx hb hK hG (by decide) hx9 dX2_isFree_5 ?_
  refine qgN_11 (f := 0) hx hb htz tin_X1 hown hK hG (by have := nz_cl hx9; omega) (va_Nw.use rfl (hK.2 _ nX2_18)) (by decide) rfl dX2_isFree_6 ?_
  refine lv_if_ne hx hb dX2_isFree_9 (tgt := 16) rfl (fun h_1 => ?_) (fun h_1 => ?_)
  · refine lv_iconst (v := 0) hx hb dX2_isFree_16 (by decide) ?_
    exact mz_zret hx hb hr hlk qK_ok hK hS hG dX2_isFree_17 (by decide) (by simp [mz_b, h_1]) rfl
  · refine lv_iconst (v := 1) hx hb dX2_isFree_12 (by decide) ?_
    refine lv_goto hx hb dX2_isFree_13 (tgt := 17) rfl ?_
    exact mz_zret hx hb hr hlk qK_ok hK hS hG dX2_isFree_17 (by decide) (by simp [mz_b, h_1]) rfl

set_option maxRecDepth 100000 in
set_option maxHeartbeats 4000000 in
theorem qc_countFree (l : Launch) (D : va_G) (L : qL) (hL : qL_ok L) (u : mz_S)  : mz_Ci l (qG D L) (qK D L) (qA L) yX2_countFree (tz_w yX2_countFree cX2_countFree 1 (some .int)) ({ frames := 0, cells := 0, slots := 0, locals := 0 } : Room) [.ref (L.1 9 0)] u (nI (ql_S L) - u 9 0 1) (u) := by
  refine mz_Ci.of (cc := cX2_countFree) (maxL := 1) (ret := (some .int)) (by decide) rfl (Nat.le_of_ble_eq_true rfl) ?_
  intro p e s m args below meth c ls hx hb hr hlk hml hown hts hl hG hK hS
  have hl : lv_has ls 1 [(0, .ref (L.1 9 0))] := hl
  have htz : ∀ w ∈ tz, w.before args s = true := fun w h => hts w (List.mem_cons_of_mem _ h)
  refine lv_aload_n hx hb dX2_countFree_0 rfl (lv_at hl 0 rfl) ?_
  refine qg_9 (f := 0) hx hb htz tin_X2 hown hK hG (by decide) (htz _ fX2_11) (by decide) rfl dX2_countFree_1 ?_
  refine qz_10 hx hb hK hG (by decide) dX2_countFree_4 ?_
  refine lv_aload_n hx hb dX2_countFree_5 rfl (lv_at hl 0 rfl) ?_
  refine qg_9 (f := 1) hx hb htz tin_X2 hown hK hG (by decide) (htz _ fX2_22) (by decide) rfl dX2_countFree_6 ?_
  refine lv_isub hx hb dX2_countFree_9 ?_
  exact mz_iret hx hb hr hlk qK_ok hK hS hG dX2_countFree_10 rfl rfl

set_option maxRecDepth 100000 in
set_option maxHeartbeats 4000000 in
theorem qc_clear (l : Launch) (D : va_G) (L : qL) (hL : qL_ok L) (u : mz_S) (x : Int32) (hx9 : vp_in x (ql_S L)) : mz_Cv l (qG D L) (qK D L) (qA L) yX2_clear (tz_w yX2_clear cX2_clear 2 none) ({ frames := 0, cells := 0, slots := 0, locals := 0 } : Room) [.ref (L.1 9 0), .int x] u (qs_clear u x.toNatClampNeg) := by
  refine mz_Cv.of (cc := cX2_clear) (maxL := 2) (ret := none) (by decide) rfl (Nat.le_of_ble_eq_true rfl) ?_
  intro p e s m args below meth c ls hx hb hr hlk hml hown hts hl hG hK hS
  have hl : lv_has ls 2 [(0, .ref (L.1 9 0)), (1, .int x)] := hl
  have htz : ∀ w ∈ tz, w.before args s = true := fun w h => hts w (List.mem_cons_of_mem _ h)
  refine lv_aload_n hx hb dX2_clear_0 rfl (lv_at hl 0 rfl) ?_
  refine qg_9 (f := 0) hx hb htz tin_X2 hown hK hG (by decide) (htz _ fX2_11) (by decide) rfl dX2_clear_1 ?_
  refine lv_iload_n hx hb dX2_clear_4 rfl (lv_at hl 1 rfl) ?_
  refine qa_10 hx hb hK hG (by decide) hx9 dX2_clear_5 ?_
  refine lv_iconst (v := 0) hx hb dX2_clear_6 (by decide) ?_
  refine qpN_11_0 hx hb htz tin_X1 hown hL hK hG hS (by have := nz_cl hx9; omega) (va_Nw.use rfl (hK.2 _ nX2_18)) dX2_clear_7 (fun H locs hG hS => ?_)
  refine lv_aload_n hx hb dX2_clear_10 rfl (lv_at hl 0 rfl) ?_
  refine lv_dup hx hb dX2_clear_11 rfl ?_
  refine qg_9 (f := 1) (v := .int (u 9 0 1)) hx hb htz tin_X2 hown hK hG (by decide) (htz _ fX2_22) (by decide) (by simp [qf9, mz_at]) dX2_clear_12 ?_
  refine lv_iconst (v := 1) hx hb dX2_clear_15 (by decide) ?_
  refine lv_isub hx hb dX2_clear_16 ?_
  refine qp_9_1 hx hb htz tin_X2 hown hL hK hG hS (by decide) (htz _ fX2_22) dX2_clear_17 (fun H locs hG hS => ?_)
  exact mz_vret hx hb hr hlk qK_ok hK hS hG dX2_clear_20 rfl

set_option maxRecDepth 100000 in
set_option maxHeartbeats 4000000 in
theorem qc_put (l : Launch) (D : va_G) (L : qL) (hL : qL_ok L) (u : mz_S) (b : Nat) (hb9 : b < ql_S L + 2) : mz_Ci l (qG D L) (qK D L) (qA L) yX2_put (tz_w yX2_put cX2_put 3 (some .int)) ({ frames := 1, cells := 0, slots := 0, locals := 21 } : Room) [.ref (L.1 9 0), .ref (L.1 11 b)] u (qs_putR (ql_S L) u) (qs_put (ql_S L) u b) := by
  refine mz_Ci.of (cc := cX2_put) (maxL := 3) (ret := (some .int)) (by decide) rfl (Nat.le_of_ble_eq_true rfl) ?_
  intro p e s m args below meth c ls hx hb hr hlk hml hown hts hl hG hK hS
  have hl : lv_has ls 3 [(0, .ref (L.1 9 0)), (1, .ref (L.1 11 b))] := hl
  have htz : ∀ w ∈ tz, w.before args s = true := fun w h => hts w (List.mem_cons_of_mem _ h)
  have hc12 : ql_c L ≤ 12 := hL.1.2.2.2.1
  have hn5 : ql_n L ≤ 5 := hL.1.2.1
  have h40 : ql_S L ≤ 40 := hL.1.2.2.2.2.2
  refine lv_iconst (v := 0) hx hb dX2_put_0 (by decide) ?_
  refine lv_istore_n hx hb dX2_put_1 rfl hl (by decide) rfl (fun ls hl => ?_)
  have hl : lv_has ls 3 [(2, .int _), (0, .ref _), (1, .ref _)] := hl
  refine mz_loop (ql_S L) (P := fun j ls H locs => lv_has ls 3 [(2, .int (nI j)), (0, .ref (L.1 9 0)), (1, .ref (L.1 11 b))] ∧ qG D L u H ∧ va_S (qA L) s.heap H locs ∧ j ≤ ql_S L ∧ mz_ff (fun j => u 11 j 0) (ql_S L - j) j = qs_ff (ql_S L) u) (fun _ _ _ _ h => h.2.2.2.1) ?_ 0 _ _ _ ⟨hl, hG, hS, Nat.zero_le _, rfl⟩
  intro j ls H locs ⟨hl, hG, hS, hj, hf⟩ ih
  refine lv_iload_n hx hb dX2_put_2 rfl (lv_at hl 0 rfl) ?_
  refine lv_aload_n hx hb dX2_put_3 rfl (lv_at hl 1 rfl) ?_
  refine qg_9 (f := 0) hx hb htz tin_X2 hown hK hG (by decide) (htz _ fX2_11) (by decide) rfl dX2_put_4 ?_
  refine qz_10 hx hb hK hG (by decide) dX2_put_7 ?_
  refine mz_icmp_ge hx hb dX2_put_8 (tgt := 47) rfl (fun h0 h0' => ?_) (fun h0 h0' => ?_)
  · rw [nI_leI (by omega) (by omega)] at h0'
    have e9 : qs_ff (ql_S L) u = j := by rw [← hf, show ql_S L - j = 0 by omega]; rfl
    refine lv_bipush (v := (-4)) hx hb dX2_put_47 (by decide) ?_
    exact mz_iret hx hb hr hlk qK_ok hK hS hG dX2_put_49 (by rw [qs_putR, e9, if_neg (by omega)]) (by rw [qs_put, e9, if_neg (by omega)])
  · rw [nI_ltI (by omega) (by omega)] at h0
    refine lv_aload_n hx hb dX2_put_11 rfl (lv_at hl 1 rfl) ?_
    refine lv_iload_n hx hb dX2_put_12 rfl (lv_at hl 0 rfl) ?_
    refine mz_Vi (As := [.int _]) (rest := []) ⟨hx, hb, hml, hown, hts⟩ (qc_isFree l D L hL _ _ (vp_in_nI (n := j) (by omega) (by omega))) (tz_V htz mX2_isFree lX2_25 rfl rfl ⟨Nat.le_of_ble_eq_true rfl, Nat.le_of_ble_eq_true rfl⟩) (qrecv_9 hK hG (by decide)) qK_ok hK hG hS rfl hl.1 rfl (Nat.le_of_ble_eq_true rfl) dX2_put_13 ⟨Nat.zero_le _, Nat.zero_le _⟩ (fun H locs hG hS => ?_)
    rw [nI_clamp (by omega)]
    refine mz_ifeq_b hx hb dX2_put_16 (tgt := 41) rfl (fun h1 => ?_) (fun h1 => ?_)
    · refine lv_iinc (k := 0) hx hb dX2_put_41 hl rfl (nI_1 j) (by decide) rfl (fun ls hl => ?_)
      have hl : lv_has ls 3 [(2, .int _), (0, .ref _), (1, .ref _)] := hl
      refine lv_goto hx hb dX2_put_44 (tgt := 2) rfl ?_
      exact ih (by omega) _ _ _ ⟨hl, hG, hS, by omega, by rw [← hf, show ql_S L - j = (ql_S L - (j + 1)) + 1 by omega, mz_ff, if_neg h1]⟩
    · have e9 : qs_ff (ql_S L) u = j := by rw [← hf, show ql_S L - j = (ql_S L - (j + 1)) + 1 by omega, mz_ff, if_pos h1]
      refine lv_aload_n hx hb dX2_put_19 rfl (lv_at hl 1 rfl) ?_
      refine qg_9 (f := 0) hx hb htz tin_X2 hown hK hG (by decide) (htz _ fX2_11) (by decide) rfl dX2_put_20 ?_
      refine lv_iload_n hx hb dX2_put_23 rfl (lv_at hl 0 rfl) ?_
      refine qa_10 hx hb hK hG (by decide) (vp_in_nI (by omega) (by omega)) dX2_put_24 ?_
      rw [nI_clamp (by omega)]
      refine lv_aload_n hx hb dX2_put_25 rfl (lv_at hl 2 rfl) ?_
      refine mz_Nv (As := [.ref _]) (rest := []) ⟨hx, hb, hml, hown, hts⟩ (qc_copy l D L hL _ j b (by omega) hb9) (tz_N htz mX1_copy (hK.2 _ nX2_29) rfl rfl ⟨Nat.le_of_ble_eq_true rfl, Nat.le_of_ble_eq_true rfl⟩) (qrecv_11 hK hG (by omega)) qK_ok hK hG hS rfl hl.1 rfl (Nat.le_of_ble_eq_true rfl) dX2_put_26 ⟨Nat.zero_le _, Nat.zero_le _⟩ (fun H locs hG hS => ?_)
      refine lv_aload_n hx hb dX2_put_29 rfl (lv_at hl 1 rfl) ?_
      refine lv_dup hx hb dX2_put_30 rfl ?_
      refine qg_9 (f := 1) (v := .int (u 9 0 1)) hx hb htz tin_X2 hown hK hG (by decide) (htz _ fX2_22) (by decide) (by simp [qf9, qs_copy_o]) dX2_put_31 ?_
      refine lv_iconst (v := 1) hx hb dX2_put_34 (by decide) ?_
      refine lv_iadd hx hb dX2_put_35 ?_
      refine qp_9_1 hx hb htz tin_X2 hown hL hK hG hS (by decide) (htz _ fX2_22) dX2_put_36 (fun H locs hG hS => ?_)
      refine lv_iload_n hx hb dX2_put_39 rfl (lv_at hl 0 rfl) ?_
      exact mz_iret hx hb hr hlk qK_ok hK hS hG dX2_put_40 (by rw [qs_putR, e9, if_pos (by omega)]) (by rw [qs_put, e9, if_pos (by omega)]; rfl)
