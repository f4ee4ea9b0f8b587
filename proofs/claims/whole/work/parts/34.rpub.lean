set_option maxRecDepth 100000 in
set_option maxHeartbeats 4000000 in
theorem rc_crash (l : Launch) (D : va_G) (L : rL) (hL : rL_ok L) (u : mz_S) (x : Int32) : mz_Ci l (rG D L) (rK D L) (rA L) yX5_crash (tz_w yX5_crash cX5_crash 2 (some .int)) ({ frames := 1, cells := 0, slots := 0, locals := 21 } : Room) [.ref (L.1 0 0), .int x] u ((rs_crash (rl_n L) u x).2) ((rs_crash (rl_n L) u x).1) := by
  refine mz_Ci.of (cc := cX5_crash) (maxL := 2) (ret := (some .int)) (by decide) rfl (Nat.le_of_ble_eq_true rfl) ?_
  intro p e s m args below meth c ls hx hb hr hlk hml hown hts hl hG hK hS
  have hl : lv_has ls 2 [(0, .ref (L.1 0 0)), (1, .int x)] := hl
  have htz : ∀ w ∈ tz, w.before args s = true := fun w h => hts w (List.mem_cons_of_mem _ h)
  have hc12 : rl_c L ≤ 12 := hL.1.2.2.2.1
  have hn5 : rl_n L ≤ 5 := hL.1.2.1
  have h40 : rl_S L ≤ 40 := hL.1.2.2.2.2.2
  refine lv_aload_n hx hb dX5_crash_0 rfl (lv_at hl 0 rfl) ?_
  refine lv_iload_n hx hb dX5_crash_1 rfl (lv_at hl 1 rfl) ?_
  refine mz_Vi (As := [.int _]) (rest := []) ⟨hx, hb, hml, hown, hts⟩ (rc_isNode l D L hL _ _) (tz_V htz mX5_isNode lX5_116 rfl rfl ⟨Nat.le_of_ble_eq_true rfl, Nat.le_of_ble_eq_true rfl⟩) (rrecv_0 hK hG (by decide)) rK_ok hK hG hS rfl hl.1 rfl (Nat.le_of_ble_eq_true rfl) dX5_crash_2 ⟨Nat.zero_le _, Nat.zero_le _⟩ (fun H locs hG hS => ?_)
  refine mz_ifne_b hx hb dX5_crash_5 (tgt := 10) rfl (fun h0 => ?_) (fun h0 => ?_)
  · have hk : vp_in x 5 := vp_up (nz_in (by omega) h0) hn5
    refine lv_aload_n hx hb dX5_crash_10 rfl (lv_at hl 0 rfl) ?_
    refine rg_0 (f := 3) hx hb htz tin_X5 hown hK hG (by decide) (htz _ fX5_7) (by decide) rfl dX5_crash_11 ?_
    refine lv_iload_n hx hb dX5_crash_14 rfl (lv_at hl 1 rfl) ?_
    refine ra_1 hx hb hK hG (by decide) hk dX5_crash_15 ?_
    refine lv_if_ne hx hb dX5_crash_16 (tgt := 22) rfl (fun h1 => ?_) (fun h1 => ?_)
    · refine lv_aload_n hx hb dX5_crash_22 rfl (lv_at hl 0 rfl) ?_
      refine rg_0 (f := 3) hx hb htz tin_X5 hown hK hG (by decide) (htz _ fX5_7) (by decide) rfl dX5_crash_23 ?_
      refine lv_iload_n hx hb dX5_crash_26 rfl (lv_at hl 1 rfl) ?_
      refine lv_iconst (v := 0) hx hb dX5_crash_27 (by decide) ?_
      refine rt_1 hx hb hL hK hG hS (by decide) hk (by decide) dX5_crash_28 (fun H locs hG hS => ?_)
      refine lv_aload_n hx hb dX5_crash_29 rfl (lv_at hl 0 rfl) ?_
      refine rg_0 (f := 4) hx hb htz tin_X5 hown hK hG (by decide) (htz _ fX5_13) (by decide) rfl dX5_crash_30 ?_
      refine lv_iload_n hx hb dX5_crash_33 rfl (lv_at hl 1 rfl) ?_
      refine lv_iconst (v := 0) hx hb dX5_crash_34 (by decide) ?_
      refine rt_2 hx hb hL hK hG hS (by decide) hk dX5_crash_35 (fun H locs hG hS => ?_)
      refine lv_iconst (v := 0) hx hb dX5_crash_36 (by decide) ?_
      exact mz_iret hx hb hr hlk rK_ok hK hS hG dX5_crash_37 (by rw [rs_crash, if_neg (not_not_intro h0), if_neg h1]) (by rw [rs_crash, if_neg (not_not_intro h0), if_neg h1])
    · refine lv_bipush (v := (-2)) hx hb dX5_crash_19 (by decide) ?_
      exact mz_iret hx hb hr hlk rK_ok hK hS hG dX5_crash_21 (by rw [rs_crash, if_neg (not_not_intro h0), if_pos h1]) (by rw [rs_crash, if_neg (not_not_intro h0), if_pos h1])
  · refine lv_iconst (v := (-1)) hx hb dX5_crash_8 (by decide) ?_
    exact mz_iret hx hb hr hlk rK_ok hK hS hG dX5_crash_9 (by rw [rs_crash, if_pos h0]) (by rw [rs_crash, if_pos h0])

set_option maxRecDepth 100000 in
set_option maxHeartbeats 4000000 in
theorem rc_restart (l : Launch) (D : va_G) (L : rL) (hL : rL_ok L) (u : mz_S) (x : Int32) : mz_Ci l (rG D L) (rK D L) (rA L) yX5_restart (tz_w yX5_restart cX5_restart 2 (some .int)) ({ frames := 1, cells := 0, slots := 0, locals := 21 } : Room) [.ref (L.1 0 0), .int x] u ((rs_restart (rl_n L) u x).2) ((rs_restart (rl_n L) u x).1) := by
  refine mz_Ci.of (cc := cX5_restart) (maxL := 2) (ret := (some .int)) (by decide) rfl (Nat.le_of_ble_eq_true rfl) ?_
  intro p e s m args below meth c ls hx hb hr hlk hml hown hts hl hG hK hS
  have hl : lv_has ls 2 [(0, .ref (L.1 0 0)), (1, .int x)] := hl
  have htz : ∀ w ∈ tz, w.before args s = true := fun w h => hts w (List.mem_cons_of_mem _ h)
  have hc12 : rl_c L ≤ 12 := hL.1.2.2.2.1
  have hn5 : rl_n L ≤ 5 := hL.1.2.1
  have h40 : rl_S L ≤ 40 := hL.1.2.2.2.2.2
  refine lv_aload_n hx hb dX5_restart_0 rfl (lv_at hl 0 rfl) ?_
  refine lv_iload_n hx hb dX5_restart_1 rfl (lv_at hl 1 rfl) ?_
  refine mz_Vi (As := [.int _]) (rest := []) ⟨hx, hb, hml, hown, hts⟩ (rc_isNode l D L hL _ _) (tz_V htz mX5_isNode lX5_116 rfl rfl ⟨Nat.le_of_ble_eq_true rfl, Nat.le_of_ble_eq_true rfl⟩) (rrecv_0 hK hG (by decide)) rK_ok hK hG hS rfl hl.1 rfl (Nat.le_of_ble_eq_true rfl) dX5_restart_2 ⟨Nat.zero_le _, Nat.zero_le _⟩ (fun H locs hG hS => ?_)
  refine mz_ifne_b hx hb dX5_restart_5 (tgt := 10) rfl (fun h0 => ?_) (fun h0 => ?_)
  · have hk : vp_in x 5 := vp_up (nz_in (by omega) h0) hn5
    refine lv_aload_n hx hb dX5_restart_10 rfl (lv_at hl 0 rfl) ?_
    refine rg_0 (f := 3) hx hb htz tin_X5 hown hK hG (by decide) (htz _ fX5_7) (by decide) rfl dX5_restart_11 ?_
    refine lv_iload_n hx hb dX5_restart_14 rfl (lv_at hl 1 rfl) ?_
    refine ra_1 hx hb hK hG (by decide) hk dX5_restart_15 ?_
    refine lv_if_eq hx hb dX5_restart_16 (tgt := 22) rfl (fun h1 => ?_) (fun h1 => ?_)
    · refine lv_aload_n hx hb dX5_restart_22 rfl (lv_at hl 0 rfl) ?_
      refine rg_0 (f := 3) hx hb htz tin_X5 hown hK hG (by decide) (htz _ fX5_7) (by decide) rfl dX5_restart_23 ?_
      refine lv_iload_n hx hb dX5_restart_26 rfl (lv_at hl 1 rfl) ?_
      refine lv_iconst (v := 1) hx hb dX5_restart_27 (by decide) ?_
      refine rt_1 hx hb hL hK hG hS (by decide) hk (by decide) dX5_restart_28 (fun H locs hG hS => ?_)
      refine lv_aload_n hx hb dX5_restart_29 rfl (lv_at hl 0 rfl) ?_
      refine rg_0 (f := 10) hx hb htz tin_X5 hown hK hG (by decide) (htz _ fX5_32) (by decide) rfl dX5_restart_30 ?_
      refine lv_iload_n hx hb dX5_restart_33 rfl (lv_at hl 1 rfl) ?_
      refine lv_aload_n hx hb dX5_restart_34 rfl (lv_at hl 0 rfl) ?_
      refine rg_0 (f := 7) hx hb htz tin_X5 hown hK hG (by decide) (htz _ fX5_23) (by decide) rfl dX5_restart_35 ?_
      refine lv_iload_n hx hb dX5_restart_38 rfl (lv_at hl 1 rfl) ?_
      refine ra_5 hx hb hK hG (by decide) hk dX5_restart_39 ?_
      refine mz_topE (y := u 5 0 x.toNatClampNeg) (by simp [mz_at]) ?_
      refine rt_8 hx hb hL hK hG hS (by decide) hk dX5_restart_40 (fun H locs hG hS => ?_)
      refine lv_iconst (v := 0) hx hb dX5_restart_41 (by decide) ?_
      exact mz_iret hx hb hr hlk rK_ok hK hS hG dX5_restart_42 (by rw [rs_restart, if_neg (not_not_intro h0), if_neg (not_not_intro h1)]) (by rw [rs_restart, if_neg (not_not_intro h0), if_neg (not_not_intro h1)])
    · refine lv_bipush (v := (-2)) hx hb dX5_restart_19 (by decide) ?_
      exact mz_iret hx hb hr hlk rK_ok hK hS hG dX5_restart_21 (by rw [rs_restart, if_neg (not_not_intro h0), if_pos h1]) (by rw [rs_restart, if_neg (not_not_intro h0), if_pos h1])
  · refine lv_iconst (v := (-1)) hx hb dX5_restart_8 (by decide) ?_
    exact mz_iret hx hb hr hlk rK_ok hK hS hG dX5_restart_9 (by rw [rs_restart, if_pos h0]) (by rw [rs_restart, if_pos h0])

set_option maxRecDepth 100000 in
set_option maxHeartbeats 4000000 in
theorem rc_propose (l : Launch) (D : va_G) (L : rL) (hL : rL_ok L) (u : mz_S) (x y : Int32) (hz : ∀ i, i < rl_n L → rz (rl_c L) u (nI i)) : mz_Ci l (rG D L) (rK D L) (rA L) yX5_propose (tz_w yX5_propose cX5_propose 3 (some .int)) ({ frames := 1, cells := 0, slots := 0, locals := 23 } : Room) [.ref (L.1 0 0), .int x, .int y] u ((rs_propose (rl_n L) (rl_c L) u x y).2) ((rs_propose (rl_n L) (rl_c L) u x y).1) := by
  refine mz_Ci.of (cc := cX5_propose) (maxL := 3) (ret := (some .int)) (by decide) rfl (Nat.le_of_ble_eq_true rfl) ?_
  intro p e s m args below meth c ls hx hb hr hlk hml hown hts hl hG hK hS
  have hl : lv_has ls 3 [(0, .ref (L.1 0 0)), (1, .int x), (2, .int y)] := hl
  have htz : ∀ w ∈ tz, w.before args s = true := fun w h => hts w (List.mem_cons_of_mem _ h)
  have hc12 : rl_c L ≤ 12 := hL.1.2.2.2.1
  have hn5 : rl_n L ≤ 5 := hL.1.2.1
  have h40 : rl_S L ≤ 40 := hL.1.2.2.2.2.2
  refine lv_aload_n hx hb dX5_propose_0 rfl (lv_at hl 0 rfl) ?_
  refine lv_iload_n hx hb dX5_propose_1 rfl (lv_at hl 1 rfl) ?_
  refine mz_Vi (As := [.int _]) (rest := []) ⟨hx, hb, hml, hown, hts⟩ (rc_isNode l D L hL _ _) (tz_V htz mX5_isNode lX5_116 rfl rfl ⟨Nat.le_of_ble_eq_true rfl, Nat.le_of_ble_eq_true rfl⟩) (rrecv_0 hK hG (by decide)) rK_ok hK hG hS rfl hl.1 rfl (Nat.le_of_ble_eq_true rfl) dX5_propose_2 ⟨Nat.zero_le _, Nat.zero_le _⟩ (fun H locs hG hS => ?_)
  refine mz_ifne_b hx hb dX5_propose_5 (tgt := 10) rfl (fun h0 => ?_) (fun h0 => ?_)
  · have hk : vp_in x 5 := vp_up (nz_in (by omega) h0) hn5
    have hz : rz (rl_c L) u x := by
      obtain ⟨j9, hj9, rfl⟩ := nz_of (by omega) h0
      exact hz j9 hj9
    refine lv_aload_n hx hb dX5_propose_10 rfl (lv_at hl 0 rfl) ?_
    refine rg_0 (f := 3) hx hb htz tin_X5 hown hK hG (by decide) (htz _ fX5_7) (by decide) rfl dX5_propose_11 ?_
    refine lv_iload_n hx hb dX5_propose_14 rfl (lv_at hl 1 rfl) ?_
    refine ra_1 hx hb hK hG (by decide) hk dX5_propose_15 ?_
    refine lv_if_ne hx hb dX5_propose_16 (tgt := 22) rfl (fun h1 => ?_) (fun h1 => ?_)
    · refine lv_aload_n hx hb dX5_propose_22 rfl (lv_at hl 0 rfl) ?_
      refine rg_0 (f := 4) hx hb htz tin_X5 hown hK hG (by decide) (htz _ fX5_13) (by decide) rfl dX5_propose_23 ?_
      refine lv_iload_n hx hb dX5_propose_26 rfl (lv_at hl 1 rfl) ?_
      refine ra_2 hx hb hK hG (by decide) hk dX5_propose_27 ?_
      refine lv_iconst (v := 2) hx hb dX5_propose_28 (by decide) ?_
      refine lv_icmp_eq hx hb dX5_propose_29 (tgt := 35) rfl (fun h2 => ?_) (fun h2 => ?_)
      · refine lv_aload_n hx hb dX5_propose_35 rfl (lv_at hl 0 rfl) ?_
        refine rg_0 (f := 12) hx hb htz tin_X5 hown hK hG (by decide) (htz _ fX5_38) (by decide) rfl dX5_propose_36 ?_
        refine lv_iload_n hx hb dX5_propose_39 rfl (lv_at hl 1 rfl) ?_
        refine ra_10 hx hb hK hG (by decide) hk dX5_propose_40 ?_
        refine lv_aload_n hx hb dX5_propose_41 rfl (lv_at hl 0 rfl) ?_
        refine rg_0 (f := 1) hx hb htz tin_X5 hown hK hG (by decide) (htz _ fX5_91) (by decide) rfl dX5_propose_42 ?_
        refine lv_icmp_ne hx hb dX5_propose_45 (tgt := 51) rfl (fun h3 => ?_) (fun h3 => ?_)
        · refine lv_aload_n hx hb dX5_propose_51 rfl (lv_at hl 0 rfl) ?_
          refine lv_iload_n hx hb dX5_propose_52 rfl (lv_at hl 1 rfl) ?_
          refine lv_aload_n hx hb dX5_propose_53 rfl (lv_at hl 0 rfl) ?_
          refine rg_0 (f := 5) hx hb htz tin_X5 hown hK hG (by decide) (htz _ fX5_17) (by decide) rfl dX5_propose_54 ?_
          refine lv_iload_n hx hb dX5_propose_57 rfl (lv_at hl 1 rfl) ?_
          refine ra_3 hx hb hK hG (by decide) hk dX5_propose_58 ?_
          refine lv_iload_n hx hb dX5_propose_59 rfl (lv_at hl 2 rfl) ?_
          refine mz_Vv (As := [.int _, .int _, .int _]) (rest := []) ⟨hx, hb, hml, hown, hts⟩ (rc_addEntry l D L hL _ _ _ _ hz (hz.lt hc12 h3)) (tz_V htz mX5_addEntry lX5_126 rfl rfl ⟨Nat.le_of_ble_eq_true rfl, Nat.le_of_ble_eq_true rfl⟩) (rrecv_0 hK hG (by decide)) rK_ok hK hG hS rfl hl.1 rfl (Nat.le_of_ble_eq_true rfl) dX5_propose_60 ⟨Nat.zero_le _, Nat.zero_le _⟩ (fun H locs hG hS => ?_)
          refine lv_aload_n hx hb dX5_propose_63 rfl (lv_at hl 0 rfl) ?_
          refine lv_iload_n hx hb dX5_propose_64 rfl (lv_at hl 1 rfl) ?_
          refine mz_Vi (As := [.int _]) (rest := []) ⟨hx, hb, hml, hown, hts⟩ (rc_lastOf l D L hL _ _ hk) (tz_V htz mX5_lastOf lX5_97 rfl rfl ⟨Nat.le_of_ble_eq_true rfl, Nat.le_of_ble_eq_true rfl⟩) (rrecv_0 hK hG (by decide)) rK_ok hK hG hS rfl hl.1 rfl (Nat.le_of_ble_eq_true rfl) dX5_propose_65 ⟨Nat.zero_le _, Nat.zero_le _⟩ (fun H locs hG hS => ?_)
          exact mz_iret hx hb hr hlk rK_ok hK hS hG dX5_propose_68 (by rw [rs_propose, if_neg (not_not_intro h0), if_neg h1, if_neg (not_not_intro h2), if_neg h3]) (by rw [rs_propose, if_neg (not_not_intro h0), if_neg h1, if_neg (not_not_intro h2), if_neg h3])
        · refine lv_bipush (v := (-4)) hx hb dX5_propose_48 (by decide) ?_
          exact mz_iret hx hb hr hlk rK_ok hK hS hG dX5_propose_50 (by rw [rs_propose, if_neg (not_not_intro h0), if_neg h1, if_neg (not_not_intro h2), if_pos h3]) (by rw [rs_propose, if_neg (not_not_intro h0), if_neg h1, if_neg (not_not_intro h2), if_pos h3])
      · refine lv_bipush (v := (-3)) hx hb dX5_propose_32 (by decide) ?_
        exact mz_iret hx hb hr hlk rK_ok hK hS hG dX5_propose_34 (by rw [rs_propose, if_neg (not_not_intro h0), if_neg h1, if_pos h2]) (by rw [rs_propose, if_neg (not_not_intro h0), if_neg h1, if_pos h2])
    · refine lv_bipush (v := (-2)) hx hb dX5_propose_19 (by decide) ?_
      exact mz_iret hx hb hr hlk rK_ok hK hS hG dX5_propose_21 (by rw [rs_propose, if_neg (not_not_intro h0), if_pos h1]) (by rw [rs_propose, if_neg (not_not_intro h0), if_pos h1])
  · refine lv_iconst (v := (-1)) hx hb dX5_propose_8 (by decide) ?_
    exact mz_iret hx hb hr hlk rK_ok hK hS hG dX5_propose_9 (by rw [rs_propose, if_pos h0]) (by rw [rs_propose, if_pos h0])

set_option maxRecDepth 100000 in
set_option maxHeartbeats 4000000 in
theorem rc_compact (l : Launch) (D : va_G) (L : rL) (hL : rL_ok L) (u : mz_S) (x : Int32) (hq : ∀ i, i < rl_n L → rzc (rl_c L) u (nI i) (u 8 0 i)) : mz_Ci l (rG D L) (rK D L) (rA L) yX5_compact (tz_w yX5_compact cX5_compact 5 (some .int)) ({ frames := 3, cells := 0, slots := 0, locals := 65 } : Room) [.ref (L.1 0 0), .int x] u ((rs_compact (rl_n L) u x).2) ((rs_compact (rl_n L) u x).1) := by
  refine mz_Ci.of (cc := cX5_compact) (maxL := 5) (ret := (some .int)) (by decide) rfl (Nat.le_of_ble_eq_true rfl) ?_
  intro p e s m args below meth c ls hx hb hr hlk hml hown hts hl hG hK hS
  have hl : lv_has ls 5 [(0, .ref (L.1 0 0)), (1, .int x)] := hl
  have htz : ∀ w ∈ tz, w.before args s = true := fun w h => hts w (List.mem_cons_of_mem _ h)
  have hc12 : rl_c L ≤ 12 := hL.1.2.2.2.1
  have hn5 : rl_n L ≤ 5 := hL.1.2.1
  have h40 : rl_S L ≤ 40 := hL.1.2.2.2.2.2
  refine lv_aload_n hx hb dX5_compact_0 rfl (lv_at hl 0 rfl) ?_
  refine lv_iload_n hx hb dX5_compact_1 rfl (lv_at hl 1 rfl) ?_
  refine mz_Vi (As := [.int _]) (rest := []) ⟨hx, hb, hml, hown, hts⟩ (rc_isNode l D L hL _ _) (tz_V htz mX5_isNode lX5_116 rfl rfl ⟨Nat.le_of_ble_eq_true rfl, Nat.le_of_ble_eq_true rfl⟩) (rrecv_0 hK hG (by decide)) rK_ok hK hG hS rfl hl.1 rfl (Nat.le_of_ble_eq_true rfl) dX5_compact_2 ⟨Nat.zero_le _, Nat.zero_le _⟩ (fun H locs hG hS => ?_)
  refine mz_ifne_b hx hb dX5_compact_5 (tgt := 10) rfl (fun h0 => ?_) (fun h0 => ?_)
  · have hk : vp_in x 5 := vp_up (nz_in (by omega) h0) hn5
    have hq : rzc (rl_c L) u x (u 8 0 x.toNatClampNeg) := by
      obtain ⟨j9, hj9, rfl⟩ := nz_of (by omega) h0
      rw [nI_clamp (by omega)]
      exact hq j9 hj9
    refine lv_aload_n hx hb dX5_compact_10 rfl (lv_at hl 0 rfl) ?_
    refine rg_0 (f := 3) hx hb htz tin_X5 hown hK hG (by decide) (htz _ fX5_7) (by decide) rfl dX5_compact_11 ?_
    refine lv_iload_n hx hb dX5_compact_14 rfl (lv_at hl 1 rfl) ?_
    refine ra_1 hx hb hK hG (by decide) hk dX5_compact_15 ?_
    refine lv_if_ne hx hb dX5_compact_16 (tgt := 22) rfl (fun h1 => ?_) (fun h1 => ?_)
    · refine lv_aload_n hx hb dX5_compact_22 rfl (lv_at hl 0 rfl) ?_
      refine rg_0 (f := 10) hx hb htz tin_X5 hown hK hG (by decide) (htz _ fX5_32) (by decide) rfl dX5_compact_23 ?_
      refine lv_iload_n hx hb dX5_compact_26 rfl (lv_at hl 1 rfl) ?_
      refine ra_8 hx hb hK hG (by decide) hk dX5_compact_27 ?_
      refine lv_aload_n hx hb dX5_compact_28 rfl (lv_at hl 0 rfl) ?_
      refine rg_0 (f := 7) hx hb htz tin_X5 hown hK hG (by decide) (htz _ fX5_23) (by decide) rfl dX5_compact_29 ?_
      refine lv_iload_n hx hb dX5_compact_32 rfl (lv_at hl 1 rfl) ?_
      refine ra_5 hx hb hK hG (by decide) hk dX5_compact_33 ?_
      refine lv_isub hx hb dX5_compact_34 ?_
      refine lv_istore_n hx hb dX5_compact_35 rfl hl (by decide) rfl (fun ls hl => ?_)
      have hl : lv_has ls 5 [(2, .int _), (0, .ref _), (1, .int _)] := hl
      refine lv_aload_n hx hb dX5_compact_36 rfl (lv_at hl 1 rfl) ?_
      refine lv_iload_n hx hb dX5_compact_37 rfl (lv_at hl 2 rfl) ?_
      refine lv_aload_n hx hb dX5_compact_38 rfl (lv_at hl 1 rfl) ?_
      refine rg_0 (f := 10) hx hb htz tin_X5 hown hK hG (by decide) (htz _ fX5_32) (by decide) rfl dX5_compact_39 ?_
      refine lv_iload_n hx hb dX5_compact_42 rfl (lv_at hl 2 rfl) ?_
      refine ra_8 hx hb hK hG (by decide) hk dX5_compact_43 ?_
      refine mz_Vi (As := [.int _, .int _]) (rest := []) ⟨hx, hb, hml, hown, hts⟩ (rc_termOf l D L hL _ _ _ hq.rz) (tz_V htz mX5_termOf lX5_123 rfl rfl ⟨Nat.le_of_ble_eq_true rfl, Nat.le_of_ble_eq_true rfl⟩) (rrecv_0 hK hG (by decide)) rK_ok hK hG hS rfl hl.1 rfl (Nat.le_of_ble_eq_true rfl) dX5_compact_44 ⟨Nat.zero_le _, Nat.zero_le _⟩ (fun H locs hG hS => ?_)
      refine lv_istore_n hx hb dX5_compact_47 rfl hl (by decide) rfl (fun ls hl => ?_)
      have hl : lv_has ls 5 [(3, .int _), (2, .int _), (0, .ref _), (1, .int _)] := hl
      refine lv_aload_n hx hb dX5_compact_48 rfl (lv_at hl 2 rfl) ?_
      refine lv_iload_n hx hb dX5_compact_49 rfl (lv_at hl 3 rfl) ?_
      refine lv_aload_n hx hb dX5_compact_50 rfl (lv_at hl 2 rfl) ?_
      refine rg_0 (f := 10) hx hb htz tin_X5 hown hK hG (by decide) (htz _ fX5_32) (by decide) rfl dX5_compact_51 ?_
      refine lv_iload_n hx hb dX5_compact_54 rfl (lv_at hl 3 rfl) ?_
      refine ra_8 hx hb hK hG (by decide) hk dX5_compact_55 ?_
      refine mz_Vi (As := [.int _, .int _]) (rest := []) ⟨hx, hb, hml, hown, hts⟩ (rc_stateTo l D L hL _ _ _ hq) (tz_V htz mX5_stateTo lX5_130 rfl rfl ⟨Nat.le_of_ble_eq_true rfl, Nat.le_of_ble_eq_true rfl⟩) (rrecv_0 hK hG (by decide)) rK_ok hK hG hS rfl hl.1 rfl (Nat.le_of_ble_eq_true rfl) dX5_compact_56 ⟨Nat.zero_le _, Nat.zero_le _⟩ (fun H locs hG hS => ?_)
      refine lv_istore hx hb dX5_compact_59 hl (by decide) rfl (fun ls hl => ?_)
      have hl : lv_has ls 5 [(4, .int _), (3, .int _), (2, .int _), (0, .ref _), (1, .int _)] := hl
      refine lv_aload_n hx hb dX5_compact_61 rfl (lv_at hl 3 rfl) ?_
      refine lv_iload_n hx hb dX5_compact_62 rfl (lv_at hl 4 rfl) ?_
      refine lv_iload_n hx hb dX5_compact_63 rfl (lv_at hl 2 rfl) ?_
      refine mz_Vv (As := [.int _, .int _]) (rest := []) ⟨hx, hb, hml, hown, hts⟩ (rc_cutFront l D L hL _ _ _ hq.rz (hq.gone hc12)) (tz_V htz mX5_cutFront lX5_133 rfl rfl ⟨Nat.le_of_ble_eq_true rfl, Nat.le_of_ble_eq_true rfl⟩) (rrecv_0 hK hG (by decide)) rK_ok hK hG hS rfl hl.1 rfl (Nat.le_of_ble_eq_true rfl) dX5_compact_64 ⟨Nat.zero_le _, Nat.zero_le _⟩ (fun H locs hG hS => ?_)
      obtain ⟨w, hw9⟩ : ∃ w, w = rs_cutF u x (u 8 0 x.toNatClampNeg - u 5 0 x.toNatClampNeg) := ⟨_, rfl⟩
      rw [← hw9] at hG
      have eW : ∀ a x, a ≠ 10 → a ≠ 11 → a ≠ 12 → w a 0 x = u a 0 x := fun a x h1 h2 h3 => by rw [hw9, rs_cutF, mz_uk h1, rs_mv_o _ _ _ h2 h3]
      refine lv_aload_n hx hb dX5_compact_67 rfl (lv_at hl 3 rfl) ?_
      refine rg_0 (f := 7) hx hb htz tin_X5 hown hK hG (by decide) (htz _ fX5_23) (by decide) rfl dX5_compact_68 ?_
      refine lv_iload_n hx hb dX5_compact_71 rfl (lv_at hl 4 rfl) ?_
      refine lv_aload_n hx hb dX5_compact_72 rfl (lv_at hl 3 rfl) ?_
      refine rg_0 (f := 10) hx hb htz tin_X5 hown hK hG (by decide) (htz _ fX5_32) (by decide) rfl dX5_compact_73 ?_
      refine lv_iload_n hx hb dX5_compact_76 rfl (lv_at hl 4 rfl) ?_
      refine ra_8 hx hb hK hG (by decide) hk dX5_compact_77 ?_
      refine mz_topE (eW 8 _ (by decide) (by decide) (by decide)) ?_
      refine rt_5 hx hb hL hK hG hS (by decide) hk dX5_compact_78 (fun H locs hG hS => ?_)
      refine lv_aload_n hx hb dX5_compact_79 rfl (lv_at hl 3 rfl) ?_
      refine rg_0 (f := 8) hx hb htz tin_X5 hown hK hG (by decide) (htz _ fX5_26) (by decide) rfl dX5_compact_80 ?_
      refine lv_iload_n hx hb dX5_compact_83 rfl (lv_at hl 4 rfl) ?_
      refine lv_iload_n hx hb dX5_compact_84 rfl (lv_at hl 1 rfl) ?_
      refine rt_6 hx hb hL hK hG hS (by decide) hk dX5_compact_85 (fun H locs hG hS => ?_)
      refine lv_aload_n hx hb dX5_compact_86 rfl (lv_at hl 3 rfl) ?_
      refine rg_0 (f := 9) hx hb htz tin_X5 hown hK hG (by decide) (htz _ fX5_29) (by decide) rfl dX5_compact_87 ?_
      refine lv_iload_n hx hb dX5_compact_90 rfl (lv_at hl 4 rfl) ?_
      refine lv_iload hx hb dX5_compact_91 (lv_at hl 0 rfl) ?_
      refine rt_7 hx hb hL hK hG hS (by decide) hk dX5_compact_93 (fun H locs hG hS => ?_)
      refine lv_iload_n hx hb dX5_compact_94 rfl (lv_at hl 2 rfl) ?_
      exact mz_iret hx hb hr hlk rK_ok hK hS hG dX5_compact_95 (by rw [rs_compact, if_neg (not_not_intro h0), if_neg h1]) (by rw [rs_compact, if_neg (not_not_intro h0), if_neg h1, rs_rebase, ← hw9])
    · refine lv_bipush (v := (-2)) hx hb dX5_compact_19 (by decide) ?_
      exact mz_iret hx hb hr hlk rK_ok hK hS hG dX5_compact_21 (by rw [rs_compact, if_neg (not_not_intro h0), if_pos h1]) (by rw [rs_compact, if_neg (not_not_intro h0), if_pos h1])
  · refine lv_iconst (v := (-1)) hx hb dX5_compact_8 (by decide) ?_
    exact mz_iret hx hb hr hlk rK_ok hK hS hG dX5_compact_9 (by rw [rs_compact, if_pos h0]) (by rw [rs_compact, if_pos h0])

set_option maxRecDepth 100000 in
set_option maxHeartbeats 4000000 in
theorem rc_timeout (l : Launch) (D : va_G) (L : rL) (hL : rL_ok L) (u : mz_S) (x : Int32) (hz : ∀ i, i < rl_n L → rz (rl_c L) u (nI i)) (hfr : qs_isN (rl_n L) x → ¬ u 1 0 x.toNatClampNeg = 0 → ¬ (nI (rl_S L) - rs_w u (rl_S L) < nI (rl_n L) - 1) → ∀ j, j < rl_n L → ¬ nI j = x → rs_ff (rl_S L) (rs_asks (rl_S L) (rs_stand u x) x j) < rl_S L) : mz_Ci l (rG D L) (rK D L) (rA L) yX5_timeout (tz_w yX5_timeout cX5_timeout 4 (some .int)) ({ frames := 3, cells := 0, slots := 0, locals := 65 } : Room) [.ref (L.1 0 0), .int x] u ((rs_timeout (rl_n L) (rl_S L) u x).2) ((rs_timeout (rl_n L) (rl_S L) u x).1) := by
  refine mz_Ci.of (cc := cX5_timeout) (maxL := 4) (ret := (some .int)) (by decide) rfl (Nat.le_of_ble_eq_true rfl) ?_
  intro p e s m args below meth c ls hx hb hr hlk hml hown hts hl hG hK hS
  have hl : lv_has ls 4 [(0, .ref (L.1 0 0)), (1, .int x)] := hl
  have htz : ∀ w ∈ tz, w.before args s = true := fun w h => hts w (List.mem_cons_of_mem _ h)
  have hc12 : rl_c L ≤ 12 := hL.1.2.2.2.1
  have hn5 : rl_n L ≤ 5 := hL.1.2.1
  have h40 : rl_S L ≤ 40 := hL.1.2.2.2.2.2
  refine lv_aload_n hx hb dX5_timeout_0 rfl (lv_at hl 0 rfl) ?_
  refine lv_iload_n hx hb dX5_timeout_1 rfl (lv_at hl 1 rfl) ?_
  refine mz_Vi (As := [.int _]) (rest := []) ⟨hx, hb, hml, hown, hts⟩ (rc_isNode l D L hL _ _) (tz_V htz mX5_isNode lX5_116 rfl rfl ⟨Nat.le_of_ble_eq_true rfl, Nat.le_of_ble_eq_true rfl⟩) (rrecv_0 hK hG (by decide)) rK_ok hK hG hS rfl hl.1 rfl (Nat.le_of_ble_eq_true rfl) dX5_timeout_2 ⟨Nat.zero_le _, Nat.zero_le _⟩ (fun H locs hG hS => ?_)
  refine mz_ifne_b hx hb dX5_timeout_5 (tgt := 10) rfl (fun h0 => ?_) (fun h0 => ?_)
  · have hk : vp_in x 5 := vp_up (nz_in (by omega) h0) hn5
    have hz : rz (rl_c L) u x := by
      obtain ⟨j9, hj9, rfl⟩ := nz_of (by omega) h0
      exact hz j9 hj9
    refine lv_aload_n hx hb dX5_timeout_10 rfl (lv_at hl 0 rfl) ?_
    refine rg_0 (f := 3) hx hb htz tin_X5 hown hK hG (by decide) (htz _ fX5_7) (by decide) rfl dX5_timeout_11 ?_
    refine lv_iload_n hx hb dX5_timeout_14 rfl (lv_at hl 1 rfl) ?_
    refine ra_1 hx hb hK hG (by decide) hk dX5_timeout_15 ?_
    refine lv_if_ne hx hb dX5_timeout_16 (tgt := 22) rfl (fun h1 => ?_) (fun h1 => ?_)
    · refine lv_aload_n hx hb dX5_timeout_22 rfl (lv_at hl 0 rfl) ?_
      refine rg_0 (f := 4) hx hb htz tin_X5 hown hK hG (by decide) (htz _ fX5_13) (by decide) rfl dX5_timeout_23 ?_
      refine lv_iload_n hx hb dX5_timeout_26 rfl (lv_at hl 1 rfl) ?_
      refine ra_2 hx hb hK hG (by decide) hk dX5_timeout_27 ?_
      refine lv_iconst (v := 2) hx hb dX5_timeout_28 (by decide) ?_
      refine lv_icmp_ne hx hb dX5_timeout_29 (tgt := 35) rfl (fun h2 => ?_) (fun h2 => ?_)
      · refine lv_aload_n hx hb dX5_timeout_35 rfl (lv_at hl 0 rfl) ?_
        refine rg_0 (f := 2) hx hb htz tin_X5 hown hK hG (by decide) (htz _ fX5_94) (by decide) rfl dX5_timeout_36 ?_
        refine lv_aload_n hx hb dX5_timeout_39 rfl (lv_at hl 0 rfl) ?_
        refine mz_Vi (As := []) (rest := [.int _]) ⟨hx, hb, hml, hown, hts⟩ (rc_waiting l D L hL _) (tz_V htz mX5_waiting lX5_120 rfl rfl ⟨Nat.le_of_ble_eq_true rfl, Nat.le_of_ble_eq_true rfl⟩) (rrecv_0 hK hG (by decide)) rK_ok hK hG hS rfl hl.1 rfl (Nat.le_of_ble_eq_true rfl) dX5_timeout_40 ⟨Nat.zero_le _, Nat.zero_le _⟩ (fun H locs hG hS => ?_)
        refine lv_isub hx hb dX5_timeout_43 ?_
        refine lv_aload_n hx hb dX5_timeout_44 rfl (lv_at hl 0 rfl) ?_
        refine rg_0 (f := 0) hx hb htz tin_X5 hown hK hG (by decide) (htz _ fX5_87) (by decide) rfl dX5_timeout_45 ?_
        refine lv_iconst (v := 1) hx hb dX5_timeout_48 (by decide) ?_
        refine lv_isub hx hb dX5_timeout_49 ?_
        refine mz_icmp_ge hx hb dX5_timeout_50 (tgt := 56) rfl (fun h3 h3' => ?_) (fun h3 h3' => ?_)
        · refine lv_aload_n hx hb dX5_timeout_56 rfl (lv_at hl 0 rfl) ?_
          refine rg_0 (f := 4) hx hb htz tin_X5 hown hK hG (by decide) (htz _ fX5_13) (by decide) rfl dX5_timeout_57 ?_
          refine lv_iload_n hx hb dX5_timeout_60 rfl (lv_at hl 1 rfl) ?_
          refine lv_iconst (v := 1) hx hb dX5_timeout_61 (by decide) ?_
          refine rt_2 hx hb hL hK hG hS (by decide) hk dX5_timeout_62 (fun H locs hG hS => ?_)
          refine lv_aload_n hx hb dX5_timeout_63 rfl (lv_at hl 0 rfl) ?_
          refine rg_0 (f := 5) hx hb htz tin_X5 hown hK hG (by decide) (htz _ fX5_17) (by decide) rfl dX5_timeout_64 ?_
          refine lv_iload_n hx hb dX5_timeout_67 rfl (lv_at hl 1 rfl) ?_
          refine lv_dup2_11 hx hb dX5_timeout_68 rfl rfl ?_
          refine ra_3 hx hb hK hG (by decide) hk dX5_timeout_69 ?_
          refine mz_topE (y := u 3 0 x.toNatClampNeg) (by simp [mz_at]) ?_
          refine lv_iconst (v := 1) hx hb dX5_timeout_70 (by decide) ?_
          refine lv_iadd hx hb dX5_timeout_71 ?_
          refine rt_3 hx hb hL hK hG hS (by decide) hk dX5_timeout_72 (fun H locs hG hS => ?_)
          refine lv_aload_n hx hb dX5_timeout_73 rfl (lv_at hl 0 rfl) ?_
          refine rg_0 (f := 6) hx hb htz tin_X5 hown hK hG (by decide) (htz _ fX5_20) (by decide) rfl dX5_timeout_74 ?_
          refine lv_iload_n hx hb dX5_timeout_77 rfl (lv_at hl 1 rfl) ?_
          refine lv_iload_n hx hb dX5_timeout_78 rfl (lv_at hl 1 rfl) ?_
          refine rt_4 hx hb hL hK hG hS (by decide) hk dX5_timeout_79 (fun H locs hG hS => ?_)
          refine lv_aload_n hx hb dX5_timeout_80 rfl (lv_at hl 0 rfl) ?_
          refine rg_0 (f := 11) hx hb htz tin_X5 hown hK hG (by decide) (htz _ fX5_35) (by decide) rfl dX5_timeout_81 ?_
          refine lv_iload_n hx hb dX5_timeout_84 rfl (lv_at hl 1 rfl) ?_
          refine lv_iconst (v := 1) hx hb dX5_timeout_85 (by decide) ?_
          refine lv_iload_n hx hb dX5_timeout_86 rfl (lv_at hl 1 rfl) ?_
          refine lv_ishl hx hb dX5_timeout_87 ?_
          refine rt_9 hx hb hL hK hG hS (by decide) hk dX5_timeout_88 (fun H locs hG hS => ?_)
          refine lv_iconst (v := 0) hx hb dX5_timeout_89 (by decide) ?_
          refine lv_istore_n hx hb dX5_timeout_90 rfl hl (by decide) rfl (fun ls hl => ?_)
          have hl : lv_has ls 4 [(2, .int _), (0, .ref _), (1, .int _)] := hl
          obtain ⟨w, hw9⟩ : ∃ w, w = rs_stand u x := ⟨_, rfl⟩
          have hG : rG D L (rs_stand u x) H := hG
          rw [← hw9] at hG
          refine mz_loop (rl_n L) (P := fun j ls H locs => lv_has ls 4 [(2, .int (nI j)), (0, .ref (L.1 0 0)), (1, .int x)] ∧ rG D L (rs_asks (rl_S L) w x j) H ∧ va_S (rA L) s.heap H locs ∧ j ≤ rl_n L) (fun _ _ _ _ h => h.2.2.2) ?_ 0 _ _ _ ⟨hl, hG, hS, Nat.zero_le _⟩
          intro j ls H locs ⟨hl, hG, hS, hj⟩ ih
          refine lv_iload_n hx hb dX5_timeout_91 rfl (lv_at hl 0 rfl) ?_
          refine lv_aload_n hx hb dX5_timeout_92 rfl (lv_at hl 1 rfl) ?_
          refine rg_0 (f := 0) hx hb htz tin_X5 hown hK hG (by decide) (htz _ fX5_87) (by decide) rfl dX5_timeout_93 ?_
          refine mz_icmp_ge hx hb dX5_timeout_96 (tgt := 145) rfl (fun h4 h4' => ?_) (fun h4 h4' => ?_)
          · rw [nI_leI (by omega) (by omega)] at h4'
            refine lv_iconst (v := 0) hx hb dX5_timeout_145 (by decide) ?_
            exact mz_iret hx hb hr hlk rK_ok hK hS hG dX5_timeout_146 (by rw [rs_timeout, if_neg (not_not_intro h0), if_neg h1, if_neg h2, if_neg h3]) (by rw [rs_timeout, if_neg (not_not_intro h0), if_neg h1, if_neg h2, if_neg h3, ← hw9, show rl_n L = j by omega])
          · rw [nI_ltI (by omega) (by omega)] at h4
            refine lv_iload_n hx hb dX5_timeout_99 rfl (lv_at hl 0 rfl) ?_
            refine lv_iload_n hx hb dX5_timeout_100 rfl (lv_at hl 2 rfl) ?_
            refine lv_icmp_eq hx hb dX5_timeout_101 (tgt := 139) rfl (fun h5 => ?_) (fun h5 => ?_)
            · refine lv_iinc (k := 0) hx hb dX5_timeout_139 hl rfl (nI_1 j) (by decide) rfl (fun ls hl => ?_)
              have hl : lv_has ls 4 [(2, .int _), (0, .ref _), (1, .int _)] := hl
              refine lv_goto hx hb dX5_timeout_142 (tgt := 91) rfl ?_
              first
                | exact ih (by omega) _ _ _ ⟨hl, by rw [rs_asks, if_pos h5]; exact hG, hS, by omega⟩
                | exact ih (by omega) _ _ _ ⟨lv_sub hl [0, 2, 3] rfl, by rw [rs_asks, if_neg h5]; exact hG, hS, by omega⟩
            · have hff : rs_ff (rl_S L) (rs_asks (rl_S L) w x j) < rl_S L := by rw [hw9]; exact hfr h0 h1 h3 j h4 h5
              have eA : ∀ a y, a ≠ 2 → a ≠ 3 → a ≠ 4 → a ≠ 9 → a ≤ 14 → rs_asks (rl_S L) w x j a 0 y = u a 0 y := by
                intro a y h2 h3 h4 h9 h14
                rw [rs_asks_o _ _ _ h14, hw9, rs_stand, mz_uk h9, mz_uk h4, mz_uk h3, mz_uk h2]
              have hz9 : rz (rl_c L) (rs_asks (rl_S L) w x j) x := hz.same (fun y => eA 5 y (by decide) (by decide) (by decide) (by decide) (by decide)) (fun y => eA 10 y (by decide) (by decide) (by decide) (by decide) (by decide))
              refine lv_aload_n hx hb dX5_timeout_104 rfl (lv_at hl 1 rfl) ?_
              refine lv_iconst (v := 1) hx hb dX5_timeout_105 (by decide) ?_
              refine lv_iload_n hx hb dX5_timeout_106 rfl (lv_at hl 2 rfl) ?_
              refine lv_iload_n hx hb dX5_timeout_107 rfl (lv_at hl 0 rfl) ?_
              refine mz_Vi (As := [.int _, .int _, .int _]) (rest := []) ⟨hx, hb, hml, hown, hts⟩ (rc_send l D L hL _ _ _ _ hk hff) (tz_V htz mX5_send lX5_113 rfl rfl ⟨Nat.le_of_ble_eq_true rfl, Nat.le_of_ble_eq_true rfl⟩) (rrecv_0 hK hG (by decide)) rK_ok hK hG hS rfl hl.1 rfl (Nat.le_of_ble_eq_true rfl) dX5_timeout_108 ⟨Nat.zero_le _, Nat.zero_le _⟩ (fun H locs hG hS => ?_)
              refine lv_istore_n hx hb dX5_timeout_111 rfl hl (by decide) rfl (fun ls hl => ?_)
              have hl : lv_has ls 4 [(3, .int _), (2, .int _), (0, .ref _), (1, .int _)] := hl
              refine lv_aload_n hx hb dX5_timeout_112 rfl (lv_at hl 2 rfl) ?_
              refine rg_0 (f := 21) hx hb htz tin_X5 hown hK hG (by decide) (htz _ fX5_65) (by decide) rfl dX5_timeout_113 ?_
              refine lv_iload_n hx hb dX5_timeout_116 rfl (lv_at hl 0 rfl) ?_
              refine lv_aload_n hx hb dX5_timeout_117 rfl (lv_at hl 2 rfl) ?_
              refine lv_iload_n hx hb dX5_timeout_118 rfl (lv_at hl 3 rfl) ?_
              refine mz_Vi (As := [.int _]) (rest := [.int _, .ref _]) ⟨hx, hb, hml, hown, hts⟩ (rc_lastOf l D L hL _ _ hk) (tz_V htz mX5_lastOf lX5_97 rfl rfl ⟨Nat.le_of_ble_eq_true rfl, Nat.le_of_ble_eq_true rfl⟩) (rrecv_0 hK hG (by decide)) rK_ok hK hG hS rfl hl.1 rfl (Nat.le_of_ble_eq_true rfl) dX5_timeout_119 ⟨Nat.zero_le _, Nat.zero_le _⟩ (fun H locs hG hS => ?_)
              refine mz_topE (rs_last_same (u := rs_asks (rl_S L) w x j) (by intro y; rw [rs_send_o _ _ _ _ _ (by decide)]) (by intro y; rw [rs_send_o _ _ _ _ _ (by decide)])) ?_
              refine rt_19 hx hb hL hK hG hS (by decide) (vp_in_nI (by omega) (by omega)) dX5_timeout_122 (fun H locs hG hS => ?_)
              rw [nI_clamp (by omega)] at hG
              refine lv_aload_n hx hb dX5_timeout_123 rfl (lv_at hl 2 rfl) ?_
              refine rg_0 (f := 22) hx hb htz tin_X5 hown hK hG (by decide) (htz _ fX5_68) (by decide) rfl dX5_timeout_124 ?_
              refine lv_iload_n hx hb dX5_timeout_127 rfl (lv_at hl 0 rfl) ?_
              refine lv_aload_n hx hb dX5_timeout_128 rfl (lv_at hl 2 rfl) ?_
              refine lv_iload_n hx hb dX5_timeout_129 rfl (lv_at hl 3 rfl) ?_
              refine lv_aload_n hx hb dX5_timeout_130 rfl (lv_at hl 2 rfl) ?_
              refine lv_iload_n hx hb dX5_timeout_131 rfl (lv_at hl 3 rfl) ?_
              refine mz_Vi (As := [.int _]) (rest := [.int _, .ref _, .int _, .ref _]) ⟨hx, hb, hml, hown, hts⟩ (rc_lastOf l D L hL _ _ hk) (tz_V htz mX5_lastOf lX5_97 rfl rfl ⟨Nat.le_of_ble_eq_true rfl, Nat.le_of_ble_eq_true rfl⟩) (rrecv_0 hK hG (by decide)) rK_ok hK hG hS rfl hl.1 rfl (Nat.le_of_ble_eq_true rfl) dX5_timeout_132 ⟨Nat.zero_le _, Nat.zero_le _⟩ (fun H locs hG hS => ?_)
              refine mz_topE (rs_last_same (u := rs_asks (rl_S L) w x j) (by intro y; rw [mz_uk (by decide), rs_send_o _ _ _ _ _ (by decide)]) (by intro y; rw [mz_uk (by decide), rs_send_o _ _ _ _ _ (by decide)])) ?_
              refine mz_Vi (As := [.int _, .int _]) (rest := [.int _, .ref _]) ⟨hx, hb, hml, hown, hts⟩ (rc_termOf l D L hL _ _ _ (hz9.same (by intro y; rw [mz_uk (by decide), rs_send_o _ _ _ _ _ (by decide)]) (by intro y; rw [mz_uk (by decide), rs_send_o _ _ _ _ _ (by decide)]))) (tz_V htz mX5_termOf lX5_123 rfl rfl ⟨Nat.le_of_ble_eq_true rfl, Nat.le_of_ble_eq_true rfl⟩) (rrecv_0 hK hG (by decide)) rK_ok hK hG hS rfl hl.1 rfl (Nat.le_of_ble_eq_true rfl) dX5_timeout_135 ⟨Nat.zero_le _, Nat.zero_le _⟩ (fun H locs hG hS => ?_)
              refine mz_topE (rs_term_same (u := rs_asks (rl_S L) w x j) (by intro y; rw [mz_uk (by decide), rs_send_o _ _ _ _ _ (by decide)]) (by intro y; rw [mz_uk (by decide), rs_send_o _ _ _ _ _ (by decide)]) (by intro y; rw [mz_uk (by decide), rs_send_o _ _ _ _ _ (by decide)]) (by intro y; rw [mz_uk (by decide), rs_send_o _ _ _ _ _ (by decide)])) ?_
              refine rt_20 hx hb hL hK hG hS (by decide) (vp_in_nI (by omega) (by omega)) dX5_timeout_138 (fun H locs hG hS => ?_)
              rw [nI_clamp (by omega)] at hG
              refine lv_iinc (k := 1) hx hb dX5_timeout_139 hl rfl (nI_1 j) (by decide) rfl (fun ls hl => ?_)
              have hl : lv_has ls 4 [(2, .int _), (3, .int _), (0, .ref _), (1, .int _)] := hl
              refine lv_goto hx hb dX5_timeout_142 (tgt := 91) rfl ?_
              first
                | exact ih (by omega) _ _ _ ⟨hl, by rw [rs_asks, if_pos h5]; exact hG, hS, by omega⟩
                | exact ih (by omega) _ _ _ ⟨lv_sub hl [0, 2, 3] rfl, by rw [rs_asks, if_neg h5]; exact hG, hS, by omega⟩
        · refine lv_bipush (v := (-4)) hx hb dX5_timeout_53 (by decide) ?_
          exact mz_iret hx hb hr hlk rK_ok hK hS hG dX5_timeout_55 (by rw [rs_timeout, if_neg (not_not_intro h0), if_neg h1, if_neg h2, if_pos h3]) (by rw [rs_timeout, if_neg (not_not_intro h0), if_neg h1, if_neg h2, if_pos h3])
      · refine lv_bipush (v := (-3)) hx hb dX5_timeout_32 (by decide) ?_
        exact mz_iret hx hb hr hlk rK_ok hK hS hG dX5_timeout_34 (by rw [rs_timeout, if_neg (not_not_intro h0), if_neg h1, if_pos h2]) (by rw [rs_timeout, if_neg (not_not_intro h0), if_neg h1, if_pos h2])
    · refine lv_bipush (v := (-2)) hx hb dX5_timeout_19 (by decide) ?_
      exact mz_iret hx hb hr hlk rK_ok hK hS hG dX5_timeout_21 (by rw [rs_timeout, if_neg (not_not_intro h0), if_pos h1]) (by rw [rs_timeout, if_neg (not_not_intro h0), if_pos h1])
  · refine lv_iconst (v := (-1)) hx hb dX5_timeout_8 (by decide) ?_
    exact mz_iret hx hb hr hlk rK_ok hK hS hG dX5_timeout_9 (by rw [rs_timeout, if_pos h0]) (by rw [rs_timeout, if_pos h0])

set_option maxRecDepth 100000 in
set_option maxHeartbeats 4000000 in
theorem rc_heartbeat (l : Launch) (D : va_G) (L : rL) (hL : rL_ok L) (u : mz_S) (x y : Int32) (hz : ∀ i, i < rl_n L → rz (rl_c L) u (nI i)) : mz_Ci l (rG D L) (rK D L) (rA L) yX5_heartbeat (tz_w yX5_heartbeat cX5_heartbeat 5 (some .int)) ({ frames := 3, cells := 0, slots := 0, locals := 65 } : Room) [.ref (L.1 0 0), .int x, .int y] u ((rs_heartbeat (rl_n L) (rl_S L) u x y).2) ((rs_heartbeat (rl_n L) (rl_S L) u x y).1) := by
  refine mz_Ci.of (cc := cX5_heartbeat) (maxL := 5) (ret := (some .int)) (by decide) rfl (Nat.le_of_ble_eq_true rfl) ?_
  intro p e s m args below meth c ls hx hb hr hlk hml hown hts hl hG hK hS
  have hl : lv_has ls 5 [(0, .ref (L.1 0 0)), (1, .int x), (2, .int y)] := hl
  have htz : ∀ w ∈ tz, w.before args s = true := fun w h => hts w (List.mem_cons_of_mem _ h)
  have hc12 : rl_c L ≤ 12 := hL.1.2.2.2.1
  have hn5 : rl_n L ≤ 5 := hL.1.2.1
  have h40 : rl_S L ≤ 40 := hL.1.2.2.2.2.2
  refine lv_aload_n hx hb dX5_heartbeat_0 rfl (lv_at hl 0 rfl) ?_
  refine lv_iload_n hx hb dX5_heartbeat_1 rfl (lv_at hl 1 rfl) ?_
  refine mz_Vi (As := [.int _]) (rest := []) ⟨hx, hb, hml, hown, hts⟩ (rc_isNode l D L hL _ _) (tz_V htz mX5_isNode lX5_116 rfl rfl ⟨Nat.le_of_ble_eq_true rfl, Nat.le_of_ble_eq_true rfl⟩) (rrecv_0 hK hG (by decide)) rK_ok hK hG hS rfl hl.1 rfl (Nat.le_of_ble_eq_true rfl) dX5_heartbeat_2 ⟨Nat.zero_le _, Nat.zero_le _⟩ (fun H locs hG hS => ?_)
  refine mz_ifeq_b hx hb dX5_heartbeat_5 (tgt := 21) rfl (fun h0 => ?_) (fun h0 => ?_)
  · refine lv_iconst (v := (-1)) hx hb dX5_heartbeat_21 (by decide) ?_
    exact mz_iret hx hb hr hlk rK_ok hK hS hG dX5_heartbeat_22 (by unfold rs_heartbeat; first | rw [if_pos (not_and_of_not_left _ h0)] | rw [if_pos (not_and_of_not_right _ (not_and_of_not_left _ h1))] | rw [if_pos (not_and_of_not_right _ (not_and_of_not_right _ (not_not_intro h2)))]) (by unfold rs_heartbeat; first | rw [if_pos (not_and_of_not_left _ h0)] | rw [if_pos (not_and_of_not_right _ (not_and_of_not_left _ h1))] | rw [if_pos (not_and_of_not_right _ (not_and_of_not_right _ (not_not_intro h2)))])
  · refine lv_aload_n hx hb dX5_heartbeat_8 rfl (lv_at hl 0 rfl) ?_
    refine lv_iload_n hx hb dX5_heartbeat_9 rfl (lv_at hl 2 rfl) ?_
    refine mz_Vi (As := [.int _]) (rest := []) ⟨hx, hb, hml, hown, hts⟩ (rc_isNode l D L hL _ _) (tz_V htz mX5_isNode lX5_116 rfl rfl ⟨Nat.le_of_ble_eq_true rfl, Nat.le_of_ble_eq_true rfl⟩) (rrecv_0 hK hG (by decide)) rK_ok hK hG hS rfl hl.1 rfl (Nat.le_of_ble_eq_true rfl) dX5_heartbeat_10 ⟨Nat.zero_le _, Nat.zero_le _⟩ (fun H locs hG hS => ?_)
    refine mz_ifeq_b hx hb dX5_heartbeat_13 (tgt := 21) rfl (fun h1 => ?_) (fun h1 => ?_)
    · refine lv_iconst (v := (-1)) hx hb dX5_heartbeat_21 (by decide) ?_
      exact mz_iret hx hb hr hlk rK_ok hK hS hG dX5_heartbeat_22 (by unfold rs_heartbeat; first | rw [if_pos (not_and_of_not_left _ h0)] | rw [if_pos (not_and_of_not_right _ (not_and_of_not_left _ h1))] | rw [if_pos (not_and_of_not_right _ (not_and_of_not_right _ (not_not_intro h2)))]) (by unfold rs_heartbeat; first | rw [if_pos (not_and_of_not_left _ h0)] | rw [if_pos (not_and_of_not_right _ (not_and_of_not_left _ h1))] | rw [if_pos (not_and_of_not_right _ (not_and_of_not_right _ (not_not_intro h2)))])
    · refine lv_iload_n hx hb dX5_heartbeat_16 rfl (lv_at hl 1 rfl) ?_
      refine lv_iload_n hx hb dX5_heartbeat_17 rfl (lv_at hl 2 rfl) ?_
      refine lv_icmp_ne hx hb dX5_heartbeat_18 (tgt := 23) rfl (fun h2 => ?_) (fun h2 => ?_)
      · have hk : vp_in x 5 := vp_up (nz_in (by omega) h0) hn5
        have hy : vp_in y 5 := vp_up (nz_in (by omega) h1) hn5
        have hxy : vp_in (5 * x + y) 25 := rz_in5 hk hy
        have hz : rz (rl_c L) u x := by
          obtain ⟨j9, hj9, rfl⟩ := nz_of (by omega) h0
          exact hz j9 hj9
        refine lv_aload_n hx hb dX5_heartbeat_23 rfl (lv_at hl 0 rfl) ?_
        refine rg_0 (f := 3) hx hb htz tin_X5 hown hK hG (by decide) (htz _ fX5_7) (by decide) rfl dX5_heartbeat_24 ?_
        refine lv_iload_n hx hb dX5_heartbeat_27 rfl (lv_at hl 1 rfl) ?_
        refine ra_1 hx hb hK hG (by decide) hk dX5_heartbeat_28 ?_
        refine lv_if_ne hx hb dX5_heartbeat_29 (tgt := 35) rfl (fun h3 => ?_) (fun h3 => ?_)
        · refine lv_aload_n hx hb dX5_heartbeat_35 rfl (lv_at hl 0 rfl) ?_
          refine rg_0 (f := 4) hx hb htz tin_X5 hown hK hG (by decide) (htz _ fX5_13) (by decide) rfl dX5_heartbeat_36 ?_
          refine lv_iload_n hx hb dX5_heartbeat_39 rfl (lv_at hl 1 rfl) ?_
          refine ra_2 hx hb hK hG (by decide) hk dX5_heartbeat_40 ?_
          refine lv_iconst (v := 2) hx hb dX5_heartbeat_41 (by decide) ?_
          refine lv_icmp_eq hx hb dX5_heartbeat_42 (tgt := 48) rfl (fun h4 => ?_) (fun h4 => ?_)
          · refine lv_aload_n hx hb dX5_heartbeat_48 rfl (lv_at hl 0 rfl) ?_
            refine mz_Vi (As := []) (rest := []) ⟨hx, hb, hml, hown, hts⟩ (rc_freeSlot l D L hL _) (tz_V htz mX5_freeSlot lX5_109 rfl rfl ⟨Nat.le_of_ble_eq_true rfl, Nat.le_of_ble_eq_true rfl⟩) (rrecv_0 hK hG (by decide)) rK_ok hK hG hS rfl hl.1 rfl (Nat.le_of_ble_eq_true rfl) dX5_heartbeat_49 ⟨Nat.zero_le _, Nat.zero_le _⟩ (fun H locs hG hS => ?_)
            refine mz_if_ge hx hb dX5_heartbeat_52 (tgt := 58) rfl (fun h5 h5' => ?_) (fun h5 h5' => ?_)
            · have hff : rs_ff (rl_S L) u < rl_S L := (rs_free_ge h40).mp h5'
              refine lv_aload_n hx hb dX5_heartbeat_58 rfl (lv_at hl 0 rfl) ?_
              refine rg_0 (f := 15) hx hb htz tin_X5 hown hK hG (by decide) (htz _ fX5_47) (by decide) rfl dX5_heartbeat_59 ?_
              refine lv_iconst (v := 5) hx hb dX5_heartbeat_62 (by decide) ?_
              refine lv_iload_n hx hb dX5_heartbeat_63 rfl (lv_at hl 1 rfl) ?_
              refine lv_imul hx hb dX5_heartbeat_64 ?_
              refine lv_iload_n hx hb dX5_heartbeat_65 rfl (lv_at hl 2 rfl) ?_
              refine lv_iadd hx hb dX5_heartbeat_66 ?_
              refine ra_13 hx hb hK hG (by decide) hxy dX5_heartbeat_67 ?_
              refine lv_istore_n hx hb dX5_heartbeat_68 rfl hl (by decide) rfl (fun ls hl => ?_)
              have hl : lv_has ls 5 [(3, .int _), (0, .ref _), (1, .int _), (2, .int _)] := hl
              refine lv_iload_n hx hb dX5_heartbeat_69 rfl (lv_at hl 0 rfl) ?_
              refine lv_aload_n hx hb dX5_heartbeat_70 rfl (lv_at hl 1 rfl) ?_
              refine rg_0 (f := 7) hx hb htz tin_X5 hown hK hG (by decide) (htz _ fX5_23) (by decide) rfl dX5_heartbeat_71 ?_
              refine lv_iload_n hx hb dX5_heartbeat_74 rfl (lv_at hl 2 rfl) ?_
              refine ra_5 hx hb hK hG (by decide) hk dX5_heartbeat_75 ?_
              refine mz_icmp_gt hx hb dX5_heartbeat_76 (tgt := 129) rfl (fun h6 h6' => ?_) (fun h6 h6' => ?_)
              · refine lv_aload_n hx hb dX5_heartbeat_129 rfl (lv_at hl 1 rfl) ?_
                refine lv_iconst (v := 3) hx hb dX5_heartbeat_130 (by decide) ?_
                refine lv_iload_n hx hb dX5_heartbeat_131 rfl (lv_at hl 2 rfl) ?_
                refine lv_iload_n hx hb dX5_heartbeat_132 rfl (lv_at hl 3 rfl) ?_
                refine mz_Vi (As := [.int _, .int _, .int _]) (rest := []) ⟨hx, hb, hml, hown, hts⟩ (rc_send l D L hL _ _ _ _ hk hff) (tz_V htz mX5_send lX5_113 rfl rfl ⟨Nat.le_of_ble_eq_true rfl, Nat.le_of_ble_eq_true rfl⟩) (rrecv_0 hK hG (by decide)) rK_ok hK hG hS rfl hl.1 rfl (Nat.le_of_ble_eq_true rfl) dX5_heartbeat_133 ⟨Nat.zero_le _, Nat.zero_le _⟩ (fun H locs hG hS => ?_)
                refine lv_istore hx hb dX5_heartbeat_136 hl (by decide) rfl (fun ls hl => ?_)
                have hl : lv_has ls 5 [(4, .int _), (3, .int _), (0, .ref _), (1, .int _), (2, .int _)] := hl
                refine lv_aload_n hx hb dX5_heartbeat_138 rfl (lv_at hl 2 rfl) ?_
                refine rg_0 (f := 21) hx hb htz tin_X5 hown hK hG (by decide) (htz _ fX5_65) (by decide) rfl dX5_heartbeat_139 ?_
                refine lv_iload hx hb dX5_heartbeat_142 (lv_at hl 0 rfl) ?_
                refine lv_iload_n hx hb dX5_heartbeat_144 rfl (lv_at hl 1 rfl) ?_
                refine lv_iconst (v := 1) hx hb dX5_heartbeat_145 (by decide) ?_
                refine lv_isub hx hb dX5_heartbeat_146 ?_
                refine rt_19 hx hb hL hK hG hS (by decide) (vp_in_nI (by omega) (by omega)) dX5_heartbeat_147 (fun H locs hG hS => ?_)
                rw [nI_clamp (by omega)] at hG
                refine lv_aload_n hx hb dX5_heartbeat_148 rfl (lv_at hl 2 rfl) ?_
                refine rg_0 (f := 22) hx hb htz tin_X5 hown hK hG (by decide) (htz _ fX5_68) (by decide) rfl dX5_heartbeat_149 ?_
                refine lv_iload hx hb dX5_heartbeat_152 (lv_at hl 0 rfl) ?_
                refine lv_aload_n hx hb dX5_heartbeat_154 rfl (lv_at hl 2 rfl) ?_
                refine lv_iload_n hx hb dX5_heartbeat_155 rfl (lv_at hl 3 rfl) ?_
                refine lv_iload_n hx hb dX5_heartbeat_156 rfl (lv_at hl 1 rfl) ?_
                refine lv_iconst (v := 1) hx hb dX5_heartbeat_157 (by decide) ?_
                refine lv_isub hx hb dX5_heartbeat_158 ?_
                refine mz_Vi (As := [.int _, .int _]) (rest := [.int _, .ref _]) ⟨hx, hb, hml, hown, hts⟩ (rc_termOf l D L hL _ _ _ (hz.same (by intro y; rw [mz_uk (by decide), rs_send_o _ _ _ _ _ (by decide)]) (by intro y; rw [mz_uk (by decide), rs_send_o _ _ _ _ _ (by decide)]))) (tz_V htz mX5_termOf lX5_123 rfl rfl ⟨Nat.le_of_ble_eq_true rfl, Nat.le_of_ble_eq_true rfl⟩) (rrecv_0 hK hG (by decide)) rK_ok hK hG hS rfl hl.1 rfl (Nat.le_of_ble_eq_true rfl) dX5_heartbeat_159 ⟨Nat.zero_le _, Nat.zero_le _⟩ (fun H locs hG hS => ?_)
                refine mz_topE (rs_term_same (u := u) (by intro y; rw [mz_uk (by decide), rs_send_o _ _ _ _ _ (by decide)]) (by intro y; rw [mz_uk (by decide), rs_send_o _ _ _ _ _ (by decide)]) (by intro y; rw [mz_uk (by decide), rs_send_o _ _ _ _ _ (by decide)]) (by intro y; rw [mz_uk (by decide), rs_send_o _ _ _ _ _ (by decide)])) ?_
                refine rt_20 hx hb hL hK hG hS (by decide) (vp_in_nI (by omega) (by omega)) dX5_heartbeat_162 (fun H locs hG hS => ?_)
                rw [nI_clamp (by omega)] at hG
                refine lv_aload_n hx hb dX5_heartbeat_163 rfl (lv_at hl 2 rfl) ?_
                refine rg_0 (f := 26) hx hb htz tin_X5 hown hK hG (by decide) (htz _ fX5_80) (by decide) rfl dX5_heartbeat_164 ?_
                refine lv_iload hx hb dX5_heartbeat_167 (lv_at hl 0 rfl) ?_
                refine lv_aload_n hx hb dX5_heartbeat_169 rfl (lv_at hl 2 rfl) ?_
                refine rg_0 (f := 10) hx hb htz tin_X5 hown hK hG (by decide) (htz _ fX5_32) (by decide) rfl dX5_heartbeat_170 ?_
                refine lv_iload_n hx hb dX5_heartbeat_173 rfl (lv_at hl 3 rfl) ?_
                refine ra_8 hx hb hK hG (by decide) hk dX5_heartbeat_174 ?_
                refine mz_topE (y := u 8 0 x.toNatClampNeg) (by rw [mz_uk (by decide), mz_uk (by decide), rs_send_o _ _ _ _ _ (by decide)]) ?_
                refine rt_24 hx hb hL hK hG hS (by decide) (vp_in_nI (by omega) (by omega)) dX5_heartbeat_175 (fun H locs hG hS => ?_)
                rw [nI_clamp (by omega)] at hG
                refine lv_aload_n hx hb dX5_heartbeat_176 rfl (lv_at hl 2 rfl) ?_
                refine rg_0 (f := 23) hx hb htz tin_X5 hown hK hG (by decide) (htz _ fX5_71) (by decide) rfl dX5_heartbeat_177 ?_
                refine lv_iload hx hb dX5_heartbeat_180 (lv_at hl 0 rfl) ?_
                refine lv_aload_n hx hb dX5_heartbeat_182 rfl (lv_at hl 2 rfl) ?_
                refine lv_iload_n hx hb dX5_heartbeat_183 rfl (lv_at hl 3 rfl) ?_
                refine lv_iload_n hx hb dX5_heartbeat_184 rfl (lv_at hl 1 rfl) ?_
                refine mz_Vi (As := [.int _, .int _]) (rest := [.int _, .ref _]) ⟨hx, hb, hml, hown, hts⟩ (rc_hasEntry l D L hL _ _ _ hk) (tz_V htz mX5_hasEntry lX5_101 rfl rfl ⟨Nat.le_of_ble_eq_true rfl, Nat.le_of_ble_eq_true rfl⟩) (rrecv_0 hK hG (by decide)) rK_ok hK hG hS rfl hl.1 rfl (Nat.le_of_ble_eq_true rfl) dX5_heartbeat_185 ⟨Nat.zero_le _, Nat.zero_le _⟩ (fun H locs hG hS => ?_)
                refine mz_topE (mz_b_iff (rs_has_same (u := u) (by intro y; rw [mz_uk (by decide), mz_uk (by decide), mz_uk (by decide), rs_send_o _ _ _ _ _ (by decide)]) (by intro y; rw [mz_uk (by decide), mz_uk (by decide), mz_uk (by decide), rs_send_o _ _ _ _ _ (by decide)]))) ?_
                refine rt_21 hx hb hL hK hG hS (by decide) (vp_in_nI (by omega) (by omega)) mz_b_nar dX5_heartbeat_188 (fun H locs hG hS => ?_)
                rw [nI_clamp (by omega)] at hG
                obtain ⟨w, hw9⟩ : ∃ w, w = mz_u (mz_u (mz_u (mz_u (rs_send (rl_S L) u 3 x y) 19 0 (rs_ff (rl_S L) u) (u 13 0 (5 * x + y).toNatClampNeg - 1)) 20 0 (rs_ff (rl_S L) u) (rs_term u x (u 13 0 (5 * x + y).toNatClampNeg - 1))) 24 0 (rs_ff (rl_S L) u) (u 8 0 x.toNatClampNeg)) 21 0 (rs_ff (rl_S L) u) (mz_b (rs_has u x (u 13 0 (5 * x + y).toNatClampNeg))) := ⟨_, rfl⟩
                rw [← hw9] at hG
                have eW : ∀ a y, a ≤ 14 → w a 0 y = u a 0 y := by
                  intro a z h14
                  rw [hw9, mz_uk (by omega), mz_uk (by omega), mz_uk (by omega), mz_uk (by omega), rs_send_o _ _ _ _ _ h14]
                have e21 : w 21 0 (rs_ff (rl_S L) u) = mz_b (rs_has u x (u 13 0 (5 * x + y).toNatClampNeg)) := by rw [hw9, mz_us]
                refine lv_aload_n hx hb dX5_heartbeat_189 rfl (lv_at hl 2 rfl) ?_
                refine rg_0 (f := 24) hx hb htz tin_X5 hown hK hG (by decide) (htz _ fX5_74) (by decide) rfl dX5_heartbeat_190 ?_
                refine lv_iload hx hb dX5_heartbeat_193 (lv_at hl 0 rfl) ?_
                refine lv_aload_n hx hb dX5_heartbeat_195 rfl (lv_at hl 2 rfl) ?_
                refine rg_0 (f := 23) hx hb htz tin_X5 hown hK hG (by decide) (htz _ fX5_71) (by decide) rfl dX5_heartbeat_196 ?_
                refine lv_iload hx hb dX5_heartbeat_199 (lv_at hl 0 rfl) ?_
                refine ra_21 hx hb hK hG (by decide) (vp_in_nI (by omega) (by omega)) dX5_heartbeat_201 ?_
                rw [nI_clamp (by omega)]
                refine mz_topE e21 ?_
                refine lv_if_eq hx hb dX5_heartbeat_202 (tgt := 219) rfl (fun h7 => ?_) (fun h7 => ?_)
                · refine lv_iconst (v := 0) hx hb dX5_heartbeat_219 (by decide) ?_
                  refine mz_topE (y := (if rs_has u x (u 13 0 (5 * x + y).toNatClampNeg) then u 11 0 (rs_place u x (u 13 0 (5 * x + y).toNatClampNeg)).toNatClampNeg else 0)) (by first | rw [if_pos (mz_b_n.mp h7)] | rw [if_neg (mz_b_0.mp h7)]) ?_
                  refine rt_22 hx hb hL hK hG hS (by decide) (vp_in_nI (by omega) (by omega)) dX5_heartbeat_220 (fun H locs hG hS => ?_)
                  rw [nI_clamp (by omega)] at hG
                  refine lv_aload_n hx hb dX5_heartbeat_221 rfl (lv_at hl 2 rfl) ?_
                  refine rg_0 (f := 25) hx hb htz tin_X5 hown hK hG (by decide) (htz _ fX5_77) (by decide) rfl dX5_heartbeat_222 ?_
                  refine lv_iload hx hb dX5_heartbeat_225 (lv_at hl 0 rfl) ?_
                  refine lv_aload_n hx hb dX5_heartbeat_227 rfl (lv_at hl 2 rfl) ?_
                  refine rg_0 (f := 23) hx hb htz tin_X5 hown hK hG (by decide) (htz _ fX5_71) (by decide) rfl dX5_heartbeat_228 ?_
                  refine lv_iload hx hb dX5_heartbeat_231 (lv_at hl 0 rfl) ?_
                  refine ra_21 hx hb hK hG (by decide) (vp_in_nI (by omega) (by omega)) dX5_heartbeat_233 ?_
                  rw [nI_clamp (by omega)]
                  refine mz_topE (y := mz_b (rs_has u x (u 13 0 (5 * x + y).toNatClampNeg))) (by rw [mz_uk (by decide)]; exact e21) ?_
                  refine lv_if_eq hx hb dX5_heartbeat_234 (tgt := 251) rfl (fun h8 => ?_) (fun h8 => ?_)
                  · refine lv_iconst (v := 0) hx hb dX5_heartbeat_251 (by decide) ?_
                    refine mz_topE (y := (if rs_has u x (u 13 0 (5 * x + y).toNatClampNeg) then u 12 0 (rs_place u x (u 13 0 (5 * x + y).toNatClampNeg)).toNatClampNeg else 0)) (by first | rw [if_pos (mz_b_n.mp h8)] | rw [if_neg (mz_b_0.mp h8)]) ?_
                    refine rt_23 hx hb hL hK hG hS (by decide) (vp_in_nI (by omega) (by omega)) dX5_heartbeat_252 (fun H locs hG hS => ?_)
                    rw [nI_clamp (by omega)] at hG
                    refine lv_iconst (v := 3) hx hb dX5_heartbeat_253 (by decide) ?_
                    exact mz_iret hx hb hr hlk rK_ok hK hS hG dX5_heartbeat_254 (by rw [rs_heartbeat, if_neg (not_not_intro (And.intro h0 (And.intro h1 h2))), if_neg h3, if_neg (not_not_intro h4), if_neg (not_not_intro hff), if_neg h6']) (by rw [rs_heartbeat, if_neg (not_not_intro (And.intro h0 (And.intro h1 h2))), if_neg h3, if_neg (not_not_intro h4), if_neg (not_not_intro hff), if_neg h6', rs_sApp, ← hw9])
                  · refine lv_aload_n hx hb dX5_heartbeat_237 rfl (lv_at hl 2 rfl) ?_
                    refine rg_0 (f := 14) hx hb htz tin_X5 hown hK hG (by decide) (htz _ fX5_44) (by decide) rfl dX5_heartbeat_238 ?_
                    refine lv_aload_n hx hb dX5_heartbeat_241 rfl (lv_at hl 2 rfl) ?_
                    refine lv_iload_n hx hb dX5_heartbeat_242 rfl (lv_at hl 3 rfl) ?_
                    refine lv_iload_n hx hb dX5_heartbeat_243 rfl (lv_at hl 1 rfl) ?_
                    refine mz_Vi (As := [.int _, .int _]) (rest := [.ref _, .int _, .ref _]) ⟨hx, hb, hml, hown, hts⟩ (rc_place l D L hL _ _ _ hk) (tz_V htz mX5_place lX5_105 rfl rfl ⟨Nat.le_of_ble_eq_true rfl, Nat.le_of_ble_eq_true rfl⟩) (rrecv_0 hK hG (by decide)) rK_ok hK hG hS rfl hl.1 rfl (Nat.le_of_ble_eq_true rfl) dX5_heartbeat_244 ⟨Nat.zero_le _, Nat.zero_le _⟩ (fun H locs hG hS => ?_)
                    refine mz_topE (rs_place_same (u := u) (by intro z; rw [mz_uk (by decide)]; exact eW 5 z (by decide))) ?_
                    refine ra_12 hx hb hK hG (by decide) (hz.ix hc12 (mz_b_n.mp h8)) dX5_heartbeat_247 ?_
                    refine mz_topE (y := u 12 0 (rs_place u x (u 13 0 (5 * x + y).toNatClampNeg)).toNatClampNeg) (by rw [mz_uk (by decide)]; exact eW 12 _ (by decide)) ?_
                    refine lv_goto hx hb dX5_heartbeat_248 (tgt := 252) rfl ?_
                    refine mz_topE (y := (if rs_has u x (u 13 0 (5 * x + y).toNatClampNeg) then u 12 0 (rs_place u x (u 13 0 (5 * x + y).toNatClampNeg)).toNatClampNeg else 0)) (by first | rw [if_pos (mz_b_n.mp h8)] | rw [if_neg (mz_b_0.mp h8)]) ?_
                    refine rt_23 hx hb hL hK hG hS (by decide) (vp_in_nI (by omega) (by omega)) dX5_heartbeat_252 (fun H locs hG hS => ?_)
                    rw [nI_clamp (by omega)] at hG
                    refine lv_iconst (v := 3) hx hb dX5_heartbeat_253 (by decide) ?_
                    exact mz_iret hx hb hr hlk rK_ok hK hS hG dX5_heartbeat_254 (by rw [rs_heartbeat, if_neg (not_not_intro (And.intro h0 (And.intro h1 h2))), if_neg h3, if_neg (not_not_intro h4), if_neg (not_not_intro hff), if_neg h6']) (by rw [rs_heartbeat, if_neg (not_not_intro (And.intro h0 (And.intro h1 h2))), if_neg h3, if_neg (not_not_intro h4), if_neg (not_not_intro hff), if_neg h6', rs_sApp, ← hw9])
                · refine lv_aload_n hx hb dX5_heartbeat_205 rfl (lv_at hl 2 rfl) ?_
                  refine rg_0 (f := 13) hx hb htz tin_X5 hown hK hG (by decide) (htz _ fX5_41) (by decide) rfl dX5_heartbeat_206 ?_
                  refine lv_aload_n hx hb dX5_heartbeat_209 rfl (lv_at hl 2 rfl) ?_
                  refine lv_iload_n hx hb dX5_heartbeat_210 rfl (lv_at hl 3 rfl) ?_
                  refine lv_iload_n hx hb dX5_heartbeat_211 rfl (lv_at hl 1 rfl) ?_
                  refine mz_Vi (As := [.int _, .int _]) (rest := [.ref _, .int _, .ref _]) ⟨hx, hb, hml, hown, hts⟩ (rc_place l D L hL _ _ _ hk) (tz_V htz mX5_place lX5_105 rfl rfl ⟨Nat.le_of_ble_eq_true rfl, Nat.le_of_ble_eq_true rfl⟩) (rrecv_0 hK hG (by decide)) rK_ok hK hG hS rfl hl.1 rfl (Nat.le_of_ble_eq_true rfl) dX5_heartbeat_212 ⟨Nat.zero_le _, Nat.zero_le _⟩ (fun H locs hG hS => ?_)
                  refine mz_topE (rs_place_same (u := u) (fun z => eW 5 z (by decide))) ?_
                  refine ra_11 hx hb hK hG (by decide) (hz.ix hc12 (mz_b_n.mp h7)) dX5_heartbeat_215 ?_
                  refine mz_topE (eW 11 _ (by decide)) ?_
                  refine lv_goto hx hb dX5_heartbeat_216 (tgt := 220) rfl ?_
                  refine mz_topE (y := (if rs_has u x (u 13 0 (5 * x + y).toNatClampNeg) then u 11 0 (rs_place u x (u 13 0 (5 * x + y).toNatClampNeg)).toNatClampNeg else 0)) (by first | rw [if_pos (mz_b_n.mp h7)] | rw [if_neg (mz_b_0.mp h7)]) ?_
                  refine rt_22 hx hb hL hK hG hS (by decide) (vp_in_nI (by omega) (by omega)) dX5_heartbeat_220 (fun H locs hG hS => ?_)
                  rw [nI_clamp (by omega)] at hG
                  refine lv_aload_n hx hb dX5_heartbeat_221 rfl (lv_at hl 2 rfl) ?_
                  refine rg_0 (f := 25) hx hb htz tin_X5 hown hK hG (by decide) (htz _ fX5_77) (by decide) rfl dX5_heartbeat_222 ?_
                  refine lv_iload hx hb dX5_heartbeat_225 (lv_at hl 0 rfl) ?_
                  refine lv_aload_n hx hb dX5_heartbeat_227 rfl (lv_at hl 2 rfl) ?_
                  refine rg_0 (f := 23) hx hb htz tin_X5 hown hK hG (by decide) (htz _ fX5_71) (by decide) rfl dX5_heartbeat_228 ?_
                  refine lv_iload hx hb dX5_heartbeat_231 (lv_at hl 0 rfl) ?_
                  refine ra_21 hx hb hK hG (by decide) (vp_in_nI (by omega) (by omega)) dX5_heartbeat_233 ?_
                  rw [nI_clamp (by omega)]
                  refine mz_topE (y := mz_b (rs_has u x (u 13 0 (5 * x + y).toNatClampNeg))) (by rw [mz_uk (by decide)]; exact e21) ?_
                  refine lv_if_eq hx hb dX5_heartbeat_234 (tgt := 251) rfl (fun h8 => ?_) (fun h8 => ?_)
                  · refine lv_iconst (v := 0) hx hb dX5_heartbeat_251 (by decide) ?_
                    refine mz_topE (y := (if rs_has u x (u 13 0 (5 * x + y).toNatClampNeg) then u 12 0 (rs_place u x (u 13 0 (5 * x + y).toNatClampNeg)).toNatClampNeg else 0)) (by first | rw [if_pos (mz_b_n.mp h8)] | rw [if_neg (mz_b_0.mp h8)]) ?_
                    refine rt_23 hx hb hL hK hG hS (by decide) (vp_in_nI (by omega) (by omega)) dX5_heartbeat_252 (fun H locs hG hS => ?_)
                    rw [nI_clamp (by omega)] at hG
                    refine lv_iconst (v := 3) hx hb dX5_heartbeat_253 (by decide) ?_
                    exact mz_iret hx hb hr hlk rK_ok hK hS hG dX5_heartbeat_254 (by rw [rs_heartbeat, if_neg (not_not_intro (And.intro h0 (And.intro h1 h2))), if_neg h3, if_neg (not_not_intro h4), if_neg (not_not_intro hff), if_neg h6']) (by rw [rs_heartbeat, if_neg (not_not_intro (And.intro h0 (And.intro h1 h2))), if_neg h3, if_neg (not_not_intro h4), if_neg (not_not_intro hff), if_neg h6', rs_sApp, ← hw9])
                  · refine lv_aload_n hx hb dX5_heartbeat_237 rfl (lv_at hl 2 rfl) ?_
                    refine rg_0 (f := 14) hx hb htz tin_X5 hown hK hG (by decide) (htz _ fX5_44) (by decide) rfl dX5_heartbeat_238 ?_
                    refine lv_aload_n hx hb dX5_heartbeat_241 rfl (lv_at hl 2 rfl) ?_
                    refine lv_iload_n hx hb dX5_heartbeat_242 rfl (lv_at hl 3 rfl) ?_
                    refine lv_iload_n hx hb dX5_heartbeat_243 rfl (lv_at hl 1 rfl) ?_
                    refine mz_Vi (As := [.int _, .int _]) (rest := [.ref _, .int _, .ref _]) ⟨hx, hb, hml, hown, hts⟩ (rc_place l D L hL _ _ _ hk) (tz_V htz mX5_place lX5_105 rfl rfl ⟨Nat.le_of_ble_eq_true rfl, Nat.le_of_ble_eq_true rfl⟩) (rrecv_0 hK hG (by decide)) rK_ok hK hG hS rfl hl.1 rfl (Nat.le_of_ble_eq_true rfl) dX5_heartbeat_244 ⟨Nat.zero_le _, Nat.zero_le _⟩ (fun H locs hG hS => ?_)
                    refine mz_topE (rs_place_same (u := u) (by intro z; rw [mz_uk (by decide)]; exact eW 5 z (by decide))) ?_
                    refine ra_12 hx hb hK hG (by decide) (hz.ix hc12 (mz_b_n.mp h8)) dX5_heartbeat_247 ?_
                    refine mz_topE (y := u 12 0 (rs_place u x (u 13 0 (5 * x + y).toNatClampNeg)).toNatClampNeg) (by rw [mz_uk (by decide)]; exact eW 12 _ (by decide)) ?_
                    refine lv_goto hx hb dX5_heartbeat_248 (tgt := 252) rfl ?_
                    refine mz_topE (y := (if rs_has u x (u 13 0 (5 * x + y).toNatClampNeg) then u 12 0 (rs_place u x (u 13 0 (5 * x + y).toNatClampNeg)).toNatClampNeg else 0)) (by first | rw [if_pos (mz_b_n.mp h8)] | rw [if_neg (mz_b_0.mp h8)]) ?_
                    refine rt_23 hx hb hL hK hG hS (by decide) (vp_in_nI (by omega) (by omega)) dX5_heartbeat_252 (fun H locs hG hS => ?_)
                    rw [nI_clamp (by omega)] at hG
                    refine lv_iconst (v := 3) hx hb dX5_heartbeat_253 (by decide) ?_
                    exact mz_iret hx hb hr hlk rK_ok hK hS hG dX5_heartbeat_254 (by rw [rs_heartbeat, if_neg (not_not_intro (And.intro h0 (And.intro h1 h2))), if_neg h3, if_neg (not_not_intro h4), if_neg (not_not_intro hff), if_neg h6']) (by rw [rs_heartbeat, if_neg (not_not_intro (And.intro h0 (And.intro h1 h2))), if_neg h3, if_neg (not_not_intro h4), if_neg (not_not_intro hff), if_neg h6', rs_sApp, ← hw9])
              · refine lv_aload_n hx hb dX5_heartbeat_79 rfl (lv_at hl 1 rfl) ?_
                refine lv_iconst (v := 5) hx hb dX5_heartbeat_80 (by decide) ?_
                refine lv_iload_n hx hb dX5_heartbeat_81 rfl (lv_at hl 2 rfl) ?_
                refine lv_iload_n hx hb dX5_heartbeat_82 rfl (lv_at hl 3 rfl) ?_
                refine mz_Vi (As := [.int _, .int _, .int _]) (rest := []) ⟨hx, hb, hml, hown, hts⟩ (rc_send l D L hL _ _ _ _ hk hff) (tz_V htz mX5_send lX5_113 rfl rfl ⟨Nat.le_of_ble_eq_true rfl, Nat.le_of_ble_eq_true rfl⟩) (rrecv_0 hK hG (by decide)) rK_ok hK hG hS rfl hl.1 rfl (Nat.le_of_ble_eq_true rfl) dX5_heartbeat_83 ⟨Nat.zero_le _, Nat.zero_le _⟩ (fun H locs hG hS => ?_)
                refine lv_istore hx hb dX5_heartbeat_86 hl (by decide) rfl (fun ls hl => ?_)
                have hl : lv_has ls 5 [(4, .int _), (3, .int _), (0, .ref _), (1, .int _), (2, .int _)] := hl
                refine lv_aload_n hx hb dX5_heartbeat_88 rfl (lv_at hl 2 rfl) ?_
                refine rg_0 (f := 21) hx hb htz tin_X5 hown hK hG (by decide) (htz _ fX5_65) (by decide) rfl dX5_heartbeat_89 ?_
                refine lv_iload hx hb dX5_heartbeat_92 (lv_at hl 0 rfl) ?_
                refine lv_aload_n hx hb dX5_heartbeat_94 rfl (lv_at hl 2 rfl) ?_
                refine rg_0 (f := 7) hx hb htz tin_X5 hown hK hG (by decide) (htz _ fX5_23) (by decide) rfl dX5_heartbeat_95 ?_
                refine lv_iload_n hx hb dX5_heartbeat_98 rfl (lv_at hl 3 rfl) ?_
                refine ra_5 hx hb hK hG (by decide) hk dX5_heartbeat_99 ?_
                refine mz_topE (y := u 5 0 x.toNatClampNeg) (by rw [rs_send_o _ _ _ _ _ (by decide)]) ?_
                refine rt_19 hx hb hL hK hG hS (by decide) (vp_in_nI (by omega) (by omega)) dX5_heartbeat_100 (fun H locs hG hS => ?_)
                rw [nI_clamp (by omega)] at hG
                refine lv_aload_n hx hb dX5_heartbeat_101 rfl (lv_at hl 2 rfl) ?_
                refine rg_0 (f := 22) hx hb htz tin_X5 hown hK hG (by decide) (htz _ fX5_68) (by decide) rfl dX5_heartbeat_102 ?_
                refine lv_iload hx hb dX5_heartbeat_105 (lv_at hl 0 rfl) ?_
                refine lv_aload_n hx hb dX5_heartbeat_107 rfl (lv_at hl 2 rfl) ?_
                refine rg_0 (f := 8) hx hb htz tin_X5 hown hK hG (by decide) (htz _ fX5_26) (by decide) rfl dX5_heartbeat_108 ?_
                refine lv_iload_n hx hb dX5_heartbeat_111 rfl (lv_at hl 3 rfl) ?_
                refine ra_6 hx hb hK hG (by decide) hk dX5_heartbeat_112 ?_
                refine mz_topE (y := u 6 0 x.toNatClampNeg) (by rw [mz_uk (by decide), rs_send_o _ _ _ _ _ (by decide)]) ?_
                refine rt_20 hx hb hL hK hG hS (by decide) (vp_in_nI (by omega) (by omega)) dX5_heartbeat_113 (fun H locs hG hS => ?_)
                rw [nI_clamp (by omega)] at hG
                refine lv_aload_n hx hb dX5_heartbeat_114 rfl (lv_at hl 2 rfl) ?_
                refine rg_0 (f := 25) hx hb htz tin_X5 hown hK hG (by decide) (htz _ fX5_77) (by decide) rfl dX5_heartbeat_115 ?_
                refine lv_iload hx hb dX5_heartbeat_118 (lv_at hl 0 rfl) ?_
                refine lv_aload_n hx hb dX5_heartbeat_120 rfl (lv_at hl 2 rfl) ?_
                refine rg_0 (f := 9) hx hb htz tin_X5 hown hK hG (by decide) (htz _ fX5_29) (by decide) rfl dX5_heartbeat_121 ?_
                refine lv_iload_n hx hb dX5_heartbeat_124 rfl (lv_at hl 3 rfl) ?_
                refine ra_7 hx hb hK hG (by decide) hk dX5_heartbeat_125 ?_
                refine mz_topE (y := u 7 0 x.toNatClampNeg) (by rw [mz_uk (by decide), mz_uk (by decide), rs_send_o _ _ _ _ _ (by decide)]) ?_
                refine rt_23 hx hb hL hK hG hS (by decide) (vp_in_nI (by omega) (by omega)) dX5_heartbeat_126 (fun H locs hG hS => ?_)
                rw [nI_clamp (by omega)] at hG
                refine lv_iconst (v := 5) hx hb dX5_heartbeat_127 (by decide) ?_
                exact mz_iret hx hb hr hlk rK_ok hK hS hG dX5_heartbeat_128 (by rw [rs_heartbeat, if_neg (not_not_intro (And.intro h0 (And.intro h1 h2))), if_neg h3, if_neg (not_not_intro h4), if_neg (not_not_intro hff), if_pos h6']) (by rw [rs_heartbeat, if_neg (not_not_intro (And.intro h0 (And.intro h1 h2))), if_neg h3, if_neg (not_not_intro h4), if_neg (not_not_intro hff), if_pos h6']; try rfl)
            · have hff : ¬ rs_ff (rl_S L) u < rl_S L := fun z => h5' ((rs_free_ge h40).mpr z)
              refine lv_bipush (v := (-4)) hx hb dX5_heartbeat_55 (by decide) ?_
              exact mz_iret hx hb hr hlk rK_ok hK hS hG dX5_heartbeat_57 (by rw [rs_heartbeat, if_neg (not_not_intro (And.intro h0 (And.intro h1 h2))), if_neg h3, if_neg (not_not_intro h4), if_pos hff]) (by rw [rs_heartbeat, if_neg (not_not_intro (And.intro h0 (And.intro h1 h2))), if_neg h3, if_neg (not_not_intro h4), if_pos hff]; try rfl)
          · refine lv_bipush (v := (-3)) hx hb dX5_heartbeat_45 (by decide) ?_
            exact mz_iret hx hb hr hlk rK_ok hK hS hG dX5_heartbeat_47 (by rw [rs_heartbeat, if_neg (not_not_intro (And.intro h0 (And.intro h1 h2))), if_neg h3, if_pos h4]) (by rw [rs_heartbeat, if_neg (not_not_intro (And.intro h0 (And.intro h1 h2))), if_neg h3, if_pos h4]; try rfl)
        · refine lv_bipush (v := (-2)) hx hb dX5_heartbeat_32 (by decide) ?_
          exact mz_iret hx hb hr hlk rK_ok hK hS hG dX5_heartbeat_34 (by rw [rs_heartbeat, if_neg (not_not_intro (And.intro h0 (And.intro h1 h2))), if_pos h3]) (by rw [rs_heartbeat, if_neg (not_not_intro (And.intro h0 (And.intro h1 h2))), if_pos h3]; try rfl)
      · refine lv_iconst (v := (-1)) hx hb dX5_heartbeat_21 (by decide) ?_
        exact mz_iret hx hb hr hlk rK_ok hK hS hG dX5_heartbeat_22 (by unfold rs_heartbeat; first | rw [if_pos (not_and_of_not_left _ h0)] | rw [if_pos (not_and_of_not_right _ (not_and_of_not_left _ h1))] | rw [if_pos (not_and_of_not_right _ (not_and_of_not_right _ (not_not_intro h2)))]) (by unfold rs_heartbeat; first | rw [if_pos (not_and_of_not_left _ h0)] | rw [if_pos (not_and_of_not_right _ (not_and_of_not_left _ h1))] | rw [if_pos (not_and_of_not_right _ (not_and_of_not_right _ (not_not_intro h2)))])

set_option maxRecDepth 100000 in
set_option maxHeartbeats 4000000 in
theorem rc_drop (l : Launch) (D : va_G) (L : rL) (hL : rL_ok L) (u : mz_S) (x : Int32) : mz_Ci l (rG D L) (rK D L) (rA L) yX5_drop (tz_w yX5_drop cX5_drop 2 (some .int)) ({ frames := 1, cells := 0, slots := 0, locals := 21 } : Room) [.ref (L.1 0 0), .int x] u ((rs_drop (rl_S L) u x).2) ((rs_drop (rl_S L) u x).1) := by
  refine mz_Ci.of (cc := cX5_drop) (maxL := 2) (ret := (some .int)) (by decide) rfl (Nat.le_of_ble_eq_true rfl) ?_
  intro p e s m args below meth c ls hx hb hr hlk hml hown hts hl hG hK hS
  have hl : lv_has ls 2 [(0, .ref (L.1 0 0)), (1, .int x)] := hl
  have htz : ∀ w ∈ tz, w.before args s = true := fun w h => hts w (List.mem_cons_of_mem _ h)
  have hc12 : rl_c L ≤ 12 := hL.1.2.2.2.1
  have hn5 : rl_n L ≤ 5 := hL.1.2.1
  have h40 : rl_S L ≤ 40 := hL.1.2.2.2.2.2
  refine lv_aload_n hx hb dX5_drop_0 rfl (lv_at hl 0 rfl) ?_
  refine lv_iload_n hx hb dX5_drop_1 rfl (lv_at hl 1 rfl) ?_
  refine mz_Vi (As := [.int _]) (rest := []) ⟨hx, hb, hml, hown, hts⟩ (rc_isSlot l D L hL _ _) (tz_V htz mX5_isSlot lX5_137 rfl rfl ⟨Nat.le_of_ble_eq_true rfl, Nat.le_of_ble_eq_true rfl⟩) (rrecv_0 hK hG (by decide)) rK_ok hK hG hS rfl hl.1 rfl (Nat.le_of_ble_eq_true rfl) dX5_drop_2 ⟨Nat.zero_le _, Nat.zero_le _⟩ (fun H locs hG hS => ?_)
  refine mz_ifne_b hx hb dX5_drop_5 (tgt := 10) rfl (fun h0 => ?_) (fun h0 => ?_)
  · have hx9 : vp_in x 40 := vp_up (nz_in (by omega) h0) h40
    refine lv_aload_n hx hb dX5_drop_10 rfl (lv_at hl 0 rfl) ?_
    refine rg_0 (f := 17) hx hb htz tin_X5 hown hK hG (by decide) (htz _ fX5_53) (by decide) rfl dX5_drop_11 ?_
    refine lv_iload_n hx hb dX5_drop_14 rfl (lv_at hl 1 rfl) ?_
    refine ra_15 hx hb hK hG (by decide) hx9 dX5_drop_15 ?_
    refine lv_if_ne hx hb dX5_drop_16 (tgt := 22) rfl (fun h1 => ?_) (fun h1 => ?_)
    · refine lv_aload_n hx hb dX5_drop_22 rfl (lv_at hl 0 rfl) ?_
      refine rg_0 (f := 17) hx hb htz tin_X5 hown hK hG (by decide) (htz _ fX5_53) (by decide) rfl dX5_drop_23 ?_
      refine lv_iload_n hx hb dX5_drop_26 rfl (lv_at hl 1 rfl) ?_
      refine lv_iconst (v := 0) hx hb dX5_drop_27 (by decide) ?_
      refine rt_15 hx hb hL hK hG hS (by decide) hx9 dX5_drop_28 (fun H locs hG hS => ?_)
      refine lv_iconst (v := 0) hx hb dX5_drop_29 (by decide) ?_
      exact mz_iret hx hb hr hlk rK_ok hK hS hG dX5_drop_30 (by rw [rs_drop, if_neg (not_not_intro h0), if_neg h1]) (by rw [rs_drop, if_neg (not_not_intro h0), if_neg h1])
    · refine lv_bipush (v := (-5)) hx hb dX5_drop_19 (by decide) ?_
      exact mz_iret hx hb hr hlk rK_ok hK hS hG dX5_drop_21 (by rw [rs_drop, if_neg (not_not_intro h0), if_pos h1]) (by rw [rs_drop, if_neg (not_not_intro h0), if_pos h1])
  · refine lv_iconst (v := (-1)) hx hb dX5_drop_8 (by decide) ?_
    exact mz_iret hx hb hr hlk rK_ok hK hS hG dX5_drop_9 (by rw [rs_drop, if_pos h0]) (by rw [rs_drop, if_pos h0])

set_option maxRecDepth 100000 in
set_option maxHeartbeats 4000000 in
theorem rc_duplicate (l : Launch) (D : va_G) (L : rL) (hL : rL_ok L) (u : mz_S) (x : Int32) (hy : u 21 0 x.toNatClampNeg = 0 ∨ u 21 0 x.toNatClampNeg = 1) : mz_Ci l (rG D L) (rK D L) (rA L) yX5_duplicate (tz_w yX5_duplicate cX5_duplicate 3 (some .int)) ({ frames := 1, cells := 0, slots := 0, locals := 22 } : Room) [.ref (L.1 0 0), .int x] u ((rs_duplicate (rl_S L) u x).2) ((rs_duplicate (rl_S L) u x).1) := by
  refine mz_Ci.of (cc := cX5_duplicate) (maxL := 3) (ret := (some .int)) (by decide) rfl (Nat.le_of_ble_eq_true rfl) ?_
  intro p e s m args below meth c ls hx hb hr hlk hml hown hts hl hG hK hS
  have hl : lv_has ls 3 [(0, .ref (L.1 0 0)), (1, .int x)] := hl
  have htz : ∀ w ∈ tz, w.before args s = true := fun w h => hts w (List.mem_cons_of_mem _ h)
  have hc12 : rl_c L ≤ 12 := hL.1.2.2.2.1
  have hn5 : rl_n L ≤ 5 := hL.1.2.1
  have h40 : rl_S L ≤ 40 := hL.1.2.2.2.2.2
  refine lv_aload_n hx hb dX5_duplicate_0 rfl (lv_at hl 0 rfl) ?_
  refine lv_iload_n hx hb dX5_duplicate_1 rfl (lv_at hl 1 rfl) ?_
  refine mz_Vi (As := [.int _]) (rest := []) ⟨hx, hb, hml, hown, hts⟩ (rc_isSlot l D L hL _ _) (tz_V htz mX5_isSlot lX5_137 rfl rfl ⟨Nat.le_of_ble_eq_true rfl, Nat.le_of_ble_eq_true rfl⟩) (rrecv_0 hK hG (by decide)) rK_ok hK hG hS rfl hl.1 rfl (Nat.le_of_ble_eq_true rfl) dX5_duplicate_2 ⟨Nat.zero_le _, Nat.zero_le _⟩ (fun H locs hG hS => ?_)
  refine mz_ifne_b hx hb dX5_duplicate_5 (tgt := 10) rfl (fun h0 => ?_) (fun h0 => ?_)
  · have hx9 : vp_in x 40 := vp_up (nz_in (by omega) h0) h40
    refine lv_aload_n hx hb dX5_duplicate_10 rfl (lv_at hl 0 rfl) ?_
    refine rg_0 (f := 17) hx hb htz tin_X5 hown hK hG (by decide) (htz _ fX5_53) (by decide) rfl dX5_duplicate_11 ?_
    refine lv_iload_n hx hb dX5_duplicate_14 rfl (lv_at hl 1 rfl) ?_
    refine ra_15 hx hb hK hG (by decide) hx9 dX5_duplicate_15 ?_
    refine lv_if_ne hx hb dX5_duplicate_16 (tgt := 22) rfl (fun h1 => ?_) (fun h1 => ?_)
    · refine lv_aload_n hx hb dX5_duplicate_22 rfl (lv_at hl 0 rfl) ?_
      refine mz_Vi (As := []) (rest := []) ⟨hx, hb, hml, hown, hts⟩ (rc_freeSlot l D L hL _) (tz_V htz mX5_freeSlot lX5_109 rfl rfl ⟨Nat.le_of_ble_eq_true rfl, Nat.le_of_ble_eq_true rfl⟩) (rrecv_0 hK hG (by decide)) rK_ok hK hG hS rfl hl.1 rfl (Nat.le_of_ble_eq_true rfl) dX5_duplicate_23 ⟨Nat.zero_le _, Nat.zero_le _⟩ (fun H locs hG hS => ?_)
      refine lv_istore_n hx hb dX5_duplicate_26 rfl hl (by decide) rfl (fun ls hl => ?_)
      have hl : lv_has ls 3 [(2, .int _), (0, .ref _), (1, .int _)] := hl
      refine lv_iload_n hx hb dX5_duplicate_27 rfl (lv_at hl 0 rfl) ?_
      refine mz_if_ge hx hb dX5_duplicate_28 (tgt := 34) rfl (fun h2 h2' => ?_) (fun h2 h2' => ?_)
      · have hff : rs_ff (rl_S L) u < rl_S L := (rs_free_ge h40).mp h2'
        have hl : lv_has ls 3 [(2, .int (rs_free (rl_S L) u)), (0, .ref (L.1 0 0)), (1, .int x)] := hl
        rw [rs_free, if_pos hff] at hl
        refine lv_aload_n hx hb dX5_duplicate_34 rfl (lv_at hl 1 rfl) ?_
        refine rg_0 (f := 17) hx hb htz tin_X5 hown hK hG (by decide) (htz _ fX5_53) (by decide) rfl dX5_duplicate_35 ?_
        refine lv_iload_n hx hb dX5_duplicate_38 rfl (lv_at hl 0 rfl) ?_
        refine lv_aload_n hx hb dX5_duplicate_39 rfl (lv_at hl 1 rfl) ?_
        refine rg_0 (f := 17) hx hb htz tin_X5 hown hK hG (by decide) (htz _ fX5_53) (by decide) rfl dX5_duplicate_40 ?_
        refine lv_iload_n hx hb dX5_duplicate_43 rfl (lv_at hl 2 rfl) ?_
        refine ra_15 hx hb hK hG (by decide) hx9 dX5_duplicate_44 ?_
        refine rt_15 hx hb hL hK hG hS (by decide) (vp_in_nI (by omega) (by omega)) dX5_duplicate_45 (fun H locs hG hS => ?_)
        rw [nI_clamp (by omega)] at hG
        refine lv_aload_n hx hb dX5_duplicate_46 rfl (lv_at hl 1 rfl) ?_
        refine rg_0 (f := 18) hx hb htz tin_X5 hown hK hG (by decide) (htz _ fX5_56) (by decide) rfl dX5_duplicate_47 ?_
        refine lv_iload_n hx hb dX5_duplicate_50 rfl (lv_at hl 0 rfl) ?_
        refine lv_aload_n hx hb dX5_duplicate_51 rfl (lv_at hl 1 rfl) ?_
        refine rg_0 (f := 18) hx hb htz tin_X5 hown hK hG (by decide) (htz _ fX5_56) (by decide) rfl dX5_duplicate_52 ?_
        refine lv_iload_n hx hb dX5_duplicate_55 rfl (lv_at hl 2 rfl) ?_
        refine ra_16 hx hb hK hG (by decide) hx9 dX5_duplicate_56 ?_
        refine mz_topE (y := u 16 0 x.toNatClampNeg) (by simp [mz_at]) ?_
        refine rt_16 hx hb hL hK hG hS (by decide) (vp_in_nI (by omega) (by omega)) dX5_duplicate_57 (fun H locs hG hS => ?_)
        rw [nI_clamp (by omega)] at hG
        refine lv_aload_n hx hb dX5_duplicate_58 rfl (lv_at hl 1 rfl) ?_
        refine rg_0 (f := 19) hx hb htz tin_X5 hown hK hG (by decide) (htz _ fX5_59) (by decide) rfl dX5_duplicate_59 ?_
        refine lv_iload_n hx hb dX5_duplicate_62 rfl (lv_at hl 0 rfl) ?_
        refine lv_aload_n hx hb dX5_duplicate_63 rfl (lv_at hl 1 rfl) ?_
        refine rg_0 (f := 19) hx hb htz tin_X5 hown hK hG (by decide) (htz _ fX5_59) (by decide) rfl dX5_duplicate_64 ?_
        refine lv_iload_n hx hb dX5_duplicate_67 rfl (lv_at hl 2 rfl) ?_
        refine ra_17 hx hb hK hG (by decide) hx9 dX5_duplicate_68 ?_
        refine mz_topE (y := u 17 0 x.toNatClampNeg) (by simp [mz_at]) ?_
        refine rt_17 hx hb hL hK hG hS (by decide) (vp_in_nI (by omega) (by omega)) dX5_duplicate_69 (fun H locs hG hS => ?_)
        rw [nI_clamp (by omega)] at hG
        refine lv_aload_n hx hb dX5_duplicate_70 rfl (lv_at hl 1 rfl) ?_
        refine rg_0 (f := 20) hx hb htz tin_X5 hown hK hG (by decide) (htz _ fX5_62) (by decide) rfl dX5_duplicate_71 ?_
        refine lv_iload_n hx hb dX5_duplicate_74 rfl (lv_at hl 0 rfl) ?_
        refine lv_aload_n hx hb dX5_duplicate_75 rfl (lv_at hl 1 rfl) ?_
        refine rg_0 (f := 20) hx hb htz tin_X5 hown hK hG (by decide) (htz _ fX5_62) (by decide) rfl dX5_duplicate_76 ?_
        refine lv_iload_n hx hb dX5_duplicate_79 rfl (lv_at hl 2 rfl) ?_
        refine ra_18 hx hb hK hG (by decide) hx9 dX5_duplicate_80 ?_
        refine mz_topE (y := u 18 0 x.toNatClampNeg) (by simp [mz_at]) ?_
        refine rt_18 hx hb hL hK hG hS (by decide) (vp_in_nI (by omega) (by omega)) dX5_duplicate_81 (fun H locs hG hS => ?_)
        rw [nI_clamp (by omega)] at hG
        refine lv_aload_n hx hb dX5_duplicate_82 rfl (lv_at hl 1 rfl) ?_
        refine rg_0 (f := 21) hx hb htz tin_X5 hown hK hG (by decide) (htz _ fX5_65) (by decide) rfl dX5_duplicate_83 ?_
        refine lv_iload_n hx hb dX5_duplicate_86 rfl (lv_at hl 0 rfl) ?_
        refine lv_aload_n hx hb dX5_duplicate_87 rfl (lv_at hl 1 rfl) ?_
        refine rg_0 (f := 21) hx hb htz tin_X5 hown hK hG (by decide) (htz _ fX5_65) (by decide) rfl dX5_duplicate_88 ?_
        refine lv_iload_n hx hb dX5_duplicate_91 rfl (lv_at hl 2 rfl) ?_
        refine ra_19 hx hb hK hG (by decide) hx9 dX5_duplicate_92 ?_
        refine mz_topE (y := u 19 0 x.toNatClampNeg) (by simp [mz_at]) ?_
        refine rt_19 hx hb hL hK hG hS (by decide) (vp_in_nI (by omega) (by omega)) dX5_duplicate_93 (fun H locs hG hS => ?_)
        rw [nI_clamp (by omega)] at hG
        refine lv_aload_n hx hb dX5_duplicate_94 rfl (lv_at hl 1 rfl) ?_
        refine rg_0 (f := 22) hx hb htz tin_X5 hown hK hG (by decide) (htz _ fX5_68) (by decide) rfl dX5_duplicate_95 ?_
        refine lv_iload_n hx hb dX5_duplicate_98 rfl (lv_at hl 0 rfl) ?_
        refine lv_aload_n hx hb dX5_duplicate_99 rfl (lv_at hl 1 rfl) ?_
        refine rg_0 (f := 22) hx hb htz tin_X5 hown hK hG (by decide) (htz _ fX5_68) (by decide) rfl dX5_duplicate_100 ?_
        refine lv_iload_n hx hb dX5_duplicate_103 rfl (lv_at hl 2 rfl) ?_
        refine ra_20 hx hb hK hG (by decide) hx9 dX5_duplicate_104 ?_
        refine mz_topE (y := u 20 0 x.toNatClampNeg) (by simp [mz_at]) ?_
        refine rt_20 hx hb hL hK hG hS (by decide) (vp_in_nI (by omega) (by omega)) dX5_duplicate_105 (fun H locs hG hS => ?_)
        rw [nI_clamp (by omega)] at hG
        refine lv_aload_n hx hb dX5_duplicate_106 rfl (lv_at hl 1 rfl) ?_
        refine rg_0 (f := 23) hx hb htz tin_X5 hown hK hG (by decide) (htz _ fX5_71) (by decide) rfl dX5_duplicate_107 ?_
        refine lv_iload_n hx hb dX5_duplicate_110 rfl (lv_at hl 0 rfl) ?_
        refine lv_aload_n hx hb dX5_duplicate_111 rfl (lv_at hl 1 rfl) ?_
        refine rg_0 (f := 23) hx hb htz tin_X5 hown hK hG (by decide) (htz _ fX5_71) (by decide) rfl dX5_duplicate_112 ?_
        refine lv_iload_n hx hb dX5_duplicate_115 rfl (lv_at hl 2 rfl) ?_
        refine ra_21 hx hb hK hG (by decide) hx9 dX5_duplicate_116 ?_
        refine mz_topE (y := u 21 0 x.toNatClampNeg) (by simp [mz_at]) ?_
        refine rt_21 hx hb hL hK hG hS (by decide) (vp_in_nI (by omega) (by omega)) (by rcases hy with z | z <;> rw [z] <;> rfl) dX5_duplicate_117 (fun H locs hG hS => ?_)
        rw [nI_clamp (by omega)] at hG
        refine lv_aload_n hx hb dX5_duplicate_118 rfl (lv_at hl 1 rfl) ?_
        refine rg_0 (f := 24) hx hb htz tin_X5 hown hK hG (by decide) (htz _ fX5_74) (by decide) rfl dX5_duplicate_119 ?_
        refine lv_iload_n hx hb dX5_duplicate_122 rfl (lv_at hl 0 rfl) ?_
        refine lv_aload_n hx hb dX5_duplicate_123 rfl (lv_at hl 1 rfl) ?_
        refine rg_0 (f := 24) hx hb htz tin_X5 hown hK hG (by decide) (htz _ fX5_74) (by decide) rfl dX5_duplicate_124 ?_
        refine lv_iload_n hx hb dX5_duplicate_127 rfl (lv_at hl 2 rfl) ?_
        refine ra_22 hx hb hK hG (by decide) hx9 dX5_duplicate_128 ?_
        refine mz_topE (y := u 22 0 x.toNatClampNeg) (by simp [mz_at]) ?_
        refine rt_22 hx hb hL hK hG hS (by decide) (vp_in_nI (by omega) (by omega)) dX5_duplicate_129 (fun H locs hG hS => ?_)
        rw [nI_clamp (by omega)] at hG
        refine lv_aload_n hx hb dX5_duplicate_130 rfl (lv_at hl 1 rfl) ?_
        refine rg_0 (f := 25) hx hb htz tin_X5 hown hK hG (by decide) (htz _ fX5_77) (by decide) rfl dX5_duplicate_131 ?_
        refine lv_iload_n hx hb dX5_duplicate_134 rfl (lv_at hl 0 rfl) ?_
        refine lv_aload_n hx hb dX5_duplicate_135 rfl (lv_at hl 1 rfl) ?_
        refine rg_0 (f := 25) hx hb htz tin_X5 hown hK hG (by decide) (htz _ fX5_77) (by decide) rfl dX5_duplicate_136 ?_
        refine lv_iload_n hx hb dX5_duplicate_139 rfl (lv_at hl 2 rfl) ?_
        refine ra_23 hx hb hK hG (by decide) hx9 dX5_duplicate_140 ?_
        refine mz_topE (y := u 23 0 x.toNatClampNeg) (by simp [mz_at]) ?_
        refine rt_23 hx hb hL hK hG hS (by decide) (vp_in_nI (by omega) (by omega)) dX5_duplicate_141 (fun H locs hG hS => ?_)
        rw [nI_clamp (by omega)] at hG
        refine lv_aload_n hx hb dX5_duplicate_142 rfl (lv_at hl 1 rfl) ?_
        refine rg_0 (f := 26) hx hb htz tin_X5 hown hK hG (by decide) (htz _ fX5_80) (by decide) rfl dX5_duplicate_143 ?_
        refine lv_iload_n hx hb dX5_duplicate_146 rfl (lv_at hl 0 rfl) ?_
        refine lv_aload_n hx hb dX5_duplicate_147 rfl (lv_at hl 1 rfl) ?_
        refine rg_0 (f := 26) hx hb htz tin_X5 hown hK hG (by decide) (htz _ fX5_80) (by decide) rfl dX5_duplicate_148 ?_
        refine lv_iload_n hx hb dX5_duplicate_151 rfl (lv_at hl 2 rfl) ?_
        refine ra_24 hx hb hK hG (by decide) hx9 dX5_duplicate_152 ?_
        refine mz_topE (y := u 24 0 x.toNatClampNeg) (by simp [mz_at]) ?_
        refine rt_24 hx hb hL hK hG hS (by decide) (vp_in_nI (by omega) (by omega)) dX5_duplicate_153 (fun H locs hG hS => ?_)
        rw [nI_clamp (by omega)] at hG
        refine lv_iload_n hx hb dX5_duplicate_154 rfl (lv_at hl 0 rfl) ?_
        exact mz_iret hx hb hr hlk rK_ok hK hS hG dX5_duplicate_155 (by rw [rs_duplicate, if_neg (not_not_intro h0), if_neg h1, if_neg (not_not_intro hff)]) (by rw [rs_duplicate, if_neg (not_not_intro h0), if_neg h1, if_neg (not_not_intro hff)]; try rfl)
      · have hff : ¬ rs_ff (rl_S L) u < rl_S L := fun z => h2' ((rs_free_ge h40).mpr z)
        refine lv_bipush (v := (-4)) hx hb dX5_duplicate_31 (by decide) ?_
        exact mz_iret hx hb hr hlk rK_ok hK hS hG dX5_duplicate_33 (by rw [rs_duplicate, if_neg (not_not_intro h0), if_neg h1, if_pos hff]) (by rw [rs_duplicate, if_neg (not_not_intro h0), if_neg h1, if_pos hff]; try rfl)
    · refine lv_bipush (v := (-5)) hx hb dX5_duplicate_19 (by decide) ?_
      exact mz_iret hx hb hr hlk rK_ok hK hS hG dX5_duplicate_21 (by rw [rs_duplicate, if_neg (not_not_intro h0), if_pos h1]) (by rw [rs_duplicate, if_neg (not_not_intro h0), if_pos h1]; try rfl)
  · refine lv_iconst (v := (-1)) hx hb dX5_duplicate_8 (by decide) ?_
    exact mz_iret hx hb hr hlk rK_ok hK hS hG dX5_duplicate_9 (by rw [rs_duplicate, if_pos h0]) (by rw [rs_duplicate, if_pos h0]; try rfl)

set_option maxRecDepth 100000 in
set_option maxHeartbeats 4000000 in
theorem rc_deliver (l : Launch) (D : va_G) (L : rL) (hL : rL_ok L) (u : mz_S) (x : Int32) (hq : ∀ i, i < rl_n L → rzc (rl_c L) u (nI i) (u 8 0 i)) (hm : ∀ j, j < rl_S L → ¬ u 15 0 j = 0 → ∃ f t, f < rl_n L ∧ t < rl_n L ∧ u 16 0 j = nI f ∧ u 17 0 j = nI t ∧ (rs_has u (nI t) (u 19 0 j) → ∃ g e : Nat, u 19 0 j - u 5 0 t = nI g ∧ u 10 0 t = nI e ∧ g ≤ e ∧ e ≤ 12)) : mz_Ci l (rG D L) (rK D L) (rA L) yX5_deliver (tz_w yX5_deliver cX5_deliver 4 (some .int)) ({ frames := 6, cells := 0, slots := 0, locals := 138 } : Room) [.ref (L.1 0 0), .int x] u ((rs_deliver (rl_n L) (rl_c L) (rl_S L) u x).2) ((rs_deliver (rl_n L) (rl_c L) (rl_S L) u x).1) := by
  refine mz_Ci.of (cc := cX5_deliver) (maxL := 4) (ret := (some .int)) (by decide) rfl (Nat.le_of_ble_eq_true rfl) ?_
  intro p e s m args below meth c ls hx hb hr hlk hml hown hts hl hG hK hS
  have hl : lv_has ls 4 [(0, .ref (L.1 0 0)), (1, .int x)] := hl
  have htz : ∀ w ∈ tz, w.before args s = true := fun w h => hts w (List.mem_cons_of_mem _ h)
  have hc12 : rl_c L ≤ 12 := hL.1.2.2.2.1
  have hn5 : rl_n L ≤ 5 := hL.1.2.1
  have h40 : rl_S L ≤ 40 := hL.1.2.2.2.2.2
  refine lv_aload_n hx hb dX5_deliver_0 rfl (lv_at hl 0 rfl) ?_
  refine lv_iload_n hx hb dX5_deliver_1 rfl (lv_at hl 1 rfl) ?_
  refine mz_Vi (As := [.int _]) (rest := []) ⟨hx, hb, hml, hown, hts⟩ (rc_isSlot l D L hL _ _) (tz_V htz mX5_isSlot lX5_137 rfl rfl ⟨Nat.le_of_ble_eq_true rfl, Nat.le_of_ble_eq_true rfl⟩) (rrecv_0 hK hG (by decide)) rK_ok hK hG hS rfl hl.1 rfl (Nat.le_of_ble_eq_true rfl) dX5_deliver_2 ⟨Nat.zero_le _, Nat.zero_le _⟩ (fun H locs hG hS => ?_)
  refine mz_ifne_b hx hb dX5_deliver_5 (tgt := 10) rfl (fun h0 => ?_) (fun h0 => ?_)
  · have hx9 : vp_in x 40 := vp_up (nz_in (by omega) h0) h40
    refine lv_aload_n hx hb dX5_deliver_10 rfl (lv_at hl 0 rfl) ?_
    refine rg_0 (f := 17) hx hb htz tin_X5 hown hK hG (by decide) (htz _ fX5_53) (by decide) rfl dX5_deliver_11 ?_
    refine lv_iload_n hx hb dX5_deliver_14 rfl (lv_at hl 1 rfl) ?_
    refine ra_15 hx hb hK hG (by decide) hx9 dX5_deliver_15 ?_
    refine lv_istore_n hx hb dX5_deliver_16 rfl hl (by decide) rfl (fun ls hl => ?_)
    have hl : lv_has ls 4 [(2, .int _), (0, .ref _), (1, .int _)] := hl
    refine lv_iload_n hx hb dX5_deliver_17 rfl (lv_at hl 0 rfl) ?_
    refine lv_if_ne hx hb dX5_deliver_18 (tgt := 24) rfl (fun h1 => ?_) (fun h1 => ?_)
    · refine lv_aload_n hx hb dX5_deliver_24 rfl (lv_at hl 1 rfl) ?_
      refine rg_0 (f := 17) hx hb htz tin_X5 hown hK hG (by decide) (htz _ fX5_53) (by decide) rfl dX5_deliver_25 ?_
      refine lv_iload_n hx hb dX5_deliver_28 rfl (lv_at hl 2 rfl) ?_
      refine lv_iconst (v := 0) hx hb dX5_deliver_29 (by decide) ?_
      refine rt_15 hx hb hL hK hG hS (by decide) hx9 dX5_deliver_30 (fun H locs hG hS => ?_)
      have hj9 : x.toNatClampNeg < rl_S L := nz_cl (nz_in (by omega) h0)
      obtain ⟨f9, t9, hf9, ht9, ef, et, hb8⟩ := hm _ hj9 h1
      have hf5 : vp_in (u 16 0 x.toNatClampNeg) 5 := by rw [ef]; exact vp_in_nI (by omega) (by omega)
      have ht5 : vp_in (u 17 0 x.toNatClampNeg) 5 := by rw [et]; exact vp_in_nI (by omega) (by omega)
      have hq9 := hq t9 ht9
      rw [← et] at hq9 hb8
      have eT : t9 = (u 17 0 x.toNatClampNeg).toNatClampNeg := by rw [et, nI_clamp (by omega)]
      rw [eT] at hq9 hb8
      obtain ⟨w, hw9⟩ : ∃ w, w = mz_u u 15 0 x.toNatClampNeg 0 := ⟨_, rfl⟩
      rw [← hw9] at hG
      have eW : ∀ a y, a ≠ 15 → w a 0 y = u a 0 y := fun a y h => by rw [hw9, mz_uk h]
      have hffw : rs_ff (rl_S L) w < rl_S L := (mz_ff_cnt _ _).mpr (mz_cnt_lt (x := x.toNatClampNeg) (by rw [hw9, mz_us]) _ hj9)
      refine lv_aload_n hx hb dX5_deliver_31 rfl (lv_at hl 1 rfl) ?_
      refine rg_0 (f := 19) hx hb htz tin_X5 hown hK hG (by decide) (htz _ fX5_59) (by decide) rfl dX5_deliver_32 ?_
      refine lv_iload_n hx hb dX5_deliver_35 rfl (lv_at hl 2 rfl) ?_
      refine ra_17 hx hb hK hG (by decide) hx9 dX5_deliver_36 ?_
      refine mz_topE (eW 17 _ (by decide)) ?_
      refine lv_istore_n hx hb dX5_deliver_37 rfl hl (by decide) rfl (fun ls hl => ?_)
      have hl : lv_has ls 4 [(3, .int _), (2, .int _), (0, .ref _), (1, .int _)] := hl
      refine lv_aload_n hx hb dX5_deliver_38 rfl (lv_at hl 2 rfl) ?_
      refine rg_0 (f := 3) hx hb htz tin_X5 hown hK hG (by decide) (htz _ fX5_7) (by decide) rfl dX5_deliver_39 ?_
      refine lv_iload_n hx hb dX5_deliver_42 rfl (lv_at hl 0 rfl) ?_
      refine ra_1 hx hb hK hG (by decide) ht5 dX5_deliver_43 ?_
      refine mz_topE (eW 1 _ (by decide)) ?_
      refine lv_if_ne hx hb dX5_deliver_44 (tgt := 49) rfl (fun h2 => ?_) (fun h2 => ?_)
      · refine lv_aload_n hx hb dX5_deliver_49 rfl (lv_at hl 2 rfl) ?_
        refine rg_0 (f := 20) hx hb htz tin_X5 hown hK hG (by decide) (htz _ fX5_62) (by decide) rfl dX5_deliver_50 ?_
        refine lv_iload_n hx hb dX5_deliver_53 rfl (lv_at hl 3 rfl) ?_
        refine ra_18 hx hb hK hG (by decide) hx9 dX5_deliver_54 ?_
        refine mz_topE (eW 18 _ (by decide)) ?_
        refine lv_aload_n hx hb dX5_deliver_55 rfl (lv_at hl 2 rfl) ?_
        refine rg_0 (f := 5) hx hb htz tin_X5 hown hK hG (by decide) (htz _ fX5_17) (by decide) rfl dX5_deliver_56 ?_
        refine lv_iload_n hx hb dX5_deliver_59 rfl (lv_at hl 0 rfl) ?_
        refine ra_3 hx hb hK hG (by decide) ht5 dX5_deliver_60 ?_
        refine mz_topE (eW 3 _ (by decide)) ?_
        refine mz_icmp_le hx hb dX5_deliver_61 (tgt := 90) rfl (fun h3 h3' => ?_) (fun h3 h3' => ?_)
        · obtain ⟨v, hv9, hG, eV, e15⟩ : ∃ v, v = (if w 3 0 (u 17 0 x.toNatClampNeg).toNatClampNeg < w 18 0 x.toNatClampNeg then rs_enter w (u 17 0 x.toNatClampNeg) (w 18 0 x.toNatClampNeg) else w) ∧ rG D L v H ∧ (∀ a y, a ≠ 2 → a ≠ 3 → a ≠ 4 → v a 0 y = w a 0 y) ∧ rs_ff (rl_S L) v = rs_ff (rl_S L) w := by
            rw [eW 3 _ (by decide), eW 18 _ (by decide)]
            first
              | exact ⟨_, (by rw [if_neg h3]), hG, (fun _ _ _ _ _ => rfl), rfl⟩
              | exact ⟨_, (by rw [if_pos h3]; rfl), hG, (fun a y h2 h3 h4 => by rw [mz_uk h4, mz_uk h2, mz_uk h3]), (by rw [rs_ff_u (by decide), rs_ff_u (by decide), rs_ff_u (by decide)])⟩
          refine lv_aload_n hx hb dX5_deliver_90 rfl (lv_at hl 2 rfl) ?_
          refine lv_iload_n hx hb dX5_deliver_91 rfl (lv_at hl 1 rfl) ?_
          refine lv_iload_n hx hb dX5_deliver_92 rfl (lv_at hl 3 rfl) ?_
          refine lv_iload_n hx hb dX5_deliver_93 rfl (lv_at hl 0 rfl) ?_
          refine lv_aload_n hx hb dX5_deliver_94 rfl (lv_at hl 2 rfl) ?_
          refine rg_0 (f := 18) hx hb htz tin_X5 hown hK hG (by decide) (htz _ fX5_56) (by decide) rfl dX5_deliver_95 ?_
          refine lv_iload_n hx hb dX5_deliver_98 rfl (lv_at hl 3 rfl) ?_
          refine ra_16 hx hb hK hG (by decide) hx9 dX5_deliver_99 ?_
          refine mz_topE ((eV 16 _ (by decide) (by decide) (by decide)).trans (eW 16 _ (by decide))) ?_
          refine mz_Vv (As := [.int _, .int _, .int _, .int _]) (rest := []) ⟨hx, hb, hml, hown, hts⟩ (rc_act l D L hL _ _ _ _ _ hx9 hf5 (hq9.same (fun y => (eV 5 y (by decide) (by decide) (by decide)).trans (eW 5 y (by decide))) (fun y => (eV 10 y (by decide) (by decide) (by decide)).trans (eW 10 y (by decide))) ((eV 8 _ (by decide) (by decide) (by decide)).trans (eW 8 _ (by decide)))) (by rw [e15]; exact hffw) (by rw [(eV 19 _ (by decide) (by decide) (by decide)).trans (eW 19 _ (by decide)), (eV 5 _ (by decide) (by decide) (by decide)).trans (eW 5 _ (by decide)), (eV 10 _ (by decide) (by decide) (by decide)).trans (eW 10 _ (by decide))]; intro z; exact hb8 ((rs_has_same (u := u) (by intro y; rw [mz_uk (by decide), eV 5 y (by decide) (by decide) (by decide), eW 5 y (by decide)]) (by intro y; rw [mz_uk (by decide), eV 10 y (by decide) (by decide) (by decide), eW 10 y (by decide)])).mp z))) (tz_V htz mX5_act lX5_140 rfl rfl ⟨Nat.le_of_ble_eq_true rfl, Nat.le_of_ble_eq_true rfl⟩) (rrecv_0 hK hG (by decide)) rK_ok hK hG hS rfl hl.1 rfl (Nat.le_of_ble_eq_true rfl) dX5_deliver_100 ⟨Nat.zero_le _, Nat.zero_le _⟩ (fun H locs hG hS => ?_)
          refine lv_iload_n hx hb dX5_deliver_103 rfl (lv_at hl 1 rfl) ?_
          exact mz_iret hx hb hr hlk rK_ok hK hS hG dX5_deliver_104 (by rw [rs_deliver, if_neg (not_not_intro h0), if_neg h1, if_neg h2]) (by rw [rs_deliver, if_neg (not_not_intro h0), if_neg h1, if_neg h2, ← hw9, rs_rcv, ← hv9])
        · refine lv_aload_n hx hb dX5_deliver_64 rfl (lv_at hl 2 rfl) ?_
          refine rg_0 (f := 5) hx hb htz tin_X5 hown hK hG (by decide) (htz _ fX5_17) (by decide) rfl dX5_deliver_65 ?_
          refine lv_iload_n hx hb dX5_deliver_68 rfl (lv_at hl 0 rfl) ?_
          refine lv_aload_n hx hb dX5_deliver_69 rfl (lv_at hl 2 rfl) ?_
          refine rg_0 (f := 20) hx hb htz tin_X5 hown hK hG (by decide) (htz _ fX5_62) (by decide) rfl dX5_deliver_70 ?_
          refine lv_iload_n hx hb dX5_deliver_73 rfl (lv_at hl 3 rfl) ?_
          refine ra_18 hx hb hK hG (by decide) hx9 dX5_deliver_74 ?_
          refine mz_topE (eW 18 _ (by decide)) ?_
          refine rt_3 hx hb hL hK hG hS (by decide) ht5 dX5_deliver_75 (fun H locs hG hS => ?_)
          refine lv_aload_n hx hb dX5_deliver_76 rfl (lv_at hl 2 rfl) ?_
          refine rg_0 (f := 4) hx hb htz tin_X5 hown hK hG (by decide) (htz _ fX5_13) (by decide) rfl dX5_deliver_77 ?_
          refine lv_iload_n hx hb dX5_deliver_80 rfl (lv_at hl 0 rfl) ?_
          refine lv_iconst (v := 0) hx hb dX5_deliver_81 (by decide) ?_
          refine rt_2 hx hb hL hK hG hS (by decide) ht5 dX5_deliver_82 (fun H locs hG hS => ?_)
          refine lv_aload_n hx hb dX5_deliver_83 rfl (lv_at hl 2 rfl) ?_
          refine rg_0 (f := 6) hx hb htz tin_X5 hown hK hG (by decide) (htz _ fX5_20) (by decide) rfl dX5_deliver_84 ?_
          refine lv_iload_n hx hb dX5_deliver_87 rfl (lv_at hl 0 rfl) ?_
          refine lv_iconst (v := (-1)) hx hb dX5_deliver_88 (by decide) ?_
          refine rt_4 hx hb hL hK hG hS (by decide) ht5 dX5_deliver_89 (fun H locs hG hS => ?_)
          obtain ⟨v, hv9, hG, eV, e15⟩ : ∃ v, v = (if w 3 0 (u 17 0 x.toNatClampNeg).toNatClampNeg < w 18 0 x.toNatClampNeg then rs_enter w (u 17 0 x.toNatClampNeg) (w 18 0 x.toNatClampNeg) else w) ∧ rG D L v H ∧ (∀ a y, a ≠ 2 → a ≠ 3 → a ≠ 4 → v a 0 y = w a 0 y) ∧ rs_ff (rl_S L) v = rs_ff (rl_S L) w := by
            rw [eW 3 _ (by decide), eW 18 _ (by decide)]
            first
              | exact ⟨_, (by rw [if_neg h3]), hG, (fun _ _ _ _ _ => rfl), rfl⟩
              | exact ⟨_, (by rw [if_pos h3]; rfl), hG, (fun a y h2 h3 h4 => by rw [mz_uk h4, mz_uk h2, mz_uk h3]), (by rw [rs_ff_u (by decide), rs_ff_u (by decide), rs_ff_u (by decide)])⟩
          refine lv_aload_n hx hb dX5_deliver_90 rfl (lv_at hl 2 rfl) ?_
          refine lv_iload_n hx hb dX5_deliver_91 rfl (lv_at hl 1 rfl) ?_
          refine lv_iload_n hx hb dX5_deliver_92 rfl (lv_at hl 3 rfl) ?_
          refine lv_iload_n hx hb dX5_deliver_93 rfl (lv_at hl 0 rfl) ?_
          refine lv_aload_n hx hb dX5_deliver_94 rfl (lv_at hl 2 rfl) ?_
          refine rg_0 (f := 18) hx hb htz tin_X5 hown hK hG (by decide) (htz _ fX5_56) (by decide) rfl dX5_deliver_95 ?_
          refine lv_iload_n hx hb dX5_deliver_98 rfl (lv_at hl 3 rfl) ?_
          refine ra_16 hx hb hK hG (by decide) hx9 dX5_deliver_99 ?_
          refine mz_topE ((eV 16 _ (by decide) (by decide) (by decide)).trans (eW 16 _ (by decide))) ?_
          refine mz_Vv (As := [.int _, .int _, .int _, .int _]) (rest := []) ⟨hx, hb, hml, hown, hts⟩ (rc_act l D L hL _ _ _ _ _ hx9 hf5 (hq9.same (fun y => (eV 5 y (by decide) (by decide) (by decide)).trans (eW 5 y (by decide))) (fun y => (eV 10 y (by decide) (by decide) (by decide)).trans (eW 10 y (by decide))) ((eV 8 _ (by decide) (by decide) (by decide)).trans (eW 8 _ (by decide)))) (by rw [e15]; exact hffw) (by rw [(eV 19 _ (by decide) (by decide) (by decide)).trans (eW 19 _ (by decide)), (eV 5 _ (by decide) (by decide) (by decide)).trans (eW 5 _ (by decide)), (eV 10 _ (by decide) (by decide) (by decide)).trans (eW 10 _ (by decide))]; intro z; exact hb8 ((rs_has_same (u := u) (by intro y; rw [mz_uk (by decide), eV 5 y (by decide) (by decide) (by decide), eW 5 y (by decide)]) (by intro y; rw [mz_uk (by decide), eV 10 y (by decide) (by decide) (by decide), eW 10 y (by decide)])).mp z))) (tz_V htz mX5_act lX5_140 rfl rfl ⟨Nat.le_of_ble_eq_true rfl, Nat.le_of_ble_eq_true rfl⟩) (rrecv_0 hK hG (by decide)) rK_ok hK hG hS rfl hl.1 rfl (Nat.le_of_ble_eq_true rfl) dX5_deliver_100 ⟨Nat.zero_le _, Nat.zero_le _⟩ (fun H locs hG hS => ?_)
          refine lv_iload_n hx hb dX5_deliver_103 rfl (lv_at hl 1 rfl) ?_
          exact mz_iret hx hb hr hlk rK_ok hK hS hG dX5_deliver_104 (by rw [rs_deliver, if_neg (not_not_intro h0), if_neg h1, if_neg h2]) (by rw [rs_deliver, if_neg (not_not_intro h0), if_neg h1, if_neg h2, ← hw9, rs_rcv, ← hv9])
      · refine lv_iload_n hx hb dX5_deliver_47 rfl (lv_at hl 1 rfl) ?_
        exact mz_iret hx hb hr hlk rK_ok hK hS hG dX5_deliver_48 (by rw [rs_deliver, if_neg (not_not_intro h0), if_neg h1, if_pos h2]) (by rw [rs_deliver, if_neg (not_not_intro h0), if_neg h1, if_pos h2]; exact hw9)
    · refine lv_bipush (v := (-5)) hx hb dX5_deliver_21 (by decide) ?_
      exact mz_iret hx hb hr hlk rK_ok hK hS hG dX5_deliver_23 (by rw [rs_deliver, if_neg (not_not_intro h0), if_pos h1]) (by rw [rs_deliver, if_neg (not_not_intro h0), if_pos h1])
  · refine lv_iconst (v := (-1)) hx hb dX5_deliver_8 (by decide) ?_
    exact mz_iret hx hb hr hlk rK_ok hK hS hG dX5_deliver_9 (by rw [rs_deliver, if_pos h0]) (by rw [rs_deliver, if_pos h0])
