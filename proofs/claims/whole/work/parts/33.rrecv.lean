set_option maxRecDepth 100000 in
set_option maxHeartbeats 4000000 in
theorem rc_asked (l : Launch) (D : va_G) (L : rL) (hL : rL_ok L) (u : mz_S) (s9 k f : Int32) (hs : vp_in s9 40) (hz : rz (rl_c L) u k) (hff : rs_ff (rl_S L) u < rl_S L) : mz_Cv l (rG D L) (rK D L) (rA L) yX5_asked (tz_w yX5_asked cX5_asked 7 none) ({ frames := 3, cells := 0, slots := 0, locals := 72 } : Room) [.ref (L.1 0 0), .int s9, .int k, .int f] u (rs_rAsk (rl_S L) u s9.toNatClampNeg k f) := by
  refine mz_Cv.of (cc := cX5_asked) (maxL := 7) (ret := none) (by decide) rfl (Nat.le_of_ble_eq_true rfl) ?_
  intro p e s m args below meth c ls hx hb hr hlk hml hown hts hl hG hK hS
  have hl : lv_has ls 7 [(0, .ref (L.1 0 0)), (1, .int s9), (2, .int k), (3, .int f)] := hl
  have htz : ∀ w ∈ tz, w.before args s = true := fun w h => hts w (List.mem_cons_of_mem _ h)
  have hc12 : rl_c L ≤ 12 := hL.1.2.2.2.1
  have hn5 : rl_n L ≤ 5 := hL.1.2.1
  have h40 : rl_S L ≤ 40 := hL.1.2.2.2.2.2
  have hk : vp_in k 5 := hz.k
  refine lv_aload_n hx hb dX5_asked_0 rfl (lv_at hl 0 rfl) ?_
  refine lv_iload_n hx hb dX5_asked_1 rfl (lv_at hl 2 rfl) ?_
  refine lv_aload_n hx hb dX5_asked_2 rfl (lv_at hl 0 rfl) ?_
  refine lv_iload_n hx hb dX5_asked_3 rfl (lv_at hl 2 rfl) ?_
  refine mz_Vi (As := [.int _]) (rest := [.int _, .ref _]) ⟨hx, hb, hml, hown, hts⟩ (rc_lastOf l D L hL _ _ hk) (tz_V htz mX5_lastOf lX5_97 rfl rfl ⟨Nat.le_of_ble_eq_true rfl, Nat.le_of_ble_eq_true rfl⟩) (rrecv_0 hK hG (by decide)) rK_ok hK hG hS rfl hl.1 rfl (Nat.le_of_ble_eq_true rfl) dX5_asked_4 ⟨Nat.zero_le _, Nat.zero_le _⟩ (fun H locs hG hS => ?_)
  refine mz_Vi (As := [.int _, .int _]) (rest := []) ⟨hx, hb, hml, hown, hts⟩ (rc_termOf l D L hL _ _ _ hz) (tz_V htz mX5_termOf lX5_123 rfl rfl ⟨Nat.le_of_ble_eq_true rfl, Nat.le_of_ble_eq_true rfl⟩) (rrecv_0 hK hG (by decide)) rK_ok hK hG hS rfl hl.1 rfl (Nat.le_of_ble_eq_true rfl) dX5_asked_7 ⟨Nat.zero_le _, Nat.zero_le _⟩ (fun H locs hG hS => ?_)
  refine lv_istore hx hb dX5_asked_10 hl (by decide) rfl (fun ls hl => ?_)
  have hl : lv_has ls 7 [(4, .int _), (0, .ref _), (1, .int _), (2, .int _), (3, .int _)] := hl
  refine lv_aload_n hx hb dX5_asked_12 rfl (lv_at hl 1 rfl) ?_
  refine rg_0 (f := 22) hx hb htz tin_X5 hown hK hG (by decide) (htz _ fX5_68) (by decide) rfl dX5_asked_13 ?_
  refine lv_iload_n hx hb dX5_asked_16 rfl (lv_at hl 2 rfl) ?_
  refine ra_20 hx hb hK hG (by decide) hs dX5_asked_17 ?_
  refine lv_iload hx hb dX5_asked_18 (lv_at hl 0 rfl) ?_
  refine mz_icmp_gt hx hb dX5_asked_20 (tgt := 48) rfl (fun h0 h0' => ?_) (fun h0 h0' => ?_)
  · refine lv_iconst (v := 1) hx hb dX5_asked_48 (by decide) ?_
    refine lv_goto hx hb dX5_asked_49 (tgt := 53) rfl ?_
    refine lv_istore hx hb dX5_asked_53 hl (by decide) rfl (fun ls hl => ?_)
    have hl : lv_has ls 7 [(5, .int _), (4, .int _), (0, .ref _), (1, .int _), (2, .int _), (3, .int _)] := hl
    refine lv_aload_n hx hb dX5_asked_55 rfl (lv_at hl 2 rfl) ?_
    refine rg_0 (f := 20) hx hb htz tin_X5 hown hK hG (by decide) (htz _ fX5_62) (by decide) rfl dX5_asked_56 ?_
    refine lv_iload_n hx hb dX5_asked_59 rfl (lv_at hl 3 rfl) ?_
    refine ra_18 hx hb hK hG (by decide) hs dX5_asked_60 ?_
    refine lv_aload_n hx hb dX5_asked_61 rfl (lv_at hl 2 rfl) ?_
    refine rg_0 (f := 5) hx hb htz tin_X5 hown hK hG (by decide) (htz _ fX5_17) (by decide) rfl dX5_asked_62 ?_
    refine lv_iload_n hx hb dX5_asked_65 rfl (lv_at hl 4 rfl) ?_
    refine ra_3 hx hb hK hG (by decide) hk dX5_asked_66 ?_
    refine lv_icmp_ne hx hb dX5_asked_67 (tgt := 99) rfl (fun h3 => ?_) (fun h3 => ?_)
    · refine lv_iconst (v := 0) hx hb dX5_asked_99 (by decide) ?_
      refine lv_istore hx hb dX5_asked_100 hl (by decide) rfl (fun ls hl => ?_)
      have hl : lv_has ls 7 [(6, .int _), (5, .int _), (4, .int _), (0, .ref _), (1, .int _), (2, .int _), (3, .int _)] := hl
      refine lv_aload_n hx hb dX5_asked_102 rfl (lv_at hl 3 rfl) ?_
      refine rg_0 (f := 6) hx hb htz tin_X5 hown hK hG (by decide) (htz _ fX5_20) (by decide) rfl dX5_asked_103 ?_
      refine lv_iload_n hx hb dX5_asked_106 rfl (lv_at hl 5 rfl) ?_
      refine lv_iload hx hb dX5_asked_107 (lv_at hl 0 rfl) ?_
      refine lv_if_eq hx hb dX5_asked_109 (tgt := 116) rfl (fun h7 => ?_) (fun h7 => ?_)
      · refine lv_aload_n hx hb dX5_asked_116 rfl (lv_at hl 3 rfl) ?_
        refine rg_0 (f := 6) hx hb htz tin_X5 hown hK hG (by decide) (htz _ fX5_20) (by decide) rfl dX5_asked_117 ?_
        refine lv_iload_n hx hb dX5_asked_120 rfl (lv_at hl 5 rfl) ?_
        refine ra_4 hx hb hK hG (by decide) hk dX5_asked_121 ?_
        refine rt_4 hx hb hL hK hG hS (by decide) hk dX5_asked_122 (fun H locs hG hS => ?_)
        refine lv_aload_n hx hb dX5_asked_123 rfl (lv_at hl 3 rfl) ?_
        refine lv_iconst (v := 2) hx hb dX5_asked_124 (by decide) ?_
        refine lv_iload_n hx hb dX5_asked_125 rfl (lv_at hl 5 rfl) ?_
        refine lv_iload_n hx hb dX5_asked_126 rfl (lv_at hl 6 rfl) ?_
        refine lv_iload hx hb dX5_asked_127 (lv_at hl 0 rfl) ?_
        refine lv_iconst (v := 0) hx hb dX5_asked_129 (by decide) ?_
        refine mz_Vv (As := [.int _, .int _, .int _, .int _, .int _]) (rest := []) ⟨hx, hb, hml, hown, hts⟩ (rc_answer l D L hL _ _ _ _ _ _ hk (by decide) (by simp [rs_ff_u, hff])) (tz_V htz mX5_answer lX5_159 rfl rfl ⟨Nat.le_of_ble_eq_true rfl, Nat.le_of_ble_eq_true rfl⟩) (rrecv_0 hK hG (by decide)) rK_ok hK hG hS rfl hl.1 rfl (Nat.le_of_ble_eq_true rfl) dX5_asked_130 ⟨Nat.zero_le _, Nat.zero_le _⟩ (fun H locs hG hS => ?_)
        exact mz_vret hx hb hr hlk rK_ok hK hS hG dX5_asked_133 (by simp [rs_rAsk, rs_gr, rs_nb, mz_b, h0, h0', h3, h7])
      · exact absurd h7 (by decide)
    · refine lv_aload_n hx hb dX5_asked_70 rfl (lv_at hl 2 rfl) ?_
      refine rg_0 (f := 6) hx hb htz tin_X5 hown hK hG (by decide) (htz _ fX5_20) (by decide) rfl dX5_asked_71 ?_
      refine lv_iload_n hx hb dX5_asked_74 rfl (lv_at hl 4 rfl) ?_
      refine ra_4 hx hb hK hG (by decide) hk dX5_asked_75 ?_
      refine lv_iconst (v := (-1)) hx hb dX5_asked_76 (by decide) ?_
      refine lv_icmp_eq hx hb dX5_asked_77 (tgt := 90) rfl (fun h4 => ?_) (fun h4 => ?_)
      · refine lv_iload hx hb dX5_asked_90 (lv_at hl 0 rfl) ?_
        refine lv_if_eq hx hb dX5_asked_92 (tgt := 99) rfl (fun h6 => ?_) (fun h6 => ?_)
        · exact absurd h6 (by decide)
        · refine lv_iconst (v := 1) hx hb dX5_asked_95 (by decide) ?_
          refine lv_goto hx hb dX5_asked_96 (tgt := 100) rfl ?_
          refine lv_istore hx hb dX5_asked_100 hl (by decide) rfl (fun ls hl => ?_)
          have hl : lv_has ls 7 [(6, .int _), (5, .int _), (4, .int _), (0, .ref _), (1, .int _), (2, .int _), (3, .int _)] := hl
          refine lv_aload_n hx hb dX5_asked_102 rfl (lv_at hl 3 rfl) ?_
          refine rg_0 (f := 6) hx hb htz tin_X5 hown hK hG (by decide) (htz _ fX5_20) (by decide) rfl dX5_asked_103 ?_
          refine lv_iload_n hx hb dX5_asked_106 rfl (lv_at hl 5 rfl) ?_
          refine lv_iload hx hb dX5_asked_107 (lv_at hl 0 rfl) ?_
          refine lv_if_eq hx hb dX5_asked_109 (tgt := 116) rfl (fun h7 => ?_) (fun h7 => ?_)
          · exact absurd h7 (by decide)
          · refine lv_iload_n hx hb dX5_asked_112 rfl (lv_at hl 6 rfl) ?_
            refine lv_goto hx hb dX5_asked_113 (tgt := 122) rfl ?_
            refine rt_4 hx hb hL hK hG hS (by decide) hk dX5_asked_122 (fun H locs hG hS => ?_)
            refine lv_aload_n hx hb dX5_asked_123 rfl (lv_at hl 3 rfl) ?_
            refine lv_iconst (v := 2) hx hb dX5_asked_124 (by decide) ?_
            refine lv_iload_n hx hb dX5_asked_125 rfl (lv_at hl 5 rfl) ?_
            refine lv_iload_n hx hb dX5_asked_126 rfl (lv_at hl 6 rfl) ?_
            refine lv_iload hx hb dX5_asked_127 (lv_at hl 0 rfl) ?_
            refine lv_iconst (v := 0) hx hb dX5_asked_129 (by decide) ?_
            refine mz_Vv (As := [.int _, .int _, .int _, .int _, .int _]) (rest := []) ⟨hx, hb, hml, hown, hts⟩ (rc_answer l D L hL _ _ _ _ _ _ hk (by decide) (by simp [rs_ff_u, hff])) (tz_V htz mX5_answer lX5_159 rfl rfl ⟨Nat.le_of_ble_eq_true rfl, Nat.le_of_ble_eq_true rfl⟩) (rrecv_0 hK hG (by decide)) rK_ok hK hG hS rfl hl.1 rfl (Nat.le_of_ble_eq_true rfl) dX5_asked_130 ⟨Nat.zero_le _, Nat.zero_le _⟩ (fun H locs hG hS => ?_)
            exact mz_vret hx hb hr hlk rK_ok hK hS hG dX5_asked_133 (by simp [rs_rAsk, rs_gr, rs_nb, mz_b, h0, h0', h3, h4, h6, h7])
      · refine lv_aload_n hx hb dX5_asked_80 rfl (lv_at hl 2 rfl) ?_
        refine rg_0 (f := 6) hx hb htz tin_X5 hown hK hG (by decide) (htz _ fX5_20) (by decide) rfl dX5_asked_81 ?_
        refine lv_iload_n hx hb dX5_asked_84 rfl (lv_at hl 4 rfl) ?_
        refine ra_4 hx hb hK hG (by decide) hk dX5_asked_85 ?_
        refine lv_iload_n hx hb dX5_asked_86 rfl (lv_at hl 5 rfl) ?_
        refine lv_icmp_ne hx hb dX5_asked_87 (tgt := 99) rfl (fun h5 => ?_) (fun h5 => ?_)
        · refine lv_iconst (v := 0) hx hb dX5_asked_99 (by decide) ?_
          refine lv_istore hx hb dX5_asked_100 hl (by decide) rfl (fun ls hl => ?_)
          have hl : lv_has ls 7 [(6, .int _), (5, .int _), (4, .int _), (0, .ref _), (1, .int _), (2, .int _), (3, .int _)] := hl
          refine lv_aload_n hx hb dX5_asked_102 rfl (lv_at hl 3 rfl) ?_
          refine rg_0 (f := 6) hx hb htz tin_X5 hown hK hG (by decide) (htz _ fX5_20) (by decide) rfl dX5_asked_103 ?_
          refine lv_iload_n hx hb dX5_asked_106 rfl (lv_at hl 5 rfl) ?_
          refine lv_iload hx hb dX5_asked_107 (lv_at hl 0 rfl) ?_
          refine lv_if_eq hx hb dX5_asked_109 (tgt := 116) rfl (fun h7 => ?_) (fun h7 => ?_)
          · refine lv_aload_n hx hb dX5_asked_116 rfl (lv_at hl 3 rfl) ?_
            refine rg_0 (f := 6) hx hb htz tin_X5 hown hK hG (by decide) (htz _ fX5_20) (by decide) rfl dX5_asked_117 ?_
            refine lv_iload_n hx hb dX5_asked_120 rfl (lv_at hl 5 rfl) ?_
            refine ra_4 hx hb hK hG (by decide) hk dX5_asked_121 ?_
            refine rt_4 hx hb hL hK hG hS (by decide) hk dX5_asked_122 (fun H locs hG hS => ?_)
            refine lv_aload_n hx hb dX5_asked_123 rfl (lv_at hl 3 rfl) ?_
            refine lv_iconst (v := 2) hx hb dX5_asked_124 (by decide) ?_
            refine lv_iload_n hx hb dX5_asked_125 rfl (lv_at hl 5 rfl) ?_
            refine lv_iload_n hx hb dX5_asked_126 rfl (lv_at hl 6 rfl) ?_
            refine lv_iload hx hb dX5_asked_127 (lv_at hl 0 rfl) ?_
            refine lv_iconst (v := 0) hx hb dX5_asked_129 (by decide) ?_
            refine mz_Vv (As := [.int _, .int _, .int _, .int _, .int _]) (rest := []) ⟨hx, hb, hml, hown, hts⟩ (rc_answer l D L hL _ _ _ _ _ _ hk (by decide) (by simp [rs_ff_u, hff])) (tz_V htz mX5_answer lX5_159 rfl rfl ⟨Nat.le_of_ble_eq_true rfl, Nat.le_of_ble_eq_true rfl⟩) (rrecv_0 hK hG (by decide)) rK_ok hK hG hS rfl hl.1 rfl (Nat.le_of_ble_eq_true rfl) dX5_asked_130 ⟨Nat.zero_le _, Nat.zero_le _⟩ (fun H locs hG hS => ?_)
            exact mz_vret hx hb hr hlk rK_ok hK hS hG dX5_asked_133 (by simp [rs_rAsk, rs_gr, rs_nb, mz_b, h0, h0', h3, h4, h5, h7])
          · exact absurd h7 (by decide)
        · refine lv_iload hx hb dX5_asked_90 (lv_at hl 0 rfl) ?_
          refine lv_if_eq hx hb dX5_asked_92 (tgt := 99) rfl (fun h6 => ?_) (fun h6 => ?_)
          · exact absurd h6 (by decide)
          · refine lv_iconst (v := 1) hx hb dX5_asked_95 (by decide) ?_
            refine lv_goto hx hb dX5_asked_96 (tgt := 100) rfl ?_
            refine lv_istore hx hb dX5_asked_100 hl (by decide) rfl (fun ls hl => ?_)
            have hl : lv_has ls 7 [(6, .int _), (5, .int _), (4, .int _), (0, .ref _), (1, .int _), (2, .int _), (3, .int _)] := hl
            refine lv_aload_n hx hb dX5_asked_102 rfl (lv_at hl 3 rfl) ?_
            refine rg_0 (f := 6) hx hb htz tin_X5 hown hK hG (by decide) (htz _ fX5_20) (by decide) rfl dX5_asked_103 ?_
            refine lv_iload_n hx hb dX5_asked_106 rfl (lv_at hl 5 rfl) ?_
            refine lv_iload hx hb dX5_asked_107 (lv_at hl 0 rfl) ?_
            refine lv_if_eq hx hb dX5_asked_109 (tgt := 116) rfl (fun h7 => ?_) (fun h7 => ?_)
            · exact absurd h7 (by decide)
            · refine lv_iload_n hx hb dX5_asked_112 rfl (lv_at hl 6 rfl) ?_
              refine lv_goto hx hb dX5_asked_113 (tgt := 122) rfl ?_
              refine rt_4 hx hb hL hK hG hS (by decide) hk dX5_asked_122 (fun H locs hG hS => ?_)
              refine lv_aload_n hx hb dX5_asked_123 rfl (lv_at hl 3 rfl) ?_
              refine lv_iconst (v := 2) hx hb dX5_asked_124 (by decide) ?_
              refine lv_iload_n hx hb dX5_asked_125 rfl (lv_at hl 5 rfl) ?_
              refine lv_iload_n hx hb dX5_asked_126 rfl (lv_at hl 6 rfl) ?_
              refine lv_iload hx hb dX5_asked_127 (lv_at hl 0 rfl) ?_
              refine lv_iconst (v := 0) hx hb dX5_asked_129 (by decide) ?_
              refine mz_Vv (As := [.int _, .int _, .int _, .int _, .int _]) (rest := []) ⟨hx, hb, hml, hown, hts⟩ (rc_answer l D L hL _ _ _ _ _ _ hk (by decide) (by simp [rs_ff_u, hff])) (tz_V htz mX5_answer lX5_159 rfl rfl ⟨Nat.le_of_ble_eq_true rfl, Nat.le_of_ble_eq_true rfl⟩) (rrecv_0 hK hG (by decide)) rK_ok hK hG hS rfl hl.1 rfl (Nat.le_of_ble_eq_true rfl) dX5_asked_130 ⟨Nat.zero_le _, Nat.zero_le _⟩ (fun H locs hG hS => ?_)
              exact mz_vret hx hb hr hlk rK_ok hK hS hG dX5_asked_133 (by simp [rs_rAsk, rs_gr, rs_nb, mz_b, h0, h0', h3, h4, h5, h6, h7])
  · refine lv_aload_n hx hb dX5_asked_23 rfl (lv_at hl 1 rfl) ?_
    refine rg_0 (f := 22) hx hb htz tin_X5 hown hK hG (by decide) (htz _ fX5_68) (by decide) rfl dX5_asked_24 ?_
    refine lv_iload_n hx hb dX5_asked_27 rfl (lv_at hl 2 rfl) ?_
    refine ra_20 hx hb hK hG (by decide) hs dX5_asked_28 ?_
    refine lv_iload hx hb dX5_asked_29 (lv_at hl 0 rfl) ?_
    refine lv_icmp_ne hx hb dX5_asked_31 (tgt := 52) rfl (fun h1 => ?_) (fun h1 => ?_)
    · refine lv_iconst (v := 0) hx hb dX5_asked_52 (by decide) ?_
      refine lv_istore hx hb dX5_asked_53 hl (by decide) rfl (fun ls hl => ?_)
      have hl : lv_has ls 7 [(5, .int _), (4, .int _), (0, .ref _), (1, .int _), (2, .int _), (3, .int _)] := hl
      refine lv_aload_n hx hb dX5_asked_55 rfl (lv_at hl 2 rfl) ?_
      refine rg_0 (f := 20) hx hb htz tin_X5 hown hK hG (by decide) (htz _ fX5_62) (by decide) rfl dX5_asked_56 ?_
      refine lv_iload_n hx hb dX5_asked_59 rfl (lv_at hl 3 rfl) ?_
      refine ra_18 hx hb hK hG (by decide) hs dX5_asked_60 ?_
      refine lv_aload_n hx hb dX5_asked_61 rfl (lv_at hl 2 rfl) ?_
      refine rg_0 (f := 5) hx hb htz tin_X5 hown hK hG (by decide) (htz _ fX5_17) (by decide) rfl dX5_asked_62 ?_
      refine lv_iload_n hx hb dX5_asked_65 rfl (lv_at hl 4 rfl) ?_
      refine ra_3 hx hb hK hG (by decide) hk dX5_asked_66 ?_
      refine lv_icmp_ne hx hb dX5_asked_67 (tgt := 99) rfl (fun h3 => ?_) (fun h3 => ?_)
      · refine lv_iconst (v := 0) hx hb dX5_asked_99 (by decide) ?_
        refine lv_istore hx hb dX5_asked_100 hl (by decide) rfl (fun ls hl => ?_)
        have hl : lv_has ls 7 [(6, .int _), (5, .int _), (4, .int _), (0, .ref _), (1, .int _), (2, .int _), (3, .int _)] := hl
        refine lv_aload_n hx hb dX5_asked_102 rfl (lv_at hl 3 rfl) ?_
        refine rg_0 (f := 6) hx hb htz tin_X5 hown hK hG (by decide) (htz _ fX5_20) (by decide) rfl dX5_asked_103 ?_
        refine lv_iload_n hx hb dX5_asked_106 rfl (lv_at hl 5 rfl) ?_
        refine lv_iload hx hb dX5_asked_107 (lv_at hl 0 rfl) ?_
        refine lv_if_eq hx hb dX5_asked_109 (tgt := 116) rfl (fun h7 => ?_) (fun h7 => ?_)
        · refine lv_aload_n hx hb dX5_asked_116 rfl (lv_at hl 3 rfl) ?_
          refine rg_0 (f := 6) hx hb htz tin_X5 hown hK hG (by decide) (htz _ fX5_20) (by decide) rfl dX5_asked_117 ?_
          refine lv_iload_n hx hb dX5_asked_120 rfl (lv_at hl 5 rfl) ?_
          refine ra_4 hx hb hK hG (by decide) hk dX5_asked_121 ?_
          refine rt_4 hx hb hL hK hG hS (by decide) hk dX5_asked_122 (fun H locs hG hS => ?_)
          refine lv_aload_n hx hb dX5_asked_123 rfl (lv_at hl 3 rfl) ?_
          refine lv_iconst (v := 2) hx hb dX5_asked_124 (by decide) ?_
          refine lv_iload_n hx hb dX5_asked_125 rfl (lv_at hl 5 rfl) ?_
          refine lv_iload_n hx hb dX5_asked_126 rfl (lv_at hl 6 rfl) ?_
          refine lv_iload hx hb dX5_asked_127 (lv_at hl 0 rfl) ?_
          refine lv_iconst (v := 0) hx hb dX5_asked_129 (by decide) ?_
          refine mz_Vv (As := [.int _, .int _, .int _, .int _, .int _]) (rest := []) ⟨hx, hb, hml, hown, hts⟩ (rc_answer l D L hL _ _ _ _ _ _ hk (by decide) (by simp [rs_ff_u, hff])) (tz_V htz mX5_answer lX5_159 rfl rfl ⟨Nat.le_of_ble_eq_true rfl, Nat.le_of_ble_eq_true rfl⟩) (rrecv_0 hK hG (by decide)) rK_ok hK hG hS rfl hl.1 rfl (Nat.le_of_ble_eq_true rfl) dX5_asked_130 ⟨Nat.zero_le _, Nat.zero_le _⟩ (fun H locs hG hS => ?_)
          exact mz_vret hx hb hr hlk rK_ok hK hS hG dX5_asked_133 (by simp [rs_rAsk, rs_gr, rs_nb, mz_b, h0, h0', h1, h3, h7])
        · exact absurd h7 (by decide)
      · refine lv_aload_n hx hb dX5_asked_70 rfl (lv_at hl 2 rfl) ?_
        refine rg_0 (f := 6) hx hb htz tin_X5 hown hK hG (by decide) (htz _ fX5_20) (by decide) rfl dX5_asked_71 ?_
        refine lv_iload_n hx hb dX5_asked_74 rfl (lv_at hl 4 rfl) ?_
        refine ra_4 hx hb hK hG (by decide) hk dX5_asked_75 ?_
        refine lv_iconst (v := (-1)) hx hb dX5_asked_76 (by decide) ?_
        refine lv_icmp_eq hx hb dX5_asked_77 (tgt := 90) rfl (fun h4 => ?_) (fun h4 => ?_)
        · refine lv_iload hx hb dX5_asked_90 (lv_at hl 0 rfl) ?_
          refine lv_if_eq hx hb dX5_asked_92 (tgt := 99) rfl (fun h6 => ?_) (fun h6 => ?_)
          · refine lv_iconst (v := 0) hx hb dX5_asked_99 (by decide) ?_
            refine lv_istore hx hb dX5_asked_100 hl (by decide) rfl (fun ls hl => ?_)
            have hl : lv_has ls 7 [(6, .int _), (5, .int _), (4, .int _), (0, .ref _), (1, .int _), (2, .int _), (3, .int _)] := hl
            refine lv_aload_n hx hb dX5_asked_102 rfl (lv_at hl 3 rfl) ?_
            refine rg_0 (f := 6) hx hb htz tin_X5 hown hK hG (by decide) (htz _ fX5_20) (by decide) rfl dX5_asked_103 ?_
            refine lv_iload_n hx hb dX5_asked_106 rfl (lv_at hl 5 rfl) ?_
            refine lv_iload hx hb dX5_asked_107 (lv_at hl 0 rfl) ?_
            refine lv_if_eq hx hb dX5_asked_109 (tgt := 116) rfl (fun h7 => ?_) (fun h7 => ?_)
            · refine lv_aload_n hx hb dX5_asked_116 rfl (lv_at hl 3 rfl) ?_
              refine rg_0 (f := 6) hx hb htz tin_X5 hown hK hG (by decide) (htz _ fX5_20) (by decide) rfl dX5_asked_117 ?_
              refine lv_iload_n hx hb dX5_asked_120 rfl (lv_at hl 5 rfl) ?_
              refine ra_4 hx hb hK hG (by decide) hk dX5_asked_121 ?_
              refine rt_4 hx hb hL hK hG hS (by decide) hk dX5_asked_122 (fun H locs hG hS => ?_)
              refine lv_aload_n hx hb dX5_asked_123 rfl (lv_at hl 3 rfl) ?_
              refine lv_iconst (v := 2) hx hb dX5_asked_124 (by decide) ?_
              refine lv_iload_n hx hb dX5_asked_125 rfl (lv_at hl 5 rfl) ?_
              refine lv_iload_n hx hb dX5_asked_126 rfl (lv_at hl 6 rfl) ?_
              refine lv_iload hx hb dX5_asked_127 (lv_at hl 0 rfl) ?_
              refine lv_iconst (v := 0) hx hb dX5_asked_129 (by decide) ?_
              refine mz_Vv (As := [.int _, .int _, .int _, .int _, .int _]) (rest := []) ⟨hx, hb, hml, hown, hts⟩ (rc_answer l D L hL _ _ _ _ _ _ hk (by decide) (by simp [rs_ff_u, hff])) (tz_V htz mX5_answer lX5_159 rfl rfl ⟨Nat.le_of_ble_eq_true rfl, Nat.le_of_ble_eq_true rfl⟩) (rrecv_0 hK hG (by decide)) rK_ok hK hG hS rfl hl.1 rfl (Nat.le_of_ble_eq_true rfl) dX5_asked_130 ⟨Nat.zero_le _, Nat.zero_le _⟩ (fun H locs hG hS => ?_)
              exact mz_vret hx hb hr hlk rK_ok hK hS hG dX5_asked_133 (by simp [rs_rAsk, rs_gr, rs_nb, mz_b, h0, h0', h1, h3, h4, h6, h7])
            · exact absurd h7 (by decide)
          · exact absurd h6 (by decide)
        · refine lv_aload_n hx hb dX5_asked_80 rfl (lv_at hl 2 rfl) ?_
          refine rg_0 (f := 6) hx hb htz tin_X5 hown hK hG (by decide) (htz _ fX5_20) (by decide) rfl dX5_asked_81 ?_
          refine lv_iload_n hx hb dX5_asked_84 rfl (lv_at hl 4 rfl) ?_
          refine ra_4 hx hb hK hG (by decide) hk dX5_asked_85 ?_
          refine lv_iload_n hx hb dX5_asked_86 rfl (lv_at hl 5 rfl) ?_
          refine lv_icmp_ne hx hb dX5_asked_87 (tgt := 99) rfl (fun h5 => ?_) (fun h5 => ?_)
          · refine lv_iconst (v := 0) hx hb dX5_asked_99 (by decide) ?_
            refine lv_istore hx hb dX5_asked_100 hl (by decide) rfl (fun ls hl => ?_)
            have hl : lv_has ls 7 [(6, .int _), (5, .int _), (4, .int _), (0, .ref _), (1, .int _), (2, .int _), (3, .int _)] := hl
            refine lv_aload_n hx hb dX5_asked_102 rfl (lv_at hl 3 rfl) ?_
            refine rg_0 (f := 6) hx hb htz tin_X5 hown hK hG (by decide) (htz _ fX5_20) (by decide) rfl dX5_asked_103 ?_
            refine lv_iload_n hx hb dX5_asked_106 rfl (lv_at hl 5 rfl) ?_
            refine lv_iload hx hb dX5_asked_107 (lv_at hl 0 rfl) ?_
            refine lv_if_eq hx hb dX5_asked_109 (tgt := 116) rfl (fun h7 => ?_) (fun h7 => ?_)
            · refine lv_aload_n hx hb dX5_asked_116 rfl (lv_at hl 3 rfl) ?_
              refine rg_0 (f := 6) hx hb htz tin_X5 hown hK hG (by decide) (htz _ fX5_20) (by decide) rfl dX5_asked_117 ?_
              refine lv_iload_n hx hb dX5_asked_120 rfl (lv_at hl 5 rfl) ?_
              refine ra_4 hx hb hK hG (by decide) hk dX5_asked_121 ?_
              refine rt_4 hx hb hL hK hG hS (by decide) hk dX5_asked_122 (fun H locs hG hS => ?_)
              refine lv_aload_n hx hb dX5_asked_123 rfl (lv_at hl 3 rfl) ?_
              refine lv_iconst (v := 2) hx hb dX5_asked_124 (by decide) ?_
              refine lv_iload_n hx hb dX5_asked_125 rfl (lv_at hl 5 rfl) ?_
              refine lv_iload_n hx hb dX5_asked_126 rfl (lv_at hl 6 rfl) ?_
              refine lv_iload hx hb dX5_asked_127 (lv_at hl 0 rfl) ?_
              refine lv_iconst (v := 0) hx hb dX5_asked_129 (by decide) ?_
              refine mz_Vv (As := [.int _, .int _, .int _, .int _, .int _]) (rest := []) ⟨hx, hb, hml, hown, hts⟩ (rc_answer l D L hL _ _ _ _ _ _ hk (by decide) (by simp [rs_ff_u, hff])) (tz_V htz mX5_answer lX5_159 rfl rfl ⟨Nat.le_of_ble_eq_true rfl, Nat.le_of_ble_eq_true rfl⟩) (rrecv_0 hK hG (by decide)) rK_ok hK hG hS rfl hl.1 rfl (Nat.le_of_ble_eq_true rfl) dX5_asked_130 ⟨Nat.zero_le _, Nat.zero_le _⟩ (fun H locs hG hS => ?_)
              exact mz_vret hx hb hr hlk rK_ok hK hS hG dX5_asked_133 (by simp [rs_rAsk, rs_gr, rs_nb, mz_b, h0, h0', h1, h3, h4, h5, h7])
            · exact absurd h7 (by decide)
          · refine lv_iload hx hb dX5_asked_90 (lv_at hl 0 rfl) ?_
            refine lv_if_eq hx hb dX5_asked_92 (tgt := 99) rfl (fun h6 => ?_) (fun h6 => ?_)
            · refine lv_iconst (v := 0) hx hb dX5_asked_99 (by decide) ?_
              refine lv_istore hx hb dX5_asked_100 hl (by decide) rfl (fun ls hl => ?_)
              have hl : lv_has ls 7 [(6, .int _), (5, .int _), (4, .int _), (0, .ref _), (1, .int _), (2, .int _), (3, .int _)] := hl
              refine lv_aload_n hx hb dX5_asked_102 rfl (lv_at hl 3 rfl) ?_
              refine rg_0 (f := 6) hx hb htz tin_X5 hown hK hG (by decide) (htz _ fX5_20) (by decide) rfl dX5_asked_103 ?_
              refine lv_iload_n hx hb dX5_asked_106 rfl (lv_at hl 5 rfl) ?_
              refine lv_iload hx hb dX5_asked_107 (lv_at hl 0 rfl) ?_
              refine lv_if_eq hx hb dX5_asked_109 (tgt := 116) rfl (fun h7 => ?_) (fun h7 => ?_)
              · refine lv_aload_n hx hb dX5_asked_116 rfl (lv_at hl 3 rfl) ?_
                refine rg_0 (f := 6) hx hb htz tin_X5 hown hK hG (by decide) (htz _ fX5_20) (by decide) rfl dX5_asked_117 ?_
                refine lv_iload_n hx hb dX5_asked_120 rfl (lv_at hl 5 rfl) ?_
                refine ra_4 hx hb hK hG (by decide) hk dX5_asked_121 ?_
                refine rt_4 hx hb hL hK hG hS (by decide) hk dX5_asked_122 (fun H locs hG hS => ?_)
                refine lv_aload_n hx hb dX5_asked_123 rfl (lv_at hl 3 rfl) ?_
                refine lv_iconst (v := 2) hx hb dX5_asked_124 (by decide) ?_
                refine lv_iload_n hx hb dX5_asked_125 rfl (lv_at hl 5 rfl) ?_
                refine lv_iload_n hx hb dX5_asked_126 rfl (lv_at hl 6 rfl) ?_
                refine lv_iload hx hb dX5_asked_127 (lv_at hl 0 rfl) ?_
                refine lv_iconst (v := 0) hx hb dX5_asked_129 (by decide) ?_
                refine mz_Vv (As := [.int _, .int _, .int _, .int _, .int _]) (rest := []) ⟨hx, hb, hml, hown, hts⟩ (rc_answer l D L hL _ _ _ _ _ _ hk (by decide) (by simp [rs_ff_u, hff])) (tz_V htz mX5_answer lX5_159 rfl rfl ⟨Nat.le_of_ble_eq_true rfl, Nat.le_of_ble_eq_true rfl⟩) (rrecv_0 hK hG (by decide)) rK_ok hK hG hS rfl hl.1 rfl (Nat.le_of_ble_eq_true rfl) dX5_asked_130 ⟨Nat.zero_le _, Nat.zero_le _⟩ (fun H locs hG hS => ?_)
                exact mz_vret hx hb hr hlk rK_ok hK hS hG dX5_asked_133 (by simp [rs_rAsk, rs_gr, rs_nb, mz_b, h0, h0', h1, h3, h4, h5, h6, h7])
              · exact absurd h7 (by decide)
            · exact absurd h6 (by decide)
    · refine lv_aload_n hx hb dX5_asked_34 rfl (lv_at hl 1 rfl) ?_
      refine rg_0 (f := 21) hx hb htz tin_X5 hown hK hG (by decide) (htz _ fX5_65) (by decide) rfl dX5_asked_35 ?_
      refine lv_iload_n hx hb dX5_asked_38 rfl (lv_at hl 2 rfl) ?_
      refine ra_19 hx hb hK hG (by decide) hs dX5_asked_39 ?_
      refine lv_aload_n hx hb dX5_asked_40 rfl (lv_at hl 1 rfl) ?_
      refine lv_iload_n hx hb dX5_asked_41 rfl (lv_at hl 3 rfl) ?_
      refine mz_Vi (As := [.int _]) (rest := [.int _]) ⟨hx, hb, hml, hown, hts⟩ (rc_lastOf l D L hL _ _ hk) (tz_V htz mX5_lastOf lX5_97 rfl rfl ⟨Nat.le_of_ble_eq_true rfl, Nat.le_of_ble_eq_true rfl⟩) (rrecv_0 hK hG (by decide)) rK_ok hK hG hS rfl hl.1 rfl (Nat.le_of_ble_eq_true rfl) dX5_asked_42 ⟨Nat.zero_le _, Nat.zero_le _⟩ (fun H locs hG hS => ?_)
      refine mz_icmp_lt hx hb dX5_asked_45 (tgt := 52) rfl (fun h2 h2' => ?_) (fun h2 h2' => ?_)
      · refine lv_iconst (v := 0) hx hb dX5_asked_52 (by decide) ?_
        refine lv_istore hx hb dX5_asked_53 hl (by decide) rfl (fun ls hl => ?_)
        have hl : lv_has ls 7 [(5, .int _), (4, .int _), (0, .ref _), (1, .int _), (2, .int _), (3, .int _)] := hl
        refine lv_aload_n hx hb dX5_asked_55 rfl (lv_at hl 2 rfl) ?_
        refine rg_0 (f := 20) hx hb htz tin_X5 hown hK hG (by decide) (htz _ fX5_62) (by decide) rfl dX5_asked_56 ?_
        refine lv_iload_n hx hb dX5_asked_59 rfl (lv_at hl 3 rfl) ?_
        refine ra_18 hx hb hK hG (by decide) hs dX5_asked_60 ?_
        refine lv_aload_n hx hb dX5_asked_61 rfl (lv_at hl 2 rfl) ?_
        refine rg_0 (f := 5) hx hb htz tin_X5 hown hK hG (by decide) (htz _ fX5_17) (by decide) rfl dX5_asked_62 ?_
        refine lv_iload_n hx hb dX5_asked_65 rfl (lv_at hl 4 rfl) ?_
        refine ra_3 hx hb hK hG (by decide) hk dX5_asked_66 ?_
        refine lv_icmp_ne hx hb dX5_asked_67 (tgt := 99) rfl (fun h3 => ?_) (fun h3 => ?_)
        · refine lv_iconst (v := 0) hx hb dX5_asked_99 (by decide) ?_
          refine lv_istore hx hb dX5_asked_100 hl (by decide) rfl (fun ls hl => ?_)
          have hl : lv_has ls 7 [(6, .int _), (5, .int _), (4, .int _), (0, .ref _), (1, .int _), (2, .int _), (3, .int _)] := hl
          refine lv_aload_n hx hb dX5_asked_102 rfl (lv_at hl 3 rfl) ?_
          refine rg_0 (f := 6) hx hb htz tin_X5 hown hK hG (by decide) (htz _ fX5_20) (by decide) rfl dX5_asked_103 ?_
          refine lv_iload_n hx hb dX5_asked_106 rfl (lv_at hl 5 rfl) ?_
          refine lv_iload hx hb dX5_asked_107 (lv_at hl 0 rfl) ?_
          refine lv_if_eq hx hb dX5_asked_109 (tgt := 116) rfl (fun h7 => ?_) (fun h7 => ?_)
          · refine lv_aload_n hx hb dX5_asked_116 rfl (lv_at hl 3 rfl) ?_
            refine rg_0 (f := 6) hx hb htz tin_X5 hown hK hG (by decide) (htz _ fX5_20) (by decide) rfl dX5_asked_117 ?_
            refine lv_iload_n hx hb dX5_asked_120 rfl (lv_at hl 5 rfl) ?_
            refine ra_4 hx hb hK hG (by decide) hk dX5_asked_121 ?_
            refine rt_4 hx hb hL hK hG hS (by decide) hk dX5_asked_122 (fun H locs hG hS => ?_)
            refine lv_aload_n hx hb dX5_asked_123 rfl (lv_at hl 3 rfl) ?_
            refine lv_iconst (v := 2) hx hb dX5_asked_124 (by decide) ?_
            refine lv_iload_n hx hb dX5_asked_125 rfl (lv_at hl 5 rfl) ?_
            refine lv_iload_n hx hb dX5_asked_126 rfl (lv_at hl 6 rfl) ?_
            refine lv_iload hx hb dX5_asked_127 (lv_at hl 0 rfl) ?_
            refine lv_iconst (v := 0) hx hb dX5_asked_129 (by decide) ?_
            refine mz_Vv (As := [.int _, .int _, .int _, .int _, .int _]) (rest := []) ⟨hx, hb, hml, hown, hts⟩ (rc_answer l D L hL _ _ _ _ _ _ hk (by decide) (by simp [rs_ff_u, hff])) (tz_V htz mX5_answer lX5_159 rfl rfl ⟨Nat.le_of_ble_eq_true rfl, Nat.le_of_ble_eq_true rfl⟩) (rrecv_0 hK hG (by decide)) rK_ok hK hG hS rfl hl.1 rfl (Nat.le_of_ble_eq_true rfl) dX5_asked_130 ⟨Nat.zero_le _, Nat.zero_le _⟩ (fun H locs hG hS => ?_)
            exact mz_vret hx hb hr hlk rK_ok hK hS hG dX5_asked_133 (by simp [rs_rAsk, rs_gr, rs_nb, mz_b, h0, h0', h1, h2, h2', h3, h7])
          · exact absurd h7 (by decide)
        · refine lv_aload_n hx hb dX5_asked_70 rfl (lv_at hl 2 rfl) ?_
          refine rg_0 (f := 6) hx hb htz tin_X5 hown hK hG (by decide) (htz _ fX5_20) (by decide) rfl dX5_asked_71 ?_
          refine lv_iload_n hx hb dX5_asked_74 rfl (lv_at hl 4 rfl) ?_
          refine ra_4 hx hb hK hG (by decide) hk dX5_asked_75 ?_
          refine lv_iconst (v := (-1)) hx hb dX5_asked_76 (by decide) ?_
          refine lv_icmp_eq hx hb dX5_asked_77 (tgt := 90) rfl (fun h4 => ?_) (fun h4 => ?_)
          · refine lv_iload hx hb dX5_asked_90 (lv_at hl 0 rfl) ?_
            refine lv_if_eq hx hb dX5_asked_92 (tgt := 99) rfl (fun h6 => ?_) (fun h6 => ?_)
            · refine lv_iconst (v := 0) hx hb dX5_asked_99 (by decide) ?_
              refine lv_istore hx hb dX5_asked_100 hl (by decide) rfl (fun ls hl => ?_)
              have hl : lv_has ls 7 [(6, .int _), (5, .int _), (4, .int _), (0, .ref _), (1, .int _), (2, .int _), (3, .int _)] := hl
              refine lv_aload_n hx hb dX5_asked_102 rfl (lv_at hl 3 rfl) ?_
              refine rg_0 (f := 6) hx hb htz tin_X5 hown hK hG (by decide) (htz _ fX5_20) (by decide) rfl dX5_asked_103 ?_
              refine lv_iload_n hx hb dX5_asked_106 rfl (lv_at hl 5 rfl) ?_
              refine lv_iload hx hb dX5_asked_107 (lv_at hl 0 rfl) ?_
              refine lv_if_eq hx hb dX5_asked_109 (tgt := 116) rfl (fun h7 => ?_) (fun h7 => ?_)
              · refine lv_aload_n hx hb dX5_asked_116 rfl (lv_at hl 3 rfl) ?_
                refine rg_0 (f := 6) hx hb htz tin_X5 hown hK hG (by decide) (htz _ fX5_20) (by decide) rfl dX5_asked_117 ?_
                refine lv_iload_n hx hb dX5_asked_120 rfl (lv_at hl 5 rfl) ?_
                refine ra_4 hx hb hK hG (by decide) hk dX5_asked_121 ?_
                refine rt_4 hx hb hL hK hG hS (by decide) hk dX5_asked_122 (fun H locs hG hS => ?_)
                refine lv_aload_n hx hb dX5_asked_123 rfl (lv_at hl 3 rfl) ?_
                refine lv_iconst (v := 2) hx hb dX5_asked_124 (by decide) ?_
                refine lv_iload_n hx hb dX5_asked_125 rfl (lv_at hl 5 rfl) ?_
                refine lv_iload_n hx hb dX5_asked_126 rfl (lv_at hl 6 rfl) ?_
                refine lv_iload hx hb dX5_asked_127 (lv_at hl 0 rfl) ?_
                refine lv_iconst (v := 0) hx hb dX5_asked_129 (by decide) ?_
                refine mz_Vv (As := [.int _, .int _, .int _, .int _, .int _]) (rest := []) ⟨hx, hb, hml, hown, hts⟩ (rc_answer l D L hL _ _ _ _ _ _ hk (by decide) (by simp [rs_ff_u, hff])) (tz_V htz mX5_answer lX5_159 rfl rfl ⟨Nat.le_of_ble_eq_true rfl, Nat.le_of_ble_eq_true rfl⟩) (rrecv_0 hK hG (by decide)) rK_ok hK hG hS rfl hl.1 rfl (Nat.le_of_ble_eq_true rfl) dX5_asked_130 ⟨Nat.zero_le _, Nat.zero_le _⟩ (fun H locs hG hS => ?_)
                exact mz_vret hx hb hr hlk rK_ok hK hS hG dX5_asked_133 (by simp [rs_rAsk, rs_gr, rs_nb, mz_b, h0, h0', h1, h2, h2', h3, h4, h6, h7])
              · exact absurd h7 (by decide)
            · exact absurd h6 (by decide)
          · refine lv_aload_n hx hb dX5_asked_80 rfl (lv_at hl 2 rfl) ?_
            refine rg_0 (f := 6) hx hb htz tin_X5 hown hK hG (by decide) (htz _ fX5_20) (by decide) rfl dX5_asked_81 ?_
            refine lv_iload_n hx hb dX5_asked_84 rfl (lv_at hl 4 rfl) ?_
            refine ra_4 hx hb hK hG (by decide) hk dX5_asked_85 ?_
            refine lv_iload_n hx hb dX5_asked_86 rfl (lv_at hl 5 rfl) ?_
            refine lv_icmp_ne hx hb dX5_asked_87 (tgt := 99) rfl (fun h5 => ?_) (fun h5 => ?_)
            · refine lv_iconst (v := 0) hx hb dX5_asked_99 (by decide) ?_
              refine lv_istore hx hb dX5_asked_100 hl (by decide) rfl (fun ls hl => ?_)
              have hl : lv_has ls 7 [(6, .int _), (5, .int _), (4, .int _), (0, .ref _), (1, .int _), (2, .int _), (3, .int _)] := hl
              refine lv_aload_n hx hb dX5_asked_102 rfl (lv_at hl 3 rfl) ?_
              refine rg_0 (f := 6) hx hb htz tin_X5 hown hK hG (by decide) (htz _ fX5_20) (by decide) rfl dX5_asked_103 ?_
              refine lv_iload_n hx hb dX5_asked_106 rfl (lv_at hl 5 rfl) ?_
              refine lv_iload hx hb dX5_asked_107 (lv_at hl 0 rfl) ?_
              refine lv_if_eq hx hb dX5_asked_109 (tgt := 116) rfl (fun h7 => ?_) (fun h7 => ?_)
              · refine lv_aload_n hx hb dX5_asked_116 rfl (lv_at hl 3 rfl) ?_
                refine rg_0 (f := 6) hx hb htz tin_X5 hown hK hG (by decide) (htz _ fX5_20) (by decide) rfl dX5_asked_117 ?_
                refine lv_iload_n hx hb dX5_asked_120 rfl (lv_at hl 5 rfl) ?_
                refine ra_4 hx hb hK hG (by decide) hk dX5_asked_121 ?_
                refine rt_4 hx hb hL hK hG hS (by decide) hk dX5_asked_122 (fun H locs hG hS => ?_)
                refine lv_aload_n hx hb dX5_asked_123 rfl (lv_at hl 3 rfl) ?_
                refine lv_iconst (v := 2) hx hb dX5_asked_124 (by decide) ?_
                refine lv_iload_n hx hb dX5_asked_125 rfl (lv_at hl 5 rfl) ?_
                refine lv_iload_n hx hb dX5_asked_126 rfl (lv_at hl 6 rfl) ?_
                refine lv_iload hx hb dX5_asked_127 (lv_at hl 0 rfl) ?_
                refine lv_iconst (v := 0) hx hb dX5_asked_129 (by decide) ?_
                refine mz_Vv (As := [.int _, .int _, .int _, .int _, .int _]) (rest := []) ⟨hx, hb, hml, hown, hts⟩ (rc_answer l D L hL _ _ _ _ _ _ hk (by decide) (by simp [rs_ff_u, hff])) (tz_V htz mX5_answer lX5_159 rfl rfl ⟨Nat.le_of_ble_eq_true rfl, Nat.le_of_ble_eq_true rfl⟩) (rrecv_0 hK hG (by decide)) rK_ok hK hG hS rfl hl.1 rfl (Nat.le_of_ble_eq_true rfl) dX5_asked_130 ⟨Nat.zero_le _, Nat.zero_le _⟩ (fun H locs hG hS => ?_)
                exact mz_vret hx hb hr hlk rK_ok hK hS hG dX5_asked_133 (by simp [rs_rAsk, rs_gr, rs_nb, mz_b, h0, h0', h1, h2, h2', h3, h4, h5, h7])
              · exact absurd h7 (by decide)
            · refine lv_iload hx hb dX5_asked_90 (lv_at hl 0 rfl) ?_
              refine lv_if_eq hx hb dX5_asked_92 (tgt := 99) rfl (fun h6 => ?_) (fun h6 => ?_)
              · refine lv_iconst (v := 0) hx hb dX5_asked_99 (by decide) ?_
                refine lv_istore hx hb dX5_asked_100 hl (by decide) rfl (fun ls hl => ?_)
                have hl : lv_has ls 7 [(6, .int _), (5, .int _), (4, .int _), (0, .ref _), (1, .int _), (2, .int _), (3, .int _)] := hl
                refine lv_aload_n hx hb dX5_asked_102 rfl (lv_at hl 3 rfl) ?_
                refine rg_0 (f := 6) hx hb htz tin_X5 hown hK hG (by decide) (htz _ fX5_20) (by decide) rfl dX5_asked_103 ?_
                refine lv_iload_n hx hb dX5_asked_106 rfl (lv_at hl 5 rfl) ?_
                refine lv_iload hx hb dX5_asked_107 (lv_at hl 0 rfl) ?_
                refine lv_if_eq hx hb dX5_asked_109 (tgt := 116) rfl (fun h7 => ?_) (fun h7 => ?_)
                · refine lv_aload_n hx hb dX5_asked_116 rfl (lv_at hl 3 rfl) ?_
                  refine rg_0 (f := 6) hx hb htz tin_X5 hown hK hG (by decide) (htz _ fX5_20) (by decide) rfl dX5_asked_117 ?_
                  refine lv_iload_n hx hb dX5_asked_120 rfl (lv_at hl 5 rfl) ?_
                  refine ra_4 hx hb hK hG (by decide) hk dX5_asked_121 ?_
                  refine rt_4 hx hb hL hK hG hS (by decide) hk dX5_asked_122 (fun H locs hG hS => ?_)
                  refine lv_aload_n hx hb dX5_asked_123 rfl (lv_at hl 3 rfl) ?_
                  refine lv_iconst (v := 2) hx hb dX5_asked_124 (by decide) ?_
                  refine lv_iload_n hx hb dX5_asked_125 rfl (lv_at hl 5 rfl) ?_
                  refine lv_iload_n hx hb dX5_asked_126 rfl (lv_at hl 6 rfl) ?_
                  refine lv_iload hx hb dX5_asked_127 (lv_at hl 0 rfl) ?_
                  refine lv_iconst (v := 0) hx hb dX5_asked_129 (by decide) ?_
                  refine mz_Vv (As := [.int _, .int _, .int _, .int _, .int _]) (rest := []) ⟨hx, hb, hml, hown, hts⟩ (rc_answer l D L hL _ _ _ _ _ _ hk (by decide) (by simp [rs_ff_u, hff])) (tz_V htz mX5_answer lX5_159 rfl rfl ⟨Nat.le_of_ble_eq_true rfl, Nat.le_of_ble_eq_true rfl⟩) (rrecv_0 hK hG (by decide)) rK_ok hK hG hS rfl hl.1 rfl (Nat.le_of_ble_eq_true rfl) dX5_asked_130 ⟨Nat.zero_le _, Nat.zero_le _⟩ (fun H locs hG hS => ?_)
                  exact mz_vret hx hb hr hlk rK_ok hK hS hG dX5_asked_133 (by simp [rs_rAsk, rs_gr, rs_nb, mz_b, h0, h0', h1, h2, h2', h3, h4, h5, h6, h7])
                · exact absurd h7 (by decide)
              · exact absurd h6 (by decide)
      · refine lv_iconst (v := 1) hx hb dX5_asked_48 (by decide) ?_
        refine lv_goto hx hb dX5_asked_49 (tgt := 53) rfl ?_
        refine lv_istore hx hb dX5_asked_53 hl (by decide) rfl (fun ls hl => ?_)
        have hl : lv_has ls 7 [(5, .int _), (4, .int _), (0, .ref _), (1, .int _), (2, .int _), (3, .int _)] := hl
        refine lv_aload_n hx hb dX5_asked_55 rfl (lv_at hl 2 rfl) ?_
        refine rg_0 (f := 20) hx hb htz tin_X5 hown hK hG (by decide) (htz _ fX5_62) (by decide) rfl dX5_asked_56 ?_
        refine lv_iload_n hx hb dX5_asked_59 rfl (lv_at hl 3 rfl) ?_
        refine ra_18 hx hb hK hG (by decide) hs dX5_asked_60 ?_
        refine lv_aload_n hx hb dX5_asked_61 rfl (lv_at hl 2 rfl) ?_
        refine rg_0 (f := 5) hx hb htz tin_X5 hown hK hG (by decide) (htz _ fX5_17) (by decide) rfl dX5_asked_62 ?_
        refine lv_iload_n hx hb dX5_asked_65 rfl (lv_at hl 4 rfl) ?_
        refine ra_3 hx hb hK hG (by decide) hk dX5_asked_66 ?_
        refine lv_icmp_ne hx hb dX5_asked_67 (tgt := 99) rfl (fun h3 => ?_) (fun h3 => ?_)
        · refine lv_iconst (v := 0) hx hb dX5_asked_99 (by decide) ?_
          refine lv_istore hx hb dX5_asked_100 hl (by decide) rfl (fun ls hl => ?_)
          have hl : lv_has ls 7 [(6, .int _), (5, .int _), (4, .int _), (0, .ref _), (1, .int _), (2, .int _), (3, .int _)] := hl
          refine lv_aload_n hx hb dX5_asked_102 rfl (lv_at hl 3 rfl) ?_
          refine rg_0 (f := 6) hx hb htz tin_X5 hown hK hG (by decide) (htz _ fX5_20) (by decide) rfl dX5_asked_103 ?_
          refine lv_iload_n hx hb dX5_asked_106 rfl (lv_at hl 5 rfl) ?_
          refine lv_iload hx hb dX5_asked_107 (lv_at hl 0 rfl) ?_
          refine lv_if_eq hx hb dX5_asked_109 (tgt := 116) rfl (fun h7 => ?_) (fun h7 => ?_)
          · refine lv_aload_n hx hb dX5_asked_116 rfl (lv_at hl 3 rfl) ?_
            refine rg_0 (f := 6) hx hb htz tin_X5 hown hK hG (by decide) (htz _ fX5_20) (by decide) rfl dX5_asked_117 ?_
            refine lv_iload_n hx hb dX5_asked_120 rfl (lv_at hl 5 rfl) ?_
            refine ra_4 hx hb hK hG (by decide) hk dX5_asked_121 ?_
            refine rt_4 hx hb hL hK hG hS (by decide) hk dX5_asked_122 (fun H locs hG hS => ?_)
            refine lv_aload_n hx hb dX5_asked_123 rfl (lv_at hl 3 rfl) ?_
            refine lv_iconst (v := 2) hx hb dX5_asked_124 (by decide) ?_
            refine lv_iload_n hx hb dX5_asked_125 rfl (lv_at hl 5 rfl) ?_
            refine lv_iload_n hx hb dX5_asked_126 rfl (lv_at hl 6 rfl) ?_
            refine lv_iload hx hb dX5_asked_127 (lv_at hl 0 rfl) ?_
            refine lv_iconst (v := 0) hx hb dX5_asked_129 (by decide) ?_
            refine mz_Vv (As := [.int _, .int _, .int _, .int _, .int _]) (rest := []) ⟨hx, hb, hml, hown, hts⟩ (rc_answer l D L hL _ _ _ _ _ _ hk (by decide) (by simp [rs_ff_u, hff])) (tz_V htz mX5_answer lX5_159 rfl rfl ⟨Nat.le_of_ble_eq_true rfl, Nat.le_of_ble_eq_true rfl⟩) (rrecv_0 hK hG (by decide)) rK_ok hK hG hS rfl hl.1 rfl (Nat.le_of_ble_eq_true rfl) dX5_asked_130 ⟨Nat.zero_le _, Nat.zero_le _⟩ (fun H locs hG hS => ?_)
            exact mz_vret hx hb hr hlk rK_ok hK hS hG dX5_asked_133 (by simp [rs_rAsk, rs_gr, rs_nb, mz_b, h0, h0', h1, h2, h2', h3, h7])
          · exact absurd h7 (by decide)
        · refine lv_aload_n hx hb dX5_asked_70 rfl (lv_at hl 2 rfl) ?_
          refine rg_0 (f := 6) hx hb htz tin_X5 hown hK hG (by decide) (htz _ fX5_20) (by decide) rfl dX5_asked_71 ?_
          refine lv_iload_n hx hb dX5_asked_74 rfl (lv_at hl 4 rfl) ?_
          refine ra_4 hx hb hK hG (by decide) hk dX5_asked_75 ?_
          refine lv_iconst (v := (-1)) hx hb dX5_asked_76 (by decide) ?_
          refine lv_icmp_eq hx hb dX5_asked_77 (tgt := 90) rfl (fun h4 => ?_) (fun h4 => ?_)
          · refine lv_iload hx hb dX5_asked_90 (lv_at hl 0 rfl) ?_
            refine lv_if_eq hx hb dX5_asked_92 (tgt := 99) rfl (fun h6 => ?_) (fun h6 => ?_)
            · exact absurd h6 (by decide)
            · refine lv_iconst (v := 1) hx hb dX5_asked_95 (by decide) ?_
              refine lv_goto hx hb dX5_asked_96 (tgt := 100) rfl ?_
              refine lv_istore hx hb dX5_asked_100 hl (by decide) rfl (fun ls hl => ?_)
              have hl : lv_has ls 7 [(6, .int _), (5, .int _), (4, .int _), (0, .ref _), (1, .int _), (2, .int _), (3, .int _)] := hl
              refine lv_aload_n hx hb dX5_asked_102 rfl (lv_at hl 3 rfl) ?_
              refine rg_0 (f := 6) hx hb htz tin_X5 hown hK hG (by decide) (htz _ fX5_20) (by decide) rfl dX5_asked_103 ?_
              refine lv_iload_n hx hb dX5_asked_106 rfl (lv_at hl 5 rfl) ?_
              refine lv_iload hx hb dX5_asked_107 (lv_at hl 0 rfl) ?_
              refine lv_if_eq hx hb dX5_asked_109 (tgt := 116) rfl (fun h7 => ?_) (fun h7 => ?_)
              · exact absurd h7 (by decide)
              · refine lv_iload_n hx hb dX5_asked_112 rfl (lv_at hl 6 rfl) ?_
                refine lv_goto hx hb dX5_asked_113 (tgt := 122) rfl ?_
                refine rt_4 hx hb hL hK hG hS (by decide) hk dX5_asked_122 (fun H locs hG hS => ?_)
                refine lv_aload_n hx hb dX5_asked_123 rfl (lv_at hl 3 rfl) ?_
                refine lv_iconst (v := 2) hx hb dX5_asked_124 (by decide) ?_
                refine lv_iload_n hx hb dX5_asked_125 rfl (lv_at hl 5 rfl) ?_
                refine lv_iload_n hx hb dX5_asked_126 rfl (lv_at hl 6 rfl) ?_
                refine lv_iload hx hb dX5_asked_127 (lv_at hl 0 rfl) ?_
                refine lv_iconst (v := 0) hx hb dX5_asked_129 (by decide) ?_
                refine mz_Vv (As := [.int _, .int _, .int _, .int _, .int _]) (rest := []) ⟨hx, hb, hml, hown, hts⟩ (rc_answer l D L hL _ _ _ _ _ _ hk (by decide) (by simp [rs_ff_u, hff])) (tz_V htz mX5_answer lX5_159 rfl rfl ⟨Nat.le_of_ble_eq_true rfl, Nat.le_of_ble_eq_true rfl⟩) (rrecv_0 hK hG (by decide)) rK_ok hK hG hS rfl hl.1 rfl (Nat.le_of_ble_eq_true rfl) dX5_asked_130 ⟨Nat.zero_le _, Nat.zero_le _⟩ (fun H locs hG hS => ?_)
                exact mz_vret hx hb hr hlk rK_ok hK hS hG dX5_asked_133 (by simp [rs_rAsk, rs_gr, rs_nb, mz_b, h0, h0', h1, h2, h2', h3, h4, h6, h7])
          · refine lv_aload_n hx hb dX5_asked_80 rfl (lv_at hl 2 rfl) ?_
            refine rg_0 (f := 6) hx hb htz tin_X5 hown hK hG (by decide) (htz _ fX5_20) (by decide) rfl dX5_asked_81 ?_
            refine lv_iload_n hx hb dX5_asked_84 rfl (lv_at hl 4 rfl) ?_
            refine ra_4 hx hb hK hG (by decide) hk dX5_asked_85 ?_
            refine lv_iload_n hx hb dX5_asked_86 rfl (lv_at hl 5 rfl) ?_
            refine lv_icmp_ne hx hb dX5_asked_87 (tgt := 99) rfl (fun h5 => ?_) (fun h5 => ?_)
            · refine lv_iconst (v := 0) hx hb dX5_asked_99 (by decide) ?_
              refine lv_istore hx hb dX5_asked_100 hl (by decide) rfl (fun ls hl => ?_)
              have hl : lv_has ls 7 [(6, .int _), (5, .int _), (4, .int _), (0, .ref _), (1, .int _), (2, .int _), (3, .int _)] := hl
              refine lv_aload_n hx hb dX5_asked_102 rfl (lv_at hl 3 rfl) ?_
              refine rg_0 (f := 6) hx hb htz tin_X5 hown hK hG (by decide) (htz _ fX5_20) (by decide) rfl dX5_asked_103 ?_
              refine lv_iload_n hx hb dX5_asked_106 rfl (lv_at hl 5 rfl) ?_
              refine lv_iload hx hb dX5_asked_107 (lv_at hl 0 rfl) ?_
              refine lv_if_eq hx hb dX5_asked_109 (tgt := 116) rfl (fun h7 => ?_) (fun h7 => ?_)
              · refine lv_aload_n hx hb dX5_asked_116 rfl (lv_at hl 3 rfl) ?_
                refine rg_0 (f := 6) hx hb htz tin_X5 hown hK hG (by decide) (htz _ fX5_20) (by decide) rfl dX5_asked_117 ?_
                refine lv_iload_n hx hb dX5_asked_120 rfl (lv_at hl 5 rfl) ?_
                refine ra_4 hx hb hK hG (by decide) hk dX5_asked_121 ?_
                refine rt_4 hx hb hL hK hG hS (by decide) hk dX5_asked_122 (fun H locs hG hS => ?_)
                refine lv_aload_n hx hb dX5_asked_123 rfl (lv_at hl 3 rfl) ?_
                refine lv_iconst (v := 2) hx hb dX5_asked_124 (by decide) ?_
                refine lv_iload_n hx hb dX5_asked_125 rfl (lv_at hl 5 rfl) ?_
                refine lv_iload_n hx hb dX5_asked_126 rfl (lv_at hl 6 rfl) ?_
                refine lv_iload hx hb dX5_asked_127 (lv_at hl 0 rfl) ?_
                refine lv_iconst (v := 0) hx hb dX5_asked_129 (by decide) ?_
                refine mz_Vv (As := [.int _, .int _, .int _, .int _, .int _]) (rest := []) ⟨hx, hb, hml, hown, hts⟩ (rc_answer l D L hL _ _ _ _ _ _ hk (by decide) (by simp [rs_ff_u, hff])) (tz_V htz mX5_answer lX5_159 rfl rfl ⟨Nat.le_of_ble_eq_true rfl, Nat.le_of_ble_eq_true rfl⟩) (rrecv_0 hK hG (by decide)) rK_ok hK hG hS rfl hl.1 rfl (Nat.le_of_ble_eq_true rfl) dX5_asked_130 ⟨Nat.zero_le _, Nat.zero_le _⟩ (fun H locs hG hS => ?_)
                exact mz_vret hx hb hr hlk rK_ok hK hS hG dX5_asked_133 (by simp [rs_rAsk, rs_gr, rs_nb, mz_b, h0, h0', h1, h2, h2', h3, h4, h5, h7])
              · exact absurd h7 (by decide)
            · refine lv_iload hx hb dX5_asked_90 (lv_at hl 0 rfl) ?_
              refine lv_if_eq hx hb dX5_asked_92 (tgt := 99) rfl (fun h6 => ?_) (fun h6 => ?_)
              · exact absurd h6 (by decide)
              · refine lv_iconst (v := 1) hx hb dX5_asked_95 (by decide) ?_
                refine lv_goto hx hb dX5_asked_96 (tgt := 100) rfl ?_
                refine lv_istore hx hb dX5_asked_100 hl (by decide) rfl (fun ls hl => ?_)
                have hl : lv_has ls 7 [(6, .int _), (5, .int _), (4, .int _), (0, .ref _), (1, .int _), (2, .int _), (3, .int _)] := hl
                refine lv_aload_n hx hb dX5_asked_102 rfl (lv_at hl 3 rfl) ?_
                refine rg_0 (f := 6) hx hb htz tin_X5 hown hK hG (by decide) (htz _ fX5_20) (by decide) rfl dX5_asked_103 ?_
                refine lv_iload_n hx hb dX5_asked_106 rfl (lv_at hl 5 rfl) ?_
                refine lv_iload hx hb dX5_asked_107 (lv_at hl 0 rfl) ?_
                refine lv_if_eq hx hb dX5_asked_109 (tgt := 116) rfl (fun h7 => ?_) (fun h7 => ?_)
                · exact absurd h7 (by decide)
                · refine lv_iload_n hx hb dX5_asked_112 rfl (lv_at hl 6 rfl) ?_
                  refine lv_goto hx hb dX5_asked_113 (tgt := 122) rfl ?_
                  refine rt_4 hx hb hL hK hG hS (by decide) hk dX5_asked_122 (fun H locs hG hS => ?_)
                  refine lv_aload_n hx hb dX5_asked_123 rfl (lv_at hl 3 rfl) ?_
                  refine lv_iconst (v := 2) hx hb dX5_asked_124 (by decide) ?_
                  refine lv_iload_n hx hb dX5_asked_125 rfl (lv_at hl 5 rfl) ?_
                  refine lv_iload_n hx hb dX5_asked_126 rfl (lv_at hl 6 rfl) ?_
                  refine lv_iload hx hb dX5_asked_127 (lv_at hl 0 rfl) ?_
                  refine lv_iconst (v := 0) hx hb dX5_asked_129 (by decide) ?_
                  refine mz_Vv (As := [.int _, .int _, .int _, .int _, .int _]) (rest := []) ⟨hx, hb, hml, hown, hts⟩ (rc_answer l D L hL _ _ _ _ _ _ hk (by decide) (by simp [rs_ff_u, hff])) (tz_V htz mX5_answer lX5_159 rfl rfl ⟨Nat.le_of_ble_eq_true rfl, Nat.le_of_ble_eq_true rfl⟩) (rrecv_0 hK hG (by decide)) rK_ok hK hG hS rfl hl.1 rfl (Nat.le_of_ble_eq_true rfl) dX5_asked_130 ⟨Nat.zero_le _, Nat.zero_le _⟩ (fun H locs hG hS => ?_)
                  exact mz_vret hx hb hr hlk rK_ok hK hS hG dX5_asked_133 (by simp [rs_rAsk, rs_gr, rs_nb, mz_b, h0, h0', h1, h2, h2', h3, h4, h5, h6, h7])

set_option maxRecDepth 100000 in
set_option maxHeartbeats 4000000 in
theorem rc_isMost (l : Launch) (D : va_G) (L : rL) (hL : rL_ok L) (u : mz_S) (x a : Int32) : mz_Ci l (rG D L) (rK D L) (rA L) yX5_isMost (tz_w yX5_isMost cX5_isMost 4 (some .boolean)) ({ frames := 0, cells := 0, slots := 0, locals := 0 } : Room) [.int x, .int a] u (mz_b (rs_most x a)) (u) := by
  refine mz_Ci.of (cc := cX5_isMost) (maxL := 4) (ret := (some .boolean)) (by decide) rfl (Nat.le_of_ble_eq_true rfl) ?_
  intro p e s m args below meth c ls hx hb hr hlk hml hown hts hl hG hK hS
  have hl : lv_has ls 4 [(0, .int x), (1, .int a)] := hl
  have htz : ∀ w ∈ tz, w.before args s = true := fun w h => hts w (List.mem_cons_of_mem _ h)
  have hc12 : rl_c L ≤ 12 := hL.1.2.2.2.1
  have hn5 : rl_n L ≤ 5 := hL.1.2.1
  have h40 : rl_S L ≤ 40 := hL.1.2.2.2.2.2
  refine lv_iconst (v := 0) hx hb dX5_isMost_0 (by decide) ?_
  refine lv_istore_n hx hb dX5_isMost_1 rfl hl (by decide) rfl (fun ls hl => ?_)
  have hl : lv_has ls 4 [(2, .int _), (0, .int _), (1, .int _)] := hl
  refine lv_iconst (v := 0) hx hb dX5_isMost_2 (by decide) ?_
  refine lv_istore_n hx hb dX5_isMost_3 rfl hl (by decide) rfl (fun ls hl => ?_)
  have hl : lv_has ls 4 [(3, .int _), (2, .int _), (0, .int _), (1, .int _)] := hl
  refine mz_loop 5 (P := fun j ls H locs => lv_has ls 4 [(3, .int (nI j)), (2, .int (rs_bits x j)), (0, .int x), (1, .int a)] ∧ rG D L u H ∧ va_S (rA L) s.heap H locs ∧ j ≤ 5) (fun _ _ _ _ h => h.2.2.2) ?_ 0 _ _ _ ⟨hl, hG, hS, Nat.zero_le _⟩
  intro j ls H locs ⟨hl, hG, hS, hj⟩ ih
  refine lv_iload_n hx hb dX5_isMost_4 rfl (lv_at hl 0 rfl) ?_
  refine lv_iconst (v := 5) hx hb dX5_isMost_5 (by decide) ?_
  refine mz_icmp_ge hx hb dX5_isMost_6 (tgt := 23) rfl (fun h0 h0' => ?_) (fun h0 h0' => ?_)
  · rw [show (5 : Int32) = nI 5 from rfl, nI_leI (by omega) (by omega)] at h0'
    refine lv_iconst (v := 2) hx hb dX5_isMost_23 (by decide) ?_
    refine lv_iload_n hx hb dX5_isMost_24 rfl (lv_at hl 1 rfl) ?_
    refine lv_imul hx hb dX5_isMost_25 ?_
    refine lv_iload_n hx hb dX5_isMost_26 rfl (lv_at hl 3 rfl) ?_
    refine mz_icmp_le hx hb dX5_isMost_27 (tgt := 34) rfl (fun h1 h1' => ?_) (fun h1 h1' => ?_)
    · refine lv_iconst (v := 0) hx hb dX5_isMost_34 (by decide) ?_
      exact mz_zret hx hb hr hlk rK_ok hK hS hG dX5_isMost_35 (by decide) (by have ej : j = 5 := (by omega); subst ej; simp [mz_b, rs_most, h1, h1']) rfl
    · refine lv_iconst (v := 1) hx hb dX5_isMost_30 (by decide) ?_
      refine lv_goto hx hb dX5_isMost_31 (tgt := 35) rfl ?_
      exact mz_zret hx hb hr hlk rK_ok hK hS hG dX5_isMost_35 (by decide) (by have ej : j = 5 := (by omega); subst ej; simp [mz_b, rs_most, h1, h1']) rfl
  · rw [show (5 : Int32) = nI 5 from rfl, nI_ltI (by omega) (by omega)] at h0
    refine lv_iload_n hx hb dX5_isMost_9 rfl (lv_at hl 1 rfl) ?_
    refine lv_iload_n hx hb dX5_isMost_10 rfl (lv_at hl 2 rfl) ?_
    refine lv_iload_n hx hb dX5_isMost_11 rfl (lv_at hl 0 rfl) ?_
    refine lv_ishr hx hb dX5_isMost_12 ?_
    refine lv_iconst (v := 1) hx hb dX5_isMost_13 (by decide) ?_
    refine lv_iand hx hb dX5_isMost_14 ?_
    refine lv_iadd hx hb dX5_isMost_15 ?_
    refine lv_istore_n hx hb dX5_isMost_16 rfl hl (by decide) rfl (fun ls hl => ?_)
    have hl : lv_has ls 4 [(2, .int _), (3, .int _), (0, .int _), (1, .int _)] := hl
    refine lv_iinc (k := 1) hx hb dX5_isMost_17 hl rfl (nI_1 j) (by decide) rfl (fun ls hl => ?_)
    have hl : lv_has ls 4 [(3, .int _), (2, .int _), (0, .int _), (1, .int _)] := hl
    refine lv_goto hx hb dX5_isMost_20 (tgt := 4) rfl ?_
    exact ih (by omega) _ _ _ ⟨hl, hG, hS, by omega⟩

set_option maxRecDepth 100000 in
set_option maxHeartbeats 4000000 in
theorem rc_voted (l : Launch) (D : va_G) (L : rL) (hL : rL_ok L) (u : mz_S) (s9 k f : Int32) (hs : vp_in s9 40) (hk : vp_in k 5) : mz_Cv l (rG D L) (rK D L) (rA L) yX5_voted (tz_w yX5_voted cX5_voted 5 none) ({ frames := 1, cells := 0, slots := 0, locals := 23 } : Room) [.ref (L.1 0 0), .int s9, .int k, .int f] u (rs_rVote (rl_n L) u s9.toNatClampNeg k f) := by
  refine mz_Cv.of (cc := cX5_voted) (maxL := 5) (ret := none) (by decide) rfl (Nat.le_of_ble_eq_true rfl) ?_
  intro p e s m args below meth c ls hx hb hr hlk hml hown hts hl hG hK hS
  have hl : lv_has ls 5 [(0, .ref (L.1 0 0)), (1, .int s9), (2, .int k), (3, .int f)] := hl
  have htz : ∀ w ∈ tz, w.before args s = true := fun w h => hts w (List.mem_cons_of_mem _ h)
  have hc12 : rl_c L ≤ 12 := hL.1.2.2.2.1
  have hn5 : rl_n L ≤ 5 := hL.1.2.1
  have h40 : rl_S L ≤ 40 := hL.1.2.2.2.2.2
  refine lv_aload_n hx hb dX5_voted_0 rfl (lv_at hl 0 rfl) ?_
  refine rg_0 (f := 4) hx hb htz tin_X5 hown hK hG (by decide) (htz _ fX5_13) (by decide) rfl dX5_voted_1 ?_
  refine lv_iload_n hx hb dX5_voted_4 rfl (lv_at hl 2 rfl) ?_
  refine ra_2 hx hb hK hG (by decide) hk dX5_voted_5 ?_
  refine lv_iconst (v := 1) hx hb dX5_voted_6 (by decide) ?_
  refine lv_icmp_ne hx hb dX5_voted_7 (tgt := 34) rfl (fun h0 => ?_) (fun h0 => ?_)
  · exact mz_vret hx hb hr hlk rK_ok hK hS hG dX5_voted_34 (by unfold rs_rVote; first | rw [if_pos h0] | rw [if_neg (not_not_intro h0), if_pos h1] | rw [if_neg (not_not_intro h0), if_neg (not_not_intro h1), if_pos h2])
  · refine lv_aload_n hx hb dX5_voted_10 rfl (lv_at hl 0 rfl) ?_
    refine rg_0 (f := 20) hx hb htz tin_X5 hown hK hG (by decide) (htz _ fX5_62) (by decide) rfl dX5_voted_11 ?_
    refine lv_iload_n hx hb dX5_voted_14 rfl (lv_at hl 1 rfl) ?_
    refine ra_18 hx hb hK hG (by decide) hs dX5_voted_15 ?_
    refine lv_aload_n hx hb dX5_voted_16 rfl (lv_at hl 0 rfl) ?_
    refine rg_0 (f := 5) hx hb htz tin_X5 hown hK hG (by decide) (htz _ fX5_17) (by decide) rfl dX5_voted_17 ?_
    refine lv_iload_n hx hb dX5_voted_20 rfl (lv_at hl 2 rfl) ?_
    refine ra_3 hx hb hK hG (by decide) hk dX5_voted_21 ?_
    refine lv_icmp_ne hx hb dX5_voted_22 (tgt := 34) rfl (fun h1 => ?_) (fun h1 => ?_)
    · exact mz_vret hx hb hr hlk rK_ok hK hS hG dX5_voted_34 (by unfold rs_rVote; first | rw [if_pos h0] | rw [if_neg (not_not_intro h0), if_pos h1] | rw [if_neg (not_not_intro h0), if_neg (not_not_intro h1), if_pos h2])
    · refine lv_aload_n hx hb dX5_voted_25 rfl (lv_at hl 0 rfl) ?_
      refine rg_0 (f := 23) hx hb htz tin_X5 hown hK hG (by decide) (htz _ fX5_71) (by decide) rfl dX5_voted_26 ?_
      refine lv_iload_n hx hb dX5_voted_29 rfl (lv_at hl 1 rfl) ?_
      refine ra_21 hx hb hK hG (by decide) hs dX5_voted_30 ?_
      refine lv_if_ne hx hb dX5_voted_31 (tgt := 35) rfl (fun h2 => ?_) (fun h2 => ?_)
      · refine lv_aload_n hx hb dX5_voted_35 rfl (lv_at hl 0 rfl) ?_
        refine rg_0 (f := 11) hx hb htz tin_X5 hown hK hG (by decide) (htz _ fX5_35) (by decide) rfl dX5_voted_36 ?_
        refine lv_iload_n hx hb dX5_voted_39 rfl (lv_at hl 2 rfl) ?_
        refine lv_aload_n hx hb dX5_voted_40 rfl (lv_at hl 0 rfl) ?_
        refine rg_0 (f := 11) hx hb htz tin_X5 hown hK hG (by decide) (htz _ fX5_35) (by decide) rfl dX5_voted_41 ?_
        refine lv_iload_n hx hb dX5_voted_44 rfl (lv_at hl 2 rfl) ?_
        refine ra_9 hx hb hK hG (by decide) hk dX5_voted_45 ?_
        refine lv_iconst (v := 1) hx hb dX5_voted_46 (by decide) ?_
        refine lv_iload_n hx hb dX5_voted_47 rfl (lv_at hl 3 rfl) ?_
        refine lv_ishl hx hb dX5_voted_48 ?_
        refine lv_ior hx hb dX5_voted_49 ?_
        refine rt_9 hx hb hL hK hG hS (by decide) hk dX5_voted_50 (fun H locs hG hS => ?_)
        have hG : rG D L (rs_rVote1 u k f) H := hG
        refine lv_aload_n hx hb dX5_voted_51 rfl (lv_at hl 0 rfl) ?_
        refine rg_0 (f := 11) hx hb htz tin_X5 hown hK hG (by decide) (htz _ fX5_35) (by decide) rfl dX5_voted_52 ?_
        refine lv_iload_n hx hb dX5_voted_55 rfl (lv_at hl 2 rfl) ?_
        refine ra_9 hx hb hK hG (by decide) hk dX5_voted_56 ?_
        refine lv_aload_n hx hb dX5_voted_57 rfl (lv_at hl 0 rfl) ?_
        refine rg_0 (f := 0) hx hb htz tin_X5 hown hK hG (by decide) (htz _ fX5_87) (by decide) rfl dX5_voted_58 ?_
        refine mz_Si (As := [.int _, .int _]) (rest := []) ⟨hx, hb, hml, hown, hts⟩ (rc_isMost l D L hL _ _ _) (tz_S htz mX5_isMost lX5_163 rfl rfl ⟨Nat.le_of_ble_eq_true rfl, Nat.le_of_ble_eq_true rfl⟩) rK_ok hK hG hS rfl hl.1 rfl (Nat.le_of_ble_eq_true rfl) dX5_voted_61 ⟨Nat.zero_le _, Nat.zero_le _⟩ (fun H locs hG hS => ?_)
        refine mz_ifne_b hx hb dX5_voted_64 (tgt := 68) rfl (fun h3 => ?_) (fun h3 => ?_)
        · refine lv_aload_n hx hb dX5_voted_68 rfl (lv_at hl 0 rfl) ?_
          refine rg_0 (f := 4) hx hb htz tin_X5 hown hK hG (by decide) (htz _ fX5_13) (by decide) rfl dX5_voted_69 ?_
          refine lv_iload_n hx hb dX5_voted_72 rfl (lv_at hl 2 rfl) ?_
          refine lv_iconst (v := 2) hx hb dX5_voted_73 (by decide) ?_
          refine rt_2 hx hb hL hK hG hS (by decide) hk dX5_voted_74 (fun H locs hG hS => ?_)
          refine lv_iconst (v := 0) hx hb dX5_voted_75 (by decide) ?_
          refine lv_istore hx hb dX5_voted_76 hl (by decide) rfl (fun ls hl => ?_)
          have hl : lv_has ls 5 [(4, .int _), (0, .ref _), (1, .int _), (2, .int _), (3, .int _)] := hl
          obtain ⟨w, hw9⟩ : ∃ w, w = mz_u (rs_rVote1 u k f) 2 0 k.toNatClampNeg 2 := ⟨_, rfl⟩
          rw [← hw9] at hG
          refine mz_loop 5 (P := fun j ls H locs => lv_has ls 5 [(4, .int (nI j)), (0, .ref (L.1 0 0)), (1, .int s9), (2, .int k), (3, .int f)] ∧ rG D L (rs_lv w k j) H ∧ va_S (rA L) s.heap H locs ∧ j ≤ 5) (fun _ _ _ _ h => h.2.2.2) ?_ 0 _ _ _ ⟨hl, hG, hS, Nat.zero_le _⟩
          intro j ls H locs ⟨hl, hG, hS, hj⟩ ih
          refine lv_iload hx hb dX5_voted_78 (lv_at hl 0 rfl) ?_
          refine lv_iconst (v := 5) hx hb dX5_voted_80 (by decide) ?_
          refine mz_icmp_ge hx hb dX5_voted_81 (tgt := 120) rfl (fun h4 h4' => ?_) (fun h4 h4' => ?_)
          · rw [show (5 : Int32) = nI 5 from rfl, nI_leI (by omega) (by omega)] at h4'
            exact mz_vret hx hb hr hlk rK_ok hK hS hG dX5_voted_120 (by rw [rs_rVote, if_neg (not_not_intro h0), if_neg (not_not_intro h1), if_neg h2, if_neg (not_not_intro h3), ← hw9, show (5 : Nat) = j by omega])
          · rw [show (5 : Int32) = nI 5 from rfl, nI_ltI (by omega) (by omega)] at h4
            refine lv_aload_n hx hb dX5_voted_84 rfl (lv_at hl 1 rfl) ?_
            refine rg_0 (f := 15) hx hb htz tin_X5 hown hK hG (by decide) (htz _ fX5_47) (by decide) rfl dX5_voted_85 ?_
            refine lv_iconst (v := 5) hx hb dX5_voted_88 (by decide) ?_
            refine lv_iload_n hx hb dX5_voted_89 rfl (lv_at hl 3 rfl) ?_
            refine lv_imul hx hb dX5_voted_90 ?_
            refine lv_iload hx hb dX5_voted_91 (lv_at hl 0 rfl) ?_
            refine lv_iadd hx hb dX5_voted_93 ?_
            refine lv_aload_n hx hb dX5_voted_94 rfl (lv_at hl 1 rfl) ?_
            refine lv_iload_n hx hb dX5_voted_95 rfl (lv_at hl 3 rfl) ?_
            refine mz_Vi (As := [.int _]) (rest := [.int _, .ref _]) ⟨hx, hb, hml, hown, hts⟩ (rc_lastOf l D L hL _ _ hk) (tz_V htz mX5_lastOf lX5_97 rfl rfl ⟨Nat.le_of_ble_eq_true rfl, Nat.le_of_ble_eq_true rfl⟩) (rrecv_0 hK hG (by decide)) rK_ok hK hG hS rfl hl.1 rfl (Nat.le_of_ble_eq_true rfl) dX5_voted_96 ⟨Nat.zero_le _, Nat.zero_le _⟩ (fun H locs hG hS => ?_)
            refine mz_topE (rs_last_same (u := w) (by intro x9; rw [rs_lv_o _ _ (by decide) (by decide)]) (by intro x9; rw [rs_lv_o _ _ (by decide) (by decide)])) ?_
            refine lv_iconst (v := 1) hx hb dX5_voted_99 (by decide) ?_
            refine lv_iadd hx hb dX5_voted_100 ?_
            refine rt_13 hx hb hL hK hG hS (by decide) (rz_in5 hk (vp_in_nI (by omega) (by omega))) dX5_voted_101 (fun H locs hG hS => ?_)
            refine lv_aload_n hx hb dX5_voted_102 rfl (lv_at hl 1 rfl) ?_
            refine rg_0 (f := 16) hx hb htz tin_X5 hown hK hG (by decide) (htz _ fX5_50) (by decide) rfl dX5_voted_103 ?_
            refine lv_iconst (v := 5) hx hb dX5_voted_106 (by decide) ?_
            refine lv_iload_n hx hb dX5_voted_107 rfl (lv_at hl 3 rfl) ?_
            refine lv_imul hx hb dX5_voted_108 ?_
            refine lv_iload hx hb dX5_voted_109 (lv_at hl 0 rfl) ?_
            refine lv_iadd hx hb dX5_voted_111 ?_
            refine lv_iconst (v := 0) hx hb dX5_voted_112 (by decide) ?_
            refine rt_14 hx hb hL hK hG hS (by decide) (rz_in5 hk (vp_in_nI (by omega) (by omega))) dX5_voted_113 (fun H locs hG hS => ?_)
            refine lv_iinc (k := 0) hx hb dX5_voted_114 hl rfl (nI_1 j) (by decide) rfl (fun ls hl => ?_)
            have hl : lv_has ls 5 [(4, .int _), (0, .ref _), (1, .int _), (2, .int _), (3, .int _)] := hl
            refine lv_goto hx hb dX5_voted_117 (tgt := 78) rfl ?_
            exact ih (by omega) _ _ _ ⟨hl, hG, hS, by omega⟩
        · exact mz_vret hx hb hr hlk rK_ok hK hS hG dX5_voted_67 (by rw [rs_rVote, if_neg (not_not_intro h0), if_neg (not_not_intro h1), if_neg h2, if_pos h3])
      · exact mz_vret hx hb hr hlk rK_ok hK hS hG dX5_voted_34 (by unfold rs_rVote; first | rw [if_pos h0] | rw [if_neg (not_not_intro h0), if_pos h1] | rw [if_neg (not_not_intro h0), if_neg (not_not_intro h1), if_pos h2])

set_option maxRecDepth 100000 in
set_option maxHeartbeats 4000000 in
theorem rc_takeEntry (l : Launch) (D : va_G) (L : rL) (hL : rL_ok L) (u : mz_S) (k i t x : Int32) (hz : rz (rl_c L) u k) : mz_Ci l (rG D L) (rK D L) (rA L) yX5_takeEntry (tz_w yX5_takeEntry cX5_takeEntry 5 (some .int)) ({ frames := 2, cells := 0, slots := 0, locals := 43 } : Room) [.ref (L.1 0 0), .int k, .int i, .int t, .int x] u (rs_takeR (rl_c L) u k i t x) (rs_take (rl_c L) u k i t x) := by
  refine mz_Ci.of (cc := cX5_takeEntry) (maxL := 5) (ret := (some .int)) (by decide) rfl (Nat.le_of_ble_eq_true rfl) ?_
  intro p e s m args below meth c ls hx hb hr hlk hml hown hts hl hG hK hS
  have hl : lv_has ls 5 [(0, .ref (L.1 0 0)), (1, .int k), (2, .int i), (3, .int t), (4, .int x)] := hl
  have htz : ∀ w ∈ tz, w.before args s = true := fun w h => hts w (List.mem_cons_of_mem _ h)
  have hc12 : rl_c L ≤ 12 := hL.1.2.2.2.1
  have hn5 : rl_n L ≤ 5 := hL.1.2.1
  have h40 : rl_S L ≤ 40 := hL.1.2.2.2.2.2
  have hk : vp_in k 5 := hz.k
  refine lv_aload_n hx hb dX5_takeEntry_0 rfl (lv_at hl 0 rfl) ?_
  refine lv_iload_n hx hb dX5_takeEntry_1 rfl (lv_at hl 1 rfl) ?_
  refine lv_iload_n hx hb dX5_takeEntry_2 rfl (lv_at hl 2 rfl) ?_
  refine mz_Vi (As := [.int _, .int _]) (rest := []) ⟨hx, hb, hml, hown, hts⟩ (rc_hasEntry l D L hL _ _ _ hk) (tz_V htz mX5_hasEntry lX5_101 rfl rfl ⟨Nat.le_of_ble_eq_true rfl, Nat.le_of_ble_eq_true rfl⟩) (rrecv_0 hK hG (by decide)) rK_ok hK hG hS rfl hl.1 rfl (Nat.le_of_ble_eq_true rfl) dX5_takeEntry_3 ⟨Nat.zero_le _, Nat.zero_le _⟩ (fun H locs hG hS => ?_)
  refine mz_ifeq_b hx hb dX5_takeEntry_6 (tgt := 74) rfl (fun h0 => ?_) (fun h0 => ?_)
  · obtain ⟨w, hw9, hG⟩ : ∃ w, w = rs_take1 u k i t ∧ rG D L w H := by
      first
        | exact ⟨_, (by rw [rs_take1, if_neg (not_and_of_not_left _ h0)]), hG⟩
        | exact ⟨_, (by rw [rs_take1, if_neg (not_and_of_not_right _ (not_not_intro h1))]), hG⟩
        | exact ⟨_, (by rw [rs_take1, if_pos (And.intro h0 h1), if_pos h2]), hG⟩
        | exact ⟨_, (by rw [rs_take1, if_pos (And.intro h0 h1), if_neg h2]), hG⟩
    have hz2 : rz (rl_c L) w k := by rw [hw9]; exact hz.take1 hc12 i t
    refine lv_aload_n hx hb dX5_takeEntry_74 rfl (lv_at hl 0 rfl) ?_
    refine lv_iload_n hx hb dX5_takeEntry_75 rfl (lv_at hl 1 rfl) ?_
    refine lv_iload_n hx hb dX5_takeEntry_76 rfl (lv_at hl 2 rfl) ?_
    refine mz_Vi (As := [.int _, .int _]) (rest := []) ⟨hx, hb, hml, hown, hts⟩ (rc_hasEntry l D L hL _ _ _ hk) (tz_V htz mX5_hasEntry lX5_101 rfl rfl ⟨Nat.le_of_ble_eq_true rfl, Nat.le_of_ble_eq_true rfl⟩) (rrecv_0 hK hG (by decide)) rK_ok hK hG hS rfl hl.1 rfl (Nat.le_of_ble_eq_true rfl) dX5_takeEntry_77 ⟨Nat.zero_le _, Nat.zero_le _⟩ (fun H locs hG hS => ?_)
    refine mz_ifne_b hx hb dX5_takeEntry_80 (tgt := 104) rfl (fun h3 => ?_) (fun h3 => ?_)
    · obtain ⟨v, hv9, hG⟩ : ∃ v, v = rs_take (rl_c L) u k i t x ∧ rG D L v H := by
        first
          | exact ⟨_, (by rw [rs_take, ← hw9, if_neg (not_and_of_not_left _ (not_not_intro h3))]), hG⟩
          | exact ⟨_, (by rw [rs_take, ← hw9, if_neg (not_and_of_not_right _ h4)]), hG⟩
          | exact ⟨_, (by rw [rs_take, ← hw9, if_pos (And.intro h3 h4)]), hG⟩
      refine lv_aload_n hx hb dX5_takeEntry_104 rfl (lv_at hl 0 rfl) ?_
      refine lv_iload_n hx hb dX5_takeEntry_105 rfl (lv_at hl 1 rfl) ?_
      refine lv_iload_n hx hb dX5_takeEntry_106 rfl (lv_at hl 2 rfl) ?_
      refine mz_Vi (As := [.int _, .int _]) (rest := []) ⟨hx, hb, hml, hown, hts⟩ (rc_hasEntry l D L hL _ _ _ hk) (tz_V htz mX5_hasEntry lX5_101 rfl rfl ⟨Nat.le_of_ble_eq_true rfl, Nat.le_of_ble_eq_true rfl⟩) (rrecv_0 hK hG (by decide)) rK_ok hK hG hS rfl hl.1 rfl (Nat.le_of_ble_eq_true rfl) dX5_takeEntry_107 ⟨Nat.zero_le _, Nat.zero_le _⟩ (fun H locs hG hS => ?_)
      refine mz_ifeq_b hx hb dX5_takeEntry_110 (tgt := 117) rfl (fun h5 => ?_) (fun h5 => ?_)
      · refine lv_iload_n hx hb dX5_takeEntry_117 rfl (lv_at hl 2 rfl) ?_
        refine lv_iconst (v := 1) hx hb dX5_takeEntry_118 (by decide) ?_
        refine lv_isub hx hb dX5_takeEntry_119 ?_
        exact mz_iret hx hb hr hlk rK_ok hK hS hG dX5_takeEntry_120 (by rw [rs_takeR, ← hv9]; first | rw [if_pos h5] | rw [if_neg h5]) hv9
      · refine lv_iload_n hx hb dX5_takeEntry_113 rfl (lv_at hl 2 rfl) ?_
        refine lv_goto hx hb dX5_takeEntry_114 (tgt := 120) rfl ?_
        exact mz_iret hx hb hr hlk rK_ok hK hS hG dX5_takeEntry_120 (by rw [rs_takeR, ← hv9]; first | rw [if_pos h5] | rw [if_neg h5]) hv9
    · refine lv_aload_n hx hb dX5_takeEntry_83 rfl (lv_at hl 0 rfl) ?_
      refine rg_0 (f := 12) hx hb htz tin_X5 hown hK hG (by decide) (htz _ fX5_38) (by decide) rfl dX5_takeEntry_84 ?_
      refine lv_iload_n hx hb dX5_takeEntry_87 rfl (lv_at hl 1 rfl) ?_
      refine ra_10 hx hb hK hG (by decide) hk dX5_takeEntry_88 ?_
      refine lv_aload_n hx hb dX5_takeEntry_89 rfl (lv_at hl 0 rfl) ?_
      refine rg_0 (f := 1) hx hb htz tin_X5 hown hK hG (by decide) (htz _ fX5_91) (by decide) rfl dX5_takeEntry_90 ?_
      refine mz_icmp_ge hx hb dX5_takeEntry_93 (tgt := 104) rfl (fun h4 h4' => ?_) (fun h4 h4' => ?_)
      · obtain ⟨v, hv9, hG⟩ : ∃ v, v = rs_take (rl_c L) u k i t x ∧ rG D L v H := by
          first
            | exact ⟨_, (by rw [rs_take, ← hw9, if_neg (not_and_of_not_left _ (not_not_intro h3))]), hG⟩
            | exact ⟨_, (by rw [rs_take, ← hw9, if_neg (not_and_of_not_right _ h4)]), hG⟩
            | exact ⟨_, (by rw [rs_take, ← hw9, if_pos (And.intro h3 h4)]), hG⟩
        refine lv_aload_n hx hb dX5_takeEntry_104 rfl (lv_at hl 0 rfl) ?_
        refine lv_iload_n hx hb dX5_takeEntry_105 rfl (lv_at hl 1 rfl) ?_
        refine lv_iload_n hx hb dX5_takeEntry_106 rfl (lv_at hl 2 rfl) ?_
        refine mz_Vi (As := [.int _, .int _]) (rest := []) ⟨hx, hb, hml, hown, hts⟩ (rc_hasEntry l D L hL _ _ _ hk) (tz_V htz mX5_hasEntry lX5_101 rfl rfl ⟨Nat.le_of_ble_eq_true rfl, Nat.le_of_ble_eq_true rfl⟩) (rrecv_0 hK hG (by decide)) rK_ok hK hG hS rfl hl.1 rfl (Nat.le_of_ble_eq_true rfl) dX5_takeEntry_107 ⟨Nat.zero_le _, Nat.zero_le _⟩ (fun H locs hG hS => ?_)
        refine mz_ifeq_b hx hb dX5_takeEntry_110 (tgt := 117) rfl (fun h5 => ?_) (fun h5 => ?_)
        · refine lv_iload_n hx hb dX5_takeEntry_117 rfl (lv_at hl 2 rfl) ?_
          refine lv_iconst (v := 1) hx hb dX5_takeEntry_118 (by decide) ?_
          refine lv_isub hx hb dX5_takeEntry_119 ?_
          exact mz_iret hx hb hr hlk rK_ok hK hS hG dX5_takeEntry_120 (by rw [rs_takeR, ← hv9]; first | rw [if_pos h5] | rw [if_neg h5]) hv9
        · refine lv_iload_n hx hb dX5_takeEntry_113 rfl (lv_at hl 2 rfl) ?_
          refine lv_goto hx hb dX5_takeEntry_114 (tgt := 120) rfl ?_
          exact mz_iret hx hb hr hlk rK_ok hK hS hG dX5_takeEntry_120 (by rw [rs_takeR, ← hv9]; first | rw [if_pos h5] | rw [if_neg h5]) hv9
      · refine lv_aload_n hx hb dX5_takeEntry_96 rfl (lv_at hl 0 rfl) ?_
        refine lv_iload_n hx hb dX5_takeEntry_97 rfl (lv_at hl 1 rfl) ?_
        refine lv_iload_n hx hb dX5_takeEntry_98 rfl (lv_at hl 3 rfl) ?_
        refine lv_iload hx hb dX5_takeEntry_99 (lv_at hl 4 rfl) ?_
        refine mz_Vv (As := [.int _, .int _, .int _]) (rest := []) ⟨hx, hb, hml, hown, hts⟩ (rc_addEntry l D L hL _ _ _ _ hz2 h4) (tz_V htz mX5_addEntry lX5_126 rfl rfl ⟨Nat.le_of_ble_eq_true rfl, Nat.le_of_ble_eq_true rfl⟩) (rrecv_0 hK hG (by decide)) rK_ok hK hG hS rfl hl.1 rfl (Nat.le_of_ble_eq_true rfl) dX5_takeEntry_101 ⟨Nat.zero_le _, Nat.zero_le _⟩ (fun H locs hG hS => ?_)
        obtain ⟨v, hv9, hG⟩ : ∃ v, v = rs_take (rl_c L) u k i t x ∧ rG D L v H := by
          first
            | exact ⟨_, (by rw [rs_take, ← hw9, if_neg (not_and_of_not_left _ (not_not_intro h3))]), hG⟩
            | exact ⟨_, (by rw [rs_take, ← hw9, if_neg (not_and_of_not_right _ h4)]), hG⟩
            | exact ⟨_, (by rw [rs_take, ← hw9, if_pos (And.intro h3 h4)]), hG⟩
        refine lv_aload_n hx hb dX5_takeEntry_104 rfl (lv_at hl 0 rfl) ?_
        refine lv_iload_n hx hb dX5_takeEntry_105 rfl (lv_at hl 1 rfl) ?_
        refine lv_iload_n hx hb dX5_takeEntry_106 rfl (lv_at hl 2 rfl) ?_
        refine mz_Vi (As := [.int _, .int _]) (rest := []) ⟨hx, hb, hml, hown, hts⟩ (rc_hasEntry l D L hL _ _ _ hk) (tz_V htz mX5_hasEntry lX5_101 rfl rfl ⟨Nat.le_of_ble_eq_true rfl, Nat.le_of_ble_eq_true rfl⟩) (rrecv_0 hK hG (by decide)) rK_ok hK hG hS rfl hl.1 rfl (Nat.le_of_ble_eq_true rfl) dX5_takeEntry_107 ⟨Nat.zero_le _, Nat.zero_le _⟩ (fun H locs hG hS => ?_)
        refine mz_ifeq_b hx hb dX5_takeEntry_110 (tgt := 117) rfl (fun h5 => ?_) (fun h5 => ?_)
        · refine lv_iload_n hx hb dX5_takeEntry_117 rfl (lv_at hl 2 rfl) ?_
          refine lv_iconst (v := 1) hx hb dX5_takeEntry_118 (by decide) ?_
          refine lv_isub hx hb dX5_takeEntry_119 ?_
          exact mz_iret hx hb hr hlk rK_ok hK hS hG dX5_takeEntry_120 (by rw [rs_takeR, ← hv9]; first | rw [if_pos h5] | rw [if_neg h5]) hv9
        · refine lv_iload_n hx hb dX5_takeEntry_113 rfl (lv_at hl 2 rfl) ?_
          refine lv_goto hx hb dX5_takeEntry_114 (tgt := 120) rfl ?_
          exact mz_iret hx hb hr hlk rK_ok hK hS hG dX5_takeEntry_120 (by rw [rs_takeR, ← hv9]; first | rw [if_pos h5] | rw [if_neg h5]) hv9
  · refine lv_aload_n hx hb dX5_takeEntry_9 rfl (lv_at hl 0 rfl) ?_
    refine rg_0 (f := 13) hx hb htz tin_X5 hown hK hG (by decide) (htz _ fX5_41) (by decide) rfl dX5_takeEntry_10 ?_
    refine lv_aload_n hx hb dX5_takeEntry_13 rfl (lv_at hl 0 rfl) ?_
    refine lv_iload_n hx hb dX5_takeEntry_14 rfl (lv_at hl 1 rfl) ?_
    refine lv_iload_n hx hb dX5_takeEntry_15 rfl (lv_at hl 2 rfl) ?_
    refine mz_Vi (As := [.int _, .int _]) (rest := [.ref _]) ⟨hx, hb, hml, hown, hts⟩ (rc_place l D L hL _ _ _ hk) (tz_V htz mX5_place lX5_105 rfl rfl ⟨Nat.le_of_ble_eq_true rfl, Nat.le_of_ble_eq_true rfl⟩) (rrecv_0 hK hG (by decide)) rK_ok hK hG hS rfl hl.1 rfl (Nat.le_of_ble_eq_true rfl) dX5_takeEntry_16 ⟨Nat.zero_le _, Nat.zero_le _⟩ (fun H locs hG hS => ?_)
    refine ra_11 hx hb hK hG (by decide) (hz.ix hc12 h0) dX5_takeEntry_19 ?_
    refine lv_iload_n hx hb dX5_takeEntry_20 rfl (lv_at hl 3 rfl) ?_
    refine lv_icmp_eq hx hb dX5_takeEntry_21 (tgt := 74) rfl (fun h1 => ?_) (fun h1 => ?_)
    · obtain ⟨w, hw9, hG⟩ : ∃ w, w = rs_take1 u k i t ∧ rG D L w H := by
        first
          | exact ⟨_, (by rw [rs_take1, if_neg (not_and_of_not_left _ h0)]), hG⟩
          | exact ⟨_, (by rw [rs_take1, if_neg (not_and_of_not_right _ (not_not_intro h1))]), hG⟩
          | exact ⟨_, (by rw [rs_take1, if_pos (And.intro h0 h1), if_pos h2]), hG⟩
          | exact ⟨_, (by rw [rs_take1, if_pos (And.intro h0 h1), if_neg h2]), hG⟩
      have hz2 : rz (rl_c L) w k := by rw [hw9]; exact hz.take1 hc12 i t
      refine lv_aload_n hx hb dX5_takeEntry_74 rfl (lv_at hl 0 rfl) ?_
      refine lv_iload_n hx hb dX5_takeEntry_75 rfl (lv_at hl 1 rfl) ?_
      refine lv_iload_n hx hb dX5_takeEntry_76 rfl (lv_at hl 2 rfl) ?_
      refine mz_Vi (As := [.int _, .int _]) (rest := []) ⟨hx, hb, hml, hown, hts⟩ (rc_hasEntry l D L hL _ _ _ hk) (tz_V htz mX5_hasEntry lX5_101 rfl rfl ⟨Nat.le_of_ble_eq_true rfl, Nat.le_of_ble_eq_true rfl⟩) (rrecv_0 hK hG (by decide)) rK_ok hK hG hS rfl hl.1 rfl (Nat.le_of_ble_eq_true rfl) dX5_takeEntry_77 ⟨Nat.zero_le _, Nat.zero_le _⟩ (fun H locs hG hS => ?_)
      refine mz_ifne_b hx hb dX5_takeEntry_80 (tgt := 104) rfl (fun h3 => ?_) (fun h3 => ?_)
      · obtain ⟨v, hv9, hG⟩ : ∃ v, v = rs_take (rl_c L) u k i t x ∧ rG D L v H := by
          first
            | exact ⟨_, (by rw [rs_take, ← hw9, if_neg (not_and_of_not_left _ (not_not_intro h3))]), hG⟩
            | exact ⟨_, (by rw [rs_take, ← hw9, if_neg (not_and_of_not_right _ h4)]), hG⟩
            | exact ⟨_, (by rw [rs_take, ← hw9, if_pos (And.intro h3 h4)]), hG⟩
        refine lv_aload_n hx hb dX5_takeEntry_104 rfl (lv_at hl 0 rfl) ?_
        refine lv_iload_n hx hb dX5_takeEntry_105 rfl (lv_at hl 1 rfl) ?_
        refine lv_iload_n hx hb dX5_takeEntry_106 rfl (lv_at hl 2 rfl) ?_
        refine mz_Vi (As := [.int _, .int _]) (rest := []) ⟨hx, hb, hml, hown, hts⟩ (rc_hasEntry l D L hL _ _ _ hk) (tz_V htz mX5_hasEntry lX5_101 rfl rfl ⟨Nat.le_of_ble_eq_true rfl, Nat.le_of_ble_eq_true rfl⟩) (rrecv_0 hK hG (by decide)) rK_ok hK hG hS rfl hl.1 rfl (Nat.le_of_ble_eq_true rfl) dX5_takeEntry_107 ⟨Nat.zero_le _, Nat.zero_le _⟩ (fun H locs hG hS => ?_)
        refine mz_ifeq_b hx hb dX5_takeEntry_110 (tgt := 117) rfl (fun h5 => ?_) (fun h5 => ?_)
        · refine lv_iload_n hx hb dX5_takeEntry_117 rfl (lv_at hl 2 rfl) ?_
          refine lv_iconst (v := 1) hx hb dX5_takeEntry_118 (by decide) ?_
          refine lv_isub hx hb dX5_takeEntry_119 ?_
          exact mz_iret hx hb hr hlk rK_ok hK hS hG dX5_takeEntry_120 (by rw [rs_takeR, ← hv9]; first | rw [if_pos h5] | rw [if_neg h5]) hv9
        · refine lv_iload_n hx hb dX5_takeEntry_113 rfl (lv_at hl 2 rfl) ?_
          refine lv_goto hx hb dX5_takeEntry_114 (tgt := 120) rfl ?_
          exact mz_iret hx hb hr hlk rK_ok hK hS hG dX5_takeEntry_120 (by rw [rs_takeR, ← hv9]; first | rw [if_pos h5] | rw [if_neg h5]) hv9
      · refine lv_aload_n hx hb dX5_takeEntry_83 rfl (lv_at hl 0 rfl) ?_
        refine rg_0 (f := 12) hx hb htz tin_X5 hown hK hG (by decide) (htz _ fX5_38) (by decide) rfl dX5_takeEntry_84 ?_
        refine lv_iload_n hx hb dX5_takeEntry_87 rfl (lv_at hl 1 rfl) ?_
        refine ra_10 hx hb hK hG (by decide) hk dX5_takeEntry_88 ?_
        refine lv_aload_n hx hb dX5_takeEntry_89 rfl (lv_at hl 0 rfl) ?_
        refine rg_0 (f := 1) hx hb htz tin_X5 hown hK hG (by decide) (htz _ fX5_91) (by decide) rfl dX5_takeEntry_90 ?_
        refine mz_icmp_ge hx hb dX5_takeEntry_93 (tgt := 104) rfl (fun h4 h4' => ?_) (fun h4 h4' => ?_)
        · obtain ⟨v, hv9, hG⟩ : ∃ v, v = rs_take (rl_c L) u k i t x ∧ rG D L v H := by
            first
              | exact ⟨_, (by rw [rs_take, ← hw9, if_neg (not_and_of_not_left _ (not_not_intro h3))]), hG⟩
              | exact ⟨_, (by rw [rs_take, ← hw9, if_neg (not_and_of_not_right _ h4)]), hG⟩
              | exact ⟨_, (by rw [rs_take, ← hw9, if_pos (And.intro h3 h4)]), hG⟩
          refine lv_aload_n hx hb dX5_takeEntry_104 rfl (lv_at hl 0 rfl) ?_
          refine lv_iload_n hx hb dX5_takeEntry_105 rfl (lv_at hl 1 rfl) ?_
          refine lv_iload_n hx hb dX5_takeEntry_106 rfl (lv_at hl 2 rfl) ?_
          refine mz_Vi (As := [.int _, .int _]) (rest := []) ⟨hx, hb, hml, hown, hts⟩ (rc_hasEntry l D L hL _ _ _ hk) (tz_V htz mX5_hasEntry lX5_101 rfl rfl ⟨Nat.le_of_ble_eq_true rfl, Nat.le_of_ble_eq_true rfl⟩) (rrecv_0 hK hG (by decide)) rK_ok hK hG hS rfl hl.1 rfl (Nat.le_of_ble_eq_true rfl) dX5_takeEntry_107 ⟨Nat.zero_le _, Nat.zero_le _⟩ (fun H locs hG hS => ?_)
          refine mz_ifeq_b hx hb dX5_takeEntry_110 (tgt := 117) rfl (fun h5 => ?_) (fun h5 => ?_)
          · refine lv_iload_n hx hb dX5_takeEntry_117 rfl (lv_at hl 2 rfl) ?_
            refine lv_iconst (v := 1) hx hb dX5_takeEntry_118 (by decide) ?_
            refine lv_isub hx hb dX5_takeEntry_119 ?_
            exact mz_iret hx hb hr hlk rK_ok hK hS hG dX5_takeEntry_120 (by rw [rs_takeR, ← hv9]; first | rw [if_pos h5] | rw [if_neg h5]) hv9
          · refine lv_iload_n hx hb dX5_takeEntry_113 rfl (lv_at hl 2 rfl) ?_
            refine lv_goto hx hb dX5_takeEntry_114 (tgt := 120) rfl ?_
            exact mz_iret hx hb hr hlk rK_ok hK hS hG dX5_takeEntry_120 (by rw [rs_takeR, ← hv9]; first | rw [if_pos h5] | rw [if_neg h5]) hv9
        · refine lv_aload_n hx hb dX5_takeEntry_96 rfl (lv_at hl 0 rfl) ?_
          refine lv_iload_n hx hb dX5_takeEntry_97 rfl (lv_at hl 1 rfl) ?_
          refine lv_iload_n hx hb dX5_takeEntry_98 rfl (lv_at hl 3 rfl) ?_
          refine lv_iload hx hb dX5_takeEntry_99 (lv_at hl 4 rfl) ?_
          refine mz_Vv (As := [.int _, .int _, .int _]) (rest := []) ⟨hx, hb, hml, hown, hts⟩ (rc_addEntry l D L hL _ _ _ _ hz2 h4) (tz_V htz mX5_addEntry lX5_126 rfl rfl ⟨Nat.le_of_ble_eq_true rfl, Nat.le_of_ble_eq_true rfl⟩) (rrecv_0 hK hG (by decide)) rK_ok hK hG hS rfl hl.1 rfl (Nat.le_of_ble_eq_true rfl) dX5_takeEntry_101 ⟨Nat.zero_le _, Nat.zero_le _⟩ (fun H locs hG hS => ?_)
          obtain ⟨v, hv9, hG⟩ : ∃ v, v = rs_take (rl_c L) u k i t x ∧ rG D L v H := by
            first
              | exact ⟨_, (by rw [rs_take, ← hw9, if_neg (not_and_of_not_left _ (not_not_intro h3))]), hG⟩
              | exact ⟨_, (by rw [rs_take, ← hw9, if_neg (not_and_of_not_right _ h4)]), hG⟩
              | exact ⟨_, (by rw [rs_take, ← hw9, if_pos (And.intro h3 h4)]), hG⟩
          refine lv_aload_n hx hb dX5_takeEntry_104 rfl (lv_at hl 0 rfl) ?_
          refine lv_iload_n hx hb dX5_takeEntry_105 rfl (lv_at hl 1 rfl) ?_
          refine lv_iload_n hx hb dX5_takeEntry_106 rfl (lv_at hl 2 rfl) ?_
          refine mz_Vi (As := [.int _, .int _]) (rest := []) ⟨hx, hb, hml, hown, hts⟩ (rc_hasEntry l D L hL _ _ _ hk) (tz_V htz mX5_hasEntry lX5_101 rfl rfl ⟨Nat.le_of_ble_eq_true rfl, Nat.le_of_ble_eq_true rfl⟩) (rrecv_0 hK hG (by decide)) rK_ok hK hG hS rfl hl.1 rfl (Nat.le_of_ble_eq_true rfl) dX5_takeEntry_107 ⟨Nat.zero_le _, Nat.zero_le _⟩ (fun H locs hG hS => ?_)
          refine mz_ifeq_b hx hb dX5_takeEntry_110 (tgt := 117) rfl (fun h5 => ?_) (fun h5 => ?_)
          · refine lv_iload_n hx hb dX5_takeEntry_117 rfl (lv_at hl 2 rfl) ?_
            refine lv_iconst (v := 1) hx hb dX5_takeEntry_118 (by decide) ?_
            refine lv_isub hx hb dX5_takeEntry_119 ?_
            exact mz_iret hx hb hr hlk rK_ok hK hS hG dX5_takeEntry_120 (by rw [rs_takeR, ← hv9]; first | rw [if_pos h5] | rw [if_neg h5]) hv9
          · refine lv_iload_n hx hb dX5_takeEntry_113 rfl (lv_at hl 2 rfl) ?_
            refine lv_goto hx hb dX5_takeEntry_114 (tgt := 120) rfl ?_
            exact mz_iret hx hb hr hlk rK_ok hK hS hG dX5_takeEntry_120 (by rw [rs_takeR, ← hv9]; first | rw [if_pos h5] | rw [if_neg h5]) hv9
    · refine lv_aload_n hx hb dX5_takeEntry_24 rfl (lv_at hl 0 rfl) ?_
      refine rg_0 (f := 12) hx hb htz tin_X5 hown hK hG (by decide) (htz _ fX5_38) (by decide) rfl dX5_takeEntry_25 ?_
      refine lv_iload_n hx hb dX5_takeEntry_28 rfl (lv_at hl 1 rfl) ?_
      refine lv_iload_n hx hb dX5_takeEntry_29 rfl (lv_at hl 2 rfl) ?_
      refine lv_iconst (v := 1) hx hb dX5_takeEntry_30 (by decide) ?_
      refine lv_isub hx hb dX5_takeEntry_31 ?_
      refine lv_aload_n hx hb dX5_takeEntry_32 rfl (lv_at hl 0 rfl) ?_
      refine rg_0 (f := 7) hx hb htz tin_X5 hown hK hG (by decide) (htz _ fX5_23) (by decide) rfl dX5_takeEntry_33 ?_
      refine lv_iload_n hx hb dX5_takeEntry_36 rfl (lv_at hl 1 rfl) ?_
      refine ra_5 hx hb hK hG (by decide) hk dX5_takeEntry_37 ?_
      refine lv_isub hx hb dX5_takeEntry_38 ?_
      refine rt_10 hx hb hL hK hG hS (by decide) hk dX5_takeEntry_39 (fun H locs hG hS => ?_)
      refine lv_aload_n hx hb dX5_takeEntry_40 rfl (lv_at hl 0 rfl) ?_
      refine rg_0 (f := 10) hx hb htz tin_X5 hown hK hG (by decide) (htz _ fX5_32) (by decide) rfl dX5_takeEntry_41 ?_
      refine lv_iload_n hx hb dX5_takeEntry_44 rfl (lv_at hl 1 rfl) ?_
      refine lv_aload_n hx hb dX5_takeEntry_45 rfl (lv_at hl 0 rfl) ?_
      refine rg_0 (f := 10) hx hb htz tin_X5 hown hK hG (by decide) (htz _ fX5_32) (by decide) rfl dX5_takeEntry_46 ?_
      refine lv_iload_n hx hb dX5_takeEntry_49 rfl (lv_at hl 1 rfl) ?_
      refine ra_8 hx hb hK hG (by decide) hk dX5_takeEntry_50 ?_
      refine mz_topE (y := u 8 0 k.toNatClampNeg) (by simp [mz_at]) ?_
      refine lv_aload_n hx hb dX5_takeEntry_51 rfl (lv_at hl 0 rfl) ?_
      refine lv_iload_n hx hb dX5_takeEntry_52 rfl (lv_at hl 1 rfl) ?_
      refine mz_Vi (As := [.int _]) (rest := [.int _, .int _, .ref _]) ⟨hx, hb, hml, hown, hts⟩ (rc_lastOf l D L hL _ _ hk) (tz_V htz mX5_lastOf lX5_97 rfl rfl ⟨Nat.le_of_ble_eq_true rfl, Nat.le_of_ble_eq_true rfl⟩) (rrecv_0 hK hG (by decide)) rK_ok hK hG hS rfl hl.1 rfl (Nat.le_of_ble_eq_true rfl) dX5_takeEntry_53 ⟨Nat.zero_le _, Nat.zero_le _⟩ (fun H locs hG hS => ?_)
      refine mz_icmp_ge hx hb dX5_takeEntry_56 (tgt := 68) rfl (fun h2 h2' => ?_) (fun h2 h2' => ?_)
      · refine lv_aload_n hx hb dX5_takeEntry_68 rfl (lv_at hl 0 rfl) ?_
        refine lv_iload_n hx hb dX5_takeEntry_69 rfl (lv_at hl 1 rfl) ?_
        refine mz_Vi (As := [.int _]) (rest := [.int _, .ref _]) ⟨hx, hb, hml, hown, hts⟩ (rc_lastOf l D L hL _ _ hk) (tz_V htz mX5_lastOf lX5_97 rfl rfl ⟨Nat.le_of_ble_eq_true rfl, Nat.le_of_ble_eq_true rfl⟩) (rrecv_0 hK hG (by decide)) rK_ok hK hG hS rfl hl.1 rfl (Nat.le_of_ble_eq_true rfl) dX5_takeEntry_70 ⟨Nat.zero_le _, Nat.zero_le _⟩ (fun H locs hG hS => ?_)
        refine rt_8 hx hb hL hK hG hS (by decide) hk dX5_takeEntry_73 (fun H locs hG hS => ?_)
        obtain ⟨w, hw9, hG⟩ : ∃ w, w = rs_take1 u k i t ∧ rG D L w H := by
          first
            | exact ⟨_, (by rw [rs_take1, if_neg (not_and_of_not_left _ h0)]), hG⟩
            | exact ⟨_, (by rw [rs_take1, if_neg (not_and_of_not_right _ (not_not_intro h1))]), hG⟩
            | exact ⟨_, (by rw [rs_take1, if_pos (And.intro h0 h1), if_pos h2]), hG⟩
            | exact ⟨_, (by rw [rs_take1, if_pos (And.intro h0 h1), if_neg h2]), hG⟩
        have hz2 : rz (rl_c L) w k := by rw [hw9]; exact hz.take1 hc12 i t
        refine lv_aload_n hx hb dX5_takeEntry_74 rfl (lv_at hl 0 rfl) ?_
        refine lv_iload_n hx hb dX5_takeEntry_75 rfl (lv_at hl 1 rfl) ?_
        refine lv_iload_n hx hb dX5_takeEntry_76 rfl (lv_at hl 2 rfl) ?_
        refine mz_Vi (As := [.int _, .int _]) (rest := []) ⟨hx, hb, hml, hown, hts⟩ (rc_hasEntry l D L hL _ _ _ hk) (tz_V htz mX5_hasEntry lX5_101 rfl rfl ⟨Nat.le_of_ble_eq_true rfl, Nat.le_of_ble_eq_true rfl⟩) (rrecv_0 hK hG (by decide)) rK_ok hK hG hS rfl hl.1 rfl (Nat.le_of_ble_eq_true rfl) dX5_takeEntry_77 ⟨Nat.zero_le _, Nat.zero_le _⟩ (fun H locs hG hS => ?_)
        refine mz_ifne_b hx hb dX5_takeEntry_80 (tgt := 104) rfl (fun h3 => ?_) (fun h3 => ?_)
        · obtain ⟨v, hv9, hG⟩ : ∃ v, v = rs_take (rl_c L) u k i t x ∧ rG D L v H := by
            first
              | exact ⟨_, (by rw [rs_take, ← hw9, if_neg (not_and_of_not_left _ (not_not_intro h3))]), hG⟩
              | exact ⟨_, (by rw [rs_take, ← hw9, if_neg (not_and_of_not_right _ h4)]), hG⟩
              | exact ⟨_, (by rw [rs_take, ← hw9, if_pos (And.intro h3 h4)]), hG⟩
          refine lv_aload_n hx hb dX5_takeEntry_104 rfl (lv_at hl 0 rfl) ?_
          refine lv_iload_n hx hb dX5_takeEntry_105 rfl (lv_at hl 1 rfl) ?_
          refine lv_iload_n hx hb dX5_takeEntry_106 rfl (lv_at hl 2 rfl) ?_
          refine mz_Vi (As := [.int _, .int _]) (rest := []) ⟨hx, hb, hml, hown, hts⟩ (rc_hasEntry l D L hL _ _ _ hk) (tz_V htz mX5_hasEntry lX5_101 rfl rfl ⟨Nat.le_of_ble_eq_true rfl, Nat.le_of_ble_eq_true rfl⟩) (rrecv_0 hK hG (by decide)) rK_ok hK hG hS rfl hl.1 rfl (Nat.le_of_ble_eq_true rfl) dX5_takeEntry_107 ⟨Nat.zero_le _, Nat.zero_le _⟩ (fun H locs hG hS => ?_)
          refine mz_ifeq_b hx hb dX5_takeEntry_110 (tgt := 117) rfl (fun h5 => ?_) (fun h5 => ?_)
          · refine lv_iload_n hx hb dX5_takeEntry_117 rfl (lv_at hl 2 rfl) ?_
            refine lv_iconst (v := 1) hx hb dX5_takeEntry_118 (by decide) ?_
            refine lv_isub hx hb dX5_takeEntry_119 ?_
            exact mz_iret hx hb hr hlk rK_ok hK hS hG dX5_takeEntry_120 (by rw [rs_takeR, ← hv9]; first | rw [if_pos h5] | rw [if_neg h5]) hv9
          · refine lv_iload_n hx hb dX5_takeEntry_113 rfl (lv_at hl 2 rfl) ?_
            refine lv_goto hx hb dX5_takeEntry_114 (tgt := 120) rfl ?_
            exact mz_iret hx hb hr hlk rK_ok hK hS hG dX5_takeEntry_120 (by rw [rs_takeR, ← hv9]; first | rw [if_pos h5] | rw [if_neg h5]) hv9
        · refine lv_aload_n hx hb dX5_takeEntry_83 rfl (lv_at hl 0 rfl) ?_
          refine rg_0 (f := 12) hx hb htz tin_X5 hown hK hG (by decide) (htz _ fX5_38) (by decide) rfl dX5_takeEntry_84 ?_
          refine lv_iload_n hx hb dX5_takeEntry_87 rfl (lv_at hl 1 rfl) ?_
          refine ra_10 hx hb hK hG (by decide) hk dX5_takeEntry_88 ?_
          refine lv_aload_n hx hb dX5_takeEntry_89 rfl (lv_at hl 0 rfl) ?_
          refine rg_0 (f := 1) hx hb htz tin_X5 hown hK hG (by decide) (htz _ fX5_91) (by decide) rfl dX5_takeEntry_90 ?_
          refine mz_icmp_ge hx hb dX5_takeEntry_93 (tgt := 104) rfl (fun h4 h4' => ?_) (fun h4 h4' => ?_)
          · obtain ⟨v, hv9, hG⟩ : ∃ v, v = rs_take (rl_c L) u k i t x ∧ rG D L v H := by
              first
                | exact ⟨_, (by rw [rs_take, ← hw9, if_neg (not_and_of_not_left _ (not_not_intro h3))]), hG⟩
                | exact ⟨_, (by rw [rs_take, ← hw9, if_neg (not_and_of_not_right _ h4)]), hG⟩
                | exact ⟨_, (by rw [rs_take, ← hw9, if_pos (And.intro h3 h4)]), hG⟩
            refine lv_aload_n hx hb dX5_takeEntry_104 rfl (lv_at hl 0 rfl) ?_
            refine lv_iload_n hx hb dX5_takeEntry_105 rfl (lv_at hl 1 rfl) ?_
            refine lv_iload_n hx hb dX5_takeEntry_106 rfl (lv_at hl 2 rfl) ?_
            refine mz_Vi (As := [.int _, .int _]) (rest := []) ⟨hx, hb, hml, hown, hts⟩ (rc_hasEntry l D L hL _ _ _ hk) (tz_V htz mX5_hasEntry lX5_101 rfl rfl ⟨Nat.le_of_ble_eq_true rfl, Nat.le_of_ble_eq_true rfl⟩) (rrecv_0 hK hG (by decide)) rK_ok hK hG hS rfl hl.1 rfl (Nat.le_of_ble_eq_true rfl) dX5_takeEntry_107 ⟨Nat.zero_le _, Nat.zero_le _⟩ (fun H locs hG hS => ?_)
            refine mz_ifeq_b hx hb dX5_takeEntry_110 (tgt := 117) rfl (fun h5 => ?_) (fun h5 => ?_)
            · refine lv_iload_n hx hb dX5_takeEntry_117 rfl (lv_at hl 2 rfl) ?_
              refine lv_iconst (v := 1) hx hb dX5_takeEntry_118 (by decide) ?_
              refine lv_isub hx hb dX5_takeEntry_119 ?_
              exact mz_iret hx hb hr hlk rK_ok hK hS hG dX5_takeEntry_120 (by rw [rs_takeR, ← hv9]; first | rw [if_pos h5] | rw [if_neg h5]) hv9
            · refine lv_iload_n hx hb dX5_takeEntry_113 rfl (lv_at hl 2 rfl) ?_
              refine lv_goto hx hb dX5_takeEntry_114 (tgt := 120) rfl ?_
              exact mz_iret hx hb hr hlk rK_ok hK hS hG dX5_takeEntry_120 (by rw [rs_takeR, ← hv9]; first | rw [if_pos h5] | rw [if_neg h5]) hv9
          · refine lv_aload_n hx hb dX5_takeEntry_96 rfl (lv_at hl 0 rfl) ?_
            refine lv_iload_n hx hb dX5_takeEntry_97 rfl (lv_at hl 1 rfl) ?_
            refine lv_iload_n hx hb dX5_takeEntry_98 rfl (lv_at hl 3 rfl) ?_
            refine lv_iload hx hb dX5_takeEntry_99 (lv_at hl 4 rfl) ?_
            refine mz_Vv (As := [.int _, .int _, .int _]) (rest := []) ⟨hx, hb, hml, hown, hts⟩ (rc_addEntry l D L hL _ _ _ _ hz2 h4) (tz_V htz mX5_addEntry lX5_126 rfl rfl ⟨Nat.le_of_ble_eq_true rfl, Nat.le_of_ble_eq_true rfl⟩) (rrecv_0 hK hG (by decide)) rK_ok hK hG hS rfl hl.1 rfl (Nat.le_of_ble_eq_true rfl) dX5_takeEntry_101 ⟨Nat.zero_le _, Nat.zero_le _⟩ (fun H locs hG hS => ?_)
            obtain ⟨v, hv9, hG⟩ : ∃ v, v = rs_take (rl_c L) u k i t x ∧ rG D L v H := by
              first
                | exact ⟨_, (by rw [rs_take, ← hw9, if_neg (not_and_of_not_left _ (not_not_intro h3))]), hG⟩
                | exact ⟨_, (by rw [rs_take, ← hw9, if_neg (not_and_of_not_right _ h4)]), hG⟩
                | exact ⟨_, (by rw [rs_take, ← hw9, if_pos (And.intro h3 h4)]), hG⟩
            refine lv_aload_n hx hb dX5_takeEntry_104 rfl (lv_at hl 0 rfl) ?_
            refine lv_iload_n hx hb dX5_takeEntry_105 rfl (lv_at hl 1 rfl) ?_
            refine lv_iload_n hx hb dX5_takeEntry_106 rfl (lv_at hl 2 rfl) ?_
            refine mz_Vi (As := [.int _, .int _]) (rest := []) ⟨hx, hb, hml, hown, hts⟩ (rc_hasEntry l D L hL _ _ _ hk) (tz_V htz mX5_hasEntry lX5_101 rfl rfl ⟨Nat.le_of_ble_eq_true rfl, Nat.le_of_ble_eq_true rfl⟩) (rrecv_0 hK hG (by decide)) rK_ok hK hG hS rfl hl.1 rfl (Nat.le_of_ble_eq_true rfl) dX5_takeEntry_107 ⟨Nat.zero_le _, Nat.zero_le _⟩ (fun H locs hG hS => ?_)
            refine mz_ifeq_b hx hb dX5_takeEntry_110 (tgt := 117) rfl (fun h5 => ?_) (fun h5 => ?_)
            · refine lv_iload_n hx hb dX5_takeEntry_117 rfl (lv_at hl 2 rfl) ?_
              refine lv_iconst (v := 1) hx hb dX5_takeEntry_118 (by decide) ?_
              refine lv_isub hx hb dX5_takeEntry_119 ?_
              exact mz_iret hx hb hr hlk rK_ok hK hS hG dX5_takeEntry_120 (by rw [rs_takeR, ← hv9]; first | rw [if_pos h5] | rw [if_neg h5]) hv9
            · refine lv_iload_n hx hb dX5_takeEntry_113 rfl (lv_at hl 2 rfl) ?_
              refine lv_goto hx hb dX5_takeEntry_114 (tgt := 120) rfl ?_
              exact mz_iret hx hb hr hlk rK_ok hK hS hG dX5_takeEntry_120 (by rw [rs_takeR, ← hv9]; first | rw [if_pos h5] | rw [if_neg h5]) hv9
      · refine lv_aload_n hx hb dX5_takeEntry_59 rfl (lv_at hl 0 rfl) ?_
        refine rg_0 (f := 10) hx hb htz tin_X5 hown hK hG (by decide) (htz _ fX5_32) (by decide) rfl dX5_takeEntry_60 ?_
        refine lv_iload_n hx hb dX5_takeEntry_63 rfl (lv_at hl 1 rfl) ?_
        refine ra_8 hx hb hK hG (by decide) hk dX5_takeEntry_64 ?_
        refine mz_topE (y := u 8 0 k.toNatClampNeg) (by simp [mz_at]) ?_
        refine lv_goto hx hb dX5_takeEntry_65 (tgt := 73) rfl ?_
        refine rt_8 hx hb hL hK hG hS (by decide) hk dX5_takeEntry_73 (fun H locs hG hS => ?_)
        obtain ⟨w, hw9, hG⟩ : ∃ w, w = rs_take1 u k i t ∧ rG D L w H := by
          first
            | exact ⟨_, (by rw [rs_take1, if_neg (not_and_of_not_left _ h0)]), hG⟩
            | exact ⟨_, (by rw [rs_take1, if_neg (not_and_of_not_right _ (not_not_intro h1))]), hG⟩
            | exact ⟨_, (by rw [rs_take1, if_pos (And.intro h0 h1), if_pos h2]), hG⟩
            | exact ⟨_, (by rw [rs_take1, if_pos (And.intro h0 h1), if_neg h2]), hG⟩
        have hz2 : rz (rl_c L) w k := by rw [hw9]; exact hz.take1 hc12 i t
        refine lv_aload_n hx hb dX5_takeEntry_74 rfl (lv_at hl 0 rfl) ?_
        refine lv_iload_n hx hb dX5_takeEntry_75 rfl (lv_at hl 1 rfl) ?_
        refine lv_iload_n hx hb dX5_takeEntry_76 rfl (lv_at hl 2 rfl) ?_
        refine mz_Vi (As := [.int _, .int _]) (rest := []) ⟨hx, hb, hml, hown, hts⟩ (rc_hasEntry l D L hL _ _ _ hk) (tz_V htz mX5_hasEntry lX5_101 rfl rfl ⟨Nat.le_of_ble_eq_true rfl, Nat.le_of_ble_eq_true rfl⟩) (rrecv_0 hK hG (by decide)) rK_ok hK hG hS rfl hl.1 rfl (Nat.le_of_ble_eq_true rfl) dX5_takeEntry_77 ⟨Nat.zero_le _, Nat.zero_le _⟩ (fun H locs hG hS => ?_)
        refine mz_ifne_b hx hb dX5_takeEntry_80 (tgt := 104) rfl (fun h3 => ?_) (fun h3 => ?_)
        · obtain ⟨v, hv9, hG⟩ : ∃ v, v = rs_take (rl_c L) u k i t x ∧ rG D L v H := by
            first
              | exact ⟨_, (by rw [rs_take, ← hw9, if_neg (not_and_of_not_left _ (not_not_intro h3))]), hG⟩
              | exact ⟨_, (by rw [rs_take, ← hw9, if_neg (not_and_of_not_right _ h4)]), hG⟩
              | exact ⟨_, (by rw [rs_take, ← hw9, if_pos (And.intro h3 h4)]), hG⟩
          refine lv_aload_n hx hb dX5_takeEntry_104 rfl (lv_at hl 0 rfl) ?_
          refine lv_iload_n hx hb dX5_takeEntry_105 rfl (lv_at hl 1 rfl) ?_
          refine lv_iload_n hx hb dX5_takeEntry_106 rfl (lv_at hl 2 rfl) ?_
          refine mz_Vi (As := [.int _, .int _]) (rest := []) ⟨hx, hb, hml, hown, hts⟩ (rc_hasEntry l D L hL _ _ _ hk) (tz_V htz mX5_hasEntry lX5_101 rfl rfl ⟨Nat.le_of_ble_eq_true rfl, Nat.le_of_ble_eq_true rfl⟩) (rrecv_0 hK hG (by decide)) rK_ok hK hG hS rfl hl.1 rfl (Nat.le_of_ble_eq_true rfl) dX5_takeEntry_107 ⟨Nat.zero_le _, Nat.zero_le _⟩ (fun H locs hG hS => ?_)
          refine mz_ifeq_b hx hb dX5_takeEntry_110 (tgt := 117) rfl (fun h5 => ?_) (fun h5 => ?_)
          · refine lv_iload_n hx hb dX5_takeEntry_117 rfl (lv_at hl 2 rfl) ?_
            refine lv_iconst (v := 1) hx hb dX5_takeEntry_118 (by decide) ?_
            refine lv_isub hx hb dX5_takeEntry_119 ?_
            exact mz_iret hx hb hr hlk rK_ok hK hS hG dX5_takeEntry_120 (by rw [rs_takeR, ← hv9]; first | rw [if_pos h5] | rw [if_neg h5]) hv9
          · refine lv_iload_n hx hb dX5_takeEntry_113 rfl (lv_at hl 2 rfl) ?_
            refine lv_goto hx hb dX5_takeEntry_114 (tgt := 120) rfl ?_
            exact mz_iret hx hb hr hlk rK_ok hK hS hG dX5_takeEntry_120 (by rw [rs_takeR, ← hv9]; first | rw [if_pos h5] | rw [if_neg h5]) hv9
        · refine lv_aload_n hx hb dX5_takeEntry_83 rfl (lv_at hl 0 rfl) ?_
          refine rg_0 (f := 12) hx hb htz tin_X5 hown hK hG (by decide) (htz _ fX5_38) (by decide) rfl dX5_takeEntry_84 ?_
          refine lv_iload_n hx hb dX5_takeEntry_87 rfl (lv_at hl 1 rfl) ?_
          refine ra_10 hx hb hK hG (by decide) hk dX5_takeEntry_88 ?_
          refine lv_aload_n hx hb dX5_takeEntry_89 rfl (lv_at hl 0 rfl) ?_
          refine rg_0 (f := 1) hx hb htz tin_X5 hown hK hG (by decide) (htz _ fX5_91) (by decide) rfl dX5_takeEntry_90 ?_
          refine mz_icmp_ge hx hb dX5_takeEntry_93 (tgt := 104) rfl (fun h4 h4' => ?_) (fun h4 h4' => ?_)
          · obtain ⟨v, hv9, hG⟩ : ∃ v, v = rs_take (rl_c L) u k i t x ∧ rG D L v H := by
              first
                | exact ⟨_, (by rw [rs_take, ← hw9, if_neg (not_and_of_not_left _ (not_not_intro h3))]), hG⟩
                | exact ⟨_, (by rw [rs_take, ← hw9, if_neg (not_and_of_not_right _ h4)]), hG⟩
                | exact ⟨_, (by rw [rs_take, ← hw9, if_pos (And.intro h3 h4)]), hG⟩
            refine lv_aload_n hx hb dX5_takeEntry_104 rfl (lv_at hl 0 rfl) ?_
            refine lv_iload_n hx hb dX5_takeEntry_105 rfl (lv_at hl 1 rfl) ?_
            refine lv_iload_n hx hb dX5_takeEntry_106 rfl (lv_at hl 2 rfl) ?_
            refine mz_Vi (As := [.int _, .int _]) (rest := []) ⟨hx, hb, hml, hown, hts⟩ (rc_hasEntry l D L hL _ _ _ hk) (tz_V htz mX5_hasEntry lX5_101 rfl rfl ⟨Nat.le_of_ble_eq_true rfl, Nat.le_of_ble_eq_true rfl⟩) (rrecv_0 hK hG (by decide)) rK_ok hK hG hS rfl hl.1 rfl (Nat.le_of_ble_eq_true rfl) dX5_takeEntry_107 ⟨Nat.zero_le _, Nat.zero_le _⟩ (fun H locs hG hS => ?_)
            refine mz_ifeq_b hx hb dX5_takeEntry_110 (tgt := 117) rfl (fun h5 => ?_) (fun h5 => ?_)
            · refine lv_iload_n hx hb dX5_takeEntry_117 rfl (lv_at hl 2 rfl) ?_
              refine lv_iconst (v := 1) hx hb dX5_takeEntry_118 (by decide) ?_
              refine lv_isub hx hb dX5_takeEntry_119 ?_
              exact mz_iret hx hb hr hlk rK_ok hK hS hG dX5_takeEntry_120 (by rw [rs_takeR, ← hv9]; first | rw [if_pos h5] | rw [if_neg h5]) hv9
            · refine lv_iload_n hx hb dX5_takeEntry_113 rfl (lv_at hl 2 rfl) ?_
              refine lv_goto hx hb dX5_takeEntry_114 (tgt := 120) rfl ?_
              exact mz_iret hx hb hr hlk rK_ok hK hS hG dX5_takeEntry_120 (by rw [rs_takeR, ← hv9]; first | rw [if_pos h5] | rw [if_neg h5]) hv9
          · refine lv_aload_n hx hb dX5_takeEntry_96 rfl (lv_at hl 0 rfl) ?_
            refine lv_iload_n hx hb dX5_takeEntry_97 rfl (lv_at hl 1 rfl) ?_
            refine lv_iload_n hx hb dX5_takeEntry_98 rfl (lv_at hl 3 rfl) ?_
            refine lv_iload hx hb dX5_takeEntry_99 (lv_at hl 4 rfl) ?_
            refine mz_Vv (As := [.int _, .int _, .int _]) (rest := []) ⟨hx, hb, hml, hown, hts⟩ (rc_addEntry l D L hL _ _ _ _ hz2 h4) (tz_V htz mX5_addEntry lX5_126 rfl rfl ⟨Nat.le_of_ble_eq_true rfl, Nat.le_of_ble_eq_true rfl⟩) (rrecv_0 hK hG (by decide)) rK_ok hK hG hS rfl hl.1 rfl (Nat.le_of_ble_eq_true rfl) dX5_takeEntry_101 ⟨Nat.zero_le _, Nat.zero_le _⟩ (fun H locs hG hS => ?_)
            obtain ⟨v, hv9, hG⟩ : ∃ v, v = rs_take (rl_c L) u k i t x ∧ rG D L v H := by
              first
                | exact ⟨_, (by rw [rs_take, ← hw9, if_neg (not_and_of_not_left _ (not_not_intro h3))]), hG⟩
                | exact ⟨_, (by rw [rs_take, ← hw9, if_neg (not_and_of_not_right _ h4)]), hG⟩
                | exact ⟨_, (by rw [rs_take, ← hw9, if_pos (And.intro h3 h4)]), hG⟩
            refine lv_aload_n hx hb dX5_takeEntry_104 rfl (lv_at hl 0 rfl) ?_
            refine lv_iload_n hx hb dX5_takeEntry_105 rfl (lv_at hl 1 rfl) ?_
            refine lv_iload_n hx hb dX5_takeEntry_106 rfl (lv_at hl 2 rfl) ?_
            refine mz_Vi (As := [.int _, .int _]) (rest := []) ⟨hx, hb, hml, hown, hts⟩ (rc_hasEntry l D L hL _ _ _ hk) (tz_V htz mX5_hasEntry lX5_101 rfl rfl ⟨Nat.le_of_ble_eq_true rfl, Nat.le_of_ble_eq_true rfl⟩) (rrecv_0 hK hG (by decide)) rK_ok hK hG hS rfl hl.1 rfl (Nat.le_of_ble_eq_true rfl) dX5_takeEntry_107 ⟨Nat.zero_le _, Nat.zero_le _⟩ (fun H locs hG hS => ?_)
            refine mz_ifeq_b hx hb dX5_takeEntry_110 (tgt := 117) rfl (fun h5 => ?_) (fun h5 => ?_)
            · refine lv_iload_n hx hb dX5_takeEntry_117 rfl (lv_at hl 2 rfl) ?_
              refine lv_iconst (v := 1) hx hb dX5_takeEntry_118 (by decide) ?_
              refine lv_isub hx hb dX5_takeEntry_119 ?_
              exact mz_iret hx hb hr hlk rK_ok hK hS hG dX5_takeEntry_120 (by rw [rs_takeR, ← hv9]; first | rw [if_pos h5] | rw [if_neg h5]) hv9
            · refine lv_iload_n hx hb dX5_takeEntry_113 rfl (lv_at hl 2 rfl) ?_
              refine lv_goto hx hb dX5_takeEntry_114 (tgt := 120) rfl ?_
              exact mz_iret hx hb hr hlk rK_ok hK hS hG dX5_takeEntry_120 (by rw [rs_takeR, ← hv9]; first | rw [if_pos h5] | rw [if_neg h5]) hv9

set_option maxRecDepth 100000 in
set_option maxHeartbeats 4000000 in
theorem rc_append (l : Launch) (D : va_G) (L : rL) (hL : rL_ok L) (u : mz_S) (s9 k f : Int32) (hs : vp_in s9 40) (hz : rz (rl_c L) u k) (hff : rs_ff (rl_S L) u < rl_S L) : mz_Cv l (rG D L) (rK D L) (rA L) yX5_append (tz_w yX5_append cX5_append 7 none) ({ frames := 3, cells := 0, slots := 0, locals := 72 } : Room) [.ref (L.1 0 0), .int s9, .int k, .int f] u (rs_rApp (rl_c L) (rl_S L) u s9.toNatClampNeg k f) := by
  refine mz_Cv.of (cc := cX5_append) (maxL := 7) (ret := none) (by decide) rfl (Nat.le_of_ble_eq_true rfl) ?_
  intro p e s m args below meth c ls hx hb hr hlk hml hown hts hl hG hK hS
  have hl : lv_has ls 7 [(0, .ref (L.1 0 0)), (1, .int s9), (2, .int k), (3, .int f)] := hl
  have htz : ∀ w ∈ tz, w.before args s = true := fun w h => hts w (List.mem_cons_of_mem _ h)
  have hc12 : rl_c L ≤ 12 := hL.1.2.2.2.1
  have hn5 : rl_n L ≤ 5 := hL.1.2.1
  have h40 : rl_S L ≤ 40 := hL.1.2.2.2.2.2
  have hk : vp_in k 5 := hz.k
  refine lv_aload_n hx hb dX5_append_0 rfl (lv_at hl 0 rfl) ?_
  refine rg_0 (f := 20) hx hb htz tin_X5 hown hK hG (by decide) (htz _ fX5_62) (by decide) rfl dX5_append_1 ?_
  refine lv_iload_n hx hb dX5_append_4 rfl (lv_at hl 1 rfl) ?_
  refine ra_18 hx hb hK hG (by decide) hs dX5_append_5 ?_
  refine lv_aload_n hx hb dX5_append_6 rfl (lv_at hl 0 rfl) ?_
  refine rg_0 (f := 5) hx hb htz tin_X5 hown hK hG (by decide) (htz _ fX5_17) (by decide) rfl dX5_append_7 ?_
  refine lv_iload_n hx hb dX5_append_10 rfl (lv_at hl 2 rfl) ?_
  refine ra_3 hx hb hK hG (by decide) hk dX5_append_11 ?_
  refine mz_icmp_ge hx hb dX5_append_12 (tgt := 25) rfl (fun h0 h0' => ?_) (fun h0 h0' => ?_)
  · refine lv_aload_n hx hb dX5_append_25 rfl (lv_at hl 0 rfl) ?_
    refine rg_0 (f := 4) hx hb htz tin_X5 hown hK hG (by decide) (htz _ fX5_13) (by decide) rfl dX5_append_26 ?_
    refine lv_iload_n hx hb dX5_append_29 rfl (lv_at hl 2 rfl) ?_
    refine lv_iconst (v := 0) hx hb dX5_append_30 (by decide) ?_
    refine rt_2 hx hb hL hK hG hS (by decide) hk dX5_append_31 (fun H locs hG hS => ?_)
    obtain ⟨v, hv⟩ : ∃ v, v = mz_u u 2 0 k.toNatClampNeg 0 := ⟨_, rfl⟩
    rw [← hv] at hG
    have hz9 : rz (rl_c L) v k := hz.same (by rw [hv]; simp [mz_at]) (by rw [hv]; simp [mz_at])
    have hff9 : rs_ff (rl_S L) v < rl_S L := by rw [hv, rs_ff_u (by decide)]; exact hff
    refine lv_aload_n hx hb dX5_append_32 rfl (lv_at hl 0 rfl) ?_
    refine rg_0 (f := 21) hx hb htz tin_X5 hown hK hG (by decide) (htz _ fX5_65) (by decide) rfl dX5_append_33 ?_
    refine lv_iload_n hx hb dX5_append_36 rfl (lv_at hl 1 rfl) ?_
    refine ra_19 hx hb hK hG (by decide) hs dX5_append_37 ?_
    refine lv_istore hx hb dX5_append_38 hl (by decide) rfl (fun ls hl => ?_)
    have hl : lv_has ls 7 [(4, .int _), (0, .ref _), (1, .int _), (2, .int _), (3, .int _)] := hl
    refine lv_iload hx hb dX5_append_40 (lv_at hl 0 rfl) ?_
    refine lv_aload_n hx hb dX5_append_42 rfl (lv_at hl 1 rfl) ?_
    refine rg_0 (f := 7) hx hb htz tin_X5 hown hK hG (by decide) (htz _ fX5_23) (by decide) rfl dX5_append_43 ?_
    refine lv_iload_n hx hb dX5_append_46 rfl (lv_at hl 3 rfl) ?_
    refine ra_5 hx hb hK hG (by decide) hk dX5_append_47 ?_
    refine mz_icmp_ge hx hb dX5_append_48 (tgt := 68) rfl (fun h1 h1' => ?_) (fun h1 h1' => ?_)
    · refine lv_iload hx hb dX5_append_68 (lv_at hl 0 rfl) ?_
      refine lv_aload_n hx hb dX5_append_70 rfl (lv_at hl 1 rfl) ?_
      refine lv_iload_n hx hb dX5_append_71 rfl (lv_at hl 3 rfl) ?_
      refine mz_Vi (As := [.int _]) (rest := [.int _]) ⟨hx, hb, hml, hown, hts⟩ (rc_lastOf l D L hL _ _ hk) (tz_V htz mX5_lastOf lX5_97 rfl rfl ⟨Nat.le_of_ble_eq_true rfl, Nat.le_of_ble_eq_true rfl⟩) (rrecv_0 hK hG (by decide)) rK_ok hK hG hS rfl hl.1 rfl (Nat.le_of_ble_eq_true rfl) dX5_append_72 ⟨Nat.zero_le _, Nat.zero_le _⟩ (fun H locs hG hS => ?_)
      refine mz_icmp_gt hx hb dX5_append_75 (tgt := 94) rfl (fun h2 h2' => ?_) (fun h2 h2' => ?_)
      · refine lv_aload_n hx hb dX5_append_94 rfl (lv_at hl 1 rfl) ?_
        refine lv_iconst (v := 4) hx hb dX5_append_95 (by decide) ?_
        refine lv_iload_n hx hb dX5_append_96 rfl (lv_at hl 3 rfl) ?_
        refine lv_iload_n hx hb dX5_append_97 rfl (lv_at hl 4 rfl) ?_
        refine lv_iconst (v := 0) hx hb dX5_append_98 (by decide) ?_
        refine lv_iconst (v := 0) hx hb dX5_append_99 (by decide) ?_
        refine mz_Vv (As := [.int _, .int _, .int _, .int _, .int _]) (rest := []) ⟨hx, hb, hml, hown, hts⟩ (rc_answer l D L hL _ _ _ _ _ _ hk (by decide) hff9) (tz_V htz mX5_answer lX5_159 rfl rfl ⟨Nat.le_of_ble_eq_true rfl, Nat.le_of_ble_eq_true rfl⟩) (rrecv_0 hK hG (by decide)) rK_ok hK hG hS rfl hl.1 rfl (Nat.le_of_ble_eq_true rfl) dX5_append_100 ⟨Nat.zero_le _, Nat.zero_le _⟩ (fun H locs hG hS => ?_)
        refine lv_goto hx hb dX5_append_103 (tgt := 205) rfl ?_
        exact mz_vret hx hb hr hlk rK_ok hK hS hG dX5_append_205 (by rw [rs_rApp, if_neg h0, ← hv]; unfold rs_rApp1; first | rw [if_pos h1] | rw [if_neg h1, if_pos (Or.inl h2)] | rw [if_neg h1, if_pos (Or.inr h3)] | rw [if_neg h1, if_neg (not_or_intro h2 (not_not_intro h3)), rs_rAppC, ← hwe, ← hye])
      · refine lv_aload_n hx hb dX5_append_78 rfl (lv_at hl 1 rfl) ?_
        refine lv_iload_n hx hb dX5_append_79 rfl (lv_at hl 3 rfl) ?_
        refine lv_iload hx hb dX5_append_80 (lv_at hl 0 rfl) ?_
        refine mz_Vi (As := [.int _, .int _]) (rest := []) ⟨hx, hb, hml, hown, hts⟩ (rc_termOf l D L hL _ _ _ hz9) (tz_V htz mX5_termOf lX5_123 rfl rfl ⟨Nat.le_of_ble_eq_true rfl, Nat.le_of_ble_eq_true rfl⟩) (rrecv_0 hK hG (by decide)) rK_ok hK hG hS rfl hl.1 rfl (Nat.le_of_ble_eq_true rfl) dX5_append_82 ⟨Nat.zero_le _, Nat.zero_le _⟩ (fun H locs hG hS => ?_)
        refine lv_aload_n hx hb dX5_append_85 rfl (lv_at hl 1 rfl) ?_
        refine rg_0 (f := 22) hx hb htz tin_X5 hown hK hG (by decide) (htz _ fX5_68) (by decide) rfl dX5_append_86 ?_
        refine lv_iload_n hx hb dX5_append_89 rfl (lv_at hl 2 rfl) ?_
        refine ra_20 hx hb hK hG (by decide) hs dX5_append_90 ?_
        refine lv_icmp_eq hx hb dX5_append_91 (tgt := 106) rfl (fun h3 => ?_) (fun h3 => ?_)
        · refine lv_aload_n hx hb dX5_append_106 rfl (lv_at hl 1 rfl) ?_
          refine rg_0 (f := 23) hx hb htz tin_X5 hown hK hG (by decide) (htz _ fX5_71) (by decide) rfl dX5_append_107 ?_
          refine lv_iload_n hx hb dX5_append_110 rfl (lv_at hl 2 rfl) ?_
          refine ra_21 hx hb hK hG (by decide) hs dX5_append_111 ?_
          refine lv_if_eq hx hb dX5_append_112 (tgt := 139) rfl (fun h4 => ?_) (fun h4 => ?_)
          · refine lv_iload hx hb dX5_append_139 (lv_at hl 0 rfl) ?_
            obtain ⟨w, y9, hwe, hye, hG, h15⟩ : ∃ (w : mz_S) (y9 : Int32), w = rs_rAppE (rl_c L) v s9.toNatClampNeg k ∧ y9 = rs_rAppH (rl_c L) v s9.toNatClampNeg k ∧ rG D L w H ∧ rs_ff (rl_S L) w = rs_ff (rl_S L) v := by
              first
                | exact ⟨_, _, (by rw [rs_rAppE, if_pos h4]), (by rw [rs_rAppH, if_pos h4]), hG, rfl⟩
                | exact ⟨_, _, (by rw [rs_rAppE, if_neg h4]), (by rw [rs_rAppH, if_neg h4]), hG, rs_ff_same (fun x9 => rs_take_o _ _ _ _ _ _ (by decide) (by decide) (by decide) (by decide) _ _)⟩
            refine mz_topE (y := y9) (by rw [hye]; first | rw [rs_rAppH, if_pos h4] | rw [rs_rAppH, if_neg h4]) ?_
            have eW : ∀ a x, a ≠ 8 → a ≠ 10 → a ≠ 11 → a ≠ 12 → w a 0 x = v a 0 x := by
              intro a x h8 h10 h11 h12
              rw [hwe, rs_rAppE_o _ _ _ _ h8 h10 h11 h12]
            refine lv_istore hx hb dX5_append_141 hl (by decide) rfl (fun ls hl => ?_)
            have hl : lv_has ls 7 [(5, .int _), (4, .int _), (0, .ref _), (1, .int _), (2, .int _), (3, .int _)] := hl
            refine lv_aload_n hx hb dX5_append_143 rfl (lv_at hl 2 rfl) ?_
            refine rg_0 (f := 26) hx hb htz tin_X5 hown hK hG (by decide) (htz _ fX5_80) (by decide) rfl dX5_append_144 ?_
            refine lv_iload_n hx hb dX5_append_147 rfl (lv_at hl 3 rfl) ?_
            refine ra_24 hx hb hK hG (by decide) hs dX5_append_148 ?_
            refine mz_topE (eW 24 _ (by decide) (by decide) (by decide) (by decide)) ?_
            refine lv_iload hx hb dX5_append_149 (lv_at hl 0 rfl) ?_
            refine mz_icmp_ge hx hb dX5_append_151 (tgt := 163) rfl (fun h5 h5' => ?_) (fun h5 h5' => ?_)
            · refine lv_iload hx hb dX5_append_163 (lv_at hl 0 rfl) ?_
              refine mz_topE (y := rs_rAppX (rl_c L) v s9.toNatClampNeg k) (by rw [rs_rAppX, ← hye]; first | rw [if_pos h5] | rw [if_neg h5]) ?_
              refine lv_istore hx hb dX5_append_165 hl (by decide) rfl (fun ls hl => ?_)
              have hl : lv_has ls 7 [(6, .int _), (5, .int _), (4, .int _), (0, .ref _), (1, .int _), (2, .int _), (3, .int _)] := hl
              refine lv_aload_n hx hb dX5_append_167 rfl (lv_at hl 3 rfl) ?_
              refine rg_0 (f := 10) hx hb htz tin_X5 hown hK hG (by decide) (htz _ fX5_32) (by decide) rfl dX5_append_168 ?_
              refine lv_iload_n hx hb dX5_append_171 rfl (lv_at hl 5 rfl) ?_
              refine lv_iload hx hb dX5_append_172 (lv_at hl 0 rfl) ?_
              refine lv_aload_n hx hb dX5_append_174 rfl (lv_at hl 3 rfl) ?_
              refine rg_0 (f := 10) hx hb htz tin_X5 hown hK hG (by decide) (htz _ fX5_32) (by decide) rfl dX5_append_175 ?_
              refine lv_iload_n hx hb dX5_append_178 rfl (lv_at hl 5 rfl) ?_
              refine ra_8 hx hb hK hG (by decide) hk dX5_append_179 ?_
              refine mz_icmp_le hx hb dX5_append_180 (tgt := 188) rfl (fun h6 h6' => ?_) (fun h6 h6' => ?_)
              · refine lv_aload_n hx hb dX5_append_188 rfl (lv_at hl 3 rfl) ?_
                refine rg_0 (f := 10) hx hb htz tin_X5 hown hK hG (by decide) (htz _ fX5_32) (by decide) rfl dX5_append_189 ?_
                refine lv_iload_n hx hb dX5_append_192 rfl (lv_at hl 5 rfl) ?_
                refine ra_8 hx hb hK hG (by decide) hk dX5_append_193 ?_
                refine mz_topE (y := (if w 8 0 k.toNatClampNeg < rs_rAppX (rl_c L) v s9.toNatClampNeg k then rs_rAppX (rl_c L) v s9.toNatClampNeg k else w 8 0 k.toNatClampNeg)) (by first | rw [if_pos h6] | rw [if_neg h6]) ?_
                refine rt_8 hx hb hL hK hG hS (by decide) hk dX5_append_194 (fun H locs hG hS => ?_)
                refine lv_aload_n hx hb dX5_append_195 rfl (lv_at hl 3 rfl) ?_
                refine lv_iconst (v := 4) hx hb dX5_append_196 (by decide) ?_
                refine lv_iload_n hx hb dX5_append_197 rfl (lv_at hl 5 rfl) ?_
                refine lv_iload_n hx hb dX5_append_198 rfl (lv_at hl 6 rfl) ?_
                refine lv_iconst (v := 1) hx hb dX5_append_199 (by decide) ?_
                refine lv_iload hx hb dX5_append_200 (lv_at hl 1 rfl) ?_
                refine mz_Vv (As := [.int _, .int _, .int _, .int _, .int _]) (rest := []) ⟨hx, hb, hml, hown, hts⟩ (rc_answer l D L hL _ _ _ _ _ _ hk (by decide) (by rw [rs_ff_u (by decide), h15]; exact hff9)) (tz_V htz mX5_answer lX5_159 rfl rfl ⟨Nat.le_of_ble_eq_true rfl, Nat.le_of_ble_eq_true rfl⟩) (rrecv_0 hK hG (by decide)) rK_ok hK hG hS rfl hl.1 rfl (Nat.le_of_ble_eq_true rfl) dX5_append_202 ⟨Nat.zero_le _, Nat.zero_le _⟩ (fun H locs hG hS => ?_)
                exact mz_vret hx hb hr hlk rK_ok hK hS hG dX5_append_205 (by rw [rs_rApp, if_neg h0, ← hv]; unfold rs_rApp1; first | rw [if_pos h1] | rw [if_neg h1, if_pos (Or.inl h2)] | rw [if_neg h1, if_pos (Or.inr h3)] | rw [if_neg h1, if_neg (not_or_intro h2 (not_not_intro h3)), rs_rAppC, ← hwe, ← hye])
              · refine lv_iload hx hb dX5_append_183 (lv_at hl 0 rfl) ?_
                refine lv_goto hx hb dX5_append_185 (tgt := 194) rfl ?_
                refine mz_topE (y := (if w 8 0 k.toNatClampNeg < rs_rAppX (rl_c L) v s9.toNatClampNeg k then rs_rAppX (rl_c L) v s9.toNatClampNeg k else w 8 0 k.toNatClampNeg)) (by first | rw [if_pos h6] | rw [if_neg h6]) ?_
                refine rt_8 hx hb hL hK hG hS (by decide) hk dX5_append_194 (fun H locs hG hS => ?_)
                refine lv_aload_n hx hb dX5_append_195 rfl (lv_at hl 3 rfl) ?_
                refine lv_iconst (v := 4) hx hb dX5_append_196 (by decide) ?_
                refine lv_iload_n hx hb dX5_append_197 rfl (lv_at hl 5 rfl) ?_
                refine lv_iload_n hx hb dX5_append_198 rfl (lv_at hl 6 rfl) ?_
                refine lv_iconst (v := 1) hx hb dX5_append_199 (by decide) ?_
                refine lv_iload hx hb dX5_append_200 (lv_at hl 1 rfl) ?_
                refine mz_Vv (As := [.int _, .int _, .int _, .int _, .int _]) (rest := []) ⟨hx, hb, hml, hown, hts⟩ (rc_answer l D L hL _ _ _ _ _ _ hk (by decide) (by rw [rs_ff_u (by decide), h15]; exact hff9)) (tz_V htz mX5_answer lX5_159 rfl rfl ⟨Nat.le_of_ble_eq_true rfl, Nat.le_of_ble_eq_true rfl⟩) (rrecv_0 hK hG (by decide)) rK_ok hK hG hS rfl hl.1 rfl (Nat.le_of_ble_eq_true rfl) dX5_append_202 ⟨Nat.zero_le _, Nat.zero_le _⟩ (fun H locs hG hS => ?_)
                exact mz_vret hx hb hr hlk rK_ok hK hS hG dX5_append_205 (by rw [rs_rApp, if_neg h0, ← hv]; unfold rs_rApp1; first | rw [if_pos h1] | rw [if_neg h1, if_pos (Or.inl h2)] | rw [if_neg h1, if_pos (Or.inr h3)] | rw [if_neg h1, if_neg (not_or_intro h2 (not_not_intro h3)), rs_rAppC, ← hwe, ← hye])
            · refine lv_aload_n hx hb dX5_append_154 rfl (lv_at hl 2 rfl) ?_
              refine rg_0 (f := 26) hx hb htz tin_X5 hown hK hG (by decide) (htz _ fX5_80) (by decide) rfl dX5_append_155 ?_
              refine lv_iload_n hx hb dX5_append_158 rfl (lv_at hl 3 rfl) ?_
              refine ra_24 hx hb hK hG (by decide) hs dX5_append_159 ?_
              refine mz_topE (eW 24 _ (by decide) (by decide) (by decide) (by decide)) ?_
              refine lv_goto hx hb dX5_append_160 (tgt := 165) rfl ?_
              refine mz_topE (y := rs_rAppX (rl_c L) v s9.toNatClampNeg k) (by rw [rs_rAppX, ← hye]; first | rw [if_pos h5] | rw [if_neg h5]) ?_
              refine lv_istore hx hb dX5_append_165 hl (by decide) rfl (fun ls hl => ?_)
              have hl : lv_has ls 7 [(6, .int _), (5, .int _), (4, .int _), (0, .ref _), (1, .int _), (2, .int _), (3, .int _)] := hl
              refine lv_aload_n hx hb dX5_append_167 rfl (lv_at hl 3 rfl) ?_
              refine rg_0 (f := 10) hx hb htz tin_X5 hown hK hG (by decide) (htz _ fX5_32) (by decide) rfl dX5_append_168 ?_
              refine lv_iload_n hx hb dX5_append_171 rfl (lv_at hl 5 rfl) ?_
              refine lv_iload hx hb dX5_append_172 (lv_at hl 0 rfl) ?_
              refine lv_aload_n hx hb dX5_append_174 rfl (lv_at hl 3 rfl) ?_
              refine rg_0 (f := 10) hx hb htz tin_X5 hown hK hG (by decide) (htz _ fX5_32) (by decide) rfl dX5_append_175 ?_
              refine lv_iload_n hx hb dX5_append_178 rfl (lv_at hl 5 rfl) ?_
              refine ra_8 hx hb hK hG (by decide) hk dX5_append_179 ?_
              refine mz_icmp_le hx hb dX5_append_180 (tgt := 188) rfl (fun h6 h6' => ?_) (fun h6 h6' => ?_)
              · refine lv_aload_n hx hb dX5_append_188 rfl (lv_at hl 3 rfl) ?_
                refine rg_0 (f := 10) hx hb htz tin_X5 hown hK hG (by decide) (htz _ fX5_32) (by decide) rfl dX5_append_189 ?_
                refine lv_iload_n hx hb dX5_append_192 rfl (lv_at hl 5 rfl) ?_
                refine ra_8 hx hb hK hG (by decide) hk dX5_append_193 ?_
                refine mz_topE (y := (if w 8 0 k.toNatClampNeg < rs_rAppX (rl_c L) v s9.toNatClampNeg k then rs_rAppX (rl_c L) v s9.toNatClampNeg k else w 8 0 k.toNatClampNeg)) (by first | rw [if_pos h6] | rw [if_neg h6]) ?_
                refine rt_8 hx hb hL hK hG hS (by decide) hk dX5_append_194 (fun H locs hG hS => ?_)
                refine lv_aload_n hx hb dX5_append_195 rfl (lv_at hl 3 rfl) ?_
                refine lv_iconst (v := 4) hx hb dX5_append_196 (by decide) ?_
                refine lv_iload_n hx hb dX5_append_197 rfl (lv_at hl 5 rfl) ?_
                refine lv_iload_n hx hb dX5_append_198 rfl (lv_at hl 6 rfl) ?_
                refine lv_iconst (v := 1) hx hb dX5_append_199 (by decide) ?_
                refine lv_iload hx hb dX5_append_200 (lv_at hl 1 rfl) ?_
                refine mz_Vv (As := [.int _, .int _, .int _, .int _, .int _]) (rest := []) ⟨hx, hb, hml, hown, hts⟩ (rc_answer l D L hL _ _ _ _ _ _ hk (by decide) (by rw [rs_ff_u (by decide), h15]; exact hff9)) (tz_V htz mX5_answer lX5_159 rfl rfl ⟨Nat.le_of_ble_eq_true rfl, Nat.le_of_ble_eq_true rfl⟩) (rrecv_0 hK hG (by decide)) rK_ok hK hG hS rfl hl.1 rfl (Nat.le_of_ble_eq_true rfl) dX5_append_202 ⟨Nat.zero_le _, Nat.zero_le _⟩ (fun H locs hG hS => ?_)
                exact mz_vret hx hb hr hlk rK_ok hK hS hG dX5_append_205 (by rw [rs_rApp, if_neg h0, ← hv]; unfold rs_rApp1; first | rw [if_pos h1] | rw [if_neg h1, if_pos (Or.inl h2)] | rw [if_neg h1, if_pos (Or.inr h3)] | rw [if_neg h1, if_neg (not_or_intro h2 (not_not_intro h3)), rs_rAppC, ← hwe, ← hye])
              · refine lv_iload hx hb dX5_append_183 (lv_at hl 0 rfl) ?_
                refine lv_goto hx hb dX5_append_185 (tgt := 194) rfl ?_
                refine mz_topE (y := (if w 8 0 k.toNatClampNeg < rs_rAppX (rl_c L) v s9.toNatClampNeg k then rs_rAppX (rl_c L) v s9.toNatClampNeg k else w 8 0 k.toNatClampNeg)) (by first | rw [if_pos h6] | rw [if_neg h6]) ?_
                refine rt_8 hx hb hL hK hG hS (by decide) hk dX5_append_194 (fun H locs hG hS => ?_)
                refine lv_aload_n hx hb dX5_append_195 rfl (lv_at hl 3 rfl) ?_
                refine lv_iconst (v := 4) hx hb dX5_append_196 (by decide) ?_
                refine lv_iload_n hx hb dX5_append_197 rfl (lv_at hl 5 rfl) ?_
                refine lv_iload_n hx hb dX5_append_198 rfl (lv_at hl 6 rfl) ?_
                refine lv_iconst (v := 1) hx hb dX5_append_199 (by decide) ?_
                refine lv_iload hx hb dX5_append_200 (lv_at hl 1 rfl) ?_
                refine mz_Vv (As := [.int _, .int _, .int _, .int _, .int _]) (rest := []) ⟨hx, hb, hml, hown, hts⟩ (rc_answer l D L hL _ _ _ _ _ _ hk (by decide) (by rw [rs_ff_u (by decide), h15]; exact hff9)) (tz_V htz mX5_answer lX5_159 rfl rfl ⟨Nat.le_of_ble_eq_true rfl, Nat.le_of_ble_eq_true rfl⟩) (rrecv_0 hK hG (by decide)) rK_ok hK hG hS rfl hl.1 rfl (Nat.le_of_ble_eq_true rfl) dX5_append_202 ⟨Nat.zero_le _, Nat.zero_le _⟩ (fun H locs hG hS => ?_)
                exact mz_vret hx hb hr hlk rK_ok hK hS hG dX5_append_205 (by rw [rs_rApp, if_neg h0, ← hv]; unfold rs_rApp1; first | rw [if_pos h1] | rw [if_neg h1, if_pos (Or.inl h2)] | rw [if_neg h1, if_pos (Or.inr h3)] | rw [if_neg h1, if_neg (not_or_intro h2 (not_not_intro h3)), rs_rAppC, ← hwe, ← hye])
          · refine lv_aload_n hx hb dX5_append_115 rfl (lv_at hl 1 rfl) ?_
            refine lv_iload_n hx hb dX5_append_116 rfl (lv_at hl 3 rfl) ?_
            refine lv_iload hx hb dX5_append_117 (lv_at hl 0 rfl) ?_
            refine lv_iconst (v := 1) hx hb dX5_append_119 (by decide) ?_
            refine lv_iadd hx hb dX5_append_120 ?_
            refine lv_aload_n hx hb dX5_append_121 rfl (lv_at hl 1 rfl) ?_
            refine rg_0 (f := 24) hx hb htz tin_X5 hown hK hG (by decide) (htz _ fX5_74) (by decide) rfl dX5_append_122 ?_
            refine lv_iload_n hx hb dX5_append_125 rfl (lv_at hl 2 rfl) ?_
            refine ra_22 hx hb hK hG (by decide) hs dX5_append_126 ?_
            refine lv_aload_n hx hb dX5_append_127 rfl (lv_at hl 1 rfl) ?_
            refine rg_0 (f := 25) hx hb htz tin_X5 hown hK hG (by decide) (htz _ fX5_77) (by decide) rfl dX5_append_128 ?_
            refine lv_iload_n hx hb dX5_append_131 rfl (lv_at hl 2 rfl) ?_
            refine ra_23 hx hb hK hG (by decide) hs dX5_append_132 ?_
            refine mz_Vi (As := [.int _, .int _, .int _, .int _]) (rest := []) ⟨hx, hb, hml, hown, hts⟩ (rc_takeEntry l D L hL _ _ _ _ _ hz9) (tz_V htz mX5_takeEntry lX5_166 rfl rfl ⟨Nat.le_of_ble_eq_true rfl, Nat.le_of_ble_eq_true rfl⟩) (rrecv_0 hK hG (by decide)) rK_ok hK hG hS rfl hl.1 rfl (Nat.le_of_ble_eq_true rfl) dX5_append_133 ⟨Nat.zero_le _, Nat.zero_le _⟩ (fun H locs hG hS => ?_)
            refine lv_goto hx hb dX5_append_136 (tgt := 141) rfl ?_
            obtain ⟨w, y9, hwe, hye, hG, h15⟩ : ∃ (w : mz_S) (y9 : Int32), w = rs_rAppE (rl_c L) v s9.toNatClampNeg k ∧ y9 = rs_rAppH (rl_c L) v s9.toNatClampNeg k ∧ rG D L w H ∧ rs_ff (rl_S L) w = rs_ff (rl_S L) v := by
              first
                | exact ⟨_, _, (by rw [rs_rAppE, if_pos h4]), (by rw [rs_rAppH, if_pos h4]), hG, rfl⟩
                | exact ⟨_, _, (by rw [rs_rAppE, if_neg h4]), (by rw [rs_rAppH, if_neg h4]), hG, rs_ff_same (fun x9 => rs_take_o _ _ _ _ _ _ (by decide) (by decide) (by decide) (by decide) _ _)⟩
            refine mz_topE (y := y9) (by rw [hye]; first | rw [rs_rAppH, if_pos h4] | rw [rs_rAppH, if_neg h4]) ?_
            have eW : ∀ a x, a ≠ 8 → a ≠ 10 → a ≠ 11 → a ≠ 12 → w a 0 x = v a 0 x := by
              intro a x h8 h10 h11 h12
              rw [hwe, rs_rAppE_o _ _ _ _ h8 h10 h11 h12]
            refine lv_istore hx hb dX5_append_141 hl (by decide) rfl (fun ls hl => ?_)
            have hl : lv_has ls 7 [(5, .int _), (4, .int _), (0, .ref _), (1, .int _), (2, .int _), (3, .int _)] := hl
            refine lv_aload_n hx hb dX5_append_143 rfl (lv_at hl 2 rfl) ?_
            refine rg_0 (f := 26) hx hb htz tin_X5 hown hK hG (by decide) (htz _ fX5_80) (by decide) rfl dX5_append_144 ?_
            refine lv_iload_n hx hb dX5_append_147 rfl (lv_at hl 3 rfl) ?_
            refine ra_24 hx hb hK hG (by decide) hs dX5_append_148 ?_
            refine mz_topE (eW 24 _ (by decide) (by decide) (by decide) (by decide)) ?_
            refine lv_iload hx hb dX5_append_149 (lv_at hl 0 rfl) ?_
            refine mz_icmp_ge hx hb dX5_append_151 (tgt := 163) rfl (fun h5 h5' => ?_) (fun h5 h5' => ?_)
            · refine lv_iload hx hb dX5_append_163 (lv_at hl 0 rfl) ?_
              refine mz_topE (y := rs_rAppX (rl_c L) v s9.toNatClampNeg k) (by rw [rs_rAppX, ← hye]; first | rw [if_pos h5] | rw [if_neg h5]) ?_
              refine lv_istore hx hb dX5_append_165 hl (by decide) rfl (fun ls hl => ?_)
              have hl : lv_has ls 7 [(6, .int _), (5, .int _), (4, .int _), (0, .ref _), (1, .int _), (2, .int _), (3, .int _)] := hl
              refine lv_aload_n hx hb dX5_append_167 rfl (lv_at hl 3 rfl) ?_
              refine rg_0 (f := 10) hx hb htz tin_X5 hown hK hG (by decide) (htz _ fX5_32) (by decide) rfl dX5_append_168 ?_
              refine lv_iload_n hx hb dX5_append_171 rfl (lv_at hl 5 rfl) ?_
              refine lv_iload hx hb dX5_append_172 (lv_at hl 0 rfl) ?_
              refine lv_aload_n hx hb dX5_append_174 rfl (lv_at hl 3 rfl) ?_
              refine rg_0 (f := 10) hx hb htz tin_X5 hown hK hG (by decide) (htz _ fX5_32) (by decide) rfl dX5_append_175 ?_
              refine lv_iload_n hx hb dX5_append_178 rfl (lv_at hl 5 rfl) ?_
              refine ra_8 hx hb hK hG (by decide) hk dX5_append_179 ?_
              refine mz_icmp_le hx hb dX5_append_180 (tgt := 188) rfl (fun h6 h6' => ?_) (fun h6 h6' => ?_)
              · refine lv_aload_n hx hb dX5_append_188 rfl (lv_at hl 3 rfl) ?_
                refine rg_0 (f := 10) hx hb htz tin_X5 hown hK hG (by decide) (htz _ fX5_32) (by decide) rfl dX5_append_189 ?_
                refine lv_iload_n hx hb dX5_append_192 rfl (lv_at hl 5 rfl) ?_
                refine ra_8 hx hb hK hG (by decide) hk dX5_append_193 ?_
                refine mz_topE (y := (if w 8 0 k.toNatClampNeg < rs_rAppX (rl_c L) v s9.toNatClampNeg k then rs_rAppX (rl_c L) v s9.toNatClampNeg k else w 8 0 k.toNatClampNeg)) (by first | rw [if_pos h6] | rw [if_neg h6]) ?_
                refine rt_8 hx hb hL hK hG hS (by decide) hk dX5_append_194 (fun H locs hG hS => ?_)
                refine lv_aload_n hx hb dX5_append_195 rfl (lv_at hl 3 rfl) ?_
                refine lv_iconst (v := 4) hx hb dX5_append_196 (by decide) ?_
                refine lv_iload_n hx hb dX5_append_197 rfl (lv_at hl 5 rfl) ?_
                refine lv_iload_n hx hb dX5_append_198 rfl (lv_at hl 6 rfl) ?_
                refine lv_iconst (v := 1) hx hb dX5_append_199 (by decide) ?_
                refine lv_iload hx hb dX5_append_200 (lv_at hl 1 rfl) ?_
                refine mz_Vv (As := [.int _, .int _, .int _, .int _, .int _]) (rest := []) ⟨hx, hb, hml, hown, hts⟩ (rc_answer l D L hL _ _ _ _ _ _ hk (by decide) (by rw [rs_ff_u (by decide), h15]; exact hff9)) (tz_V htz mX5_answer lX5_159 rfl rfl ⟨Nat.le_of_ble_eq_true rfl, Nat.le_of_ble_eq_true rfl⟩) (rrecv_0 hK hG (by decide)) rK_ok hK hG hS rfl hl.1 rfl (Nat.le_of_ble_eq_true rfl) dX5_append_202 ⟨Nat.zero_le _, Nat.zero_le _⟩ (fun H locs hG hS => ?_)
                exact mz_vret hx hb hr hlk rK_ok hK hS hG dX5_append_205 (by rw [rs_rApp, if_neg h0, ← hv]; unfold rs_rApp1; first | rw [if_pos h1] | rw [if_neg h1, if_pos (Or.inl h2)] | rw [if_neg h1, if_pos (Or.inr h3)] | rw [if_neg h1, if_neg (not_or_intro h2 (not_not_intro h3)), rs_rAppC, ← hwe, ← hye])
              · refine lv_iload hx hb dX5_append_183 (lv_at hl 0 rfl) ?_
                refine lv_goto hx hb dX5_append_185 (tgt := 194) rfl ?_
                refine mz_topE (y := (if w 8 0 k.toNatClampNeg < rs_rAppX (rl_c L) v s9.toNatClampNeg k then rs_rAppX (rl_c L) v s9.toNatClampNeg k else w 8 0 k.toNatClampNeg)) (by first | rw [if_pos h6] | rw [if_neg h6]) ?_
                refine rt_8 hx hb hL hK hG hS (by decide) hk dX5_append_194 (fun H locs hG hS => ?_)
                refine lv_aload_n hx hb dX5_append_195 rfl (lv_at hl 3 rfl) ?_
                refine lv_iconst (v := 4) hx hb dX5_append_196 (by decide) ?_
                refine lv_iload_n hx hb dX5_append_197 rfl (lv_at hl 5 rfl) ?_
                refine lv_iload_n hx hb dX5_append_198 rfl (lv_at hl 6 rfl) ?_
                refine lv_iconst (v := 1) hx hb dX5_append_199 (by decide) ?_
                refine lv_iload hx hb dX5_append_200 (lv_at hl 1 rfl) ?_
                refine mz_Vv (As := [.int _, .int _, .int _, .int _, .int _]) (rest := []) ⟨hx, hb, hml, hown, hts⟩ (rc_answer l D L hL _ _ _ _ _ _ hk (by decide) (by rw [rs_ff_u (by decide), h15]; exact hff9)) (tz_V htz mX5_answer lX5_159 rfl rfl ⟨Nat.le_of_ble_eq_true rfl, Nat.le_of_ble_eq_true rfl⟩) (rrecv_0 hK hG (by decide)) rK_ok hK hG hS rfl hl.1 rfl (Nat.le_of_ble_eq_true rfl) dX5_append_202 ⟨Nat.zero_le _, Nat.zero_le _⟩ (fun H locs hG hS => ?_)
                exact mz_vret hx hb hr hlk rK_ok hK hS hG dX5_append_205 (by rw [rs_rApp, if_neg h0, ← hv]; unfold rs_rApp1; first | rw [if_pos h1] | rw [if_neg h1, if_pos (Or.inl h2)] | rw [if_neg h1, if_pos (Or.inr h3)] | rw [if_neg h1, if_neg (not_or_intro h2 (not_not_intro h3)), rs_rAppC, ← hwe, ← hye])
            · refine lv_aload_n hx hb dX5_append_154 rfl (lv_at hl 2 rfl) ?_
              refine rg_0 (f := 26) hx hb htz tin_X5 hown hK hG (by decide) (htz _ fX5_80) (by decide) rfl dX5_append_155 ?_
              refine lv_iload_n hx hb dX5_append_158 rfl (lv_at hl 3 rfl) ?_
              refine ra_24 hx hb hK hG (by decide) hs dX5_append_159 ?_
              refine mz_topE (eW 24 _ (by decide) (by decide) (by decide) (by decide)) ?_
              refine lv_goto hx hb dX5_append_160 (tgt := 165) rfl ?_
              refine mz_topE (y := rs_rAppX (rl_c L) v s9.toNatClampNeg k) (by rw [rs_rAppX, ← hye]; first | rw [if_pos h5] | rw [if_neg h5]) ?_
              refine lv_istore hx hb dX5_append_165 hl (by decide) rfl (fun ls hl => ?_)
              have hl : lv_has ls 7 [(6, .int _), (5, .int _), (4, .int _), (0, .ref _), (1, .int _), (2, .int _), (3, .int _)] := hl
              refine lv_aload_n hx hb dX5_append_167 rfl (lv_at hl 3 rfl) ?_
              refine rg_0 (f := 10) hx hb htz tin_X5 hown hK hG (by decide) (htz _ fX5_32) (by decide) rfl dX5_append_168 ?_
              refine lv_iload_n hx hb dX5_append_171 rfl (lv_at hl 5 rfl) ?_
              refine lv_iload hx hb dX5_append_172 (lv_at hl 0 rfl) ?_
              refine lv_aload_n hx hb dX5_append_174 rfl (lv_at hl 3 rfl) ?_
              refine rg_0 (f := 10) hx hb htz tin_X5 hown hK hG (by decide) (htz _ fX5_32) (by decide) rfl dX5_append_175 ?_
              refine lv_iload_n hx hb dX5_append_178 rfl (lv_at hl 5 rfl) ?_
              refine ra_8 hx hb hK hG (by decide) hk dX5_append_179 ?_
              refine mz_icmp_le hx hb dX5_append_180 (tgt := 188) rfl (fun h6 h6' => ?_) (fun h6 h6' => ?_)
              · refine lv_aload_n hx hb dX5_append_188 rfl (lv_at hl 3 rfl) ?_
                refine rg_0 (f := 10) hx hb htz tin_X5 hown hK hG (by decide) (htz _ fX5_32) (by decide) rfl dX5_append_189 ?_
                refine lv_iload_n hx hb dX5_append_192 rfl (lv_at hl 5 rfl) ?_
                refine ra_8 hx hb hK hG (by decide) hk dX5_append_193 ?_
                refine mz_topE (y := (if w 8 0 k.toNatClampNeg < rs_rAppX (rl_c L) v s9.toNatClampNeg k then rs_rAppX (rl_c L) v s9.toNatClampNeg k else w 8 0 k.toNatClampNeg)) (by first | rw [if_pos h6] | rw [if_neg h6]) ?_
                refine rt_8 hx hb hL hK hG hS (by decide) hk dX5_append_194 (fun H locs hG hS => ?_)
                refine lv_aload_n hx hb dX5_append_195 rfl (lv_at hl 3 rfl) ?_
                refine lv_iconst (v := 4) hx hb dX5_append_196 (by decide) ?_
                refine lv_iload_n hx hb dX5_append_197 rfl (lv_at hl 5 rfl) ?_
                refine lv_iload_n hx hb dX5_append_198 rfl (lv_at hl 6 rfl) ?_
                refine lv_iconst (v := 1) hx hb dX5_append_199 (by decide) ?_
                refine lv_iload hx hb dX5_append_200 (lv_at hl 1 rfl) ?_
                refine mz_Vv (As := [.int _, .int _, .int _, .int _, .int _]) (rest := []) ⟨hx, hb, hml, hown, hts⟩ (rc_answer l D L hL _ _ _ _ _ _ hk (by decide) (by rw [rs_ff_u (by decide), h15]; exact hff9)) (tz_V htz mX5_answer lX5_159 rfl rfl ⟨Nat.le_of_ble_eq_true rfl, Nat.le_of_ble_eq_true rfl⟩) (rrecv_0 hK hG (by decide)) rK_ok hK hG hS rfl hl.1 rfl (Nat.le_of_ble_eq_true rfl) dX5_append_202 ⟨Nat.zero_le _, Nat.zero_le _⟩ (fun H locs hG hS => ?_)
                exact mz_vret hx hb hr hlk rK_ok hK hS hG dX5_append_205 (by rw [rs_rApp, if_neg h0, ← hv]; unfold rs_rApp1; first | rw [if_pos h1] | rw [if_neg h1, if_pos (Or.inl h2)] | rw [if_neg h1, if_pos (Or.inr h3)] | rw [if_neg h1, if_neg (not_or_intro h2 (not_not_intro h3)), rs_rAppC, ← hwe, ← hye])
              · refine lv_iload hx hb dX5_append_183 (lv_at hl 0 rfl) ?_
                refine lv_goto hx hb dX5_append_185 (tgt := 194) rfl ?_
                refine mz_topE (y := (if w 8 0 k.toNatClampNeg < rs_rAppX (rl_c L) v s9.toNatClampNeg k then rs_rAppX (rl_c L) v s9.toNatClampNeg k else w 8 0 k.toNatClampNeg)) (by first | rw [if_pos h6] | rw [if_neg h6]) ?_
                refine rt_8 hx hb hL hK hG hS (by decide) hk dX5_append_194 (fun H locs hG hS => ?_)
                refine lv_aload_n hx hb dX5_append_195 rfl (lv_at hl 3 rfl) ?_
                refine lv_iconst (v := 4) hx hb dX5_append_196 (by decide) ?_
                refine lv_iload_n hx hb dX5_append_197 rfl (lv_at hl 5 rfl) ?_
                refine lv_iload_n hx hb dX5_append_198 rfl (lv_at hl 6 rfl) ?_
                refine lv_iconst (v := 1) hx hb dX5_append_199 (by decide) ?_
                refine lv_iload hx hb dX5_append_200 (lv_at hl 1 rfl) ?_
                refine mz_Vv (As := [.int _, .int _, .int _, .int _, .int _]) (rest := []) ⟨hx, hb, hml, hown, hts⟩ (rc_answer l D L hL _ _ _ _ _ _ hk (by decide) (by rw [rs_ff_u (by decide), h15]; exact hff9)) (tz_V htz mX5_answer lX5_159 rfl rfl ⟨Nat.le_of_ble_eq_true rfl, Nat.le_of_ble_eq_true rfl⟩) (rrecv_0 hK hG (by decide)) rK_ok hK hG hS rfl hl.1 rfl (Nat.le_of_ble_eq_true rfl) dX5_append_202 ⟨Nat.zero_le _, Nat.zero_le _⟩ (fun H locs hG hS => ?_)
                exact mz_vret hx hb hr hlk rK_ok hK hS hG dX5_append_205 (by rw [rs_rApp, if_neg h0, ← hv]; unfold rs_rApp1; first | rw [if_pos h1] | rw [if_neg h1, if_pos (Or.inl h2)] | rw [if_neg h1, if_pos (Or.inr h3)] | rw [if_neg h1, if_neg (not_or_intro h2 (not_not_intro h3)), rs_rAppC, ← hwe, ← hye])
        · refine lv_aload_n hx hb dX5_append_94 rfl (lv_at hl 1 rfl) ?_
          refine lv_iconst (v := 4) hx hb dX5_append_95 (by decide) ?_
          refine lv_iload_n hx hb dX5_append_96 rfl (lv_at hl 3 rfl) ?_
          refine lv_iload_n hx hb dX5_append_97 rfl (lv_at hl 4 rfl) ?_
          refine lv_iconst (v := 0) hx hb dX5_append_98 (by decide) ?_
          refine lv_iconst (v := 0) hx hb dX5_append_99 (by decide) ?_
          refine mz_Vv (As := [.int _, .int _, .int _, .int _, .int _]) (rest := []) ⟨hx, hb, hml, hown, hts⟩ (rc_answer l D L hL _ _ _ _ _ _ hk (by decide) hff9) (tz_V htz mX5_answer lX5_159 rfl rfl ⟨Nat.le_of_ble_eq_true rfl, Nat.le_of_ble_eq_true rfl⟩) (rrecv_0 hK hG (by decide)) rK_ok hK hG hS rfl hl.1 rfl (Nat.le_of_ble_eq_true rfl) dX5_append_100 ⟨Nat.zero_le _, Nat.zero_le _⟩ (fun H locs hG hS => ?_)
          refine lv_goto hx hb dX5_append_103 (tgt := 205) rfl ?_
          exact mz_vret hx hb hr hlk rK_ok hK hS hG dX5_append_205 (by rw [rs_rApp, if_neg h0, ← hv]; unfold rs_rApp1; first | rw [if_pos h1] | rw [if_neg h1, if_pos (Or.inl h2)] | rw [if_neg h1, if_pos (Or.inr h3)] | rw [if_neg h1, if_neg (not_or_intro h2 (not_not_intro h3)), rs_rAppC, ← hwe, ← hye])
    · refine lv_aload_n hx hb dX5_append_51 rfl (lv_at hl 1 rfl) ?_
      refine lv_iconst (v := 4) hx hb dX5_append_52 (by decide) ?_
      refine lv_iload_n hx hb dX5_append_53 rfl (lv_at hl 3 rfl) ?_
      refine lv_iload_n hx hb dX5_append_54 rfl (lv_at hl 4 rfl) ?_
      refine lv_iconst (v := 1) hx hb dX5_append_55 (by decide) ?_
      refine lv_aload_n hx hb dX5_append_56 rfl (lv_at hl 1 rfl) ?_
      refine rg_0 (f := 7) hx hb htz tin_X5 hown hK hG (by decide) (htz _ fX5_23) (by decide) rfl dX5_append_57 ?_
      refine lv_iload_n hx hb dX5_append_60 rfl (lv_at hl 3 rfl) ?_
      refine ra_5 hx hb hK hG (by decide) hk dX5_append_61 ?_
      refine mz_Vv (As := [.int _, .int _, .int _, .int _, .int _]) (rest := []) ⟨hx, hb, hml, hown, hts⟩ (rc_answer l D L hL _ _ _ _ _ _ hk (by decide) hff9) (tz_V htz mX5_answer lX5_159 rfl rfl ⟨Nat.le_of_ble_eq_true rfl, Nat.le_of_ble_eq_true rfl⟩) (rrecv_0 hK hG (by decide)) rK_ok hK hG hS rfl hl.1 rfl (Nat.le_of_ble_eq_true rfl) dX5_append_62 ⟨Nat.zero_le _, Nat.zero_le _⟩ (fun H locs hG hS => ?_)
      refine lv_goto hx hb dX5_append_65 (tgt := 205) rfl ?_
      exact mz_vret hx hb hr hlk rK_ok hK hS hG dX5_append_205 (by rw [rs_rApp, if_neg h0, ← hv]; unfold rs_rApp1; first | rw [if_pos h1] | rw [if_neg h1, if_pos (Or.inl h2)] | rw [if_neg h1, if_pos (Or.inr h3)] | rw [if_neg h1, if_neg (not_or_intro h2 (not_not_intro h3)), rs_rAppC, ← hwe, ← hye])
  · refine lv_aload_n hx hb dX5_append_15 rfl (lv_at hl 0 rfl) ?_
    refine lv_iconst (v := 4) hx hb dX5_append_16 (by decide) ?_
    refine lv_iload_n hx hb dX5_append_17 rfl (lv_at hl 2 rfl) ?_
    refine lv_iload_n hx hb dX5_append_18 rfl (lv_at hl 3 rfl) ?_
    refine lv_iconst (v := 0) hx hb dX5_append_19 (by decide) ?_
    refine lv_iconst (v := 0) hx hb dX5_append_20 (by decide) ?_
    refine mz_Vv (As := [.int _, .int _, .int _, .int _, .int _]) (rest := []) ⟨hx, hb, hml, hown, hts⟩ (rc_answer l D L hL _ _ _ _ _ _ hk (by decide) hff) (tz_V htz mX5_answer lX5_159 rfl rfl ⟨Nat.le_of_ble_eq_true rfl, Nat.le_of_ble_eq_true rfl⟩) (rrecv_0 hK hG (by decide)) rK_ok hK hG hS rfl hl.1 rfl (Nat.le_of_ble_eq_true rfl) dX5_append_21 ⟨Nat.zero_le _, Nat.zero_le _⟩ (fun H locs hG hS => ?_)
    exact mz_vret hx hb hr hlk rK_ok hK hS hG dX5_append_24 (by rw [rs_rApp, if_pos h0])

set_option maxRecDepth 100000 in
set_option maxHeartbeats 4000000 in
theorem rc_count (l : Launch) (D : va_G) (L : rL) (hL : rL_ok L) (u : mz_S) (k : Int32) (hq : rzc (rl_c L) u k (u 8 0 k.toNatClampNeg)) : mz_Cv l (rG D L) (rK D L) (rA L) yX5_count (tz_w yX5_count cX5_count 6 none) ({ frames := 3, cells := 0, slots := 0, locals := 65 } : Room) [.ref (L.1 0 0), .int k] u (rs_count (rl_n L) u k) := by
  refine mz_Cv.of (cc := cX5_count) (maxL := 6) (ret := none) (by decide) rfl (Nat.le_of_ble_eq_true rfl) ?_
  intro p e s m args below meth c ls hx hb hr hlk hml hown hts hl hG hK hS
  have hl : lv_has ls 6 [(0, .ref (L.1 0 0)), (1, .int k)] := hl
  have htz : ∀ w ∈ tz, w.before args s = true := fun w h => hts w (List.mem_cons_of_mem _ h)
  have hc12 : rl_c L ≤ 12 := hL.1.2.2.2.1
  have hn5 : rl_n L ≤ 5 := hL.1.2.1
  have h40 : rl_S L ≤ 40 := hL.1.2.2.2.2.2
  have hk : vp_in k 5 := hq.rz.k
  refine lv_aload_n hx hb dX5_count_0 rfl (lv_at hl 0 rfl) ?_
  refine rg_0 (f := 10) hx hb htz tin_X5 hown hK hG (by decide) (htz _ fX5_32) (by decide) rfl dX5_count_1 ?_
  refine lv_iload_n hx hb dX5_count_4 rfl (lv_at hl 1 rfl) ?_
  refine ra_8 hx hb hK hG (by decide) hk dX5_count_5 ?_
  refine lv_istore_n hx hb dX5_count_6 rfl hl (by decide) rfl (fun ls hl => ?_)
  have hl : lv_has ls 6 [(2, .int _), (0, .ref _), (1, .int _)] := hl
  refine lv_aload_n hx hb dX5_count_7 rfl (lv_at hl 1 rfl) ?_
  refine rg_0 (f := 10) hx hb htz tin_X5 hown hK hG (by decide) (htz _ fX5_32) (by decide) rfl dX5_count_8 ?_
  refine lv_iload_n hx hb dX5_count_11 rfl (lv_at hl 2 rfl) ?_
  refine ra_8 hx hb hK hG (by decide) hk dX5_count_12 ?_
  refine lv_iconst (v := 1) hx hb dX5_count_13 (by decide) ?_
  refine lv_iadd hx hb dX5_count_14 ?_
  refine lv_istore_n hx hb dX5_count_15 rfl hl (by decide) rfl (fun ls hl => ?_)
  have hl : lv_has ls 6 [(3, .int _), (2, .int _), (0, .ref _), (1, .int _)] := hl
  have hz := hq.rz
  obtain ⟨q, b, e9, p9, ek, g1, e2, e3, e8, g2, g3, g4, g5⟩ := hq
  have el : rs_last u k = nI (b + e9) := by rw [rs_last, ek, nI_clamp (by omega), e2, e3, nI_add]
  have hl : lv_has ls 6 [(3, .int (u 8 0 k.toNatClampNeg + 1)), (2, .int (rs_best (rl_n L) u k 0)), (0, .ref (L.1 0 0)), (1, .int k)] := hl
  rw [e8, nI_1] at hl
  refine mz_loop (b + e9 - p9) (P := fun j ls H locs => lv_has ls 6 [(3, .int (nI (p9 + 1 + j))), (2, .int (rs_best (rl_n L) u k j)), (0, .ref (L.1 0 0)), (1, .int k)] ∧ rG D L u H ∧ va_S (rA L) s.heap H locs ∧ j ≤ b + e9 - p9) (fun _ _ _ _ h => h.2.2.2) ?_ 0 _ _ _ ⟨hl, hG, hS, Nat.zero_le _⟩
  intro j ls H locs ⟨hl, hG, hS, hj⟩ ih
  refine lv_iload_n hx hb dX5_count_16 rfl (lv_at hl 0 rfl) ?_
  refine lv_aload_n hx hb dX5_count_17 rfl (lv_at hl 2 rfl) ?_
  refine lv_iload_n hx hb dX5_count_18 rfl (lv_at hl 3 rfl) ?_
  refine mz_Vi (As := [.int _]) (rest := [.int _]) ⟨hx, hb, hml, hown, hts⟩ (rc_lastOf l D L hL _ _ hk) (tz_V htz mX5_lastOf lX5_97 rfl rfl ⟨Nat.le_of_ble_eq_true rfl, Nat.le_of_ble_eq_true rfl⟩) (rrecv_0 hK hG (by decide)) rK_ok hK hG hS rfl hl.1 rfl (Nat.le_of_ble_eq_true rfl) dX5_count_19 ⟨Nat.zero_le _, Nat.zero_le _⟩ (fun H locs hG hS => ?_)
  refine mz_topE el ?_
  refine mz_icmp_gt hx hb dX5_count_22 (tgt := 116) rfl (fun h0 h0' => ?_) (fun h0 h0' => ?_)
  · rw [nI_ltI (by omega) (by omega)] at h0
    refine lv_aload_n hx hb dX5_count_116 rfl (lv_at hl 2 rfl) ?_
    refine rg_0 (f := 10) hx hb htz tin_X5 hown hK hG (by decide) (htz _ fX5_32) (by decide) rfl dX5_count_117 ?_
    refine lv_iload_n hx hb dX5_count_120 rfl (lv_at hl 3 rfl) ?_
    refine lv_iload_n hx hb dX5_count_121 rfl (lv_at hl 1 rfl) ?_
    refine rt_8 hx hb hL hK hG hS (by decide) hk dX5_count_122 (fun H locs hG hS => ?_)
    exact mz_vret hx hb hr hlk rK_ok hK hS hG dX5_count_123 (by rw [rs_count, el, e8, pk_sub (by omega), nI_clamp (by omega), show b + e9 - p9 = j by omega])
  · rw [nI_leI (by omega) (by omega)] at h0'
    refine lv_iconst (v := 1) hx hb dX5_count_25 (by decide) ?_
    refine lv_iload_n hx hb dX5_count_26 rfl (lv_at hl 3 rfl) ?_
    refine lv_ishl hx hb dX5_count_27 ?_
    refine lv_istore hx hb dX5_count_28 hl (by decide) rfl (fun ls hl => ?_)
    have hl : lv_has ls 6 [(4, .int _), (3, .int _), (2, .int _), (0, .ref _), (1, .int _)] := hl
    refine lv_iconst (v := 0) hx hb dX5_count_30 (by decide) ?_
    refine lv_istore hx hb dX5_count_31 hl (by decide) rfl (fun ls hl => ?_)
    have hl : lv_has ls 6 [(5, .int _), (4, .int _), (3, .int _), (2, .int _), (0, .ref _), (1, .int _)] := hl
    refine mz_loop (rl_n L) (P := fun t ls H locs => lv_has ls 6 [(5, .int (nI t)), (4, .int (rs_set u k (nI (p9 + 1 + j)) t)), (3, .int (nI (p9 + 1 + j))), (2, .int (rs_best (rl_n L) u k j)), (0, .ref (L.1 0 0)), (1, .int k)] ∧ rG D L u H ∧ va_S (rA L) s.heap H locs ∧ t ≤ rl_n L) (fun _ _ _ _ h => h.2.2.2) ?_ 0 _ _ _ ⟨hl, hG, hS, Nat.zero_le _⟩
    intro t ls H locs ⟨hl, hG, hS, ht⟩ ih2
    refine lv_iload hx hb dX5_count_33 (lv_at hl 0 rfl) ?_
    refine lv_aload_n hx hb dX5_count_35 rfl (lv_at hl 4 rfl) ?_
    refine rg_0 (f := 0) hx hb htz tin_X5 hown hK hG (by decide) (htz _ fX5_87) (by decide) rfl dX5_count_36 ?_
    refine mz_icmp_ge hx hb dX5_count_39 (tgt := 77) rfl (fun h1 h1' => ?_) (fun h1 h1' => ?_)
    · rw [nI_leI (by omega) (by omega)] at h1'
      have et : t = rl_n L := by omega
      subst et
      refine lv_aload_n hx hb dX5_count_77 rfl (lv_at hl 4 rfl) ?_
      refine lv_iload_n hx hb dX5_count_78 rfl (lv_at hl 5 rfl) ?_
      refine lv_iload_n hx hb dX5_count_79 rfl (lv_at hl 2 rfl) ?_
      refine mz_Vi (As := [.int _, .int _]) (rest := []) ⟨hx, hb, hml, hown, hts⟩ (rc_termOf l D L hL _ _ _ hz) (tz_V htz mX5_termOf lX5_123 rfl rfl ⟨Nat.le_of_ble_eq_true rfl, Nat.le_of_ble_eq_true rfl⟩) (rrecv_0 hK hG (by decide)) rK_ok hK hG hS rfl hl.1 rfl (Nat.le_of_ble_eq_true rfl) dX5_count_80 ⟨Nat.zero_le _, Nat.zero_le _⟩ (fun H locs hG hS => ?_)
      refine lv_aload_n hx hb dX5_count_83 rfl (lv_at hl 4 rfl) ?_
      refine rg_0 (f := 5) hx hb htz tin_X5 hown hK hG (by decide) (htz _ fX5_17) (by decide) rfl dX5_count_84 ?_
      refine lv_iload_n hx hb dX5_count_87 rfl (lv_at hl 5 rfl) ?_
      refine ra_3 hx hb hK hG (by decide) hk dX5_count_88 ?_
      refine lv_icmp_ne hx hb dX5_count_89 (tgt := 108) rfl (fun h3 => ?_) (fun h3 => ?_)
      · refine lv_iload_n hx hb dX5_count_108 rfl (lv_at hl 3 rfl) ?_
        refine mz_topE (y := rs_best (rl_n L) u k (j + 1)) (by rw [rs_best, e8, nI_add, show p9 + (j + 1) = p9 + 1 + j by omega]; first | rw [if_pos (And.intro h3 h4)] | rw [if_neg (not_and_of_not_left _ h3)] | rw [if_neg (not_and_of_not_right _ h4)]) ?_
        refine lv_istore_n hx hb dX5_count_109 rfl hl (by decide) rfl (fun ls hl => ?_)
        have hl : lv_has ls 6 [(2, .int _), (5, .int _), (4, .int _), (3, .int _), (0, .ref _), (1, .int _)] := hl
        refine lv_iinc (k := 3) hx hb dX5_count_110 hl rfl (nI_1 (p9 + 1 + j)) (by decide) rfl (fun ls hl => ?_)
        have hl : lv_has ls 6 [(3, .int _), (2, .int _), (5, .int _), (4, .int _), (0, .ref _), (1, .int _)] := hl
        refine lv_goto hx hb dX5_count_113 (tgt := 16) rfl ?_
        exact ih (by omega) _ _ _ ⟨lv_sub hl [0, 1, 4, 5] rfl, hG, hS, by omega⟩
      · refine lv_iload hx hb dX5_count_92 (lv_at hl 1 rfl) ?_
        refine lv_aload_n hx hb dX5_count_94 rfl (lv_at hl 4 rfl) ?_
        refine rg_0 (f := 0) hx hb htz tin_X5 hown hK hG (by decide) (htz _ fX5_87) (by decide) rfl dX5_count_95 ?_
        refine mz_Si (As := [.int _, .int _]) (rest := []) ⟨hx, hb, hml, hown, hts⟩ (rc_isMost l D L hL _ _ _) (tz_S htz mX5_isMost lX5_163 rfl rfl ⟨Nat.le_of_ble_eq_true rfl, Nat.le_of_ble_eq_true rfl⟩) rK_ok hK hG hS rfl hl.1 rfl (Nat.le_of_ble_eq_true rfl) dX5_count_98 ⟨Nat.zero_le _, Nat.zero_le _⟩ (fun H locs hG hS => ?_)
        refine mz_ifeq_b hx hb dX5_count_101 (tgt := 108) rfl (fun h4 => ?_) (fun h4 => ?_)
        · refine lv_iload_n hx hb dX5_count_108 rfl (lv_at hl 3 rfl) ?_
          refine mz_topE (y := rs_best (rl_n L) u k (j + 1)) (by rw [rs_best, e8, nI_add, show p9 + (j + 1) = p9 + 1 + j by omega]; first | rw [if_pos (And.intro h3 h4)] | rw [if_neg (not_and_of_not_left _ h3)] | rw [if_neg (not_and_of_not_right _ h4)]) ?_
          refine lv_istore_n hx hb dX5_count_109 rfl hl (by decide) rfl (fun ls hl => ?_)
          have hl : lv_has ls 6 [(2, .int _), (5, .int _), (4, .int _), (3, .int _), (0, .ref _), (1, .int _)] := hl
          refine lv_iinc (k := 3) hx hb dX5_count_110 hl rfl (nI_1 (p9 + 1 + j)) (by decide) rfl (fun ls hl => ?_)
          have hl : lv_has ls 6 [(3, .int _), (2, .int _), (5, .int _), (4, .int _), (0, .ref _), (1, .int _)] := hl
          refine lv_goto hx hb dX5_count_113 (tgt := 16) rfl ?_
          exact ih (by omega) _ _ _ ⟨lv_sub hl [0, 1, 4, 5] rfl, hG, hS, by omega⟩
        · refine lv_iload_n hx hb dX5_count_104 rfl (lv_at hl 2 rfl) ?_
          refine lv_goto hx hb dX5_count_105 (tgt := 109) rfl ?_
          refine mz_topE (y := rs_best (rl_n L) u k (j + 1)) (by rw [rs_best, e8, nI_add, show p9 + (j + 1) = p9 + 1 + j by omega]; first | rw [if_pos (And.intro h3 h4)] | rw [if_neg (not_and_of_not_left _ h3)] | rw [if_neg (not_and_of_not_right _ h4)]) ?_
          refine lv_istore_n hx hb dX5_count_109 rfl hl (by decide) rfl (fun ls hl => ?_)
          have hl : lv_has ls 6 [(2, .int _), (5, .int _), (4, .int _), (3, .int _), (0, .ref _), (1, .int _)] := hl
          refine lv_iinc (k := 3) hx hb dX5_count_110 hl rfl (nI_1 (p9 + 1 + j)) (by decide) rfl (fun ls hl => ?_)
          have hl : lv_has ls 6 [(3, .int _), (2, .int _), (5, .int _), (4, .int _), (0, .ref _), (1, .int _)] := hl
          refine lv_goto hx hb dX5_count_113 (tgt := 16) rfl ?_
          exact ih (by omega) _ _ _ ⟨lv_sub hl [0, 1, 4, 5] rfl, hG, hS, by omega⟩
    · rw [nI_ltI (by omega) (by omega)] at h1
      refine lv_aload_n hx hb dX5_count_42 rfl (lv_at hl 4 rfl) ?_
      refine rg_0 (f := 16) hx hb htz tin_X5 hown hK hG (by decide) (htz _ fX5_50) (by decide) rfl dX5_count_43 ?_
      refine lv_iconst (v := 5) hx hb dX5_count_46 (by decide) ?_
      refine lv_iload_n hx hb dX5_count_47 rfl (lv_at hl 5 rfl) ?_
      refine lv_imul hx hb dX5_count_48 ?_
      refine lv_iload hx hb dX5_count_49 (lv_at hl 0 rfl) ?_
      refine lv_iadd hx hb dX5_count_51 ?_
      refine ra_14 hx hb hK hG (by decide) (rz_in5 hk (vp_in_nI (by omega) (by omega))) dX5_count_52 ?_
      refine lv_iload_n hx hb dX5_count_53 rfl (lv_at hl 2 rfl) ?_
      refine mz_icmp_lt hx hb dX5_count_54 (tgt := 67) rfl (fun h2 h2' => ?_) (fun h2 h2' => ?_)
      · refine lv_iload hx hb dX5_count_67 (lv_at hl 1 rfl) ?_
        refine lv_istore hx hb dX5_count_69 hl (by decide) rfl (fun ls hl => ?_)
        have hl : lv_has ls 6 [(4, .int _), (5, .int _), (3, .int _), (2, .int _), (0, .ref _), (1, .int _)] := hl
        refine lv_iinc (k := 1) hx hb dX5_count_71 hl rfl (nI_1 t) (by decide) rfl (fun ls hl => ?_)
        have hl : lv_has ls 6 [(5, .int _), (4, .int _), (3, .int _), (2, .int _), (0, .ref _), (1, .int _)] := hl
        refine lv_goto hx hb dX5_count_74 (tgt := 33) rfl ?_
        exact ih2 (by omega) _ _ _ ⟨by
          first
            | (rw [rs_set, if_pos h2']; exact hl)
            | (rw [rs_set, if_neg h2']; exact hl), hG, hS, by omega⟩
      · refine lv_iload hx hb dX5_count_57 (lv_at hl 1 rfl) ?_
        refine lv_iconst (v := 1) hx hb dX5_count_59 (by decide) ?_
        refine lv_iload hx hb dX5_count_60 (lv_at hl 0 rfl) ?_
        refine lv_ishl hx hb dX5_count_62 ?_
        refine lv_ior hx hb dX5_count_63 ?_
        refine lv_goto hx hb dX5_count_64 (tgt := 69) rfl ?_
        refine lv_istore hx hb dX5_count_69 hl (by decide) rfl (fun ls hl => ?_)
        have hl : lv_has ls 6 [(4, .int _), (5, .int _), (3, .int _), (2, .int _), (0, .ref _), (1, .int _)] := hl
        refine lv_iinc (k := 1) hx hb dX5_count_71 hl rfl (nI_1 t) (by decide) rfl (fun ls hl => ?_)
        have hl : lv_has ls 6 [(5, .int _), (4, .int _), (3, .int _), (2, .int _), (0, .ref _), (1, .int _)] := hl
        refine lv_goto hx hb dX5_count_74 (tgt := 33) rfl ?_
        exact ih2 (by omega) _ _ _ ⟨by
          first
            | (rw [rs_set, if_pos h2']; exact hl)
            | (rw [rs_set, if_neg h2']; exact hl), hG, hS, by omega⟩

set_option maxRecDepth 100000 in
set_option maxHeartbeats 4000000 in
theorem rc_appended (l : Launch) (D : va_G) (L : rL) (hL : rL_ok L) (u : mz_S) (s9 k f : Int32) (hs : vp_in s9 40) (hf : vp_in f 5) (hq : rzc (rl_c L) u k (u 8 0 k.toNatClampNeg)) : mz_Cv l (rG D L) (rK D L) (rA L) yX5_appended (tz_w yX5_appended cX5_appended 5 none) ({ frames := 4, cells := 0, slots := 0, locals := 90 } : Room) [.ref (L.1 0 0), .int s9, .int k, .int f] u (rs_rAns (rl_n L) u s9.toNatClampNeg k f) := by
  refine mz_Cv.of (cc := cX5_appended) (maxL := 5) (ret := none) (by decide) rfl (Nat.le_of_ble_eq_true rfl) ?_
  intro p e s m args below meth c ls hx hb hr hlk hml hown hts hl hG hK hS
  have hl : lv_has ls 5 [(0, .ref (L.1 0 0)), (1, .int s9), (2, .int k), (3, .int f)] := hl
  have htz : ∀ w ∈ tz, w.before args s = true := fun w h => hts w (List.mem_cons_of_mem _ h)
  have hc12 : rl_c L ≤ 12 := hL.1.2.2.2.1
  have hn5 : rl_n L ≤ 5 := hL.1.2.1
  have h40 : rl_S L ≤ 40 := hL.1.2.2.2.2.2
  have hk : vp_in k 5 := hq.rz.k
  have h5 : vp_in (5 * k + f) 25 := rz_in5 hk hf
  refine lv_aload_n hx hb dX5_appended_0 rfl (lv_at hl 0 rfl) ?_
  refine rg_0 (f := 4) hx hb htz tin_X5 hown hK hG (by decide) (htz _ fX5_13) (by decide) rfl dX5_appended_1 ?_
  refine lv_iload_n hx hb dX5_appended_4 rfl (lv_at hl 2 rfl) ?_
  refine ra_2 hx hb hK hG (by decide) hk dX5_appended_5 ?_
  refine lv_iconst (v := 2) hx hb dX5_appended_6 (by decide) ?_
  refine lv_icmp_ne hx hb dX5_appended_7 (tgt := 25) rfl (fun h0 => ?_) (fun h0 => ?_)
  · exact mz_vret hx hb hr hlk rK_ok hK hS hG dX5_appended_25 (by unfold rs_rAns; first | rw [if_pos h0] | rw [if_neg (not_not_intro h0), if_pos h1])
  · refine lv_aload_n hx hb dX5_appended_10 rfl (lv_at hl 0 rfl) ?_
    refine rg_0 (f := 20) hx hb htz tin_X5 hown hK hG (by decide) (htz _ fX5_62) (by decide) rfl dX5_appended_11 ?_
    refine lv_iload_n hx hb dX5_appended_14 rfl (lv_at hl 1 rfl) ?_
    refine ra_18 hx hb hK hG (by decide) hs dX5_appended_15 ?_
    refine lv_aload_n hx hb dX5_appended_16 rfl (lv_at hl 0 rfl) ?_
    refine rg_0 (f := 5) hx hb htz tin_X5 hown hK hG (by decide) (htz _ fX5_17) (by decide) rfl dX5_appended_17 ?_
    refine lv_iload_n hx hb dX5_appended_20 rfl (lv_at hl 2 rfl) ?_
    refine ra_3 hx hb hK hG (by decide) hk dX5_appended_21 ?_
    refine lv_icmp_eq hx hb dX5_appended_22 (tgt := 26) rfl (fun h1 => ?_) (fun h1 => ?_)
    · refine lv_iconst (v := 5) hx hb dX5_appended_26 (by decide) ?_
      refine lv_iload_n hx hb dX5_appended_27 rfl (lv_at hl 2 rfl) ?_
      refine lv_imul hx hb dX5_appended_28 ?_
      refine lv_iload_n hx hb dX5_appended_29 rfl (lv_at hl 3 rfl) ?_
      refine lv_iadd hx hb dX5_appended_30 ?_
      refine lv_istore hx hb dX5_appended_31 hl (by decide) rfl (fun ls hl => ?_)
      have hl : lv_has ls 5 [(4, .int _), (0, .ref _), (1, .int _), (2, .int _), (3, .int _)] := hl
      refine lv_aload_n hx hb dX5_appended_33 rfl (lv_at hl 1 rfl) ?_
      refine rg_0 (f := 23) hx hb htz tin_X5 hown hK hG (by decide) (htz _ fX5_71) (by decide) rfl dX5_appended_34 ?_
      refine lv_iload_n hx hb dX5_appended_37 rfl (lv_at hl 2 rfl) ?_
      refine ra_21 hx hb hK hG (by decide) hs dX5_appended_38 ?_
      refine lv_if_eq hx hb dX5_appended_39 (tgt := 105) rfl (fun h2 => ?_) (fun h2 => ?_)
      · refine lv_aload_n hx hb dX5_appended_105 rfl (lv_at hl 1 rfl) ?_
        refine rg_0 (f := 15) hx hb htz tin_X5 hown hK hG (by decide) (htz _ fX5_47) (by decide) rfl dX5_appended_106 ?_
        refine lv_iload hx hb dX5_appended_109 (lv_at hl 0 rfl) ?_
        refine lv_aload_n hx hb dX5_appended_111 rfl (lv_at hl 1 rfl) ?_
        refine rg_0 (f := 15) hx hb htz tin_X5 hown hK hG (by decide) (htz _ fX5_47) (by decide) rfl dX5_appended_112 ?_
        refine lv_iload hx hb dX5_appended_115 (lv_at hl 0 rfl) ?_
        refine ra_13 hx hb hK hG (by decide) h5 dX5_appended_117 ?_
        refine lv_iconst (v := 2) hx hb dX5_appended_118 (by decide) ?_
        refine mz_icmp_le hx hb dX5_appended_119 (tgt := 134) rfl (fun h4 h4' => ?_) (fun h4 h4' => ?_)
        · refine lv_iconst (v := 1) hx hb dX5_appended_134 (by decide) ?_
          refine mz_topE (y := (if 2 < u 13 0 (5 * k + f).toNatClampNeg then u 13 0 (5 * k + f).toNatClampNeg - 1 else 1)) (by first | rw [if_pos h4] | rw [if_neg h4]) ?_
          refine rt_13 hx hb hL hK hG hS (by decide) h5 dX5_appended_135 (fun H locs hG hS => ?_)
          exact mz_vret hx hb hr hlk rK_ok hK hS hG dX5_appended_136 (by rw [rs_rAns, if_neg (not_not_intro h0), if_neg (not_not_intro h1)]; first | rw [if_pos h2] | rw [if_neg h2])
        · refine lv_aload_n hx hb dX5_appended_122 rfl (lv_at hl 1 rfl) ?_
          refine rg_0 (f := 15) hx hb htz tin_X5 hown hK hG (by decide) (htz _ fX5_47) (by decide) rfl dX5_appended_123 ?_
          refine lv_iload hx hb dX5_appended_126 (lv_at hl 0 rfl) ?_
          refine ra_13 hx hb hK hG (by decide) h5 dX5_appended_128 ?_
          refine lv_iconst (v := 1) hx hb dX5_appended_129 (by decide) ?_
          refine lv_isub hx hb dX5_appended_130 ?_
          refine lv_goto hx hb dX5_appended_131 (tgt := 135) rfl ?_
          refine mz_topE (y := (if 2 < u 13 0 (5 * k + f).toNatClampNeg then u 13 0 (5 * k + f).toNatClampNeg - 1 else 1)) (by first | rw [if_pos h4] | rw [if_neg h4]) ?_
          refine rt_13 hx hb hL hK hG hS (by decide) h5 dX5_appended_135 (fun H locs hG hS => ?_)
          exact mz_vret hx hb hr hlk rK_ok hK hS hG dX5_appended_136 (by rw [rs_rAns, if_neg (not_not_intro h0), if_neg (not_not_intro h1)]; first | rw [if_pos h2] | rw [if_neg h2])
      · refine lv_aload_n hx hb dX5_appended_42 rfl (lv_at hl 1 rfl) ?_
        refine rg_0 (f := 16) hx hb htz tin_X5 hown hK hG (by decide) (htz _ fX5_50) (by decide) rfl dX5_appended_43 ?_
        refine lv_iload hx hb dX5_appended_46 (lv_at hl 0 rfl) ?_
        refine lv_aload_n hx hb dX5_appended_48 rfl (lv_at hl 1 rfl) ?_
        refine rg_0 (f := 21) hx hb htz tin_X5 hown hK hG (by decide) (htz _ fX5_65) (by decide) rfl dX5_appended_49 ?_
        refine lv_iload_n hx hb dX5_appended_52 rfl (lv_at hl 2 rfl) ?_
        refine ra_19 hx hb hK hG (by decide) hs dX5_appended_53 ?_
        refine lv_aload_n hx hb dX5_appended_54 rfl (lv_at hl 1 rfl) ?_
        refine rg_0 (f := 16) hx hb htz tin_X5 hown hK hG (by decide) (htz _ fX5_50) (by decide) rfl dX5_appended_55 ?_
        refine lv_iload hx hb dX5_appended_58 (lv_at hl 0 rfl) ?_
        refine ra_14 hx hb hK hG (by decide) h5 dX5_appended_60 ?_
        refine mz_icmp_le hx hb dX5_appended_61 (tgt := 73) rfl (fun h3 h3' => ?_) (fun h3 h3' => ?_)
        · refine lv_aload_n hx hb dX5_appended_73 rfl (lv_at hl 1 rfl) ?_
          refine rg_0 (f := 16) hx hb htz tin_X5 hown hK hG (by decide) (htz _ fX5_50) (by decide) rfl dX5_appended_74 ?_
          refine lv_iload hx hb dX5_appended_77 (lv_at hl 0 rfl) ?_
          refine ra_14 hx hb hK hG (by decide) h5 dX5_appended_79 ?_
          refine mz_topE (y := (if u 14 0 (5 * k + f).toNatClampNeg < u 19 0 s9.toNatClampNeg then u 19 0 s9.toNatClampNeg else u 14 0 (5 * k + f).toNatClampNeg)) (by first | rw [if_pos h3] | rw [if_neg h3]) ?_
          refine rt_14 hx hb hL hK hG hS (by decide) h5 dX5_appended_80 (fun H locs hG hS => ?_)
          have hG : rG D L (rs_rAnsM u s9.toNatClampNeg k f) H := hG
          refine lv_aload_n hx hb dX5_appended_81 rfl (lv_at hl 1 rfl) ?_
          refine rg_0 (f := 15) hx hb htz tin_X5 hown hK hG (by decide) (htz _ fX5_47) (by decide) rfl dX5_appended_82 ?_
          refine lv_iload hx hb dX5_appended_85 (lv_at hl 0 rfl) ?_
          refine lv_aload_n hx hb dX5_appended_87 rfl (lv_at hl 1 rfl) ?_
          refine rg_0 (f := 16) hx hb htz tin_X5 hown hK hG (by decide) (htz _ fX5_50) (by decide) rfl dX5_appended_88 ?_
          refine lv_iload hx hb dX5_appended_91 (lv_at hl 0 rfl) ?_
          refine ra_14 hx hb hK hG (by decide) h5 dX5_appended_93 ?_
          refine lv_iconst (v := 1) hx hb dX5_appended_94 (by decide) ?_
          refine lv_iadd hx hb dX5_appended_95 ?_
          refine rt_13 hx hb hL hK hG hS (by decide) h5 dX5_appended_96 (fun H locs hG hS => ?_)
          have hG : rG D L (rs_rAnsN u s9.toNatClampNeg k f) H := hG
          refine lv_aload_n hx hb dX5_appended_97 rfl (lv_at hl 1 rfl) ?_
          refine lv_iload_n hx hb dX5_appended_98 rfl (lv_at hl 3 rfl) ?_
          refine mz_Vv (As := [.int _]) (rest := []) ⟨hx, hb, hml, hown, hts⟩ (rc_count l D L hL _ _ (hq.same (by simp [rs_rAnsN, rs_rAnsM, mz_at]) (by simp [rs_rAnsN, rs_rAnsM, mz_at]) (by simp [rs_rAnsN, rs_rAnsM, mz_at]))) (tz_V htz mX5_count lX5_170 rfl rfl ⟨Nat.le_of_ble_eq_true rfl, Nat.le_of_ble_eq_true rfl⟩) (rrecv_0 hK hG (by decide)) rK_ok hK hG hS rfl hl.1 rfl (Nat.le_of_ble_eq_true rfl) dX5_appended_99 ⟨Nat.zero_le _, Nat.zero_le _⟩ (fun H locs hG hS => ?_)
          refine lv_goto hx hb dX5_appended_102 (tgt := 136) rfl ?_
          exact mz_vret hx hb hr hlk rK_ok hK hS hG dX5_appended_136 (by rw [rs_rAns, if_neg (not_not_intro h0), if_neg (not_not_intro h1)]; first | rw [if_pos h2] | rw [if_neg h2])
        · refine lv_aload_n hx hb dX5_appended_64 rfl (lv_at hl 1 rfl) ?_
          refine rg_0 (f := 21) hx hb htz tin_X5 hown hK hG (by decide) (htz _ fX5_65) (by decide) rfl dX5_appended_65 ?_
          refine lv_iload_n hx hb dX5_appended_68 rfl (lv_at hl 2 rfl) ?_
          refine ra_19 hx hb hK hG (by decide) hs dX5_appended_69 ?_
          refine lv_goto hx hb dX5_appended_70 (tgt := 80) rfl ?_
          refine mz_topE (y := (if u 14 0 (5 * k + f).toNatClampNeg < u 19 0 s9.toNatClampNeg then u 19 0 s9.toNatClampNeg else u 14 0 (5 * k + f).toNatClampNeg)) (by first | rw [if_pos h3] | rw [if_neg h3]) ?_
          refine rt_14 hx hb hL hK hG hS (by decide) h5 dX5_appended_80 (fun H locs hG hS => ?_)
          have hG : rG D L (rs_rAnsM u s9.toNatClampNeg k f) H := hG
          refine lv_aload_n hx hb dX5_appended_81 rfl (lv_at hl 1 rfl) ?_
          refine rg_0 (f := 15) hx hb htz tin_X5 hown hK hG (by decide) (htz _ fX5_47) (by decide) rfl dX5_appended_82 ?_
          refine lv_iload hx hb dX5_appended_85 (lv_at hl 0 rfl) ?_
          refine lv_aload_n hx hb dX5_appended_87 rfl (lv_at hl 1 rfl) ?_
          refine rg_0 (f := 16) hx hb htz tin_X5 hown hK hG (by decide) (htz _ fX5_50) (by decide) rfl dX5_appended_88 ?_
          refine lv_iload hx hb dX5_appended_91 (lv_at hl 0 rfl) ?_
          refine ra_14 hx hb hK hG (by decide) h5 dX5_appended_93 ?_
          refine lv_iconst (v := 1) hx hb dX5_appended_94 (by decide) ?_
          refine lv_iadd hx hb dX5_appended_95 ?_
          refine rt_13 hx hb hL hK hG hS (by decide) h5 dX5_appended_96 (fun H locs hG hS => ?_)
          have hG : rG D L (rs_rAnsN u s9.toNatClampNeg k f) H := hG
          refine lv_aload_n hx hb dX5_appended_97 rfl (lv_at hl 1 rfl) ?_
          refine lv_iload_n hx hb dX5_appended_98 rfl (lv_at hl 3 rfl) ?_
          refine mz_Vv (As := [.int _]) (rest := []) ⟨hx, hb, hml, hown, hts⟩ (rc_count l D L hL _ _ (hq.same (by simp [rs_rAnsN, rs_rAnsM, mz_at]) (by simp [rs_rAnsN, rs_rAnsM, mz_at]) (by simp [rs_rAnsN, rs_rAnsM, mz_at]))) (tz_V htz mX5_count lX5_170 rfl rfl ⟨Nat.le_of_ble_eq_true rfl, Nat.le_of_ble_eq_true rfl⟩) (rrecv_0 hK hG (by decide)) rK_ok hK hG hS rfl hl.1 rfl (Nat.le_of_ble_eq_true rfl) dX5_appended_99 ⟨Nat.zero_le _, Nat.zero_le _⟩ (fun H locs hG hS => ?_)
          refine lv_goto hx hb dX5_appended_102 (tgt := 136) rfl ?_
          exact mz_vret hx hb hr hlk rK_ok hK hS hG dX5_appended_136 (by rw [rs_rAns, if_neg (not_not_intro h0), if_neg (not_not_intro h1)]; first | rw [if_pos h2] | rw [if_neg h2])
    · exact mz_vret hx hb hr hlk rK_ok hK hS hG dX5_appended_25 (by unfold rs_rAns; first | rw [if_pos h0] | rw [if_neg (not_not_intro h0), if_pos h1])

set_option maxRecDepth 100000 in
set_option maxHeartbeats 4000000 in
theorem rc_snapshot (l : Launch) (D : va_G) (L : rL) (hL : rL_ok L) (u : mz_S) (s9 k f : Int32) (hs : vp_in s9 40) (hz : rz (rl_c L) u k) (hff : rs_ff (rl_S L) u < rl_S L) (hb9 : rs_has (mz_u u 2 0 k.toNatClampNeg 0) k (u 19 0 s9.toNatClampNeg) → ∃ g e : Nat, u 19 0 s9.toNatClampNeg - u 5 0 k.toNatClampNeg = nI g ∧ u 10 0 k.toNatClampNeg = nI e ∧ g ≤ e ∧ e ≤ 12) : mz_Cv l (rG D L) (rK D L) (rA L) yX5_snapshot (tz_w yX5_snapshot cX5_snapshot 6 none) ({ frames := 3, cells := 0, slots := 0, locals := 72 } : Room) [.ref (L.1 0 0), .int s9, .int k, .int f] u (rs_rSnap (rl_S L) u s9.toNatClampNeg k f) := by
  refine mz_Cv.of (cc := cX5_snapshot) (maxL := 6) (ret := none) (by decide) rfl (Nat.le_of_ble_eq_true rfl) ?_
  intro p e s m args below meth c ls hx hb hr hlk hml hown hts hl hG hK hS
  have hl : lv_has ls 6 [(0, .ref (L.1 0 0)), (1, .int s9), (2, .int k), (3, .int f)] := hl
  have htz : ∀ w ∈ tz, w.before args s = true := fun w h => hts w (List.mem_cons_of_mem _ h)
  have hc12 : rl_c L ≤ 12 := hL.1.2.2.2.1
  have hn5 : rl_n L ≤ 5 := hL.1.2.1
  have h40 : rl_S L ≤ 40 := hL.1.2.2.2.2.2
  have hk : vp_in k 5 := hz.k
  refine lv_aload_n hx hb dX5_snapshot_0 rfl (lv_at hl 0 rfl) ?_
  refine rg_0 (f := 20) hx hb htz tin_X5 hown hK hG (by decide) (htz _ fX5_62) (by decide) rfl dX5_snapshot_1 ?_
  refine lv_iload_n hx hb dX5_snapshot_4 rfl (lv_at hl 1 rfl) ?_
  refine ra_18 hx hb hK hG (by decide) hs dX5_snapshot_5 ?_
  refine lv_aload_n hx hb dX5_snapshot_6 rfl (lv_at hl 0 rfl) ?_
  refine rg_0 (f := 5) hx hb htz tin_X5 hown hK hG (by decide) (htz _ fX5_17) (by decide) rfl dX5_snapshot_7 ?_
  refine lv_iload_n hx hb dX5_snapshot_10 rfl (lv_at hl 2 rfl) ?_
  refine ra_3 hx hb hK hG (by decide) hk dX5_snapshot_11 ?_
  refine mz_icmp_ge hx hb dX5_snapshot_12 (tgt := 25) rfl (fun h0 h0' => ?_) (fun h0 h0' => ?_)
  · refine lv_aload_n hx hb dX5_snapshot_25 rfl (lv_at hl 0 rfl) ?_
    refine rg_0 (f := 4) hx hb htz tin_X5 hown hK hG (by decide) (htz _ fX5_13) (by decide) rfl dX5_snapshot_26 ?_
    refine lv_iload_n hx hb dX5_snapshot_29 rfl (lv_at hl 2 rfl) ?_
    refine lv_iconst (v := 0) hx hb dX5_snapshot_30 (by decide) ?_
    refine rt_2 hx hb hL hK hG hS (by decide) hk dX5_snapshot_31 (fun H locs hG hS => ?_)
    obtain ⟨v, hv⟩ : ∃ v, v = mz_u u 2 0 k.toNatClampNeg 0 := ⟨_, rfl⟩
    rw [← hv] at hG hb9
    have hz9 : rz (rl_c L) v k := hz.same (by rw [hv]; simp [mz_at]) (by rw [hv]; simp [mz_at])
    have hff9 : rs_ff (rl_S L) v < rl_S L := by rw [hv, rs_ff_u (by decide)]; exact hff
    have eV : ∀ a x, a ≠ 2 → v a 0 x = u a 0 x := fun a x h => by rw [hv, mz_uk h]
    have hg0 : ∃ g e : Nat, v 10 0 k.toNatClampNeg = nI g ∧ v 10 0 k.toNatClampNeg = nI e ∧ g ≤ e ∧ e ≤ 12 := by
      obtain ⟨q, b, e9, rfl, g1, e2, e3, g2, g3⟩ := hz9
      exact ⟨e9, e9, by rw [nI_clamp (by omega)]; exact e3, by rw [nI_clamp (by omega)]; exact e3, Nat.le_refl _, by omega⟩
    refine lv_aload_n hx hb dX5_snapshot_32 rfl (lv_at hl 0 rfl) ?_
    refine rg_0 (f := 21) hx hb htz tin_X5 hown hK hG (by decide) (htz _ fX5_65) (by decide) rfl dX5_snapshot_33 ?_
    refine lv_iload_n hx hb dX5_snapshot_36 rfl (lv_at hl 1 rfl) ?_
    refine ra_19 hx hb hK hG (by decide) hs dX5_snapshot_37 ?_
    refine lv_istore hx hb dX5_snapshot_38 hl (by decide) rfl (fun ls hl => ?_)
    have hl : lv_has ls 6 [(4, .int _), (0, .ref _), (1, .int _), (2, .int _), (3, .int _)] := hl
    refine lv_iload hx hb dX5_snapshot_40 (lv_at hl 0 rfl) ?_
    refine lv_aload_n hx hb dX5_snapshot_42 rfl (lv_at hl 1 rfl) ?_
    refine rg_0 (f := 10) hx hb htz tin_X5 hown hK hG (by decide) (htz _ fX5_32) (by decide) rfl dX5_snapshot_43 ?_
    refine lv_iload_n hx hb dX5_snapshot_46 rfl (lv_at hl 3 rfl) ?_
    refine ra_8 hx hb hK hG (by decide) hk dX5_snapshot_47 ?_
    refine mz_icmp_gt hx hb dX5_snapshot_48 (tgt := 66) rfl (fun h1 h1' => ?_) (fun h1 h1' => ?_)
    · refine lv_aload_n hx hb dX5_snapshot_66 rfl (lv_at hl 1 rfl) ?_
      refine lv_iload_n hx hb dX5_snapshot_67 rfl (lv_at hl 3 rfl) ?_
      refine lv_iload hx hb dX5_snapshot_68 (lv_at hl 0 rfl) ?_
      refine mz_Vi (As := [.int _, .int _]) (rest := []) ⟨hx, hb, hml, hown, hts⟩ (rc_hasEntry l D L hL _ _ _ hk) (tz_V htz mX5_hasEntry lX5_101 rfl rfl ⟨Nat.le_of_ble_eq_true rfl, Nat.le_of_ble_eq_true rfl⟩) (rrecv_0 hK hG (by decide)) rK_ok hK hG hS rfl hl.1 rfl (Nat.le_of_ble_eq_true rfl) dX5_snapshot_70 ⟨Nat.zero_le _, Nat.zero_le _⟩ (fun H locs hG hS => ?_)
      refine mz_ifeq_b hx hb dX5_snapshot_73 (tgt := 101) rfl (fun h2 => ?_) (fun h2 => ?_)
      · refine lv_iconst (v := 0) hx hb dX5_snapshot_101 (by decide) ?_
        refine lv_istore hx hb dX5_snapshot_102 hl (by decide) rfl (fun ls hl => ?_)
        have hl : lv_has ls 6 [(5, .int _), (4, .int _), (0, .ref _), (1, .int _), (2, .int _), (3, .int _)] := hl
        refine lv_aload_n hx hb dX5_snapshot_104 rfl (lv_at hl 2 rfl) ?_
        refine lv_iload_n hx hb dX5_snapshot_105 rfl (lv_at hl 4 rfl) ?_
        refine lv_iload hx hb dX5_snapshot_106 (lv_at hl 0 rfl) ?_
        refine lv_if_eq hx hb dX5_snapshot_108 (tgt := 123) rfl (fun h4 => ?_) (fun h4 => ?_)
        · refine lv_aload_n hx hb dX5_snapshot_123 rfl (lv_at hl 2 rfl) ?_
          refine rg_0 (f := 12) hx hb htz tin_X5 hown hK hG (by decide) (htz _ fX5_38) (by decide) rfl dX5_snapshot_124 ?_
          refine lv_iload_n hx hb dX5_snapshot_127 rfl (lv_at hl 4 rfl) ?_
          refine ra_10 hx hb hK hG (by decide) hk dX5_snapshot_128 ?_
          obtain ⟨y9, hye, hgy⟩ : ∃ y9 : Int32, y9 = (if rs_hasT v s9.toNatClampNeg k then v 19 0 s9.toNatClampNeg - v 5 0 k.toNatClampNeg else v 10 0 k.toNatClampNeg) ∧ ∃ g e : Nat, y9 = nI g ∧ v 10 0 k.toNatClampNeg = nI e ∧ g ≤ e ∧ e ≤ 12 := by
            first
              | exact ⟨_, (by rw [if_neg (not_and_of_not_left _ h2)]), hg0⟩
              | exact ⟨_, (by rw [if_neg (not_and_of_not_right _ h3)]), hg0⟩
              | exact ⟨_, (by rw [if_pos (And.intro h2 h3)]), (by
                  rw [eV 19 _ (by decide), eV 5 _ (by decide), eV 10 _ (by decide)]
                  rw [eV 19 _ (by decide)] at h2
                  exact hb9 h2)⟩
          refine mz_topE (y := y9) (by
            rw [hye]
            first
              | rw [if_neg (not_and_of_not_left _ h2)]
              | rw [if_neg (not_and_of_not_right _ h3)]
              | rw [if_pos (And.intro h2 h3)]) ?_
          refine mz_Vv (As := [.int _, .int _]) (rest := []) ⟨hx, hb, hml, hown, hts⟩ (rc_cutFront l D L hL _ _ _ hz9 hgy) (tz_V htz mX5_cutFront lX5_133 rfl rfl ⟨Nat.le_of_ble_eq_true rfl, Nat.le_of_ble_eq_true rfl⟩) (rrecv_0 hK hG (by decide)) rK_ok hK hG hS rfl hl.1 rfl (Nat.le_of_ble_eq_true rfl) dX5_snapshot_129 ⟨Nat.zero_le _, Nat.zero_le _⟩ (fun H locs hG hS => ?_)
          obtain ⟨w, hw9⟩ : ∃ w, w = rs_cutF v k y9 := ⟨_, rfl⟩
          rw [← hw9] at hG
          have eW : ∀ a x, a ≠ 10 → a ≠ 11 → a ≠ 12 → w a 0 x = v a 0 x := fun a x h1 h2 h3 => by rw [hw9, rs_cutF, mz_uk h1, rs_mv_o _ _ _ h2 h3]
          refine lv_aload_n hx hb dX5_snapshot_132 rfl (lv_at hl 2 rfl) ?_
          refine rg_0 (f := 7) hx hb htz tin_X5 hown hK hG (by decide) (htz _ fX5_23) (by decide) rfl dX5_snapshot_133 ?_
          refine lv_iload_n hx hb dX5_snapshot_136 rfl (lv_at hl 4 rfl) ?_
          refine lv_iload hx hb dX5_snapshot_137 (lv_at hl 1 rfl) ?_
          refine rt_5 hx hb hL hK hG hS (by decide) hk dX5_snapshot_139 (fun H locs hG hS => ?_)
          refine lv_aload_n hx hb dX5_snapshot_140 rfl (lv_at hl 2 rfl) ?_
          refine rg_0 (f := 8) hx hb htz tin_X5 hown hK hG (by decide) (htz _ fX5_26) (by decide) rfl dX5_snapshot_141 ?_
          refine lv_iload_n hx hb dX5_snapshot_144 rfl (lv_at hl 4 rfl) ?_
          refine lv_aload_n hx hb dX5_snapshot_145 rfl (lv_at hl 2 rfl) ?_
          refine rg_0 (f := 22) hx hb htz tin_X5 hown hK hG (by decide) (htz _ fX5_68) (by decide) rfl dX5_snapshot_146 ?_
          refine lv_iload_n hx hb dX5_snapshot_149 rfl (lv_at hl 3 rfl) ?_
          refine ra_20 hx hb hK hG (by decide) hs dX5_snapshot_150 ?_
          refine mz_topE (y := v 20 0 s9.toNatClampNeg) (by rw [mz_uk (by decide)]; exact eW 20 _ (by decide) (by decide) (by decide)) ?_
          refine rt_6 hx hb hL hK hG hS (by decide) hk dX5_snapshot_151 (fun H locs hG hS => ?_)
          refine lv_aload_n hx hb dX5_snapshot_152 rfl (lv_at hl 2 rfl) ?_
          refine rg_0 (f := 9) hx hb htz tin_X5 hown hK hG (by decide) (htz _ fX5_29) (by decide) rfl dX5_snapshot_153 ?_
          refine lv_iload_n hx hb dX5_snapshot_156 rfl (lv_at hl 4 rfl) ?_
          refine lv_aload_n hx hb dX5_snapshot_157 rfl (lv_at hl 2 rfl) ?_
          refine rg_0 (f := 25) hx hb htz tin_X5 hown hK hG (by decide) (htz _ fX5_77) (by decide) rfl dX5_snapshot_158 ?_
          refine lv_iload_n hx hb dX5_snapshot_161 rfl (lv_at hl 3 rfl) ?_
          refine ra_23 hx hb hK hG (by decide) hs dX5_snapshot_162 ?_
          refine mz_topE (y := v 23 0 s9.toNatClampNeg) (by rw [mz_uk (by decide), mz_uk (by decide)]; exact eW 23 _ (by decide) (by decide) (by decide)) ?_
          refine rt_7 hx hb hL hK hG hS (by decide) hk dX5_snapshot_163 (fun H locs hG hS => ?_)
          refine lv_aload_n hx hb dX5_snapshot_164 rfl (lv_at hl 2 rfl) ?_
          refine rg_0 (f := 10) hx hb htz tin_X5 hown hK hG (by decide) (htz _ fX5_32) (by decide) rfl dX5_snapshot_165 ?_
          refine lv_iload_n hx hb dX5_snapshot_168 rfl (lv_at hl 4 rfl) ?_
          refine lv_iload hx hb dX5_snapshot_169 (lv_at hl 1 rfl) ?_
          refine rt_8 hx hb hL hK hG hS (by decide) hk dX5_snapshot_171 (fun H locs hG hS => ?_)
          refine lv_aload_n hx hb dX5_snapshot_172 rfl (lv_at hl 2 rfl) ?_
          refine lv_iconst (v := 4) hx hb dX5_snapshot_173 (by decide) ?_
          refine lv_iload_n hx hb dX5_snapshot_174 rfl (lv_at hl 4 rfl) ?_
          refine lv_iload_n hx hb dX5_snapshot_175 rfl (lv_at hl 5 rfl) ?_
          refine lv_iconst (v := 1) hx hb dX5_snapshot_176 (by decide) ?_
          refine lv_iload hx hb dX5_snapshot_177 (lv_at hl 1 rfl) ?_
          refine mz_Vv (As := [.int _, .int _, .int _, .int _, .int _]) (rest := []) ⟨hx, hb, hml, hown, hts⟩ (rc_answer l D L hL _ _ _ _ _ _ hk (by decide) (by rw [rs_ff_u (by decide), rs_ff_u (by decide), rs_ff_u (by decide), rs_ff_u (by decide), rs_ff_same (fun x9 => eW 15 x9 (by decide) (by decide) (by decide))]; exact hff9)) (tz_V htz mX5_answer lX5_159 rfl rfl ⟨Nat.le_of_ble_eq_true rfl, Nat.le_of_ble_eq_true rfl⟩) (rrecv_0 hK hG (by decide)) rK_ok hK hG hS rfl hl.1 rfl (Nat.le_of_ble_eq_true rfl) dX5_snapshot_179 ⟨Nat.zero_le _, Nat.zero_le _⟩ (fun H locs hG hS => ?_)
          exact mz_vret hx hb hr hlk rK_ok hK hS hG dX5_snapshot_182 (by rw [rs_rSnap, if_neg h0, ← hv, rs_rSnap1, if_neg h1', rs_rSnapB, rs_rebase, ← hye, ← hw9])
        · exact absurd h4 (by decide)
      · refine lv_aload_n hx hb dX5_snapshot_76 rfl (lv_at hl 1 rfl) ?_
        refine rg_0 (f := 13) hx hb htz tin_X5 hown hK hG (by decide) (htz _ fX5_41) (by decide) rfl dX5_snapshot_77 ?_
        refine lv_aload_n hx hb dX5_snapshot_80 rfl (lv_at hl 1 rfl) ?_
        refine lv_iload_n hx hb dX5_snapshot_81 rfl (lv_at hl 3 rfl) ?_
        refine lv_iload hx hb dX5_snapshot_82 (lv_at hl 0 rfl) ?_
        refine mz_Vi (As := [.int _, .int _]) (rest := [.ref _]) ⟨hx, hb, hml, hown, hts⟩ (rc_place l D L hL _ _ _ hk) (tz_V htz mX5_place lX5_105 rfl rfl ⟨Nat.le_of_ble_eq_true rfl, Nat.le_of_ble_eq_true rfl⟩) (rrecv_0 hK hG (by decide)) rK_ok hK hG hS rfl hl.1 rfl (Nat.le_of_ble_eq_true rfl) dX5_snapshot_84 ⟨Nat.zero_le _, Nat.zero_le _⟩ (fun H locs hG hS => ?_)
        refine ra_11 hx hb hK hG (by decide) (hz9.ix hc12 h2) dX5_snapshot_87 ?_
        refine lv_aload_n hx hb dX5_snapshot_88 rfl (lv_at hl 1 rfl) ?_
        refine rg_0 (f := 22) hx hb htz tin_X5 hown hK hG (by decide) (htz _ fX5_68) (by decide) rfl dX5_snapshot_89 ?_
        refine lv_iload_n hx hb dX5_snapshot_92 rfl (lv_at hl 2 rfl) ?_
        refine ra_20 hx hb hK hG (by decide) hs dX5_snapshot_93 ?_
        refine lv_icmp_ne hx hb dX5_snapshot_94 (tgt := 101) rfl (fun h3 => ?_) (fun h3 => ?_)
        · refine lv_iconst (v := 0) hx hb dX5_snapshot_101 (by decide) ?_
          refine lv_istore hx hb dX5_snapshot_102 hl (by decide) rfl (fun ls hl => ?_)
          have hl : lv_has ls 6 [(5, .int _), (4, .int _), (0, .ref _), (1, .int _), (2, .int _), (3, .int _)] := hl
          refine lv_aload_n hx hb dX5_snapshot_104 rfl (lv_at hl 2 rfl) ?_
          refine lv_iload_n hx hb dX5_snapshot_105 rfl (lv_at hl 4 rfl) ?_
          refine lv_iload hx hb dX5_snapshot_106 (lv_at hl 0 rfl) ?_
          refine lv_if_eq hx hb dX5_snapshot_108 (tgt := 123) rfl (fun h4 => ?_) (fun h4 => ?_)
          · refine lv_aload_n hx hb dX5_snapshot_123 rfl (lv_at hl 2 rfl) ?_
            refine rg_0 (f := 12) hx hb htz tin_X5 hown hK hG (by decide) (htz _ fX5_38) (by decide) rfl dX5_snapshot_124 ?_
            refine lv_iload_n hx hb dX5_snapshot_127 rfl (lv_at hl 4 rfl) ?_
            refine ra_10 hx hb hK hG (by decide) hk dX5_snapshot_128 ?_
            obtain ⟨y9, hye, hgy⟩ : ∃ y9 : Int32, y9 = (if rs_hasT v s9.toNatClampNeg k then v 19 0 s9.toNatClampNeg - v 5 0 k.toNatClampNeg else v 10 0 k.toNatClampNeg) ∧ ∃ g e : Nat, y9 = nI g ∧ v 10 0 k.toNatClampNeg = nI e ∧ g ≤ e ∧ e ≤ 12 := by
              first
                | exact ⟨_, (by rw [if_neg (not_and_of_not_left _ h2)]), hg0⟩
                | exact ⟨_, (by rw [if_neg (not_and_of_not_right _ h3)]), hg0⟩
                | exact ⟨_, (by rw [if_pos (And.intro h2 h3)]), (by
                    rw [eV 19 _ (by decide), eV 5 _ (by decide), eV 10 _ (by decide)]
                    rw [eV 19 _ (by decide)] at h2
                    exact hb9 h2)⟩
            refine mz_topE (y := y9) (by
              rw [hye]
              first
                | rw [if_neg (not_and_of_not_left _ h2)]
                | rw [if_neg (not_and_of_not_right _ h3)]
                | rw [if_pos (And.intro h2 h3)]) ?_
            refine mz_Vv (As := [.int _, .int _]) (rest := []) ⟨hx, hb, hml, hown, hts⟩ (rc_cutFront l D L hL _ _ _ hz9 hgy) (tz_V htz mX5_cutFront lX5_133 rfl rfl ⟨Nat.le_of_ble_eq_true rfl, Nat.le_of_ble_eq_true rfl⟩) (rrecv_0 hK hG (by decide)) rK_ok hK hG hS rfl hl.1 rfl (Nat.le_of_ble_eq_true rfl) dX5_snapshot_129 ⟨Nat.zero_le _, Nat.zero_le _⟩ (fun H locs hG hS => ?_)
            obtain ⟨w, hw9⟩ : ∃ w, w = rs_cutF v k y9 := ⟨_, rfl⟩
            rw [← hw9] at hG
            have eW : ∀ a x, a ≠ 10 → a ≠ 11 → a ≠ 12 → w a 0 x = v a 0 x := fun a x h1 h2 h3 => by rw [hw9, rs_cutF, mz_uk h1, rs_mv_o _ _ _ h2 h3]
            refine lv_aload_n hx hb dX5_snapshot_132 rfl (lv_at hl 2 rfl) ?_
            refine rg_0 (f := 7) hx hb htz tin_X5 hown hK hG (by decide) (htz _ fX5_23) (by decide) rfl dX5_snapshot_133 ?_
            refine lv_iload_n hx hb dX5_snapshot_136 rfl (lv_at hl 4 rfl) ?_
            refine lv_iload hx hb dX5_snapshot_137 (lv_at hl 1 rfl) ?_
            refine rt_5 hx hb hL hK hG hS (by decide) hk dX5_snapshot_139 (fun H locs hG hS => ?_)
            refine lv_aload_n hx hb dX5_snapshot_140 rfl (lv_at hl 2 rfl) ?_
            refine rg_0 (f := 8) hx hb htz tin_X5 hown hK hG (by decide) (htz _ fX5_26) (by decide) rfl dX5_snapshot_141 ?_
            refine lv_iload_n hx hb dX5_snapshot_144 rfl (lv_at hl 4 rfl) ?_
            refine lv_aload_n hx hb dX5_snapshot_145 rfl (lv_at hl 2 rfl) ?_
            refine rg_0 (f := 22) hx hb htz tin_X5 hown hK hG (by decide) (htz _ fX5_68) (by decide) rfl dX5_snapshot_146 ?_
            refine lv_iload_n hx hb dX5_snapshot_149 rfl (lv_at hl 3 rfl) ?_
            refine ra_20 hx hb hK hG (by decide) hs dX5_snapshot_150 ?_
            refine mz_topE (y := v 20 0 s9.toNatClampNeg) (by rw [mz_uk (by decide)]; exact eW 20 _ (by decide) (by decide) (by decide)) ?_
            refine rt_6 hx hb hL hK hG hS (by decide) hk dX5_snapshot_151 (fun H locs hG hS => ?_)
            refine lv_aload_n hx hb dX5_snapshot_152 rfl (lv_at hl 2 rfl) ?_
            refine rg_0 (f := 9) hx hb htz tin_X5 hown hK hG (by decide) (htz _ fX5_29) (by decide) rfl dX5_snapshot_153 ?_
            refine lv_iload_n hx hb dX5_snapshot_156 rfl (lv_at hl 4 rfl) ?_
            refine lv_aload_n hx hb dX5_snapshot_157 rfl (lv_at hl 2 rfl) ?_
            refine rg_0 (f := 25) hx hb htz tin_X5 hown hK hG (by decide) (htz _ fX5_77) (by decide) rfl dX5_snapshot_158 ?_
            refine lv_iload_n hx hb dX5_snapshot_161 rfl (lv_at hl 3 rfl) ?_
            refine ra_23 hx hb hK hG (by decide) hs dX5_snapshot_162 ?_
            refine mz_topE (y := v 23 0 s9.toNatClampNeg) (by rw [mz_uk (by decide), mz_uk (by decide)]; exact eW 23 _ (by decide) (by decide) (by decide)) ?_
            refine rt_7 hx hb hL hK hG hS (by decide) hk dX5_snapshot_163 (fun H locs hG hS => ?_)
            refine lv_aload_n hx hb dX5_snapshot_164 rfl (lv_at hl 2 rfl) ?_
            refine rg_0 (f := 10) hx hb htz tin_X5 hown hK hG (by decide) (htz _ fX5_32) (by decide) rfl dX5_snapshot_165 ?_
            refine lv_iload_n hx hb dX5_snapshot_168 rfl (lv_at hl 4 rfl) ?_
            refine lv_iload hx hb dX5_snapshot_169 (lv_at hl 1 rfl) ?_
            refine rt_8 hx hb hL hK hG hS (by decide) hk dX5_snapshot_171 (fun H locs hG hS => ?_)
            refine lv_aload_n hx hb dX5_snapshot_172 rfl (lv_at hl 2 rfl) ?_
            refine lv_iconst (v := 4) hx hb dX5_snapshot_173 (by decide) ?_
            refine lv_iload_n hx hb dX5_snapshot_174 rfl (lv_at hl 4 rfl) ?_
            refine lv_iload_n hx hb dX5_snapshot_175 rfl (lv_at hl 5 rfl) ?_
            refine lv_iconst (v := 1) hx hb dX5_snapshot_176 (by decide) ?_
            refine lv_iload hx hb dX5_snapshot_177 (lv_at hl 1 rfl) ?_
            refine mz_Vv (As := [.int _, .int _, .int _, .int _, .int _]) (rest := []) ⟨hx, hb, hml, hown, hts⟩ (rc_answer l D L hL _ _ _ _ _ _ hk (by decide) (by rw [rs_ff_u (by decide), rs_ff_u (by decide), rs_ff_u (by decide), rs_ff_u (by decide), rs_ff_same (fun x9 => eW 15 x9 (by decide) (by decide) (by decide))]; exact hff9)) (tz_V htz mX5_answer lX5_159 rfl rfl ⟨Nat.le_of_ble_eq_true rfl, Nat.le_of_ble_eq_true rfl⟩) (rrecv_0 hK hG (by decide)) rK_ok hK hG hS rfl hl.1 rfl (Nat.le_of_ble_eq_true rfl) dX5_snapshot_179 ⟨Nat.zero_le _, Nat.zero_le _⟩ (fun H locs hG hS => ?_)
            exact mz_vret hx hb hr hlk rK_ok hK hS hG dX5_snapshot_182 (by rw [rs_rSnap, if_neg h0, ← hv, rs_rSnap1, if_neg h1', rs_rSnapB, rs_rebase, ← hye, ← hw9])
          · exact absurd h4 (by decide)
        · refine lv_iconst (v := 1) hx hb dX5_snapshot_97 (by decide) ?_
          refine lv_goto hx hb dX5_snapshot_98 (tgt := 102) rfl ?_
          refine lv_istore hx hb dX5_snapshot_102 hl (by decide) rfl (fun ls hl => ?_)
          have hl : lv_has ls 6 [(5, .int _), (4, .int _), (0, .ref _), (1, .int _), (2, .int _), (3, .int _)] := hl
          refine lv_aload_n hx hb dX5_snapshot_104 rfl (lv_at hl 2 rfl) ?_
          refine lv_iload_n hx hb dX5_snapshot_105 rfl (lv_at hl 4 rfl) ?_
          refine lv_iload hx hb dX5_snapshot_106 (lv_at hl 0 rfl) ?_
          refine lv_if_eq hx hb dX5_snapshot_108 (tgt := 123) rfl (fun h4 => ?_) (fun h4 => ?_)
          · exact absurd h4 (by decide)
          · refine lv_iload hx hb dX5_snapshot_111 (lv_at hl 1 rfl) ?_
            refine lv_aload_n hx hb dX5_snapshot_113 rfl (lv_at hl 2 rfl) ?_
            refine rg_0 (f := 7) hx hb htz tin_X5 hown hK hG (by decide) (htz _ fX5_23) (by decide) rfl dX5_snapshot_114 ?_
            refine lv_iload_n hx hb dX5_snapshot_117 rfl (lv_at hl 4 rfl) ?_
            refine ra_5 hx hb hK hG (by decide) hk dX5_snapshot_118 ?_
            refine lv_isub hx hb dX5_snapshot_119 ?_
            refine lv_goto hx hb dX5_snapshot_120 (tgt := 129) rfl ?_
            obtain ⟨y9, hye, hgy⟩ : ∃ y9 : Int32, y9 = (if rs_hasT v s9.toNatClampNeg k then v 19 0 s9.toNatClampNeg - v 5 0 k.toNatClampNeg else v 10 0 k.toNatClampNeg) ∧ ∃ g e : Nat, y9 = nI g ∧ v 10 0 k.toNatClampNeg = nI e ∧ g ≤ e ∧ e ≤ 12 := by
              first
                | exact ⟨_, (by rw [if_neg (not_and_of_not_left _ h2)]), hg0⟩
                | exact ⟨_, (by rw [if_neg (not_and_of_not_right _ h3)]), hg0⟩
                | exact ⟨_, (by rw [if_pos (And.intro h2 h3)]), (by
                    rw [eV 19 _ (by decide), eV 5 _ (by decide), eV 10 _ (by decide)]
                    rw [eV 19 _ (by decide)] at h2
                    exact hb9 h2)⟩
            refine mz_topE (y := y9) (by
              rw [hye]
              first
                | rw [if_neg (not_and_of_not_left _ h2)]
                | rw [if_neg (not_and_of_not_right _ h3)]
                | rw [if_pos (And.intro h2 h3)]) ?_
            refine mz_Vv (As := [.int _, .int _]) (rest := []) ⟨hx, hb, hml, hown, hts⟩ (rc_cutFront l D L hL _ _ _ hz9 hgy) (tz_V htz mX5_cutFront lX5_133 rfl rfl ⟨Nat.le_of_ble_eq_true rfl, Nat.le_of_ble_eq_true rfl⟩) (rrecv_0 hK hG (by decide)) rK_ok hK hG hS rfl hl.1 rfl (Nat.le_of_ble_eq_true rfl) dX5_snapshot_129 ⟨Nat.zero_le _, Nat.zero_le _⟩ (fun H locs hG hS => ?_)
            obtain ⟨w, hw9⟩ : ∃ w, w = rs_cutF v k y9 := ⟨_, rfl⟩
            rw [← hw9] at hG
            have eW : ∀ a x, a ≠ 10 → a ≠ 11 → a ≠ 12 → w a 0 x = v a 0 x := fun a x h1 h2 h3 => by rw [hw9, rs_cutF, mz_uk h1, rs_mv_o _ _ _ h2 h3]
            refine lv_aload_n hx hb dX5_snapshot_132 rfl (lv_at hl 2 rfl) ?_
            refine rg_0 (f := 7) hx hb htz tin_X5 hown hK hG (by decide) (htz _ fX5_23) (by decide) rfl dX5_snapshot_133 ?_
            refine lv_iload_n hx hb dX5_snapshot_136 rfl (lv_at hl 4 rfl) ?_
            refine lv_iload hx hb dX5_snapshot_137 (lv_at hl 1 rfl) ?_
            refine rt_5 hx hb hL hK hG hS (by decide) hk dX5_snapshot_139 (fun H locs hG hS => ?_)
            refine lv_aload_n hx hb dX5_snapshot_140 rfl (lv_at hl 2 rfl) ?_
            refine rg_0 (f := 8) hx hb htz tin_X5 hown hK hG (by decide) (htz _ fX5_26) (by decide) rfl dX5_snapshot_141 ?_
            refine lv_iload_n hx hb dX5_snapshot_144 rfl (lv_at hl 4 rfl) ?_
            refine lv_aload_n hx hb dX5_snapshot_145 rfl (lv_at hl 2 rfl) ?_
            refine rg_0 (f := 22) hx hb htz tin_X5 hown hK hG (by decide) (htz _ fX5_68) (by decide) rfl dX5_snapshot_146 ?_
            refine lv_iload_n hx hb dX5_snapshot_149 rfl (lv_at hl 3 rfl) ?_
            refine ra_20 hx hb hK hG (by decide) hs dX5_snapshot_150 ?_
            refine mz_topE (y := v 20 0 s9.toNatClampNeg) (by rw [mz_uk (by decide)]; exact eW 20 _ (by decide) (by decide) (by decide)) ?_
            refine rt_6 hx hb hL hK hG hS (by decide) hk dX5_snapshot_151 (fun H locs hG hS => ?_)
            refine lv_aload_n hx hb dX5_snapshot_152 rfl (lv_at hl 2 rfl) ?_
            refine rg_0 (f := 9) hx hb htz tin_X5 hown hK hG (by decide) (htz _ fX5_29) (by decide) rfl dX5_snapshot_153 ?_
            refine lv_iload_n hx hb dX5_snapshot_156 rfl (lv_at hl 4 rfl) ?_
            refine lv_aload_n hx hb dX5_snapshot_157 rfl (lv_at hl 2 rfl) ?_
            refine rg_0 (f := 25) hx hb htz tin_X5 hown hK hG (by decide) (htz _ fX5_77) (by decide) rfl dX5_snapshot_158 ?_
            refine lv_iload_n hx hb dX5_snapshot_161 rfl (lv_at hl 3 rfl) ?_
            refine ra_23 hx hb hK hG (by decide) hs dX5_snapshot_162 ?_
            refine mz_topE (y := v 23 0 s9.toNatClampNeg) (by rw [mz_uk (by decide), mz_uk (by decide)]; exact eW 23 _ (by decide) (by decide) (by decide)) ?_
            refine rt_7 hx hb hL hK hG hS (by decide) hk dX5_snapshot_163 (fun H locs hG hS => ?_)
            refine lv_aload_n hx hb dX5_snapshot_164 rfl (lv_at hl 2 rfl) ?_
            refine rg_0 (f := 10) hx hb htz tin_X5 hown hK hG (by decide) (htz _ fX5_32) (by decide) rfl dX5_snapshot_165 ?_
            refine lv_iload_n hx hb dX5_snapshot_168 rfl (lv_at hl 4 rfl) ?_
            refine lv_iload hx hb dX5_snapshot_169 (lv_at hl 1 rfl) ?_
            refine rt_8 hx hb hL hK hG hS (by decide) hk dX5_snapshot_171 (fun H locs hG hS => ?_)
            refine lv_aload_n hx hb dX5_snapshot_172 rfl (lv_at hl 2 rfl) ?_
            refine lv_iconst (v := 4) hx hb dX5_snapshot_173 (by decide) ?_
            refine lv_iload_n hx hb dX5_snapshot_174 rfl (lv_at hl 4 rfl) ?_
            refine lv_iload_n hx hb dX5_snapshot_175 rfl (lv_at hl 5 rfl) ?_
            refine lv_iconst (v := 1) hx hb dX5_snapshot_176 (by decide) ?_
            refine lv_iload hx hb dX5_snapshot_177 (lv_at hl 1 rfl) ?_
            refine mz_Vv (As := [.int _, .int _, .int _, .int _, .int _]) (rest := []) ⟨hx, hb, hml, hown, hts⟩ (rc_answer l D L hL _ _ _ _ _ _ hk (by decide) (by rw [rs_ff_u (by decide), rs_ff_u (by decide), rs_ff_u (by decide), rs_ff_u (by decide), rs_ff_same (fun x9 => eW 15 x9 (by decide) (by decide) (by decide))]; exact hff9)) (tz_V htz mX5_answer lX5_159 rfl rfl ⟨Nat.le_of_ble_eq_true rfl, Nat.le_of_ble_eq_true rfl⟩) (rrecv_0 hK hG (by decide)) rK_ok hK hG hS rfl hl.1 rfl (Nat.le_of_ble_eq_true rfl) dX5_snapshot_179 ⟨Nat.zero_le _, Nat.zero_le _⟩ (fun H locs hG hS => ?_)
            exact mz_vret hx hb hr hlk rK_ok hK hS hG dX5_snapshot_182 (by rw [rs_rSnap, if_neg h0, ← hv, rs_rSnap1, if_neg h1', rs_rSnapB, rs_rebase, ← hye, ← hw9])
    · refine lv_aload_n hx hb dX5_snapshot_51 rfl (lv_at hl 1 rfl) ?_
      refine lv_iconst (v := 4) hx hb dX5_snapshot_52 (by decide) ?_
      refine lv_iload_n hx hb dX5_snapshot_53 rfl (lv_at hl 3 rfl) ?_
      refine lv_iload_n hx hb dX5_snapshot_54 rfl (lv_at hl 4 rfl) ?_
      refine lv_iconst (v := 1) hx hb dX5_snapshot_55 (by decide) ?_
      refine lv_aload_n hx hb dX5_snapshot_56 rfl (lv_at hl 1 rfl) ?_
      refine rg_0 (f := 10) hx hb htz tin_X5 hown hK hG (by decide) (htz _ fX5_32) (by decide) rfl dX5_snapshot_57 ?_
      refine lv_iload_n hx hb dX5_snapshot_60 rfl (lv_at hl 3 rfl) ?_
      refine ra_8 hx hb hK hG (by decide) hk dX5_snapshot_61 ?_
      refine mz_Vv (As := [.int _, .int _, .int _, .int _, .int _]) (rest := []) ⟨hx, hb, hml, hown, hts⟩ (rc_answer l D L hL _ _ _ _ _ _ hk (by decide) hff9) (tz_V htz mX5_answer lX5_159 rfl rfl ⟨Nat.le_of_ble_eq_true rfl, Nat.le_of_ble_eq_true rfl⟩) (rrecv_0 hK hG (by decide)) rK_ok hK hG hS rfl hl.1 rfl (Nat.le_of_ble_eq_true rfl) dX5_snapshot_62 ⟨Nat.zero_le _, Nat.zero_le _⟩ (fun H locs hG hS => ?_)
      exact mz_vret hx hb hr hlk rK_ok hK hS hG dX5_snapshot_65 (by rw [rs_rSnap, if_neg h0, ← hv, rs_rSnap1, if_pos h1'])
  · refine lv_aload_n hx hb dX5_snapshot_15 rfl (lv_at hl 0 rfl) ?_
    refine lv_iconst (v := 4) hx hb dX5_snapshot_16 (by decide) ?_
    refine lv_iload_n hx hb dX5_snapshot_17 rfl (lv_at hl 2 rfl) ?_
    refine lv_iload_n hx hb dX5_snapshot_18 rfl (lv_at hl 3 rfl) ?_
    refine lv_iconst (v := 0) hx hb dX5_snapshot_19 (by decide) ?_
    refine lv_iconst (v := 0) hx hb dX5_snapshot_20 (by decide) ?_
    refine mz_Vv (As := [.int _, .int _, .int _, .int _, .int _]) (rest := []) ⟨hx, hb, hml, hown, hts⟩ (rc_answer l D L hL _ _ _ _ _ _ hk (by decide) hff) (tz_V htz mX5_answer lX5_159 rfl rfl ⟨Nat.le_of_ble_eq_true rfl, Nat.le_of_ble_eq_true rfl⟩) (rrecv_0 hK hG (by decide)) rK_ok hK hG hS rfl hl.1 rfl (Nat.le_of_ble_eq_true rfl) dX5_snapshot_21 ⟨Nat.zero_le _, Nat.zero_le _⟩ (fun H locs hG hS => ?_)
    exact mz_vret hx hb hr hlk rK_ok hK hS hG dX5_snapshot_24 (by rw [rs_rSnap, if_pos h0])

set_option maxRecDepth 100000 in
set_option maxHeartbeats 4000000 in
theorem rc_act (l : Launch) (D : va_G) (L : rL) (hL : rL_ok L) (u : mz_S) (q9 s9 k f : Int32) (hs : vp_in s9 40) (hf : vp_in f 5) (hq : rzc (rl_c L) u k (u 8 0 k.toNatClampNeg)) (hff : rs_ff (rl_S L) u < rl_S L) (hb9 : rs_has (mz_u u 2 0 k.toNatClampNeg 0) k (u 19 0 s9.toNatClampNeg) → ∃ g e : Nat, u 19 0 s9.toNatClampNeg - u 5 0 k.toNatClampNeg = nI g ∧ u 10 0 k.toNatClampNeg = nI e ∧ g ≤ e ∧ e ≤ 12) : mz_Cv l (rG D L) (rK D L) (rA L) yX5_act (tz_w yX5_act cX5_act 5 none) ({ frames := 5, cells := 0, slots := 0, locals := 114 } : Room) [.ref (L.1 0 0), .int q9, .int s9, .int k, .int f] u (rs_act (rl_n L) (rl_c L) (rl_S L) u q9 s9.toNatClampNeg k f) := by
  refine mz_Cv.of (cc := cX5_act) (maxL := 5) (ret := none) (by decide) rfl (Nat.le_of_ble_eq_true rfl) ?_
  intro p e s m args below meth c ls hx hb hr hlk hml hown hts hl hG hK hS
  have hl : lv_has ls 5 [(0, .ref (L.1 0 0)), (1, .int q9), (2, .int s9), (3, .int k), (4, .int f)] := hl
  have htz : ∀ w ∈ tz, w.before args s = true := fun w h => hts w (List.mem_cons_of_mem _ h)
  have hc12 : rl_c L ≤ 12 := hL.1.2.2.2.1
  have hn5 : rl_n L ≤ 5 := hL.1.2.1
  have h40 : rl_S L ≤ 40 := hL.1.2.2.2.2.2
  refine lv_iload_n hx hb dX5_act_0 rfl (lv_at hl 1 rfl) ?_
  by_cases s1 : q9 = 1
  · rw [s1]
    refine lv_tableIn hx hb dX5_act_1 (by decide) (by decide) (off := 31) rfl (tgt := 32) rfl ?_
    refine lv_aload_n hx hb dX5_act_32 rfl (lv_at hl 0 rfl) ?_
    refine lv_iload_n hx hb dX5_act_33 rfl (lv_at hl 2 rfl) ?_
    refine lv_iload_n hx hb dX5_act_34 rfl (lv_at hl 3 rfl) ?_
    refine lv_iload hx hb dX5_act_35 (lv_at hl 4 rfl) ?_
    refine mz_Vv (As := [.int _, .int _, .int _]) (rest := []) ⟨hx, hb, hml, hown, hts⟩ (rc_asked l D L hL _ _ _ _ hs hq.rz hff) (tz_V htz mX5_asked lX5_144 rfl rfl ⟨Nat.le_of_ble_eq_true rfl, Nat.le_of_ble_eq_true rfl⟩) (rrecv_0 hK hG (by decide)) rK_ok hK hG hS rfl hl.1 rfl (Nat.le_of_ble_eq_true rfl) dX5_act_37 ⟨Nat.zero_le _, Nat.zero_le _⟩ (fun H locs hG hS => ?_)
    refine lv_goto hx hb dX5_act_40 (tgt := 84) rfl ?_
    exact mz_vret hx hb hr hlk rK_ok hK hS hG dX5_act_84 (by simp [rs_act, s1])
  by_cases s2 : q9 = 2
  · rw [s2]
    refine lv_tableIn hx hb dX5_act_1 (by decide) (by decide) (off := 42) rfl (tgt := 43) rfl ?_
    refine lv_aload_n hx hb dX5_act_43 rfl (lv_at hl 0 rfl) ?_
    refine lv_iload_n hx hb dX5_act_44 rfl (lv_at hl 2 rfl) ?_
    refine lv_iload_n hx hb dX5_act_45 rfl (lv_at hl 3 rfl) ?_
    refine lv_iload hx hb dX5_act_46 (lv_at hl 4 rfl) ?_
    refine mz_Vv (As := [.int _, .int _, .int _]) (rest := []) ⟨hx, hb, hml, hown, hts⟩ (rc_voted l D L hL _ _ _ _ hs hq.rz.k) (tz_V htz mX5_voted lX5_147 rfl rfl ⟨Nat.le_of_ble_eq_true rfl, Nat.le_of_ble_eq_true rfl⟩) (rrecv_0 hK hG (by decide)) rK_ok hK hG hS rfl hl.1 rfl (Nat.le_of_ble_eq_true rfl) dX5_act_48 ⟨Nat.zero_le _, Nat.zero_le _⟩ (fun H locs hG hS => ?_)
    refine lv_goto hx hb dX5_act_51 (tgt := 84) rfl ?_
    exact mz_vret hx hb hr hlk rK_ok hK hS hG dX5_act_84 (by simp [rs_act, s1, s2])
  by_cases s3 : q9 = 3
  · rw [s3]
    refine lv_tableIn hx hb dX5_act_1 (by decide) (by decide) (off := 53) rfl (tgt := 54) rfl ?_
    refine lv_aload_n hx hb dX5_act_54 rfl (lv_at hl 0 rfl) ?_
    refine lv_iload_n hx hb dX5_act_55 rfl (lv_at hl 2 rfl) ?_
    refine lv_iload_n hx hb dX5_act_56 rfl (lv_at hl 3 rfl) ?_
    refine lv_iload hx hb dX5_act_57 (lv_at hl 4 rfl) ?_
    refine mz_Vv (As := [.int _, .int _, .int _]) (rest := []) ⟨hx, hb, hml, hown, hts⟩ (rc_append l D L hL _ _ _ _ hs hq.rz hff) (tz_V htz mX5_append lX5_150 rfl rfl ⟨Nat.le_of_ble_eq_true rfl, Nat.le_of_ble_eq_true rfl⟩) (rrecv_0 hK hG (by decide)) rK_ok hK hG hS rfl hl.1 rfl (Nat.le_of_ble_eq_true rfl) dX5_act_59 ⟨Nat.zero_le _, Nat.zero_le _⟩ (fun H locs hG hS => ?_)
    refine lv_goto hx hb dX5_act_62 (tgt := 84) rfl ?_
    exact mz_vret hx hb hr hlk rK_ok hK hS hG dX5_act_84 (by simp [rs_act, s1, s2, s3])
  by_cases s4 : q9 = 4
  · rw [s4]
    refine lv_tableIn hx hb dX5_act_1 (by decide) (by decide) (off := 64) rfl (tgt := 65) rfl ?_
    refine lv_aload_n hx hb dX5_act_65 rfl (lv_at hl 0 rfl) ?_
    refine lv_iload_n hx hb dX5_act_66 rfl (lv_at hl 2 rfl) ?_
    refine lv_iload_n hx hb dX5_act_67 rfl (lv_at hl 3 rfl) ?_
    refine lv_iload hx hb dX5_act_68 (lv_at hl 4 rfl) ?_
    refine mz_Vv (As := [.int _, .int _, .int _]) (rest := []) ⟨hx, hb, hml, hown, hts⟩ (rc_appended l D L hL _ _ _ _ hs hf hq) (tz_V htz mX5_appended lX5_153 rfl rfl ⟨Nat.le_of_ble_eq_true rfl, Nat.le_of_ble_eq_true rfl⟩) (rrecv_0 hK hG (by decide)) rK_ok hK hG hS rfl hl.1 rfl (Nat.le_of_ble_eq_true rfl) dX5_act_70 ⟨Nat.zero_le _, Nat.zero_le _⟩ (fun H locs hG hS => ?_)
    refine lv_goto hx hb dX5_act_73 (tgt := 84) rfl ?_
    exact mz_vret hx hb hr hlk rK_ok hK hS hG dX5_act_84 (by simp [rs_act, s1, s2, s3, s4])
  refine lv_tableOut hx hb dX5_act_1 (mz_out (lo := 1) (hi := 4) (fun k h1 h2 => by rcases (show k = 1 ∨ k = 2 ∨ k = 3 ∨ k = 4 by omega) with rfl | rfl | rfl | rfl <;> assumption)) (tgt := 76) rfl ?_
  refine lv_aload_n hx hb dX5_act_76 rfl (lv_at hl 0 rfl) ?_
  refine lv_iload_n hx hb dX5_act_77 rfl (lv_at hl 2 rfl) ?_
  refine lv_iload_n hx hb dX5_act_78 rfl (lv_at hl 3 rfl) ?_
  refine lv_iload hx hb dX5_act_79 (lv_at hl 4 rfl) ?_
  refine mz_Vv (As := [.int _, .int _, .int _]) (rest := []) ⟨hx, hb, hml, hown, hts⟩ (rc_snapshot l D L hL _ _ _ _ hs hq.rz hff hb9) (tz_V htz mX5_snapshot lX5_156 rfl rfl ⟨Nat.le_of_ble_eq_true rfl, Nat.le_of_ble_eq_true rfl⟩) (rrecv_0 hK hG (by decide)) rK_ok hK hG hS rfl hl.1 rfl (Nat.le_of_ble_eq_true rfl) dX5_act_81 ⟨Nat.zero_le _, Nat.zero_le _⟩ (fun H locs hG hS => ?_)
  exact mz_vret hx hb hr hlk rK_ok hK hS hG dX5_act_84 (by simp [rs_act, s1, s2, s3, s4])
