set_option maxRecDepth 100000 in
set_option maxHeartbeats 4000000 in
theorem nc_Net (l : Launch) (D : va_G) (cI cZ cN cM : ClassId) (H0 : Heap) (z9 n : Nat) (hn9 : n ≤ 40) (hz : H0.size = z9 + 1) (h0 : va_at D vwCl (z9, .inr (2, [.null, .int 0])) H0) : mz_Cn l yX2_init (tz_w yX2_init cX2_init 3 none) ({ frames := 2, cells := 41, slots := 520, locals := 40 } : Room) [.ref z9, .int (nI n)] (nK D cI cZ cN cM) H0 z9 41 520 (fun H => H.size = z9 + 2 + n ∧ va_at D vwCl (z9, .inr (2, [.ref (z9 + 1), .int 0])) H ∧ va_at D vwCl (z9 + 1, .inl (cM, n, .inr (.inr (.inr (.inr (fun x => some (z9 + 2 + x))))))) H ∧ ∀ i, i < n → va_at D vwCl (z9 + 2 + i, .inr (1, [.int 0, .int 0, .int 0, .int 0, .int 0, .int 0, .int 0, .int 0, .int 0, .int 0, .int 0, .int 0])) H) := by
  refine mz_Cn.of (cc := cX2_init) (maxL := 3) (ret := none) (by decide) rfl (Nat.le_of_ble_eq_true rfl) ?_
  intro p e s m args below meth c9 ls hx hb hr hlk hml hown hnm hts hl hH hK
  have hl : lv_has ls 3 [(0, .ref z9), (1, .int (nI n))] := hl
  have htz : ∀ w ∈ tz, w.before args s = true := fun w h => hts w (List.mem_cons_of_mem _ h)
  have hS : va_S (fun x => z9 ≤ x) H0 H0 [] := va_S.rf
  refine lv_aload_n hx hb dX2_init_0 rfl (lv_at hl 0 rfl) ?_
  refine W.objInit hx hb hown (htz _ lX2_3) (htz _ obj_inst) (htz _ obj_code) rfl (by rw [hml]; exact hl.1) rfl dX2_init_1 (Nat.le_of_ble_eq_true rfl) (Nat.le_of_ble_eq_true rfl) ?_
  refine W.eq (g2 := F0 m 4 ls []) rfl ?_
  refine lv_aload_n hx hb dX2_init_4 rfl (lv_at hl 0 rfl) ?_
  refine lv_iload_n hx hb dX2_init_5 rfl (lv_at hl 1 rfl) ?_
  obtain ⟨kA, comp, g1, g2, g3, g4⟩ := (hK.1.2 3 _ rfl).2
  refine mz_newq (D := D) (cl := vwCl) hx hb hown (htz _ clX2_9) hK.2.2.2 g4 (nI_pos (by omega)) (nI_clamp (by omega)) (by omega) hz (by show _ + 1 ≤ 41; omega) (by show _ + n ≤ 520; omega) dX2_init_6 (fun H h1 zz oo => ?_)
  have hS := mz_S_new hS hz zz oo
  have h0 := h0.kept (oo z9 (by omega))
  have hz := zz
  refine mz_putF (ci := 2) (C := RX2) (T := TX2) (N := 2) hx hb htz tin_X2 tyX2 tyX2_ok nmX2 hown hK.1 h0 rfl 0 (by decide) (htz _ fX2_11) rfl hnm rfl (ty := .array (.object "QuorumLog$Message")) (by decide +kernel) rfl rfl (Nat.le_of_ble_eq_true rfl) dX2_init_9 (fun H jj h0 zz oo => ?_)
  have hS := mz_S_put (j := jj) hS zz oo (by show z9 ≤ z9; omega)
  have h0 : va_at D vwCl (z9, .inr (2, [.ref (z9 + 1), .int 0])) H := h0
  have h1 := h1.kept (oo (z9 + 1) (by omega))
  have hz := zz.trans hz
  refine lv_iconst (v := 0) hx hb dX2_init_12 (by decide) ?_
  refine lv_istore_n hx hb dX2_init_13 rfl hl (by decide) rfl (fun ls hl => ?_)
  have hl : lv_has ls 3 [(2, .int (nI 0)), (0, .ref z9), (1, .int (nI n))] := hl
  refine mz_loopc n (C := fun j => 0 + 1 + 1 * j) (T := fun j => 0 + n + 12 * j) (P := fun j ls H locs => lv_has ls 3 [(2, .int (nI j)), (0, .ref z9), (1, .int (nI n))] ∧ H.size = z9 + 2 + j ∧ va_at D vwCl (z9, .inr (2, [.ref (z9 + 1), .int 0])) H ∧ va_at D vwCl (z9 + 1, .inl (cM, n, .inr (.inr (.inr (.inr (mz_fj (fun x => z9 + 2 + x) j)))))) H ∧ (∀ i, i < j → va_at D vwCl (z9 + 2 + i, .inr (1, [.int 0, .int 0, .int 0, .int 0, .int 0, .int 0, .int 0, .int 0, .int 0, .int 0, .int 0, .int 0])) H) ∧ va_S (fun x => z9 ≤ x) H0 H locs ∧ j ≤ n) (fun _ _ _ _ h => h.2.2.2.2.2.2) ?_ 0 _ _ _ ⟨hl, hz, h0, mz_atq h1 (fun x _ => mz_fj_0 _ x), (fun i hi => absurd hi (by omega)), hS, Nat.zero_le _⟩
  intro j ls H locs ⟨hl, hz, h0, h1, h2, hS, hj⟩ ih
  refine lv_iload_n hx hb dX2_init_14 rfl (lv_at hl 0 rfl) ?_
  refine lv_iload_n hx hb dX2_init_15 rfl (lv_at hl 2 rfl) ?_
  refine mz_icmp_ge hx hb dX2_init_16 (tgt := 38) rfl (fun q0 q1 => ?_) (fun q0 q1 => ?_)
  · rw [nI_leI (by omega) (by omega)] at q1
    have hjn : j = n := by omega
    subst hjn
    refine mz_nret (Po := fun H => H.size = z9 + 2 + j ∧ va_at D vwCl (z9, .inr (2, [.ref (z9 + 1), .int 0])) H ∧ va_at D vwCl (z9 + 1, .inl (cM, j, .inr (.inr (.inr (.inr (fun x => some (z9 + 2 + x))))))) H ∧ ∀ i, i < j → va_at D vwCl (z9 + 2 + i, .inr (1, [.int 0, .int 0, .int 0, .int 0, .int 0, .int 0, .int 0, .int 0, .int 0, .int 0, .int 0, .int 0])) H) hx hb hr hlk hH hS ?_ (by omega) (by omega) dX2_init_38
    exact ⟨hz, h0, mz_atq h1 (fun x hx => mz_fj_n _ hx), h2⟩
  · rw [nI_ltI (by omega) (by omega)] at q0
    refine lv_aload_n hx hb dX2_init_19 rfl (lv_at hl 1 rfl) ?_
    refine va_get (ci := 2) (C := RX2) (T := TX2) (N := 2) hx hb htz tin_X2 hown hK.1 (mz_P1 h0) 0 rfl rfl 0 (by decide) (htz _ fX2_11) (fun _ h => h) rfl dX2_init_20 ?_
    refine lv_iload_n hx hb dX2_init_23 rfl (lv_at hl 0 rfl) ?_
    refine mz_new (ci := 1) (C := RX1) (T := TX1) (N := 12) hx hb htz tin_X1 tyX1 tyX1_ok hown (htz _ clX2_9) (htz _ ins_X1) (htz _ ini_X1) hK.1 rfl [.int 0, .int 0, .int 0, .int 0, .int 0, .int 0, .int 0, .int 0, .int 0, .int 0, .int 0, .int 0] (fun j hj => by rcases (show j = 0 ∨ j = 1 ∨ j = 2 ∨ j = 3 ∨ j = 4 ∨ j = 5 ∨ j = 6 ∨ j = 7 ∨ j = 8 ∨ j = 9 ∨ j = 10 ∨ j = 11 by omega) with rfl | rfl | rfl | rfl | rfl | rfl | rfl | rfl | rfl | rfl | rfl | rfl <;> rfl) hz (by show _ + 1 ≤ 41; omega) (by show _ + 12 ≤ 520; omega) dX2_init_24 (fun H hm zz oo => ?_)
    have hS := mz_S_new hS hz zz oo
    have h0 := h0.kept (oo z9 (by omega))
    have h1 := h1.kept (oo (z9 + 1) (by omega))
    have h2 : ∀ i, i < j → va_at D vwCl (z9 + 2 + i, .inr (1, [.int 0, .int 0, .int 0, .int 0, .int 0, .int 0, .int 0, .int 0, .int 0, .int 0, .int 0, .int 0])) H := fun i hi => (h2 i hi).kept (oo (z9 + 2 + i) (by omega))
    have hz := zz
    refine lv_dup hx hb dX2_init_27 rfl ?_
    refine mz_IN (As := []) (rest := [.ref (z9 + 2 + j), .int (nI j), .ref (z9 + 1)]) ⟨hx, hb, hml, hown, hts⟩ (nc_Message l D cI cZ cN cM H (z9 + 2 + j)) (tz_IN htz mX1_init rfl (hK.2.1 _ nX2_17) rfl rfl ⟨Nat.le_of_ble_eq_true rfl, Nat.le_of_ble_eq_true rfl⟩) nK_ok hK hS (fun q h => by show z9 ≤ q; omega) rfl hl.1 rfl (Nat.le_of_ble_eq_true rfl) dX2_init_28 ⟨by show _ + 0 ≤ 41; omega, by show _ + 0 ≤ 520; omega⟩ (fun H1 locs hP hsz oo hS => ?_)
    have hP : H1 = H := hP
    rw [hP] at hS ⊢
    clear hP hsz oo
    refine mz_aast hx hb hK.1 3 1 h1 rfl hm rfl (vp_in_nI q0 (by omega)) dX2_init_31 (fun H jj h1 zz oo => ?_)
    rw [nI_clamp (by omega)] at h1
    have hS := mz_S_put (j := jj) hS zz oo (by show z9 ≤ z9 + 1; omega)
    have h0 := h0.kept (oo z9 (by omega))
    have h2 : ∀ i, i < j + 1 → va_at D vwCl (z9 + 2 + i, .inr (1, [.int 0, .int 0, .int 0, .int 0, .int 0, .int 0, .int 0, .int 0, .int 0, .int 0, .int 0, .int 0])) H := fun i hi => by
      by_cases hij : i = j
      · rw [hij]
        exact hm.kept (oo _ (by omega))
      · exact (h2 i (by omega)).kept (oo _ (by omega))
    have hz := zz.trans hz
    refine lv_iinc (k := 0) hx hb dX2_init_32 hl rfl (nI_1 j) (by decide) rfl (fun ls hl => ?_)
    have hl : lv_has ls 3 [(2, .int _), (0, .ref _), (1, .int _)] := hl
    refine lv_goto hx hb dX2_init_35 (tgt := 14) rfl ?_
    exact mz_cs (by omega) (by omega) (ih q0 _ _ _ ⟨hl, hz, h0, mz_atq h1 (fun x _ => mz_fj_s (fun x => z9 + 2 + x) j x), h2, hS, by omega⟩)
