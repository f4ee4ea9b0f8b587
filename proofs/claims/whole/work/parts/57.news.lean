theorem arr_I : Cond.arrayClass .int ∈ tz := tz_at 120 (by decide +kernel) rfl
theorem arr_Z : Cond.arrayClass .boolean ∈ tz := tz_at 162 (by decide +kernel) rfl
def nK (D : va_G) (cI cZ cN cM : ClassId) (s : State) : Prop := va_K D vwCl [(cI, .int), (cZ, .boolean), (cN, .object RX3), (cM, .object RX1)] s ∧ (∀ w ∈ qn_ws, va_Nw w s) ∧ va_AO RX3 s ∧ va_AO RX1 s
theorem nK_ok {D : va_G} {cI cZ cN cM : ClassId} : mz_K (nK D cI cZ cN cM) := ⟨fun s U hW h => ⟨va_K.moved hW.alike h.1, fun w hw => mz_nw (qn_all w hw) hW (h.2.1 w hw), va_AO.moved hW.alike h.2.2.1, va_AO.moved hW.alike h.2.2.2⟩, fun U V hv h => ⟨va_K.moved (by rw [hv]; exact Vm.Alike.refl _) h.1, fun w hw => mz_ns (qn_all w hw) hv (h.2.1 w hw), va_AO.moved (by rw [hv]; exact Vm.Alike.refl _) h.2.2.1, va_AO.moved (by rw [hv]; exact Vm.Alike.refl _) h.2.2.2⟩⟩
set_option maxRecDepth 100000 in
set_option maxHeartbeats 4000000 in
theorem nc_Message (l : Launch) (D : va_G) (cI cZ cN cM : ClassId) (H0 : Heap) (z9 : Nat) : mz_Cn l yX1_init (tz_w yX1_init cX1_init 1 none) ({ frames := 1, cells := 0, slots := 0, locals := 20 } : Room) [.ref z9] (nK D cI cZ cN cM) H0 z9 0 0 (fun H => H = H0) := by
  refine mz_Cn.of (cc := cX1_init) (maxL := 1) (ret := none) (by decide) rfl (Nat.le_of_ble_eq_true rfl) ?_
  intro p e s m args below meth c9 ls hx hb hr hlk hml hown hnm hts hl hH hK
  have hl : lv_has ls 1 [(0, .ref z9)] := hl
  have htz : ∀ w ∈ tz, w.before args s = true := fun w h => hts w (List.mem_cons_of_mem _ h)
  have hS : va_S (fun x => z9 ≤ x) H0 H0 [] := va_S.rf
  refine lv_aload_n hx hb dX1_init_0 rfl (lv_at hl 0 rfl) ?_
  refine W.objInit hx hb hown (htz _ lX1_1) (htz _ obj_inst) (htz _ obj_code) rfl (by rw [hml]; exact hl.1) rfl dX1_init_1 (Nat.le_of_ble_eq_true rfl) (Nat.le_of_ble_eq_true rfl) ?_
  refine W.eq (g2 := F0 m 4 ls []) rfl ?_
  exact mz_nret (Po := fun H => H = H0) hx hb hr hlk hH hS rfl (Nat.le_refl _) (Nat.le_refl _) dX1_init_4
set_option maxRecDepth 100000 in
set_option maxHeartbeats 4000000 in
theorem nc_Log (l : Launch) (D : va_G) (cI cZ cN cM : ClassId) (H0 : Heap) (z9 k : Nat) (hk9 : k ≤ 12) (hz : H0.size = z9 + 1) (h0 : va_at D vwCl (z9, .inr (0, [.int 0, .int 0, .int 0, .int 0, .null, .null])) H0) : mz_Cn l yX0_init (tz_w yX0_init cX0_init 2 none) ({ frames := 1, cells := 2, slots := 24, locals := 20 } : Room) [.ref z9, .int (nI k)] (nK D cI cZ cN cM) H0 z9 2 24 (fun H => H.size = z9 + 3 ∧ va_at D vwCl (z9, .inr (0, [.int 0, .int 0, .int 0, .int 0, .ref (z9 + 1), .ref (z9 + 2)])) H ∧ va_at D vwCl (z9 + 1, .inl (cI, k, .inl (fun _ => 0))) H ∧ va_at D vwCl (z9 + 2, .inl (cI, k, .inl (fun _ => 0))) H) := by
  refine mz_Cn.of (cc := cX0_init) (maxL := 2) (ret := none) (by decide) rfl (Nat.le_of_ble_eq_true rfl) ?_
  intro p e s m args below meth c9 ls hx hb hr hlk hml hown hnm hts hl hH hK
  have hl : lv_has ls 2 [(0, .ref z9), (1, .int (nI k))] := hl
  have htz : ∀ w ∈ tz, w.before args s = true := fun w h => hts w (List.mem_cons_of_mem _ h)
  have hS : va_S (fun x => z9 ≤ x) H0 H0 [] := va_S.rf
  refine lv_aload_n hx hb dX0_init_0 rfl (lv_at hl 0 rfl) ?_
  refine W.objInit hx hb hown (htz _ lX0_3) (htz _ obj_inst) (htz _ obj_code) rfl (by rw [hml]; exact hl.1) rfl dX0_init_1 (Nat.le_of_ble_eq_true rfl) (Nat.le_of_ble_eq_true rfl) ?_
  refine W.eq (g2 := F0 m 4 ls []) rfl ?_
  refine lv_aload_n hx hb dX0_init_4 rfl (lv_at hl 0 rfl) ?_
  refine lv_iload_n hx hb dX0_init_5 rfl (lv_at hl 1 rfl) ?_
  refine mz_newa (D := D) (cl := vwCl) (ty := .int) hx hb (htz _ arr_I) rfl rfl (hK.1.2 0 _ rfl).2 (nI_pos (by omega)) (nI_clamp (by omega)) (by show k * 4 ≤ 536870912; omega) hz (by show _ + 1 ≤ 2; omega) (by show _ + k ≤ 24; omega) dX0_init_6 (fun H h1 zz oo => ?_)
  have hS := mz_S_new hS hz zz oo
  have h0 := h0.kept (oo z9 (by omega))
  have hz := zz
  refine mz_putF (ci := 0) (C := RX0) (T := TX0) (N := 6) hx hb htz tin_X0 tyX0 tyX0_ok nmX0 hown hK.1 h0 rfl 4 (by decide) (htz _ fX0_9) rfl hnm rfl (ty := .array .int) (by decide +kernel) rfl rfl (Nat.le_of_ble_eq_true rfl) dX0_init_8 (fun H jj h0 zz oo => ?_)
  have hS := mz_S_put (j := jj) hS zz oo (by show z9 ≤ z9; omega)
  have h0 : va_at D vwCl (z9, .inr (0, [.int 0, .int 0, .int 0, .int 0, .ref (z9 + 1), .null])) H := h0
  have h1 := h1.kept (oo (z9 + 1) (by omega))
  have hz := zz.trans hz
  refine lv_aload_n hx hb dX0_init_11 rfl (lv_at hl 0 rfl) ?_
  refine lv_iload_n hx hb dX0_init_12 rfl (lv_at hl 1 rfl) ?_
  refine mz_newa (D := D) (cl := vwCl) (ty := .int) hx hb (htz _ arr_I) rfl rfl (hK.1.2 0 _ rfl).2 (nI_pos (by omega)) (nI_clamp (by omega)) (by show k * 4 ≤ 536870912; omega) hz (by show _ + 1 ≤ 2; omega) (by show _ + k ≤ 24; omega) dX0_init_13 (fun H h2 zz oo => ?_)
  have hS := mz_S_new hS hz zz oo
  have h0 := h0.kept (oo z9 (by omega))
  have h1 := h1.kept (oo (z9 + 1) (by omega))
  have hz := zz
  refine mz_putF (ci := 0) (C := RX0) (T := TX0) (N := 6) hx hb htz tin_X0 tyX0 tyX0_ok nmX0 hown hK.1 h0 rfl 5 (by decide) (htz _ fX0_15) rfl hnm rfl (ty := .array .int) (by decide +kernel) rfl rfl (Nat.le_of_ble_eq_true rfl) dX0_init_15 (fun H jj h0 zz oo => ?_)
  have hS := mz_S_put (j := jj) hS zz oo (by show z9 ≤ z9; omega)
  have h0 : va_at D vwCl (z9, .inr (0, [.int 0, .int 0, .int 0, .int 0, .ref (z9 + 1), .ref (z9 + 1 + 1)])) H := h0
  have h1 := h1.kept (oo (z9 + 1) (by omega))
  have h2 := h2.kept (oo (z9 + 1 + 1) (by omega))
  have hz := zz.trans hz
  refine mz_nret (Po := fun H => H.size = z9 + 3 ∧ va_at D vwCl (z9, .inr (0, [.int 0, .int 0, .int 0, .int 0, .ref (z9 + 1), .ref (z9 + 2)])) H ∧ va_at D vwCl (z9 + 1, .inl (cI, k, .inl (fun _ => 0))) H ∧ va_at D vwCl (z9 + 2, .inl (cI, k, .inl (fun _ => 0))) H) hx hb hr hlk hH hS ?_ (by omega) (by omega) dX0_init_18
  exact ⟨hz, h0, h1, h2⟩
set_option maxRecDepth 100000 in
set_option maxHeartbeats 4000000 in
theorem nc_Node (l : Launch) (D : va_G) (cI cZ cN cM : ClassId) (H0 : Heap) (z9 i n k : Nat) (hk9 : k ≤ 12) (hn9 : n ≤ 5) (hz : H0.size = z9 + 1) (h0 : va_at D vwCl (z9, .inr (3, [.int 0, .int 0, .int 0, .int 0, .int 0, .int 0, .null, .null, .null, .null])) H0) : mz_Cn l yX3_init (tz_w yX3_init cX3_init 4 none) ({ frames := 2, cells := 6, slots := 45, locals := 41 } : Room) [.ref z9, .int (nI i), .int (nI n), .int (nI k)] (nK D cI cZ cN cM) H0 z9 6 45 (fun H => H.size = z9 + 7 ∧ va_at D vwCl (z9, .inr (3, [.int (nI i), .int 1, .int 0, .int 0, .int (-1), .int 0, .ref (z9 + 1), .ref (z9 + 4), .ref (z9 + 5), .ref (z9 + 6)])) H ∧ va_at D vwCl (z9 + 1, .inr (0, [.int 0, .int 0, .int 0, .int 0, .ref (z9 + 2), .ref (z9 + 3)])) H ∧ va_at D vwCl (z9 + 2, .inl (cI, k, .inl (fun _ => 0))) H ∧ va_at D vwCl (z9 + 3, .inl (cI, k, .inl (fun _ => 0))) H ∧ va_at D vwCl (z9 + 4, .inl (cZ, n, .inl (fun _ => 0))) H ∧ va_at D vwCl (z9 + 5, .inl (cI, n, .inl (fun _ => 0))) H ∧ va_at D vwCl (z9 + 6, .inl (cI, n, .inl (fun _ => 0))) H) := by
  refine mz_Cn.of (cc := cX3_init) (maxL := 4) (ret := none) (by decide) rfl (Nat.le_of_ble_eq_true rfl) ?_
  intro p e s m args below meth c9 ls hx hb hr hlk hml hown hnm hts hl hH hK
  have hl : lv_has ls 4 [(0, .ref z9), (1, .int (nI i)), (2, .int (nI n)), (3, .int (nI k))] := hl
  have htz : ∀ w ∈ tz, w.before args s = true := fun w h => hts w (List.mem_cons_of_mem _ h)
  have hS : va_S (fun x => z9 ≤ x) H0 H0 [] := va_S.rf
  refine lv_aload_n hx hb dX3_init_0 rfl (lv_at hl 0 rfl) ?_
  refine W.objInit hx hb hown (htz _ lX3_3) (htz _ obj_inst) (htz _ obj_code) rfl (by rw [hml]; exact hl.1) rfl dX3_init_1 (Nat.le_of_ble_eq_true rfl) (Nat.le_of_ble_eq_true rfl) ?_
  refine W.eq (g2 := F0 m 4 ls []) rfl ?_
  refine lv_aload_n hx hb dX3_init_4 rfl (lv_at hl 0 rfl) ?_
  refine lv_iconst (v := 1) hx hb dX3_init_5 (by decide) ?_
  refine mz_put (ci := 3) (C := RX3) (T := TX3) (N := 10) hx hb htz tin_X3 tyX3 tyX3_ok nmX3 hown hK.1 h0 rfl 1 (by decide) (htz _ fX3_9) rfl (ty := .boolean) (by decide +kernel) rfl rfl (Nat.le_of_ble_eq_true rfl) dX3_init_6 (fun H jj h0 zz oo => ?_)
  have hS := mz_S_put (j := jj) hS zz oo (by show z9 ≤ z9; omega)
  have h0 : va_at D vwCl (z9, .inr (3, [.int 0, .int 1, .int 0, .int 0, .int 0, .int 0, .null, .null, .null, .null])) H := h0
  have hz := zz.trans hz
  refine lv_aload_n hx hb dX3_init_9 rfl (lv_at hl 0 rfl) ?_
  refine lv_iconst (v := 0) hx hb dX3_init_10 (by decide) ?_
  refine mz_put (ci := 3) (C := RX3) (T := TX3) (N := 10) hx hb htz tin_X3 tyX3 tyX3_ok nmX3 hown hK.1 h0 rfl 2 (by decide) (htz _ fX3_15) rfl (ty := .int) (by decide +kernel) rfl rfl (Nat.le_of_ble_eq_true rfl) dX3_init_11 (fun H jj h0 zz oo => ?_)
  have hS := mz_S_put (j := jj) hS zz oo (by show z9 ≤ z9; omega)
  have h0 : va_at D vwCl (z9, .inr (3, [.int 0, .int 1, .int 0, .int 0, .int 0, .int 0, .null, .null, .null, .null])) H := h0
  have hz := zz.trans hz
  refine lv_aload_n hx hb dX3_init_14 rfl (lv_at hl 0 rfl) ?_
  refine lv_iconst (v := (-1)) hx hb dX3_init_15 (by decide) ?_
  refine mz_put (ci := 3) (C := RX3) (T := TX3) (N := 10) hx hb htz tin_X3 tyX3 tyX3_ok nmX3 hown hK.1 h0 rfl 4 (by decide) (htz _ fX3_19) rfl (ty := .int) (by decide +kernel) rfl rfl (Nat.le_of_ble_eq_true rfl) dX3_init_16 (fun H jj h0 zz oo => ?_)
  have hS := mz_S_put (j := jj) hS zz oo (by show z9 ≤ z9; omega)
  have h0 : va_at D vwCl (z9, .inr (3, [.int 0, .int 1, .int 0, .int 0, .int (-1), .int 0, .null, .null, .null, .null])) H := h0
  have hz := zz.trans hz
  refine lv_aload_n hx hb dX3_init_19 rfl (lv_at hl 0 rfl) ?_
  refine lv_iload_n hx hb dX3_init_20 rfl (lv_at hl 1 rfl) ?_
  refine mz_putF (ci := 3) (C := RX3) (T := TX3) (N := 10) hx hb htz tin_X3 tyX3 tyX3_ok nmX3 hown hK.1 h0 rfl 0 (by decide) (htz _ fX3_22) rfl hnm rfl (ty := .int) (by decide +kernel) rfl rfl (Nat.le_of_ble_eq_true rfl) dX3_init_21 (fun H jj h0 zz oo => ?_)
  have hS := mz_S_put (j := jj) hS zz oo (by show z9 ≤ z9; omega)
  have h0 : va_at D vwCl (z9, .inr (3, [.int (nI i), .int 1, .int 0, .int 0, .int (-1), .int 0, .null, .null, .null, .null])) H := h0
  have hz := zz.trans hz
  refine lv_aload_n hx hb dX3_init_24 rfl (lv_at hl 0 rfl) ?_
  refine mz_new (ci := 0) (C := RX0) (T := TX0) (N := 6) hx hb htz tin_X0 tyX0 tyX0_ok hown (htz _ clX3_25) (htz _ ins_X0) (htz _ ini_X0) hK.1 rfl [.int 0, .int 0, .int 0, .int 0, .null, .null] (fun j hj => by rcases (show j = 0 ∨ j = 1 ∨ j = 2 ∨ j = 3 ∨ j = 4 ∨ j = 5 by omega) with rfl | rfl | rfl | rfl | rfl | rfl <;> rfl) hz (by show _ + 1 ≤ 6; omega) (by show _ + 6 ≤ 45; omega) dX3_init_25 (fun H h1 zz oo => ?_)
  have hS := mz_S_new hS hz zz oo
  have h0 := h0.kept (oo z9 (by omega))
  have hz := zz
  refine lv_dup hx hb dX3_init_28 rfl ?_
  refine lv_iload_n hx hb dX3_init_29 rfl (lv_at hl 3 rfl) ?_
  refine mz_IN (As := [.int _]) (rest := [.ref _, .ref _]) ⟨hx, hb, hml, hown, hts⟩ (nc_Log l D cI cZ cN cM H (z9 + 1) k hk9 hz h1) (tz_IN htz mX0_init rfl (hK.2.1 _ nX3_27) rfl rfl ⟨Nat.le_of_ble_eq_true rfl, Nat.le_of_ble_eq_true rfl⟩) nK_ok hK hS (fun q h => by show z9 ≤ q; omega) rfl hl.1 rfl (Nat.le_of_ble_eq_true rfl) dX3_init_30 ⟨by show _ + 2 ≤ 6; omega, by show _ + 24 ≤ 45; omega⟩ (fun H1 locs hP hsz oo hS => ?_)
  obtain ⟨zz, h1, h2, h3⟩ := hP
  have h0 := h0.kept (oo z9 (by omega) (by omega))
  have hz : H1.size = z9 + 4 := by omega
  clear zz hsz oo
  generalize H1 = H at *
  refine mz_putF (ci := 3) (C := RX3) (T := TX3) (N := 10) hx hb htz tin_X3 tyX3 tyX3_ok nmX3 hown hK.1 h0 rfl 6 (by decide) (htz _ fX3_30) rfl hnm rfl (ty := .object "QuorumLog$Log") (by decide +kernel) rfl rfl (Nat.le_of_ble_eq_true rfl) dX3_init_33 (fun H jj h0 zz oo => ?_)
  have hS := mz_S_put (j := jj) hS zz oo (by show z9 ≤ z9; omega)
  have h0 : va_at D vwCl (z9, .inr (3, [.int (nI i), .int 1, .int 0, .int 0, .int (-1), .int 0, .ref (z9 + 1), .null, .null, .null])) H := h0
  have h1 := h1.kept (oo (z9 + 1) (by omega))
  have h2 := h2.kept (oo (z9 + 1 + 1) (by omega))
  have h3 := h3.kept (oo (z9 + 1 + 2) (by omega))
  have hz := zz.trans hz
  refine lv_aload_n hx hb dX3_init_36 rfl (lv_at hl 0 rfl) ?_
  refine lv_iload_n hx hb dX3_init_37 rfl (lv_at hl 2 rfl) ?_
  refine mz_newa (D := D) (cl := vwCl) (ty := .boolean) hx hb (htz _ arr_Z) rfl rfl (hK.1.2 1 _ rfl).2 (nI_pos (by omega)) (nI_clamp (by omega)) (by show n * 1 ≤ 536870912; omega) hz (by show _ + 1 ≤ 6; omega) (by show _ + n ≤ 45; omega) dX3_init_38 (fun H h4 zz oo => ?_)
  have hS := mz_S_new hS hz zz oo
  have h0 := h0.kept (oo z9 (by omega))
  have h1 := h1.kept (oo (z9 + 1) (by omega))
  have h2 := h2.kept (oo (z9 + 1 + 1) (by omega))
  have h3 := h3.kept (oo (z9 + 1 + 2) (by omega))
  have hz := zz
  refine mz_putF (ci := 3) (C := RX3) (T := TX3) (N := 10) hx hb htz tin_X3 tyX3 tyX3_ok nmX3 hown hK.1 h0 rfl 7 (by decide) (htz _ fX3_34) rfl hnm rfl (ty := .array .boolean) (by decide +kernel) rfl rfl (Nat.le_of_ble_eq_true rfl) dX3_init_40 (fun H jj h0 zz oo => ?_)
  have hS := mz_S_put (j := jj) hS zz oo (by show z9 ≤ z9; omega)
  have h0 : va_at D vwCl (z9, .inr (3, [.int (nI i), .int 1, .int 0, .int 0, .int (-1), .int 0, .ref (z9 + 1), .ref (z9 + 4), .null, .null])) H := h0
  have h1 := h1.kept (oo (z9 + 1) (by omega))
  have h2 := h2.kept (oo (z9 + 1 + 1) (by omega))
  have h3 := h3.kept (oo (z9 + 1 + 2) (by omega))
  have h4 := h4.kept (oo (z9 + 4) (by omega))
  have hz := zz.trans hz
  refine lv_aload_n hx hb dX3_init_43 rfl (lv_at hl 0 rfl) ?_
  refine lv_iload_n hx hb dX3_init_44 rfl (lv_at hl 2 rfl) ?_
  refine mz_newa (D := D) (cl := vwCl) (ty := .int) hx hb (htz _ arr_I) rfl rfl (hK.1.2 0 _ rfl).2 (nI_pos (by omega)) (nI_clamp (by omega)) (by show n * 4 ≤ 536870912; omega) hz (by show _ + 1 ≤ 6; omega) (by show _ + n ≤ 45; omega) dX3_init_45 (fun H h5 zz oo => ?_)
  have hS := mz_S_new hS hz zz oo
  have h0 := h0.kept (oo z9 (by omega))
  have h1 := h1.kept (oo (z9 + 1) (by omega))
  have h2 := h2.kept (oo (z9 + 1 + 1) (by omega))
  have h3 := h3.kept (oo (z9 + 1 + 2) (by omega))
  have h4 := h4.kept (oo (z9 + 4) (by omega))
  have hz := zz
  refine mz_putF (ci := 3) (C := RX3) (T := TX3) (N := 10) hx hb htz tin_X3 tyX3 tyX3_ok nmX3 hown hK.1 h0 rfl 8 (by decide) (htz _ fX3_38) rfl hnm rfl (ty := .array .int) (by decide +kernel) rfl rfl (Nat.le_of_ble_eq_true rfl) dX3_init_47 (fun H jj h0 zz oo => ?_)
  have hS := mz_S_put (j := jj) hS zz oo (by show z9 ≤ z9; omega)
  have h0 : va_at D vwCl (z9, .inr (3, [.int (nI i), .int 1, .int 0, .int 0, .int (-1), .int 0, .ref (z9 + 1), .ref (z9 + 4), .ref (z9 + 4 + 1), .null])) H := h0
  have h1 := h1.kept (oo (z9 + 1) (by omega))
  have h2 := h2.kept (oo (z9 + 1 + 1) (by omega))
  have h3 := h3.kept (oo (z9 + 1 + 2) (by omega))
  have h4 := h4.kept (oo (z9 + 4) (by omega))
  have h5 := h5.kept (oo (z9 + 4 + 1) (by omega))
  have hz := zz.trans hz
  refine lv_aload_n hx hb dX3_init_50 rfl (lv_at hl 0 rfl) ?_
  refine lv_iload_n hx hb dX3_init_51 rfl (lv_at hl 2 rfl) ?_
  refine mz_newa (D := D) (cl := vwCl) (ty := .int) hx hb (htz _ arr_I) rfl rfl (hK.1.2 0 _ rfl).2 (nI_pos (by omega)) (nI_clamp (by omega)) (by show n * 4 ≤ 536870912; omega) hz (by show _ + 1 ≤ 6; omega) (by show _ + n ≤ 45; omega) dX3_init_52 (fun H h6 zz oo => ?_)
  have hS := mz_S_new hS hz zz oo
  have h0 := h0.kept (oo z9 (by omega))
  have h1 := h1.kept (oo (z9 + 1) (by omega))
  have h2 := h2.kept (oo (z9 + 1 + 1) (by omega))
  have h3 := h3.kept (oo (z9 + 1 + 2) (by omega))
  have h4 := h4.kept (oo (z9 + 4) (by omega))
  have h5 := h5.kept (oo (z9 + 4 + 1) (by omega))
  have hz := zz
  refine mz_putF (ci := 3) (C := RX3) (T := TX3) (N := 10) hx hb htz tin_X3 tyX3 tyX3_ok nmX3 hown hK.1 h0 rfl 9 (by decide) (htz _ fX3_42) rfl hnm rfl (ty := .array .int) (by decide +kernel) rfl rfl (Nat.le_of_ble_eq_true rfl) dX3_init_54 (fun H jj h0 zz oo => ?_)
  have hS := mz_S_put (j := jj) hS zz oo (by show z9 ≤ z9; omega)
  have h0 : va_at D vwCl (z9, .inr (3, [.int (nI i), .int 1, .int 0, .int 0, .int (-1), .int 0, .ref (z9 + 1), .ref (z9 + 4), .ref (z9 + 4 + 1), .ref (z9 + 4 + 1 + 1)])) H := h0
  have h1 := h1.kept (oo (z9 + 1) (by omega))
  have h2 := h2.kept (oo (z9 + 1 + 1) (by omega))
  have h3 := h3.kept (oo (z9 + 1 + 2) (by omega))
  have h4 := h4.kept (oo (z9 + 4) (by omega))
  have h5 := h5.kept (oo (z9 + 4 + 1) (by omega))
  have h6 := h6.kept (oo (z9 + 4 + 1 + 1) (by omega))
  have hz := zz.trans hz
  refine mz_nret (Po := fun H => H.size = z9 + 7 ∧ va_at D vwCl (z9, .inr (3, [.int (nI i), .int 1, .int 0, .int 0, .int (-1), .int 0, .ref (z9 + 1), .ref (z9 + 4), .ref (z9 + 5), .ref (z9 + 6)])) H ∧ va_at D vwCl (z9 + 1, .inr (0, [.int 0, .int 0, .int 0, .int 0, .ref (z9 + 2), .ref (z9 + 3)])) H ∧ va_at D vwCl (z9 + 2, .inl (cI, k, .inl (fun _ => 0))) H ∧ va_at D vwCl (z9 + 3, .inl (cI, k, .inl (fun _ => 0))) H ∧ va_at D vwCl (z9 + 4, .inl (cZ, n, .inl (fun _ => 0))) H ∧ va_at D vwCl (z9 + 5, .inl (cI, n, .inl (fun _ => 0))) H ∧ va_at D vwCl (z9 + 6, .inl (cI, n, .inl (fun _ => 0))) H) hx hb hr hlk hH hS ?_ (by omega) (by omega) dX3_init_57
  exact ⟨hz, h0, h1, h2, h3, h4, h5, h6⟩
