def rL0 (z n k S : Nat) (cI cZ : ClassId) : rL := (fun a _ => z + a, (n, k, S), (cI, cZ))
def rz0 : mz_S := fun _ _ _ => 0
def rs_i : Nat → mz_S
  | 0 => rz0
  | j + 1 => mz_u (mz_u (rs_i j) 1 0 j 1) 4 0 j (-1)
theorem rL0_in {z n k S : Nat} {cI cZ : ClassId} {a b : Nat} (h : b < rN (rL0 z n k S cI cZ) a) : a < 25 ∧ b = 0 := by
  unfold rN at h
  by_cases g : a < 25
  · rw [if_pos g] at h
    omega
  · rw [if_neg g] at h
    omega
theorem rL0_ok {z n k S : Nat} {cI cZ : ClassId} (hn : 3 ≤ n ∧ n ≤ 5) (hk : 1 ≤ k ∧ k ≤ 12) (hS : 8 ≤ S ∧ S ≤ 40) : rL_ok (rL0 z n k S cI cZ) := by
  refine ⟨⟨hn.1, hn.2, hk.1, hk.2, hS.1, hS.2⟩, ?_⟩
  intro a b a' b' h h' e
  have e : z + a = z + a' := e
  have g := rL0_in h
  have g' := rL0_in h'
  omega
def nRs (D : va_G) (z n k S : Nat) (cI cZ : ClassId) (j : Nat) (H : Heap) : Prop := ∀ a, 1 ≤ a → a < j → va_at D vwCl (z + a, rE (rL0 z n k S cI cZ) rz0 a 0) H
theorem nRs.kept {D : va_G} {z n k S : Nat} {cI cZ : ClassId} {j : Nat} {H H1 : Heap} (h : nRs D z n k S cI cZ j H) (oo : ∀ q : Nat, z < q → q < z + j → H1[q]? = H[q]?) : nRs D z n k S cI cZ j H1 := fun a h1 h2 => (h a h1 h2).kept (oo _ (by omega) (by omega))
theorem nRs.next {D : va_G} {z n k S : Nat} {cI cZ : ClassId} {j : Nat} {H H1 : Heap} (h : nRs D z n k S cI cZ j H) (oo : ∀ q : Nat, q < z + j → H1[q]? = H[q]?) (hn : va_at D vwCl (z + j, rE (rL0 z n k S cI cZ) rz0 j 0) H1) : nRs D z n k S cI cZ (j + 1) H1 := fun a h1 h2 => by
  by_cases e : a = j
  · rw [e]
    exact hn
  · exact (h a h1 (by omega)).kept (oo _ (by omega))
theorem rG0 {D : va_G} {z n k S : Nat} {cI cZ : ClassId} {H : Heap} (h0 : va_at D vwCl (z, .inr (5, rf0 (rL0 z n k S cI cZ))) H) (h : nRs D z n k S cI cZ 25 H) : rG D (rL0 z n k S cI cZ) (rs_i 0) H := by
  intro a b hb
  obtain ⟨ha, rfl⟩ := rL0_in hb
  by_cases e : a = 0
  · subst e
    exact h0
  · exact h a (by omega) ha
set_option maxRecDepth 100000 in
set_option maxHeartbeats 4000000 in
theorem nc_Model (l : Launch) (D : va_G) (cI cZ cN cM : ClassId) (H0 : Heap) (z9 n k S : Nat) (x9 y9 w9 : Int32) (hn9 : 3 ≤ n ∧ n ≤ 5) (hk9 : 1 ≤ k ∧ k ≤ 12) (hs9 : 8 ≤ S ∧ S ≤ 40) (en : rs_clamp x9 3 5 = nI n) (ek : rs_clamp y9 1 12 = nI k) (es : rs_clamp w9 8 40 = nI S) (hz : H0.size = z9 + 1) (h0 : va_at D vwCl (z9, .inr (5, [.int 0, .int 0, .int 0, .null, .null, .null, .null, .null, .null, .null, .null, .null, .null, .null, .null, .null, .null, .null, .null, .null, .null, .null, .null, .null, .null, .null, .null])) H0) : mz_Cn l yX5_init (tz_w yX5_init cX5_init 5 none) ({ frames := 1, cells := 24, slots := 620, locals := 22 } : Room) [.ref z9, .int x9, .int y9, .int w9] (nK D cI cZ cN cM) H0 z9 24 620 (fun H => H.size = z9 + 25 ∧ rG D (rL0 z9 n k S cI cZ) (rs_i 5) H) := by
  refine mz_Cn.of (cc := cX5_init) (maxL := 5) (ret := none) (by decide) rfl (Nat.le_of_ble_eq_true rfl) ?_
  intro p e s m args below meth c9 ls hx hb hr hlk hml hown hnm hts hl hH hK
  have hl : lv_has ls 5 [(0, .ref z9), (1, .int x9), (2, .int y9), (3, .int w9)] := hl
  have htz : ∀ w ∈ tz, w.before args s = true := fun w h => hts w (List.mem_cons_of_mem _ h)
  have hS : va_S (fun x => z9 ≤ x) H0 H0 [] := va_S.rf
  refine lv_aload_n hx hb dX5_init_0 rfl (lv_at hl 0 rfl) ?_
  refine W.objInit hx hb hown (htz _ lX5_1) (htz _ obj_inst) (htz _ obj_code) rfl (by rw [hml]; exact hl.1) rfl dX5_init_1 (Nat.le_of_ble_eq_true rfl) (Nat.le_of_ble_eq_true rfl) ?_
  refine W.eq (g2 := F0 m 4 ls []) rfl ?_
  have h1 : nRs D z9 n k S cI cZ 1 H0 := fun a g1 g2 => absurd g1 (by omega)
  refine lv_aload_n hx hb dX5_init_4 rfl (lv_at hl 0 rfl) ?_
  refine lv_iconst (v := 5) hx hb dX5_init_5 (by decide) ?_
  refine mz_newa (D := D) (cl := vwCl) (ty := .boolean) (N := 5) hx hb (htz _ arr_Z) rfl rfl (hK.1.2 1 _ rfl).2 (by decide) (by decide) (by show 5 * 1 ≤ 536870912; exact Nat.le_of_ble_eq_true rfl) hz (by show _ + 1 ≤ 24; omega) (by show _ + 5 ≤ 620; omega) dX5_init_6 (fun H hm zz oo => ?_)
  have hS := mz_S_new hS hz zz oo
  have h0 := h0.kept (oo z9 (Nat.lt_add_of_pos_right (Nat.le_of_ble_eq_true rfl)))
  have h1 : nRs D z9 n k S cI cZ 2 H := h1.next (fun q hq => oo q hq) hm
  have hz : H.size = z9 + 2 := zz
  clear hm zz oo
  refine mz_putF (ci := 5) (C := RX5) (T := TX5) (N := 27) hx hb htz tin_X5 tyX5 tyX5_ok nmX5 hown hK.1 h0 rfl 3 (by decide) (htz _ fX5_7) rfl hnm rfl (ty := .array .boolean) (by decide +kernel) rfl rfl (Nat.le_of_ble_eq_true rfl) dX5_init_8 (fun H jj h0 zz oo => ?_)
  have hS := mz_S_put (j := jj) hS zz oo (by show z9 ≤ z9; omega)
  have h0 : va_at D vwCl (z9, .inr (5, [.int 0, .int 0, .int 0, .ref (z9 + 1), .null, .null, .null, .null, .null, .null, .null, .null, .null, .null, .null, .null, .null, .null, .null, .null, .null, .null, .null, .null, .null, .null, .null])) H := h0
  have h1 := h1.kept (fun q g _ => oo q (Nat.ne_of_gt g))
  have hz := zz.trans hz
  clear zz oo
  refine lv_aload_n hx hb dX5_init_11 rfl (lv_at hl 0 rfl) ?_
  refine lv_iconst (v := 5) hx hb dX5_init_12 (by decide) ?_
  refine mz_newa (D := D) (cl := vwCl) (ty := .int) (N := 5) hx hb (htz _ arr_I) rfl rfl (hK.1.2 0 _ rfl).2 (by decide) (by decide) (by show 5 * 4 ≤ 536870912; exact Nat.le_of_ble_eq_true rfl) hz (by show _ + 1 ≤ 24; omega) (by show _ + 5 ≤ 620; omega) dX5_init_13 (fun H hm zz oo => ?_)
  have hS := mz_S_new hS hz zz oo
  have h0 := h0.kept (oo z9 (Nat.lt_add_of_pos_right (Nat.le_of_ble_eq_true rfl)))
  have h1 : nRs D z9 n k S cI cZ 3 H := h1.next (fun q hq => oo q hq) hm
  have hz : H.size = z9 + 3 := zz
  clear hm zz oo
  refine mz_putF (ci := 5) (C := RX5) (T := TX5) (N := 27) hx hb htz tin_X5 tyX5 tyX5_ok nmX5 hown hK.1 h0 rfl 4 (by decide) (htz _ fX5_13) rfl hnm rfl (ty := .array .int) (by decide +kernel) rfl rfl (Nat.le_of_ble_eq_true rfl) dX5_init_15 (fun H jj h0 zz oo => ?_)
  have hS := mz_S_put (j := jj) hS zz oo (by show z9 ≤ z9; omega)
  have h0 : va_at D vwCl (z9, .inr (5, [.int 0, .int 0, .int 0, .ref (z9 + 1), .ref (z9 + 2), .null, .null, .null, .null, .null, .null, .null, .null, .null, .null, .null, .null, .null, .null, .null, .null, .null, .null, .null, .null, .null, .null])) H := h0
  have h1 := h1.kept (fun q g _ => oo q (Nat.ne_of_gt g))
  have hz := zz.trans hz
  clear zz oo
  refine lv_aload_n hx hb dX5_init_18 rfl (lv_at hl 0 rfl) ?_
  refine lv_iconst (v := 5) hx hb dX5_init_19 (by decide) ?_
  refine mz_newa (D := D) (cl := vwCl) (ty := .int) (N := 5) hx hb (htz _ arr_I) rfl rfl (hK.1.2 0 _ rfl).2 (by decide) (by decide) (by show 5 * 4 ≤ 536870912; exact Nat.le_of_ble_eq_true rfl) hz (by show _ + 1 ≤ 24; omega) (by show _ + 5 ≤ 620; omega) dX5_init_20 (fun H hm zz oo => ?_)
  have hS := mz_S_new hS hz zz oo
  have h0 := h0.kept (oo z9 (Nat.lt_add_of_pos_right (Nat.le_of_ble_eq_true rfl)))
  have h1 : nRs D z9 n k S cI cZ 4 H := h1.next (fun q hq => oo q hq) hm
  have hz : H.size = z9 + 4 := zz
  clear hm zz oo
  refine mz_putF (ci := 5) (C := RX5) (T := TX5) (N := 27) hx hb htz tin_X5 tyX5 tyX5_ok nmX5 hown hK.1 h0 rfl 5 (by decide) (htz _ fX5_17) rfl hnm rfl (ty := .array .int) (by decide +kernel) rfl rfl (Nat.le_of_ble_eq_true rfl) dX5_init_22 (fun H jj h0 zz oo => ?_)
  have hS := mz_S_put (j := jj) hS zz oo (by show z9 ≤ z9; omega)
  have h0 : va_at D vwCl (z9, .inr (5, [.int 0, .int 0, .int 0, .ref (z9 + 1), .ref (z9 + 2), .ref (z9 + 3), .null, .null, .null, .null, .null, .null, .null, .null, .null, .null, .null, .null, .null, .null, .null, .null, .null, .null, .null, .null, .null])) H := h0
  have h1 := h1.kept (fun q g _ => oo q (Nat.ne_of_gt g))
  have hz := zz.trans hz
  clear zz oo
  refine lv_aload_n hx hb dX5_init_25 rfl (lv_at hl 0 rfl) ?_
  refine lv_iconst (v := 5) hx hb dX5_init_26 (by decide) ?_
  refine mz_newa (D := D) (cl := vwCl) (ty := .int) (N := 5) hx hb (htz _ arr_I) rfl rfl (hK.1.2 0 _ rfl).2 (by decide) (by decide) (by show 5 * 4 ≤ 536870912; exact Nat.le_of_ble_eq_true rfl) hz (by show _ + 1 ≤ 24; omega) (by show _ + 5 ≤ 620; omega) dX5_init_27 (fun H hm zz oo => ?_)
  have hS := mz_S_new hS hz zz oo
  have h0 := h0.kept (oo z9 (Nat.lt_add_of_pos_right (Nat.le_of_ble_eq_true rfl)))
  have h1 : nRs D z9 n k S cI cZ 5 H := h1.next (fun q hq => oo q hq) hm
  have hz : H.size = z9 + 5 := zz
  clear hm zz oo
  refine mz_putF (ci := 5) (C := RX5) (T := TX5) (N := 27) hx hb htz tin_X5 tyX5 tyX5_ok nmX5 hown hK.1 h0 rfl 6 (by decide) (htz _ fX5_20) rfl hnm rfl (ty := .array .int) (by decide +kernel) rfl rfl (Nat.le_of_ble_eq_true rfl) dX5_init_29 (fun H jj h0 zz oo => ?_)
  have hS := mz_S_put (j := jj) hS zz oo (by show z9 ≤ z9; omega)
  have h0 : va_at D vwCl (z9, .inr (5, [.int 0, .int 0, .int 0, .ref (z9 + 1), .ref (z9 + 2), .ref (z9 + 3), .ref (z9 + 4), .null, .null, .null, .null, .null, .null, .null, .null, .null, .null, .null, .null, .null, .null, .null, .null, .null, .null, .null, .null])) H := h0
  have h1 := h1.kept (fun q g _ => oo q (Nat.ne_of_gt g))
  have hz := zz.trans hz
  clear zz oo
  refine lv_aload_n hx hb dX5_init_32 rfl (lv_at hl 0 rfl) ?_
  refine lv_iconst (v := 5) hx hb dX5_init_33 (by decide) ?_
  refine mz_newa (D := D) (cl := vwCl) (ty := .int) (N := 5) hx hb (htz _ arr_I) rfl rfl (hK.1.2 0 _ rfl).2 (by decide) (by decide) (by show 5 * 4 ≤ 536870912; exact Nat.le_of_ble_eq_true rfl) hz (by show _ + 1 ≤ 24; omega) (by show _ + 5 ≤ 620; omega) dX5_init_34 (fun H hm zz oo => ?_)
  have hS := mz_S_new hS hz zz oo
  have h0 := h0.kept (oo z9 (Nat.lt_add_of_pos_right (Nat.le_of_ble_eq_true rfl)))
  have h1 : nRs D z9 n k S cI cZ 6 H := h1.next (fun q hq => oo q hq) hm
  have hz : H.size = z9 + 6 := zz
  clear hm zz oo
  refine mz_putF (ci := 5) (C := RX5) (T := TX5) (N := 27) hx hb htz tin_X5 tyX5 tyX5_ok nmX5 hown hK.1 h0 rfl 7 (by decide) (htz _ fX5_23) rfl hnm rfl (ty := .array .int) (by decide +kernel) rfl rfl (Nat.le_of_ble_eq_true rfl) dX5_init_36 (fun H jj h0 zz oo => ?_)
  have hS := mz_S_put (j := jj) hS zz oo (by show z9 ≤ z9; omega)
  have h0 : va_at D vwCl (z9, .inr (5, [.int 0, .int 0, .int 0, .ref (z9 + 1), .ref (z9 + 2), .ref (z9 + 3), .ref (z9 + 4), .ref (z9 + 5), .null, .null, .null, .null, .null, .null, .null, .null, .null, .null, .null, .null, .null, .null, .null, .null, .null, .null, .null])) H := h0
  have h1 := h1.kept (fun q g _ => oo q (Nat.ne_of_gt g))
  have hz := zz.trans hz
  clear zz oo
  refine lv_aload_n hx hb dX5_init_39 rfl (lv_at hl 0 rfl) ?_
  refine lv_iconst (v := 5) hx hb dX5_init_40 (by decide) ?_
  refine mz_newa (D := D) (cl := vwCl) (ty := .int) (N := 5) hx hb (htz _ arr_I) rfl rfl (hK.1.2 0 _ rfl).2 (by decide) (by decide) (by show 5 * 4 ≤ 536870912; exact Nat.le_of_ble_eq_true rfl) hz (by show _ + 1 ≤ 24; omega) (by show _ + 5 ≤ 620; omega) dX5_init_41 (fun H hm zz oo => ?_)
  have hS := mz_S_new hS hz zz oo
  have h0 := h0.kept (oo z9 (Nat.lt_add_of_pos_right (Nat.le_of_ble_eq_true rfl)))
  have h1 : nRs D z9 n k S cI cZ 7 H := h1.next (fun q hq => oo q hq) hm
  have hz : H.size = z9 + 7 := zz
  clear hm zz oo
  refine mz_putF (ci := 5) (C := RX5) (T := TX5) (N := 27) hx hb htz tin_X5 tyX5 tyX5_ok nmX5 hown hK.1 h0 rfl 8 (by decide) (htz _ fX5_26) rfl hnm rfl (ty := .array .int) (by decide +kernel) rfl rfl (Nat.le_of_ble_eq_true rfl) dX5_init_43 (fun H jj h0 zz oo => ?_)
  have hS := mz_S_put (j := jj) hS zz oo (by show z9 ≤ z9; omega)
  have h0 : va_at D vwCl (z9, .inr (5, [.int 0, .int 0, .int 0, .ref (z9 + 1), .ref (z9 + 2), .ref (z9 + 3), .ref (z9 + 4), .ref (z9 + 5), .ref (z9 + 6), .null, .null, .null, .null, .null, .null, .null, .null, .null, .null, .null, .null, .null, .null, .null, .null, .null, .null])) H := h0
  have h1 := h1.kept (fun q g _ => oo q (Nat.ne_of_gt g))
  have hz := zz.trans hz
  clear zz oo
  refine lv_aload_n hx hb dX5_init_46 rfl (lv_at hl 0 rfl) ?_
  refine lv_iconst (v := 5) hx hb dX5_init_47 (by decide) ?_
  refine mz_newa (D := D) (cl := vwCl) (ty := .int) (N := 5) hx hb (htz _ arr_I) rfl rfl (hK.1.2 0 _ rfl).2 (by decide) (by decide) (by show 5 * 4 ≤ 536870912; exact Nat.le_of_ble_eq_true rfl) hz (by show _ + 1 ≤ 24; omega) (by show _ + 5 ≤ 620; omega) dX5_init_48 (fun H hm zz oo => ?_)
  have hS := mz_S_new hS hz zz oo
  have h0 := h0.kept (oo z9 (Nat.lt_add_of_pos_right (Nat.le_of_ble_eq_true rfl)))
  have h1 : nRs D z9 n k S cI cZ 8 H := h1.next (fun q hq => oo q hq) hm
  have hz : H.size = z9 + 8 := zz
  clear hm zz oo
  refine mz_putF (ci := 5) (C := RX5) (T := TX5) (N := 27) hx hb htz tin_X5 tyX5 tyX5_ok nmX5 hown hK.1 h0 rfl 9 (by decide) (htz _ fX5_29) rfl hnm rfl (ty := .array .int) (by decide +kernel) rfl rfl (Nat.le_of_ble_eq_true rfl) dX5_init_50 (fun H jj h0 zz oo => ?_)
  have hS := mz_S_put (j := jj) hS zz oo (by show z9 ≤ z9; omega)
  have h0 : va_at D vwCl (z9, .inr (5, [.int 0, .int 0, .int 0, .ref (z9 + 1), .ref (z9 + 2), .ref (z9 + 3), .ref (z9 + 4), .ref (z9 + 5), .ref (z9 + 6), .ref (z9 + 7), .null, .null, .null, .null, .null, .null, .null, .null, .null, .null, .null, .null, .null, .null, .null, .null, .null])) H := h0
  have h1 := h1.kept (fun q g _ => oo q (Nat.ne_of_gt g))
  have hz := zz.trans hz
  clear zz oo
  refine lv_aload_n hx hb dX5_init_53 rfl (lv_at hl 0 rfl) ?_
  refine lv_iconst (v := 5) hx hb dX5_init_54 (by decide) ?_
  refine mz_newa (D := D) (cl := vwCl) (ty := .int) (N := 5) hx hb (htz _ arr_I) rfl rfl (hK.1.2 0 _ rfl).2 (by decide) (by decide) (by show 5 * 4 ≤ 536870912; exact Nat.le_of_ble_eq_true rfl) hz (by show _ + 1 ≤ 24; omega) (by show _ + 5 ≤ 620; omega) dX5_init_55 (fun H hm zz oo => ?_)
  have hS := mz_S_new hS hz zz oo
  have h0 := h0.kept (oo z9 (Nat.lt_add_of_pos_right (Nat.le_of_ble_eq_true rfl)))
  have h1 : nRs D z9 n k S cI cZ 9 H := h1.next (fun q hq => oo q hq) hm
  have hz : H.size = z9 + 9 := zz
  clear hm zz oo
  refine mz_putF (ci := 5) (C := RX5) (T := TX5) (N := 27) hx hb htz tin_X5 tyX5 tyX5_ok nmX5 hown hK.1 h0 rfl 10 (by decide) (htz _ fX5_32) rfl hnm rfl (ty := .array .int) (by decide +kernel) rfl rfl (Nat.le_of_ble_eq_true rfl) dX5_init_57 (fun H jj h0 zz oo => ?_)
  have hS := mz_S_put (j := jj) hS zz oo (by show z9 ≤ z9; omega)
  have h0 : va_at D vwCl (z9, .inr (5, [.int 0, .int 0, .int 0, .ref (z9 + 1), .ref (z9 + 2), .ref (z9 + 3), .ref (z9 + 4), .ref (z9 + 5), .ref (z9 + 6), .ref (z9 + 7), .ref (z9 + 8), .null, .null, .null, .null, .null, .null, .null, .null, .null, .null, .null, .null, .null, .null, .null, .null])) H := h0
  have h1 := h1.kept (fun q g _ => oo q (Nat.ne_of_gt g))
  have hz := zz.trans hz
  clear zz oo
  refine lv_aload_n hx hb dX5_init_60 rfl (lv_at hl 0 rfl) ?_
  refine lv_iconst (v := 5) hx hb dX5_init_61 (by decide) ?_
  refine mz_newa (D := D) (cl := vwCl) (ty := .int) (N := 5) hx hb (htz _ arr_I) rfl rfl (hK.1.2 0 _ rfl).2 (by decide) (by decide) (by show 5 * 4 ≤ 536870912; exact Nat.le_of_ble_eq_true rfl) hz (by show _ + 1 ≤ 24; omega) (by show _ + 5 ≤ 620; omega) dX5_init_62 (fun H hm zz oo => ?_)
  have hS := mz_S_new hS hz zz oo
  have h0 := h0.kept (oo z9 (Nat.lt_add_of_pos_right (Nat.le_of_ble_eq_true rfl)))
  have h1 : nRs D z9 n k S cI cZ 10 H := h1.next (fun q hq => oo q hq) hm
  have hz : H.size = z9 + 10 := zz
  clear hm zz oo
  refine mz_putF (ci := 5) (C := RX5) (T := TX5) (N := 27) hx hb htz tin_X5 tyX5 tyX5_ok nmX5 hown hK.1 h0 rfl 11 (by decide) (htz _ fX5_35) rfl hnm rfl (ty := .array .int) (by decide +kernel) rfl rfl (Nat.le_of_ble_eq_true rfl) dX5_init_64 (fun H jj h0 zz oo => ?_)
  have hS := mz_S_put (j := jj) hS zz oo (by show z9 ≤ z9; omega)
  have h0 : va_at D vwCl (z9, .inr (5, [.int 0, .int 0, .int 0, .ref (z9 + 1), .ref (z9 + 2), .ref (z9 + 3), .ref (z9 + 4), .ref (z9 + 5), .ref (z9 + 6), .ref (z9 + 7), .ref (z9 + 8), .ref (z9 + 9), .null, .null, .null, .null, .null, .null, .null, .null, .null, .null, .null, .null, .null, .null, .null])) H := h0
  have h1 := h1.kept (fun q g _ => oo q (Nat.ne_of_gt g))
  have hz := zz.trans hz
  clear zz oo
  refine lv_aload_n hx hb dX5_init_67 rfl (lv_at hl 0 rfl) ?_
  refine lv_iconst (v := 5) hx hb dX5_init_68 (by decide) ?_
  refine mz_newa (D := D) (cl := vwCl) (ty := .int) (N := 5) hx hb (htz _ arr_I) rfl rfl (hK.1.2 0 _ rfl).2 (by decide) (by decide) (by show 5 * 4 ≤ 536870912; exact Nat.le_of_ble_eq_true rfl) hz (by show _ + 1 ≤ 24; omega) (by show _ + 5 ≤ 620; omega) dX5_init_69 (fun H hm zz oo => ?_)
  have hS := mz_S_new hS hz zz oo
  have h0 := h0.kept (oo z9 (Nat.lt_add_of_pos_right (Nat.le_of_ble_eq_true rfl)))
  have h1 : nRs D z9 n k S cI cZ 11 H := h1.next (fun q hq => oo q hq) hm
  have hz : H.size = z9 + 11 := zz
  clear hm zz oo
  refine mz_putF (ci := 5) (C := RX5) (T := TX5) (N := 27) hx hb htz tin_X5 tyX5 tyX5_ok nmX5 hown hK.1 h0 rfl 12 (by decide) (htz _ fX5_38) rfl hnm rfl (ty := .array .int) (by decide +kernel) rfl rfl (Nat.le_of_ble_eq_true rfl) dX5_init_71 (fun H jj h0 zz oo => ?_)
  have hS := mz_S_put (j := jj) hS zz oo (by show z9 ≤ z9; omega)
  have h0 : va_at D vwCl (z9, .inr (5, [.int 0, .int 0, .int 0, .ref (z9 + 1), .ref (z9 + 2), .ref (z9 + 3), .ref (z9 + 4), .ref (z9 + 5), .ref (z9 + 6), .ref (z9 + 7), .ref (z9 + 8), .ref (z9 + 9), .ref (z9 + 10), .null, .null, .null, .null, .null, .null, .null, .null, .null, .null, .null, .null, .null, .null])) H := h0
  have h1 := h1.kept (fun q g _ => oo q (Nat.ne_of_gt g))
  have hz := zz.trans hz
  clear zz oo
  refine lv_aload_n hx hb dX5_init_74 rfl (lv_at hl 0 rfl) ?_
  refine lv_bipush (v := 60) hx hb dX5_init_75 (by decide) ?_
  refine mz_newa (D := D) (cl := vwCl) (ty := .int) (N := 60) hx hb (htz _ arr_I) rfl rfl (hK.1.2 0 _ rfl).2 (by decide) (by decide) (by show 60 * 4 ≤ 536870912; exact Nat.le_of_ble_eq_true rfl) hz (by show _ + 1 ≤ 24; omega) (by show _ + 60 ≤ 620; omega) dX5_init_77 (fun H hm zz oo => ?_)
  have hS := mz_S_new hS hz zz oo
  have h0 := h0.kept (oo z9 (Nat.lt_add_of_pos_right (Nat.le_of_ble_eq_true rfl)))
  have h1 : nRs D z9 n k S cI cZ 12 H := h1.next (fun q hq => oo q hq) hm
  have hz : H.size = z9 + 12 := zz
  clear hm zz oo
  refine mz_putF (ci := 5) (C := RX5) (T := TX5) (N := 27) hx hb htz tin_X5 tyX5 tyX5_ok nmX5 hown hK.1 h0 rfl 13 (by decide) (htz _ fX5_41) rfl hnm rfl (ty := .array .int) (by decide +kernel) rfl rfl (Nat.le_of_ble_eq_true rfl) dX5_init_79 (fun H jj h0 zz oo => ?_)
  have hS := mz_S_put (j := jj) hS zz oo (by show z9 ≤ z9; omega)
  have h0 : va_at D vwCl (z9, .inr (5, [.int 0, .int 0, .int 0, .ref (z9 + 1), .ref (z9 + 2), .ref (z9 + 3), .ref (z9 + 4), .ref (z9 + 5), .ref (z9 + 6), .ref (z9 + 7), .ref (z9 + 8), .ref (z9 + 9), .ref (z9 + 10), .ref (z9 + 11), .null, .null, .null, .null, .null, .null, .null, .null, .null, .null, .null, .null, .null])) H := h0
  have h1 := h1.kept (fun q g _ => oo q (Nat.ne_of_gt g))
  have hz := zz.trans hz
  clear zz oo
  refine lv_aload_n hx hb dX5_init_82 rfl (lv_at hl 0 rfl) ?_
  refine lv_bipush (v := 60) hx hb dX5_init_83 (by decide) ?_
  refine mz_newa (D := D) (cl := vwCl) (ty := .int) (N := 60) hx hb (htz _ arr_I) rfl rfl (hK.1.2 0 _ rfl).2 (by decide) (by decide) (by show 60 * 4 ≤ 536870912; exact Nat.le_of_ble_eq_true rfl) hz (by show _ + 1 ≤ 24; omega) (by show _ + 60 ≤ 620; omega) dX5_init_85 (fun H hm zz oo => ?_)
  have hS := mz_S_new hS hz zz oo
  have h0 := h0.kept (oo z9 (Nat.lt_add_of_pos_right (Nat.le_of_ble_eq_true rfl)))
  have h1 : nRs D z9 n k S cI cZ 13 H := h1.next (fun q hq => oo q hq) hm
  have hz : H.size = z9 + 13 := zz
  clear hm zz oo
  refine mz_putF (ci := 5) (C := RX5) (T := TX5) (N := 27) hx hb htz tin_X5 tyX5 tyX5_ok nmX5 hown hK.1 h0 rfl 14 (by decide) (htz _ fX5_44) rfl hnm rfl (ty := .array .int) (by decide +kernel) rfl rfl (Nat.le_of_ble_eq_true rfl) dX5_init_87 (fun H jj h0 zz oo => ?_)
  have hS := mz_S_put (j := jj) hS zz oo (by show z9 ≤ z9; omega)
  have h0 : va_at D vwCl (z9, .inr (5, [.int 0, .int 0, .int 0, .ref (z9 + 1), .ref (z9 + 2), .ref (z9 + 3), .ref (z9 + 4), .ref (z9 + 5), .ref (z9 + 6), .ref (z9 + 7), .ref (z9 + 8), .ref (z9 + 9), .ref (z9 + 10), .ref (z9 + 11), .ref (z9 + 12), .null, .null, .null, .null, .null, .null, .null, .null, .null, .null, .null, .null])) H := h0
  have h1 := h1.kept (fun q g _ => oo q (Nat.ne_of_gt g))
  have hz := zz.trans hz
  clear zz oo
  refine lv_aload_n hx hb dX5_init_90 rfl (lv_at hl 0 rfl) ?_
  refine lv_bipush (v := 25) hx hb dX5_init_91 (by decide) ?_
  refine mz_newa (D := D) (cl := vwCl) (ty := .int) (N := 25) hx hb (htz _ arr_I) rfl rfl (hK.1.2 0 _ rfl).2 (by decide) (by decide) (by show 25 * 4 ≤ 536870912; exact Nat.le_of_ble_eq_true rfl) hz (by show _ + 1 ≤ 24; omega) (by show _ + 25 ≤ 620; omega) dX5_init_93 (fun H hm zz oo => ?_)
  have hS := mz_S_new hS hz zz oo
  have h0 := h0.kept (oo z9 (Nat.lt_add_of_pos_right (Nat.le_of_ble_eq_true rfl)))
  have h1 : nRs D z9 n k S cI cZ 14 H := h1.next (fun q hq => oo q hq) hm
  have hz : H.size = z9 + 14 := zz
  clear hm zz oo
  refine mz_putF (ci := 5) (C := RX5) (T := TX5) (N := 27) hx hb htz tin_X5 tyX5 tyX5_ok nmX5 hown hK.1 h0 rfl 15 (by decide) (htz _ fX5_47) rfl hnm rfl (ty := .array .int) (by decide +kernel) rfl rfl (Nat.le_of_ble_eq_true rfl) dX5_init_95 (fun H jj h0 zz oo => ?_)
  have hS := mz_S_put (j := jj) hS zz oo (by show z9 ≤ z9; omega)
  have h0 : va_at D vwCl (z9, .inr (5, [.int 0, .int 0, .int 0, .ref (z9 + 1), .ref (z9 + 2), .ref (z9 + 3), .ref (z9 + 4), .ref (z9 + 5), .ref (z9 + 6), .ref (z9 + 7), .ref (z9 + 8), .ref (z9 + 9), .ref (z9 + 10), .ref (z9 + 11), .ref (z9 + 12), .ref (z9 + 13), .null, .null, .null, .null, .null, .null, .null, .null, .null, .null, .null])) H := h0
  have h1 := h1.kept (fun q g _ => oo q (Nat.ne_of_gt g))
  have hz := zz.trans hz
  clear zz oo
  refine lv_aload_n hx hb dX5_init_98 rfl (lv_at hl 0 rfl) ?_
  refine lv_bipush (v := 25) hx hb dX5_init_99 (by decide) ?_
  refine mz_newa (D := D) (cl := vwCl) (ty := .int) (N := 25) hx hb (htz _ arr_I) rfl rfl (hK.1.2 0 _ rfl).2 (by decide) (by decide) (by show 25 * 4 ≤ 536870912; exact Nat.le_of_ble_eq_true rfl) hz (by show _ + 1 ≤ 24; omega) (by show _ + 25 ≤ 620; omega) dX5_init_101 (fun H hm zz oo => ?_)
  have hS := mz_S_new hS hz zz oo
  have h0 := h0.kept (oo z9 (Nat.lt_add_of_pos_right (Nat.le_of_ble_eq_true rfl)))
  have h1 : nRs D z9 n k S cI cZ 15 H := h1.next (fun q hq => oo q hq) hm
  have hz : H.size = z9 + 15 := zz
  clear hm zz oo
  refine mz_putF (ci := 5) (C := RX5) (T := TX5) (N := 27) hx hb htz tin_X5 tyX5 tyX5_ok nmX5 hown hK.1 h0 rfl 16 (by decide) (htz _ fX5_50) rfl hnm rfl (ty := .array .int) (by decide +kernel) rfl rfl (Nat.le_of_ble_eq_true rfl) dX5_init_103 (fun H jj h0 zz oo => ?_)
  have hS := mz_S_put (j := jj) hS zz oo (by show z9 ≤ z9; omega)
  have h0 : va_at D vwCl (z9, .inr (5, [.int 0, .int 0, .int 0, .ref (z9 + 1), .ref (z9 + 2), .ref (z9 + 3), .ref (z9 + 4), .ref (z9 + 5), .ref (z9 + 6), .ref (z9 + 7), .ref (z9 + 8), .ref (z9 + 9), .ref (z9 + 10), .ref (z9 + 11), .ref (z9 + 12), .ref (z9 + 13), .ref (z9 + 14), .null, .null, .null, .null, .null, .null, .null, .null, .null, .null])) H := h0
  have h1 := h1.kept (fun q g _ => oo q (Nat.ne_of_gt g))
  have hz := zz.trans hz
  clear zz oo
  refine lv_aload_n hx hb dX5_init_106 rfl (lv_at hl 0 rfl) ?_
  refine lv_bipush (v := 40) hx hb dX5_init_107 (by decide) ?_
  refine mz_newa (D := D) (cl := vwCl) (ty := .int) (N := 40) hx hb (htz _ arr_I) rfl rfl (hK.1.2 0 _ rfl).2 (by decide) (by decide) (by show 40 * 4 ≤ 536870912; exact Nat.le_of_ble_eq_true rfl) hz (by show _ + 1 ≤ 24; omega) (by show _ + 40 ≤ 620; omega) dX5_init_109 (fun H hm zz oo => ?_)
  have hS := mz_S_new hS hz zz oo
  have h0 := h0.kept (oo z9 (Nat.lt_add_of_pos_right (Nat.le_of_ble_eq_true rfl)))
  have h1 : nRs D z9 n k S cI cZ 16 H := h1.next (fun q hq => oo q hq) hm
  have hz : H.size = z9 + 16 := zz
  clear hm zz oo
  refine mz_putF (ci := 5) (C := RX5) (T := TX5) (N := 27) hx hb htz tin_X5 tyX5 tyX5_ok nmX5 hown hK.1 h0 rfl 17 (by decide) (htz _ fX5_53) rfl hnm rfl (ty := .array .int) (by decide +kernel) rfl rfl (Nat.le_of_ble_eq_true rfl) dX5_init_111 (fun H jj h0 zz oo => ?_)
  have hS := mz_S_put (j := jj) hS zz oo (by show z9 ≤ z9; omega)
  have h0 : va_at D vwCl (z9, .inr (5, [.int 0, .int 0, .int 0, .ref (z9 + 1), .ref (z9 + 2), .ref (z9 + 3), .ref (z9 + 4), .ref (z9 + 5), .ref (z9 + 6), .ref (z9 + 7), .ref (z9 + 8), .ref (z9 + 9), .ref (z9 + 10), .ref (z9 + 11), .ref (z9 + 12), .ref (z9 + 13), .ref (z9 + 14), .ref (z9 + 15), .null, .null, .null, .null, .null, .null, .null, .null, .null])) H := h0
  have h1 := h1.kept (fun q g _ => oo q (Nat.ne_of_gt g))
  have hz := zz.trans hz
  clear zz oo
  refine lv_aload_n hx hb dX5_init_114 rfl (lv_at hl 0 rfl) ?_
  refine lv_bipush (v := 40) hx hb dX5_init_115 (by decide) ?_
  refine mz_newa (D := D) (cl := vwCl) (ty := .int) (N := 40) hx hb (htz _ arr_I) rfl rfl (hK.1.2 0 _ rfl).2 (by decide) (by decide) (by show 40 * 4 ≤ 536870912; exact Nat.le_of_ble_eq_true rfl) hz (by show _ + 1 ≤ 24; omega) (by show _ + 40 ≤ 620; omega) dX5_init_117 (fun H hm zz oo => ?_)
  have hS := mz_S_new hS hz zz oo
  have h0 := h0.kept (oo z9 (Nat.lt_add_of_pos_right (Nat.le_of_ble_eq_true rfl)))
  have h1 : nRs D z9 n k S cI cZ 17 H := h1.next (fun q hq => oo q hq) hm
  have hz : H.size = z9 + 17 := zz
  clear hm zz oo
  refine mz_putF (ci := 5) (C := RX5) (T := TX5) (N := 27) hx hb htz tin_X5 tyX5 tyX5_ok nmX5 hown hK.1 h0 rfl 18 (by decide) (htz _ fX5_56) rfl hnm rfl (ty := .array .int) (by decide +kernel) rfl rfl (Nat.le_of_ble_eq_true rfl) dX5_init_119 (fun H jj h0 zz oo => ?_)
  have hS := mz_S_put (j := jj) hS zz oo (by show z9 ≤ z9; omega)
  have h0 : va_at D vwCl (z9, .inr (5, [.int 0, .int 0, .int 0, .ref (z9 + 1), .ref (z9 + 2), .ref (z9 + 3), .ref (z9 + 4), .ref (z9 + 5), .ref (z9 + 6), .ref (z9 + 7), .ref (z9 + 8), .ref (z9 + 9), .ref (z9 + 10), .ref (z9 + 11), .ref (z9 + 12), .ref (z9 + 13), .ref (z9 + 14), .ref (z9 + 15), .ref (z9 + 16), .null, .null, .null, .null, .null, .null, .null, .null])) H := h0
  have h1 := h1.kept (fun q g _ => oo q (Nat.ne_of_gt g))
  have hz := zz.trans hz
  clear zz oo
  refine lv_aload_n hx hb dX5_init_122 rfl (lv_at hl 0 rfl) ?_
  refine lv_bipush (v := 40) hx hb dX5_init_123 (by decide) ?_
  refine mz_newa (D := D) (cl := vwCl) (ty := .int) (N := 40) hx hb (htz _ arr_I) rfl rfl (hK.1.2 0 _ rfl).2 (by decide) (by decide) (by show 40 * 4 ≤ 536870912; exact Nat.le_of_ble_eq_true rfl) hz (by show _ + 1 ≤ 24; omega) (by show _ + 40 ≤ 620; omega) dX5_init_125 (fun H hm zz oo => ?_)
  have hS := mz_S_new hS hz zz oo
  have h0 := h0.kept (oo z9 (Nat.lt_add_of_pos_right (Nat.le_of_ble_eq_true rfl)))
  have h1 : nRs D z9 n k S cI cZ 18 H := h1.next (fun q hq => oo q hq) hm
  have hz : H.size = z9 + 18 := zz
  clear hm zz oo
  refine mz_putF (ci := 5) (C := RX5) (T := TX5) (N := 27) hx hb htz tin_X5 tyX5 tyX5_ok nmX5 hown hK.1 h0 rfl 19 (by decide) (htz _ fX5_59) rfl hnm rfl (ty := .array .int) (by decide +kernel) rfl rfl (Nat.le_of_ble_eq_true rfl) dX5_init_127 (fun H jj h0 zz oo => ?_)
  have hS := mz_S_put (j := jj) hS zz oo (by show z9 ≤ z9; omega)
  have h0 : va_at D vwCl (z9, .inr (5, [.int 0, .int 0, .int 0, .ref (z9 + 1), .ref (z9 + 2), .ref (z9 + 3), .ref (z9 + 4), .ref (z9 + 5), .ref (z9 + 6), .ref (z9 + 7), .ref (z9 + 8), .ref (z9 + 9), .ref (z9 + 10), .ref (z9 + 11), .ref (z9 + 12), .ref (z9 + 13), .ref (z9 + 14), .ref (z9 + 15), .ref (z9 + 16), .ref (z9 + 17), .null, .null, .null, .null, .null, .null, .null])) H := h0
  have h1 := h1.kept (fun q g _ => oo q (Nat.ne_of_gt g))
  have hz := zz.trans hz
  clear zz oo
  refine lv_aload_n hx hb dX5_init_130 rfl (lv_at hl 0 rfl) ?_
  refine lv_bipush (v := 40) hx hb dX5_init_131 (by decide) ?_
  refine mz_newa (D := D) (cl := vwCl) (ty := .int) (N := 40) hx hb (htz _ arr_I) rfl rfl (hK.1.2 0 _ rfl).2 (by decide) (by decide) (by show 40 * 4 ≤ 536870912; exact Nat.le_of_ble_eq_true rfl) hz (by show _ + 1 ≤ 24; omega) (by show _ + 40 ≤ 620; omega) dX5_init_133 (fun H hm zz oo => ?_)
  have hS := mz_S_new hS hz zz oo
  have h0 := h0.kept (oo z9 (Nat.lt_add_of_pos_right (Nat.le_of_ble_eq_true rfl)))
  have h1 : nRs D z9 n k S cI cZ 19 H := h1.next (fun q hq => oo q hq) hm
  have hz : H.size = z9 + 19 := zz
  clear hm zz oo
  refine mz_putF (ci := 5) (C := RX5) (T := TX5) (N := 27) hx hb htz tin_X5 tyX5 tyX5_ok nmX5 hown hK.1 h0 rfl 20 (by decide) (htz _ fX5_62) rfl hnm rfl (ty := .array .int) (by decide +kernel) rfl rfl (Nat.le_of_ble_eq_true rfl) dX5_init_135 (fun H jj h0 zz oo => ?_)
  have hS := mz_S_put (j := jj) hS zz oo (by show z9 ≤ z9; omega)
  have h0 : va_at D vwCl (z9, .inr (5, [.int 0, .int 0, .int 0, .ref (z9 + 1), .ref (z9 + 2), .ref (z9 + 3), .ref (z9 + 4), .ref (z9 + 5), .ref (z9 + 6), .ref (z9 + 7), .ref (z9 + 8), .ref (z9 + 9), .ref (z9 + 10), .ref (z9 + 11), .ref (z9 + 12), .ref (z9 + 13), .ref (z9 + 14), .ref (z9 + 15), .ref (z9 + 16), .ref (z9 + 17), .ref (z9 + 18), .null, .null, .null, .null, .null, .null])) H := h0
  have h1 := h1.kept (fun q g _ => oo q (Nat.ne_of_gt g))
  have hz := zz.trans hz
  clear zz oo
  refine lv_aload_n hx hb dX5_init_138 rfl (lv_at hl 0 rfl) ?_
  refine lv_bipush (v := 40) hx hb dX5_init_139 (by decide) ?_
  refine mz_newa (D := D) (cl := vwCl) (ty := .int) (N := 40) hx hb (htz _ arr_I) rfl rfl (hK.1.2 0 _ rfl).2 (by decide) (by decide) (by show 40 * 4 ≤ 536870912; exact Nat.le_of_ble_eq_true rfl) hz (by show _ + 1 ≤ 24; omega) (by show _ + 40 ≤ 620; omega) dX5_init_141 (fun H hm zz oo => ?_)
  have hS := mz_S_new hS hz zz oo
  have h0 := h0.kept (oo z9 (Nat.lt_add_of_pos_right (Nat.le_of_ble_eq_true rfl)))
  have h1 : nRs D z9 n k S cI cZ 20 H := h1.next (fun q hq => oo q hq) hm
  have hz : H.size = z9 + 20 := zz
  clear hm zz oo
  refine mz_putF (ci := 5) (C := RX5) (T := TX5) (N := 27) hx hb htz tin_X5 tyX5 tyX5_ok nmX5 hown hK.1 h0 rfl 21 (by decide) (htz _ fX5_65) rfl hnm rfl (ty := .array .int) (by decide +kernel) rfl rfl (Nat.le_of_ble_eq_true rfl) dX5_init_143 (fun H jj h0 zz oo => ?_)
  have hS := mz_S_put (j := jj) hS zz oo (by show z9 ≤ z9; omega)
  have h0 : va_at D vwCl (z9, .inr (5, [.int 0, .int 0, .int 0, .ref (z9 + 1), .ref (z9 + 2), .ref (z9 + 3), .ref (z9 + 4), .ref (z9 + 5), .ref (z9 + 6), .ref (z9 + 7), .ref (z9 + 8), .ref (z9 + 9), .ref (z9 + 10), .ref (z9 + 11), .ref (z9 + 12), .ref (z9 + 13), .ref (z9 + 14), .ref (z9 + 15), .ref (z9 + 16), .ref (z9 + 17), .ref (z9 + 18), .ref (z9 + 19), .null, .null, .null, .null, .null])) H := h0
  have h1 := h1.kept (fun q g _ => oo q (Nat.ne_of_gt g))
  have hz := zz.trans hz
  clear zz oo
  refine lv_aload_n hx hb dX5_init_146 rfl (lv_at hl 0 rfl) ?_
  refine lv_bipush (v := 40) hx hb dX5_init_147 (by decide) ?_
  refine mz_newa (D := D) (cl := vwCl) (ty := .int) (N := 40) hx hb (htz _ arr_I) rfl rfl (hK.1.2 0 _ rfl).2 (by decide) (by decide) (by show 40 * 4 ≤ 536870912; exact Nat.le_of_ble_eq_true rfl) hz (by show _ + 1 ≤ 24; omega) (by show _ + 40 ≤ 620; omega) dX5_init_149 (fun H hm zz oo => ?_)
  have hS := mz_S_new hS hz zz oo
  have h0 := h0.kept (oo z9 (Nat.lt_add_of_pos_right (Nat.le_of_ble_eq_true rfl)))
  have h1 : nRs D z9 n k S cI cZ 21 H := h1.next (fun q hq => oo q hq) hm
  have hz : H.size = z9 + 21 := zz
  clear hm zz oo
  refine mz_putF (ci := 5) (C := RX5) (T := TX5) (N := 27) hx hb htz tin_X5 tyX5 tyX5_ok nmX5 hown hK.1 h0 rfl 22 (by decide) (htz _ fX5_68) rfl hnm rfl (ty := .array .int) (by decide +kernel) rfl rfl (Nat.le_of_ble_eq_true rfl) dX5_init_151 (fun H jj h0 zz oo => ?_)
  have hS := mz_S_put (j := jj) hS zz oo (by show z9 ≤ z9; omega)
  have h0 : va_at D vwCl (z9, .inr (5, [.int 0, .int 0, .int 0, .ref (z9 + 1), .ref (z9 + 2), .ref (z9 + 3), .ref (z9 + 4), .ref (z9 + 5), .ref (z9 + 6), .ref (z9 + 7), .ref (z9 + 8), .ref (z9 + 9), .ref (z9 + 10), .ref (z9 + 11), .ref (z9 + 12), .ref (z9 + 13), .ref (z9 + 14), .ref (z9 + 15), .ref (z9 + 16), .ref (z9 + 17), .ref (z9 + 18), .ref (z9 + 19), .ref (z9 + 20), .null, .null, .null, .null])) H := h0
  have h1 := h1.kept (fun q g _ => oo q (Nat.ne_of_gt g))
  have hz := zz.trans hz
  clear zz oo
  refine lv_aload_n hx hb dX5_init_154 rfl (lv_at hl 0 rfl) ?_
  refine lv_bipush (v := 40) hx hb dX5_init_155 (by decide) ?_
  refine mz_newa (D := D) (cl := vwCl) (ty := .boolean) (N := 40) hx hb (htz _ arr_Z) rfl rfl (hK.1.2 1 _ rfl).2 (by decide) (by decide) (by show 40 * 1 ≤ 536870912; exact Nat.le_of_ble_eq_true rfl) hz (by show _ + 1 ≤ 24; omega) (by show _ + 40 ≤ 620; omega) dX5_init_157 (fun H hm zz oo => ?_)
  have hS := mz_S_new hS hz zz oo
  have h0 := h0.kept (oo z9 (Nat.lt_add_of_pos_right (Nat.le_of_ble_eq_true rfl)))
  have h1 : nRs D z9 n k S cI cZ 22 H := h1.next (fun q hq => oo q hq) hm
  have hz : H.size = z9 + 22 := zz
  clear hm zz oo
  refine mz_putF (ci := 5) (C := RX5) (T := TX5) (N := 27) hx hb htz tin_X5 tyX5 tyX5_ok nmX5 hown hK.1 h0 rfl 23 (by decide) (htz _ fX5_71) rfl hnm rfl (ty := .array .boolean) (by decide +kernel) rfl rfl (Nat.le_of_ble_eq_true rfl) dX5_init_159 (fun H jj h0 zz oo => ?_)
  have hS := mz_S_put (j := jj) hS zz oo (by show z9 ≤ z9; omega)
  have h0 : va_at D vwCl (z9, .inr (5, [.int 0, .int 0, .int 0, .ref (z9 + 1), .ref (z9 + 2), .ref (z9 + 3), .ref (z9 + 4), .ref (z9 + 5), .ref (z9 + 6), .ref (z9 + 7), .ref (z9 + 8), .ref (z9 + 9), .ref (z9 + 10), .ref (z9 + 11), .ref (z9 + 12), .ref (z9 + 13), .ref (z9 + 14), .ref (z9 + 15), .ref (z9 + 16), .ref (z9 + 17), .ref (z9 + 18), .ref (z9 + 19), .ref (z9 + 20), .ref (z9 + 21), .null, .null, .null])) H := h0
  have h1 := h1.kept (fun q g _ => oo q (Nat.ne_of_gt g))
  have hz := zz.trans hz
  clear zz oo
  refine lv_aload_n hx hb dX5_init_162 rfl (lv_at hl 0 rfl) ?_
  refine lv_bipush (v := 40) hx hb dX5_init_163 (by decide) ?_
  refine mz_newa (D := D) (cl := vwCl) (ty := .int) (N := 40) hx hb (htz _ arr_I) rfl rfl (hK.1.2 0 _ rfl).2 (by decide) (by decide) (by show 40 * 4 ≤ 536870912; exact Nat.le_of_ble_eq_true rfl) hz (by show _ + 1 ≤ 24; omega) (by show _ + 40 ≤ 620; omega) dX5_init_165 (fun H hm zz oo => ?_)
  have hS := mz_S_new hS hz zz oo
  have h0 := h0.kept (oo z9 (Nat.lt_add_of_pos_right (Nat.le_of_ble_eq_true rfl)))
  have h1 : nRs D z9 n k S cI cZ 23 H := h1.next (fun q hq => oo q hq) hm
  have hz : H.size = z9 + 23 := zz
  clear hm zz oo
  refine mz_putF (ci := 5) (C := RX5) (T := TX5) (N := 27) hx hb htz tin_X5 tyX5 tyX5_ok nmX5 hown hK.1 h0 rfl 24 (by decide) (htz _ fX5_74) rfl hnm rfl (ty := .array .int) (by decide +kernel) rfl rfl (Nat.le_of_ble_eq_true rfl) dX5_init_167 (fun H jj h0 zz oo => ?_)
  have hS := mz_S_put (j := jj) hS zz oo (by show z9 ≤ z9; omega)
  have h0 : va_at D vwCl (z9, .inr (5, [.int 0, .int 0, .int 0, .ref (z9 + 1), .ref (z9 + 2), .ref (z9 + 3), .ref (z9 + 4), .ref (z9 + 5), .ref (z9 + 6), .ref (z9 + 7), .ref (z9 + 8), .ref (z9 + 9), .ref (z9 + 10), .ref (z9 + 11), .ref (z9 + 12), .ref (z9 + 13), .ref (z9 + 14), .ref (z9 + 15), .ref (z9 + 16), .ref (z9 + 17), .ref (z9 + 18), .ref (z9 + 19), .ref (z9 + 20), .ref (z9 + 21), .ref (z9 + 22), .null, .null])) H := h0
  have h1 := h1.kept (fun q g _ => oo q (Nat.ne_of_gt g))
  have hz := zz.trans hz
  clear zz oo
  refine lv_aload_n hx hb dX5_init_170 rfl (lv_at hl 0 rfl) ?_
  refine lv_bipush (v := 40) hx hb dX5_init_171 (by decide) ?_
  refine mz_newa (D := D) (cl := vwCl) (ty := .int) (N := 40) hx hb (htz _ arr_I) rfl rfl (hK.1.2 0 _ rfl).2 (by decide) (by decide) (by show 40 * 4 ≤ 536870912; exact Nat.le_of_ble_eq_true rfl) hz (by show _ + 1 ≤ 24; omega) (by show _ + 40 ≤ 620; omega) dX5_init_173 (fun H hm zz oo => ?_)
  have hS := mz_S_new hS hz zz oo
  have h0 := h0.kept (oo z9 (Nat.lt_add_of_pos_right (Nat.le_of_ble_eq_true rfl)))
  have h1 : nRs D z9 n k S cI cZ 24 H := h1.next (fun q hq => oo q hq) hm
  have hz : H.size = z9 + 24 := zz
  clear hm zz oo
  refine mz_putF (ci := 5) (C := RX5) (T := TX5) (N := 27) hx hb htz tin_X5 tyX5 tyX5_ok nmX5 hown hK.1 h0 rfl 25 (by decide) (htz _ fX5_77) rfl hnm rfl (ty := .array .int) (by decide +kernel) rfl rfl (Nat.le_of_ble_eq_true rfl) dX5_init_175 (fun H jj h0 zz oo => ?_)
  have hS := mz_S_put (j := jj) hS zz oo (by show z9 ≤ z9; omega)
  have h0 : va_at D vwCl (z9, .inr (5, [.int 0, .int 0, .int 0, .ref (z9 + 1), .ref (z9 + 2), .ref (z9 + 3), .ref (z9 + 4), .ref (z9 + 5), .ref (z9 + 6), .ref (z9 + 7), .ref (z9 + 8), .ref (z9 + 9), .ref (z9 + 10), .ref (z9 + 11), .ref (z9 + 12), .ref (z9 + 13), .ref (z9 + 14), .ref (z9 + 15), .ref (z9 + 16), .ref (z9 + 17), .ref (z9 + 18), .ref (z9 + 19), .ref (z9 + 20), .ref (z9 + 21), .ref (z9 + 22), .ref (z9 + 23), .null])) H := h0
  have h1 := h1.kept (fun q g _ => oo q (Nat.ne_of_gt g))
  have hz := zz.trans hz
  clear zz oo
  refine lv_aload_n hx hb dX5_init_178 rfl (lv_at hl 0 rfl) ?_
  refine lv_bipush (v := 40) hx hb dX5_init_179 (by decide) ?_
  refine mz_newa (D := D) (cl := vwCl) (ty := .int) (N := 40) hx hb (htz _ arr_I) rfl rfl (hK.1.2 0 _ rfl).2 (by decide) (by decide) (by show 40 * 4 ≤ 536870912; exact Nat.le_of_ble_eq_true rfl) hz (by show _ + 1 ≤ 24; omega) (by show _ + 40 ≤ 620; omega) dX5_init_181 (fun H hm zz oo => ?_)
  have hS := mz_S_new hS hz zz oo
  have h0 := h0.kept (oo z9 (Nat.lt_add_of_pos_right (Nat.le_of_ble_eq_true rfl)))
  have h1 : nRs D z9 n k S cI cZ 25 H := h1.next (fun q hq => oo q hq) hm
  have hz : H.size = z9 + 25 := zz
  clear hm zz oo
  refine mz_putF (ci := 5) (C := RX5) (T := TX5) (N := 27) hx hb htz tin_X5 tyX5 tyX5_ok nmX5 hown hK.1 h0 rfl 26 (by decide) (htz _ fX5_80) rfl hnm rfl (ty := .array .int) (by decide +kernel) rfl rfl (Nat.le_of_ble_eq_true rfl) dX5_init_183 (fun H jj h0 zz oo => ?_)
  have hS := mz_S_put (j := jj) hS zz oo (by show z9 ≤ z9; omega)
  have h0 : va_at D vwCl (z9, .inr (5, [.int 0, .int 0, .int 0, .ref (z9 + 1), .ref (z9 + 2), .ref (z9 + 3), .ref (z9 + 4), .ref (z9 + 5), .ref (z9 + 6), .ref (z9 + 7), .ref (z9 + 8), .ref (z9 + 9), .ref (z9 + 10), .ref (z9 + 11), .ref (z9 + 12), .ref (z9 + 13), .ref (z9 + 14), .ref (z9 + 15), .ref (z9 + 16), .ref (z9 + 17), .ref (z9 + 18), .ref (z9 + 19), .ref (z9 + 20), .ref (z9 + 21), .ref (z9 + 22), .ref (z9 + 23), .ref (z9 + 24)])) H := h0
  have h1 := h1.kept (fun q g _ => oo q (Nat.ne_of_gt g))
  have hz := zz.trans hz
  clear zz oo
  refine lv_aload_n hx hb dX5_init_186 rfl (lv_at hl 0 rfl) ?_
  refine lv_iload_n hx hb dX5_init_187 rfl (lv_at hl 1 rfl) ?_
  refine lv_iconst (v := 3) hx hb dX5_init_188 (by decide) ?_
  refine lv_iconst (v := 5) hx hb dX5_init_189 (by decide) ?_
  refine mz_SS (As := [.int _, .int _, .int _]) (rest := [.ref z9]) ⟨hx, hb, hml, hown, hts⟩ (ns_clamp l _ _ _) (tz_S htz mX5_clamp lX5_83 rfl rfl ⟨Nat.le_of_ble_eq_true rfl, Nat.le_of_ble_eq_true rfl⟩) hS rfl hl.1 rfl (Nat.le_of_ble_eq_true rfl) dX5_init_190 ⟨by show _ + 0 ≤ 24; omega, by show _ + 0 ≤ 620; omega⟩ (fun locs hS => ?_)
  rw [en]
  refine mz_putF (ci := 5) (C := RX5) (T := TX5) (N := 27) hx hb htz tin_X5 tyX5 tyX5_ok nmX5 hown hK.1 h0 rfl 0 (by decide) (htz _ fX5_87) rfl hnm rfl (ty := .int) (by decide +kernel) rfl rfl (Nat.le_of_ble_eq_true rfl) dX5_init_193 (fun H jj h0 zz oo => ?_)
  have hS := mz_S_put (j := jj) hS zz oo (by show z9 ≤ z9; omega)
  have h0 : va_at D vwCl (z9, .inr (5, [.int (nI n), .int 0, .int 0, .ref (z9 + 1), .ref (z9 + 2), .ref (z9 + 3), .ref (z9 + 4), .ref (z9 + 5), .ref (z9 + 6), .ref (z9 + 7), .ref (z9 + 8), .ref (z9 + 9), .ref (z9 + 10), .ref (z9 + 11), .ref (z9 + 12), .ref (z9 + 13), .ref (z9 + 14), .ref (z9 + 15), .ref (z9 + 16), .ref (z9 + 17), .ref (z9 + 18), .ref (z9 + 19), .ref (z9 + 20), .ref (z9 + 21), .ref (z9 + 22), .ref (z9 + 23), .ref (z9 + 24)])) H := h0
  have h1 := h1.kept (fun q g _ => oo q (Nat.ne_of_gt g))
  have hz := zz.trans hz
  clear zz oo
  refine lv_aload_n hx hb dX5_init_196 rfl (lv_at hl 0 rfl) ?_
  refine lv_iload_n hx hb dX5_init_197 rfl (lv_at hl 2 rfl) ?_
  refine lv_iconst (v := 1) hx hb dX5_init_198 (by decide) ?_
  refine lv_bipush (v := 12) hx hb dX5_init_199 (by decide) ?_
  refine mz_SS (As := [.int _, .int _, .int _]) (rest := [.ref z9]) ⟨hx, hb, hml, hown, hts⟩ (ns_clamp l _ _ _) (tz_S htz mX5_clamp lX5_83 rfl rfl ⟨Nat.le_of_ble_eq_true rfl, Nat.le_of_ble_eq_true rfl⟩) hS rfl hl.1 rfl (Nat.le_of_ble_eq_true rfl) dX5_init_201 ⟨by show _ + 0 ≤ 24; omega, by show _ + 0 ≤ 620; omega⟩ (fun locs hS => ?_)
  rw [ek]
  refine mz_putF (ci := 5) (C := RX5) (T := TX5) (N := 27) hx hb htz tin_X5 tyX5 tyX5_ok nmX5 hown hK.1 h0 rfl 1 (by decide) (htz _ fX5_91) rfl hnm rfl (ty := .int) (by decide +kernel) rfl rfl (Nat.le_of_ble_eq_true rfl) dX5_init_204 (fun H jj h0 zz oo => ?_)
  have hS := mz_S_put (j := jj) hS zz oo (by show z9 ≤ z9; omega)
  have h0 : va_at D vwCl (z9, .inr (5, [.int (nI n), .int (nI k), .int 0, .ref (z9 + 1), .ref (z9 + 2), .ref (z9 + 3), .ref (z9 + 4), .ref (z9 + 5), .ref (z9 + 6), .ref (z9 + 7), .ref (z9 + 8), .ref (z9 + 9), .ref (z9 + 10), .ref (z9 + 11), .ref (z9 + 12), .ref (z9 + 13), .ref (z9 + 14), .ref (z9 + 15), .ref (z9 + 16), .ref (z9 + 17), .ref (z9 + 18), .ref (z9 + 19), .ref (z9 + 20), .ref (z9 + 21), .ref (z9 + 22), .ref (z9 + 23), .ref (z9 + 24)])) H := h0
  have h1 := h1.kept (fun q g _ => oo q (Nat.ne_of_gt g))
  have hz := zz.trans hz
  clear zz oo
  refine lv_aload_n hx hb dX5_init_207 rfl (lv_at hl 0 rfl) ?_
  refine lv_iload_n hx hb dX5_init_208 rfl (lv_at hl 3 rfl) ?_
  refine lv_bipush (v := 8) hx hb dX5_init_209 (by decide) ?_
  refine lv_bipush (v := 40) hx hb dX5_init_211 (by decide) ?_
  refine mz_SS (As := [.int _, .int _, .int _]) (rest := [.ref z9]) ⟨hx, hb, hml, hown, hts⟩ (ns_clamp l _ _ _) (tz_S htz mX5_clamp lX5_83 rfl rfl ⟨Nat.le_of_ble_eq_true rfl, Nat.le_of_ble_eq_true rfl⟩) hS rfl hl.1 rfl (Nat.le_of_ble_eq_true rfl) dX5_init_213 ⟨by show _ + 0 ≤ 24; omega, by show _ + 0 ≤ 620; omega⟩ (fun locs hS => ?_)
  rw [es]
  refine mz_putF (ci := 5) (C := RX5) (T := TX5) (N := 27) hx hb htz tin_X5 tyX5 tyX5_ok nmX5 hown hK.1 h0 rfl 2 (by decide) (htz _ fX5_94) rfl hnm rfl (ty := .int) (by decide +kernel) rfl rfl (Nat.le_of_ble_eq_true rfl) dX5_init_216 (fun H jj h0 zz oo => ?_)
  have hS := mz_S_put (j := jj) hS zz oo (by show z9 ≤ z9; omega)
  have h0 : va_at D vwCl (z9, .inr (5, [.int (nI n), .int (nI k), .int (nI S), .ref (z9 + 1), .ref (z9 + 2), .ref (z9 + 3), .ref (z9 + 4), .ref (z9 + 5), .ref (z9 + 6), .ref (z9 + 7), .ref (z9 + 8), .ref (z9 + 9), .ref (z9 + 10), .ref (z9 + 11), .ref (z9 + 12), .ref (z9 + 13), .ref (z9 + 14), .ref (z9 + 15), .ref (z9 + 16), .ref (z9 + 17), .ref (z9 + 18), .ref (z9 + 19), .ref (z9 + 20), .ref (z9 + 21), .ref (z9 + 22), .ref (z9 + 23), .ref (z9 + 24)])) H := h0
  have h1 := h1.kept (fun q g _ => oo q (Nat.ne_of_gt g))
  have hz := zz.trans hz
  clear zz oo
  have hG : rG D (rL0 z9 n k S cI cZ) (rs_i 0) H := rG0 h0 h1
  have hok : rL_ok (rL0 z9 n k S cI cZ) := rL0_ok hn9 hk9 hs9
  refine lv_iconst (v := 0) hx hb dX5_init_219 (by decide) ?_
  refine lv_istore hx hb dX5_init_220 hl (by decide) rfl (fun ls hl => ?_)
  have hl : lv_has ls 5 [(4, .int (nI 0)), (0, .ref z9), (1, .int x9), (2, .int y9), (3, .int w9)] := hl
  refine mz_loop 5 (P := fun j ls H locs => lv_has ls 5 [(4, .int (nI j)), (0, .ref z9), (1, .int x9), (2, .int y9), (3, .int w9)] ∧ H.size = z9 + 25 ∧ rG D (rL0 z9 n k S cI cZ) (rs_i j) H ∧ va_S (fun x => z9 ≤ x) H0 H locs ∧ j ≤ 5) (fun _ _ _ _ h => h.2.2.2.2) ?_ 0 _ _ _ ⟨hl, hz, hG, hS, Nat.zero_le _⟩
  clear h0 h1 hG hS hz hl
  intro j ls H locs ⟨hl, hz, hG, hS, hj⟩ ih
  refine lv_iload hx hb dX5_init_222 (lv_at hl 0 rfl) ?_
  refine lv_iconst (v := 5) hx hb dX5_init_224 (by decide) ?_
  refine mz_icmp_ge hx hb dX5_init_225 (tgt := 250) rfl (fun q0 q1 => ?_) (fun q0 q1 => ?_)
  · rw [show (5 : Int32) = nI 5 from rfl, nI_leI (by omega) (by omega)] at q1
    have hjn : j = 5 := by omega
    rw [hjn] at hG
    exact mz_nret (Po := fun H => H.size = z9 + 25 ∧ rG D (rL0 z9 n k S cI cZ) (rs_i 5) H) hx hb hr hlk hH hS ⟨hz, hG⟩ (by omega) (by omega) dX5_init_250
  · rw [show (5 : Int32) = nI 5 from rfl, nI_ltI (by omega) (by omega)] at q0
    refine lv_aload_n hx hb dX5_init_228 rfl (lv_at hl 1 rfl) ?_
    refine va_get (ci := 5) (C := RX5) (T := TX5) (N := 27) hx hb htz tin_X5 hown hK.1 (hG.one (k := 0) (i := 0) (show 0 < 1 by decide)) 0 rfl rfl 3 (by decide) (htz _ fX5_7) (fun _ h => h) rfl dX5_init_229 ?_
    refine lv_iload hx hb dX5_init_232 (lv_at hl 0 rfl) ?_
    refine lv_iconst (v := 1) hx hb dX5_init_234 (by decide) ?_
    refine mz_zast hx hb hK.1 1 (hG 1 0 (show 0 < 1 by decide)) rfl (vp_in_nI q0 (by omega)) rfl dX5_init_235 (fun H jj he zz oo => ?_)
    rw [nI_clamp (by omega)] at he
    have hS := mz_S_put (j := jj) hS zz oo (by show z9 ≤ z9 + 1; omega)
    have hG : rG D (rL0 z9 n k S cI cZ) (mz_u (rs_i j) 1 0 j 1) H := by
      refine hG.set hok.2 (k := 1) (i := 0) (show 0 < 1 by decide) ?_ oo (fun k1 i1 h => rE_same (fun f => mz_uo h f))
      rw [show rE (rL0 z9 n k S cI cZ) (mz_u (rs_i j) 1 0 j 1) 1 0 = .inl (cZ, 5, .inl (upd (rs_i j 1 0) j 1)) from by
        have h9 : mz_u (rs_i j) 1 0 j 1 1 0 = upd (rs_i j 1 0) j 1 := by
          funext q; simp [mz_u, upd]
        simp [rE, h9, rL0]]
      exact he
    have hz := zz.trans hz
    clear he zz oo
    refine lv_aload_n hx hb dX5_init_236 rfl (lv_at hl 1 rfl) ?_
    refine va_get (ci := 5) (C := RX5) (T := TX5) (N := 27) hx hb htz tin_X5 hown hK.1 (hG.one (k := 0) (i := 0) (show 0 < 1 by decide)) 0 rfl rfl 6 (by decide) (htz _ fX5_20) (fun _ h => h) rfl dX5_init_237 ?_
    refine lv_iload hx hb dX5_init_240 (lv_at hl 0 rfl) ?_
    refine lv_iconst (v := (-1)) hx hb dX5_init_242 (by decide) ?_
    refine mz_iast hx hb hK.1 0 (hG 4 0 (show 0 < 1 by decide)) rfl (vp_in_nI q0 (by omega)) dX5_init_243 (fun H jj he zz oo => ?_)
    rw [nI_clamp (by omega)] at he
    have hS := mz_S_put (j := jj) hS zz oo (by show z9 ≤ z9 + 4; omega)
    have hG : rG D (rL0 z9 n k S cI cZ) (rs_i (j + 1)) H := by
      refine hG.set hok.2 (k := 4) (i := 0) (show 0 < 1 by decide) ?_ oo (fun k1 i1 h => rE_same (fun f => mz_uo h f))
      rw [show rE (rL0 z9 n k S cI cZ) (rs_i (j + 1)) 4 0 = .inl (cI, 5, .inl (upd (mz_u (rs_i j) 1 0 j 1 4 0) j (-1))) from by
        have h9 : rs_i (j + 1) 4 0 = upd (mz_u (rs_i j) 1 0 j 1 4 0) j (-1) := by
          funext q; simp [rs_i, mz_u, upd]
        simp [rE, h9, rL0]]
      exact he
    have hz := zz.trans hz
    clear he zz oo
    refine lv_iinc (k := 0) hx hb dX5_init_244 hl rfl (nI_1 j) (by decide) rfl (fun ls hl => ?_)
    have hl : lv_has ls 5 [(4, .int _), (0, .ref _), (1, .int _), (2, .int _), (3, .int _)] := hl
    refine lv_goto hx hb dX5_init_247 (tgt := 222) rfl ?_
    exact ih q0 _ _ _ ⟨hl, hz, hG, hS, by omega⟩
