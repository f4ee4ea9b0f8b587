def nNo (D : va_G) (cI cZ : ClassId) (z9 i n k : Nat) (H : Heap) : Prop := va_at D vwCl (z9, .inr (3, [.int (nI i), .int 1, .int 0, .int 0, .int (-1), .int 0, .ref (z9 + 1), .ref (z9 + 4), .ref (z9 + 5), .ref (z9 + 6)])) H ∧ va_at D vwCl (z9 + 1, .inr (0, [.int 0, .int 0, .int 0, .int 0, .ref (z9 + 2), .ref (z9 + 3)])) H ∧ va_at D vwCl (z9 + 2, .inl (cI, k, .inl (fun _ => 0))) H ∧ va_at D vwCl (z9 + 3, .inl (cI, k, .inl (fun _ => 0))) H ∧ va_at D vwCl (z9 + 4, .inl (cZ, n, .inl (fun _ => 0))) H ∧ va_at D vwCl (z9 + 5, .inl (cI, n, .inl (fun _ => 0))) H ∧ va_at D vwCl (z9 + 6, .inl (cI, n, .inl (fun _ => 0))) H
theorem nNo.kept {D : va_G} {cI cZ : ClassId} {z9 i n k : Nat} {H H1 : Heap} (h : nNo D cI cZ z9 i n k H) (oo : ∀ q : Nat, z9 ≤ q → q < z9 + 7 → H1[q]? = H[q]?) : nNo D cI cZ z9 i n k H1 := by
  obtain ⟨h0, h1, h2, h3, h4, h5, h6⟩ := h
  exact ⟨h0.kept (oo _ (by omega) (by omega)), h1.kept (oo _ (by omega) (by omega)), h2.kept (oo _ (by omega) (by omega)), h3.kept (oo _ (by omega) (by omega)), h4.kept (oo _ (by omega) (by omega)), h5.kept (oo _ (by omega) (by omega)), h6.kept (oo _ (by omega) (by omega))⟩
def qad (z n : Nat) (k i : Nat) : Nat := match k with
  | 0 => z
  | 1 => z + 1
  | 2 => z + 2 + 7 * i
  | 3 => z + 2 + 7 * i + 1
  | 4 => z + 2 + 7 * i + 2
  | 5 => z + 2 + 7 * i + 3
  | 6 => z + 2 + 7 * i + 4
  | 7 => z + 2 + 7 * i + 5
  | 8 => z + 2 + 7 * i + 6
  | 9 => z + 2 + 7 * n
  | 10 => z + 2 + 7 * n + 1
  | 11 => z + 2 + 7 * n + 2 + i
  | _ => 0
def qL0 (z n k S : Nat) (cI cZ cN cM : ClassId) : qL := (qad z n, (n, k, S), (cI, cZ, cN, cM))
def qu0 : mz_S := fun k i f => match k with
  | 2 => match f with
    | 0 => nI i
    | 1 => 1
    | 4 => -1
    | _ => 0
  | _ => 0
theorem qL0_in {z n k S : Nat} {cI cZ cN cM : ClassId} {a b : Nat} (h : b < qN (qL0 z n k S cI cZ cN cM) a) : (a = 0 ∧ b < 1 ∧ qad z n a b = z) ∨ (a = 1 ∧ b < 1 ∧ qad z n a b = z + 1) ∨ (2 ≤ a ∧ a ≤ 8 ∧ b < n ∧ qad z n a b = z + 2 + 7 * b + (a - 2)) ∨ (a = 9 ∧ b < 1 ∧ qad z n a b = z + 2 + 7 * n) ∨ (a = 10 ∧ b < 1 ∧ qad z n a b = z + 2 + 7 * n + 1) ∨ (a = 11 ∧ b < S + 2 ∧ qad z n a b = z + 2 + 7 * n + 2 + b) := by
  rcases (show a = 0 ∨ a = 1 ∨ a = 2 ∨ a = 3 ∨ a = 4 ∨ a = 5 ∨ a = 6 ∨ a = 7 ∨ a = 8 ∨ a = 9 ∨ a = 10 ∨ a = 11 ∨ 12 ≤ a by omega) with rfl | rfl | rfl | rfl | rfl | rfl | rfl | rfl | rfl | rfl | rfl | rfl | ha
  · exact Or.inl ⟨rfl, h, rfl⟩
  · exact Or.inr (Or.inl ⟨rfl, h, rfl⟩)
  · exact Or.inr (Or.inr (Or.inl ⟨by decide, by decide, h, rfl⟩))
  · exact Or.inr (Or.inr (Or.inl ⟨by decide, by decide, h, rfl⟩))
  · exact Or.inr (Or.inr (Or.inl ⟨by decide, by decide, h, rfl⟩))
  · exact Or.inr (Or.inr (Or.inl ⟨by decide, by decide, h, rfl⟩))
  · exact Or.inr (Or.inr (Or.inl ⟨by decide, by decide, h, rfl⟩))
  · exact Or.inr (Or.inr (Or.inl ⟨by decide, by decide, h, rfl⟩))
  · exact Or.inr (Or.inr (Or.inl ⟨by decide, by decide, h, rfl⟩))
  · exact Or.inr (Or.inr (Or.inr (Or.inl ⟨rfl, h, rfl⟩)))
  · exact Or.inr (Or.inr (Or.inr (Or.inr (Or.inl ⟨rfl, h, rfl⟩))))
  · exact Or.inr (Or.inr (Or.inr (Or.inr (Or.inr ⟨rfl, h, rfl⟩))))
  · obtain ⟨q, rfl⟩ : ∃ q, a = q + 12 := ⟨a - 12, by omega⟩
    exact absurd (show b < 0 from h) (by omega)
theorem qL0_ad {z n k S : Nat} {cI cZ cN cM : ClassId} {a b : Nat} (h : b < qN (qL0 z n k S cI cZ cN cM) a) : z ≤ qad z n a b ∧ qad z n a b < z + 6 + 7 * n + S := by
  rcases qL0_in h with g | g | g | g | g | g <;> omega
theorem qL0_ok {z n k S : Nat} {cI cZ cN cM : ClassId} (hn : 3 ≤ n ∧ n ≤ 5) (hk : 1 ≤ k ∧ k ≤ 12) (hS : 8 ≤ S ∧ S ≤ 40) : qL_ok (qL0 z n k S cI cZ cN cM) := by
  refine ⟨⟨hn.1, hn.2, hk.1, hk.2, hS.1, hS.2⟩, ?_⟩
  intro a b a' b' h h' e
  have e : qad z n a b = qad z n a' b' := e
  rcases qL0_in h with g | g | g | g | g | g <;> rcases qL0_in h' with g' | g' | g' | g' | g' | g' <;> omega
theorem qG0 {D : va_G} {cI cZ cN cM : ClassId} {z n k S : Nat} {H : Heap} (h0 : va_at D vwCl (z, .inr (4, [.ref (z + 1), .ref (z + 2 + 7 * n), .ref (z + 2 + 7 * n + 2 + S), .ref (z + 2 + 7 * n + 2 + S + 1)])) H) (h1 : va_at D vwCl (z + 1, .inl (cN, n, .inr (.inr (.inr (.inr (fun x => some (z + 2 + 7 * x))))))) H) (h2 : ∀ i, i < n → nNo D cI cZ (z + 2 + 7 * i) i n k H) (h3 : va_at D vwCl (z + 2 + 7 * n, .inr (2, [.ref (z + 2 + 7 * n + 1), .int 0])) H) (h4 : va_at D vwCl (z + 2 + 7 * n + 1, .inl (cM, S, .inr (.inr (.inr (.inr (fun x => some (z + 2 + 7 * n + 2 + x))))))) H) (h5 : ∀ i, i < S + 2 → va_at D vwCl (z + 2 + 7 * n + 2 + i, .inr (1, [.int 0, .int 0, .int 0, .int 0, .int 0, .int 0, .int 0, .int 0, .int 0, .int 0, .int 0, .int 0])) H) : qG D (qL0 z n k S cI cZ cN cM) qu0 H := by
  intro a i hi
  rcases (show a = 0 ∨ a = 1 ∨ a = 2 ∨ a = 3 ∨ a = 4 ∨ a = 5 ∨ a = 6 ∨ a = 7 ∨ a = 8 ∨ a = 9 ∨ a = 10 ∨ a = 11 ∨ 12 ≤ a by omega) with rfl | rfl | rfl | rfl | rfl | rfl | rfl | rfl | rfl | rfl | rfl | rfl | ha
  · exact h0
  · exact h1
  · rw [show qE (qL0 z n k S cI cZ cN cM) qu0 2 i = .inr (3, [.int (nI i), .int 1, .int 0, .int 0, .int (-1), .int 0, .ref (z + 2 + 7 * i + 1), .ref (z + 2 + 7 * i + 4), .ref (z + 2 + 7 * i + 5), .ref (z + 2 + 7 * i + 6)]) from by simp [qE, qf2, qu0, mz_b, qL0, qad]]
    exact (h2 i hi).1
  · rw [show qE (qL0 z n k S cI cZ cN cM) qu0 3 i = .inr (0, [.int 0, .int 0, .int 0, .int 0, .ref (z + 2 + 7 * i + 2), .ref (z + 2 + 7 * i + 3)]) from by simp [qE, qf3, qu0, qL0, qad]]
    exact (h2 i hi).2.1
  · exact (h2 i hi).2.2.1
  · exact (h2 i hi).2.2.2.1
  · exact (h2 i hi).2.2.2.2.1
  · exact (h2 i hi).2.2.2.2.2.1
  · exact (h2 i hi).2.2.2.2.2.2
  · rw [show qE (qL0 z n k S cI cZ cN cM) qu0 9 i = .inr (2, [.ref (z + 2 + 7 * n + 1), .int 0]) from by simp [qE, qf9, qu0, qL0, qad]]
    exact h3
  · exact h4
  · rw [show qE (qL0 z n k S cI cZ cN cM) qu0 11 i = .inr (1, [.int 0, .int 0, .int 0, .int 0, .int 0, .int 0, .int 0, .int 0, .int 0, .int 0, .int 0, .int 0]) from by simp [qE, qf11, qu0, qL0, qad, mz_b]]
    exact h5 i hi
  · obtain ⟨q, rfl⟩ : ∃ q, a = q + 12 := ⟨a - 12, by omega⟩
    exact absurd (show i < 0 from hi) (by omega)
set_option maxRecDepth 100000 in
set_option maxHeartbeats 4000000 in
theorem nc_Quorum (l : Launch) (D : va_G) (cI cZ cN cM : ClassId) (H0 : Heap) (z9 n k S : Nat) (x9 y9 w9 : Int32) (hn9 : 3 ≤ n ∧ n ≤ 5) (hk9 : 1 ≤ k ∧ k ≤ 12) (hs9 : 8 ≤ S ∧ S ≤ 40) (en : qs_within x9 3 5 = nI n) (ek : qs_within y9 1 12 = nI k) (es : qs_within w9 8 40 = nI S) (hz : H0.size = z9 + 1) (h0 : va_at D vwCl (z9, .inr (4, [.null, .null, .null, .null])) H0) : mz_Cn l yX4_init (tz_w yX4_init cX4_init 7 none) ({ frames := 3, cells := 80, slots := 826, locals := 64 } : Room) [.ref z9, .int x9, .int y9, .int w9] (nK D cI cZ cN cM) H0 z9 80 826 (fun H => H.size = z9 + 6 + 7 * n + S ∧ qG D (qL0 z9 n k S cI cZ cN cM) qu0 H) := by
  refine mz_Cn.of (cc := cX4_init) (maxL := 7) (ret := none) (by decide) rfl (Nat.le_of_ble_eq_true rfl) ?_
  intro p e s m args below meth c9 ls hx hb hr hlk hml hown hnm hts hl hH hK
  have hl : lv_has ls 7 [(0, .ref z9), (1, .int x9), (2, .int y9), (3, .int w9)] := hl
  have htz : ∀ w ∈ tz, w.before args s = true := fun w h => hts w (List.mem_cons_of_mem _ h)
  have hS : va_S (fun x => z9 ≤ x) H0 H0 [] := va_S.rf
  refine lv_aload_n hx hb dX4_init_0 rfl (lv_at hl 0 rfl) ?_
  refine W.objInit hx hb hown (htz _ lX4_1) (htz _ obj_inst) (htz _ obj_code) rfl (by rw [hml]; exact hl.1) rfl dX4_init_1 (Nat.le_of_ble_eq_true rfl) (Nat.le_of_ble_eq_true rfl) ?_
  refine W.eq (g2 := F0 m 4 ls []) rfl ?_
  refine lv_iload_n hx hb dX4_init_4 rfl (lv_at hl 1 rfl) ?_
  refine lv_iconst (v := 3) hx hb dX4_init_5 (by decide) ?_
  refine lv_iconst (v := 5) hx hb dX4_init_6 (by decide) ?_
  refine mz_SS (As := [.int _, .int _, .int _]) (rest := []) ⟨hx, hb, hml, hown, hts⟩ (ns_within l _ _ _) (tz_S htz mX4_within lX4_7 rfl rfl ⟨Nat.le_of_ble_eq_true rfl, Nat.le_of_ble_eq_true rfl⟩) hS rfl hl.1 rfl (Nat.le_of_ble_eq_true rfl) dX4_init_7 ⟨by show _ + 0 ≤ 80; omega, by show _ + 0 ≤ 826; omega⟩ (fun locs hS => ?_)
  rw [en]
  refine lv_istore hx hb dX4_init_10 hl (by decide) rfl (fun ls hl => ?_)
  have hl : lv_has ls 7 [(4, .int (nI n)), (0, .ref z9), (1, .int x9), (2, .int y9), (3, .int w9)] := hl
  refine lv_iload_n hx hb dX4_init_12 rfl (lv_at hl 3 rfl) ?_
  refine lv_iconst (v := 1) hx hb dX4_init_13 (by decide) ?_
  refine lv_bipush (v := 12) hx hb dX4_init_14 (by decide) ?_
  refine mz_SS (As := [.int _, .int _, .int _]) (rest := []) ⟨hx, hb, hml, hown, hts⟩ (ns_within l _ _ _) (tz_S htz mX4_within lX4_7 rfl rfl ⟨Nat.le_of_ble_eq_true rfl, Nat.le_of_ble_eq_true rfl⟩) hS rfl hl.1 rfl (Nat.le_of_ble_eq_true rfl) dX4_init_16 ⟨by show _ + 0 ≤ 80; omega, by show _ + 0 ≤ 826; omega⟩ (fun locs hS => ?_)
  rw [ek]
  refine lv_istore hx hb dX4_init_19 hl (by decide) rfl (fun ls hl => ?_)
  have hl : lv_has ls 7 [(5, .int (nI k)), (4, .int (nI n)), (0, .ref z9), (1, .int x9), (2, .int y9), (3, .int w9)] := hl
  refine lv_aload_n hx hb dX4_init_21 rfl (lv_at hl 2 rfl) ?_
  refine lv_iload hx hb dX4_init_22 (lv_at hl 1 rfl) ?_
  obtain ⟨kA, comp, g1, g2, g3, g4⟩ := (hK.1.2 2 _ rfl).2
  refine mz_newq (D := D) (cl := vwCl) hx hb hown (htz _ clX4_13) hK.2.2.1 g4 (nI_pos (by omega)) (nI_clamp (by omega)) (by omega) hz (by show _ + 1 ≤ 80; omega) (by show _ + n ≤ 826; omega) dX4_init_24 (fun H h1 zz oo => ?_)
  have hS := mz_S_new hS hz zz oo
  have h0 := h0.kept (oo z9 (by omega))
  have hz := zz
  refine mz_putF (ci := 4) (C := RX4) (T := TX4) (N := 4) hx hb htz tin_X4 tyX4 tyX4_ok nmX4 hown hK.1 h0 rfl 0 (by decide) (htz _ fX4_15) rfl hnm rfl (ty := .array (.object "QuorumLog$Node")) (by decide +kernel) rfl rfl (Nat.le_of_ble_eq_true rfl) dX4_init_27 (fun H jj h0 zz oo => ?_)
  have hS := mz_S_put (j := jj) hS zz oo (by show z9 ≤ z9; omega)
  have h0 : va_at D vwCl (z9, .inr (4, [.ref (z9 + 1), .null, .null, .null])) H := h0
  have h1 := h1.kept (oo (z9 + 1) (by omega))
  have hz := zz.trans hz
  refine lv_iconst (v := 0) hx hb dX4_init_30 (by decide) ?_
  refine lv_istore hx hb dX4_init_31 hl (by decide) rfl (fun ls hl => ?_)
  have hl : lv_has ls 7 [(6, .int (nI 0)), (5, .int (nI k)), (4, .int (nI n)), (0, .ref z9), (1, .int x9), (2, .int y9), (3, .int w9)] := hl
  refine mz_loopc n (C := fun j => 0 + 1 + 7 * j) (T := fun j => 0 + n + 55 * j) (P := fun j ls H locs => lv_has ls 7 [(6, .int (nI j)), (5, .int (nI k)), (4, .int (nI n)), (0, .ref z9), (1, .int x9), (2, .int y9), (3, .int w9)] ∧ H.size = z9 + 2 + 7 * j ∧ va_at D vwCl (z9, .inr (4, [.ref (z9 + 1), .null, .null, .null])) H ∧ va_at D vwCl (z9 + 1, .inl (cN, n, .inr (.inr (.inr (.inr (mz_fj (fun x => z9 + 2 + 7 * x) j)))))) H ∧ (∀ i, i < j → nNo D cI cZ (z9 + 2 + 7 * i) i n k H) ∧ va_S (fun x => z9 ≤ x) H0 H locs ∧ j ≤ n) (fun _ _ _ _ h => h.2.2.2.2.2.2) ?_ 0 _ _ _ ⟨hl, hz, h0, mz_atq h1 (fun x _ => mz_fj_0 _ x), (fun i hi => absurd hi (by omega)), hS, Nat.zero_le _⟩
  intro j ls H locs ⟨hl, hz, h0, h1, h2, hS, hj⟩ ih
  refine lv_iload hx hb dX4_init_33 (lv_at hl 0 rfl) ?_
  refine lv_iload hx hb dX4_init_35 (lv_at hl 2 rfl) ?_
  refine mz_icmp_ge hx hb dX4_init_37 (tgt := 66) rfl (fun q0 q1 => ?_) (fun q0 q1 => ?_)
  · rw [nI_leI (by omega) (by omega)] at q1
    have hjn : j = n := by omega
    rw [hjn] at h1 h2 hz
    have h1 := mz_atq h1 (g := fun x => some (z9 + 2 + 7 * x)) (fun x hx => mz_fj_n _ hx)
    refine lv_aload_n hx hb dX4_init_66 rfl (lv_at hl 3 rfl) ?_
    refine mz_new (ci := 2) (C := RX2) (T := TX2) (N := 2) hx hb htz tin_X2 tyX2 tyX2_ok hown (htz _ clX4_22) (htz _ ins_X2) (htz _ ini_X2) hK.1 rfl [.null, .int 0] (fun j hj => by rcases (show j = 0 ∨ j = 1 by omega) with rfl | rfl <;> rfl) hz (by show _ + 1 ≤ 80; omega) (by show _ + 2 ≤ 826; omega) dX4_init_67 (fun H h3 zz oo => ?_)
    have hS := mz_S_new hS hz zz oo
    have h2 : ∀ i, i < n → nNo D cI cZ (z9 + 2 + 7 * i) i n k H := fun i hi => (h2 i hi).kept (fun q _ _ => oo q (by omega))
    have h0 := h0.kept (oo z9 (by omega))
    have h1 := h1.kept (oo (z9 + 1) (by omega))
    have hz := zz
    refine lv_dup hx hb dX4_init_70 rfl ?_
    refine lv_iload_n hx hb dX4_init_71 rfl (lv_at hl 6 rfl) ?_
    refine lv_bipush (v := 8) hx hb dX4_init_72 (by decide) ?_
    refine lv_bipush (v := 40) hx hb dX4_init_74 (by decide) ?_
    refine mz_SS (As := [.int _, .int _, .int _]) (rest := [.ref (z9 + 2 + 7 * n), .ref (z9 + 2 + 7 * n), .ref z9]) ⟨hx, hb, hml, hown, hts⟩ (ns_within l _ _ _) (tz_S htz mX4_within lX4_7 rfl rfl ⟨Nat.le_of_ble_eq_true rfl, Nat.le_of_ble_eq_true rfl⟩) hS rfl hl.1 rfl (Nat.le_of_ble_eq_true rfl) dX4_init_76 ⟨by show _ + 0 ≤ 80; omega, by show _ + 0 ≤ 826; omega⟩ (fun locs hS => ?_)
    rw [es]
    refine mz_IN (As := [.int _]) (rest := [.ref (z9 + 2 + 7 * n), .ref z9]) ⟨hx, hb, hml, hown, hts⟩ (nc_Net l D cI cZ cN cM H (z9 + 2 + 7 * n) S hs9.2 hz h3) (tz_IN htz mX2_init rfl (hK.2.1 _ nX4_24) rfl rfl ⟨Nat.le_of_ble_eq_true rfl, Nat.le_of_ble_eq_true rfl⟩) nK_ok hK hS (fun q h => by show z9 ≤ q; omega) rfl hl.1 rfl (Nat.le_of_ble_eq_true rfl) dX4_init_79 ⟨by show _ + 41 ≤ 80; omega, by show _ + 520 ≤ 826; omega⟩ (fun H1 locs hP hsz oo hS => ?_)
    obtain ⟨zz, h3, h4, h5⟩ := hP
    have h0 := h0.kept (oo z9 (by omega) (by omega))
    have h1 := h1.kept (oo (z9 + 1) (by omega) (by omega))
    have h2 : ∀ i, i < n → nNo D cI cZ (z9 + 2 + 7 * i) i n k H1 := fun i hi => (h2 i hi).kept (fun q _ _ => oo q (by omega) (by omega))
    have hz : H1.size = z9 + 2 + 7 * n + 2 + S := zz
    clear zz hsz oo
    generalize H1 = H at *
    refine mz_putF (ci := 4) (C := RX4) (T := TX4) (N := 4) hx hb htz tin_X4 tyX4 tyX4_ok nmX4 hown hK.1 h0 rfl 1 (by decide) (htz _ fX4_27) rfl hnm rfl (ty := .object "QuorumLog$Net") (by decide +kernel) rfl rfl (Nat.le_of_ble_eq_true rfl) dX4_init_82 (fun H jj h0 zz oo => ?_)
    have hS := mz_S_put (j := jj) hS zz oo (by show z9 ≤ z9; omega)
    have h2 : ∀ i, i < n → nNo D cI cZ (z9 + 2 + 7 * i) i n k H := fun i hi => (h2 i hi).kept (fun q _ _ => oo q (by omega))
    have h5 : ∀ i, i < S → va_at D vwCl (z9 + 2 + 7 * n + 2 + i, .inr (1, [.int 0, .int 0, .int 0, .int 0, .int 0, .int 0, .int 0, .int 0, .int 0, .int 0, .int 0, .int 0])) H := fun i hi => (h5 i hi).kept (oo _ (by omega))
    have h0 : va_at D vwCl (z9, .inr (4, [.ref (z9 + 1), .ref (z9 + 2 + 7 * n), .null, .null])) H := h0
    have h1 := h1.kept (oo (z9 + 1) (by omega))
    have h3 := h3.kept (oo (z9 + 2 + 7 * n) (by omega))
    have h4 := h4.kept (oo (z9 + 2 + 7 * n + 1) (by omega))
    have hz := zz.trans hz
    refine lv_aload_n hx hb dX4_init_85 rfl (lv_at hl 3 rfl) ?_
    refine mz_new (ci := 1) (C := RX1) (T := TX1) (N := 12) hx hb htz tin_X1 tyX1 tyX1_ok hown (htz _ clX4_31) (htz _ ins_X1) (htz _ ini_X1) hK.1 rfl [.int 0, .int 0, .int 0, .int 0, .int 0, .int 0, .int 0, .int 0, .int 0, .int 0, .int 0, .int 0] (fun j hj => by rcases (show j = 0 ∨ j = 1 ∨ j = 2 ∨ j = 3 ∨ j = 4 ∨ j = 5 ∨ j = 6 ∨ j = 7 ∨ j = 8 ∨ j = 9 ∨ j = 10 ∨ j = 11 by omega) with rfl | rfl | rfl | rfl | rfl | rfl | rfl | rfl | rfl | rfl | rfl | rfl <;> rfl) hz (by show _ + 1 ≤ 80; omega) (by show _ + 12 ≤ 826; omega) dX4_init_86 (fun H h6 zz oo => ?_)
    have hS := mz_S_new hS hz zz oo
    have h2 : ∀ i, i < n → nNo D cI cZ (z9 + 2 + 7 * i) i n k H := fun i hi => (h2 i hi).kept (fun q _ _ => oo q (by omega))
    have h5 : ∀ i, i < S → va_at D vwCl (z9 + 2 + 7 * n + 2 + i, .inr (1, [.int 0, .int 0, .int 0, .int 0, .int 0, .int 0, .int 0, .int 0, .int 0, .int 0, .int 0, .int 0])) H := fun i hi => (h5 i hi).kept (oo _ (by omega))
    have h0 := h0.kept (oo z9 (by omega))
    have h1 := h1.kept (oo (z9 + 1) (by omega))
    have h3 := h3.kept (oo (z9 + 2 + 7 * n) (by omega))
    have h4 := h4.kept (oo (z9 + 2 + 7 * n + 1) (by omega))
    have hz := zz
    refine lv_dup hx hb dX4_init_89 rfl ?_
    refine mz_IN (As := []) (rest := [.ref (z9 + 2 + 7 * n + 2 + S), .ref z9]) ⟨hx, hb, hml, hown, hts⟩ (nc_Message l D cI cZ cN cM H (z9 + 2 + 7 * n + 2 + S)) (tz_IN htz mX1_init rfl (hK.2.1 _ nX4_33) rfl rfl ⟨Nat.le_of_ble_eq_true rfl, Nat.le_of_ble_eq_true rfl⟩) nK_ok hK hS (fun q h => by show z9 ≤ q; omega) rfl hl.1 rfl (Nat.le_of_ble_eq_true rfl) dX4_init_90 ⟨by show _ + 0 ≤ 80; omega, by show _ + 0 ≤ 826; omega⟩ (fun H1 locs hP hsz oo hS => ?_)
    have hP : H1 = H := hP
    rw [hP] at hS ⊢
    clear hP hsz oo
    refine mz_putF (ci := 4) (C := RX4) (T := TX4) (N := 4) hx hb htz tin_X4 tyX4 tyX4_ok nmX4 hown hK.1 h0 rfl 2 (by decide) (htz _ fX4_34) rfl hnm rfl (ty := .object "QuorumLog$Message") (by decide +kernel) rfl rfl (Nat.le_of_ble_eq_true rfl) dX4_init_93 (fun H jj h0 zz oo => ?_)
    have hS := mz_S_put (j := jj) hS zz oo (by show z9 ≤ z9; omega)
    have h2 : ∀ i, i < n → nNo D cI cZ (z9 + 2 + 7 * i) i n k H := fun i hi => (h2 i hi).kept (fun q _ _ => oo q (by omega))
    have h5 : ∀ i, i < S → va_at D vwCl (z9 + 2 + 7 * n + 2 + i, .inr (1, [.int 0, .int 0, .int 0, .int 0, .int 0, .int 0, .int 0, .int 0, .int 0, .int 0, .int 0, .int 0])) H := fun i hi => (h5 i hi).kept (oo _ (by omega))
    have h0 : va_at D vwCl (z9, .inr (4, [.ref (z9 + 1), .ref (z9 + 2 + 7 * n), .ref (z9 + 2 + 7 * n + 2 + S), .null])) H := h0
    have h1 := h1.kept (oo (z9 + 1) (by omega))
    have h3 := h3.kept (oo (z9 + 2 + 7 * n) (by omega))
    have h4 := h4.kept (oo (z9 + 2 + 7 * n + 1) (by omega))
    have h6 := h6.kept (oo (z9 + 2 + 7 * n + 2 + S) (by omega))
    have hz := zz.trans hz
    refine lv_aload_n hx hb dX4_init_96 rfl (lv_at hl 3 rfl) ?_
    refine mz_new (ci := 1) (C := RX1) (T := TX1) (N := 12) hx hb htz tin_X1 tyX1 tyX1_ok hown (htz _ clX4_31) (htz _ ins_X1) (htz _ ini_X1) hK.1 rfl [.int 0, .int 0, .int 0, .int 0, .int 0, .int 0, .int 0, .int 0, .int 0, .int 0, .int 0, .int 0] (fun j hj => by rcases (show j = 0 ∨ j = 1 ∨ j = 2 ∨ j = 3 ∨ j = 4 ∨ j = 5 ∨ j = 6 ∨ j = 7 ∨ j = 8 ∨ j = 9 ∨ j = 10 ∨ j = 11 by omega) with rfl | rfl | rfl | rfl | rfl | rfl | rfl | rfl | rfl | rfl | rfl | rfl <;> rfl) hz (by show _ + 1 ≤ 80; omega) (by show _ + 12 ≤ 826; omega) dX4_init_97 (fun H h7 zz oo => ?_)
    have hS := mz_S_new hS hz zz oo
    have h2 : ∀ i, i < n → nNo D cI cZ (z9 + 2 + 7 * i) i n k H := fun i hi => (h2 i hi).kept (fun q _ _ => oo q (by omega))
    have h5 : ∀ i, i < S → va_at D vwCl (z9 + 2 + 7 * n + 2 + i, .inr (1, [.int 0, .int 0, .int 0, .int 0, .int 0, .int 0, .int 0, .int 0, .int 0, .int 0, .int 0, .int 0])) H := fun i hi => (h5 i hi).kept (oo _ (by omega))
    have h0 := h0.kept (oo z9 (by omega))
    have h1 := h1.kept (oo (z9 + 1) (by omega))
    have h3 := h3.kept (oo (z9 + 2 + 7 * n) (by omega))
    have h4 := h4.kept (oo (z9 + 2 + 7 * n + 1) (by omega))
    have h6 := h6.kept (oo (z9 + 2 + 7 * n + 2 + S) (by omega))
    have hz := zz
    refine lv_dup hx hb dX4_init_100 rfl ?_
    refine mz_IN (As := []) (rest := [.ref (z9 + 2 + 7 * n + 2 + S + 1), .ref z9]) ⟨hx, hb, hml, hown, hts⟩ (nc_Message l D cI cZ cN cM H (z9 + 2 + 7 * n + 2 + S + 1)) (tz_IN htz mX1_init rfl (hK.2.1 _ nX4_33) rfl rfl ⟨Nat.le_of_ble_eq_true rfl, Nat.le_of_ble_eq_true rfl⟩) nK_ok hK hS (fun q h => by show z9 ≤ q; omega) rfl hl.1 rfl (Nat.le_of_ble_eq_true rfl) dX4_init_101 ⟨by show _ + 0 ≤ 80; omega, by show _ + 0 ≤ 826; omega⟩ (fun H1 locs hP hsz oo hS => ?_)
    have hP : H1 = H := hP
    rw [hP] at hS ⊢
    clear hP hsz oo
    refine mz_putF (ci := 4) (C := RX4) (T := TX4) (N := 4) hx hb htz tin_X4 tyX4 tyX4_ok nmX4 hown hK.1 h0 rfl 3 (by decide) (htz _ fX4_38) rfl hnm rfl (ty := .object "QuorumLog$Message") (by decide +kernel) rfl rfl (Nat.le_of_ble_eq_true rfl) dX4_init_104 (fun H jj h0 zz oo => ?_)
    have hS := mz_S_put (j := jj) hS zz oo (by show z9 ≤ z9; omega)
    have h2 : ∀ i, i < n → nNo D cI cZ (z9 + 2 + 7 * i) i n k H := fun i hi => (h2 i hi).kept (fun q _ _ => oo q (by omega))
    have h5 : ∀ i, i < S → va_at D vwCl (z9 + 2 + 7 * n + 2 + i, .inr (1, [.int 0, .int 0, .int 0, .int 0, .int 0, .int 0, .int 0, .int 0, .int 0, .int 0, .int 0, .int 0])) H := fun i hi => (h5 i hi).kept (oo _ (by omega))
    have h0 : va_at D vwCl (z9, .inr (4, [.ref (z9 + 1), .ref (z9 + 2 + 7 * n), .ref (z9 + 2 + 7 * n + 2 + S), .ref (z9 + 2 + 7 * n + 2 + S + 1)])) H := h0
    have h1 := h1.kept (oo (z9 + 1) (by omega))
    have h3 := h3.kept (oo (z9 + 2 + 7 * n) (by omega))
    have h4 := h4.kept (oo (z9 + 2 + 7 * n + 1) (by omega))
    have h6 := h6.kept (oo (z9 + 2 + 7 * n + 2 + S) (by omega))
    have h7 := h7.kept (oo (z9 + 2 + 7 * n + 2 + S + 1) (by omega))
    have hz := zz.trans hz
    refine mz_nret (Po := fun H => H.size = z9 + 6 + 7 * n + S ∧ qG D (qL0 z9 n k S cI cZ cN cM) qu0 H) hx hb hr hlk hH hS ?_ (by omega) (by omega) dX4_init_107
    refine ⟨by omega, qG0 h0 h1 h2 h3 h4 (fun i hi => ?_)⟩
    rcases (show i < S ∨ i = S ∨ i = S + 1 by omega) with g | g | g
    · exact h5 i g
    · rw [g]
      exact h6
    · rw [g]
      exact h7
  · rw [nI_ltI (by omega) (by omega)] at q0
    refine lv_aload_n hx hb dX4_init_40 rfl (lv_at hl 3 rfl) ?_
    refine va_get (ci := 4) (C := RX4) (T := TX4) (N := 4) hx hb htz tin_X4 hown hK.1 (mz_P1 h0) 0 rfl rfl 0 (by decide) (htz _ fX4_15) (fun _ h => h) rfl dX4_init_41 ?_
    refine lv_iload hx hb dX4_init_44 (lv_at hl 0 rfl) ?_
    refine mz_new (ci := 3) (C := RX3) (T := TX3) (N := 10) hx hb htz tin_X3 tyX3 tyX3_ok hown (htz _ clX4_13) (htz _ ins_X3) (htz _ ini_X3) hK.1 rfl [.int 0, .int 0, .int 0, .int 0, .int 0, .int 0, .null, .null, .null, .null] (fun j hj => by rcases (show j = 0 ∨ j = 1 ∨ j = 2 ∨ j = 3 ∨ j = 4 ∨ j = 5 ∨ j = 6 ∨ j = 7 ∨ j = 8 ∨ j = 9 by omega) with rfl | rfl | rfl | rfl | rfl | rfl | rfl | rfl | rfl | rfl <;> rfl) hz (by show _ + 1 ≤ 80; omega) (by show _ + 10 ≤ 826; omega) dX4_init_46 (fun H hm zz oo => ?_)
    have hS := mz_S_new hS hz zz oo
    have h2 : ∀ i, i < j → nNo D cI cZ (z9 + 2 + 7 * i) i n k H := fun i hi => (h2 i hi).kept (fun q _ _ => oo q (by omega))
    have h0 := h0.kept (oo z9 (by omega))
    have h1 := h1.kept (oo (z9 + 1) (by omega))
    have hz := zz
    refine lv_dup hx hb dX4_init_49 rfl ?_
    refine lv_iload hx hb dX4_init_50 (lv_at hl 0 rfl) ?_
    refine lv_iload hx hb dX4_init_52 (lv_at hl 2 rfl) ?_
    refine lv_iload hx hb dX4_init_54 (lv_at hl 1 rfl) ?_
    refine mz_IN (As := [.int _, .int _, .int _]) (rest := [.ref (z9 + 2 + 7 * j), .int (nI j), .ref (z9 + 1)]) ⟨hx, hb, hml, hown, hts⟩ (nc_Node l D cI cZ cN cM H (z9 + 2 + 7 * j) j n k hk9.2 hn9.2 hz hm) (tz_IN htz mX3_init rfl (hK.2.1 _ nX4_19) rfl rfl ⟨Nat.le_of_ble_eq_true rfl, Nat.le_of_ble_eq_true rfl⟩) nK_ok hK hS (fun q h => by show z9 ≤ q; omega) rfl hl.1 rfl (Nat.le_of_ble_eq_true rfl) dX4_init_56 ⟨by show _ + 6 ≤ 80; omega, by show _ + 45 ≤ 826; omega⟩ (fun H1 locs hP hsz oo hS => ?_)
    obtain ⟨zz, hP⟩ := hP
    have hm : nNo D cI cZ (z9 + 2 + 7 * j) j n k H1 := hP
    have h0 := h0.kept (oo z9 (by omega) (by omega))
    have h1 := h1.kept (oo (z9 + 1) (by omega) (by omega))
    have h2 : ∀ i, i < j → nNo D cI cZ (z9 + 2 + 7 * i) i n k H1 := fun i hi => (h2 i hi).kept (fun q _ _ => oo q (by omega) (by omega))
    have hz : H1.size = z9 + 2 + 7 * j + 7 := zz
    clear zz hsz oo hP
    generalize H1 = H at *
    refine mz_aast hx hb hK.1 2 3 h1 rfl hm.1 rfl (vp_in_nI q0 (by omega)) dX4_init_59 (fun H jj h1 zz oo => ?_)
    rw [nI_clamp (by omega)] at h1
    have hS := mz_S_put (j := jj) hS zz oo (by show z9 ≤ z9 + 1; omega)
    have h0 := h0.kept (oo z9 (by omega))
    have h2 : ∀ i, i < j + 1 → nNo D cI cZ (z9 + 2 + 7 * i) i n k H := fun i hi => by
      by_cases hij : i = j
      · rw [hij]
        exact hm.kept (fun q _ _ => oo q (by omega))
      · exact (h2 i (by omega)).kept (fun q _ _ => oo q (by omega))
    have hz := zz.trans hz
    refine lv_iinc (k := 0) hx hb dX4_init_60 hl rfl (nI_1 j) (by decide) rfl (fun ls hl => ?_)
    have hl : lv_has ls 7 [(6, .int _), (5, .int _), (4, .int _), (0, .ref _), (1, .int _), (2, .int _), (3, .int _)] := hl
    refine lv_goto hx hb dX4_init_63 (tgt := 33) rfl ?_
    exact mz_cs (by omega) (by omega) (ih q0 _ _ _ ⟨hl, by omega, h0, mz_atq h1 (fun x _ => mz_fj_s (fun x => z9 + 2 + 7 * x) j x), h2, hS, by omega⟩)
