theorem rs_i_o : ∀ (j k i f : Nat), k ≠ 1 → k ≠ 4 → rs_i j k i f = 0
  | 0, _, _, _, _, _ => rfl
  | j + 1, k, i, f, h1, h4 => by
    show mz_u (mz_u (rs_i j) 1 0 j 1) 4 0 j (-1) k i f = 0
    rw [mz_at, if_neg (fun z => h4 z.1), mz_at, if_neg (fun z => h1 z.1)]
    exact rs_i_o j k i f h1 h4
theorem rs_w_0 : ∀ S : Nat, rs_w (rs_i 5) S = 0
  | 0 => rfl
  | S + 1 => by
    unfold rs_w
    rw [rs_w_0 S, rs_i_o 5 15 0 S (by decide) (by decide)]
    rfl
theorem re0 {n cap S : Nat} (hn : n ≤ 5) : re n cap S 0 qu0 (rs_i 5) := by
  refine ⟨fun i hi => ?_, fun j hj => ?_, ?_, ?_⟩
  · refine ⟨⟨rfl, ?_, ?_, ?_, ?_, ?_⟩, ⟨?_, ?_, ?_, ?_⟩, ⟨0, 0, 0, rfl, rfl, rfl, Nat.le_refl _, Nat.le_refl _, Nat.zero_le _, Nat.le_refl _, fun j hj => absurd hj (by omega)⟩, fun h => ?_, fun h => ?_, fun _ => rfl⟩
    · rcases (show i = 0 ∨ i = 1 ∨ i = 2 ∨ i = 3 ∨ i = 4 by omega) with rfl | rfl | rfl | rfl | rfl <;> decide
    · exact rs_i_o 5 2 0 i (by decide) (by decide)
    · exact rs_i_o 5 3 0 i (by decide) (by decide)
    · rcases (show i = 0 ∨ i = 1 ∨ i = 2 ∨ i = 3 ∨ i = 4 by omega) with rfl | rfl | rfl | rfl | rfl <;> decide
    · exact rs_i_o 5 8 0 i (by decide) (by decide)
    · exact rs_i_o 5 5 0 i (by decide) (by decide)
    · exact rs_i_o 5 6 0 i (by decide) (by decide)
    · exact rs_i_o 5 7 0 i (by decide) (by decide)
    · exact rs_i_o 5 10 0 i (by decide) (by decide)
    · exact absurd (show (0 : Int32) = 1 from h) (by decide)
    · exact absurd (show (0 : Int32) = 2 from h) (by decide)
  · exact ⟨rs_i_o 5 15 0 j (by decide) (by decide), 0, Nat.zero_le _, rfl, fun z => absurd rfl z⟩
  · exact (rs_w_0 S).symm
  · exact fun j => Or.inl (rs_i_o 5 21 0 j (by decide) (by decide))
section MZL
variable {p : Program} {l : Launch} {e : Env} {R : Room} {s : State} {m : MethodId} {args : Array Value} {below : List Frame} {meth : Method} {c : Code} {H H0 : Heap} {locs : List Loc} {cells slots : Nat} {Q : State → Prop}
variable {cc : ByteArray} {pc : Nat} {ls : Array Slot} {rest st : List Value} {G : mz_S → Heap → Prop} {KK : State → Prop} {A A0 : Nat → Prop} {y : MethodName} {ws : List Cond} {rm : Room} {u u' : mz_S} {r : Int32}
variable {bytes : ByteArray} {maxL nL n index : Nat} {ret : Option FieldType} {Ts : List Cond} {own C : String} {b : Addr} {As : List Value}
/-- a call that keeps to its own world: the rest is kept -/
theorem mz_Vk (S : CallFix p m c cc nL s args Ts own) (hM : mz_Ci l G KK A y ws rm (.ref b :: As) u r u') (cw : CallW R s args own C index y bytes maxL ret ws rm 0 0 n) (hc : ∃ cell : Cell, H[b]? = some cell ∧ cell.vm.isStatics = false ∧ s.vm.findClass C = some cell.cls) (hMK : mz_K KK) (hK : KK s) (hG : G u H) (hS : va_S A0 H0 H locs) (hA : ∀ q, A q → A0 q) (hn : As.length = n) (hz : ls.size = nL) (hst : st = As.reverse ++ .ref b :: rest) (hR : (rest.map fun v => v.category).sum ≤ 8) (hdg : decode cc pc = .ok (.invokevirtual index, 3)) (hf : cells + 0 ≤ R.cells ∧ slots + 0 ≤ R.slots)
    (kk : ∀ (H1 : Heap) (locs1 : List Loc), G u' H1 → (∀ q : Nat, q < H.size → ¬ A q → H1[q]? = H[q]?) → va_S A0 H0 H1 locs1 → W p l e R s m args below meth c H1 locs1 cells slots Q (F0 m (pc + 3) ls (.int r :: rest))) : W p l e R s m args below meth c H locs cells slots Q (F0 m pc ls st) := by
  refine va_calli (va_runV (As := As) (rest := rest) S hM cw (mz_preV hMK hK hG hc) rfl hn hz hst (lv_room (rest := st) hR) hdg hf) hS (fun q _ h => hA q h) (fun q h => hA q h) (fun x v t H1 locs1 ht hvm hp hB hz hk hS1 => ?_)
  obtain ⟨rfl, rfl⟩ := hp
  exact kk H1 locs1 (by rw [← ht]; exact hB.1) hk hS1
theorem mz_at_lt {D : va_G} {cl : List vw_C} {q : Nat × va_E} (h : va_at D cl q H) : q.1 < H.size := by
  obtain ⟨a, x⟩ := q
  cases x with
  | inl o =>
    have h1 : H[a]? = some _ := h
    exact (Array.getElem?_eq_some_iff.mp h1).1
  | inr o =>
    obtain ⟨r, -, cell, h1, -⟩ := h
    exact (Array.getElem?_eq_some_iff.mp h1).1
theorem mz_other {D : va_G} {cl : List vw_C} {nb : Nat → Nat} {ad : Nat → Nat → Nat} {ce : Nat → Nat → va_E} {H1 : Heap} (h : mz_G D cl nb ad ce H) (hk : ∀ q : Nat, q < H.size → ¬ A q → H1[q]? = H[q]?) (hd : ∀ k i : Nat, i < nb k → ¬ A (ad k i)) : mz_G D cl nb ad ce H1 := h.kept (fun k i hi => hk _ (mz_at_lt (h k i hi)) (hd k i hi))
/-- an int of the script is read -/
theorem lw_ld {bb L i : Nat} {xs : Nat → Int32} {v : Int32} (hx : p.tables.exec = Jvm.exec) (hb : c.code = cc) (hX : va_X bb L xs s H0) (hbl : bb < H0.size) (hbA : ¬ A bb) (hS : va_S A H0 H locs) (hL : L ≤ 1539) (hv : v = nI i) (hi : i < L) (hdg : decode cc pc = .ok (.iaload, 1))
    (kk : W p l e R s m args below meth c H locs cells slots Q (F0 m (pc + 1) ls (.int (xs i) :: rest))) : W p l e R s m args below meth c H locs cells slots Q (F0 m pc ls (.int v :: .ref bb :: rest)) := by
  subst hv
  refine va_sld hx hb hX hbl hbA hS (vp_in_nI hi (by omega)) hdg ?_
  rw [nI_clamp (by omega)]
  exact kk
end MZL
def lw_c (L : Nat) (xs : Nat → Int32) (i : Nat) : Int32 := if i < L then xs i else 0
theorem ns_cell (l : Launch) (b L i : Nat) (xs : Nat → Int32) (hi : i < 3) (hL : L ≤ 1539) (H : Heap) : Met l yL_cell (tz_w yL_cell cL_cell 2 (some .int)) ({ frames := 0, cells := 0, slots := 0, locals := 0 } : Room) (va_Pc [.ref b, .int (nI i)] (fun U => va_X b L xs U U.heap ∧ U.heap = H)) (va_Qi (fun (x : Int32) (_ : Unit) => x = lw_c L xs i) (fun _ t => t.heap = H) (fun _ => False)) 0 0 (fun _ => False) := by
  refine Met.ofW (cc := cL_cell) (maxL := 2) (ret := some .int) (by decide) rfl ?_
  intro p e s m args below meth c s₁ B hml hv
  obtain ⟨rfl, hX, rfl⟩ := hv
  rw [lg_entry_eq]
  have hx := B.exec
  have hb := B.bytes
  have hr := B.returns
  have hlk := B.notSynchronized
  have hl : lv_has _ 2 [(0, .ref b), (1, .int (nI i))] := lv_entry (n := 2) [.ref b, .int (nI i)] (Nat.le_of_ble_eq_true rfl)
  have hbl : b < s.heap.size := by
    obtain ⟨scr, h1, -⟩ := hX
    exact (Array.getElem?_eq_some_iff.mp h1).1
  have hS : va_S (fun _ => False) s.heap s.heap [] := va_S.rf
  refine lv_iload_n hx hb dL_cell_0 rfl (lv_at hl 1 rfl) ?_
  refine lv_aload_n hx hb dL_cell_1 rfl (lv_at hl 0 rfl) ?_
  refine va_slen hx hb hX hbl (fun z => z) hS dL_cell_2 ?_
  refine mz_icmp_ge hx hb dL_cell_3 (tgt := 12) rfl (fun h0 h0' => ?_) (fun h0 h0' => ?_)
  · have h0' : nI L ≤ nI i := h0'
    rw [nI_leI (by omega) (by omega)] at h0'
    refine lv_iconst (v := 0) hx hb dL_cell_12 (by decide) ?_
    exact mz_sret hx hb hr hlk dL_cell_13 (by unfold lw_c; rw [if_neg (by omega)])
  · have h0 : nI i < nI L := h0
    rw [nI_ltI (by omega) (by omega)] at h0
    refine lv_aload_n hx hb dL_cell_6 rfl (lv_at hl 0 rfl) ?_
    refine lv_iload_n hx hb dL_cell_7 rfl (lv_at hl 1 rfl) ?_
    refine lw_ld hx hb hX hbl (fun z => z) hS hL rfl h0 dL_cell_8 ?_
    refine lv_goto hx hb dL_cell_9 (tgt := 13) rfl ?_
    exact mz_sret hx hb hr hlk dL_cell_13 (by unfold lw_c; rw [if_pos h0])
