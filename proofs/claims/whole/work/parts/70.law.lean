section LWC
variable {p : Program} {l : Launch} {e : Env} {R : Room} {s : State} {m : MethodId} {args : Array Value} {below : List Frame} {meth : Method} {c : Code} {H H0 : Heap} {locs : List Loc} {cells slots : Nat} {Q : State → Prop}
variable {cc : ByteArray} {pc : Nat} {ls : Array Slot} {rest st : List Value} {A : Nat → Prop} {y : MethodName} {ws : List Cond} {rm : Room} {r : Int32}
variable {bytes : ByteArray} {maxL nL n index i b L : Nat} {xs : Nat → Int32} {Ts : List Cond} {own : String}
theorem lw_SC (S : CallFix p m c cc nL s args Ts own) (hM : Met l y ws rm (va_Pc [.ref b, .int (nI i)] (fun U => va_X b L xs U U.heap ∧ U.heap = H)) (va_Qi (fun (x : Int32) (_ : Unit) => x = r) (fun _ t => t.heap = H) (fun _ => False)) 0 0 (fun _ => False)) (cw : CallB R s args own index y bytes maxL (some .int) ws rm 0 0 n ∧ (Cond.static y).before args s = true) (hX : va_X b L xs s H) (hS : va_S A H0 H locs) (hn : 2 = n) (hz : ls.size = nL) (hst : st = [.int (nI i), .ref b] ++ rest) (hR : (rest.map fun v => v.category).sum ≤ 8) (hdg : decode cc pc = .ok (.invokestatic index, 3)) (hf : cells + 0 ≤ R.cells ∧ slots + 0 ≤ R.slots)
    (kk : ∀ (locs1 : List Loc), va_S A H0 H locs1 → W p l e R s m args below meth c H locs1 cells slots Q (F0 m (pc + 3) ls (.int r :: rest))) : W p l e R s m args below meth c H locs cells slots Q (F0 m pc ls st) := by
  refine va_calli (va_runS (As := [.ref b, .int (nI i)]) (rest := rest) S hM cw ⟨fun a U g mk q => ⟨q.1, va_X.moved (u := U) (U := U.calling g mk a) (Vm.Alike.refl U.vm) q.2.1, q.2.2⟩, fun U hU hW => ⟨rfl, by rw [hU]; exact va_X.moved hW.alike hX, hU⟩⟩ rfl hn hz hst (lv_room (rest := st) hR) hdg hf) hS (fun q _ h => h.elim) (fun q h => h.elim) (fun x v t H1 locs1 ht hvm hp hB hz hk hS1 => ?_)
  have e : H1 = H := ht.symm.trans hB
  subst e
  subst hp
  exact kk locs1 hS1
end LWC
/-! THE CLAIM OUT OF ONE WALK OF THE LAW'S BODY. Your part is whole_start (and what it stands on); all else here is the same for every law, but numbers. -/
def R_law : String := "QuorumLogLaw"
def lw_P (b : Addr) (xs : List Int32) (args : Array Value) (s : State) : Prop := args = #[.ref b] ∧ s.IntsAt b xs ∧ xs.length ≤ 1539 ∧ (Jvm.Cond.and given_1 narrow_1).before args s = true
def lw_Q (_ : Array Value) (s : State) (o : Outcome) (t : State) : Prop := o = .returned (some (.int 1)) ∧ Framed s o t [] 600000 7302250
def lw_Z (below : List Frame) (a : Array Value) (s : State) : State → Prop := fun t => ∃ o, t.status = .running ∧ Ended t below o ∧ lw_Q a s o t
/-- the law's own end, with 1 on the stack, nothing written that was there before, its room as the claim has it -/
theorem lw_ret {p : Program} {l : Launch} {e : Env} {s : State} {m : MethodId} {below : List Frame} {meth : Method} {c : Code} {b : Nat} (hx : p.tables.exec = Jvm.exec) (hb : c.code = code) (hr : meth.sig.returnType = ret) (hlocks : meth.locks = false) {pc : Nat} {H : Heap} {ls : Array Slot} (hdg : decode code pc = .ok (.ireturn, 1)) : W p l e room_1 s m #[Value.ref b] below meth c H [] 600000 7302250 (lw_Z below #[Value.ref b] s) (F0 m pc ls [.int 1]) := by
  intro T hT X
  obtain ⟨fs, hret, hrun, hended, hW, hframe⟩ := X.leave (v := some (.int 1)) (hlocks := hlocks) (fun h => by rw [hr] at h; cases h)
  have hmeth' : T.vm.method? m = some meth := X.method'
  refine ⟨T.setFrames fs, ?_, .returned (some (.int 1)), hrun, hended, rfl, ⟨_, rfl⟩, hW, hframe⟩
  jvm_step X.here [X.here.top, hx, hb, hdg, hmeth', hr, ret, narrow_b1]
  (try refine ⟨rfl, ?_⟩); (try refine ⟨rfl, ?_⟩)
  first | (intro acts; rw [hret _ acts rfl rfl rfl]) | rw [hret _ _ rfl rfl rfl]
  exact Steps.refl _
/-- what holds at the law's entry: the machine, the code, the tables' words (any of lw_tbl by 'hts w (by decide +kernel)'), the script of L ints xs at the cell b, what the Statement gives of the start (any of its parts by flat_of_before) -/
def lw_At (p : Program) (s : State) (m : MethodId) (meth : Method) (c : Code) (b L : Nat) (xs : Nat → Int32) : Prop :=
  p.tables.exec = Jvm.exec ∧ c.code = code ∧ meth.sig.returnType = ret ∧ c.maxLocals = 4 ∧ s.vm.findClass R_law = some m.cls ∧ (∀ w ∈ lw_tbl, w.before #[Value.ref b] s = true) ∧ va_X b L xs s s.heap ∧ b < s.heap.size ∧ meth.locks = false ∧ (Jvm.Cond.and given_1 narrow_1).before #[Value.ref b] s = true
set_option maxRecDepth 100000 in
set_option maxHeartbeats 4000000 in
theorem whole_start {p : Program} {e : Env} {s : State} {m : MethodId} {below : List Frame} {meth : Method} {c : Code} (l : Launch) {b L : Nat} {xs : Nat → Int32} (hL : L ≤ 1539) (C0 : lw_At p s m meth c b L xs) : W p l e room_1 s m #[Value.ref b] below meth c s.heap [] 0 0 (lw_Z below #[Value.ref b] s) (entryFrame m ([Value.ref b] : List Value).toArray 4) := by
  obtain ⟨hx, hb, hr, hml, hown, hts, hX, hbl, hlk, -⟩ := C0
  have htz : ∀ w ∈ tz, w.before #[Value.ref b] s = true := fun w h => hts w (List.mem_filter.mp h).1
  obtain ⟨D, cI, cZ, cN, cM, hK⟩ := nK_of hts
  obtain ⟨n, n1, n2, en⟩ := ns_num (lw_c L xs 0) (a := 3) (b := 5) (by decide) (by decide)
  obtain ⟨k, k1, k2, ek⟩ := ns_num (lw_c L xs 1) (a := 1) (b := 12) (by decide) (by decide)
  obtain ⟨S, s1, s2, es⟩ := ns_num (lw_c L xs 2) (a := 8) (b := 40) (by decide) (by decide)
  have en : qs_within (lw_c L xs 0) 3 5 = nI n := en
  have ek : qs_within (lw_c L xs 1) 1 12 = nI k := ek
  have es : qs_within (lw_c L xs 2) 8 40 = nI S := es
  have hl := lv_entry ([.ref b]) (n := 4) (Nat.le_of_ble_eq_true rfl)
  rw [lg_entry_eq]
  generalize (lg_sl ([.ref b]) ++ List.replicate (4 - (lg_sl ([.ref b])).length) Slot.unset).toArray = ls at hl ⊢
  have hl : lv_has ls 4 [(0, .ref b)] := hl
  have hbA : ¬ (s.heap.size ≤ b) := by omega
  have hS : va_S (fun q => s.heap.size ≤ q) s.heap s.heap [] := va_S.rf
  obtain ⟨z, hz⟩ : ∃ z, s.heap.size = z := ⟨_, rfl⟩
  have hz0 : s.heap.size ≤ z := by omega
  refine mz_new (ci := 4) (C := RX4) (T := TX4) (N := 4) hx hb htz tin_X4 tyX4 tyX4_ok hown (htz _ clL_7) (htz _ ins_X4) (htz _ ini_X4) hK.1 rfl [.null, .null, .null, .null] (fun j hj => by rcases (show j = 0 ∨ j = 1 ∨ j = 2 ∨ j = 3 by omega) with rfl | rfl | rfl | rfl <;> rfl) hz (by show _ + 1 ≤ 600000; omega) (by show _ + 4 ≤ 7302250; omega) dL_law_0 (fun H h0 zz oo => ?_)
  have hS := mz_S_new hS hz zz oo
  clear oo
  refine lv_dup hx hb dL_law_3 rfl ?_
  refine lv_aload_n hx hb dL_law_4 rfl (lv_at hl 0 rfl) ?_
  refine lv_iconst (v := 0) hx hb dL_law_5 (by decide) ?_
  refine lw_SC (i := 0) (rest := [.ref z, .ref z]) ⟨hx, hb, hml, hown, htz⟩ (ns_cell l b L 0 xs (by decide) hL H) (tz_S htz mL_cell lL_9 rfl rfl ⟨Nat.le_of_ble_eq_true rfl, Nat.le_of_ble_eq_true rfl⟩) (hX.kept (hS.2.1 b hbl hbA)) hS rfl hl.1 rfl (Nat.le_of_ble_eq_true rfl) dL_law_6 ⟨by show _ + 0 ≤ 600000; omega, by show _ + 0 ≤ 7302250; omega⟩ (fun locs hS => ?_)
  refine lv_aload_n hx hb dL_law_9 rfl (lv_at hl 0 rfl) ?_
  refine lv_iconst (v := 1) hx hb dL_law_10 (by decide) ?_
  refine lw_SC (i := 1) (rest := [.int (lw_c L xs 0), .ref z, .ref z]) ⟨hx, hb, hml, hown, htz⟩ (ns_cell l b L 1 xs (by decide) hL H) (tz_S htz mL_cell lL_9 rfl rfl ⟨Nat.le_of_ble_eq_true rfl, Nat.le_of_ble_eq_true rfl⟩) (hX.kept (hS.2.1 b hbl hbA)) hS rfl hl.1 rfl (Nat.le_of_ble_eq_true rfl) dL_law_11 ⟨by show _ + 0 ≤ 600000; omega, by show _ + 0 ≤ 7302250; omega⟩ (fun locs hS => ?_)
  refine lv_aload_n hx hb dL_law_14 rfl (lv_at hl 0 rfl) ?_
  refine lv_iconst (v := 2) hx hb dL_law_15 (by decide) ?_
  refine lw_SC (i := 2) (rest := [.int (lw_c L xs 1), .int (lw_c L xs 0), .ref z, .ref z]) ⟨hx, hb, hml, hown, htz⟩ (ns_cell l b L 2 xs (by decide) hL H) (tz_S htz mL_cell lL_9 rfl rfl ⟨Nat.le_of_ble_eq_true rfl, Nat.le_of_ble_eq_true rfl⟩) (hX.kept (hS.2.1 b hbl hbA)) hS rfl hl.1 rfl (Nat.le_of_ble_eq_true rfl) dL_law_16 ⟨by show _ + 0 ≤ 600000; omega, by show _ + 0 ≤ 7302250; omega⟩ (fun locs hS => ?_)
  refine mz_II (As := [.int _, .int _, .int _]) (rest := [.ref z]) ⟨hx, hb, hml, hown, htz⟩ (nc_Quorum l D cI cZ cN cM H z n k S _ _ _ ⟨n1, n2⟩ ⟨k1, k2⟩ ⟨s1, s2⟩ en ek es zz h0) (tz_I htz mX4_init rfl lL_15 rfl rfl ⟨Nat.le_of_ble_eq_true rfl, Nat.le_of_ble_eq_true rfl⟩) nK_ok hK hS (fun q h => Nat.le_trans hz0 h) rfl hl.1 rfl (Nat.le_of_ble_eq_true rfl) dL_law_19 ⟨by show _ + 80 ≤ 600000; omega, by show _ + 826 ≤ 7302250; omega⟩ (fun H1 locs hP hsz oo hS => ?_)
  obtain ⟨hz9, hG⟩ := hP
  clear oo hsz h0 zz
  generalize H1 = H at *
  obtain ⟨z2, hz2⟩ : ∃ z2, z + 6 + 7 * n + S = z2 := ⟨_, rfl⟩
  rw [hz2] at hz9
  refine lv_astore_n hx hb dL_law_22 rfl hl (by decide) rfl (fun ls hl => ?_)
  have hl : lv_has ls 4 [(1, .ref z), (0, .ref b)] := hl
  refine mz_new (ci := 5) (C := RX5) (T := TX5) (N := 27) hx hb htz tin_X5 tyX5 tyX5_ok hown (htz _ clL_18) (htz _ ins_X5) (htz _ ini_X5) hK.1 rfl [.int 0, .int 0, .int 0, .null, .null, .null, .null, .null, .null, .null, .null, .null, .null, .null, .null, .null, .null, .null, .null, .null, .null, .null, .null, .null, .null, .null, .null] (fun j hj => by rcases (show j = 0 ∨ j = 1 ∨ j = 2 ∨ j = 3 ∨ j = 4 ∨ j = 5 ∨ j = 6 ∨ j = 7 ∨ j = 8 ∨ j = 9 ∨ j = 10 ∨ j = 11 ∨ j = 12 ∨ j = 13 ∨ j = 14 ∨ j = 15 ∨ j = 16 ∨ j = 17 ∨ j = 18 ∨ j = 19 ∨ j = 20 ∨ j = 21 ∨ j = 22 ∨ j = 23 ∨ j = 24 ∨ j = 25 ∨ j = 26 by omega) with rfl | rfl | rfl | rfl | rfl | rfl | rfl | rfl | rfl | rfl | rfl | rfl | rfl | rfl | rfl | rfl | rfl | rfl | rfl | rfl | rfl | rfl | rfl | rfl | rfl | rfl | rfl <;> rfl) hz9 (by show _ + 1 ≤ 600000; omega) (by show _ + 27 ≤ 7302250; omega) dL_law_23 (fun H h0 zz oo => ?_)
  have hS := mz_S_new hS hz9 zz oo
  have hG : qG D (qL0 z n k S cI cZ cN cM) qu0 H := mz_G.kept hG (fun a i hi => oo _ (by rw [← hz2]; exact (qL0_ad hi).2))
  clear oo
  refine lv_dup hx hb dL_law_26 rfl ?_
  refine lv_aload_n hx hb dL_law_27 rfl (lv_at hl 1 rfl) ?_
  refine lv_iconst (v := 0) hx hb dL_law_28 (by decide) ?_
  refine lw_SC (i := 0) (rest := [.ref z2, .ref z2]) ⟨hx, hb, hml, hown, htz⟩ (ns_cell l b L 0 xs (by decide) hL H) (tz_S htz mL_cell lL_9 rfl rfl ⟨Nat.le_of_ble_eq_true rfl, Nat.le_of_ble_eq_true rfl⟩) (hX.kept (hS.2.1 b hbl hbA)) hS rfl hl.1 rfl (Nat.le_of_ble_eq_true rfl) dL_law_29 ⟨by show _ + 0 ≤ 600000; omega, by show _ + 0 ≤ 7302250; omega⟩ (fun locs hS => ?_)
  refine lv_aload_n hx hb dL_law_32 rfl (lv_at hl 1 rfl) ?_
  refine lv_iconst (v := 1) hx hb dL_law_33 (by decide) ?_
  refine lw_SC (i := 1) (rest := [.int (lw_c L xs 0), .ref z2, .ref z2]) ⟨hx, hb, hml, hown, htz⟩ (ns_cell l b L 1 xs (by decide) hL H) (tz_S htz mL_cell lL_9 rfl rfl ⟨Nat.le_of_ble_eq_true rfl, Nat.le_of_ble_eq_true rfl⟩) (hX.kept (hS.2.1 b hbl hbA)) hS rfl hl.1 rfl (Nat.le_of_ble_eq_true rfl) dL_law_34 ⟨by show _ + 0 ≤ 600000; omega, by show _ + 0 ≤ 7302250; omega⟩ (fun locs hS => ?_)
  refine lv_aload_n hx hb dL_law_37 rfl (lv_at hl 1 rfl) ?_
  refine lv_iconst (v := 2) hx hb dL_law_38 (by decide) ?_
  refine lw_SC (i := 2) (rest := [.int (lw_c L xs 1), .int (lw_c L xs 0), .ref z2, .ref z2]) ⟨hx, hb, hml, hown, htz⟩ (ns_cell l b L 2 xs (by decide) hL H) (tz_S htz mL_cell lL_9 rfl rfl ⟨Nat.le_of_ble_eq_true rfl, Nat.le_of_ble_eq_true rfl⟩) (hX.kept (hS.2.1 b hbl hbA)) hS rfl hl.1 rfl (Nat.le_of_ble_eq_true rfl) dL_law_39 ⟨by show _ + 0 ≤ 600000; omega, by show _ + 0 ≤ 7302250; omega⟩ (fun locs hS => ?_)
  refine mz_II (As := [.int _, .int _, .int _]) (rest := [.ref z2]) ⟨hx, hb, hml, hown, htz⟩ (nc_Model l D cI cZ cN cM H z2 n k S _ _ _ ⟨n1, n2⟩ ⟨k1, k2⟩ ⟨s1, s2⟩ ((ns_same (by decide)).trans en) ((ns_same (by decide)).trans ek) ((ns_same (by decide)).trans es) zz h0) (tz_I htz mX5_init rfl lL_20 rfl rfl ⟨Nat.le_of_ble_eq_true rfl, Nat.le_of_ble_eq_true rfl⟩) nK_ok hK hS (fun q h => by show s.heap.size ≤ q; omega) rfl hl.1 rfl (Nat.le_of_ble_eq_true rfl) dL_law_42 ⟨by show _ + 24 ≤ 600000; omega, by show _ + 620 ≤ 7302250; omega⟩ (fun H1 locs hP hsz oo hS => ?_)
  obtain ⟨-, hR⟩ := hP
  have hG : qG D (qL0 z n k S cI cZ cN cM) qu0 H1 := mz_G.kept hG (fun a i hi => by
    have g : qad z n a i < z2 := by rw [← hz2]; exact (qL0_ad hi).2
    exact oo _ (by show qad z n a i < H.size; omega) g)
  clear oo hsz h0 zz
  refine lv_astore_n hx hb dL_law_45 rfl hl (by decide) rfl (fun ls hl => ?_)
  have hl : lv_has ls 4 [(2, .ref z2), (1, .ref z), (0, .ref b)] := hl
  refine lv_iconst (v := 3) hx hb dL_law_46 (by decide) ?_
  refine lv_istore_n hx hb dL_law_47 rfl hl (by decide) rfl (fun ls hl => ?_)
  have hl : lv_has ls 4 [(3, .int (nI (3 + 3 * 0))), (2, .ref z2), (1, .ref z), (0, .ref b)] := hl
  refine lw_loop (D := D) (cI := cI) (cZ := cZ) (cN := cN) (cM := cM) (z := z) (z2 := z2) (n := n) (k := k) (S := S) ⟨hx, hb, hml, hown, htz, hX, hbl, hL, hK, ⟨n1, n2⟩, ⟨k1, k2⟩, ⟨s1, s2⟩, hz0, by omega⟩ ⟨by omega, by omega⟩ (fun ls H locs hS => ?_) 0 _ _ _ ⟨hl, ⟨qu0, rs_i 5, hG, hR, re0 n2, hS⟩, Nat.zero_le _⟩
  refine lv_iconst (v := 1) hx hb dL_law_689 (by decide) ?_
  refine va_forget (fun q hq => hS.2.2 q hq) ?_
  refine W.widen (k := 600000) (n := 7302250) (by omega) (by omega) ?_
  exact lw_ret hx hb hr hlk dL_law_690
set_option maxHeartbeats 4000000 in
theorem lw_walk (l : Launch) (b : Addr) (xs : List Int32) : MetFree l x (headSpec (Jvm.Cond.code x code maxLocals ret :: tables_1) room_1) (lw_P b xs) (fun _ _ _ _ _ => True) lw_Q := by
  refine MetFree.of_bodyS (code := code) (maxLocals := maxLocals) (ret := ret) (by decide) ?_ ?_
  · intro args s m h hn
    obtain ⟨meth, c, h1, h2, h3, h4, h5, h6, -, -⟩ := Cond.code_spec hn (atoms_spec (ws := Jvm.Cond.code x code maxLocals ret :: tables_1) h _ List.mem_cons_self)
    exact ⟨meth, c, h1, h2, h3, h4, h5, h6⟩
  · intro p e s m args below meth c s₁ B hml0 hP _
    obtain ⟨rfl, hx, hbd, hgv⟩ := hP
    obtain ⟨scr, harrAt, hlist, hof, hsmall⟩ := hx
    obtain ⟨hcb, hkn, -, -⟩ := State.arrayAt?_spec harrAt
    have hown : s.vm.findClass R_law = some m.cls := findClass_of_methodNamed B.named
    have hts0 : ∀ c ∈ (Jvm.Cond.code x code maxLocals ret :: tables_1), c.before #[Value.ref b] s = true := atoms_spec (ws := Jvm.Cond.code x code maxLocals ret :: tables_1) B.pre
    have hts : ∀ w ∈ lw_tbl, w.before #[Value.ref b] s = true := k2_hts_sels lw_privs (fun w hw => hts0 w (List.mem_cons_of_mem _ hw)) lw_privs_ok
    have hml : c.maxLocals = 4 := B.maxLocals_eq (hts0 _ List.mem_cons_self)
    have X₀ : Stand p l e room_1 s m #[Value.ref b] below meth c s₁ [] 0 0 := Stand.of_body B
    have hh0 : s₁.heap = s.heap := by rw [B.state]; rfl
    have hsz : scr.slots.size = xs.length := by rw [← Array.length_toList, hlist, List.length_map]
    have hval : ∀ j : Nat, j < xs.length → scr.slots[j]? = some (.int (xs.getD j 0)) := fun j hj => by
      rw [← Array.getElem?_toList, hlist]
      simp [hj]
    have hbl : b < s.heap.size := (Array.getElem?_eq_some_iff.mp hcb).1
    have hX : va_X b xs.length (fun j => xs.getD j 0) s s.heap := ⟨scr, hcb, hof, hkn, hsz, hval⟩
    have K : W p l e room_1 s m #[Value.ref b] below meth c s₁.heap [] 0 0 (lw_Z below #[Value.ref b] s) (entryFrame m ([Value.ref b] : List Value).toArray 4) := by
      rw [hh0]
      exact whole_start l hbd ⟨B.exec, B.bytes, B.returns, hml, hown, hts, hX, hbl, B.notSynchronized, hgv⟩
    obtain ⟨t, a1, o, b1, b2, b3⟩ := K s₁ rfl X₀
    exact ⟨t, o, a1, b1, b2, b3⟩
theorem lw_pre_spec {args : Array Value} {s : State} (h : (Jvm.Cond.and given_1 narrow_1).before args s = true) (hr : rest_1_c.before args s = true) : ∃ (b : Addr) (xs : List Int32), lw_P b xs args s := by
  have hs := flat_of_before _ h
  have hq := flat_of_before _ hr
  have hc : (Cond.count 1).before args s = true := hs _ (by decide +kernel)
  have harr : (Cond.arrayOf (.arg 0) .int).before args s = true := hs _ (by decide +kernel)
  have hle : (Cond.le (.length (.arg 0)) (.int 1539)).before args s = true := hs _ (by decide +kernel)
  have hlen : (Cond.isInt (.length (.arg 0))).before args s = true := hq _ (by decide +kernel)
  have hall : (Cond.all (.arg 0) (.isInt (.elem (.arg 0) (.index 0)))).before args s = true := hq _ (by decide +kernel)
  obtain ⟨b, xs, hb, hx⟩ := State.ints_of_pre rfl harr hlen hall
  have hsm : xs.length < 2 ^ 31 := hx.choose_spec.2.2.2
  have hev : (Term.length (.arg 0)).eval args s none [] s = some (.int xs.length.toInt32) := hx.length_eval hb
  have hv := Cond.le_ints hev (show (Term.int 1539).eval args s none [] s = some (.int 1539) from rfl)
  have hd : xs.length.toInt32 ≤ 1539 := by
    simpa [Cond.before, Cond.holds, hv] using hle
  have hN : xs.length ≤ 1539 := (Int32.ofNat_le_ofNat hsm (by decide)).mp (show Int32.ofNat xs.length ≤ Int32.ofNat 1539 from hd)
  exact ⟨b, xs, Cond.one_arg hc (show args[0]? = some (.ref b) from hb), hx, hN, h⟩
theorem lw_comes (l : Launch) : Comes l x (Jvm.Cond.code x code maxLocals ret :: tables_1) room_1 (fun tb e args s => Calls_1 tb e args s ∧ rest_1 tb e args s ∧ Pre_1 tb e args s)
    (fun _ _ args s o t => lw_Q args s o t) := by
  intro p e ha hc hk s m args below hf hfit hheap happ hpre
  obtain ⟨b, xs, hP⟩ := lw_pre_spec hpre.2.2 hpre.2.1
  obtain ⟨k, o, h1, h2, h3, hQ⟩ := lw_walk l b xs p e ha hc hk s m args below hf ((Spec.applies_iff_loose hf).mp happ).1 hP trivial
  exact ⟨k, o, h1, h2, h3, hQ⟩
theorem lw_frame {s t : State} {o : Outcome} {args : Array Value} (h : Framed s o t [] 600000 7302250) :
    Framed s o t (fieldLocs frame_1_writes args s ++ arrayLocs frame_1_arrays args s ++ staticLocs frame_1_statics s) 600000 7302250 := h
theorem lw_limb (L : Cond) (hL : ∀ (args : Array Value) (s t : State), L.after args s (.returned (some (.int 1))) t = true) :
    ArmFor flags0 classFile x code maxLocals ret World_1 tables_1 room_1 Calls_1 rest_1 Pre_1
      (fun tb e a s o t => postC L tb e a s o t ∧ Framed s o t (fieldLocs frame_1_writes a s ++ arrayLocs frame_1_arrays a s ++ staticLocs frame_1_statics s) 600000 7302250) := by
  intro l _ _ _ p e ha hc hk s m args below hf hfit hheap happ hpre
  obtain ⟨k, o, h1, h2, h3, rfl, hF⟩ := lw_comes l p e ha hc hk s m args below hf hfit hheap happ hpre
  exact ⟨k, _, h1, h2, h3, hL args s _, lw_frame hF⟩
theorem i_vc : Claimed_1_1 ∧ Claimed_1_2 := ⟨lw_limb limb_1_1 (fun args s t => by simp [limb_1_1, Cond.after, Cond.holds, Cond.value]), lw_limb limb_1_2 (fun args s t => Cond.after_iff.mpr (by
  first | (rw [show limb_1_2 = Cond.eq .result (.int 1) from rfl, Cond.eq_ints (x := 1) (y := 1) rfl rfl]; simp; done) | (simp [limb_1_2, Cond.value, Term.eval]; done)))⟩
