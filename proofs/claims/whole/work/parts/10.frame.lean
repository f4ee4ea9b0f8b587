/-! The frame of all later parts: a state is a function of kind, number and place; a world is a cell for each kind and number. -/
abbrev mz_S : Type := Nat → Nat → Nat → Int32
def mz_u (u : mz_S) (k i f : Nat) (v : Int32) : mz_S := fun k' i' f' => if k' = k ∧ i' = i ∧ f' = f then v else u k' i' f'
theorem mz_at (u : mz_S) (k i f : Nat) (v : Int32) (k' i' f' : Nat) : mz_u u k i f v k' i' f' = if k' = k ∧ i' = i ∧ f' = f then v else u k' i' f' := rfl
theorem mz_us (u : mz_S) (k i f : Nat) (v : Int32) : mz_u u k i f v k i f = v := by simp [mz_u]
theorem mz_uk {u : mz_S} {k i f : Nat} {v : Int32} {k' i' f' : Nat} (h : k' ≠ k) : mz_u u k i f v k' i' f' = u k' i' f' := by simp [mz_u, h]
theorem mz_ui {u : mz_S} {k i f : Nat} {v : Int32} {k' i' f' : Nat} (h : i' ≠ i) : mz_u u k i f v k' i' f' = u k' i' f' := by simp [mz_u, h]
theorem mz_uf {u : mz_S} {k i f : Nat} {v : Int32} {k' i' f' : Nat} (h : f' ≠ f) : mz_u u k i f v k' i' f' = u k' i' f' := by simp [mz_u, h]
theorem mz_uo {u : mz_S} {k i f : Nat} {v : Int32} {k' i' : Nat} (h : ¬ (k' = k ∧ i' = i)) (f' : Nat) : mz_u u k i f v k' i' f' = u k' i' f' := by
  unfold mz_u
  rw [if_neg (fun z => h ⟨z.1, z.2.1⟩)]
/-- a truth as a number -/
def mz_b (c : Prop) [Decidable c] : Int32 := if c then 1 else 0
theorem mz_b_t {c : Prop} [Decidable c] (h : c) : mz_b c = 1 := if_pos h
theorem mz_b_f {c : Prop} [Decidable c] (h : ¬ c) : mz_b c = 0 := if_neg h
theorem mz_b_0 {c : Prop} [Decidable c] : mz_b c = 0 ↔ ¬ c := by
  unfold mz_b
  split <;> simp_all
theorem mz_b_n {c : Prop} [Decidable c] : mz_b c ≠ 0 ↔ c := by
  unfold mz_b
  split <;> simp_all
theorem mz_bb {c : Prop} [Decidable c] : mz_b (mz_b c ≠ 0) = mz_b c := by
  unfold mz_b
  split <;> split <;> simp_all
theorem mz_b_nar {c : Prop} [Decidable c] : narrow .boolean (.int (mz_b c)) = .int (mz_b c) := by
  unfold mz_b
  split <;> rfl
theorem mz_b_fit {c : Prop} [Decidable c] : fits .boolean (.int (mz_b c)) = true := by
  unfold mz_b
  split <;> rfl
theorem mz_b_iff {c d : Prop} [Decidable c] [Decidable d] (h : c ↔ d) : mz_b c = mz_b d := by
  unfold mz_b
  by_cases hc : c
  · rw [if_pos hc, if_pos (h.mp hc)]
  · rw [if_neg hc, if_neg (fun z => hc (h.mpr z))]
/-- a cell of the world for each kind k and number i below nb k, at the address ad k i -/
def mz_G (D : va_G) (cl : List vw_C) (nb : Nat → Nat) (ad : Nat → Nat → Nat) (ce : Nat → Nat → va_E) (H : Heap) : Prop := ∀ k i : Nat, i < nb k → va_at D cl (ad k i, ce k i) H
def mz_I (nb : Nat → Nat) (ad : Nat → Nat → Nat) : Prop := ∀ k i k' i' : Nat, i < nb k → i' < nb k' → ad k i = ad k' i' → k = k' ∧ i = i'
def mz_A (nb : Nat → Nat) (ad : Nat → Nat → Nat) : Nat → Prop := fun q => ∃ k i : Nat, i < nb k ∧ q = ad k i
theorem mz_A.in {nb : Nat → Nat} {ad : Nat → Nat → Nat} {k i : Nat} (h : i < nb k) : mz_A nb ad (ad k i) := ⟨k, i, h, rfl⟩
theorem mz_G.one {D : va_G} {cl : List vw_C} {nb : Nat → Nat} {ad : Nat → Nat → Nat} {ce : Nat → Nat → va_E} {H : Heap} (h : mz_G D cl nb ad ce H) {k i : Nat} (hi : i < nb k) : va_P D cl [(ad k i, ce k i)] H := by
  intro j q hj
  cases j with
  | zero =>
    rw [List.getElem?_cons_zero] at hj
    cases hj
    exact h k i hi
  | succ j =>
    rw [List.getElem?_cons_succ] at hj
    simp at hj
theorem mz_G.set {D : va_G} {cl : List vw_C} {nb : Nat → Nat} {ad : Nat → Nat → Nat} {ce ce' : Nat → Nat → va_E} {H H1 : Heap} {k i : Nat} (h : mz_G D cl nb ad ce H) (hI : mz_I nb ad) (hi : i < nb k) (he : va_at D cl (ad k i, ce' k i) H1) (oq : ∀ q : Nat, q ≠ ad k i → H1[q]? = H[q]?) (ho : ∀ k' i' : Nat, ¬ (k' = k ∧ i' = i) → ce' k' i' = ce k' i') : mz_G D cl nb ad ce' H1 := by
  intro k' i' hi'
  by_cases e : k' = k ∧ i' = i
  · obtain ⟨rfl, rfl⟩ := e
    exact he
  · rw [ho k' i' e]
    exact (h k' i' hi').kept (oq _ (fun z => e (hI k' i' k i hi' hi z)))
theorem mz_G.kept {D : va_G} {cl : List vw_C} {nb : Nat → Nat} {ad : Nat → Nat → Nat} {ce : Nat → Nat → va_E} {H H1 : Heap} (h : mz_G D cl nb ad ce H) (hk : ∀ k i : Nat, i < nb k → H1[ad k i]? = H[ad k i]?) : mz_G D cl nb ad ce H1 := fun k i hi => (h k i hi).kept (hk k i hi)
section MZW
variable {p : Program} {l : Launch} {e : Env} {R : Room} {s : State} {m : MethodId} {args : Array Value} {below : List Frame} {meth : Method} {c : Code} {H : Heap} {locs : List Loc} {cells slots : Nat} {Q : State → Prop}
variable {cc : ByteArray} {pc : Nat} {ls : Array Slot} {rest : List Value} {D : va_G} {cl : List vw_C} {a : Nat} {tys : List (ClassId × FieldType)}
/-- a field of one's own class is written: this cell has it, all others are as they were -/
theorem mz_put (hexec : p.tables.exec = Jvm.exec) (hb : c.code = cc) {own C : String} {T : u_T} {N ci index : Nat} {Ts : List Cond} (hts : ∀ w ∈ Ts, w.before args s = true) (hin : ∀ w ∈ u_ws C T N, w ∈ Ts) (ty0 : Nat → FieldType) (hty : ∀ k, k < N → parseFieldDescriptor (T k).2.2.1 = some (ty0 k)) (hnm : ∀ a, a < N → ∀ b, b < N → a ≠ b → (T a).2.1 ≠ (T b).2.1) (hown : s.vm.findClass own = some m.cls) (hK : va_K D cl tys s) {fs : List Value} (hP : va_at D cl (a, .inr (ci, fs)) H) (hc : cl[ci]? = some (C, T, N)) (k : Nat) (hk : k < N) (hlink : (Cond.fieldLink own index (T k).1 (T k).2.1 (T k).2.2.1).before args s = true) (hfin : (T k).2.2.2 = false) {ty : FieldType} {v : Value} (hd : parseFieldDescriptor (T k).2.2.1 = some ty) (hn : narrow ty v = v) (hfit : fits ty v = true) (hl : k < fs.length) (hdg : decode cc pc = .ok (.putfield index, 3))
    (kk : ∀ (H1 : Heap) (j : Nat), va_at D cl (a, .inr (ci, fs.set k v)) H1 → H1.size = H.size → (∀ q : Nat, q ≠ a → H1[q]? = H[q]?) → W p l e R s m args below meth c H1 (locs ++ [⟨a, j⟩]) cells slots Q (F0 m (pc + 3) ls rest)) : W p l e R s m args below meth c H locs cells slots Q (F0 m pc ls (v :: .ref a :: rest)) := by
  have hap := va_apart (own := own) hts hin ty0 hty hnm hK hc
  obtain ⟨r, h1, cell, q1, q2, q3, q4⟩ := hP
  have hr : r = (C, T, N) := Option.some.inj (h1.symm.trans hc)
  subst hr
  obtain ⟨hS, hfc, kC, hkC, hkind⟩ := hK.1 ci _ hc
  obtain ⟨cf, kf, fi, f, hi, hsl⟩ := hS k hk
  have hlay := hts _ (hin _ (u_in_lay hk))
  unfold u_lay at hlay
  rw [if_neg (by rw [hfin]; decide)] at hlay
  refine W.putK hexec hb (f := f) ⟨hown, hlink, ⟨_, _, _, hi⟩, (u_facts hfc hkC (u_lays hts hin hk) hi).1⟩ (by rw [q2]; exact u_store hfc hkC hkind hlay hi hd hn hfit) q1 q3 (by rw [hsl]; exact k2_hasslot (q4 k hk)) rfl rfl hdg fun H' e1 e2 e3 => ?_
  rw [hsl] at e1 ⊢
  exact kk H' _ ⟨_, hc, t_OB.to (V := updV (vp_V fs) k v) ⟨_, e1, q2, q3, t_set q4 hap hk v⟩ (fun j _ => vp_updV_set hl v j)⟩ e2 e3
/-- the same, of a nest mate -/
theorem mz_putN (hexec : p.tables.exec = Jvm.exec) (hb : c.code = cc) {own C host : String} {T : u_T} {N ci index : Nat} {Ts : List Cond} (hts : ∀ w ∈ Ts, w.before args s = true) (hin : ∀ w ∈ u_ws C T N, w ∈ Ts) (ty0 : Nat → FieldType) (hty : ∀ k, k < N → parseFieldDescriptor (T k).2.2.1 = some (ty0 k)) (hnm : ∀ a, a < N → ∀ b, b < N → a ≠ b → (T a).2.1 ≠ (T b).2.1) (hown : s.vm.findClass own = some m.cls) (hK : va_K D cl tys s) {fs : List Value} (hP : va_at D cl (a, .inr (ci, fs)) H) (hc : cl[ci]? = some (C, T, N)) (k : Nat) (hk : k < N) (hlink : (Cond.fieldLinkNest own index (T k).1 (T k).2.1 (T k).2.2.1 host).before args s = true) (hfin : (T k).2.2.2 = false) {ty : FieldType} {v : Value} (hd : parseFieldDescriptor (T k).2.2.1 = some ty) (hn : narrow ty v = v) (hfit : fits ty v = true) (hl : k < fs.length) (hdg : decode cc pc = .ok (.putfield index, 3))
    (kk : ∀ (H1 : Heap) (j : Nat), va_at D cl (a, .inr (ci, fs.set k v)) H1 → H1.size = H.size → (∀ q : Nat, q ≠ a → H1[q]? = H[q]?) → W p l e R s m args below meth c H1 (locs ++ [⟨a, j⟩]) cells slots Q (F0 m (pc + 3) ls rest)) : W p l e R s m args below meth c H locs cells slots Q (F0 m pc ls (v :: .ref a :: rest)) := by
  have hap := va_apart (own := own) hts hin ty0 hty hnm hK hc
  obtain ⟨r, h1, cell, q1, q2, q3, q4⟩ := hP
  have hr : r = (C, T, N) := Option.some.inj (h1.symm.trans hc)
  subst hr
  obtain ⟨hS, hfc, kC, hkC, hkind⟩ := hK.1 ci _ hc
  obtain ⟨cf, kf, fi, f, hi, hsl⟩ := hS k hk
  have hlay := hts _ (hin _ (u_in_lay hk))
  unfold u_lay at hlay
  rw [if_neg (by rw [hfin]; decide)] at hlay
  refine va_WputK hexec hb (f := f) hown hlink hi (u_facts hfc hkC (u_lays hts hin hk) hi).1 (by rw [q2]; exact u_store hfc hkC hkind hlay hi hd hn hfit) q1 q3 (by rw [hsl]; exact k2_hasslot (q4 k hk)) rfl rfl hdg fun H' e1 e2 e3 => ?_
  rw [hsl] at e1 ⊢
  exact kk H' _ ⟨_, hc, t_OB.to (V := updV (vp_V fs) k v) ⟨_, e1, q2, q3, t_set q4 hap hk v⟩ (fun j _ => vp_updV_set hl v j)⟩ e2 e3
/-- an element of an array of ints is written -/
theorem mz_iast (hexec : p.tables.exec = Jvm.exec) (hb : c.code = cc) (hK : va_K D cl tys s) (t0 : Nat) {cA : ClassId} {n : Nat} {f : Nat → Int32} (hP : va_at D cl (a, .inl (cA, n, .inl f)) H) (ht : tys[t0]? = some (cA, .int)) {i x : Int32} (hin : vp_in i n) (hdg : decode cc pc = .ok (.iastore, 1))
    (kk : ∀ (H1 : Heap) (j : Nat), va_at D cl (a, .inl (cA, n, .inl (upd f i.toNatClampNeg x))) H1 → H1.size = H.size → (∀ q : Nat, q ≠ a → H1[q]? = H[q]?) → W p l e R s m args below meth c H1 (locs ++ [⟨a, j⟩]) cells slots Q (F0 m (pc + 1) ls rest)) : W p l e R s m args below meth c H locs cells slots Q (F0 m pc ls (.int x :: .int i :: .ref a :: rest)) := by
  refine W.iast hexec hb hP ((hK.2 t0 _ ht).1 n (fun j => .int (f j))) (fun q => by cases q) (by show ¬ (i < 0 ∨ (arrV _ _ _).slots.size ≤ _); rw [arrV_size]; exact hin) rfl rfl hdg fun H1 e z oq => ?_
  refine kk H1 _ ?_ z oq
  show H1[a]? = some (vp_cell _ _)
  rw [e, vp_cell_i, vp_cell_i, arrV_store]
  congr 2
  funext q
  by_cases hq : q = i.toNatClampNeg
  · subst hq
    simp [updV, upd]
  · simp [updV, upd, hq]
/-- an element of an array of booleans is written -/
theorem mz_zast (hexec : p.tables.exec = Jvm.exec) (hb : c.code = cc) (hK : va_K D cl tys s) (t0 : Nat) {cA : ClassId} {n : Nat} {f : Nat → Int32} (hP : va_at D cl (a, .inl (cA, n, .inl f)) H) (ht : tys[t0]? = some (cA, .boolean)) {i x : Int32} (hin : vp_in i n) (hv : narrow .boolean (.int x) = .int x) (hdg : decode cc pc = .ok (.bastore, 1))
    (kk : ∀ (H1 : Heap) (j : Nat), va_at D cl (a, .inl (cA, n, .inl (upd f i.toNatClampNeg x))) H1 → H1.size = H.size → (∀ q : Nat, q ≠ a → H1[q]? = H[q]?) → W p l e R s m args below meth c H1 (locs ++ [⟨a, j⟩]) cells slots Q (F0 m (pc + 1) ls rest)) : W p l e R s m args below meth c H locs cells slots Q (F0 m pc ls (.int x :: .int i :: .ref a :: rest)) := by
  refine W.zast hexec hb hP ((hK.2 t0 _ ht).1 n (fun j => .int (f j))) (fun q => by cases q) (by show ¬ (i < 0 ∨ (arrV _ _ _).slots.size ≤ _); rw [arrV_size]; exact hin) rfl rfl hdg fun H1 e z oq => ?_
  refine kk H1 _ ?_ z oq
  show H1[a]? = some (vp_cell _ _)
  rw [e, vp_cell_i, vp_cell_i, arrV_store, hv]
  congr 2
  funext q
  by_cases hq : q = i.toNatClampNeg
  · subst hq
    simp [updV, upd]
  · simp [updV, upd, hq]
/-- branches that give both forms of their condition -/
theorem mz_icmp_lt (hx : p.tables.exec = Jvm.exec) (hb : c.code = cc) {x y : Int32} {off : Int} {tgt : Nat} (hdg : decode cc pc = .ok (.if_icmp .lt off, 3)) (ht : (pc : Int) + off = (tgt : Int)) (kt : x < y → ¬ y ≤ x → W p l e R s m args below meth c H locs cells slots Q (F0 m tgt ls rest)) (kf : ¬ x < y → y ≤ x → W p l e R s m args below meth c H locs cells slots Q (F0 m (pc + 3) ls rest)) : W p l e R s m args below meth c H locs cells slots Q (F0 m pc ls (.int y :: .int x :: rest)) :=
  lv_icmp_lt hx hb hdg ht (fun h => kt h (Int32.not_le.mpr h)) (fun h => kf h (Int32.not_lt.mp h))
theorem mz_icmp_ge (hx : p.tables.exec = Jvm.exec) (hb : c.code = cc) {x y : Int32} {off : Int} {tgt : Nat} (hdg : decode cc pc = .ok (.if_icmp .ge off, 3)) (ht : (pc : Int) + off = (tgt : Int)) (kt : ¬ x < y → y ≤ x → W p l e R s m args below meth c H locs cells slots Q (F0 m tgt ls rest)) (kf : x < y → ¬ y ≤ x → W p l e R s m args below meth c H locs cells slots Q (F0 m (pc + 3) ls rest)) : W p l e R s m args below meth c H locs cells slots Q (F0 m pc ls (.int y :: .int x :: rest)) :=
  lv_icmp_ge hx hb hdg ht (fun h => kt (Int32.not_lt.mpr h) h) (fun h => kf (Int32.not_le.mp h) h)
theorem mz_icmp_gt (hx : p.tables.exec = Jvm.exec) (hb : c.code = cc) {x y : Int32} {off : Int} {tgt : Nat} (hdg : decode cc pc = .ok (.if_icmp .gt off, 3)) (ht : (pc : Int) + off = (tgt : Int)) (kt : y < x → ¬ x ≤ y → W p l e R s m args below meth c H locs cells slots Q (F0 m tgt ls rest)) (kf : ¬ y < x → x ≤ y → W p l e R s m args below meth c H locs cells slots Q (F0 m (pc + 3) ls rest)) : W p l e R s m args below meth c H locs cells slots Q (F0 m pc ls (.int y :: .int x :: rest)) :=
  lv_icmp_gt hx hb hdg ht (fun h => kt h (Int32.not_le.mpr h)) (fun h => kf h (Int32.not_lt.mp h))
theorem mz_icmp_le (hx : p.tables.exec = Jvm.exec) (hb : c.code = cc) {x y : Int32} {off : Int} {tgt : Nat} (hdg : decode cc pc = .ok (.if_icmp .le off, 3)) (ht : (pc : Int) + off = (tgt : Int)) (kt : ¬ y < x → x ≤ y → W p l e R s m args below meth c H locs cells slots Q (F0 m tgt ls rest)) (kf : y < x → ¬ x ≤ y → W p l e R s m args below meth c H locs cells slots Q (F0 m (pc + 3) ls rest)) : W p l e R s m args below meth c H locs cells slots Q (F0 m pc ls (.int y :: .int x :: rest)) :=
  lv_icmp_le hx hb hdg ht (fun h => kt (Int32.not_lt.mpr h) h) (fun h => kf (Int32.not_le.mp h) h)
theorem mz_if_lt (hx : p.tables.exec = Jvm.exec) (hb : c.code = cc) {x : Int32} {off : Int} {tgt : Nat} (hdg : decode cc pc = .ok (.ifCond .lt off, 3)) (ht : (pc : Int) + off = (tgt : Int)) (kt : x < 0 → ¬ 0 ≤ x → W p l e R s m args below meth c H locs cells slots Q (F0 m tgt ls rest)) (kf : ¬ x < 0 → 0 ≤ x → W p l e R s m args below meth c H locs cells slots Q (F0 m (pc + 3) ls rest)) : W p l e R s m args below meth c H locs cells slots Q (F0 m pc ls (.int x :: rest)) :=
  lv_if_lt hx hb hdg ht (fun h => kt h (Int32.not_le.mpr h)) (fun h => kf h (Int32.not_lt.mp h))
theorem mz_if_ge (hx : p.tables.exec = Jvm.exec) (hb : c.code = cc) {x : Int32} {off : Int} {tgt : Nat} (hdg : decode cc pc = .ok (.ifCond .ge off, 3)) (ht : (pc : Int) + off = (tgt : Int)) (kt : ¬ x < 0 → 0 ≤ x → W p l e R s m args below meth c H locs cells slots Q (F0 m tgt ls rest)) (kf : x < 0 → ¬ 0 ≤ x → W p l e R s m args below meth c H locs cells slots Q (F0 m (pc + 3) ls rest)) : W p l e R s m args below meth c H locs cells slots Q (F0 m pc ls (.int x :: rest)) :=
  lv_if_ge hx hb hdg ht (fun h => kt (Int32.not_lt.mpr h) h) (fun h => kf (Int32.not_le.mp h) h)
theorem mz_if_gt (hx : p.tables.exec = Jvm.exec) (hb : c.code = cc) {x : Int32} {off : Int} {tgt : Nat} (hdg : decode cc pc = .ok (.ifCond .gt off, 3)) (ht : (pc : Int) + off = (tgt : Int)) (kt : 0 < x → ¬ x ≤ 0 → W p l e R s m args below meth c H locs cells slots Q (F0 m tgt ls rest)) (kf : ¬ 0 < x → x ≤ 0 → W p l e R s m args below meth c H locs cells slots Q (F0 m (pc + 3) ls rest)) : W p l e R s m args below meth c H locs cells slots Q (F0 m pc ls (.int x :: rest)) :=
  lv_if_gt hx hb hdg ht (fun h => kt h (Int32.not_le.mpr h)) (fun h => kf h (Int32.not_lt.mp h))
theorem mz_if_le (hx : p.tables.exec = Jvm.exec) (hb : c.code = cc) {x : Int32} {off : Int} {tgt : Nat} (hdg : decode cc pc = .ok (.ifCond .le off, 3)) (ht : (pc : Int) + off = (tgt : Int)) (kt : ¬ 0 < x → x ≤ 0 → W p l e R s m args below meth c H locs cells slots Q (F0 m tgt ls rest)) (kf : 0 < x → ¬ x ≤ 0 → W p l e R s m args below meth c H locs cells slots Q (F0 m (pc + 3) ls rest)) : W p l e R s m args below meth c H locs cells slots Q (F0 m pc ls (.int x :: rest)) :=
  lv_if_le hx hb hdg ht (fun h => kt (Int32.not_lt.mpr h) h) (fun h => kf (Int32.not_le.mp h) h)
theorem mz_ifeq_b (hx : p.tables.exec = Jvm.exec) (hb : c.code = cc) {q : Prop} [Decidable q] {off : Int} {tgt : Nat} (hdg : decode cc pc = .ok (.ifCond .eq off, 3)) (ht : (pc : Int) + off = (tgt : Int)) (kt : ¬ q → W p l e R s m args below meth c H locs cells slots Q (F0 m tgt ls rest)) (kf : q → W p l e R s m args below meth c H locs cells slots Q (F0 m (pc + 3) ls rest)) : W p l e R s m args below meth c H locs cells slots Q (F0 m pc ls (.int (mz_b q) :: rest)) :=
  lv_if_eq hx hb hdg ht (fun h => kt (mz_b_0.mp h)) (fun h => kf (mz_b_n.mp h))
theorem mz_ifne_b (hx : p.tables.exec = Jvm.exec) (hb : c.code = cc) {q : Prop} [Decidable q] {off : Int} {tgt : Nat} (hdg : decode cc pc = .ok (.ifCond .ne off, 3)) (ht : (pc : Int) + off = (tgt : Int)) (kt : q → W p l e R s m args below meth c H locs cells slots Q (F0 m tgt ls rest)) (kf : ¬ q → W p l e R s m args below meth c H locs cells slots Q (F0 m (pc + 3) ls rest)) : W p l e R s m args below meth c H locs cells slots Q (F0 m pc ls (.int (mz_b q) :: rest)) :=
  lv_if_ne hx hb hdg ht (fun h => kt (mz_b_n.mp h)) (fun h => kf (mz_b_0.mp h))
end MZW
/-! Contracts in one form: the world goes from the state u to the state u', the answer is r. -/
def mz_K (KK : State → Prop) : Prop := (∀ s U : State, s.WarmedH U.vm → KK s → KK U) ∧ ∀ U V : State, U.vm = V.vm → KK U → KK V
def mz_W (G : mz_S → Heap → Prop) (KK : State → Prop) (u : mz_S) (U : State) : Prop := G u U.heap ∧ KK U
theorem mz_blind {G : mz_S → Heap → Prop} {KK : State → Prop} (h : mz_K KK) (av : List Value) (u : mz_S) : FrameBlind (va_Pc av (mz_W G KK u)) := fun _ U _ _ q => ⟨q.1, q.2.1, h.2 U _ rfl q.2.2⟩
def mz_Ci (l : Launch) (G : mz_S → Heap → Prop) (KK : State → Prop) (A : Nat → Prop) (y : MethodName) (ws : List Cond) (rm : Room) (av : List Value) (u : mz_S) (r : Int32) (u' : mz_S) : Prop :=
  Met l y ws rm (va_Pc av (mz_W G KK u)) (va_Qi (fun (x : Int32) (v : mz_S) => x = r ∧ v = u') (mz_W G KK) A) 0 0 A
def mz_Cv (l : Launch) (G : mz_S → Heap → Prop) (KK : State → Prop) (A : Nat → Prop) (y : MethodName) (ws : List Cond) (rm : Room) (av : List Value) (u : mz_S) (u' : mz_S) : Prop :=
  Met l y ws rm (va_Pc av (mz_W G KK u)) (va_Qv (fun (v : mz_S) => v = u') (mz_W G KK) A) 0 0 A
abbrev mz_Ei (below : List Frame) (G : mz_S → Heap → Prop) (KK : State → Prop) (A : Nat → Prop) (r : Int32) (u' : mz_S) (args : Array Value) (s : State) : State → Prop := MQ below (va_Qi (fun (x : Int32) (v : mz_S) => x = r ∧ v = u') (mz_W G KK) A) args s 0 0 A
abbrev mz_Ev (below : List Frame) (G : mz_S → Heap → Prop) (KK : State → Prop) (A : Nat → Prop) (u' : mz_S) (args : Array Value) (s : State) : State → Prop := MQ below (va_Qv (fun (v : mz_S) => v = u') (mz_W G KK) A) args s 0 0 A
section MZC
variable {l : Launch} {G : mz_S → Heap → Prop} {KK : State → Prop} {A : Nat → Prop} {y : MethodName} {ws ws' : List Cond} {rm : Room} {av : List Value} {u u' : mz_S} {r : Int32}
theorem mz_Ci.of {cc : ByteArray} {maxL : Nat} {ret : Option FieldType} (hy : plainName y.cls = true) (hw : ws = Cond.code y cc maxL ret :: ws') (hn : (lg_sl av).length ≤ maxL)
    (k : ∀ (p : Program) (e : Env) (s : State) (m : MethodId) (args : Array Value) (below : List Frame) (meth : Method) (c : Code) (ls : Array Slot), p.tables.exec = Jvm.exec → c.code = cc → meth.sig.returnType = ret → meth.locks = false → c.maxLocals = maxL → s.vm.findClass y.cls = some m.cls → (∀ w ∈ ws, w.before args s = true) → lv_has ls maxL (lv_args 0 av) → G u s.heap → KK s → va_S A s.heap s.heap [] →
      W p l e rm s m args below meth c s.heap [] 0 0 (mz_Ei below G KK A r u' args s) (F0 m 0 ls [])) : mz_Ci l G KK A y ws rm av u r u' := by
  refine Met.ofW (cc := cc) (maxL := maxL) (ret := ret) hy hw ?_
  intro p e s m args below meth c s₁ B hml hv
  obtain ⟨rfl, hG, hK⟩ := hv
  rw [lg_entry_eq]
  exact k p e s m _ below meth c _ B.exec B.bytes B.returns B.notSynchronized hml (findClass_of_methodNamed B.named) (atoms_spec (ws := ws) B.pre) (lv_entry av hn) hG hK va_S.rf
theorem mz_Cv.of {cc : ByteArray} {maxL : Nat} {ret : Option FieldType} (hy : plainName y.cls = true) (hw : ws = Cond.code y cc maxL ret :: ws') (hn : (lg_sl av).length ≤ maxL)
    (k : ∀ (p : Program) (e : Env) (s : State) (m : MethodId) (args : Array Value) (below : List Frame) (meth : Method) (c : Code) (ls : Array Slot), p.tables.exec = Jvm.exec → c.code = cc → meth.sig.returnType = ret → meth.locks = false → c.maxLocals = maxL → s.vm.findClass y.cls = some m.cls → (∀ w ∈ ws, w.before args s = true) → lv_has ls maxL (lv_args 0 av) → G u s.heap → KK s → va_S A s.heap s.heap [] →
      W p l e rm s m args below meth c s.heap [] 0 0 (mz_Ev below G KK A u' args s) (F0 m 0 ls [])) : mz_Cv l G KK A y ws rm av u u' := by
  refine Met.ofW (cc := cc) (maxL := maxL) (ret := ret) hy hw ?_
  intro p e s m args below meth c s₁ B hml hv
  obtain ⟨rfl, hG, hK⟩ := hv
  rw [lg_entry_eq]
  exact k p e s m _ below meth c _ B.exec B.bytes B.returns B.notSynchronized hml (findClass_of_methodNamed B.named) (atoms_spec (ws := ws) B.pre) (lv_entry av hn) hG hK va_S.rf
variable {p : Program} {e : Env} {R : Room} {s : State} {m : MethodId} {args : Array Value} {below : List Frame} {meth : Method} {c : Code} {H : Heap} {locs : List Loc} {cells slots : Nat} {Q : State → Prop}
variable {cc : ByteArray} {pc : Nat} {ls : Array Slot} {rest st : List Value} {H0 : Heap}
theorem mz_iret (hx : p.tables.exec = Jvm.exec) (hb : c.code = cc) (hr : meth.sig.returnType = some .int) (hlk : meth.locks = false) (hM : mz_K KK) (hK : KK s) (hS : va_S A s.heap H locs) {v : mz_S} (hG : G v H) {x : Int32} (hdg : decode cc pc = .ok (.ireturn, 1)) (h1 : x = r) (h2 : v = u') : W p l e R s m args below meth c H locs 0 0 (mz_Ei below G KK A r u' args s) (F0 m pc ls [.int x]) :=
  W.iret hx hb hr (fun t ht hW => ⟨⟨x, v, rfl, ⟨h1, h2⟩, by rw [ht]; exact hG, hM.1 s t hW hK⟩, hS.F ht⟩) hS.2.2 hdg hlk
theorem mz_zret (hx : p.tables.exec = Jvm.exec) (hb : c.code = cc) (hr : meth.sig.returnType = some .boolean) (hlk : meth.locks = false) (hM : mz_K KK) (hK : KK s) (hS : va_S A s.heap H locs) {v : mz_S} (hG : G v H) {x : Int32} (hdg : decode cc pc = .ok (.ireturn, 1)) (hn : narrow .boolean (.int x) = .int x) (h1 : x = r) (h2 : v = u') : W p l e R s m args below meth c H locs 0 0 (mz_Ei below G KK A r u' args s) (F0 m pc ls [.int x]) :=
  W.zret hx hb hr hn (fun t ht hW => ⟨⟨x, v, rfl, ⟨h1, h2⟩, by rw [ht]; exact hG, hM.1 s t hW hK⟩, hS.F ht⟩) hS.2.2 hdg hlk
theorem mz_vret (hx : p.tables.exec = Jvm.exec) (hb : c.code = cc) (hr : meth.sig.returnType = none) (hlk : meth.locks = false) (hM : mz_K KK) (hK : KK s) (hS : va_S A s.heap H locs) {v : mz_S} (hG : G v H) (hdg : decode cc pc = .ok (.return_, 1)) (h2 : v = u') : W p l e R s m args below meth c H locs 0 0 (mz_Ev below G KK A u' args s) (F0 m pc ls []) :=
  W.vret hx hb hr (fun t ht hW => ⟨⟨v, rfl, h2, by rw [ht]; exact hG, hM.1 s t hW hK⟩, hS.F ht⟩) hS.2.2 hdg hlk
/-- behind a call: what the contract says; the caller's frame is the callee's -/
theorem mz_goi (hr : va_Run p l e R s m args below meth c H locs cells slots 0 0 (F0 m pc ls st) rest (va_Qi (fun (x : Int32) (v : mz_S) => x = r ∧ v = u') (mz_W G KK) A av.toArray) A) (hS : va_S A H0 H locs)
    (kk : ∀ (H1 : Heap) (locs1 : List Loc), G u' H1 → va_S A H0 H1 locs1 → W p l e R s m args below meth c H1 locs1 cells slots Q (F0 m (pc + 3) ls (.int r :: rest))) : W p l e R s m args below meth c H locs cells slots Q (F0 m pc ls st) := by
  refine va_calli hr hS (fun q _ h => h) (fun q h => h) (fun x v t H1 locs1 ht hvm hp hB hz hk hS1 => ?_)
  obtain ⟨rfl, rfl⟩ := hp
  exact kk H1 locs1 (by rw [← ht]; exact hB.1) hS1
theorem mz_gov (hr : va_Run p l e R s m args below meth c H locs cells slots 0 0 (F0 m pc ls st) rest (va_Qv (fun (v : mz_S) => v = u') (mz_W G KK) A av.toArray) A) (hS : va_S A H0 H locs)
    (kk : ∀ (H1 : Heap) (locs1 : List Loc), G u' H1 → va_S A H0 H1 locs1 → W p l e R s m args below meth c H1 locs1 cells slots Q (F0 m (pc + 3) ls rest)) : W p l e R s m args below meth c H locs cells slots Q (F0 m pc ls st) := by
  refine va_callv hr hS (fun q _ h => h) (fun q h => h) (fun v t H1 locs1 ht hvm hp hB hz hk hS1 => ?_)
  obtain rfl := hp
  exact kk H1 locs1 (by rw [← ht]; exact hB.1) hS1
variable {bytes : ByteArray} {maxL nL n index : Nat} {ret : Option FieldType} {Ts : List Cond} {own C host : String} {b : Addr} {As : List Value}
theorem mz_pre (hM : mz_K KK) (hK : KK s) (hG : G u H) : PreS s H (va_Pc As (mz_W G KK u)) As := ⟨mz_blind hM As u, fun U hU hW => ⟨rfl, by rw [hU]; exact hG, hM.1 s U hW hK⟩⟩
theorem mz_preV (hM : mz_K KK) (hK : KK s) (hG : G u H) (hc : ∃ cell : Cell, H[b]? = some cell ∧ cell.vm.isStatics = false ∧ s.vm.findClass C = some cell.cls) : PreV s H C b (va_Pc (.ref b :: As) (mz_W G KK u)) As := ⟨mz_blind hM _ u, hc, fun U hU hW => ⟨rfl, by rw [hU]; exact hG, hM.1 s U hW hK⟩⟩
/-- calls: of one's own class (V), of a nest mate (N), static (S) -/
theorem mz_Vi (S : CallFix p m c cc nL s args Ts own) (hM : mz_Ci l G KK A y ws rm (.ref b :: As) u r u') (cw : CallW R s args own C index y bytes maxL ret ws rm 0 0 n) (hc : ∃ cell : Cell, H[b]? = some cell ∧ cell.vm.isStatics = false ∧ s.vm.findClass C = some cell.cls) (hMK : mz_K KK) (hK : KK s) (hG : G u H) (hS : va_S A H0 H locs) (hn : As.length = n) (hz : ls.size = nL) (hst : st = As.reverse ++ .ref b :: rest) (hR : (rest.map fun v => v.category).sum ≤ 8) (hdg : decode cc pc = .ok (.invokevirtual index, 3)) (hf : cells + 0 ≤ R.cells ∧ slots + 0 ≤ R.slots)
    (kk : ∀ (H1 : Heap) (locs1 : List Loc), G u' H1 → va_S A H0 H1 locs1 → W p l e R s m args below meth c H1 locs1 cells slots Q (F0 m (pc + 3) ls (.int r :: rest))) : W p l e R s m args below meth c H locs cells slots Q (F0 m pc ls st) :=
  mz_goi (va_runV (As := As) (rest := rest) S hM cw (mz_preV hMK hK hG hc) rfl hn hz hst (lv_room (rest := st) hR) hdg hf) hS kk
theorem mz_Vv (S : CallFix p m c cc nL s args Ts own) (hM : mz_Cv l G KK A y ws rm (.ref b :: As) u u') (cw : CallW R s args own C index y bytes maxL ret ws rm 0 0 n) (hc : ∃ cell : Cell, H[b]? = some cell ∧ cell.vm.isStatics = false ∧ s.vm.findClass C = some cell.cls) (hMK : mz_K KK) (hK : KK s) (hG : G u H) (hS : va_S A H0 H locs) (hn : As.length = n) (hz : ls.size = nL) (hst : st = As.reverse ++ .ref b :: rest) (hR : (rest.map fun v => v.category).sum ≤ 8) (hdg : decode cc pc = .ok (.invokevirtual index, 3)) (hf : cells + 0 ≤ R.cells ∧ slots + 0 ≤ R.slots)
    (kk : ∀ (H1 : Heap) (locs1 : List Loc), G u' H1 → va_S A H0 H1 locs1 → W p l e R s m args below meth c H1 locs1 cells slots Q (F0 m (pc + 3) ls rest)) : W p l e R s m args below meth c H locs cells slots Q (F0 m pc ls st) :=
  mz_gov (va_runV (As := As) (rest := rest) S hM cw (mz_preV hMK hK hG hc) rfl hn hz hst (lv_room (rest := st) hR) hdg hf) hS kk
theorem mz_Ni (S : CallFix p m c cc nL s args Ts own) (hM : mz_Ci l G KK A y ws rm (.ref b :: As) u r u') (cw : va_CN R s args own index y host bytes maxL ret ws rm 0 0 n ∧ (Cond.instanceMethod y).before args s = true ∧ (Cond.selects C y y).before args s = true) (hc : ∃ cell : Cell, H[b]? = some cell ∧ cell.vm.isStatics = false ∧ s.vm.findClass C = some cell.cls) (hMK : mz_K KK) (hK : KK s) (hG : G u H) (hS : va_S A H0 H locs) (hn : As.length = n) (hz : ls.size = nL) (hst : st = As.reverse ++ .ref b :: rest) (hR : (rest.map fun v => v.category).sum ≤ 8) (hdg : decode cc pc = .ok (.invokevirtual index, 3)) (hf : cells + 0 ≤ R.cells ∧ slots + 0 ≤ R.slots)
    (kk : ∀ (H1 : Heap) (locs1 : List Loc), G u' H1 → va_S A H0 H1 locs1 → W p l e R s m args below meth c H1 locs1 cells slots Q (F0 m (pc + 3) ls (.int r :: rest))) : W p l e R s m args below meth c H locs cells slots Q (F0 m pc ls st) :=
  mz_goi (va_runVN (As := As) (rest := rest) S hM cw (mz_preV hMK hK hG hc) rfl hn hz hst (lv_room (rest := st) hR) hdg hf) hS kk
theorem mz_Nv (S : CallFix p m c cc nL s args Ts own) (hM : mz_Cv l G KK A y ws rm (.ref b :: As) u u') (cw : va_CN R s args own index y host bytes maxL ret ws rm 0 0 n ∧ (Cond.instanceMethod y).before args s = true ∧ (Cond.selects C y y).before args s = true) (hc : ∃ cell : Cell, H[b]? = some cell ∧ cell.vm.isStatics = false ∧ s.vm.findClass C = some cell.cls) (hMK : mz_K KK) (hK : KK s) (hG : G u H) (hS : va_S A H0 H locs) (hn : As.length = n) (hz : ls.size = nL) (hst : st = As.reverse ++ .ref b :: rest) (hR : (rest.map fun v => v.category).sum ≤ 8) (hdg : decode cc pc = .ok (.invokevirtual index, 3)) (hf : cells + 0 ≤ R.cells ∧ slots + 0 ≤ R.slots)
    (kk : ∀ (H1 : Heap) (locs1 : List Loc), G u' H1 → va_S A H0 H1 locs1 → W p l e R s m args below meth c H1 locs1 cells slots Q (F0 m (pc + 3) ls rest)) : W p l e R s m args below meth c H locs cells slots Q (F0 m pc ls st) :=
  mz_gov (va_runVN (As := As) (rest := rest) S hM cw (mz_preV hMK hK hG hc) rfl hn hz hst (lv_room (rest := st) hR) hdg hf) hS kk
theorem mz_Si (S : CallFix p m c cc nL s args Ts own) (hM : mz_Ci l G KK A y ws rm As u r u') (cw : CallB R s args own index y bytes maxL ret ws rm 0 0 n ∧ (Cond.static y).before args s = true) (hMK : mz_K KK) (hK : KK s) (hG : G u H) (hS : va_S A H0 H locs) (hn : As.length = n) (hz : ls.size = nL) (hst : st = As.reverse ++ rest) (hR : (rest.map fun v => v.category).sum ≤ 8) (hdg : decode cc pc = .ok (.invokestatic index, 3)) (hf : cells + 0 ≤ R.cells ∧ slots + 0 ≤ R.slots)
    (kk : ∀ (H1 : Heap) (locs1 : List Loc), G u' H1 → va_S A H0 H1 locs1 → W p l e R s m args below meth c H1 locs1 cells slots Q (F0 m (pc + 3) ls (.int r :: rest))) : W p l e R s m args below meth c H locs cells slots Q (F0 m pc ls st) :=
  mz_goi (va_runS (As := As) (rest := rest) S hM cw (mz_pre hMK hK hG) rfl hn hz hst (lv_room (rest := st) hR) hdg hf) hS kk
/-- a loop that counts its rounds: P at round j; from each round either on to the next, or out -/
theorem mz_loop (N : Nat) {P : Nat → Array Slot → Heap → List Loc → Prop} (hb : ∀ j ls H locs, P j ls H locs → j ≤ N) (hs : ∀ j ls H locs, P j ls H locs → (j < N → ∀ ls' H' locs', P (j + 1) ls' H' locs' → W p l e R s m args below meth c H' locs' cells slots Q (F0 m pc ls' st)) → W p l e R s m args below meth c H locs cells slots Q (F0 m pc ls st)) : ∀ j ls H locs, P j ls H locs → W p l e R s m args below meth c H locs cells slots Q (F0 m pc ls st) := by
  have key : ∀ d j ls H locs, N - j = d → P j ls H locs → W p l e R s m args below meth c H locs cells slots Q (F0 m pc ls st) := by
    intro d
    induction d with
    | zero =>
      intro j ls H locs hd hP
      exact hs j ls H locs hP (fun hj => absurd hj (by omega))
    | succ d ih =>
      intro j ls H locs hd hP
      exact hs j ls H locs hP (fun hj ls' H' locs' hP' => ih (j + 1) ls' H' locs' (by omega) hP')
  exact fun j ls H locs hP => key _ j ls H locs rfl hP
end MZC
