/-! Constructors: what they make lies behind all that was there. -/
def mz_Cn (l : Launch) (y : MethodName) (ws : List Cond) (rm : Room) (av : List Value) (KK : State → Prop) (H0 : Heap) (z mc ms : Nat) (Po : Heap → Prop) : Prop :=
  Met l y ws rm (va_Pc av (fun U => U.heap = H0 ∧ KK U)) (va_Qv (fun (_ : Unit) => True) (fun _ t => Po t.heap) (fun q => z ≤ q)) mc ms (fun q => z ≤ q)
section MZD
variable {l : Launch} {KK : State → Prop} {y : MethodName} {ws ws' : List Cond} {rm : Room} {av : List Value} {H0 : Heap} {z mc ms : Nat} {Po : Heap → Prop}
theorem mz_Cn.of {cc : ByteArray} {maxL : Nat} {ret : Option FieldType} (hy : plainName y.cls = true) (hw : ws = Cond.code y cc maxL ret :: ws') (hn : (lg_sl av).length ≤ maxL)
    (k : ∀ (p : Program) (e : Env) (s : State) (m : MethodId) (args : Array Value) (below : List Frame) (meth : Method) (c : Code) (ls : Array Slot), p.tables.exec = Jvm.exec → c.code = cc → meth.sig.returnType = ret → meth.locks = false → c.maxLocals = maxL → s.vm.findClass y.cls = some m.cls → meth.name = y.name → (∀ w ∈ ws, w.before args s = true) → lv_has ls maxL (lv_args 0 av) → s.heap = H0 → KK s →
      W p l e rm s m args below meth c H0 [] 0 0 (MQ below (va_Qv (fun (_ : Unit) => True) (fun _ t => Po t.heap) (fun q => z ≤ q)) args s mc ms (fun q => z ≤ q)) (F0 m 0 ls [])) : mz_Cn l y ws rm av KK H0 z mc ms Po := by
  refine Met.ofW (cc := cc) (maxL := maxL) (ret := ret) hy hw ?_
  intro p e s m args below meth c s₁ B hml hv
  obtain ⟨rfl, hH, hK⟩ := hv
  rw [lg_entry_eq]
  have := k p e s m _ below meth c _ B.exec B.bytes B.returns B.notSynchronized hml (findClass_of_methodNamed B.named) (name_of_methodNamed B.named B.method).1 (atoms_spec (ws := ws) B.pre) (lv_entry av hn) hH hK
  rw [← hH] at this
  exact this
variable {p : Program} {e : Env} {R : Room} {s : State} {m : MethodId} {args : Array Value} {below : List Frame} {meth : Method} {c : Code} {H : Heap} {locs : List Loc} {cells slots : Nat} {Q : State → Prop}
variable {cc : ByteArray} {pc : Nat} {ls : Array Slot} {rest st : List Value} {A : Nat → Prop}
theorem mz_nret (hx : p.tables.exec = Jvm.exec) (hb : c.code = cc) (hr : meth.sig.returnType = none) (hlk : meth.locks = false) (hH : s.heap = H0) (hS : va_S (fun q => z ≤ q) H0 H locs) (hP : Po H) (hc : cells ≤ mc) (hs : slots ≤ ms) (hdg : decode cc pc = .ok (.return_, 1)) : W p l e R s m args below meth c H locs cells slots (MQ below (va_Qv (fun (_ : Unit) => True) (fun _ t => Po t.heap) (fun q => z ≤ q)) args s mc ms (fun q => z ≤ q)) (F0 m pc ls []) := by
  subst hH
  exact W.widen hc hs (W.vret hx hb hr (fun t ht hW => ⟨⟨(), rfl, trivial, by show Po t.heap; rw [ht]; exact hP⟩, hS.F ht⟩) hS.2.2 hdg hlk)
theorem mz_S_new {H1 : Heap} {z1 : Nat} (h : va_S A H0 H locs) (hz : H.size = z1) (h1 : H1.size = z1 + 1) (ho : ∀ q : Nat, q < z1 → H1[q]? = H[q]?) : va_S A H0 H1 locs := by
  refine ⟨by have := h.1; omega, fun q h2 h3 => ?_, h.2.2⟩
  rw [ho q (by have := h.1; omega)]
  exact h.2.1 q h2 h3
theorem mz_S_put {H1 : Heap} {a j : Nat} (h : va_S A H0 H locs) (hz : H1.size = H.size) (ho : ∀ q : Nat, q ≠ a → H1[q]? = H[q]?) (ha : A a) : va_S A H0 H1 (locs ++ [⟨a, j⟩]) := h.put hz ho ha
/-- a constructor's call -/
theorem mz_gon {z1 : Nat} {a9 : Array Value} (hr : va_Run p l e R s m args below meth c H locs cells slots mc ms (F0 m pc ls st) rest (va_Qv (fun (_ : Unit) => True) (fun _ t => Po t.heap) (fun q => z1 ≤ q) a9) (fun q => z1 ≤ q)) (hS : va_S A H0 H locs) (hA : ∀ q, z1 ≤ q → A q)
    (kk : ∀ (H1 : Heap) (locs1 : List Loc), Po H1 → H.size ≤ H1.size → (∀ q : Nat, q < H.size → q < z1 → H1[q]? = H[q]?) → va_S A H0 H1 locs1 → W p l e R s m args below meth c H1 locs1 (cells + mc) (slots + ms) Q (F0 m (pc + 3) ls rest)) : W p l e R s m args below meth c H locs cells slots Q (F0 m pc ls st) := by
  refine va_callv hr hS (fun q _ h => hA q h) (fun q h => hA q h) (fun v t H1 locs1 ht hvm hp hB hz hk hS1 => ?_)
  exact kk H1 locs1 (by rw [← ht]; exact hB) hz (fun q h1 h2 => hk q h1 (by omega)) hS1
variable {bytes : ByteArray} {maxL nL n index : Nat} {Ts : List Cond} {own host : String} {b : Addr} {As : List Value}
theorem mz_preN (hMK : mz_K KK) (hK : KK s) : PreS s H (va_Pc As (fun U => U.heap = H ∧ KK U)) As := ⟨fun _ U _ _ q => ⟨q.1, q.2.1, hMK.2 U _ rfl q.2.2⟩, fun U hU hW => ⟨rfl, hU, hMK.1 s U hW hK⟩⟩
theorem mz_IN {z1 : Nat} (S : CallFix p m c cc nL s args Ts own) (hM : mz_Cn l y ws rm (.ref b :: As) KK H z1 mc ms Po) (cw : va_CN R s args own index y host bytes maxL none ws rm mc ms n ∧ y.name = "<init>" ∧ (Cond.instanceMethod y).before args s = true) (hMK : mz_K KK) (hK : KK s) (hS : va_S A H0 H locs) (hA : ∀ q, z1 ≤ q → A q) (hn : As.length = n) (hz : ls.size = nL) (hst : st = As.reverse ++ .ref b :: rest) (hR : (rest.map fun v => v.category).sum ≤ 8) (hdg : decode cc pc = .ok (.invokespecial index, 3)) (hf : cells + mc ≤ R.cells ∧ slots + ms ≤ R.slots)
    (kk : ∀ (H1 : Heap) (locs1 : List Loc), Po H1 → H.size ≤ H1.size → (∀ q : Nat, q < H.size → q < z1 → H1[q]? = H[q]?) → va_S A H0 H1 locs1 → W p l e R s m args below meth c H1 locs1 (cells + mc) (slots + ms) Q (F0 m (pc + 3) ls rest)) : W p l e R s m args below meth c H locs cells slots Q (F0 m pc ls st) :=
  mz_gon (va_runIN (As := As) (rest := rest) S hM cw (mz_preN hMK hK) rfl hn hz hst (lv_room (rest := st) hR) hdg hf) hS hA kk
theorem mz_II {z1 : Nat} (S : CallFix p m c cc nL s args Ts own) (hM : mz_Cn l y ws rm (.ref b :: As) KK H z1 mc ms Po) (cw : CallB R s args own index y bytes maxL none ws rm mc ms n ∧ y.name = "<init>" ∧ (Cond.instanceMethod y).before args s = true) (hMK : mz_K KK) (hK : KK s) (hS : va_S A H0 H locs) (hA : ∀ q, z1 ≤ q → A q) (hn : As.length = n) (hz : ls.size = nL) (hst : st = As.reverse ++ .ref b :: rest) (hR : (rest.map fun v => v.category).sum ≤ 8) (hdg : decode cc pc = .ok (.invokespecial index, 3)) (hf : cells + mc ≤ R.cells ∧ slots + ms ≤ R.slots)
    (kk : ∀ (H1 : Heap) (locs1 : List Loc), Po H1 → H.size ≤ H1.size → (∀ q : Nat, q < H.size → q < z1 → H1[q]? = H[q]?) → va_S A H0 H1 locs1 → W p l e R s m args below meth c H1 locs1 (cells + mc) (slots + ms) Q (F0 m (pc + 3) ls rest)) : W p l e R s m args below meth c H locs cells slots Q (F0 m pc ls st) :=
  mz_gon (va_runI (As := As) (rest := rest) S hM cw (mz_preN hMK hK) rfl hn hz hst (lv_room (rest := st) hR) hdg hf) hS hA kk
/-- a static method over any heap -/
def mz_Cs (l : Launch) (y : MethodName) (ws : List Cond) (rm : Room) (av : List Value) (r : Int32) : Prop := ∀ H : Heap, Met l y ws rm (va_Pc av (fun U => U.heap = H)) (va_Qi (fun (x : Int32) (_ : Unit) => x = r) (fun _ t => t.heap = H) (fun _ => False)) 0 0 (fun _ => False)
theorem mz_Cs.of {cc : ByteArray} {maxL : Nat} {r : Int32} (hy : plainName y.cls = true) (hw : ws = Cond.code y cc maxL (some .int) :: ws') (hn : (lg_sl av).length ≤ maxL)
    (k : ∀ (p : Program) (e : Env) (s : State) (m : MethodId) (args : Array Value) (below : List Frame) (meth : Method) (c : Code) (ls : Array Slot), p.tables.exec = Jvm.exec → c.code = cc → meth.sig.returnType = some .int → meth.locks = false → c.maxLocals = maxL → s.vm.findClass y.cls = some m.cls → (∀ w ∈ ws, w.before args s = true) → lv_has ls maxL (lv_args 0 av) →
      W p l e rm s m args below meth c s.heap [] 0 0 (MQ below (va_Qi (fun (x : Int32) (_ : Unit) => x = r) (fun _ t => t.heap = s.heap) (fun _ => False)) args s 0 0 (fun _ => False)) (F0 m 0 ls [])) : mz_Cs l y ws rm av r := by
  intro H
  refine Met.ofW (cc := cc) (maxL := maxL) (ret := some .int) hy hw ?_
  intro p e s m args below meth c s₁ B hml hv
  obtain ⟨rfl, rfl⟩ := hv
  rw [lg_entry_eq]
  exact k p e s m _ below meth c _ B.exec B.bytes B.returns B.notSynchronized hml (findClass_of_methodNamed B.named) (atoms_spec (ws := ws) B.pre) (lv_entry av hn)
theorem mz_sret {r x : Int32} (hx : p.tables.exec = Jvm.exec) (hb : c.code = cc) (hr : meth.sig.returnType = some .int) (hlk : meth.locks = false) (hdg : decode cc pc = .ok (.ireturn, 1)) (h : x = r) : W p l e R s m args below meth c s.heap [] 0 0 (MQ below (va_Qi (fun (x : Int32) (_ : Unit) => x = r) (fun _ t => t.heap = s.heap) (fun _ => False)) args s 0 0 (fun _ => False)) (F0 m pc ls [.int x]) :=
  W.iret hx hb hr (fun t ht hW => ⟨⟨x, (), rfl, h, ht⟩, (va_S.rf (A := fun _ => False)).F ht⟩) (fun _ h => by cases h) hdg hlk
theorem mz_SS {r : Int32} (S : CallFix p m c cc nL s args Ts own) (hM : mz_Cs l y ws rm As r) (cw : CallB R s args own index y bytes maxL (some .int) ws rm 0 0 n ∧ (Cond.static y).before args s = true) (hS : va_S A H0 H locs) (hn : As.length = n) (hz : ls.size = nL) (hst : st = As.reverse ++ rest) (hR : (rest.map fun v => v.category).sum ≤ 8) (hdg : decode cc pc = .ok (.invokestatic index, 3)) (hf : cells + 0 ≤ R.cells ∧ slots + 0 ≤ R.slots)
    (kk : ∀ (locs1 : List Loc), va_S A H0 H locs1 → W p l e R s m args below meth c H locs1 cells slots Q (F0 m (pc + 3) ls (.int r :: rest))) : W p l e R s m args below meth c H locs cells slots Q (F0 m pc ls st) := by
  refine va_calli (va_runS (As := As) (rest := rest) S (hM H) cw ⟨fun _ U _ _ q => ⟨q.1, q.2⟩, fun U hU hW => ⟨rfl, hU⟩⟩ rfl hn hz hst (lv_room (rest := st) hR) hdg hf) hS (fun q _ h => h.elim) (fun q h => h.elim) (fun x v t H1 locs1 ht hvm hp hB hz hk hS1 => ?_)
  have e : H1 = H := ht.symm.trans hB
  subst e
  subst hp
  exact kk locs1 hS1
end MZD
