abbrev rL : Type := (Nat → Nat → Nat) × (Nat × Nat × Nat) × (ClassId × ClassId)
abbrev rl_n (L : rL) : Nat := L.2.1.1
abbrev rl_c (L : rL) : Nat := L.2.1.2.1
abbrev rl_S (L : rL) : Nat := L.2.1.2.2
def rN (_ : rL) (k : Nat) : Nat := if k < 25 then 1 else 0
def rf0 (L : rL) : List Value := [.int (nI (rl_n L)), .int (nI (rl_c L)), .int (nI (rl_S L)), .ref (L.1 1 0), .ref (L.1 2 0), .ref (L.1 3 0), .ref (L.1 4 0), .ref (L.1 5 0), .ref (L.1 6 0), .ref (L.1 7 0), .ref (L.1 8 0), .ref (L.1 9 0), .ref (L.1 10 0), .ref (L.1 11 0), .ref (L.1 12 0), .ref (L.1 13 0), .ref (L.1 14 0), .ref (L.1 15 0), .ref (L.1 16 0), .ref (L.1 17 0), .ref (L.1 18 0), .ref (L.1 19 0), .ref (L.1 20 0), .ref (L.1 21 0), .ref (L.1 22 0), .ref (L.1 23 0), .ref (L.1 24 0)]
def rE (L : rL) (u : mz_S) (k i : Nat) : va_E := match k with
  | 0 => .inr (5, rf0 L)
  | 1 => .inl (L.2.2.2, 5, .inl (u 1 i))
  | 2 => .inl (L.2.2.1, 5, .inl (u 2 i))
  | 3 => .inl (L.2.2.1, 5, .inl (u 3 i))
  | 4 => .inl (L.2.2.1, 5, .inl (u 4 i))
  | 5 => .inl (L.2.2.1, 5, .inl (u 5 i))
  | 6 => .inl (L.2.2.1, 5, .inl (u 6 i))
  | 7 => .inl (L.2.2.1, 5, .inl (u 7 i))
  | 8 => .inl (L.2.2.1, 5, .inl (u 8 i))
  | 9 => .inl (L.2.2.1, 5, .inl (u 9 i))
  | 10 => .inl (L.2.2.1, 5, .inl (u 10 i))
  | 11 => .inl (L.2.2.1, 60, .inl (u 11 i))
  | 12 => .inl (L.2.2.1, 60, .inl (u 12 i))
  | 13 => .inl (L.2.2.1, 25, .inl (u 13 i))
  | 14 => .inl (L.2.2.1, 25, .inl (u 14 i))
  | 15 => .inl (L.2.2.1, 40, .inl (u 15 i))
  | 16 => .inl (L.2.2.1, 40, .inl (u 16 i))
  | 17 => .inl (L.2.2.1, 40, .inl (u 17 i))
  | 18 => .inl (L.2.2.1, 40, .inl (u 18 i))
  | 19 => .inl (L.2.2.1, 40, .inl (u 19 i))
  | 20 => .inl (L.2.2.1, 40, .inl (u 20 i))
  | 21 => .inl (L.2.2.2, 40, .inl (u 21 i))
  | 22 => .inl (L.2.2.1, 40, .inl (u 22 i))
  | 23 => .inl (L.2.2.1, 40, .inl (u 23 i))
  | 24 => .inl (L.2.2.1, 40, .inl (u 24 i))
  | _ => .inr (5, [])
theorem rE_same {L : rL} {u u' : mz_S} {k i : Nat} (h : ∀ f, u' k i f = u k i f) : rE L u' k i = rE L u k i := by
  have h2 : u' k i = u k i := funext h
  unfold rE
  split <;> simp [h2]
def rT (L : rL) : List (ClassId × FieldType) := [(L.2.2.1, .int), (L.2.2.2, .boolean)]
def rG (D : va_G) (L : rL) (u : mz_S) (H : Heap) : Prop := mz_G D vwCl (rN L) L.1 (rE L u) H
theorem rG.one {D : va_G} {L : rL} {u : mz_S} {H : Heap} (h : rG D L u H) {k i : Nat} (hi : i < rN L k) : va_P D vwCl [(L.1 k i, rE L u k i)] H := mz_G.one h hi
theorem rG.set {D : va_G} {L : rL} {u u' : mz_S} {H H1 : Heap} {k i : Nat} (h : rG D L u H) (hI : mz_I (rN L) L.1) (hi : i < rN L k) (he : va_at D vwCl (L.1 k i, rE L u' k i) H1) (oq : ∀ q : Nat, q ≠ L.1 k i → H1[q]? = H[q]?) (ho : ∀ k' i' : Nat, ¬ (k' = k ∧ i' = i) → rE L u' k' i' = rE L u k' i') : rG D L u' H1 := mz_G.set h hI hi he oq ho
def rA (L : rL) : Nat → Prop := mz_A (rN L) L.1
def rK (D : va_G) (L : rL) (s : State) : Prop := va_K D vwCl (rT L) s ∧ True
theorem rK_ok {D : va_G} {L : rL} : mz_K (rK D L) := ⟨fun s U hW h => ⟨va_K.moved hW.alike h.1, trivial⟩, fun U V hv h => ⟨va_K.moved (by rw [hv]; exact Vm.Alike.refl _) h.1, trivial⟩⟩
def rL_ok (L : rL) : Prop := (3 ≤ rl_n L ∧ rl_n L ≤ 5 ∧ 1 ≤ rl_c L ∧ rl_c L ≤ 12 ∧ 8 ≤ rl_S L ∧ rl_S L ≤ 40) ∧ mz_I (rN L) L.1
section RW
variable {p : Program} {l : Launch} {e : Env} {R : Room} {s : State} {m : MethodId} {args : Array Value} {below : List Frame} {meth : Method} {c : Code} {H : Heap} {locs : List Loc} {cells slots : Nat} {Q : State → Prop}
variable {cc : ByteArray} {pc : Nat} {ls : Array Slot} {rest : List Value} {D : va_G} {H0 : Heap}
theorem rrecv_0 {L : rL} {u : mz_S} (hK : rK D L s) (hG : rG D L u H) (hi : 0 < 1) : ∃ cell : Cell, H[L.1 0 0]? = some cell ∧ cell.vm.isStatics = false ∧ s.vm.findClass RX5 = some cell.cls := va_recv (q0 := 0) (ci := 5) (q := (RX5, TX5, 27)) hK.1 (hG.one (k := 0) (i := 0) hi) rfl rfl
theorem rg_0 {L : rL} {u : mz_S} {f index : Nat} {v : Value} {Ts : List Cond} {own : String} (hx : p.tables.exec = Jvm.exec) (hb : c.code = cc) (hts : ∀ w ∈ Ts, w.before args s = true) (hin : ∀ w ∈ wsX50, w ∈ Ts) (hown : s.vm.findClass own = some m.cls) (hK : rK D L s) (hG : rG D L u H) (hi : 0 < 1) (hlink : (Cond.fieldLink own index (TX5 f).1 (TX5 f).2.1 (TX5 f).2.2.1).before args s = true) (hf : f < 27) (hv : (rf0 L)[f]? = some v) (hdg : decode cc pc = .ok (.getfield index, 3)) (kk : W p l e R s m args below meth c H locs cells slots Q (F0 m (pc + 3) ls (v :: rest))) : W p l e R s m args below meth c H locs cells slots Q (F0 m pc ls (.ref (L.1 0 0) :: rest)) :=
  va_get (ci := 5) (C := RX5) (T := TX5) (N := 27) hx hb hts hin hown hK.1 (hG.one (k := 0) (i := 0) hi) 0 rfl rfl f hf hlink (fun _ h => h) hv hdg kk
theorem rz_1 {L : rL} {u : mz_S} (hx : p.tables.exec = Jvm.exec) (hb : c.code = cc) (hK : rK D L s) (hG : rG D L u H) (hi : 0 < 1) (hdg : decode cc pc = .ok (.arraylength, 1)) (kk : W p l e R s m args below meth c H locs cells slots Q (F0 m (pc + 1) ls (.int (nI (5)) :: rest))) : W p l e R s m args below meth c H locs cells slots Q (F0 m pc ls (.ref (L.1 1 0) :: rest)) :=
  va_alen hx hb hK.1 (hG.one (k := 1) (i := 0) hi) 0 1 rfl rfl rfl hdg kk
theorem ra_1 {L : rL} {u : mz_S} {x : Int32} (hx : p.tables.exec = Jvm.exec) (hb : c.code = cc) (hK : rK D L s) (hG : rG D L u H) (hi : 0 < 1) (hin : vp_in x (5)) (hdg : decode cc pc = .ok (.baload, 1)) (kk : W p l e R s m args below meth c H locs cells slots Q (F0 m (pc + 1) ls (.int (u 1 0 x.toNatClampNeg) :: rest))) : W p l e R s m args below meth c H locs cells slots Q (F0 m pc ls (.int x :: .ref (L.1 1 0) :: rest)) :=
  va_zald hx hb hK.1 (hG.one (k := 1) (i := 0) hi) 0 1 rfl rfl hin hdg kk
theorem rt_1 {L : rL} {u : mz_S} {x y : Int32} (hx : p.tables.exec = Jvm.exec) (hb : c.code = cc) (hL : rL_ok L) (hK : rK D L s) (hG : rG D L u H) (hS : va_S (rA L) H0 H locs) (hi : 0 < 1) (hin : vp_in x (5)) (hv : narrow .boolean (.int y) = .int y) (hdg : decode cc pc = .ok (.bastore, 1)) (kk : ∀ (H1 : Heap) (locs1 : List Loc), rG D L (mz_u u 1 0 x.toNatClampNeg y) H1 → va_S (rA L) H0 H1 locs1 → W p l e R s m args below meth c H1 locs1 cells slots Q (F0 m (pc + 1) ls rest)) : W p l e R s m args below meth c H locs cells slots Q (F0 m pc ls (.int y :: .int x :: .ref (L.1 1 0) :: rest)) := by
  refine mz_zast hx hb hK.1 1 (hG 1 0 hi) rfl hin hv hdg (fun H1 j he z oq => kk H1 _ ?_ (hS.put z oq (mz_A.in (k := 1) hi)))
  refine hG.set hL.2 (k := 1) hi ?_ oq (fun k' i' h => rE_same (fun f => mz_uo h f))
  rw [show rE L (mz_u u 1 0 x.toNatClampNeg y) 1 0 = .inl (L.2.2.2, 5, .inl (upd (u 1 0) x.toNatClampNeg y)) from by
    have h9 : mz_u u 1 0 x.toNatClampNeg y 1 0 = upd (u 1 0) x.toNatClampNeg y := by
      funext f
      simp [mz_at, upd]
    simp [rE, h9]]
  exact he
theorem rz_2 {L : rL} {u : mz_S} (hx : p.tables.exec = Jvm.exec) (hb : c.code = cc) (hK : rK D L s) (hG : rG D L u H) (hi : 0 < 1) (hdg : decode cc pc = .ok (.arraylength, 1)) (kk : W p l e R s m args below meth c H locs cells slots Q (F0 m (pc + 1) ls (.int (nI (5)) :: rest))) : W p l e R s m args below meth c H locs cells slots Q (F0 m pc ls (.ref (L.1 2 0) :: rest)) :=
  va_alen hx hb hK.1 (hG.one (k := 2) (i := 0) hi) 0 0 rfl rfl rfl hdg kk
theorem ra_2 {L : rL} {u : mz_S} {x : Int32} (hx : p.tables.exec = Jvm.exec) (hb : c.code = cc) (hK : rK D L s) (hG : rG D L u H) (hi : 0 < 1) (hin : vp_in x (5)) (hdg : decode cc pc = .ok (.iaload, 1)) (kk : W p l e R s m args below meth c H locs cells slots Q (F0 m (pc + 1) ls (.int (u 2 0 x.toNatClampNeg) :: rest))) : W p l e R s m args below meth c H locs cells slots Q (F0 m pc ls (.int x :: .ref (L.1 2 0) :: rest)) :=
  va_iald hx hb hK.1 (hG.one (k := 2) (i := 0) hi) 0 0 rfl rfl hin hdg kk
theorem rt_2 {L : rL} {u : mz_S} {x y : Int32} (hx : p.tables.exec = Jvm.exec) (hb : c.code = cc) (hL : rL_ok L) (hK : rK D L s) (hG : rG D L u H) (hS : va_S (rA L) H0 H locs) (hi : 0 < 1) (hin : vp_in x (5)) (hdg : decode cc pc = .ok (.iastore, 1)) (kk : ∀ (H1 : Heap) (locs1 : List Loc), rG D L (mz_u u 2 0 x.toNatClampNeg y) H1 → va_S (rA L) H0 H1 locs1 → W p l e R s m args below meth c H1 locs1 cells slots Q (F0 m (pc + 1) ls rest)) : W p l e R s m args below meth c H locs cells slots Q (F0 m pc ls (.int y :: .int x :: .ref (L.1 2 0) :: rest)) := by
  refine mz_iast hx hb hK.1 0 (hG 2 0 hi) rfl hin hdg (fun H1 j he z oq => kk H1 _ ?_ (hS.put z oq (mz_A.in (k := 2) hi)))
  refine hG.set hL.2 (k := 2) hi ?_ oq (fun k' i' h => rE_same (fun f => mz_uo h f))
  rw [show rE L (mz_u u 2 0 x.toNatClampNeg y) 2 0 = .inl (L.2.2.1, 5, .inl (upd (u 2 0) x.toNatClampNeg y)) from by
    have h9 : mz_u u 2 0 x.toNatClampNeg y 2 0 = upd (u 2 0) x.toNatClampNeg y := by
      funext f
      simp [mz_at, upd]
    simp [rE, h9]]
  exact he
theorem rz_3 {L : rL} {u : mz_S} (hx : p.tables.exec = Jvm.exec) (hb : c.code = cc) (hK : rK D L s) (hG : rG D L u H) (hi : 0 < 1) (hdg : decode cc pc = .ok (.arraylength, 1)) (kk : W p l e R s m args below meth c H locs cells slots Q (F0 m (pc + 1) ls (.int (nI (5)) :: rest))) : W p l e R s m args below meth c H locs cells slots Q (F0 m pc ls (.ref (L.1 3 0) :: rest)) :=
  va_alen hx hb hK.1 (hG.one (k := 3) (i := 0) hi) 0 0 rfl rfl rfl hdg kk
theorem ra_3 {L : rL} {u : mz_S} {x : Int32} (hx : p.tables.exec = Jvm.exec) (hb : c.code = cc) (hK : rK D L s) (hG : rG D L u H) (hi : 0 < 1) (hin : vp_in x (5)) (hdg : decode cc pc = .ok (.iaload, 1)) (kk : W p l e R s m args below meth c H locs cells slots Q (F0 m (pc + 1) ls (.int (u 3 0 x.toNatClampNeg) :: rest))) : W p l e R s m args below meth c H locs cells slots Q (F0 m pc ls (.int x :: .ref (L.1 3 0) :: rest)) :=
  va_iald hx hb hK.1 (hG.one (k := 3) (i := 0) hi) 0 0 rfl rfl hin hdg kk
theorem rt_3 {L : rL} {u : mz_S} {x y : Int32} (hx : p.tables.exec = Jvm.exec) (hb : c.code = cc) (hL : rL_ok L) (hK : rK D L s) (hG : rG D L u H) (hS : va_S (rA L) H0 H locs) (hi : 0 < 1) (hin : vp_in x (5)) (hdg : decode cc pc = .ok (.iastore, 1)) (kk : ∀ (H1 : Heap) (locs1 : List Loc), rG D L (mz_u u 3 0 x.toNatClampNeg y) H1 → va_S (rA L) H0 H1 locs1 → W p l e R s m args below meth c H1 locs1 cells slots Q (F0 m (pc + 1) ls rest)) : W p l e R s m args below meth c H locs cells slots Q (F0 m pc ls (.int y :: .int x :: .ref (L.1 3 0) :: rest)) := by
  refine mz_iast hx hb hK.1 0 (hG 3 0 hi) rfl hin hdg (fun H1 j he z oq => kk H1 _ ?_ (hS.put z oq (mz_A.in (k := 3) hi)))
  refine hG.set hL.2 (k := 3) hi ?_ oq (fun k' i' h => rE_same (fun f => mz_uo h f))
  rw [show rE L (mz_u u 3 0 x.toNatClampNeg y) 3 0 = .inl (L.2.2.1, 5, .inl (upd (u 3 0) x.toNatClampNeg y)) from by
    have h9 : mz_u u 3 0 x.toNatClampNeg y 3 0 = upd (u 3 0) x.toNatClampNeg y := by
      funext f
      simp [mz_at, upd]
    simp [rE, h9]]
  exact he
theorem rz_4 {L : rL} {u : mz_S} (hx : p.tables.exec = Jvm.exec) (hb : c.code = cc) (hK : rK D L s) (hG : rG D L u H) (hi : 0 < 1) (hdg : decode cc pc = .ok (.arraylength, 1)) (kk : W p l e R s m args below meth c H locs cells slots Q (F0 m (pc + 1) ls (.int (nI (5)) :: rest))) : W p l e R s m args below meth c H locs cells slots Q (F0 m pc ls (.ref (L.1 4 0) :: rest)) :=
  va_alen hx hb hK.1 (hG.one (k := 4) (i := 0) hi) 0 0 rfl rfl rfl hdg kk
theorem ra_4 {L : rL} {u : mz_S} {x : Int32} (hx : p.tables.exec = Jvm.exec) (hb : c.code = cc) (hK : rK D L s) (hG : rG D L u H) (hi : 0 < 1) (hin : vp_in x (5)) (hdg : decode cc pc = .ok (.iaload, 1)) (kk : W p l e R s m args below meth c H locs cells slots Q (F0 m (pc + 1) ls (.int (u 4 0 x.toNatClampNeg) :: rest))) : W p l e R s m args below meth c H locs cells slots Q (F0 m pc ls (.int x :: .ref (L.1 4 0) :: rest)) :=
  va_iald hx hb hK.1 (hG.one (k := 4) (i := 0) hi) 0 0 rfl rfl hin hdg kk
theorem rt_4 {L : rL} {u : mz_S} {x y : Int32} (hx : p.tables.exec = Jvm.exec) (hb : c.code = cc) (hL : rL_ok L) (hK : rK D L s) (hG : rG D L u H) (hS : va_S (rA L) H0 H locs) (hi : 0 < 1) (hin : vp_in x (5)) (hdg : decode cc pc = .ok (.iastore, 1)) (kk : ∀ (H1 : Heap) (locs1 : List Loc), rG D L (mz_u u 4 0 x.toNatClampNeg y) H1 → va_S (rA L) H0 H1 locs1 → W p l e R s m args below meth c H1 locs1 cells slots Q (F0 m (pc + 1) ls rest)) : W p l e R s m args below meth c H locs cells slots Q (F0 m pc ls (.int y :: .int x :: .ref (L.1 4 0) :: rest)) := by
  refine mz_iast hx hb hK.1 0 (hG 4 0 hi) rfl hin hdg (fun H1 j he z oq => kk H1 _ ?_ (hS.put z oq (mz_A.in (k := 4) hi)))
  refine hG.set hL.2 (k := 4) hi ?_ oq (fun k' i' h => rE_same (fun f => mz_uo h f))
  rw [show rE L (mz_u u 4 0 x.toNatClampNeg y) 4 0 = .inl (L.2.2.1, 5, .inl (upd (u 4 0) x.toNatClampNeg y)) from by
    have h9 : mz_u u 4 0 x.toNatClampNeg y 4 0 = upd (u 4 0) x.toNatClampNeg y := by
      funext f
      simp [mz_at, upd]
    simp [rE, h9]]
  exact he
theorem rz_5 {L : rL} {u : mz_S} (hx : p.tables.exec = Jvm.exec) (hb : c.code = cc) (hK : rK D L s) (hG : rG D L u H) (hi : 0 < 1) (hdg : decode cc pc = .ok (.arraylength, 1)) (kk : W p l e R s m args below meth c H locs cells slots Q (F0 m (pc + 1) ls (.int (nI (5)) :: rest))) : W p l e R s m args below meth c H locs cells slots Q (F0 m pc ls (.ref (L.1 5 0) :: rest)) :=
  va_alen hx hb hK.1 (hG.one (k := 5) (i := 0) hi) 0 0 rfl rfl rfl hdg kk
theorem ra_5 {L : rL} {u : mz_S} {x : Int32} (hx : p.tables.exec = Jvm.exec) (hb : c.code = cc) (hK : rK D L s) (hG : rG D L u H) (hi : 0 < 1) (hin : vp_in x (5)) (hdg : decode cc pc = .ok (.iaload, 1)) (kk : W p l e R s m args below meth c H locs cells slots Q (F0 m (pc + 1) ls (.int (u 5 0 x.toNatClampNeg) :: rest))) : W p l e R s m args below meth c H locs cells slots Q (F0 m pc ls (.int x :: .ref (L.1 5 0) :: rest)) :=
  va_iald hx hb hK.1 (hG.one (k := 5) (i := 0) hi) 0 0 rfl rfl hin hdg kk
theorem rt_5 {L : rL} {u : mz_S} {x y : Int32} (hx : p.tables.exec = Jvm.exec) (hb : c.code = cc) (hL : rL_ok L) (hK : rK D L s) (hG : rG D L u H) (hS : va_S (rA L) H0 H locs) (hi : 0 < 1) (hin : vp_in x (5)) (hdg : decode cc pc = .ok (.iastore, 1)) (kk : ∀ (H1 : Heap) (locs1 : List Loc), rG D L (mz_u u 5 0 x.toNatClampNeg y) H1 → va_S (rA L) H0 H1 locs1 → W p l e R s m args below meth c H1 locs1 cells slots Q (F0 m (pc + 1) ls rest)) : W p l e R s m args below meth c H locs cells slots Q (F0 m pc ls (.int y :: .int x :: .ref (L.1 5 0) :: rest)) := by
  refine mz_iast hx hb hK.1 0 (hG 5 0 hi) rfl hin hdg (fun H1 j he z oq => kk H1 _ ?_ (hS.put z oq (mz_A.in (k := 5) hi)))
  refine hG.set hL.2 (k := 5) hi ?_ oq (fun k' i' h => rE_same (fun f => mz_uo h f))
  rw [show rE L (mz_u u 5 0 x.toNatClampNeg y) 5 0 = .inl (L.2.2.1, 5, .inl (upd (u 5 0) x.toNatClampNeg y)) from by
    have h9 : mz_u u 5 0 x.toNatClampNeg y 5 0 = upd (u 5 0) x.toNatClampNeg y := by
      funext f
      simp [mz_at, upd]
    simp [rE, h9]]
  exact he
theorem rz_6 {L : rL} {u : mz_S} (hx : p.tables.exec = Jvm.exec) (hb : c.code = cc) (hK : rK D L s) (hG : rG D L u H) (hi : 0 < 1) (hdg : decode cc pc = .ok (.arraylength, 1)) (kk : W p l e R s m args below meth c H locs cells slots Q (F0 m (pc + 1) ls (.int (nI (5)) :: rest))) : W p l e R s m args below meth c H locs cells slots Q (F0 m pc ls (.ref (L.1 6 0) :: rest)) :=
  va_alen hx hb hK.1 (hG.one (k := 6) (i := 0) hi) 0 0 rfl rfl rfl hdg kk
theorem ra_6 {L : rL} {u : mz_S} {x : Int32} (hx : p.tables.exec = Jvm.exec) (hb : c.code = cc) (hK : rK D L s) (hG : rG D L u H) (hi : 0 < 1) (hin : vp_in x (5)) (hdg : decode cc pc = .ok (.iaload, 1)) (kk : W p l e R s m args below meth c H locs cells slots Q (F0 m (pc + 1) ls (.int (u 6 0 x.toNatClampNeg) :: rest))) : W p l e R s m args below meth c H locs cells slots Q (F0 m pc ls (.int x :: .ref (L.1 6 0) :: rest)) :=
  va_iald hx hb hK.1 (hG.one (k := 6) (i := 0) hi) 0 0 rfl rfl hin hdg kk
theorem rt_6 {L : rL} {u : mz_S} {x y : Int32} (hx : p.tables.exec = Jvm.exec) (hb : c.code = cc) (hL : rL_ok L) (hK : rK D L s) (hG : rG D L u H) (hS : va_S (rA L) H0 H locs) (hi : 0 < 1) (hin : vp_in x (5)) (hdg : decode cc pc = .ok (.iastore, 1)) (kk : ∀ (H1 : Heap) (locs1 : List Loc), rG D L (mz_u u 6 0 x.toNatClampNeg y) H1 → va_S (rA L) H0 H1 locs1 → W p l e R s m args below meth c H1 locs1 cells slots Q (F0 m (pc + 1) ls rest)) : W p l e R s m args below meth c H locs cells slots Q (F0 m pc ls (.int y :: .int x :: .ref (L.1 6 0) :: rest)) := by
  refine mz_iast hx hb hK.1 0 (hG 6 0 hi) rfl hin hdg (fun H1 j he z oq => kk H1 _ ?_ (hS.put z oq (mz_A.in (k := 6) hi)))
  refine hG.set hL.2 (k := 6) hi ?_ oq (fun k' i' h => rE_same (fun f => mz_uo h f))
  rw [show rE L (mz_u u 6 0 x.toNatClampNeg y) 6 0 = .inl (L.2.2.1, 5, .inl (upd (u 6 0) x.toNatClampNeg y)) from by
    have h9 : mz_u u 6 0 x.toNatClampNeg y 6 0 = upd (u 6 0) x.toNatClampNeg y := by
      funext f
      simp [mz_at, upd]
    simp [rE, h9]]
  exact he
theorem rz_7 {L : rL} {u : mz_S} (hx : p.tables.exec = Jvm.exec) (hb : c.code = cc) (hK : rK D L s) (hG : rG D L u H) (hi : 0 < 1) (hdg : decode cc pc = .ok (.arraylength, 1)) (kk : W p l e R s m args below meth c H locs cells slots Q (F0 m (pc + 1) ls (.int (nI (5)) :: rest))) : W p l e R s m args below meth c H locs cells slots Q (F0 m pc ls (.ref (L.1 7 0) :: rest)) :=
  va_alen hx hb hK.1 (hG.one (k := 7) (i := 0) hi) 0 0 rfl rfl rfl hdg kk
theorem ra_7 {L : rL} {u : mz_S} {x : Int32} (hx : p.tables.exec = Jvm.exec) (hb : c.code = cc) (hK : rK D L s) (hG : rG D L u H) (hi : 0 < 1) (hin : vp_in x (5)) (hdg : decode cc pc = .ok (.iaload, 1)) (kk : W p l e R s m args below meth c H locs cells slots Q (F0 m (pc + 1) ls (.int (u 7 0 x.toNatClampNeg) :: rest))) : W p l e R s m args below meth c H locs cells slots Q (F0 m pc ls (.int x :: .ref (L.1 7 0) :: rest)) :=
  va_iald hx hb hK.1 (hG.one (k := 7) (i := 0) hi) 0 0 rfl rfl hin hdg kk
theorem rt_7 {L : rL} {u : mz_S} {x y : Int32} (hx : p.tables.exec = Jvm.exec) (hb : c.code = cc) (hL : rL_ok L) (hK : rK D L s) (hG : rG D L u H) (hS : va_S (rA L) H0 H locs) (hi : 0 < 1) (hin : vp_in x (5)) (hdg : decode cc pc = .ok (.iastore, 1)) (kk : ∀ (H1 : Heap) (locs1 : List Loc), rG D L (mz_u u 7 0 x.toNatClampNeg y) H1 → va_S (rA L) H0 H1 locs1 → W p l e R s m args below meth c H1 locs1 cells slots Q (F0 m (pc + 1) ls rest)) : W p l e R s m args below meth c H locs cells slots Q (F0 m pc ls (.int y :: .int x :: .ref (L.1 7 0) :: rest)) := by
  refine mz_iast hx hb hK.1 0 (hG 7 0 hi) rfl hin hdg (fun H1 j he z oq => kk H1 _ ?_ (hS.put z oq (mz_A.in (k := 7) hi)))
  refine hG.set hL.2 (k := 7) hi ?_ oq (fun k' i' h => rE_same (fun f => mz_uo h f))
  rw [show rE L (mz_u u 7 0 x.toNatClampNeg y) 7 0 = .inl (L.2.2.1, 5, .inl (upd (u 7 0) x.toNatClampNeg y)) from by
    have h9 : mz_u u 7 0 x.toNatClampNeg y 7 0 = upd (u 7 0) x.toNatClampNeg y := by
      funext f
      simp [mz_at, upd]
    simp [rE, h9]]
  exact he
theorem rz_8 {L : rL} {u : mz_S} (hx : p.tables.exec = Jvm.exec) (hb : c.code = cc) (hK : rK D L s) (hG : rG D L u H) (hi : 0 < 1) (hdg : decode cc pc = .ok (.arraylength, 1)) (kk : W p l e R s m args below meth c H locs cells slots Q (F0 m (pc + 1) ls (.int (nI (5)) :: rest))) : W p l e R s m args below meth c H locs cells slots Q (F0 m pc ls (.ref (L.1 8 0) :: rest)) :=
  va_alen hx hb hK.1 (hG.one (k := 8) (i := 0) hi) 0 0 rfl rfl rfl hdg kk
theorem ra_8 {L : rL} {u : mz_S} {x : Int32} (hx : p.tables.exec = Jvm.exec) (hb : c.code = cc) (hK : rK D L s) (hG : rG D L u H) (hi : 0 < 1) (hin : vp_in x (5)) (hdg : decode cc pc = .ok (.iaload, 1)) (kk : W p l e R s m args below meth c H locs cells slots Q (F0 m (pc + 1) ls (.int (u 8 0 x.toNatClampNeg) :: rest))) : W p l e R s m args below meth c H locs cells slots Q (F0 m pc ls (.int x :: .ref (L.1 8 0) :: rest)) :=
  va_iald hx hb hK.1 (hG.one (k := 8) (i := 0) hi) 0 0 rfl rfl hin hdg kk
theorem rt_8 {L : rL} {u : mz_S} {x y : Int32} (hx : p.tables.exec = Jvm.exec) (hb : c.code = cc) (hL : rL_ok L) (hK : rK D L s) (hG : rG D L u H) (hS : va_S (rA L) H0 H locs) (hi : 0 < 1) (hin : vp_in x (5)) (hdg : decode cc pc = .ok (.iastore, 1)) (kk : ∀ (H1 : Heap) (locs1 : List Loc), rG D L (mz_u u 8 0 x.toNatClampNeg y) H1 → va_S (rA L) H0 H1 locs1 → W p l e R s m args below meth c H1 locs1 cells slots Q (F0 m (pc + 1) ls rest)) : W p l e R s m args below meth c H locs cells slots Q (F0 m pc ls (.int y :: .int x :: .ref (L.1 8 0) :: rest)) := by
  refine mz_iast hx hb hK.1 0 (hG 8 0 hi) rfl hin hdg (fun H1 j he z oq => kk H1 _ ?_ (hS.put z oq (mz_A.in (k := 8) hi)))
  refine hG.set hL.2 (k := 8) hi ?_ oq (fun k' i' h => rE_same (fun f => mz_uo h f))
  rw [show rE L (mz_u u 8 0 x.toNatClampNeg y) 8 0 = .inl (L.2.2.1, 5, .inl (upd (u 8 0) x.toNatClampNeg y)) from by
    have h9 : mz_u u 8 0 x.toNatClampNeg y 8 0 = upd (u 8 0) x.toNatClampNeg y := by
      funext f
      simp [mz_at, upd]
    simp [rE, h9]]
  exact he
theorem rz_9 {L : rL} {u : mz_S} (hx : p.tables.exec = Jvm.exec) (hb : c.code = cc) (hK : rK D L s) (hG : rG D L u H) (hi : 0 < 1) (hdg : decode cc pc = .ok (.arraylength, 1)) (kk : W p l e R s m args below meth c H locs cells slots Q (F0 m (pc + 1) ls (.int (nI (5)) :: rest))) : W p l e R s m args below meth c H locs cells slots Q (F0 m pc ls (.ref (L.1 9 0) :: rest)) :=
  va_alen hx hb hK.1 (hG.one (k := 9) (i := 0) hi) 0 0 rfl rfl rfl hdg kk
theorem ra_9 {L : rL} {u : mz_S} {x : Int32} (hx : p.tables.exec = Jvm.exec) (hb : c.code = cc) (hK : rK D L s) (hG : rG D L u H) (hi : 0 < 1) (hin : vp_in x (5)) (hdg : decode cc pc = .ok (.iaload, 1)) (kk : W p l e R s m args below meth c H locs cells slots Q (F0 m (pc + 1) ls (.int (u 9 0 x.toNatClampNeg) :: rest))) : W p l e R s m args below meth c H locs cells slots Q (F0 m pc ls (.int x :: .ref (L.1 9 0) :: rest)) :=
  va_iald hx hb hK.1 (hG.one (k := 9) (i := 0) hi) 0 0 rfl rfl hin hdg kk
theorem rt_9 {L : rL} {u : mz_S} {x y : Int32} (hx : p.tables.exec = Jvm.exec) (hb : c.code = cc) (hL : rL_ok L) (hK : rK D L s) (hG : rG D L u H) (hS : va_S (rA L) H0 H locs) (hi : 0 < 1) (hin : vp_in x (5)) (hdg : decode cc pc = .ok (.iastore, 1)) (kk : ∀ (H1 : Heap) (locs1 : List Loc), rG D L (mz_u u 9 0 x.toNatClampNeg y) H1 → va_S (rA L) H0 H1 locs1 → W p l e R s m args below meth c H1 locs1 cells slots Q (F0 m (pc + 1) ls rest)) : W p l e R s m args below meth c H locs cells slots Q (F0 m pc ls (.int y :: .int x :: .ref (L.1 9 0) :: rest)) := by
  refine mz_iast hx hb hK.1 0 (hG 9 0 hi) rfl hin hdg (fun H1 j he z oq => kk H1 _ ?_ (hS.put z oq (mz_A.in (k := 9) hi)))
  refine hG.set hL.2 (k := 9) hi ?_ oq (fun k' i' h => rE_same (fun f => mz_uo h f))
  rw [show rE L (mz_u u 9 0 x.toNatClampNeg y) 9 0 = .inl (L.2.2.1, 5, .inl (upd (u 9 0) x.toNatClampNeg y)) from by
    have h9 : mz_u u 9 0 x.toNatClampNeg y 9 0 = upd (u 9 0) x.toNatClampNeg y := by
      funext f
      simp [mz_at, upd]
    simp [rE, h9]]
  exact he
theorem rz_10 {L : rL} {u : mz_S} (hx : p.tables.exec = Jvm.exec) (hb : c.code = cc) (hK : rK D L s) (hG : rG D L u H) (hi : 0 < 1) (hdg : decode cc pc = .ok (.arraylength, 1)) (kk : W p l e R s m args below meth c H locs cells slots Q (F0 m (pc + 1) ls (.int (nI (5)) :: rest))) : W p l e R s m args below meth c H locs cells slots Q (F0 m pc ls (.ref (L.1 10 0) :: rest)) :=
  va_alen hx hb hK.1 (hG.one (k := 10) (i := 0) hi) 0 0 rfl rfl rfl hdg kk
theorem ra_10 {L : rL} {u : mz_S} {x : Int32} (hx : p.tables.exec = Jvm.exec) (hb : c.code = cc) (hK : rK D L s) (hG : rG D L u H) (hi : 0 < 1) (hin : vp_in x (5)) (hdg : decode cc pc = .ok (.iaload, 1)) (kk : W p l e R s m args below meth c H locs cells slots Q (F0 m (pc + 1) ls (.int (u 10 0 x.toNatClampNeg) :: rest))) : W p l e R s m args below meth c H locs cells slots Q (F0 m pc ls (.int x :: .ref (L.1 10 0) :: rest)) :=
  va_iald hx hb hK.1 (hG.one (k := 10) (i := 0) hi) 0 0 rfl rfl hin hdg kk
theorem rt_10 {L : rL} {u : mz_S} {x y : Int32} (hx : p.tables.exec = Jvm.exec) (hb : c.code = cc) (hL : rL_ok L) (hK : rK D L s) (hG : rG D L u H) (hS : va_S (rA L) H0 H locs) (hi : 0 < 1) (hin : vp_in x (5)) (hdg : decode cc pc = .ok (.iastore, 1)) (kk : ∀ (H1 : Heap) (locs1 : List Loc), rG D L (mz_u u 10 0 x.toNatClampNeg y) H1 → va_S (rA L) H0 H1 locs1 → W p l e R s m args below meth c H1 locs1 cells slots Q (F0 m (pc + 1) ls rest)) : W p l e R s m args below meth c H locs cells slots Q (F0 m pc ls (.int y :: .int x :: .ref (L.1 10 0) :: rest)) := by
  refine mz_iast hx hb hK.1 0 (hG 10 0 hi) rfl hin hdg (fun H1 j he z oq => kk H1 _ ?_ (hS.put z oq (mz_A.in (k := 10) hi)))
  refine hG.set hL.2 (k := 10) hi ?_ oq (fun k' i' h => rE_same (fun f => mz_uo h f))
  rw [show rE L (mz_u u 10 0 x.toNatClampNeg y) 10 0 = .inl (L.2.2.1, 5, .inl (upd (u 10 0) x.toNatClampNeg y)) from by
    have h9 : mz_u u 10 0 x.toNatClampNeg y 10 0 = upd (u 10 0) x.toNatClampNeg y := by
      funext f
      simp [mz_at, upd]
    simp [rE, h9]]
  exact he
theorem rz_11 {L : rL} {u : mz_S} (hx : p.tables.exec = Jvm.exec) (hb : c.code = cc) (hK : rK D L s) (hG : rG D L u H) (hi : 0 < 1) (hdg : decode cc pc = .ok (.arraylength, 1)) (kk : W p l e R s m args below meth c H locs cells slots Q (F0 m (pc + 1) ls (.int (nI (60)) :: rest))) : W p l e R s m args below meth c H locs cells slots Q (F0 m pc ls (.ref (L.1 11 0) :: rest)) :=
  va_alen hx hb hK.1 (hG.one (k := 11) (i := 0) hi) 0 0 rfl rfl rfl hdg kk
theorem ra_11 {L : rL} {u : mz_S} {x : Int32} (hx : p.tables.exec = Jvm.exec) (hb : c.code = cc) (hK : rK D L s) (hG : rG D L u H) (hi : 0 < 1) (hin : vp_in x (60)) (hdg : decode cc pc = .ok (.iaload, 1)) (kk : W p l e R s m args below meth c H locs cells slots Q (F0 m (pc + 1) ls (.int (u 11 0 x.toNatClampNeg) :: rest))) : W p l e R s m args below meth c H locs cells slots Q (F0 m pc ls (.int x :: .ref (L.1 11 0) :: rest)) :=
  va_iald hx hb hK.1 (hG.one (k := 11) (i := 0) hi) 0 0 rfl rfl hin hdg kk
theorem rt_11 {L : rL} {u : mz_S} {x y : Int32} (hx : p.tables.exec = Jvm.exec) (hb : c.code = cc) (hL : rL_ok L) (hK : rK D L s) (hG : rG D L u H) (hS : va_S (rA L) H0 H locs) (hi : 0 < 1) (hin : vp_in x (60)) (hdg : decode cc pc = .ok (.iastore, 1)) (kk : ∀ (H1 : Heap) (locs1 : List Loc), rG D L (mz_u u 11 0 x.toNatClampNeg y) H1 → va_S (rA L) H0 H1 locs1 → W p l e R s m args below meth c H1 locs1 cells slots Q (F0 m (pc + 1) ls rest)) : W p l e R s m args below meth c H locs cells slots Q (F0 m pc ls (.int y :: .int x :: .ref (L.1 11 0) :: rest)) := by
  refine mz_iast hx hb hK.1 0 (hG 11 0 hi) rfl hin hdg (fun H1 j he z oq => kk H1 _ ?_ (hS.put z oq (mz_A.in (k := 11) hi)))
  refine hG.set hL.2 (k := 11) hi ?_ oq (fun k' i' h => rE_same (fun f => mz_uo h f))
  rw [show rE L (mz_u u 11 0 x.toNatClampNeg y) 11 0 = .inl (L.2.2.1, 60, .inl (upd (u 11 0) x.toNatClampNeg y)) from by
    have h9 : mz_u u 11 0 x.toNatClampNeg y 11 0 = upd (u 11 0) x.toNatClampNeg y := by
      funext f
      simp [mz_at, upd]
    simp [rE, h9]]
  exact he
theorem rz_12 {L : rL} {u : mz_S} (hx : p.tables.exec = Jvm.exec) (hb : c.code = cc) (hK : rK D L s) (hG : rG D L u H) (hi : 0 < 1) (hdg : decode cc pc = .ok (.arraylength, 1)) (kk : W p l e R s m args below meth c H locs cells slots Q (F0 m (pc + 1) ls (.int (nI (60)) :: rest))) : W p l e R s m args below meth c H locs cells slots Q (F0 m pc ls (.ref (L.1 12 0) :: rest)) :=
  va_alen hx hb hK.1 (hG.one (k := 12) (i := 0) hi) 0 0 rfl rfl rfl hdg kk
theorem ra_12 {L : rL} {u : mz_S} {x : Int32} (hx : p.tables.exec = Jvm.exec) (hb : c.code = cc) (hK : rK D L s) (hG : rG D L u H) (hi : 0 < 1) (hin : vp_in x (60)) (hdg : decode cc pc = .ok (.iaload, 1)) (kk : W p l e R s m args below meth c H locs cells slots Q (F0 m (pc + 1) ls (.int (u 12 0 x.toNatClampNeg) :: rest))) : W p l e R s m args below meth c H locs cells slots Q (F0 m pc ls (.int x :: .ref (L.1 12 0) :: rest)) :=
  va_iald hx hb hK.1 (hG.one (k := 12) (i := 0) hi) 0 0 rfl rfl hin hdg kk
theorem rt_12 {L : rL} {u : mz_S} {x y : Int32} (hx : p.tables.exec = Jvm.exec) (hb : c.code = cc) (hL : rL_ok L) (hK : rK D L s) (hG : rG D L u H) (hS : va_S (rA L) H0 H locs) (hi : 0 < 1) (hin : vp_in x (60)) (hdg : decode cc pc = .ok (.iastore, 1)) (kk : ∀ (H1 : Heap) (locs1 : List Loc), rG D L (mz_u u 12 0 x.toNatClampNeg y) H1 → va_S (rA L) H0 H1 locs1 → W p l e R s m args below meth c H1 locs1 cells slots Q (F0 m (pc + 1) ls rest)) : W p l e R s m args below meth c H locs cells slots Q (F0 m pc ls (.int y :: .int x :: .ref (L.1 12 0) :: rest)) := by
  refine mz_iast hx hb hK.1 0 (hG 12 0 hi) rfl hin hdg (fun H1 j he z oq => kk H1 _ ?_ (hS.put z oq (mz_A.in (k := 12) hi)))
  refine hG.set hL.2 (k := 12) hi ?_ oq (fun k' i' h => rE_same (fun f => mz_uo h f))
  rw [show rE L (mz_u u 12 0 x.toNatClampNeg y) 12 0 = .inl (L.2.2.1, 60, .inl (upd (u 12 0) x.toNatClampNeg y)) from by
    have h9 : mz_u u 12 0 x.toNatClampNeg y 12 0 = upd (u 12 0) x.toNatClampNeg y := by
      funext f
      simp [mz_at, upd]
    simp [rE, h9]]
  exact he
theorem rz_13 {L : rL} {u : mz_S} (hx : p.tables.exec = Jvm.exec) (hb : c.code = cc) (hK : rK D L s) (hG : rG D L u H) (hi : 0 < 1) (hdg : decode cc pc = .ok (.arraylength, 1)) (kk : W p l e R s m args below meth c H locs cells slots Q (F0 m (pc + 1) ls (.int (nI (25)) :: rest))) : W p l e R s m args below meth c H locs cells slots Q (F0 m pc ls (.ref (L.1 13 0) :: rest)) :=
  va_alen hx hb hK.1 (hG.one (k := 13) (i := 0) hi) 0 0 rfl rfl rfl hdg kk
theorem ra_13 {L : rL} {u : mz_S} {x : Int32} (hx : p.tables.exec = Jvm.exec) (hb : c.code = cc) (hK : rK D L s) (hG : rG D L u H) (hi : 0 < 1) (hin : vp_in x (25)) (hdg : decode cc pc = .ok (.iaload, 1)) (kk : W p l e R s m args below meth c H locs cells slots Q (F0 m (pc + 1) ls (.int (u 13 0 x.toNatClampNeg) :: rest))) : W p l e R s m args below meth c H locs cells slots Q (F0 m pc ls (.int x :: .ref (L.1 13 0) :: rest)) :=
  va_iald hx hb hK.1 (hG.one (k := 13) (i := 0) hi) 0 0 rfl rfl hin hdg kk
theorem rt_13 {L : rL} {u : mz_S} {x y : Int32} (hx : p.tables.exec = Jvm.exec) (hb : c.code = cc) (hL : rL_ok L) (hK : rK D L s) (hG : rG D L u H) (hS : va_S (rA L) H0 H locs) (hi : 0 < 1) (hin : vp_in x (25)) (hdg : decode cc pc = .ok (.iastore, 1)) (kk : ∀ (H1 : Heap) (locs1 : List Loc), rG D L (mz_u u 13 0 x.toNatClampNeg y) H1 → va_S (rA L) H0 H1 locs1 → W p l e R s m args below meth c H1 locs1 cells slots Q (F0 m (pc + 1) ls rest)) : W p l e R s m args below meth c H locs cells slots Q (F0 m pc ls (.int y :: .int x :: .ref (L.1 13 0) :: rest)) := by
  refine mz_iast hx hb hK.1 0 (hG 13 0 hi) rfl hin hdg (fun H1 j he z oq => kk H1 _ ?_ (hS.put z oq (mz_A.in (k := 13) hi)))
  refine hG.set hL.2 (k := 13) hi ?_ oq (fun k' i' h => rE_same (fun f => mz_uo h f))
  rw [show rE L (mz_u u 13 0 x.toNatClampNeg y) 13 0 = .inl (L.2.2.1, 25, .inl (upd (u 13 0) x.toNatClampNeg y)) from by
    have h9 : mz_u u 13 0 x.toNatClampNeg y 13 0 = upd (u 13 0) x.toNatClampNeg y := by
      funext f
      simp [mz_at, upd]
    simp [rE, h9]]
  exact he
theorem rz_14 {L : rL} {u : mz_S} (hx : p.tables.exec = Jvm.exec) (hb : c.code = cc) (hK : rK D L s) (hG : rG D L u H) (hi : 0 < 1) (hdg : decode cc pc = .ok (.arraylength, 1)) (kk : W p l e R s m args below meth c H locs cells slots Q (F0 m (pc + 1) ls (.int (nI (25)) :: rest))) : W p l e R s m args below meth c H locs cells slots Q (F0 m pc ls (.ref (L.1 14 0) :: rest)) :=
  va_alen hx hb hK.1 (hG.one (k := 14) (i := 0) hi) 0 0 rfl rfl rfl hdg kk
theorem ra_14 {L : rL} {u : mz_S} {x : Int32} (hx : p.tables.exec = Jvm.exec) (hb : c.code = cc) (hK : rK D L s) (hG : rG D L u H) (hi : 0 < 1) (hin : vp_in x (25)) (hdg : decode cc pc = .ok (.iaload, 1)) (kk : W p l e R s m args below meth c H locs cells slots Q (F0 m (pc + 1) ls (.int (u 14 0 x.toNatClampNeg) :: rest))) : W p l e R s m args below meth c H locs cells slots Q (F0 m pc ls (.int x :: .ref (L.1 14 0) :: rest)) :=
  va_iald hx hb hK.1 (hG.one (k := 14) (i := 0) hi) 0 0 rfl rfl hin hdg kk
theorem rt_14 {L : rL} {u : mz_S} {x y : Int32} (hx : p.tables.exec = Jvm.exec) (hb : c.code = cc) (hL : rL_ok L) (hK : rK D L s) (hG : rG D L u H) (hS : va_S (rA L) H0 H locs) (hi : 0 < 1) (hin : vp_in x (25)) (hdg : decode cc pc = .ok (.iastore, 1)) (kk : ∀ (H1 : Heap) (locs1 : List Loc), rG D L (mz_u u 14 0 x.toNatClampNeg y) H1 → va_S (rA L) H0 H1 locs1 → W p l e R s m args below meth c H1 locs1 cells slots Q (F0 m (pc + 1) ls rest)) : W p l e R s m args below meth c H locs cells slots Q (F0 m pc ls (.int y :: .int x :: .ref (L.1 14 0) :: rest)) := by
  refine mz_iast hx hb hK.1 0 (hG 14 0 hi) rfl hin hdg (fun H1 j he z oq => kk H1 _ ?_ (hS.put z oq (mz_A.in (k := 14) hi)))
  refine hG.set hL.2 (k := 14) hi ?_ oq (fun k' i' h => rE_same (fun f => mz_uo h f))
  rw [show rE L (mz_u u 14 0 x.toNatClampNeg y) 14 0 = .inl (L.2.2.1, 25, .inl (upd (u 14 0) x.toNatClampNeg y)) from by
    have h9 : mz_u u 14 0 x.toNatClampNeg y 14 0 = upd (u 14 0) x.toNatClampNeg y := by
      funext f
      simp [mz_at, upd]
    simp [rE, h9]]
  exact he
theorem rz_15 {L : rL} {u : mz_S} (hx : p.tables.exec = Jvm.exec) (hb : c.code = cc) (hK : rK D L s) (hG : rG D L u H) (hi : 0 < 1) (hdg : decode cc pc = .ok (.arraylength, 1)) (kk : W p l e R s m args below meth c H locs cells slots Q (F0 m (pc + 1) ls (.int (nI (40)) :: rest))) : W p l e R s m args below meth c H locs cells slots Q (F0 m pc ls (.ref (L.1 15 0) :: rest)) :=
  va_alen hx hb hK.1 (hG.one (k := 15) (i := 0) hi) 0 0 rfl rfl rfl hdg kk
theorem ra_15 {L : rL} {u : mz_S} {x : Int32} (hx : p.tables.exec = Jvm.exec) (hb : c.code = cc) (hK : rK D L s) (hG : rG D L u H) (hi : 0 < 1) (hin : vp_in x (40)) (hdg : decode cc pc = .ok (.iaload, 1)) (kk : W p l e R s m args below meth c H locs cells slots Q (F0 m (pc + 1) ls (.int (u 15 0 x.toNatClampNeg) :: rest))) : W p l e R s m args below meth c H locs cells slots Q (F0 m pc ls (.int x :: .ref (L.1 15 0) :: rest)) :=
  va_iald hx hb hK.1 (hG.one (k := 15) (i := 0) hi) 0 0 rfl rfl hin hdg kk
theorem rt_15 {L : rL} {u : mz_S} {x y : Int32} (hx : p.tables.exec = Jvm.exec) (hb : c.code = cc) (hL : rL_ok L) (hK : rK D L s) (hG : rG D L u H) (hS : va_S (rA L) H0 H locs) (hi : 0 < 1) (hin : vp_in x (40)) (hdg : decode cc pc = .ok (.iastore, 1)) (kk : ∀ (H1 : Heap) (locs1 : List Loc), rG D L (mz_u u 15 0 x.toNatClampNeg y) H1 → va_S (rA L) H0 H1 locs1 → W p l e R s m args below meth c H1 locs1 cells slots Q (F0 m (pc + 1) ls rest)) : W p l e R s m args below meth c H locs cells slots Q (F0 m pc ls (.int y :: .int x :: .ref (L.1 15 0) :: rest)) := by
  refine mz_iast hx hb hK.1 0 (hG 15 0 hi) rfl hin hdg (fun H1 j he z oq => kk H1 _ ?_ (hS.put z oq (mz_A.in (k := 15) hi)))
  refine hG.set hL.2 (k := 15) hi ?_ oq (fun k' i' h => rE_same (fun f => mz_uo h f))
  rw [show rE L (mz_u u 15 0 x.toNatClampNeg y) 15 0 = .inl (L.2.2.1, 40, .inl (upd (u 15 0) x.toNatClampNeg y)) from by
    have h9 : mz_u u 15 0 x.toNatClampNeg y 15 0 = upd (u 15 0) x.toNatClampNeg y := by
      funext f
      simp [mz_at, upd]
    simp [rE, h9]]
  exact he
theorem rz_16 {L : rL} {u : mz_S} (hx : p.tables.exec = Jvm.exec) (hb : c.code = cc) (hK : rK D L s) (hG : rG D L u H) (hi : 0 < 1) (hdg : decode cc pc = .ok (.arraylength, 1)) (kk : W p l e R s m args below meth c H locs cells slots Q (F0 m (pc + 1) ls (.int (nI (40)) :: rest))) : W p l e R s m args below meth c H locs cells slots Q (F0 m pc ls (.ref (L.1 16 0) :: rest)) :=
  va_alen hx hb hK.1 (hG.one (k := 16) (i := 0) hi) 0 0 rfl rfl rfl hdg kk
theorem ra_16 {L : rL} {u : mz_S} {x : Int32} (hx : p.tables.exec = Jvm.exec) (hb : c.code = cc) (hK : rK D L s) (hG : rG D L u H) (hi : 0 < 1) (hin : vp_in x (40)) (hdg : decode cc pc = .ok (.iaload, 1)) (kk : W p l e R s m args below meth c H locs cells slots Q (F0 m (pc + 1) ls (.int (u 16 0 x.toNatClampNeg) :: rest))) : W p l e R s m args below meth c H locs cells slots Q (F0 m pc ls (.int x :: .ref (L.1 16 0) :: rest)) :=
  va_iald hx hb hK.1 (hG.one (k := 16) (i := 0) hi) 0 0 rfl rfl hin hdg kk
theorem rt_16 {L : rL} {u : mz_S} {x y : Int32} (hx : p.tables.exec = Jvm.exec) (hb : c.code = cc) (hL : rL_ok L) (hK : rK D L s) (hG : rG D L u H) (hS : va_S (rA L) H0 H locs) (hi : 0 < 1) (hin : vp_in x (40)) (hdg : decode cc pc = .ok (.iastore, 1)) (kk : ∀ (H1 : Heap) (locs1 : List Loc), rG D L (mz_u u 16 0 x.toNatClampNeg y) H1 → va_S (rA L) H0 H1 locs1 → W p l e R s m args below meth c H1 locs1 cells slots Q (F0 m (pc + 1) ls rest)) : W p l e R s m args below meth c H locs cells slots Q (F0 m pc ls (.int y :: .int x :: .ref (L.1 16 0) :: rest)) := by
  refine mz_iast hx hb hK.1 0 (hG 16 0 hi) rfl hin hdg (fun H1 j he z oq => kk H1 _ ?_ (hS.put z oq (mz_A.in (k := 16) hi)))
  refine hG.set hL.2 (k := 16) hi ?_ oq (fun k' i' h => rE_same (fun f => mz_uo h f))
  rw [show rE L (mz_u u 16 0 x.toNatClampNeg y) 16 0 = .inl (L.2.2.1, 40, .inl (upd (u 16 0) x.toNatClampNeg y)) from by
    have h9 : mz_u u 16 0 x.toNatClampNeg y 16 0 = upd (u 16 0) x.toNatClampNeg y := by
      funext f
      simp [mz_at, upd]
    simp [rE, h9]]
  exact he
theorem rz_17 {L : rL} {u : mz_S} (hx : p.tables.exec = Jvm.exec) (hb : c.code = cc) (hK : rK D L s) (hG : rG D L u H) (hi : 0 < 1) (hdg : decode cc pc = .ok (.arraylength, 1)) (kk : W p l e R s m args below meth c H locs cells slots Q (F0 m (pc + 1) ls (.int (nI (40)) :: rest))) : W p l e R s m args below meth c H locs cells slots Q (F0 m pc ls (.ref (L.1 17 0) :: rest)) :=
  va_alen hx hb hK.1 (hG.one (k := 17) (i := 0) hi) 0 0 rfl rfl rfl hdg kk
theorem ra_17 {L : rL} {u : mz_S} {x : Int32} (hx : p.tables.exec = Jvm.exec) (hb : c.code = cc) (hK : rK D L s) (hG : rG D L u H) (hi : 0 < 1) (hin : vp_in x (40)) (hdg : decode cc pc = .ok (.iaload, 1)) (kk : W p l e R s m args below meth c H locs cells slots Q (F0 m (pc + 1) ls (.int (u 17 0 x.toNatClampNeg) :: rest))) : W p l e R s m args below meth c H locs cells slots Q (F0 m pc ls (.int x :: .ref (L.1 17 0) :: rest)) :=
  va_iald hx hb hK.1 (hG.one (k := 17) (i := 0) hi) 0 0 rfl rfl hin hdg kk
theorem rt_17 {L : rL} {u : mz_S} {x y : Int32} (hx : p.tables.exec = Jvm.exec) (hb : c.code = cc) (hL : rL_ok L) (hK : rK D L s) (hG : rG D L u H) (hS : va_S (rA L) H0 H locs) (hi : 0 < 1) (hin : vp_in x (40)) (hdg : decode cc pc = .ok (.iastore, 1)) (kk : ∀ (H1 : Heap) (locs1 : List Loc), rG D L (mz_u u 17 0 x.toNatClampNeg y) H1 → va_S (rA L) H0 H1 locs1 → W p l e R s m args below meth c H1 locs1 cells slots Q (F0 m (pc + 1) ls rest)) : W p l e R s m args below meth c H locs cells slots Q (F0 m pc ls (.int y :: .int x :: .ref (L.1 17 0) :: rest)) := by
  refine mz_iast hx hb hK.1 0 (hG 17 0 hi) rfl hin hdg (fun H1 j he z oq => kk H1 _ ?_ (hS.put z oq (mz_A.in (k := 17) hi)))
  refine hG.set hL.2 (k := 17) hi ?_ oq (fun k' i' h => rE_same (fun f => mz_uo h f))
  rw [show rE L (mz_u u 17 0 x.toNatClampNeg y) 17 0 = .inl (L.2.2.1, 40, .inl (upd (u 17 0) x.toNatClampNeg y)) from by
    have h9 : mz_u u 17 0 x.toNatClampNeg y 17 0 = upd (u 17 0) x.toNatClampNeg y := by
      funext f
      simp [mz_at, upd]
    simp [rE, h9]]
  exact he
theorem rz_18 {L : rL} {u : mz_S} (hx : p.tables.exec = Jvm.exec) (hb : c.code = cc) (hK : rK D L s) (hG : rG D L u H) (hi : 0 < 1) (hdg : decode cc pc = .ok (.arraylength, 1)) (kk : W p l e R s m args below meth c H locs cells slots Q (F0 m (pc + 1) ls (.int (nI (40)) :: rest))) : W p l e R s m args below meth c H locs cells slots Q (F0 m pc ls (.ref (L.1 18 0) :: rest)) :=
  va_alen hx hb hK.1 (hG.one (k := 18) (i := 0) hi) 0 0 rfl rfl rfl hdg kk
theorem ra_18 {L : rL} {u : mz_S} {x : Int32} (hx : p.tables.exec = Jvm.exec) (hb : c.code = cc) (hK : rK D L s) (hG : rG D L u H) (hi : 0 < 1) (hin : vp_in x (40)) (hdg : decode cc pc = .ok (.iaload, 1)) (kk : W p l e R s m args below meth c H locs cells slots Q (F0 m (pc + 1) ls (.int (u 18 0 x.toNatClampNeg) :: rest))) : W p l e R s m args below meth c H locs cells slots Q (F0 m pc ls (.int x :: .ref (L.1 18 0) :: rest)) :=
  va_iald hx hb hK.1 (hG.one (k := 18) (i := 0) hi) 0 0 rfl rfl hin hdg kk
theorem rt_18 {L : rL} {u : mz_S} {x y : Int32} (hx : p.tables.exec = Jvm.exec) (hb : c.code = cc) (hL : rL_ok L) (hK : rK D L s) (hG : rG D L u H) (hS : va_S (rA L) H0 H locs) (hi : 0 < 1) (hin : vp_in x (40)) (hdg : decode cc pc = .ok (.iastore, 1)) (kk : ∀ (H1 : Heap) (locs1 : List Loc), rG D L (mz_u u 18 0 x.toNatClampNeg y) H1 → va_S (rA L) H0 H1 locs1 → W p l e R s m args below meth c H1 locs1 cells slots Q (F0 m (pc + 1) ls rest)) : W p l e R s m args below meth c H locs cells slots Q (F0 m pc ls (.int y :: .int x :: .ref (L.1 18 0) :: rest)) := by
  refine mz_iast hx hb hK.1 0 (hG 18 0 hi) rfl hin hdg (fun H1 j he z oq => kk H1 _ ?_ (hS.put z oq (mz_A.in (k := 18) hi)))
  refine hG.set hL.2 (k := 18) hi ?_ oq (fun k' i' h => rE_same (fun f => mz_uo h f))
  rw [show rE L (mz_u u 18 0 x.toNatClampNeg y) 18 0 = .inl (L.2.2.1, 40, .inl (upd (u 18 0) x.toNatClampNeg y)) from by
    have h9 : mz_u u 18 0 x.toNatClampNeg y 18 0 = upd (u 18 0) x.toNatClampNeg y := by
      funext f
      simp [mz_at, upd]
    simp [rE, h9]]
  exact he
theorem rz_19 {L : rL} {u : mz_S} (hx : p.tables.exec = Jvm.exec) (hb : c.code = cc) (hK : rK D L s) (hG : rG D L u H) (hi : 0 < 1) (hdg : decode cc pc = .ok (.arraylength, 1)) (kk : W p l e R s m args below meth c H locs cells slots Q (F0 m (pc + 1) ls (.int (nI (40)) :: rest))) : W p l e R s m args below meth c H locs cells slots Q (F0 m pc ls (.ref (L.1 19 0) :: rest)) :=
  va_alen hx hb hK.1 (hG.one (k := 19) (i := 0) hi) 0 0 rfl rfl rfl hdg kk
theorem ra_19 {L : rL} {u : mz_S} {x : Int32} (hx : p.tables.exec = Jvm.exec) (hb : c.code = cc) (hK : rK D L s) (hG : rG D L u H) (hi : 0 < 1) (hin : vp_in x (40)) (hdg : decode cc pc = .ok (.iaload, 1)) (kk : W p l e R s m args below meth c H locs cells slots Q (F0 m (pc + 1) ls (.int (u 19 0 x.toNatClampNeg) :: rest))) : W p l e R s m args below meth c H locs cells slots Q (F0 m pc ls (.int x :: .ref (L.1 19 0) :: rest)) :=
  va_iald hx hb hK.1 (hG.one (k := 19) (i := 0) hi) 0 0 rfl rfl hin hdg kk
theorem rt_19 {L : rL} {u : mz_S} {x y : Int32} (hx : p.tables.exec = Jvm.exec) (hb : c.code = cc) (hL : rL_ok L) (hK : rK D L s) (hG : rG D L u H) (hS : va_S (rA L) H0 H locs) (hi : 0 < 1) (hin : vp_in x (40)) (hdg : decode cc pc = .ok (.iastore, 1)) (kk : ∀ (H1 : Heap) (locs1 : List Loc), rG D L (mz_u u 19 0 x.toNatClampNeg y) H1 → va_S (rA L) H0 H1 locs1 → W p l e R s m args below meth c H1 locs1 cells slots Q (F0 m (pc + 1) ls rest)) : W p l e R s m args below meth c H locs cells slots Q (F0 m pc ls (.int y :: .int x :: .ref (L.1 19 0) :: rest)) := by
  refine mz_iast hx hb hK.1 0 (hG 19 0 hi) rfl hin hdg (fun H1 j he z oq => kk H1 _ ?_ (hS.put z oq (mz_A.in (k := 19) hi)))
  refine hG.set hL.2 (k := 19) hi ?_ oq (fun k' i' h => rE_same (fun f => mz_uo h f))
  rw [show rE L (mz_u u 19 0 x.toNatClampNeg y) 19 0 = .inl (L.2.2.1, 40, .inl (upd (u 19 0) x.toNatClampNeg y)) from by
    have h9 : mz_u u 19 0 x.toNatClampNeg y 19 0 = upd (u 19 0) x.toNatClampNeg y := by
      funext f
      simp [mz_at, upd]
    simp [rE, h9]]
  exact he
theorem rz_20 {L : rL} {u : mz_S} (hx : p.tables.exec = Jvm.exec) (hb : c.code = cc) (hK : rK D L s) (hG : rG D L u H) (hi : 0 < 1) (hdg : decode cc pc = .ok (.arraylength, 1)) (kk : W p l e R s m args below meth c H locs cells slots Q (F0 m (pc + 1) ls (.int (nI (40)) :: rest))) : W p l e R s m args below meth c H locs cells slots Q (F0 m pc ls (.ref (L.1 20 0) :: rest)) :=
  va_alen hx hb hK.1 (hG.one (k := 20) (i := 0) hi) 0 0 rfl rfl rfl hdg kk
theorem ra_20 {L : rL} {u : mz_S} {x : Int32} (hx : p.tables.exec = Jvm.exec) (hb : c.code = cc) (hK : rK D L s) (hG : rG D L u H) (hi : 0 < 1) (hin : vp_in x (40)) (hdg : decode cc pc = .ok (.iaload, 1)) (kk : W p l e R s m args below meth c H locs cells slots Q (F0 m (pc + 1) ls (.int (u 20 0 x.toNatClampNeg) :: rest))) : W p l e R s m args below meth c H locs cells slots Q (F0 m pc ls (.int x :: .ref (L.1 20 0) :: rest)) :=
  va_iald hx hb hK.1 (hG.one (k := 20) (i := 0) hi) 0 0 rfl rfl hin hdg kk
theorem rt_20 {L : rL} {u : mz_S} {x y : Int32} (hx : p.tables.exec = Jvm.exec) (hb : c.code = cc) (hL : rL_ok L) (hK : rK D L s) (hG : rG D L u H) (hS : va_S (rA L) H0 H locs) (hi : 0 < 1) (hin : vp_in x (40)) (hdg : decode cc pc = .ok (.iastore, 1)) (kk : ∀ (H1 : Heap) (locs1 : List Loc), rG D L (mz_u u 20 0 x.toNatClampNeg y) H1 → va_S (rA L) H0 H1 locs1 → W p l e R s m args below meth c H1 locs1 cells slots Q (F0 m (pc + 1) ls rest)) : W p l e R s m args below meth c H locs cells slots Q (F0 m pc ls (.int y :: .int x :: .ref (L.1 20 0) :: rest)) := by
  refine mz_iast hx hb hK.1 0 (hG 20 0 hi) rfl hin hdg (fun H1 j he z oq => kk H1 _ ?_ (hS.put z oq (mz_A.in (k := 20) hi)))
  refine hG.set hL.2 (k := 20) hi ?_ oq (fun k' i' h => rE_same (fun f => mz_uo h f))
  rw [show rE L (mz_u u 20 0 x.toNatClampNeg y) 20 0 = .inl (L.2.2.1, 40, .inl (upd (u 20 0) x.toNatClampNeg y)) from by
    have h9 : mz_u u 20 0 x.toNatClampNeg y 20 0 = upd (u 20 0) x.toNatClampNeg y := by
      funext f
      simp [mz_at, upd]
    simp [rE, h9]]
  exact he
theorem rz_21 {L : rL} {u : mz_S} (hx : p.tables.exec = Jvm.exec) (hb : c.code = cc) (hK : rK D L s) (hG : rG D L u H) (hi : 0 < 1) (hdg : decode cc pc = .ok (.arraylength, 1)) (kk : W p l e R s m args below meth c H locs cells slots Q (F0 m (pc + 1) ls (.int (nI (40)) :: rest))) : W p l e R s m args below meth c H locs cells slots Q (F0 m pc ls (.ref (L.1 21 0) :: rest)) :=
  va_alen hx hb hK.1 (hG.one (k := 21) (i := 0) hi) 0 1 rfl rfl rfl hdg kk
theorem ra_21 {L : rL} {u : mz_S} {x : Int32} (hx : p.tables.exec = Jvm.exec) (hb : c.code = cc) (hK : rK D L s) (hG : rG D L u H) (hi : 0 < 1) (hin : vp_in x (40)) (hdg : decode cc pc = .ok (.baload, 1)) (kk : W p l e R s m args below meth c H locs cells slots Q (F0 m (pc + 1) ls (.int (u 21 0 x.toNatClampNeg) :: rest))) : W p l e R s m args below meth c H locs cells slots Q (F0 m pc ls (.int x :: .ref (L.1 21 0) :: rest)) :=
  va_zald hx hb hK.1 (hG.one (k := 21) (i := 0) hi) 0 1 rfl rfl hin hdg kk
theorem rt_21 {L : rL} {u : mz_S} {x y : Int32} (hx : p.tables.exec = Jvm.exec) (hb : c.code = cc) (hL : rL_ok L) (hK : rK D L s) (hG : rG D L u H) (hS : va_S (rA L) H0 H locs) (hi : 0 < 1) (hin : vp_in x (40)) (hv : narrow .boolean (.int y) = .int y) (hdg : decode cc pc = .ok (.bastore, 1)) (kk : ∀ (H1 : Heap) (locs1 : List Loc), rG D L (mz_u u 21 0 x.toNatClampNeg y) H1 → va_S (rA L) H0 H1 locs1 → W p l e R s m args below meth c H1 locs1 cells slots Q (F0 m (pc + 1) ls rest)) : W p l e R s m args below meth c H locs cells slots Q (F0 m pc ls (.int y :: .int x :: .ref (L.1 21 0) :: rest)) := by
  refine mz_zast hx hb hK.1 1 (hG 21 0 hi) rfl hin hv hdg (fun H1 j he z oq => kk H1 _ ?_ (hS.put z oq (mz_A.in (k := 21) hi)))
  refine hG.set hL.2 (k := 21) hi ?_ oq (fun k' i' h => rE_same (fun f => mz_uo h f))
  rw [show rE L (mz_u u 21 0 x.toNatClampNeg y) 21 0 = .inl (L.2.2.2, 40, .inl (upd (u 21 0) x.toNatClampNeg y)) from by
    have h9 : mz_u u 21 0 x.toNatClampNeg y 21 0 = upd (u 21 0) x.toNatClampNeg y := by
      funext f
      simp [mz_at, upd]
    simp [rE, h9]]
  exact he
theorem rz_22 {L : rL} {u : mz_S} (hx : p.tables.exec = Jvm.exec) (hb : c.code = cc) (hK : rK D L s) (hG : rG D L u H) (hi : 0 < 1) (hdg : decode cc pc = .ok (.arraylength, 1)) (kk : W p l e R s m args below meth c H locs cells slots Q (F0 m (pc + 1) ls (.int (nI (40)) :: rest))) : W p l e R s m args below meth c H locs cells slots Q (F0 m pc ls (.ref (L.1 22 0) :: rest)) :=
  va_alen hx hb hK.1 (hG.one (k := 22) (i := 0) hi) 0 0 rfl rfl rfl hdg kk
theorem ra_22 {L : rL} {u : mz_S} {x : Int32} (hx : p.tables.exec = Jvm.exec) (hb : c.code = cc) (hK : rK D L s) (hG : rG D L u H) (hi : 0 < 1) (hin : vp_in x (40)) (hdg : decode cc pc = .ok (.iaload, 1)) (kk : W p l e R s m args below meth c H locs cells slots Q (F0 m (pc + 1) ls (.int (u 22 0 x.toNatClampNeg) :: rest))) : W p l e R s m args below meth c H locs cells slots Q (F0 m pc ls (.int x :: .ref (L.1 22 0) :: rest)) :=
  va_iald hx hb hK.1 (hG.one (k := 22) (i := 0) hi) 0 0 rfl rfl hin hdg kk
theorem rt_22 {L : rL} {u : mz_S} {x y : Int32} (hx : p.tables.exec = Jvm.exec) (hb : c.code = cc) (hL : rL_ok L) (hK : rK D L s) (hG : rG D L u H) (hS : va_S (rA L) H0 H locs) (hi : 0 < 1) (hin : vp_in x (40)) (hdg : decode cc pc = .ok (.iastore, 1)) (kk : ∀ (H1 : Heap) (locs1 : List Loc), rG D L (mz_u u 22 0 x.toNatClampNeg y) H1 → va_S (rA L) H0 H1 locs1 → W p l e R s m args below meth c H1 locs1 cells slots Q (F0 m (pc + 1) ls rest)) : W p l e R s m args below meth c H locs cells slots Q (F0 m pc ls (.int y :: .int x :: .ref (L.1 22 0) :: rest)) := by
  refine mz_iast hx hb hK.1 0 (hG 22 0 hi) rfl hin hdg (fun H1 j he z oq => kk H1 _ ?_ (hS.put z oq (mz_A.in (k := 22) hi)))
  refine hG.set hL.2 (k := 22) hi ?_ oq (fun k' i' h => rE_same (fun f => mz_uo h f))
  rw [show rE L (mz_u u 22 0 x.toNatClampNeg y) 22 0 = .inl (L.2.2.1, 40, .inl (upd (u 22 0) x.toNatClampNeg y)) from by
    have h9 : mz_u u 22 0 x.toNatClampNeg y 22 0 = upd (u 22 0) x.toNatClampNeg y := by
      funext f
      simp [mz_at, upd]
    simp [rE, h9]]
  exact he
theorem rz_23 {L : rL} {u : mz_S} (hx : p.tables.exec = Jvm.exec) (hb : c.code = cc) (hK : rK D L s) (hG : rG D L u H) (hi : 0 < 1) (hdg : decode cc pc = .ok (.arraylength, 1)) (kk : W p l e R s m args below meth c H locs cells slots Q (F0 m (pc + 1) ls (.int (nI (40)) :: rest))) : W p l e R s m args below meth c H locs cells slots Q (F0 m pc ls (.ref (L.1 23 0) :: rest)) :=
  va_alen hx hb hK.1 (hG.one (k := 23) (i := 0) hi) 0 0 rfl rfl rfl hdg kk
theorem ra_23 {L : rL} {u : mz_S} {x : Int32} (hx : p.tables.exec = Jvm.exec) (hb : c.code = cc) (hK : rK D L s) (hG : rG D L u H) (hi : 0 < 1) (hin : vp_in x (40)) (hdg : decode cc pc = .ok (.iaload, 1)) (kk : W p l e R s m args below meth c H locs cells slots Q (F0 m (pc + 1) ls (.int (u 23 0 x.toNatClampNeg) :: rest))) : W p l e R s m args below meth c H locs cells slots Q (F0 m pc ls (.int x :: .ref (L.1 23 0) :: rest)) :=
  va_iald hx hb hK.1 (hG.one (k := 23) (i := 0) hi) 0 0 rfl rfl hin hdg kk
theorem rt_23 {L : rL} {u : mz_S} {x y : Int32} (hx : p.tables.exec = Jvm.exec) (hb : c.code = cc) (hL : rL_ok L) (hK : rK D L s) (hG : rG D L u H) (hS : va_S (rA L) H0 H locs) (hi : 0 < 1) (hin : vp_in x (40)) (hdg : decode cc pc = .ok (.iastore, 1)) (kk : ∀ (H1 : Heap) (locs1 : List Loc), rG D L (mz_u u 23 0 x.toNatClampNeg y) H1 → va_S (rA L) H0 H1 locs1 → W p l e R s m args below meth c H1 locs1 cells slots Q (F0 m (pc + 1) ls rest)) : W p l e R s m args below meth c H locs cells slots Q (F0 m pc ls (.int y :: .int x :: .ref (L.1 23 0) :: rest)) := by
  refine mz_iast hx hb hK.1 0 (hG 23 0 hi) rfl hin hdg (fun H1 j he z oq => kk H1 _ ?_ (hS.put z oq (mz_A.in (k := 23) hi)))
  refine hG.set hL.2 (k := 23) hi ?_ oq (fun k' i' h => rE_same (fun f => mz_uo h f))
  rw [show rE L (mz_u u 23 0 x.toNatClampNeg y) 23 0 = .inl (L.2.2.1, 40, .inl (upd (u 23 0) x.toNatClampNeg y)) from by
    have h9 : mz_u u 23 0 x.toNatClampNeg y 23 0 = upd (u 23 0) x.toNatClampNeg y := by
      funext f
      simp [mz_at, upd]
    simp [rE, h9]]
  exact he
theorem rz_24 {L : rL} {u : mz_S} (hx : p.tables.exec = Jvm.exec) (hb : c.code = cc) (hK : rK D L s) (hG : rG D L u H) (hi : 0 < 1) (hdg : decode cc pc = .ok (.arraylength, 1)) (kk : W p l e R s m args below meth c H locs cells slots Q (F0 m (pc + 1) ls (.int (nI (40)) :: rest))) : W p l e R s m args below meth c H locs cells slots Q (F0 m pc ls (.ref (L.1 24 0) :: rest)) :=
  va_alen hx hb hK.1 (hG.one (k := 24) (i := 0) hi) 0 0 rfl rfl rfl hdg kk
theorem ra_24 {L : rL} {u : mz_S} {x : Int32} (hx : p.tables.exec = Jvm.exec) (hb : c.code = cc) (hK : rK D L s) (hG : rG D L u H) (hi : 0 < 1) (hin : vp_in x (40)) (hdg : decode cc pc = .ok (.iaload, 1)) (kk : W p l e R s m args below meth c H locs cells slots Q (F0 m (pc + 1) ls (.int (u 24 0 x.toNatClampNeg) :: rest))) : W p l e R s m args below meth c H locs cells slots Q (F0 m pc ls (.int x :: .ref (L.1 24 0) :: rest)) :=
  va_iald hx hb hK.1 (hG.one (k := 24) (i := 0) hi) 0 0 rfl rfl hin hdg kk
theorem rt_24 {L : rL} {u : mz_S} {x y : Int32} (hx : p.tables.exec = Jvm.exec) (hb : c.code = cc) (hL : rL_ok L) (hK : rK D L s) (hG : rG D L u H) (hS : va_S (rA L) H0 H locs) (hi : 0 < 1) (hin : vp_in x (40)) (hdg : decode cc pc = .ok (.iastore, 1)) (kk : ∀ (H1 : Heap) (locs1 : List Loc), rG D L (mz_u u 24 0 x.toNatClampNeg y) H1 → va_S (rA L) H0 H1 locs1 → W p l e R s m args below meth c H1 locs1 cells slots Q (F0 m (pc + 1) ls rest)) : W p l e R s m args below meth c H locs cells slots Q (F0 m pc ls (.int y :: .int x :: .ref (L.1 24 0) :: rest)) := by
  refine mz_iast hx hb hK.1 0 (hG 24 0 hi) rfl hin hdg (fun H1 j he z oq => kk H1 _ ?_ (hS.put z oq (mz_A.in (k := 24) hi)))
  refine hG.set hL.2 (k := 24) hi ?_ oq (fun k' i' h => rE_same (fun f => mz_uo h f))
  rw [show rE L (mz_u u 24 0 x.toNatClampNeg y) 24 0 = .inl (L.2.2.1, 40, .inl (upd (u 24 0) x.toNatClampNeg y)) from by
    have h9 : mz_u u 24 0 x.toNatClampNeg y 24 0 = upd (u 24 0) x.toNatClampNeg y := by
      funext f
      simp [mz_at, upd]
    simp [rE, h9]]
  exact he
end RW
