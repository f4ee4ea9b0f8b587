section MZE
variable {p : Program} {l : Launch} {e : Env} {R : Room} {s : State} {m : MethodId} {args : Array Value} {below : List Frame} {meth : Method} {c : Code} {H : Heap} {locs : List Loc} {cells slots : Nat} {Q : State → Prop}
variable {cc : ByteArray} {pc : Nat} {ls : Array Slot} {rest st : List Value} {D : va_G} {cl : List vw_C} {a : Nat}
theorem mz_P1 {x : va_E} (h : va_at D cl (a, x) H) : va_P D cl [(a, x)] H := by
  intro j q hj
  cases j with
  | zero =>
    rw [List.getElem?_cons_zero] at hj
    cases hj
    exact h
  | succ j =>
    rw [List.getElem?_cons_succ] at hj
    simp at hj
theorem mz_arrV {cA : ClassId} {n : Nat} {f g : Nat → Value} (h : ∀ j, j < n → f j = g j) : arrV cA n f = arrV cA n g := by
  unfold arrV
  have e : (fun j : Fin n => f j.val) = fun j : Fin n => g j.val := funext fun j => h j.val j.isLt
  rw [e]
theorem mz_atq {cA : ClassId} {n : Nat} {f g : Nat → Option Nat} (h : va_at D cl (a, .inl (cA, n, .inr (.inr (.inr (.inr f))))) H) (hfg : ∀ j, j < n → f j = g j) : va_at D cl (a, .inl (cA, n, .inr (.inr (.inr (.inr g))))) H := by
  have h1 : H[a]? = some (vp_cell cA (n, .inr (.inr (.inr (.inr f))))) := h
  show H[a]? = some (vp_cell cA (n, .inr (.inr (.inr (.inr g)))))
  rw [h1, vp_cell_q, vp_cell_q, mz_arrV (g := fun j => va_rf (g j)) (fun j hj => by rw [hfg j hj])]
theorem mz_cs {c1 c2 s1 s2 : Nat} {F : JFrame} (h1 : c1 = c2) (h2 : s1 = s2) (h : W p l e R s m args below meth c H locs c1 s1 Q F) : W p l e R s m args below meth c H locs c2 s2 Q F := by
  subst h1
  subst h2
  exact h
theorem mz_loopc (N : Nat) {C T : Nat → Nat} {P : Nat → Array Slot → Heap → List Loc → Prop} (hb : ∀ j ls H locs, P j ls H locs → j ≤ N) (hs : ∀ j ls H locs, P j ls H locs → (j < N → ∀ ls' H' locs', P (j + 1) ls' H' locs' → W p l e R s m args below meth c H' locs' (C (j + 1)) (T (j + 1)) Q (F0 m pc ls' st)) → W p l e R s m args below meth c H locs (C j) (T j) Q (F0 m pc ls st)) : ∀ j ls H locs, P j ls H locs → W p l e R s m args below meth c H locs (C j) (T j) Q (F0 m pc ls st) := by
  have key : ∀ d j ls H locs, N - j = d → P j ls H locs → W p l e R s m args below meth c H locs (C j) (T j) Q (F0 m pc ls st) := by
    intro d
    induction d with
    | zero =>
      intro j ls H locs hd hP
      exact hs j ls H locs hP (fun hj => absurd hj (by omega))
    | succ d ih =>
      intro j ls H locs hd hP
      exact hs j ls H locs hP (fun hj ls' H' locs' hP' => ih (j + 1) ls' H' locs' (by omega) hP')
  exact fun j ls H locs hP => key _ j ls H locs rfl hP
end MZE
theorem ns_within (l : Launch) (v a b : Int32) : mz_Cs l yX4_within (tz_w yX4_within cX4_within 3 (some .int)) ({ frames := 1, cells := 0, slots := 0, locals := 20 } : Room) [.int v, .int a, .int b] (qs_within v a b) := by
  refine mz_Cs.of (cc := cX4_within) (maxL := 3) (by decide) rfl (Nat.le_of_ble_eq_true rfl) ?_
  intro p e s m args below meth c9 ls hx hb hr hlk hml hown hts hl
  have hl : lv_has ls 3 [(0, .int v), (1, .int a), (2, .int b)] := hl
  have htz : ∀ w ∈ tz, w.before args s = true := fun w h => hts w (List.mem_cons_of_mem _ h)
  refine lv_iload_n hx hb dX4_within_0 rfl (lv_at hl 1 rfl) ?_
  refine lv_iload_n hx hb dX4_within_1 rfl (lv_at hl 2 rfl) ?_
  refine lv_iload_n hx hb dX4_within_2 rfl (lv_at hl 0 rfl) ?_
  refine va_mmin hx hb (hml.trans hl.1.symm) hown (htz _ lX4_162) (htz _ min_stat) (htz _ ini_Math) (htz _ min_code) (Nat.le_of_ble_eq_true rfl) (Nat.le_of_ble_eq_true rfl) (Nat.le_of_ble_eq_true rfl) (Nat.le_of_ble_eq_true rfl) dX4_within_3 ?_
  refine va_mmax hx hb (hml.trans hl.1.symm) hown (htz _ lX4_168) (htz _ max_stat) (htz _ ini_Math) (htz _ max_code) (Nat.le_of_ble_eq_true rfl) (Nat.le_of_ble_eq_true rfl) (Nat.le_of_ble_eq_true rfl) (Nat.le_of_ble_eq_true rfl) dX4_within_6 ?_
  exact mz_sret hx hb hr hlk dX4_within_9 rfl
theorem ns_clamp (l : Launch) (v a b : Int32) : mz_Cs l yX5_clamp (tz_w yX5_clamp cX5_clamp 3 (some .int)) ({ frames := 0, cells := 0, slots := 0, locals := 0 } : Room) [.int v, .int a, .int b] (rs_clamp v a b) := by
  refine mz_Cs.of (cc := cX5_clamp) (maxL := 3) (by decide) rfl (Nat.le_of_ble_eq_true rfl) ?_
  intro p e s m args below meth c9 ls hx hb hr hlk hml hown hts hl
  have hl : lv_has ls 3 [(0, .int v), (1, .int a), (2, .int b)] := hl
  refine lv_iload_n hx hb dX5_clamp_0 rfl (lv_at hl 0 rfl) ?_
  refine lv_iload_n hx hb dX5_clamp_1 rfl (lv_at hl 1 rfl) ?_
  refine mz_icmp_ge hx hb dX5_clamp_2 (tgt := 9) rfl (fun h0 h0' => ?_) (fun h0 h0' => ?_)
  · refine lv_iload_n hx hb dX5_clamp_9 rfl (lv_at hl 0 rfl) ?_
    refine lv_iload_n hx hb dX5_clamp_10 rfl (lv_at hl 2 rfl) ?_
    refine mz_icmp_le hx hb dX5_clamp_11 (tgt := 18) rfl (fun h1 h1' => ?_) (fun h1 h1' => ?_)
    · refine lv_iload_n hx hb dX5_clamp_18 rfl (lv_at hl 0 rfl) ?_
      exact mz_sret hx hb hr hlk dX5_clamp_19 (by unfold rs_clamp; rw [if_neg h0, if_neg h1])
    · refine lv_iload_n hx hb dX5_clamp_14 rfl (lv_at hl 2 rfl) ?_
      refine lv_goto hx hb dX5_clamp_15 (tgt := 19) rfl ?_
      exact mz_sret hx hb hr hlk dX5_clamp_19 (by unfold rs_clamp; rw [if_neg (fun z => absurd h0' (by first | exact Int32.not_le.mpr z | omega)), if_pos h1])
  · refine lv_iload_n hx hb dX5_clamp_5 rfl (lv_at hl 1 rfl) ?_
    refine lv_goto hx hb dX5_clamp_6 (tgt := 19) rfl ?_
    exact mz_sret hx hb hr hlk dX5_clamp_19 (by unfold rs_clamp; rw [if_pos h0])
theorem ns_same {v a b : Int32} (hab : a ≤ b) : rs_clamp v a b = qs_within v a b := by
  have h := nz_le.mp hab
  apply Int32.toInt_inj.mp
  unfold rs_clamp qs_within mz_max mz_min
  repeat' split
  all_goals (simp only [nz_lt] at * <;> omega)
theorem ns_num (v : Int32) {a b : Nat} (hab : a ≤ b) (hb : b < 2 ^ 31) : ∃ n : Nat, a ≤ n ∧ n ≤ b ∧ qs_within v (nI a) (nI b) = nI n := by
  unfold qs_within mz_max mz_min
  by_cases h2 : v < nI b
  · rw [if_pos h2]
    by_cases h : nI a < v
    · rw [if_pos h]
      have g1 := nz_lt.mp h
      have g2 := nz_lt.mp h2
      rw [nI_toInt (by omega)] at g1 g2
      have g3 : ¬ v < 0 := fun z => by
        have := nz_lt.mp z
        have h3 : (0 : Int32).toInt = 0 := rfl
        omega
      obtain ⟨j, hj, rfl⟩ := nI_of g3
      rw [nI_toInt hj] at g1 g2
      exact ⟨j, by omega, by omega, rfl⟩
    · rw [if_neg h]
      exact ⟨a, Nat.le_refl _, hab, rfl⟩
  · rw [if_neg h2]
    split
    · exact ⟨b, hab, Nat.le_refl _, rfl⟩
    · exact ⟨a, Nat.le_refl _, hab, rfl⟩
def mz_fj (g : Nat → Nat) (j : Nat) : Nat → Option Nat := fun x => if x < j then some (g x) else none
theorem mz_fj_0 (g : Nat → Nat) (x : Nat) : none = mz_fj g 0 x := by
  unfold mz_fj
  rw [if_neg (by omega)]
theorem mz_fj_n (g : Nat → Nat) {n x : Nat} (h : x < n) : mz_fj g n x = some (g x) := by
  unfold mz_fj
  rw [if_pos h]
theorem mz_fj_s (g : Nat → Nat) (j x : Nat) : va_up (mz_fj g j) j (some (g j)) x = mz_fj g (j + 1) x := by
  unfold va_up mz_fj
  by_cases hxj : x = j
  · subst hxj
    simp
  · by_cases hxl : x < j
    · rw [if_neg hxj, if_pos hxl, if_pos (by omega)]
    · rw [if_neg hxj, if_neg hxl, if_neg (by omega)]
