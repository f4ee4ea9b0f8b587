theorem qn_tab : ∀ w ∈ qn_ws, w.onTables = true := by decide +kernel
theorem nK_of {s : State} {args : Array Value} (hts : ∀ w ∈ lw_tbl, w.before args s = true) : ∃ (D : va_G) (cI cZ cN cM : ClassId), nK D cI cZ cN cM s := by
  have htz : ∀ w ∈ tz, w.before args s = true := fun w h => hts w (List.mem_filter.mp h).1
  obtain ⟨c0, i0, k0⟩ := u_known htz tin_X0 (htz _ ins_X0)
  obtain ⟨c1, i1, k1⟩ := u_known htz tin_X1 (htz _ ins_X1)
  obtain ⟨c2, i2, k2⟩ := u_known htz tin_X2 (htz _ ins_X2)
  obtain ⟨c3, i3, k3⟩ := u_known htz tin_X3 (htz _ ins_X3)
  obtain ⟨c4, i4, k4⟩ := u_known htz tin_X4 (htz _ ins_X4)
  obtain ⟨c5, i5, k5⟩ := u_known htz tin_X5 (htz _ ins_X5)
  obtain ⟨cI, kI, pI, a1, a2, a3⟩ := Cond.arrayClass_spec (htz _ arr_I)
  obtain ⟨cZ, kZ, pZ, b1, b2, b3⟩ := Cond.arrayClass_spec (htz _ arr_Z)
  have oN : (Cond.arrayOver (.object RX3)).before args s = true := hts _ (by decide +kernel)
  have oM : (Cond.arrayOver (.object RX1)).before args s = true := hts _ (by decide +kernel)
  obtain ⟨pN, cN, kN, d1, d2, d3, d4, d5⟩ := Cond.arrayOver_spec oN
  obtain ⟨pM, cM, kM, e1, e2, e3, e4, e5⟩ := Cond.arrayOver_spec oM
  refine ⟨(fun c => match c with
    | 0 => c0
    | 1 => c1
    | 2 => c2
    | 3 => c3
    | 4 => c4
    | _ => c5, fun c => match c with
    | 0 => i0
    | 1 => i1
    | 2 => i2
    | 3 => i3
    | 4 => i4
    | _ => i5), cI, cZ, cN, cM, ⟨fun c q hq => ?_, fun c q hq => ?_⟩, fun w hw => va_Nw.of (qn_tab w hw) (hts w (qn_in w hw)), va_AO.of oN, va_AO.of oM⟩
  · rcases (show c = 0 ∨ c = 1 ∨ c = 2 ∨ c = 3 ∨ c = 4 ∨ c = 5 ∨ 6 ≤ c by omega) with rfl | rfl | rfl | rfl | rfl | rfl | h
    · obtain rfl : (RX0, TX0, 6) = q := Option.some.inj hq
      exact k0
    · obtain rfl : (RX1, TX1, 12) = q := Option.some.inj hq
      exact k1
    · obtain rfl : (RX2, TX2, 2) = q := Option.some.inj hq
      exact k2
    · obtain rfl : (RX3, TX3, 10) = q := Option.some.inj hq
      exact k3
    · obtain rfl : (RX4, TX4, 4) = q := Option.some.inj hq
      exact k4
    · obtain rfl : (RX5, TX5, 27) = q := Option.some.inj hq
      exact k5
    · have g := (List.getElem?_eq_some_iff.mp hq).1
      have g : c < 6 := g
      omega
  · rcases (show c = 0 ∨ c = 1 ∨ c = 2 ∨ c = 3 ∨ 4 ≤ c by omega) with rfl | rfl | rfl | rfl | h
    · obtain rfl : (cI, FieldType.int) = q := Option.some.inj hq
      exact ⟨fun n z => ⟨fun k h => (by cases h), kI, a2, pI, a3⟩, a1⟩
    · obtain rfl : (cZ, FieldType.boolean) = q := Option.some.inj hq
      exact ⟨fun n z => ⟨fun k h => (by cases h), kZ, b2, pZ, b3⟩, b1⟩
    · obtain rfl : (cN, FieldType.object RX3) = q := Option.some.inj hq
      exact ⟨fun n z => ⟨fun k h => (by cases h), kN, d3, pN, d4⟩, kN, pN, d3, d4, d1, d5⟩
    · obtain rfl : (cM, FieldType.object RX1) = q := Option.some.inj hq
      exact ⟨fun n z => ⟨fun k h => (by cases h), kM, e3, pM, e4⟩, kM, pM, e3, e4, e1, e5⟩
    · have g := (List.getElem?_eq_some_iff.mp hq).1
      have g : c < 4 := g
      omega
/-- as far as the script goes -/
theorem lw_end {L i : Nat} (hL : L ≤ 1539) (hi : i < 2 ^ 30) (h : nI i ≤ nI L - 3) : i + 3 ≤ L := by
  rcases Nat.lt_or_ge L 3 with g | g
  · have h1 := nz_le.mp h
    rw [nI_toInt (by omega)] at h1
    have h2 : (nI L - 3).toInt < 0 := by
      rcases (show L = 0 ∨ L = 1 ∨ L = 2 by omega) with rfl | rfl | rfl <;> decide
    omega
  · have e : nI L - 3 = nI (L - 3) := pk_sub g
    rw [e, nI_leI (by omega) (by omega)] at h
    omega
section LWL
variable {p : Program} {l : Launch} {e : Env} {s : State} {m : MethodId} {below : List Frame} {meth : Method} {c : Code} {cells slots : Nat} {Q : State → Prop}
variable {b L : Nat} {xs : Nat → Int32} {D : va_G} {cI cZ cN cM : ClassId} {z z2 n k S : Nat}
set_option maxRecDepth 100000 in
set_option maxHeartbeats 4000000 in
theorem lw_loop (C : lw_C p s m c b L xs D cI cZ cN cM z z2 n k S) (hf : cells ≤ 600000 ∧ slots ≤ 7302250) (fin : ∀ (ls : Array Slot) (H : Heap) (locs : List Loc), va_S (fun q => s.heap.size ≤ q) s.heap H locs → W p l e room_1 s m #[Value.ref b] below meth c H locs cells slots Q (F0 m 689 ls [])) : ∀ (j : Nat) (ls : Array Slot) (H : Heap) (locs : List Loc), lv_has ls 4 [(3, .int (nI (3 + 3 * j))), (2, .ref z2), (1, .ref z), (0, .ref b)] ∧ lw_J s D cI cZ cN cM z z2 n k S j H locs ∧ j ≤ 600 → W p l e room_1 s m #[Value.ref b] below meth c H locs cells slots Q (F0 m 48 ls []) := by
  refine mz_loop 600 (P := fun j ls H locs => lv_has ls 4 [(3, .int (nI (3 + 3 * j))), (2, .ref z2), (1, .ref z), (0, .ref b)] ∧ lw_J s D cI cZ cN cM z z2 n k S j H locs ∧ j ≤ 600) (fun _ _ _ _ h => h.2.2) ?_
  intro j ls H locs ⟨hl, hJ, hj⟩ ih
  have C' := C
  have hJ' := hJ
  obtain ⟨hx, hb, hml, hown, htz, hX, hbl, hL, hK, hn, hk, hS9, hz1, hz2⟩ := C'
  obtain ⟨u, r, hG, hR, hre, hS⟩ := hJ'
  have hbA : ¬ (s.heap.size ≤ b) := by omega
  refine lv_iload_n hx hb dL_law_48 rfl (lv_at hl 0 rfl) ?_
  refine lv_aload_n hx hb dL_law_49 rfl (lv_at hl 3 rfl) ?_
  refine va_slen hx hb hX hbl hbA hS dL_law_50 ?_
  refine lv_iconst (v := 3) hx hb dL_law_51 (by decide) ?_
  refine lv_isub hx hb dL_law_52 ?_
  refine mz_icmp_gt hx hb dL_law_53 (tgt := 689) rfl (fun _ _ => fin _ _ _ hS) (fun _ q1 => ?_)
  have hi : 3 + 3 * j + 3 ≤ L := lw_end hL (by omega) q1
  have back : ∀ (H : Heap) (locs : List Loc), lw_J s D cI cZ cN cM z z2 n k S (j + 1) H locs → W p l e room_1 s m #[Value.ref b] below meth c H locs cells slots Q (F0 m 683 ls []) := fun H locs hJ => by
    refine lv_iinc (k := 0) hx hb dL_law_683 hl rfl (show nI (3 + 3 * j) + 3 = nI (3 + 3 * (j + 1)) from nI_add (3 + 3 * j) 3) (by decide) rfl (fun ls hl => ?_)
    have hl : lv_has ls 4 [(3, .int _), (2, .ref _), (1, .ref _), (0, .ref _)] := hl
    refine lv_goto hx hb dL_law_686 (tgt := 48) rfl ?_
    exact ih (by omega) _ _ _ ⟨hl, hJ, by omega⟩
  refine lv_aload_n hx hb dL_law_56 rfl (lv_at hl 3 rfl) ?_
  refine lv_iload_n hx hb dL_law_57 rfl (lv_at hl 0 rfl) ?_
  refine lw_ld hx hb hX hbl hbA hS hL rfl (show 3 + 3 * j < L by omega) dL_law_58 ?_
  refine lv_bipush (v := 31) hx hb dL_law_59 (by decide) ?_
  refine lv_iand hx hb dL_law_61 ?_
  obtain ⟨q, hq, eq⟩ := pk_andE (xs (3 + 3 * j)) (m := 31) 5 (by decide)
  rw [eq]
  have hJ1 : lw_J s D cI cZ cN cM z z2 n k S (j + 1) H locs := ⟨u, r, hG, hR, hre.mono (Nat.le_succ j), hS⟩
  by_cases g : q ≤ 20
  · rcases (show q = 0 ∨ q = 1 ∨ q = 2 ∨ q = 3 ∨ q = 4 ∨ q = 5 ∨ q = 6 ∨ q = 7 ∨ q = 8 ∨ q = 9 ∨ q = 10 ∨ q = 11 ∨ q = 12 ∨ q = 13 ∨ q = 14 ∨ q = 15 ∨ q = 16 ∨ q = 17 ∨ q = 18 ∨ q = 19 ∨ q = 20 by omega) with rfl | rfl | rfl | rfl | rfl | rfl | rfl | rfl | rfl | rfl | rfl | rfl | rfl | rfl | rfl | rfl | rfl | rfl | rfl | rfl | rfl
    · exact lv_tableIn hx hb dL_law_62 (tgt := 160) (by decide) (by decide) rfl rfl (lw_k0 C hl hi (by omega) hf hJ back)
    · exact lv_tableIn hx hb dL_law_62 (tgt := 183) (by decide) (by decide) rfl rfl (lw_k1 C hl hi (by omega) hf hJ back)
    · exact lv_tableIn hx hb dL_law_62 (tgt := 216) (by decide) (by decide) rfl rfl (lw_k2 C hl hi (by omega) hf hJ back)
    · exact lv_tableIn hx hb dL_law_62 (tgt := 249) (by decide) (by decide) rfl rfl (lw_k3 C hl hi (by omega) hf hJ back)
    · exact lv_tableIn hx hb dL_law_62 (tgt := 272) (by decide) (by decide) rfl rfl (lw_k4 C hl hi (by omega) hf hJ back)
    · exact lv_tableIn hx hb dL_law_62 (tgt := 295) (by decide) (by decide) rfl rfl (lw_k5 C hl hi (by omega) hf hJ back)
    · exact lv_tableIn hx hb dL_law_62 (tgt := 318) (by decide) (by decide) rfl rfl (lw_k6 C hl hi (by omega) hf hJ back)
    · exact lv_tableIn hx hb dL_law_62 (tgt := 341) (by decide) (by decide) rfl rfl (lw_k7 C hl hi (by omega) hf hJ back)
    · exact lv_tableIn hx hb dL_law_62 (tgt := 364) (by decide) (by decide) rfl rfl (lw_k8 C hl hi (by omega) hf hJ back)
    · exact lv_tableIn hx hb dL_law_62 (tgt := 387) (by decide) (by decide) rfl rfl (lw_k9 C hl hi (by omega) hf hJ back)
    · exact lv_tableIn hx hb dL_law_62 (tgt := 410) (by decide) (by decide) rfl rfl (lw_k10 C hl hi (by omega) hf hJ back)
    · exact lv_tableIn hx hb dL_law_62 (tgt := 433) (by decide) (by decide) rfl rfl (lw_k11 C hl hi (by omega) hf hJ back)
    · exact lv_tableIn hx hb dL_law_62 (tgt := 456) (by decide) (by decide) rfl rfl (lw_k12 C hl hi (by omega) hf hJ back)
    · exact lv_tableIn hx hb dL_law_62 (tgt := 479) (by decide) (by decide) rfl rfl (lw_k13 C hl hi (by omega) hf hJ back)
    · exact lv_tableIn hx hb dL_law_62 (tgt := 502) (by decide) (by decide) rfl rfl (lw_k14 C hl hi (by omega) hf hJ back)
    · exact lv_tableIn hx hb dL_law_62 (tgt := 525) (by decide) (by decide) rfl rfl (lw_k15 C hl hi (by omega) hf hJ back)
    · exact lv_tableIn hx hb dL_law_62 (tgt := 558) (by decide) (by decide) rfl rfl (lw_k16 C hl hi (by omega) hf hJ back)
    · exact lv_tableIn hx hb dL_law_62 (tgt := 591) (by decide) (by decide) rfl rfl (lw_k17 C hl hi (by omega) hf hJ back)
    · exact lv_tableIn hx hb dL_law_62 (tgt := 614) (by decide) (by decide) rfl rfl (lw_k18 C hl hi (by omega) hf hJ back)
    · exact lv_tableIn hx hb dL_law_62 (tgt := 647) (by decide) (by decide) rfl rfl (lw_k19 C hl hi (by omega) hf hJ back)
    · exact lv_tableIn hx hb dL_law_62 (tgt := 660) (by decide) (by decide) rfl rfl (lw_k20 C hl hi (by omega) hf hJ back)
  · exact lv_tableOut hx hb dL_law_62 (tgt := 683) (Or.inr (by rw [nI_toInt (by omega)]; omega)) rfl (back H locs hJ1)
end LWL
