def lw_C (p : Program) (s : State) (m : MethodId) (c : Code) (b L : Nat) (xs : Nat → Int32) (D : va_G) (cI cZ cN cM : ClassId) (z z2 n k S : Nat) : Prop := p.tables.exec = Jvm.exec ∧ c.code = cL_law ∧ c.maxLocals = 4 ∧ s.vm.findClass RL = some m.cls ∧ (∀ w ∈ tz, w.before #[Value.ref b] s = true) ∧ va_X b L xs s s.heap ∧ b < s.heap.size ∧ L ≤ 1539 ∧ nK D cI cZ cN cM s ∧ (3 ≤ n ∧ n ≤ 5) ∧ (1 ≤ k ∧ k ≤ 12) ∧ (8 ≤ S ∧ S ≤ 40) ∧ s.heap.size ≤ z ∧ z + 6 + 7 * n + S ≤ z2
def lw_J (s : State) (D : va_G) (cI cZ cN cM : ClassId) (z z2 n k S K : Nat) (H : Heap) (locs : List Loc) : Prop := ∃ u r : mz_S, qG D (qL0 z n k S cI cZ cN cM) u H ∧ rG D (rL0 z2 n k S cI cZ) r H ∧ re n k S K u r ∧ va_S (fun q => s.heap.size ≤ q) s.heap H locs
section LWS
variable {p : Program} {l : Launch} {e : Env} {s : State} {m : MethodId} {below : List Frame} {meth : Method} {c : Code} {H : Heap} {locs : List Loc} {cells slots : Nat} {Q : State → Prop} {ls : Array Slot}
variable {b L i K : Nat} {xs : Nat → Int32} {D : va_G} {cI cZ cN cM : ClassId} {z z2 n k S : Nat}
theorem lw_Aq (h : s.heap.size ≤ z) : ∀ q, qA (qL0 z n k S cI cZ cN cM) q → s.heap.size ≤ q := fun q ⟨a, i, hi, e⟩ => by
  rw [e]
  exact Nat.le_trans h (qL0_ad hi).1
theorem lw_Ar (h : s.heap.size ≤ z2) : ∀ q, rA (rL0 z2 n k S cI cZ) q → s.heap.size ≤ q := fun q ⟨a, i, hi, e⟩ => by
  rw [e]
  exact Nat.le_trans h (Nat.le_add_right _ _)
theorem lw_dr (h : z + 6 + 7 * n + S ≤ z2) : ∀ a i : Nat, i < rN (rL0 z2 n k S cI cZ) a → ¬ qA (qL0 z n k S cI cZ cN cM) ((rL0 z2 n k S cI cZ).1 a i) := fun a i hi ⟨a', i', hi', e⟩ => by
  have g := qL0_ad hi'
  have e : z2 + a = qad z n a' i' := e
  omega
theorem lw_dq (h : z + 6 + 7 * n + S ≤ z2) : ∀ a i : Nat, i < qN (qL0 z n k S cI cZ cN cM) a → ¬ rA (rL0 z2 n k S cI cZ) ((qL0 z n k S cI cZ cN cM).1 a i) := fun a i hi ⟨a', i', hi', e⟩ => by
  have g := qL0_ad hi
  have e : qad z n a i = z2 + a' := e
  omega
set_option maxRecDepth 100000 in
set_option maxHeartbeats 4000000 in
theorem lw_k0 (C : lw_C p s m c b L xs D cI cZ cN cM z z2 n k S) (hl : lv_has ls 4 [(3, .int (nI i)), (2, .ref z2), (1, .ref z), (0, .ref b)]) (hi : i + 3 ≤ L) (hK9 : K + 1 ≤ 100000) (hf : cells ≤ 600000 ∧ slots ≤ 7302250) (hJ : lw_J s D cI cZ cN cM z z2 n k S K H locs) (kk : ∀ (H : Heap) (locs : List Loc), lw_J s D cI cZ cN cM z z2 n k S (K + 1) H locs → W p l e room_1 s m #[Value.ref b] below meth c H locs cells slots Q (F0 m 683 ls [])) : W p l e room_1 s m #[Value.ref b] below meth c H locs cells slots Q (F0 m 160 ls []) := by
  obtain ⟨hx, hb, hml, hown, htz, hX, hbl, hL, hK, hn, hk, hS9, hz1, hz2⟩ := C
  obtain ⟨u, r, hG, hR, hre, hS⟩ := hJ
  have hbA : ¬ (s.heap.size ≤ b) := by omega
  have qok : qL_ok (qL0 z n k S cI cZ cN cM) := qL0_ok hn hk hS9
  have rok : rL_ok (rL0 z2 n k S cI cZ) := rL0_ok hn hk hS9
  have qk : qK D (qL0 z n k S cI cZ cN cM) s := ⟨hK.1, hK.2.1⟩
  have rk : rK D (rL0 z2 n k S cI cZ) s := ⟨hK.1.sub [0, 1] rfl, trivial⟩
  have hAq := lw_Aq (cI := cI) (cZ := cZ) (cN := cN) (cM := cM) (n := n) (k := k) (S := S) hz1
  have hAr := lw_Ar (s := s) (cI := cI) (cZ := cZ) (n := n) (k := k) (S := S) (show s.heap.size ≤ z2 by omega)
  have hdr := lw_dr (cI := cI) (cZ := cZ) (cN := cN) (cM := cM) (k := k) hz2
  have hdq := lw_dq (cI := cI) (cZ := cZ) (cN := cN) (cM := cM) (k := k) hz2
  refine lv_aload_n hx hb dL_law_160 rfl (lv_at hl 2 rfl) ?_
  refine lv_aload_n hx hb dL_law_161 rfl (lv_at hl 3 rfl) ?_
  refine lv_iload_n hx hb dL_law_162 rfl (lv_at hl 0 rfl) ?_
  refine lv_iconst (v := 1) hx hb dL_law_163 (by decide) ?_
  refine lv_iadd hx hb dL_law_164 ?_
  refine lw_ld (i := i + 1) hx hb hX hbl hbA hS hL (nI_add i 1) (by omega) dL_law_165 ?_
  refine mz_Vk (As := [.int _]) (rest := []) ⟨hx, hb, hml, hown, htz⟩ (qc_timeout l D (qL0 z n k S cI cZ cN cM) qok u _ (hre.hw (by omega))) (tz_V htz mX4_timeout lL_21 rfl rfl ⟨Nat.le_of_ble_eq_true rfl, Nat.le_of_ble_eq_true rfl⟩) (qrecv_0 qk hG (show 0 < 1 by decide)) qK_ok qk hG hS hAq rfl hl.1 rfl (Nat.le_of_ble_eq_true rfl) dL_law_166 hf (fun H locs hG oo hS => ?_)
  have hR := mz_other hR oo hdr
  clear oo
  refine lv_aload_n hx hb dL_law_169 rfl (lv_at hl 1 rfl) ?_
  refine lv_aload_n hx hb dL_law_170 rfl (lv_at hl 3 rfl) ?_
  refine lv_iload_n hx hb dL_law_171 rfl (lv_at hl 0 rfl) ?_
  refine lv_iconst (v := 1) hx hb dL_law_172 (by decide) ?_
  refine lv_iadd hx hb dL_law_173 ?_
  refine lw_ld (i := i + 1) hx hb hX hbl hbA hS hL (nI_add i 1) (by omega) dL_law_174 ?_
  refine mz_Vk (As := [.int _]) (rest := [.int _]) ⟨hx, hb, hml, hown, htz⟩ (rc_timeout l D (rL0 z2 n k S cI cZ) rok r _ (hre.hrz hn.2 (by omega)) (fun g1 g2 => hre.hfr hk.2 hn.2 (by omega) hS9.2 (by omega) _ g1 g2)) (tz_V htz mX5_timeout lL_25 rfl rfl ⟨Nat.le_of_ble_eq_true rfl, Nat.le_of_ble_eq_true rfl⟩) (rrecv_0 rk hR (show 0 < 1 by decide)) rK_ok rk hR hS hAr rfl hl.1 rfl (Nat.le_of_ble_eq_true rfl) dL_law_175 hf (fun H locs hR oo hS => ?_)
  have hG := mz_other hG oo hdq
  clear oo
  refine lv_icmp_eq hx hb dL_law_178 (tgt := 683) rfl (fun _ => ?_) (fun h => ?_)
  · exact kk H locs ⟨_, _, hG, hR, (hre.timeout hk.2 hn.2 (by omega) hS9.2 hK9 _).2, hS⟩
  · exact absurd (hre.timeout hk.2 hn.2 (by omega) hS9.2 hK9 _).1.symm h
set_option maxRecDepth 100000 in
set_option maxHeartbeats 4000000 in
theorem lw_k1 (C : lw_C p s m c b L xs D cI cZ cN cM z z2 n k S) (hl : lv_has ls 4 [(3, .int (nI i)), (2, .ref z2), (1, .ref z), (0, .ref b)]) (hi : i + 3 ≤ L) (hK9 : K + 1 ≤ 100000) (hf : cells ≤ 600000 ∧ slots ≤ 7302250) (hJ : lw_J s D cI cZ cN cM z z2 n k S K H locs) (kk : ∀ (H : Heap) (locs : List Loc), lw_J s D cI cZ cN cM z z2 n k S (K + 1) H locs → W p l e room_1 s m #[Value.ref b] below meth c H locs cells slots Q (F0 m 683 ls [])) : W p l e room_1 s m #[Value.ref b] below meth c H locs cells slots Q (F0 m 183 ls []) := by
  obtain ⟨hx, hb, hml, hown, htz, hX, hbl, hL, hK, hn, hk, hS9, hz1, hz2⟩ := C
  obtain ⟨u, r, hG, hR, hre, hS⟩ := hJ
  have hbA : ¬ (s.heap.size ≤ b) := by omega
  have qok : qL_ok (qL0 z n k S cI cZ cN cM) := qL0_ok hn hk hS9
  have rok : rL_ok (rL0 z2 n k S cI cZ) := rL0_ok hn hk hS9
  have qk : qK D (qL0 z n k S cI cZ cN cM) s := ⟨hK.1, hK.2.1⟩
  have rk : rK D (rL0 z2 n k S cI cZ) s := ⟨hK.1.sub [0, 1] rfl, trivial⟩
  have hAq := lw_Aq (cI := cI) (cZ := cZ) (cN := cN) (cM := cM) (n := n) (k := k) (S := S) hz1
  have hAr := lw_Ar (s := s) (cI := cI) (cZ := cZ) (n := n) (k := k) (S := S) (show s.heap.size ≤ z2 by omega)
  have hdr := lw_dr (cI := cI) (cZ := cZ) (cN := cN) (cM := cM) (k := k) hz2
  have hdq := lw_dq (cI := cI) (cZ := cZ) (cN := cN) (cM := cM) (k := k) hz2
  refine lv_aload_n hx hb dL_law_183 rfl (lv_at hl 2 rfl) ?_
  refine lv_aload_n hx hb dL_law_184 rfl (lv_at hl 3 rfl) ?_
  refine lv_iload_n hx hb dL_law_185 rfl (lv_at hl 0 rfl) ?_
  refine lv_iconst (v := 1) hx hb dL_law_186 (by decide) ?_
  refine lv_iadd hx hb dL_law_187 ?_
  refine lw_ld (i := i + 1) hx hb hX hbl hbA hS hL (nI_add i 1) (by omega) dL_law_188 ?_
  refine lv_aload_n hx hb dL_law_189 rfl (lv_at hl 3 rfl) ?_
  refine lv_iload_n hx hb dL_law_190 rfl (lv_at hl 0 rfl) ?_
  refine lv_iconst (v := 2) hx hb dL_law_191 (by decide) ?_
  refine lv_iadd hx hb dL_law_192 ?_
  refine lw_ld (i := i + 2) hx hb hX hbl hbA hS hL (nI_add i 2) (by omega) dL_law_193 ?_
  refine mz_Vk (As := [.int _, .int _]) (rest := []) ⟨hx, hb, hml, hown, htz⟩ (qc_heartbeat l D (qL0 z n k S cI cZ cN cM) qok u _ _ (hre.hw (by omega))) (tz_V htz mX4_heartbeat lL_26 rfl rfl ⟨Nat.le_of_ble_eq_true rfl, Nat.le_of_ble_eq_true rfl⟩) (qrecv_0 qk hG (show 0 < 1 by decide)) qK_ok qk hG hS hAq rfl hl.1 rfl (Nat.le_of_ble_eq_true rfl) dL_law_194 hf (fun H locs hG oo hS => ?_)
  have hR := mz_other hR oo hdr
  clear oo
  refine lv_aload_n hx hb dL_law_197 rfl (lv_at hl 1 rfl) ?_
  refine lv_aload_n hx hb dL_law_198 rfl (lv_at hl 3 rfl) ?_
  refine lv_iload_n hx hb dL_law_199 rfl (lv_at hl 0 rfl) ?_
  refine lv_iconst (v := 1) hx hb dL_law_200 (by decide) ?_
  refine lv_iadd hx hb dL_law_201 ?_
  refine lw_ld (i := i + 1) hx hb hX hbl hbA hS hL (nI_add i 1) (by omega) dL_law_202 ?_
  refine lv_aload_n hx hb dL_law_203 rfl (lv_at hl 3 rfl) ?_
  refine lv_iload_n hx hb dL_law_204 rfl (lv_at hl 0 rfl) ?_
  refine lv_iconst (v := 2) hx hb dL_law_205 (by decide) ?_
  refine lv_iadd hx hb dL_law_206 ?_
  refine lw_ld (i := i + 2) hx hb hX hbl hbA hS hL (nI_add i 2) (by omega) dL_law_207 ?_
  refine mz_Vk (As := [.int _, .int _]) (rest := [.int _]) ⟨hx, hb, hml, hown, htz⟩ (rc_heartbeat l D (rL0 z2 n k S cI cZ) rok r _ _ (hre.hrz hn.2 (by omega))) (tz_V htz mX5_heartbeat lL_30 rfl rfl ⟨Nat.le_of_ble_eq_true rfl, Nat.le_of_ble_eq_true rfl⟩) (rrecv_0 rk hR (show 0 < 1 by decide)) rK_ok rk hR hS hAr rfl hl.1 rfl (Nat.le_of_ble_eq_true rfl) dL_law_208 hf (fun H locs hR oo hS => ?_)
  have hG := mz_other hG oo hdq
  clear oo
  refine lv_icmp_eq hx hb dL_law_211 (tgt := 683) rfl (fun _ => ?_) (fun h => ?_)
  · exact kk H locs ⟨_, _, hG, hR, (hre.heartbeat hk.2 hn.2 hS9.2 hK9 _ _).2, hS⟩
  · exact absurd (hre.heartbeat hk.2 hn.2 hS9.2 hK9 _ _).1.symm h
set_option maxRecDepth 100000 in
set_option maxHeartbeats 4000000 in
theorem lw_k2 (C : lw_C p s m c b L xs D cI cZ cN cM z z2 n k S) (hl : lv_has ls 4 [(3, .int (nI i)), (2, .ref z2), (1, .ref z), (0, .ref b)]) (hi : i + 3 ≤ L) (hK9 : K + 1 ≤ 100000) (hf : cells ≤ 600000 ∧ slots ≤ 7302250) (hJ : lw_J s D cI cZ cN cM z z2 n k S K H locs) (kk : ∀ (H : Heap) (locs : List Loc), lw_J s D cI cZ cN cM z z2 n k S (K + 1) H locs → W p l e room_1 s m #[Value.ref b] below meth c H locs cells slots Q (F0 m 683 ls [])) : W p l e room_1 s m #[Value.ref b] below meth c H locs cells slots Q (F0 m 216 ls []) := by
  obtain ⟨hx, hb, hml, hown, htz, hX, hbl, hL, hK, hn, hk, hS9, hz1, hz2⟩ := C
  obtain ⟨u, r, hG, hR, hre, hS⟩ := hJ
  have hbA : ¬ (s.heap.size ≤ b) := by omega
  have qok : qL_ok (qL0 z n k S cI cZ cN cM) := qL0_ok hn hk hS9
  have rok : rL_ok (rL0 z2 n k S cI cZ) := rL0_ok hn hk hS9
  have qk : qK D (qL0 z n k S cI cZ cN cM) s := ⟨hK.1, hK.2.1⟩
  have rk : rK D (rL0 z2 n k S cI cZ) s := ⟨hK.1.sub [0, 1] rfl, trivial⟩
  have hAq := lw_Aq (cI := cI) (cZ := cZ) (cN := cN) (cM := cM) (n := n) (k := k) (S := S) hz1
  have hAr := lw_Ar (s := s) (cI := cI) (cZ := cZ) (n := n) (k := k) (S := S) (show s.heap.size ≤ z2 by omega)
  have hdr := lw_dr (cI := cI) (cZ := cZ) (cN := cN) (cM := cM) (k := k) hz2
  have hdq := lw_dq (cI := cI) (cZ := cZ) (cN := cN) (cM := cM) (k := k) hz2
  refine lv_aload_n hx hb dL_law_216 rfl (lv_at hl 2 rfl) ?_
  refine lv_aload_n hx hb dL_law_217 rfl (lv_at hl 3 rfl) ?_
  refine lv_iload_n hx hb dL_law_218 rfl (lv_at hl 0 rfl) ?_
  refine lv_iconst (v := 1) hx hb dL_law_219 (by decide) ?_
  refine lv_iadd hx hb dL_law_220 ?_
  refine lw_ld (i := i + 1) hx hb hX hbl hbA hS hL (nI_add i 1) (by omega) dL_law_221 ?_
  refine lv_aload_n hx hb dL_law_222 rfl (lv_at hl 3 rfl) ?_
  refine lv_iload_n hx hb dL_law_223 rfl (lv_at hl 0 rfl) ?_
  refine lv_iconst (v := 2) hx hb dL_law_224 (by decide) ?_
  refine lv_iadd hx hb dL_law_225 ?_
  refine lw_ld (i := i + 2) hx hb hX hbl hbA hS hL (nI_add i 2) (by omega) dL_law_226 ?_
  refine mz_Vk (As := [.int _, .int _]) (rest := []) ⟨hx, hb, hml, hown, htz⟩ (qc_propose l D (qL0 z n k S cI cZ cN cM) qok u _ _ (hre.hw (by omega))) (tz_V htz mX4_propose lL_31 rfl rfl ⟨Nat.le_of_ble_eq_true rfl, Nat.le_of_ble_eq_true rfl⟩) (qrecv_0 qk hG (show 0 < 1 by decide)) qK_ok qk hG hS hAq rfl hl.1 rfl (Nat.le_of_ble_eq_true rfl) dL_law_227 hf (fun H locs hG oo hS => ?_)
  have hR := mz_other hR oo hdr
  clear oo
  refine lv_aload_n hx hb dL_law_230 rfl (lv_at hl 1 rfl) ?_
  refine lv_aload_n hx hb dL_law_231 rfl (lv_at hl 3 rfl) ?_
  refine lv_iload_n hx hb dL_law_232 rfl (lv_at hl 0 rfl) ?_
  refine lv_iconst (v := 1) hx hb dL_law_233 (by decide) ?_
  refine lv_iadd hx hb dL_law_234 ?_
  refine lw_ld (i := i + 1) hx hb hX hbl hbA hS hL (nI_add i 1) (by omega) dL_law_235 ?_
  refine lv_aload_n hx hb dL_law_236 rfl (lv_at hl 3 rfl) ?_
  refine lv_iload_n hx hb dL_law_237 rfl (lv_at hl 0 rfl) ?_
  refine lv_iconst (v := 2) hx hb dL_law_238 (by decide) ?_
  refine lv_iadd hx hb dL_law_239 ?_
  refine lw_ld (i := i + 2) hx hb hX hbl hbA hS hL (nI_add i 2) (by omega) dL_law_240 ?_
  refine mz_Vk (As := [.int _, .int _]) (rest := [.int _]) ⟨hx, hb, hml, hown, htz⟩ (rc_propose l D (rL0 z2 n k S cI cZ) rok r _ _ (hre.hrz hn.2 (by omega))) (tz_V htz mX5_propose lL_34 rfl rfl ⟨Nat.le_of_ble_eq_true rfl, Nat.le_of_ble_eq_true rfl⟩) (rrecv_0 rk hR (show 0 < 1 by decide)) rK_ok rk hR hS hAr rfl hl.1 rfl (Nat.le_of_ble_eq_true rfl) dL_law_241 hf (fun H locs hR oo hS => ?_)
  have hG := mz_other hG oo hdq
  clear oo
  refine lv_icmp_eq hx hb dL_law_244 (tgt := 683) rfl (fun _ => ?_) (fun h => ?_)
  · exact kk H locs ⟨_, _, hG, hR, (hre.propose hk.2 hn.2 hK9 _ _).2, hS⟩
  · exact absurd (hre.propose hk.2 hn.2 hK9 _ _).1.symm h
set_option maxRecDepth 100000 in
set_option maxHeartbeats 4000000 in
theorem lw_k3 (C : lw_C p s m c b L xs D cI cZ cN cM z z2 n k S) (hl : lv_has ls 4 [(3, .int (nI i)), (2, .ref z2), (1, .ref z), (0, .ref b)]) (hi : i + 3 ≤ L) (hK9 : K + 1 ≤ 100000) (hf : cells ≤ 600000 ∧ slots ≤ 7302250) (hJ : lw_J s D cI cZ cN cM z z2 n k S K H locs) (kk : ∀ (H : Heap) (locs : List Loc), lw_J s D cI cZ cN cM z z2 n k S (K + 1) H locs → W p l e room_1 s m #[Value.ref b] below meth c H locs cells slots Q (F0 m 683 ls [])) : W p l e room_1 s m #[Value.ref b] below meth c H locs cells slots Q (F0 m 249 ls []) := by
  obtain ⟨hx, hb, hml, hown, htz, hX, hbl, hL, hK, hn, hk, hS9, hz1, hz2⟩ := C
  obtain ⟨u, r, hG, hR, hre, hS⟩ := hJ
  have hbA : ¬ (s.heap.size ≤ b) := by omega
  have qok : qL_ok (qL0 z n k S cI cZ cN cM) := qL0_ok hn hk hS9
  have rok : rL_ok (rL0 z2 n k S cI cZ) := rL0_ok hn hk hS9
  have qk : qK D (qL0 z n k S cI cZ cN cM) s := ⟨hK.1, hK.2.1⟩
  have rk : rK D (rL0 z2 n k S cI cZ) s := ⟨hK.1.sub [0, 1] rfl, trivial⟩
  have hAq := lw_Aq (cI := cI) (cZ := cZ) (cN := cN) (cM := cM) (n := n) (k := k) (S := S) hz1
  have hAr := lw_Ar (s := s) (cI := cI) (cZ := cZ) (n := n) (k := k) (S := S) (show s.heap.size ≤ z2 by omega)
  have hdr := lw_dr (cI := cI) (cZ := cZ) (cN := cN) (cM := cM) (k := k) hz2
  have hdq := lw_dq (cI := cI) (cZ := cZ) (cN := cN) (cM := cM) (k := k) hz2
  refine lv_aload_n hx hb dL_law_249 rfl (lv_at hl 2 rfl) ?_
  refine lv_aload_n hx hb dL_law_250 rfl (lv_at hl 3 rfl) ?_
  refine lv_iload_n hx hb dL_law_251 rfl (lv_at hl 0 rfl) ?_
  refine lv_iconst (v := 1) hx hb dL_law_252 (by decide) ?_
  refine lv_iadd hx hb dL_law_253 ?_
  refine lw_ld (i := i + 1) hx hb hX hbl hbA hS hL (nI_add i 1) (by omega) dL_law_254 ?_
  refine mz_Vk (As := [.int _]) (rest := []) ⟨hx, hb, hml, hown, htz⟩ (qc_compact l D (qL0 z n k S cI cZ cN cM) qok u _ (hre.hq (by omega))) (tz_V htz mX4_compact lL_35 rfl rfl ⟨Nat.le_of_ble_eq_true rfl, Nat.le_of_ble_eq_true rfl⟩) (qrecv_0 qk hG (show 0 < 1 by decide)) qK_ok qk hG hS hAq rfl hl.1 rfl (Nat.le_of_ble_eq_true rfl) dL_law_255 hf (fun H locs hG oo hS => ?_)
  have hR := mz_other hR oo hdr
  clear oo
  refine lv_aload_n hx hb dL_law_258 rfl (lv_at hl 1 rfl) ?_
  refine lv_aload_n hx hb dL_law_259 rfl (lv_at hl 3 rfl) ?_
  refine lv_iload_n hx hb dL_law_260 rfl (lv_at hl 0 rfl) ?_
  refine lv_iconst (v := 1) hx hb dL_law_261 (by decide) ?_
  refine lv_iadd hx hb dL_law_262 ?_
  refine lw_ld (i := i + 1) hx hb hX hbl hbA hS hL (nI_add i 1) (by omega) dL_law_263 ?_
  refine mz_Vk (As := [.int _]) (rest := [.int _]) ⟨hx, hb, hml, hown, htz⟩ (rc_compact l D (rL0 z2 n k S cI cZ) rok r _ (hre.hrq hn.2 (by omega))) (tz_V htz mX5_compact lL_38 rfl rfl ⟨Nat.le_of_ble_eq_true rfl, Nat.le_of_ble_eq_true rfl⟩) (rrecv_0 rk hR (show 0 < 1 by decide)) rK_ok rk hR hS hAr rfl hl.1 rfl (Nat.le_of_ble_eq_true rfl) dL_law_264 hf (fun H locs hR oo hS => ?_)
  have hG := mz_other hG oo hdq
  clear oo
  refine lv_icmp_eq hx hb dL_law_267 (tgt := 683) rfl (fun _ => ?_) (fun h => ?_)
  · exact kk H locs ⟨_, _, hG, hR, (hre.compact hk.2 hn.2 hK9 _).2, hS⟩
  · exact absurd (hre.compact hk.2 hn.2 hK9 _).1.symm h
set_option maxRecDepth 100000 in
set_option maxHeartbeats 4000000 in
theorem lw_k4 (C : lw_C p s m c b L xs D cI cZ cN cM z z2 n k S) (hl : lv_has ls 4 [(3, .int (nI i)), (2, .ref z2), (1, .ref z), (0, .ref b)]) (hi : i + 3 ≤ L) (hK9 : K + 1 ≤ 100000) (hf : cells ≤ 600000 ∧ slots ≤ 7302250) (hJ : lw_J s D cI cZ cN cM z z2 n k S K H locs) (kk : ∀ (H : Heap) (locs : List Loc), lw_J s D cI cZ cN cM z z2 n k S (K + 1) H locs → W p l e room_1 s m #[Value.ref b] below meth c H locs cells slots Q (F0 m 683 ls [])) : W p l e room_1 s m #[Value.ref b] below meth c H locs cells slots Q (F0 m 272 ls []) := by
  obtain ⟨hx, hb, hml, hown, htz, hX, hbl, hL, hK, hn, hk, hS9, hz1, hz2⟩ := C
  obtain ⟨u, r, hG, hR, hre, hS⟩ := hJ
  have hbA : ¬ (s.heap.size ≤ b) := by omega
  have qok : qL_ok (qL0 z n k S cI cZ cN cM) := qL0_ok hn hk hS9
  have rok : rL_ok (rL0 z2 n k S cI cZ) := rL0_ok hn hk hS9
  have qk : qK D (qL0 z n k S cI cZ cN cM) s := ⟨hK.1, hK.2.1⟩
  have rk : rK D (rL0 z2 n k S cI cZ) s := ⟨hK.1.sub [0, 1] rfl, trivial⟩
  have hAq := lw_Aq (cI := cI) (cZ := cZ) (cN := cN) (cM := cM) (n := n) (k := k) (S := S) hz1
  have hAr := lw_Ar (s := s) (cI := cI) (cZ := cZ) (n := n) (k := k) (S := S) (show s.heap.size ≤ z2 by omega)
  have hdr := lw_dr (cI := cI) (cZ := cZ) (cN := cN) (cM := cM) (k := k) hz2
  have hdq := lw_dq (cI := cI) (cZ := cZ) (cN := cN) (cM := cM) (k := k) hz2
  refine lv_aload_n hx hb dL_law_272 rfl (lv_at hl 2 rfl) ?_
  refine lv_aload_n hx hb dL_law_273 rfl (lv_at hl 3 rfl) ?_
  refine lv_iload_n hx hb dL_law_274 rfl (lv_at hl 0 rfl) ?_
  refine lv_iconst (v := 1) hx hb dL_law_275 (by decide) ?_
  refine lv_iadd hx hb dL_law_276 ?_
  refine lw_ld (i := i + 1) hx hb hX hbl hbA hS hL (nI_add i 1) (by omega) dL_law_277 ?_
  refine mz_Vk (As := [.int _]) (rest := []) ⟨hx, hb, hml, hown, htz⟩ (qc_deliver l D (qL0 z n k S cI cZ cN cM) qok u _ (hre.hq (by omega)) (hre.hm hn.2)) (tz_V htz mX4_deliver lL_39 rfl rfl ⟨Nat.le_of_ble_eq_true rfl, Nat.le_of_ble_eq_true rfl⟩) (qrecv_0 qk hG (show 0 < 1 by decide)) qK_ok qk hG hS hAq rfl hl.1 rfl (Nat.le_of_ble_eq_true rfl) dL_law_278 hf (fun H locs hG oo hS => ?_)
  have hR := mz_other hR oo hdr
  clear oo
  refine lv_aload_n hx hb dL_law_281 rfl (lv_at hl 1 rfl) ?_
  refine lv_aload_n hx hb dL_law_282 rfl (lv_at hl 3 rfl) ?_
  refine lv_iload_n hx hb dL_law_283 rfl (lv_at hl 0 rfl) ?_
  refine lv_iconst (v := 1) hx hb dL_law_284 (by decide) ?_
  refine lv_iadd hx hb dL_law_285 ?_
  refine lw_ld (i := i + 1) hx hb hX hbl hbA hS hL (nI_add i 1) (by omega) dL_law_286 ?_
  refine mz_Vk (As := [.int _]) (rest := [.int _]) ⟨hx, hb, hml, hown, htz⟩ (rc_deliver l D (rL0 z2 n k S cI cZ) rok r _ (hre.hrq hn.2 (by omega)) (hre.hrm hk.2 hn.2 (by omega))) (tz_V htz mX5_deliver lL_42 rfl rfl ⟨Nat.le_of_ble_eq_true rfl, Nat.le_of_ble_eq_true rfl⟩) (rrecv_0 rk hR (show 0 < 1 by decide)) rK_ok rk hR hS hAr rfl hl.1 rfl (Nat.le_of_ble_eq_true rfl) dL_law_287 hf (fun H locs hR oo hS => ?_)
  have hG := mz_other hG oo hdq
  clear oo
  refine lv_icmp_eq hx hb dL_law_290 (tgt := 683) rfl (fun _ => ?_) (fun h => ?_)
  · exact kk H locs ⟨_, _, hG, hR, (hre.deliver hk.2 hn.2 hS9.2 hK9 _).2, hS⟩
  · exact absurd (hre.deliver hk.2 hn.2 hS9.2 hK9 _).1.symm h
set_option maxRecDepth 100000 in
set_option maxHeartbeats 4000000 in
theorem lw_k5 (C : lw_C p s m c b L xs D cI cZ cN cM z z2 n k S) (hl : lv_has ls 4 [(3, .int (nI i)), (2, .ref z2), (1, .ref z), (0, .ref b)]) (hi : i + 3 ≤ L) (hK9 : K + 1 ≤ 100000) (hf : cells ≤ 600000 ∧ slots ≤ 7302250) (hJ : lw_J s D cI cZ cN cM z z2 n k S K H locs) (kk : ∀ (H : Heap) (locs : List Loc), lw_J s D cI cZ cN cM z z2 n k S (K + 1) H locs → W p l e room_1 s m #[Value.ref b] below meth c H locs cells slots Q (F0 m 683 ls [])) : W p l e room_1 s m #[Value.ref b] below meth c H locs cells slots Q (F0 m 295 ls []) := by
  obtain ⟨hx, hb, hml, hown, htz, hX, hbl, hL, hK, hn, hk, hS9, hz1, hz2⟩ := C
  obtain ⟨u, r, hG, hR, hre, hS⟩ := hJ
  have hbA : ¬ (s.heap.size ≤ b) := by omega
  have qok : qL_ok (qL0 z n k S cI cZ cN cM) := qL0_ok hn hk hS9
  have rok : rL_ok (rL0 z2 n k S cI cZ) := rL0_ok hn hk hS9
  have qk : qK D (qL0 z n k S cI cZ cN cM) s := ⟨hK.1, hK.2.1⟩
  have rk : rK D (rL0 z2 n k S cI cZ) s := ⟨hK.1.sub [0, 1] rfl, trivial⟩
  have hAq := lw_Aq (cI := cI) (cZ := cZ) (cN := cN) (cM := cM) (n := n) (k := k) (S := S) hz1
  have hAr := lw_Ar (s := s) (cI := cI) (cZ := cZ) (n := n) (k := k) (S := S) (show s.heap.size ≤ z2 by omega)
  have hdr := lw_dr (cI := cI) (cZ := cZ) (cN := cN) (cM := cM) (k := k) hz2
  have hdq := lw_dq (cI := cI) (cZ := cZ) (cN := cN) (cM := cM) (k := k) hz2
  refine lv_aload_n hx hb dL_law_295 rfl (lv_at hl 2 rfl) ?_
  refine lv_aload_n hx hb dL_law_296 rfl (lv_at hl 3 rfl) ?_
  refine lv_iload_n hx hb dL_law_297 rfl (lv_at hl 0 rfl) ?_
  refine lv_iconst (v := 1) hx hb dL_law_298 (by decide) ?_
  refine lv_iadd hx hb dL_law_299 ?_
  refine lw_ld (i := i + 1) hx hb hX hbl hbA hS hL (nI_add i 1) (by omega) dL_law_300 ?_
  refine mz_Vk (As := [.int _]) (rest := []) ⟨hx, hb, hml, hown, htz⟩ (qc_drop l D (qL0 z n k S cI cZ cN cM) qok u _ ) (tz_V htz mX4_drop lL_43 rfl rfl ⟨Nat.le_of_ble_eq_true rfl, Nat.le_of_ble_eq_true rfl⟩) (qrecv_0 qk hG (show 0 < 1 by decide)) qK_ok qk hG hS hAq rfl hl.1 rfl (Nat.le_of_ble_eq_true rfl) dL_law_301 hf (fun H locs hG oo hS => ?_)
  have hR := mz_other hR oo hdr
  clear oo
  refine lv_aload_n hx hb dL_law_304 rfl (lv_at hl 1 rfl) ?_
  refine lv_aload_n hx hb dL_law_305 rfl (lv_at hl 3 rfl) ?_
  refine lv_iload_n hx hb dL_law_306 rfl (lv_at hl 0 rfl) ?_
  refine lv_iconst (v := 1) hx hb dL_law_307 (by decide) ?_
  refine lv_iadd hx hb dL_law_308 ?_
  refine lw_ld (i := i + 1) hx hb hX hbl hbA hS hL (nI_add i 1) (by omega) dL_law_309 ?_
  refine mz_Vk (As := [.int _]) (rest := [.int _]) ⟨hx, hb, hml, hown, htz⟩ (rc_drop l D (rL0 z2 n k S cI cZ) rok r _ ) (tz_V htz mX5_drop lL_46 rfl rfl ⟨Nat.le_of_ble_eq_true rfl, Nat.le_of_ble_eq_true rfl⟩) (rrecv_0 rk hR (show 0 < 1 by decide)) rK_ok rk hR hS hAr rfl hl.1 rfl (Nat.le_of_ble_eq_true rfl) dL_law_310 hf (fun H locs hR oo hS => ?_)
  have hG := mz_other hG oo hdq
  clear oo
  refine lv_icmp_eq hx hb dL_law_313 (tgt := 683) rfl (fun _ => ?_) (fun h => ?_)
  · exact kk H locs ⟨_, _, hG, hR, (hre.drop hk.2 hn.2 hS9.2 _).2, hS⟩
  · exact absurd (hre.drop hk.2 hn.2 hS9.2 _).1.symm h
set_option maxRecDepth 100000 in
set_option maxHeartbeats 4000000 in
theorem lw_k6 (C : lw_C p s m c b L xs D cI cZ cN cM z z2 n k S) (hl : lv_has ls 4 [(3, .int (nI i)), (2, .ref z2), (1, .ref z), (0, .ref b)]) (hi : i + 3 ≤ L) (hK9 : K + 1 ≤ 100000) (hf : cells ≤ 600000 ∧ slots ≤ 7302250) (hJ : lw_J s D cI cZ cN cM z z2 n k S K H locs) (kk : ∀ (H : Heap) (locs : List Loc), lw_J s D cI cZ cN cM z z2 n k S (K + 1) H locs → W p l e room_1 s m #[Value.ref b] below meth c H locs cells slots Q (F0 m 683 ls [])) : W p l e room_1 s m #[Value.ref b] below meth c H locs cells slots Q (F0 m 318 ls []) := by
  obtain ⟨hx, hb, hml, hown, htz, hX, hbl, hL, hK, hn, hk, hS9, hz1, hz2⟩ := C
  obtain ⟨u, r, hG, hR, hre, hS⟩ := hJ
  have hbA : ¬ (s.heap.size ≤ b) := by omega
  have qok : qL_ok (qL0 z n k S cI cZ cN cM) := qL0_ok hn hk hS9
  have rok : rL_ok (rL0 z2 n k S cI cZ) := rL0_ok hn hk hS9
  have qk : qK D (qL0 z n k S cI cZ cN cM) s := ⟨hK.1, hK.2.1⟩
  have rk : rK D (rL0 z2 n k S cI cZ) s := ⟨hK.1.sub [0, 1] rfl, trivial⟩
  have hAq := lw_Aq (cI := cI) (cZ := cZ) (cN := cN) (cM := cM) (n := n) (k := k) (S := S) hz1
  have hAr := lw_Ar (s := s) (cI := cI) (cZ := cZ) (n := n) (k := k) (S := S) (show s.heap.size ≤ z2 by omega)
  have hdr := lw_dr (cI := cI) (cZ := cZ) (cN := cN) (cM := cM) (k := k) hz2
  have hdq := lw_dq (cI := cI) (cZ := cZ) (cN := cN) (cM := cM) (k := k) hz2
  refine lv_aload_n hx hb dL_law_318 rfl (lv_at hl 2 rfl) ?_
  refine lv_aload_n hx hb dL_law_319 rfl (lv_at hl 3 rfl) ?_
  refine lv_iload_n hx hb dL_law_320 rfl (lv_at hl 0 rfl) ?_
  refine lv_iconst (v := 1) hx hb dL_law_321 (by decide) ?_
  refine lv_iadd hx hb dL_law_322 ?_
  refine lw_ld (i := i + 1) hx hb hX hbl hbA hS hL (nI_add i 1) (by omega) dL_law_323 ?_
  refine mz_Vk (As := [.int _]) (rest := []) ⟨hx, hb, hml, hown, htz⟩ (qc_duplicate l D (qL0 z n k S cI cZ cN cM) qok u _ ) (tz_V htz mX4_duplicate lL_47 rfl rfl ⟨Nat.le_of_ble_eq_true rfl, Nat.le_of_ble_eq_true rfl⟩) (qrecv_0 qk hG (show 0 < 1 by decide)) qK_ok qk hG hS hAq rfl hl.1 rfl (Nat.le_of_ble_eq_true rfl) dL_law_324 hf (fun H locs hG oo hS => ?_)
  have hR := mz_other hR oo hdr
  clear oo
  refine lv_aload_n hx hb dL_law_327 rfl (lv_at hl 1 rfl) ?_
  refine lv_aload_n hx hb dL_law_328 rfl (lv_at hl 3 rfl) ?_
  refine lv_iload_n hx hb dL_law_329 rfl (lv_at hl 0 rfl) ?_
  refine lv_iconst (v := 1) hx hb dL_law_330 (by decide) ?_
  refine lv_iadd hx hb dL_law_331 ?_
  refine lw_ld (i := i + 1) hx hb hX hbl hbA hS hL (nI_add i 1) (by omega) dL_law_332 ?_
  refine mz_Vk (As := [.int _]) (rest := [.int _]) ⟨hx, hb, hml, hown, htz⟩ (rc_duplicate l D (rL0 z2 n k S cI cZ) rok r _ (hre.2.2.2 _)) (tz_V htz mX5_duplicate lL_50 rfl rfl ⟨Nat.le_of_ble_eq_true rfl, Nat.le_of_ble_eq_true rfl⟩) (rrecv_0 rk hR (show 0 < 1 by decide)) rK_ok rk hR hS hAr rfl hl.1 rfl (Nat.le_of_ble_eq_true rfl) dL_law_333 hf (fun H locs hR oo hS => ?_)
  have hG := mz_other hG oo hdq
  clear oo
  refine lv_icmp_eq hx hb dL_law_336 (tgt := 683) rfl (fun _ => ?_) (fun h => ?_)
  · exact kk H locs ⟨_, _, hG, hR, (hre.duplicate hk.2 hn.2 hS9.2 _).2, hS⟩
  · exact absurd (hre.duplicate hk.2 hn.2 hS9.2 _).1.symm h
set_option maxRecDepth 100000 in
set_option maxHeartbeats 4000000 in
theorem lw_k7 (C : lw_C p s m c b L xs D cI cZ cN cM z z2 n k S) (hl : lv_has ls 4 [(3, .int (nI i)), (2, .ref z2), (1, .ref z), (0, .ref b)]) (hi : i + 3 ≤ L) (hK9 : K + 1 ≤ 100000) (hf : cells ≤ 600000 ∧ slots ≤ 7302250) (hJ : lw_J s D cI cZ cN cM z z2 n k S K H locs) (kk : ∀ (H : Heap) (locs : List Loc), lw_J s D cI cZ cN cM z z2 n k S (K + 1) H locs → W p l e room_1 s m #[Value.ref b] below meth c H locs cells slots Q (F0 m 683 ls [])) : W p l e room_1 s m #[Value.ref b] below meth c H locs cells slots Q (F0 m 341 ls []) := by
  obtain ⟨hx, hb, hml, hown, htz, hX, hbl, hL, hK, hn, hk, hS9, hz1, hz2⟩ := C
  obtain ⟨u, r, hG, hR, hre, hS⟩ := hJ
  have hbA : ¬ (s.heap.size ≤ b) := by omega
  have qok : qL_ok (qL0 z n k S cI cZ cN cM) := qL0_ok hn hk hS9
  have rok : rL_ok (rL0 z2 n k S cI cZ) := rL0_ok hn hk hS9
  have qk : qK D (qL0 z n k S cI cZ cN cM) s := ⟨hK.1, hK.2.1⟩
  have rk : rK D (rL0 z2 n k S cI cZ) s := ⟨hK.1.sub [0, 1] rfl, trivial⟩
  have hAq := lw_Aq (cI := cI) (cZ := cZ) (cN := cN) (cM := cM) (n := n) (k := k) (S := S) hz1
  have hAr := lw_Ar (s := s) (cI := cI) (cZ := cZ) (n := n) (k := k) (S := S) (show s.heap.size ≤ z2 by omega)
  have hdr := lw_dr (cI := cI) (cZ := cZ) (cN := cN) (cM := cM) (k := k) hz2
  have hdq := lw_dq (cI := cI) (cZ := cZ) (cN := cN) (cM := cM) (k := k) hz2
  refine lv_aload_n hx hb dL_law_341 rfl (lv_at hl 2 rfl) ?_
  refine lv_aload_n hx hb dL_law_342 rfl (lv_at hl 3 rfl) ?_
  refine lv_iload_n hx hb dL_law_343 rfl (lv_at hl 0 rfl) ?_
  refine lv_iconst (v := 1) hx hb dL_law_344 (by decide) ?_
  refine lv_iadd hx hb dL_law_345 ?_
  refine lw_ld (i := i + 1) hx hb hX hbl hbA hS hL (nI_add i 1) (by omega) dL_law_346 ?_
  refine mz_Vk (As := [.int _]) (rest := []) ⟨hx, hb, hml, hown, htz⟩ (qc_crash l D (qL0 z n k S cI cZ cN cM) qok u _ ) (tz_V htz mX4_crash lL_51 rfl rfl ⟨Nat.le_of_ble_eq_true rfl, Nat.le_of_ble_eq_true rfl⟩) (qrecv_0 qk hG (show 0 < 1 by decide)) qK_ok qk hG hS hAq rfl hl.1 rfl (Nat.le_of_ble_eq_true rfl) dL_law_347 hf (fun H locs hG oo hS => ?_)
  have hR := mz_other hR oo hdr
  clear oo
  refine lv_aload_n hx hb dL_law_350 rfl (lv_at hl 1 rfl) ?_
  refine lv_aload_n hx hb dL_law_351 rfl (lv_at hl 3 rfl) ?_
  refine lv_iload_n hx hb dL_law_352 rfl (lv_at hl 0 rfl) ?_
  refine lv_iconst (v := 1) hx hb dL_law_353 (by decide) ?_
  refine lv_iadd hx hb dL_law_354 ?_
  refine lw_ld (i := i + 1) hx hb hX hbl hbA hS hL (nI_add i 1) (by omega) dL_law_355 ?_
  refine mz_Vk (As := [.int _]) (rest := [.int _]) ⟨hx, hb, hml, hown, htz⟩ (rc_crash l D (rL0 z2 n k S cI cZ) rok r _ ) (tz_V htz mX5_crash lL_54 rfl rfl ⟨Nat.le_of_ble_eq_true rfl, Nat.le_of_ble_eq_true rfl⟩) (rrecv_0 rk hR (show 0 < 1 by decide)) rK_ok rk hR hS hAr rfl hl.1 rfl (Nat.le_of_ble_eq_true rfl) dL_law_356 hf (fun H locs hR oo hS => ?_)
  have hG := mz_other hG oo hdq
  clear oo
  refine lv_icmp_eq hx hb dL_law_359 (tgt := 683) rfl (fun _ => ?_) (fun h => ?_)
  · exact kk H locs ⟨_, _, hG, hR, (hre.crash hk.2 hn.2 _).2, hS⟩
  · exact absurd (hre.crash hk.2 hn.2 _).1.symm h
set_option maxRecDepth 100000 in
set_option maxHeartbeats 4000000 in
theorem lw_k8 (C : lw_C p s m c b L xs D cI cZ cN cM z z2 n k S) (hl : lv_has ls 4 [(3, .int (nI i)), (2, .ref z2), (1, .ref z), (0, .ref b)]) (hi : i + 3 ≤ L) (hK9 : K + 1 ≤ 100000) (hf : cells ≤ 600000 ∧ slots ≤ 7302250) (hJ : lw_J s D cI cZ cN cM z z2 n k S K H locs) (kk : ∀ (H : Heap) (locs : List Loc), lw_J s D cI cZ cN cM z z2 n k S (K + 1) H locs → W p l e room_1 s m #[Value.ref b] below meth c H locs cells slots Q (F0 m 683 ls [])) : W p l e room_1 s m #[Value.ref b] below meth c H locs cells slots Q (F0 m 364 ls []) := by
  obtain ⟨hx, hb, hml, hown, htz, hX, hbl, hL, hK, hn, hk, hS9, hz1, hz2⟩ := C
  obtain ⟨u, r, hG, hR, hre, hS⟩ := hJ
  have hbA : ¬ (s.heap.size ≤ b) := by omega
  have qok : qL_ok (qL0 z n k S cI cZ cN cM) := qL0_ok hn hk hS9
  have rok : rL_ok (rL0 z2 n k S cI cZ) := rL0_ok hn hk hS9
  have qk : qK D (qL0 z n k S cI cZ cN cM) s := ⟨hK.1, hK.2.1⟩
  have rk : rK D (rL0 z2 n k S cI cZ) s := ⟨hK.1.sub [0, 1] rfl, trivial⟩
  have hAq := lw_Aq (cI := cI) (cZ := cZ) (cN := cN) (cM := cM) (n := n) (k := k) (S := S) hz1
  have hAr := lw_Ar (s := s) (cI := cI) (cZ := cZ) (n := n) (k := k) (S := S) (show s.heap.size ≤ z2 by omega)
  have hdr := lw_dr (cI := cI) (cZ := cZ) (cN := cN) (cM := cM) (k := k) hz2
  have hdq := lw_dq (cI := cI) (cZ := cZ) (cN := cN) (cM := cM) (k := k) hz2
  refine lv_aload_n hx hb dL_law_364 rfl (lv_at hl 2 rfl) ?_
  refine lv_aload_n hx hb dL_law_365 rfl (lv_at hl 3 rfl) ?_
  refine lv_iload_n hx hb dL_law_366 rfl (lv_at hl 0 rfl) ?_
  refine lv_iconst (v := 1) hx hb dL_law_367 (by decide) ?_
  refine lv_iadd hx hb dL_law_368 ?_
  refine lw_ld (i := i + 1) hx hb hX hbl hbA hS hL (nI_add i 1) (by omega) dL_law_369 ?_
  refine mz_Vk (As := [.int _]) (rest := []) ⟨hx, hb, hml, hown, htz⟩ (qc_restart l D (qL0 z n k S cI cZ cN cM) qok u _ ) (tz_V htz mX4_restart lL_55 rfl rfl ⟨Nat.le_of_ble_eq_true rfl, Nat.le_of_ble_eq_true rfl⟩) (qrecv_0 qk hG (show 0 < 1 by decide)) qK_ok qk hG hS hAq rfl hl.1 rfl (Nat.le_of_ble_eq_true rfl) dL_law_370 hf (fun H locs hG oo hS => ?_)
  have hR := mz_other hR oo hdr
  clear oo
  refine lv_aload_n hx hb dL_law_373 rfl (lv_at hl 1 rfl) ?_
  refine lv_aload_n hx hb dL_law_374 rfl (lv_at hl 3 rfl) ?_
  refine lv_iload_n hx hb dL_law_375 rfl (lv_at hl 0 rfl) ?_
  refine lv_iconst (v := 1) hx hb dL_law_376 (by decide) ?_
  refine lv_iadd hx hb dL_law_377 ?_
  refine lw_ld (i := i + 1) hx hb hX hbl hbA hS hL (nI_add i 1) (by omega) dL_law_378 ?_
  refine mz_Vk (As := [.int _]) (rest := [.int _]) ⟨hx, hb, hml, hown, htz⟩ (rc_restart l D (rL0 z2 n k S cI cZ) rok r _ ) (tz_V htz mX5_restart lL_58 rfl rfl ⟨Nat.le_of_ble_eq_true rfl, Nat.le_of_ble_eq_true rfl⟩) (rrecv_0 rk hR (show 0 < 1 by decide)) rK_ok rk hR hS hAr rfl hl.1 rfl (Nat.le_of_ble_eq_true rfl) dL_law_379 hf (fun H locs hR oo hS => ?_)
  have hG := mz_other hG oo hdq
  clear oo
  refine lv_icmp_eq hx hb dL_law_382 (tgt := 683) rfl (fun _ => ?_) (fun h => ?_)
  · exact kk H locs ⟨_, _, hG, hR, (hre.restart hk.2 hn.2 _).2, hS⟩
  · exact absurd (hre.restart hk.2 hn.2 _).1.symm h
set_option maxRecDepth 100000 in
set_option maxHeartbeats 4000000 in
theorem lw_k9 (C : lw_C p s m c b L xs D cI cZ cN cM z z2 n k S) (hl : lv_has ls 4 [(3, .int (nI i)), (2, .ref z2), (1, .ref z), (0, .ref b)]) (hi : i + 3 ≤ L) (hK9 : K + 1 ≤ 100000) (hf : cells ≤ 600000 ∧ slots ≤ 7302250) (hJ : lw_J s D cI cZ cN cM z z2 n k S K H locs) (kk : ∀ (H : Heap) (locs : List Loc), lw_J s D cI cZ cN cM z z2 n k S (K + 1) H locs → W p l e room_1 s m #[Value.ref b] below meth c H locs cells slots Q (F0 m 683 ls [])) : W p l e room_1 s m #[Value.ref b] below meth c H locs cells slots Q (F0 m 387 ls []) := by
  obtain ⟨hx, hb, hml, hown, htz, hX, hbl, hL, hK, hn, hk, hS9, hz1, hz2⟩ := C
  obtain ⟨u, r, hG, hR, hre, hS⟩ := hJ
  have hbA : ¬ (s.heap.size ≤ b) := by omega
  have qok : qL_ok (qL0 z n k S cI cZ cN cM) := qL0_ok hn hk hS9
  have rok : rL_ok (rL0 z2 n k S cI cZ) := rL0_ok hn hk hS9
  have qk : qK D (qL0 z n k S cI cZ cN cM) s := ⟨hK.1, hK.2.1⟩
  have rk : rK D (rL0 z2 n k S cI cZ) s := ⟨hK.1.sub [0, 1] rfl, trivial⟩
  have hAq := lw_Aq (cI := cI) (cZ := cZ) (cN := cN) (cM := cM) (n := n) (k := k) (S := S) hz1
  have hAr := lw_Ar (s := s) (cI := cI) (cZ := cZ) (n := n) (k := k) (S := S) (show s.heap.size ≤ z2 by omega)
  have hdr := lw_dr (cI := cI) (cZ := cZ) (cN := cN) (cM := cM) (k := k) hz2
  have hdq := lw_dq (cI := cI) (cZ := cZ) (cN := cN) (cM := cM) (k := k) hz2
  refine lv_aload_n hx hb dL_law_387 rfl (lv_at hl 2 rfl) ?_
  refine lv_aload_n hx hb dL_law_388 rfl (lv_at hl 3 rfl) ?_
  refine lv_iload_n hx hb dL_law_389 rfl (lv_at hl 0 rfl) ?_
  refine lv_iconst (v := 1) hx hb dL_law_390 (by decide) ?_
  refine lv_iadd hx hb dL_law_391 ?_
  refine lw_ld (i := i + 1) hx hb hX hbl hbA hS hL (nI_add i 1) (by omega) dL_law_392 ?_
  refine mz_Vk (As := [.int _]) (rest := []) ⟨hx, hb, hml, hown, htz⟩ (qc_role l D (qL0 z n k S cI cZ cN cM) qok u _ ) (tz_V htz mX4_role lL_59 rfl rfl ⟨Nat.le_of_ble_eq_true rfl, Nat.le_of_ble_eq_true rfl⟩) (qrecv_0 qk hG (show 0 < 1 by decide)) qK_ok qk hG hS hAq rfl hl.1 rfl (Nat.le_of_ble_eq_true rfl) dL_law_393 hf (fun H locs hG oo hS => ?_)
  have hR := mz_other hR oo hdr
  clear oo
  refine lv_aload_n hx hb dL_law_396 rfl (lv_at hl 1 rfl) ?_
  refine lv_aload_n hx hb dL_law_397 rfl (lv_at hl 3 rfl) ?_
  refine lv_iload_n hx hb dL_law_398 rfl (lv_at hl 0 rfl) ?_
  refine lv_iconst (v := 1) hx hb dL_law_399 (by decide) ?_
  refine lv_iadd hx hb dL_law_400 ?_
  refine lw_ld (i := i + 1) hx hb hX hbl hbA hS hL (nI_add i 1) (by omega) dL_law_401 ?_
  refine mz_Vk (As := [.int _]) (rest := [.int _]) ⟨hx, hb, hml, hown, htz⟩ (rc_role l D (rL0 z2 n k S cI cZ) rok r _ ) (tz_V htz mX5_role lL_62 rfl rfl ⟨Nat.le_of_ble_eq_true rfl, Nat.le_of_ble_eq_true rfl⟩) (rrecv_0 rk hR (show 0 < 1 by decide)) rK_ok rk hR hS hAr rfl hl.1 rfl (Nat.le_of_ble_eq_true rfl) dL_law_402 hf (fun H locs hR oo hS => ?_)
  have hG := mz_other hG oo hdq
  clear oo
  refine lv_icmp_eq hx hb dL_law_405 (tgt := 683) rfl (fun _ => ?_) (fun h => ?_)
  · exact kk H locs ⟨_, _, hG, hR, hre.mono (Nat.le_succ K), hS⟩
  · exact absurd (hre.role hn.2 _).symm h
set_option maxRecDepth 100000 in
set_option maxHeartbeats 4000000 in
theorem lw_k10 (C : lw_C p s m c b L xs D cI cZ cN cM z z2 n k S) (hl : lv_has ls 4 [(3, .int (nI i)), (2, .ref z2), (1, .ref z), (0, .ref b)]) (hi : i + 3 ≤ L) (hK9 : K + 1 ≤ 100000) (hf : cells ≤ 600000 ∧ slots ≤ 7302250) (hJ : lw_J s D cI cZ cN cM z z2 n k S K H locs) (kk : ∀ (H : Heap) (locs : List Loc), lw_J s D cI cZ cN cM z z2 n k S (K + 1) H locs → W p l e room_1 s m #[Value.ref b] below meth c H locs cells slots Q (F0 m 683 ls [])) : W p l e room_1 s m #[Value.ref b] below meth c H locs cells slots Q (F0 m 410 ls []) := by
  obtain ⟨hx, hb, hml, hown, htz, hX, hbl, hL, hK, hn, hk, hS9, hz1, hz2⟩ := C
  obtain ⟨u, r, hG, hR, hre, hS⟩ := hJ
  have hbA : ¬ (s.heap.size ≤ b) := by omega
  have qok : qL_ok (qL0 z n k S cI cZ cN cM) := qL0_ok hn hk hS9
  have rok : rL_ok (rL0 z2 n k S cI cZ) := rL0_ok hn hk hS9
  have qk : qK D (qL0 z n k S cI cZ cN cM) s := ⟨hK.1, hK.2.1⟩
  have rk : rK D (rL0 z2 n k S cI cZ) s := ⟨hK.1.sub [0, 1] rfl, trivial⟩
  have hAq := lw_Aq (cI := cI) (cZ := cZ) (cN := cN) (cM := cM) (n := n) (k := k) (S := S) hz1
  have hAr := lw_Ar (s := s) (cI := cI) (cZ := cZ) (n := n) (k := k) (S := S) (show s.heap.size ≤ z2 by omega)
  have hdr := lw_dr (cI := cI) (cZ := cZ) (cN := cN) (cM := cM) (k := k) hz2
  have hdq := lw_dq (cI := cI) (cZ := cZ) (cN := cN) (cM := cM) (k := k) hz2
  refine lv_aload_n hx hb dL_law_410 rfl (lv_at hl 2 rfl) ?_
  refine lv_aload_n hx hb dL_law_411 rfl (lv_at hl 3 rfl) ?_
  refine lv_iload_n hx hb dL_law_412 rfl (lv_at hl 0 rfl) ?_
  refine lv_iconst (v := 1) hx hb dL_law_413 (by decide) ?_
  refine lv_iadd hx hb dL_law_414 ?_
  refine lw_ld (i := i + 1) hx hb hX hbl hbA hS hL (nI_add i 1) (by omega) dL_law_415 ?_
  refine mz_Vk (As := [.int _]) (rest := []) ⟨hx, hb, hml, hown, htz⟩ (qc_term l D (qL0 z n k S cI cZ cN cM) qok u _ ) (tz_V htz mX4_term lL_63 rfl rfl ⟨Nat.le_of_ble_eq_true rfl, Nat.le_of_ble_eq_true rfl⟩) (qrecv_0 qk hG (show 0 < 1 by decide)) qK_ok qk hG hS hAq rfl hl.1 rfl (Nat.le_of_ble_eq_true rfl) dL_law_416 hf (fun H locs hG oo hS => ?_)
  have hR := mz_other hR oo hdr
  clear oo
  refine lv_aload_n hx hb dL_law_419 rfl (lv_at hl 1 rfl) ?_
  refine lv_aload_n hx hb dL_law_420 rfl (lv_at hl 3 rfl) ?_
  refine lv_iload_n hx hb dL_law_421 rfl (lv_at hl 0 rfl) ?_
  refine lv_iconst (v := 1) hx hb dL_law_422 (by decide) ?_
  refine lv_iadd hx hb dL_law_423 ?_
  refine lw_ld (i := i + 1) hx hb hX hbl hbA hS hL (nI_add i 1) (by omega) dL_law_424 ?_
  refine mz_Vk (As := [.int _]) (rest := [.int _]) ⟨hx, hb, hml, hown, htz⟩ (rc_term l D (rL0 z2 n k S cI cZ) rok r _ ) (tz_V htz mX5_term lL_66 rfl rfl ⟨Nat.le_of_ble_eq_true rfl, Nat.le_of_ble_eq_true rfl⟩) (rrecv_0 rk hR (show 0 < 1 by decide)) rK_ok rk hR hS hAr rfl hl.1 rfl (Nat.le_of_ble_eq_true rfl) dL_law_425 hf (fun H locs hR oo hS => ?_)
  have hG := mz_other hG oo hdq
  clear oo
  refine lv_icmp_eq hx hb dL_law_428 (tgt := 683) rfl (fun _ => ?_) (fun h => ?_)
  · exact kk H locs ⟨_, _, hG, hR, hre.mono (Nat.le_succ K), hS⟩
  · exact absurd (hre.term hn.2 _).symm h
set_option maxRecDepth 100000 in
set_option maxHeartbeats 4000000 in
theorem lw_k11 (C : lw_C p s m c b L xs D cI cZ cN cM z z2 n k S) (hl : lv_has ls 4 [(3, .int (nI i)), (2, .ref z2), (1, .ref z), (0, .ref b)]) (hi : i + 3 ≤ L) (hK9 : K + 1 ≤ 100000) (hf : cells ≤ 600000 ∧ slots ≤ 7302250) (hJ : lw_J s D cI cZ cN cM z z2 n k S K H locs) (kk : ∀ (H : Heap) (locs : List Loc), lw_J s D cI cZ cN cM z z2 n k S (K + 1) H locs → W p l e room_1 s m #[Value.ref b] below meth c H locs cells slots Q (F0 m 683 ls [])) : W p l e room_1 s m #[Value.ref b] below meth c H locs cells slots Q (F0 m 433 ls []) := by
  obtain ⟨hx, hb, hml, hown, htz, hX, hbl, hL, hK, hn, hk, hS9, hz1, hz2⟩ := C
  obtain ⟨u, r, hG, hR, hre, hS⟩ := hJ
  have hbA : ¬ (s.heap.size ≤ b) := by omega
  have qok : qL_ok (qL0 z n k S cI cZ cN cM) := qL0_ok hn hk hS9
  have rok : rL_ok (rL0 z2 n k S cI cZ) := rL0_ok hn hk hS9
  have qk : qK D (qL0 z n k S cI cZ cN cM) s := ⟨hK.1, hK.2.1⟩
  have rk : rK D (rL0 z2 n k S cI cZ) s := ⟨hK.1.sub [0, 1] rfl, trivial⟩
  have hAq := lw_Aq (cI := cI) (cZ := cZ) (cN := cN) (cM := cM) (n := n) (k := k) (S := S) hz1
  have hAr := lw_Ar (s := s) (cI := cI) (cZ := cZ) (n := n) (k := k) (S := S) (show s.heap.size ≤ z2 by omega)
  have hdr := lw_dr (cI := cI) (cZ := cZ) (cN := cN) (cM := cM) (k := k) hz2
  have hdq := lw_dq (cI := cI) (cZ := cZ) (cN := cN) (cM := cM) (k := k) hz2
  refine lv_aload_n hx hb dL_law_433 rfl (lv_at hl 2 rfl) ?_
  refine lv_aload_n hx hb dL_law_434 rfl (lv_at hl 3 rfl) ?_
  refine lv_iload_n hx hb dL_law_435 rfl (lv_at hl 0 rfl) ?_
  refine lv_iconst (v := 1) hx hb dL_law_436 (by decide) ?_
  refine lv_iadd hx hb dL_law_437 ?_
  refine lw_ld (i := i + 1) hx hb hX hbl hbA hS hL (nI_add i 1) (by omega) dL_law_438 ?_
  refine mz_Vk (As := [.int _]) (rest := []) ⟨hx, hb, hml, hown, htz⟩ (qc_vote l D (qL0 z n k S cI cZ cN cM) qok u _ ) (tz_V htz mX4_vote lL_67 rfl rfl ⟨Nat.le_of_ble_eq_true rfl, Nat.le_of_ble_eq_true rfl⟩) (qrecv_0 qk hG (show 0 < 1 by decide)) qK_ok qk hG hS hAq rfl hl.1 rfl (Nat.le_of_ble_eq_true rfl) dL_law_439 hf (fun H locs hG oo hS => ?_)
  have hR := mz_other hR oo hdr
  clear oo
  refine lv_aload_n hx hb dL_law_442 rfl (lv_at hl 1 rfl) ?_
  refine lv_aload_n hx hb dL_law_443 rfl (lv_at hl 3 rfl) ?_
  refine lv_iload_n hx hb dL_law_444 rfl (lv_at hl 0 rfl) ?_
  refine lv_iconst (v := 1) hx hb dL_law_445 (by decide) ?_
  refine lv_iadd hx hb dL_law_446 ?_
  refine lw_ld (i := i + 1) hx hb hX hbl hbA hS hL (nI_add i 1) (by omega) dL_law_447 ?_
  refine mz_Vk (As := [.int _]) (rest := [.int _]) ⟨hx, hb, hml, hown, htz⟩ (rc_vote l D (rL0 z2 n k S cI cZ) rok r _ ) (tz_V htz mX5_vote lL_70 rfl rfl ⟨Nat.le_of_ble_eq_true rfl, Nat.le_of_ble_eq_true rfl⟩) (rrecv_0 rk hR (show 0 < 1 by decide)) rK_ok rk hR hS hAr rfl hl.1 rfl (Nat.le_of_ble_eq_true rfl) dL_law_448 hf (fun H locs hR oo hS => ?_)
  have hG := mz_other hG oo hdq
  clear oo
  refine lv_icmp_eq hx hb dL_law_451 (tgt := 683) rfl (fun _ => ?_) (fun h => ?_)
  · exact kk H locs ⟨_, _, hG, hR, hre.mono (Nat.le_succ K), hS⟩
  · exact absurd (hre.voteQ hn.2 _).symm h
set_option maxRecDepth 100000 in
set_option maxHeartbeats 4000000 in
theorem lw_k12 (C : lw_C p s m c b L xs D cI cZ cN cM z z2 n k S) (hl : lv_has ls 4 [(3, .int (nI i)), (2, .ref z2), (1, .ref z), (0, .ref b)]) (hi : i + 3 ≤ L) (hK9 : K + 1 ≤ 100000) (hf : cells ≤ 600000 ∧ slots ≤ 7302250) (hJ : lw_J s D cI cZ cN cM z z2 n k S K H locs) (kk : ∀ (H : Heap) (locs : List Loc), lw_J s D cI cZ cN cM z z2 n k S (K + 1) H locs → W p l e room_1 s m #[Value.ref b] below meth c H locs cells slots Q (F0 m 683 ls [])) : W p l e room_1 s m #[Value.ref b] below meth c H locs cells slots Q (F0 m 456 ls []) := by
  obtain ⟨hx, hb, hml, hown, htz, hX, hbl, hL, hK, hn, hk, hS9, hz1, hz2⟩ := C
  obtain ⟨u, r, hG, hR, hre, hS⟩ := hJ
  have hbA : ¬ (s.heap.size ≤ b) := by omega
  have qok : qL_ok (qL0 z n k S cI cZ cN cM) := qL0_ok hn hk hS9
  have rok : rL_ok (rL0 z2 n k S cI cZ) := rL0_ok hn hk hS9
  have qk : qK D (qL0 z n k S cI cZ cN cM) s := ⟨hK.1, hK.2.1⟩
  have rk : rK D (rL0 z2 n k S cI cZ) s := ⟨hK.1.sub [0, 1] rfl, trivial⟩
  have hAq := lw_Aq (cI := cI) (cZ := cZ) (cN := cN) (cM := cM) (n := n) (k := k) (S := S) hz1
  have hAr := lw_Ar (s := s) (cI := cI) (cZ := cZ) (n := n) (k := k) (S := S) (show s.heap.size ≤ z2 by omega)
  have hdr := lw_dr (cI := cI) (cZ := cZ) (cN := cN) (cM := cM) (k := k) hz2
  have hdq := lw_dq (cI := cI) (cZ := cZ) (cN := cN) (cM := cM) (k := k) hz2
  refine lv_aload_n hx hb dL_law_456 rfl (lv_at hl 2 rfl) ?_
  refine lv_aload_n hx hb dL_law_457 rfl (lv_at hl 3 rfl) ?_
  refine lv_iload_n hx hb dL_law_458 rfl (lv_at hl 0 rfl) ?_
  refine lv_iconst (v := 1) hx hb dL_law_459 (by decide) ?_
  refine lv_iadd hx hb dL_law_460 ?_
  refine lw_ld (i := i + 1) hx hb hX hbl hbA hS hL (nI_add i 1) (by omega) dL_law_461 ?_
  refine mz_Vk (As := [.int _]) (rest := []) ⟨hx, hb, hml, hown, htz⟩ (qc_base l D (qL0 z n k S cI cZ cN cM) qok u _ ) (tz_V htz mX4_base lL_71 rfl rfl ⟨Nat.le_of_ble_eq_true rfl, Nat.le_of_ble_eq_true rfl⟩) (qrecv_0 qk hG (show 0 < 1 by decide)) qK_ok qk hG hS hAq rfl hl.1 rfl (Nat.le_of_ble_eq_true rfl) dL_law_462 hf (fun H locs hG oo hS => ?_)
  have hR := mz_other hR oo hdr
  clear oo
  refine lv_aload_n hx hb dL_law_465 rfl (lv_at hl 1 rfl) ?_
  refine lv_aload_n hx hb dL_law_466 rfl (lv_at hl 3 rfl) ?_
  refine lv_iload_n hx hb dL_law_467 rfl (lv_at hl 0 rfl) ?_
  refine lv_iconst (v := 1) hx hb dL_law_468 (by decide) ?_
  refine lv_iadd hx hb dL_law_469 ?_
  refine lw_ld (i := i + 1) hx hb hX hbl hbA hS hL (nI_add i 1) (by omega) dL_law_470 ?_
  refine mz_Vk (As := [.int _]) (rest := [.int _]) ⟨hx, hb, hml, hown, htz⟩ (rc_base l D (rL0 z2 n k S cI cZ) rok r _ ) (tz_V htz mX5_base lL_74 rfl rfl ⟨Nat.le_of_ble_eq_true rfl, Nat.le_of_ble_eq_true rfl⟩) (rrecv_0 rk hR (show 0 < 1 by decide)) rK_ok rk hR hS hAr rfl hl.1 rfl (Nat.le_of_ble_eq_true rfl) dL_law_471 hf (fun H locs hR oo hS => ?_)
  have hG := mz_other hG oo hdq
  clear oo
  refine lv_icmp_eq hx hb dL_law_474 (tgt := 683) rfl (fun _ => ?_) (fun h => ?_)
  · exact kk H locs ⟨_, _, hG, hR, hre.mono (Nat.le_succ K), hS⟩
  · exact absurd (hre.base hn.2 _).symm h
set_option maxRecDepth 100000 in
set_option maxHeartbeats 4000000 in
theorem lw_k13 (C : lw_C p s m c b L xs D cI cZ cN cM z z2 n k S) (hl : lv_has ls 4 [(3, .int (nI i)), (2, .ref z2), (1, .ref z), (0, .ref b)]) (hi : i + 3 ≤ L) (hK9 : K + 1 ≤ 100000) (hf : cells ≤ 600000 ∧ slots ≤ 7302250) (hJ : lw_J s D cI cZ cN cM z z2 n k S K H locs) (kk : ∀ (H : Heap) (locs : List Loc), lw_J s D cI cZ cN cM z z2 n k S (K + 1) H locs → W p l e room_1 s m #[Value.ref b] below meth c H locs cells slots Q (F0 m 683 ls [])) : W p l e room_1 s m #[Value.ref b] below meth c H locs cells slots Q (F0 m 479 ls []) := by
  obtain ⟨hx, hb, hml, hown, htz, hX, hbl, hL, hK, hn, hk, hS9, hz1, hz2⟩ := C
  obtain ⟨u, r, hG, hR, hre, hS⟩ := hJ
  have hbA : ¬ (s.heap.size ≤ b) := by omega
  have qok : qL_ok (qL0 z n k S cI cZ cN cM) := qL0_ok hn hk hS9
  have rok : rL_ok (rL0 z2 n k S cI cZ) := rL0_ok hn hk hS9
  have qk : qK D (qL0 z n k S cI cZ cN cM) s := ⟨hK.1, hK.2.1⟩
  have rk : rK D (rL0 z2 n k S cI cZ) s := ⟨hK.1.sub [0, 1] rfl, trivial⟩
  have hAq := lw_Aq (cI := cI) (cZ := cZ) (cN := cN) (cM := cM) (n := n) (k := k) (S := S) hz1
  have hAr := lw_Ar (s := s) (cI := cI) (cZ := cZ) (n := n) (k := k) (S := S) (show s.heap.size ≤ z2 by omega)
  have hdr := lw_dr (cI := cI) (cZ := cZ) (cN := cN) (cM := cM) (k := k) hz2
  have hdq := lw_dq (cI := cI) (cZ := cZ) (cN := cN) (cM := cM) (k := k) hz2
  refine lv_aload_n hx hb dL_law_479 rfl (lv_at hl 2 rfl) ?_
  refine lv_aload_n hx hb dL_law_480 rfl (lv_at hl 3 rfl) ?_
  refine lv_iload_n hx hb dL_law_481 rfl (lv_at hl 0 rfl) ?_
  refine lv_iconst (v := 1) hx hb dL_law_482 (by decide) ?_
  refine lv_iadd hx hb dL_law_483 ?_
  refine lw_ld (i := i + 1) hx hb hX hbl hbA hS hL (nI_add i 1) (by omega) dL_law_484 ?_
  refine mz_Vk (As := [.int _]) (rest := []) ⟨hx, hb, hml, hown, htz⟩ (qc_last l D (qL0 z n k S cI cZ cN cM) qok u _ ) (tz_V htz mX4_last lL_75 rfl rfl ⟨Nat.le_of_ble_eq_true rfl, Nat.le_of_ble_eq_true rfl⟩) (qrecv_0 qk hG (show 0 < 1 by decide)) qK_ok qk hG hS hAq rfl hl.1 rfl (Nat.le_of_ble_eq_true rfl) dL_law_485 hf (fun H locs hG oo hS => ?_)
  have hR := mz_other hR oo hdr
  clear oo
  refine lv_aload_n hx hb dL_law_488 rfl (lv_at hl 1 rfl) ?_
  refine lv_aload_n hx hb dL_law_489 rfl (lv_at hl 3 rfl) ?_
  refine lv_iload_n hx hb dL_law_490 rfl (lv_at hl 0 rfl) ?_
  refine lv_iconst (v := 1) hx hb dL_law_491 (by decide) ?_
  refine lv_iadd hx hb dL_law_492 ?_
  refine lw_ld (i := i + 1) hx hb hX hbl hbA hS hL (nI_add i 1) (by omega) dL_law_493 ?_
  refine mz_Vk (As := [.int _]) (rest := [.int _]) ⟨hx, hb, hml, hown, htz⟩ (rc_last l D (rL0 z2 n k S cI cZ) rok r _ ) (tz_V htz mX5_last lL_78 rfl rfl ⟨Nat.le_of_ble_eq_true rfl, Nat.le_of_ble_eq_true rfl⟩) (rrecv_0 rk hR (show 0 < 1 by decide)) rK_ok rk hR hS hAr rfl hl.1 rfl (Nat.le_of_ble_eq_true rfl) dL_law_494 hf (fun H locs hR oo hS => ?_)
  have hG := mz_other hG oo hdq
  clear oo
  refine lv_icmp_eq hx hb dL_law_497 (tgt := 683) rfl (fun _ => ?_) (fun h => ?_)
  · exact kk H locs ⟨_, _, hG, hR, hre.mono (Nat.le_succ K), hS⟩
  · exact absurd (hre.last hn.2 _).symm h
set_option maxRecDepth 100000 in
set_option maxHeartbeats 4000000 in
theorem lw_k14 (C : lw_C p s m c b L xs D cI cZ cN cM z z2 n k S) (hl : lv_has ls 4 [(3, .int (nI i)), (2, .ref z2), (1, .ref z), (0, .ref b)]) (hi : i + 3 ≤ L) (hK9 : K + 1 ≤ 100000) (hf : cells ≤ 600000 ∧ slots ≤ 7302250) (hJ : lw_J s D cI cZ cN cM z z2 n k S K H locs) (kk : ∀ (H : Heap) (locs : List Loc), lw_J s D cI cZ cN cM z z2 n k S (K + 1) H locs → W p l e room_1 s m #[Value.ref b] below meth c H locs cells slots Q (F0 m 683 ls [])) : W p l e room_1 s m #[Value.ref b] below meth c H locs cells slots Q (F0 m 502 ls []) := by
  obtain ⟨hx, hb, hml, hown, htz, hX, hbl, hL, hK, hn, hk, hS9, hz1, hz2⟩ := C
  obtain ⟨u, r, hG, hR, hre, hS⟩ := hJ
  have hbA : ¬ (s.heap.size ≤ b) := by omega
  have qok : qL_ok (qL0 z n k S cI cZ cN cM) := qL0_ok hn hk hS9
  have rok : rL_ok (rL0 z2 n k S cI cZ) := rL0_ok hn hk hS9
  have qk : qK D (qL0 z n k S cI cZ cN cM) s := ⟨hK.1, hK.2.1⟩
  have rk : rK D (rL0 z2 n k S cI cZ) s := ⟨hK.1.sub [0, 1] rfl, trivial⟩
  have hAq := lw_Aq (cI := cI) (cZ := cZ) (cN := cN) (cM := cM) (n := n) (k := k) (S := S) hz1
  have hAr := lw_Ar (s := s) (cI := cI) (cZ := cZ) (n := n) (k := k) (S := S) (show s.heap.size ≤ z2 by omega)
  have hdr := lw_dr (cI := cI) (cZ := cZ) (cN := cN) (cM := cM) (k := k) hz2
  have hdq := lw_dq (cI := cI) (cZ := cZ) (cN := cN) (cM := cM) (k := k) hz2
  refine lv_aload_n hx hb dL_law_502 rfl (lv_at hl 2 rfl) ?_
  refine lv_aload_n hx hb dL_law_503 rfl (lv_at hl 3 rfl) ?_
  refine lv_iload_n hx hb dL_law_504 rfl (lv_at hl 0 rfl) ?_
  refine lv_iconst (v := 1) hx hb dL_law_505 (by decide) ?_
  refine lv_iadd hx hb dL_law_506 ?_
  refine lw_ld (i := i + 1) hx hb hX hbl hbA hS hL (nI_add i 1) (by omega) dL_law_507 ?_
  refine mz_Vk (As := [.int _]) (rest := []) ⟨hx, hb, hml, hown, htz⟩ (qc_commit l D (qL0 z n k S cI cZ cN cM) qok u _ ) (tz_V htz mX4_commit lL_79 rfl rfl ⟨Nat.le_of_ble_eq_true rfl, Nat.le_of_ble_eq_true rfl⟩) (qrecv_0 qk hG (show 0 < 1 by decide)) qK_ok qk hG hS hAq rfl hl.1 rfl (Nat.le_of_ble_eq_true rfl) dL_law_508 hf (fun H locs hG oo hS => ?_)
  have hR := mz_other hR oo hdr
  clear oo
  refine lv_aload_n hx hb dL_law_511 rfl (lv_at hl 1 rfl) ?_
  refine lv_aload_n hx hb dL_law_512 rfl (lv_at hl 3 rfl) ?_
  refine lv_iload_n hx hb dL_law_513 rfl (lv_at hl 0 rfl) ?_
  refine lv_iconst (v := 1) hx hb dL_law_514 (by decide) ?_
  refine lv_iadd hx hb dL_law_515 ?_
  refine lw_ld (i := i + 1) hx hb hX hbl hbA hS hL (nI_add i 1) (by omega) dL_law_516 ?_
  refine mz_Vk (As := [.int _]) (rest := [.int _]) ⟨hx, hb, hml, hown, htz⟩ (rc_commit l D (rL0 z2 n k S cI cZ) rok r _ ) (tz_V htz mX5_commit lL_82 rfl rfl ⟨Nat.le_of_ble_eq_true rfl, Nat.le_of_ble_eq_true rfl⟩) (rrecv_0 rk hR (show 0 < 1 by decide)) rK_ok rk hR hS hAr rfl hl.1 rfl (Nat.le_of_ble_eq_true rfl) dL_law_517 hf (fun H locs hR oo hS => ?_)
  have hG := mz_other hG oo hdq
  clear oo
  refine lv_icmp_eq hx hb dL_law_520 (tgt := 683) rfl (fun _ => ?_) (fun h => ?_)
  · exact kk H locs ⟨_, _, hG, hR, hre.mono (Nat.le_succ K), hS⟩
  · exact absurd (hre.commitQ hn.2 _).symm h
set_option maxRecDepth 100000 in
set_option maxHeartbeats 4000000 in
theorem lw_k15 (C : lw_C p s m c b L xs D cI cZ cN cM z z2 n k S) (hl : lv_has ls 4 [(3, .int (nI i)), (2, .ref z2), (1, .ref z), (0, .ref b)]) (hi : i + 3 ≤ L) (hK9 : K + 1 ≤ 100000) (hf : cells ≤ 600000 ∧ slots ≤ 7302250) (hJ : lw_J s D cI cZ cN cM z z2 n k S K H locs) (kk : ∀ (H : Heap) (locs : List Loc), lw_J s D cI cZ cN cM z z2 n k S (K + 1) H locs → W p l e room_1 s m #[Value.ref b] below meth c H locs cells slots Q (F0 m 683 ls [])) : W p l e room_1 s m #[Value.ref b] below meth c H locs cells slots Q (F0 m 525 ls []) := by
  obtain ⟨hx, hb, hml, hown, htz, hX, hbl, hL, hK, hn, hk, hS9, hz1, hz2⟩ := C
  obtain ⟨u, r, hG, hR, hre, hS⟩ := hJ
  have hbA : ¬ (s.heap.size ≤ b) := by omega
  have qok : qL_ok (qL0 z n k S cI cZ cN cM) := qL0_ok hn hk hS9
  have rok : rL_ok (rL0 z2 n k S cI cZ) := rL0_ok hn hk hS9
  have qk : qK D (qL0 z n k S cI cZ cN cM) s := ⟨hK.1, hK.2.1⟩
  have rk : rK D (rL0 z2 n k S cI cZ) s := ⟨hK.1.sub [0, 1] rfl, trivial⟩
  have hAq := lw_Aq (cI := cI) (cZ := cZ) (cN := cN) (cM := cM) (n := n) (k := k) (S := S) hz1
  have hAr := lw_Ar (s := s) (cI := cI) (cZ := cZ) (n := n) (k := k) (S := S) (show s.heap.size ≤ z2 by omega)
  have hdr := lw_dr (cI := cI) (cZ := cZ) (cN := cN) (cM := cM) (k := k) hz2
  have hdq := lw_dq (cI := cI) (cZ := cZ) (cN := cN) (cM := cM) (k := k) hz2
  refine lv_aload_n hx hb dL_law_525 rfl (lv_at hl 2 rfl) ?_
  refine lv_aload_n hx hb dL_law_526 rfl (lv_at hl 3 rfl) ?_
  refine lv_iload_n hx hb dL_law_527 rfl (lv_at hl 0 rfl) ?_
  refine lv_iconst (v := 1) hx hb dL_law_528 (by decide) ?_
  refine lv_iadd hx hb dL_law_529 ?_
  refine lw_ld (i := i + 1) hx hb hX hbl hbA hS hL (nI_add i 1) (by omega) dL_law_530 ?_
  refine lv_aload_n hx hb dL_law_531 rfl (lv_at hl 3 rfl) ?_
  refine lv_iload_n hx hb dL_law_532 rfl (lv_at hl 0 rfl) ?_
  refine lv_iconst (v := 2) hx hb dL_law_533 (by decide) ?_
  refine lv_iadd hx hb dL_law_534 ?_
  refine lw_ld (i := i + 2) hx hb hX hbl hbA hS hL (nI_add i 2) (by omega) dL_law_535 ?_
  refine mz_Vk (As := [.int _, .int _]) (rest := []) ⟨hx, hb, hml, hown, htz⟩ (qc_termAt l D (qL0 z n k S cI cZ cN cM) qok u _ _ (hre.hw (by omega))) (tz_V htz mX4_termAt lL_83 rfl rfl ⟨Nat.le_of_ble_eq_true rfl, Nat.le_of_ble_eq_true rfl⟩) (qrecv_0 qk hG (show 0 < 1 by decide)) qK_ok qk hG hS hAq rfl hl.1 rfl (Nat.le_of_ble_eq_true rfl) dL_law_536 hf (fun H locs hG oo hS => ?_)
  have hR := mz_other hR oo hdr
  clear oo
  refine lv_aload_n hx hb dL_law_539 rfl (lv_at hl 1 rfl) ?_
  refine lv_aload_n hx hb dL_law_540 rfl (lv_at hl 3 rfl) ?_
  refine lv_iload_n hx hb dL_law_541 rfl (lv_at hl 0 rfl) ?_
  refine lv_iconst (v := 1) hx hb dL_law_542 (by decide) ?_
  refine lv_iadd hx hb dL_law_543 ?_
  refine lw_ld (i := i + 1) hx hb hX hbl hbA hS hL (nI_add i 1) (by omega) dL_law_544 ?_
  refine lv_aload_n hx hb dL_law_545 rfl (lv_at hl 3 rfl) ?_
  refine lv_iload_n hx hb dL_law_546 rfl (lv_at hl 0 rfl) ?_
  refine lv_iconst (v := 2) hx hb dL_law_547 (by decide) ?_
  refine lv_iadd hx hb dL_law_548 ?_
  refine lw_ld (i := i + 2) hx hb hX hbl hbA hS hL (nI_add i 2) (by omega) dL_law_549 ?_
  refine mz_Vk (As := [.int _, .int _]) (rest := [.int _]) ⟨hx, hb, hml, hown, htz⟩ (rc_termAt l D (rL0 z2 n k S cI cZ) rok r _ _ (hre.hrz hn.2 (by omega))) (tz_V htz mX5_termAt lL_86 rfl rfl ⟨Nat.le_of_ble_eq_true rfl, Nat.le_of_ble_eq_true rfl⟩) (rrecv_0 rk hR (show 0 < 1 by decide)) rK_ok rk hR hS hAr rfl hl.1 rfl (Nat.le_of_ble_eq_true rfl) dL_law_550 hf (fun H locs hR oo hS => ?_)
  have hG := mz_other hG oo hdq
  clear oo
  refine lv_icmp_eq hx hb dL_law_553 (tgt := 683) rfl (fun _ => ?_) (fun h => ?_)
  · exact kk H locs ⟨_, _, hG, hR, hre.mono (Nat.le_succ K), hS⟩
  · exact absurd (hre.termAt hk.2 hn.2 (by omega) _ _).symm h
set_option maxRecDepth 100000 in
set_option maxHeartbeats 4000000 in
theorem lw_k16 (C : lw_C p s m c b L xs D cI cZ cN cM z z2 n k S) (hl : lv_has ls 4 [(3, .int (nI i)), (2, .ref z2), (1, .ref z), (0, .ref b)]) (hi : i + 3 ≤ L) (hK9 : K + 1 ≤ 100000) (hf : cells ≤ 600000 ∧ slots ≤ 7302250) (hJ : lw_J s D cI cZ cN cM z z2 n k S K H locs) (kk : ∀ (H : Heap) (locs : List Loc), lw_J s D cI cZ cN cM z z2 n k S (K + 1) H locs → W p l e room_1 s m #[Value.ref b] below meth c H locs cells slots Q (F0 m 683 ls [])) : W p l e room_1 s m #[Value.ref b] below meth c H locs cells slots Q (F0 m 558 ls []) := by
  obtain ⟨hx, hb, hml, hown, htz, hX, hbl, hL, hK, hn, hk, hS9, hz1, hz2⟩ := C
  obtain ⟨u, r, hG, hR, hre, hS⟩ := hJ
  have hbA : ¬ (s.heap.size ≤ b) := by omega
  have qok : qL_ok (qL0 z n k S cI cZ cN cM) := qL0_ok hn hk hS9
  have rok : rL_ok (rL0 z2 n k S cI cZ) := rL0_ok hn hk hS9
  have qk : qK D (qL0 z n k S cI cZ cN cM) s := ⟨hK.1, hK.2.1⟩
  have rk : rK D (rL0 z2 n k S cI cZ) s := ⟨hK.1.sub [0, 1] rfl, trivial⟩
  have hAq := lw_Aq (cI := cI) (cZ := cZ) (cN := cN) (cM := cM) (n := n) (k := k) (S := S) hz1
  have hAr := lw_Ar (s := s) (cI := cI) (cZ := cZ) (n := n) (k := k) (S := S) (show s.heap.size ≤ z2 by omega)
  have hdr := lw_dr (cI := cI) (cZ := cZ) (cN := cN) (cM := cM) (k := k) hz2
  have hdq := lw_dq (cI := cI) (cZ := cZ) (cN := cN) (cM := cM) (k := k) hz2
  refine lv_aload_n hx hb dL_law_558 rfl (lv_at hl 2 rfl) ?_
  refine lv_aload_n hx hb dL_law_559 rfl (lv_at hl 3 rfl) ?_
  refine lv_iload_n hx hb dL_law_560 rfl (lv_at hl 0 rfl) ?_
  refine lv_iconst (v := 1) hx hb dL_law_561 (by decide) ?_
  refine lv_iadd hx hb dL_law_562 ?_
  refine lw_ld (i := i + 1) hx hb hX hbl hbA hS hL (nI_add i 1) (by omega) dL_law_563 ?_
  refine lv_aload_n hx hb dL_law_564 rfl (lv_at hl 3 rfl) ?_
  refine lv_iload_n hx hb dL_law_565 rfl (lv_at hl 0 rfl) ?_
  refine lv_iconst (v := 2) hx hb dL_law_566 (by decide) ?_
  refine lv_iadd hx hb dL_law_567 ?_
  refine lw_ld (i := i + 2) hx hb hX hbl hbA hS hL (nI_add i 2) (by omega) dL_law_568 ?_
  refine mz_Vk (As := [.int _, .int _]) (rest := []) ⟨hx, hb, hml, hown, htz⟩ (qc_commandAt l D (qL0 z n k S cI cZ cN cM) qok u _ _ (hre.hw (by omega))) (tz_V htz mX4_commandAt lL_87 rfl rfl ⟨Nat.le_of_ble_eq_true rfl, Nat.le_of_ble_eq_true rfl⟩) (qrecv_0 qk hG (show 0 < 1 by decide)) qK_ok qk hG hS hAq rfl hl.1 rfl (Nat.le_of_ble_eq_true rfl) dL_law_569 hf (fun H locs hG oo hS => ?_)
  have hR := mz_other hR oo hdr
  clear oo
  refine lv_aload_n hx hb dL_law_572 rfl (lv_at hl 1 rfl) ?_
  refine lv_aload_n hx hb dL_law_573 rfl (lv_at hl 3 rfl) ?_
  refine lv_iload_n hx hb dL_law_574 rfl (lv_at hl 0 rfl) ?_
  refine lv_iconst (v := 1) hx hb dL_law_575 (by decide) ?_
  refine lv_iadd hx hb dL_law_576 ?_
  refine lw_ld (i := i + 1) hx hb hX hbl hbA hS hL (nI_add i 1) (by omega) dL_law_577 ?_
  refine lv_aload_n hx hb dL_law_578 rfl (lv_at hl 3 rfl) ?_
  refine lv_iload_n hx hb dL_law_579 rfl (lv_at hl 0 rfl) ?_
  refine lv_iconst (v := 2) hx hb dL_law_580 (by decide) ?_
  refine lv_iadd hx hb dL_law_581 ?_
  refine lw_ld (i := i + 2) hx hb hX hbl hbA hS hL (nI_add i 2) (by omega) dL_law_582 ?_
  refine mz_Vk (As := [.int _, .int _]) (rest := [.int _]) ⟨hx, hb, hml, hown, htz⟩ (rc_commandAt l D (rL0 z2 n k S cI cZ) rok r _ _ (hre.hrz hn.2 (by omega))) (tz_V htz mX5_commandAt lL_90 rfl rfl ⟨Nat.le_of_ble_eq_true rfl, Nat.le_of_ble_eq_true rfl⟩) (rrecv_0 rk hR (show 0 < 1 by decide)) rK_ok rk hR hS hAr rfl hl.1 rfl (Nat.le_of_ble_eq_true rfl) dL_law_583 hf (fun H locs hR oo hS => ?_)
  have hG := mz_other hG oo hdq
  clear oo
  refine lv_icmp_eq hx hb dL_law_586 (tgt := 683) rfl (fun _ => ?_) (fun h => ?_)
  · exact kk H locs ⟨_, _, hG, hR, hre.mono (Nat.le_succ K), hS⟩
  · exact absurd (hre.commandAt hk.2 hn.2 (by omega) _ _).symm h
set_option maxRecDepth 100000 in
set_option maxHeartbeats 4000000 in
theorem lw_k17 (C : lw_C p s m c b L xs D cI cZ cN cM z z2 n k S) (hl : lv_has ls 4 [(3, .int (nI i)), (2, .ref z2), (1, .ref z), (0, .ref b)]) (hi : i + 3 ≤ L) (hK9 : K + 1 ≤ 100000) (hf : cells ≤ 600000 ∧ slots ≤ 7302250) (hJ : lw_J s D cI cZ cN cM z z2 n k S K H locs) (kk : ∀ (H : Heap) (locs : List Loc), lw_J s D cI cZ cN cM z z2 n k S (K + 1) H locs → W p l e room_1 s m #[Value.ref b] below meth c H locs cells slots Q (F0 m 683 ls [])) : W p l e room_1 s m #[Value.ref b] below meth c H locs cells slots Q (F0 m 591 ls []) := by
  obtain ⟨hx, hb, hml, hown, htz, hX, hbl, hL, hK, hn, hk, hS9, hz1, hz2⟩ := C
  obtain ⟨u, r, hG, hR, hre, hS⟩ := hJ
  have hbA : ¬ (s.heap.size ≤ b) := by omega
  have qok : qL_ok (qL0 z n k S cI cZ cN cM) := qL0_ok hn hk hS9
  have rok : rL_ok (rL0 z2 n k S cI cZ) := rL0_ok hn hk hS9
  have qk : qK D (qL0 z n k S cI cZ cN cM) s := ⟨hK.1, hK.2.1⟩
  have rk : rK D (rL0 z2 n k S cI cZ) s := ⟨hK.1.sub [0, 1] rfl, trivial⟩
  have hAq := lw_Aq (cI := cI) (cZ := cZ) (cN := cN) (cM := cM) (n := n) (k := k) (S := S) hz1
  have hAr := lw_Ar (s := s) (cI := cI) (cZ := cZ) (n := n) (k := k) (S := S) (show s.heap.size ≤ z2 by omega)
  have hdr := lw_dr (cI := cI) (cZ := cZ) (cN := cN) (cM := cM) (k := k) hz2
  have hdq := lw_dq (cI := cI) (cZ := cZ) (cN := cN) (cM := cM) (k := k) hz2
  refine lv_aload_n hx hb dL_law_591 rfl (lv_at hl 2 rfl) ?_
  refine lv_aload_n hx hb dL_law_592 rfl (lv_at hl 3 rfl) ?_
  refine lv_iload_n hx hb dL_law_593 rfl (lv_at hl 0 rfl) ?_
  refine lv_iconst (v := 1) hx hb dL_law_594 (by decide) ?_
  refine lv_iadd hx hb dL_law_595 ?_
  refine lw_ld (i := i + 1) hx hb hX hbl hbA hS hL (nI_add i 1) (by omega) dL_law_596 ?_
  refine mz_Vk (As := [.int _]) (rest := []) ⟨hx, hb, hml, hown, htz⟩ (qc_state l D (qL0 z n k S cI cZ cN cM) qok u _ (hre.hq (by omega))) (tz_V htz mX4_state lL_91 rfl rfl ⟨Nat.le_of_ble_eq_true rfl, Nat.le_of_ble_eq_true rfl⟩) (qrecv_0 qk hG (show 0 < 1 by decide)) qK_ok qk hG hS hAq rfl hl.1 rfl (Nat.le_of_ble_eq_true rfl) dL_law_597 hf (fun H locs hG oo hS => ?_)
  have hR := mz_other hR oo hdr
  clear oo
  refine lv_aload_n hx hb dL_law_600 rfl (lv_at hl 1 rfl) ?_
  refine lv_aload_n hx hb dL_law_601 rfl (lv_at hl 3 rfl) ?_
  refine lv_iload_n hx hb dL_law_602 rfl (lv_at hl 0 rfl) ?_
  refine lv_iconst (v := 1) hx hb dL_law_603 (by decide) ?_
  refine lv_iadd hx hb dL_law_604 ?_
  refine lw_ld (i := i + 1) hx hb hX hbl hbA hS hL (nI_add i 1) (by omega) dL_law_605 ?_
  refine mz_Vk (As := [.int _]) (rest := [.int _]) ⟨hx, hb, hml, hown, htz⟩ (rc_state l D (rL0 z2 n k S cI cZ) rok r _ (hre.hrq hn.2 (by omega))) (tz_V htz mX5_state lL_94 rfl rfl ⟨Nat.le_of_ble_eq_true rfl, Nat.le_of_ble_eq_true rfl⟩) (rrecv_0 rk hR (show 0 < 1 by decide)) rK_ok rk hR hS hAr rfl hl.1 rfl (Nat.le_of_ble_eq_true rfl) dL_law_606 hf (fun H locs hR oo hS => ?_)
  have hG := mz_other hG oo hdq
  clear oo
  refine lv_icmp_eq hx hb dL_law_609 (tgt := 683) rfl (fun _ => ?_) (fun h => ?_)
  · exact kk H locs ⟨_, _, hG, hR, hre.mono (Nat.le_succ K), hS⟩
  · exact absurd (hre.state hk.2 hn.2 (by omega) _).symm h
set_option maxRecDepth 100000 in
set_option maxHeartbeats 4000000 in
theorem lw_k18 (C : lw_C p s m c b L xs D cI cZ cN cM z z2 n k S) (hl : lv_has ls 4 [(3, .int (nI i)), (2, .ref z2), (1, .ref z), (0, .ref b)]) (hi : i + 3 ≤ L) (hK9 : K + 1 ≤ 100000) (hf : cells ≤ 600000 ∧ slots ≤ 7302250) (hJ : lw_J s D cI cZ cN cM z z2 n k S K H locs) (kk : ∀ (H : Heap) (locs : List Loc), lw_J s D cI cZ cN cM z z2 n k S (K + 1) H locs → W p l e room_1 s m #[Value.ref b] below meth c H locs cells slots Q (F0 m 683 ls [])) : W p l e room_1 s m #[Value.ref b] below meth c H locs cells slots Q (F0 m 614 ls []) := by
  obtain ⟨hx, hb, hml, hown, htz, hX, hbl, hL, hK, hn, hk, hS9, hz1, hz2⟩ := C
  obtain ⟨u, r, hG, hR, hre, hS⟩ := hJ
  have hbA : ¬ (s.heap.size ≤ b) := by omega
  have qok : qL_ok (qL0 z n k S cI cZ cN cM) := qL0_ok hn hk hS9
  have rok : rL_ok (rL0 z2 n k S cI cZ) := rL0_ok hn hk hS9
  have qk : qK D (qL0 z n k S cI cZ cN cM) s := ⟨hK.1, hK.2.1⟩
  have rk : rK D (rL0 z2 n k S cI cZ) s := ⟨hK.1.sub [0, 1] rfl, trivial⟩
  have hAq := lw_Aq (cI := cI) (cZ := cZ) (cN := cN) (cM := cM) (n := n) (k := k) (S := S) hz1
  have hAr := lw_Ar (s := s) (cI := cI) (cZ := cZ) (n := n) (k := k) (S := S) (show s.heap.size ≤ z2 by omega)
  have hdr := lw_dr (cI := cI) (cZ := cZ) (cN := cN) (cM := cM) (k := k) hz2
  have hdq := lw_dq (cI := cI) (cZ := cZ) (cN := cN) (cM := cM) (k := k) hz2
  refine lv_aload_n hx hb dL_law_614 rfl (lv_at hl 2 rfl) ?_
  refine lv_aload_n hx hb dL_law_615 rfl (lv_at hl 3 rfl) ?_
  refine lv_iload_n hx hb dL_law_616 rfl (lv_at hl 0 rfl) ?_
  refine lv_iconst (v := 1) hx hb dL_law_617 (by decide) ?_
  refine lv_iadd hx hb dL_law_618 ?_
  refine lw_ld (i := i + 1) hx hb hX hbl hbA hS hL (nI_add i 1) (by omega) dL_law_619 ?_
  refine lv_aload_n hx hb dL_law_620 rfl (lv_at hl 3 rfl) ?_
  refine lv_iload_n hx hb dL_law_621 rfl (lv_at hl 0 rfl) ?_
  refine lv_iconst (v := 2) hx hb dL_law_622 (by decide) ?_
  refine lv_iadd hx hb dL_law_623 ?_
  refine lw_ld (i := i + 2) hx hb hX hbl hbA hS hL (nI_add i 2) (by omega) dL_law_624 ?_
  refine mz_Vk (As := [.int _, .int _]) (rest := []) ⟨hx, hb, hml, hown, htz⟩ (qc_peer l D (qL0 z n k S cI cZ cN cM) qok u _ _ ) (tz_V htz mX4_peer lL_95 rfl rfl ⟨Nat.le_of_ble_eq_true rfl, Nat.le_of_ble_eq_true rfl⟩) (qrecv_0 qk hG (show 0 < 1 by decide)) qK_ok qk hG hS hAq rfl hl.1 rfl (Nat.le_of_ble_eq_true rfl) dL_law_625 hf (fun H locs hG oo hS => ?_)
  have hR := mz_other hR oo hdr
  clear oo
  refine lv_aload_n hx hb dL_law_628 rfl (lv_at hl 1 rfl) ?_
  refine lv_aload_n hx hb dL_law_629 rfl (lv_at hl 3 rfl) ?_
  refine lv_iload_n hx hb dL_law_630 rfl (lv_at hl 0 rfl) ?_
  refine lv_iconst (v := 1) hx hb dL_law_631 (by decide) ?_
  refine lv_iadd hx hb dL_law_632 ?_
  refine lw_ld (i := i + 1) hx hb hX hbl hbA hS hL (nI_add i 1) (by omega) dL_law_633 ?_
  refine lv_aload_n hx hb dL_law_634 rfl (lv_at hl 3 rfl) ?_
  refine lv_iload_n hx hb dL_law_635 rfl (lv_at hl 0 rfl) ?_
  refine lv_iconst (v := 2) hx hb dL_law_636 (by decide) ?_
  refine lv_iadd hx hb dL_law_637 ?_
  refine lw_ld (i := i + 2) hx hb hX hbl hbA hS hL (nI_add i 2) (by omega) dL_law_638 ?_
  refine mz_Vk (As := [.int _, .int _]) (rest := [.int _]) ⟨hx, hb, hml, hown, htz⟩ (rc_peer l D (rL0 z2 n k S cI cZ) rok r _ _ ) (tz_V htz mX5_peer lL_98 rfl rfl ⟨Nat.le_of_ble_eq_true rfl, Nat.le_of_ble_eq_true rfl⟩) (rrecv_0 rk hR (show 0 < 1 by decide)) rK_ok rk hR hS hAr rfl hl.1 rfl (Nat.le_of_ble_eq_true rfl) dL_law_639 hf (fun H locs hR oo hS => ?_)
  have hG := mz_other hG oo hdq
  clear oo
  refine lv_icmp_eq hx hb dL_law_642 (tgt := 683) rfl (fun _ => ?_) (fun h => ?_)
  · exact kk H locs ⟨_, _, hG, hR, hre.mono (Nat.le_succ K), hS⟩
  · exact absurd (hre.peer hn.2 _ _).symm h
set_option maxRecDepth 100000 in
set_option maxHeartbeats 4000000 in
theorem lw_k19 (C : lw_C p s m c b L xs D cI cZ cN cM z z2 n k S) (hl : lv_has ls 4 [(3, .int (nI i)), (2, .ref z2), (1, .ref z), (0, .ref b)]) (hi : i + 3 ≤ L) (hK9 : K + 1 ≤ 100000) (hf : cells ≤ 600000 ∧ slots ≤ 7302250) (hJ : lw_J s D cI cZ cN cM z z2 n k S K H locs) (kk : ∀ (H : Heap) (locs : List Loc), lw_J s D cI cZ cN cM z z2 n k S (K + 1) H locs → W p l e room_1 s m #[Value.ref b] below meth c H locs cells slots Q (F0 m 683 ls [])) : W p l e room_1 s m #[Value.ref b] below meth c H locs cells slots Q (F0 m 647 ls []) := by
  obtain ⟨hx, hb, hml, hown, htz, hX, hbl, hL, hK, hn, hk, hS9, hz1, hz2⟩ := C
  obtain ⟨u, r, hG, hR, hre, hS⟩ := hJ
  have hbA : ¬ (s.heap.size ≤ b) := by omega
  have qok : qL_ok (qL0 z n k S cI cZ cN cM) := qL0_ok hn hk hS9
  have rok : rL_ok (rL0 z2 n k S cI cZ) := rL0_ok hn hk hS9
  have qk : qK D (qL0 z n k S cI cZ cN cM) s := ⟨hK.1, hK.2.1⟩
  have rk : rK D (rL0 z2 n k S cI cZ) s := ⟨hK.1.sub [0, 1] rfl, trivial⟩
  have hAq := lw_Aq (cI := cI) (cZ := cZ) (cN := cN) (cM := cM) (n := n) (k := k) (S := S) hz1
  have hAr := lw_Ar (s := s) (cI := cI) (cZ := cZ) (n := n) (k := k) (S := S) (show s.heap.size ≤ z2 by omega)
  have hdr := lw_dr (cI := cI) (cZ := cZ) (cN := cN) (cM := cM) (k := k) hz2
  have hdq := lw_dq (cI := cI) (cZ := cZ) (cN := cN) (cM := cM) (k := k) hz2
  refine lv_aload_n hx hb dL_law_647 rfl (lv_at hl 2 rfl) ?_
  refine mz_Vk (As := []) (rest := []) ⟨hx, hb, hml, hown, htz⟩ (qc_pending l D (qL0 z n k S cI cZ cN cM) qok u  ) (tz_V htz mX4_pending lL_99 rfl rfl ⟨Nat.le_of_ble_eq_true rfl, Nat.le_of_ble_eq_true rfl⟩) (qrecv_0 qk hG (show 0 < 1 by decide)) qK_ok qk hG hS hAq rfl hl.1 rfl (Nat.le_of_ble_eq_true rfl) dL_law_648 hf (fun H locs hG oo hS => ?_)
  have hR := mz_other hR oo hdr
  clear oo
  refine lv_aload_n hx hb dL_law_651 rfl (lv_at hl 1 rfl) ?_
  refine mz_Vk (As := []) (rest := [.int _]) ⟨hx, hb, hml, hown, htz⟩ (rc_pending l D (rL0 z2 n k S cI cZ) rok r  ) (tz_V htz mX5_pending lL_103 rfl rfl ⟨Nat.le_of_ble_eq_true rfl, Nat.le_of_ble_eq_true rfl⟩) (rrecv_0 rk hR (show 0 < 1 by decide)) rK_ok rk hR hS hAr rfl hl.1 rfl (Nat.le_of_ble_eq_true rfl) dL_law_652 hf (fun H locs hR oo hS => ?_)
  have hG := mz_other hG oo hdq
  clear oo
  refine lv_icmp_eq hx hb dL_law_655 (tgt := 683) rfl (fun _ => ?_) (fun h => ?_)
  · exact kk H locs ⟨_, _, hG, hR, hre.mono (Nat.le_succ K), hS⟩
  · exact absurd (hre.2.2.1.symm).symm h
set_option maxRecDepth 100000 in
set_option maxHeartbeats 4000000 in
theorem lw_k20 (C : lw_C p s m c b L xs D cI cZ cN cM z z2 n k S) (hl : lv_has ls 4 [(3, .int (nI i)), (2, .ref z2), (1, .ref z), (0, .ref b)]) (hi : i + 3 ≤ L) (hK9 : K + 1 ≤ 100000) (hf : cells ≤ 600000 ∧ slots ≤ 7302250) (hJ : lw_J s D cI cZ cN cM z z2 n k S K H locs) (kk : ∀ (H : Heap) (locs : List Loc), lw_J s D cI cZ cN cM z z2 n k S (K + 1) H locs → W p l e room_1 s m #[Value.ref b] below meth c H locs cells slots Q (F0 m 683 ls [])) : W p l e room_1 s m #[Value.ref b] below meth c H locs cells slots Q (F0 m 660 ls []) := by
  obtain ⟨hx, hb, hml, hown, htz, hX, hbl, hL, hK, hn, hk, hS9, hz1, hz2⟩ := C
  obtain ⟨u, r, hG, hR, hre, hS⟩ := hJ
  have hbA : ¬ (s.heap.size ≤ b) := by omega
  have qok : qL_ok (qL0 z n k S cI cZ cN cM) := qL0_ok hn hk hS9
  have rok : rL_ok (rL0 z2 n k S cI cZ) := rL0_ok hn hk hS9
  have qk : qK D (qL0 z n k S cI cZ cN cM) s := ⟨hK.1, hK.2.1⟩
  have rk : rK D (rL0 z2 n k S cI cZ) s := ⟨hK.1.sub [0, 1] rfl, trivial⟩
  have hAq := lw_Aq (cI := cI) (cZ := cZ) (cN := cN) (cM := cM) (n := n) (k := k) (S := S) hz1
  have hAr := lw_Ar (s := s) (cI := cI) (cZ := cZ) (n := n) (k := k) (S := S) (show s.heap.size ≤ z2 by omega)
  have hdr := lw_dr (cI := cI) (cZ := cZ) (cN := cN) (cM := cM) (k := k) hz2
  have hdq := lw_dq (cI := cI) (cZ := cZ) (cN := cN) (cM := cM) (k := k) hz2
  refine lv_aload_n hx hb dL_law_660 rfl (lv_at hl 2 rfl) ?_
  refine lv_aload_n hx hb dL_law_661 rfl (lv_at hl 3 rfl) ?_
  refine lv_iload_n hx hb dL_law_662 rfl (lv_at hl 0 rfl) ?_
  refine lv_iconst (v := 1) hx hb dL_law_663 (by decide) ?_
  refine lv_iadd hx hb dL_law_664 ?_
  refine lw_ld (i := i + 1) hx hb hX hbl hbA hS hL (nI_add i 1) (by omega) dL_law_665 ?_
  refine mz_Vk (As := [.int _]) (rest := []) ⟨hx, hb, hml, hown, htz⟩ (qc_slot l D (qL0 z n k S cI cZ cN cM) qok u _ ) (tz_V htz mX4_slot lL_104 rfl rfl ⟨Nat.le_of_ble_eq_true rfl, Nat.le_of_ble_eq_true rfl⟩) (qrecv_0 qk hG (show 0 < 1 by decide)) qK_ok qk hG hS hAq rfl hl.1 rfl (Nat.le_of_ble_eq_true rfl) dL_law_666 hf (fun H locs hG oo hS => ?_)
  have hR := mz_other hR oo hdr
  clear oo
  refine lv_aload_n hx hb dL_law_669 rfl (lv_at hl 1 rfl) ?_
  refine lv_aload_n hx hb dL_law_670 rfl (lv_at hl 3 rfl) ?_
  refine lv_iload_n hx hb dL_law_671 rfl (lv_at hl 0 rfl) ?_
  refine lv_iconst (v := 1) hx hb dL_law_672 (by decide) ?_
  refine lv_iadd hx hb dL_law_673 ?_
  refine lw_ld (i := i + 1) hx hb hX hbl hbA hS hL (nI_add i 1) (by omega) dL_law_674 ?_
  refine mz_Vk (As := [.int _]) (rest := [.int _]) ⟨hx, hb, hml, hown, htz⟩ (rc_slot l D (rL0 z2 n k S cI cZ) rok r _ ) (tz_V htz mX5_slot lL_107 rfl rfl ⟨Nat.le_of_ble_eq_true rfl, Nat.le_of_ble_eq_true rfl⟩) (rrecv_0 rk hR (show 0 < 1 by decide)) rK_ok rk hR hS hAr rfl hl.1 rfl (Nat.le_of_ble_eq_true rfl) dL_law_675 hf (fun H locs hR oo hS => ?_)
  have hG := mz_other hG oo hdq
  clear oo
  refine lv_icmp_eq hx hb dL_law_678 (tgt := 683) rfl (fun _ => ?_) (fun h => ?_)
  · exact kk H locs ⟨_, _, hG, hR, hre.mono (Nat.le_succ K), hS⟩
  · exact absurd (hre.slot hS9.2 _).symm h
end LWS
