def tz : List Cond := lw_tbl.filter goodWord
theorem tz_in : ∀ w ∈ tz, w ∈ lw_tbl := fun _ h => (List.mem_filter.mp h).1
theorem tz_ok : ∀ w ∈ tz, (w.onTables && w.keeps) = true ∨ ∃ ty, w = .arrayClass ty := fun _ h => good_of_word (List.mem_filter.mp h).2
theorem tz_at {w : Cond} (i : Nat) (h : lw_tbl[i]? = some w) (hg : goodWord w = true) : w ∈ tz := List.mem_filter.mpr ⟨List.mem_of_getElem? h, hg⟩
theorem tz_good {w0 : Cond} (h0 : w0 ∈ tz) : GoodIn tz (w0 :: tz) := fun w h => by
  rcases List.mem_cons.mp h with rfl | h
  · exact ⟨h0, tz_ok _ h0⟩
  · exact ⟨h, tz_ok _ h⟩
def tz_m (y : MethodName) (b : ByteArray) (k : Nat) (ret : Option FieldType) (n : Nat) : Prop := Cond.code y b k ret ∈ tz ∧ Cond.instanceMethod y ∈ tz ∧ Cond.selects y.cls y y ∈ tz ∧ Cond.initialized y.cls ∈ tz ∧ (y.cls ≠ "java/lang/invoke/MethodHandle" ∧ y.cls ≠ "java/lang/invoke/VarHandle" ∧ (parseMethodDescriptor y.desc).map (fun d => d.parameters.length) = some n)
def tz_i (y : MethodName) (b : ByteArray) (k : Nat) (n : Nat) : Prop := Cond.code y b k none ∈ tz ∧ Cond.instanceMethod y ∈ tz ∧ Cond.initialized y.cls ∈ tz ∧ (y.cls ≠ "java/lang/invoke/MethodHandle" ∧ y.cls ≠ "java/lang/invoke/VarHandle" ∧ (parseMethodDescriptor y.desc).map (fun d => d.parameters.length) = some n)
def tz_s (y : MethodName) (b : ByteArray) (k : Nat) (ret : Option FieldType) (n : Nat) : Prop := Cond.code y b k ret ∈ tz ∧ Cond.static y ∈ tz ∧ Cond.initialized y.cls ∈ tz ∧ (y.cls ≠ "java/lang/invoke/MethodHandle" ∧ y.cls ≠ "java/lang/invoke/VarHandle" ∧ (parseMethodDescriptor y.desc).map (fun d => d.parameters.length) = some n)
abbrev tz_w (y : MethodName) (b : ByteArray) (k : Nat) (ret : Option FieldType) : List Cond := Cond.code y b k ret :: tz
section TZ
variable {R : Room} {s : State} {args : Array Value} {own host : String} {index k n mc ms : Nat} {y : MethodName} {b : ByteArray} {ret : Option FieldType} {rm : Room}
theorem tz_V (htz : ∀ w ∈ tz, w.before args s = true) (hk : tz_m y b k ret n) (hl : Cond.methodLink own index y ∈ tz) (hrc : rm.cells = mc) (hrs : rm.slots = ms) (hR : rm.frames + 1 ≤ R.frames ∧ 8 + (k + 11) + rm.locals ≤ R.locals) : CallW R s args own y.cls index y b k ret (tz_w y b k ret) rm mc ms n :=
  ⟨callB_of n htz (tz_good hk.1) rfl hrc hrs (htz _ hk.2.2.2.1) (htz _ hl) hk.2.2.2.2 hR, htz _ hk.2.1, htz _ hk.2.2.1⟩
theorem tz_N (htz : ∀ w ∈ tz, w.before args s = true) (hk : tz_m y b k ret n) (hl : va_Nw (.methodLinkNest own index y host) s) (hrc : rm.cells = mc) (hrs : rm.slots = ms) (hR : rm.frames + 1 ≤ R.frames ∧ 8 + (k + 11) + rm.locals ≤ R.locals) : va_CN R s args own index y host b k ret (tz_w y b k ret) rm mc ms n ∧ (Cond.instanceMethod y).before args s = true ∧ (Cond.selects y.cls y y).before args s = true :=
  ⟨va_cnB n htz (tz_good hk.1) rfl hrc hrs hl (htz _ hk.2.2.2.1) hk.2.2.2.2 hR, htz _ hk.2.1, htz _ hk.2.2.1⟩
theorem tz_S (htz : ∀ w ∈ tz, w.before args s = true) (hk : tz_s y b k ret n) (hl : Cond.methodLink own index y ∈ tz) (hrc : rm.cells = mc) (hrs : rm.slots = ms) (hR : rm.frames + 1 ≤ R.frames ∧ 8 + (k + 11) + rm.locals ≤ R.locals) : CallB R s args own index y b k ret (tz_w y b k ret) rm mc ms n ∧ (Cond.static y).before args s = true :=
  ⟨callB_of n htz (tz_good hk.1) rfl hrc hrs (htz _ hk.2.2.1) (htz _ hl) hk.2.2.2 hR, htz _ hk.2.1⟩
theorem tz_I (htz : ∀ w ∈ tz, w.before args s = true) (hk : tz_i y b k n) (hn : y.name = "<init>") (hl : Cond.methodLink own index y ∈ tz) (hrc : rm.cells = mc) (hrs : rm.slots = ms) (hR : rm.frames + 1 ≤ R.frames ∧ 8 + (k + 11) + rm.locals ≤ R.locals) : CallB R s args own index y b k none (tz_w y b k none) rm mc ms n ∧ y.name = "<init>" ∧ (Cond.instanceMethod y).before args s = true :=
  ⟨callB_of n htz (tz_good hk.1) rfl hrc hrs (htz _ hk.2.2.1) (htz _ hl) hk.2.2.2 hR, hn, htz _ hk.2.1⟩
theorem tz_IN (htz : ∀ w ∈ tz, w.before args s = true) (hk : tz_i y b k n) (hn : y.name = "<init>") (hl : va_Nw (.methodLinkNest own index y host) s) (hrc : rm.cells = mc) (hrs : rm.slots = ms) (hR : rm.frames + 1 ≤ R.frames ∧ 8 + (k + 11) + rm.locals ≤ R.locals) : va_CN R s args own index y host b k none (tz_w y b k none) rm mc ms n ∧ y.name = "<init>" ∧ (Cond.instanceMethod y).before args s = true :=
  ⟨va_cnB n htz (tz_good hk.1) rfl hrc hrs hl (htz _ hk.2.2.1) hk.2.2.2 hR, hn, htz _ hk.2.1⟩
end TZ
theorem tin_X0 : ∀ w ∈ wsX00, w ∈ tz := by decide +kernel
theorem tin_X1 : ∀ w ∈ wsX10, w ∈ tz := by decide +kernel
theorem tin_X2 : ∀ w ∈ wsX20, w ∈ tz := by decide +kernel
theorem tin_X3 : ∀ w ∈ wsX30, w ∈ tz := by decide +kernel
theorem tin_X4 : ∀ w ∈ wsX40, w ∈ tz := by decide +kernel
theorem tin_X5 : ∀ w ∈ wsX50, w ∈ tz := by decide +kernel
theorem ini_L : Cond.initialized RL ∈ tz := tz_at 60 (by decide +kernel) rfl
theorem ini_X4 : Cond.initialized RX4 ∈ tz := tz_at 61 (by decide +kernel) rfl
theorem ini_Math : Cond.initialized "java/lang/Math" ∈ tz := tz_at 62 (by decide +kernel) rfl
theorem ini_X3 : Cond.initialized RX3 ∈ tz := tz_at 63 (by decide +kernel) rfl
theorem ini_X0 : Cond.initialized RX0 ∈ tz := tz_at 64 (by decide +kernel) rfl
theorem ini_X2 : Cond.initialized RX2 ∈ tz := tz_at 65 (by decide +kernel) rfl
theorem ini_X1 : Cond.initialized RX1 ∈ tz := tz_at 66 (by decide +kernel) rfl
theorem ini_X5 : Cond.initialized RX5 ∈ tz := tz_at 67 (by decide +kernel) rfl
theorem ins_X4 : Cond.instantiable RX4 4 ∈ tz := tz_at 69 (by decide +kernel) rfl
theorem ins_X3 : Cond.instantiable RX3 10 ∈ tz := tz_at 87 (by decide +kernel) rfl
theorem ins_X0 : Cond.instantiable RX0 6 ∈ tz := tz_at 93 (by decide +kernel) rfl
theorem ins_X2 : Cond.instantiable RX2 2 ∈ tz := tz_at 164 (by decide +kernel) rfl
theorem ins_X1 : Cond.instantiable RX1 12 ∈ tz := tz_at 171 (by decide +kernel) rfl
theorem ins_X5 : Cond.instantiable RX5 27 ∈ tz := tz_at 510 (by decide +kernel) rfl
theorem clL_7 : Cond.classLink RL 7 RX4 ∈ tz := tz_at 68 (by decide +kernel) rfl
theorem clX4_13 : Cond.classLink RX4 13 RX3 ∈ tz := tz_at 85 (by decide +kernel) rfl
theorem clX3_25 : Cond.classLink RX3 25 RX0 ∈ tz := tz_at 92 (by decide +kernel) rfl
theorem clX4_22 : Cond.classLink RX4 22 RX2 ∈ tz := tz_at 163 (by decide +kernel) rfl
theorem clX2_9 : Cond.classLink RX2 9 RX1 ∈ tz := tz_at 169 (by decide +kernel) rfl
theorem clX4_31 : Cond.classLink RX4 31 RX1 ∈ tz := tz_at 235 (by decide +kernel) rfl
theorem clL_18 : Cond.classLink RL 18 RX5 ∈ tz := tz_at 509 (by decide +kernel) rfl
theorem fX0_18 : Cond.fieldLink RX0 18 "QuorumLog$Log" "base" "I" ∈ tz := tz_at 98 (by decide +kernel) rfl
theorem fX0_25 : Cond.fieldLink RX0 25 "QuorumLog$Log" "baseTerm" "I" ∈ tz := tz_at 100 (by decide +kernel) rfl
theorem fX0_32 : Cond.fieldLink RX0 32 "QuorumLog$Log" "baseState" "I" ∈ tz := tz_at 102 (by decide +kernel) rfl
theorem fX0_22 : Cond.fieldLink RX0 22 "QuorumLog$Log" "count" "I" ∈ tz := tz_at 104 (by decide +kernel) rfl
theorem fX0_9 : Cond.fieldLink RX0 9 "QuorumLog$Log" "terms" "[I" ∈ tz := tz_at 105 (by decide +kernel) rfl
theorem fX0_15 : Cond.fieldLink RX0 15 "QuorumLog$Log" "commands" "[I" ∈ tz := tz_at 106 (by decide +kernel) rfl
theorem fX3_22 : Cond.fieldLink RX3 22 "QuorumLog$Node" "self" "I" ∈ tz := tz_at 121 (by decide +kernel) rfl
theorem fX3_9 : Cond.fieldLink RX3 9 "QuorumLog$Node" "up" "Z" ∈ tz := tz_at 123 (by decide +kernel) rfl
theorem fX3_15 : Cond.fieldLink RX3 15 "QuorumLog$Node" "role" "I" ∈ tz := tz_at 125 (by decide +kernel) rfl
theorem fX3_45 : Cond.fieldLink RX3 45 "QuorumLog$Node" "term" "I" ∈ tz := tz_at 127 (by decide +kernel) rfl
theorem fX3_19 : Cond.fieldLink RX3 19 "QuorumLog$Node" "vote" "I" ∈ tz := tz_at 129 (by decide +kernel) rfl
theorem fX3_66 : Cond.fieldLink RX3 66 "QuorumLog$Node" "commit" "I" ∈ tz := tz_at 131 (by decide +kernel) rfl
theorem fX3_30 : Cond.fieldLink RX3 30 "QuorumLog$Node" "log" "LQuorumLog$Log;" ∈ tz := tz_at 133 (by decide +kernel) rfl
theorem fX3_34 : Cond.fieldLink RX3 34 "QuorumLog$Node" "voters" "[Z" ∈ tz := tz_at 135 (by decide +kernel) rfl
theorem fX3_38 : Cond.fieldLink RX3 38 "QuorumLog$Node" "next" "[I" ∈ tz := tz_at 137 (by decide +kernel) rfl
theorem fX3_42 : Cond.fieldLink RX3 42 "QuorumLog$Node" "match" "[I" ∈ tz := tz_at 139 (by decide +kernel) rfl
theorem fX1_7 : Cond.fieldLink RX1 7 "QuorumLog$Message" "kind" "I" ∈ tz := tz_at 176 (by decide +kernel) rfl
theorem fX1_13 : Cond.fieldLink RX1 13 "QuorumLog$Message" "from" "I" ∈ tz := tz_at 179 (by decide +kernel) rfl
theorem fX1_16 : Cond.fieldLink RX1 16 "QuorumLog$Message" "to" "I" ∈ tz := tz_at 181 (by decide +kernel) rfl
theorem fX1_19 : Cond.fieldLink RX1 19 "QuorumLog$Message" "term" "I" ∈ tz := tz_at 183 (by decide +kernel) rfl
theorem fX1_22 : Cond.fieldLink RX1 22 "QuorumLog$Message" "number" "I" ∈ tz := tz_at 185 (by decide +kernel) rfl
theorem fX1_25 : Cond.fieldLink RX1 25 "QuorumLog$Message" "numberTerm" "I" ∈ tz := tz_at 187 (by decide +kernel) rfl
theorem fX1_28 : Cond.fieldLink RX1 28 "QuorumLog$Message" "yes" "Z" ∈ tz := tz_at 189 (by decide +kernel) rfl
theorem fX1_32 : Cond.fieldLink RX1 32 "QuorumLog$Message" "hasEntry" "Z" ∈ tz := tz_at 191 (by decide +kernel) rfl
theorem fX1_35 : Cond.fieldLink RX1 35 "QuorumLog$Message" "entryTerm" "I" ∈ tz := tz_at 193 (by decide +kernel) rfl
theorem fX1_38 : Cond.fieldLink RX1 38 "QuorumLog$Message" "entryCommand" "I" ∈ tz := tz_at 195 (by decide +kernel) rfl
theorem fX1_41 : Cond.fieldLink RX1 41 "QuorumLog$Message" "commit" "I" ∈ tz := tz_at 197 (by decide +kernel) rfl
theorem fX1_44 : Cond.fieldLink RX1 44 "QuorumLog$Message" "state" "I" ∈ tz := tz_at 199 (by decide +kernel) rfl
theorem fX2_11 : Cond.fieldLink RX2 11 "QuorumLog$Net" "messages" "[LQuorumLog$Message;" ∈ tz := tz_at 226 (by decide +kernel) rfl
theorem fX2_22 : Cond.fieldLink RX2 22 "QuorumLog$Net" "waiting" "I" ∈ tz := tz_at 228 (by decide +kernel) rfl
theorem fX4_15 : Cond.fieldLink RX4 15 "QuorumLog" "nodes" "[LQuorumLog$Node;" ∈ tz := tz_at 237 (by decide +kernel) rfl
theorem fX4_27 : Cond.fieldLink RX4 27 "QuorumLog" "net" "LQuorumLog$Net;" ∈ tz := tz_at 238 (by decide +kernel) rfl
theorem fX4_34 : Cond.fieldLink RX4 34 "QuorumLog" "draft" "LQuorumLog$Message;" ∈ tz := tz_at 239 (by decide +kernel) rfl
theorem fX4_38 : Cond.fieldLink RX4 38 "QuorumLog" "arrived" "LQuorumLog$Message;" ∈ tz := tz_at 240 (by decide +kernel) rfl
theorem fX5_87 : Cond.fieldLink RX5 87 "QuorumLogModel" "n" "I" ∈ tz := tz_at 518 (by decide +kernel) rfl
theorem fX5_91 : Cond.fieldLink RX5 91 "QuorumLogModel" "cap" "I" ∈ tz := tz_at 519 (by decide +kernel) rfl
theorem fX5_94 : Cond.fieldLink RX5 94 "QuorumLogModel" "slots" "I" ∈ tz := tz_at 520 (by decide +kernel) rfl
theorem fX5_7 : Cond.fieldLink RX5 7 "QuorumLogModel" "up" "[Z" ∈ tz := tz_at 521 (by decide +kernel) rfl
theorem fX5_13 : Cond.fieldLink RX5 13 "QuorumLogModel" "role" "[I" ∈ tz := tz_at 522 (by decide +kernel) rfl
theorem fX5_17 : Cond.fieldLink RX5 17 "QuorumLogModel" "term" "[I" ∈ tz := tz_at 523 (by decide +kernel) rfl
theorem fX5_20 : Cond.fieldLink RX5 20 "QuorumLogModel" "vote" "[I" ∈ tz := tz_at 524 (by decide +kernel) rfl
theorem fX5_23 : Cond.fieldLink RX5 23 "QuorumLogModel" "base" "[I" ∈ tz := tz_at 525 (by decide +kernel) rfl
theorem fX5_26 : Cond.fieldLink RX5 26 "QuorumLogModel" "baseTerm" "[I" ∈ tz := tz_at 526 (by decide +kernel) rfl
theorem fX5_29 : Cond.fieldLink RX5 29 "QuorumLogModel" "baseState" "[I" ∈ tz := tz_at 527 (by decide +kernel) rfl
theorem fX5_32 : Cond.fieldLink RX5 32 "QuorumLogModel" "commit" "[I" ∈ tz := tz_at 528 (by decide +kernel) rfl
theorem fX5_35 : Cond.fieldLink RX5 35 "QuorumLogModel" "voters" "[I" ∈ tz := tz_at 529 (by decide +kernel) rfl
theorem fX5_38 : Cond.fieldLink RX5 38 "QuorumLogModel" "entries" "[I" ∈ tz := tz_at 530 (by decide +kernel) rfl
theorem fX5_41 : Cond.fieldLink RX5 41 "QuorumLogModel" "entryTerm" "[I" ∈ tz := tz_at 531 (by decide +kernel) rfl
theorem fX5_44 : Cond.fieldLink RX5 44 "QuorumLogModel" "entryCommand" "[I" ∈ tz := tz_at 532 (by decide +kernel) rfl
theorem fX5_47 : Cond.fieldLink RX5 47 "QuorumLogModel" "next" "[I" ∈ tz := tz_at 533 (by decide +kernel) rfl
theorem fX5_50 : Cond.fieldLink RX5 50 "QuorumLogModel" "match" "[I" ∈ tz := tz_at 534 (by decide +kernel) rfl
theorem fX5_53 : Cond.fieldLink RX5 53 "QuorumLogModel" "kind" "[I" ∈ tz := tz_at 535 (by decide +kernel) rfl
theorem fX5_56 : Cond.fieldLink RX5 56 "QuorumLogModel" "from" "[I" ∈ tz := tz_at 536 (by decide +kernel) rfl
theorem fX5_59 : Cond.fieldLink RX5 59 "QuorumLogModel" "to" "[I" ∈ tz := tz_at 537 (by decide +kernel) rfl
theorem fX5_62 : Cond.fieldLink RX5 62 "QuorumLogModel" "borne" "[I" ∈ tz := tz_at 538 (by decide +kernel) rfl
theorem fX5_65 : Cond.fieldLink RX5 65 "QuorumLogModel" "number" "[I" ∈ tz := tz_at 539 (by decide +kernel) rfl
theorem fX5_68 : Cond.fieldLink RX5 68 "QuorumLogModel" "at" "[I" ∈ tz := tz_at 540 (by decide +kernel) rfl
theorem fX5_71 : Cond.fieldLink RX5 71 "QuorumLogModel" "yes" "[Z" ∈ tz := tz_at 541 (by decide +kernel) rfl
theorem fX5_74 : Cond.fieldLink RX5 74 "QuorumLogModel" "withTerm" "[I" ∈ tz := tz_at 542 (by decide +kernel) rfl
theorem fX5_77 : Cond.fieldLink RX5 77 "QuorumLogModel" "command" "[I" ∈ tz := tz_at 543 (by decide +kernel) rfl
theorem fX5_80 : Cond.fieldLink RX5 80 "QuorumLogModel" "known" "[I" ∈ tz := tz_at 544 (by decide +kernel) rfl
theorem kX4_154 : Cond.constant RX4 154 100000 ∈ tz := tz_at 497 (by decide +kernel) rfl
theorem kX5_174 : Cond.constant RX5 174 100000 ∈ tz := tz_at 763 (by decide +kernel) rfl
theorem obj_code : Cond.code objectInit ⟨#[0xb1]⟩ 1 none ∈ tz := tz_at 75 (by decide +kernel) rfl
theorem obj_inst : Cond.instanceMethod objectInit ∈ tz := tz_at 74 (by decide +kernel) rfl
theorem max_code : Cond.code Lib.Math.max.name Lib.Math.max.code 2 (some .int) ∈ tz := tz_at 84 (by decide +kernel) rfl
theorem max_stat : Cond.static Lib.Math.max.name ∈ tz := tz_at 83 (by decide +kernel) rfl
theorem min_code : Cond.code Lib.Math.min.name Lib.Math.min.code 2 (some .int) ∈ tz := tz_at 81 (by decide +kernel) rfl
theorem min_stat : Cond.static Lib.Math.min.name ∈ tz := tz_at 80 (by decide +kernel) rfl
theorem lL_15 : Cond.methodLink RL 15 yX4_init ∈ tz := tz_at 70 (by decide +kernel) rfl
theorem lX4_1 : Cond.methodLink RX4 1 objectInit ∈ tz := tz_at 73 (by decide +kernel) rfl
theorem lX4_7 : Cond.methodLink RX4 7 yX4_within ∈ tz := tz_at 76 (by decide +kernel) rfl
theorem lX4_162 : Cond.methodLink RX4 162 Lib.Math.min.name ∈ tz := tz_at 79 (by decide +kernel) rfl
theorem lX4_168 : Cond.methodLink RX4 168 Lib.Math.max.name ∈ tz := tz_at 82 (by decide +kernel) rfl
theorem lX3_3 : Cond.methodLink RX3 3 objectInit ∈ tz := tz_at 91 (by decide +kernel) rfl
theorem lX0_3 : Cond.methodLink RX0 3 objectInit ∈ tz := tz_at 97 (by decide +kernel) rfl
theorem lX2_3 : Cond.methodLink RX2 3 objectInit ∈ tz := tz_at 168 (by decide +kernel) rfl
theorem lX1_1 : Cond.methodLink RX1 1 objectInit ∈ tz := tz_at 175 (by decide +kernel) rfl
theorem lL_21 : Cond.methodLink RL 21 yX4_timeout ∈ tz := tz_at 250 (by decide +kernel) rfl
theorem lX4_41 : Cond.methodLink RX4 41 yX4_isNode ∈ tz := tz_at 254 (by decide +kernel) rfl
theorem lX3_48 : Cond.methodLink RX3 48 yX3_enterTerm ∈ tz := tz_at 266 (by decide +kernel) rfl
theorem lX4_60 : Cond.methodLink RX4 60 yX4_sendAsk ∈ tz := tz_at 270 (by decide +kernel) rfl
theorem lX2_25 : Cond.methodLink RX2 25 yX2_isFree ∈ tz := tz_at 290 (by decide +kernel) rfl
theorem lL_26 : Cond.methodLink RL 26 yX4_heartbeat ∈ tz := tz_at 298 (by decide +kernel) rfl
theorem lX4_64 : Cond.methodLink RX4 64 yX4_areTwoNodes ∈ tz := tz_at 302 (by decide +kernel) rfl
theorem lX4_81 : Cond.methodLink RX4 81 yX4_sendSnapshot ∈ tz := tz_at 306 (by decide +kernel) rfl
theorem lX4_84 : Cond.methodLink RX4 84 yX4_sendAppend ∈ tz := tz_at 310 (by decide +kernel) rfl
theorem lX0_28 : Cond.methodLink RX0 28 yX0_hasEntry ∈ tz := tz_at 318 (by decide +kernel) rfl
theorem lL_31 : Cond.methodLink RL 31 yX4_propose ∈ tz := tz_at 327 (by decide +kernel) rfl
theorem lX0_42 : Cond.methodLink RX0 42 yX0_isFull ∈ tz := tz_at 339 (by decide +kernel) rfl
theorem lL_35 : Cond.methodLink RL 35 yX4_compact ∈ tz := tz_at 340 (by decide +kernel) rfl
theorem lX0_46 : Cond.methodLink RX0 46 Lib.Math.max.name ∈ tz := tz_at 352 (by decide +kernel) rfl
theorem lX0_52 : Cond.methodLink RX0 52 Lib.Math.min.name ∈ tz := tz_at 353 (by decide +kernel) rfl
theorem lL_39 : Cond.methodLink RL 39 yX4_deliver ∈ tz := tz_at 354 (by decide +kernel) rfl
theorem lX4_134 : Cond.methodLink RX4 134 yX4_receive ∈ tz := tz_at 368 (by decide +kernel) rfl
theorem lX4_214 : Cond.methodLink RX4 214 yX4_receiveAsk ∈ tz := tz_at 373 (by decide +kernel) rfl
theorem lX0_35 : Cond.methodLink RX0 35 yX0_lastTerm ∈ tz := tz_at 381 (by decide +kernel) rfl
theorem lX0_39 : Cond.methodLink RX0 39 yX0_lastNumber ∈ tz := tz_at 382 (by decide +kernel) rfl
theorem lX4_232 : Cond.methodLink RX4 232 yX4_sendVote ∈ tz := tz_at 383 (by decide +kernel) rfl
theorem lX4_217 : Cond.methodLink RX4 217 yX4_receiveVote ∈ tz := tz_at 387 (by decide +kernel) rfl
theorem lX4_243 : Cond.methodLink RX4 243 yX4_isMajority ∈ tz := tz_at 395 (by decide +kernel) rfl
theorem lX4_220 : Cond.methodLink RX4 220 yX4_receiveAppend ∈ tz := tz_at 404 (by decide +kernel) rfl
theorem lX4_249 : Cond.methodLink RX4 249 yX4_sendAppended ∈ tz := tz_at 408 (by decide +kernel) rfl
theorem lX3_69 : Cond.methodLink RX3 69 Lib.Math.min.name ∈ tz := tz_at 422 (by decide +kernel) rfl
theorem lX4_223 : Cond.methodLink RX4 223 yX4_receiveAppended ∈ tz := tz_at 424 (by decide +kernel) rfl
theorem lX4_256 : Cond.methodLink RX4 256 yX4_advanceCommit ∈ tz := tz_at 428 (by decide +kernel) rfl
theorem lX4_226 : Cond.methodLink RX4 226 yX4_receiveSnapshot ∈ tz := tz_at 436 (by decide +kernel) rfl
theorem lL_43 : Cond.methodLink RL 43 yX4_drop ∈ tz := tz_at 441 (by decide +kernel) rfl
theorem lL_47 : Cond.methodLink RL 47 yX4_duplicate ∈ tz := tz_at 445 (by decide +kernel) rfl
theorem lL_51 : Cond.methodLink RL 51 yX4_crash ∈ tz := tz_at 449 (by decide +kernel) rfl
theorem lL_55 : Cond.methodLink RL 55 yX4_restart ∈ tz := tz_at 453 (by decide +kernel) rfl
theorem lL_59 : Cond.methodLink RL 59 yX4_role ∈ tz := tz_at 457 (by decide +kernel) rfl
theorem lL_63 : Cond.methodLink RL 63 yX4_term ∈ tz := tz_at 461 (by decide +kernel) rfl
theorem lL_67 : Cond.methodLink RL 67 yX4_vote ∈ tz := tz_at 465 (by decide +kernel) rfl
theorem lL_71 : Cond.methodLink RL 71 yX4_base ∈ tz := tz_at 469 (by decide +kernel) rfl
theorem lL_75 : Cond.methodLink RL 75 yX4_last ∈ tz := tz_at 473 (by decide +kernel) rfl
theorem lL_79 : Cond.methodLink RL 79 yX4_commit ∈ tz := tz_at 477 (by decide +kernel) rfl
theorem lL_83 : Cond.methodLink RL 83 yX4_termAt ∈ tz := tz_at 481 (by decide +kernel) rfl
theorem lL_87 : Cond.methodLink RL 87 yX4_commandAt ∈ tz := tz_at 485 (by decide +kernel) rfl
theorem lL_91 : Cond.methodLink RL 91 yX4_state ∈ tz := tz_at 489 (by decide +kernel) rfl
theorem lL_95 : Cond.methodLink RL 95 yX4_peer ∈ tz := tz_at 493 (by decide +kernel) rfl
theorem lL_99 : Cond.methodLink RL 99 yX4_pending ∈ tz := tz_at 498 (by decide +kernel) rfl
theorem lL_104 : Cond.methodLink RL 104 yX4_slot ∈ tz := tz_at 502 (by decide +kernel) rfl
theorem lL_9 : Cond.methodLink RL 9 yL_cell ∈ tz := tz_at 506 (by decide +kernel) rfl
theorem lL_20 : Cond.methodLink RL 20 yX5_init ∈ tz := tz_at 511 (by decide +kernel) rfl
theorem lX5_1 : Cond.methodLink RX5 1 objectInit ∈ tz := tz_at 514 (by decide +kernel) rfl
theorem lX5_83 : Cond.methodLink RX5 83 yX5_clamp ∈ tz := tz_at 515 (by decide +kernel) rfl
theorem lL_25 : Cond.methodLink RL 25 yX5_timeout ∈ tz := tz_at 600 (by decide +kernel) rfl
theorem lX5_116 : Cond.methodLink RX5 116 yX5_isNode ∈ tz := tz_at 604 (by decide +kernel) rfl
theorem lX5_120 : Cond.methodLink RX5 120 yX5_waiting ∈ tz := tz_at 608 (by decide +kernel) rfl
theorem lX5_113 : Cond.methodLink RX5 113 yX5_send ∈ tz := tz_at 612 (by decide +kernel) rfl
theorem lX5_109 : Cond.methodLink RX5 109 yX5_freeSlot ∈ tz := tz_at 616 (by decide +kernel) rfl
theorem lX5_97 : Cond.methodLink RX5 97 yX5_lastOf ∈ tz := tz_at 620 (by decide +kernel) rfl
theorem lX5_123 : Cond.methodLink RX5 123 yX5_termOf ∈ tz := tz_at 624 (by decide +kernel) rfl
theorem lX5_101 : Cond.methodLink RX5 101 yX5_hasEntry ∈ tz := tz_at 628 (by decide +kernel) rfl
theorem lX5_105 : Cond.methodLink RX5 105 yX5_place ∈ tz := tz_at 632 (by decide +kernel) rfl
theorem lL_30 : Cond.methodLink RL 30 yX5_heartbeat ∈ tz := tz_at 636 (by decide +kernel) rfl
theorem lL_34 : Cond.methodLink RL 34 yX5_propose ∈ tz := tz_at 640 (by decide +kernel) rfl
theorem lX5_126 : Cond.methodLink RX5 126 yX5_addEntry ∈ tz := tz_at 644 (by decide +kernel) rfl
theorem lL_38 : Cond.methodLink RL 38 yX5_compact ∈ tz := tz_at 648 (by decide +kernel) rfl
theorem lX5_130 : Cond.methodLink RX5 130 yX5_stateTo ∈ tz := tz_at 652 (by decide +kernel) rfl
theorem lX5_133 : Cond.methodLink RX5 133 yX5_cutFront ∈ tz := tz_at 656 (by decide +kernel) rfl
theorem lL_42 : Cond.methodLink RL 42 yX5_deliver ∈ tz := tz_at 660 (by decide +kernel) rfl
theorem lX5_137 : Cond.methodLink RX5 137 yX5_isSlot ∈ tz := tz_at 664 (by decide +kernel) rfl
theorem lX5_140 : Cond.methodLink RX5 140 yX5_act ∈ tz := tz_at 668 (by decide +kernel) rfl
theorem lX5_144 : Cond.methodLink RX5 144 yX5_asked ∈ tz := tz_at 672 (by decide +kernel) rfl
theorem lX5_159 : Cond.methodLink RX5 159 yX5_answer ∈ tz := tz_at 676 (by decide +kernel) rfl
theorem lX5_147 : Cond.methodLink RX5 147 yX5_voted ∈ tz := tz_at 680 (by decide +kernel) rfl
theorem lX5_163 : Cond.methodLink RX5 163 yX5_isMost ∈ tz := tz_at 684 (by decide +kernel) rfl
theorem lX5_150 : Cond.methodLink RX5 150 yX5_append ∈ tz := tz_at 687 (by decide +kernel) rfl
theorem lX5_166 : Cond.methodLink RX5 166 yX5_takeEntry ∈ tz := tz_at 691 (by decide +kernel) rfl
theorem lX5_153 : Cond.methodLink RX5 153 yX5_appended ∈ tz := tz_at 695 (by decide +kernel) rfl
theorem lX5_170 : Cond.methodLink RX5 170 yX5_count ∈ tz := tz_at 699 (by decide +kernel) rfl
theorem lX5_156 : Cond.methodLink RX5 156 yX5_snapshot ∈ tz := tz_at 703 (by decide +kernel) rfl
theorem lL_46 : Cond.methodLink RL 46 yX5_drop ∈ tz := tz_at 707 (by decide +kernel) rfl
theorem lL_50 : Cond.methodLink RL 50 yX5_duplicate ∈ tz := tz_at 711 (by decide +kernel) rfl
theorem lL_54 : Cond.methodLink RL 54 yX5_crash ∈ tz := tz_at 715 (by decide +kernel) rfl
theorem lL_58 : Cond.methodLink RL 58 yX5_restart ∈ tz := tz_at 719 (by decide +kernel) rfl
theorem lL_62 : Cond.methodLink RL 62 yX5_role ∈ tz := tz_at 723 (by decide +kernel) rfl
theorem lL_66 : Cond.methodLink RL 66 yX5_term ∈ tz := tz_at 727 (by decide +kernel) rfl
theorem lL_70 : Cond.methodLink RL 70 yX5_vote ∈ tz := tz_at 731 (by decide +kernel) rfl
theorem lL_74 : Cond.methodLink RL 74 yX5_base ∈ tz := tz_at 735 (by decide +kernel) rfl
theorem lL_78 : Cond.methodLink RL 78 yX5_last ∈ tz := tz_at 739 (by decide +kernel) rfl
theorem lL_82 : Cond.methodLink RL 82 yX5_commit ∈ tz := tz_at 743 (by decide +kernel) rfl
theorem lL_86 : Cond.methodLink RL 86 yX5_termAt ∈ tz := tz_at 747 (by decide +kernel) rfl
theorem lL_90 : Cond.methodLink RL 90 yX5_commandAt ∈ tz := tz_at 751 (by decide +kernel) rfl
theorem lL_94 : Cond.methodLink RL 94 yX5_state ∈ tz := tz_at 755 (by decide +kernel) rfl
theorem lL_98 : Cond.methodLink RL 98 yX5_peer ∈ tz := tz_at 759 (by decide +kernel) rfl
theorem lL_103 : Cond.methodLink RL 103 yX5_pending ∈ tz := tz_at 764 (by decide +kernel) rfl
theorem lL_107 : Cond.methodLink RL 107 yX5_slot ∈ tz := tz_at 768 (by decide +kernel) rfl
theorem mX4_init : tz_i yX4_init cX4_init 7 3 := ⟨tz_at 72 (by decide +kernel) rfl, tz_at 71 (by decide +kernel) rfl, ini_X4, ⟨by decide +kernel, by decide +kernel, by decide +kernel⟩⟩
theorem mX4_timeout : tz_m yX4_timeout cX4_timeout 4 (some .int) 1 := ⟨tz_at 253 (by decide +kernel) rfl, tz_at 251 (by decide +kernel) rfl, tz_at 252 (by decide +kernel) rfl, ini_X4, ⟨by decide +kernel, by decide +kernel, by decide +kernel⟩⟩
theorem mX4_heartbeat : tz_m yX4_heartbeat cX4_heartbeat 4 (some .int) 2 := ⟨tz_at 301 (by decide +kernel) rfl, tz_at 299 (by decide +kernel) rfl, tz_at 300 (by decide +kernel) rfl, ini_X4, ⟨by decide +kernel, by decide +kernel, by decide +kernel⟩⟩
theorem mX4_propose : tz_m yX4_propose cX4_propose 4 (some .int) 2 := ⟨tz_at 330 (by decide +kernel) rfl, tz_at 328 (by decide +kernel) rfl, tz_at 329 (by decide +kernel) rfl, ini_X4, ⟨by decide +kernel, by decide +kernel, by decide +kernel⟩⟩
theorem mX4_compact : tz_m yX4_compact cX4_compact 4 (some .int) 1 := ⟨tz_at 343 (by decide +kernel) rfl, tz_at 341 (by decide +kernel) rfl, tz_at 342 (by decide +kernel) rfl, ini_X4, ⟨by decide +kernel, by decide +kernel, by decide +kernel⟩⟩
theorem mX4_deliver : tz_m yX4_deliver cX4_deliver 3 (some .int) 1 := ⟨tz_at 357 (by decide +kernel) rfl, tz_at 355 (by decide +kernel) rfl, tz_at 356 (by decide +kernel) rfl, ini_X4, ⟨by decide +kernel, by decide +kernel, by decide +kernel⟩⟩
theorem mX4_drop : tz_m yX4_drop cX4_drop 2 (some .int) 1 := ⟨tz_at 444 (by decide +kernel) rfl, tz_at 442 (by decide +kernel) rfl, tz_at 443 (by decide +kernel) rfl, ini_X4, ⟨by decide +kernel, by decide +kernel, by decide +kernel⟩⟩
theorem mX4_duplicate : tz_m yX4_duplicate cX4_duplicate 2 (some .int) 1 := ⟨tz_at 448 (by decide +kernel) rfl, tz_at 446 (by decide +kernel) rfl, tz_at 447 (by decide +kernel) rfl, ini_X4, ⟨by decide +kernel, by decide +kernel, by decide +kernel⟩⟩
theorem mX4_crash : tz_m yX4_crash cX4_crash 3 (some .int) 1 := ⟨tz_at 452 (by decide +kernel) rfl, tz_at 450 (by decide +kernel) rfl, tz_at 451 (by decide +kernel) rfl, ini_X4, ⟨by decide +kernel, by decide +kernel, by decide +kernel⟩⟩
theorem mX4_restart : tz_m yX4_restart cX4_restart 3 (some .int) 1 := ⟨tz_at 456 (by decide +kernel) rfl, tz_at 454 (by decide +kernel) rfl, tz_at 455 (by decide +kernel) rfl, ini_X4, ⟨by decide +kernel, by decide +kernel, by decide +kernel⟩⟩
theorem mX4_role : tz_m yX4_role cX4_role 3 (some .int) 1 := ⟨tz_at 460 (by decide +kernel) rfl, tz_at 458 (by decide +kernel) rfl, tz_at 459 (by decide +kernel) rfl, ini_X4, ⟨by decide +kernel, by decide +kernel, by decide +kernel⟩⟩
theorem mX4_term : tz_m yX4_term cX4_term 2 (some .int) 1 := ⟨tz_at 464 (by decide +kernel) rfl, tz_at 462 (by decide +kernel) rfl, tz_at 463 (by decide +kernel) rfl, ini_X4, ⟨by decide +kernel, by decide +kernel, by decide +kernel⟩⟩
theorem mX4_vote : tz_m yX4_vote cX4_vote 2 (some .int) 1 := ⟨tz_at 468 (by decide +kernel) rfl, tz_at 466 (by decide +kernel) rfl, tz_at 467 (by decide +kernel) rfl, ini_X4, ⟨by decide +kernel, by decide +kernel, by decide +kernel⟩⟩
theorem mX4_base : tz_m yX4_base cX4_base 2 (some .int) 1 := ⟨tz_at 472 (by decide +kernel) rfl, tz_at 470 (by decide +kernel) rfl, tz_at 471 (by decide +kernel) rfl, ini_X4, ⟨by decide +kernel, by decide +kernel, by decide +kernel⟩⟩
theorem mX4_last : tz_m yX4_last cX4_last 2 (some .int) 1 := ⟨tz_at 476 (by decide +kernel) rfl, tz_at 474 (by decide +kernel) rfl, tz_at 475 (by decide +kernel) rfl, ini_X4, ⟨by decide +kernel, by decide +kernel, by decide +kernel⟩⟩
theorem mX4_commit : tz_m yX4_commit cX4_commit 2 (some .int) 1 := ⟨tz_at 480 (by decide +kernel) rfl, tz_at 478 (by decide +kernel) rfl, tz_at 479 (by decide +kernel) rfl, ini_X4, ⟨by decide +kernel, by decide +kernel, by decide +kernel⟩⟩
theorem mX4_termAt : tz_m yX4_termAt cX4_termAt 3 (some .int) 2 := ⟨tz_at 484 (by decide +kernel) rfl, tz_at 482 (by decide +kernel) rfl, tz_at 483 (by decide +kernel) rfl, ini_X4, ⟨by decide +kernel, by decide +kernel, by decide +kernel⟩⟩
theorem mX4_commandAt : tz_m yX4_commandAt cX4_commandAt 3 (some .int) 2 := ⟨tz_at 488 (by decide +kernel) rfl, tz_at 486 (by decide +kernel) rfl, tz_at 487 (by decide +kernel) rfl, ini_X4, ⟨by decide +kernel, by decide +kernel, by decide +kernel⟩⟩
theorem mX4_state : tz_m yX4_state cX4_state 2 (some .int) 1 := ⟨tz_at 492 (by decide +kernel) rfl, tz_at 490 (by decide +kernel) rfl, tz_at 491 (by decide +kernel) rfl, ini_X4, ⟨by decide +kernel, by decide +kernel, by decide +kernel⟩⟩
theorem mX4_peer : tz_m yX4_peer cX4_peer 3 (some .int) 2 := ⟨tz_at 496 (by decide +kernel) rfl, tz_at 494 (by decide +kernel) rfl, tz_at 495 (by decide +kernel) rfl, ini_X4, ⟨by decide +kernel, by decide +kernel, by decide +kernel⟩⟩
theorem mX4_pending : tz_m yX4_pending cX4_pending 1 (some .int) 0 := ⟨tz_at 501 (by decide +kernel) rfl, tz_at 499 (by decide +kernel) rfl, tz_at 500 (by decide +kernel) rfl, ini_X4, ⟨by decide +kernel, by decide +kernel, by decide +kernel⟩⟩
theorem mX4_slot : tz_m yX4_slot cX4_slot 3 (some .int) 1 := ⟨tz_at 505 (by decide +kernel) rfl, tz_at 503 (by decide +kernel) rfl, tz_at 504 (by decide +kernel) rfl, ini_X4, ⟨by decide +kernel, by decide +kernel, by decide +kernel⟩⟩
theorem mX4_within : tz_s yX4_within cX4_within 3 (some .int) 3 := ⟨tz_at 78 (by decide +kernel) rfl, tz_at 77 (by decide +kernel) rfl, ini_X4, ⟨by decide +kernel, by decide +kernel, by decide +kernel⟩⟩
theorem mX4_isNode : tz_m yX4_isNode cX4_isNode 2 (some .boolean) 1 := ⟨tz_at 257 (by decide +kernel) rfl, tz_at 256 (by decide +kernel) rfl, tz_at 0 (by decide +kernel) rfl, ini_X4, ⟨by decide +kernel, by decide +kernel, by decide +kernel⟩⟩
theorem mX4_areTwoNodes : tz_m yX4_areTwoNodes cX4_areTwoNodes 3 (some .boolean) 2 := ⟨tz_at 305 (by decide +kernel) rfl, tz_at 304 (by decide +kernel) rfl, tz_at 11 (by decide +kernel) rfl, ini_X4, ⟨by decide +kernel, by decide +kernel, by decide +kernel⟩⟩
theorem mX4_isMajority : tz_m yX4_isMajority cX4_isMajority 2 (some .boolean) 1 := ⟨tz_at 398 (by decide +kernel) rfl, tz_at 397 (by decide +kernel) rfl, tz_at 29 (by decide +kernel) rfl, ini_X4, ⟨by decide +kernel, by decide +kernel, by decide +kernel⟩⟩
theorem mX4_sendAsk : tz_m yX4_sendAsk cX4_sendAsk 3 none 2 := ⟨tz_at 273 (by decide +kernel) rfl, tz_at 272 (by decide +kernel) rfl, tz_at 4 (by decide +kernel) rfl, ini_X4, ⟨by decide +kernel, by decide +kernel, by decide +kernel⟩⟩
theorem mX4_sendVote : tz_m yX4_sendVote cX4_sendVote 4 none 3 := ⟨tz_at 386 (by decide +kernel) rfl, tz_at 385 (by decide +kernel) rfl, tz_at 26 (by decide +kernel) rfl, ini_X4, ⟨by decide +kernel, by decide +kernel, by decide +kernel⟩⟩
theorem mX4_sendAppend : tz_m yX4_sendAppend cX4_sendAppend 4 none 2 := ⟨tz_at 313 (by decide +kernel) rfl, tz_at 312 (by decide +kernel) rfl, tz_at 13 (by decide +kernel) rfl, ini_X4, ⟨by decide +kernel, by decide +kernel, by decide +kernel⟩⟩
theorem mX4_sendAppended : tz_m yX4_sendAppended cX4_sendAppended 5 none 4 := ⟨tz_at 411 (by decide +kernel) rfl, tz_at 410 (by decide +kernel) rfl, tz_at 32 (by decide +kernel) rfl, ini_X4, ⟨by decide +kernel, by decide +kernel, by decide +kernel⟩⟩
theorem mX4_sendSnapshot : tz_m yX4_sendSnapshot cX4_sendSnapshot 3 none 2 := ⟨tz_at 309 (by decide +kernel) rfl, tz_at 308 (by decide +kernel) rfl, tz_at 12 (by decide +kernel) rfl, ini_X4, ⟨by decide +kernel, by decide +kernel, by decide +kernel⟩⟩
theorem mX4_receive : tz_m yX4_receive cX4_receive 3 none 2 := ⟨tz_at 371 (by decide +kernel) rfl, tz_at 370 (by decide +kernel) rfl, tz_at 23 (by decide +kernel) rfl, ini_X4, ⟨by decide +kernel, by decide +kernel, by decide +kernel⟩⟩
theorem mX4_receiveAsk : tz_m yX4_receiveAsk cX4_receiveAsk 5 none 2 := ⟨tz_at 376 (by decide +kernel) rfl, tz_at 375 (by decide +kernel) rfl, tz_at 24 (by decide +kernel) rfl, ini_X4, ⟨by decide +kernel, by decide +kernel, by decide +kernel⟩⟩
theorem mX4_receiveVote : tz_m yX4_receiveVote cX4_receiveVote 3 none 2 := ⟨tz_at 390 (by decide +kernel) rfl, tz_at 389 (by decide +kernel) rfl, tz_at 27 (by decide +kernel) rfl, ini_X4, ⟨by decide +kernel, by decide +kernel, by decide +kernel⟩⟩
theorem mX4_receiveAppend : tz_m yX4_receiveAppend cX4_receiveAppend 4 none 2 := ⟨tz_at 407 (by decide +kernel) rfl, tz_at 406 (by decide +kernel) rfl, tz_at 31 (by decide +kernel) rfl, ini_X4, ⟨by decide +kernel, by decide +kernel, by decide +kernel⟩⟩
theorem mX4_receiveAppended : tz_m yX4_receiveAppended cX4_receiveAppended 3 none 2 := ⟨tz_at 427 (by decide +kernel) rfl, tz_at 426 (by decide +kernel) rfl, tz_at 35 (by decide +kernel) rfl, ini_X4, ⟨by decide +kernel, by decide +kernel, by decide +kernel⟩⟩
theorem mX4_receiveSnapshot : tz_m yX4_receiveSnapshot cX4_receiveSnapshot 3 none 2 := ⟨tz_at 439 (by decide +kernel) rfl, tz_at 438 (by decide +kernel) rfl, tz_at 38 (by decide +kernel) rfl, ini_X4, ⟨by decide +kernel, by decide +kernel, by decide +kernel⟩⟩
theorem mX4_advanceCommit : tz_m yX4_advanceCommit cX4_advanceCommit 3 none 1 := ⟨tz_at 431 (by decide +kernel) rfl, tz_at 430 (by decide +kernel) rfl, tz_at 36 (by decide +kernel) rfl, ini_X4, ⟨by decide +kernel, by decide +kernel, by decide +kernel⟩⟩
theorem mX5_init : tz_i yX5_init cX5_init 5 3 := ⟨tz_at 513 (by decide +kernel) rfl, tz_at 512 (by decide +kernel) rfl, ini_X5, ⟨by decide +kernel, by decide +kernel, by decide +kernel⟩⟩
theorem mX5_clamp : tz_s yX5_clamp cX5_clamp 3 (some .int) 3 := ⟨tz_at 517 (by decide +kernel) rfl, tz_at 516 (by decide +kernel) rfl, ini_X5, ⟨by decide +kernel, by decide +kernel, by decide +kernel⟩⟩
theorem mX5_isNode : tz_m yX5_isNode cX5_isNode 2 (some .boolean) 1 := ⟨tz_at 607 (by decide +kernel) rfl, tz_at 606 (by decide +kernel) rfl, tz_at 39 (by decide +kernel) rfl, ini_X5, ⟨by decide +kernel, by decide +kernel, by decide +kernel⟩⟩
theorem mX5_lastOf : tz_m yX5_lastOf cX5_lastOf 2 (some .int) 1 := ⟨tz_at 623 (by decide +kernel) rfl, tz_at 622 (by decide +kernel) rfl, tz_at 43 (by decide +kernel) rfl, ini_X5, ⟨by decide +kernel, by decide +kernel, by decide +kernel⟩⟩
theorem mX5_hasEntry : tz_m yX5_hasEntry cX5_hasEntry 3 (some .boolean) 2 := ⟨tz_at 631 (by decide +kernel) rfl, tz_at 630 (by decide +kernel) rfl, tz_at 45 (by decide +kernel) rfl, ini_X5, ⟨by decide +kernel, by decide +kernel, by decide +kernel⟩⟩
theorem mX5_place : tz_m yX5_place cX5_place 3 (some .int) 2 := ⟨tz_at 635 (by decide +kernel) rfl, tz_at 634 (by decide +kernel) rfl, tz_at 46 (by decide +kernel) rfl, ini_X5, ⟨by decide +kernel, by decide +kernel, by decide +kernel⟩⟩
theorem mX5_termOf : tz_m yX5_termOf cX5_termOf 3 (some .int) 2 := ⟨tz_at 627 (by decide +kernel) rfl, tz_at 626 (by decide +kernel) rfl, tz_at 44 (by decide +kernel) rfl, ini_X5, ⟨by decide +kernel, by decide +kernel, by decide +kernel⟩⟩
theorem mX5_stateTo : tz_m yX5_stateTo cX5_stateTo 5 (some .int) 2 := ⟨tz_at 655 (by decide +kernel) rfl, tz_at 654 (by decide +kernel) rfl, tz_at 48 (by decide +kernel) rfl, ini_X5, ⟨by decide +kernel, by decide +kernel, by decide +kernel⟩⟩
theorem mX5_addEntry : tz_m yX5_addEntry cX5_addEntry 4 none 3 := ⟨tz_at 647 (by decide +kernel) rfl, tz_at 646 (by decide +kernel) rfl, tz_at 47 (by decide +kernel) rfl, ini_X5, ⟨by decide +kernel, by decide +kernel, by decide +kernel⟩⟩
theorem mX5_cutFront : tz_m yX5_cutFront cX5_cutFront 4 none 2 := ⟨tz_at 659 (by decide +kernel) rfl, tz_at 658 (by decide +kernel) rfl, tz_at 49 (by decide +kernel) rfl, ini_X5, ⟨by decide +kernel, by decide +kernel, by decide +kernel⟩⟩
theorem mX5_freeSlot : tz_m yX5_freeSlot cX5_freeSlot 3 (some .int) 0 := ⟨tz_at 619 (by decide +kernel) rfl, tz_at 618 (by decide +kernel) rfl, tz_at 42 (by decide +kernel) rfl, ini_X5, ⟨by decide +kernel, by decide +kernel, by decide +kernel⟩⟩
theorem mX5_waiting : tz_m yX5_waiting cX5_waiting 3 (some .int) 0 := ⟨tz_at 611 (by decide +kernel) rfl, tz_at 610 (by decide +kernel) rfl, tz_at 40 (by decide +kernel) rfl, ini_X5, ⟨by decide +kernel, by decide +kernel, by decide +kernel⟩⟩
theorem mX5_send : tz_m yX5_send cX5_send 5 (some .int) 3 := ⟨tz_at 615 (by decide +kernel) rfl, tz_at 614 (by decide +kernel) rfl, tz_at 41 (by decide +kernel) rfl, ini_X5, ⟨by decide +kernel, by decide +kernel, by decide +kernel⟩⟩
theorem mX5_answer : tz_m yX5_answer cX5_answer 7 none 5 := ⟨tz_at 679 (by decide +kernel) rfl, tz_at 678 (by decide +kernel) rfl, tz_at 53 (by decide +kernel) rfl, ini_X5, ⟨by decide +kernel, by decide +kernel, by decide +kernel⟩⟩
theorem mX5_timeout : tz_m yX5_timeout cX5_timeout 4 (some .int) 1 := ⟨tz_at 603 (by decide +kernel) rfl, tz_at 601 (by decide +kernel) rfl, tz_at 602 (by decide +kernel) rfl, ini_X5, ⟨by decide +kernel, by decide +kernel, by decide +kernel⟩⟩
theorem mX5_heartbeat : tz_m yX5_heartbeat cX5_heartbeat 5 (some .int) 2 := ⟨tz_at 639 (by decide +kernel) rfl, tz_at 637 (by decide +kernel) rfl, tz_at 638 (by decide +kernel) rfl, ini_X5, ⟨by decide +kernel, by decide +kernel, by decide +kernel⟩⟩
theorem mX5_propose : tz_m yX5_propose cX5_propose 3 (some .int) 2 := ⟨tz_at 643 (by decide +kernel) rfl, tz_at 641 (by decide +kernel) rfl, tz_at 642 (by decide +kernel) rfl, ini_X5, ⟨by decide +kernel, by decide +kernel, by decide +kernel⟩⟩
theorem mX5_compact : tz_m yX5_compact cX5_compact 5 (some .int) 1 := ⟨tz_at 651 (by decide +kernel) rfl, tz_at 649 (by decide +kernel) rfl, tz_at 650 (by decide +kernel) rfl, ini_X5, ⟨by decide +kernel, by decide +kernel, by decide +kernel⟩⟩
theorem mX5_isSlot : tz_m yX5_isSlot cX5_isSlot 2 (some .boolean) 1 := ⟨tz_at 667 (by decide +kernel) rfl, tz_at 666 (by decide +kernel) rfl, tz_at 50 (by decide +kernel) rfl, ini_X5, ⟨by decide +kernel, by decide +kernel, by decide +kernel⟩⟩
theorem mX5_deliver : tz_m yX5_deliver cX5_deliver 4 (some .int) 1 := ⟨tz_at 663 (by decide +kernel) rfl, tz_at 661 (by decide +kernel) rfl, tz_at 662 (by decide +kernel) rfl, ini_X5, ⟨by decide +kernel, by decide +kernel, by decide +kernel⟩⟩
theorem mX5_act : tz_m yX5_act cX5_act 5 none 4 := ⟨tz_at 671 (by decide +kernel) rfl, tz_at 670 (by decide +kernel) rfl, tz_at 51 (by decide +kernel) rfl, ini_X5, ⟨by decide +kernel, by decide +kernel, by decide +kernel⟩⟩
theorem mX5_asked : tz_m yX5_asked cX5_asked 7 none 3 := ⟨tz_at 675 (by decide +kernel) rfl, tz_at 674 (by decide +kernel) rfl, tz_at 52 (by decide +kernel) rfl, ini_X5, ⟨by decide +kernel, by decide +kernel, by decide +kernel⟩⟩
theorem mX5_isMost : tz_s yX5_isMost cX5_isMost 4 (some .boolean) 2 := ⟨tz_at 686 (by decide +kernel) rfl, tz_at 685 (by decide +kernel) rfl, ini_X5, ⟨by decide +kernel, by decide +kernel, by decide +kernel⟩⟩
theorem mX5_voted : tz_m yX5_voted cX5_voted 5 none 3 := ⟨tz_at 683 (by decide +kernel) rfl, tz_at 682 (by decide +kernel) rfl, tz_at 54 (by decide +kernel) rfl, ini_X5, ⟨by decide +kernel, by decide +kernel, by decide +kernel⟩⟩
theorem mX5_append : tz_m yX5_append cX5_append 7 none 3 := ⟨tz_at 690 (by decide +kernel) rfl, tz_at 689 (by decide +kernel) rfl, tz_at 55 (by decide +kernel) rfl, ini_X5, ⟨by decide +kernel, by decide +kernel, by decide +kernel⟩⟩
theorem mX5_takeEntry : tz_m yX5_takeEntry cX5_takeEntry 5 (some .int) 4 := ⟨tz_at 694 (by decide +kernel) rfl, tz_at 693 (by decide +kernel) rfl, tz_at 56 (by decide +kernel) rfl, ini_X5, ⟨by decide +kernel, by decide +kernel, by decide +kernel⟩⟩
theorem mX5_appended : tz_m yX5_appended cX5_appended 5 none 3 := ⟨tz_at 698 (by decide +kernel) rfl, tz_at 697 (by decide +kernel) rfl, tz_at 57 (by decide +kernel) rfl, ini_X5, ⟨by decide +kernel, by decide +kernel, by decide +kernel⟩⟩
theorem mX5_count : tz_m yX5_count cX5_count 6 none 1 := ⟨tz_at 702 (by decide +kernel) rfl, tz_at 701 (by decide +kernel) rfl, tz_at 58 (by decide +kernel) rfl, ini_X5, ⟨by decide +kernel, by decide +kernel, by decide +kernel⟩⟩
theorem mX5_snapshot : tz_m yX5_snapshot cX5_snapshot 6 none 3 := ⟨tz_at 706 (by decide +kernel) rfl, tz_at 705 (by decide +kernel) rfl, tz_at 59 (by decide +kernel) rfl, ini_X5, ⟨by decide +kernel, by decide +kernel, by decide +kernel⟩⟩
theorem mX5_drop : tz_m yX5_drop cX5_drop 2 (some .int) 1 := ⟨tz_at 710 (by decide +kernel) rfl, tz_at 708 (by decide +kernel) rfl, tz_at 709 (by decide +kernel) rfl, ini_X5, ⟨by decide +kernel, by decide +kernel, by decide +kernel⟩⟩
theorem mX5_duplicate : tz_m yX5_duplicate cX5_duplicate 3 (some .int) 1 := ⟨tz_at 714 (by decide +kernel) rfl, tz_at 712 (by decide +kernel) rfl, tz_at 713 (by decide +kernel) rfl, ini_X5, ⟨by decide +kernel, by decide +kernel, by decide +kernel⟩⟩
theorem mX5_crash : tz_m yX5_crash cX5_crash 2 (some .int) 1 := ⟨tz_at 718 (by decide +kernel) rfl, tz_at 716 (by decide +kernel) rfl, tz_at 717 (by decide +kernel) rfl, ini_X5, ⟨by decide +kernel, by decide +kernel, by decide +kernel⟩⟩
theorem mX5_restart : tz_m yX5_restart cX5_restart 2 (some .int) 1 := ⟨tz_at 722 (by decide +kernel) rfl, tz_at 720 (by decide +kernel) rfl, tz_at 721 (by decide +kernel) rfl, ini_X5, ⟨by decide +kernel, by decide +kernel, by decide +kernel⟩⟩
theorem mX5_role : tz_m yX5_role cX5_role 2 (some .int) 1 := ⟨tz_at 726 (by decide +kernel) rfl, tz_at 724 (by decide +kernel) rfl, tz_at 725 (by decide +kernel) rfl, ini_X5, ⟨by decide +kernel, by decide +kernel, by decide +kernel⟩⟩
theorem mX5_term : tz_m yX5_term cX5_term 2 (some .int) 1 := ⟨tz_at 730 (by decide +kernel) rfl, tz_at 728 (by decide +kernel) rfl, tz_at 729 (by decide +kernel) rfl, ini_X5, ⟨by decide +kernel, by decide +kernel, by decide +kernel⟩⟩
theorem mX5_vote : tz_m yX5_vote cX5_vote 2 (some .int) 1 := ⟨tz_at 734 (by decide +kernel) rfl, tz_at 732 (by decide +kernel) rfl, tz_at 733 (by decide +kernel) rfl, ini_X5, ⟨by decide +kernel, by decide +kernel, by decide +kernel⟩⟩
theorem mX5_base : tz_m yX5_base cX5_base 2 (some .int) 1 := ⟨tz_at 738 (by decide +kernel) rfl, tz_at 736 (by decide +kernel) rfl, tz_at 737 (by decide +kernel) rfl, ini_X5, ⟨by decide +kernel, by decide +kernel, by decide +kernel⟩⟩
theorem mX5_last : tz_m yX5_last cX5_last 2 (some .int) 1 := ⟨tz_at 742 (by decide +kernel) rfl, tz_at 740 (by decide +kernel) rfl, tz_at 741 (by decide +kernel) rfl, ini_X5, ⟨by decide +kernel, by decide +kernel, by decide +kernel⟩⟩
theorem mX5_commit : tz_m yX5_commit cX5_commit 2 (some .int) 1 := ⟨tz_at 746 (by decide +kernel) rfl, tz_at 744 (by decide +kernel) rfl, tz_at 745 (by decide +kernel) rfl, ini_X5, ⟨by decide +kernel, by decide +kernel, by decide +kernel⟩⟩
theorem mX5_termAt : tz_m yX5_termAt cX5_termAt 3 (some .int) 2 := ⟨tz_at 750 (by decide +kernel) rfl, tz_at 748 (by decide +kernel) rfl, tz_at 749 (by decide +kernel) rfl, ini_X5, ⟨by decide +kernel, by decide +kernel, by decide +kernel⟩⟩
theorem mX5_commandAt : tz_m yX5_commandAt cX5_commandAt 3 (some .int) 2 := ⟨tz_at 754 (by decide +kernel) rfl, tz_at 752 (by decide +kernel) rfl, tz_at 753 (by decide +kernel) rfl, ini_X5, ⟨by decide +kernel, by decide +kernel, by decide +kernel⟩⟩
theorem mX5_state : tz_m yX5_state cX5_state 2 (some .int) 1 := ⟨tz_at 758 (by decide +kernel) rfl, tz_at 756 (by decide +kernel) rfl, tz_at 757 (by decide +kernel) rfl, ini_X5, ⟨by decide +kernel, by decide +kernel, by decide +kernel⟩⟩
theorem mX5_peer : tz_m yX5_peer cX5_peer 3 (some .int) 2 := ⟨tz_at 762 (by decide +kernel) rfl, tz_at 760 (by decide +kernel) rfl, tz_at 761 (by decide +kernel) rfl, ini_X5, ⟨by decide +kernel, by decide +kernel, by decide +kernel⟩⟩
theorem mX5_pending : tz_m yX5_pending cX5_pending 1 (some .int) 0 := ⟨tz_at 767 (by decide +kernel) rfl, tz_at 765 (by decide +kernel) rfl, tz_at 766 (by decide +kernel) rfl, ini_X5, ⟨by decide +kernel, by decide +kernel, by decide +kernel⟩⟩
theorem mX5_slot : tz_m yX5_slot cX5_slot 2 (some .int) 1 := ⟨tz_at 771 (by decide +kernel) rfl, tz_at 769 (by decide +kernel) rfl, tz_at 770 (by decide +kernel) rfl, ini_X5, ⟨by decide +kernel, by decide +kernel, by decide +kernel⟩⟩
theorem mX0_init : tz_i yX0_init cX0_init 2 1 := ⟨tz_at 96 (by decide +kernel) rfl, tz_at 95 (by decide +kernel) rfl, ini_X0, ⟨by decide +kernel, by decide +kernel, by decide +kernel⟩⟩
theorem mX0_lastNumber : tz_m yX0_lastNumber cX0_lastNumber 1 (some .int) 0 := ⟨tz_at 281 (by decide +kernel) rfl, tz_at 280 (by decide +kernel) rfl, tz_at 6 (by decide +kernel) rfl, ini_X0, ⟨by decide +kernel, by decide +kernel, by decide +kernel⟩⟩
theorem mX0_lastTerm : tz_m yX0_lastTerm cX0_lastTerm 1 (some .int) 0 := ⟨tz_at 285 (by decide +kernel) rfl, tz_at 284 (by decide +kernel) rfl, tz_at 7 (by decide +kernel) rfl, ini_X0, ⟨by decide +kernel, by decide +kernel, by decide +kernel⟩⟩
theorem mX0_isFull : tz_m yX0_isFull cX0_isFull 1 (some .boolean) 0 := ⟨tz_at 334 (by decide +kernel) rfl, tz_at 333 (by decide +kernel) rfl, tz_at 17 (by decide +kernel) rfl, ini_X0, ⟨by decide +kernel, by decide +kernel, by decide +kernel⟩⟩
theorem mX0_hasEntry : tz_m yX0_hasEntry cX0_hasEntry 2 (some .boolean) 1 := ⟨tz_at 321 (by decide +kernel) rfl, tz_at 320 (by decide +kernel) rfl, tz_at 15 (by decide +kernel) rfl, ini_X0, ⟨by decide +kernel, by decide +kernel, by decide +kernel⟩⟩
theorem mX0_termOf : tz_m yX0_termOf cX0_termOf 2 (some .int) 1 := ⟨tz_at 317 (by decide +kernel) rfl, tz_at 316 (by decide +kernel) rfl, tz_at 14 (by decide +kernel) rfl, ini_X0, ⟨by decide +kernel, by decide +kernel, by decide +kernel⟩⟩
theorem mX0_commandOf : tz_m yX0_commandOf cX0_commandOf 2 (some .int) 1 := ⟨tz_at 326 (by decide +kernel) rfl, tz_at 325 (by decide +kernel) rfl, tz_at 16 (by decide +kernel) rfl, ini_X0, ⟨by decide +kernel, by decide +kernel, by decide +kernel⟩⟩
theorem mX0_stateUpTo : tz_m yX0_stateUpTo cX0_stateUpTo 4 (some .int) 1 := ⟨tz_at 347 (by decide +kernel) rfl, tz_at 346 (by decide +kernel) rfl, tz_at 19 (by decide +kernel) rfl, ini_X0, ⟨by decide +kernel, by decide +kernel, by decide +kernel⟩⟩
theorem mX0_isNotAheadOf : tz_m yX0_isNotAheadOf cX0_isNotAheadOf 3 (some .boolean) 2 := ⟨tz_at 380 (by decide +kernel) rfl, tz_at 379 (by decide +kernel) rfl, tz_at 25 (by decide +kernel) rfl, ini_X0, ⟨by decide +kernel, by decide +kernel, by decide +kernel⟩⟩
theorem mX0_add : tz_m yX0_add cX0_add 3 none 2 := ⟨tz_at 338 (by decide +kernel) rfl, tz_at 337 (by decide +kernel) rfl, tz_at 18 (by decide +kernel) rfl, ini_X0, ⟨by decide +kernel, by decide +kernel, by decide +kernel⟩⟩
theorem mX0_cutFrom : tz_m yX0_cutFrom cX0_cutFrom 2 none 1 := ⟨tz_at 421 (by decide +kernel) rfl, tz_at 420 (by decide +kernel) rfl, tz_at 34 (by decide +kernel) rfl, ini_X0, ⟨by decide +kernel, by decide +kernel, by decide +kernel⟩⟩
theorem mX0_rebase : tz_m yX0_rebase cX0_rebase 6 none 3 := ⟨tz_at 351 (by decide +kernel) rfl, tz_at 350 (by decide +kernel) rfl, tz_at 20 (by decide +kernel) rfl, ini_X0, ⟨by decide +kernel, by decide +kernel, by decide +kernel⟩⟩
theorem mX1_init : tz_i yX1_init cX1_init 1 0 := ⟨tz_at 174 (by decide +kernel) rfl, tz_at 173 (by decide +kernel) rfl, ini_X1, ⟨by decide +kernel, by decide +kernel, by decide +kernel⟩⟩
theorem mX1_begin : tz_m yX1_begin cX1_begin 5 none 4 := ⟨tz_at 277 (by decide +kernel) rfl, tz_at 276 (by decide +kernel) rfl, tz_at 5 (by decide +kernel) rfl, ini_X1, ⟨by decide +kernel, by decide +kernel, by decide +kernel⟩⟩
theorem mX1_copy : tz_m yX1_copy cX1_copy 2 none 1 := ⟨tz_at 297 (by decide +kernel) rfl, tz_at 296 (by decide +kernel) rfl, tz_at 10 (by decide +kernel) rfl, ini_X1, ⟨by decide +kernel, by decide +kernel, by decide +kernel⟩⟩
theorem mX2_init : tz_i yX2_init cX2_init 3 1 := ⟨tz_at 167 (by decide +kernel) rfl, tz_at 166 (by decide +kernel) rfl, ini_X2, ⟨by decide +kernel, by decide +kernel, by decide +kernel⟩⟩
theorem mX2_isSlot : tz_m yX2_isSlot cX2_isSlot 2 (some .boolean) 1 := ⟨tz_at 361 (by decide +kernel) rfl, tz_at 360 (by decide +kernel) rfl, tz_at 21 (by decide +kernel) rfl, ini_X2, ⟨by decide +kernel, by decide +kernel, by decide +kernel⟩⟩
theorem mX2_isFree : tz_m yX2_isFree cX2_isFree 2 (some .boolean) 1 := ⟨tz_at 293 (by decide +kernel) rfl, tz_at 292 (by decide +kernel) rfl, tz_at 9 (by decide +kernel) rfl, ini_X2, ⟨by decide +kernel, by decide +kernel, by decide +kernel⟩⟩
theorem mX2_countFree : tz_m yX2_countFree cX2_countFree 1 (some .int) 0 := ⟨tz_at 261 (by decide +kernel) rfl, tz_at 260 (by decide +kernel) rfl, tz_at 1 (by decide +kernel) rfl, ini_X2, ⟨by decide +kernel, by decide +kernel, by decide +kernel⟩⟩
theorem mX2_put : tz_m yX2_put cX2_put 3 (some .int) 1 := ⟨tz_at 289 (by decide +kernel) rfl, tz_at 288 (by decide +kernel) rfl, tz_at 8 (by decide +kernel) rfl, ini_X2, ⟨by decide +kernel, by decide +kernel, by decide +kernel⟩⟩
theorem mX2_clear : tz_m yX2_clear cX2_clear 2 none 1 := ⟨tz_at 367 (by decide +kernel) rfl, tz_at 366 (by decide +kernel) rfl, tz_at 22 (by decide +kernel) rfl, ini_X2, ⟨by decide +kernel, by decide +kernel, by decide +kernel⟩⟩
theorem mX3_init : tz_i yX3_init cX3_init 4 3 := ⟨tz_at 90 (by decide +kernel) rfl, tz_at 89 (by decide +kernel) rfl, ini_X3, ⟨by decide +kernel, by decide +kernel, by decide +kernel⟩⟩
theorem mX3_enterTerm : tz_m yX3_enterTerm cX3_enterTerm 2 none 1 := ⟨tz_at 269 (by decide +kernel) rfl, tz_at 268 (by decide +kernel) rfl, tz_at 3 (by decide +kernel) rfl, ini_X3, ⟨by decide +kernel, by decide +kernel, by decide +kernel⟩⟩
theorem mX3_stand : tz_m yX3_stand cX3_stand 2 none 0 := ⟨tz_at 265 (by decide +kernel) rfl, tz_at 264 (by decide +kernel) rfl, tz_at 2 (by decide +kernel) rfl, ini_X3, ⟨by decide +kernel, by decide +kernel, by decide +kernel⟩⟩
theorem mX3_lead : tz_m yX3_lead cX3_lead 2 none 0 := ⟨tz_at 402 (by decide +kernel) rfl, tz_at 401 (by decide +kernel) rfl, tz_at 30 (by decide +kernel) rfl, ini_X3, ⟨by decide +kernel, by decide +kernel, by decide +kernel⟩⟩
theorem mX3_takeEntry : tz_m yX3_takeEntry cX3_takeEntry 4 none 3 := ⟨tz_at 415 (by decide +kernel) rfl, tz_at 414 (by decide +kernel) rfl, tz_at 33 (by decide +kernel) rfl, ini_X3, ⟨by decide +kernel, by decide +kernel, by decide +kernel⟩⟩
theorem mX3_countVoters : tz_m yX3_countVoters cX3_countVoters 3 (some .int) 0 := ⟨tz_at 394 (by decide +kernel) rfl, tz_at 393 (by decide +kernel) rfl, tz_at 28 (by decide +kernel) rfl, ini_X3, ⟨by decide +kernel, by decide +kernel, by decide +kernel⟩⟩
theorem mX3_countHolders : tz_m yX3_countHolders cX3_countHolders 4 (some .int) 1 := ⟨tz_at 435 (by decide +kernel) rfl, tz_at 434 (by decide +kernel) rfl, tz_at 37 (by decide +kernel) rfl, ini_X3, ⟨by decide +kernel, by decide +kernel, by decide +kernel⟩⟩
theorem mL_cell : tz_s yL_cell cL_cell 2 (some .int) 2 := ⟨tz_at 508 (by decide +kernel) rfl, tz_at 507 (by decide +kernel) rfl, ini_L, ⟨by decide +kernel, by decide +kernel, by decide +kernel⟩⟩
def qn_ws : List Cond := [.fieldLinkNest RX4 76 "QuorumLog$Log" "base" "I" RX4, .fieldLinkNest RX4 202 "QuorumLog$Log" "baseTerm" "I" RX4, .fieldLinkNest RX4 205 "QuorumLog$Log" "baseState" "I" RX4, .fieldLinkNest RX4 171 "QuorumLog$Node" "self" "I" RX4, .fieldLinkNest RX4 45 "QuorumLog$Node" "up" "Z" RX4, .fieldLinkNest RX4 49 "QuorumLog$Node" "role" "I" RX4, .fieldLinkNest RX4 91 "QuorumLog$Node" "term" "I" RX4, .fieldLinkNest RX4 145 "QuorumLog$Node" "vote" "I" RX4, .fieldLinkNest RX4 101 "QuorumLog$Node" "commit" "I" RX4, .fieldLinkNest RX4 72 "QuorumLog$Node" "log" "LQuorumLog$Log;" RX4, .fieldLinkNest RX4 236 "QuorumLog$Node" "voters" "[Z" RX4, .fieldLinkNest RX4 68 "QuorumLog$Node" "next" "[I" RX4, .fieldLinkNest RX4 151 "QuorumLog$Node" "match" "[I" RX4, .fieldLinkNest RX2 18 "QuorumLog$Message" "kind" "I" RX4, .fieldLinkNest RX4 138 "QuorumLog$Message" "kind" "I" RX4, .fieldLinkNest RX4 158 "QuorumLog$Message" "from" "I" RX4, .fieldLinkNest RX4 131 "QuorumLog$Message" "to" "I" RX4, .fieldLinkNest RX4 161 "QuorumLog$Message" "term" "I" RX4, .fieldLinkNest RX4 178 "QuorumLog$Message" "number" "I" RX4, .fieldLinkNest RX4 184 "QuorumLog$Message" "numberTerm" "I" RX4, .fieldLinkNest RX4 187 "QuorumLog$Message" "yes" "Z" RX4, .fieldLinkNest RX4 193 "QuorumLog$Message" "hasEntry" "Z" RX4, .fieldLinkNest RX4 195 "QuorumLog$Message" "entryTerm" "I" RX4, .fieldLinkNest RX4 198 "QuorumLog$Message" "entryCommand" "I" RX4, .fieldLinkNest RX4 201 "QuorumLog$Message" "commit" "I" RX4, .fieldLinkNest RX4 208 "QuorumLog$Message" "state" "I" RX4, .fieldLinkNest RX4 120 "QuorumLog$Net" "messages" "[LQuorumLog$Message;" RX4, .fieldLinkNest RX4 155 "QuorumLog$Net" "waiting" "I" RX4, .methodLinkNest RX4 19 yX3_init RX4, .methodLinkNest RX3 27 yX0_init RX4, .methodLinkNest RX4 24 yX2_init RX4, .methodLinkNest RX2 17 yX1_init RX4, .methodLinkNest RX4 33 yX1_init RX4, .methodLinkNest RX4 53 yX2_countFree RX4, .methodLinkNest RX4 57 yX3_stand RX4, .methodLinkNest RX4 174 yX1_begin RX4, .methodLinkNest RX4 98 yX0_lastNumber RX4, .methodLinkNest RX4 181 yX0_lastTerm RX4, .methodLinkNest RX4 141 yX2_put RX4, .methodLinkNest RX2 29 yX1_copy RX4, .methodLinkNest RX4 104 yX0_termOf RX4, .methodLinkNest RX4 190 yX0_hasEntry RX4, .methodLinkNest RX4 148 yX0_commandOf RX4, .methodLinkNest RX4 87 yX0_isFull RX4, .methodLinkNest RX4 94 yX0_add RX4, .methodLinkNest RX4 108 yX0_stateUpTo RX4, .methodLinkNest RX4 111 yX0_rebase RX4, .methodLinkNest RX4 114 yX2_isSlot RX4, .methodLinkNest RX4 117 yX2_isFree RX4, .methodLinkNest RX4 124 yX1_copy RX4, .methodLinkNest RX4 128 yX2_clear RX4, .methodLinkNest RX4 211 yX3_enterTerm RX4, .methodLinkNest RX4 229 yX0_isNotAheadOf RX4, .methodLinkNest RX4 240 yX3_countVoters RX4, .methodLinkNest RX4 246 yX3_lead RX4, .methodLinkNest RX3 51 yX0_lastNumber RX4, .methodLinkNest RX4 253 yX3_takeEntry RX4, .methodLinkNest RX3 55 yX0_hasEntry RX4, .methodLinkNest RX3 59 yX0_termOf RX4, .methodLinkNest RX3 63 yX0_cutFrom RX4, .methodLinkNest RX3 75 yX0_add RX4, .methodLinkNest RX4 263 yX3_countHolders RX4, .methodLinkNest RX4 260 yX0_cutFrom RX4]
theorem nX4_76 : Cond.fieldLinkNest RX4 76 "QuorumLog$Log" "base" "I" RX4 ∈ qn_ws := List.mem_of_getElem? (i := 0) rfl
theorem nX4_202 : Cond.fieldLinkNest RX4 202 "QuorumLog$Log" "baseTerm" "I" RX4 ∈ qn_ws := List.mem_of_getElem? (i := 1) rfl
theorem nX4_205 : Cond.fieldLinkNest RX4 205 "QuorumLog$Log" "baseState" "I" RX4 ∈ qn_ws := List.mem_of_getElem? (i := 2) rfl
theorem nX4_171 : Cond.fieldLinkNest RX4 171 "QuorumLog$Node" "self" "I" RX4 ∈ qn_ws := List.mem_of_getElem? (i := 3) rfl
theorem nX4_45 : Cond.fieldLinkNest RX4 45 "QuorumLog$Node" "up" "Z" RX4 ∈ qn_ws := List.mem_of_getElem? (i := 4) rfl
theorem nX4_49 : Cond.fieldLinkNest RX4 49 "QuorumLog$Node" "role" "I" RX4 ∈ qn_ws := List.mem_of_getElem? (i := 5) rfl
theorem nX4_91 : Cond.fieldLinkNest RX4 91 "QuorumLog$Node" "term" "I" RX4 ∈ qn_ws := List.mem_of_getElem? (i := 6) rfl
theorem nX4_145 : Cond.fieldLinkNest RX4 145 "QuorumLog$Node" "vote" "I" RX4 ∈ qn_ws := List.mem_of_getElem? (i := 7) rfl
theorem nX4_101 : Cond.fieldLinkNest RX4 101 "QuorumLog$Node" "commit" "I" RX4 ∈ qn_ws := List.mem_of_getElem? (i := 8) rfl
theorem nX4_72 : Cond.fieldLinkNest RX4 72 "QuorumLog$Node" "log" "LQuorumLog$Log;" RX4 ∈ qn_ws := List.mem_of_getElem? (i := 9) rfl
theorem nX4_236 : Cond.fieldLinkNest RX4 236 "QuorumLog$Node" "voters" "[Z" RX4 ∈ qn_ws := List.mem_of_getElem? (i := 10) rfl
theorem nX4_68 : Cond.fieldLinkNest RX4 68 "QuorumLog$Node" "next" "[I" RX4 ∈ qn_ws := List.mem_of_getElem? (i := 11) rfl
theorem nX4_151 : Cond.fieldLinkNest RX4 151 "QuorumLog$Node" "match" "[I" RX4 ∈ qn_ws := List.mem_of_getElem? (i := 12) rfl
theorem nX2_18 : Cond.fieldLinkNest RX2 18 "QuorumLog$Message" "kind" "I" RX4 ∈ qn_ws := List.mem_of_getElem? (i := 13) rfl
theorem nX4_138 : Cond.fieldLinkNest RX4 138 "QuorumLog$Message" "kind" "I" RX4 ∈ qn_ws := List.mem_of_getElem? (i := 14) rfl
theorem nX4_158 : Cond.fieldLinkNest RX4 158 "QuorumLog$Message" "from" "I" RX4 ∈ qn_ws := List.mem_of_getElem? (i := 15) rfl
theorem nX4_131 : Cond.fieldLinkNest RX4 131 "QuorumLog$Message" "to" "I" RX4 ∈ qn_ws := List.mem_of_getElem? (i := 16) rfl
theorem nX4_161 : Cond.fieldLinkNest RX4 161 "QuorumLog$Message" "term" "I" RX4 ∈ qn_ws := List.mem_of_getElem? (i := 17) rfl
theorem nX4_178 : Cond.fieldLinkNest RX4 178 "QuorumLog$Message" "number" "I" RX4 ∈ qn_ws := List.mem_of_getElem? (i := 18) rfl
theorem nX4_184 : Cond.fieldLinkNest RX4 184 "QuorumLog$Message" "numberTerm" "I" RX4 ∈ qn_ws := List.mem_of_getElem? (i := 19) rfl
theorem nX4_187 : Cond.fieldLinkNest RX4 187 "QuorumLog$Message" "yes" "Z" RX4 ∈ qn_ws := List.mem_of_getElem? (i := 20) rfl
theorem nX4_193 : Cond.fieldLinkNest RX4 193 "QuorumLog$Message" "hasEntry" "Z" RX4 ∈ qn_ws := List.mem_of_getElem? (i := 21) rfl
theorem nX4_195 : Cond.fieldLinkNest RX4 195 "QuorumLog$Message" "entryTerm" "I" RX4 ∈ qn_ws := List.mem_of_getElem? (i := 22) rfl
theorem nX4_198 : Cond.fieldLinkNest RX4 198 "QuorumLog$Message" "entryCommand" "I" RX4 ∈ qn_ws := List.mem_of_getElem? (i := 23) rfl
theorem nX4_201 : Cond.fieldLinkNest RX4 201 "QuorumLog$Message" "commit" "I" RX4 ∈ qn_ws := List.mem_of_getElem? (i := 24) rfl
theorem nX4_208 : Cond.fieldLinkNest RX4 208 "QuorumLog$Message" "state" "I" RX4 ∈ qn_ws := List.mem_of_getElem? (i := 25) rfl
theorem nX4_120 : Cond.fieldLinkNest RX4 120 "QuorumLog$Net" "messages" "[LQuorumLog$Message;" RX4 ∈ qn_ws := List.mem_of_getElem? (i := 26) rfl
theorem nX4_155 : Cond.fieldLinkNest RX4 155 "QuorumLog$Net" "waiting" "I" RX4 ∈ qn_ws := List.mem_of_getElem? (i := 27) rfl
theorem nX4_19 : Cond.methodLinkNest RX4 19 yX3_init RX4 ∈ qn_ws := List.mem_of_getElem? (i := 28) rfl
theorem nX3_27 : Cond.methodLinkNest RX3 27 yX0_init RX4 ∈ qn_ws := List.mem_of_getElem? (i := 29) rfl
theorem nX4_24 : Cond.methodLinkNest RX4 24 yX2_init RX4 ∈ qn_ws := List.mem_of_getElem? (i := 30) rfl
theorem nX2_17 : Cond.methodLinkNest RX2 17 yX1_init RX4 ∈ qn_ws := List.mem_of_getElem? (i := 31) rfl
theorem nX4_33 : Cond.methodLinkNest RX4 33 yX1_init RX4 ∈ qn_ws := List.mem_of_getElem? (i := 32) rfl
theorem nX4_53 : Cond.methodLinkNest RX4 53 yX2_countFree RX4 ∈ qn_ws := List.mem_of_getElem? (i := 33) rfl
theorem nX4_57 : Cond.methodLinkNest RX4 57 yX3_stand RX4 ∈ qn_ws := List.mem_of_getElem? (i := 34) rfl
theorem nX4_174 : Cond.methodLinkNest RX4 174 yX1_begin RX4 ∈ qn_ws := List.mem_of_getElem? (i := 35) rfl
theorem nX4_98 : Cond.methodLinkNest RX4 98 yX0_lastNumber RX4 ∈ qn_ws := List.mem_of_getElem? (i := 36) rfl
theorem nX4_181 : Cond.methodLinkNest RX4 181 yX0_lastTerm RX4 ∈ qn_ws := List.mem_of_getElem? (i := 37) rfl
theorem nX4_141 : Cond.methodLinkNest RX4 141 yX2_put RX4 ∈ qn_ws := List.mem_of_getElem? (i := 38) rfl
theorem nX2_29 : Cond.methodLinkNest RX2 29 yX1_copy RX4 ∈ qn_ws := List.mem_of_getElem? (i := 39) rfl
theorem nX4_104 : Cond.methodLinkNest RX4 104 yX0_termOf RX4 ∈ qn_ws := List.mem_of_getElem? (i := 40) rfl
theorem nX4_190 : Cond.methodLinkNest RX4 190 yX0_hasEntry RX4 ∈ qn_ws := List.mem_of_getElem? (i := 41) rfl
theorem nX4_148 : Cond.methodLinkNest RX4 148 yX0_commandOf RX4 ∈ qn_ws := List.mem_of_getElem? (i := 42) rfl
theorem nX4_87 : Cond.methodLinkNest RX4 87 yX0_isFull RX4 ∈ qn_ws := List.mem_of_getElem? (i := 43) rfl
theorem nX4_94 : Cond.methodLinkNest RX4 94 yX0_add RX4 ∈ qn_ws := List.mem_of_getElem? (i := 44) rfl
theorem nX4_108 : Cond.methodLinkNest RX4 108 yX0_stateUpTo RX4 ∈ qn_ws := List.mem_of_getElem? (i := 45) rfl
theorem nX4_111 : Cond.methodLinkNest RX4 111 yX0_rebase RX4 ∈ qn_ws := List.mem_of_getElem? (i := 46) rfl
theorem nX4_114 : Cond.methodLinkNest RX4 114 yX2_isSlot RX4 ∈ qn_ws := List.mem_of_getElem? (i := 47) rfl
theorem nX4_117 : Cond.methodLinkNest RX4 117 yX2_isFree RX4 ∈ qn_ws := List.mem_of_getElem? (i := 48) rfl
theorem nX4_124 : Cond.methodLinkNest RX4 124 yX1_copy RX4 ∈ qn_ws := List.mem_of_getElem? (i := 49) rfl
theorem nX4_128 : Cond.methodLinkNest RX4 128 yX2_clear RX4 ∈ qn_ws := List.mem_of_getElem? (i := 50) rfl
theorem nX4_211 : Cond.methodLinkNest RX4 211 yX3_enterTerm RX4 ∈ qn_ws := List.mem_of_getElem? (i := 51) rfl
theorem nX4_229 : Cond.methodLinkNest RX4 229 yX0_isNotAheadOf RX4 ∈ qn_ws := List.mem_of_getElem? (i := 52) rfl
theorem nX4_240 : Cond.methodLinkNest RX4 240 yX3_countVoters RX4 ∈ qn_ws := List.mem_of_getElem? (i := 53) rfl
theorem nX4_246 : Cond.methodLinkNest RX4 246 yX3_lead RX4 ∈ qn_ws := List.mem_of_getElem? (i := 54) rfl
theorem nX3_51 : Cond.methodLinkNest RX3 51 yX0_lastNumber RX4 ∈ qn_ws := List.mem_of_getElem? (i := 55) rfl
theorem nX4_253 : Cond.methodLinkNest RX4 253 yX3_takeEntry RX4 ∈ qn_ws := List.mem_of_getElem? (i := 56) rfl
theorem nX3_55 : Cond.methodLinkNest RX3 55 yX0_hasEntry RX4 ∈ qn_ws := List.mem_of_getElem? (i := 57) rfl
theorem nX3_59 : Cond.methodLinkNest RX3 59 yX0_termOf RX4 ∈ qn_ws := List.mem_of_getElem? (i := 58) rfl
theorem nX3_63 : Cond.methodLinkNest RX3 63 yX0_cutFrom RX4 ∈ qn_ws := List.mem_of_getElem? (i := 59) rfl
theorem nX3_75 : Cond.methodLinkNest RX3 75 yX0_add RX4 ∈ qn_ws := List.mem_of_getElem? (i := 60) rfl
theorem nX4_263 : Cond.methodLinkNest RX4 263 yX3_countHolders RX4 ∈ qn_ws := List.mem_of_getElem? (i := 61) rfl
theorem nX4_260 : Cond.methodLinkNest RX4 260 yX0_cutFrom RX4 ∈ qn_ws := List.mem_of_getElem? (i := 62) rfl
theorem qn_in : ∀ w ∈ qn_ws, w ∈ lw_tbl := by decide +kernel
