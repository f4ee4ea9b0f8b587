section
-- ===== PART A: goes FIRST, ahead of the names: the tables' words, and 'selects' of the private methods out of them =====
/-- a private method of a class that the tables say can be made, by its rows of tables_1 -/
def lw_okq (q : MethodName × Nat) : Prop := (q.1.cls ≠ "java/lang/invoke/MethodHandle" ∧ q.1.cls ≠ "java/lang/invoke/VarHandle") ∧ Cond.instantiable q.1.cls q.2 ∈ tables_1 ∧ Cond.privateMethod q.1 ∈ tables_1 ∧ Cond.instanceMethod q.1 ∈ tables_1
theorem lw_p0 : lw_okq (⟨"QuorumLog", "isNode", "(I)Z"⟩, 4) := ⟨⟨by decide +kernel, by decide +kernel⟩, List.mem_of_getElem? (i := 9) (by decide +kernel), List.mem_of_getElem? (i := 195) (by decide +kernel), List.mem_of_getElem? (i := 196) (by decide +kernel)⟩
theorem lw_p1 : lw_okq (⟨"QuorumLog$Net", "countFree", "()I"⟩, 2) := ⟨⟨by decide +kernel, by decide +kernel⟩, List.mem_of_getElem? (i := 104) (by decide +kernel), List.mem_of_getElem? (i := 199) (by decide +kernel), List.mem_of_getElem? (i := 200) (by decide +kernel)⟩
theorem lw_p2 : lw_okq (⟨"QuorumLog$Node", "stand", "()V"⟩, 10) := ⟨⟨by decide +kernel, by decide +kernel⟩, List.mem_of_getElem? (i := 27) (by decide +kernel), List.mem_of_getElem? (i := 203) (by decide +kernel), List.mem_of_getElem? (i := 204) (by decide +kernel)⟩
theorem lw_p3 : lw_okq (⟨"QuorumLog$Node", "enterTerm", "(I)V"⟩, 10) := ⟨⟨by decide +kernel, by decide +kernel⟩, List.mem_of_getElem? (i := 27) (by decide +kernel), List.mem_of_getElem? (i := 207) (by decide +kernel), List.mem_of_getElem? (i := 208) (by decide +kernel)⟩
theorem lw_p4 : lw_okq (⟨"QuorumLog", "sendAsk", "(LQuorumLog$Node;I)V"⟩, 4) := ⟨⟨by decide +kernel, by decide +kernel⟩, List.mem_of_getElem? (i := 9) (by decide +kernel), List.mem_of_getElem? (i := 211) (by decide +kernel), List.mem_of_getElem? (i := 212) (by decide +kernel)⟩
theorem lw_p5 : lw_okq (⟨"QuorumLog$Message", "begin", "(IIII)V"⟩, 12) := ⟨⟨by decide +kernel, by decide +kernel⟩, List.mem_of_getElem? (i := 111) (by decide +kernel), List.mem_of_getElem? (i := 215) (by decide +kernel), List.mem_of_getElem? (i := 216) (by decide +kernel)⟩
theorem lw_p6 : lw_okq (⟨"QuorumLog$Log", "lastNumber", "()I"⟩, 6) := ⟨⟨by decide +kernel, by decide +kernel⟩, List.mem_of_getElem? (i := 33) (by decide +kernel), List.mem_of_getElem? (i := 219) (by decide +kernel), List.mem_of_getElem? (i := 220) (by decide +kernel)⟩
theorem lw_p7 : lw_okq (⟨"QuorumLog$Log", "lastTerm", "()I"⟩, 6) := ⟨⟨by decide +kernel, by decide +kernel⟩, List.mem_of_getElem? (i := 33) (by decide +kernel), List.mem_of_getElem? (i := 223) (by decide +kernel), List.mem_of_getElem? (i := 224) (by decide +kernel)⟩
theorem lw_p8 : lw_okq (⟨"QuorumLog$Net", "put", "(LQuorumLog$Message;)I"⟩, 2) := ⟨⟨by decide +kernel, by decide +kernel⟩, List.mem_of_getElem? (i := 104) (by decide +kernel), List.mem_of_getElem? (i := 227) (by decide +kernel), List.mem_of_getElem? (i := 228) (by decide +kernel)⟩
theorem lw_p9 : lw_okq (⟨"QuorumLog$Net", "isFree", "(I)Z"⟩, 2) := ⟨⟨by decide +kernel, by decide +kernel⟩, List.mem_of_getElem? (i := 104) (by decide +kernel), List.mem_of_getElem? (i := 231) (by decide +kernel), List.mem_of_getElem? (i := 232) (by decide +kernel)⟩
theorem lw_p10 : lw_okq (⟨"QuorumLog$Message", "copy", "(LQuorumLog$Message;)V"⟩, 12) := ⟨⟨by decide +kernel, by decide +kernel⟩, List.mem_of_getElem? (i := 111) (by decide +kernel), List.mem_of_getElem? (i := 235) (by decide +kernel), List.mem_of_getElem? (i := 236) (by decide +kernel)⟩
theorem lw_p11 : lw_okq (⟨"QuorumLog", "areTwoNodes", "(II)Z"⟩, 4) := ⟨⟨by decide +kernel, by decide +kernel⟩, List.mem_of_getElem? (i := 9) (by decide +kernel), List.mem_of_getElem? (i := 243) (by decide +kernel), List.mem_of_getElem? (i := 244) (by decide +kernel)⟩
theorem lw_p12 : lw_okq (⟨"QuorumLog", "sendSnapshot", "(LQuorumLog$Node;I)V"⟩, 4) := ⟨⟨by decide +kernel, by decide +kernel⟩, List.mem_of_getElem? (i := 9) (by decide +kernel), List.mem_of_getElem? (i := 247) (by decide +kernel), List.mem_of_getElem? (i := 248) (by decide +kernel)⟩
theorem lw_p13 : lw_okq (⟨"QuorumLog", "sendAppend", "(LQuorumLog$Node;I)V"⟩, 4) := ⟨⟨by decide +kernel, by decide +kernel⟩, List.mem_of_getElem? (i := 9) (by decide +kernel), List.mem_of_getElem? (i := 251) (by decide +kernel), List.mem_of_getElem? (i := 252) (by decide +kernel)⟩
theorem lw_p14 : lw_okq (⟨"QuorumLog$Log", "termOf", "(I)I"⟩, 6) := ⟨⟨by decide +kernel, by decide +kernel⟩, List.mem_of_getElem? (i := 33) (by decide +kernel), List.mem_of_getElem? (i := 255) (by decide +kernel), List.mem_of_getElem? (i := 256) (by decide +kernel)⟩
theorem lw_p15 : lw_okq (⟨"QuorumLog$Log", "hasEntry", "(I)Z"⟩, 6) := ⟨⟨by decide +kernel, by decide +kernel⟩, List.mem_of_getElem? (i := 33) (by decide +kernel), List.mem_of_getElem? (i := 259) (by decide +kernel), List.mem_of_getElem? (i := 260) (by decide +kernel)⟩
def lw_privs_1 : List (MethodName × Nat) := [(⟨"QuorumLog", "isNode", "(I)Z"⟩, 4), (⟨"QuorumLog$Net", "countFree", "()I"⟩, 2), (⟨"QuorumLog$Node", "stand", "()V"⟩, 10), (⟨"QuorumLog$Node", "enterTerm", "(I)V"⟩, 10), (⟨"QuorumLog", "sendAsk", "(LQuorumLog$Node;I)V"⟩, 4), (⟨"QuorumLog$Message", "begin", "(IIII)V"⟩, 12), (⟨"QuorumLog$Log", "lastNumber", "()I"⟩, 6), (⟨"QuorumLog$Log", "lastTerm", "()I"⟩, 6), (⟨"QuorumLog$Net", "put", "(LQuorumLog$Message;)I"⟩, 2), (⟨"QuorumLog$Net", "isFree", "(I)Z"⟩, 2), (⟨"QuorumLog$Message", "copy", "(LQuorumLog$Message;)V"⟩, 12), (⟨"QuorumLog", "areTwoNodes", "(II)Z"⟩, 4), (⟨"QuorumLog", "sendSnapshot", "(LQuorumLog$Node;I)V"⟩, 4), (⟨"QuorumLog", "sendAppend", "(LQuorumLog$Node;I)V"⟩, 4), (⟨"QuorumLog$Log", "termOf", "(I)I"⟩, 6), (⟨"QuorumLog$Log", "hasEntry", "(I)Z"⟩, 6)]
theorem lw_r1 : ∀ q ∈ lw_privs_1, lw_okq q := List.forall_mem_cons.mpr ⟨lw_p0, List.forall_mem_cons.mpr ⟨lw_p1, List.forall_mem_cons.mpr ⟨lw_p2, List.forall_mem_cons.mpr ⟨lw_p3, List.forall_mem_cons.mpr ⟨lw_p4, List.forall_mem_cons.mpr ⟨lw_p5, List.forall_mem_cons.mpr ⟨lw_p6, List.forall_mem_cons.mpr ⟨lw_p7, List.forall_mem_cons.mpr ⟨lw_p8, List.forall_mem_cons.mpr ⟨lw_p9, List.forall_mem_cons.mpr ⟨lw_p10, List.forall_mem_cons.mpr ⟨lw_p11, List.forall_mem_cons.mpr ⟨lw_p12, List.forall_mem_cons.mpr ⟨lw_p13, List.forall_mem_cons.mpr ⟨lw_p14, List.forall_mem_cons.mpr ⟨lw_p15, fun _ h => absurd h List.not_mem_nil⟩⟩⟩⟩⟩⟩⟩⟩⟩⟩⟩⟩⟩⟩⟩⟩
theorem lw_p16 : lw_okq (⟨"QuorumLog$Log", "commandOf", "(I)I"⟩, 6) := ⟨⟨by decide +kernel, by decide +kernel⟩, List.mem_of_getElem? (i := 33) (by decide +kernel), List.mem_of_getElem? (i := 264) (by decide +kernel), List.mem_of_getElem? (i := 265) (by decide +kernel)⟩
theorem lw_p17 : lw_okq (⟨"QuorumLog$Log", "isFull", "()Z"⟩, 6) := ⟨⟨by decide +kernel, by decide +kernel⟩, List.mem_of_getElem? (i := 33) (by decide +kernel), List.mem_of_getElem? (i := 272) (by decide +kernel), List.mem_of_getElem? (i := 273) (by decide +kernel)⟩
theorem lw_p18 : lw_okq (⟨"QuorumLog$Log", "add", "(II)V"⟩, 6) := ⟨⟨by decide +kernel, by decide +kernel⟩, List.mem_of_getElem? (i := 33) (by decide +kernel), List.mem_of_getElem? (i := 276) (by decide +kernel), List.mem_of_getElem? (i := 277) (by decide +kernel)⟩
theorem lw_p19 : lw_okq (⟨"QuorumLog$Log", "stateUpTo", "(I)I"⟩, 6) := ⟨⟨by decide +kernel, by decide +kernel⟩, List.mem_of_getElem? (i := 33) (by decide +kernel), List.mem_of_getElem? (i := 285) (by decide +kernel), List.mem_of_getElem? (i := 286) (by decide +kernel)⟩
theorem lw_p20 : lw_okq (⟨"QuorumLog$Log", "rebase", "(III)V"⟩, 6) := ⟨⟨by decide +kernel, by decide +kernel⟩, List.mem_of_getElem? (i := 33) (by decide +kernel), List.mem_of_getElem? (i := 289) (by decide +kernel), List.mem_of_getElem? (i := 290) (by decide +kernel)⟩
theorem lw_p21 : lw_okq (⟨"QuorumLog$Net", "isSlot", "(I)Z"⟩, 2) := ⟨⟨by decide +kernel, by decide +kernel⟩, List.mem_of_getElem? (i := 104) (by decide +kernel), List.mem_of_getElem? (i := 299) (by decide +kernel), List.mem_of_getElem? (i := 300) (by decide +kernel)⟩
theorem lw_p22 : lw_okq (⟨"QuorumLog$Net", "clear", "(I)V"⟩, 2) := ⟨⟨by decide +kernel, by decide +kernel⟩, List.mem_of_getElem? (i := 104) (by decide +kernel), List.mem_of_getElem? (i := 305) (by decide +kernel), List.mem_of_getElem? (i := 306) (by decide +kernel)⟩
theorem lw_p23 : lw_okq (⟨"QuorumLog", "receive", "(LQuorumLog$Node;LQuorumLog$Message;)V"⟩, 4) := ⟨⟨by decide +kernel, by decide +kernel⟩, List.mem_of_getElem? (i := 9) (by decide +kernel), List.mem_of_getElem? (i := 309) (by decide +kernel), List.mem_of_getElem? (i := 310) (by decide +kernel)⟩
theorem lw_p24 : lw_okq (⟨"QuorumLog", "receiveAsk", "(LQuorumLog$Node;LQuorumLog$Message;)V"⟩, 4) := ⟨⟨by decide +kernel, by decide +kernel⟩, List.mem_of_getElem? (i := 9) (by decide +kernel), List.mem_of_getElem? (i := 314) (by decide +kernel), List.mem_of_getElem? (i := 315) (by decide +kernel)⟩
theorem lw_p25 : lw_okq (⟨"QuorumLog$Log", "isNotAheadOf", "(II)Z"⟩, 6) := ⟨⟨by decide +kernel, by decide +kernel⟩, List.mem_of_getElem? (i := 33) (by decide +kernel), List.mem_of_getElem? (i := 318) (by decide +kernel), List.mem_of_getElem? (i := 319) (by decide +kernel)⟩
theorem lw_p26 : lw_okq (⟨"QuorumLog", "sendVote", "(LQuorumLog$Node;IZ)V"⟩, 4) := ⟨⟨by decide +kernel, by decide +kernel⟩, List.mem_of_getElem? (i := 9) (by decide +kernel), List.mem_of_getElem? (i := 324) (by decide +kernel), List.mem_of_getElem? (i := 325) (by decide +kernel)⟩
theorem lw_p27 : lw_okq (⟨"QuorumLog", "receiveVote", "(LQuorumLog$Node;LQuorumLog$Message;)V"⟩, 4) := ⟨⟨by decide +kernel, by decide +kernel⟩, List.mem_of_getElem? (i := 9) (by decide +kernel), List.mem_of_getElem? (i := 328) (by decide +kernel), List.mem_of_getElem? (i := 329) (by decide +kernel)⟩
theorem lw_p28 : lw_okq (⟨"QuorumLog$Node", "countVoters", "()I"⟩, 10) := ⟨⟨by decide +kernel, by decide +kernel⟩, List.mem_of_getElem? (i := 27) (by decide +kernel), List.mem_of_getElem? (i := 332) (by decide +kernel), List.mem_of_getElem? (i := 333) (by decide +kernel)⟩
theorem lw_p29 : lw_okq (⟨"QuorumLog", "isMajority", "(I)Z"⟩, 4) := ⟨⟨by decide +kernel, by decide +kernel⟩, List.mem_of_getElem? (i := 9) (by decide +kernel), List.mem_of_getElem? (i := 336) (by decide +kernel), List.mem_of_getElem? (i := 337) (by decide +kernel)⟩
theorem lw_p30 : lw_okq (⟨"QuorumLog$Node", "lead", "()V"⟩, 10) := ⟨⟨by decide +kernel, by decide +kernel⟩, List.mem_of_getElem? (i := 27) (by decide +kernel), List.mem_of_getElem? (i := 340) (by decide +kernel), List.mem_of_getElem? (i := 341) (by decide +kernel)⟩
theorem lw_p31 : lw_okq (⟨"QuorumLog", "receiveAppend", "(LQuorumLog$Node;LQuorumLog$Message;)V"⟩, 4) := ⟨⟨by decide +kernel, by decide +kernel⟩, List.mem_of_getElem? (i := 9) (by decide +kernel), List.mem_of_getElem? (i := 345) (by decide +kernel), List.mem_of_getElem? (i := 346) (by decide +kernel)⟩
def lw_privs_2 : List (MethodName × Nat) := [(⟨"QuorumLog$Log", "commandOf", "(I)I"⟩, 6), (⟨"QuorumLog$Log", "isFull", "()Z"⟩, 6), (⟨"QuorumLog$Log", "add", "(II)V"⟩, 6), (⟨"QuorumLog$Log", "stateUpTo", "(I)I"⟩, 6), (⟨"QuorumLog$Log", "rebase", "(III)V"⟩, 6), (⟨"QuorumLog$Net", "isSlot", "(I)Z"⟩, 2), (⟨"QuorumLog$Net", "clear", "(I)V"⟩, 2), (⟨"QuorumLog", "receive", "(LQuorumLog$Node;LQuorumLog$Message;)V"⟩, 4), (⟨"QuorumLog", "receiveAsk", "(LQuorumLog$Node;LQuorumLog$Message;)V"⟩, 4), (⟨"QuorumLog$Log", "isNotAheadOf", "(II)Z"⟩, 6), (⟨"QuorumLog", "sendVote", "(LQuorumLog$Node;IZ)V"⟩, 4), (⟨"QuorumLog", "receiveVote", "(LQuorumLog$Node;LQuorumLog$Message;)V"⟩, 4), (⟨"QuorumLog$Node", "countVoters", "()I"⟩, 10), (⟨"QuorumLog", "isMajority", "(I)Z"⟩, 4), (⟨"QuorumLog$Node", "lead", "()V"⟩, 10), (⟨"QuorumLog", "receiveAppend", "(LQuorumLog$Node;LQuorumLog$Message;)V"⟩, 4)]
theorem lw_r2 : ∀ q ∈ lw_privs_2, lw_okq q := List.forall_mem_cons.mpr ⟨lw_p16, List.forall_mem_cons.mpr ⟨lw_p17, List.forall_mem_cons.mpr ⟨lw_p18, List.forall_mem_cons.mpr ⟨lw_p19, List.forall_mem_cons.mpr ⟨lw_p20, List.forall_mem_cons.mpr ⟨lw_p21, List.forall_mem_cons.mpr ⟨lw_p22, List.forall_mem_cons.mpr ⟨lw_p23, List.forall_mem_cons.mpr ⟨lw_p24, List.forall_mem_cons.mpr ⟨lw_p25, List.forall_mem_cons.mpr ⟨lw_p26, List.forall_mem_cons.mpr ⟨lw_p27, List.forall_mem_cons.mpr ⟨lw_p28, List.forall_mem_cons.mpr ⟨lw_p29, List.forall_mem_cons.mpr ⟨lw_p30, List.forall_mem_cons.mpr ⟨lw_p31, fun _ h => absurd h List.not_mem_nil⟩⟩⟩⟩⟩⟩⟩⟩⟩⟩⟩⟩⟩⟩⟩⟩
theorem lw_p32 : lw_okq (⟨"QuorumLog", "sendAppended", "(LQuorumLog$Node;IZI)V"⟩, 4) := ⟨⟨by decide +kernel, by decide +kernel⟩, List.mem_of_getElem? (i := 9) (by decide +kernel), List.mem_of_getElem? (i := 349) (by decide +kernel), List.mem_of_getElem? (i := 350) (by decide +kernel)⟩
theorem lw_p33 : lw_okq (⟨"QuorumLog$Node", "takeEntry", "(III)V"⟩, 10) := ⟨⟨by decide +kernel, by decide +kernel⟩, List.mem_of_getElem? (i := 27) (by decide +kernel), List.mem_of_getElem? (i := 353) (by decide +kernel), List.mem_of_getElem? (i := 354) (by decide +kernel)⟩
theorem lw_p34 : lw_okq (⟨"QuorumLog$Log", "cutFrom", "(I)V"⟩, 6) := ⟨⟨by decide +kernel, by decide +kernel⟩, List.mem_of_getElem? (i := 33) (by decide +kernel), List.mem_of_getElem? (i := 359) (by decide +kernel), List.mem_of_getElem? (i := 360) (by decide +kernel)⟩
theorem lw_p35 : lw_okq (⟨"QuorumLog", "receiveAppended", "(LQuorumLog$Node;LQuorumLog$Message;)V"⟩, 4) := ⟨⟨by decide +kernel, by decide +kernel⟩, List.mem_of_getElem? (i := 9) (by decide +kernel), List.mem_of_getElem? (i := 365) (by decide +kernel), List.mem_of_getElem? (i := 366) (by decide +kernel)⟩
theorem lw_p36 : lw_okq (⟨"QuorumLog", "advanceCommit", "(LQuorumLog$Node;)V"⟩, 4) := ⟨⟨by decide +kernel, by decide +kernel⟩, List.mem_of_getElem? (i := 9) (by decide +kernel), List.mem_of_getElem? (i := 369) (by decide +kernel), List.mem_of_getElem? (i := 370) (by decide +kernel)⟩
theorem lw_p37 : lw_okq (⟨"QuorumLog$Node", "countHolders", "(I)I"⟩, 10) := ⟨⟨by decide +kernel, by decide +kernel⟩, List.mem_of_getElem? (i := 27) (by decide +kernel), List.mem_of_getElem? (i := 373) (by decide +kernel), List.mem_of_getElem? (i := 374) (by decide +kernel)⟩
theorem lw_p38 : lw_okq (⟨"QuorumLog", "receiveSnapshot", "(LQuorumLog$Node;LQuorumLog$Message;)V"⟩, 4) := ⟨⟨by decide +kernel, by decide +kernel⟩, List.mem_of_getElem? (i := 9) (by decide +kernel), List.mem_of_getElem? (i := 377) (by decide +kernel), List.mem_of_getElem? (i := 378) (by decide +kernel)⟩
theorem lw_p39 : lw_okq (⟨"QuorumLogModel", "isNode", "(I)Z"⟩, 27) := ⟨⟨by decide +kernel, by decide +kernel⟩, List.mem_of_getElem? (i := 450) (by decide +kernel), List.mem_of_getElem? (i := 545) (by decide +kernel), List.mem_of_getElem? (i := 546) (by decide +kernel)⟩
theorem lw_p40 : lw_okq (⟨"QuorumLogModel", "waiting", "()I"⟩, 27) := ⟨⟨by decide +kernel, by decide +kernel⟩, List.mem_of_getElem? (i := 450) (by decide +kernel), List.mem_of_getElem? (i := 549) (by decide +kernel), List.mem_of_getElem? (i := 550) (by decide +kernel)⟩
theorem lw_p41 : lw_okq (⟨"QuorumLogModel", "send", "(III)I"⟩, 27) := ⟨⟨by decide +kernel, by decide +kernel⟩, List.mem_of_getElem? (i := 450) (by decide +kernel), List.mem_of_getElem? (i := 553) (by decide +kernel), List.mem_of_getElem? (i := 554) (by decide +kernel)⟩
theorem lw_p42 : lw_okq (⟨"QuorumLogModel", "freeSlot", "()I"⟩, 27) := ⟨⟨by decide +kernel, by decide +kernel⟩, List.mem_of_getElem? (i := 450) (by decide +kernel), List.mem_of_getElem? (i := 557) (by decide +kernel), List.mem_of_getElem? (i := 558) (by decide +kernel)⟩
theorem lw_p43 : lw_okq (⟨"QuorumLogModel", "lastOf", "(I)I"⟩, 27) := ⟨⟨by decide +kernel, by decide +kernel⟩, List.mem_of_getElem? (i := 450) (by decide +kernel), List.mem_of_getElem? (i := 561) (by decide +kernel), List.mem_of_getElem? (i := 562) (by decide +kernel)⟩
theorem lw_p44 : lw_okq (⟨"QuorumLogModel", "termOf", "(II)I"⟩, 27) := ⟨⟨by decide +kernel, by decide +kernel⟩, List.mem_of_getElem? (i := 450) (by decide +kernel), List.mem_of_getElem? (i := 565) (by decide +kernel), List.mem_of_getElem? (i := 566) (by decide +kernel)⟩
theorem lw_p45 : lw_okq (⟨"QuorumLogModel", "hasEntry", "(II)Z"⟩, 27) := ⟨⟨by decide +kernel, by decide +kernel⟩, List.mem_of_getElem? (i := 450) (by decide +kernel), List.mem_of_getElem? (i := 569) (by decide +kernel), List.mem_of_getElem? (i := 570) (by decide +kernel)⟩
theorem lw_p46 : lw_okq (⟨"QuorumLogModel", "place", "(II)I"⟩, 27) := ⟨⟨by decide +kernel, by decide +kernel⟩, List.mem_of_getElem? (i := 450) (by decide +kernel), List.mem_of_getElem? (i := 573) (by decide +kernel), List.mem_of_getElem? (i := 574) (by decide +kernel)⟩
theorem lw_p47 : lw_okq (⟨"QuorumLogModel", "addEntry", "(III)V"⟩, 27) := ⟨⟨by decide +kernel, by decide +kernel⟩, List.mem_of_getElem? (i := 450) (by decide +kernel), List.mem_of_getElem? (i := 585) (by decide +kernel), List.mem_of_getElem? (i := 586) (by decide +kernel)⟩
def lw_privs_3 : List (MethodName × Nat) := [(⟨"QuorumLog", "sendAppended", "(LQuorumLog$Node;IZI)V"⟩, 4), (⟨"QuorumLog$Node", "takeEntry", "(III)V"⟩, 10), (⟨"QuorumLog$Log", "cutFrom", "(I)V"⟩, 6), (⟨"QuorumLog", "receiveAppended", "(LQuorumLog$Node;LQuorumLog$Message;)V"⟩, 4), (⟨"QuorumLog", "advanceCommit", "(LQuorumLog$Node;)V"⟩, 4), (⟨"QuorumLog$Node", "countHolders", "(I)I"⟩, 10), (⟨"QuorumLog", "receiveSnapshot", "(LQuorumLog$Node;LQuorumLog$Message;)V"⟩, 4), (⟨"QuorumLogModel", "isNode", "(I)Z"⟩, 27), (⟨"QuorumLogModel", "waiting", "()I"⟩, 27), (⟨"QuorumLogModel", "send", "(III)I"⟩, 27), (⟨"QuorumLogModel", "freeSlot", "()I"⟩, 27), (⟨"QuorumLogModel", "lastOf", "(I)I"⟩, 27), (⟨"QuorumLogModel", "termOf", "(II)I"⟩, 27), (⟨"QuorumLogModel", "hasEntry", "(II)Z"⟩, 27), (⟨"QuorumLogModel", "place", "(II)I"⟩, 27), (⟨"QuorumLogModel", "addEntry", "(III)V"⟩, 27)]
theorem lw_r3 : ∀ q ∈ lw_privs_3, lw_okq q := List.forall_mem_cons.mpr ⟨lw_p32, List.forall_mem_cons.mpr ⟨lw_p33, List.forall_mem_cons.mpr ⟨lw_p34, List.forall_mem_cons.mpr ⟨lw_p35, List.forall_mem_cons.mpr ⟨lw_p36, List.forall_mem_cons.mpr ⟨lw_p37, List.forall_mem_cons.mpr ⟨lw_p38, List.forall_mem_cons.mpr ⟨lw_p39, List.forall_mem_cons.mpr ⟨lw_p40, List.forall_mem_cons.mpr ⟨lw_p41, List.forall_mem_cons.mpr ⟨lw_p42, List.forall_mem_cons.mpr ⟨lw_p43, List.forall_mem_cons.mpr ⟨lw_p44, List.forall_mem_cons.mpr ⟨lw_p45, List.forall_mem_cons.mpr ⟨lw_p46, List.forall_mem_cons.mpr ⟨lw_p47, fun _ h => absurd h List.not_mem_nil⟩⟩⟩⟩⟩⟩⟩⟩⟩⟩⟩⟩⟩⟩⟩⟩
theorem lw_p48 : lw_okq (⟨"QuorumLogModel", "stateTo", "(II)I"⟩, 27) := ⟨⟨by decide +kernel, by decide +kernel⟩, List.mem_of_getElem? (i := 450) (by decide +kernel), List.mem_of_getElem? (i := 593) (by decide +kernel), List.mem_of_getElem? (i := 594) (by decide +kernel)⟩
theorem lw_p49 : lw_okq (⟨"QuorumLogModel", "cutFront", "(II)V"⟩, 27) := ⟨⟨by decide +kernel, by decide +kernel⟩, List.mem_of_getElem? (i := 450) (by decide +kernel), List.mem_of_getElem? (i := 597) (by decide +kernel), List.mem_of_getElem? (i := 598) (by decide +kernel)⟩
theorem lw_p50 : lw_okq (⟨"QuorumLogModel", "isSlot", "(I)Z"⟩, 27) := ⟨⟨by decide +kernel, by decide +kernel⟩, List.mem_of_getElem? (i := 450) (by decide +kernel), List.mem_of_getElem? (i := 605) (by decide +kernel), List.mem_of_getElem? (i := 606) (by decide +kernel)⟩
theorem lw_p51 : lw_okq (⟨"QuorumLogModel", "act", "(IIII)V"⟩, 27) := ⟨⟨by decide +kernel, by decide +kernel⟩, List.mem_of_getElem? (i := 450) (by decide +kernel), List.mem_of_getElem? (i := 609) (by decide +kernel), List.mem_of_getElem? (i := 610) (by decide +kernel)⟩
theorem lw_p52 : lw_okq (⟨"QuorumLogModel", "asked", "(III)V"⟩, 27) := ⟨⟨by decide +kernel, by decide +kernel⟩, List.mem_of_getElem? (i := 450) (by decide +kernel), List.mem_of_getElem? (i := 613) (by decide +kernel), List.mem_of_getElem? (i := 614) (by decide +kernel)⟩
theorem lw_p53 : lw_okq (⟨"QuorumLogModel", "answer", "(IIIZI)V"⟩, 27) := ⟨⟨by decide +kernel, by decide +kernel⟩, List.mem_of_getElem? (i := 450) (by decide +kernel), List.mem_of_getElem? (i := 617) (by decide +kernel), List.mem_of_getElem? (i := 618) (by decide +kernel)⟩
theorem lw_p54 : lw_okq (⟨"QuorumLogModel", "voted", "(III)V"⟩, 27) := ⟨⟨by decide +kernel, by decide +kernel⟩, List.mem_of_getElem? (i := 450) (by decide +kernel), List.mem_of_getElem? (i := 621) (by decide +kernel), List.mem_of_getElem? (i := 622) (by decide +kernel)⟩
theorem lw_p55 : lw_okq (⟨"QuorumLogModel", "append", "(III)V"⟩, 27) := ⟨⟨by decide +kernel, by decide +kernel⟩, List.mem_of_getElem? (i := 450) (by decide +kernel), List.mem_of_getElem? (i := 628) (by decide +kernel), List.mem_of_getElem? (i := 629) (by decide +kernel)⟩
theorem lw_p56 : lw_okq (⟨"QuorumLogModel", "takeEntry", "(IIII)I"⟩, 27) := ⟨⟨by decide +kernel, by decide +kernel⟩, List.mem_of_getElem? (i := 450) (by decide +kernel), List.mem_of_getElem? (i := 632) (by decide +kernel), List.mem_of_getElem? (i := 633) (by decide +kernel)⟩
theorem lw_p57 : lw_okq (⟨"QuorumLogModel", "appended", "(III)V"⟩, 27) := ⟨⟨by decide +kernel, by decide +kernel⟩, List.mem_of_getElem? (i := 450) (by decide +kernel), List.mem_of_getElem? (i := 636) (by decide +kernel), List.mem_of_getElem? (i := 637) (by decide +kernel)⟩
theorem lw_p58 : lw_okq (⟨"QuorumLogModel", "count", "(I)V"⟩, 27) := ⟨⟨by decide +kernel, by decide +kernel⟩, List.mem_of_getElem? (i := 450) (by decide +kernel), List.mem_of_getElem? (i := 640) (by decide +kernel), List.mem_of_getElem? (i := 641) (by decide +kernel)⟩
theorem lw_p59 : lw_okq (⟨"QuorumLogModel", "snapshot", "(III)V"⟩, 27) := ⟨⟨by decide +kernel, by decide +kernel⟩, List.mem_of_getElem? (i := 450) (by decide +kernel), List.mem_of_getElem? (i := 644) (by decide +kernel), List.mem_of_getElem? (i := 645) (by decide +kernel)⟩
def lw_privs_4 : List (MethodName × Nat) := [(⟨"QuorumLogModel", "stateTo", "(II)I"⟩, 27), (⟨"QuorumLogModel", "cutFront", "(II)V"⟩, 27), (⟨"QuorumLogModel", "isSlot", "(I)Z"⟩, 27), (⟨"QuorumLogModel", "act", "(IIII)V"⟩, 27), (⟨"QuorumLogModel", "asked", "(III)V"⟩, 27), (⟨"QuorumLogModel", "answer", "(IIIZI)V"⟩, 27), (⟨"QuorumLogModel", "voted", "(III)V"⟩, 27), (⟨"QuorumLogModel", "append", "(III)V"⟩, 27), (⟨"QuorumLogModel", "takeEntry", "(IIII)I"⟩, 27), (⟨"QuorumLogModel", "appended", "(III)V"⟩, 27), (⟨"QuorumLogModel", "count", "(I)V"⟩, 27), (⟨"QuorumLogModel", "snapshot", "(III)V"⟩, 27)]
theorem lw_r4 : ∀ q ∈ lw_privs_4, lw_okq q := List.forall_mem_cons.mpr ⟨lw_p48, List.forall_mem_cons.mpr ⟨lw_p49, List.forall_mem_cons.mpr ⟨lw_p50, List.forall_mem_cons.mpr ⟨lw_p51, List.forall_mem_cons.mpr ⟨lw_p52, List.forall_mem_cons.mpr ⟨lw_p53, List.forall_mem_cons.mpr ⟨lw_p54, List.forall_mem_cons.mpr ⟨lw_p55, List.forall_mem_cons.mpr ⟨lw_p56, List.forall_mem_cons.mpr ⟨lw_p57, List.forall_mem_cons.mpr ⟨lw_p58, List.forall_mem_cons.mpr ⟨lw_p59, fun _ h => absurd h List.not_mem_nil⟩⟩⟩⟩⟩⟩⟩⟩⟩⟩⟩⟩
def lw_privs : List (MethodName × Nat) := lw_privs_1 ++ (lw_privs_2 ++ (lw_privs_3 ++ (lw_privs_4)))
def lw_tbl : List Cond := k2_sels lw_privs ++ tables_1
theorem lw_privs_ok : ∀ q ∈ lw_privs, lw_okq q := by
  show ∀ q ∈ lw_privs_1 ++ (lw_privs_2 ++ (lw_privs_3 ++ (lw_privs_4))), lw_okq q
  exact List.forall_mem_append.mpr ⟨lw_r1, List.forall_mem_append.mpr ⟨lw_r2, List.forall_mem_append.mpr ⟨lw_r3, lw_r4⟩⟩⟩
end
section
def RX0 : String := "QuorumLog$Log"
def TX0 : u_T := fun k => match k with
  | 0 => ("QuorumLog$Log", "base", "I", false)
  | 1 => ("QuorumLog$Log", "baseTerm", "I", false)
  | 2 => ("QuorumLog$Log", "baseState", "I", false)
  | 3 => ("QuorumLog$Log", "count", "I", false)
  | 4 => ("QuorumLog$Log", "terms", "[I", true)
  | _ => ("QuorumLog$Log", "commands", "[I", true)
def tyX0 : Nat → FieldType := fun k => match k with
  | 0 => .int
  | 1 => .int
  | 2 => .int
  | 3 => .int
  | 4 => .array .int
  | _ => .array .int
abbrev wsX00 : List Cond := u_ws RX0 TX0 6
theorem nmX0 : ∀ a, a < 6 → ∀ b, b < 6 → a ≠ b → (TX0 a).2.1 ≠ (TX0 b).2.1 := by decide +kernel
theorem tyX0_ok : ∀ k, k < 6 → parseFieldDescriptor (TX0 k).2.2.1 = some (tyX0 k) := by decide +kernel
def RX1 : String := "QuorumLog$Message"
def TX1 : u_T := fun k => match k with
  | 0 => ("QuorumLog$Message", "kind", "I", false)
  | 1 => ("QuorumLog$Message", "from", "I", false)
  | 2 => ("QuorumLog$Message", "to", "I", false)
  | 3 => ("QuorumLog$Message", "term", "I", false)
  | 4 => ("QuorumLog$Message", "number", "I", false)
  | 5 => ("QuorumLog$Message", "numberTerm", "I", false)
  | 6 => ("QuorumLog$Message", "yes", "Z", false)
  | 7 => ("QuorumLog$Message", "hasEntry", "Z", false)
  | 8 => ("QuorumLog$Message", "entryTerm", "I", false)
  | 9 => ("QuorumLog$Message", "entryCommand", "I", false)
  | 10 => ("QuorumLog$Message", "commit", "I", false)
  | _ => ("QuorumLog$Message", "state", "I", false)
def tyX1 : Nat → FieldType := fun k => match k with
  | 0 => .int
  | 1 => .int
  | 2 => .int
  | 3 => .int
  | 4 => .int
  | 5 => .int
  | 6 => .boolean
  | 7 => .boolean
  | 8 => .int
  | 9 => .int
  | 10 => .int
  | _ => .int
abbrev wsX10 : List Cond := u_ws RX1 TX1 12
theorem nmX1 : ∀ a, a < 12 → ∀ b, b < 12 → a ≠ b → (TX1 a).2.1 ≠ (TX1 b).2.1 := by decide +kernel
theorem tyX1_ok : ∀ k, k < 12 → parseFieldDescriptor (TX1 k).2.2.1 = some (tyX1 k) := by decide +kernel
def RX2 : String := "QuorumLog$Net"
def TX2 : u_T := fun k => match k with
  | 0 => ("QuorumLog$Net", "messages", "[LQuorumLog$Message;", true)
  | _ => ("QuorumLog$Net", "waiting", "I", false)
def tyX2 : Nat → FieldType := fun k => match k with
  | 0 => .array (.object "QuorumLog$Message")
  | _ => .int
abbrev wsX20 : List Cond := u_ws RX2 TX2 2
theorem nmX2 : ∀ a, a < 2 → ∀ b, b < 2 → a ≠ b → (TX2 a).2.1 ≠ (TX2 b).2.1 := by decide +kernel
theorem tyX2_ok : ∀ k, k < 2 → parseFieldDescriptor (TX2 k).2.2.1 = some (tyX2 k) := by decide +kernel
def RX3 : String := "QuorumLog$Node"
def TX3 : u_T := fun k => match k with
  | 0 => ("QuorumLog$Node", "self", "I", true)
  | 1 => ("QuorumLog$Node", "up", "Z", false)
  | 2 => ("QuorumLog$Node", "role", "I", false)
  | 3 => ("QuorumLog$Node", "term", "I", false)
  | 4 => ("QuorumLog$Node", "vote", "I", false)
  | 5 => ("QuorumLog$Node", "commit", "I", false)
  | 6 => ("QuorumLog$Node", "log", "LQuorumLog$Log;", true)
  | 7 => ("QuorumLog$Node", "voters", "[Z", true)
  | 8 => ("QuorumLog$Node", "next", "[I", true)
  | _ => ("QuorumLog$Node", "match", "[I", true)
def tyX3 : Nat → FieldType := fun k => match k with
  | 0 => .int
  | 1 => .boolean
  | 2 => .int
  | 3 => .int
  | 4 => .int
  | 5 => .int
  | 6 => .object "QuorumLog$Log"
  | 7 => .array .boolean
  | 8 => .array .int
  | _ => .array .int
abbrev wsX30 : List Cond := u_ws RX3 TX3 10
theorem nmX3 : ∀ a, a < 10 → ∀ b, b < 10 → a ≠ b → (TX3 a).2.1 ≠ (TX3 b).2.1 := by decide +kernel
theorem tyX3_ok : ∀ k, k < 10 → parseFieldDescriptor (TX3 k).2.2.1 = some (tyX3 k) := by decide +kernel
def RX4 : String := "QuorumLog"
def TX4 : u_T := fun k => match k with
  | 0 => ("QuorumLog", "nodes", "[LQuorumLog$Node;", true)
  | 1 => ("QuorumLog", "net", "LQuorumLog$Net;", true)
  | 2 => ("QuorumLog", "draft", "LQuorumLog$Message;", true)
  | _ => ("QuorumLog", "arrived", "LQuorumLog$Message;", true)
def tyX4 : Nat → FieldType := fun k => match k with
  | 0 => .array (.object "QuorumLog$Node")
  | 1 => .object "QuorumLog$Net"
  | 2 => .object "QuorumLog$Message"
  | _ => .object "QuorumLog$Message"
abbrev wsX40 : List Cond := u_ws RX4 TX4 4
theorem nmX4 : ∀ a, a < 4 → ∀ b, b < 4 → a ≠ b → (TX4 a).2.1 ≠ (TX4 b).2.1 := by decide +kernel
theorem tyX4_ok : ∀ k, k < 4 → parseFieldDescriptor (TX4 k).2.2.1 = some (tyX4 k) := by decide +kernel
def RX5 : String := "QuorumLogModel"
def TX5 : u_T := fun k => match k with
  | 0 => ("QuorumLogModel", "n", "I", true)
  | 1 => ("QuorumLogModel", "cap", "I", true)
  | 2 => ("QuorumLogModel", "slots", "I", true)
  | 3 => ("QuorumLogModel", "up", "[Z", true)
  | 4 => ("QuorumLogModel", "role", "[I", true)
  | 5 => ("QuorumLogModel", "term", "[I", true)
  | 6 => ("QuorumLogModel", "vote", "[I", true)
  | 7 => ("QuorumLogModel", "base", "[I", true)
  | 8 => ("QuorumLogModel", "baseTerm", "[I", true)
  | 9 => ("QuorumLogModel", "baseState", "[I", true)
  | 10 => ("QuorumLogModel", "commit", "[I", true)
  | 11 => ("QuorumLogModel", "voters", "[I", true)
  | 12 => ("QuorumLogModel", "entries", "[I", true)
  | 13 => ("QuorumLogModel", "entryTerm", "[I", true)
  | 14 => ("QuorumLogModel", "entryCommand", "[I", true)
  | 15 => ("QuorumLogModel", "next", "[I", true)
  | 16 => ("QuorumLogModel", "match", "[I", true)
  | 17 => ("QuorumLogModel", "kind", "[I", true)
  | 18 => ("QuorumLogModel", "from", "[I", true)
  | 19 => ("QuorumLogModel", "to", "[I", true)
  | 20 => ("QuorumLogModel", "borne", "[I", true)
  | 21 => ("QuorumLogModel", "number", "[I", true)
  | 22 => ("QuorumLogModel", "at", "[I", true)
  | 23 => ("QuorumLogModel", "yes", "[Z", true)
  | 24 => ("QuorumLogModel", "withTerm", "[I", true)
  | 25 => ("QuorumLogModel", "command", "[I", true)
  | _ => ("QuorumLogModel", "known", "[I", true)
def tyX5 : Nat → FieldType := fun k => match k with
  | 0 => .int
  | 1 => .int
  | 2 => .int
  | 3 => .array .boolean
  | 4 => .array .int
  | 5 => .array .int
  | 6 => .array .int
  | 7 => .array .int
  | 8 => .array .int
  | 9 => .array .int
  | 10 => .array .int
  | 11 => .array .int
  | 12 => .array .int
  | 13 => .array .int
  | 14 => .array .int
  | 15 => .array .int
  | 16 => .array .int
  | 17 => .array .int
  | 18 => .array .int
  | 19 => .array .int
  | 20 => .array .int
  | 21 => .array .int
  | 22 => .array .int
  | 23 => .array .boolean
  | 24 => .array .int
  | 25 => .array .int
  | _ => .array .int
abbrev wsX50 : List Cond := u_ws RX5 TX5 27
theorem nmX5 : ∀ a, a < 27 → ∀ b, b < 27 → a ≠ b → (TX5 a).2.1 ≠ (TX5 b).2.1 := by decide +kernel
theorem tyX5_ok : ∀ k, k < 27 → parseFieldDescriptor (TX5 k).2.2.1 = some (tyX5 k) := by decide +kernel
def RL : String := "QuorumLogLaw"
abbrev vwCl : List vw_C := [(RX0, TX0, 6), (RX1, TX1, 12), (RX2, TX2, 2), (RX3, TX3, 10), (RX4, TX4, 4), (RX5, TX5, 27)]
abbrev cX4_init : ByteArray := prog_1_method_1_code
def yX4_init : MethodName := ⟨RX4, "<init>", "(III)V"⟩
abbrev cX4_timeout : ByteArray := prog_1_method_2_code
def yX4_timeout : MethodName := ⟨RX4, "timeout", "(I)I"⟩
abbrev cX4_heartbeat : ByteArray := prog_1_method_3_code
def yX4_heartbeat : MethodName := ⟨RX4, "heartbeat", "(II)I"⟩
abbrev cX4_propose : ByteArray := prog_1_method_4_code
def yX4_propose : MethodName := ⟨RX4, "propose", "(II)I"⟩
abbrev cX4_compact : ByteArray := prog_1_method_5_code
def yX4_compact : MethodName := ⟨RX4, "compact", "(I)I"⟩
abbrev cX4_deliver : ByteArray := prog_1_method_6_code
def yX4_deliver : MethodName := ⟨RX4, "deliver", "(I)I"⟩
abbrev cX4_drop : ByteArray := prog_1_method_7_code
def yX4_drop : MethodName := ⟨RX4, "drop", "(I)I"⟩
abbrev cX4_duplicate : ByteArray := prog_1_method_8_code
def yX4_duplicate : MethodName := ⟨RX4, "duplicate", "(I)I"⟩
abbrev cX4_crash : ByteArray := prog_1_method_9_code
def yX4_crash : MethodName := ⟨RX4, "crash", "(I)I"⟩
abbrev cX4_restart : ByteArray := prog_1_method_10_code
def yX4_restart : MethodName := ⟨RX4, "restart", "(I)I"⟩
abbrev cX4_role : ByteArray := prog_1_method_11_code
def yX4_role : MethodName := ⟨RX4, "role", "(I)I"⟩
abbrev cX4_term : ByteArray := prog_1_method_12_code
def yX4_term : MethodName := ⟨RX4, "term", "(I)I"⟩
abbrev cX4_vote : ByteArray := prog_1_method_13_code
def yX4_vote : MethodName := ⟨RX4, "vote", "(I)I"⟩
abbrev cX4_base : ByteArray := prog_1_method_14_code
def yX4_base : MethodName := ⟨RX4, "base", "(I)I"⟩
abbrev cX4_last : ByteArray := prog_1_method_15_code
def yX4_last : MethodName := ⟨RX4, "last", "(I)I"⟩
abbrev cX4_commit : ByteArray := prog_1_method_16_code
def yX4_commit : MethodName := ⟨RX4, "commit", "(I)I"⟩
abbrev cX4_termAt : ByteArray := prog_1_method_17_code
def yX4_termAt : MethodName := ⟨RX4, "termAt", "(II)I"⟩
abbrev cX4_commandAt : ByteArray := prog_1_method_18_code
def yX4_commandAt : MethodName := ⟨RX4, "commandAt", "(II)I"⟩
abbrev cX4_state : ByteArray := prog_1_method_19_code
def yX4_state : MethodName := ⟨RX4, "state", "(I)I"⟩
abbrev cX4_peer : ByteArray := prog_1_method_20_code
def yX4_peer : MethodName := ⟨RX4, "peer", "(II)I"⟩
abbrev cX4_pending : ByteArray := prog_1_method_21_code
def yX4_pending : MethodName := ⟨RX4, "pending", "()I"⟩
abbrev cX4_slot : ByteArray := prog_1_method_22_code
def yX4_slot : MethodName := ⟨RX4, "slot", "(I)I"⟩
abbrev cX4_within : ByteArray := prog_1_method_23_code
def yX4_within : MethodName := ⟨RX4, "within", "(III)I"⟩
abbrev cX4_isNode : ByteArray := prog_1_method_24_code
def yX4_isNode : MethodName := ⟨RX4, "isNode", "(I)Z"⟩
abbrev cX4_areTwoNodes : ByteArray := prog_1_method_25_code
def yX4_areTwoNodes : MethodName := ⟨RX4, "areTwoNodes", "(II)Z"⟩
abbrev cX4_isMajority : ByteArray := prog_1_method_26_code
def yX4_isMajority : MethodName := ⟨RX4, "isMajority", "(I)Z"⟩
abbrev cX4_sendAsk : ByteArray := prog_1_method_27_code
def yX4_sendAsk : MethodName := ⟨RX4, "sendAsk", "(LQuorumLog$Node;I)V"⟩
abbrev cX4_sendVote : ByteArray := prog_1_method_28_code
def yX4_sendVote : MethodName := ⟨RX4, "sendVote", "(LQuorumLog$Node;IZ)V"⟩
abbrev cX4_sendAppend : ByteArray := prog_1_method_29_code
def yX4_sendAppend : MethodName := ⟨RX4, "sendAppend", "(LQuorumLog$Node;I)V"⟩
abbrev cX4_sendAppended : ByteArray := prog_1_method_30_code
def yX4_sendAppended : MethodName := ⟨RX4, "sendAppended", "(LQuorumLog$Node;IZI)V"⟩
abbrev cX4_sendSnapshot : ByteArray := prog_1_method_31_code
def yX4_sendSnapshot : MethodName := ⟨RX4, "sendSnapshot", "(LQuorumLog$Node;I)V"⟩
abbrev cX4_receive : ByteArray := prog_1_method_32_code
def yX4_receive : MethodName := ⟨RX4, "receive", "(LQuorumLog$Node;LQuorumLog$Message;)V"⟩
abbrev cX4_receiveAsk : ByteArray := prog_1_method_33_code
def yX4_receiveAsk : MethodName := ⟨RX4, "receiveAsk", "(LQuorumLog$Node;LQuorumLog$Message;)V"⟩
abbrev cX4_receiveVote : ByteArray := prog_1_method_34_code
def yX4_receiveVote : MethodName := ⟨RX4, "receiveVote", "(LQuorumLog$Node;LQuorumLog$Message;)V"⟩
abbrev cX4_receiveAppend : ByteArray := prog_1_method_35_code
def yX4_receiveAppend : MethodName := ⟨RX4, "receiveAppend", "(LQuorumLog$Node;LQuorumLog$Message;)V"⟩
abbrev cX4_receiveAppended : ByteArray := prog_1_method_36_code
def yX4_receiveAppended : MethodName := ⟨RX4, "receiveAppended", "(LQuorumLog$Node;LQuorumLog$Message;)V"⟩
abbrev cX4_receiveSnapshot : ByteArray := prog_1_method_37_code
def yX4_receiveSnapshot : MethodName := ⟨RX4, "receiveSnapshot", "(LQuorumLog$Node;LQuorumLog$Message;)V"⟩
abbrev cX4_advanceCommit : ByteArray := prog_1_method_38_code
def yX4_advanceCommit : MethodName := ⟨RX4, "advanceCommit", "(LQuorumLog$Node;)V"⟩
abbrev cX5_init : ByteArray := prog_7_method_1_code
def yX5_init : MethodName := ⟨RX5, "<init>", "(III)V"⟩
abbrev cX5_clamp : ByteArray := prog_7_method_2_code
def yX5_clamp : MethodName := ⟨RX5, "clamp", "(III)I"⟩
abbrev cX5_isNode : ByteArray := prog_7_method_3_code
def yX5_isNode : MethodName := ⟨RX5, "isNode", "(I)Z"⟩
abbrev cX5_lastOf : ByteArray := prog_7_method_4_code
def yX5_lastOf : MethodName := ⟨RX5, "lastOf", "(I)I"⟩
abbrev cX5_hasEntry : ByteArray := prog_7_method_5_code
def yX5_hasEntry : MethodName := ⟨RX5, "hasEntry", "(II)Z"⟩
abbrev cX5_place : ByteArray := prog_7_method_6_code
def yX5_place : MethodName := ⟨RX5, "place", "(II)I"⟩
abbrev cX5_termOf : ByteArray := prog_7_method_7_code
def yX5_termOf : MethodName := ⟨RX5, "termOf", "(II)I"⟩
abbrev cX5_stateTo : ByteArray := prog_7_method_8_code
def yX5_stateTo : MethodName := ⟨RX5, "stateTo", "(II)I"⟩
abbrev cX5_addEntry : ByteArray := prog_7_method_9_code
def yX5_addEntry : MethodName := ⟨RX5, "addEntry", "(III)V"⟩
abbrev cX5_cutFront : ByteArray := prog_7_method_10_code
def yX5_cutFront : MethodName := ⟨RX5, "cutFront", "(II)V"⟩
abbrev cX5_freeSlot : ByteArray := prog_7_method_11_code
def yX5_freeSlot : MethodName := ⟨RX5, "freeSlot", "()I"⟩
abbrev cX5_waiting : ByteArray := prog_7_method_12_code
def yX5_waiting : MethodName := ⟨RX5, "waiting", "()I"⟩
abbrev cX5_send : ByteArray := prog_7_method_13_code
def yX5_send : MethodName := ⟨RX5, "send", "(III)I"⟩
abbrev cX5_answer : ByteArray := prog_7_method_14_code
def yX5_answer : MethodName := ⟨RX5, "answer", "(IIIZI)V"⟩
abbrev cX5_timeout : ByteArray := prog_7_method_15_code
def yX5_timeout : MethodName := ⟨RX5, "timeout", "(I)I"⟩
abbrev cX5_heartbeat : ByteArray := prog_7_method_16_code
def yX5_heartbeat : MethodName := ⟨RX5, "heartbeat", "(II)I"⟩
abbrev cX5_propose : ByteArray := prog_7_method_17_code
def yX5_propose : MethodName := ⟨RX5, "propose", "(II)I"⟩
abbrev cX5_compact : ByteArray := prog_7_method_18_code
def yX5_compact : MethodName := ⟨RX5, "compact", "(I)I"⟩
abbrev cX5_isSlot : ByteArray := prog_7_method_19_code
def yX5_isSlot : MethodName := ⟨RX5, "isSlot", "(I)Z"⟩
abbrev cX5_deliver : ByteArray := prog_7_method_20_code
def yX5_deliver : MethodName := ⟨RX5, "deliver", "(I)I"⟩
abbrev cX5_act : ByteArray := prog_7_method_21_code
def yX5_act : MethodName := ⟨RX5, "act", "(IIII)V"⟩
abbrev cX5_asked : ByteArray := prog_7_method_22_code
def yX5_asked : MethodName := ⟨RX5, "asked", "(III)V"⟩
abbrev cX5_isMost : ByteArray := prog_7_method_23_code
def yX5_isMost : MethodName := ⟨RX5, "isMost", "(II)Z"⟩
abbrev cX5_voted : ByteArray := prog_7_method_24_code
def yX5_voted : MethodName := ⟨RX5, "voted", "(III)V"⟩
abbrev cX5_append : ByteArray := prog_7_method_25_code
def yX5_append : MethodName := ⟨RX5, "append", "(III)V"⟩
abbrev cX5_takeEntry : ByteArray := prog_7_method_26_code
def yX5_takeEntry : MethodName := ⟨RX5, "takeEntry", "(IIII)I"⟩
abbrev cX5_appended : ByteArray := prog_7_method_27_code
def yX5_appended : MethodName := ⟨RX5, "appended", "(III)V"⟩
abbrev cX5_count : ByteArray := prog_7_method_28_code
def yX5_count : MethodName := ⟨RX5, "count", "(I)V"⟩
abbrev cX5_snapshot : ByteArray := prog_7_method_29_code
def yX5_snapshot : MethodName := ⟨RX5, "snapshot", "(III)V"⟩
abbrev cX5_drop : ByteArray := prog_7_method_30_code
def yX5_drop : MethodName := ⟨RX5, "drop", "(I)I"⟩
abbrev cX5_duplicate : ByteArray := prog_7_method_31_code
def yX5_duplicate : MethodName := ⟨RX5, "duplicate", "(I)I"⟩
abbrev cX5_crash : ByteArray := prog_7_method_32_code
def yX5_crash : MethodName := ⟨RX5, "crash", "(I)I"⟩
abbrev cX5_restart : ByteArray := prog_7_method_33_code
def yX5_restart : MethodName := ⟨RX5, "restart", "(I)I"⟩
abbrev cX5_role : ByteArray := prog_7_method_34_code
def yX5_role : MethodName := ⟨RX5, "role", "(I)I"⟩
abbrev cX5_term : ByteArray := prog_7_method_35_code
def yX5_term : MethodName := ⟨RX5, "term", "(I)I"⟩
abbrev cX5_vote : ByteArray := prog_7_method_36_code
def yX5_vote : MethodName := ⟨RX5, "vote", "(I)I"⟩
abbrev cX5_base : ByteArray := prog_7_method_37_code
def yX5_base : MethodName := ⟨RX5, "base", "(I)I"⟩
abbrev cX5_last : ByteArray := prog_7_method_38_code
def yX5_last : MethodName := ⟨RX5, "last", "(I)I"⟩
abbrev cX5_commit : ByteArray := prog_7_method_39_code
def yX5_commit : MethodName := ⟨RX5, "commit", "(I)I"⟩
abbrev cX5_termAt : ByteArray := prog_7_method_40_code
def yX5_termAt : MethodName := ⟨RX5, "termAt", "(II)I"⟩
abbrev cX5_commandAt : ByteArray := prog_7_method_41_code
def yX5_commandAt : MethodName := ⟨RX5, "commandAt", "(II)I"⟩
abbrev cX5_state : ByteArray := prog_7_method_42_code
def yX5_state : MethodName := ⟨RX5, "state", "(I)I"⟩
abbrev cX5_peer : ByteArray := prog_7_method_43_code
def yX5_peer : MethodName := ⟨RX5, "peer", "(II)I"⟩
abbrev cX5_pending : ByteArray := prog_7_method_44_code
def yX5_pending : MethodName := ⟨RX5, "pending", "()I"⟩
abbrev cX5_slot : ByteArray := prog_7_method_45_code
def yX5_slot : MethodName := ⟨RX5, "slot", "(I)I"⟩
abbrev cX0_init : ByteArray := prog_2_method_1_code
def yX0_init : MethodName := ⟨RX0, "<init>", "(I)V"⟩
abbrev cX0_lastNumber : ByteArray := prog_2_method_2_code
def yX0_lastNumber : MethodName := ⟨RX0, "lastNumber", "()I"⟩
abbrev cX0_lastTerm : ByteArray := prog_2_method_3_code
def yX0_lastTerm : MethodName := ⟨RX0, "lastTerm", "()I"⟩
abbrev cX0_isFull : ByteArray := prog_2_method_4_code
def yX0_isFull : MethodName := ⟨RX0, "isFull", "()Z"⟩
abbrev cX0_hasEntry : ByteArray := prog_2_method_5_code
def yX0_hasEntry : MethodName := ⟨RX0, "hasEntry", "(I)Z"⟩
abbrev cX0_termOf : ByteArray := prog_2_method_6_code
def yX0_termOf : MethodName := ⟨RX0, "termOf", "(I)I"⟩
abbrev cX0_commandOf : ByteArray := prog_2_method_7_code
def yX0_commandOf : MethodName := ⟨RX0, "commandOf", "(I)I"⟩
abbrev cX0_stateUpTo : ByteArray := prog_2_method_8_code
def yX0_stateUpTo : MethodName := ⟨RX0, "stateUpTo", "(I)I"⟩
abbrev cX0_isNotAheadOf : ByteArray := prog_2_method_9_code
def yX0_isNotAheadOf : MethodName := ⟨RX0, "isNotAheadOf", "(II)Z"⟩
abbrev cX0_add : ByteArray := prog_2_method_10_code
def yX0_add : MethodName := ⟨RX0, "add", "(II)V"⟩
abbrev cX0_cutFrom : ByteArray := prog_2_method_11_code
def yX0_cutFrom : MethodName := ⟨RX0, "cutFrom", "(I)V"⟩
abbrev cX0_rebase : ByteArray := prog_2_method_12_code
def yX0_rebase : MethodName := ⟨RX0, "rebase", "(III)V"⟩
abbrev cX1_init : ByteArray := prog_3_method_1_code
def yX1_init : MethodName := ⟨RX1, "<init>", "()V"⟩
abbrev cX1_begin : ByteArray := prog_3_method_2_code
def yX1_begin : MethodName := ⟨RX1, "begin", "(IIII)V"⟩
abbrev cX1_copy : ByteArray := prog_3_method_3_code
def yX1_copy : MethodName := ⟨RX1, "copy", "(LQuorumLog$Message;)V"⟩
abbrev cX2_init : ByteArray := prog_4_method_1_code
def yX2_init : MethodName := ⟨RX2, "<init>", "(I)V"⟩
abbrev cX2_isSlot : ByteArray := prog_4_method_2_code
def yX2_isSlot : MethodName := ⟨RX2, "isSlot", "(I)Z"⟩
abbrev cX2_isFree : ByteArray := prog_4_method_3_code
def yX2_isFree : MethodName := ⟨RX2, "isFree", "(I)Z"⟩
abbrev cX2_countFree : ByteArray := prog_4_method_4_code
def yX2_countFree : MethodName := ⟨RX2, "countFree", "()I"⟩
abbrev cX2_put : ByteArray := prog_4_method_5_code
def yX2_put : MethodName := ⟨RX2, "put", "(LQuorumLog$Message;)I"⟩
abbrev cX2_clear : ByteArray := prog_4_method_6_code
def yX2_clear : MethodName := ⟨RX2, "clear", "(I)V"⟩
abbrev cX3_init : ByteArray := prog_5_method_1_code
def yX3_init : MethodName := ⟨RX3, "<init>", "(III)V"⟩
abbrev cX3_enterTerm : ByteArray := prog_5_method_2_code
def yX3_enterTerm : MethodName := ⟨RX3, "enterTerm", "(I)V"⟩
abbrev cX3_stand : ByteArray := prog_5_method_3_code
def yX3_stand : MethodName := ⟨RX3, "stand", "()V"⟩
abbrev cX3_lead : ByteArray := prog_5_method_4_code
def yX3_lead : MethodName := ⟨RX3, "lead", "()V"⟩
abbrev cX3_takeEntry : ByteArray := prog_5_method_5_code
def yX3_takeEntry : MethodName := ⟨RX3, "takeEntry", "(III)V"⟩
abbrev cX3_countVoters : ByteArray := prog_5_method_6_code
def yX3_countVoters : MethodName := ⟨RX3, "countVoters", "()I"⟩
abbrev cX3_countHolders : ByteArray := prog_5_method_7_code
def yX3_countHolders : MethodName := ⟨RX3, "countHolders", "(I)I"⟩
abbrev cL_cell : ByteArray := method_2_code
def yL_cell : MethodName := ⟨RL, "cell", "([II)I"⟩
abbrev cL_law : ByteArray := code
def yL_law : MethodName := ⟨RL, "law", "([I)Z"⟩
end
section
def tz : List Cond := lw_tbl.filter goodWord
theorem tz_in : ∀ w ∈ tz, w ∈ lw_tbl := fun _ h => (List.mem_filter.mp h).1
theorem tz_ok : ∀ w ∈ tz, (w.onTables && w.keeps) = true ∨ ∃ ty, w = .arrayClass ty := fun _ h => good_of_word (List.mem_filter.mp h).2
theorem tz_at {w : Cond} (i : Nat) (h : lw_tbl[i]? = some w) (hg : goodWord w = true) : w ∈ tz := List.mem_filter.mpr ⟨List.mem_of_getElem? h, hg⟩
theorem tz_good {w0 : Cond} (h0 : w0 ∈ tz) : GoodIn tz (w0 :: tz) := fun w h => by
  rcases List.mem_cons.mp h with rfl | h
  · exact ⟨h0, tz_ok _ h0⟩
  · exact ⟨h, tz_ok _ h⟩
def tz_m (y : MethodName) (b : ByteArray) (k : Nat) (ret : Option FieldType) (n : Nat) : Prop := Cond.code y b k ret ∈ tz ∧ Cond.instanceMethod y ∈ tz ∧ Cond.selects y.cls y y ∈ tz ∧ Cond.initialized y.cls ∈ tz ∧ (y.cls ≠ "java/lang/invoke/MethodHandle" ∧ y.cls ≠ "java/lang/invoke/VarHandle" ∧ (parseMethodDescriptor y.desc).map (fun d => d.parameters.length) = some n)
def tz_i (y : MethodName) (b : ByteArray) (k : Nat) (n : Nat) : Prop := Cond.code y b k none ∈ tz ∧ Cond.instanceMethod y ∈ tz ∧ Cond.initialized y.cls ∈ tz ∧ (y.cls ≠ "java/lang/invoke/MethodHandle" ∧ y.cls ≠ "java/lang/invoke/VarHandle" ∧ (parseMethodDescriptor y.desc).map (fun d => d.parameters.length) = some n)
def tz_s (y : MethodName) (b : ByteArray) (k : Nat) (ret : Option FieldType) (n : Nat) : Prop := Cond.code y b k ret ∈ tz ∧ Cond.static y ∈ tz ∧ Cond.initialized y.cls ∈ tz ∧ (y.cls ≠ "java/lang/invoke/MethodHandle" ∧ y.cls ≠ "java/lang/invoke/VarHandle" ∧ (parseMethodDescriptor y.desc).map (fun d => d.parameters.length) = some n)
abbrev tz_w (y : MethodName) (b : ByteArray) (k : Nat) (ret : Option FieldType) : List Cond := Cond.code y b k ret :: tz
section TZ
variable {R : Room} {s : State} {args : Array Value} {own host : String} {index k n mc ms : Nat} {y : MethodName} {b : ByteArray} {ret : Option FieldType} {rm : Room}
theorem tz_V (htz : ∀ w ∈ tz, w.before args s = true) (hk : tz_m y b k ret n) (hl : Cond.methodLink own index y ∈ tz) (hrc : rm.cells = mc) (hrs : rm.slots = ms) (hR : rm.frames + 1 ≤ R.frames ∧ 8 + (k + 11) + rm.locals ≤ R.locals) : CallW R s args own y.cls index y b k ret (tz_w y b k ret) rm mc ms n :=
  ⟨callB_of n htz (tz_good hk.1) rfl hrc hrs (htz _ hk.2.2.2.1) (htz _ hl) hk.2.2.2.2 hR, htz _ hk.2.1, htz _ hk.2.2.1⟩
theorem tz_N (htz : ∀ w ∈ tz, w.before args s = true) (hk : tz_m y b k ret n) (hl : va_Nw (.methodLinkNest own index y host) s) (hrc : rm.cells = mc) (hrs : rm.slots = ms) (hR : rm.frames + 1 ≤ R.frames ∧ 8 + (k + 11) + rm.locals ≤ R.locals) : va_CN R s args own index y host b k ret (tz_w y b k ret) rm mc ms n ∧ (Cond.instanceMethod y).before args s = true ∧ (Cond.selects y.cls y y).before args s = true :=
  ⟨va_cnB n htz (tz_good hk.1) rfl hrc hrs hl (htz _ hk.2.2.2.1) hk.2.2.2.2 hR, htz _ hk.2.1, htz _ hk.2.2.1⟩
theorem tz_S (htz : ∀ w ∈ tz, w.before args s = true) (hk : tz_s y b k ret n) (hl : Cond.methodLink own index y ∈ tz) (hrc : rm.cells = mc) (hrs : rm.slots = ms) (hR : rm.frames + 1 ≤ R.frames ∧ 8 + (k + 11) + rm.locals ≤ R.locals) : CallB R s args own index y b k ret (tz_w y b k ret) rm mc ms n ∧ (Cond.static y).before args s = true :=
  ⟨callB_of n htz (tz_good hk.1) rfl hrc hrs (htz _ hk.2.2.1) (htz _ hl) hk.2.2.2 hR, htz _ hk.2.1⟩
theorem tz_I (htz : ∀ w ∈ tz, w.before args s = true) (hk : tz_i y b k n) (hn : y.name = "<init>") (hl : Cond.methodLink own index y ∈ tz) (hrc : rm.cells = mc) (hrs : rm.slots = ms) (hR : rm.frames + 1 ≤ R.frames ∧ 8 + (k + 11) + rm.locals ≤ R.locals) : CallB R s args own index y b k none (tz_w y b k none) rm mc ms n ∧ y.name = "<init>" ∧ (Cond.instanceMethod y).before args s = true :=
  ⟨callB_of n htz (tz_good hk.1) rfl hrc hrs (htz _ hk.2.2.1) (htz _ hl) hk.2.2.2 hR, hn, htz _ hk.2.1⟩
theorem tz_IN (htz : ∀ w ∈ tz, w.before args s = true) (hk : tz_i y b k n) (hn : y.name = "<init>") (hl : va_Nw (.methodLinkNest own index y host) s) (hrc : rm.cells = mc) (hrs : rm.slots = ms) (hR : rm.frames + 1 ≤ R.frames ∧ 8 + (k + 11) + rm.locals ≤ R.locals) : va_CN R s args own index y host b k none (tz_w y b k none) rm mc ms n ∧ y.name = "<init>" ∧ (Cond.instanceMethod y).before args s = true :=
  ⟨va_cnB n htz (tz_good hk.1) rfl hrc hrs hl (htz _ hk.2.2.1) hk.2.2.2 hR, hn, htz _ hk.2.1⟩
end TZ
theorem tin_X0 : ∀ w ∈ wsX00, w ∈ tz := by decide +kernel
theorem tin_X1 : ∀ w ∈ wsX10, w ∈ tz := by decide +kernel
theorem tin_X2 : ∀ w ∈ wsX20, w ∈ tz := by decide +kernel
theorem tin_X3 : ∀ w ∈ wsX30, w ∈ tz := by decide +kernel
theorem tin_X4 : ∀ w ∈ wsX40, w ∈ tz := by decide +kernel
theorem tin_X5 : ∀ w ∈ wsX50, w ∈ tz := by decide +kernel
theorem ini_L : Cond.initialized RL ∈ tz := tz_at 60 (by decide +kernel) rfl
theorem ini_X4 : Cond.initialized RX4 ∈ tz := tz_at 61 (by decide +kernel) rfl
theorem ini_Math : Cond.initialized "java/lang/Math" ∈ tz := tz_at 62 (by decide +kernel) rfl
theorem ini_X3 : Cond.initialized RX3 ∈ tz := tz_at 63 (by decide +kernel) rfl
theorem ini_X0 : Cond.initialized RX0 ∈ tz := tz_at 64 (by decide +kernel) rfl
theorem ini_X2 : Cond.initialized RX2 ∈ tz := tz_at 65 (by decide +kernel) rfl
theorem ini_X1 : Cond.initialized RX1 ∈ tz := tz_at 66 (by decide +kernel) rfl
theorem ini_X5 : Cond.initialized RX5 ∈ tz := tz_at 67 (by decide +kernel) rfl
theorem ins_X4 : Cond.instantiable RX4 4 ∈ tz := tz_at 69 (by decide +kernel) rfl
theorem ins_X3 : Cond.instantiable RX3 10 ∈ tz := tz_at 87 (by decide +kernel) rfl
theorem ins_X0 : Cond.instantiable RX0 6 ∈ tz := tz_at 93 (by decide +kernel) rfl
theorem ins_X2 : Cond.instantiable RX2 2 ∈ tz := tz_at 164 (by decide +kernel) rfl
theorem ins_X1 : Cond.instantiable RX1 12 ∈ tz := tz_at 171 (by decide +kernel) rfl
theorem ins_X5 : Cond.instantiable RX5 27 ∈ tz := tz_at 510 (by decide +kernel) rfl
theorem clL_7 : Cond.classLink RL 7 RX4 ∈ tz := tz_at 68 (by decide +kernel) rfl
theorem clX4_13 : Cond.classLink RX4 13 RX3 ∈ tz := tz_at 85 (by decide +kernel) rfl
theorem clX3_25 : Cond.classLink RX3 25 RX0 ∈ tz := tz_at 92 (by decide +kernel) rfl
theorem clX4_22 : Cond.classLink RX4 22 RX2 ∈ tz := tz_at 163 (by decide +kernel) rfl
theorem clX2_9 : Cond.classLink RX2 9 RX1 ∈ tz := tz_at 169 (by decide +kernel) rfl
theorem clX4_31 : Cond.classLink RX4 31 RX1 ∈ tz := tz_at 235 (by decide +kernel) rfl
theorem clL_18 : Cond.classLink RL 18 RX5 ∈ tz := tz_at 509 (by decide +kernel) rfl
theorem fX0_18 : Cond.fieldLink RX0 18 "QuorumLog$Log" "base" "I" ∈ tz := tz_at 98 (by decide +kernel) rfl
theorem fX0_25 : Cond.fieldLink RX0 25 "QuorumLog$Log" "baseTerm" "I" ∈ tz := tz_at 100 (by decide +kernel) rfl
theorem fX0_32 : Cond.fieldLink RX0 32 "QuorumLog$Log" "baseState" "I" ∈ tz := tz_at 102 (by decide +kernel) rfl
theorem fX0_22 : Cond.fieldLink RX0 22 "QuorumLog$Log" "count" "I" ∈ tz := tz_at 104 (by decide +kernel) rfl
theorem fX0_9 : Cond.fieldLink RX0 9 "QuorumLog$Log" "terms" "[I" ∈ tz := tz_at 105 (by decide +kernel) rfl
theorem fX0_15 : Cond.fieldLink RX0 15 "QuorumLog$Log" "commands" "[I" ∈ tz := tz_at 106 (by decide +kernel) rfl
theorem fX3_22 : Cond.fieldLink RX3 22 "QuorumLog$Node" "self" "I" ∈ tz := tz_at 121 (by decide +kernel) rfl
theorem fX3_9 : Cond.fieldLink RX3 9 "QuorumLog$Node" "up" "Z" ∈ tz := tz_at 123 (by decide +kernel) rfl
theorem fX3_15 : Cond.fieldLink RX3 15 "QuorumLog$Node" "role" "I" ∈ tz := tz_at 125 (by decide +kernel) rfl
theorem fX3_45 : Cond.fieldLink RX3 45 "QuorumLog$Node" "term" "I" ∈ tz := tz_at 127 (by decide +kernel) rfl
theorem fX3_19 : Cond.fieldLink RX3 19 "QuorumLog$Node" "vote" "I" ∈ tz := tz_at 129 (by decide +kernel) rfl
theorem fX3_66 : Cond.fieldLink RX3 66 "QuorumLog$Node" "commit" "I" ∈ tz := tz_at 131 (by decide +kernel) rfl
theorem fX3_30 : Cond.fieldLink RX3 30 "QuorumLog$Node" "log" "LQuorumLog$Log;" ∈ tz := tz_at 133 (by decide +kernel) rfl
theorem fX3_34 : Cond.fieldLink RX3 34 "QuorumLog$Node" "voters" "[Z" ∈ tz := tz_at 135 (by decide +kernel) rfl
theorem fX3_38 : Cond.fieldLink RX3 38 "QuorumLog$Node" "next" "[I" ∈ tz := tz_at 137 (by decide +kernel) rfl
theorem fX3_42 : Cond.fieldLink RX3 42 "QuorumLog$Node" "match" "[I" ∈ tz := tz_at 139 (by decide +kernel) rfl
theorem fX1_7 : Cond.fieldLink RX1 7 "QuorumLog$Message" "kind" "I" ∈ tz := tz_at 176 (by decide +kernel) rfl
theorem fX1_13 : Cond.fieldLink RX1 13 "QuorumLog$Message" "from" "I" ∈ tz := tz_at 179 (by decide +kernel) rfl
theorem fX1_16 : Cond.fieldLink RX1 16 "QuorumLog$Message" "to" "I" ∈ tz := tz_at 181 (by decide +kernel) rfl
theorem fX1_19 : Cond.fieldLink RX1 19 "QuorumLog$Message" "term" "I" ∈ tz := tz_at 183 (by decide +kernel) rfl
theorem fX1_22 : Cond.fieldLink RX1 22 "QuorumLog$Message" "number" "I" ∈ tz := tz_at 185 (by decide +kernel) rfl
theorem fX1_25 : Cond.fieldLink RX1 25 "QuorumLog$Message" "numberTerm" "I" ∈ tz := tz_at 187 (by decide +kernel) rfl
theorem fX1_28 : Cond.fieldLink RX1 28 "QuorumLog$Message" "yes" "Z" ∈ tz := tz_at 189 (by decide +kernel) rfl
theorem fX1_32 : Cond.fieldLink RX1 32 "QuorumLog$Message" "hasEntry" "Z" ∈ tz := tz_at 191 (by decide +kernel) rfl
theorem fX1_35 : Cond.fieldLink RX1 35 "QuorumLog$Message" "entryTerm" "I" ∈ tz := tz_at 193 (by decide +kernel) rfl
theorem fX1_38 : Cond.fieldLink RX1 38 "QuorumLog$Message" "entryCommand" "I" ∈ tz := tz_at 195 (by decide +kernel) rfl
theorem fX1_41 : Cond.fieldLink RX1 41 "QuorumLog$Message" "commit" "I" ∈ tz := tz_at 197 (by decide +kernel) rfl
theorem fX1_44 : Cond.fieldLink RX1 44 "QuorumLog$Message" "state" "I" ∈ tz := tz_at 199 (by decide +kernel) rfl
theorem fX2_11 : Cond.fieldLink RX2 11 "QuorumLog$Net" "messages" "[LQuorumLog$Message;" ∈ tz := tz_at 226 (by decide +kernel) rfl
theorem fX2_22 : Cond.fieldLink RX2 22 "QuorumLog$Net" "waiting" "I" ∈ tz := tz_at 228 (by decide +kernel) rfl
theorem fX4_15 : Cond.fieldLink RX4 15 "QuorumLog" "nodes" "[LQuorumLog$Node;" ∈ tz := tz_at 237 (by decide +kernel) rfl
theorem fX4_27 : Cond.fieldLink RX4 27 "QuorumLog" "net" "LQuorumLog$Net;" ∈ tz := tz_at 238 (by decide +kernel) rfl
theorem fX4_34 : Cond.fieldLink RX4 34 "QuorumLog" "draft" "LQuorumLog$Message;" ∈ tz := tz_at 239 (by decide +kernel) rfl
theorem fX4_38 : Cond.fieldLink RX4 38 "QuorumLog" "arrived" "LQuorumLog$Message;" ∈ tz := tz_at 240 (by decide +kernel) rfl
theorem fX5_87 : Cond.fieldLink RX5 87 "QuorumLogModel" "n" "I" ∈ tz := tz_at 518 (by decide +kernel) rfl
theorem fX5_91 : Cond.fieldLink RX5 91 "QuorumLogModel" "cap" "I" ∈ tz := tz_at 519 (by decide +kernel) rfl
theorem fX5_94 : Cond.fieldLink RX5 94 "QuorumLogModel" "slots" "I" ∈ tz := tz_at 520 (by decide +kernel) rfl
theorem fX5_7 : Cond.fieldLink RX5 7 "QuorumLogModel" "up" "[Z" ∈ tz := tz_at 521 (by decide +kernel) rfl
theorem fX5_13 : Cond.fieldLink RX5 13 "QuorumLogModel" "role" "[I" ∈ tz := tz_at 522 (by decide +kernel) rfl
theorem fX5_17 : Cond.fieldLink RX5 17 "QuorumLogModel" "term" "[I" ∈ tz := tz_at 523 (by decide +kernel) rfl
theorem fX5_20 : Cond.fieldLink RX5 20 "QuorumLogModel" "vote" "[I" ∈ tz := tz_at 524 (by decide +kernel) rfl
theorem fX5_23 : Cond.fieldLink RX5 23 "QuorumLogModel" "base" "[I" ∈ tz := tz_at 525 (by decide +kernel) rfl
theorem fX5_26 : Cond.fieldLink RX5 26 "QuorumLogModel" "baseTerm" "[I" ∈ tz := tz_at 526 (by decide +kernel) rfl
theorem fX5_29 : Cond.fieldLink RX5 29 "QuorumLogModel" "baseState" "[I" ∈ tz := tz_at 527 (by decide +kernel) rfl
theorem fX5_32 : Cond.fieldLink RX5 32 "QuorumLogModel" "commit" "[I" ∈ tz := tz_at 528 (by decide +kernel) rfl
theorem fX5_35 : Cond.fieldLink RX5 35 "QuorumLogModel" "voters" "[I" ∈ tz := tz_at 529 (by decide +kernel) rfl
theorem fX5_38 : Cond.fieldLink RX5 38 "QuorumLogModel" "entries" "[I" ∈ tz := tz_at 530 (by decide +kernel) rfl
theorem fX5_41 : Cond.fieldLink RX5 41 "QuorumLogModel" "entryTerm" "[I" ∈ tz := tz_at 531 (by decide +kernel) rfl
theorem fX5_44 : Cond.fieldLink RX5 44 "QuorumLogModel" "entryCommand" "[I" ∈ tz := tz_at 532 (by decide +kernel) rfl
theorem fX5_47 : Cond.fieldLink RX5 47 "QuorumLogModel" "next" "[I" ∈ tz := tz_at 533 (by decide +kernel) rfl
theorem fX5_50 : Cond.fieldLink RX5 50 "QuorumLogModel" "match" "[I" ∈ tz := tz_at 534 (by decide +kernel) rfl
theorem fX5_53 : Cond.fieldLink RX5 53 "QuorumLogModel" "kind" "[I" ∈ tz := tz_at 535 (by decide +kernel) rfl
theorem fX5_56 : Cond.fieldLink RX5 56 "QuorumLogModel" "from" "[I" ∈ tz := tz_at 536 (by decide +kernel) rfl
theorem fX5_59 : Cond.fieldLink RX5 59 "QuorumLogModel" "to" "[I" ∈ tz := tz_at 537 (by decide +kernel) rfl
theorem fX5_62 : Cond.fieldLink RX5 62 "QuorumLogModel" "borne" "[I" ∈ tz := tz_at 538 (by decide +kernel) rfl
theorem fX5_65 : Cond.fieldLink RX5 65 "QuorumLogModel" "number" "[I" ∈ tz := tz_at 539 (by decide +kernel) rfl
theorem fX5_68 : Cond.fieldLink RX5 68 "QuorumLogModel" "at" "[I" ∈ tz := tz_at 540 (by decide +kernel) rfl
theorem fX5_71 : Cond.fieldLink RX5 71 "QuorumLogModel" "yes" "[Z" ∈ tz := tz_at 541 (by decide +kernel) rfl
theorem fX5_74 : Cond.fieldLink RX5 74 "QuorumLogModel" "withTerm" "[I" ∈ tz := tz_at 542 (by decide +kernel) rfl
theorem fX5_77 : Cond.fieldLink RX5 77 "QuorumLogModel" "command" "[I" ∈ tz := tz_at 543 (by decide +kernel) rfl
theorem fX5_80 : Cond.fieldLink RX5 80 "QuorumLogModel" "known" "[I" ∈ tz := tz_at 544 (by decide +kernel) rfl
theorem kX4_154 : Cond.constant RX4 154 100000 ∈ tz := tz_at 497 (by decide +kernel) rfl
theorem kX5_174 : Cond.constant RX5 174 100000 ∈ tz := tz_at 763 (by decide +kernel) rfl
theorem obj_code : Cond.code objectInit ⟨#[0xb1]⟩ 1 none ∈ tz := tz_at 75 (by decide +kernel) rfl
theorem obj_inst : Cond.instanceMethod objectInit ∈ tz := tz_at 74 (by decide +kernel) rfl
theorem max_code : Cond.code Lib.Math.max.name Lib.Math.max.code 2 (some .int) ∈ tz := tz_at 84 (by decide +kernel) rfl
theorem max_stat : Cond.static Lib.Math.max.name ∈ tz := tz_at 83 (by decide +kernel) rfl
theorem min_code : Cond.code Lib.Math.min.name Lib.Math.min.code 2 (some .int) ∈ tz := tz_at 81 (by decide +kernel) rfl
theorem min_stat : Cond.static Lib.Math.min.name ∈ tz := tz_at 80 (by decide +kernel) rfl
theorem lL_15 : Cond.methodLink RL 15 yX4_init ∈ tz := tz_at 70 (by decide +kernel) rfl
theorem lX4_1 : Cond.methodLink RX4 1 objectInit ∈ tz := tz_at 73 (by decide +kernel) rfl
theorem lX4_7 : Cond.methodLink RX4 7 yX4_within ∈ tz := tz_at 76 (by decide +kernel) rfl
theorem lX4_162 : Cond.methodLink RX4 162 Lib.Math.min.name ∈ tz := tz_at 79 (by decide +kernel) rfl
theorem lX4_168 : Cond.methodLink RX4 168 Lib.Math.max.name ∈ tz := tz_at 82 (by decide +kernel) rfl
theorem lX3_3 : Cond.methodLink RX3 3 objectInit ∈ tz := tz_at 91 (by decide +kernel) rfl
theorem lX0_3 : Cond.methodLink RX0 3 objectInit ∈ tz := tz_at 97 (by decide +kernel) rfl
theorem lX2_3 : Cond.methodLink RX2 3 objectInit ∈ tz := tz_at 168 (by decide +kernel) rfl
theorem lX1_1 : Cond.methodLink RX1 1 objectInit ∈ tz := tz_at 175 (by decide +kernel) rfl
theorem lL_21 : Cond.methodLink RL 21 yX4_timeout ∈ tz := tz_at 250 (by decide +kernel) rfl
theorem lX4_41 : Cond.methodLink RX4 41 yX4_isNode ∈ tz := tz_at 254 (by decide +kernel) rfl
theorem lX3_48 : Cond.methodLink RX3 48 yX3_enterTerm ∈ tz := tz_at 266 (by decide +kernel) rfl
theorem lX4_60 : Cond.methodLink RX4 60 yX4_sendAsk ∈ tz := tz_at 270 (by decide +kernel) rfl
theorem lX2_25 : Cond.methodLink RX2 25 yX2_isFree ∈ tz := tz_at 290 (by decide +kernel) rfl
theorem lL_26 : Cond.methodLink RL 26 yX4_heartbeat ∈ tz := tz_at 298 (by decide +kernel) rfl
theorem lX4_64 : Cond.methodLink RX4 64 yX4_areTwoNodes ∈ tz := tz_at 302 (by decide +kernel) rfl
theorem lX4_81 : Cond.methodLink RX4 81 yX4_sendSnapshot ∈ tz := tz_at 306 (by decide +kernel) rfl
theorem lX4_84 : Cond.methodLink RX4 84 yX4_sendAppend ∈ tz := tz_at 310 (by decide +kernel) rfl
theorem lX0_28 : Cond.methodLink RX0 28 yX0_hasEntry ∈ tz := tz_at 318 (by decide +kernel) rfl
theorem lL_31 : Cond.methodLink RL 31 yX4_propose ∈ tz := tz_at 327 (by decide +kernel) rfl
theorem lX0_42 : Cond.methodLink RX0 42 yX0_isFull ∈ tz := tz_at 339 (by decide +kernel) rfl
theorem lL_35 : Cond.methodLink RL 35 yX4_compact ∈ tz := tz_at 340 (by decide +kernel) rfl
theorem lX0_46 : Cond.methodLink RX0 46 Lib.Math.max.name ∈ tz := tz_at 352 (by decide +kernel) rfl
theorem lX0_52 : Cond.methodLink RX0 52 Lib.Math.min.name ∈ tz := tz_at 353 (by decide +kernel) rfl
theorem lL_39 : Cond.methodLink RL 39 yX4_deliver ∈ tz := tz_at 354 (by decide +kernel) rfl
theorem lX4_134 : Cond.methodLink RX4 134 yX4_receive ∈ tz := tz_at 368 (by decide +kernel) rfl
theorem lX4_214 : Cond.methodLink RX4 214 yX4_receiveAsk ∈ tz := tz_at 373 (by decide +kernel) rfl
theorem lX0_35 : Cond.methodLink RX0 35 yX0_lastTerm ∈ tz := tz_at 381 (by decide +kernel) rfl
theorem lX0_39 : Cond.methodLink RX0 39 yX0_lastNumber ∈ tz := tz_at 382 (by decide +kernel) rfl
theorem lX4_232 : Cond.methodLink RX4 232 yX4_sendVote ∈ tz := tz_at 383 (by decide +kernel) rfl
theorem lX4_217 : Cond.methodLink RX4 217 yX4_receiveVote ∈ tz := tz_at 387 (by decide +kernel) rfl
theorem lX4_243 : Cond.methodLink RX4 243 yX4_isMajority ∈ tz := tz_at 395 (by decide +kernel) rfl
theorem lX4_220 : Cond.methodLink RX4 220 yX4_receiveAppend ∈ tz := tz_at 404 (by decide +kernel) rfl
theorem lX4_249 : Cond.methodLink RX4 249 yX4_sendAppended ∈ tz := tz_at 408 (by decide +kernel) rfl
theorem lX3_69 : Cond.methodLink RX3 69 Lib.Math.min.name ∈ tz := tz_at 422 (by decide +kernel) rfl
theorem lX4_223 : Cond.methodLink RX4 223 yX4_receiveAppended ∈ tz := tz_at 424 (by decide +kernel) rfl
theorem lX4_256 : Cond.methodLink RX4 256 yX4_advanceCommit ∈ tz := tz_at 428 (by decide +kernel) rfl
theorem lX4_226 : Cond.methodLink RX4 226 yX4_receiveSnapshot ∈ tz := tz_at 436 (by decide +kernel) rfl
theorem lL_43 : Cond.methodLink RL 43 yX4_drop ∈ tz := tz_at 441 (by decide +kernel) rfl
theorem lL_47 : Cond.methodLink RL 47 yX4_duplicate ∈ tz := tz_at 445 (by decide +kernel) rfl
theorem lL_51 : Cond.methodLink RL 51 yX4_crash ∈ tz := tz_at 449 (by decide +kernel) rfl
theorem lL_55 : Cond.methodLink RL 55 yX4_restart ∈ tz := tz_at 453 (by decide +kernel) rfl
theorem lL_59 : Cond.methodLink RL 59 yX4_role ∈ tz := tz_at 457 (by decide +kernel) rfl
theorem lL_63 : Cond.methodLink RL 63 yX4_term ∈ tz := tz_at 461 (by decide +kernel) rfl
theorem lL_67 : Cond.methodLink RL 67 yX4_vote ∈ tz := tz_at 465 (by decide +kernel) rfl
theorem lL_71 : Cond.methodLink RL 71 yX4_base ∈ tz := tz_at 469 (by decide +kernel) rfl
theorem lL_75 : Cond.methodLink RL 75 yX4_last ∈ tz := tz_at 473 (by decide +kernel) rfl
theorem lL_79 : Cond.methodLink RL 79 yX4_commit ∈ tz := tz_at 477 (by decide +kernel) rfl
theorem lL_83 : Cond.methodLink RL 83 yX4_termAt ∈ tz := tz_at 481 (by decide +kernel) rfl
theorem lL_87 : Cond.methodLink RL 87 yX4_commandAt ∈ tz := tz_at 485 (by decide +kernel) rfl
theorem lL_91 : Cond.methodLink RL 91 yX4_state ∈ tz := tz_at 489 (by decide +kernel) rfl
theorem lL_95 : Cond.methodLink RL 95 yX4_peer ∈ tz := tz_at 493 (by decide +kernel) rfl
theorem lL_99 : Cond.methodLink RL 99 yX4_pending ∈ tz := tz_at 498 (by decide +kernel) rfl
theorem lL_104 : Cond.methodLink RL 104 yX4_slot ∈ tz := tz_at 502 (by decide +kernel) rfl
theorem lL_9 : Cond.methodLink RL 9 yL_cell ∈ tz := tz_at 506 (by decide +kernel) rfl
theorem lL_20 : Cond.methodLink RL 20 yX5_init ∈ tz := tz_at 511 (by decide +kernel) rfl
theorem lX5_1 : Cond.methodLink RX5 1 objectInit ∈ tz := tz_at 514 (by decide +kernel) rfl
theorem lX5_83 : Cond.methodLink RX5 83 yX5_clamp ∈ tz := tz_at 515 (by decide +kernel) rfl
theorem lL_25 : Cond.methodLink RL 25 yX5_timeout ∈ tz := tz_at 600 (by decide +kernel) rfl
theorem lX5_116 : Cond.methodLink RX5 116 yX5_isNode ∈ tz := tz_at 604 (by decide +kernel) rfl
theorem lX5_120 : Cond.methodLink RX5 120 yX5_waiting ∈ tz := tz_at 608 (by decide +kernel) rfl
theorem lX5_113 : Cond.methodLink RX5 113 yX5_send ∈ tz := tz_at 612 (by decide +kernel) rfl
theorem lX5_109 : Cond.methodLink RX5 109 yX5_freeSlot ∈ tz := tz_at 616 (by decide +kernel) rfl
theorem lX5_97 : Cond.methodLink RX5 97 yX5_lastOf ∈ tz := tz_at 620 (by decide +kernel) rfl
theorem lX5_123 : Cond.methodLink RX5 123 yX5_termOf ∈ tz := tz_at 624 (by decide +kernel) rfl
theorem lX5_101 : Cond.methodLink RX5 101 yX5_hasEntry ∈ tz := tz_at 628 (by decide +kernel) rfl
theorem lX5_105 : Cond.methodLink RX5 105 yX5_place ∈ tz := tz_at 632 (by decide +kernel) rfl
theorem lL_30 : Cond.methodLink RL 30 yX5_heartbeat ∈ tz := tz_at 636 (by decide +kernel) rfl
theorem lL_34 : Cond.methodLink RL 34 yX5_propose ∈ tz := tz_at 640 (by decide +kernel) rfl
theorem lX5_126 : Cond.methodLink RX5 126 yX5_addEntry ∈ tz := tz_at 644 (by decide +kernel) rfl
theorem lL_38 : Cond.methodLink RL 38 yX5_compact ∈ tz := tz_at 648 (by decide +kernel) rfl
theorem lX5_130 : Cond.methodLink RX5 130 yX5_stateTo ∈ tz := tz_at 652 (by decide +kernel) rfl
theorem lX5_133 : Cond.methodLink RX5 133 yX5_cutFront ∈ tz := tz_at 656 (by decide +kernel) rfl
theorem lL_42 : Cond.methodLink RL 42 yX5_deliver ∈ tz := tz_at 660 (by decide +kernel) rfl
theorem lX5_137 : Cond.methodLink RX5 137 yX5_isSlot ∈ tz := tz_at 664 (by decide +kernel) rfl
theorem lX5_140 : Cond.methodLink RX5 140 yX5_act ∈ tz := tz_at 668 (by decide +kernel) rfl
theorem lX5_144 : Cond.methodLink RX5 144 yX5_asked ∈ tz := tz_at 672 (by decide +kernel) rfl
theorem lX5_159 : Cond.methodLink RX5 159 yX5_answer ∈ tz := tz_at 676 (by decide +kernel) rfl
theorem lX5_147 : Cond.methodLink RX5 147 yX5_voted ∈ tz := tz_at 680 (by decide +kernel) rfl
theorem lX5_163 : Cond.methodLink RX5 163 yX5_isMost ∈ tz := tz_at 684 (by decide +kernel) rfl
theorem lX5_150 : Cond.methodLink RX5 150 yX5_append ∈ tz := tz_at 687 (by decide +kernel) rfl
theorem lX5_166 : Cond.methodLink RX5 166 yX5_takeEntry ∈ tz := tz_at 691 (by decide +kernel) rfl
theorem lX5_153 : Cond.methodLink RX5 153 yX5_appended ∈ tz := tz_at 695 (by decide +kernel) rfl
theorem lX5_170 : Cond.methodLink RX5 170 yX5_count ∈ tz := tz_at 699 (by decide +kernel) rfl
theorem lX5_156 : Cond.methodLink RX5 156 yX5_snapshot ∈ tz := tz_at 703 (by decide +kernel) rfl
theorem lL_46 : Cond.methodLink RL 46 yX5_drop ∈ tz := tz_at 707 (by decide +kernel) rfl
theorem lL_50 : Cond.methodLink RL 50 yX5_duplicate ∈ tz := tz_at 711 (by decide +kernel) rfl
theorem lL_54 : Cond.methodLink RL 54 yX5_crash ∈ tz := tz_at 715 (by decide +kernel) rfl
theorem lL_58 : Cond.methodLink RL 58 yX5_restart ∈ tz := tz_at 719 (by decide +kernel) rfl
theorem lL_62 : Cond.methodLink RL 62 yX5_role ∈ tz := tz_at 723 (by decide +kernel) rfl
theorem lL_66 : Cond.methodLink RL 66 yX5_term ∈ tz := tz_at 727 (by decide +kernel) rfl
theorem lL_70 : Cond.methodLink RL 70 yX5_vote ∈ tz := tz_at 731 (by decide +kernel) rfl
theorem lL_74 : Cond.methodLink RL 74 yX5_base ∈ tz := tz_at 735 (by decide +kernel) rfl
theorem lL_78 : Cond.methodLink RL 78 yX5_last ∈ tz := tz_at 739 (by decide +kernel) rfl
theorem lL_82 : Cond.methodLink RL 82 yX5_commit ∈ tz := tz_at 743 (by decide +kernel) rfl
theorem lL_86 : Cond.methodLink RL 86 yX5_termAt ∈ tz := tz_at 747 (by decide +kernel) rfl
theorem lL_90 : Cond.methodLink RL 90 yX5_commandAt ∈ tz := tz_at 751 (by decide +kernel) rfl
theorem lL_94 : Cond.methodLink RL 94 yX5_state ∈ tz := tz_at 755 (by decide +kernel) rfl
theorem lL_98 : Cond.methodLink RL 98 yX5_peer ∈ tz := tz_at 759 (by decide +kernel) rfl
theorem lL_103 : Cond.methodLink RL 103 yX5_pending ∈ tz := tz_at 764 (by decide +kernel) rfl
theorem lL_107 : Cond.methodLink RL 107 yX5_slot ∈ tz := tz_at 768 (by decide +kernel) rfl
theorem mX4_init : tz_i yX4_init cX4_init 7 3 := ⟨tz_at 72 (by decide +kernel) rfl, tz_at 71 (by decide +kernel) rfl, ini_X4, ⟨by decide +kernel, by decide +kernel, by decide +kernel⟩⟩
theorem mX4_timeout : tz_m yX4_timeout cX4_timeout 4 (some .int) 1 := ⟨tz_at 253 (by decide +kernel) rfl, tz_at 251 (by decide +kernel) rfl, tz_at 252 (by decide +kernel) rfl, ini_X4, ⟨by decide +kernel, by decide +kernel, by decide +kernel⟩⟩
theorem mX4_heartbeat : tz_m yX4_heartbeat cX4_heartbeat 4 (some .int) 2 := ⟨tz_at 301 (by decide +kernel) rfl, tz_at 299 (by decide +kernel) rfl, tz_at 300 (by decide +kernel) rfl, ini_X4, ⟨by decide +kernel, by decide +kernel, by decide +kernel⟩⟩
theorem mX4_propose : tz_m yX4_propose cX4_propose 4 (some .int) 2 := ⟨tz_at 330 (by decide +kernel) rfl, tz_at 328 (by decide +kernel) rfl, tz_at 329 (by decide +kernel) rfl, ini_X4, ⟨by decide +kernel, by decide +kernel, by decide +kernel⟩⟩
theorem mX4_compact : tz_m yX4_compact cX4_compact 4 (some .int) 1 := ⟨tz_at 343 (by decide +kernel) rfl, tz_at 341 (by decide +kernel) rfl, tz_at 342 (by decide +kernel) rfl, ini_X4, ⟨by decide +kernel, by decide +kernel, by decide +kernel⟩⟩
theorem mX4_deliver : tz_m yX4_deliver cX4_deliver 3 (some .int) 1 := ⟨tz_at 357 (by decide +kernel) rfl, tz_at 355 (by decide +kernel) rfl, tz_at 356 (by decide +kernel) rfl, ini_X4, ⟨by decide +kernel, by decide +kernel, by decide +kernel⟩⟩
theorem mX4_drop : tz_m yX4_drop cX4_drop 2 (some .int) 1 := ⟨tz_at 444 (by decide +kernel) rfl, tz_at 442 (by decide +kernel) rfl, tz_at 443 (by decide +kernel) rfl, ini_X4, ⟨by decide +kernel, by decide +kernel, by decide +kernel⟩⟩
theorem mX4_duplicate : tz_m yX4_duplicate cX4_duplicate 2 (some .int) 1 := ⟨tz_at 448 (by decide +kernel) rfl, tz_at 446 (by decide +kernel) rfl, tz_at 447 (by decide +kernel) rfl, ini_X4, ⟨by decide +kernel, by decide +kernel, by decide +kernel⟩⟩
theorem mX4_crash : tz_m yX4_crash cX4_crash 3 (some .int) 1 := ⟨tz_at 452 (by decide +kernel) rfl, tz_at 450 (by decide +kernel) rfl, tz_at 451 (by decide +kernel) rfl, ini_X4, ⟨by decide +kernel, by decide +kernel, by decide +kernel⟩⟩
theorem mX4_restart : tz_m yX4_restart cX4_restart 3 (some .int) 1 := ⟨tz_at 456 (by decide +kernel) rfl, tz_at 454 (by decide +kernel) rfl, tz_at 455 (by decide +kernel) rfl, ini_X4, ⟨by decide +kernel, by decide +kernel, by decide +kernel⟩⟩
theorem mX4_role : tz_m yX4_role cX4_role 3 (some .int) 1 := ⟨tz_at 460 (by decide +kernel) rfl, tz_at 458 (by decide +kernel) rfl, tz_at 459 (by decide +kernel) rfl, ini_X4, ⟨by decide +kernel, by decide +kernel, by decide +kernel⟩⟩
theorem mX4_term : tz_m yX4_term cX4_term 2 (some .int) 1 := ⟨tz_at 464 (by decide +kernel) rfl, tz_at 462 (by decide +kernel) rfl, tz_at 463 (by decide +kernel) rfl, ini_X4, ⟨by decide +kernel, by decide +kernel, by decide +kernel⟩⟩
theorem mX4_vote : tz_m yX4_vote cX4_vote 2 (some .int) 1 := ⟨tz_at 468 (by decide +kernel) rfl, tz_at 466 (by decide +kernel) rfl, tz_at 467 (by decide +kernel) rfl, ini_X4, ⟨by decide +kernel, by decide +kernel, by decide +kernel⟩⟩
theorem mX4_base : tz_m yX4_base cX4_base 2 (some .int) 1 := ⟨tz_at 472 (by decide +kernel) rfl, tz_at 470 (by decide +kernel) rfl, tz_at 471 (by decide +kernel) rfl, ini_X4, ⟨by decide +kernel, by decide +kernel, by decide +kernel⟩⟩
theorem mX4_last : tz_m yX4_last cX4_last 2 (some .int) 1 := ⟨tz_at 476 (by decide +kernel) rfl, tz_at 474 (by decide +kernel) rfl, tz_at 475 (by decide +kernel) rfl, ini_X4, ⟨by decide +kernel, by decide +kernel, by decide +kernel⟩⟩
theorem mX4_commit : tz_m yX4_commit cX4_commit 2 (some .int) 1 := ⟨tz_at 480 (by decide +kernel) rfl, tz_at 478 (by decide +kernel) rfl, tz_at 479 (by decide +kernel) rfl, ini_X4, ⟨by decide +kernel, by decide +kernel, by decide +kernel⟩⟩
theorem mX4_termAt : tz_m yX4_termAt cX4_termAt 3 (some .int) 2 := ⟨tz_at 484 (by decide +kernel) rfl, tz_at 482 (by decide +kernel) rfl, tz_at 483 (by decide +kernel) rfl, ini_X4, ⟨by decide +kernel, by decide +kernel, by decide +kernel⟩⟩
theorem mX4_commandAt : tz_m yX4_commandAt cX4_commandAt 3 (some .int) 2 := ⟨tz_at 488 (by decide +kernel) rfl, tz_at 486 (by decide +kernel) rfl, tz_at 487 (by decide +kernel) rfl, ini_X4, ⟨by decide +kernel, by decide +kernel, by decide +kernel⟩⟩
theorem mX4_state : tz_m yX4_state cX4_state 2 (some .int) 1 := ⟨tz_at 492 (by decide +kernel) rfl, tz_at 490 (by decide +kernel) rfl, tz_at 491 (by decide +kernel) rfl, ini_X4, ⟨by decide +kernel, by decide +kernel, by decide +kernel⟩⟩
theorem mX4_peer : tz_m yX4_peer cX4_peer 3 (some .int) 2 := ⟨tz_at 496 (by decide +kernel) rfl, tz_at 494 (by decide +kernel) rfl, tz_at 495 (by decide +kernel) rfl, ini_X4, ⟨by decide +kernel, by decide +kernel, by decide +kernel⟩⟩
theorem mX4_pending : tz_m yX4_pending cX4_pending 1 (some .int) 0 := ⟨tz_at 501 (by decide +kernel) rfl, tz_at 499 (by decide +kernel) rfl, tz_at 500 (by decide +kernel) rfl, ini_X4, ⟨by decide +kernel, by decide +kernel, by decide +kernel⟩⟩
theorem mX4_slot : tz_m yX4_slot cX4_slot 3 (some .int) 1 := ⟨tz_at 505 (by decide +kernel) rfl, tz_at 503 (by decide +kernel) rfl, tz_at 504 (by decide +kernel) rfl, ini_X4, ⟨by decide +kernel, by decide +kernel, by decide +kernel⟩⟩
theorem mX4_within : tz_s yX4_within cX4_within 3 (some .int) 3 := ⟨tz_at 78 (by decide +kernel) rfl, tz_at 77 (by decide +kernel) rfl, ini_X4, ⟨by decide +kernel, by decide +kernel, by decide +kernel⟩⟩
theorem mX4_isNode : tz_m yX4_isNode cX4_isNode 2 (some .boolean) 1 := ⟨tz_at 257 (by decide +kernel) rfl, tz_at 256 (by decide +kernel) rfl, tz_at 0 (by decide +kernel) rfl, ini_X4, ⟨by decide +kernel, by decide +kernel, by decide +kernel⟩⟩
theorem mX4_areTwoNodes : tz_m yX4_areTwoNodes cX4_areTwoNodes 3 (some .boolean) 2 := ⟨tz_at 305 (by decide +kernel) rfl, tz_at 304 (by decide +kernel) rfl, tz_at 11 (by decide +kernel) rfl, ini_X4, ⟨by decide +kernel, by decide +kernel, by decide +kernel⟩⟩
theorem mX4_isMajority : tz_m yX4_isMajority cX4_isMajority 2 (some .boolean) 1 := ⟨tz_at 398 (by decide +kernel) rfl, tz_at 397 (by decide +kernel) rfl, tz_at 29 (by decide +kernel) rfl, ini_X4, ⟨by decide +kernel, by decide +kernel, by decide +kernel⟩⟩
theorem mX4_sendAsk : tz_m yX4_sendAsk cX4_sendAsk 3 none 2 := ⟨tz_at 273 (by decide +kernel) rfl, tz_at 272 (by decide +kernel) rfl, tz_at 4 (by decide +kernel) rfl, ini_X4, ⟨by decide +kernel, by decide +kernel, by decide +kernel⟩⟩
theorem mX4_sendVote : tz_m yX4_sendVote cX4_sendVote 4 none 3 := ⟨tz_at 386 (by decide +kernel) rfl, tz_at 385 (by decide +kernel) rfl, tz_at 26 (by decide +kernel) rfl, ini_X4, ⟨by decide +kernel, by decide +kernel, by decide +kernel⟩⟩
theorem mX4_sendAppend : tz_m yX4_sendAppend cX4_sendAppend 4 none 2 := ⟨tz_at 313 (by decide +kernel) rfl, tz_at 312 (by decide +kernel) rfl, tz_at 13 (by decide +kernel) rfl, ini_X4, ⟨by decide +kernel, by decide +kernel, by decide +kernel⟩⟩
theorem mX4_sendAppended : tz_m yX4_sendAppended cX4_sendAppended 5 none 4 := ⟨tz_at 411 (by decide +kernel) rfl, tz_at 410 (by decide +kernel) rfl, tz_at 32 (by decide +kernel) rfl, ini_X4, ⟨by decide +kernel, by decide +kernel, by decide +kernel⟩⟩
theorem mX4_sendSnapshot : tz_m yX4_sendSnapshot cX4_sendSnapshot 3 none 2 := ⟨tz_at 309 (by decide +kernel) rfl, tz_at 308 (by decide +kernel) rfl, tz_at 12 (by decide +kernel) rfl, ini_X4, ⟨by decide +kernel, by decide +kernel, by decide +kernel⟩⟩
theorem mX4_receive : tz_m yX4_receive cX4_receive 3 none 2 := ⟨tz_at 371 (by decide +kernel) rfl, tz_at 370 (by decide +kernel) rfl, tz_at 23 (by decide +kernel) rfl, ini_X4, ⟨by decide +kernel, by decide +kernel, by decide +kernel⟩⟩
theorem mX4_receiveAsk : tz_m yX4_receiveAsk cX4_receiveAsk 5 none 2 := ⟨tz_at 376 (by decide +kernel) rfl, tz_at 375 (by decide +kernel) rfl, tz_at 24 (by decide +kernel) rfl, ini_X4, ⟨by decide +kernel, by decide +kernel, by decide +kernel⟩⟩
theorem mX4_receiveVote : tz_m yX4_receiveVote cX4_receiveVote 3 none 2 := ⟨tz_at 390 (by decide +kernel) rfl, tz_at 389 (by decide +kernel) rfl, tz_at 27 (by decide +kernel) rfl, ini_X4, ⟨by decide +kernel, by decide +kernel, by decide +kernel⟩⟩
theorem mX4_receiveAppend : tz_m yX4_receiveAppend cX4_receiveAppend 4 none 2 := ⟨tz_at 407 (by decide +kernel) rfl, tz_at 406 (by decide +kernel) rfl, tz_at 31 (by decide +kernel) rfl, ini_X4, ⟨by decide +kernel, by decide +kernel, by decide +kernel⟩⟩
theorem mX4_receiveAppended : tz_m yX4_receiveAppended cX4_receiveAppended 3 none 2 := ⟨tz_at 427 (by decide +kernel) rfl, tz_at 426 (by decide +kernel) rfl, tz_at 35 (by decide +kernel) rfl, ini_X4, ⟨by decide +kernel, by decide +kernel, by decide +kernel⟩⟩
theorem mX4_receiveSnapshot : tz_m yX4_receiveSnapshot cX4_receiveSnapshot 3 none 2 := ⟨tz_at 439 (by decide +kernel) rfl, tz_at 438 (by decide +kernel) rfl, tz_at 38 (by decide +kernel) rfl, ini_X4, ⟨by decide +kernel, by decide +kernel, by decide +kernel⟩⟩
theorem mX4_advanceCommit : tz_m yX4_advanceCommit cX4_advanceCommit 3 none 1 := ⟨tz_at 431 (by decide +kernel) rfl, tz_at 430 (by decide +kernel) rfl, tz_at 36 (by decide +kernel) rfl, ini_X4, ⟨by decide +kernel, by decide +kernel, by decide +kernel⟩⟩
theorem mX5_init : tz_i yX5_init cX5_init 5 3 := ⟨tz_at 513 (by decide +kernel) rfl, tz_at 512 (by decide +kernel) rfl, ini_X5, ⟨by decide +kernel, by decide +kernel, by decide +kernel⟩⟩
theorem mX5_clamp : tz_s yX5_clamp cX5_clamp 3 (some .int) 3 := ⟨tz_at 517 (by decide +kernel) rfl, tz_at 516 (by decide +kernel) rfl, ini_X5, ⟨by decide +kernel, by decide +kernel, by decide +kernel⟩⟩
theorem mX5_isNode : tz_m yX5_isNode cX5_isNode 2 (some .boolean) 1 := ⟨tz_at 607 (by decide +kernel) rfl, tz_at 606 (by decide +kernel) rfl, tz_at 39 (by decide +kernel) rfl, ini_X5, ⟨by decide +kernel, by decide +kernel, by decide +kernel⟩⟩
theorem mX5_lastOf : tz_m yX5_lastOf cX5_lastOf 2 (some .int) 1 := ⟨tz_at 623 (by decide +kernel) rfl, tz_at 622 (by decide +kernel) rfl, tz_at 43 (by decide +kernel) rfl, ini_X5, ⟨by decide +kernel, by decide +kernel, by decide +kernel⟩⟩
theorem mX5_hasEntry : tz_m yX5_hasEntry cX5_hasEntry 3 (some .boolean) 2 := ⟨tz_at 631 (by decide +kernel) rfl, tz_at 630 (by decide +kernel) rfl, tz_at 45 (by decide +kernel) rfl, ini_X5, ⟨by decide +kernel, by decide +kernel, by decide +kernel⟩⟩
theorem mX5_place : tz_m yX5_place cX5_place 3 (some .int) 2 := ⟨tz_at 635 (by decide +kernel) rfl, tz_at 634 (by decide +kernel) rfl, tz_at 46 (by decide +kernel) rfl, ini_X5, ⟨by decide +kernel, by decide +kernel, by decide +kernel⟩⟩
theorem mX5_termOf : tz_m yX5_termOf cX5_termOf 3 (some .int) 2 := ⟨tz_at 627 (by decide +kernel) rfl, tz_at 626 (by decide +kernel) rfl, tz_at 44 (by decide +kernel) rfl, ini_X5, ⟨by decide +kernel, by decide +kernel, by decide +kernel⟩⟩
theorem mX5_stateTo : tz_m yX5_stateTo cX5_stateTo 5 (some .int) 2 := ⟨tz_at 655 (by decide +kernel) rfl, tz_at 654 (by decide +kernel) rfl, tz_at 48 (by decide +kernel) rfl, ini_X5, ⟨by decide +kernel, by decide +kernel, by decide +kernel⟩⟩
theorem mX5_addEntry : tz_m yX5_addEntry cX5_addEntry 4 none 3 := ⟨tz_at 647 (by decide +kernel) rfl, tz_at 646 (by decide +kernel) rfl, tz_at 47 (by decide +kernel) rfl, ini_X5, ⟨by decide +kernel, by decide +kernel, by decide +kernel⟩⟩
theorem mX5_cutFront : tz_m yX5_cutFront cX5_cutFront 4 none 2 := ⟨tz_at 659 (by decide +kernel) rfl, tz_at 658 (by decide +kernel) rfl, tz_at 49 (by decide +kernel) rfl, ini_X5, ⟨by decide +kernel, by decide +kernel, by decide +kernel⟩⟩
theorem mX5_freeSlot : tz_m yX5_freeSlot cX5_freeSlot 3 (some .int) 0 := ⟨tz_at 619 (by decide +kernel) rfl, tz_at 618 (by decide +kernel) rfl, tz_at 42 (by decide +kernel) rfl, ini_X5, ⟨by decide +kernel, by decide +kernel, by decide +kernel⟩⟩
theorem mX5_waiting : tz_m yX5_waiting cX5_waiting 3 (some .int) 0 := ⟨tz_at 611 (by decide +kernel) rfl, tz_at 610 (by decide +kernel) rfl, tz_at 40 (by decide +kernel) rfl, ini_X5, ⟨by decide +kernel, by decide +kernel, by decide +kernel⟩⟩
theorem mX5_send : tz_m yX5_send cX5_send 5 (some .int) 3 := ⟨tz_at 615 (by decide +kernel) rfl, tz_at 614 (by decide +kernel) rfl, tz_at 41 (by decide +kernel) rfl, ini_X5, ⟨by decide +kernel, by decide +kernel, by decide +kernel⟩⟩
theorem mX5_answer : tz_m yX5_answer cX5_answer 7 none 5 := ⟨tz_at 679 (by decide +kernel) rfl, tz_at 678 (by decide +kernel) rfl, tz_at 53 (by decide +kernel) rfl, ini_X5, ⟨by decide +kernel, by decide +kernel, by decide +kernel⟩⟩
theorem mX5_timeout : tz_m yX5_timeout cX5_timeout 4 (some .int) 1 := ⟨tz_at 603 (by decide +kernel) rfl, tz_at 601 (by decide +kernel) rfl, tz_at 602 (by decide +kernel) rfl, ini_X5, ⟨by decide +kernel, by decide +kernel, by decide +kernel⟩⟩
theorem mX5_heartbeat : tz_m yX5_heartbeat cX5_heartbeat 5 (some .int) 2 := ⟨tz_at 639 (by decide +kernel) rfl, tz_at 637 (by decide +kernel) rfl, tz_at 638 (by decide +kernel) rfl, ini_X5, ⟨by decide +kernel, by decide +kernel, by decide +kernel⟩⟩
theorem mX5_propose : tz_m yX5_propose cX5_propose 3 (some .int) 2 := ⟨tz_at 643 (by decide +kernel) rfl, tz_at 641 (by decide +kernel) rfl, tz_at 642 (by decide +kernel) rfl, ini_X5, ⟨by decide +kernel, by decide +kernel, by decide +kernel⟩⟩
theorem mX5_compact : tz_m yX5_compact cX5_compact 5 (some .int) 1 := ⟨tz_at 651 (by decide +kernel) rfl, tz_at 649 (by decide +kernel) rfl, tz_at 650 (by decide +kernel) rfl, ini_X5, ⟨by decide +kernel, by decide +kernel, by decide +kernel⟩⟩
theorem mX5_isSlot : tz_m yX5_isSlot cX5_isSlot 2 (some .boolean) 1 := ⟨tz_at 667 (by decide +kernel) rfl, tz_at 666 (by decide +kernel) rfl, tz_at 50 (by decide +kernel) rfl, ini_X5, ⟨by decide +kernel, by decide +kernel, by decide +kernel⟩⟩
theorem mX5_deliver : tz_m yX5_deliver cX5_deliver 4 (some .int) 1 := ⟨tz_at 663 (by decide +kernel) rfl, tz_at 661 (by decide +kernel) rfl, tz_at 662 (by decide +kernel) rfl, ini_X5, ⟨by decide +kernel, by decide +kernel, by decide +kernel⟩⟩
theorem mX5_act : tz_m yX5_act cX5_act 5 none 4 := ⟨tz_at 671 (by decide +kernel) rfl, tz_at 670 (by decide +kernel) rfl, tz_at 51 (by decide +kernel) rfl, ini_X5, ⟨by decide +kernel, by decide +kernel, by decide +kernel⟩⟩
theorem mX5_asked : tz_m yX5_asked cX5_asked 7 none 3 := ⟨tz_at 675 (by decide +kernel) rfl, tz_at 674 (by decide +kernel) rfl, tz_at 52 (by decide +kernel) rfl, ini_X5, ⟨by decide +kernel, by decide +kernel, by decide +kernel⟩⟩
theorem mX5_isMost : tz_s yX5_isMost cX5_isMost 4 (some .boolean) 2 := ⟨tz_at 686 (by decide +kernel) rfl, tz_at 685 (by decide +kernel) rfl, ini_X5, ⟨by decide +kernel, by decide +kernel, by decide +kernel⟩⟩
theorem mX5_voted : tz_m yX5_voted cX5_voted 5 none 3 := ⟨tz_at 683 (by decide +kernel) rfl, tz_at 682 (by decide +kernel) rfl, tz_at 54 (by decide +kernel) rfl, ini_X5, ⟨by decide +kernel, by decide +kernel, by decide +kernel⟩⟩
theorem mX5_append : tz_m yX5_append cX5_append 7 none 3 := ⟨tz_at 690 (by decide +kernel) rfl, tz_at 689 (by decide +kernel) rfl, tz_at 55 (by decide +kernel) rfl, ini_X5, ⟨by decide +kernel, by decide +kernel, by decide +kernel⟩⟩
theorem mX5_takeEntry : tz_m yX5_takeEntry cX5_takeEntry 5 (some .int) 4 := ⟨tz_at 694 (by decide +kernel) rfl, tz_at 693 (by decide +kernel) rfl, tz_at 56 (by decide +kernel) rfl, ini_X5, ⟨by decide +kernel, by decide +kernel, by decide +kernel⟩⟩
theorem mX5_appended : tz_m yX5_appended cX5_appended 5 none 3 := ⟨tz_at 698 (by decide +kernel) rfl, tz_at 697 (by decide +kernel) rfl, tz_at 57 (by decide +kernel) rfl, ini_X5, ⟨by decide +kernel, by decide +kernel, by decide +kernel⟩⟩
theorem mX5_count : tz_m yX5_count cX5_count 6 none 1 := ⟨tz_at 702 (by decide +kernel) rfl, tz_at 701 (by decide +kernel) rfl, tz_at 58 (by decide +kernel) rfl, ini_X5, ⟨by decide +kernel, by decide +kernel, by decide +kernel⟩⟩
theorem mX5_snapshot : tz_m yX5_snapshot cX5_snapshot 6 none 3 := ⟨tz_at 706 (by decide +kernel) rfl, tz_at 705 (by decide +kernel) rfl, tz_at 59 (by decide +kernel) rfl, ini_X5, ⟨by decide +kernel, by decide +kernel, by decide +kernel⟩⟩
theorem mX5_drop : tz_m yX5_drop cX5_drop 2 (some .int) 1 := ⟨tz_at 710 (by decide +kernel) rfl, tz_at 708 (by decide +kernel) rfl, tz_at 709 (by decide +kernel) rfl, ini_X5, ⟨by decide +kernel, by decide +kernel, by decide +kernel⟩⟩
theorem mX5_duplicate : tz_m yX5_duplicate cX5_duplicate 3 (some .int) 1 := ⟨tz_at 714 (by decide +kernel) rfl, tz_at 712 (by decide +kernel) rfl, tz_at 713 (by decide +kernel) rfl, ini_X5, ⟨by decide +kernel, by decide +kernel, by decide +kernel⟩⟩
theorem mX5_crash : tz_m yX5_crash cX5_crash 2 (some .int) 1 := ⟨tz_at 718 (by decide +kernel) rfl, tz_at 716 (by decide +kernel) rfl, tz_at 717 (by decide +kernel) rfl, ini_X5, ⟨by decide +kernel, by decide +kernel, by decide +kernel⟩⟩
theorem mX5_restart : tz_m yX5_restart cX5_restart 2 (some .int) 1 := ⟨tz_at 722 (by decide +kernel) rfl, tz_at 720 (by decide +kernel) rfl, tz_at 721 (by decide +kernel) rfl, ini_X5, ⟨by decide +kernel, by decide +kernel, by decide +kernel⟩⟩
theorem mX5_role : tz_m yX5_role cX5_role 2 (some .int) 1 := ⟨tz_at 726 (by decide +kernel) rfl, tz_at 724 (by decide +kernel) rfl, tz_at 725 (by decide +kernel) rfl, ini_X5, ⟨by decide +kernel, by decide +kernel, by decide +kernel⟩⟩
theorem mX5_term : tz_m yX5_term cX5_term 2 (some .int) 1 := ⟨tz_at 730 (by decide +kernel) rfl, tz_at 728 (by decide +kernel) rfl, tz_at 729 (by decide +kernel) rfl, ini_X5, ⟨by decide +kernel, by decide +kernel, by decide +kernel⟩⟩
theorem mX5_vote : tz_m yX5_vote cX5_vote 2 (some .int) 1 := ⟨tz_at 734 (by decide +kernel) rfl, tz_at 732 (by decide +kernel) rfl, tz_at 733 (by decide +kernel) rfl, ini_X5, ⟨by decide +kernel, by decide +kernel, by decide +kernel⟩⟩
theorem mX5_base : tz_m yX5_base cX5_base 2 (some .int) 1 := ⟨tz_at 738 (by decide +kernel) rfl, tz_at 736 (by decide +kernel) rfl, tz_at 737 (by decide +kernel) rfl, ini_X5, ⟨by decide +kernel, by decide +kernel, by decide +kernel⟩⟩
theorem mX5_last : tz_m yX5_last cX5_last 2 (some .int) 1 := ⟨tz_at 742 (by decide +kernel) rfl, tz_at 740 (by decide +kernel) rfl, tz_at 741 (by decide +kernel) rfl, ini_X5, ⟨by decide +kernel, by decide +kernel, by decide +kernel⟩⟩
theorem mX5_commit : tz_m yX5_commit cX5_commit 2 (some .int) 1 := ⟨tz_at 746 (by decide +kernel) rfl, tz_at 744 (by decide +kernel) rfl, tz_at 745 (by decide +kernel) rfl, ini_X5, ⟨by decide +kernel, by decide +kernel, by decide +kernel⟩⟩
theorem mX5_termAt : tz_m yX5_termAt cX5_termAt 3 (some .int) 2 := ⟨tz_at 750 (by decide +kernel) rfl, tz_at 748 (by decide +kernel) rfl, tz_at 749 (by decide +kernel) rfl, ini_X5, ⟨by decide +kernel, by decide +kernel, by decide +kernel⟩⟩
theorem mX5_commandAt : tz_m yX5_commandAt cX5_commandAt 3 (some .int) 2 := ⟨tz_at 754 (by decide +kernel) rfl, tz_at 752 (by decide +kernel) rfl, tz_at 753 (by decide +kernel) rfl, ini_X5, ⟨by decide +kernel, by decide +kernel, by decide +kernel⟩⟩
theorem mX5_state : tz_m yX5_state cX5_state 2 (some .int) 1 := ⟨tz_at 758 (by decide +kernel) rfl, tz_at 756 (by decide +kernel) rfl, tz_at 757 (by decide +kernel) rfl, ini_X5, ⟨by decide +kernel, by decide +kernel, by decide +kernel⟩⟩
theorem mX5_peer : tz_m yX5_peer cX5_peer 3 (some .int) 2 := ⟨tz_at 762 (by decide +kernel) rfl, tz_at 760 (by decide +kernel) rfl, tz_at 761 (by decide +kernel) rfl, ini_X5, ⟨by decide +kernel, by decide +kernel, by decide +kernel⟩⟩
theorem mX5_pending : tz_m yX5_pending cX5_pending 1 (some .int) 0 := ⟨tz_at 767 (by decide +kernel) rfl, tz_at 765 (by decide +kernel) rfl, tz_at 766 (by decide +kernel) rfl, ini_X5, ⟨by decide +kernel, by decide +kernel, by decide +kernel⟩⟩
theorem mX5_slot : tz_m yX5_slot cX5_slot 2 (some .int) 1 := ⟨tz_at 771 (by decide +kernel) rfl, tz_at 769 (by decide +kernel) rfl, tz_at 770 (by decide +kernel) rfl, ini_X5, ⟨by decide +kernel, by decide +kernel, by decide +kernel⟩⟩
theorem mX0_init : tz_i yX0_init cX0_init 2 1 := ⟨tz_at 96 (by decide +kernel) rfl, tz_at 95 (by decide +kernel) rfl, ini_X0, ⟨by decide +kernel, by decide +kernel, by decide +kernel⟩⟩
theorem mX0_lastNumber : tz_m yX0_lastNumber cX0_lastNumber 1 (some .int) 0 := ⟨tz_at 281 (by decide +kernel) rfl, tz_at 280 (by decide +kernel) rfl, tz_at 6 (by decide +kernel) rfl, ini_X0, ⟨by decide +kernel, by decide +kernel, by decide +kernel⟩⟩
theorem mX0_lastTerm : tz_m yX0_lastTerm cX0_lastTerm 1 (some .int) 0 := ⟨tz_at 285 (by decide +kernel) rfl, tz_at 284 (by decide +kernel) rfl, tz_at 7 (by decide +kernel) rfl, ini_X0, ⟨by decide +kernel, by decide +kernel, by decide +kernel⟩⟩
theorem mX0_isFull : tz_m yX0_isFull cX0_isFull 1 (some .boolean) 0 := ⟨tz_at 334 (by decide +kernel) rfl, tz_at 333 (by decide +kernel) rfl, tz_at 17 (by decide +kernel) rfl, ini_X0, ⟨by decide +kernel, by decide +kernel, by decide +kernel⟩⟩
theorem mX0_hasEntry : tz_m yX0_hasEntry cX0_hasEntry 2 (some .boolean) 1 := ⟨tz_at 321 (by decide +kernel) rfl, tz_at 320 (by decide +kernel) rfl, tz_at 15 (by decide +kernel) rfl, ini_X0, ⟨by decide +kernel, by decide +kernel, by decide +kernel⟩⟩
theorem mX0_termOf : tz_m yX0_termOf cX0_termOf 2 (some .int) 1 := ⟨tz_at 317 (by decide +kernel) rfl, tz_at 316 (by decide +kernel) rfl, tz_at 14 (by decide +kernel) rfl, ini_X0, ⟨by decide +kernel, by decide +kernel, by decide +kernel⟩⟩
theorem mX0_commandOf : tz_m yX0_commandOf cX0_commandOf 2 (some .int) 1 := ⟨tz_at 326 (by decide +kernel) rfl, tz_at 325 (by decide +kernel) rfl, tz_at 16 (by decide +kernel) rfl, ini_X0, ⟨by decide +kernel, by decide +kernel, by decide +kernel⟩⟩
theorem mX0_stateUpTo : tz_m yX0_stateUpTo cX0_stateUpTo 4 (some .int) 1 := ⟨tz_at 347 (by decide +kernel) rfl, tz_at 346 (by decide +kernel) rfl, tz_at 19 (by decide +kernel) rfl, ini_X0, ⟨by decide +kernel, by decide +kernel, by decide +kernel⟩⟩
theorem mX0_isNotAheadOf : tz_m yX0_isNotAheadOf cX0_isNotAheadOf 3 (some .boolean) 2 := ⟨tz_at 380 (by decide +kernel) rfl, tz_at 379 (by decide +kernel) rfl, tz_at 25 (by decide +kernel) rfl, ini_X0, ⟨by decide +kernel, by decide +kernel, by decide +kernel⟩⟩
theorem mX0_add : tz_m yX0_add cX0_add 3 none 2 := ⟨tz_at 338 (by decide +kernel) rfl, tz_at 337 (by decide +kernel) rfl, tz_at 18 (by decide +kernel) rfl, ini_X0, ⟨by decide +kernel, by decide +kernel, by decide +kernel⟩⟩
theorem mX0_cutFrom : tz_m yX0_cutFrom cX0_cutFrom 2 none 1 := ⟨tz_at 421 (by decide +kernel) rfl, tz_at 420 (by decide +kernel) rfl, tz_at 34 (by decide +kernel) rfl, ini_X0, ⟨by decide +kernel, by decide +kernel, by decide +kernel⟩⟩
theorem mX0_rebase : tz_m yX0_rebase cX0_rebase 6 none 3 := ⟨tz_at 351 (by decide +kernel) rfl, tz_at 350 (by decide +kernel) rfl, tz_at 20 (by decide +kernel) rfl, ini_X0, ⟨by decide +kernel, by decide +kernel, by decide +kernel⟩⟩
theorem mX1_init : tz_i yX1_init cX1_init 1 0 := ⟨tz_at 174 (by decide +kernel) rfl, tz_at 173 (by decide +kernel) rfl, ini_X1, ⟨by decide +kernel, by decide +kernel, by decide +kernel⟩⟩
theorem mX1_begin : tz_m yX1_begin cX1_begin 5 none 4 := ⟨tz_at 277 (by decide +kernel) rfl, tz_at 276 (by decide +kernel) rfl, tz_at 5 (by decide +kernel) rfl, ini_X1, ⟨by decide +kernel, by decide +kernel, by decide +kernel⟩⟩
theorem mX1_copy : tz_m yX1_copy cX1_copy 2 none 1 := ⟨tz_at 297 (by decide +kernel) rfl, tz_at 296 (by decide +kernel) rfl, tz_at 10 (by decide +kernel) rfl, ini_X1, ⟨by decide +kernel, by decide +kernel, by decide +kernel⟩⟩
theorem mX2_init : tz_i yX2_init cX2_init 3 1 := ⟨tz_at 167 (by decide +kernel) rfl, tz_at 166 (by decide +kernel) rfl, ini_X2, ⟨by decide +kernel, by decide +kernel, by decide +kernel⟩⟩
theorem mX2_isSlot : tz_m yX2_isSlot cX2_isSlot 2 (some .boolean) 1 := ⟨tz_at 361 (by decide +kernel) rfl, tz_at 360 (by decide +kernel) rfl, tz_at 21 (by decide +kernel) rfl, ini_X2, ⟨by decide +kernel, by decide +kernel, by decide +kernel⟩⟩
theorem mX2_isFree : tz_m yX2_isFree cX2_isFree 2 (some .boolean) 1 := ⟨tz_at 293 (by decide +kernel) rfl, tz_at 292 (by decide +kernel) rfl, tz_at 9 (by decide +kernel) rfl, ini_X2, ⟨by decide +kernel, by decide +kernel, by decide +kernel⟩⟩
theorem mX2_countFree : tz_m yX2_countFree cX2_countFree 1 (some .int) 0 := ⟨tz_at 261 (by decide +kernel) rfl, tz_at 260 (by decide +kernel) rfl, tz_at 1 (by decide +kernel) rfl, ini_X2, ⟨by decide +kernel, by decide +kernel, by decide +kernel⟩⟩
theorem mX2_put : tz_m yX2_put cX2_put 3 (some .int) 1 := ⟨tz_at 289 (by decide +kernel) rfl, tz_at 288 (by decide +kernel) rfl, tz_at 8 (by decide +kernel) rfl, ini_X2, ⟨by decide +kernel, by decide +kernel, by decide +kernel⟩⟩
theorem mX2_clear : tz_m yX2_clear cX2_clear 2 none 1 := ⟨tz_at 367 (by decide +kernel) rfl, tz_at 366 (by decide +kernel) rfl, tz_at 22 (by decide +kernel) rfl, ini_X2, ⟨by decide +kernel, by decide +kernel, by decide +kernel⟩⟩
theorem mX3_init : tz_i yX3_init cX3_init 4 3 := ⟨tz_at 90 (by decide +kernel) rfl, tz_at 89 (by decide +kernel) rfl, ini_X3, ⟨by decide +kernel, by decide +kernel, by decide +kernel⟩⟩
theorem mX3_enterTerm : tz_m yX3_enterTerm cX3_enterTerm 2 none 1 := ⟨tz_at 269 (by decide +kernel) rfl, tz_at 268 (by decide +kernel) rfl, tz_at 3 (by decide +kernel) rfl, ini_X3, ⟨by decide +kernel, by decide +kernel, by decide +kernel⟩⟩
theorem mX3_stand : tz_m yX3_stand cX3_stand 2 none 0 := ⟨tz_at 265 (by decide +kernel) rfl, tz_at 264 (by decide +kernel) rfl, tz_at 2 (by decide +kernel) rfl, ini_X3, ⟨by decide +kernel, by decide +kernel, by decide +kernel⟩⟩
theorem mX3_lead : tz_m yX3_lead cX3_lead 2 none 0 := ⟨tz_at 402 (by decide +kernel) rfl, tz_at 401 (by decide +kernel) rfl, tz_at 30 (by decide +kernel) rfl, ini_X3, ⟨by decide +kernel, by decide +kernel, by decide +kernel⟩⟩
theorem mX3_takeEntry : tz_m yX3_takeEntry cX3_takeEntry 4 none 3 := ⟨tz_at 415 (by decide +kernel) rfl, tz_at 414 (by decide +kernel) rfl, tz_at 33 (by decide +kernel) rfl, ini_X3, ⟨by decide +kernel, by decide +kernel, by decide +kernel⟩⟩
theorem mX3_countVoters : tz_m yX3_countVoters cX3_countVoters 3 (some .int) 0 := ⟨tz_at 394 (by decide +kernel) rfl, tz_at 393 (by decide +kernel) rfl, tz_at 28 (by decide +kernel) rfl, ini_X3, ⟨by decide +kernel, by decide +kernel, by decide +kernel⟩⟩
theorem mX3_countHolders : tz_m yX3_countHolders cX3_countHolders 4 (some .int) 1 := ⟨tz_at 435 (by decide +kernel) rfl, tz_at 434 (by decide +kernel) rfl, tz_at 37 (by decide +kernel) rfl, ini_X3, ⟨by decide +kernel, by decide +kernel, by decide +kernel⟩⟩
theorem mL_cell : tz_s yL_cell cL_cell 2 (some .int) 2 := ⟨tz_at 508 (by decide +kernel) rfl, tz_at 507 (by decide +kernel) rfl, ini_L, ⟨by decide +kernel, by decide +kernel, by decide +kernel⟩⟩
def qn_ws : List Cond := [.fieldLinkNest RX4 76 "QuorumLog$Log" "base" "I" RX4, .fieldLinkNest RX4 202 "QuorumLog$Log" "baseTerm" "I" RX4, .fieldLinkNest RX4 205 "QuorumLog$Log" "baseState" "I" RX4, .fieldLinkNest RX4 171 "QuorumLog$Node" "self" "I" RX4, .fieldLinkNest RX4 45 "QuorumLog$Node" "up" "Z" RX4, .fieldLinkNest RX4 49 "QuorumLog$Node" "role" "I" RX4, .fieldLinkNest RX4 91 "QuorumLog$Node" "term" "I" RX4, .fieldLinkNest RX4 145 "QuorumLog$Node" "vote" "I" RX4, .fieldLinkNest RX4 101 "QuorumLog$Node" "commit" "I" RX4, .fieldLinkNest RX4 72 "QuorumLog$Node" "log" "LQuorumLog$Log;" RX4, .fieldLinkNest RX4 236 "QuorumLog$Node" "voters" "[Z" RX4, .fieldLinkNest RX4 68 "QuorumLog$Node" "next" "[I" RX4, .fieldLinkNest RX4 151 "QuorumLog$Node" "match" "[I" RX4, .fieldLinkNest RX2 18 "QuorumLog$Message" "kind" "I" RX4, .fieldLinkNest RX4 138 "QuorumLog$Message" "kind" "I" RX4, .fieldLinkNest RX4 158 "QuorumLog$Message" "from" "I" RX4, .fieldLinkNest RX4 131 "QuorumLog$Message" "to" "I" RX4, .fieldLinkNest RX4 161 "QuorumLog$Message" "term" "I" RX4, .fieldLinkNest RX4 178 "QuorumLog$Message" "number" "I" RX4, .fieldLinkNest RX4 184 "QuorumLog$Message" "numberTerm" "I" RX4, .fieldLinkNest RX4 187 "QuorumLog$Message" "yes" "Z" RX4, .fieldLinkNest RX4 193 "QuorumLog$Message" "hasEntry" "Z" RX4, .fieldLinkNest RX4 195 "QuorumLog$Message" "entryTerm" "I" RX4, .fieldLinkNest RX4 198 "QuorumLog$Message" "entryCommand" "I" RX4, .fieldLinkNest RX4 201 "QuorumLog$Message" "commit" "I" RX4, .fieldLinkNest RX4 208 "QuorumLog$Message" "state" "I" RX4, .fieldLinkNest RX4 120 "QuorumLog$Net" "messages" "[LQuorumLog$Message;" RX4, .fieldLinkNest RX4 155 "QuorumLog$Net" "waiting" "I" RX4, .methodLinkNest RX4 19 yX3_init RX4, .methodLinkNest RX3 27 yX0_init RX4, .methodLinkNest RX4 24 yX2_init RX4, .methodLinkNest RX2 17 yX1_init RX4, .methodLinkNest RX4 33 yX1_init RX4, .methodLinkNest RX4 53 yX2_countFree RX4, .methodLinkNest RX4 57 yX3_stand RX4, .methodLinkNest RX4 174 yX1_begin RX4, .methodLinkNest RX4 98 yX0_lastNumber RX4, .methodLinkNest RX4 181 yX0_lastTerm RX4, .methodLinkNest RX4 141 yX2_put RX4, .methodLinkNest RX2 29 yX1_copy RX4, .methodLinkNest RX4 104 yX0_termOf RX4, .methodLinkNest RX4 190 yX0_hasEntry RX4, .methodLinkNest RX4 148 yX0_commandOf RX4, .methodLinkNest RX4 87 yX0_isFull RX4, .methodLinkNest RX4 94 yX0_add RX4, .methodLinkNest RX4 108 yX0_stateUpTo RX4, .methodLinkNest RX4 111 yX0_rebase RX4, .methodLinkNest RX4 114 yX2_isSlot RX4, .methodLinkNest RX4 117 yX2_isFree RX4, .methodLinkNest RX4 124 yX1_copy RX4, .methodLinkNest RX4 128 yX2_clear RX4, .methodLinkNest RX4 211 yX3_enterTerm RX4, .methodLinkNest RX4 229 yX0_isNotAheadOf RX4, .methodLinkNest RX4 240 yX3_countVoters RX4, .methodLinkNest RX4 246 yX3_lead RX4, .methodLinkNest RX3 51 yX0_lastNumber RX4, .methodLinkNest RX4 253 yX3_takeEntry RX4, .methodLinkNest RX3 55 yX0_hasEntry RX4, .methodLinkNest RX3 59 yX0_termOf RX4, .methodLinkNest RX3 63 yX0_cutFrom RX4, .methodLinkNest RX3 75 yX0_add RX4, .methodLinkNest RX4 263 yX3_countHolders RX4, .methodLinkNest RX4 260 yX0_cutFrom RX4]
theorem nX4_76 : Cond.fieldLinkNest RX4 76 "QuorumLog$Log" "base" "I" RX4 ∈ qn_ws := List.mem_of_getElem? (i := 0) rfl
theorem nX4_202 : Cond.fieldLinkNest RX4 202 "QuorumLog$Log" "baseTerm" "I" RX4 ∈ qn_ws := List.mem_of_getElem? (i := 1) rfl
theorem nX4_205 : Cond.fieldLinkNest RX4 205 "QuorumLog$Log" "baseState" "I" RX4 ∈ qn_ws := List.mem_of_getElem? (i := 2) rfl
theorem nX4_171 : Cond.fieldLinkNest RX4 171 "QuorumLog$Node" "self" "I" RX4 ∈ qn_ws := List.mem_of_getElem? (i := 3) rfl
theorem nX4_45 : Cond.fieldLinkNest RX4 45 "QuorumLog$Node" "up" "Z" RX4 ∈ qn_ws := List.mem_of_getElem? (i := 4) rfl
theorem nX4_49 : Cond.fieldLinkNest RX4 49 "QuorumLog$Node" "role" "I" RX4 ∈ qn_ws := List.mem_of_getElem? (i := 5) rfl
theorem nX4_91 : Cond.fieldLinkNest RX4 91 "QuorumLog$Node" "term" "I" RX4 ∈ qn_ws := List.mem_of_getElem? (i := 6) rfl
theorem nX4_145 : Cond.fieldLinkNest RX4 145 "QuorumLog$Node" "vote" "I" RX4 ∈ qn_ws := List.mem_of_getElem? (i := 7) rfl
theorem nX4_101 : Cond.fieldLinkNest RX4 101 "QuorumLog$Node" "commit" "I" RX4 ∈ qn_ws := List.mem_of_getElem? (i := 8) rfl
theorem nX4_72 : Cond.fieldLinkNest RX4 72 "QuorumLog$Node" "log" "LQuorumLog$Log;" RX4 ∈ qn_ws := List.mem_of_getElem? (i := 9) rfl
theorem nX4_236 : Cond.fieldLinkNest RX4 236 "QuorumLog$Node" "voters" "[Z" RX4 ∈ qn_ws := List.mem_of_getElem? (i := 10) rfl
theorem nX4_68 : Cond.fieldLinkNest RX4 68 "QuorumLog$Node" "next" "[I" RX4 ∈ qn_ws := List.mem_of_getElem? (i := 11) rfl
theorem nX4_151 : Cond.fieldLinkNest RX4 151 "QuorumLog$Node" "match" "[I" RX4 ∈ qn_ws := List.mem_of_getElem? (i := 12) rfl
theorem nX2_18 : Cond.fieldLinkNest RX2 18 "QuorumLog$Message" "kind" "I" RX4 ∈ qn_ws := List.mem_of_getElem? (i := 13) rfl
theorem nX4_138 : Cond.fieldLinkNest RX4 138 "QuorumLog$Message" "kind" "I" RX4 ∈ qn_ws := List.mem_of_getElem? (i := 14) rfl
theorem nX4_158 : Cond.fieldLinkNest RX4 158 "QuorumLog$Message" "from" "I" RX4 ∈ qn_ws := List.mem_of_getElem? (i := 15) rfl
theorem nX4_131 : Cond.fieldLinkNest RX4 131 "QuorumLog$Message" "to" "I" RX4 ∈ qn_ws := List.mem_of_getElem? (i := 16) rfl
theorem nX4_161 : Cond.fieldLinkNest RX4 161 "QuorumLog$Message" "term" "I" RX4 ∈ qn_ws := List.mem_of_getElem? (i := 17) rfl
theorem nX4_178 : Cond.fieldLinkNest RX4 178 "QuorumLog$Message" "number" "I" RX4 ∈ qn_ws := List.mem_of_getElem? (i := 18) rfl
theorem nX4_184 : Cond.fieldLinkNest RX4 184 "QuorumLog$Message" "numberTerm" "I" RX4 ∈ qn_ws := List.mem_of_getElem? (i := 19) rfl
theorem nX4_187 : Cond.fieldLinkNest RX4 187 "QuorumLog$Message" "yes" "Z" RX4 ∈ qn_ws := List.mem_of_getElem? (i := 20) rfl
theorem nX4_193 : Cond.fieldLinkNest RX4 193 "QuorumLog$Message" "hasEntry" "Z" RX4 ∈ qn_ws := List.mem_of_getElem? (i := 21) rfl
theorem nX4_195 : Cond.fieldLinkNest RX4 195 "QuorumLog$Message" "entryTerm" "I" RX4 ∈ qn_ws := List.mem_of_getElem? (i := 22) rfl
theorem nX4_198 : Cond.fieldLinkNest RX4 198 "QuorumLog$Message" "entryCommand" "I" RX4 ∈ qn_ws := List.mem_of_getElem? (i := 23) rfl
theorem nX4_201 : Cond.fieldLinkNest RX4 201 "QuorumLog$Message" "commit" "I" RX4 ∈ qn_ws := List.mem_of_getElem? (i := 24) rfl
theorem nX4_208 : Cond.fieldLinkNest RX4 208 "QuorumLog$Message" "state" "I" RX4 ∈ qn_ws := List.mem_of_getElem? (i := 25) rfl
theorem nX4_120 : Cond.fieldLinkNest RX4 120 "QuorumLog$Net" "messages" "[LQuorumLog$Message;" RX4 ∈ qn_ws := List.mem_of_getElem? (i := 26) rfl
theorem nX4_155 : Cond.fieldLinkNest RX4 155 "QuorumLog$Net" "waiting" "I" RX4 ∈ qn_ws := List.mem_of_getElem? (i := 27) rfl
theorem nX4_19 : Cond.methodLinkNest RX4 19 yX3_init RX4 ∈ qn_ws := List.mem_of_getElem? (i := 28) rfl
theorem nX3_27 : Cond.methodLinkNest RX3 27 yX0_init RX4 ∈ qn_ws := List.mem_of_getElem? (i := 29) rfl
theorem nX4_24 : Cond.methodLinkNest RX4 24 yX2_init RX4 ∈ qn_ws := List.mem_of_getElem? (i := 30) rfl
theorem nX2_17 : Cond.methodLinkNest RX2 17 yX1_init RX4 ∈ qn_ws := List.mem_of_getElem? (i := 31) rfl
theorem nX4_33 : Cond.methodLinkNest RX4 33 yX1_init RX4 ∈ qn_ws := List.mem_of_getElem? (i := 32) rfl
theorem nX4_53 : Cond.methodLinkNest RX4 53 yX2_countFree RX4 ∈ qn_ws := List.mem_of_getElem? (i := 33) rfl
theorem nX4_57 : Cond.methodLinkNest RX4 57 yX3_stand RX4 ∈ qn_ws := List.mem_of_getElem? (i := 34) rfl
theorem nX4_174 : Cond.methodLinkNest RX4 174 yX1_begin RX4 ∈ qn_ws := List.mem_of_getElem? (i := 35) rfl
theorem nX4_98 : Cond.methodLinkNest RX4 98 yX0_lastNumber RX4 ∈ qn_ws := List.mem_of_getElem? (i := 36) rfl
theorem nX4_181 : Cond.methodLinkNest RX4 181 yX0_lastTerm RX4 ∈ qn_ws := List.mem_of_getElem? (i := 37) rfl
theorem nX4_141 : Cond.methodLinkNest RX4 141 yX2_put RX4 ∈ qn_ws := List.mem_of_getElem? (i := 38) rfl
theorem nX2_29 : Cond.methodLinkNest RX2 29 yX1_copy RX4 ∈ qn_ws := List.mem_of_getElem? (i := 39) rfl
theorem nX4_104 : Cond.methodLinkNest RX4 104 yX0_termOf RX4 ∈ qn_ws := List.mem_of_getElem? (i := 40) rfl
theorem nX4_190 : Cond.methodLinkNest RX4 190 yX0_hasEntry RX4 ∈ qn_ws := List.mem_of_getElem? (i := 41) rfl
theorem nX4_148 : Cond.methodLinkNest RX4 148 yX0_commandOf RX4 ∈ qn_ws := List.mem_of_getElem? (i := 42) rfl
theorem nX4_87 : Cond.methodLinkNest RX4 87 yX0_isFull RX4 ∈ qn_ws := List.mem_of_getElem? (i := 43) rfl
theorem nX4_94 : Cond.methodLinkNest RX4 94 yX0_add RX4 ∈ qn_ws := List.mem_of_getElem? (i := 44) rfl
theorem nX4_108 : Cond.methodLinkNest RX4 108 yX0_stateUpTo RX4 ∈ qn_ws := List.mem_of_getElem? (i := 45) rfl
theorem nX4_111 : Cond.methodLinkNest RX4 111 yX0_rebase RX4 ∈ qn_ws := List.mem_of_getElem? (i := 46) rfl
theorem nX4_114 : Cond.methodLinkNest RX4 114 yX2_isSlot RX4 ∈ qn_ws := List.mem_of_getElem? (i := 47) rfl
theorem nX4_117 : Cond.methodLinkNest RX4 117 yX2_isFree RX4 ∈ qn_ws := List.mem_of_getElem? (i := 48) rfl
theorem nX4_124 : Cond.methodLinkNest RX4 124 yX1_copy RX4 ∈ qn_ws := List.mem_of_getElem? (i := 49) rfl
theorem nX4_128 : Cond.methodLinkNest RX4 128 yX2_clear RX4 ∈ qn_ws := List.mem_of_getElem? (i := 50) rfl
theorem nX4_211 : Cond.methodLinkNest RX4 211 yX3_enterTerm RX4 ∈ qn_ws := List.mem_of_getElem? (i := 51) rfl
theorem nX4_229 : Cond.methodLinkNest RX4 229 yX0_isNotAheadOf RX4 ∈ qn_ws := List.mem_of_getElem? (i := 52) rfl
theorem nX4_240 : Cond.methodLinkNest RX4 240 yX3_countVoters RX4 ∈ qn_ws := List.mem_of_getElem? (i := 53) rfl
theorem nX4_246 : Cond.methodLinkNest RX4 246 yX3_lead RX4 ∈ qn_ws := List.mem_of_getElem? (i := 54) rfl
theorem nX3_51 : Cond.methodLinkNest RX3 51 yX0_lastNumber RX4 ∈ qn_ws := List.mem_of_getElem? (i := 55) rfl
theorem nX4_253 : Cond.methodLinkNest RX4 253 yX3_takeEntry RX4 ∈ qn_ws := List.mem_of_getElem? (i := 56) rfl
theorem nX3_55 : Cond.methodLinkNest RX3 55 yX0_hasEntry RX4 ∈ qn_ws := List.mem_of_getElem? (i := 57) rfl
theorem nX3_59 : Cond.methodLinkNest RX3 59 yX0_termOf RX4 ∈ qn_ws := List.mem_of_getElem? (i := 58) rfl
theorem nX3_63 : Cond.methodLinkNest RX3 63 yX0_cutFrom RX4 ∈ qn_ws := List.mem_of_getElem? (i := 59) rfl
theorem nX3_75 : Cond.methodLinkNest RX3 75 yX0_add RX4 ∈ qn_ws := List.mem_of_getElem? (i := 60) rfl
theorem nX4_263 : Cond.methodLinkNest RX4 263 yX3_countHolders RX4 ∈ qn_ws := List.mem_of_getElem? (i := 61) rfl
theorem nX4_260 : Cond.methodLinkNest RX4 260 yX0_cutFrom RX4 ∈ qn_ws := List.mem_of_getElem? (i := 62) rfl
theorem qn_in : ∀ w ∈ qn_ws, w ∈ lw_tbl := by decide +kernel
end
section
theorem dX4_init_0 : decode cX4_init 0 = .ok (.aload_n 0, 1) := by decide +kernel
theorem dX4_init_1 : decode cX4_init 1 = .ok (.invokespecial 1, 3) := by decide +kernel
theorem dX4_init_4 : decode cX4_init 4 = .ok (.iload_n 1, 1) := by decide +kernel
theorem dX4_init_5 : decode cX4_init 5 = .ok (.iconst 3, 1) := by decide +kernel
theorem dX4_init_6 : decode cX4_init 6 = .ok (.iconst 5, 1) := by decide +kernel
theorem dX4_init_7 : decode cX4_init 7 = .ok (.invokestatic 7, 3) := by decide +kernel
theorem dX4_init_10 : decode cX4_init 10 = .ok (.istore 4, 2) := by decide +kernel
theorem dX4_init_12 : decode cX4_init 12 = .ok (.iload_n 2, 1) := by decide +kernel
theorem dX4_init_13 : decode cX4_init 13 = .ok (.iconst 1, 1) := by decide +kernel
theorem dX4_init_14 : decode cX4_init 14 = .ok (.bipush 12, 2) := by decide +kernel
theorem dX4_init_16 : decode cX4_init 16 = .ok (.invokestatic 7, 3) := by decide +kernel
theorem dX4_init_19 : decode cX4_init 19 = .ok (.istore 5, 2) := by decide +kernel
theorem dX4_init_21 : decode cX4_init 21 = .ok (.aload_n 0, 1) := by decide +kernel
theorem dX4_init_22 : decode cX4_init 22 = .ok (.iload 4, 2) := by decide +kernel
theorem dX4_init_24 : decode cX4_init 24 = .ok (.anewarray 13, 3) := by decide +kernel
theorem dX4_init_27 : decode cX4_init 27 = .ok (.putfield 15, 3) := by decide +kernel
theorem dX4_init_30 : decode cX4_init 30 = .ok (.iconst 0, 1) := by decide +kernel
theorem dX4_init_31 : decode cX4_init 31 = .ok (.istore 6, 2) := by decide +kernel
theorem dX4_init_33 : decode cX4_init 33 = .ok (.iload 6, 2) := by decide +kernel
theorem dX4_init_35 : decode cX4_init 35 = .ok (.iload 4, 2) := by decide +kernel
theorem dX4_init_37 : decode cX4_init 37 = .ok (.if_icmp .ge 29, 3) := by decide +kernel
theorem dX4_init_40 : decode cX4_init 40 = .ok (.aload_n 0, 1) := by decide +kernel
theorem dX4_init_41 : decode cX4_init 41 = .ok (.getfield 15, 3) := by decide +kernel
theorem dX4_init_44 : decode cX4_init 44 = .ok (.iload 6, 2) := by decide +kernel
theorem dX4_init_46 : decode cX4_init 46 = .ok (.new 13, 3) := by decide +kernel
theorem dX4_init_49 : decode cX4_init 49 = .ok (.dup, 1) := by decide +kernel
theorem dX4_init_50 : decode cX4_init 50 = .ok (.iload 6, 2) := by decide +kernel
theorem dX4_init_52 : decode cX4_init 52 = .ok (.iload 4, 2) := by decide +kernel
theorem dX4_init_54 : decode cX4_init 54 = .ok (.iload 5, 2) := by decide +kernel
theorem dX4_init_56 : decode cX4_init 56 = .ok (.invokespecial 19, 3) := by decide +kernel
theorem dX4_init_59 : decode cX4_init 59 = .ok (.aastore, 1) := by decide +kernel
theorem dX4_init_60 : decode cX4_init 60 = .ok (.iinc 6 1, 3) := by decide +kernel
theorem dX4_init_63 : decode cX4_init 63 = .ok (.goto (-30), 3) := by decide +kernel
theorem dX4_init_66 : decode cX4_init 66 = .ok (.aload_n 0, 1) := by decide +kernel
theorem dX4_init_67 : decode cX4_init 67 = .ok (.new 22, 3) := by decide +kernel
theorem dX4_init_70 : decode cX4_init 70 = .ok (.dup, 1) := by decide +kernel
theorem dX4_init_71 : decode cX4_init 71 = .ok (.iload_n 3, 1) := by decide +kernel
theorem dX4_init_72 : decode cX4_init 72 = .ok (.bipush 8, 2) := by decide +kernel
theorem dX4_init_74 : decode cX4_init 74 = .ok (.bipush 40, 2) := by decide +kernel
theorem dX4_init_76 : decode cX4_init 76 = .ok (.invokestatic 7, 3) := by decide +kernel
theorem dX4_init_79 : decode cX4_init 79 = .ok (.invokespecial 24, 3) := by decide +kernel
theorem dX4_init_82 : decode cX4_init 82 = .ok (.putfield 27, 3) := by decide +kernel
theorem dX4_init_85 : decode cX4_init 85 = .ok (.aload_n 0, 1) := by decide +kernel
theorem dX4_init_86 : decode cX4_init 86 = .ok (.new 31, 3) := by decide +kernel
theorem dX4_init_89 : decode cX4_init 89 = .ok (.dup, 1) := by decide +kernel
theorem dX4_init_90 : decode cX4_init 90 = .ok (.invokespecial 33, 3) := by decide +kernel
theorem dX4_init_93 : decode cX4_init 93 = .ok (.putfield 34, 3) := by decide +kernel
theorem dX4_init_96 : decode cX4_init 96 = .ok (.aload_n 0, 1) := by decide +kernel
theorem dX4_init_97 : decode cX4_init 97 = .ok (.new 31, 3) := by decide +kernel
theorem dX4_init_100 : decode cX4_init 100 = .ok (.dup, 1) := by decide +kernel
theorem dX4_init_101 : decode cX4_init 101 = .ok (.invokespecial 33, 3) := by decide +kernel
theorem dX4_init_104 : decode cX4_init 104 = .ok (.putfield 38, 3) := by decide +kernel
theorem dX4_init_107 : decode cX4_init 107 = .ok (.return_, 1) := by decide +kernel
theorem dX4_timeout_0 : decode cX4_timeout 0 = .ok (.aload_n 0, 1) := by decide +kernel
theorem dX4_timeout_1 : decode cX4_timeout 1 = .ok (.iload_n 1, 1) := by decide +kernel
theorem dX4_timeout_2 : decode cX4_timeout 2 = .ok (.invokevirtual 41, 3) := by decide +kernel
theorem dX4_timeout_5 : decode cX4_timeout 5 = .ok (.ifCond .ne 5, 3) := by decide +kernel
theorem dX4_timeout_8 : decode cX4_timeout 8 = .ok (.iconst (-1), 1) := by decide +kernel
theorem dX4_timeout_9 : decode cX4_timeout 9 = .ok (.ireturn, 1) := by decide +kernel
theorem dX4_timeout_10 : decode cX4_timeout 10 = .ok (.aload_n 0, 1) := by decide +kernel
theorem dX4_timeout_11 : decode cX4_timeout 11 = .ok (.getfield 15, 3) := by decide +kernel
theorem dX4_timeout_14 : decode cX4_timeout 14 = .ok (.iload_n 1, 1) := by decide +kernel
theorem dX4_timeout_15 : decode cX4_timeout 15 = .ok (.aaload, 1) := by decide +kernel
theorem dX4_timeout_16 : decode cX4_timeout 16 = .ok (.astore_n 2, 1) := by decide +kernel
theorem dX4_timeout_17 : decode cX4_timeout 17 = .ok (.aload_n 2, 1) := by decide +kernel
theorem dX4_timeout_18 : decode cX4_timeout 18 = .ok (.getfield 45, 3) := by decide +kernel
theorem dX4_timeout_21 : decode cX4_timeout 21 = .ok (.ifCond .ne 6, 3) := by decide +kernel
theorem dX4_timeout_24 : decode cX4_timeout 24 = .ok (.bipush (-2), 2) := by decide +kernel
theorem dX4_timeout_26 : decode cX4_timeout 26 = .ok (.ireturn, 1) := by decide +kernel
theorem dX4_timeout_27 : decode cX4_timeout 27 = .ok (.aload_n 2, 1) := by decide +kernel
theorem dX4_timeout_28 : decode cX4_timeout 28 = .ok (.getfield 49, 3) := by decide +kernel
theorem dX4_timeout_31 : decode cX4_timeout 31 = .ok (.iconst 2, 1) := by decide +kernel
theorem dX4_timeout_32 : decode cX4_timeout 32 = .ok (.if_icmp .ne 6, 3) := by decide +kernel
theorem dX4_timeout_35 : decode cX4_timeout 35 = .ok (.bipush (-3), 2) := by decide +kernel
theorem dX4_timeout_37 : decode cX4_timeout 37 = .ok (.ireturn, 1) := by decide +kernel
theorem dX4_timeout_38 : decode cX4_timeout 38 = .ok (.aload_n 0, 1) := by decide +kernel
theorem dX4_timeout_39 : decode cX4_timeout 39 = .ok (.getfield 27, 3) := by decide +kernel
theorem dX4_timeout_42 : decode cX4_timeout 42 = .ok (.invokevirtual 53, 3) := by decide +kernel
theorem dX4_timeout_45 : decode cX4_timeout 45 = .ok (.aload_n 0, 1) := by decide +kernel
theorem dX4_timeout_46 : decode cX4_timeout 46 = .ok (.getfield 15, 3) := by decide +kernel
theorem dX4_timeout_49 : decode cX4_timeout 49 = .ok (.arraylength, 1) := by decide +kernel
theorem dX4_timeout_50 : decode cX4_timeout 50 = .ok (.iconst 1, 1) := by decide +kernel
theorem dX4_timeout_51 : decode cX4_timeout 51 = .ok (.isub, 1) := by decide +kernel
theorem dX4_timeout_52 : decode cX4_timeout 52 = .ok (.if_icmp .ge 6, 3) := by decide +kernel
theorem dX4_timeout_55 : decode cX4_timeout 55 = .ok (.bipush (-4), 2) := by decide +kernel
theorem dX4_timeout_57 : decode cX4_timeout 57 = .ok (.ireturn, 1) := by decide +kernel
theorem dX4_timeout_58 : decode cX4_timeout 58 = .ok (.aload_n 2, 1) := by decide +kernel
theorem dX4_timeout_59 : decode cX4_timeout 59 = .ok (.invokevirtual 57, 3) := by decide +kernel
theorem dX4_timeout_62 : decode cX4_timeout 62 = .ok (.iconst 0, 1) := by decide +kernel
theorem dX4_timeout_63 : decode cX4_timeout 63 = .ok (.istore_n 3, 1) := by decide +kernel
theorem dX4_timeout_64 : decode cX4_timeout 64 = .ok (.iload_n 3, 1) := by decide +kernel
theorem dX4_timeout_65 : decode cX4_timeout 65 = .ok (.aload_n 0, 1) := by decide +kernel
theorem dX4_timeout_66 : decode cX4_timeout 66 = .ok (.getfield 15, 3) := by decide +kernel
theorem dX4_timeout_69 : decode cX4_timeout 69 = .ok (.arraylength, 1) := by decide +kernel
theorem dX4_timeout_70 : decode cX4_timeout 70 = .ok (.if_icmp .ge 20, 3) := by decide +kernel
theorem dX4_timeout_73 : decode cX4_timeout 73 = .ok (.iload_n 3, 1) := by decide +kernel
theorem dX4_timeout_74 : decode cX4_timeout 74 = .ok (.iload_n 1, 1) := by decide +kernel
theorem dX4_timeout_75 : decode cX4_timeout 75 = .ok (.if_icmp .eq 9, 3) := by decide +kernel
theorem dX4_timeout_78 : decode cX4_timeout 78 = .ok (.aload_n 0, 1) := by decide +kernel
theorem dX4_timeout_79 : decode cX4_timeout 79 = .ok (.aload_n 2, 1) := by decide +kernel
theorem dX4_timeout_80 : decode cX4_timeout 80 = .ok (.iload_n 3, 1) := by decide +kernel
theorem dX4_timeout_81 : decode cX4_timeout 81 = .ok (.invokevirtual 60, 3) := by decide +kernel
theorem dX4_timeout_84 : decode cX4_timeout 84 = .ok (.iinc 3 1, 3) := by decide +kernel
theorem dX4_timeout_87 : decode cX4_timeout 87 = .ok (.goto (-23), 3) := by decide +kernel
theorem dX4_timeout_90 : decode cX4_timeout 90 = .ok (.iconst 0, 1) := by decide +kernel
theorem dX4_timeout_91 : decode cX4_timeout 91 = .ok (.ireturn, 1) := by decide +kernel
theorem dX4_heartbeat_0 : decode cX4_heartbeat 0 = .ok (.aload_n 0, 1) := by decide +kernel
theorem dX4_heartbeat_1 : decode cX4_heartbeat 1 = .ok (.iload_n 1, 1) := by decide +kernel
theorem dX4_heartbeat_2 : decode cX4_heartbeat 2 = .ok (.iload_n 2, 1) := by decide +kernel
theorem dX4_heartbeat_3 : decode cX4_heartbeat 3 = .ok (.invokevirtual 64, 3) := by decide +kernel
theorem dX4_heartbeat_6 : decode cX4_heartbeat 6 = .ok (.ifCond .ne 5, 3) := by decide +kernel
theorem dX4_heartbeat_9 : decode cX4_heartbeat 9 = .ok (.iconst (-1), 1) := by decide +kernel
theorem dX4_heartbeat_10 : decode cX4_heartbeat 10 = .ok (.ireturn, 1) := by decide +kernel
theorem dX4_heartbeat_11 : decode cX4_heartbeat 11 = .ok (.aload_n 0, 1) := by decide +kernel
theorem dX4_heartbeat_12 : decode cX4_heartbeat 12 = .ok (.getfield 15, 3) := by decide +kernel
theorem dX4_heartbeat_15 : decode cX4_heartbeat 15 = .ok (.iload_n 1, 1) := by decide +kernel
theorem dX4_heartbeat_16 : decode cX4_heartbeat 16 = .ok (.aaload, 1) := by decide +kernel
theorem dX4_heartbeat_17 : decode cX4_heartbeat 17 = .ok (.astore_n 3, 1) := by decide +kernel
theorem dX4_heartbeat_18 : decode cX4_heartbeat 18 = .ok (.aload_n 3, 1) := by decide +kernel
theorem dX4_heartbeat_19 : decode cX4_heartbeat 19 = .ok (.getfield 45, 3) := by decide +kernel
theorem dX4_heartbeat_22 : decode cX4_heartbeat 22 = .ok (.ifCond .ne 6, 3) := by decide +kernel
theorem dX4_heartbeat_25 : decode cX4_heartbeat 25 = .ok (.bipush (-2), 2) := by decide +kernel
theorem dX4_heartbeat_27 : decode cX4_heartbeat 27 = .ok (.ireturn, 1) := by decide +kernel
theorem dX4_heartbeat_28 : decode cX4_heartbeat 28 = .ok (.aload_n 3, 1) := by decide +kernel
theorem dX4_heartbeat_29 : decode cX4_heartbeat 29 = .ok (.getfield 49, 3) := by decide +kernel
theorem dX4_heartbeat_32 : decode cX4_heartbeat 32 = .ok (.iconst 2, 1) := by decide +kernel
theorem dX4_heartbeat_33 : decode cX4_heartbeat 33 = .ok (.if_icmp .eq 6, 3) := by decide +kernel
theorem dX4_heartbeat_36 : decode cX4_heartbeat 36 = .ok (.bipush (-3), 2) := by decide +kernel
theorem dX4_heartbeat_38 : decode cX4_heartbeat 38 = .ok (.ireturn, 1) := by decide +kernel
theorem dX4_heartbeat_39 : decode cX4_heartbeat 39 = .ok (.aload_n 0, 1) := by decide +kernel
theorem dX4_heartbeat_40 : decode cX4_heartbeat 40 = .ok (.getfield 27, 3) := by decide +kernel
theorem dX4_heartbeat_43 : decode cX4_heartbeat 43 = .ok (.invokevirtual 53, 3) := by decide +kernel
theorem dX4_heartbeat_46 : decode cX4_heartbeat 46 = .ok (.ifCond .ne 6, 3) := by decide +kernel
theorem dX4_heartbeat_49 : decode cX4_heartbeat 49 = .ok (.bipush (-4), 2) := by decide +kernel
theorem dX4_heartbeat_51 : decode cX4_heartbeat 51 = .ok (.ireturn, 1) := by decide +kernel
theorem dX4_heartbeat_52 : decode cX4_heartbeat 52 = .ok (.aload_n 3, 1) := by decide +kernel
theorem dX4_heartbeat_53 : decode cX4_heartbeat 53 = .ok (.getfield 68, 3) := by decide +kernel
theorem dX4_heartbeat_56 : decode cX4_heartbeat 56 = .ok (.iload_n 2, 1) := by decide +kernel
theorem dX4_heartbeat_57 : decode cX4_heartbeat 57 = .ok (.iaload, 1) := by decide +kernel
theorem dX4_heartbeat_58 : decode cX4_heartbeat 58 = .ok (.aload_n 3, 1) := by decide +kernel
theorem dX4_heartbeat_59 : decode cX4_heartbeat 59 = .ok (.getfield 72, 3) := by decide +kernel
theorem dX4_heartbeat_62 : decode cX4_heartbeat 62 = .ok (.getfield 76, 3) := by decide +kernel
theorem dX4_heartbeat_65 : decode cX4_heartbeat 65 = .ok (.if_icmp .gt 11, 3) := by decide +kernel
theorem dX4_heartbeat_68 : decode cX4_heartbeat 68 = .ok (.aload_n 0, 1) := by decide +kernel
theorem dX4_heartbeat_69 : decode cX4_heartbeat 69 = .ok (.aload_n 3, 1) := by decide +kernel
theorem dX4_heartbeat_70 : decode cX4_heartbeat 70 = .ok (.iload_n 2, 1) := by decide +kernel
theorem dX4_heartbeat_71 : decode cX4_heartbeat 71 = .ok (.invokevirtual 81, 3) := by decide +kernel
theorem dX4_heartbeat_74 : decode cX4_heartbeat 74 = .ok (.iconst 5, 1) := by decide +kernel
theorem dX4_heartbeat_75 : decode cX4_heartbeat 75 = .ok (.ireturn, 1) := by decide +kernel
theorem dX4_heartbeat_76 : decode cX4_heartbeat 76 = .ok (.aload_n 0, 1) := by decide +kernel
theorem dX4_heartbeat_77 : decode cX4_heartbeat 77 = .ok (.aload_n 3, 1) := by decide +kernel
theorem dX4_heartbeat_78 : decode cX4_heartbeat 78 = .ok (.iload_n 2, 1) := by decide +kernel
theorem dX4_heartbeat_79 : decode cX4_heartbeat 79 = .ok (.invokevirtual 84, 3) := by decide +kernel
theorem dX4_heartbeat_82 : decode cX4_heartbeat 82 = .ok (.iconst 3, 1) := by decide +kernel
theorem dX4_heartbeat_83 : decode cX4_heartbeat 83 = .ok (.ireturn, 1) := by decide +kernel
theorem dX4_propose_0 : decode cX4_propose 0 = .ok (.aload_n 0, 1) := by decide +kernel
theorem dX4_propose_1 : decode cX4_propose 1 = .ok (.iload_n 1, 1) := by decide +kernel
theorem dX4_propose_2 : decode cX4_propose 2 = .ok (.invokevirtual 41, 3) := by decide +kernel
theorem dX4_propose_5 : decode cX4_propose 5 = .ok (.ifCond .ne 5, 3) := by decide +kernel
theorem dX4_propose_8 : decode cX4_propose 8 = .ok (.iconst (-1), 1) := by decide +kernel
theorem dX4_propose_9 : decode cX4_propose 9 = .ok (.ireturn, 1) := by decide +kernel
theorem dX4_propose_10 : decode cX4_propose 10 = .ok (.aload_n 0, 1) := by decide +kernel
theorem dX4_propose_11 : decode cX4_propose 11 = .ok (.getfield 15, 3) := by decide +kernel
theorem dX4_propose_14 : decode cX4_propose 14 = .ok (.iload_n 1, 1) := by decide +kernel
theorem dX4_propose_15 : decode cX4_propose 15 = .ok (.aaload, 1) := by decide +kernel
theorem dX4_propose_16 : decode cX4_propose 16 = .ok (.astore_n 3, 1) := by decide +kernel
theorem dX4_propose_17 : decode cX4_propose 17 = .ok (.aload_n 3, 1) := by decide +kernel
theorem dX4_propose_18 : decode cX4_propose 18 = .ok (.getfield 45, 3) := by decide +kernel
theorem dX4_propose_21 : decode cX4_propose 21 = .ok (.ifCond .ne 6, 3) := by decide +kernel
theorem dX4_propose_24 : decode cX4_propose 24 = .ok (.bipush (-2), 2) := by decide +kernel
theorem dX4_propose_26 : decode cX4_propose 26 = .ok (.ireturn, 1) := by decide +kernel
theorem dX4_propose_27 : decode cX4_propose 27 = .ok (.aload_n 3, 1) := by decide +kernel
theorem dX4_propose_28 : decode cX4_propose 28 = .ok (.getfield 49, 3) := by decide +kernel
theorem dX4_propose_31 : decode cX4_propose 31 = .ok (.iconst 2, 1) := by decide +kernel
theorem dX4_propose_32 : decode cX4_propose 32 = .ok (.if_icmp .eq 6, 3) := by decide +kernel
theorem dX4_propose_35 : decode cX4_propose 35 = .ok (.bipush (-3), 2) := by decide +kernel
theorem dX4_propose_37 : decode cX4_propose 37 = .ok (.ireturn, 1) := by decide +kernel
theorem dX4_propose_38 : decode cX4_propose 38 = .ok (.aload_n 3, 1) := by decide +kernel
theorem dX4_propose_39 : decode cX4_propose 39 = .ok (.getfield 72, 3) := by decide +kernel
theorem dX4_propose_42 : decode cX4_propose 42 = .ok (.invokevirtual 87, 3) := by decide +kernel
theorem dX4_propose_45 : decode cX4_propose 45 = .ok (.ifCond .eq 6, 3) := by decide +kernel
theorem dX4_propose_48 : decode cX4_propose 48 = .ok (.bipush (-4), 2) := by decide +kernel
theorem dX4_propose_50 : decode cX4_propose 50 = .ok (.ireturn, 1) := by decide +kernel
theorem dX4_propose_51 : decode cX4_propose 51 = .ok (.aload_n 3, 1) := by decide +kernel
theorem dX4_propose_52 : decode cX4_propose 52 = .ok (.getfield 72, 3) := by decide +kernel
theorem dX4_propose_55 : decode cX4_propose 55 = .ok (.aload_n 3, 1) := by decide +kernel
theorem dX4_propose_56 : decode cX4_propose 56 = .ok (.getfield 91, 3) := by decide +kernel
theorem dX4_propose_59 : decode cX4_propose 59 = .ok (.iload_n 2, 1) := by decide +kernel
theorem dX4_propose_60 : decode cX4_propose 60 = .ok (.invokevirtual 94, 3) := by decide +kernel
theorem dX4_propose_63 : decode cX4_propose 63 = .ok (.aload_n 3, 1) := by decide +kernel
theorem dX4_propose_64 : decode cX4_propose 64 = .ok (.getfield 72, 3) := by decide +kernel
theorem dX4_propose_67 : decode cX4_propose 67 = .ok (.invokevirtual 98, 3) := by decide +kernel
theorem dX4_propose_70 : decode cX4_propose 70 = .ok (.ireturn, 1) := by decide +kernel
theorem dX4_compact_0 : decode cX4_compact 0 = .ok (.aload_n 0, 1) := by decide +kernel
theorem dX4_compact_1 : decode cX4_compact 1 = .ok (.iload_n 1, 1) := by decide +kernel
theorem dX4_compact_2 : decode cX4_compact 2 = .ok (.invokevirtual 41, 3) := by decide +kernel
theorem dX4_compact_5 : decode cX4_compact 5 = .ok (.ifCond .ne 5, 3) := by decide +kernel
theorem dX4_compact_8 : decode cX4_compact 8 = .ok (.iconst (-1), 1) := by decide +kernel
theorem dX4_compact_9 : decode cX4_compact 9 = .ok (.ireturn, 1) := by decide +kernel
theorem dX4_compact_10 : decode cX4_compact 10 = .ok (.aload_n 0, 1) := by decide +kernel
theorem dX4_compact_11 : decode cX4_compact 11 = .ok (.getfield 15, 3) := by decide +kernel
theorem dX4_compact_14 : decode cX4_compact 14 = .ok (.iload_n 1, 1) := by decide +kernel
theorem dX4_compact_15 : decode cX4_compact 15 = .ok (.aaload, 1) := by decide +kernel
theorem dX4_compact_16 : decode cX4_compact 16 = .ok (.astore_n 2, 1) := by decide +kernel
theorem dX4_compact_17 : decode cX4_compact 17 = .ok (.aload_n 2, 1) := by decide +kernel
theorem dX4_compact_18 : decode cX4_compact 18 = .ok (.getfield 45, 3) := by decide +kernel
theorem dX4_compact_21 : decode cX4_compact 21 = .ok (.ifCond .ne 6, 3) := by decide +kernel
theorem dX4_compact_24 : decode cX4_compact 24 = .ok (.bipush (-2), 2) := by decide +kernel
theorem dX4_compact_26 : decode cX4_compact 26 = .ok (.ireturn, 1) := by decide +kernel
theorem dX4_compact_27 : decode cX4_compact 27 = .ok (.aload_n 2, 1) := by decide +kernel
theorem dX4_compact_28 : decode cX4_compact 28 = .ok (.getfield 72, 3) := by decide +kernel
theorem dX4_compact_31 : decode cX4_compact 31 = .ok (.getfield 76, 3) := by decide +kernel
theorem dX4_compact_34 : decode cX4_compact 34 = .ok (.istore_n 3, 1) := by decide +kernel
theorem dX4_compact_35 : decode cX4_compact 35 = .ok (.aload_n 2, 1) := by decide +kernel
theorem dX4_compact_36 : decode cX4_compact 36 = .ok (.getfield 72, 3) := by decide +kernel
theorem dX4_compact_39 : decode cX4_compact 39 = .ok (.aload_n 2, 1) := by decide +kernel
theorem dX4_compact_40 : decode cX4_compact 40 = .ok (.getfield 101, 3) := by decide +kernel
theorem dX4_compact_43 : decode cX4_compact 43 = .ok (.aload_n 2, 1) := by decide +kernel
theorem dX4_compact_44 : decode cX4_compact 44 = .ok (.getfield 72, 3) := by decide +kernel
theorem dX4_compact_47 : decode cX4_compact 47 = .ok (.aload_n 2, 1) := by decide +kernel
theorem dX4_compact_48 : decode cX4_compact 48 = .ok (.getfield 101, 3) := by decide +kernel
theorem dX4_compact_51 : decode cX4_compact 51 = .ok (.invokevirtual 104, 3) := by decide +kernel
theorem dX4_compact_54 : decode cX4_compact 54 = .ok (.aload_n 2, 1) := by decide +kernel
theorem dX4_compact_55 : decode cX4_compact 55 = .ok (.getfield 72, 3) := by decide +kernel
theorem dX4_compact_58 : decode cX4_compact 58 = .ok (.aload_n 2, 1) := by decide +kernel
theorem dX4_compact_59 : decode cX4_compact 59 = .ok (.getfield 101, 3) := by decide +kernel
theorem dX4_compact_62 : decode cX4_compact 62 = .ok (.invokevirtual 108, 3) := by decide +kernel
theorem dX4_compact_65 : decode cX4_compact 65 = .ok (.invokevirtual 111, 3) := by decide +kernel
theorem dX4_compact_68 : decode cX4_compact 68 = .ok (.aload_n 2, 1) := by decide +kernel
theorem dX4_compact_69 : decode cX4_compact 69 = .ok (.getfield 72, 3) := by decide +kernel
theorem dX4_compact_72 : decode cX4_compact 72 = .ok (.getfield 76, 3) := by decide +kernel
theorem dX4_compact_75 : decode cX4_compact 75 = .ok (.iload_n 3, 1) := by decide +kernel
theorem dX4_compact_76 : decode cX4_compact 76 = .ok (.isub, 1) := by decide +kernel
theorem dX4_compact_77 : decode cX4_compact 77 = .ok (.ireturn, 1) := by decide +kernel
theorem dX4_deliver_0 : decode cX4_deliver 0 = .ok (.aload_n 0, 1) := by decide +kernel
theorem dX4_deliver_1 : decode cX4_deliver 1 = .ok (.getfield 27, 3) := by decide +kernel
theorem dX4_deliver_4 : decode cX4_deliver 4 = .ok (.iload_n 1, 1) := by decide +kernel
theorem dX4_deliver_5 : decode cX4_deliver 5 = .ok (.invokevirtual 114, 3) := by decide +kernel
theorem dX4_deliver_8 : decode cX4_deliver 8 = .ok (.ifCond .ne 5, 3) := by decide +kernel
theorem dX4_deliver_11 : decode cX4_deliver 11 = .ok (.iconst (-1), 1) := by decide +kernel
theorem dX4_deliver_12 : decode cX4_deliver 12 = .ok (.ireturn, 1) := by decide +kernel
theorem dX4_deliver_13 : decode cX4_deliver 13 = .ok (.aload_n 0, 1) := by decide +kernel
theorem dX4_deliver_14 : decode cX4_deliver 14 = .ok (.getfield 27, 3) := by decide +kernel
theorem dX4_deliver_17 : decode cX4_deliver 17 = .ok (.iload_n 1, 1) := by decide +kernel
theorem dX4_deliver_18 : decode cX4_deliver 18 = .ok (.invokevirtual 117, 3) := by decide +kernel
theorem dX4_deliver_21 : decode cX4_deliver 21 = .ok (.ifCond .eq 6, 3) := by decide +kernel
theorem dX4_deliver_24 : decode cX4_deliver 24 = .ok (.bipush (-5), 2) := by decide +kernel
theorem dX4_deliver_26 : decode cX4_deliver 26 = .ok (.ireturn, 1) := by decide +kernel
theorem dX4_deliver_27 : decode cX4_deliver 27 = .ok (.aload_n 0, 1) := by decide +kernel
theorem dX4_deliver_28 : decode cX4_deliver 28 = .ok (.getfield 38, 3) := by decide +kernel
theorem dX4_deliver_31 : decode cX4_deliver 31 = .ok (.aload_n 0, 1) := by decide +kernel
theorem dX4_deliver_32 : decode cX4_deliver 32 = .ok (.getfield 27, 3) := by decide +kernel
theorem dX4_deliver_35 : decode cX4_deliver 35 = .ok (.getfield 120, 3) := by decide +kernel
theorem dX4_deliver_38 : decode cX4_deliver 38 = .ok (.iload_n 1, 1) := by decide +kernel
theorem dX4_deliver_39 : decode cX4_deliver 39 = .ok (.aaload, 1) := by decide +kernel
theorem dX4_deliver_40 : decode cX4_deliver 40 = .ok (.invokevirtual 124, 3) := by decide +kernel
theorem dX4_deliver_43 : decode cX4_deliver 43 = .ok (.aload_n 0, 1) := by decide +kernel
theorem dX4_deliver_44 : decode cX4_deliver 44 = .ok (.getfield 27, 3) := by decide +kernel
theorem dX4_deliver_47 : decode cX4_deliver 47 = .ok (.iload_n 1, 1) := by decide +kernel
theorem dX4_deliver_48 : decode cX4_deliver 48 = .ok (.invokevirtual 128, 3) := by decide +kernel
theorem dX4_deliver_51 : decode cX4_deliver 51 = .ok (.aload_n 0, 1) := by decide +kernel
theorem dX4_deliver_52 : decode cX4_deliver 52 = .ok (.getfield 15, 3) := by decide +kernel
theorem dX4_deliver_55 : decode cX4_deliver 55 = .ok (.aload_n 0, 1) := by decide +kernel
theorem dX4_deliver_56 : decode cX4_deliver 56 = .ok (.getfield 38, 3) := by decide +kernel
theorem dX4_deliver_59 : decode cX4_deliver 59 = .ok (.getfield 131, 3) := by decide +kernel
theorem dX4_deliver_62 : decode cX4_deliver 62 = .ok (.aaload, 1) := by decide +kernel
theorem dX4_deliver_63 : decode cX4_deliver 63 = .ok (.astore_n 2, 1) := by decide +kernel
theorem dX4_deliver_64 : decode cX4_deliver 64 = .ok (.aload_n 2, 1) := by decide +kernel
theorem dX4_deliver_65 : decode cX4_deliver 65 = .ok (.getfield 45, 3) := by decide +kernel
theorem dX4_deliver_68 : decode cX4_deliver 68 = .ok (.ifCond .eq 12, 3) := by decide +kernel
theorem dX4_deliver_71 : decode cX4_deliver 71 = .ok (.aload_n 0, 1) := by decide +kernel
theorem dX4_deliver_72 : decode cX4_deliver 72 = .ok (.aload_n 2, 1) := by decide +kernel
theorem dX4_deliver_73 : decode cX4_deliver 73 = .ok (.aload_n 0, 1) := by decide +kernel
theorem dX4_deliver_74 : decode cX4_deliver 74 = .ok (.getfield 38, 3) := by decide +kernel
theorem dX4_deliver_77 : decode cX4_deliver 77 = .ok (.invokevirtual 134, 3) := by decide +kernel
theorem dX4_deliver_80 : decode cX4_deliver 80 = .ok (.aload_n 0, 1) := by decide +kernel
theorem dX4_deliver_81 : decode cX4_deliver 81 = .ok (.getfield 38, 3) := by decide +kernel
theorem dX4_deliver_84 : decode cX4_deliver 84 = .ok (.getfield 138, 3) := by decide +kernel
theorem dX4_deliver_87 : decode cX4_deliver 87 = .ok (.ireturn, 1) := by decide +kernel
theorem dX4_drop_0 : decode cX4_drop 0 = .ok (.aload_n 0, 1) := by decide +kernel
theorem dX4_drop_1 : decode cX4_drop 1 = .ok (.getfield 27, 3) := by decide +kernel
theorem dX4_drop_4 : decode cX4_drop 4 = .ok (.iload_n 1, 1) := by decide +kernel
theorem dX4_drop_5 : decode cX4_drop 5 = .ok (.invokevirtual 114, 3) := by decide +kernel
theorem dX4_drop_8 : decode cX4_drop 8 = .ok (.ifCond .ne 5, 3) := by decide +kernel
theorem dX4_drop_11 : decode cX4_drop 11 = .ok (.iconst (-1), 1) := by decide +kernel
theorem dX4_drop_12 : decode cX4_drop 12 = .ok (.ireturn, 1) := by decide +kernel
theorem dX4_drop_13 : decode cX4_drop 13 = .ok (.aload_n 0, 1) := by decide +kernel
theorem dX4_drop_14 : decode cX4_drop 14 = .ok (.getfield 27, 3) := by decide +kernel
theorem dX4_drop_17 : decode cX4_drop 17 = .ok (.iload_n 1, 1) := by decide +kernel
theorem dX4_drop_18 : decode cX4_drop 18 = .ok (.invokevirtual 117, 3) := by decide +kernel
theorem dX4_drop_21 : decode cX4_drop 21 = .ok (.ifCond .eq 6, 3) := by decide +kernel
theorem dX4_drop_24 : decode cX4_drop 24 = .ok (.bipush (-5), 2) := by decide +kernel
theorem dX4_drop_26 : decode cX4_drop 26 = .ok (.ireturn, 1) := by decide +kernel
theorem dX4_drop_27 : decode cX4_drop 27 = .ok (.aload_n 0, 1) := by decide +kernel
theorem dX4_drop_28 : decode cX4_drop 28 = .ok (.getfield 27, 3) := by decide +kernel
theorem dX4_drop_31 : decode cX4_drop 31 = .ok (.iload_n 1, 1) := by decide +kernel
theorem dX4_drop_32 : decode cX4_drop 32 = .ok (.invokevirtual 128, 3) := by decide +kernel
theorem dX4_drop_35 : decode cX4_drop 35 = .ok (.iconst 0, 1) := by decide +kernel
theorem dX4_drop_36 : decode cX4_drop 36 = .ok (.ireturn, 1) := by decide +kernel
theorem dX4_duplicate_0 : decode cX4_duplicate 0 = .ok (.aload_n 0, 1) := by decide +kernel
theorem dX4_duplicate_1 : decode cX4_duplicate 1 = .ok (.getfield 27, 3) := by decide +kernel
theorem dX4_duplicate_4 : decode cX4_duplicate 4 = .ok (.iload_n 1, 1) := by decide +kernel
theorem dX4_duplicate_5 : decode cX4_duplicate 5 = .ok (.invokevirtual 114, 3) := by decide +kernel
theorem dX4_duplicate_8 : decode cX4_duplicate 8 = .ok (.ifCond .ne 5, 3) := by decide +kernel
theorem dX4_duplicate_11 : decode cX4_duplicate 11 = .ok (.iconst (-1), 1) := by decide +kernel
theorem dX4_duplicate_12 : decode cX4_duplicate 12 = .ok (.ireturn, 1) := by decide +kernel
theorem dX4_duplicate_13 : decode cX4_duplicate 13 = .ok (.aload_n 0, 1) := by decide +kernel
theorem dX4_duplicate_14 : decode cX4_duplicate 14 = .ok (.getfield 27, 3) := by decide +kernel
theorem dX4_duplicate_17 : decode cX4_duplicate 17 = .ok (.iload_n 1, 1) := by decide +kernel
theorem dX4_duplicate_18 : decode cX4_duplicate 18 = .ok (.invokevirtual 117, 3) := by decide +kernel
theorem dX4_duplicate_21 : decode cX4_duplicate 21 = .ok (.ifCond .eq 6, 3) := by decide +kernel
theorem dX4_duplicate_24 : decode cX4_duplicate 24 = .ok (.bipush (-5), 2) := by decide +kernel
theorem dX4_duplicate_26 : decode cX4_duplicate 26 = .ok (.ireturn, 1) := by decide +kernel
theorem dX4_duplicate_27 : decode cX4_duplicate 27 = .ok (.aload_n 0, 1) := by decide +kernel
theorem dX4_duplicate_28 : decode cX4_duplicate 28 = .ok (.getfield 27, 3) := by decide +kernel
theorem dX4_duplicate_31 : decode cX4_duplicate 31 = .ok (.aload_n 0, 1) := by decide +kernel
theorem dX4_duplicate_32 : decode cX4_duplicate 32 = .ok (.getfield 27, 3) := by decide +kernel
theorem dX4_duplicate_35 : decode cX4_duplicate 35 = .ok (.getfield 120, 3) := by decide +kernel
theorem dX4_duplicate_38 : decode cX4_duplicate 38 = .ok (.iload_n 1, 1) := by decide +kernel
theorem dX4_duplicate_39 : decode cX4_duplicate 39 = .ok (.aaload, 1) := by decide +kernel
theorem dX4_duplicate_40 : decode cX4_duplicate 40 = .ok (.invokevirtual 141, 3) := by decide +kernel
theorem dX4_duplicate_43 : decode cX4_duplicate 43 = .ok (.ireturn, 1) := by decide +kernel
theorem dX4_crash_0 : decode cX4_crash 0 = .ok (.aload_n 0, 1) := by decide +kernel
theorem dX4_crash_1 : decode cX4_crash 1 = .ok (.iload_n 1, 1) := by decide +kernel
theorem dX4_crash_2 : decode cX4_crash 2 = .ok (.invokevirtual 41, 3) := by decide +kernel
theorem dX4_crash_5 : decode cX4_crash 5 = .ok (.ifCond .ne 5, 3) := by decide +kernel
theorem dX4_crash_8 : decode cX4_crash 8 = .ok (.iconst (-1), 1) := by decide +kernel
theorem dX4_crash_9 : decode cX4_crash 9 = .ok (.ireturn, 1) := by decide +kernel
theorem dX4_crash_10 : decode cX4_crash 10 = .ok (.aload_n 0, 1) := by decide +kernel
theorem dX4_crash_11 : decode cX4_crash 11 = .ok (.getfield 15, 3) := by decide +kernel
theorem dX4_crash_14 : decode cX4_crash 14 = .ok (.iload_n 1, 1) := by decide +kernel
theorem dX4_crash_15 : decode cX4_crash 15 = .ok (.aaload, 1) := by decide +kernel
theorem dX4_crash_16 : decode cX4_crash 16 = .ok (.astore_n 2, 1) := by decide +kernel
theorem dX4_crash_17 : decode cX4_crash 17 = .ok (.aload_n 2, 1) := by decide +kernel
theorem dX4_crash_18 : decode cX4_crash 18 = .ok (.getfield 45, 3) := by decide +kernel
theorem dX4_crash_21 : decode cX4_crash 21 = .ok (.ifCond .ne 6, 3) := by decide +kernel
theorem dX4_crash_24 : decode cX4_crash 24 = .ok (.bipush (-2), 2) := by decide +kernel
theorem dX4_crash_26 : decode cX4_crash 26 = .ok (.ireturn, 1) := by decide +kernel
theorem dX4_crash_27 : decode cX4_crash 27 = .ok (.aload_n 2, 1) := by decide +kernel
theorem dX4_crash_28 : decode cX4_crash 28 = .ok (.iconst 0, 1) := by decide +kernel
theorem dX4_crash_29 : decode cX4_crash 29 = .ok (.putfield 45, 3) := by decide +kernel
theorem dX4_crash_32 : decode cX4_crash 32 = .ok (.aload_n 2, 1) := by decide +kernel
theorem dX4_crash_33 : decode cX4_crash 33 = .ok (.iconst 0, 1) := by decide +kernel
theorem dX4_crash_34 : decode cX4_crash 34 = .ok (.putfield 49, 3) := by decide +kernel
theorem dX4_crash_37 : decode cX4_crash 37 = .ok (.iconst 0, 1) := by decide +kernel
theorem dX4_crash_38 : decode cX4_crash 38 = .ok (.ireturn, 1) := by decide +kernel
theorem dX4_restart_0 : decode cX4_restart 0 = .ok (.aload_n 0, 1) := by decide +kernel
theorem dX4_restart_1 : decode cX4_restart 1 = .ok (.iload_n 1, 1) := by decide +kernel
theorem dX4_restart_2 : decode cX4_restart 2 = .ok (.invokevirtual 41, 3) := by decide +kernel
theorem dX4_restart_5 : decode cX4_restart 5 = .ok (.ifCond .ne 5, 3) := by decide +kernel
theorem dX4_restart_8 : decode cX4_restart 8 = .ok (.iconst (-1), 1) := by decide +kernel
theorem dX4_restart_9 : decode cX4_restart 9 = .ok (.ireturn, 1) := by decide +kernel
theorem dX4_restart_10 : decode cX4_restart 10 = .ok (.aload_n 0, 1) := by decide +kernel
theorem dX4_restart_11 : decode cX4_restart 11 = .ok (.getfield 15, 3) := by decide +kernel
theorem dX4_restart_14 : decode cX4_restart 14 = .ok (.iload_n 1, 1) := by decide +kernel
theorem dX4_restart_15 : decode cX4_restart 15 = .ok (.aaload, 1) := by decide +kernel
theorem dX4_restart_16 : decode cX4_restart 16 = .ok (.astore_n 2, 1) := by decide +kernel
theorem dX4_restart_17 : decode cX4_restart 17 = .ok (.aload_n 2, 1) := by decide +kernel
theorem dX4_restart_18 : decode cX4_restart 18 = .ok (.getfield 45, 3) := by decide +kernel
theorem dX4_restart_21 : decode cX4_restart 21 = .ok (.ifCond .eq 6, 3) := by decide +kernel
theorem dX4_restart_24 : decode cX4_restart 24 = .ok (.bipush (-2), 2) := by decide +kernel
theorem dX4_restart_26 : decode cX4_restart 26 = .ok (.ireturn, 1) := by decide +kernel
theorem dX4_restart_27 : decode cX4_restart 27 = .ok (.aload_n 2, 1) := by decide +kernel
theorem dX4_restart_28 : decode cX4_restart 28 = .ok (.iconst 1, 1) := by decide +kernel
theorem dX4_restart_29 : decode cX4_restart 29 = .ok (.putfield 45, 3) := by decide +kernel
theorem dX4_restart_32 : decode cX4_restart 32 = .ok (.aload_n 2, 1) := by decide +kernel
theorem dX4_restart_33 : decode cX4_restart 33 = .ok (.iconst 0, 1) := by decide +kernel
theorem dX4_restart_34 : decode cX4_restart 34 = .ok (.putfield 49, 3) := by decide +kernel
theorem dX4_restart_37 : decode cX4_restart 37 = .ok (.aload_n 2, 1) := by decide +kernel
theorem dX4_restart_38 : decode cX4_restart 38 = .ok (.aload_n 2, 1) := by decide +kernel
theorem dX4_restart_39 : decode cX4_restart 39 = .ok (.getfield 72, 3) := by decide +kernel
theorem dX4_restart_42 : decode cX4_restart 42 = .ok (.getfield 76, 3) := by decide +kernel
theorem dX4_restart_45 : decode cX4_restart 45 = .ok (.putfield 101, 3) := by decide +kernel
theorem dX4_restart_48 : decode cX4_restart 48 = .ok (.iconst 0, 1) := by decide +kernel
theorem dX4_restart_49 : decode cX4_restart 49 = .ok (.ireturn, 1) := by decide +kernel
theorem dX4_role_0 : decode cX4_role 0 = .ok (.aload_n 0, 1) := by decide +kernel
theorem dX4_role_1 : decode cX4_role 1 = .ok (.iload_n 1, 1) := by decide +kernel
theorem dX4_role_2 : decode cX4_role 2 = .ok (.invokevirtual 41, 3) := by decide +kernel
theorem dX4_role_5 : decode cX4_role 5 = .ok (.ifCond .ne 5, 3) := by decide +kernel
theorem dX4_role_8 : decode cX4_role 8 = .ok (.iconst (-1), 1) := by decide +kernel
theorem dX4_role_9 : decode cX4_role 9 = .ok (.ireturn, 1) := by decide +kernel
theorem dX4_role_10 : decode cX4_role 10 = .ok (.aload_n 0, 1) := by decide +kernel
theorem dX4_role_11 : decode cX4_role 11 = .ok (.getfield 15, 3) := by decide +kernel
theorem dX4_role_14 : decode cX4_role 14 = .ok (.iload_n 1, 1) := by decide +kernel
theorem dX4_role_15 : decode cX4_role 15 = .ok (.aaload, 1) := by decide +kernel
theorem dX4_role_16 : decode cX4_role 16 = .ok (.astore_n 2, 1) := by decide +kernel
theorem dX4_role_17 : decode cX4_role 17 = .ok (.aload_n 2, 1) := by decide +kernel
theorem dX4_role_18 : decode cX4_role 18 = .ok (.getfield 45, 3) := by decide +kernel
theorem dX4_role_21 : decode cX4_role 21 = .ok (.ifCond .eq 12, 3) := by decide +kernel
theorem dX4_role_24 : decode cX4_role 24 = .ok (.aload_n 2, 1) := by decide +kernel
theorem dX4_role_25 : decode cX4_role 25 = .ok (.getfield 49, 3) := by decide +kernel
theorem dX4_role_28 : decode cX4_role 28 = .ok (.iconst 4, 1) := by decide +kernel
theorem dX4_role_29 : decode cX4_role 29 = .ok (.iadd, 1) := by decide +kernel
theorem dX4_role_30 : decode cX4_role 30 = .ok (.goto 7, 3) := by decide +kernel
theorem dX4_role_33 : decode cX4_role 33 = .ok (.aload_n 2, 1) := by decide +kernel
theorem dX4_role_34 : decode cX4_role 34 = .ok (.getfield 49, 3) := by decide +kernel
theorem dX4_role_37 : decode cX4_role 37 = .ok (.ireturn, 1) := by decide +kernel
theorem dX4_term_0 : decode cX4_term 0 = .ok (.aload_n 0, 1) := by decide +kernel
theorem dX4_term_1 : decode cX4_term 1 = .ok (.iload_n 1, 1) := by decide +kernel
theorem dX4_term_2 : decode cX4_term 2 = .ok (.invokevirtual 41, 3) := by decide +kernel
theorem dX4_term_5 : decode cX4_term 5 = .ok (.ifCond .eq 15, 3) := by decide +kernel
theorem dX4_term_8 : decode cX4_term 8 = .ok (.aload_n 0, 1) := by decide +kernel
theorem dX4_term_9 : decode cX4_term 9 = .ok (.getfield 15, 3) := by decide +kernel
theorem dX4_term_12 : decode cX4_term 12 = .ok (.iload_n 1, 1) := by decide +kernel
theorem dX4_term_13 : decode cX4_term 13 = .ok (.aaload, 1) := by decide +kernel
theorem dX4_term_14 : decode cX4_term 14 = .ok (.getfield 91, 3) := by decide +kernel
theorem dX4_term_17 : decode cX4_term 17 = .ok (.goto 4, 3) := by decide +kernel
theorem dX4_term_20 : decode cX4_term 20 = .ok (.iconst (-1), 1) := by decide +kernel
theorem dX4_term_21 : decode cX4_term 21 = .ok (.ireturn, 1) := by decide +kernel
theorem dX4_vote_0 : decode cX4_vote 0 = .ok (.aload_n 0, 1) := by decide +kernel
theorem dX4_vote_1 : decode cX4_vote 1 = .ok (.iload_n 1, 1) := by decide +kernel
theorem dX4_vote_2 : decode cX4_vote 2 = .ok (.invokevirtual 41, 3) := by decide +kernel
theorem dX4_vote_5 : decode cX4_vote 5 = .ok (.ifCond .eq 16, 3) := by decide +kernel
theorem dX4_vote_8 : decode cX4_vote 8 = .ok (.aload_n 0, 1) := by decide +kernel
theorem dX4_vote_9 : decode cX4_vote 9 = .ok (.getfield 15, 3) := by decide +kernel
theorem dX4_vote_12 : decode cX4_vote 12 = .ok (.iload_n 1, 1) := by decide +kernel
theorem dX4_vote_13 : decode cX4_vote 13 = .ok (.aaload, 1) := by decide +kernel
theorem dX4_vote_14 : decode cX4_vote 14 = .ok (.getfield 145, 3) := by decide +kernel
theorem dX4_vote_17 : decode cX4_vote 17 = .ok (.iconst (-1), 1) := by decide +kernel
theorem dX4_vote_18 : decode cX4_vote 18 = .ok (.if_icmp .ne 5, 3) := by decide +kernel
theorem dX4_vote_21 : decode cX4_vote 21 = .ok (.iconst (-1), 1) := by decide +kernel
theorem dX4_vote_22 : decode cX4_vote 22 = .ok (.ireturn, 1) := by decide +kernel
theorem dX4_vote_23 : decode cX4_vote 23 = .ok (.aload_n 0, 1) := by decide +kernel
theorem dX4_vote_24 : decode cX4_vote 24 = .ok (.getfield 15, 3) := by decide +kernel
theorem dX4_vote_27 : decode cX4_vote 27 = .ok (.iload_n 1, 1) := by decide +kernel
theorem dX4_vote_28 : decode cX4_vote 28 = .ok (.aaload, 1) := by decide +kernel
theorem dX4_vote_29 : decode cX4_vote 29 = .ok (.getfield 145, 3) := by decide +kernel
theorem dX4_vote_32 : decode cX4_vote 32 = .ok (.ireturn, 1) := by decide +kernel
theorem dX4_base_0 : decode cX4_base 0 = .ok (.aload_n 0, 1) := by decide +kernel
theorem dX4_base_1 : decode cX4_base 1 = .ok (.iload_n 1, 1) := by decide +kernel
theorem dX4_base_2 : decode cX4_base 2 = .ok (.invokevirtual 41, 3) := by decide +kernel
theorem dX4_base_5 : decode cX4_base 5 = .ok (.ifCond .eq 18, 3) := by decide +kernel
theorem dX4_base_8 : decode cX4_base 8 = .ok (.aload_n 0, 1) := by decide +kernel
theorem dX4_base_9 : decode cX4_base 9 = .ok (.getfield 15, 3) := by decide +kernel
theorem dX4_base_12 : decode cX4_base 12 = .ok (.iload_n 1, 1) := by decide +kernel
theorem dX4_base_13 : decode cX4_base 13 = .ok (.aaload, 1) := by decide +kernel
theorem dX4_base_14 : decode cX4_base 14 = .ok (.getfield 72, 3) := by decide +kernel
theorem dX4_base_17 : decode cX4_base 17 = .ok (.getfield 76, 3) := by decide +kernel
theorem dX4_base_20 : decode cX4_base 20 = .ok (.goto 4, 3) := by decide +kernel
theorem dX4_base_23 : decode cX4_base 23 = .ok (.iconst (-1), 1) := by decide +kernel
theorem dX4_base_24 : decode cX4_base 24 = .ok (.ireturn, 1) := by decide +kernel
theorem dX4_last_0 : decode cX4_last 0 = .ok (.aload_n 0, 1) := by decide +kernel
theorem dX4_last_1 : decode cX4_last 1 = .ok (.iload_n 1, 1) := by decide +kernel
theorem dX4_last_2 : decode cX4_last 2 = .ok (.invokevirtual 41, 3) := by decide +kernel
theorem dX4_last_5 : decode cX4_last 5 = .ok (.ifCond .eq 18, 3) := by decide +kernel
theorem dX4_last_8 : decode cX4_last 8 = .ok (.aload_n 0, 1) := by decide +kernel
theorem dX4_last_9 : decode cX4_last 9 = .ok (.getfield 15, 3) := by decide +kernel
theorem dX4_last_12 : decode cX4_last 12 = .ok (.iload_n 1, 1) := by decide +kernel
theorem dX4_last_13 : decode cX4_last 13 = .ok (.aaload, 1) := by decide +kernel
theorem dX4_last_14 : decode cX4_last 14 = .ok (.getfield 72, 3) := by decide +kernel
theorem dX4_last_17 : decode cX4_last 17 = .ok (.invokevirtual 98, 3) := by decide +kernel
theorem dX4_last_20 : decode cX4_last 20 = .ok (.goto 4, 3) := by decide +kernel
theorem dX4_last_23 : decode cX4_last 23 = .ok (.iconst (-1), 1) := by decide +kernel
theorem dX4_last_24 : decode cX4_last 24 = .ok (.ireturn, 1) := by decide +kernel
theorem dX4_commit_0 : decode cX4_commit 0 = .ok (.aload_n 0, 1) := by decide +kernel
theorem dX4_commit_1 : decode cX4_commit 1 = .ok (.iload_n 1, 1) := by decide +kernel
theorem dX4_commit_2 : decode cX4_commit 2 = .ok (.invokevirtual 41, 3) := by decide +kernel
theorem dX4_commit_5 : decode cX4_commit 5 = .ok (.ifCond .eq 15, 3) := by decide +kernel
theorem dX4_commit_8 : decode cX4_commit 8 = .ok (.aload_n 0, 1) := by decide +kernel
theorem dX4_commit_9 : decode cX4_commit 9 = .ok (.getfield 15, 3) := by decide +kernel
theorem dX4_commit_12 : decode cX4_commit 12 = .ok (.iload_n 1, 1) := by decide +kernel
theorem dX4_commit_13 : decode cX4_commit 13 = .ok (.aaload, 1) := by decide +kernel
theorem dX4_commit_14 : decode cX4_commit 14 = .ok (.getfield 101, 3) := by decide +kernel
theorem dX4_commit_17 : decode cX4_commit 17 = .ok (.goto 4, 3) := by decide +kernel
theorem dX4_commit_20 : decode cX4_commit 20 = .ok (.iconst (-1), 1) := by decide +kernel
theorem dX4_commit_21 : decode cX4_commit 21 = .ok (.ireturn, 1) := by decide +kernel
theorem dX4_termAt_0 : decode cX4_termAt 0 = .ok (.aload_n 0, 1) := by decide +kernel
theorem dX4_termAt_1 : decode cX4_termAt 1 = .ok (.iload_n 1, 1) := by decide +kernel
theorem dX4_termAt_2 : decode cX4_termAt 2 = .ok (.invokevirtual 41, 3) := by decide +kernel
theorem dX4_termAt_5 : decode cX4_termAt 5 = .ok (.ifCond .eq 19, 3) := by decide +kernel
theorem dX4_termAt_8 : decode cX4_termAt 8 = .ok (.aload_n 0, 1) := by decide +kernel
theorem dX4_termAt_9 : decode cX4_termAt 9 = .ok (.getfield 15, 3) := by decide +kernel
theorem dX4_termAt_12 : decode cX4_termAt 12 = .ok (.iload_n 1, 1) := by decide +kernel
theorem dX4_termAt_13 : decode cX4_termAt 13 = .ok (.aaload, 1) := by decide +kernel
theorem dX4_termAt_14 : decode cX4_termAt 14 = .ok (.getfield 72, 3) := by decide +kernel
theorem dX4_termAt_17 : decode cX4_termAt 17 = .ok (.iload_n 2, 1) := by decide +kernel
theorem dX4_termAt_18 : decode cX4_termAt 18 = .ok (.invokevirtual 104, 3) := by decide +kernel
theorem dX4_termAt_21 : decode cX4_termAt 21 = .ok (.goto 4, 3) := by decide +kernel
theorem dX4_termAt_24 : decode cX4_termAt 24 = .ok (.iconst (-1), 1) := by decide +kernel
theorem dX4_termAt_25 : decode cX4_termAt 25 = .ok (.ireturn, 1) := by decide +kernel
theorem dX4_commandAt_0 : decode cX4_commandAt 0 = .ok (.aload_n 0, 1) := by decide +kernel
theorem dX4_commandAt_1 : decode cX4_commandAt 1 = .ok (.iload_n 1, 1) := by decide +kernel
theorem dX4_commandAt_2 : decode cX4_commandAt 2 = .ok (.invokevirtual 41, 3) := by decide +kernel
theorem dX4_commandAt_5 : decode cX4_commandAt 5 = .ok (.ifCond .eq 19, 3) := by decide +kernel
theorem dX4_commandAt_8 : decode cX4_commandAt 8 = .ok (.aload_n 0, 1) := by decide +kernel
theorem dX4_commandAt_9 : decode cX4_commandAt 9 = .ok (.getfield 15, 3) := by decide +kernel
theorem dX4_commandAt_12 : decode cX4_commandAt 12 = .ok (.iload_n 1, 1) := by decide +kernel
theorem dX4_commandAt_13 : decode cX4_commandAt 13 = .ok (.aaload, 1) := by decide +kernel
theorem dX4_commandAt_14 : decode cX4_commandAt 14 = .ok (.getfield 72, 3) := by decide +kernel
theorem dX4_commandAt_17 : decode cX4_commandAt 17 = .ok (.iload_n 2, 1) := by decide +kernel
theorem dX4_commandAt_18 : decode cX4_commandAt 18 = .ok (.invokevirtual 148, 3) := by decide +kernel
theorem dX4_commandAt_21 : decode cX4_commandAt 21 = .ok (.goto 4, 3) := by decide +kernel
theorem dX4_commandAt_24 : decode cX4_commandAt 24 = .ok (.iconst 0, 1) := by decide +kernel
theorem dX4_commandAt_25 : decode cX4_commandAt 25 = .ok (.ireturn, 1) := by decide +kernel
theorem dX4_state_0 : decode cX4_state 0 = .ok (.aload_n 0, 1) := by decide +kernel
theorem dX4_state_1 : decode cX4_state 1 = .ok (.iload_n 1, 1) := by decide +kernel
theorem dX4_state_2 : decode cX4_state 2 = .ok (.invokevirtual 41, 3) := by decide +kernel
theorem dX4_state_5 : decode cX4_state 5 = .ok (.ifCond .eq 27, 3) := by decide +kernel
theorem dX4_state_8 : decode cX4_state 8 = .ok (.aload_n 0, 1) := by decide +kernel
theorem dX4_state_9 : decode cX4_state 9 = .ok (.getfield 15, 3) := by decide +kernel
theorem dX4_state_12 : decode cX4_state 12 = .ok (.iload_n 1, 1) := by decide +kernel
theorem dX4_state_13 : decode cX4_state 13 = .ok (.aaload, 1) := by decide +kernel
theorem dX4_state_14 : decode cX4_state 14 = .ok (.getfield 72, 3) := by decide +kernel
theorem dX4_state_17 : decode cX4_state 17 = .ok (.aload_n 0, 1) := by decide +kernel
theorem dX4_state_18 : decode cX4_state 18 = .ok (.getfield 15, 3) := by decide +kernel
theorem dX4_state_21 : decode cX4_state 21 = .ok (.iload_n 1, 1) := by decide +kernel
theorem dX4_state_22 : decode cX4_state 22 = .ok (.aaload, 1) := by decide +kernel
theorem dX4_state_23 : decode cX4_state 23 = .ok (.getfield 101, 3) := by decide +kernel
theorem dX4_state_26 : decode cX4_state 26 = .ok (.invokevirtual 108, 3) := by decide +kernel
theorem dX4_state_29 : decode cX4_state 29 = .ok (.goto 4, 3) := by decide +kernel
theorem dX4_state_32 : decode cX4_state 32 = .ok (.iconst 0, 1) := by decide +kernel
theorem dX4_state_33 : decode cX4_state 33 = .ok (.ireturn, 1) := by decide +kernel
theorem dX4_peer_0 : decode cX4_peer 0 = .ok (.aload_n 0, 1) := by decide +kernel
theorem dX4_peer_1 : decode cX4_peer 1 = .ok (.iload_n 1, 1) := by decide +kernel
theorem dX4_peer_2 : decode cX4_peer 2 = .ok (.iload_n 2, 1) := by decide +kernel
theorem dX4_peer_3 : decode cX4_peer 3 = .ok (.invokevirtual 64, 3) := by decide +kernel
theorem dX4_peer_6 : decode cX4_peer 6 = .ok (.ifCond .eq 16, 3) := by decide +kernel
theorem dX4_peer_9 : decode cX4_peer 9 = .ok (.aload_n 0, 1) := by decide +kernel
theorem dX4_peer_10 : decode cX4_peer 10 = .ok (.getfield 15, 3) := by decide +kernel
theorem dX4_peer_13 : decode cX4_peer 13 = .ok (.iload_n 1, 1) := by decide +kernel
theorem dX4_peer_14 : decode cX4_peer 14 = .ok (.aaload, 1) := by decide +kernel
theorem dX4_peer_15 : decode cX4_peer 15 = .ok (.getfield 49, 3) := by decide +kernel
theorem dX4_peer_18 : decode cX4_peer 18 = .ok (.iconst 2, 1) := by decide +kernel
theorem dX4_peer_19 : decode cX4_peer 19 = .ok (.if_icmp .eq 5, 3) := by decide +kernel
theorem dX4_peer_22 : decode cX4_peer 22 = .ok (.iconst (-1), 1) := by decide +kernel
theorem dX4_peer_23 : decode cX4_peer 23 = .ok (.ireturn, 1) := by decide +kernel
theorem dX4_peer_24 : decode cX4_peer 24 = .ok (.aload_n 0, 1) := by decide +kernel
theorem dX4_peer_25 : decode cX4_peer 25 = .ok (.getfield 15, 3) := by decide +kernel
theorem dX4_peer_28 : decode cX4_peer 28 = .ok (.iload_n 1, 1) := by decide +kernel
theorem dX4_peer_29 : decode cX4_peer 29 = .ok (.aaload, 1) := by decide +kernel
theorem dX4_peer_30 : decode cX4_peer 30 = .ok (.getfield 151, 3) := by decide +kernel
theorem dX4_peer_33 : decode cX4_peer 33 = .ok (.iload_n 2, 1) := by decide +kernel
theorem dX4_peer_34 : decode cX4_peer 34 = .ok (.iaload, 1) := by decide +kernel
theorem dX4_peer_35 : decode cX4_peer 35 = .ok (.ldc 154, 2) := by decide +kernel
theorem dX4_peer_37 : decode cX4_peer 37 = .ok (.aload_n 0, 1) := by decide +kernel
theorem dX4_peer_38 : decode cX4_peer 38 = .ok (.getfield 15, 3) := by decide +kernel
theorem dX4_peer_41 : decode cX4_peer 41 = .ok (.iload_n 1, 1) := by decide +kernel
theorem dX4_peer_42 : decode cX4_peer 42 = .ok (.aaload, 1) := by decide +kernel
theorem dX4_peer_43 : decode cX4_peer 43 = .ok (.getfield 68, 3) := by decide +kernel
theorem dX4_peer_46 : decode cX4_peer 46 = .ok (.iload_n 2, 1) := by decide +kernel
theorem dX4_peer_47 : decode cX4_peer 47 = .ok (.iaload, 1) := by decide +kernel
theorem dX4_peer_48 : decode cX4_peer 48 = .ok (.imul, 1) := by decide +kernel
theorem dX4_peer_49 : decode cX4_peer 49 = .ok (.iadd, 1) := by decide +kernel
theorem dX4_peer_50 : decode cX4_peer 50 = .ok (.ireturn, 1) := by decide +kernel
theorem dX4_pending_0 : decode cX4_pending 0 = .ok (.aload_n 0, 1) := by decide +kernel
theorem dX4_pending_1 : decode cX4_pending 1 = .ok (.getfield 27, 3) := by decide +kernel
theorem dX4_pending_4 : decode cX4_pending 4 = .ok (.getfield 155, 3) := by decide +kernel
theorem dX4_pending_7 : decode cX4_pending 7 = .ok (.ireturn, 1) := by decide +kernel
theorem dX4_slot_0 : decode cX4_slot 0 = .ok (.aload_n 0, 1) := by decide +kernel
theorem dX4_slot_1 : decode cX4_slot 1 = .ok (.getfield 27, 3) := by decide +kernel
theorem dX4_slot_4 : decode cX4_slot 4 = .ok (.iload_n 1, 1) := by decide +kernel
theorem dX4_slot_5 : decode cX4_slot 5 = .ok (.invokevirtual 114, 3) := by decide +kernel
theorem dX4_slot_8 : decode cX4_slot 8 = .ok (.ifCond .ne 5, 3) := by decide +kernel
theorem dX4_slot_11 : decode cX4_slot 11 = .ok (.iconst (-1), 1) := by decide +kernel
theorem dX4_slot_12 : decode cX4_slot 12 = .ok (.ireturn, 1) := by decide +kernel
theorem dX4_slot_13 : decode cX4_slot 13 = .ok (.aload_n 0, 1) := by decide +kernel
theorem dX4_slot_14 : decode cX4_slot 14 = .ok (.getfield 27, 3) := by decide +kernel
theorem dX4_slot_17 : decode cX4_slot 17 = .ok (.iload_n 1, 1) := by decide +kernel
theorem dX4_slot_18 : decode cX4_slot 18 = .ok (.invokevirtual 117, 3) := by decide +kernel
theorem dX4_slot_21 : decode cX4_slot 21 = .ok (.ifCond .eq 5, 3) := by decide +kernel
theorem dX4_slot_24 : decode cX4_slot 24 = .ok (.iconst 0, 1) := by decide +kernel
theorem dX4_slot_25 : decode cX4_slot 25 = .ok (.ireturn, 1) := by decide +kernel
theorem dX4_slot_26 : decode cX4_slot 26 = .ok (.aload_n 0, 1) := by decide +kernel
theorem dX4_slot_27 : decode cX4_slot 27 = .ok (.getfield 27, 3) := by decide +kernel
theorem dX4_slot_30 : decode cX4_slot 30 = .ok (.getfield 120, 3) := by decide +kernel
theorem dX4_slot_33 : decode cX4_slot 33 = .ok (.iload_n 1, 1) := by decide +kernel
theorem dX4_slot_34 : decode cX4_slot 34 = .ok (.aaload, 1) := by decide +kernel
theorem dX4_slot_35 : decode cX4_slot 35 = .ok (.astore_n 2, 1) := by decide +kernel
theorem dX4_slot_36 : decode cX4_slot 36 = .ok (.aload_n 2, 1) := by decide +kernel
theorem dX4_slot_37 : decode cX4_slot 37 = .ok (.getfield 138, 3) := by decide +kernel
theorem dX4_slot_40 : decode cX4_slot 40 = .ok (.bipush 8, 2) := by decide +kernel
theorem dX4_slot_42 : decode cX4_slot 42 = .ok (.aload_n 2, 1) := by decide +kernel
theorem dX4_slot_43 : decode cX4_slot 43 = .ok (.getfield 158, 3) := by decide +kernel
theorem dX4_slot_46 : decode cX4_slot 46 = .ok (.imul, 1) := by decide +kernel
theorem dX4_slot_47 : decode cX4_slot 47 = .ok (.iadd, 1) := by decide +kernel
theorem dX4_slot_48 : decode cX4_slot 48 = .ok (.bipush 64, 2) := by decide +kernel
theorem dX4_slot_50 : decode cX4_slot 50 = .ok (.aload_n 2, 1) := by decide +kernel
theorem dX4_slot_51 : decode cX4_slot 51 = .ok (.getfield 131, 3) := by decide +kernel
theorem dX4_slot_54 : decode cX4_slot 54 = .ok (.imul, 1) := by decide +kernel
theorem dX4_slot_55 : decode cX4_slot 55 = .ok (.iadd, 1) := by decide +kernel
theorem dX4_slot_56 : decode cX4_slot 56 = .ok (.sipush 512, 3) := by decide +kernel
theorem dX4_slot_59 : decode cX4_slot 59 = .ok (.aload_n 2, 1) := by decide +kernel
theorem dX4_slot_60 : decode cX4_slot 60 = .ok (.getfield 161, 3) := by decide +kernel
theorem dX4_slot_63 : decode cX4_slot 63 = .ok (.imul, 1) := by decide +kernel
theorem dX4_slot_64 : decode cX4_slot 64 = .ok (.iadd, 1) := by decide +kernel
theorem dX4_slot_65 : decode cX4_slot 65 = .ok (.ireturn, 1) := by decide +kernel
theorem dX4_within_0 : decode cX4_within 0 = .ok (.iload_n 1, 1) := by decide +kernel
theorem dX4_within_1 : decode cX4_within 1 = .ok (.iload_n 2, 1) := by decide +kernel
theorem dX4_within_2 : decode cX4_within 2 = .ok (.iload_n 0, 1) := by decide +kernel
theorem dX4_within_3 : decode cX4_within 3 = .ok (.invokestatic 162, 3) := by decide +kernel
theorem dX4_within_6 : decode cX4_within 6 = .ok (.invokestatic 168, 3) := by decide +kernel
theorem dX4_within_9 : decode cX4_within 9 = .ok (.ireturn, 1) := by decide +kernel
theorem dX4_isNode_0 : decode cX4_isNode 0 = .ok (.iload_n 1, 1) := by decide +kernel
theorem dX4_isNode_1 : decode cX4_isNode 1 = .ok (.ifCond .lt 16, 3) := by decide +kernel
theorem dX4_isNode_4 : decode cX4_isNode 4 = .ok (.iload_n 1, 1) := by decide +kernel
theorem dX4_isNode_5 : decode cX4_isNode 5 = .ok (.aload_n 0, 1) := by decide +kernel
theorem dX4_isNode_6 : decode cX4_isNode 6 = .ok (.getfield 15, 3) := by decide +kernel
theorem dX4_isNode_9 : decode cX4_isNode 9 = .ok (.arraylength, 1) := by decide +kernel
theorem dX4_isNode_10 : decode cX4_isNode 10 = .ok (.if_icmp .ge 7, 3) := by decide +kernel
theorem dX4_isNode_13 : decode cX4_isNode 13 = .ok (.iconst 1, 1) := by decide +kernel
theorem dX4_isNode_14 : decode cX4_isNode 14 = .ok (.goto 4, 3) := by decide +kernel
theorem dX4_isNode_17 : decode cX4_isNode 17 = .ok (.iconst 0, 1) := by decide +kernel
theorem dX4_isNode_18 : decode cX4_isNode 18 = .ok (.ireturn, 1) := by decide +kernel
theorem dX4_areTwoNodes_0 : decode cX4_areTwoNodes 0 = .ok (.aload_n 0, 1) := by decide +kernel
theorem dX4_areTwoNodes_1 : decode cX4_areTwoNodes 1 = .ok (.iload_n 1, 1) := by decide +kernel
theorem dX4_areTwoNodes_2 : decode cX4_areTwoNodes 2 = .ok (.invokevirtual 41, 3) := by decide +kernel
theorem dX4_areTwoNodes_5 : decode cX4_areTwoNodes 5 = .ok (.ifCond .eq 20, 3) := by decide +kernel
theorem dX4_areTwoNodes_8 : decode cX4_areTwoNodes 8 = .ok (.aload_n 0, 1) := by decide +kernel
theorem dX4_areTwoNodes_9 : decode cX4_areTwoNodes 9 = .ok (.iload_n 2, 1) := by decide +kernel
theorem dX4_areTwoNodes_10 : decode cX4_areTwoNodes 10 = .ok (.invokevirtual 41, 3) := by decide +kernel
theorem dX4_areTwoNodes_13 : decode cX4_areTwoNodes 13 = .ok (.ifCond .eq 12, 3) := by decide +kernel
theorem dX4_areTwoNodes_16 : decode cX4_areTwoNodes 16 = .ok (.iload_n 1, 1) := by decide +kernel
theorem dX4_areTwoNodes_17 : decode cX4_areTwoNodes 17 = .ok (.iload_n 2, 1) := by decide +kernel
theorem dX4_areTwoNodes_18 : decode cX4_areTwoNodes 18 = .ok (.if_icmp .eq 7, 3) := by decide +kernel
theorem dX4_areTwoNodes_21 : decode cX4_areTwoNodes 21 = .ok (.iconst 1, 1) := by decide +kernel
theorem dX4_areTwoNodes_22 : decode cX4_areTwoNodes 22 = .ok (.goto 4, 3) := by decide +kernel
theorem dX4_areTwoNodes_25 : decode cX4_areTwoNodes 25 = .ok (.iconst 0, 1) := by decide +kernel
theorem dX4_areTwoNodes_26 : decode cX4_areTwoNodes 26 = .ok (.ireturn, 1) := by decide +kernel
theorem dX4_isMajority_0 : decode cX4_isMajority 0 = .ok (.iconst 2, 1) := by decide +kernel
theorem dX4_isMajority_1 : decode cX4_isMajority 1 = .ok (.iload_n 1, 1) := by decide +kernel
theorem dX4_isMajority_2 : decode cX4_isMajority 2 = .ok (.imul, 1) := by decide +kernel
theorem dX4_isMajority_3 : decode cX4_isMajority 3 = .ok (.aload_n 0, 1) := by decide +kernel
theorem dX4_isMajority_4 : decode cX4_isMajority 4 = .ok (.getfield 15, 3) := by decide +kernel
theorem dX4_isMajority_7 : decode cX4_isMajority 7 = .ok (.arraylength, 1) := by decide +kernel
theorem dX4_isMajority_8 : decode cX4_isMajority 8 = .ok (.if_icmp .le 7, 3) := by decide +kernel
theorem dX4_isMajority_11 : decode cX4_isMajority 11 = .ok (.iconst 1, 1) := by decide +kernel
theorem dX4_isMajority_12 : decode cX4_isMajority 12 = .ok (.goto 4, 3) := by decide +kernel
theorem dX4_isMajority_15 : decode cX4_isMajority 15 = .ok (.iconst 0, 1) := by decide +kernel
theorem dX4_isMajority_16 : decode cX4_isMajority 16 = .ok (.ireturn, 1) := by decide +kernel
theorem dX4_sendAsk_0 : decode cX4_sendAsk 0 = .ok (.aload_n 0, 1) := by decide +kernel
theorem dX4_sendAsk_1 : decode cX4_sendAsk 1 = .ok (.getfield 34, 3) := by decide +kernel
theorem dX4_sendAsk_4 : decode cX4_sendAsk 4 = .ok (.iconst 1, 1) := by decide +kernel
theorem dX4_sendAsk_5 : decode cX4_sendAsk 5 = .ok (.aload_n 1, 1) := by decide +kernel
theorem dX4_sendAsk_6 : decode cX4_sendAsk 6 = .ok (.getfield 171, 3) := by decide +kernel
theorem dX4_sendAsk_9 : decode cX4_sendAsk 9 = .ok (.iload_n 2, 1) := by decide +kernel
theorem dX4_sendAsk_10 : decode cX4_sendAsk 10 = .ok (.aload_n 1, 1) := by decide +kernel
theorem dX4_sendAsk_11 : decode cX4_sendAsk 11 = .ok (.getfield 91, 3) := by decide +kernel
theorem dX4_sendAsk_14 : decode cX4_sendAsk 14 = .ok (.invokevirtual 174, 3) := by decide +kernel
theorem dX4_sendAsk_17 : decode cX4_sendAsk 17 = .ok (.aload_n 0, 1) := by decide +kernel
theorem dX4_sendAsk_18 : decode cX4_sendAsk 18 = .ok (.getfield 34, 3) := by decide +kernel
theorem dX4_sendAsk_21 : decode cX4_sendAsk 21 = .ok (.aload_n 1, 1) := by decide +kernel
theorem dX4_sendAsk_22 : decode cX4_sendAsk 22 = .ok (.getfield 72, 3) := by decide +kernel
theorem dX4_sendAsk_25 : decode cX4_sendAsk 25 = .ok (.invokevirtual 98, 3) := by decide +kernel
theorem dX4_sendAsk_28 : decode cX4_sendAsk 28 = .ok (.putfield 178, 3) := by decide +kernel
theorem dX4_sendAsk_31 : decode cX4_sendAsk 31 = .ok (.aload_n 0, 1) := by decide +kernel
theorem dX4_sendAsk_32 : decode cX4_sendAsk 32 = .ok (.getfield 34, 3) := by decide +kernel
theorem dX4_sendAsk_35 : decode cX4_sendAsk 35 = .ok (.aload_n 1, 1) := by decide +kernel
theorem dX4_sendAsk_36 : decode cX4_sendAsk 36 = .ok (.getfield 72, 3) := by decide +kernel
theorem dX4_sendAsk_39 : decode cX4_sendAsk 39 = .ok (.invokevirtual 181, 3) := by decide +kernel
theorem dX4_sendAsk_42 : decode cX4_sendAsk 42 = .ok (.putfield 184, 3) := by decide +kernel
theorem dX4_sendAsk_45 : decode cX4_sendAsk 45 = .ok (.aload_n 0, 1) := by decide +kernel
theorem dX4_sendAsk_46 : decode cX4_sendAsk 46 = .ok (.getfield 27, 3) := by decide +kernel
theorem dX4_sendAsk_49 : decode cX4_sendAsk 49 = .ok (.aload_n 0, 1) := by decide +kernel
theorem dX4_sendAsk_50 : decode cX4_sendAsk 50 = .ok (.getfield 34, 3) := by decide +kernel
theorem dX4_sendAsk_53 : decode cX4_sendAsk 53 = .ok (.invokevirtual 141, 3) := by decide +kernel
theorem dX4_sendAsk_56 : decode cX4_sendAsk 56 = .ok (.pop, 1) := by decide +kernel
theorem dX4_sendAsk_57 : decode cX4_sendAsk 57 = .ok (.return_, 1) := by decide +kernel
theorem dX4_sendVote_0 : decode cX4_sendVote 0 = .ok (.aload_n 0, 1) := by decide +kernel
theorem dX4_sendVote_1 : decode cX4_sendVote 1 = .ok (.getfield 34, 3) := by decide +kernel
theorem dX4_sendVote_4 : decode cX4_sendVote 4 = .ok (.iconst 2, 1) := by decide +kernel
theorem dX4_sendVote_5 : decode cX4_sendVote 5 = .ok (.aload_n 1, 1) := by decide +kernel
theorem dX4_sendVote_6 : decode cX4_sendVote 6 = .ok (.getfield 171, 3) := by decide +kernel
theorem dX4_sendVote_9 : decode cX4_sendVote 9 = .ok (.iload_n 2, 1) := by decide +kernel
theorem dX4_sendVote_10 : decode cX4_sendVote 10 = .ok (.aload_n 1, 1) := by decide +kernel
theorem dX4_sendVote_11 : decode cX4_sendVote 11 = .ok (.getfield 91, 3) := by decide +kernel
theorem dX4_sendVote_14 : decode cX4_sendVote 14 = .ok (.invokevirtual 174, 3) := by decide +kernel
theorem dX4_sendVote_17 : decode cX4_sendVote 17 = .ok (.aload_n 0, 1) := by decide +kernel
theorem dX4_sendVote_18 : decode cX4_sendVote 18 = .ok (.getfield 34, 3) := by decide +kernel
theorem dX4_sendVote_21 : decode cX4_sendVote 21 = .ok (.iload_n 3, 1) := by decide +kernel
theorem dX4_sendVote_22 : decode cX4_sendVote 22 = .ok (.putfield 187, 3) := by decide +kernel
theorem dX4_sendVote_25 : decode cX4_sendVote 25 = .ok (.aload_n 0, 1) := by decide +kernel
theorem dX4_sendVote_26 : decode cX4_sendVote 26 = .ok (.getfield 27, 3) := by decide +kernel
theorem dX4_sendVote_29 : decode cX4_sendVote 29 = .ok (.aload_n 0, 1) := by decide +kernel
theorem dX4_sendVote_30 : decode cX4_sendVote 30 = .ok (.getfield 34, 3) := by decide +kernel
theorem dX4_sendVote_33 : decode cX4_sendVote 33 = .ok (.invokevirtual 141, 3) := by decide +kernel
theorem dX4_sendVote_36 : decode cX4_sendVote 36 = .ok (.pop, 1) := by decide +kernel
theorem dX4_sendVote_37 : decode cX4_sendVote 37 = .ok (.return_, 1) := by decide +kernel
theorem dX4_sendAppend_0 : decode cX4_sendAppend 0 = .ok (.aload_n 1, 1) := by decide +kernel
theorem dX4_sendAppend_1 : decode cX4_sendAppend 1 = .ok (.getfield 68, 3) := by decide +kernel
theorem dX4_sendAppend_4 : decode cX4_sendAppend 4 = .ok (.iload_n 2, 1) := by decide +kernel
theorem dX4_sendAppend_5 : decode cX4_sendAppend 5 = .ok (.iaload, 1) := by decide +kernel
theorem dX4_sendAppend_6 : decode cX4_sendAppend 6 = .ok (.istore_n 3, 1) := by decide +kernel
theorem dX4_sendAppend_7 : decode cX4_sendAppend 7 = .ok (.aload_n 0, 1) := by decide +kernel
theorem dX4_sendAppend_8 : decode cX4_sendAppend 8 = .ok (.getfield 34, 3) := by decide +kernel
theorem dX4_sendAppend_11 : decode cX4_sendAppend 11 = .ok (.iconst 3, 1) := by decide +kernel
theorem dX4_sendAppend_12 : decode cX4_sendAppend 12 = .ok (.aload_n 1, 1) := by decide +kernel
theorem dX4_sendAppend_13 : decode cX4_sendAppend 13 = .ok (.getfield 171, 3) := by decide +kernel
theorem dX4_sendAppend_16 : decode cX4_sendAppend 16 = .ok (.iload_n 2, 1) := by decide +kernel
theorem dX4_sendAppend_17 : decode cX4_sendAppend 17 = .ok (.aload_n 1, 1) := by decide +kernel
theorem dX4_sendAppend_18 : decode cX4_sendAppend 18 = .ok (.getfield 91, 3) := by decide +kernel
theorem dX4_sendAppend_21 : decode cX4_sendAppend 21 = .ok (.invokevirtual 174, 3) := by decide +kernel
theorem dX4_sendAppend_24 : decode cX4_sendAppend 24 = .ok (.aload_n 0, 1) := by decide +kernel
theorem dX4_sendAppend_25 : decode cX4_sendAppend 25 = .ok (.getfield 34, 3) := by decide +kernel
theorem dX4_sendAppend_28 : decode cX4_sendAppend 28 = .ok (.iload_n 3, 1) := by decide +kernel
theorem dX4_sendAppend_29 : decode cX4_sendAppend 29 = .ok (.iconst 1, 1) := by decide +kernel
theorem dX4_sendAppend_30 : decode cX4_sendAppend 30 = .ok (.isub, 1) := by decide +kernel
theorem dX4_sendAppend_31 : decode cX4_sendAppend 31 = .ok (.putfield 178, 3) := by decide +kernel
theorem dX4_sendAppend_34 : decode cX4_sendAppend 34 = .ok (.aload_n 0, 1) := by decide +kernel
theorem dX4_sendAppend_35 : decode cX4_sendAppend 35 = .ok (.getfield 34, 3) := by decide +kernel
theorem dX4_sendAppend_38 : decode cX4_sendAppend 38 = .ok (.aload_n 1, 1) := by decide +kernel
theorem dX4_sendAppend_39 : decode cX4_sendAppend 39 = .ok (.getfield 72, 3) := by decide +kernel
theorem dX4_sendAppend_42 : decode cX4_sendAppend 42 = .ok (.iload_n 3, 1) := by decide +kernel
theorem dX4_sendAppend_43 : decode cX4_sendAppend 43 = .ok (.iconst 1, 1) := by decide +kernel
theorem dX4_sendAppend_44 : decode cX4_sendAppend 44 = .ok (.isub, 1) := by decide +kernel
theorem dX4_sendAppend_45 : decode cX4_sendAppend 45 = .ok (.invokevirtual 104, 3) := by decide +kernel
theorem dX4_sendAppend_48 : decode cX4_sendAppend 48 = .ok (.putfield 184, 3) := by decide +kernel
theorem dX4_sendAppend_51 : decode cX4_sendAppend 51 = .ok (.aload_n 0, 1) := by decide +kernel
theorem dX4_sendAppend_52 : decode cX4_sendAppend 52 = .ok (.getfield 34, 3) := by decide +kernel
theorem dX4_sendAppend_55 : decode cX4_sendAppend 55 = .ok (.aload_n 1, 1) := by decide +kernel
theorem dX4_sendAppend_56 : decode cX4_sendAppend 56 = .ok (.getfield 72, 3) := by decide +kernel
theorem dX4_sendAppend_59 : decode cX4_sendAppend 59 = .ok (.iload_n 3, 1) := by decide +kernel
theorem dX4_sendAppend_60 : decode cX4_sendAppend 60 = .ok (.invokevirtual 190, 3) := by decide +kernel
theorem dX4_sendAppend_63 : decode cX4_sendAppend 63 = .ok (.putfield 193, 3) := by decide +kernel
theorem dX4_sendAppend_66 : decode cX4_sendAppend 66 = .ok (.aload_n 0, 1) := by decide +kernel
theorem dX4_sendAppend_67 : decode cX4_sendAppend 67 = .ok (.getfield 34, 3) := by decide +kernel
theorem dX4_sendAppend_70 : decode cX4_sendAppend 70 = .ok (.getfield 193, 3) := by decide +kernel
theorem dX4_sendAppend_73 : decode cX4_sendAppend 73 = .ok (.ifCond .eq 33, 3) := by decide +kernel
theorem dX4_sendAppend_76 : decode cX4_sendAppend 76 = .ok (.aload_n 0, 1) := by decide +kernel
theorem dX4_sendAppend_77 : decode cX4_sendAppend 77 = .ok (.getfield 34, 3) := by decide +kernel
theorem dX4_sendAppend_80 : decode cX4_sendAppend 80 = .ok (.aload_n 1, 1) := by decide +kernel
theorem dX4_sendAppend_81 : decode cX4_sendAppend 81 = .ok (.getfield 72, 3) := by decide +kernel
theorem dX4_sendAppend_84 : decode cX4_sendAppend 84 = .ok (.iload_n 3, 1) := by decide +kernel
theorem dX4_sendAppend_85 : decode cX4_sendAppend 85 = .ok (.invokevirtual 104, 3) := by decide +kernel
theorem dX4_sendAppend_88 : decode cX4_sendAppend 88 = .ok (.putfield 195, 3) := by decide +kernel
theorem dX4_sendAppend_91 : decode cX4_sendAppend 91 = .ok (.aload_n 0, 1) := by decide +kernel
theorem dX4_sendAppend_92 : decode cX4_sendAppend 92 = .ok (.getfield 34, 3) := by decide +kernel
theorem dX4_sendAppend_95 : decode cX4_sendAppend 95 = .ok (.aload_n 1, 1) := by decide +kernel
theorem dX4_sendAppend_96 : decode cX4_sendAppend 96 = .ok (.getfield 72, 3) := by decide +kernel
theorem dX4_sendAppend_99 : decode cX4_sendAppend 99 = .ok (.iload_n 3, 1) := by decide +kernel
theorem dX4_sendAppend_100 : decode cX4_sendAppend 100 = .ok (.invokevirtual 148, 3) := by decide +kernel
theorem dX4_sendAppend_103 : decode cX4_sendAppend 103 = .ok (.putfield 198, 3) := by decide +kernel
theorem dX4_sendAppend_106 : decode cX4_sendAppend 106 = .ok (.aload_n 0, 1) := by decide +kernel
theorem dX4_sendAppend_107 : decode cX4_sendAppend 107 = .ok (.getfield 34, 3) := by decide +kernel
theorem dX4_sendAppend_110 : decode cX4_sendAppend 110 = .ok (.aload_n 1, 1) := by decide +kernel
theorem dX4_sendAppend_111 : decode cX4_sendAppend 111 = .ok (.getfield 101, 3) := by decide +kernel
theorem dX4_sendAppend_114 : decode cX4_sendAppend 114 = .ok (.putfield 201, 3) := by decide +kernel
theorem dX4_sendAppend_117 : decode cX4_sendAppend 117 = .ok (.aload_n 0, 1) := by decide +kernel
theorem dX4_sendAppend_118 : decode cX4_sendAppend 118 = .ok (.getfield 27, 3) := by decide +kernel
theorem dX4_sendAppend_121 : decode cX4_sendAppend 121 = .ok (.aload_n 0, 1) := by decide +kernel
theorem dX4_sendAppend_122 : decode cX4_sendAppend 122 = .ok (.getfield 34, 3) := by decide +kernel
theorem dX4_sendAppend_125 : decode cX4_sendAppend 125 = .ok (.invokevirtual 141, 3) := by decide +kernel
theorem dX4_sendAppend_128 : decode cX4_sendAppend 128 = .ok (.pop, 1) := by decide +kernel
theorem dX4_sendAppend_129 : decode cX4_sendAppend 129 = .ok (.return_, 1) := by decide +kernel
theorem dX4_sendAppended_0 : decode cX4_sendAppended 0 = .ok (.aload_n 0, 1) := by decide +kernel
theorem dX4_sendAppended_1 : decode cX4_sendAppended 1 = .ok (.getfield 34, 3) := by decide +kernel
theorem dX4_sendAppended_4 : decode cX4_sendAppended 4 = .ok (.iconst 4, 1) := by decide +kernel
theorem dX4_sendAppended_5 : decode cX4_sendAppended 5 = .ok (.aload_n 1, 1) := by decide +kernel
theorem dX4_sendAppended_6 : decode cX4_sendAppended 6 = .ok (.getfield 171, 3) := by decide +kernel
theorem dX4_sendAppended_9 : decode cX4_sendAppended 9 = .ok (.iload_n 2, 1) := by decide +kernel
theorem dX4_sendAppended_10 : decode cX4_sendAppended 10 = .ok (.aload_n 1, 1) := by decide +kernel
theorem dX4_sendAppended_11 : decode cX4_sendAppended 11 = .ok (.getfield 91, 3) := by decide +kernel
theorem dX4_sendAppended_14 : decode cX4_sendAppended 14 = .ok (.invokevirtual 174, 3) := by decide +kernel
theorem dX4_sendAppended_17 : decode cX4_sendAppended 17 = .ok (.aload_n 0, 1) := by decide +kernel
theorem dX4_sendAppended_18 : decode cX4_sendAppended 18 = .ok (.getfield 34, 3) := by decide +kernel
theorem dX4_sendAppended_21 : decode cX4_sendAppended 21 = .ok (.iload_n 3, 1) := by decide +kernel
theorem dX4_sendAppended_22 : decode cX4_sendAppended 22 = .ok (.putfield 187, 3) := by decide +kernel
theorem dX4_sendAppended_25 : decode cX4_sendAppended 25 = .ok (.aload_n 0, 1) := by decide +kernel
theorem dX4_sendAppended_26 : decode cX4_sendAppended 26 = .ok (.getfield 34, 3) := by decide +kernel
theorem dX4_sendAppended_29 : decode cX4_sendAppended 29 = .ok (.iload 4, 2) := by decide +kernel
theorem dX4_sendAppended_31 : decode cX4_sendAppended 31 = .ok (.putfield 178, 3) := by decide +kernel
theorem dX4_sendAppended_34 : decode cX4_sendAppended 34 = .ok (.aload_n 0, 1) := by decide +kernel
theorem dX4_sendAppended_35 : decode cX4_sendAppended 35 = .ok (.getfield 27, 3) := by decide +kernel
theorem dX4_sendAppended_38 : decode cX4_sendAppended 38 = .ok (.aload_n 0, 1) := by decide +kernel
theorem dX4_sendAppended_39 : decode cX4_sendAppended 39 = .ok (.getfield 34, 3) := by decide +kernel
theorem dX4_sendAppended_42 : decode cX4_sendAppended 42 = .ok (.invokevirtual 141, 3) := by decide +kernel
theorem dX4_sendAppended_45 : decode cX4_sendAppended 45 = .ok (.pop, 1) := by decide +kernel
theorem dX4_sendAppended_46 : decode cX4_sendAppended 46 = .ok (.return_, 1) := by decide +kernel
theorem dX4_sendSnapshot_0 : decode cX4_sendSnapshot 0 = .ok (.aload_n 0, 1) := by decide +kernel
theorem dX4_sendSnapshot_1 : decode cX4_sendSnapshot 1 = .ok (.getfield 34, 3) := by decide +kernel
theorem dX4_sendSnapshot_4 : decode cX4_sendSnapshot 4 = .ok (.iconst 5, 1) := by decide +kernel
theorem dX4_sendSnapshot_5 : decode cX4_sendSnapshot 5 = .ok (.aload_n 1, 1) := by decide +kernel
theorem dX4_sendSnapshot_6 : decode cX4_sendSnapshot 6 = .ok (.getfield 171, 3) := by decide +kernel
theorem dX4_sendSnapshot_9 : decode cX4_sendSnapshot 9 = .ok (.iload_n 2, 1) := by decide +kernel
theorem dX4_sendSnapshot_10 : decode cX4_sendSnapshot 10 = .ok (.aload_n 1, 1) := by decide +kernel
theorem dX4_sendSnapshot_11 : decode cX4_sendSnapshot 11 = .ok (.getfield 91, 3) := by decide +kernel
theorem dX4_sendSnapshot_14 : decode cX4_sendSnapshot 14 = .ok (.invokevirtual 174, 3) := by decide +kernel
theorem dX4_sendSnapshot_17 : decode cX4_sendSnapshot 17 = .ok (.aload_n 0, 1) := by decide +kernel
theorem dX4_sendSnapshot_18 : decode cX4_sendSnapshot 18 = .ok (.getfield 34, 3) := by decide +kernel
theorem dX4_sendSnapshot_21 : decode cX4_sendSnapshot 21 = .ok (.aload_n 1, 1) := by decide +kernel
theorem dX4_sendSnapshot_22 : decode cX4_sendSnapshot 22 = .ok (.getfield 72, 3) := by decide +kernel
theorem dX4_sendSnapshot_25 : decode cX4_sendSnapshot 25 = .ok (.getfield 76, 3) := by decide +kernel
theorem dX4_sendSnapshot_28 : decode cX4_sendSnapshot 28 = .ok (.putfield 178, 3) := by decide +kernel
theorem dX4_sendSnapshot_31 : decode cX4_sendSnapshot 31 = .ok (.aload_n 0, 1) := by decide +kernel
theorem dX4_sendSnapshot_32 : decode cX4_sendSnapshot 32 = .ok (.getfield 34, 3) := by decide +kernel
theorem dX4_sendSnapshot_35 : decode cX4_sendSnapshot 35 = .ok (.aload_n 1, 1) := by decide +kernel
theorem dX4_sendSnapshot_36 : decode cX4_sendSnapshot 36 = .ok (.getfield 72, 3) := by decide +kernel
theorem dX4_sendSnapshot_39 : decode cX4_sendSnapshot 39 = .ok (.getfield 202, 3) := by decide +kernel
theorem dX4_sendSnapshot_42 : decode cX4_sendSnapshot 42 = .ok (.putfield 184, 3) := by decide +kernel
theorem dX4_sendSnapshot_45 : decode cX4_sendSnapshot 45 = .ok (.aload_n 0, 1) := by decide +kernel
theorem dX4_sendSnapshot_46 : decode cX4_sendSnapshot 46 = .ok (.getfield 34, 3) := by decide +kernel
theorem dX4_sendSnapshot_49 : decode cX4_sendSnapshot 49 = .ok (.aload_n 1, 1) := by decide +kernel
theorem dX4_sendSnapshot_50 : decode cX4_sendSnapshot 50 = .ok (.getfield 72, 3) := by decide +kernel
theorem dX4_sendSnapshot_53 : decode cX4_sendSnapshot 53 = .ok (.getfield 205, 3) := by decide +kernel
theorem dX4_sendSnapshot_56 : decode cX4_sendSnapshot 56 = .ok (.putfield 208, 3) := by decide +kernel
theorem dX4_sendSnapshot_59 : decode cX4_sendSnapshot 59 = .ok (.aload_n 0, 1) := by decide +kernel
theorem dX4_sendSnapshot_60 : decode cX4_sendSnapshot 60 = .ok (.getfield 27, 3) := by decide +kernel
theorem dX4_sendSnapshot_63 : decode cX4_sendSnapshot 63 = .ok (.aload_n 0, 1) := by decide +kernel
theorem dX4_sendSnapshot_64 : decode cX4_sendSnapshot 64 = .ok (.getfield 34, 3) := by decide +kernel
theorem dX4_sendSnapshot_67 : decode cX4_sendSnapshot 67 = .ok (.invokevirtual 141, 3) := by decide +kernel
theorem dX4_sendSnapshot_70 : decode cX4_sendSnapshot 70 = .ok (.pop, 1) := by decide +kernel
theorem dX4_sendSnapshot_71 : decode cX4_sendSnapshot 71 = .ok (.return_, 1) := by decide +kernel
theorem dX4_receive_0 : decode cX4_receive 0 = .ok (.aload_n 2, 1) := by decide +kernel
theorem dX4_receive_1 : decode cX4_receive 1 = .ok (.getfield 161, 3) := by decide +kernel
theorem dX4_receive_4 : decode cX4_receive 4 = .ok (.aload_n 1, 1) := by decide +kernel
theorem dX4_receive_5 : decode cX4_receive 5 = .ok (.getfield 91, 3) := by decide +kernel
theorem dX4_receive_8 : decode cX4_receive 8 = .ok (.if_icmp .le 11, 3) := by decide +kernel
theorem dX4_receive_11 : decode cX4_receive 11 = .ok (.aload_n 1, 1) := by decide +kernel
theorem dX4_receive_12 : decode cX4_receive 12 = .ok (.aload_n 2, 1) := by decide +kernel
theorem dX4_receive_13 : decode cX4_receive 13 = .ok (.getfield 161, 3) := by decide +kernel
theorem dX4_receive_16 : decode cX4_receive 16 = .ok (.invokevirtual 211, 3) := by decide +kernel
theorem dX4_receive_19 : decode cX4_receive 19 = .ok (.aload_n 2, 1) := by decide +kernel
theorem dX4_receive_20 : decode cX4_receive 20 = .ok (.getfield 138, 3) := by decide +kernel
theorem dX4_receive_23 : decode cX4_receive 23 = .ok (.tableswitch 65 1 4 #[29, 38, 47, 56], 29) := by decide +kernel
theorem dX4_receive_52 : decode cX4_receive 52 = .ok (.aload_n 0, 1) := by decide +kernel
theorem dX4_receive_53 : decode cX4_receive 53 = .ok (.aload_n 1, 1) := by decide +kernel
theorem dX4_receive_54 : decode cX4_receive 54 = .ok (.aload_n 2, 1) := by decide +kernel
theorem dX4_receive_55 : decode cX4_receive 55 = .ok (.invokevirtual 214, 3) := by decide +kernel
theorem dX4_receive_58 : decode cX4_receive 58 = .ok (.goto 36, 3) := by decide +kernel
theorem dX4_receive_61 : decode cX4_receive 61 = .ok (.aload_n 0, 1) := by decide +kernel
theorem dX4_receive_62 : decode cX4_receive 62 = .ok (.aload_n 1, 1) := by decide +kernel
theorem dX4_receive_63 : decode cX4_receive 63 = .ok (.aload_n 2, 1) := by decide +kernel
theorem dX4_receive_64 : decode cX4_receive 64 = .ok (.invokevirtual 217, 3) := by decide +kernel
theorem dX4_receive_67 : decode cX4_receive 67 = .ok (.goto 27, 3) := by decide +kernel
theorem dX4_receive_70 : decode cX4_receive 70 = .ok (.aload_n 0, 1) := by decide +kernel
theorem dX4_receive_71 : decode cX4_receive 71 = .ok (.aload_n 1, 1) := by decide +kernel
theorem dX4_receive_72 : decode cX4_receive 72 = .ok (.aload_n 2, 1) := by decide +kernel
theorem dX4_receive_73 : decode cX4_receive 73 = .ok (.invokevirtual 220, 3) := by decide +kernel
theorem dX4_receive_76 : decode cX4_receive 76 = .ok (.goto 18, 3) := by decide +kernel
theorem dX4_receive_79 : decode cX4_receive 79 = .ok (.aload_n 0, 1) := by decide +kernel
theorem dX4_receive_80 : decode cX4_receive 80 = .ok (.aload_n 1, 1) := by decide +kernel
theorem dX4_receive_81 : decode cX4_receive 81 = .ok (.aload_n 2, 1) := by decide +kernel
theorem dX4_receive_82 : decode cX4_receive 82 = .ok (.invokevirtual 223, 3) := by decide +kernel
theorem dX4_receive_85 : decode cX4_receive 85 = .ok (.goto 9, 3) := by decide +kernel
theorem dX4_receive_88 : decode cX4_receive 88 = .ok (.aload_n 0, 1) := by decide +kernel
theorem dX4_receive_89 : decode cX4_receive 89 = .ok (.aload_n 1, 1) := by decide +kernel
theorem dX4_receive_90 : decode cX4_receive 90 = .ok (.aload_n 2, 1) := by decide +kernel
theorem dX4_receive_91 : decode cX4_receive 91 = .ok (.invokevirtual 226, 3) := by decide +kernel
theorem dX4_receive_94 : decode cX4_receive 94 = .ok (.return_, 1) := by decide +kernel
theorem dX4_receiveAsk_0 : decode cX4_receiveAsk 0 = .ok (.aload_n 1, 1) := by decide +kernel
theorem dX4_receiveAsk_1 : decode cX4_receiveAsk 1 = .ok (.getfield 145, 3) := by decide +kernel
theorem dX4_receiveAsk_4 : decode cX4_receiveAsk 4 = .ok (.iconst (-1), 1) := by decide +kernel
theorem dX4_receiveAsk_5 : decode cX4_receiveAsk 5 = .ok (.if_icmp .eq 14, 3) := by decide +kernel
theorem dX4_receiveAsk_8 : decode cX4_receiveAsk 8 = .ok (.aload_n 1, 1) := by decide +kernel
theorem dX4_receiveAsk_9 : decode cX4_receiveAsk 9 = .ok (.getfield 145, 3) := by decide +kernel
theorem dX4_receiveAsk_12 : decode cX4_receiveAsk 12 = .ok (.aload_n 2, 1) := by decide +kernel
theorem dX4_receiveAsk_13 : decode cX4_receiveAsk 13 = .ok (.getfield 158, 3) := by decide +kernel
theorem dX4_receiveAsk_16 : decode cX4_receiveAsk 16 = .ok (.if_icmp .ne 7, 3) := by decide +kernel
theorem dX4_receiveAsk_19 : decode cX4_receiveAsk 19 = .ok (.iconst 1, 1) := by decide +kernel
theorem dX4_receiveAsk_20 : decode cX4_receiveAsk 20 = .ok (.goto 4, 3) := by decide +kernel
theorem dX4_receiveAsk_23 : decode cX4_receiveAsk 23 = .ok (.iconst 0, 1) := by decide +kernel
theorem dX4_receiveAsk_24 : decode cX4_receiveAsk 24 = .ok (.istore_n 3, 1) := by decide +kernel
theorem dX4_receiveAsk_25 : decode cX4_receiveAsk 25 = .ok (.aload_n 2, 1) := by decide +kernel
theorem dX4_receiveAsk_26 : decode cX4_receiveAsk 26 = .ok (.getfield 161, 3) := by decide +kernel
theorem dX4_receiveAsk_29 : decode cX4_receiveAsk 29 = .ok (.aload_n 1, 1) := by decide +kernel
theorem dX4_receiveAsk_30 : decode cX4_receiveAsk 30 = .ok (.getfield 91, 3) := by decide +kernel
theorem dX4_receiveAsk_33 : decode cX4_receiveAsk 33 = .ok (.if_icmp .ne 29, 3) := by decide +kernel
theorem dX4_receiveAsk_36 : decode cX4_receiveAsk 36 = .ok (.iload_n 3, 1) := by decide +kernel
theorem dX4_receiveAsk_37 : decode cX4_receiveAsk 37 = .ok (.ifCond .eq 25, 3) := by decide +kernel
theorem dX4_receiveAsk_40 : decode cX4_receiveAsk 40 = .ok (.aload_n 1, 1) := by decide +kernel
theorem dX4_receiveAsk_41 : decode cX4_receiveAsk 41 = .ok (.getfield 72, 3) := by decide +kernel
theorem dX4_receiveAsk_44 : decode cX4_receiveAsk 44 = .ok (.aload_n 2, 1) := by decide +kernel
theorem dX4_receiveAsk_45 : decode cX4_receiveAsk 45 = .ok (.getfield 178, 3) := by decide +kernel
theorem dX4_receiveAsk_48 : decode cX4_receiveAsk 48 = .ok (.aload_n 2, 1) := by decide +kernel
theorem dX4_receiveAsk_49 : decode cX4_receiveAsk 49 = .ok (.getfield 184, 3) := by decide +kernel
theorem dX4_receiveAsk_52 : decode cX4_receiveAsk 52 = .ok (.invokevirtual 229, 3) := by decide +kernel
theorem dX4_receiveAsk_55 : decode cX4_receiveAsk 55 = .ok (.ifCond .eq 7, 3) := by decide +kernel
theorem dX4_receiveAsk_58 : decode cX4_receiveAsk 58 = .ok (.iconst 1, 1) := by decide +kernel
theorem dX4_receiveAsk_59 : decode cX4_receiveAsk 59 = .ok (.goto 4, 3) := by decide +kernel
theorem dX4_receiveAsk_62 : decode cX4_receiveAsk 62 = .ok (.iconst 0, 1) := by decide +kernel
theorem dX4_receiveAsk_63 : decode cX4_receiveAsk 63 = .ok (.istore 4, 2) := by decide +kernel
theorem dX4_receiveAsk_65 : decode cX4_receiveAsk 65 = .ok (.iload 4, 2) := by decide +kernel
theorem dX4_receiveAsk_67 : decode cX4_receiveAsk 67 = .ok (.ifCond .eq 11, 3) := by decide +kernel
theorem dX4_receiveAsk_70 : decode cX4_receiveAsk 70 = .ok (.aload_n 1, 1) := by decide +kernel
theorem dX4_receiveAsk_71 : decode cX4_receiveAsk 71 = .ok (.aload_n 2, 1) := by decide +kernel
theorem dX4_receiveAsk_72 : decode cX4_receiveAsk 72 = .ok (.getfield 158, 3) := by decide +kernel
theorem dX4_receiveAsk_75 : decode cX4_receiveAsk 75 = .ok (.putfield 145, 3) := by decide +kernel
theorem dX4_receiveAsk_78 : decode cX4_receiveAsk 78 = .ok (.aload_n 0, 1) := by decide +kernel
theorem dX4_receiveAsk_79 : decode cX4_receiveAsk 79 = .ok (.aload_n 1, 1) := by decide +kernel
theorem dX4_receiveAsk_80 : decode cX4_receiveAsk 80 = .ok (.aload_n 2, 1) := by decide +kernel
theorem dX4_receiveAsk_81 : decode cX4_receiveAsk 81 = .ok (.getfield 158, 3) := by decide +kernel
theorem dX4_receiveAsk_84 : decode cX4_receiveAsk 84 = .ok (.iload 4, 2) := by decide +kernel
theorem dX4_receiveAsk_86 : decode cX4_receiveAsk 86 = .ok (.invokevirtual 232, 3) := by decide +kernel
theorem dX4_receiveAsk_89 : decode cX4_receiveAsk 89 = .ok (.return_, 1) := by decide +kernel
theorem dX4_receiveVote_0 : decode cX4_receiveVote 0 = .ok (.aload_n 1, 1) := by decide +kernel
theorem dX4_receiveVote_1 : decode cX4_receiveVote 1 = .ok (.getfield 49, 3) := by decide +kernel
theorem dX4_receiveVote_4 : decode cX4_receiveVote 4 = .ok (.iconst 1, 1) := by decide +kernel
theorem dX4_receiveVote_5 : decode cX4_receiveVote 5 = .ok (.if_icmp .ne 21, 3) := by decide +kernel
theorem dX4_receiveVote_8 : decode cX4_receiveVote 8 = .ok (.aload_n 2, 1) := by decide +kernel
theorem dX4_receiveVote_9 : decode cX4_receiveVote 9 = .ok (.getfield 161, 3) := by decide +kernel
theorem dX4_receiveVote_12 : decode cX4_receiveVote 12 = .ok (.aload_n 1, 1) := by decide +kernel
theorem dX4_receiveVote_13 : decode cX4_receiveVote 13 = .ok (.getfield 91, 3) := by decide +kernel
theorem dX4_receiveVote_16 : decode cX4_receiveVote 16 = .ok (.if_icmp .ne 10, 3) := by decide +kernel
theorem dX4_receiveVote_19 : decode cX4_receiveVote 19 = .ok (.aload_n 2, 1) := by decide +kernel
theorem dX4_receiveVote_20 : decode cX4_receiveVote 20 = .ok (.getfield 187, 3) := by decide +kernel
theorem dX4_receiveVote_23 : decode cX4_receiveVote 23 = .ok (.ifCond .ne 4, 3) := by decide +kernel
theorem dX4_receiveVote_26 : decode cX4_receiveVote 26 = .ok (.return_, 1) := by decide +kernel
theorem dX4_receiveVote_27 : decode cX4_receiveVote 27 = .ok (.aload_n 1, 1) := by decide +kernel
theorem dX4_receiveVote_28 : decode cX4_receiveVote 28 = .ok (.getfield 236, 3) := by decide +kernel
theorem dX4_receiveVote_31 : decode cX4_receiveVote 31 = .ok (.aload_n 2, 1) := by decide +kernel
theorem dX4_receiveVote_32 : decode cX4_receiveVote 32 = .ok (.getfield 158, 3) := by decide +kernel
theorem dX4_receiveVote_35 : decode cX4_receiveVote 35 = .ok (.iconst 1, 1) := by decide +kernel
theorem dX4_receiveVote_36 : decode cX4_receiveVote 36 = .ok (.bastore, 1) := by decide +kernel
theorem dX4_receiveVote_37 : decode cX4_receiveVote 37 = .ok (.aload_n 0, 1) := by decide +kernel
theorem dX4_receiveVote_38 : decode cX4_receiveVote 38 = .ok (.aload_n 1, 1) := by decide +kernel
theorem dX4_receiveVote_39 : decode cX4_receiveVote 39 = .ok (.invokevirtual 240, 3) := by decide +kernel
theorem dX4_receiveVote_42 : decode cX4_receiveVote 42 = .ok (.invokevirtual 243, 3) := by decide +kernel
theorem dX4_receiveVote_45 : decode cX4_receiveVote 45 = .ok (.ifCond .eq 7, 3) := by decide +kernel
theorem dX4_receiveVote_48 : decode cX4_receiveVote 48 = .ok (.aload_n 1, 1) := by decide +kernel
theorem dX4_receiveVote_49 : decode cX4_receiveVote 49 = .ok (.invokevirtual 246, 3) := by decide +kernel
theorem dX4_receiveVote_52 : decode cX4_receiveVote 52 = .ok (.return_, 1) := by decide +kernel
theorem dX4_receiveAppend_0 : decode cX4_receiveAppend 0 = .ok (.aload_n 2, 1) := by decide +kernel
theorem dX4_receiveAppend_1 : decode cX4_receiveAppend 1 = .ok (.getfield 161, 3) := by decide +kernel
theorem dX4_receiveAppend_4 : decode cX4_receiveAppend 4 = .ok (.aload_n 1, 1) := by decide +kernel
theorem dX4_receiveAppend_5 : decode cX4_receiveAppend 5 = .ok (.getfield 91, 3) := by decide +kernel
theorem dX4_receiveAppend_8 : decode cX4_receiveAppend 8 = .ok (.if_icmp .ge 15, 3) := by decide +kernel
theorem dX4_receiveAppend_11 : decode cX4_receiveAppend 11 = .ok (.aload_n 0, 1) := by decide +kernel
theorem dX4_receiveAppend_12 : decode cX4_receiveAppend 12 = .ok (.aload_n 1, 1) := by decide +kernel
theorem dX4_receiveAppend_13 : decode cX4_receiveAppend 13 = .ok (.aload_n 2, 1) := by decide +kernel
theorem dX4_receiveAppend_14 : decode cX4_receiveAppend 14 = .ok (.getfield 158, 3) := by decide +kernel
theorem dX4_receiveAppend_17 : decode cX4_receiveAppend 17 = .ok (.iconst 0, 1) := by decide +kernel
theorem dX4_receiveAppend_18 : decode cX4_receiveAppend 18 = .ok (.iconst 0, 1) := by decide +kernel
theorem dX4_receiveAppend_19 : decode cX4_receiveAppend 19 = .ok (.invokevirtual 249, 3) := by decide +kernel
theorem dX4_receiveAppend_22 : decode cX4_receiveAppend 22 = .ok (.return_, 1) := by decide +kernel
theorem dX4_receiveAppend_23 : decode cX4_receiveAppend 23 = .ok (.aload_n 1, 1) := by decide +kernel
theorem dX4_receiveAppend_24 : decode cX4_receiveAppend 24 = .ok (.iconst 0, 1) := by decide +kernel
theorem dX4_receiveAppend_25 : decode cX4_receiveAppend 25 = .ok (.putfield 49, 3) := by decide +kernel
theorem dX4_receiveAppend_28 : decode cX4_receiveAppend 28 = .ok (.aload_n 2, 1) := by decide +kernel
theorem dX4_receiveAppend_29 : decode cX4_receiveAppend 29 = .ok (.getfield 178, 3) := by decide +kernel
theorem dX4_receiveAppend_32 : decode cX4_receiveAppend 32 = .ok (.aload_n 1, 1) := by decide +kernel
theorem dX4_receiveAppend_33 : decode cX4_receiveAppend 33 = .ok (.getfield 72, 3) := by decide +kernel
theorem dX4_receiveAppend_36 : decode cX4_receiveAppend 36 = .ok (.getfield 76, 3) := by decide +kernel
theorem dX4_receiveAppend_39 : decode cX4_receiveAppend 39 = .ok (.if_icmp .ge 21, 3) := by decide +kernel
theorem dX4_receiveAppend_42 : decode cX4_receiveAppend 42 = .ok (.aload_n 0, 1) := by decide +kernel
theorem dX4_receiveAppend_43 : decode cX4_receiveAppend 43 = .ok (.aload_n 1, 1) := by decide +kernel
theorem dX4_receiveAppend_44 : decode cX4_receiveAppend 44 = .ok (.aload_n 2, 1) := by decide +kernel
theorem dX4_receiveAppend_45 : decode cX4_receiveAppend 45 = .ok (.getfield 158, 3) := by decide +kernel
theorem dX4_receiveAppend_48 : decode cX4_receiveAppend 48 = .ok (.iconst 1, 1) := by decide +kernel
theorem dX4_receiveAppend_49 : decode cX4_receiveAppend 49 = .ok (.aload_n 1, 1) := by decide +kernel
theorem dX4_receiveAppend_50 : decode cX4_receiveAppend 50 = .ok (.getfield 72, 3) := by decide +kernel
theorem dX4_receiveAppend_53 : decode cX4_receiveAppend 53 = .ok (.getfield 76, 3) := by decide +kernel
theorem dX4_receiveAppend_56 : decode cX4_receiveAppend 56 = .ok (.invokevirtual 249, 3) := by decide +kernel
theorem dX4_receiveAppend_59 : decode cX4_receiveAppend 59 = .ok (.return_, 1) := by decide +kernel
theorem dX4_receiveAppend_60 : decode cX4_receiveAppend 60 = .ok (.aload_n 2, 1) := by decide +kernel
theorem dX4_receiveAppend_61 : decode cX4_receiveAppend 61 = .ok (.getfield 178, 3) := by decide +kernel
theorem dX4_receiveAppend_64 : decode cX4_receiveAppend 64 = .ok (.aload_n 1, 1) := by decide +kernel
theorem dX4_receiveAppend_65 : decode cX4_receiveAppend 65 = .ok (.getfield 72, 3) := by decide +kernel
theorem dX4_receiveAppend_68 : decode cX4_receiveAppend 68 = .ok (.invokevirtual 98, 3) := by decide +kernel
theorem dX4_receiveAppend_71 : decode cX4_receiveAppend 71 = .ok (.if_icmp .gt 21, 3) := by decide +kernel
theorem dX4_receiveAppend_74 : decode cX4_receiveAppend 74 = .ok (.aload_n 1, 1) := by decide +kernel
theorem dX4_receiveAppend_75 : decode cX4_receiveAppend 75 = .ok (.getfield 72, 3) := by decide +kernel
theorem dX4_receiveAppend_78 : decode cX4_receiveAppend 78 = .ok (.aload_n 2, 1) := by decide +kernel
theorem dX4_receiveAppend_79 : decode cX4_receiveAppend 79 = .ok (.getfield 178, 3) := by decide +kernel
theorem dX4_receiveAppend_82 : decode cX4_receiveAppend 82 = .ok (.invokevirtual 104, 3) := by decide +kernel
theorem dX4_receiveAppend_85 : decode cX4_receiveAppend 85 = .ok (.aload_n 2, 1) := by decide +kernel
theorem dX4_receiveAppend_86 : decode cX4_receiveAppend 86 = .ok (.getfield 184, 3) := by decide +kernel
theorem dX4_receiveAppend_89 : decode cX4_receiveAppend 89 = .ok (.if_icmp .eq 15, 3) := by decide +kernel
theorem dX4_receiveAppend_92 : decode cX4_receiveAppend 92 = .ok (.aload_n 0, 1) := by decide +kernel
theorem dX4_receiveAppend_93 : decode cX4_receiveAppend 93 = .ok (.aload_n 1, 1) := by decide +kernel
theorem dX4_receiveAppend_94 : decode cX4_receiveAppend 94 = .ok (.aload_n 2, 1) := by decide +kernel
theorem dX4_receiveAppend_95 : decode cX4_receiveAppend 95 = .ok (.getfield 158, 3) := by decide +kernel
theorem dX4_receiveAppend_98 : decode cX4_receiveAppend 98 = .ok (.iconst 0, 1) := by decide +kernel
theorem dX4_receiveAppend_99 : decode cX4_receiveAppend 99 = .ok (.iconst 0, 1) := by decide +kernel
theorem dX4_receiveAppend_100 : decode cX4_receiveAppend 100 = .ok (.invokevirtual 249, 3) := by decide +kernel
theorem dX4_receiveAppend_103 : decode cX4_receiveAppend 103 = .ok (.return_, 1) := by decide +kernel
theorem dX4_receiveAppend_104 : decode cX4_receiveAppend 104 = .ok (.aload_n 2, 1) := by decide +kernel
theorem dX4_receiveAppend_105 : decode cX4_receiveAppend 105 = .ok (.getfield 178, 3) := by decide +kernel
theorem dX4_receiveAppend_108 : decode cX4_receiveAppend 108 = .ok (.istore_n 3, 1) := by decide +kernel
theorem dX4_receiveAppend_109 : decode cX4_receiveAppend 109 = .ok (.aload_n 2, 1) := by decide +kernel
theorem dX4_receiveAppend_110 : decode cX4_receiveAppend 110 = .ok (.getfield 193, 3) := by decide +kernel
theorem dX4_receiveAppend_113 : decode cX4_receiveAppend 113 = .ok (.ifCond .eq 44, 3) := by decide +kernel
theorem dX4_receiveAppend_116 : decode cX4_receiveAppend 116 = .ok (.aload_n 1, 1) := by decide +kernel
theorem dX4_receiveAppend_117 : decode cX4_receiveAppend 117 = .ok (.aload_n 2, 1) := by decide +kernel
theorem dX4_receiveAppend_118 : decode cX4_receiveAppend 118 = .ok (.getfield 178, 3) := by decide +kernel
theorem dX4_receiveAppend_121 : decode cX4_receiveAppend 121 = .ok (.iconst 1, 1) := by decide +kernel
theorem dX4_receiveAppend_122 : decode cX4_receiveAppend 122 = .ok (.iadd, 1) := by decide +kernel
theorem dX4_receiveAppend_123 : decode cX4_receiveAppend 123 = .ok (.aload_n 2, 1) := by decide +kernel
theorem dX4_receiveAppend_124 : decode cX4_receiveAppend 124 = .ok (.getfield 195, 3) := by decide +kernel
theorem dX4_receiveAppend_127 : decode cX4_receiveAppend 127 = .ok (.aload_n 2, 1) := by decide +kernel
theorem dX4_receiveAppend_128 : decode cX4_receiveAppend 128 = .ok (.getfield 198, 3) := by decide +kernel
theorem dX4_receiveAppend_131 : decode cX4_receiveAppend 131 = .ok (.invokevirtual 253, 3) := by decide +kernel
theorem dX4_receiveAppend_134 : decode cX4_receiveAppend 134 = .ok (.aload_n 1, 1) := by decide +kernel
theorem dX4_receiveAppend_135 : decode cX4_receiveAppend 135 = .ok (.getfield 72, 3) := by decide +kernel
theorem dX4_receiveAppend_138 : decode cX4_receiveAppend 138 = .ok (.aload_n 2, 1) := by decide +kernel
theorem dX4_receiveAppend_139 : decode cX4_receiveAppend 139 = .ok (.getfield 178, 3) := by decide +kernel
theorem dX4_receiveAppend_142 : decode cX4_receiveAppend 142 = .ok (.iconst 1, 1) := by decide +kernel
theorem dX4_receiveAppend_143 : decode cX4_receiveAppend 143 = .ok (.iadd, 1) := by decide +kernel
theorem dX4_receiveAppend_144 : decode cX4_receiveAppend 144 = .ok (.invokevirtual 190, 3) := by decide +kernel
theorem dX4_receiveAppend_147 : decode cX4_receiveAppend 147 = .ok (.ifCond .eq 10, 3) := by decide +kernel
theorem dX4_receiveAppend_150 : decode cX4_receiveAppend 150 = .ok (.aload_n 2, 1) := by decide +kernel
theorem dX4_receiveAppend_151 : decode cX4_receiveAppend 151 = .ok (.getfield 178, 3) := by decide +kernel
theorem dX4_receiveAppend_154 : decode cX4_receiveAppend 154 = .ok (.iconst 1, 1) := by decide +kernel
theorem dX4_receiveAppend_155 : decode cX4_receiveAppend 155 = .ok (.iadd, 1) := by decide +kernel
theorem dX4_receiveAppend_156 : decode cX4_receiveAppend 156 = .ok (.istore_n 3, 1) := by decide +kernel
theorem dX4_receiveAppend_157 : decode cX4_receiveAppend 157 = .ok (.aload_n 1, 1) := by decide +kernel
theorem dX4_receiveAppend_158 : decode cX4_receiveAppend 158 = .ok (.aload_n 1, 1) := by decide +kernel
theorem dX4_receiveAppend_159 : decode cX4_receiveAppend 159 = .ok (.getfield 101, 3) := by decide +kernel
theorem dX4_receiveAppend_162 : decode cX4_receiveAppend 162 = .ok (.aload_n 2, 1) := by decide +kernel
theorem dX4_receiveAppend_163 : decode cX4_receiveAppend 163 = .ok (.getfield 201, 3) := by decide +kernel
theorem dX4_receiveAppend_166 : decode cX4_receiveAppend 166 = .ok (.iload_n 3, 1) := by decide +kernel
theorem dX4_receiveAppend_167 : decode cX4_receiveAppend 167 = .ok (.invokestatic 162, 3) := by decide +kernel
theorem dX4_receiveAppend_170 : decode cX4_receiveAppend 170 = .ok (.invokestatic 168, 3) := by decide +kernel
theorem dX4_receiveAppend_173 : decode cX4_receiveAppend 173 = .ok (.putfield 101, 3) := by decide +kernel
theorem dX4_receiveAppend_176 : decode cX4_receiveAppend 176 = .ok (.aload_n 0, 1) := by decide +kernel
theorem dX4_receiveAppend_177 : decode cX4_receiveAppend 177 = .ok (.aload_n 1, 1) := by decide +kernel
theorem dX4_receiveAppend_178 : decode cX4_receiveAppend 178 = .ok (.aload_n 2, 1) := by decide +kernel
theorem dX4_receiveAppend_179 : decode cX4_receiveAppend 179 = .ok (.getfield 158, 3) := by decide +kernel
theorem dX4_receiveAppend_182 : decode cX4_receiveAppend 182 = .ok (.iconst 1, 1) := by decide +kernel
theorem dX4_receiveAppend_183 : decode cX4_receiveAppend 183 = .ok (.iload_n 3, 1) := by decide +kernel
theorem dX4_receiveAppend_184 : decode cX4_receiveAppend 184 = .ok (.invokevirtual 249, 3) := by decide +kernel
theorem dX4_receiveAppend_187 : decode cX4_receiveAppend 187 = .ok (.return_, 1) := by decide +kernel
theorem dX4_receiveAppended_0 : decode cX4_receiveAppended 0 = .ok (.aload_n 1, 1) := by decide +kernel
theorem dX4_receiveAppended_1 : decode cX4_receiveAppended 1 = .ok (.getfield 49, 3) := by decide +kernel
theorem dX4_receiveAppended_4 : decode cX4_receiveAppended 4 = .ok (.iconst 2, 1) := by decide +kernel
theorem dX4_receiveAppended_5 : decode cX4_receiveAppended 5 = .ok (.if_icmp .ne 14, 3) := by decide +kernel
theorem dX4_receiveAppended_8 : decode cX4_receiveAppended 8 = .ok (.aload_n 2, 1) := by decide +kernel
theorem dX4_receiveAppended_9 : decode cX4_receiveAppended 9 = .ok (.getfield 161, 3) := by decide +kernel
theorem dX4_receiveAppended_12 : decode cX4_receiveAppended 12 = .ok (.aload_n 1, 1) := by decide +kernel
theorem dX4_receiveAppended_13 : decode cX4_receiveAppended 13 = .ok (.getfield 91, 3) := by decide +kernel
theorem dX4_receiveAppended_16 : decode cX4_receiveAppended 16 = .ok (.if_icmp .eq 4, 3) := by decide +kernel
theorem dX4_receiveAppended_19 : decode cX4_receiveAppended 19 = .ok (.return_, 1) := by decide +kernel
theorem dX4_receiveAppended_20 : decode cX4_receiveAppended 20 = .ok (.aload_n 2, 1) := by decide +kernel
theorem dX4_receiveAppended_21 : decode cX4_receiveAppended 21 = .ok (.getfield 187, 3) := by decide +kernel
theorem dX4_receiveAppended_24 : decode cX4_receiveAppended 24 = .ok (.ifCond .ne 28, 3) := by decide +kernel
theorem dX4_receiveAppended_27 : decode cX4_receiveAppended 27 = .ok (.aload_n 1, 1) := by decide +kernel
theorem dX4_receiveAppended_28 : decode cX4_receiveAppended 28 = .ok (.getfield 68, 3) := by decide +kernel
theorem dX4_receiveAppended_31 : decode cX4_receiveAppended 31 = .ok (.aload_n 2, 1) := by decide +kernel
theorem dX4_receiveAppended_32 : decode cX4_receiveAppended 32 = .ok (.getfield 158, 3) := by decide +kernel
theorem dX4_receiveAppended_35 : decode cX4_receiveAppended 35 = .ok (.iconst 1, 1) := by decide +kernel
theorem dX4_receiveAppended_36 : decode cX4_receiveAppended 36 = .ok (.aload_n 1, 1) := by decide +kernel
theorem dX4_receiveAppended_37 : decode cX4_receiveAppended 37 = .ok (.getfield 68, 3) := by decide +kernel
theorem dX4_receiveAppended_40 : decode cX4_receiveAppended 40 = .ok (.aload_n 2, 1) := by decide +kernel
theorem dX4_receiveAppended_41 : decode cX4_receiveAppended 41 = .ok (.getfield 158, 3) := by decide +kernel
theorem dX4_receiveAppended_44 : decode cX4_receiveAppended 44 = .ok (.iaload, 1) := by decide +kernel
theorem dX4_receiveAppended_45 : decode cX4_receiveAppended 45 = .ok (.iconst 1, 1) := by decide +kernel
theorem dX4_receiveAppended_46 : decode cX4_receiveAppended 46 = .ok (.isub, 1) := by decide +kernel
theorem dX4_receiveAppended_47 : decode cX4_receiveAppended 47 = .ok (.invokestatic 168, 3) := by decide +kernel
theorem dX4_receiveAppended_50 : decode cX4_receiveAppended 50 = .ok (.iastore, 1) := by decide +kernel
theorem dX4_receiveAppended_51 : decode cX4_receiveAppended 51 = .ok (.return_, 1) := by decide +kernel
theorem dX4_receiveAppended_52 : decode cX4_receiveAppended 52 = .ok (.aload_n 1, 1) := by decide +kernel
theorem dX4_receiveAppended_53 : decode cX4_receiveAppended 53 = .ok (.getfield 151, 3) := by decide +kernel
theorem dX4_receiveAppended_56 : decode cX4_receiveAppended 56 = .ok (.aload_n 2, 1) := by decide +kernel
theorem dX4_receiveAppended_57 : decode cX4_receiveAppended 57 = .ok (.getfield 158, 3) := by decide +kernel
theorem dX4_receiveAppended_60 : decode cX4_receiveAppended 60 = .ok (.aload_n 1, 1) := by decide +kernel
theorem dX4_receiveAppended_61 : decode cX4_receiveAppended 61 = .ok (.getfield 151, 3) := by decide +kernel
theorem dX4_receiveAppended_64 : decode cX4_receiveAppended 64 = .ok (.aload_n 2, 1) := by decide +kernel
theorem dX4_receiveAppended_65 : decode cX4_receiveAppended 65 = .ok (.getfield 158, 3) := by decide +kernel
theorem dX4_receiveAppended_68 : decode cX4_receiveAppended 68 = .ok (.iaload, 1) := by decide +kernel
theorem dX4_receiveAppended_69 : decode cX4_receiveAppended 69 = .ok (.aload_n 2, 1) := by decide +kernel
theorem dX4_receiveAppended_70 : decode cX4_receiveAppended 70 = .ok (.getfield 178, 3) := by decide +kernel
theorem dX4_receiveAppended_73 : decode cX4_receiveAppended 73 = .ok (.invokestatic 168, 3) := by decide +kernel
theorem dX4_receiveAppended_76 : decode cX4_receiveAppended 76 = .ok (.iastore, 1) := by decide +kernel
theorem dX4_receiveAppended_77 : decode cX4_receiveAppended 77 = .ok (.aload_n 1, 1) := by decide +kernel
theorem dX4_receiveAppended_78 : decode cX4_receiveAppended 78 = .ok (.getfield 68, 3) := by decide +kernel
theorem dX4_receiveAppended_81 : decode cX4_receiveAppended 81 = .ok (.aload_n 2, 1) := by decide +kernel
theorem dX4_receiveAppended_82 : decode cX4_receiveAppended 82 = .ok (.getfield 158, 3) := by decide +kernel
theorem dX4_receiveAppended_85 : decode cX4_receiveAppended 85 = .ok (.aload_n 1, 1) := by decide +kernel
theorem dX4_receiveAppended_86 : decode cX4_receiveAppended 86 = .ok (.getfield 151, 3) := by decide +kernel
theorem dX4_receiveAppended_89 : decode cX4_receiveAppended 89 = .ok (.aload_n 2, 1) := by decide +kernel
theorem dX4_receiveAppended_90 : decode cX4_receiveAppended 90 = .ok (.getfield 158, 3) := by decide +kernel
theorem dX4_receiveAppended_93 : decode cX4_receiveAppended 93 = .ok (.iaload, 1) := by decide +kernel
theorem dX4_receiveAppended_94 : decode cX4_receiveAppended 94 = .ok (.iconst 1, 1) := by decide +kernel
theorem dX4_receiveAppended_95 : decode cX4_receiveAppended 95 = .ok (.iadd, 1) := by decide +kernel
theorem dX4_receiveAppended_96 : decode cX4_receiveAppended 96 = .ok (.iastore, 1) := by decide +kernel
theorem dX4_receiveAppended_97 : decode cX4_receiveAppended 97 = .ok (.aload_n 0, 1) := by decide +kernel
theorem dX4_receiveAppended_98 : decode cX4_receiveAppended 98 = .ok (.aload_n 1, 1) := by decide +kernel
theorem dX4_receiveAppended_99 : decode cX4_receiveAppended 99 = .ok (.invokevirtual 256, 3) := by decide +kernel
theorem dX4_receiveAppended_102 : decode cX4_receiveAppended 102 = .ok (.return_, 1) := by decide +kernel
theorem dX4_receiveSnapshot_0 : decode cX4_receiveSnapshot 0 = .ok (.aload_n 2, 1) := by decide +kernel
theorem dX4_receiveSnapshot_1 : decode cX4_receiveSnapshot 1 = .ok (.getfield 161, 3) := by decide +kernel
theorem dX4_receiveSnapshot_4 : decode cX4_receiveSnapshot 4 = .ok (.aload_n 1, 1) := by decide +kernel
theorem dX4_receiveSnapshot_5 : decode cX4_receiveSnapshot 5 = .ok (.getfield 91, 3) := by decide +kernel
theorem dX4_receiveSnapshot_8 : decode cX4_receiveSnapshot 8 = .ok (.if_icmp .ge 15, 3) := by decide +kernel
theorem dX4_receiveSnapshot_11 : decode cX4_receiveSnapshot 11 = .ok (.aload_n 0, 1) := by decide +kernel
theorem dX4_receiveSnapshot_12 : decode cX4_receiveSnapshot 12 = .ok (.aload_n 1, 1) := by decide +kernel
theorem dX4_receiveSnapshot_13 : decode cX4_receiveSnapshot 13 = .ok (.aload_n 2, 1) := by decide +kernel
theorem dX4_receiveSnapshot_14 : decode cX4_receiveSnapshot 14 = .ok (.getfield 158, 3) := by decide +kernel
theorem dX4_receiveSnapshot_17 : decode cX4_receiveSnapshot 17 = .ok (.iconst 0, 1) := by decide +kernel
theorem dX4_receiveSnapshot_18 : decode cX4_receiveSnapshot 18 = .ok (.iconst 0, 1) := by decide +kernel
theorem dX4_receiveSnapshot_19 : decode cX4_receiveSnapshot 19 = .ok (.invokevirtual 249, 3) := by decide +kernel
theorem dX4_receiveSnapshot_22 : decode cX4_receiveSnapshot 22 = .ok (.return_, 1) := by decide +kernel
theorem dX4_receiveSnapshot_23 : decode cX4_receiveSnapshot 23 = .ok (.aload_n 1, 1) := by decide +kernel
theorem dX4_receiveSnapshot_24 : decode cX4_receiveSnapshot 24 = .ok (.iconst 0, 1) := by decide +kernel
theorem dX4_receiveSnapshot_25 : decode cX4_receiveSnapshot 25 = .ok (.putfield 49, 3) := by decide +kernel
theorem dX4_receiveSnapshot_28 : decode cX4_receiveSnapshot 28 = .ok (.aload_n 2, 1) := by decide +kernel
theorem dX4_receiveSnapshot_29 : decode cX4_receiveSnapshot 29 = .ok (.getfield 178, 3) := by decide +kernel
theorem dX4_receiveSnapshot_32 : decode cX4_receiveSnapshot 32 = .ok (.aload_n 1, 1) := by decide +kernel
theorem dX4_receiveSnapshot_33 : decode cX4_receiveSnapshot 33 = .ok (.getfield 101, 3) := by decide +kernel
theorem dX4_receiveSnapshot_36 : decode cX4_receiveSnapshot 36 = .ok (.if_icmp .gt 18, 3) := by decide +kernel
theorem dX4_receiveSnapshot_39 : decode cX4_receiveSnapshot 39 = .ok (.aload_n 0, 1) := by decide +kernel
theorem dX4_receiveSnapshot_40 : decode cX4_receiveSnapshot 40 = .ok (.aload_n 1, 1) := by decide +kernel
theorem dX4_receiveSnapshot_41 : decode cX4_receiveSnapshot 41 = .ok (.aload_n 2, 1) := by decide +kernel
theorem dX4_receiveSnapshot_42 : decode cX4_receiveSnapshot 42 = .ok (.getfield 158, 3) := by decide +kernel
theorem dX4_receiveSnapshot_45 : decode cX4_receiveSnapshot 45 = .ok (.iconst 1, 1) := by decide +kernel
theorem dX4_receiveSnapshot_46 : decode cX4_receiveSnapshot 46 = .ok (.aload_n 1, 1) := by decide +kernel
theorem dX4_receiveSnapshot_47 : decode cX4_receiveSnapshot 47 = .ok (.getfield 101, 3) := by decide +kernel
theorem dX4_receiveSnapshot_50 : decode cX4_receiveSnapshot 50 = .ok (.invokevirtual 249, 3) := by decide +kernel
theorem dX4_receiveSnapshot_53 : decode cX4_receiveSnapshot 53 = .ok (.return_, 1) := by decide +kernel
theorem dX4_receiveSnapshot_54 : decode cX4_receiveSnapshot 54 = .ok (.aload_n 1, 1) := by decide +kernel
theorem dX4_receiveSnapshot_55 : decode cX4_receiveSnapshot 55 = .ok (.getfield 72, 3) := by decide +kernel
theorem dX4_receiveSnapshot_58 : decode cX4_receiveSnapshot 58 = .ok (.aload_n 2, 1) := by decide +kernel
theorem dX4_receiveSnapshot_59 : decode cX4_receiveSnapshot 59 = .ok (.getfield 178, 3) := by decide +kernel
theorem dX4_receiveSnapshot_62 : decode cX4_receiveSnapshot 62 = .ok (.invokevirtual 104, 3) := by decide +kernel
theorem dX4_receiveSnapshot_65 : decode cX4_receiveSnapshot 65 = .ok (.aload_n 2, 1) := by decide +kernel
theorem dX4_receiveSnapshot_66 : decode cX4_receiveSnapshot 66 = .ok (.getfield 184, 3) := by decide +kernel
theorem dX4_receiveSnapshot_69 : decode cX4_receiveSnapshot 69 = .ok (.if_icmp .eq 19, 3) := by decide +kernel
theorem dX4_receiveSnapshot_72 : decode cX4_receiveSnapshot 72 = .ok (.aload_n 1, 1) := by decide +kernel
theorem dX4_receiveSnapshot_73 : decode cX4_receiveSnapshot 73 = .ok (.getfield 72, 3) := by decide +kernel
theorem dX4_receiveSnapshot_76 : decode cX4_receiveSnapshot 76 = .ok (.aload_n 1, 1) := by decide +kernel
theorem dX4_receiveSnapshot_77 : decode cX4_receiveSnapshot 77 = .ok (.getfield 72, 3) := by decide +kernel
theorem dX4_receiveSnapshot_80 : decode cX4_receiveSnapshot 80 = .ok (.getfield 76, 3) := by decide +kernel
theorem dX4_receiveSnapshot_83 : decode cX4_receiveSnapshot 83 = .ok (.iconst 1, 1) := by decide +kernel
theorem dX4_receiveSnapshot_84 : decode cX4_receiveSnapshot 84 = .ok (.iadd, 1) := by decide +kernel
theorem dX4_receiveSnapshot_85 : decode cX4_receiveSnapshot 85 = .ok (.invokevirtual 260, 3) := by decide +kernel
theorem dX4_receiveSnapshot_88 : decode cX4_receiveSnapshot 88 = .ok (.aload_n 1, 1) := by decide +kernel
theorem dX4_receiveSnapshot_89 : decode cX4_receiveSnapshot 89 = .ok (.getfield 72, 3) := by decide +kernel
theorem dX4_receiveSnapshot_92 : decode cX4_receiveSnapshot 92 = .ok (.aload_n 2, 1) := by decide +kernel
theorem dX4_receiveSnapshot_93 : decode cX4_receiveSnapshot 93 = .ok (.getfield 178, 3) := by decide +kernel
theorem dX4_receiveSnapshot_96 : decode cX4_receiveSnapshot 96 = .ok (.aload_n 2, 1) := by decide +kernel
theorem dX4_receiveSnapshot_97 : decode cX4_receiveSnapshot 97 = .ok (.getfield 184, 3) := by decide +kernel
theorem dX4_receiveSnapshot_100 : decode cX4_receiveSnapshot 100 = .ok (.aload_n 2, 1) := by decide +kernel
theorem dX4_receiveSnapshot_101 : decode cX4_receiveSnapshot 101 = .ok (.getfield 208, 3) := by decide +kernel
theorem dX4_receiveSnapshot_104 : decode cX4_receiveSnapshot 104 = .ok (.invokevirtual 111, 3) := by decide +kernel
theorem dX4_receiveSnapshot_107 : decode cX4_receiveSnapshot 107 = .ok (.aload_n 1, 1) := by decide +kernel
theorem dX4_receiveSnapshot_108 : decode cX4_receiveSnapshot 108 = .ok (.aload_n 2, 1) := by decide +kernel
theorem dX4_receiveSnapshot_109 : decode cX4_receiveSnapshot 109 = .ok (.getfield 178, 3) := by decide +kernel
theorem dX4_receiveSnapshot_112 : decode cX4_receiveSnapshot 112 = .ok (.putfield 101, 3) := by decide +kernel
theorem dX4_receiveSnapshot_115 : decode cX4_receiveSnapshot 115 = .ok (.aload_n 0, 1) := by decide +kernel
theorem dX4_receiveSnapshot_116 : decode cX4_receiveSnapshot 116 = .ok (.aload_n 1, 1) := by decide +kernel
theorem dX4_receiveSnapshot_117 : decode cX4_receiveSnapshot 117 = .ok (.aload_n 2, 1) := by decide +kernel
theorem dX4_receiveSnapshot_118 : decode cX4_receiveSnapshot 118 = .ok (.getfield 158, 3) := by decide +kernel
theorem dX4_receiveSnapshot_121 : decode cX4_receiveSnapshot 121 = .ok (.iconst 1, 1) := by decide +kernel
theorem dX4_receiveSnapshot_122 : decode cX4_receiveSnapshot 122 = .ok (.aload_n 2, 1) := by decide +kernel
theorem dX4_receiveSnapshot_123 : decode cX4_receiveSnapshot 123 = .ok (.getfield 178, 3) := by decide +kernel
theorem dX4_receiveSnapshot_126 : decode cX4_receiveSnapshot 126 = .ok (.invokevirtual 249, 3) := by decide +kernel
theorem dX4_receiveSnapshot_129 : decode cX4_receiveSnapshot 129 = .ok (.return_, 1) := by decide +kernel
theorem dX4_advanceCommit_0 : decode cX4_advanceCommit 0 = .ok (.aload_n 1, 1) := by decide +kernel
theorem dX4_advanceCommit_1 : decode cX4_advanceCommit 1 = .ok (.getfield 72, 3) := by decide +kernel
theorem dX4_advanceCommit_4 : decode cX4_advanceCommit 4 = .ok (.invokevirtual 98, 3) := by decide +kernel
theorem dX4_advanceCommit_7 : decode cX4_advanceCommit 7 = .ok (.istore_n 2, 1) := by decide +kernel
theorem dX4_advanceCommit_8 : decode cX4_advanceCommit 8 = .ok (.iload_n 2, 1) := by decide +kernel
theorem dX4_advanceCommit_9 : decode cX4_advanceCommit 9 = .ok (.aload_n 1, 1) := by decide +kernel
theorem dX4_advanceCommit_10 : decode cX4_advanceCommit 10 = .ok (.getfield 101, 3) := by decide +kernel
theorem dX4_advanceCommit_13 : decode cX4_advanceCommit 13 = .ok (.if_icmp .le 42, 3) := by decide +kernel
theorem dX4_advanceCommit_16 : decode cX4_advanceCommit 16 = .ok (.aload_n 1, 1) := by decide +kernel
theorem dX4_advanceCommit_17 : decode cX4_advanceCommit 17 = .ok (.getfield 72, 3) := by decide +kernel
theorem dX4_advanceCommit_20 : decode cX4_advanceCommit 20 = .ok (.iload_n 2, 1) := by decide +kernel
theorem dX4_advanceCommit_21 : decode cX4_advanceCommit 21 = .ok (.invokevirtual 104, 3) := by decide +kernel
theorem dX4_advanceCommit_24 : decode cX4_advanceCommit 24 = .ok (.aload_n 1, 1) := by decide +kernel
theorem dX4_advanceCommit_25 : decode cX4_advanceCommit 25 = .ok (.getfield 91, 3) := by decide +kernel
theorem dX4_advanceCommit_28 : decode cX4_advanceCommit 28 = .ok (.if_icmp .ne 21, 3) := by decide +kernel
theorem dX4_advanceCommit_31 : decode cX4_advanceCommit 31 = .ok (.aload_n 0, 1) := by decide +kernel
theorem dX4_advanceCommit_32 : decode cX4_advanceCommit 32 = .ok (.aload_n 1, 1) := by decide +kernel
theorem dX4_advanceCommit_33 : decode cX4_advanceCommit 33 = .ok (.iload_n 2, 1) := by decide +kernel
theorem dX4_advanceCommit_34 : decode cX4_advanceCommit 34 = .ok (.invokevirtual 263, 3) := by decide +kernel
theorem dX4_advanceCommit_37 : decode cX4_advanceCommit 37 = .ok (.invokevirtual 243, 3) := by decide +kernel
theorem dX4_advanceCommit_40 : decode cX4_advanceCommit 40 = .ok (.ifCond .eq 9, 3) := by decide +kernel
theorem dX4_advanceCommit_43 : decode cX4_advanceCommit 43 = .ok (.aload_n 1, 1) := by decide +kernel
theorem dX4_advanceCommit_44 : decode cX4_advanceCommit 44 = .ok (.iload_n 2, 1) := by decide +kernel
theorem dX4_advanceCommit_45 : decode cX4_advanceCommit 45 = .ok (.putfield 101, 3) := by decide +kernel
theorem dX4_advanceCommit_48 : decode cX4_advanceCommit 48 = .ok (.return_, 1) := by decide +kernel
theorem dX4_advanceCommit_49 : decode cX4_advanceCommit 49 = .ok (.iinc 2 (-1), 3) := by decide +kernel
theorem dX4_advanceCommit_52 : decode cX4_advanceCommit 52 = .ok (.goto (-44), 3) := by decide +kernel
theorem dX4_advanceCommit_55 : decode cX4_advanceCommit 55 = .ok (.return_, 1) := by decide +kernel
theorem dX0_init_0 : decode cX0_init 0 = .ok (.aload_n 0, 1) := by decide +kernel
theorem dX0_init_1 : decode cX0_init 1 = .ok (.invokespecial 3, 3) := by decide +kernel
theorem dX0_init_4 : decode cX0_init 4 = .ok (.aload_n 0, 1) := by decide +kernel
theorem dX0_init_5 : decode cX0_init 5 = .ok (.iload_n 1, 1) := by decide +kernel
theorem dX0_init_6 : decode cX0_init 6 = .ok (.newarray .int, 2) := by decide +kernel
theorem dX0_init_8 : decode cX0_init 8 = .ok (.putfield 9, 3) := by decide +kernel
theorem dX0_init_11 : decode cX0_init 11 = .ok (.aload_n 0, 1) := by decide +kernel
theorem dX0_init_12 : decode cX0_init 12 = .ok (.iload_n 1, 1) := by decide +kernel
theorem dX0_init_13 : decode cX0_init 13 = .ok (.newarray .int, 2) := by decide +kernel
theorem dX0_init_15 : decode cX0_init 15 = .ok (.putfield 15, 3) := by decide +kernel
theorem dX0_init_18 : decode cX0_init 18 = .ok (.return_, 1) := by decide +kernel
theorem dX0_lastNumber_0 : decode cX0_lastNumber 0 = .ok (.aload_n 0, 1) := by decide +kernel
theorem dX0_lastNumber_1 : decode cX0_lastNumber 1 = .ok (.getfield 18, 3) := by decide +kernel
theorem dX0_lastNumber_4 : decode cX0_lastNumber 4 = .ok (.aload_n 0, 1) := by decide +kernel
theorem dX0_lastNumber_5 : decode cX0_lastNumber 5 = .ok (.getfield 22, 3) := by decide +kernel
theorem dX0_lastNumber_8 : decode cX0_lastNumber 8 = .ok (.iadd, 1) := by decide +kernel
theorem dX0_lastNumber_9 : decode cX0_lastNumber 9 = .ok (.ireturn, 1) := by decide +kernel
theorem dX0_lastTerm_0 : decode cX0_lastTerm 0 = .ok (.aload_n 0, 1) := by decide +kernel
theorem dX0_lastTerm_1 : decode cX0_lastTerm 1 = .ok (.getfield 22, 3) := by decide +kernel
theorem dX0_lastTerm_4 : decode cX0_lastTerm 4 = .ok (.ifCond .le 17, 3) := by decide +kernel
theorem dX0_lastTerm_7 : decode cX0_lastTerm 7 = .ok (.aload_n 0, 1) := by decide +kernel
theorem dX0_lastTerm_8 : decode cX0_lastTerm 8 = .ok (.getfield 9, 3) := by decide +kernel
theorem dX0_lastTerm_11 : decode cX0_lastTerm 11 = .ok (.aload_n 0, 1) := by decide +kernel
theorem dX0_lastTerm_12 : decode cX0_lastTerm 12 = .ok (.getfield 22, 3) := by decide +kernel
theorem dX0_lastTerm_15 : decode cX0_lastTerm 15 = .ok (.iconst 1, 1) := by decide +kernel
theorem dX0_lastTerm_16 : decode cX0_lastTerm 16 = .ok (.isub, 1) := by decide +kernel
theorem dX0_lastTerm_17 : decode cX0_lastTerm 17 = .ok (.iaload, 1) := by decide +kernel
theorem dX0_lastTerm_18 : decode cX0_lastTerm 18 = .ok (.goto 7, 3) := by decide +kernel
theorem dX0_lastTerm_21 : decode cX0_lastTerm 21 = .ok (.aload_n 0, 1) := by decide +kernel
theorem dX0_lastTerm_22 : decode cX0_lastTerm 22 = .ok (.getfield 25, 3) := by decide +kernel
theorem dX0_lastTerm_25 : decode cX0_lastTerm 25 = .ok (.ireturn, 1) := by decide +kernel
theorem dX0_isFull_0 : decode cX0_isFull 0 = .ok (.aload_n 0, 1) := by decide +kernel
theorem dX0_isFull_1 : decode cX0_isFull 1 = .ok (.getfield 22, 3) := by decide +kernel
theorem dX0_isFull_4 : decode cX0_isFull 4 = .ok (.aload_n 0, 1) := by decide +kernel
theorem dX0_isFull_5 : decode cX0_isFull 5 = .ok (.getfield 9, 3) := by decide +kernel
theorem dX0_isFull_8 : decode cX0_isFull 8 = .ok (.arraylength, 1) := by decide +kernel
theorem dX0_isFull_9 : decode cX0_isFull 9 = .ok (.if_icmp .lt 7, 3) := by decide +kernel
theorem dX0_isFull_12 : decode cX0_isFull 12 = .ok (.iconst 1, 1) := by decide +kernel
theorem dX0_isFull_13 : decode cX0_isFull 13 = .ok (.goto 4, 3) := by decide +kernel
theorem dX0_isFull_16 : decode cX0_isFull 16 = .ok (.iconst 0, 1) := by decide +kernel
theorem dX0_isFull_17 : decode cX0_isFull 17 = .ok (.ireturn, 1) := by decide +kernel
theorem dX0_hasEntry_0 : decode cX0_hasEntry 0 = .ok (.iload_n 1, 1) := by decide +kernel
theorem dX0_hasEntry_1 : decode cX0_hasEntry 1 = .ok (.aload_n 0, 1) := by decide +kernel
theorem dX0_hasEntry_2 : decode cX0_hasEntry 2 = .ok (.getfield 18, 3) := by decide +kernel
theorem dX0_hasEntry_5 : decode cX0_hasEntry 5 = .ok (.if_icmp .le 20, 3) := by decide +kernel
theorem dX0_hasEntry_8 : decode cX0_hasEntry 8 = .ok (.iload_n 1, 1) := by decide +kernel
theorem dX0_hasEntry_9 : decode cX0_hasEntry 9 = .ok (.aload_n 0, 1) := by decide +kernel
theorem dX0_hasEntry_10 : decode cX0_hasEntry 10 = .ok (.getfield 18, 3) := by decide +kernel
theorem dX0_hasEntry_13 : decode cX0_hasEntry 13 = .ok (.aload_n 0, 1) := by decide +kernel
theorem dX0_hasEntry_14 : decode cX0_hasEntry 14 = .ok (.getfield 22, 3) := by decide +kernel
theorem dX0_hasEntry_17 : decode cX0_hasEntry 17 = .ok (.iadd, 1) := by decide +kernel
theorem dX0_hasEntry_18 : decode cX0_hasEntry 18 = .ok (.if_icmp .gt 7, 3) := by decide +kernel
theorem dX0_hasEntry_21 : decode cX0_hasEntry 21 = .ok (.iconst 1, 1) := by decide +kernel
theorem dX0_hasEntry_22 : decode cX0_hasEntry 22 = .ok (.goto 4, 3) := by decide +kernel
theorem dX0_hasEntry_25 : decode cX0_hasEntry 25 = .ok (.iconst 0, 1) := by decide +kernel
theorem dX0_hasEntry_26 : decode cX0_hasEntry 26 = .ok (.ireturn, 1) := by decide +kernel
theorem dX0_termOf_0 : decode cX0_termOf 0 = .ok (.aload_n 0, 1) := by decide +kernel
theorem dX0_termOf_1 : decode cX0_termOf 1 = .ok (.iload_n 1, 1) := by decide +kernel
theorem dX0_termOf_2 : decode cX0_termOf 2 = .ok (.invokevirtual 28, 3) := by decide +kernel
theorem dX0_termOf_5 : decode cX0_termOf 5 = .ok (.ifCond .eq 17, 3) := by decide +kernel
theorem dX0_termOf_8 : decode cX0_termOf 8 = .ok (.aload_n 0, 1) := by decide +kernel
theorem dX0_termOf_9 : decode cX0_termOf 9 = .ok (.getfield 9, 3) := by decide +kernel
theorem dX0_termOf_12 : decode cX0_termOf 12 = .ok (.iload_n 1, 1) := by decide +kernel
theorem dX0_termOf_13 : decode cX0_termOf 13 = .ok (.aload_n 0, 1) := by decide +kernel
theorem dX0_termOf_14 : decode cX0_termOf 14 = .ok (.getfield 18, 3) := by decide +kernel
theorem dX0_termOf_17 : decode cX0_termOf 17 = .ok (.isub, 1) := by decide +kernel
theorem dX0_termOf_18 : decode cX0_termOf 18 = .ok (.iconst 1, 1) := by decide +kernel
theorem dX0_termOf_19 : decode cX0_termOf 19 = .ok (.isub, 1) := by decide +kernel
theorem dX0_termOf_20 : decode cX0_termOf 20 = .ok (.iaload, 1) := by decide +kernel
theorem dX0_termOf_21 : decode cX0_termOf 21 = .ok (.ireturn, 1) := by decide +kernel
theorem dX0_termOf_22 : decode cX0_termOf 22 = .ok (.iload_n 1, 1) := by decide +kernel
theorem dX0_termOf_23 : decode cX0_termOf 23 = .ok (.aload_n 0, 1) := by decide +kernel
theorem dX0_termOf_24 : decode cX0_termOf 24 = .ok (.getfield 18, 3) := by decide +kernel
theorem dX0_termOf_27 : decode cX0_termOf 27 = .ok (.if_icmp .ne 10, 3) := by decide +kernel
theorem dX0_termOf_30 : decode cX0_termOf 30 = .ok (.aload_n 0, 1) := by decide +kernel
theorem dX0_termOf_31 : decode cX0_termOf 31 = .ok (.getfield 25, 3) := by decide +kernel
theorem dX0_termOf_34 : decode cX0_termOf 34 = .ok (.goto 4, 3) := by decide +kernel
theorem dX0_termOf_37 : decode cX0_termOf 37 = .ok (.iconst (-1), 1) := by decide +kernel
theorem dX0_termOf_38 : decode cX0_termOf 38 = .ok (.ireturn, 1) := by decide +kernel
theorem dX0_commandOf_0 : decode cX0_commandOf 0 = .ok (.aload_n 0, 1) := by decide +kernel
theorem dX0_commandOf_1 : decode cX0_commandOf 1 = .ok (.iload_n 1, 1) := by decide +kernel
theorem dX0_commandOf_2 : decode cX0_commandOf 2 = .ok (.invokevirtual 28, 3) := by decide +kernel
theorem dX0_commandOf_5 : decode cX0_commandOf 5 = .ok (.ifCond .eq 19, 3) := by decide +kernel
theorem dX0_commandOf_8 : decode cX0_commandOf 8 = .ok (.aload_n 0, 1) := by decide +kernel
theorem dX0_commandOf_9 : decode cX0_commandOf 9 = .ok (.getfield 15, 3) := by decide +kernel
theorem dX0_commandOf_12 : decode cX0_commandOf 12 = .ok (.iload_n 1, 1) := by decide +kernel
theorem dX0_commandOf_13 : decode cX0_commandOf 13 = .ok (.aload_n 0, 1) := by decide +kernel
theorem dX0_commandOf_14 : decode cX0_commandOf 14 = .ok (.getfield 18, 3) := by decide +kernel
theorem dX0_commandOf_17 : decode cX0_commandOf 17 = .ok (.isub, 1) := by decide +kernel
theorem dX0_commandOf_18 : decode cX0_commandOf 18 = .ok (.iconst 1, 1) := by decide +kernel
theorem dX0_commandOf_19 : decode cX0_commandOf 19 = .ok (.isub, 1) := by decide +kernel
theorem dX0_commandOf_20 : decode cX0_commandOf 20 = .ok (.iaload, 1) := by decide +kernel
theorem dX0_commandOf_21 : decode cX0_commandOf 21 = .ok (.goto 4, 3) := by decide +kernel
theorem dX0_commandOf_24 : decode cX0_commandOf 24 = .ok (.iconst 0, 1) := by decide +kernel
theorem dX0_commandOf_25 : decode cX0_commandOf 25 = .ok (.ireturn, 1) := by decide +kernel
theorem dX0_stateUpTo_0 : decode cX0_stateUpTo 0 = .ok (.aload_n 0, 1) := by decide +kernel
theorem dX0_stateUpTo_1 : decode cX0_stateUpTo 1 = .ok (.getfield 32, 3) := by decide +kernel
theorem dX0_stateUpTo_4 : decode cX0_stateUpTo 4 = .ok (.istore_n 2, 1) := by decide +kernel
theorem dX0_stateUpTo_5 : decode cX0_stateUpTo 5 = .ok (.iconst 0, 1) := by decide +kernel
theorem dX0_stateUpTo_6 : decode cX0_stateUpTo 6 = .ok (.istore_n 3, 1) := by decide +kernel
theorem dX0_stateUpTo_7 : decode cX0_stateUpTo 7 = .ok (.iload_n 3, 1) := by decide +kernel
theorem dX0_stateUpTo_8 : decode cX0_stateUpTo 8 = .ok (.aload_n 0, 1) := by decide +kernel
theorem dX0_stateUpTo_9 : decode cX0_stateUpTo 9 = .ok (.getfield 22, 3) := by decide +kernel
theorem dX0_stateUpTo_12 : decode cX0_stateUpTo 12 = .ok (.if_icmp .ge 31, 3) := by decide +kernel
theorem dX0_stateUpTo_15 : decode cX0_stateUpTo 15 = .ok (.aload_n 0, 1) := by decide +kernel
theorem dX0_stateUpTo_16 : decode cX0_stateUpTo 16 = .ok (.getfield 18, 3) := by decide +kernel
theorem dX0_stateUpTo_19 : decode cX0_stateUpTo 19 = .ok (.iload_n 3, 1) := by decide +kernel
theorem dX0_stateUpTo_20 : decode cX0_stateUpTo 20 = .ok (.iadd, 1) := by decide +kernel
theorem dX0_stateUpTo_21 : decode cX0_stateUpTo 21 = .ok (.iload_n 1, 1) := by decide +kernel
theorem dX0_stateUpTo_22 : decode cX0_stateUpTo 22 = .ok (.if_icmp .ge 21, 3) := by decide +kernel
theorem dX0_stateUpTo_25 : decode cX0_stateUpTo 25 = .ok (.bipush 31, 2) := by decide +kernel
theorem dX0_stateUpTo_27 : decode cX0_stateUpTo 27 = .ok (.iload_n 2, 1) := by decide +kernel
theorem dX0_stateUpTo_28 : decode cX0_stateUpTo 28 = .ok (.imul, 1) := by decide +kernel
theorem dX0_stateUpTo_29 : decode cX0_stateUpTo 29 = .ok (.aload_n 0, 1) := by decide +kernel
theorem dX0_stateUpTo_30 : decode cX0_stateUpTo 30 = .ok (.getfield 15, 3) := by decide +kernel
theorem dX0_stateUpTo_33 : decode cX0_stateUpTo 33 = .ok (.iload_n 3, 1) := by decide +kernel
theorem dX0_stateUpTo_34 : decode cX0_stateUpTo 34 = .ok (.iaload, 1) := by decide +kernel
theorem dX0_stateUpTo_35 : decode cX0_stateUpTo 35 = .ok (.iadd, 1) := by decide +kernel
theorem dX0_stateUpTo_36 : decode cX0_stateUpTo 36 = .ok (.istore_n 2, 1) := by decide +kernel
theorem dX0_stateUpTo_37 : decode cX0_stateUpTo 37 = .ok (.iinc 3 1, 3) := by decide +kernel
theorem dX0_stateUpTo_40 : decode cX0_stateUpTo 40 = .ok (.goto (-33), 3) := by decide +kernel
theorem dX0_stateUpTo_43 : decode cX0_stateUpTo 43 = .ok (.iload_n 2, 1) := by decide +kernel
theorem dX0_stateUpTo_44 : decode cX0_stateUpTo 44 = .ok (.ireturn, 1) := by decide +kernel
theorem dX0_isNotAheadOf_0 : decode cX0_isNotAheadOf 0 = .ok (.iload_n 2, 1) := by decide +kernel
theorem dX0_isNotAheadOf_1 : decode cX0_isNotAheadOf 1 = .ok (.aload_n 0, 1) := by decide +kernel
theorem dX0_isNotAheadOf_2 : decode cX0_isNotAheadOf 2 = .ok (.invokevirtual 35, 3) := by decide +kernel
theorem dX0_isNotAheadOf_5 : decode cX0_isNotAheadOf 5 = .ok (.if_icmp .gt 19, 3) := by decide +kernel
theorem dX0_isNotAheadOf_8 : decode cX0_isNotAheadOf 8 = .ok (.iload_n 2, 1) := by decide +kernel
theorem dX0_isNotAheadOf_9 : decode cX0_isNotAheadOf 9 = .ok (.aload_n 0, 1) := by decide +kernel
theorem dX0_isNotAheadOf_10 : decode cX0_isNotAheadOf 10 = .ok (.invokevirtual 35, 3) := by decide +kernel
theorem dX0_isNotAheadOf_13 : decode cX0_isNotAheadOf 13 = .ok (.if_icmp .ne 15, 3) := by decide +kernel
theorem dX0_isNotAheadOf_16 : decode cX0_isNotAheadOf 16 = .ok (.iload_n 1, 1) := by decide +kernel
theorem dX0_isNotAheadOf_17 : decode cX0_isNotAheadOf 17 = .ok (.aload_n 0, 1) := by decide +kernel
theorem dX0_isNotAheadOf_18 : decode cX0_isNotAheadOf 18 = .ok (.invokevirtual 39, 3) := by decide +kernel
theorem dX0_isNotAheadOf_21 : decode cX0_isNotAheadOf 21 = .ok (.if_icmp .lt 7, 3) := by decide +kernel
theorem dX0_isNotAheadOf_24 : decode cX0_isNotAheadOf 24 = .ok (.iconst 1, 1) := by decide +kernel
theorem dX0_isNotAheadOf_25 : decode cX0_isNotAheadOf 25 = .ok (.goto 4, 3) := by decide +kernel
theorem dX0_isNotAheadOf_28 : decode cX0_isNotAheadOf 28 = .ok (.iconst 0, 1) := by decide +kernel
theorem dX0_isNotAheadOf_29 : decode cX0_isNotAheadOf 29 = .ok (.ireturn, 1) := by decide +kernel
theorem dX0_add_0 : decode cX0_add 0 = .ok (.aload_n 0, 1) := by decide +kernel
theorem dX0_add_1 : decode cX0_add 1 = .ok (.invokevirtual 42, 3) := by decide +kernel
theorem dX0_add_4 : decode cX0_add 4 = .ok (.ifCond .ne 33, 3) := by decide +kernel
theorem dX0_add_7 : decode cX0_add 7 = .ok (.aload_n 0, 1) := by decide +kernel
theorem dX0_add_8 : decode cX0_add 8 = .ok (.getfield 9, 3) := by decide +kernel
theorem dX0_add_11 : decode cX0_add 11 = .ok (.aload_n 0, 1) := by decide +kernel
theorem dX0_add_12 : decode cX0_add 12 = .ok (.getfield 22, 3) := by decide +kernel
theorem dX0_add_15 : decode cX0_add 15 = .ok (.iload_n 1, 1) := by decide +kernel
theorem dX0_add_16 : decode cX0_add 16 = .ok (.iastore, 1) := by decide +kernel
theorem dX0_add_17 : decode cX0_add 17 = .ok (.aload_n 0, 1) := by decide +kernel
theorem dX0_add_18 : decode cX0_add 18 = .ok (.getfield 15, 3) := by decide +kernel
theorem dX0_add_21 : decode cX0_add 21 = .ok (.aload_n 0, 1) := by decide +kernel
theorem dX0_add_22 : decode cX0_add 22 = .ok (.getfield 22, 3) := by decide +kernel
theorem dX0_add_25 : decode cX0_add 25 = .ok (.iload_n 2, 1) := by decide +kernel
theorem dX0_add_26 : decode cX0_add 26 = .ok (.iastore, 1) := by decide +kernel
theorem dX0_add_27 : decode cX0_add 27 = .ok (.aload_n 0, 1) := by decide +kernel
theorem dX0_add_28 : decode cX0_add 28 = .ok (.dup, 1) := by decide +kernel
theorem dX0_add_29 : decode cX0_add 29 = .ok (.getfield 22, 3) := by decide +kernel
theorem dX0_add_32 : decode cX0_add 32 = .ok (.iconst 1, 1) := by decide +kernel
theorem dX0_add_33 : decode cX0_add 33 = .ok (.iadd, 1) := by decide +kernel
theorem dX0_add_34 : decode cX0_add 34 = .ok (.putfield 22, 3) := by decide +kernel
theorem dX0_add_37 : decode cX0_add 37 = .ok (.return_, 1) := by decide +kernel
theorem dX0_cutFrom_0 : decode cX0_cutFrom 0 = .ok (.aload_n 0, 1) := by decide +kernel
theorem dX0_cutFrom_1 : decode cX0_cutFrom 1 = .ok (.iload_n 1, 1) := by decide +kernel
theorem dX0_cutFrom_2 : decode cX0_cutFrom 2 = .ok (.invokevirtual 28, 3) := by decide +kernel
theorem dX0_cutFrom_5 : decode cX0_cutFrom 5 = .ok (.ifCond .eq 15, 3) := by decide +kernel
theorem dX0_cutFrom_8 : decode cX0_cutFrom 8 = .ok (.aload_n 0, 1) := by decide +kernel
theorem dX0_cutFrom_9 : decode cX0_cutFrom 9 = .ok (.iload_n 1, 1) := by decide +kernel
theorem dX0_cutFrom_10 : decode cX0_cutFrom 10 = .ok (.aload_n 0, 1) := by decide +kernel
theorem dX0_cutFrom_11 : decode cX0_cutFrom 11 = .ok (.getfield 18, 3) := by decide +kernel
theorem dX0_cutFrom_14 : decode cX0_cutFrom 14 = .ok (.isub, 1) := by decide +kernel
theorem dX0_cutFrom_15 : decode cX0_cutFrom 15 = .ok (.iconst 1, 1) := by decide +kernel
theorem dX0_cutFrom_16 : decode cX0_cutFrom 16 = .ok (.isub, 1) := by decide +kernel
theorem dX0_cutFrom_17 : decode cX0_cutFrom 17 = .ok (.putfield 22, 3) := by decide +kernel
theorem dX0_cutFrom_20 : decode cX0_cutFrom 20 = .ok (.return_, 1) := by decide +kernel
theorem dX0_rebase_0 : decode cX0_rebase 0 = .ok (.aload_n 0, 1) := by decide +kernel
theorem dX0_rebase_1 : decode cX0_rebase 1 = .ok (.getfield 22, 3) := by decide +kernel
theorem dX0_rebase_4 : decode cX0_rebase 4 = .ok (.iconst 0, 1) := by decide +kernel
theorem dX0_rebase_5 : decode cX0_rebase 5 = .ok (.iload_n 1, 1) := by decide +kernel
theorem dX0_rebase_6 : decode cX0_rebase 6 = .ok (.aload_n 0, 1) := by decide +kernel
theorem dX0_rebase_7 : decode cX0_rebase 7 = .ok (.getfield 18, 3) := by decide +kernel
theorem dX0_rebase_10 : decode cX0_rebase 10 = .ok (.isub, 1) := by decide +kernel
theorem dX0_rebase_11 : decode cX0_rebase 11 = .ok (.invokestatic 46, 3) := by decide +kernel
theorem dX0_rebase_14 : decode cX0_rebase 14 = .ok (.invokestatic 52, 3) := by decide +kernel
theorem dX0_rebase_17 : decode cX0_rebase 17 = .ok (.istore 4, 2) := by decide +kernel
theorem dX0_rebase_19 : decode cX0_rebase 19 = .ok (.iload 4, 2) := by decide +kernel
theorem dX0_rebase_21 : decode cX0_rebase 21 = .ok (.istore 5, 2) := by decide +kernel
theorem dX0_rebase_23 : decode cX0_rebase 23 = .ok (.iload 5, 2) := by decide +kernel
theorem dX0_rebase_25 : decode cX0_rebase 25 = .ok (.aload_n 0, 1) := by decide +kernel
theorem dX0_rebase_26 : decode cX0_rebase 26 = .ok (.getfield 22, 3) := by decide +kernel
theorem dX0_rebase_29 : decode cX0_rebase 29 = .ok (.if_icmp .ge 43, 3) := by decide +kernel
theorem dX0_rebase_32 : decode cX0_rebase 32 = .ok (.aload_n 0, 1) := by decide +kernel
theorem dX0_rebase_33 : decode cX0_rebase 33 = .ok (.getfield 9, 3) := by decide +kernel
theorem dX0_rebase_36 : decode cX0_rebase 36 = .ok (.iload 5, 2) := by decide +kernel
theorem dX0_rebase_38 : decode cX0_rebase 38 = .ok (.iload 4, 2) := by decide +kernel
theorem dX0_rebase_40 : decode cX0_rebase 40 = .ok (.isub, 1) := by decide +kernel
theorem dX0_rebase_41 : decode cX0_rebase 41 = .ok (.aload_n 0, 1) := by decide +kernel
theorem dX0_rebase_42 : decode cX0_rebase 42 = .ok (.getfield 9, 3) := by decide +kernel
theorem dX0_rebase_45 : decode cX0_rebase 45 = .ok (.iload 5, 2) := by decide +kernel
theorem dX0_rebase_47 : decode cX0_rebase 47 = .ok (.iaload, 1) := by decide +kernel
theorem dX0_rebase_48 : decode cX0_rebase 48 = .ok (.iastore, 1) := by decide +kernel
theorem dX0_rebase_49 : decode cX0_rebase 49 = .ok (.aload_n 0, 1) := by decide +kernel
theorem dX0_rebase_50 : decode cX0_rebase 50 = .ok (.getfield 15, 3) := by decide +kernel
theorem dX0_rebase_53 : decode cX0_rebase 53 = .ok (.iload 5, 2) := by decide +kernel
theorem dX0_rebase_55 : decode cX0_rebase 55 = .ok (.iload 4, 2) := by decide +kernel
theorem dX0_rebase_57 : decode cX0_rebase 57 = .ok (.isub, 1) := by decide +kernel
theorem dX0_rebase_58 : decode cX0_rebase 58 = .ok (.aload_n 0, 1) := by decide +kernel
theorem dX0_rebase_59 : decode cX0_rebase 59 = .ok (.getfield 15, 3) := by decide +kernel
theorem dX0_rebase_62 : decode cX0_rebase 62 = .ok (.iload 5, 2) := by decide +kernel
theorem dX0_rebase_64 : decode cX0_rebase 64 = .ok (.iaload, 1) := by decide +kernel
theorem dX0_rebase_65 : decode cX0_rebase 65 = .ok (.iastore, 1) := by decide +kernel
theorem dX0_rebase_66 : decode cX0_rebase 66 = .ok (.iinc 5 1, 3) := by decide +kernel
theorem dX0_rebase_69 : decode cX0_rebase 69 = .ok (.goto (-46), 3) := by decide +kernel
theorem dX0_rebase_72 : decode cX0_rebase 72 = .ok (.aload_n 0, 1) := by decide +kernel
theorem dX0_rebase_73 : decode cX0_rebase 73 = .ok (.dup, 1) := by decide +kernel
theorem dX0_rebase_74 : decode cX0_rebase 74 = .ok (.getfield 22, 3) := by decide +kernel
theorem dX0_rebase_77 : decode cX0_rebase 77 = .ok (.iload 4, 2) := by decide +kernel
theorem dX0_rebase_79 : decode cX0_rebase 79 = .ok (.isub, 1) := by decide +kernel
theorem dX0_rebase_80 : decode cX0_rebase 80 = .ok (.putfield 22, 3) := by decide +kernel
theorem dX0_rebase_83 : decode cX0_rebase 83 = .ok (.aload_n 0, 1) := by decide +kernel
theorem dX0_rebase_84 : decode cX0_rebase 84 = .ok (.iload_n 1, 1) := by decide +kernel
theorem dX0_rebase_85 : decode cX0_rebase 85 = .ok (.putfield 18, 3) := by decide +kernel
theorem dX0_rebase_88 : decode cX0_rebase 88 = .ok (.aload_n 0, 1) := by decide +kernel
theorem dX0_rebase_89 : decode cX0_rebase 89 = .ok (.iload_n 2, 1) := by decide +kernel
theorem dX0_rebase_90 : decode cX0_rebase 90 = .ok (.putfield 25, 3) := by decide +kernel
theorem dX0_rebase_93 : decode cX0_rebase 93 = .ok (.aload_n 0, 1) := by decide +kernel
theorem dX0_rebase_94 : decode cX0_rebase 94 = .ok (.iload_n 3, 1) := by decide +kernel
theorem dX0_rebase_95 : decode cX0_rebase 95 = .ok (.putfield 32, 3) := by decide +kernel
theorem dX0_rebase_98 : decode cX0_rebase 98 = .ok (.return_, 1) := by decide +kernel
theorem dX1_init_0 : decode cX1_init 0 = .ok (.aload_n 0, 1) := by decide +kernel
theorem dX1_init_1 : decode cX1_init 1 = .ok (.invokespecial 1, 3) := by decide +kernel
theorem dX1_init_4 : decode cX1_init 4 = .ok (.return_, 1) := by decide +kernel
theorem dX1_begin_0 : decode cX1_begin 0 = .ok (.aload_n 0, 1) := by decide +kernel
theorem dX1_begin_1 : decode cX1_begin 1 = .ok (.iload_n 1, 1) := by decide +kernel
theorem dX1_begin_2 : decode cX1_begin 2 = .ok (.putfield 7, 3) := by decide +kernel
theorem dX1_begin_5 : decode cX1_begin 5 = .ok (.aload_n 0, 1) := by decide +kernel
theorem dX1_begin_6 : decode cX1_begin 6 = .ok (.iload_n 2, 1) := by decide +kernel
theorem dX1_begin_7 : decode cX1_begin 7 = .ok (.putfield 13, 3) := by decide +kernel
theorem dX1_begin_10 : decode cX1_begin 10 = .ok (.aload_n 0, 1) := by decide +kernel
theorem dX1_begin_11 : decode cX1_begin 11 = .ok (.iload_n 3, 1) := by decide +kernel
theorem dX1_begin_12 : decode cX1_begin 12 = .ok (.putfield 16, 3) := by decide +kernel
theorem dX1_begin_15 : decode cX1_begin 15 = .ok (.aload_n 0, 1) := by decide +kernel
theorem dX1_begin_16 : decode cX1_begin 16 = .ok (.iload 4, 2) := by decide +kernel
theorem dX1_begin_18 : decode cX1_begin 18 = .ok (.putfield 19, 3) := by decide +kernel
theorem dX1_begin_21 : decode cX1_begin 21 = .ok (.return_, 1) := by decide +kernel
theorem dX1_copy_0 : decode cX1_copy 0 = .ok (.aload_n 0, 1) := by decide +kernel
theorem dX1_copy_1 : decode cX1_copy 1 = .ok (.aload_n 1, 1) := by decide +kernel
theorem dX1_copy_2 : decode cX1_copy 2 = .ok (.getfield 7, 3) := by decide +kernel
theorem dX1_copy_5 : decode cX1_copy 5 = .ok (.putfield 7, 3) := by decide +kernel
theorem dX1_copy_8 : decode cX1_copy 8 = .ok (.aload_n 0, 1) := by decide +kernel
theorem dX1_copy_9 : decode cX1_copy 9 = .ok (.aload_n 1, 1) := by decide +kernel
theorem dX1_copy_10 : decode cX1_copy 10 = .ok (.getfield 13, 3) := by decide +kernel
theorem dX1_copy_13 : decode cX1_copy 13 = .ok (.putfield 13, 3) := by decide +kernel
theorem dX1_copy_16 : decode cX1_copy 16 = .ok (.aload_n 0, 1) := by decide +kernel
theorem dX1_copy_17 : decode cX1_copy 17 = .ok (.aload_n 1, 1) := by decide +kernel
theorem dX1_copy_18 : decode cX1_copy 18 = .ok (.getfield 16, 3) := by decide +kernel
theorem dX1_copy_21 : decode cX1_copy 21 = .ok (.putfield 16, 3) := by decide +kernel
theorem dX1_copy_24 : decode cX1_copy 24 = .ok (.aload_n 0, 1) := by decide +kernel
theorem dX1_copy_25 : decode cX1_copy 25 = .ok (.aload_n 1, 1) := by decide +kernel
theorem dX1_copy_26 : decode cX1_copy 26 = .ok (.getfield 19, 3) := by decide +kernel
theorem dX1_copy_29 : decode cX1_copy 29 = .ok (.putfield 19, 3) := by decide +kernel
theorem dX1_copy_32 : decode cX1_copy 32 = .ok (.aload_n 0, 1) := by decide +kernel
theorem dX1_copy_33 : decode cX1_copy 33 = .ok (.aload_n 1, 1) := by decide +kernel
theorem dX1_copy_34 : decode cX1_copy 34 = .ok (.getfield 22, 3) := by decide +kernel
theorem dX1_copy_37 : decode cX1_copy 37 = .ok (.putfield 22, 3) := by decide +kernel
theorem dX1_copy_40 : decode cX1_copy 40 = .ok (.aload_n 0, 1) := by decide +kernel
theorem dX1_copy_41 : decode cX1_copy 41 = .ok (.aload_n 1, 1) := by decide +kernel
theorem dX1_copy_42 : decode cX1_copy 42 = .ok (.getfield 25, 3) := by decide +kernel
theorem dX1_copy_45 : decode cX1_copy 45 = .ok (.putfield 25, 3) := by decide +kernel
theorem dX1_copy_48 : decode cX1_copy 48 = .ok (.aload_n 0, 1) := by decide +kernel
theorem dX1_copy_49 : decode cX1_copy 49 = .ok (.aload_n 1, 1) := by decide +kernel
theorem dX1_copy_50 : decode cX1_copy 50 = .ok (.getfield 28, 3) := by decide +kernel
theorem dX1_copy_53 : decode cX1_copy 53 = .ok (.putfield 28, 3) := by decide +kernel
theorem dX1_copy_56 : decode cX1_copy 56 = .ok (.aload_n 0, 1) := by decide +kernel
theorem dX1_copy_57 : decode cX1_copy 57 = .ok (.aload_n 1, 1) := by decide +kernel
theorem dX1_copy_58 : decode cX1_copy 58 = .ok (.getfield 32, 3) := by decide +kernel
theorem dX1_copy_61 : decode cX1_copy 61 = .ok (.putfield 32, 3) := by decide +kernel
theorem dX1_copy_64 : decode cX1_copy 64 = .ok (.aload_n 0, 1) := by decide +kernel
theorem dX1_copy_65 : decode cX1_copy 65 = .ok (.aload_n 1, 1) := by decide +kernel
theorem dX1_copy_66 : decode cX1_copy 66 = .ok (.getfield 35, 3) := by decide +kernel
theorem dX1_copy_69 : decode cX1_copy 69 = .ok (.putfield 35, 3) := by decide +kernel
theorem dX1_copy_72 : decode cX1_copy 72 = .ok (.aload_n 0, 1) := by decide +kernel
theorem dX1_copy_73 : decode cX1_copy 73 = .ok (.aload_n 1, 1) := by decide +kernel
theorem dX1_copy_74 : decode cX1_copy 74 = .ok (.getfield 38, 3) := by decide +kernel
theorem dX1_copy_77 : decode cX1_copy 77 = .ok (.putfield 38, 3) := by decide +kernel
theorem dX1_copy_80 : decode cX1_copy 80 = .ok (.aload_n 0, 1) := by decide +kernel
theorem dX1_copy_81 : decode cX1_copy 81 = .ok (.aload_n 1, 1) := by decide +kernel
theorem dX1_copy_82 : decode cX1_copy 82 = .ok (.getfield 41, 3) := by decide +kernel
theorem dX1_copy_85 : decode cX1_copy 85 = .ok (.putfield 41, 3) := by decide +kernel
theorem dX1_copy_88 : decode cX1_copy 88 = .ok (.aload_n 0, 1) := by decide +kernel
theorem dX1_copy_89 : decode cX1_copy 89 = .ok (.aload_n 1, 1) := by decide +kernel
theorem dX1_copy_90 : decode cX1_copy 90 = .ok (.getfield 44, 3) := by decide +kernel
theorem dX1_copy_93 : decode cX1_copy 93 = .ok (.putfield 44, 3) := by decide +kernel
theorem dX1_copy_96 : decode cX1_copy 96 = .ok (.return_, 1) := by decide +kernel
theorem dX2_init_0 : decode cX2_init 0 = .ok (.aload_n 0, 1) := by decide +kernel
theorem dX2_init_1 : decode cX2_init 1 = .ok (.invokespecial 3, 3) := by decide +kernel
theorem dX2_init_4 : decode cX2_init 4 = .ok (.aload_n 0, 1) := by decide +kernel
theorem dX2_init_5 : decode cX2_init 5 = .ok (.iload_n 1, 1) := by decide +kernel
theorem dX2_init_6 : decode cX2_init 6 = .ok (.anewarray 9, 3) := by decide +kernel
theorem dX2_init_9 : decode cX2_init 9 = .ok (.putfield 11, 3) := by decide +kernel
theorem dX2_init_12 : decode cX2_init 12 = .ok (.iconst 0, 1) := by decide +kernel
theorem dX2_init_13 : decode cX2_init 13 = .ok (.istore_n 2, 1) := by decide +kernel
theorem dX2_init_14 : decode cX2_init 14 = .ok (.iload_n 2, 1) := by decide +kernel
theorem dX2_init_15 : decode cX2_init 15 = .ok (.iload_n 1, 1) := by decide +kernel
theorem dX2_init_16 : decode cX2_init 16 = .ok (.if_icmp .ge 22, 3) := by decide +kernel
theorem dX2_init_19 : decode cX2_init 19 = .ok (.aload_n 0, 1) := by decide +kernel
theorem dX2_init_20 : decode cX2_init 20 = .ok (.getfield 11, 3) := by decide +kernel
theorem dX2_init_23 : decode cX2_init 23 = .ok (.iload_n 2, 1) := by decide +kernel
theorem dX2_init_24 : decode cX2_init 24 = .ok (.new 9, 3) := by decide +kernel
theorem dX2_init_27 : decode cX2_init 27 = .ok (.dup, 1) := by decide +kernel
theorem dX2_init_28 : decode cX2_init 28 = .ok (.invokespecial 17, 3) := by decide +kernel
theorem dX2_init_31 : decode cX2_init 31 = .ok (.aastore, 1) := by decide +kernel
theorem dX2_init_32 : decode cX2_init 32 = .ok (.iinc 2 1, 3) := by decide +kernel
theorem dX2_init_35 : decode cX2_init 35 = .ok (.goto (-21), 3) := by decide +kernel
theorem dX2_init_38 : decode cX2_init 38 = .ok (.return_, 1) := by decide +kernel
theorem dX2_isSlot_0 : decode cX2_isSlot 0 = .ok (.iload_n 1, 1) := by decide +kernel
theorem dX2_isSlot_1 : decode cX2_isSlot 1 = .ok (.ifCond .lt 16, 3) := by decide +kernel
theorem dX2_isSlot_4 : decode cX2_isSlot 4 = .ok (.iload_n 1, 1) := by decide +kernel
theorem dX2_isSlot_5 : decode cX2_isSlot 5 = .ok (.aload_n 0, 1) := by decide +kernel
theorem dX2_isSlot_6 : decode cX2_isSlot 6 = .ok (.getfield 11, 3) := by decide +kernel
theorem dX2_isSlot_9 : decode cX2_isSlot 9 = .ok (.arraylength, 1) := by decide +kernel
theorem dX2_isSlot_10 : decode cX2_isSlot 10 = .ok (.if_icmp .ge 7, 3) := by decide +kernel
theorem dX2_isSlot_13 : decode cX2_isSlot 13 = .ok (.iconst 1, 1) := by decide +kernel
theorem dX2_isSlot_14 : decode cX2_isSlot 14 = .ok (.goto 4, 3) := by decide +kernel
theorem dX2_isSlot_17 : decode cX2_isSlot 17 = .ok (.iconst 0, 1) := by decide +kernel
theorem dX2_isSlot_18 : decode cX2_isSlot 18 = .ok (.ireturn, 1) := by decide +kernel
theorem dX2_isFree_0 : decode cX2_isFree 0 = .ok (.aload_n 0, 1) := by decide +kernel
theorem dX2_isFree_1 : decode cX2_isFree 1 = .ok (.getfield 11, 3) := by decide +kernel
theorem dX2_isFree_4 : decode cX2_isFree 4 = .ok (.iload_n 1, 1) := by decide +kernel
theorem dX2_isFree_5 : decode cX2_isFree 5 = .ok (.aaload, 1) := by decide +kernel
theorem dX2_isFree_6 : decode cX2_isFree 6 = .ok (.getfield 18, 3) := by decide +kernel
theorem dX2_isFree_9 : decode cX2_isFree 9 = .ok (.ifCond .ne 7, 3) := by decide +kernel
theorem dX2_isFree_12 : decode cX2_isFree 12 = .ok (.iconst 1, 1) := by decide +kernel
theorem dX2_isFree_13 : decode cX2_isFree 13 = .ok (.goto 4, 3) := by decide +kernel
theorem dX2_isFree_16 : decode cX2_isFree 16 = .ok (.iconst 0, 1) := by decide +kernel
theorem dX2_isFree_17 : decode cX2_isFree 17 = .ok (.ireturn, 1) := by decide +kernel
theorem dX2_countFree_0 : decode cX2_countFree 0 = .ok (.aload_n 0, 1) := by decide +kernel
theorem dX2_countFree_1 : decode cX2_countFree 1 = .ok (.getfield 11, 3) := by decide +kernel
theorem dX2_countFree_4 : decode cX2_countFree 4 = .ok (.arraylength, 1) := by decide +kernel
theorem dX2_countFree_5 : decode cX2_countFree 5 = .ok (.aload_n 0, 1) := by decide +kernel
theorem dX2_countFree_6 : decode cX2_countFree 6 = .ok (.getfield 22, 3) := by decide +kernel
theorem dX2_countFree_9 : decode cX2_countFree 9 = .ok (.isub, 1) := by decide +kernel
theorem dX2_countFree_10 : decode cX2_countFree 10 = .ok (.ireturn, 1) := by decide +kernel
theorem dX2_put_0 : decode cX2_put 0 = .ok (.iconst 0, 1) := by decide +kernel
theorem dX2_put_1 : decode cX2_put 1 = .ok (.istore_n 2, 1) := by decide +kernel
theorem dX2_put_2 : decode cX2_put 2 = .ok (.iload_n 2, 1) := by decide +kernel
theorem dX2_put_3 : decode cX2_put 3 = .ok (.aload_n 0, 1) := by decide +kernel
theorem dX2_put_4 : decode cX2_put 4 = .ok (.getfield 11, 3) := by decide +kernel
theorem dX2_put_7 : decode cX2_put 7 = .ok (.arraylength, 1) := by decide +kernel
theorem dX2_put_8 : decode cX2_put 8 = .ok (.if_icmp .ge 39, 3) := by decide +kernel
theorem dX2_put_11 : decode cX2_put 11 = .ok (.aload_n 0, 1) := by decide +kernel
theorem dX2_put_12 : decode cX2_put 12 = .ok (.iload_n 2, 1) := by decide +kernel
theorem dX2_put_13 : decode cX2_put 13 = .ok (.invokevirtual 25, 3) := by decide +kernel
theorem dX2_put_16 : decode cX2_put 16 = .ok (.ifCond .eq 25, 3) := by decide +kernel
theorem dX2_put_19 : decode cX2_put 19 = .ok (.aload_n 0, 1) := by decide +kernel
theorem dX2_put_20 : decode cX2_put 20 = .ok (.getfield 11, 3) := by decide +kernel
theorem dX2_put_23 : decode cX2_put 23 = .ok (.iload_n 2, 1) := by decide +kernel
theorem dX2_put_24 : decode cX2_put 24 = .ok (.aaload, 1) := by decide +kernel
theorem dX2_put_25 : decode cX2_put 25 = .ok (.aload_n 1, 1) := by decide +kernel
theorem dX2_put_26 : decode cX2_put 26 = .ok (.invokevirtual 29, 3) := by decide +kernel
theorem dX2_put_29 : decode cX2_put 29 = .ok (.aload_n 0, 1) := by decide +kernel
theorem dX2_put_30 : decode cX2_put 30 = .ok (.dup, 1) := by decide +kernel
theorem dX2_put_31 : decode cX2_put 31 = .ok (.getfield 22, 3) := by decide +kernel
theorem dX2_put_34 : decode cX2_put 34 = .ok (.iconst 1, 1) := by decide +kernel
theorem dX2_put_35 : decode cX2_put 35 = .ok (.iadd, 1) := by decide +kernel
theorem dX2_put_36 : decode cX2_put 36 = .ok (.putfield 22, 3) := by decide +kernel
theorem dX2_put_39 : decode cX2_put 39 = .ok (.iload_n 2, 1) := by decide +kernel
theorem dX2_put_40 : decode cX2_put 40 = .ok (.ireturn, 1) := by decide +kernel
theorem dX2_put_41 : decode cX2_put 41 = .ok (.iinc 2 1, 3) := by decide +kernel
theorem dX2_put_44 : decode cX2_put 44 = .ok (.goto (-42), 3) := by decide +kernel
theorem dX2_put_47 : decode cX2_put 47 = .ok (.bipush (-4), 2) := by decide +kernel
theorem dX2_put_49 : decode cX2_put 49 = .ok (.ireturn, 1) := by decide +kernel
theorem dX2_clear_0 : decode cX2_clear 0 = .ok (.aload_n 0, 1) := by decide +kernel
theorem dX2_clear_1 : decode cX2_clear 1 = .ok (.getfield 11, 3) := by decide +kernel
theorem dX2_clear_4 : decode cX2_clear 4 = .ok (.iload_n 1, 1) := by decide +kernel
theorem dX2_clear_5 : decode cX2_clear 5 = .ok (.aaload, 1) := by decide +kernel
theorem dX2_clear_6 : decode cX2_clear 6 = .ok (.iconst 0, 1) := by decide +kernel
theorem dX2_clear_7 : decode cX2_clear 7 = .ok (.putfield 18, 3) := by decide +kernel
theorem dX2_clear_10 : decode cX2_clear 10 = .ok (.aload_n 0, 1) := by decide +kernel
theorem dX2_clear_11 : decode cX2_clear 11 = .ok (.dup, 1) := by decide +kernel
theorem dX2_clear_12 : decode cX2_clear 12 = .ok (.getfield 22, 3) := by decide +kernel
theorem dX2_clear_15 : decode cX2_clear 15 = .ok (.iconst 1, 1) := by decide +kernel
theorem dX2_clear_16 : decode cX2_clear 16 = .ok (.isub, 1) := by decide +kernel
theorem dX2_clear_17 : decode cX2_clear 17 = .ok (.putfield 22, 3) := by decide +kernel
theorem dX2_clear_20 : decode cX2_clear 20 = .ok (.return_, 1) := by decide +kernel
theorem dX3_init_0 : decode cX3_init 0 = .ok (.aload_n 0, 1) := by decide +kernel
theorem dX3_init_1 : decode cX3_init 1 = .ok (.invokespecial 3, 3) := by decide +kernel
theorem dX3_init_4 : decode cX3_init 4 = .ok (.aload_n 0, 1) := by decide +kernel
theorem dX3_init_5 : decode cX3_init 5 = .ok (.iconst 1, 1) := by decide +kernel
theorem dX3_init_6 : decode cX3_init 6 = .ok (.putfield 9, 3) := by decide +kernel
theorem dX3_init_9 : decode cX3_init 9 = .ok (.aload_n 0, 1) := by decide +kernel
theorem dX3_init_10 : decode cX3_init 10 = .ok (.iconst 0, 1) := by decide +kernel
theorem dX3_init_11 : decode cX3_init 11 = .ok (.putfield 15, 3) := by decide +kernel
theorem dX3_init_14 : decode cX3_init 14 = .ok (.aload_n 0, 1) := by decide +kernel
theorem dX3_init_15 : decode cX3_init 15 = .ok (.iconst (-1), 1) := by decide +kernel
theorem dX3_init_16 : decode cX3_init 16 = .ok (.putfield 19, 3) := by decide +kernel
theorem dX3_init_19 : decode cX3_init 19 = .ok (.aload_n 0, 1) := by decide +kernel
theorem dX3_init_20 : decode cX3_init 20 = .ok (.iload_n 1, 1) := by decide +kernel
theorem dX3_init_21 : decode cX3_init 21 = .ok (.putfield 22, 3) := by decide +kernel
theorem dX3_init_24 : decode cX3_init 24 = .ok (.aload_n 0, 1) := by decide +kernel
theorem dX3_init_25 : decode cX3_init 25 = .ok (.new 25, 3) := by decide +kernel
theorem dX3_init_28 : decode cX3_init 28 = .ok (.dup, 1) := by decide +kernel
theorem dX3_init_29 : decode cX3_init 29 = .ok (.iload_n 3, 1) := by decide +kernel
theorem dX3_init_30 : decode cX3_init 30 = .ok (.invokespecial 27, 3) := by decide +kernel
theorem dX3_init_33 : decode cX3_init 33 = .ok (.putfield 30, 3) := by decide +kernel
theorem dX3_init_36 : decode cX3_init 36 = .ok (.aload_n 0, 1) := by decide +kernel
theorem dX3_init_37 : decode cX3_init 37 = .ok (.iload_n 2, 1) := by decide +kernel
theorem dX3_init_38 : decode cX3_init 38 = .ok (.newarray .boolean, 2) := by decide +kernel
theorem dX3_init_40 : decode cX3_init 40 = .ok (.putfield 34, 3) := by decide +kernel
theorem dX3_init_43 : decode cX3_init 43 = .ok (.aload_n 0, 1) := by decide +kernel
theorem dX3_init_44 : decode cX3_init 44 = .ok (.iload_n 2, 1) := by decide +kernel
theorem dX3_init_45 : decode cX3_init 45 = .ok (.newarray .int, 2) := by decide +kernel
theorem dX3_init_47 : decode cX3_init 47 = .ok (.putfield 38, 3) := by decide +kernel
theorem dX3_init_50 : decode cX3_init 50 = .ok (.aload_n 0, 1) := by decide +kernel
theorem dX3_init_51 : decode cX3_init 51 = .ok (.iload_n 2, 1) := by decide +kernel
theorem dX3_init_52 : decode cX3_init 52 = .ok (.newarray .int, 2) := by decide +kernel
theorem dX3_init_54 : decode cX3_init 54 = .ok (.putfield 42, 3) := by decide +kernel
theorem dX3_init_57 : decode cX3_init 57 = .ok (.return_, 1) := by decide +kernel
theorem dX3_enterTerm_0 : decode cX3_enterTerm 0 = .ok (.aload_n 0, 1) := by decide +kernel
theorem dX3_enterTerm_1 : decode cX3_enterTerm 1 = .ok (.iload_n 1, 1) := by decide +kernel
theorem dX3_enterTerm_2 : decode cX3_enterTerm 2 = .ok (.putfield 45, 3) := by decide +kernel
theorem dX3_enterTerm_5 : decode cX3_enterTerm 5 = .ok (.aload_n 0, 1) := by decide +kernel
theorem dX3_enterTerm_6 : decode cX3_enterTerm 6 = .ok (.iconst 0, 1) := by decide +kernel
theorem dX3_enterTerm_7 : decode cX3_enterTerm 7 = .ok (.putfield 15, 3) := by decide +kernel
theorem dX3_enterTerm_10 : decode cX3_enterTerm 10 = .ok (.aload_n 0, 1) := by decide +kernel
theorem dX3_enterTerm_11 : decode cX3_enterTerm 11 = .ok (.iconst (-1), 1) := by decide +kernel
theorem dX3_enterTerm_12 : decode cX3_enterTerm 12 = .ok (.putfield 19, 3) := by decide +kernel
theorem dX3_enterTerm_15 : decode cX3_enterTerm 15 = .ok (.return_, 1) := by decide +kernel
theorem dX3_stand_0 : decode cX3_stand 0 = .ok (.aload_n 0, 1) := by decide +kernel
theorem dX3_stand_1 : decode cX3_stand 1 = .ok (.aload_n 0, 1) := by decide +kernel
theorem dX3_stand_2 : decode cX3_stand 2 = .ok (.getfield 45, 3) := by decide +kernel
theorem dX3_stand_5 : decode cX3_stand 5 = .ok (.iconst 1, 1) := by decide +kernel
theorem dX3_stand_6 : decode cX3_stand 6 = .ok (.iadd, 1) := by decide +kernel
theorem dX3_stand_7 : decode cX3_stand 7 = .ok (.invokevirtual 48, 3) := by decide +kernel
theorem dX3_stand_10 : decode cX3_stand 10 = .ok (.aload_n 0, 1) := by decide +kernel
theorem dX3_stand_11 : decode cX3_stand 11 = .ok (.iconst 1, 1) := by decide +kernel
theorem dX3_stand_12 : decode cX3_stand 12 = .ok (.putfield 15, 3) := by decide +kernel
theorem dX3_stand_15 : decode cX3_stand 15 = .ok (.aload_n 0, 1) := by decide +kernel
theorem dX3_stand_16 : decode cX3_stand 16 = .ok (.aload_n 0, 1) := by decide +kernel
theorem dX3_stand_17 : decode cX3_stand 17 = .ok (.getfield 22, 3) := by decide +kernel
theorem dX3_stand_20 : decode cX3_stand 20 = .ok (.putfield 19, 3) := by decide +kernel
theorem dX3_stand_23 : decode cX3_stand 23 = .ok (.iconst 0, 1) := by decide +kernel
theorem dX3_stand_24 : decode cX3_stand 24 = .ok (.istore_n 1, 1) := by decide +kernel
theorem dX3_stand_25 : decode cX3_stand 25 = .ok (.iload_n 1, 1) := by decide +kernel
theorem dX3_stand_26 : decode cX3_stand 26 = .ok (.aload_n 0, 1) := by decide +kernel
theorem dX3_stand_27 : decode cX3_stand 27 = .ok (.getfield 34, 3) := by decide +kernel
theorem dX3_stand_30 : decode cX3_stand 30 = .ok (.arraylength, 1) := by decide +kernel
theorem dX3_stand_31 : decode cX3_stand 31 = .ok (.if_icmp .ge 28, 3) := by decide +kernel
theorem dX3_stand_34 : decode cX3_stand 34 = .ok (.aload_n 0, 1) := by decide +kernel
theorem dX3_stand_35 : decode cX3_stand 35 = .ok (.getfield 34, 3) := by decide +kernel
theorem dX3_stand_38 : decode cX3_stand 38 = .ok (.iload_n 1, 1) := by decide +kernel
theorem dX3_stand_39 : decode cX3_stand 39 = .ok (.iload_n 1, 1) := by decide +kernel
theorem dX3_stand_40 : decode cX3_stand 40 = .ok (.aload_n 0, 1) := by decide +kernel
theorem dX3_stand_41 : decode cX3_stand 41 = .ok (.getfield 22, 3) := by decide +kernel
theorem dX3_stand_44 : decode cX3_stand 44 = .ok (.if_icmp .ne 7, 3) := by decide +kernel
theorem dX3_stand_47 : decode cX3_stand 47 = .ok (.iconst 1, 1) := by decide +kernel
theorem dX3_stand_48 : decode cX3_stand 48 = .ok (.goto 4, 3) := by decide +kernel
theorem dX3_stand_51 : decode cX3_stand 51 = .ok (.iconst 0, 1) := by decide +kernel
theorem dX3_stand_52 : decode cX3_stand 52 = .ok (.bastore, 1) := by decide +kernel
theorem dX3_stand_53 : decode cX3_stand 53 = .ok (.iinc 1 1, 3) := by decide +kernel
theorem dX3_stand_56 : decode cX3_stand 56 = .ok (.goto (-31), 3) := by decide +kernel
theorem dX3_stand_59 : decode cX3_stand 59 = .ok (.return_, 1) := by decide +kernel
theorem dX3_lead_0 : decode cX3_lead 0 = .ok (.aload_n 0, 1) := by decide +kernel
theorem dX3_lead_1 : decode cX3_lead 1 = .ok (.iconst 2, 1) := by decide +kernel
theorem dX3_lead_2 : decode cX3_lead 2 = .ok (.putfield 15, 3) := by decide +kernel
theorem dX3_lead_5 : decode cX3_lead 5 = .ok (.iconst 0, 1) := by decide +kernel
theorem dX3_lead_6 : decode cX3_lead 6 = .ok (.istore_n 1, 1) := by decide +kernel
theorem dX3_lead_7 : decode cX3_lead 7 = .ok (.iload_n 1, 1) := by decide +kernel
theorem dX3_lead_8 : decode cX3_lead 8 = .ok (.aload_n 0, 1) := by decide +kernel
theorem dX3_lead_9 : decode cX3_lead 9 = .ok (.getfield 38, 3) := by decide +kernel
theorem dX3_lead_12 : decode cX3_lead 12 = .ok (.arraylength, 1) := by decide +kernel
theorem dX3_lead_13 : decode cX3_lead 13 = .ok (.if_icmp .ge 31, 3) := by decide +kernel
theorem dX3_lead_16 : decode cX3_lead 16 = .ok (.aload_n 0, 1) := by decide +kernel
theorem dX3_lead_17 : decode cX3_lead 17 = .ok (.getfield 38, 3) := by decide +kernel
theorem dX3_lead_20 : decode cX3_lead 20 = .ok (.iload_n 1, 1) := by decide +kernel
theorem dX3_lead_21 : decode cX3_lead 21 = .ok (.aload_n 0, 1) := by decide +kernel
theorem dX3_lead_22 : decode cX3_lead 22 = .ok (.getfield 30, 3) := by decide +kernel
theorem dX3_lead_25 : decode cX3_lead 25 = .ok (.invokevirtual 51, 3) := by decide +kernel
theorem dX3_lead_28 : decode cX3_lead 28 = .ok (.iconst 1, 1) := by decide +kernel
theorem dX3_lead_29 : decode cX3_lead 29 = .ok (.iadd, 1) := by decide +kernel
theorem dX3_lead_30 : decode cX3_lead 30 = .ok (.iastore, 1) := by decide +kernel
theorem dX3_lead_31 : decode cX3_lead 31 = .ok (.aload_n 0, 1) := by decide +kernel
theorem dX3_lead_32 : decode cX3_lead 32 = .ok (.getfield 42, 3) := by decide +kernel
theorem dX3_lead_35 : decode cX3_lead 35 = .ok (.iload_n 1, 1) := by decide +kernel
theorem dX3_lead_36 : decode cX3_lead 36 = .ok (.iconst 0, 1) := by decide +kernel
theorem dX3_lead_37 : decode cX3_lead 37 = .ok (.iastore, 1) := by decide +kernel
theorem dX3_lead_38 : decode cX3_lead 38 = .ok (.iinc 1 1, 3) := by decide +kernel
theorem dX3_lead_41 : decode cX3_lead 41 = .ok (.goto (-34), 3) := by decide +kernel
theorem dX3_lead_44 : decode cX3_lead 44 = .ok (.return_, 1) := by decide +kernel
theorem dX3_takeEntry_0 : decode cX3_takeEntry 0 = .ok (.aload_n 0, 1) := by decide +kernel
theorem dX3_takeEntry_1 : decode cX3_takeEntry 1 = .ok (.getfield 30, 3) := by decide +kernel
theorem dX3_takeEntry_4 : decode cX3_takeEntry 4 = .ok (.iload_n 1, 1) := by decide +kernel
theorem dX3_takeEntry_5 : decode cX3_takeEntry 5 = .ok (.invokevirtual 55, 3) := by decide +kernel
theorem dX3_takeEntry_8 : decode cX3_takeEntry 8 = .ok (.ifCond .eq 41, 3) := by decide +kernel
theorem dX3_takeEntry_11 : decode cX3_takeEntry 11 = .ok (.aload_n 0, 1) := by decide +kernel
theorem dX3_takeEntry_12 : decode cX3_takeEntry 12 = .ok (.getfield 30, 3) := by decide +kernel
theorem dX3_takeEntry_15 : decode cX3_takeEntry 15 = .ok (.iload_n 1, 1) := by decide +kernel
theorem dX3_takeEntry_16 : decode cX3_takeEntry 16 = .ok (.invokevirtual 59, 3) := by decide +kernel
theorem dX3_takeEntry_19 : decode cX3_takeEntry 19 = .ok (.iload_n 2, 1) := by decide +kernel
theorem dX3_takeEntry_20 : decode cX3_takeEntry 20 = .ok (.if_icmp .eq 29, 3) := by decide +kernel
theorem dX3_takeEntry_23 : decode cX3_takeEntry 23 = .ok (.aload_n 0, 1) := by decide +kernel
theorem dX3_takeEntry_24 : decode cX3_takeEntry 24 = .ok (.getfield 30, 3) := by decide +kernel
theorem dX3_takeEntry_27 : decode cX3_takeEntry 27 = .ok (.iload_n 1, 1) := by decide +kernel
theorem dX3_takeEntry_28 : decode cX3_takeEntry 28 = .ok (.invokevirtual 63, 3) := by decide +kernel
theorem dX3_takeEntry_31 : decode cX3_takeEntry 31 = .ok (.aload_n 0, 1) := by decide +kernel
theorem dX3_takeEntry_32 : decode cX3_takeEntry 32 = .ok (.aload_n 0, 1) := by decide +kernel
theorem dX3_takeEntry_33 : decode cX3_takeEntry 33 = .ok (.getfield 66, 3) := by decide +kernel
theorem dX3_takeEntry_36 : decode cX3_takeEntry 36 = .ok (.aload_n 0, 1) := by decide +kernel
theorem dX3_takeEntry_37 : decode cX3_takeEntry 37 = .ok (.getfield 30, 3) := by decide +kernel
theorem dX3_takeEntry_40 : decode cX3_takeEntry 40 = .ok (.invokevirtual 51, 3) := by decide +kernel
theorem dX3_takeEntry_43 : decode cX3_takeEntry 43 = .ok (.invokestatic 69, 3) := by decide +kernel
theorem dX3_takeEntry_46 : decode cX3_takeEntry 46 = .ok (.putfield 66, 3) := by decide +kernel
theorem dX3_takeEntry_49 : decode cX3_takeEntry 49 = .ok (.aload_n 0, 1) := by decide +kernel
theorem dX3_takeEntry_50 : decode cX3_takeEntry 50 = .ok (.getfield 30, 3) := by decide +kernel
theorem dX3_takeEntry_53 : decode cX3_takeEntry 53 = .ok (.iload_n 1, 1) := by decide +kernel
theorem dX3_takeEntry_54 : decode cX3_takeEntry 54 = .ok (.invokevirtual 55, 3) := by decide +kernel
theorem dX3_takeEntry_57 : decode cX3_takeEntry 57 = .ok (.ifCond .ne 12, 3) := by decide +kernel
theorem dX3_takeEntry_60 : decode cX3_takeEntry 60 = .ok (.aload_n 0, 1) := by decide +kernel
theorem dX3_takeEntry_61 : decode cX3_takeEntry 61 = .ok (.getfield 30, 3) := by decide +kernel
theorem dX3_takeEntry_64 : decode cX3_takeEntry 64 = .ok (.iload_n 2, 1) := by decide +kernel
theorem dX3_takeEntry_65 : decode cX3_takeEntry 65 = .ok (.iload_n 3, 1) := by decide +kernel
theorem dX3_takeEntry_66 : decode cX3_takeEntry 66 = .ok (.invokevirtual 75, 3) := by decide +kernel
theorem dX3_takeEntry_69 : decode cX3_takeEntry 69 = .ok (.return_, 1) := by decide +kernel
theorem dX3_countVoters_0 : decode cX3_countVoters 0 = .ok (.iconst 0, 1) := by decide +kernel
theorem dX3_countVoters_1 : decode cX3_countVoters 1 = .ok (.istore_n 1, 1) := by decide +kernel
theorem dX3_countVoters_2 : decode cX3_countVoters 2 = .ok (.iconst 0, 1) := by decide +kernel
theorem dX3_countVoters_3 : decode cX3_countVoters 3 = .ok (.istore_n 2, 1) := by decide +kernel
theorem dX3_countVoters_4 : decode cX3_countVoters 4 = .ok (.iload_n 2, 1) := by decide +kernel
theorem dX3_countVoters_5 : decode cX3_countVoters 5 = .ok (.aload_n 0, 1) := by decide +kernel
theorem dX3_countVoters_6 : decode cX3_countVoters 6 = .ok (.getfield 34, 3) := by decide +kernel
theorem dX3_countVoters_9 : decode cX3_countVoters 9 = .ok (.arraylength, 1) := by decide +kernel
theorem dX3_countVoters_10 : decode cX3_countVoters 10 = .ok (.if_icmp .ge 21, 3) := by decide +kernel
theorem dX3_countVoters_13 : decode cX3_countVoters 13 = .ok (.aload_n 0, 1) := by decide +kernel
theorem dX3_countVoters_14 : decode cX3_countVoters 14 = .ok (.getfield 34, 3) := by decide +kernel
theorem dX3_countVoters_17 : decode cX3_countVoters 17 = .ok (.iload_n 2, 1) := by decide +kernel
theorem dX3_countVoters_18 : decode cX3_countVoters 18 = .ok (.baload, 1) := by decide +kernel
theorem dX3_countVoters_19 : decode cX3_countVoters 19 = .ok (.ifCond .eq 6, 3) := by decide +kernel
theorem dX3_countVoters_22 : decode cX3_countVoters 22 = .ok (.iinc 1 1, 3) := by decide +kernel
theorem dX3_countVoters_25 : decode cX3_countVoters 25 = .ok (.iinc 2 1, 3) := by decide +kernel
theorem dX3_countVoters_28 : decode cX3_countVoters 28 = .ok (.goto (-24), 3) := by decide +kernel
theorem dX3_countVoters_31 : decode cX3_countVoters 31 = .ok (.iload_n 1, 1) := by decide +kernel
theorem dX3_countVoters_32 : decode cX3_countVoters 32 = .ok (.ireturn, 1) := by decide +kernel
theorem dX3_countHolders_0 : decode cX3_countHolders 0 = .ok (.iconst 0, 1) := by decide +kernel
theorem dX3_countHolders_1 : decode cX3_countHolders 1 = .ok (.istore_n 2, 1) := by decide +kernel
theorem dX3_countHolders_2 : decode cX3_countHolders 2 = .ok (.iconst 0, 1) := by decide +kernel
theorem dX3_countHolders_3 : decode cX3_countHolders 3 = .ok (.istore_n 3, 1) := by decide +kernel
theorem dX3_countHolders_4 : decode cX3_countHolders 4 = .ok (.iload_n 3, 1) := by decide +kernel
theorem dX3_countHolders_5 : decode cX3_countHolders 5 = .ok (.aload_n 0, 1) := by decide +kernel
theorem dX3_countHolders_6 : decode cX3_countHolders 6 = .ok (.getfield 42, 3) := by decide +kernel
theorem dX3_countHolders_9 : decode cX3_countHolders 9 = .ok (.arraylength, 1) := by decide +kernel
theorem dX3_countHolders_10 : decode cX3_countHolders 10 = .ok (.if_icmp .ge 30, 3) := by decide +kernel
theorem dX3_countHolders_13 : decode cX3_countHolders 13 = .ok (.iload_n 3, 1) := by decide +kernel
theorem dX3_countHolders_14 : decode cX3_countHolders 14 = .ok (.aload_n 0, 1) := by decide +kernel
theorem dX3_countHolders_15 : decode cX3_countHolders 15 = .ok (.getfield 22, 3) := by decide +kernel
theorem dX3_countHolders_18 : decode cX3_countHolders 18 = .ok (.if_icmp .eq 13, 3) := by decide +kernel
theorem dX3_countHolders_21 : decode cX3_countHolders 21 = .ok (.aload_n 0, 1) := by decide +kernel
theorem dX3_countHolders_22 : decode cX3_countHolders 22 = .ok (.getfield 42, 3) := by decide +kernel
theorem dX3_countHolders_25 : decode cX3_countHolders 25 = .ok (.iload_n 3, 1) := by decide +kernel
theorem dX3_countHolders_26 : decode cX3_countHolders 26 = .ok (.iaload, 1) := by decide +kernel
theorem dX3_countHolders_27 : decode cX3_countHolders 27 = .ok (.iload_n 1, 1) := by decide +kernel
theorem dX3_countHolders_28 : decode cX3_countHolders 28 = .ok (.if_icmp .lt 6, 3) := by decide +kernel
theorem dX3_countHolders_31 : decode cX3_countHolders 31 = .ok (.iinc 2 1, 3) := by decide +kernel
theorem dX3_countHolders_34 : decode cX3_countHolders 34 = .ok (.iinc 3 1, 3) := by decide +kernel
theorem dX3_countHolders_37 : decode cX3_countHolders 37 = .ok (.goto (-33), 3) := by decide +kernel
theorem dX3_countHolders_40 : decode cX3_countHolders 40 = .ok (.iload_n 2, 1) := by decide +kernel
theorem dX3_countHolders_41 : decode cX3_countHolders 41 = .ok (.ireturn, 1) := by decide +kernel
end
section
theorem dX5_init_0 : decode cX5_init 0 = .ok (.aload_n 0, 1) := by decide +kernel
theorem dX5_init_1 : decode cX5_init 1 = .ok (.invokespecial 1, 3) := by decide +kernel
theorem dX5_init_4 : decode cX5_init 4 = .ok (.aload_n 0, 1) := by decide +kernel
theorem dX5_init_5 : decode cX5_init 5 = .ok (.iconst 5, 1) := by decide +kernel
theorem dX5_init_6 : decode cX5_init 6 = .ok (.newarray .boolean, 2) := by decide +kernel
theorem dX5_init_8 : decode cX5_init 8 = .ok (.putfield 7, 3) := by decide +kernel
theorem dX5_init_11 : decode cX5_init 11 = .ok (.aload_n 0, 1) := by decide +kernel
theorem dX5_init_12 : decode cX5_init 12 = .ok (.iconst 5, 1) := by decide +kernel
theorem dX5_init_13 : decode cX5_init 13 = .ok (.newarray .int, 2) := by decide +kernel
theorem dX5_init_15 : decode cX5_init 15 = .ok (.putfield 13, 3) := by decide +kernel
theorem dX5_init_18 : decode cX5_init 18 = .ok (.aload_n 0, 1) := by decide +kernel
theorem dX5_init_19 : decode cX5_init 19 = .ok (.iconst 5, 1) := by decide +kernel
theorem dX5_init_20 : decode cX5_init 20 = .ok (.newarray .int, 2) := by decide +kernel
theorem dX5_init_22 : decode cX5_init 22 = .ok (.putfield 17, 3) := by decide +kernel
theorem dX5_init_25 : decode cX5_init 25 = .ok (.aload_n 0, 1) := by decide +kernel
theorem dX5_init_26 : decode cX5_init 26 = .ok (.iconst 5, 1) := by decide +kernel
theorem dX5_init_27 : decode cX5_init 27 = .ok (.newarray .int, 2) := by decide +kernel
theorem dX5_init_29 : decode cX5_init 29 = .ok (.putfield 20, 3) := by decide +kernel
theorem dX5_init_32 : decode cX5_init 32 = .ok (.aload_n 0, 1) := by decide +kernel
theorem dX5_init_33 : decode cX5_init 33 = .ok (.iconst 5, 1) := by decide +kernel
theorem dX5_init_34 : decode cX5_init 34 = .ok (.newarray .int, 2) := by decide +kernel
theorem dX5_init_36 : decode cX5_init 36 = .ok (.putfield 23, 3) := by decide +kernel
theorem dX5_init_39 : decode cX5_init 39 = .ok (.aload_n 0, 1) := by decide +kernel
theorem dX5_init_40 : decode cX5_init 40 = .ok (.iconst 5, 1) := by decide +kernel
theorem dX5_init_41 : decode cX5_init 41 = .ok (.newarray .int, 2) := by decide +kernel
theorem dX5_init_43 : decode cX5_init 43 = .ok (.putfield 26, 3) := by decide +kernel
theorem dX5_init_46 : decode cX5_init 46 = .ok (.aload_n 0, 1) := by decide +kernel
theorem dX5_init_47 : decode cX5_init 47 = .ok (.iconst 5, 1) := by decide +kernel
theorem dX5_init_48 : decode cX5_init 48 = .ok (.newarray .int, 2) := by decide +kernel
theorem dX5_init_50 : decode cX5_init 50 = .ok (.putfield 29, 3) := by decide +kernel
theorem dX5_init_53 : decode cX5_init 53 = .ok (.aload_n 0, 1) := by decide +kernel
theorem dX5_init_54 : decode cX5_init 54 = .ok (.iconst 5, 1) := by decide +kernel
theorem dX5_init_55 : decode cX5_init 55 = .ok (.newarray .int, 2) := by decide +kernel
theorem dX5_init_57 : decode cX5_init 57 = .ok (.putfield 32, 3) := by decide +kernel
theorem dX5_init_60 : decode cX5_init 60 = .ok (.aload_n 0, 1) := by decide +kernel
theorem dX5_init_61 : decode cX5_init 61 = .ok (.iconst 5, 1) := by decide +kernel
theorem dX5_init_62 : decode cX5_init 62 = .ok (.newarray .int, 2) := by decide +kernel
theorem dX5_init_64 : decode cX5_init 64 = .ok (.putfield 35, 3) := by decide +kernel
theorem dX5_init_67 : decode cX5_init 67 = .ok (.aload_n 0, 1) := by decide +kernel
theorem dX5_init_68 : decode cX5_init 68 = .ok (.iconst 5, 1) := by decide +kernel
theorem dX5_init_69 : decode cX5_init 69 = .ok (.newarray .int, 2) := by decide +kernel
theorem dX5_init_71 : decode cX5_init 71 = .ok (.putfield 38, 3) := by decide +kernel
theorem dX5_init_74 : decode cX5_init 74 = .ok (.aload_n 0, 1) := by decide +kernel
theorem dX5_init_75 : decode cX5_init 75 = .ok (.bipush 60, 2) := by decide +kernel
theorem dX5_init_77 : decode cX5_init 77 = .ok (.newarray .int, 2) := by decide +kernel
theorem dX5_init_79 : decode cX5_init 79 = .ok (.putfield 41, 3) := by decide +kernel
theorem dX5_init_82 : decode cX5_init 82 = .ok (.aload_n 0, 1) := by decide +kernel
theorem dX5_init_83 : decode cX5_init 83 = .ok (.bipush 60, 2) := by decide +kernel
theorem dX5_init_85 : decode cX5_init 85 = .ok (.newarray .int, 2) := by decide +kernel
theorem dX5_init_87 : decode cX5_init 87 = .ok (.putfield 44, 3) := by decide +kernel
theorem dX5_init_90 : decode cX5_init 90 = .ok (.aload_n 0, 1) := by decide +kernel
theorem dX5_init_91 : decode cX5_init 91 = .ok (.bipush 25, 2) := by decide +kernel
theorem dX5_init_93 : decode cX5_init 93 = .ok (.newarray .int, 2) := by decide +kernel
theorem dX5_init_95 : decode cX5_init 95 = .ok (.putfield 47, 3) := by decide +kernel
theorem dX5_init_98 : decode cX5_init 98 = .ok (.aload_n 0, 1) := by decide +kernel
theorem dX5_init_99 : decode cX5_init 99 = .ok (.bipush 25, 2) := by decide +kernel
theorem dX5_init_101 : decode cX5_init 101 = .ok (.newarray .int, 2) := by decide +kernel
theorem dX5_init_103 : decode cX5_init 103 = .ok (.putfield 50, 3) := by decide +kernel
theorem dX5_init_106 : decode cX5_init 106 = .ok (.aload_n 0, 1) := by decide +kernel
theorem dX5_init_107 : decode cX5_init 107 = .ok (.bipush 40, 2) := by decide +kernel
theorem dX5_init_109 : decode cX5_init 109 = .ok (.newarray .int, 2) := by decide +kernel
theorem dX5_init_111 : decode cX5_init 111 = .ok (.putfield 53, 3) := by decide +kernel
theorem dX5_init_114 : decode cX5_init 114 = .ok (.aload_n 0, 1) := by decide +kernel
theorem dX5_init_115 : decode cX5_init 115 = .ok (.bipush 40, 2) := by decide +kernel
theorem dX5_init_117 : decode cX5_init 117 = .ok (.newarray .int, 2) := by decide +kernel
theorem dX5_init_119 : decode cX5_init 119 = .ok (.putfield 56, 3) := by decide +kernel
theorem dX5_init_122 : decode cX5_init 122 = .ok (.aload_n 0, 1) := by decide +kernel
theorem dX5_init_123 : decode cX5_init 123 = .ok (.bipush 40, 2) := by decide +kernel
theorem dX5_init_125 : decode cX5_init 125 = .ok (.newarray .int, 2) := by decide +kernel
theorem dX5_init_127 : decode cX5_init 127 = .ok (.putfield 59, 3) := by decide +kernel
theorem dX5_init_130 : decode cX5_init 130 = .ok (.aload_n 0, 1) := by decide +kernel
theorem dX5_init_131 : decode cX5_init 131 = .ok (.bipush 40, 2) := by decide +kernel
theorem dX5_init_133 : decode cX5_init 133 = .ok (.newarray .int, 2) := by decide +kernel
theorem dX5_init_135 : decode cX5_init 135 = .ok (.putfield 62, 3) := by decide +kernel
theorem dX5_init_138 : decode cX5_init 138 = .ok (.aload_n 0, 1) := by decide +kernel
theorem dX5_init_139 : decode cX5_init 139 = .ok (.bipush 40, 2) := by decide +kernel
theorem dX5_init_141 : decode cX5_init 141 = .ok (.newarray .int, 2) := by decide +kernel
theorem dX5_init_143 : decode cX5_init 143 = .ok (.putfield 65, 3) := by decide +kernel
theorem dX5_init_146 : decode cX5_init 146 = .ok (.aload_n 0, 1) := by decide +kernel
theorem dX5_init_147 : decode cX5_init 147 = .ok (.bipush 40, 2) := by decide +kernel
theorem dX5_init_149 : decode cX5_init 149 = .ok (.newarray .int, 2) := by decide +kernel
theorem dX5_init_151 : decode cX5_init 151 = .ok (.putfield 68, 3) := by decide +kernel
theorem dX5_init_154 : decode cX5_init 154 = .ok (.aload_n 0, 1) := by decide +kernel
theorem dX5_init_155 : decode cX5_init 155 = .ok (.bipush 40, 2) := by decide +kernel
theorem dX5_init_157 : decode cX5_init 157 = .ok (.newarray .boolean, 2) := by decide +kernel
theorem dX5_init_159 : decode cX5_init 159 = .ok (.putfield 71, 3) := by decide +kernel
theorem dX5_init_162 : decode cX5_init 162 = .ok (.aload_n 0, 1) := by decide +kernel
theorem dX5_init_163 : decode cX5_init 163 = .ok (.bipush 40, 2) := by decide +kernel
theorem dX5_init_165 : decode cX5_init 165 = .ok (.newarray .int, 2) := by decide +kernel
theorem dX5_init_167 : decode cX5_init 167 = .ok (.putfield 74, 3) := by decide +kernel
theorem dX5_init_170 : decode cX5_init 170 = .ok (.aload_n 0, 1) := by decide +kernel
theorem dX5_init_171 : decode cX5_init 171 = .ok (.bipush 40, 2) := by decide +kernel
theorem dX5_init_173 : decode cX5_init 173 = .ok (.newarray .int, 2) := by decide +kernel
theorem dX5_init_175 : decode cX5_init 175 = .ok (.putfield 77, 3) := by decide +kernel
theorem dX5_init_178 : decode cX5_init 178 = .ok (.aload_n 0, 1) := by decide +kernel
theorem dX5_init_179 : decode cX5_init 179 = .ok (.bipush 40, 2) := by decide +kernel
theorem dX5_init_181 : decode cX5_init 181 = .ok (.newarray .int, 2) := by decide +kernel
theorem dX5_init_183 : decode cX5_init 183 = .ok (.putfield 80, 3) := by decide +kernel
theorem dX5_init_186 : decode cX5_init 186 = .ok (.aload_n 0, 1) := by decide +kernel
theorem dX5_init_187 : decode cX5_init 187 = .ok (.iload_n 1, 1) := by decide +kernel
theorem dX5_init_188 : decode cX5_init 188 = .ok (.iconst 3, 1) := by decide +kernel
theorem dX5_init_189 : decode cX5_init 189 = .ok (.iconst 5, 1) := by decide +kernel
theorem dX5_init_190 : decode cX5_init 190 = .ok (.invokestatic 83, 3) := by decide +kernel
theorem dX5_init_193 : decode cX5_init 193 = .ok (.putfield 87, 3) := by decide +kernel
theorem dX5_init_196 : decode cX5_init 196 = .ok (.aload_n 0, 1) := by decide +kernel
theorem dX5_init_197 : decode cX5_init 197 = .ok (.iload_n 2, 1) := by decide +kernel
theorem dX5_init_198 : decode cX5_init 198 = .ok (.iconst 1, 1) := by decide +kernel
theorem dX5_init_199 : decode cX5_init 199 = .ok (.bipush 12, 2) := by decide +kernel
theorem dX5_init_201 : decode cX5_init 201 = .ok (.invokestatic 83, 3) := by decide +kernel
theorem dX5_init_204 : decode cX5_init 204 = .ok (.putfield 91, 3) := by decide +kernel
theorem dX5_init_207 : decode cX5_init 207 = .ok (.aload_n 0, 1) := by decide +kernel
theorem dX5_init_208 : decode cX5_init 208 = .ok (.iload_n 3, 1) := by decide +kernel
theorem dX5_init_209 : decode cX5_init 209 = .ok (.bipush 8, 2) := by decide +kernel
theorem dX5_init_211 : decode cX5_init 211 = .ok (.bipush 40, 2) := by decide +kernel
theorem dX5_init_213 : decode cX5_init 213 = .ok (.invokestatic 83, 3) := by decide +kernel
theorem dX5_init_216 : decode cX5_init 216 = .ok (.putfield 94, 3) := by decide +kernel
theorem dX5_init_219 : decode cX5_init 219 = .ok (.iconst 0, 1) := by decide +kernel
theorem dX5_init_220 : decode cX5_init 220 = .ok (.istore 4, 2) := by decide +kernel
theorem dX5_init_222 : decode cX5_init 222 = .ok (.iload 4, 2) := by decide +kernel
theorem dX5_init_224 : decode cX5_init 224 = .ok (.iconst 5, 1) := by decide +kernel
theorem dX5_init_225 : decode cX5_init 225 = .ok (.if_icmp .ge 25, 3) := by decide +kernel
theorem dX5_init_228 : decode cX5_init 228 = .ok (.aload_n 0, 1) := by decide +kernel
theorem dX5_init_229 : decode cX5_init 229 = .ok (.getfield 7, 3) := by decide +kernel
theorem dX5_init_232 : decode cX5_init 232 = .ok (.iload 4, 2) := by decide +kernel
theorem dX5_init_234 : decode cX5_init 234 = .ok (.iconst 1, 1) := by decide +kernel
theorem dX5_init_235 : decode cX5_init 235 = .ok (.bastore, 1) := by decide +kernel
theorem dX5_init_236 : decode cX5_init 236 = .ok (.aload_n 0, 1) := by decide +kernel
theorem dX5_init_237 : decode cX5_init 237 = .ok (.getfield 20, 3) := by decide +kernel
theorem dX5_init_240 : decode cX5_init 240 = .ok (.iload 4, 2) := by decide +kernel
theorem dX5_init_242 : decode cX5_init 242 = .ok (.iconst (-1), 1) := by decide +kernel
theorem dX5_init_243 : decode cX5_init 243 = .ok (.iastore, 1) := by decide +kernel
theorem dX5_init_244 : decode cX5_init 244 = .ok (.iinc 4 1, 3) := by decide +kernel
theorem dX5_init_247 : decode cX5_init 247 = .ok (.goto (-25), 3) := by decide +kernel
theorem dX5_init_250 : decode cX5_init 250 = .ok (.return_, 1) := by decide +kernel
theorem dX5_clamp_0 : decode cX5_clamp 0 = .ok (.iload_n 0, 1) := by decide +kernel
theorem dX5_clamp_1 : decode cX5_clamp 1 = .ok (.iload_n 1, 1) := by decide +kernel
theorem dX5_clamp_2 : decode cX5_clamp 2 = .ok (.if_icmp .ge 7, 3) := by decide +kernel
theorem dX5_clamp_5 : decode cX5_clamp 5 = .ok (.iload_n 1, 1) := by decide +kernel
theorem dX5_clamp_6 : decode cX5_clamp 6 = .ok (.goto 13, 3) := by decide +kernel
theorem dX5_clamp_9 : decode cX5_clamp 9 = .ok (.iload_n 0, 1) := by decide +kernel
theorem dX5_clamp_10 : decode cX5_clamp 10 = .ok (.iload_n 2, 1) := by decide +kernel
theorem dX5_clamp_11 : decode cX5_clamp 11 = .ok (.if_icmp .le 7, 3) := by decide +kernel
theorem dX5_clamp_14 : decode cX5_clamp 14 = .ok (.iload_n 2, 1) := by decide +kernel
theorem dX5_clamp_15 : decode cX5_clamp 15 = .ok (.goto 4, 3) := by decide +kernel
theorem dX5_clamp_18 : decode cX5_clamp 18 = .ok (.iload_n 0, 1) := by decide +kernel
theorem dX5_clamp_19 : decode cX5_clamp 19 = .ok (.ireturn, 1) := by decide +kernel
theorem dX5_isNode_0 : decode cX5_isNode 0 = .ok (.iload_n 1, 1) := by decide +kernel
theorem dX5_isNode_1 : decode cX5_isNode 1 = .ok (.ifCond .lt 15, 3) := by decide +kernel
theorem dX5_isNode_4 : decode cX5_isNode 4 = .ok (.iload_n 1, 1) := by decide +kernel
theorem dX5_isNode_5 : decode cX5_isNode 5 = .ok (.aload_n 0, 1) := by decide +kernel
theorem dX5_isNode_6 : decode cX5_isNode 6 = .ok (.getfield 87, 3) := by decide +kernel
theorem dX5_isNode_9 : decode cX5_isNode 9 = .ok (.if_icmp .ge 7, 3) := by decide +kernel
theorem dX5_isNode_12 : decode cX5_isNode 12 = .ok (.iconst 1, 1) := by decide +kernel
theorem dX5_isNode_13 : decode cX5_isNode 13 = .ok (.goto 4, 3) := by decide +kernel
theorem dX5_isNode_16 : decode cX5_isNode 16 = .ok (.iconst 0, 1) := by decide +kernel
theorem dX5_isNode_17 : decode cX5_isNode 17 = .ok (.ireturn, 1) := by decide +kernel
theorem dX5_lastOf_0 : decode cX5_lastOf 0 = .ok (.aload_n 0, 1) := by decide +kernel
theorem dX5_lastOf_1 : decode cX5_lastOf 1 = .ok (.getfield 23, 3) := by decide +kernel
theorem dX5_lastOf_4 : decode cX5_lastOf 4 = .ok (.iload_n 1, 1) := by decide +kernel
theorem dX5_lastOf_5 : decode cX5_lastOf 5 = .ok (.iaload, 1) := by decide +kernel
theorem dX5_lastOf_6 : decode cX5_lastOf 6 = .ok (.aload_n 0, 1) := by decide +kernel
theorem dX5_lastOf_7 : decode cX5_lastOf 7 = .ok (.getfield 38, 3) := by decide +kernel
theorem dX5_lastOf_10 : decode cX5_lastOf 10 = .ok (.iload_n 1, 1) := by decide +kernel
theorem dX5_lastOf_11 : decode cX5_lastOf 11 = .ok (.iaload, 1) := by decide +kernel
theorem dX5_lastOf_12 : decode cX5_lastOf 12 = .ok (.iadd, 1) := by decide +kernel
theorem dX5_lastOf_13 : decode cX5_lastOf 13 = .ok (.ireturn, 1) := by decide +kernel
theorem dX5_hasEntry_0 : decode cX5_hasEntry 0 = .ok (.iload_n 2, 1) := by decide +kernel
theorem dX5_hasEntry_1 : decode cX5_hasEntry 1 = .ok (.aload_n 0, 1) := by decide +kernel
theorem dX5_hasEntry_2 : decode cX5_hasEntry 2 = .ok (.getfield 23, 3) := by decide +kernel
theorem dX5_hasEntry_5 : decode cX5_hasEntry 5 = .ok (.iload_n 1, 1) := by decide +kernel
theorem dX5_hasEntry_6 : decode cX5_hasEntry 6 = .ok (.iaload, 1) := by decide +kernel
theorem dX5_hasEntry_7 : decode cX5_hasEntry 7 = .ok (.if_icmp .le 16, 3) := by decide +kernel
theorem dX5_hasEntry_10 : decode cX5_hasEntry 10 = .ok (.iload_n 2, 1) := by decide +kernel
theorem dX5_hasEntry_11 : decode cX5_hasEntry 11 = .ok (.aload_n 0, 1) := by decide +kernel
theorem dX5_hasEntry_12 : decode cX5_hasEntry 12 = .ok (.iload_n 1, 1) := by decide +kernel
theorem dX5_hasEntry_13 : decode cX5_hasEntry 13 = .ok (.invokevirtual 97, 3) := by decide +kernel
theorem dX5_hasEntry_16 : decode cX5_hasEntry 16 = .ok (.if_icmp .gt 7, 3) := by decide +kernel
theorem dX5_hasEntry_19 : decode cX5_hasEntry 19 = .ok (.iconst 1, 1) := by decide +kernel
theorem dX5_hasEntry_20 : decode cX5_hasEntry 20 = .ok (.goto 4, 3) := by decide +kernel
theorem dX5_hasEntry_23 : decode cX5_hasEntry 23 = .ok (.iconst 0, 1) := by decide +kernel
theorem dX5_hasEntry_24 : decode cX5_hasEntry 24 = .ok (.ireturn, 1) := by decide +kernel
theorem dX5_place_0 : decode cX5_place 0 = .ok (.bipush 12, 2) := by decide +kernel
theorem dX5_place_2 : decode cX5_place 2 = .ok (.iload_n 1, 1) := by decide +kernel
theorem dX5_place_3 : decode cX5_place 3 = .ok (.imul, 1) := by decide +kernel
theorem dX5_place_4 : decode cX5_place 4 = .ok (.iload_n 2, 1) := by decide +kernel
theorem dX5_place_5 : decode cX5_place 5 = .ok (.iadd, 1) := by decide +kernel
theorem dX5_place_6 : decode cX5_place 6 = .ok (.aload_n 0, 1) := by decide +kernel
theorem dX5_place_7 : decode cX5_place 7 = .ok (.getfield 23, 3) := by decide +kernel
theorem dX5_place_10 : decode cX5_place 10 = .ok (.iload_n 1, 1) := by decide +kernel
theorem dX5_place_11 : decode cX5_place 11 = .ok (.iaload, 1) := by decide +kernel
theorem dX5_place_12 : decode cX5_place 12 = .ok (.isub, 1) := by decide +kernel
theorem dX5_place_13 : decode cX5_place 13 = .ok (.iconst 1, 1) := by decide +kernel
theorem dX5_place_14 : decode cX5_place 14 = .ok (.isub, 1) := by decide +kernel
theorem dX5_place_15 : decode cX5_place 15 = .ok (.ireturn, 1) := by decide +kernel
theorem dX5_termOf_0 : decode cX5_termOf 0 = .ok (.iload_n 2, 1) := by decide +kernel
theorem dX5_termOf_1 : decode cX5_termOf 1 = .ok (.aload_n 0, 1) := by decide +kernel
theorem dX5_termOf_2 : decode cX5_termOf 2 = .ok (.getfield 23, 3) := by decide +kernel
theorem dX5_termOf_5 : decode cX5_termOf 5 = .ok (.iload_n 1, 1) := by decide +kernel
theorem dX5_termOf_6 : decode cX5_termOf 6 = .ok (.iaload, 1) := by decide +kernel
theorem dX5_termOf_7 : decode cX5_termOf 7 = .ok (.if_icmp .ne 12, 3) := by decide +kernel
theorem dX5_termOf_10 : decode cX5_termOf 10 = .ok (.aload_n 0, 1) := by decide +kernel
theorem dX5_termOf_11 : decode cX5_termOf 11 = .ok (.getfield 26, 3) := by decide +kernel
theorem dX5_termOf_14 : decode cX5_termOf 14 = .ok (.iload_n 1, 1) := by decide +kernel
theorem dX5_termOf_15 : decode cX5_termOf 15 = .ok (.iaload, 1) := by decide +kernel
theorem dX5_termOf_16 : decode cX5_termOf 16 = .ok (.goto 27, 3) := by decide +kernel
theorem dX5_termOf_19 : decode cX5_termOf 19 = .ok (.aload_n 0, 1) := by decide +kernel
theorem dX5_termOf_20 : decode cX5_termOf 20 = .ok (.iload_n 1, 1) := by decide +kernel
theorem dX5_termOf_21 : decode cX5_termOf 21 = .ok (.iload_n 2, 1) := by decide +kernel
theorem dX5_termOf_22 : decode cX5_termOf 22 = .ok (.invokevirtual 101, 3) := by decide +kernel
theorem dX5_termOf_25 : decode cX5_termOf 25 = .ok (.ifCond .eq 17, 3) := by decide +kernel
theorem dX5_termOf_28 : decode cX5_termOf 28 = .ok (.aload_n 0, 1) := by decide +kernel
theorem dX5_termOf_29 : decode cX5_termOf 29 = .ok (.getfield 41, 3) := by decide +kernel
theorem dX5_termOf_32 : decode cX5_termOf 32 = .ok (.aload_n 0, 1) := by decide +kernel
theorem dX5_termOf_33 : decode cX5_termOf 33 = .ok (.iload_n 1, 1) := by decide +kernel
theorem dX5_termOf_34 : decode cX5_termOf 34 = .ok (.iload_n 2, 1) := by decide +kernel
theorem dX5_termOf_35 : decode cX5_termOf 35 = .ok (.invokevirtual 105, 3) := by decide +kernel
theorem dX5_termOf_38 : decode cX5_termOf 38 = .ok (.iaload, 1) := by decide +kernel
theorem dX5_termOf_39 : decode cX5_termOf 39 = .ok (.goto 4, 3) := by decide +kernel
theorem dX5_termOf_42 : decode cX5_termOf 42 = .ok (.iconst (-1), 1) := by decide +kernel
theorem dX5_termOf_43 : decode cX5_termOf 43 = .ok (.ireturn, 1) := by decide +kernel
theorem dX5_stateTo_0 : decode cX5_stateTo 0 = .ok (.aload_n 0, 1) := by decide +kernel
theorem dX5_stateTo_1 : decode cX5_stateTo 1 = .ok (.getfield 29, 3) := by decide +kernel
theorem dX5_stateTo_4 : decode cX5_stateTo 4 = .ok (.iload_n 1, 1) := by decide +kernel
theorem dX5_stateTo_5 : decode cX5_stateTo 5 = .ok (.iaload, 1) := by decide +kernel
theorem dX5_stateTo_6 : decode cX5_stateTo 6 = .ok (.istore_n 3, 1) := by decide +kernel
theorem dX5_stateTo_7 : decode cX5_stateTo 7 = .ok (.aload_n 0, 1) := by decide +kernel
theorem dX5_stateTo_8 : decode cX5_stateTo 8 = .ok (.getfield 23, 3) := by decide +kernel
theorem dX5_stateTo_11 : decode cX5_stateTo 11 = .ok (.iload_n 1, 1) := by decide +kernel
theorem dX5_stateTo_12 : decode cX5_stateTo 12 = .ok (.iaload, 1) := by decide +kernel
theorem dX5_stateTo_13 : decode cX5_stateTo 13 = .ok (.iconst 1, 1) := by decide +kernel
theorem dX5_stateTo_14 : decode cX5_stateTo 14 = .ok (.iadd, 1) := by decide +kernel
theorem dX5_stateTo_15 : decode cX5_stateTo 15 = .ok (.istore 4, 2) := by decide +kernel
theorem dX5_stateTo_17 : decode cX5_stateTo 17 = .ok (.iload 4, 2) := by decide +kernel
theorem dX5_stateTo_19 : decode cX5_stateTo 19 = .ok (.iload_n 2, 1) := by decide +kernel
theorem dX5_stateTo_20 : decode cX5_stateTo 20 = .ok (.if_icmp .gt 27, 3) := by decide +kernel
theorem dX5_stateTo_23 : decode cX5_stateTo 23 = .ok (.bipush 31, 2) := by decide +kernel
theorem dX5_stateTo_25 : decode cX5_stateTo 25 = .ok (.iload_n 3, 1) := by decide +kernel
theorem dX5_stateTo_26 : decode cX5_stateTo 26 = .ok (.imul, 1) := by decide +kernel
theorem dX5_stateTo_27 : decode cX5_stateTo 27 = .ok (.aload_n 0, 1) := by decide +kernel
theorem dX5_stateTo_28 : decode cX5_stateTo 28 = .ok (.getfield 44, 3) := by decide +kernel
theorem dX5_stateTo_31 : decode cX5_stateTo 31 = .ok (.aload_n 0, 1) := by decide +kernel
theorem dX5_stateTo_32 : decode cX5_stateTo 32 = .ok (.iload_n 1, 1) := by decide +kernel
theorem dX5_stateTo_33 : decode cX5_stateTo 33 = .ok (.iload 4, 2) := by decide +kernel
theorem dX5_stateTo_35 : decode cX5_stateTo 35 = .ok (.invokevirtual 105, 3) := by decide +kernel
theorem dX5_stateTo_38 : decode cX5_stateTo 38 = .ok (.iaload, 1) := by decide +kernel
theorem dX5_stateTo_39 : decode cX5_stateTo 39 = .ok (.iadd, 1) := by decide +kernel
theorem dX5_stateTo_40 : decode cX5_stateTo 40 = .ok (.istore_n 3, 1) := by decide +kernel
theorem dX5_stateTo_41 : decode cX5_stateTo 41 = .ok (.iinc 4 1, 3) := by decide +kernel
theorem dX5_stateTo_44 : decode cX5_stateTo 44 = .ok (.goto (-27), 3) := by decide +kernel
theorem dX5_stateTo_47 : decode cX5_stateTo 47 = .ok (.iload_n 3, 1) := by decide +kernel
theorem dX5_stateTo_48 : decode cX5_stateTo 48 = .ok (.ireturn, 1) := by decide +kernel
theorem dX5_addEntry_0 : decode cX5_addEntry 0 = .ok (.aload_n 0, 1) := by decide +kernel
theorem dX5_addEntry_1 : decode cX5_addEntry 1 = .ok (.getfield 41, 3) := by decide +kernel
theorem dX5_addEntry_4 : decode cX5_addEntry 4 = .ok (.bipush 12, 2) := by decide +kernel
theorem dX5_addEntry_6 : decode cX5_addEntry 6 = .ok (.iload_n 1, 1) := by decide +kernel
theorem dX5_addEntry_7 : decode cX5_addEntry 7 = .ok (.imul, 1) := by decide +kernel
theorem dX5_addEntry_8 : decode cX5_addEntry 8 = .ok (.aload_n 0, 1) := by decide +kernel
theorem dX5_addEntry_9 : decode cX5_addEntry 9 = .ok (.getfield 38, 3) := by decide +kernel
theorem dX5_addEntry_12 : decode cX5_addEntry 12 = .ok (.iload_n 1, 1) := by decide +kernel
theorem dX5_addEntry_13 : decode cX5_addEntry 13 = .ok (.iaload, 1) := by decide +kernel
theorem dX5_addEntry_14 : decode cX5_addEntry 14 = .ok (.iadd, 1) := by decide +kernel
theorem dX5_addEntry_15 : decode cX5_addEntry 15 = .ok (.iload_n 2, 1) := by decide +kernel
theorem dX5_addEntry_16 : decode cX5_addEntry 16 = .ok (.iastore, 1) := by decide +kernel
theorem dX5_addEntry_17 : decode cX5_addEntry 17 = .ok (.aload_n 0, 1) := by decide +kernel
theorem dX5_addEntry_18 : decode cX5_addEntry 18 = .ok (.getfield 44, 3) := by decide +kernel
theorem dX5_addEntry_21 : decode cX5_addEntry 21 = .ok (.bipush 12, 2) := by decide +kernel
theorem dX5_addEntry_23 : decode cX5_addEntry 23 = .ok (.iload_n 1, 1) := by decide +kernel
theorem dX5_addEntry_24 : decode cX5_addEntry 24 = .ok (.imul, 1) := by decide +kernel
theorem dX5_addEntry_25 : decode cX5_addEntry 25 = .ok (.aload_n 0, 1) := by decide +kernel
theorem dX5_addEntry_26 : decode cX5_addEntry 26 = .ok (.getfield 38, 3) := by decide +kernel
theorem dX5_addEntry_29 : decode cX5_addEntry 29 = .ok (.iload_n 1, 1) := by decide +kernel
theorem dX5_addEntry_30 : decode cX5_addEntry 30 = .ok (.iaload, 1) := by decide +kernel
theorem dX5_addEntry_31 : decode cX5_addEntry 31 = .ok (.iadd, 1) := by decide +kernel
theorem dX5_addEntry_32 : decode cX5_addEntry 32 = .ok (.iload_n 3, 1) := by decide +kernel
theorem dX5_addEntry_33 : decode cX5_addEntry 33 = .ok (.iastore, 1) := by decide +kernel
theorem dX5_addEntry_34 : decode cX5_addEntry 34 = .ok (.aload_n 0, 1) := by decide +kernel
theorem dX5_addEntry_35 : decode cX5_addEntry 35 = .ok (.getfield 38, 3) := by decide +kernel
theorem dX5_addEntry_38 : decode cX5_addEntry 38 = .ok (.iload_n 1, 1) := by decide +kernel
theorem dX5_addEntry_39 : decode cX5_addEntry 39 = .ok (.dup2, 1) := by decide +kernel
theorem dX5_addEntry_40 : decode cX5_addEntry 40 = .ok (.iaload, 1) := by decide +kernel
theorem dX5_addEntry_41 : decode cX5_addEntry 41 = .ok (.iconst 1, 1) := by decide +kernel
theorem dX5_addEntry_42 : decode cX5_addEntry 42 = .ok (.iadd, 1) := by decide +kernel
theorem dX5_addEntry_43 : decode cX5_addEntry 43 = .ok (.iastore, 1) := by decide +kernel
theorem dX5_addEntry_44 : decode cX5_addEntry 44 = .ok (.return_, 1) := by decide +kernel
theorem dX5_cutFront_0 : decode cX5_cutFront 0 = .ok (.iconst 0, 1) := by decide +kernel
theorem dX5_cutFront_1 : decode cX5_cutFront 1 = .ok (.istore_n 3, 1) := by decide +kernel
theorem dX5_cutFront_2 : decode cX5_cutFront 2 = .ok (.iload_n 3, 1) := by decide +kernel
theorem dX5_cutFront_3 : decode cX5_cutFront 3 = .ok (.iload_n 2, 1) := by decide +kernel
theorem dX5_cutFront_4 : decode cX5_cutFront 4 = .ok (.iadd, 1) := by decide +kernel
theorem dX5_cutFront_5 : decode cX5_cutFront 5 = .ok (.aload_n 0, 1) := by decide +kernel
theorem dX5_cutFront_6 : decode cX5_cutFront 6 = .ok (.getfield 38, 3) := by decide +kernel
theorem dX5_cutFront_9 : decode cX5_cutFront 9 = .ok (.iload_n 1, 1) := by decide +kernel
theorem dX5_cutFront_10 : decode cX5_cutFront 10 = .ok (.iaload, 1) := by decide +kernel
theorem dX5_cutFront_11 : decode cX5_cutFront 11 = .ok (.if_icmp .ge 57, 3) := by decide +kernel
theorem dX5_cutFront_14 : decode cX5_cutFront 14 = .ok (.aload_n 0, 1) := by decide +kernel
theorem dX5_cutFront_15 : decode cX5_cutFront 15 = .ok (.getfield 41, 3) := by decide +kernel
theorem dX5_cutFront_18 : decode cX5_cutFront 18 = .ok (.bipush 12, 2) := by decide +kernel
theorem dX5_cutFront_20 : decode cX5_cutFront 20 = .ok (.iload_n 1, 1) := by decide +kernel
theorem dX5_cutFront_21 : decode cX5_cutFront 21 = .ok (.imul, 1) := by decide +kernel
theorem dX5_cutFront_22 : decode cX5_cutFront 22 = .ok (.iload_n 3, 1) := by decide +kernel
theorem dX5_cutFront_23 : decode cX5_cutFront 23 = .ok (.iadd, 1) := by decide +kernel
theorem dX5_cutFront_24 : decode cX5_cutFront 24 = .ok (.aload_n 0, 1) := by decide +kernel
theorem dX5_cutFront_25 : decode cX5_cutFront 25 = .ok (.getfield 41, 3) := by decide +kernel
theorem dX5_cutFront_28 : decode cX5_cutFront 28 = .ok (.bipush 12, 2) := by decide +kernel
theorem dX5_cutFront_30 : decode cX5_cutFront 30 = .ok (.iload_n 1, 1) := by decide +kernel
theorem dX5_cutFront_31 : decode cX5_cutFront 31 = .ok (.imul, 1) := by decide +kernel
theorem dX5_cutFront_32 : decode cX5_cutFront 32 = .ok (.iload_n 3, 1) := by decide +kernel
theorem dX5_cutFront_33 : decode cX5_cutFront 33 = .ok (.iadd, 1) := by decide +kernel
theorem dX5_cutFront_34 : decode cX5_cutFront 34 = .ok (.iload_n 2, 1) := by decide +kernel
theorem dX5_cutFront_35 : decode cX5_cutFront 35 = .ok (.iadd, 1) := by decide +kernel
theorem dX5_cutFront_36 : decode cX5_cutFront 36 = .ok (.iaload, 1) := by decide +kernel
theorem dX5_cutFront_37 : decode cX5_cutFront 37 = .ok (.iastore, 1) := by decide +kernel
theorem dX5_cutFront_38 : decode cX5_cutFront 38 = .ok (.aload_n 0, 1) := by decide +kernel
theorem dX5_cutFront_39 : decode cX5_cutFront 39 = .ok (.getfield 44, 3) := by decide +kernel
theorem dX5_cutFront_42 : decode cX5_cutFront 42 = .ok (.bipush 12, 2) := by decide +kernel
theorem dX5_cutFront_44 : decode cX5_cutFront 44 = .ok (.iload_n 1, 1) := by decide +kernel
theorem dX5_cutFront_45 : decode cX5_cutFront 45 = .ok (.imul, 1) := by decide +kernel
theorem dX5_cutFront_46 : decode cX5_cutFront 46 = .ok (.iload_n 3, 1) := by decide +kernel
theorem dX5_cutFront_47 : decode cX5_cutFront 47 = .ok (.iadd, 1) := by decide +kernel
theorem dX5_cutFront_48 : decode cX5_cutFront 48 = .ok (.aload_n 0, 1) := by decide +kernel
theorem dX5_cutFront_49 : decode cX5_cutFront 49 = .ok (.getfield 44, 3) := by decide +kernel
theorem dX5_cutFront_52 : decode cX5_cutFront 52 = .ok (.bipush 12, 2) := by decide +kernel
theorem dX5_cutFront_54 : decode cX5_cutFront 54 = .ok (.iload_n 1, 1) := by decide +kernel
theorem dX5_cutFront_55 : decode cX5_cutFront 55 = .ok (.imul, 1) := by decide +kernel
theorem dX5_cutFront_56 : decode cX5_cutFront 56 = .ok (.iload_n 3, 1) := by decide +kernel
theorem dX5_cutFront_57 : decode cX5_cutFront 57 = .ok (.iadd, 1) := by decide +kernel
theorem dX5_cutFront_58 : decode cX5_cutFront 58 = .ok (.iload_n 2, 1) := by decide +kernel
theorem dX5_cutFront_59 : decode cX5_cutFront 59 = .ok (.iadd, 1) := by decide +kernel
theorem dX5_cutFront_60 : decode cX5_cutFront 60 = .ok (.iaload, 1) := by decide +kernel
theorem dX5_cutFront_61 : decode cX5_cutFront 61 = .ok (.iastore, 1) := by decide +kernel
theorem dX5_cutFront_62 : decode cX5_cutFront 62 = .ok (.iinc 3 1, 3) := by decide +kernel
theorem dX5_cutFront_65 : decode cX5_cutFront 65 = .ok (.goto (-63), 3) := by decide +kernel
theorem dX5_cutFront_68 : decode cX5_cutFront 68 = .ok (.aload_n 0, 1) := by decide +kernel
theorem dX5_cutFront_69 : decode cX5_cutFront 69 = .ok (.getfield 38, 3) := by decide +kernel
theorem dX5_cutFront_72 : decode cX5_cutFront 72 = .ok (.iload_n 1, 1) := by decide +kernel
theorem dX5_cutFront_73 : decode cX5_cutFront 73 = .ok (.dup2, 1) := by decide +kernel
theorem dX5_cutFront_74 : decode cX5_cutFront 74 = .ok (.iaload, 1) := by decide +kernel
theorem dX5_cutFront_75 : decode cX5_cutFront 75 = .ok (.iload_n 2, 1) := by decide +kernel
theorem dX5_cutFront_76 : decode cX5_cutFront 76 = .ok (.isub, 1) := by decide +kernel
theorem dX5_cutFront_77 : decode cX5_cutFront 77 = .ok (.iastore, 1) := by decide +kernel
theorem dX5_cutFront_78 : decode cX5_cutFront 78 = .ok (.return_, 1) := by decide +kernel
theorem dX5_freeSlot_0 : decode cX5_freeSlot 0 = .ok (.iconst (-1), 1) := by decide +kernel
theorem dX5_freeSlot_1 : decode cX5_freeSlot 1 = .ok (.istore_n 1, 1) := by decide +kernel
theorem dX5_freeSlot_2 : decode cX5_freeSlot 2 = .ok (.aload_n 0, 1) := by decide +kernel
theorem dX5_freeSlot_3 : decode cX5_freeSlot 3 = .ok (.getfield 94, 3) := by decide +kernel
theorem dX5_freeSlot_6 : decode cX5_freeSlot 6 = .ok (.iconst 1, 1) := by decide +kernel
theorem dX5_freeSlot_7 : decode cX5_freeSlot 7 = .ok (.isub, 1) := by decide +kernel
theorem dX5_freeSlot_8 : decode cX5_freeSlot 8 = .ok (.istore_n 2, 1) := by decide +kernel
theorem dX5_freeSlot_9 : decode cX5_freeSlot 9 = .ok (.iload_n 2, 1) := by decide +kernel
theorem dX5_freeSlot_10 : decode cX5_freeSlot 10 = .ok (.ifCond .lt 24, 3) := by decide +kernel
theorem dX5_freeSlot_13 : decode cX5_freeSlot 13 = .ok (.aload_n 0, 1) := by decide +kernel
theorem dX5_freeSlot_14 : decode cX5_freeSlot 14 = .ok (.getfield 53, 3) := by decide +kernel
theorem dX5_freeSlot_17 : decode cX5_freeSlot 17 = .ok (.iload_n 2, 1) := by decide +kernel
theorem dX5_freeSlot_18 : decode cX5_freeSlot 18 = .ok (.iaload, 1) := by decide +kernel
theorem dX5_freeSlot_19 : decode cX5_freeSlot 19 = .ok (.ifCond .ne 7, 3) := by decide +kernel
theorem dX5_freeSlot_22 : decode cX5_freeSlot 22 = .ok (.iload_n 2, 1) := by decide +kernel
theorem dX5_freeSlot_23 : decode cX5_freeSlot 23 = .ok (.goto 4, 3) := by decide +kernel
theorem dX5_freeSlot_26 : decode cX5_freeSlot 26 = .ok (.iload_n 1, 1) := by decide +kernel
theorem dX5_freeSlot_27 : decode cX5_freeSlot 27 = .ok (.istore_n 1, 1) := by decide +kernel
theorem dX5_freeSlot_28 : decode cX5_freeSlot 28 = .ok (.iinc 2 (-1), 3) := by decide +kernel
theorem dX5_freeSlot_31 : decode cX5_freeSlot 31 = .ok (.goto (-22), 3) := by decide +kernel
theorem dX5_freeSlot_34 : decode cX5_freeSlot 34 = .ok (.iload_n 1, 1) := by decide +kernel
theorem dX5_freeSlot_35 : decode cX5_freeSlot 35 = .ok (.ireturn, 1) := by decide +kernel
theorem dX5_waiting_0 : decode cX5_waiting 0 = .ok (.iconst 0, 1) := by decide +kernel
theorem dX5_waiting_1 : decode cX5_waiting 1 = .ok (.istore_n 1, 1) := by decide +kernel
theorem dX5_waiting_2 : decode cX5_waiting 2 = .ok (.iconst 0, 1) := by decide +kernel
theorem dX5_waiting_3 : decode cX5_waiting 3 = .ok (.istore_n 2, 1) := by decide +kernel
theorem dX5_waiting_4 : decode cX5_waiting 4 = .ok (.iload_n 2, 1) := by decide +kernel
theorem dX5_waiting_5 : decode cX5_waiting 5 = .ok (.aload_n 0, 1) := by decide +kernel
theorem dX5_waiting_6 : decode cX5_waiting 6 = .ok (.getfield 94, 3) := by decide +kernel
theorem dX5_waiting_9 : decode cX5_waiting 9 = .ok (.if_icmp .ge 26, 3) := by decide +kernel
theorem dX5_waiting_12 : decode cX5_waiting 12 = .ok (.iload_n 1, 1) := by decide +kernel
theorem dX5_waiting_13 : decode cX5_waiting 13 = .ok (.aload_n 0, 1) := by decide +kernel
theorem dX5_waiting_14 : decode cX5_waiting 14 = .ok (.getfield 53, 3) := by decide +kernel
theorem dX5_waiting_17 : decode cX5_waiting 17 = .ok (.iload_n 2, 1) := by decide +kernel
theorem dX5_waiting_18 : decode cX5_waiting 18 = .ok (.iaload, 1) := by decide +kernel
theorem dX5_waiting_19 : decode cX5_waiting 19 = .ok (.ifCond .le 7, 3) := by decide +kernel
theorem dX5_waiting_22 : decode cX5_waiting 22 = .ok (.iconst 1, 1) := by decide +kernel
theorem dX5_waiting_23 : decode cX5_waiting 23 = .ok (.goto 4, 3) := by decide +kernel
theorem dX5_waiting_26 : decode cX5_waiting 26 = .ok (.iconst 0, 1) := by decide +kernel
theorem dX5_waiting_27 : decode cX5_waiting 27 = .ok (.iadd, 1) := by decide +kernel
theorem dX5_waiting_28 : decode cX5_waiting 28 = .ok (.istore_n 1, 1) := by decide +kernel
theorem dX5_waiting_29 : decode cX5_waiting 29 = .ok (.iinc 2 1, 3) := by decide +kernel
theorem dX5_waiting_32 : decode cX5_waiting 32 = .ok (.goto (-28), 3) := by decide +kernel
theorem dX5_waiting_35 : decode cX5_waiting 35 = .ok (.iload_n 1, 1) := by decide +kernel
theorem dX5_waiting_36 : decode cX5_waiting 36 = .ok (.ireturn, 1) := by decide +kernel
theorem dX5_send_0 : decode cX5_send 0 = .ok (.aload_n 0, 1) := by decide +kernel
theorem dX5_send_1 : decode cX5_send 1 = .ok (.invokevirtual 109, 3) := by decide +kernel
theorem dX5_send_4 : decode cX5_send 4 = .ok (.istore 4, 2) := by decide +kernel
theorem dX5_send_6 : decode cX5_send 6 = .ok (.aload_n 0, 1) := by decide +kernel
theorem dX5_send_7 : decode cX5_send 7 = .ok (.getfield 53, 3) := by decide +kernel
theorem dX5_send_10 : decode cX5_send 10 = .ok (.iload 4, 2) := by decide +kernel
theorem dX5_send_12 : decode cX5_send 12 = .ok (.iload_n 1, 1) := by decide +kernel
theorem dX5_send_13 : decode cX5_send 13 = .ok (.iastore, 1) := by decide +kernel
theorem dX5_send_14 : decode cX5_send 14 = .ok (.aload_n 0, 1) := by decide +kernel
theorem dX5_send_15 : decode cX5_send 15 = .ok (.getfield 56, 3) := by decide +kernel
theorem dX5_send_18 : decode cX5_send 18 = .ok (.iload 4, 2) := by decide +kernel
theorem dX5_send_20 : decode cX5_send 20 = .ok (.iload_n 2, 1) := by decide +kernel
theorem dX5_send_21 : decode cX5_send 21 = .ok (.iastore, 1) := by decide +kernel
theorem dX5_send_22 : decode cX5_send 22 = .ok (.aload_n 0, 1) := by decide +kernel
theorem dX5_send_23 : decode cX5_send 23 = .ok (.getfield 59, 3) := by decide +kernel
theorem dX5_send_26 : decode cX5_send 26 = .ok (.iload 4, 2) := by decide +kernel
theorem dX5_send_28 : decode cX5_send 28 = .ok (.iload_n 3, 1) := by decide +kernel
theorem dX5_send_29 : decode cX5_send 29 = .ok (.iastore, 1) := by decide +kernel
theorem dX5_send_30 : decode cX5_send 30 = .ok (.aload_n 0, 1) := by decide +kernel
theorem dX5_send_31 : decode cX5_send 31 = .ok (.getfield 62, 3) := by decide +kernel
theorem dX5_send_34 : decode cX5_send 34 = .ok (.iload 4, 2) := by decide +kernel
theorem dX5_send_36 : decode cX5_send 36 = .ok (.aload_n 0, 1) := by decide +kernel
theorem dX5_send_37 : decode cX5_send 37 = .ok (.getfield 17, 3) := by decide +kernel
theorem dX5_send_40 : decode cX5_send 40 = .ok (.iload_n 2, 1) := by decide +kernel
theorem dX5_send_41 : decode cX5_send 41 = .ok (.iaload, 1) := by decide +kernel
theorem dX5_send_42 : decode cX5_send 42 = .ok (.iastore, 1) := by decide +kernel
theorem dX5_send_43 : decode cX5_send 43 = .ok (.iload 4, 2) := by decide +kernel
theorem dX5_send_45 : decode cX5_send 45 = .ok (.ireturn, 1) := by decide +kernel
theorem dX5_answer_0 : decode cX5_answer 0 = .ok (.aload_n 0, 1) := by decide +kernel
theorem dX5_answer_1 : decode cX5_answer 1 = .ok (.iload_n 1, 1) := by decide +kernel
theorem dX5_answer_2 : decode cX5_answer 2 = .ok (.iload_n 2, 1) := by decide +kernel
theorem dX5_answer_3 : decode cX5_answer 3 = .ok (.iload_n 3, 1) := by decide +kernel
theorem dX5_answer_4 : decode cX5_answer 4 = .ok (.invokevirtual 113, 3) := by decide +kernel
theorem dX5_answer_7 : decode cX5_answer 7 = .ok (.istore 6, 2) := by decide +kernel
theorem dX5_answer_9 : decode cX5_answer 9 = .ok (.aload_n 0, 1) := by decide +kernel
theorem dX5_answer_10 : decode cX5_answer 10 = .ok (.getfield 71, 3) := by decide +kernel
theorem dX5_answer_13 : decode cX5_answer 13 = .ok (.iload 6, 2) := by decide +kernel
theorem dX5_answer_15 : decode cX5_answer 15 = .ok (.iload 4, 2) := by decide +kernel
theorem dX5_answer_17 : decode cX5_answer 17 = .ok (.bastore, 1) := by decide +kernel
theorem dX5_answer_18 : decode cX5_answer 18 = .ok (.aload_n 0, 1) := by decide +kernel
theorem dX5_answer_19 : decode cX5_answer 19 = .ok (.getfield 65, 3) := by decide +kernel
theorem dX5_answer_22 : decode cX5_answer 22 = .ok (.iload 6, 2) := by decide +kernel
theorem dX5_answer_24 : decode cX5_answer 24 = .ok (.iload 5, 2) := by decide +kernel
theorem dX5_answer_26 : decode cX5_answer 26 = .ok (.iastore, 1) := by decide +kernel
theorem dX5_answer_27 : decode cX5_answer 27 = .ok (.return_, 1) := by decide +kernel
theorem dX5_timeout_0 : decode cX5_timeout 0 = .ok (.aload_n 0, 1) := by decide +kernel
theorem dX5_timeout_1 : decode cX5_timeout 1 = .ok (.iload_n 1, 1) := by decide +kernel
theorem dX5_timeout_2 : decode cX5_timeout 2 = .ok (.invokevirtual 116, 3) := by decide +kernel
theorem dX5_timeout_5 : decode cX5_timeout 5 = .ok (.ifCond .ne 5, 3) := by decide +kernel
theorem dX5_timeout_8 : decode cX5_timeout 8 = .ok (.iconst (-1), 1) := by decide +kernel
theorem dX5_timeout_9 : decode cX5_timeout 9 = .ok (.ireturn, 1) := by decide +kernel
theorem dX5_timeout_10 : decode cX5_timeout 10 = .ok (.aload_n 0, 1) := by decide +kernel
theorem dX5_timeout_11 : decode cX5_timeout 11 = .ok (.getfield 7, 3) := by decide +kernel
theorem dX5_timeout_14 : decode cX5_timeout 14 = .ok (.iload_n 1, 1) := by decide +kernel
theorem dX5_timeout_15 : decode cX5_timeout 15 = .ok (.baload, 1) := by decide +kernel
theorem dX5_timeout_16 : decode cX5_timeout 16 = .ok (.ifCond .ne 6, 3) := by decide +kernel
theorem dX5_timeout_19 : decode cX5_timeout 19 = .ok (.bipush (-2), 2) := by decide +kernel
theorem dX5_timeout_21 : decode cX5_timeout 21 = .ok (.ireturn, 1) := by decide +kernel
theorem dX5_timeout_22 : decode cX5_timeout 22 = .ok (.aload_n 0, 1) := by decide +kernel
theorem dX5_timeout_23 : decode cX5_timeout 23 = .ok (.getfield 13, 3) := by decide +kernel
theorem dX5_timeout_26 : decode cX5_timeout 26 = .ok (.iload_n 1, 1) := by decide +kernel
theorem dX5_timeout_27 : decode cX5_timeout 27 = .ok (.iaload, 1) := by decide +kernel
theorem dX5_timeout_28 : decode cX5_timeout 28 = .ok (.iconst 2, 1) := by decide +kernel
theorem dX5_timeout_29 : decode cX5_timeout 29 = .ok (.if_icmp .ne 6, 3) := by decide +kernel
theorem dX5_timeout_32 : decode cX5_timeout 32 = .ok (.bipush (-3), 2) := by decide +kernel
theorem dX5_timeout_34 : decode cX5_timeout 34 = .ok (.ireturn, 1) := by decide +kernel
theorem dX5_timeout_35 : decode cX5_timeout 35 = .ok (.aload_n 0, 1) := by decide +kernel
theorem dX5_timeout_36 : decode cX5_timeout 36 = .ok (.getfield 94, 3) := by decide +kernel
theorem dX5_timeout_39 : decode cX5_timeout 39 = .ok (.aload_n 0, 1) := by decide +kernel
theorem dX5_timeout_40 : decode cX5_timeout 40 = .ok (.invokevirtual 120, 3) := by decide +kernel
theorem dX5_timeout_43 : decode cX5_timeout 43 = .ok (.isub, 1) := by decide +kernel
theorem dX5_timeout_44 : decode cX5_timeout 44 = .ok (.aload_n 0, 1) := by decide +kernel
theorem dX5_timeout_45 : decode cX5_timeout 45 = .ok (.getfield 87, 3) := by decide +kernel
theorem dX5_timeout_48 : decode cX5_timeout 48 = .ok (.iconst 1, 1) := by decide +kernel
theorem dX5_timeout_49 : decode cX5_timeout 49 = .ok (.isub, 1) := by decide +kernel
theorem dX5_timeout_50 : decode cX5_timeout 50 = .ok (.if_icmp .ge 6, 3) := by decide +kernel
theorem dX5_timeout_53 : decode cX5_timeout 53 = .ok (.bipush (-4), 2) := by decide +kernel
theorem dX5_timeout_55 : decode cX5_timeout 55 = .ok (.ireturn, 1) := by decide +kernel
theorem dX5_timeout_56 : decode cX5_timeout 56 = .ok (.aload_n 0, 1) := by decide +kernel
theorem dX5_timeout_57 : decode cX5_timeout 57 = .ok (.getfield 13, 3) := by decide +kernel
theorem dX5_timeout_60 : decode cX5_timeout 60 = .ok (.iload_n 1, 1) := by decide +kernel
theorem dX5_timeout_61 : decode cX5_timeout 61 = .ok (.iconst 1, 1) := by decide +kernel
theorem dX5_timeout_62 : decode cX5_timeout 62 = .ok (.iastore, 1) := by decide +kernel
theorem dX5_timeout_63 : decode cX5_timeout 63 = .ok (.aload_n 0, 1) := by decide +kernel
theorem dX5_timeout_64 : decode cX5_timeout 64 = .ok (.getfield 17, 3) := by decide +kernel
theorem dX5_timeout_67 : decode cX5_timeout 67 = .ok (.iload_n 1, 1) := by decide +kernel
theorem dX5_timeout_68 : decode cX5_timeout 68 = .ok (.dup2, 1) := by decide +kernel
theorem dX5_timeout_69 : decode cX5_timeout 69 = .ok (.iaload, 1) := by decide +kernel
theorem dX5_timeout_70 : decode cX5_timeout 70 = .ok (.iconst 1, 1) := by decide +kernel
theorem dX5_timeout_71 : decode cX5_timeout 71 = .ok (.iadd, 1) := by decide +kernel
theorem dX5_timeout_72 : decode cX5_timeout 72 = .ok (.iastore, 1) := by decide +kernel
theorem dX5_timeout_73 : decode cX5_timeout 73 = .ok (.aload_n 0, 1) := by decide +kernel
theorem dX5_timeout_74 : decode cX5_timeout 74 = .ok (.getfield 20, 3) := by decide +kernel
theorem dX5_timeout_77 : decode cX5_timeout 77 = .ok (.iload_n 1, 1) := by decide +kernel
theorem dX5_timeout_78 : decode cX5_timeout 78 = .ok (.iload_n 1, 1) := by decide +kernel
theorem dX5_timeout_79 : decode cX5_timeout 79 = .ok (.iastore, 1) := by decide +kernel
theorem dX5_timeout_80 : decode cX5_timeout 80 = .ok (.aload_n 0, 1) := by decide +kernel
theorem dX5_timeout_81 : decode cX5_timeout 81 = .ok (.getfield 35, 3) := by decide +kernel
theorem dX5_timeout_84 : decode cX5_timeout 84 = .ok (.iload_n 1, 1) := by decide +kernel
theorem dX5_timeout_85 : decode cX5_timeout 85 = .ok (.iconst 1, 1) := by decide +kernel
theorem dX5_timeout_86 : decode cX5_timeout 86 = .ok (.iload_n 1, 1) := by decide +kernel
theorem dX5_timeout_87 : decode cX5_timeout 87 = .ok (.ishl, 1) := by decide +kernel
theorem dX5_timeout_88 : decode cX5_timeout 88 = .ok (.iastore, 1) := by decide +kernel
theorem dX5_timeout_89 : decode cX5_timeout 89 = .ok (.iconst 0, 1) := by decide +kernel
theorem dX5_timeout_90 : decode cX5_timeout 90 = .ok (.istore_n 2, 1) := by decide +kernel
theorem dX5_timeout_91 : decode cX5_timeout 91 = .ok (.iload_n 2, 1) := by decide +kernel
theorem dX5_timeout_92 : decode cX5_timeout 92 = .ok (.aload_n 0, 1) := by decide +kernel
theorem dX5_timeout_93 : decode cX5_timeout 93 = .ok (.getfield 87, 3) := by decide +kernel
theorem dX5_timeout_96 : decode cX5_timeout 96 = .ok (.if_icmp .ge 49, 3) := by decide +kernel
theorem dX5_timeout_99 : decode cX5_timeout 99 = .ok (.iload_n 2, 1) := by decide +kernel
theorem dX5_timeout_100 : decode cX5_timeout 100 = .ok (.iload_n 1, 1) := by decide +kernel
theorem dX5_timeout_101 : decode cX5_timeout 101 = .ok (.if_icmp .eq 38, 3) := by decide +kernel
theorem dX5_timeout_104 : decode cX5_timeout 104 = .ok (.aload_n 0, 1) := by decide +kernel
theorem dX5_timeout_105 : decode cX5_timeout 105 = .ok (.iconst 1, 1) := by decide +kernel
theorem dX5_timeout_106 : decode cX5_timeout 106 = .ok (.iload_n 1, 1) := by decide +kernel
theorem dX5_timeout_107 : decode cX5_timeout 107 = .ok (.iload_n 2, 1) := by decide +kernel
theorem dX5_timeout_108 : decode cX5_timeout 108 = .ok (.invokevirtual 113, 3) := by decide +kernel
theorem dX5_timeout_111 : decode cX5_timeout 111 = .ok (.istore_n 3, 1) := by decide +kernel
theorem dX5_timeout_112 : decode cX5_timeout 112 = .ok (.aload_n 0, 1) := by decide +kernel
theorem dX5_timeout_113 : decode cX5_timeout 113 = .ok (.getfield 65, 3) := by decide +kernel
theorem dX5_timeout_116 : decode cX5_timeout 116 = .ok (.iload_n 3, 1) := by decide +kernel
theorem dX5_timeout_117 : decode cX5_timeout 117 = .ok (.aload_n 0, 1) := by decide +kernel
theorem dX5_timeout_118 : decode cX5_timeout 118 = .ok (.iload_n 1, 1) := by decide +kernel
theorem dX5_timeout_119 : decode cX5_timeout 119 = .ok (.invokevirtual 97, 3) := by decide +kernel
theorem dX5_timeout_122 : decode cX5_timeout 122 = .ok (.iastore, 1) := by decide +kernel
theorem dX5_timeout_123 : decode cX5_timeout 123 = .ok (.aload_n 0, 1) := by decide +kernel
theorem dX5_timeout_124 : decode cX5_timeout 124 = .ok (.getfield 68, 3) := by decide +kernel
theorem dX5_timeout_127 : decode cX5_timeout 127 = .ok (.iload_n 3, 1) := by decide +kernel
theorem dX5_timeout_128 : decode cX5_timeout 128 = .ok (.aload_n 0, 1) := by decide +kernel
theorem dX5_timeout_129 : decode cX5_timeout 129 = .ok (.iload_n 1, 1) := by decide +kernel
theorem dX5_timeout_130 : decode cX5_timeout 130 = .ok (.aload_n 0, 1) := by decide +kernel
theorem dX5_timeout_131 : decode cX5_timeout 131 = .ok (.iload_n 1, 1) := by decide +kernel
theorem dX5_timeout_132 : decode cX5_timeout 132 = .ok (.invokevirtual 97, 3) := by decide +kernel
theorem dX5_timeout_135 : decode cX5_timeout 135 = .ok (.invokevirtual 123, 3) := by decide +kernel
theorem dX5_timeout_138 : decode cX5_timeout 138 = .ok (.iastore, 1) := by decide +kernel
theorem dX5_timeout_139 : decode cX5_timeout 139 = .ok (.iinc 2 1, 3) := by decide +kernel
theorem dX5_timeout_142 : decode cX5_timeout 142 = .ok (.goto (-51), 3) := by decide +kernel
theorem dX5_timeout_145 : decode cX5_timeout 145 = .ok (.iconst 0, 1) := by decide +kernel
theorem dX5_timeout_146 : decode cX5_timeout 146 = .ok (.ireturn, 1) := by decide +kernel
theorem dX5_heartbeat_0 : decode cX5_heartbeat 0 = .ok (.aload_n 0, 1) := by decide +kernel
theorem dX5_heartbeat_1 : decode cX5_heartbeat 1 = .ok (.iload_n 1, 1) := by decide +kernel
theorem dX5_heartbeat_2 : decode cX5_heartbeat 2 = .ok (.invokevirtual 116, 3) := by decide +kernel
theorem dX5_heartbeat_5 : decode cX5_heartbeat 5 = .ok (.ifCond .eq 16, 3) := by decide +kernel
theorem dX5_heartbeat_8 : decode cX5_heartbeat 8 = .ok (.aload_n 0, 1) := by decide +kernel
theorem dX5_heartbeat_9 : decode cX5_heartbeat 9 = .ok (.iload_n 2, 1) := by decide +kernel
theorem dX5_heartbeat_10 : decode cX5_heartbeat 10 = .ok (.invokevirtual 116, 3) := by decide +kernel
theorem dX5_heartbeat_13 : decode cX5_heartbeat 13 = .ok (.ifCond .eq 8, 3) := by decide +kernel
theorem dX5_heartbeat_16 : decode cX5_heartbeat 16 = .ok (.iload_n 1, 1) := by decide +kernel
theorem dX5_heartbeat_17 : decode cX5_heartbeat 17 = .ok (.iload_n 2, 1) := by decide +kernel
theorem dX5_heartbeat_18 : decode cX5_heartbeat 18 = .ok (.if_icmp .ne 5, 3) := by decide +kernel
theorem dX5_heartbeat_21 : decode cX5_heartbeat 21 = .ok (.iconst (-1), 1) := by decide +kernel
theorem dX5_heartbeat_22 : decode cX5_heartbeat 22 = .ok (.ireturn, 1) := by decide +kernel
theorem dX5_heartbeat_23 : decode cX5_heartbeat 23 = .ok (.aload_n 0, 1) := by decide +kernel
theorem dX5_heartbeat_24 : decode cX5_heartbeat 24 = .ok (.getfield 7, 3) := by decide +kernel
theorem dX5_heartbeat_27 : decode cX5_heartbeat 27 = .ok (.iload_n 1, 1) := by decide +kernel
theorem dX5_heartbeat_28 : decode cX5_heartbeat 28 = .ok (.baload, 1) := by decide +kernel
theorem dX5_heartbeat_29 : decode cX5_heartbeat 29 = .ok (.ifCond .ne 6, 3) := by decide +kernel
theorem dX5_heartbeat_32 : decode cX5_heartbeat 32 = .ok (.bipush (-2), 2) := by decide +kernel
theorem dX5_heartbeat_34 : decode cX5_heartbeat 34 = .ok (.ireturn, 1) := by decide +kernel
theorem dX5_heartbeat_35 : decode cX5_heartbeat 35 = .ok (.aload_n 0, 1) := by decide +kernel
theorem dX5_heartbeat_36 : decode cX5_heartbeat 36 = .ok (.getfield 13, 3) := by decide +kernel
theorem dX5_heartbeat_39 : decode cX5_heartbeat 39 = .ok (.iload_n 1, 1) := by decide +kernel
theorem dX5_heartbeat_40 : decode cX5_heartbeat 40 = .ok (.iaload, 1) := by decide +kernel
theorem dX5_heartbeat_41 : decode cX5_heartbeat 41 = .ok (.iconst 2, 1) := by decide +kernel
theorem dX5_heartbeat_42 : decode cX5_heartbeat 42 = .ok (.if_icmp .eq 6, 3) := by decide +kernel
theorem dX5_heartbeat_45 : decode cX5_heartbeat 45 = .ok (.bipush (-3), 2) := by decide +kernel
theorem dX5_heartbeat_47 : decode cX5_heartbeat 47 = .ok (.ireturn, 1) := by decide +kernel
theorem dX5_heartbeat_48 : decode cX5_heartbeat 48 = .ok (.aload_n 0, 1) := by decide +kernel
theorem dX5_heartbeat_49 : decode cX5_heartbeat 49 = .ok (.invokevirtual 109, 3) := by decide +kernel
theorem dX5_heartbeat_52 : decode cX5_heartbeat 52 = .ok (.ifCond .ge 6, 3) := by decide +kernel
theorem dX5_heartbeat_55 : decode cX5_heartbeat 55 = .ok (.bipush (-4), 2) := by decide +kernel
theorem dX5_heartbeat_57 : decode cX5_heartbeat 57 = .ok (.ireturn, 1) := by decide +kernel
theorem dX5_heartbeat_58 : decode cX5_heartbeat 58 = .ok (.aload_n 0, 1) := by decide +kernel
theorem dX5_heartbeat_59 : decode cX5_heartbeat 59 = .ok (.getfield 47, 3) := by decide +kernel
theorem dX5_heartbeat_62 : decode cX5_heartbeat 62 = .ok (.iconst 5, 1) := by decide +kernel
theorem dX5_heartbeat_63 : decode cX5_heartbeat 63 = .ok (.iload_n 1, 1) := by decide +kernel
theorem dX5_heartbeat_64 : decode cX5_heartbeat 64 = .ok (.imul, 1) := by decide +kernel
theorem dX5_heartbeat_65 : decode cX5_heartbeat 65 = .ok (.iload_n 2, 1) := by decide +kernel
theorem dX5_heartbeat_66 : decode cX5_heartbeat 66 = .ok (.iadd, 1) := by decide +kernel
theorem dX5_heartbeat_67 : decode cX5_heartbeat 67 = .ok (.iaload, 1) := by decide +kernel
theorem dX5_heartbeat_68 : decode cX5_heartbeat 68 = .ok (.istore_n 3, 1) := by decide +kernel
theorem dX5_heartbeat_69 : decode cX5_heartbeat 69 = .ok (.iload_n 3, 1) := by decide +kernel
theorem dX5_heartbeat_70 : decode cX5_heartbeat 70 = .ok (.aload_n 0, 1) := by decide +kernel
theorem dX5_heartbeat_71 : decode cX5_heartbeat 71 = .ok (.getfield 23, 3) := by decide +kernel
theorem dX5_heartbeat_74 : decode cX5_heartbeat 74 = .ok (.iload_n 1, 1) := by decide +kernel
theorem dX5_heartbeat_75 : decode cX5_heartbeat 75 = .ok (.iaload, 1) := by decide +kernel
theorem dX5_heartbeat_76 : decode cX5_heartbeat 76 = .ok (.if_icmp .gt 53, 3) := by decide +kernel
theorem dX5_heartbeat_79 : decode cX5_heartbeat 79 = .ok (.aload_n 0, 1) := by decide +kernel
theorem dX5_heartbeat_80 : decode cX5_heartbeat 80 = .ok (.iconst 5, 1) := by decide +kernel
theorem dX5_heartbeat_81 : decode cX5_heartbeat 81 = .ok (.iload_n 1, 1) := by decide +kernel
theorem dX5_heartbeat_82 : decode cX5_heartbeat 82 = .ok (.iload_n 2, 1) := by decide +kernel
theorem dX5_heartbeat_83 : decode cX5_heartbeat 83 = .ok (.invokevirtual 113, 3) := by decide +kernel
theorem dX5_heartbeat_86 : decode cX5_heartbeat 86 = .ok (.istore 4, 2) := by decide +kernel
theorem dX5_heartbeat_88 : decode cX5_heartbeat 88 = .ok (.aload_n 0, 1) := by decide +kernel
theorem dX5_heartbeat_89 : decode cX5_heartbeat 89 = .ok (.getfield 65, 3) := by decide +kernel
theorem dX5_heartbeat_92 : decode cX5_heartbeat 92 = .ok (.iload 4, 2) := by decide +kernel
theorem dX5_heartbeat_94 : decode cX5_heartbeat 94 = .ok (.aload_n 0, 1) := by decide +kernel
theorem dX5_heartbeat_95 : decode cX5_heartbeat 95 = .ok (.getfield 23, 3) := by decide +kernel
theorem dX5_heartbeat_98 : decode cX5_heartbeat 98 = .ok (.iload_n 1, 1) := by decide +kernel
theorem dX5_heartbeat_99 : decode cX5_heartbeat 99 = .ok (.iaload, 1) := by decide +kernel
theorem dX5_heartbeat_100 : decode cX5_heartbeat 100 = .ok (.iastore, 1) := by decide +kernel
theorem dX5_heartbeat_101 : decode cX5_heartbeat 101 = .ok (.aload_n 0, 1) := by decide +kernel
theorem dX5_heartbeat_102 : decode cX5_heartbeat 102 = .ok (.getfield 68, 3) := by decide +kernel
theorem dX5_heartbeat_105 : decode cX5_heartbeat 105 = .ok (.iload 4, 2) := by decide +kernel
theorem dX5_heartbeat_107 : decode cX5_heartbeat 107 = .ok (.aload_n 0, 1) := by decide +kernel
theorem dX5_heartbeat_108 : decode cX5_heartbeat 108 = .ok (.getfield 26, 3) := by decide +kernel
theorem dX5_heartbeat_111 : decode cX5_heartbeat 111 = .ok (.iload_n 1, 1) := by decide +kernel
theorem dX5_heartbeat_112 : decode cX5_heartbeat 112 = .ok (.iaload, 1) := by decide +kernel
theorem dX5_heartbeat_113 : decode cX5_heartbeat 113 = .ok (.iastore, 1) := by decide +kernel
theorem dX5_heartbeat_114 : decode cX5_heartbeat 114 = .ok (.aload_n 0, 1) := by decide +kernel
theorem dX5_heartbeat_115 : decode cX5_heartbeat 115 = .ok (.getfield 77, 3) := by decide +kernel
theorem dX5_heartbeat_118 : decode cX5_heartbeat 118 = .ok (.iload 4, 2) := by decide +kernel
theorem dX5_heartbeat_120 : decode cX5_heartbeat 120 = .ok (.aload_n 0, 1) := by decide +kernel
theorem dX5_heartbeat_121 : decode cX5_heartbeat 121 = .ok (.getfield 29, 3) := by decide +kernel
theorem dX5_heartbeat_124 : decode cX5_heartbeat 124 = .ok (.iload_n 1, 1) := by decide +kernel
theorem dX5_heartbeat_125 : decode cX5_heartbeat 125 = .ok (.iaload, 1) := by decide +kernel
theorem dX5_heartbeat_126 : decode cX5_heartbeat 126 = .ok (.iastore, 1) := by decide +kernel
theorem dX5_heartbeat_127 : decode cX5_heartbeat 127 = .ok (.iconst 5, 1) := by decide +kernel
theorem dX5_heartbeat_128 : decode cX5_heartbeat 128 = .ok (.ireturn, 1) := by decide +kernel
theorem dX5_heartbeat_129 : decode cX5_heartbeat 129 = .ok (.aload_n 0, 1) := by decide +kernel
theorem dX5_heartbeat_130 : decode cX5_heartbeat 130 = .ok (.iconst 3, 1) := by decide +kernel
theorem dX5_heartbeat_131 : decode cX5_heartbeat 131 = .ok (.iload_n 1, 1) := by decide +kernel
theorem dX5_heartbeat_132 : decode cX5_heartbeat 132 = .ok (.iload_n 2, 1) := by decide +kernel
theorem dX5_heartbeat_133 : decode cX5_heartbeat 133 = .ok (.invokevirtual 113, 3) := by decide +kernel
theorem dX5_heartbeat_136 : decode cX5_heartbeat 136 = .ok (.istore 4, 2) := by decide +kernel
theorem dX5_heartbeat_138 : decode cX5_heartbeat 138 = .ok (.aload_n 0, 1) := by decide +kernel
theorem dX5_heartbeat_139 : decode cX5_heartbeat 139 = .ok (.getfield 65, 3) := by decide +kernel
theorem dX5_heartbeat_142 : decode cX5_heartbeat 142 = .ok (.iload 4, 2) := by decide +kernel
theorem dX5_heartbeat_144 : decode cX5_heartbeat 144 = .ok (.iload_n 3, 1) := by decide +kernel
theorem dX5_heartbeat_145 : decode cX5_heartbeat 145 = .ok (.iconst 1, 1) := by decide +kernel
theorem dX5_heartbeat_146 : decode cX5_heartbeat 146 = .ok (.isub, 1) := by decide +kernel
theorem dX5_heartbeat_147 : decode cX5_heartbeat 147 = .ok (.iastore, 1) := by decide +kernel
theorem dX5_heartbeat_148 : decode cX5_heartbeat 148 = .ok (.aload_n 0, 1) := by decide +kernel
theorem dX5_heartbeat_149 : decode cX5_heartbeat 149 = .ok (.getfield 68, 3) := by decide +kernel
theorem dX5_heartbeat_152 : decode cX5_heartbeat 152 = .ok (.iload 4, 2) := by decide +kernel
theorem dX5_heartbeat_154 : decode cX5_heartbeat 154 = .ok (.aload_n 0, 1) := by decide +kernel
theorem dX5_heartbeat_155 : decode cX5_heartbeat 155 = .ok (.iload_n 1, 1) := by decide +kernel
theorem dX5_heartbeat_156 : decode cX5_heartbeat 156 = .ok (.iload_n 3, 1) := by decide +kernel
theorem dX5_heartbeat_157 : decode cX5_heartbeat 157 = .ok (.iconst 1, 1) := by decide +kernel
theorem dX5_heartbeat_158 : decode cX5_heartbeat 158 = .ok (.isub, 1) := by decide +kernel
theorem dX5_heartbeat_159 : decode cX5_heartbeat 159 = .ok (.invokevirtual 123, 3) := by decide +kernel
theorem dX5_heartbeat_162 : decode cX5_heartbeat 162 = .ok (.iastore, 1) := by decide +kernel
theorem dX5_heartbeat_163 : decode cX5_heartbeat 163 = .ok (.aload_n 0, 1) := by decide +kernel
theorem dX5_heartbeat_164 : decode cX5_heartbeat 164 = .ok (.getfield 80, 3) := by decide +kernel
theorem dX5_heartbeat_167 : decode cX5_heartbeat 167 = .ok (.iload 4, 2) := by decide +kernel
theorem dX5_heartbeat_169 : decode cX5_heartbeat 169 = .ok (.aload_n 0, 1) := by decide +kernel
theorem dX5_heartbeat_170 : decode cX5_heartbeat 170 = .ok (.getfield 32, 3) := by decide +kernel
theorem dX5_heartbeat_173 : decode cX5_heartbeat 173 = .ok (.iload_n 1, 1) := by decide +kernel
theorem dX5_heartbeat_174 : decode cX5_heartbeat 174 = .ok (.iaload, 1) := by decide +kernel
theorem dX5_heartbeat_175 : decode cX5_heartbeat 175 = .ok (.iastore, 1) := by decide +kernel
theorem dX5_heartbeat_176 : decode cX5_heartbeat 176 = .ok (.aload_n 0, 1) := by decide +kernel
theorem dX5_heartbeat_177 : decode cX5_heartbeat 177 = .ok (.getfield 71, 3) := by decide +kernel
theorem dX5_heartbeat_180 : decode cX5_heartbeat 180 = .ok (.iload 4, 2) := by decide +kernel
theorem dX5_heartbeat_182 : decode cX5_heartbeat 182 = .ok (.aload_n 0, 1) := by decide +kernel
theorem dX5_heartbeat_183 : decode cX5_heartbeat 183 = .ok (.iload_n 1, 1) := by decide +kernel
theorem dX5_heartbeat_184 : decode cX5_heartbeat 184 = .ok (.iload_n 3, 1) := by decide +kernel
theorem dX5_heartbeat_185 : decode cX5_heartbeat 185 = .ok (.invokevirtual 101, 3) := by decide +kernel
theorem dX5_heartbeat_188 : decode cX5_heartbeat 188 = .ok (.bastore, 1) := by decide +kernel
theorem dX5_heartbeat_189 : decode cX5_heartbeat 189 = .ok (.aload_n 0, 1) := by decide +kernel
theorem dX5_heartbeat_190 : decode cX5_heartbeat 190 = .ok (.getfield 74, 3) := by decide +kernel
theorem dX5_heartbeat_193 : decode cX5_heartbeat 193 = .ok (.iload 4, 2) := by decide +kernel
theorem dX5_heartbeat_195 : decode cX5_heartbeat 195 = .ok (.aload_n 0, 1) := by decide +kernel
theorem dX5_heartbeat_196 : decode cX5_heartbeat 196 = .ok (.getfield 71, 3) := by decide +kernel
theorem dX5_heartbeat_199 : decode cX5_heartbeat 199 = .ok (.iload 4, 2) := by decide +kernel
theorem dX5_heartbeat_201 : decode cX5_heartbeat 201 = .ok (.baload, 1) := by decide +kernel
theorem dX5_heartbeat_202 : decode cX5_heartbeat 202 = .ok (.ifCond .eq 17, 3) := by decide +kernel
theorem dX5_heartbeat_205 : decode cX5_heartbeat 205 = .ok (.aload_n 0, 1) := by decide +kernel
theorem dX5_heartbeat_206 : decode cX5_heartbeat 206 = .ok (.getfield 41, 3) := by decide +kernel
theorem dX5_heartbeat_209 : decode cX5_heartbeat 209 = .ok (.aload_n 0, 1) := by decide +kernel
theorem dX5_heartbeat_210 : decode cX5_heartbeat 210 = .ok (.iload_n 1, 1) := by decide +kernel
theorem dX5_heartbeat_211 : decode cX5_heartbeat 211 = .ok (.iload_n 3, 1) := by decide +kernel
theorem dX5_heartbeat_212 : decode cX5_heartbeat 212 = .ok (.invokevirtual 105, 3) := by decide +kernel
theorem dX5_heartbeat_215 : decode cX5_heartbeat 215 = .ok (.iaload, 1) := by decide +kernel
theorem dX5_heartbeat_216 : decode cX5_heartbeat 216 = .ok (.goto 4, 3) := by decide +kernel
theorem dX5_heartbeat_219 : decode cX5_heartbeat 219 = .ok (.iconst 0, 1) := by decide +kernel
theorem dX5_heartbeat_220 : decode cX5_heartbeat 220 = .ok (.iastore, 1) := by decide +kernel
theorem dX5_heartbeat_221 : decode cX5_heartbeat 221 = .ok (.aload_n 0, 1) := by decide +kernel
theorem dX5_heartbeat_222 : decode cX5_heartbeat 222 = .ok (.getfield 77, 3) := by decide +kernel
theorem dX5_heartbeat_225 : decode cX5_heartbeat 225 = .ok (.iload 4, 2) := by decide +kernel
theorem dX5_heartbeat_227 : decode cX5_heartbeat 227 = .ok (.aload_n 0, 1) := by decide +kernel
theorem dX5_heartbeat_228 : decode cX5_heartbeat 228 = .ok (.getfield 71, 3) := by decide +kernel
theorem dX5_heartbeat_231 : decode cX5_heartbeat 231 = .ok (.iload 4, 2) := by decide +kernel
theorem dX5_heartbeat_233 : decode cX5_heartbeat 233 = .ok (.baload, 1) := by decide +kernel
theorem dX5_heartbeat_234 : decode cX5_heartbeat 234 = .ok (.ifCond .eq 17, 3) := by decide +kernel
theorem dX5_heartbeat_237 : decode cX5_heartbeat 237 = .ok (.aload_n 0, 1) := by decide +kernel
theorem dX5_heartbeat_238 : decode cX5_heartbeat 238 = .ok (.getfield 44, 3) := by decide +kernel
theorem dX5_heartbeat_241 : decode cX5_heartbeat 241 = .ok (.aload_n 0, 1) := by decide +kernel
theorem dX5_heartbeat_242 : decode cX5_heartbeat 242 = .ok (.iload_n 1, 1) := by decide +kernel
theorem dX5_heartbeat_243 : decode cX5_heartbeat 243 = .ok (.iload_n 3, 1) := by decide +kernel
theorem dX5_heartbeat_244 : decode cX5_heartbeat 244 = .ok (.invokevirtual 105, 3) := by decide +kernel
theorem dX5_heartbeat_247 : decode cX5_heartbeat 247 = .ok (.iaload, 1) := by decide +kernel
theorem dX5_heartbeat_248 : decode cX5_heartbeat 248 = .ok (.goto 4, 3) := by decide +kernel
theorem dX5_heartbeat_251 : decode cX5_heartbeat 251 = .ok (.iconst 0, 1) := by decide +kernel
theorem dX5_heartbeat_252 : decode cX5_heartbeat 252 = .ok (.iastore, 1) := by decide +kernel
theorem dX5_heartbeat_253 : decode cX5_heartbeat 253 = .ok (.iconst 3, 1) := by decide +kernel
theorem dX5_heartbeat_254 : decode cX5_heartbeat 254 = .ok (.ireturn, 1) := by decide +kernel
theorem dX5_propose_0 : decode cX5_propose 0 = .ok (.aload_n 0, 1) := by decide +kernel
theorem dX5_propose_1 : decode cX5_propose 1 = .ok (.iload_n 1, 1) := by decide +kernel
theorem dX5_propose_2 : decode cX5_propose 2 = .ok (.invokevirtual 116, 3) := by decide +kernel
theorem dX5_propose_5 : decode cX5_propose 5 = .ok (.ifCond .ne 5, 3) := by decide +kernel
theorem dX5_propose_8 : decode cX5_propose 8 = .ok (.iconst (-1), 1) := by decide +kernel
theorem dX5_propose_9 : decode cX5_propose 9 = .ok (.ireturn, 1) := by decide +kernel
theorem dX5_propose_10 : decode cX5_propose 10 = .ok (.aload_n 0, 1) := by decide +kernel
theorem dX5_propose_11 : decode cX5_propose 11 = .ok (.getfield 7, 3) := by decide +kernel
theorem dX5_propose_14 : decode cX5_propose 14 = .ok (.iload_n 1, 1) := by decide +kernel
theorem dX5_propose_15 : decode cX5_propose 15 = .ok (.baload, 1) := by decide +kernel
theorem dX5_propose_16 : decode cX5_propose 16 = .ok (.ifCond .ne 6, 3) := by decide +kernel
theorem dX5_propose_19 : decode cX5_propose 19 = .ok (.bipush (-2), 2) := by decide +kernel
theorem dX5_propose_21 : decode cX5_propose 21 = .ok (.ireturn, 1) := by decide +kernel
theorem dX5_propose_22 : decode cX5_propose 22 = .ok (.aload_n 0, 1) := by decide +kernel
theorem dX5_propose_23 : decode cX5_propose 23 = .ok (.getfield 13, 3) := by decide +kernel
theorem dX5_propose_26 : decode cX5_propose 26 = .ok (.iload_n 1, 1) := by decide +kernel
theorem dX5_propose_27 : decode cX5_propose 27 = .ok (.iaload, 1) := by decide +kernel
theorem dX5_propose_28 : decode cX5_propose 28 = .ok (.iconst 2, 1) := by decide +kernel
theorem dX5_propose_29 : decode cX5_propose 29 = .ok (.if_icmp .eq 6, 3) := by decide +kernel
theorem dX5_propose_32 : decode cX5_propose 32 = .ok (.bipush (-3), 2) := by decide +kernel
theorem dX5_propose_34 : decode cX5_propose 34 = .ok (.ireturn, 1) := by decide +kernel
theorem dX5_propose_35 : decode cX5_propose 35 = .ok (.aload_n 0, 1) := by decide +kernel
theorem dX5_propose_36 : decode cX5_propose 36 = .ok (.getfield 38, 3) := by decide +kernel
theorem dX5_propose_39 : decode cX5_propose 39 = .ok (.iload_n 1, 1) := by decide +kernel
theorem dX5_propose_40 : decode cX5_propose 40 = .ok (.iaload, 1) := by decide +kernel
theorem dX5_propose_41 : decode cX5_propose 41 = .ok (.aload_n 0, 1) := by decide +kernel
theorem dX5_propose_42 : decode cX5_propose 42 = .ok (.getfield 91, 3) := by decide +kernel
theorem dX5_propose_45 : decode cX5_propose 45 = .ok (.if_icmp .ne 6, 3) := by decide +kernel
theorem dX5_propose_48 : decode cX5_propose 48 = .ok (.bipush (-4), 2) := by decide +kernel
theorem dX5_propose_50 : decode cX5_propose 50 = .ok (.ireturn, 1) := by decide +kernel
theorem dX5_propose_51 : decode cX5_propose 51 = .ok (.aload_n 0, 1) := by decide +kernel
theorem dX5_propose_52 : decode cX5_propose 52 = .ok (.iload_n 1, 1) := by decide +kernel
theorem dX5_propose_53 : decode cX5_propose 53 = .ok (.aload_n 0, 1) := by decide +kernel
theorem dX5_propose_54 : decode cX5_propose 54 = .ok (.getfield 17, 3) := by decide +kernel
theorem dX5_propose_57 : decode cX5_propose 57 = .ok (.iload_n 1, 1) := by decide +kernel
theorem dX5_propose_58 : decode cX5_propose 58 = .ok (.iaload, 1) := by decide +kernel
theorem dX5_propose_59 : decode cX5_propose 59 = .ok (.iload_n 2, 1) := by decide +kernel
theorem dX5_propose_60 : decode cX5_propose 60 = .ok (.invokevirtual 126, 3) := by decide +kernel
theorem dX5_propose_63 : decode cX5_propose 63 = .ok (.aload_n 0, 1) := by decide +kernel
theorem dX5_propose_64 : decode cX5_propose 64 = .ok (.iload_n 1, 1) := by decide +kernel
theorem dX5_propose_65 : decode cX5_propose 65 = .ok (.invokevirtual 97, 3) := by decide +kernel
theorem dX5_propose_68 : decode cX5_propose 68 = .ok (.ireturn, 1) := by decide +kernel
theorem dX5_compact_0 : decode cX5_compact 0 = .ok (.aload_n 0, 1) := by decide +kernel
theorem dX5_compact_1 : decode cX5_compact 1 = .ok (.iload_n 1, 1) := by decide +kernel
theorem dX5_compact_2 : decode cX5_compact 2 = .ok (.invokevirtual 116, 3) := by decide +kernel
theorem dX5_compact_5 : decode cX5_compact 5 = .ok (.ifCond .ne 5, 3) := by decide +kernel
theorem dX5_compact_8 : decode cX5_compact 8 = .ok (.iconst (-1), 1) := by decide +kernel
theorem dX5_compact_9 : decode cX5_compact 9 = .ok (.ireturn, 1) := by decide +kernel
theorem dX5_compact_10 : decode cX5_compact 10 = .ok (.aload_n 0, 1) := by decide +kernel
theorem dX5_compact_11 : decode cX5_compact 11 = .ok (.getfield 7, 3) := by decide +kernel
theorem dX5_compact_14 : decode cX5_compact 14 = .ok (.iload_n 1, 1) := by decide +kernel
theorem dX5_compact_15 : decode cX5_compact 15 = .ok (.baload, 1) := by decide +kernel
theorem dX5_compact_16 : decode cX5_compact 16 = .ok (.ifCond .ne 6, 3) := by decide +kernel
theorem dX5_compact_19 : decode cX5_compact 19 = .ok (.bipush (-2), 2) := by decide +kernel
theorem dX5_compact_21 : decode cX5_compact 21 = .ok (.ireturn, 1) := by decide +kernel
theorem dX5_compact_22 : decode cX5_compact 22 = .ok (.aload_n 0, 1) := by decide +kernel
theorem dX5_compact_23 : decode cX5_compact 23 = .ok (.getfield 32, 3) := by decide +kernel
theorem dX5_compact_26 : decode cX5_compact 26 = .ok (.iload_n 1, 1) := by decide +kernel
theorem dX5_compact_27 : decode cX5_compact 27 = .ok (.iaload, 1) := by decide +kernel
theorem dX5_compact_28 : decode cX5_compact 28 = .ok (.aload_n 0, 1) := by decide +kernel
theorem dX5_compact_29 : decode cX5_compact 29 = .ok (.getfield 23, 3) := by decide +kernel
theorem dX5_compact_32 : decode cX5_compact 32 = .ok (.iload_n 1, 1) := by decide +kernel
theorem dX5_compact_33 : decode cX5_compact 33 = .ok (.iaload, 1) := by decide +kernel
theorem dX5_compact_34 : decode cX5_compact 34 = .ok (.isub, 1) := by decide +kernel
theorem dX5_compact_35 : decode cX5_compact 35 = .ok (.istore_n 2, 1) := by decide +kernel
theorem dX5_compact_36 : decode cX5_compact 36 = .ok (.aload_n 0, 1) := by decide +kernel
theorem dX5_compact_37 : decode cX5_compact 37 = .ok (.iload_n 1, 1) := by decide +kernel
theorem dX5_compact_38 : decode cX5_compact 38 = .ok (.aload_n 0, 1) := by decide +kernel
theorem dX5_compact_39 : decode cX5_compact 39 = .ok (.getfield 32, 3) := by decide +kernel
theorem dX5_compact_42 : decode cX5_compact 42 = .ok (.iload_n 1, 1) := by decide +kernel
theorem dX5_compact_43 : decode cX5_compact 43 = .ok (.iaload, 1) := by decide +kernel
theorem dX5_compact_44 : decode cX5_compact 44 = .ok (.invokevirtual 123, 3) := by decide +kernel
theorem dX5_compact_47 : decode cX5_compact 47 = .ok (.istore_n 3, 1) := by decide +kernel
theorem dX5_compact_48 : decode cX5_compact 48 = .ok (.aload_n 0, 1) := by decide +kernel
theorem dX5_compact_49 : decode cX5_compact 49 = .ok (.iload_n 1, 1) := by decide +kernel
theorem dX5_compact_50 : decode cX5_compact 50 = .ok (.aload_n 0, 1) := by decide +kernel
theorem dX5_compact_51 : decode cX5_compact 51 = .ok (.getfield 32, 3) := by decide +kernel
theorem dX5_compact_54 : decode cX5_compact 54 = .ok (.iload_n 1, 1) := by decide +kernel
theorem dX5_compact_55 : decode cX5_compact 55 = .ok (.iaload, 1) := by decide +kernel
theorem dX5_compact_56 : decode cX5_compact 56 = .ok (.invokevirtual 130, 3) := by decide +kernel
theorem dX5_compact_59 : decode cX5_compact 59 = .ok (.istore 4, 2) := by decide +kernel
theorem dX5_compact_61 : decode cX5_compact 61 = .ok (.aload_n 0, 1) := by decide +kernel
theorem dX5_compact_62 : decode cX5_compact 62 = .ok (.iload_n 1, 1) := by decide +kernel
theorem dX5_compact_63 : decode cX5_compact 63 = .ok (.iload_n 2, 1) := by decide +kernel
theorem dX5_compact_64 : decode cX5_compact 64 = .ok (.invokevirtual 133, 3) := by decide +kernel
theorem dX5_compact_67 : decode cX5_compact 67 = .ok (.aload_n 0, 1) := by decide +kernel
theorem dX5_compact_68 : decode cX5_compact 68 = .ok (.getfield 23, 3) := by decide +kernel
theorem dX5_compact_71 : decode cX5_compact 71 = .ok (.iload_n 1, 1) := by decide +kernel
theorem dX5_compact_72 : decode cX5_compact 72 = .ok (.aload_n 0, 1) := by decide +kernel
theorem dX5_compact_73 : decode cX5_compact 73 = .ok (.getfield 32, 3) := by decide +kernel
theorem dX5_compact_76 : decode cX5_compact 76 = .ok (.iload_n 1, 1) := by decide +kernel
theorem dX5_compact_77 : decode cX5_compact 77 = .ok (.iaload, 1) := by decide +kernel
theorem dX5_compact_78 : decode cX5_compact 78 = .ok (.iastore, 1) := by decide +kernel
theorem dX5_compact_79 : decode cX5_compact 79 = .ok (.aload_n 0, 1) := by decide +kernel
theorem dX5_compact_80 : decode cX5_compact 80 = .ok (.getfield 26, 3) := by decide +kernel
theorem dX5_compact_83 : decode cX5_compact 83 = .ok (.iload_n 1, 1) := by decide +kernel
theorem dX5_compact_84 : decode cX5_compact 84 = .ok (.iload_n 3, 1) := by decide +kernel
theorem dX5_compact_85 : decode cX5_compact 85 = .ok (.iastore, 1) := by decide +kernel
theorem dX5_compact_86 : decode cX5_compact 86 = .ok (.aload_n 0, 1) := by decide +kernel
theorem dX5_compact_87 : decode cX5_compact 87 = .ok (.getfield 29, 3) := by decide +kernel
theorem dX5_compact_90 : decode cX5_compact 90 = .ok (.iload_n 1, 1) := by decide +kernel
theorem dX5_compact_91 : decode cX5_compact 91 = .ok (.iload 4, 2) := by decide +kernel
theorem dX5_compact_93 : decode cX5_compact 93 = .ok (.iastore, 1) := by decide +kernel
theorem dX5_compact_94 : decode cX5_compact 94 = .ok (.iload_n 2, 1) := by decide +kernel
theorem dX5_compact_95 : decode cX5_compact 95 = .ok (.ireturn, 1) := by decide +kernel
theorem dX5_isSlot_0 : decode cX5_isSlot 0 = .ok (.iload_n 1, 1) := by decide +kernel
theorem dX5_isSlot_1 : decode cX5_isSlot 1 = .ok (.ifCond .lt 15, 3) := by decide +kernel
theorem dX5_isSlot_4 : decode cX5_isSlot 4 = .ok (.iload_n 1, 1) := by decide +kernel
theorem dX5_isSlot_5 : decode cX5_isSlot 5 = .ok (.aload_n 0, 1) := by decide +kernel
theorem dX5_isSlot_6 : decode cX5_isSlot 6 = .ok (.getfield 94, 3) := by decide +kernel
theorem dX5_isSlot_9 : decode cX5_isSlot 9 = .ok (.if_icmp .ge 7, 3) := by decide +kernel
theorem dX5_isSlot_12 : decode cX5_isSlot 12 = .ok (.iconst 1, 1) := by decide +kernel
theorem dX5_isSlot_13 : decode cX5_isSlot 13 = .ok (.goto 4, 3) := by decide +kernel
theorem dX5_isSlot_16 : decode cX5_isSlot 16 = .ok (.iconst 0, 1) := by decide +kernel
theorem dX5_isSlot_17 : decode cX5_isSlot 17 = .ok (.ireturn, 1) := by decide +kernel
theorem dX5_deliver_0 : decode cX5_deliver 0 = .ok (.aload_n 0, 1) := by decide +kernel
theorem dX5_deliver_1 : decode cX5_deliver 1 = .ok (.iload_n 1, 1) := by decide +kernel
theorem dX5_deliver_2 : decode cX5_deliver 2 = .ok (.invokevirtual 137, 3) := by decide +kernel
theorem dX5_deliver_5 : decode cX5_deliver 5 = .ok (.ifCond .ne 5, 3) := by decide +kernel
theorem dX5_deliver_8 : decode cX5_deliver 8 = .ok (.iconst (-1), 1) := by decide +kernel
theorem dX5_deliver_9 : decode cX5_deliver 9 = .ok (.ireturn, 1) := by decide +kernel
theorem dX5_deliver_10 : decode cX5_deliver 10 = .ok (.aload_n 0, 1) := by decide +kernel
theorem dX5_deliver_11 : decode cX5_deliver 11 = .ok (.getfield 53, 3) := by decide +kernel
theorem dX5_deliver_14 : decode cX5_deliver 14 = .ok (.iload_n 1, 1) := by decide +kernel
theorem dX5_deliver_15 : decode cX5_deliver 15 = .ok (.iaload, 1) := by decide +kernel
theorem dX5_deliver_16 : decode cX5_deliver 16 = .ok (.istore_n 2, 1) := by decide +kernel
theorem dX5_deliver_17 : decode cX5_deliver 17 = .ok (.iload_n 2, 1) := by decide +kernel
theorem dX5_deliver_18 : decode cX5_deliver 18 = .ok (.ifCond .ne 6, 3) := by decide +kernel
theorem dX5_deliver_21 : decode cX5_deliver 21 = .ok (.bipush (-5), 2) := by decide +kernel
theorem dX5_deliver_23 : decode cX5_deliver 23 = .ok (.ireturn, 1) := by decide +kernel
theorem dX5_deliver_24 : decode cX5_deliver 24 = .ok (.aload_n 0, 1) := by decide +kernel
theorem dX5_deliver_25 : decode cX5_deliver 25 = .ok (.getfield 53, 3) := by decide +kernel
theorem dX5_deliver_28 : decode cX5_deliver 28 = .ok (.iload_n 1, 1) := by decide +kernel
theorem dX5_deliver_29 : decode cX5_deliver 29 = .ok (.iconst 0, 1) := by decide +kernel
theorem dX5_deliver_30 : decode cX5_deliver 30 = .ok (.iastore, 1) := by decide +kernel
theorem dX5_deliver_31 : decode cX5_deliver 31 = .ok (.aload_n 0, 1) := by decide +kernel
theorem dX5_deliver_32 : decode cX5_deliver 32 = .ok (.getfield 59, 3) := by decide +kernel
theorem dX5_deliver_35 : decode cX5_deliver 35 = .ok (.iload_n 1, 1) := by decide +kernel
theorem dX5_deliver_36 : decode cX5_deliver 36 = .ok (.iaload, 1) := by decide +kernel
theorem dX5_deliver_37 : decode cX5_deliver 37 = .ok (.istore_n 3, 1) := by decide +kernel
theorem dX5_deliver_38 : decode cX5_deliver 38 = .ok (.aload_n 0, 1) := by decide +kernel
theorem dX5_deliver_39 : decode cX5_deliver 39 = .ok (.getfield 7, 3) := by decide +kernel
theorem dX5_deliver_42 : decode cX5_deliver 42 = .ok (.iload_n 3, 1) := by decide +kernel
theorem dX5_deliver_43 : decode cX5_deliver 43 = .ok (.baload, 1) := by decide +kernel
theorem dX5_deliver_44 : decode cX5_deliver 44 = .ok (.ifCond .ne 5, 3) := by decide +kernel
theorem dX5_deliver_47 : decode cX5_deliver 47 = .ok (.iload_n 2, 1) := by decide +kernel
theorem dX5_deliver_48 : decode cX5_deliver 48 = .ok (.ireturn, 1) := by decide +kernel
theorem dX5_deliver_49 : decode cX5_deliver 49 = .ok (.aload_n 0, 1) := by decide +kernel
theorem dX5_deliver_50 : decode cX5_deliver 50 = .ok (.getfield 62, 3) := by decide +kernel
theorem dX5_deliver_53 : decode cX5_deliver 53 = .ok (.iload_n 1, 1) := by decide +kernel
theorem dX5_deliver_54 : decode cX5_deliver 54 = .ok (.iaload, 1) := by decide +kernel
theorem dX5_deliver_55 : decode cX5_deliver 55 = .ok (.aload_n 0, 1) := by decide +kernel
theorem dX5_deliver_56 : decode cX5_deliver 56 = .ok (.getfield 17, 3) := by decide +kernel
theorem dX5_deliver_59 : decode cX5_deliver 59 = .ok (.iload_n 3, 1) := by decide +kernel
theorem dX5_deliver_60 : decode cX5_deliver 60 = .ok (.iaload, 1) := by decide +kernel
theorem dX5_deliver_61 : decode cX5_deliver 61 = .ok (.if_icmp .le 29, 3) := by decide +kernel
theorem dX5_deliver_64 : decode cX5_deliver 64 = .ok (.aload_n 0, 1) := by decide +kernel
theorem dX5_deliver_65 : decode cX5_deliver 65 = .ok (.getfield 17, 3) := by decide +kernel
theorem dX5_deliver_68 : decode cX5_deliver 68 = .ok (.iload_n 3, 1) := by decide +kernel
theorem dX5_deliver_69 : decode cX5_deliver 69 = .ok (.aload_n 0, 1) := by decide +kernel
theorem dX5_deliver_70 : decode cX5_deliver 70 = .ok (.getfield 62, 3) := by decide +kernel
theorem dX5_deliver_73 : decode cX5_deliver 73 = .ok (.iload_n 1, 1) := by decide +kernel
theorem dX5_deliver_74 : decode cX5_deliver 74 = .ok (.iaload, 1) := by decide +kernel
theorem dX5_deliver_75 : decode cX5_deliver 75 = .ok (.iastore, 1) := by decide +kernel
theorem dX5_deliver_76 : decode cX5_deliver 76 = .ok (.aload_n 0, 1) := by decide +kernel
theorem dX5_deliver_77 : decode cX5_deliver 77 = .ok (.getfield 13, 3) := by decide +kernel
theorem dX5_deliver_80 : decode cX5_deliver 80 = .ok (.iload_n 3, 1) := by decide +kernel
theorem dX5_deliver_81 : decode cX5_deliver 81 = .ok (.iconst 0, 1) := by decide +kernel
theorem dX5_deliver_82 : decode cX5_deliver 82 = .ok (.iastore, 1) := by decide +kernel
theorem dX5_deliver_83 : decode cX5_deliver 83 = .ok (.aload_n 0, 1) := by decide +kernel
theorem dX5_deliver_84 : decode cX5_deliver 84 = .ok (.getfield 20, 3) := by decide +kernel
theorem dX5_deliver_87 : decode cX5_deliver 87 = .ok (.iload_n 3, 1) := by decide +kernel
theorem dX5_deliver_88 : decode cX5_deliver 88 = .ok (.iconst (-1), 1) := by decide +kernel
theorem dX5_deliver_89 : decode cX5_deliver 89 = .ok (.iastore, 1) := by decide +kernel
theorem dX5_deliver_90 : decode cX5_deliver 90 = .ok (.aload_n 0, 1) := by decide +kernel
theorem dX5_deliver_91 : decode cX5_deliver 91 = .ok (.iload_n 2, 1) := by decide +kernel
theorem dX5_deliver_92 : decode cX5_deliver 92 = .ok (.iload_n 1, 1) := by decide +kernel
theorem dX5_deliver_93 : decode cX5_deliver 93 = .ok (.iload_n 3, 1) := by decide +kernel
theorem dX5_deliver_94 : decode cX5_deliver 94 = .ok (.aload_n 0, 1) := by decide +kernel
theorem dX5_deliver_95 : decode cX5_deliver 95 = .ok (.getfield 56, 3) := by decide +kernel
theorem dX5_deliver_98 : decode cX5_deliver 98 = .ok (.iload_n 1, 1) := by decide +kernel
theorem dX5_deliver_99 : decode cX5_deliver 99 = .ok (.iaload, 1) := by decide +kernel
theorem dX5_deliver_100 : decode cX5_deliver 100 = .ok (.invokevirtual 140, 3) := by decide +kernel
theorem dX5_deliver_103 : decode cX5_deliver 103 = .ok (.iload_n 2, 1) := by decide +kernel
theorem dX5_deliver_104 : decode cX5_deliver 104 = .ok (.ireturn, 1) := by decide +kernel
theorem dX5_act_0 : decode cX5_act 0 = .ok (.iload_n 1, 1) := by decide +kernel
theorem dX5_act_1 : decode cX5_act 1 = .ok (.tableswitch 75 1 4 #[31, 42, 53, 64], 31) := by decide +kernel
theorem dX5_act_32 : decode cX5_act 32 = .ok (.aload_n 0, 1) := by decide +kernel
theorem dX5_act_33 : decode cX5_act 33 = .ok (.iload_n 2, 1) := by decide +kernel
theorem dX5_act_34 : decode cX5_act 34 = .ok (.iload_n 3, 1) := by decide +kernel
theorem dX5_act_35 : decode cX5_act 35 = .ok (.iload 4, 2) := by decide +kernel
theorem dX5_act_37 : decode cX5_act 37 = .ok (.invokevirtual 144, 3) := by decide +kernel
theorem dX5_act_40 : decode cX5_act 40 = .ok (.goto 44, 3) := by decide +kernel
theorem dX5_act_43 : decode cX5_act 43 = .ok (.aload_n 0, 1) := by decide +kernel
theorem dX5_act_44 : decode cX5_act 44 = .ok (.iload_n 2, 1) := by decide +kernel
theorem dX5_act_45 : decode cX5_act 45 = .ok (.iload_n 3, 1) := by decide +kernel
theorem dX5_act_46 : decode cX5_act 46 = .ok (.iload 4, 2) := by decide +kernel
theorem dX5_act_48 : decode cX5_act 48 = .ok (.invokevirtual 147, 3) := by decide +kernel
theorem dX5_act_51 : decode cX5_act 51 = .ok (.goto 33, 3) := by decide +kernel
theorem dX5_act_54 : decode cX5_act 54 = .ok (.aload_n 0, 1) := by decide +kernel
theorem dX5_act_55 : decode cX5_act 55 = .ok (.iload_n 2, 1) := by decide +kernel
theorem dX5_act_56 : decode cX5_act 56 = .ok (.iload_n 3, 1) := by decide +kernel
theorem dX5_act_57 : decode cX5_act 57 = .ok (.iload 4, 2) := by decide +kernel
theorem dX5_act_59 : decode cX5_act 59 = .ok (.invokevirtual 150, 3) := by decide +kernel
theorem dX5_act_62 : decode cX5_act 62 = .ok (.goto 22, 3) := by decide +kernel
theorem dX5_act_65 : decode cX5_act 65 = .ok (.aload_n 0, 1) := by decide +kernel
theorem dX5_act_66 : decode cX5_act 66 = .ok (.iload_n 2, 1) := by decide +kernel
theorem dX5_act_67 : decode cX5_act 67 = .ok (.iload_n 3, 1) := by decide +kernel
theorem dX5_act_68 : decode cX5_act 68 = .ok (.iload 4, 2) := by decide +kernel
theorem dX5_act_70 : decode cX5_act 70 = .ok (.invokevirtual 153, 3) := by decide +kernel
theorem dX5_act_73 : decode cX5_act 73 = .ok (.goto 11, 3) := by decide +kernel
theorem dX5_act_76 : decode cX5_act 76 = .ok (.aload_n 0, 1) := by decide +kernel
theorem dX5_act_77 : decode cX5_act 77 = .ok (.iload_n 2, 1) := by decide +kernel
theorem dX5_act_78 : decode cX5_act 78 = .ok (.iload_n 3, 1) := by decide +kernel
theorem dX5_act_79 : decode cX5_act 79 = .ok (.iload 4, 2) := by decide +kernel
theorem dX5_act_81 : decode cX5_act 81 = .ok (.invokevirtual 156, 3) := by decide +kernel
theorem dX5_act_84 : decode cX5_act 84 = .ok (.return_, 1) := by decide +kernel
theorem dX5_asked_0 : decode cX5_asked 0 = .ok (.aload_n 0, 1) := by decide +kernel
theorem dX5_asked_1 : decode cX5_asked 1 = .ok (.iload_n 2, 1) := by decide +kernel
theorem dX5_asked_2 : decode cX5_asked 2 = .ok (.aload_n 0, 1) := by decide +kernel
theorem dX5_asked_3 : decode cX5_asked 3 = .ok (.iload_n 2, 1) := by decide +kernel
theorem dX5_asked_4 : decode cX5_asked 4 = .ok (.invokevirtual 97, 3) := by decide +kernel
theorem dX5_asked_7 : decode cX5_asked 7 = .ok (.invokevirtual 123, 3) := by decide +kernel
theorem dX5_asked_10 : decode cX5_asked 10 = .ok (.istore 4, 2) := by decide +kernel
theorem dX5_asked_12 : decode cX5_asked 12 = .ok (.aload_n 0, 1) := by decide +kernel
theorem dX5_asked_13 : decode cX5_asked 13 = .ok (.getfield 68, 3) := by decide +kernel
theorem dX5_asked_16 : decode cX5_asked 16 = .ok (.iload_n 1, 1) := by decide +kernel
theorem dX5_asked_17 : decode cX5_asked 17 = .ok (.iaload, 1) := by decide +kernel
theorem dX5_asked_18 : decode cX5_asked 18 = .ok (.iload 4, 2) := by decide +kernel
theorem dX5_asked_20 : decode cX5_asked 20 = .ok (.if_icmp .gt 28, 3) := by decide +kernel
theorem dX5_asked_23 : decode cX5_asked 23 = .ok (.aload_n 0, 1) := by decide +kernel
theorem dX5_asked_24 : decode cX5_asked 24 = .ok (.getfield 68, 3) := by decide +kernel
theorem dX5_asked_27 : decode cX5_asked 27 = .ok (.iload_n 1, 1) := by decide +kernel
theorem dX5_asked_28 : decode cX5_asked 28 = .ok (.iaload, 1) := by decide +kernel
theorem dX5_asked_29 : decode cX5_asked 29 = .ok (.iload 4, 2) := by decide +kernel
theorem dX5_asked_31 : decode cX5_asked 31 = .ok (.if_icmp .ne 21, 3) := by decide +kernel
theorem dX5_asked_34 : decode cX5_asked 34 = .ok (.aload_n 0, 1) := by decide +kernel
theorem dX5_asked_35 : decode cX5_asked 35 = .ok (.getfield 65, 3) := by decide +kernel
theorem dX5_asked_38 : decode cX5_asked 38 = .ok (.iload_n 1, 1) := by decide +kernel
theorem dX5_asked_39 : decode cX5_asked 39 = .ok (.iaload, 1) := by decide +kernel
theorem dX5_asked_40 : decode cX5_asked 40 = .ok (.aload_n 0, 1) := by decide +kernel
theorem dX5_asked_41 : decode cX5_asked 41 = .ok (.iload_n 2, 1) := by decide +kernel
theorem dX5_asked_42 : decode cX5_asked 42 = .ok (.invokevirtual 97, 3) := by decide +kernel
theorem dX5_asked_45 : decode cX5_asked 45 = .ok (.if_icmp .lt 7, 3) := by decide +kernel
theorem dX5_asked_48 : decode cX5_asked 48 = .ok (.iconst 1, 1) := by decide +kernel
theorem dX5_asked_49 : decode cX5_asked 49 = .ok (.goto 4, 3) := by decide +kernel
theorem dX5_asked_52 : decode cX5_asked 52 = .ok (.iconst 0, 1) := by decide +kernel
theorem dX5_asked_53 : decode cX5_asked 53 = .ok (.istore 5, 2) := by decide +kernel
theorem dX5_asked_55 : decode cX5_asked 55 = .ok (.aload_n 0, 1) := by decide +kernel
theorem dX5_asked_56 : decode cX5_asked 56 = .ok (.getfield 62, 3) := by decide +kernel
theorem dX5_asked_59 : decode cX5_asked 59 = .ok (.iload_n 1, 1) := by decide +kernel
theorem dX5_asked_60 : decode cX5_asked 60 = .ok (.iaload, 1) := by decide +kernel
theorem dX5_asked_61 : decode cX5_asked 61 = .ok (.aload_n 0, 1) := by decide +kernel
theorem dX5_asked_62 : decode cX5_asked 62 = .ok (.getfield 17, 3) := by decide +kernel
theorem dX5_asked_65 : decode cX5_asked 65 = .ok (.iload_n 2, 1) := by decide +kernel
theorem dX5_asked_66 : decode cX5_asked 66 = .ok (.iaload, 1) := by decide +kernel
theorem dX5_asked_67 : decode cX5_asked 67 = .ok (.if_icmp .ne 32, 3) := by decide +kernel
theorem dX5_asked_70 : decode cX5_asked 70 = .ok (.aload_n 0, 1) := by decide +kernel
theorem dX5_asked_71 : decode cX5_asked 71 = .ok (.getfield 20, 3) := by decide +kernel
theorem dX5_asked_74 : decode cX5_asked 74 = .ok (.iload_n 2, 1) := by decide +kernel
theorem dX5_asked_75 : decode cX5_asked 75 = .ok (.iaload, 1) := by decide +kernel
theorem dX5_asked_76 : decode cX5_asked 76 = .ok (.iconst (-1), 1) := by decide +kernel
theorem dX5_asked_77 : decode cX5_asked 77 = .ok (.if_icmp .eq 13, 3) := by decide +kernel
theorem dX5_asked_80 : decode cX5_asked 80 = .ok (.aload_n 0, 1) := by decide +kernel
theorem dX5_asked_81 : decode cX5_asked 81 = .ok (.getfield 20, 3) := by decide +kernel
theorem dX5_asked_84 : decode cX5_asked 84 = .ok (.iload_n 2, 1) := by decide +kernel
theorem dX5_asked_85 : decode cX5_asked 85 = .ok (.iaload, 1) := by decide +kernel
theorem dX5_asked_86 : decode cX5_asked 86 = .ok (.iload_n 3, 1) := by decide +kernel
theorem dX5_asked_87 : decode cX5_asked 87 = .ok (.if_icmp .ne 12, 3) := by decide +kernel
theorem dX5_asked_90 : decode cX5_asked 90 = .ok (.iload 5, 2) := by decide +kernel
theorem dX5_asked_92 : decode cX5_asked 92 = .ok (.ifCond .eq 7, 3) := by decide +kernel
theorem dX5_asked_95 : decode cX5_asked 95 = .ok (.iconst 1, 1) := by decide +kernel
theorem dX5_asked_96 : decode cX5_asked 96 = .ok (.goto 4, 3) := by decide +kernel
theorem dX5_asked_99 : decode cX5_asked 99 = .ok (.iconst 0, 1) := by decide +kernel
theorem dX5_asked_100 : decode cX5_asked 100 = .ok (.istore 6, 2) := by decide +kernel
theorem dX5_asked_102 : decode cX5_asked 102 = .ok (.aload_n 0, 1) := by decide +kernel
theorem dX5_asked_103 : decode cX5_asked 103 = .ok (.getfield 20, 3) := by decide +kernel
theorem dX5_asked_106 : decode cX5_asked 106 = .ok (.iload_n 2, 1) := by decide +kernel
theorem dX5_asked_107 : decode cX5_asked 107 = .ok (.iload 6, 2) := by decide +kernel
theorem dX5_asked_109 : decode cX5_asked 109 = .ok (.ifCond .eq 7, 3) := by decide +kernel
theorem dX5_asked_112 : decode cX5_asked 112 = .ok (.iload_n 3, 1) := by decide +kernel
theorem dX5_asked_113 : decode cX5_asked 113 = .ok (.goto 9, 3) := by decide +kernel
theorem dX5_asked_116 : decode cX5_asked 116 = .ok (.aload_n 0, 1) := by decide +kernel
theorem dX5_asked_117 : decode cX5_asked 117 = .ok (.getfield 20, 3) := by decide +kernel
theorem dX5_asked_120 : decode cX5_asked 120 = .ok (.iload_n 2, 1) := by decide +kernel
theorem dX5_asked_121 : decode cX5_asked 121 = .ok (.iaload, 1) := by decide +kernel
theorem dX5_asked_122 : decode cX5_asked 122 = .ok (.iastore, 1) := by decide +kernel
theorem dX5_asked_123 : decode cX5_asked 123 = .ok (.aload_n 0, 1) := by decide +kernel
theorem dX5_asked_124 : decode cX5_asked 124 = .ok (.iconst 2, 1) := by decide +kernel
theorem dX5_asked_125 : decode cX5_asked 125 = .ok (.iload_n 2, 1) := by decide +kernel
theorem dX5_asked_126 : decode cX5_asked 126 = .ok (.iload_n 3, 1) := by decide +kernel
theorem dX5_asked_127 : decode cX5_asked 127 = .ok (.iload 6, 2) := by decide +kernel
theorem dX5_asked_129 : decode cX5_asked 129 = .ok (.iconst 0, 1) := by decide +kernel
theorem dX5_asked_130 : decode cX5_asked 130 = .ok (.invokevirtual 159, 3) := by decide +kernel
theorem dX5_asked_133 : decode cX5_asked 133 = .ok (.return_, 1) := by decide +kernel
theorem dX5_isMost_0 : decode cX5_isMost 0 = .ok (.iconst 0, 1) := by decide +kernel
theorem dX5_isMost_1 : decode cX5_isMost 1 = .ok (.istore_n 2, 1) := by decide +kernel
theorem dX5_isMost_2 : decode cX5_isMost 2 = .ok (.iconst 0, 1) := by decide +kernel
theorem dX5_isMost_3 : decode cX5_isMost 3 = .ok (.istore_n 3, 1) := by decide +kernel
theorem dX5_isMost_4 : decode cX5_isMost 4 = .ok (.iload_n 3, 1) := by decide +kernel
theorem dX5_isMost_5 : decode cX5_isMost 5 = .ok (.iconst 5, 1) := by decide +kernel
theorem dX5_isMost_6 : decode cX5_isMost 6 = .ok (.if_icmp .ge 17, 3) := by decide +kernel
theorem dX5_isMost_9 : decode cX5_isMost 9 = .ok (.iload_n 2, 1) := by decide +kernel
theorem dX5_isMost_10 : decode cX5_isMost 10 = .ok (.iload_n 0, 1) := by decide +kernel
theorem dX5_isMost_11 : decode cX5_isMost 11 = .ok (.iload_n 3, 1) := by decide +kernel
theorem dX5_isMost_12 : decode cX5_isMost 12 = .ok (.ishr, 1) := by decide +kernel
theorem dX5_isMost_13 : decode cX5_isMost 13 = .ok (.iconst 1, 1) := by decide +kernel
theorem dX5_isMost_14 : decode cX5_isMost 14 = .ok (.iand, 1) := by decide +kernel
theorem dX5_isMost_15 : decode cX5_isMost 15 = .ok (.iadd, 1) := by decide +kernel
theorem dX5_isMost_16 : decode cX5_isMost 16 = .ok (.istore_n 2, 1) := by decide +kernel
theorem dX5_isMost_17 : decode cX5_isMost 17 = .ok (.iinc 3 1, 3) := by decide +kernel
theorem dX5_isMost_20 : decode cX5_isMost 20 = .ok (.goto (-16), 3) := by decide +kernel
theorem dX5_isMost_23 : decode cX5_isMost 23 = .ok (.iconst 2, 1) := by decide +kernel
theorem dX5_isMost_24 : decode cX5_isMost 24 = .ok (.iload_n 2, 1) := by decide +kernel
theorem dX5_isMost_25 : decode cX5_isMost 25 = .ok (.imul, 1) := by decide +kernel
theorem dX5_isMost_26 : decode cX5_isMost 26 = .ok (.iload_n 1, 1) := by decide +kernel
theorem dX5_isMost_27 : decode cX5_isMost 27 = .ok (.if_icmp .le 7, 3) := by decide +kernel
theorem dX5_isMost_30 : decode cX5_isMost 30 = .ok (.iconst 1, 1) := by decide +kernel
theorem dX5_isMost_31 : decode cX5_isMost 31 = .ok (.goto 4, 3) := by decide +kernel
theorem dX5_isMost_34 : decode cX5_isMost 34 = .ok (.iconst 0, 1) := by decide +kernel
theorem dX5_isMost_35 : decode cX5_isMost 35 = .ok (.ireturn, 1) := by decide +kernel
theorem dX5_voted_0 : decode cX5_voted 0 = .ok (.aload_n 0, 1) := by decide +kernel
theorem dX5_voted_1 : decode cX5_voted 1 = .ok (.getfield 13, 3) := by decide +kernel
theorem dX5_voted_4 : decode cX5_voted 4 = .ok (.iload_n 2, 1) := by decide +kernel
theorem dX5_voted_5 : decode cX5_voted 5 = .ok (.iaload, 1) := by decide +kernel
theorem dX5_voted_6 : decode cX5_voted 6 = .ok (.iconst 1, 1) := by decide +kernel
theorem dX5_voted_7 : decode cX5_voted 7 = .ok (.if_icmp .ne 27, 3) := by decide +kernel
theorem dX5_voted_10 : decode cX5_voted 10 = .ok (.aload_n 0, 1) := by decide +kernel
theorem dX5_voted_11 : decode cX5_voted 11 = .ok (.getfield 62, 3) := by decide +kernel
theorem dX5_voted_14 : decode cX5_voted 14 = .ok (.iload_n 1, 1) := by decide +kernel
theorem dX5_voted_15 : decode cX5_voted 15 = .ok (.iaload, 1) := by decide +kernel
theorem dX5_voted_16 : decode cX5_voted 16 = .ok (.aload_n 0, 1) := by decide +kernel
theorem dX5_voted_17 : decode cX5_voted 17 = .ok (.getfield 17, 3) := by decide +kernel
theorem dX5_voted_20 : decode cX5_voted 20 = .ok (.iload_n 2, 1) := by decide +kernel
theorem dX5_voted_21 : decode cX5_voted 21 = .ok (.iaload, 1) := by decide +kernel
theorem dX5_voted_22 : decode cX5_voted 22 = .ok (.if_icmp .ne 12, 3) := by decide +kernel
theorem dX5_voted_25 : decode cX5_voted 25 = .ok (.aload_n 0, 1) := by decide +kernel
theorem dX5_voted_26 : decode cX5_voted 26 = .ok (.getfield 71, 3) := by decide +kernel
theorem dX5_voted_29 : decode cX5_voted 29 = .ok (.iload_n 1, 1) := by decide +kernel
theorem dX5_voted_30 : decode cX5_voted 30 = .ok (.baload, 1) := by decide +kernel
theorem dX5_voted_31 : decode cX5_voted 31 = .ok (.ifCond .ne 4, 3) := by decide +kernel
theorem dX5_voted_34 : decode cX5_voted 34 = .ok (.return_, 1) := by decide +kernel
theorem dX5_voted_35 : decode cX5_voted 35 = .ok (.aload_n 0, 1) := by decide +kernel
theorem dX5_voted_36 : decode cX5_voted 36 = .ok (.getfield 35, 3) := by decide +kernel
theorem dX5_voted_39 : decode cX5_voted 39 = .ok (.iload_n 2, 1) := by decide +kernel
theorem dX5_voted_40 : decode cX5_voted 40 = .ok (.aload_n 0, 1) := by decide +kernel
theorem dX5_voted_41 : decode cX5_voted 41 = .ok (.getfield 35, 3) := by decide +kernel
theorem dX5_voted_44 : decode cX5_voted 44 = .ok (.iload_n 2, 1) := by decide +kernel
theorem dX5_voted_45 : decode cX5_voted 45 = .ok (.iaload, 1) := by decide +kernel
theorem dX5_voted_46 : decode cX5_voted 46 = .ok (.iconst 1, 1) := by decide +kernel
theorem dX5_voted_47 : decode cX5_voted 47 = .ok (.iload_n 3, 1) := by decide +kernel
theorem dX5_voted_48 : decode cX5_voted 48 = .ok (.ishl, 1) := by decide +kernel
theorem dX5_voted_49 : decode cX5_voted 49 = .ok (.ior, 1) := by decide +kernel
theorem dX5_voted_50 : decode cX5_voted 50 = .ok (.iastore, 1) := by decide +kernel
theorem dX5_voted_51 : decode cX5_voted 51 = .ok (.aload_n 0, 1) := by decide +kernel
theorem dX5_voted_52 : decode cX5_voted 52 = .ok (.getfield 35, 3) := by decide +kernel
theorem dX5_voted_55 : decode cX5_voted 55 = .ok (.iload_n 2, 1) := by decide +kernel
theorem dX5_voted_56 : decode cX5_voted 56 = .ok (.iaload, 1) := by decide +kernel
theorem dX5_voted_57 : decode cX5_voted 57 = .ok (.aload_n 0, 1) := by decide +kernel
theorem dX5_voted_58 : decode cX5_voted 58 = .ok (.getfield 87, 3) := by decide +kernel
theorem dX5_voted_61 : decode cX5_voted 61 = .ok (.invokestatic 163, 3) := by decide +kernel
theorem dX5_voted_64 : decode cX5_voted 64 = .ok (.ifCond .ne 4, 3) := by decide +kernel
theorem dX5_voted_67 : decode cX5_voted 67 = .ok (.return_, 1) := by decide +kernel
theorem dX5_voted_68 : decode cX5_voted 68 = .ok (.aload_n 0, 1) := by decide +kernel
theorem dX5_voted_69 : decode cX5_voted 69 = .ok (.getfield 13, 3) := by decide +kernel
theorem dX5_voted_72 : decode cX5_voted 72 = .ok (.iload_n 2, 1) := by decide +kernel
theorem dX5_voted_73 : decode cX5_voted 73 = .ok (.iconst 2, 1) := by decide +kernel
theorem dX5_voted_74 : decode cX5_voted 74 = .ok (.iastore, 1) := by decide +kernel
theorem dX5_voted_75 : decode cX5_voted 75 = .ok (.iconst 0, 1) := by decide +kernel
theorem dX5_voted_76 : decode cX5_voted 76 = .ok (.istore 4, 2) := by decide +kernel
theorem dX5_voted_78 : decode cX5_voted 78 = .ok (.iload 4, 2) := by decide +kernel
theorem dX5_voted_80 : decode cX5_voted 80 = .ok (.iconst 5, 1) := by decide +kernel
theorem dX5_voted_81 : decode cX5_voted 81 = .ok (.if_icmp .ge 39, 3) := by decide +kernel
theorem dX5_voted_84 : decode cX5_voted 84 = .ok (.aload_n 0, 1) := by decide +kernel
theorem dX5_voted_85 : decode cX5_voted 85 = .ok (.getfield 47, 3) := by decide +kernel
theorem dX5_voted_88 : decode cX5_voted 88 = .ok (.iconst 5, 1) := by decide +kernel
theorem dX5_voted_89 : decode cX5_voted 89 = .ok (.iload_n 2, 1) := by decide +kernel
theorem dX5_voted_90 : decode cX5_voted 90 = .ok (.imul, 1) := by decide +kernel
theorem dX5_voted_91 : decode cX5_voted 91 = .ok (.iload 4, 2) := by decide +kernel
theorem dX5_voted_93 : decode cX5_voted 93 = .ok (.iadd, 1) := by decide +kernel
theorem dX5_voted_94 : decode cX5_voted 94 = .ok (.aload_n 0, 1) := by decide +kernel
theorem dX5_voted_95 : decode cX5_voted 95 = .ok (.iload_n 2, 1) := by decide +kernel
theorem dX5_voted_96 : decode cX5_voted 96 = .ok (.invokevirtual 97, 3) := by decide +kernel
theorem dX5_voted_99 : decode cX5_voted 99 = .ok (.iconst 1, 1) := by decide +kernel
theorem dX5_voted_100 : decode cX5_voted 100 = .ok (.iadd, 1) := by decide +kernel
theorem dX5_voted_101 : decode cX5_voted 101 = .ok (.iastore, 1) := by decide +kernel
theorem dX5_voted_102 : decode cX5_voted 102 = .ok (.aload_n 0, 1) := by decide +kernel
theorem dX5_voted_103 : decode cX5_voted 103 = .ok (.getfield 50, 3) := by decide +kernel
theorem dX5_voted_106 : decode cX5_voted 106 = .ok (.iconst 5, 1) := by decide +kernel
theorem dX5_voted_107 : decode cX5_voted 107 = .ok (.iload_n 2, 1) := by decide +kernel
theorem dX5_voted_108 : decode cX5_voted 108 = .ok (.imul, 1) := by decide +kernel
theorem dX5_voted_109 : decode cX5_voted 109 = .ok (.iload 4, 2) := by decide +kernel
theorem dX5_voted_111 : decode cX5_voted 111 = .ok (.iadd, 1) := by decide +kernel
theorem dX5_voted_112 : decode cX5_voted 112 = .ok (.iconst 0, 1) := by decide +kernel
theorem dX5_voted_113 : decode cX5_voted 113 = .ok (.iastore, 1) := by decide +kernel
theorem dX5_voted_114 : decode cX5_voted 114 = .ok (.iinc 4 1, 3) := by decide +kernel
theorem dX5_voted_117 : decode cX5_voted 117 = .ok (.goto (-39), 3) := by decide +kernel
theorem dX5_voted_120 : decode cX5_voted 120 = .ok (.return_, 1) := by decide +kernel
theorem dX5_append_0 : decode cX5_append 0 = .ok (.aload_n 0, 1) := by decide +kernel
theorem dX5_append_1 : decode cX5_append 1 = .ok (.getfield 62, 3) := by decide +kernel
theorem dX5_append_4 : decode cX5_append 4 = .ok (.iload_n 1, 1) := by decide +kernel
theorem dX5_append_5 : decode cX5_append 5 = .ok (.iaload, 1) := by decide +kernel
theorem dX5_append_6 : decode cX5_append 6 = .ok (.aload_n 0, 1) := by decide +kernel
theorem dX5_append_7 : decode cX5_append 7 = .ok (.getfield 17, 3) := by decide +kernel
theorem dX5_append_10 : decode cX5_append 10 = .ok (.iload_n 2, 1) := by decide +kernel
theorem dX5_append_11 : decode cX5_append 11 = .ok (.iaload, 1) := by decide +kernel
theorem dX5_append_12 : decode cX5_append 12 = .ok (.if_icmp .ge 13, 3) := by decide +kernel
theorem dX5_append_15 : decode cX5_append 15 = .ok (.aload_n 0, 1) := by decide +kernel
theorem dX5_append_16 : decode cX5_append 16 = .ok (.iconst 4, 1) := by decide +kernel
theorem dX5_append_17 : decode cX5_append 17 = .ok (.iload_n 2, 1) := by decide +kernel
theorem dX5_append_18 : decode cX5_append 18 = .ok (.iload_n 3, 1) := by decide +kernel
theorem dX5_append_19 : decode cX5_append 19 = .ok (.iconst 0, 1) := by decide +kernel
theorem dX5_append_20 : decode cX5_append 20 = .ok (.iconst 0, 1) := by decide +kernel
theorem dX5_append_21 : decode cX5_append 21 = .ok (.invokevirtual 159, 3) := by decide +kernel
theorem dX5_append_24 : decode cX5_append 24 = .ok (.return_, 1) := by decide +kernel
theorem dX5_append_25 : decode cX5_append 25 = .ok (.aload_n 0, 1) := by decide +kernel
theorem dX5_append_26 : decode cX5_append 26 = .ok (.getfield 13, 3) := by decide +kernel
theorem dX5_append_29 : decode cX5_append 29 = .ok (.iload_n 2, 1) := by decide +kernel
theorem dX5_append_30 : decode cX5_append 30 = .ok (.iconst 0, 1) := by decide +kernel
theorem dX5_append_31 : decode cX5_append 31 = .ok (.iastore, 1) := by decide +kernel
theorem dX5_append_32 : decode cX5_append 32 = .ok (.aload_n 0, 1) := by decide +kernel
theorem dX5_append_33 : decode cX5_append 33 = .ok (.getfield 65, 3) := by decide +kernel
theorem dX5_append_36 : decode cX5_append 36 = .ok (.iload_n 1, 1) := by decide +kernel
theorem dX5_append_37 : decode cX5_append 37 = .ok (.iaload, 1) := by decide +kernel
theorem dX5_append_38 : decode cX5_append 38 = .ok (.istore 4, 2) := by decide +kernel
theorem dX5_append_40 : decode cX5_append 40 = .ok (.iload 4, 2) := by decide +kernel
theorem dX5_append_42 : decode cX5_append 42 = .ok (.aload_n 0, 1) := by decide +kernel
theorem dX5_append_43 : decode cX5_append 43 = .ok (.getfield 23, 3) := by decide +kernel
theorem dX5_append_46 : decode cX5_append 46 = .ok (.iload_n 2, 1) := by decide +kernel
theorem dX5_append_47 : decode cX5_append 47 = .ok (.iaload, 1) := by decide +kernel
theorem dX5_append_48 : decode cX5_append 48 = .ok (.if_icmp .ge 20, 3) := by decide +kernel
theorem dX5_append_51 : decode cX5_append 51 = .ok (.aload_n 0, 1) := by decide +kernel
theorem dX5_append_52 : decode cX5_append 52 = .ok (.iconst 4, 1) := by decide +kernel
theorem dX5_append_53 : decode cX5_append 53 = .ok (.iload_n 2, 1) := by decide +kernel
theorem dX5_append_54 : decode cX5_append 54 = .ok (.iload_n 3, 1) := by decide +kernel
theorem dX5_append_55 : decode cX5_append 55 = .ok (.iconst 1, 1) := by decide +kernel
theorem dX5_append_56 : decode cX5_append 56 = .ok (.aload_n 0, 1) := by decide +kernel
theorem dX5_append_57 : decode cX5_append 57 = .ok (.getfield 23, 3) := by decide +kernel
theorem dX5_append_60 : decode cX5_append 60 = .ok (.iload_n 2, 1) := by decide +kernel
theorem dX5_append_61 : decode cX5_append 61 = .ok (.iaload, 1) := by decide +kernel
theorem dX5_append_62 : decode cX5_append 62 = .ok (.invokevirtual 159, 3) := by decide +kernel
theorem dX5_append_65 : decode cX5_append 65 = .ok (.goto 140, 3) := by decide +kernel
theorem dX5_append_68 : decode cX5_append 68 = .ok (.iload 4, 2) := by decide +kernel
theorem dX5_append_70 : decode cX5_append 70 = .ok (.aload_n 0, 1) := by decide +kernel
theorem dX5_append_71 : decode cX5_append 71 = .ok (.iload_n 2, 1) := by decide +kernel
theorem dX5_append_72 : decode cX5_append 72 = .ok (.invokevirtual 97, 3) := by decide +kernel
theorem dX5_append_75 : decode cX5_append 75 = .ok (.if_icmp .gt 19, 3) := by decide +kernel
theorem dX5_append_78 : decode cX5_append 78 = .ok (.aload_n 0, 1) := by decide +kernel
theorem dX5_append_79 : decode cX5_append 79 = .ok (.iload_n 2, 1) := by decide +kernel
theorem dX5_append_80 : decode cX5_append 80 = .ok (.iload 4, 2) := by decide +kernel
theorem dX5_append_82 : decode cX5_append 82 = .ok (.invokevirtual 123, 3) := by decide +kernel
theorem dX5_append_85 : decode cX5_append 85 = .ok (.aload_n 0, 1) := by decide +kernel
theorem dX5_append_86 : decode cX5_append 86 = .ok (.getfield 68, 3) := by decide +kernel
theorem dX5_append_89 : decode cX5_append 89 = .ok (.iload_n 1, 1) := by decide +kernel
theorem dX5_append_90 : decode cX5_append 90 = .ok (.iaload, 1) := by decide +kernel
theorem dX5_append_91 : decode cX5_append 91 = .ok (.if_icmp .eq 15, 3) := by decide +kernel
theorem dX5_append_94 : decode cX5_append 94 = .ok (.aload_n 0, 1) := by decide +kernel
theorem dX5_append_95 : decode cX5_append 95 = .ok (.iconst 4, 1) := by decide +kernel
theorem dX5_append_96 : decode cX5_append 96 = .ok (.iload_n 2, 1) := by decide +kernel
theorem dX5_append_97 : decode cX5_append 97 = .ok (.iload_n 3, 1) := by decide +kernel
theorem dX5_append_98 : decode cX5_append 98 = .ok (.iconst 0, 1) := by decide +kernel
theorem dX5_append_99 : decode cX5_append 99 = .ok (.iconst 0, 1) := by decide +kernel
theorem dX5_append_100 : decode cX5_append 100 = .ok (.invokevirtual 159, 3) := by decide +kernel
theorem dX5_append_103 : decode cX5_append 103 = .ok (.goto 102, 3) := by decide +kernel
theorem dX5_append_106 : decode cX5_append 106 = .ok (.aload_n 0, 1) := by decide +kernel
theorem dX5_append_107 : decode cX5_append 107 = .ok (.getfield 71, 3) := by decide +kernel
theorem dX5_append_110 : decode cX5_append 110 = .ok (.iload_n 1, 1) := by decide +kernel
theorem dX5_append_111 : decode cX5_append 111 = .ok (.baload, 1) := by decide +kernel
theorem dX5_append_112 : decode cX5_append 112 = .ok (.ifCond .eq 27, 3) := by decide +kernel
theorem dX5_append_115 : decode cX5_append 115 = .ok (.aload_n 0, 1) := by decide +kernel
theorem dX5_append_116 : decode cX5_append 116 = .ok (.iload_n 2, 1) := by decide +kernel
theorem dX5_append_117 : decode cX5_append 117 = .ok (.iload 4, 2) := by decide +kernel
theorem dX5_append_119 : decode cX5_append 119 = .ok (.iconst 1, 1) := by decide +kernel
theorem dX5_append_120 : decode cX5_append 120 = .ok (.iadd, 1) := by decide +kernel
theorem dX5_append_121 : decode cX5_append 121 = .ok (.aload_n 0, 1) := by decide +kernel
theorem dX5_append_122 : decode cX5_append 122 = .ok (.getfield 74, 3) := by decide +kernel
theorem dX5_append_125 : decode cX5_append 125 = .ok (.iload_n 1, 1) := by decide +kernel
theorem dX5_append_126 : decode cX5_append 126 = .ok (.iaload, 1) := by decide +kernel
theorem dX5_append_127 : decode cX5_append 127 = .ok (.aload_n 0, 1) := by decide +kernel
theorem dX5_append_128 : decode cX5_append 128 = .ok (.getfield 77, 3) := by decide +kernel
theorem dX5_append_131 : decode cX5_append 131 = .ok (.iload_n 1, 1) := by decide +kernel
theorem dX5_append_132 : decode cX5_append 132 = .ok (.iaload, 1) := by decide +kernel
theorem dX5_append_133 : decode cX5_append 133 = .ok (.invokevirtual 166, 3) := by decide +kernel
theorem dX5_append_136 : decode cX5_append 136 = .ok (.goto 5, 3) := by decide +kernel
theorem dX5_append_139 : decode cX5_append 139 = .ok (.iload 4, 2) := by decide +kernel
theorem dX5_append_141 : decode cX5_append 141 = .ok (.istore 5, 2) := by decide +kernel
theorem dX5_append_143 : decode cX5_append 143 = .ok (.aload_n 0, 1) := by decide +kernel
theorem dX5_append_144 : decode cX5_append 144 = .ok (.getfield 80, 3) := by decide +kernel
theorem dX5_append_147 : decode cX5_append 147 = .ok (.iload_n 1, 1) := by decide +kernel
theorem dX5_append_148 : decode cX5_append 148 = .ok (.iaload, 1) := by decide +kernel
theorem dX5_append_149 : decode cX5_append 149 = .ok (.iload 5, 2) := by decide +kernel
theorem dX5_append_151 : decode cX5_append 151 = .ok (.if_icmp .ge 12, 3) := by decide +kernel
theorem dX5_append_154 : decode cX5_append 154 = .ok (.aload_n 0, 1) := by decide +kernel
theorem dX5_append_155 : decode cX5_append 155 = .ok (.getfield 80, 3) := by decide +kernel
theorem dX5_append_158 : decode cX5_append 158 = .ok (.iload_n 1, 1) := by decide +kernel
theorem dX5_append_159 : decode cX5_append 159 = .ok (.iaload, 1) := by decide +kernel
theorem dX5_append_160 : decode cX5_append 160 = .ok (.goto 5, 3) := by decide +kernel
theorem dX5_append_163 : decode cX5_append 163 = .ok (.iload 5, 2) := by decide +kernel
theorem dX5_append_165 : decode cX5_append 165 = .ok (.istore 6, 2) := by decide +kernel
theorem dX5_append_167 : decode cX5_append 167 = .ok (.aload_n 0, 1) := by decide +kernel
theorem dX5_append_168 : decode cX5_append 168 = .ok (.getfield 32, 3) := by decide +kernel
theorem dX5_append_171 : decode cX5_append 171 = .ok (.iload_n 2, 1) := by decide +kernel
theorem dX5_append_172 : decode cX5_append 172 = .ok (.iload 6, 2) := by decide +kernel
theorem dX5_append_174 : decode cX5_append 174 = .ok (.aload_n 0, 1) := by decide +kernel
theorem dX5_append_175 : decode cX5_append 175 = .ok (.getfield 32, 3) := by decide +kernel
theorem dX5_append_178 : decode cX5_append 178 = .ok (.iload_n 2, 1) := by decide +kernel
theorem dX5_append_179 : decode cX5_append 179 = .ok (.iaload, 1) := by decide +kernel
theorem dX5_append_180 : decode cX5_append 180 = .ok (.if_icmp .le 8, 3) := by decide +kernel
theorem dX5_append_183 : decode cX5_append 183 = .ok (.iload 6, 2) := by decide +kernel
theorem dX5_append_185 : decode cX5_append 185 = .ok (.goto 9, 3) := by decide +kernel
theorem dX5_append_188 : decode cX5_append 188 = .ok (.aload_n 0, 1) := by decide +kernel
theorem dX5_append_189 : decode cX5_append 189 = .ok (.getfield 32, 3) := by decide +kernel
theorem dX5_append_192 : decode cX5_append 192 = .ok (.iload_n 2, 1) := by decide +kernel
theorem dX5_append_193 : decode cX5_append 193 = .ok (.iaload, 1) := by decide +kernel
theorem dX5_append_194 : decode cX5_append 194 = .ok (.iastore, 1) := by decide +kernel
theorem dX5_append_195 : decode cX5_append 195 = .ok (.aload_n 0, 1) := by decide +kernel
theorem dX5_append_196 : decode cX5_append 196 = .ok (.iconst 4, 1) := by decide +kernel
theorem dX5_append_197 : decode cX5_append 197 = .ok (.iload_n 2, 1) := by decide +kernel
theorem dX5_append_198 : decode cX5_append 198 = .ok (.iload_n 3, 1) := by decide +kernel
theorem dX5_append_199 : decode cX5_append 199 = .ok (.iconst 1, 1) := by decide +kernel
theorem dX5_append_200 : decode cX5_append 200 = .ok (.iload 5, 2) := by decide +kernel
theorem dX5_append_202 : decode cX5_append 202 = .ok (.invokevirtual 159, 3) := by decide +kernel
theorem dX5_append_205 : decode cX5_append 205 = .ok (.return_, 1) := by decide +kernel
theorem dX5_takeEntry_0 : decode cX5_takeEntry 0 = .ok (.aload_n 0, 1) := by decide +kernel
theorem dX5_takeEntry_1 : decode cX5_takeEntry 1 = .ok (.iload_n 1, 1) := by decide +kernel
theorem dX5_takeEntry_2 : decode cX5_takeEntry 2 = .ok (.iload_n 2, 1) := by decide +kernel
theorem dX5_takeEntry_3 : decode cX5_takeEntry 3 = .ok (.invokevirtual 101, 3) := by decide +kernel
theorem dX5_takeEntry_6 : decode cX5_takeEntry 6 = .ok (.ifCond .eq 68, 3) := by decide +kernel
theorem dX5_takeEntry_9 : decode cX5_takeEntry 9 = .ok (.aload_n 0, 1) := by decide +kernel
theorem dX5_takeEntry_10 : decode cX5_takeEntry 10 = .ok (.getfield 41, 3) := by decide +kernel
theorem dX5_takeEntry_13 : decode cX5_takeEntry 13 = .ok (.aload_n 0, 1) := by decide +kernel
theorem dX5_takeEntry_14 : decode cX5_takeEntry 14 = .ok (.iload_n 1, 1) := by decide +kernel
theorem dX5_takeEntry_15 : decode cX5_takeEntry 15 = .ok (.iload_n 2, 1) := by decide +kernel
theorem dX5_takeEntry_16 : decode cX5_takeEntry 16 = .ok (.invokevirtual 105, 3) := by decide +kernel
theorem dX5_takeEntry_19 : decode cX5_takeEntry 19 = .ok (.iaload, 1) := by decide +kernel
theorem dX5_takeEntry_20 : decode cX5_takeEntry 20 = .ok (.iload_n 3, 1) := by decide +kernel
theorem dX5_takeEntry_21 : decode cX5_takeEntry 21 = .ok (.if_icmp .eq 53, 3) := by decide +kernel
theorem dX5_takeEntry_24 : decode cX5_takeEntry 24 = .ok (.aload_n 0, 1) := by decide +kernel
theorem dX5_takeEntry_25 : decode cX5_takeEntry 25 = .ok (.getfield 38, 3) := by decide +kernel
theorem dX5_takeEntry_28 : decode cX5_takeEntry 28 = .ok (.iload_n 1, 1) := by decide +kernel
theorem dX5_takeEntry_29 : decode cX5_takeEntry 29 = .ok (.iload_n 2, 1) := by decide +kernel
theorem dX5_takeEntry_30 : decode cX5_takeEntry 30 = .ok (.iconst 1, 1) := by decide +kernel
theorem dX5_takeEntry_31 : decode cX5_takeEntry 31 = .ok (.isub, 1) := by decide +kernel
theorem dX5_takeEntry_32 : decode cX5_takeEntry 32 = .ok (.aload_n 0, 1) := by decide +kernel
theorem dX5_takeEntry_33 : decode cX5_takeEntry 33 = .ok (.getfield 23, 3) := by decide +kernel
theorem dX5_takeEntry_36 : decode cX5_takeEntry 36 = .ok (.iload_n 1, 1) := by decide +kernel
theorem dX5_takeEntry_37 : decode cX5_takeEntry 37 = .ok (.iaload, 1) := by decide +kernel
theorem dX5_takeEntry_38 : decode cX5_takeEntry 38 = .ok (.isub, 1) := by decide +kernel
theorem dX5_takeEntry_39 : decode cX5_takeEntry 39 = .ok (.iastore, 1) := by decide +kernel
theorem dX5_takeEntry_40 : decode cX5_takeEntry 40 = .ok (.aload_n 0, 1) := by decide +kernel
theorem dX5_takeEntry_41 : decode cX5_takeEntry 41 = .ok (.getfield 32, 3) := by decide +kernel
theorem dX5_takeEntry_44 : decode cX5_takeEntry 44 = .ok (.iload_n 1, 1) := by decide +kernel
theorem dX5_takeEntry_45 : decode cX5_takeEntry 45 = .ok (.aload_n 0, 1) := by decide +kernel
theorem dX5_takeEntry_46 : decode cX5_takeEntry 46 = .ok (.getfield 32, 3) := by decide +kernel
theorem dX5_takeEntry_49 : decode cX5_takeEntry 49 = .ok (.iload_n 1, 1) := by decide +kernel
theorem dX5_takeEntry_50 : decode cX5_takeEntry 50 = .ok (.iaload, 1) := by decide +kernel
theorem dX5_takeEntry_51 : decode cX5_takeEntry 51 = .ok (.aload_n 0, 1) := by decide +kernel
theorem dX5_takeEntry_52 : decode cX5_takeEntry 52 = .ok (.iload_n 1, 1) := by decide +kernel
theorem dX5_takeEntry_53 : decode cX5_takeEntry 53 = .ok (.invokevirtual 97, 3) := by decide +kernel
theorem dX5_takeEntry_56 : decode cX5_takeEntry 56 = .ok (.if_icmp .ge 12, 3) := by decide +kernel
theorem dX5_takeEntry_59 : decode cX5_takeEntry 59 = .ok (.aload_n 0, 1) := by decide +kernel
theorem dX5_takeEntry_60 : decode cX5_takeEntry 60 = .ok (.getfield 32, 3) := by decide +kernel
theorem dX5_takeEntry_63 : decode cX5_takeEntry 63 = .ok (.iload_n 1, 1) := by decide +kernel
theorem dX5_takeEntry_64 : decode cX5_takeEntry 64 = .ok (.iaload, 1) := by decide +kernel
theorem dX5_takeEntry_65 : decode cX5_takeEntry 65 = .ok (.goto 8, 3) := by decide +kernel
theorem dX5_takeEntry_68 : decode cX5_takeEntry 68 = .ok (.aload_n 0, 1) := by decide +kernel
theorem dX5_takeEntry_69 : decode cX5_takeEntry 69 = .ok (.iload_n 1, 1) := by decide +kernel
theorem dX5_takeEntry_70 : decode cX5_takeEntry 70 = .ok (.invokevirtual 97, 3) := by decide +kernel
theorem dX5_takeEntry_73 : decode cX5_takeEntry 73 = .ok (.iastore, 1) := by decide +kernel
theorem dX5_takeEntry_74 : decode cX5_takeEntry 74 = .ok (.aload_n 0, 1) := by decide +kernel
theorem dX5_takeEntry_75 : decode cX5_takeEntry 75 = .ok (.iload_n 1, 1) := by decide +kernel
theorem dX5_takeEntry_76 : decode cX5_takeEntry 76 = .ok (.iload_n 2, 1) := by decide +kernel
theorem dX5_takeEntry_77 : decode cX5_takeEntry 77 = .ok (.invokevirtual 101, 3) := by decide +kernel
theorem dX5_takeEntry_80 : decode cX5_takeEntry 80 = .ok (.ifCond .ne 24, 3) := by decide +kernel
theorem dX5_takeEntry_83 : decode cX5_takeEntry 83 = .ok (.aload_n 0, 1) := by decide +kernel
theorem dX5_takeEntry_84 : decode cX5_takeEntry 84 = .ok (.getfield 38, 3) := by decide +kernel
theorem dX5_takeEntry_87 : decode cX5_takeEntry 87 = .ok (.iload_n 1, 1) := by decide +kernel
theorem dX5_takeEntry_88 : decode cX5_takeEntry 88 = .ok (.iaload, 1) := by decide +kernel
theorem dX5_takeEntry_89 : decode cX5_takeEntry 89 = .ok (.aload_n 0, 1) := by decide +kernel
theorem dX5_takeEntry_90 : decode cX5_takeEntry 90 = .ok (.getfield 91, 3) := by decide +kernel
theorem dX5_takeEntry_93 : decode cX5_takeEntry 93 = .ok (.if_icmp .ge 11, 3) := by decide +kernel
theorem dX5_takeEntry_96 : decode cX5_takeEntry 96 = .ok (.aload_n 0, 1) := by decide +kernel
theorem dX5_takeEntry_97 : decode cX5_takeEntry 97 = .ok (.iload_n 1, 1) := by decide +kernel
theorem dX5_takeEntry_98 : decode cX5_takeEntry 98 = .ok (.iload_n 3, 1) := by decide +kernel
theorem dX5_takeEntry_99 : decode cX5_takeEntry 99 = .ok (.iload 4, 2) := by decide +kernel
theorem dX5_takeEntry_101 : decode cX5_takeEntry 101 = .ok (.invokevirtual 126, 3) := by decide +kernel
theorem dX5_takeEntry_104 : decode cX5_takeEntry 104 = .ok (.aload_n 0, 1) := by decide +kernel
theorem dX5_takeEntry_105 : decode cX5_takeEntry 105 = .ok (.iload_n 1, 1) := by decide +kernel
theorem dX5_takeEntry_106 : decode cX5_takeEntry 106 = .ok (.iload_n 2, 1) := by decide +kernel
theorem dX5_takeEntry_107 : decode cX5_takeEntry 107 = .ok (.invokevirtual 101, 3) := by decide +kernel
theorem dX5_takeEntry_110 : decode cX5_takeEntry 110 = .ok (.ifCond .eq 7, 3) := by decide +kernel
theorem dX5_takeEntry_113 : decode cX5_takeEntry 113 = .ok (.iload_n 2, 1) := by decide +kernel
theorem dX5_takeEntry_114 : decode cX5_takeEntry 114 = .ok (.goto 6, 3) := by decide +kernel
theorem dX5_takeEntry_117 : decode cX5_takeEntry 117 = .ok (.iload_n 2, 1) := by decide +kernel
theorem dX5_takeEntry_118 : decode cX5_takeEntry 118 = .ok (.iconst 1, 1) := by decide +kernel
theorem dX5_takeEntry_119 : decode cX5_takeEntry 119 = .ok (.isub, 1) := by decide +kernel
theorem dX5_takeEntry_120 : decode cX5_takeEntry 120 = .ok (.ireturn, 1) := by decide +kernel
theorem dX5_appended_0 : decode cX5_appended 0 = .ok (.aload_n 0, 1) := by decide +kernel
theorem dX5_appended_1 : decode cX5_appended 1 = .ok (.getfield 13, 3) := by decide +kernel
theorem dX5_appended_4 : decode cX5_appended 4 = .ok (.iload_n 2, 1) := by decide +kernel
theorem dX5_appended_5 : decode cX5_appended 5 = .ok (.iaload, 1) := by decide +kernel
theorem dX5_appended_6 : decode cX5_appended 6 = .ok (.iconst 2, 1) := by decide +kernel
theorem dX5_appended_7 : decode cX5_appended 7 = .ok (.if_icmp .ne 18, 3) := by decide +kernel
theorem dX5_appended_10 : decode cX5_appended 10 = .ok (.aload_n 0, 1) := by decide +kernel
theorem dX5_appended_11 : decode cX5_appended 11 = .ok (.getfield 62, 3) := by decide +kernel
theorem dX5_appended_14 : decode cX5_appended 14 = .ok (.iload_n 1, 1) := by decide +kernel
theorem dX5_appended_15 : decode cX5_appended 15 = .ok (.iaload, 1) := by decide +kernel
theorem dX5_appended_16 : decode cX5_appended 16 = .ok (.aload_n 0, 1) := by decide +kernel
theorem dX5_appended_17 : decode cX5_appended 17 = .ok (.getfield 17, 3) := by decide +kernel
theorem dX5_appended_20 : decode cX5_appended 20 = .ok (.iload_n 2, 1) := by decide +kernel
theorem dX5_appended_21 : decode cX5_appended 21 = .ok (.iaload, 1) := by decide +kernel
theorem dX5_appended_22 : decode cX5_appended 22 = .ok (.if_icmp .eq 4, 3) := by decide +kernel
theorem dX5_appended_25 : decode cX5_appended 25 = .ok (.return_, 1) := by decide +kernel
theorem dX5_appended_26 : decode cX5_appended 26 = .ok (.iconst 5, 1) := by decide +kernel
theorem dX5_appended_27 : decode cX5_appended 27 = .ok (.iload_n 2, 1) := by decide +kernel
theorem dX5_appended_28 : decode cX5_appended 28 = .ok (.imul, 1) := by decide +kernel
theorem dX5_appended_29 : decode cX5_appended 29 = .ok (.iload_n 3, 1) := by decide +kernel
theorem dX5_appended_30 : decode cX5_appended 30 = .ok (.iadd, 1) := by decide +kernel
theorem dX5_appended_31 : decode cX5_appended 31 = .ok (.istore 4, 2) := by decide +kernel
theorem dX5_appended_33 : decode cX5_appended 33 = .ok (.aload_n 0, 1) := by decide +kernel
theorem dX5_appended_34 : decode cX5_appended 34 = .ok (.getfield 71, 3) := by decide +kernel
theorem dX5_appended_37 : decode cX5_appended 37 = .ok (.iload_n 1, 1) := by decide +kernel
theorem dX5_appended_38 : decode cX5_appended 38 = .ok (.baload, 1) := by decide +kernel
theorem dX5_appended_39 : decode cX5_appended 39 = .ok (.ifCond .eq 66, 3) := by decide +kernel
theorem dX5_appended_42 : decode cX5_appended 42 = .ok (.aload_n 0, 1) := by decide +kernel
theorem dX5_appended_43 : decode cX5_appended 43 = .ok (.getfield 50, 3) := by decide +kernel
theorem dX5_appended_46 : decode cX5_appended 46 = .ok (.iload 4, 2) := by decide +kernel
theorem dX5_appended_48 : decode cX5_appended 48 = .ok (.aload_n 0, 1) := by decide +kernel
theorem dX5_appended_49 : decode cX5_appended 49 = .ok (.getfield 65, 3) := by decide +kernel
theorem dX5_appended_52 : decode cX5_appended 52 = .ok (.iload_n 1, 1) := by decide +kernel
theorem dX5_appended_53 : decode cX5_appended 53 = .ok (.iaload, 1) := by decide +kernel
theorem dX5_appended_54 : decode cX5_appended 54 = .ok (.aload_n 0, 1) := by decide +kernel
theorem dX5_appended_55 : decode cX5_appended 55 = .ok (.getfield 50, 3) := by decide +kernel
theorem dX5_appended_58 : decode cX5_appended 58 = .ok (.iload 4, 2) := by decide +kernel
theorem dX5_appended_60 : decode cX5_appended 60 = .ok (.iaload, 1) := by decide +kernel
theorem dX5_appended_61 : decode cX5_appended 61 = .ok (.if_icmp .le 12, 3) := by decide +kernel
theorem dX5_appended_64 : decode cX5_appended 64 = .ok (.aload_n 0, 1) := by decide +kernel
theorem dX5_appended_65 : decode cX5_appended 65 = .ok (.getfield 65, 3) := by decide +kernel
theorem dX5_appended_68 : decode cX5_appended 68 = .ok (.iload_n 1, 1) := by decide +kernel
theorem dX5_appended_69 : decode cX5_appended 69 = .ok (.iaload, 1) := by decide +kernel
theorem dX5_appended_70 : decode cX5_appended 70 = .ok (.goto 10, 3) := by decide +kernel
theorem dX5_appended_73 : decode cX5_appended 73 = .ok (.aload_n 0, 1) := by decide +kernel
theorem dX5_appended_74 : decode cX5_appended 74 = .ok (.getfield 50, 3) := by decide +kernel
theorem dX5_appended_77 : decode cX5_appended 77 = .ok (.iload 4, 2) := by decide +kernel
theorem dX5_appended_79 : decode cX5_appended 79 = .ok (.iaload, 1) := by decide +kernel
theorem dX5_appended_80 : decode cX5_appended 80 = .ok (.iastore, 1) := by decide +kernel
theorem dX5_appended_81 : decode cX5_appended 81 = .ok (.aload_n 0, 1) := by decide +kernel
theorem dX5_appended_82 : decode cX5_appended 82 = .ok (.getfield 47, 3) := by decide +kernel
theorem dX5_appended_85 : decode cX5_appended 85 = .ok (.iload 4, 2) := by decide +kernel
theorem dX5_appended_87 : decode cX5_appended 87 = .ok (.aload_n 0, 1) := by decide +kernel
theorem dX5_appended_88 : decode cX5_appended 88 = .ok (.getfield 50, 3) := by decide +kernel
theorem dX5_appended_91 : decode cX5_appended 91 = .ok (.iload 4, 2) := by decide +kernel
theorem dX5_appended_93 : decode cX5_appended 93 = .ok (.iaload, 1) := by decide +kernel
theorem dX5_appended_94 : decode cX5_appended 94 = .ok (.iconst 1, 1) := by decide +kernel
theorem dX5_appended_95 : decode cX5_appended 95 = .ok (.iadd, 1) := by decide +kernel
theorem dX5_appended_96 : decode cX5_appended 96 = .ok (.iastore, 1) := by decide +kernel
theorem dX5_appended_97 : decode cX5_appended 97 = .ok (.aload_n 0, 1) := by decide +kernel
theorem dX5_appended_98 : decode cX5_appended 98 = .ok (.iload_n 2, 1) := by decide +kernel
theorem dX5_appended_99 : decode cX5_appended 99 = .ok (.invokevirtual 170, 3) := by decide +kernel
theorem dX5_appended_102 : decode cX5_appended 102 = .ok (.goto 34, 3) := by decide +kernel
theorem dX5_appended_105 : decode cX5_appended 105 = .ok (.aload_n 0, 1) := by decide +kernel
theorem dX5_appended_106 : decode cX5_appended 106 = .ok (.getfield 47, 3) := by decide +kernel
theorem dX5_appended_109 : decode cX5_appended 109 = .ok (.iload 4, 2) := by decide +kernel
theorem dX5_appended_111 : decode cX5_appended 111 = .ok (.aload_n 0, 1) := by decide +kernel
theorem dX5_appended_112 : decode cX5_appended 112 = .ok (.getfield 47, 3) := by decide +kernel
theorem dX5_appended_115 : decode cX5_appended 115 = .ok (.iload 4, 2) := by decide +kernel
theorem dX5_appended_117 : decode cX5_appended 117 = .ok (.iaload, 1) := by decide +kernel
theorem dX5_appended_118 : decode cX5_appended 118 = .ok (.iconst 2, 1) := by decide +kernel
theorem dX5_appended_119 : decode cX5_appended 119 = .ok (.if_icmp .le 15, 3) := by decide +kernel
theorem dX5_appended_122 : decode cX5_appended 122 = .ok (.aload_n 0, 1) := by decide +kernel
theorem dX5_appended_123 : decode cX5_appended 123 = .ok (.getfield 47, 3) := by decide +kernel
theorem dX5_appended_126 : decode cX5_appended 126 = .ok (.iload 4, 2) := by decide +kernel
theorem dX5_appended_128 : decode cX5_appended 128 = .ok (.iaload, 1) := by decide +kernel
theorem dX5_appended_129 : decode cX5_appended 129 = .ok (.iconst 1, 1) := by decide +kernel
theorem dX5_appended_130 : decode cX5_appended 130 = .ok (.isub, 1) := by decide +kernel
theorem dX5_appended_131 : decode cX5_appended 131 = .ok (.goto 4, 3) := by decide +kernel
theorem dX5_appended_134 : decode cX5_appended 134 = .ok (.iconst 1, 1) := by decide +kernel
theorem dX5_appended_135 : decode cX5_appended 135 = .ok (.iastore, 1) := by decide +kernel
theorem dX5_appended_136 : decode cX5_appended 136 = .ok (.return_, 1) := by decide +kernel
theorem dX5_count_0 : decode cX5_count 0 = .ok (.aload_n 0, 1) := by decide +kernel
theorem dX5_count_1 : decode cX5_count 1 = .ok (.getfield 32, 3) := by decide +kernel
theorem dX5_count_4 : decode cX5_count 4 = .ok (.iload_n 1, 1) := by decide +kernel
theorem dX5_count_5 : decode cX5_count 5 = .ok (.iaload, 1) := by decide +kernel
theorem dX5_count_6 : decode cX5_count 6 = .ok (.istore_n 2, 1) := by decide +kernel
theorem dX5_count_7 : decode cX5_count 7 = .ok (.aload_n 0, 1) := by decide +kernel
theorem dX5_count_8 : decode cX5_count 8 = .ok (.getfield 32, 3) := by decide +kernel
theorem dX5_count_11 : decode cX5_count 11 = .ok (.iload_n 1, 1) := by decide +kernel
theorem dX5_count_12 : decode cX5_count 12 = .ok (.iaload, 1) := by decide +kernel
theorem dX5_count_13 : decode cX5_count 13 = .ok (.iconst 1, 1) := by decide +kernel
theorem dX5_count_14 : decode cX5_count 14 = .ok (.iadd, 1) := by decide +kernel
theorem dX5_count_15 : decode cX5_count 15 = .ok (.istore_n 3, 1) := by decide +kernel
theorem dX5_count_16 : decode cX5_count 16 = .ok (.iload_n 3, 1) := by decide +kernel
theorem dX5_count_17 : decode cX5_count 17 = .ok (.aload_n 0, 1) := by decide +kernel
theorem dX5_count_18 : decode cX5_count 18 = .ok (.iload_n 1, 1) := by decide +kernel
theorem dX5_count_19 : decode cX5_count 19 = .ok (.invokevirtual 97, 3) := by decide +kernel
theorem dX5_count_22 : decode cX5_count 22 = .ok (.if_icmp .gt 94, 3) := by decide +kernel
theorem dX5_count_25 : decode cX5_count 25 = .ok (.iconst 1, 1) := by decide +kernel
theorem dX5_count_26 : decode cX5_count 26 = .ok (.iload_n 1, 1) := by decide +kernel
theorem dX5_count_27 : decode cX5_count 27 = .ok (.ishl, 1) := by decide +kernel
theorem dX5_count_28 : decode cX5_count 28 = .ok (.istore 4, 2) := by decide +kernel
theorem dX5_count_30 : decode cX5_count 30 = .ok (.iconst 0, 1) := by decide +kernel
theorem dX5_count_31 : decode cX5_count 31 = .ok (.istore 5, 2) := by decide +kernel
theorem dX5_count_33 : decode cX5_count 33 = .ok (.iload 5, 2) := by decide +kernel
theorem dX5_count_35 : decode cX5_count 35 = .ok (.aload_n 0, 1) := by decide +kernel
theorem dX5_count_36 : decode cX5_count 36 = .ok (.getfield 87, 3) := by decide +kernel
theorem dX5_count_39 : decode cX5_count 39 = .ok (.if_icmp .ge 38, 3) := by decide +kernel
theorem dX5_count_42 : decode cX5_count 42 = .ok (.aload_n 0, 1) := by decide +kernel
theorem dX5_count_43 : decode cX5_count 43 = .ok (.getfield 50, 3) := by decide +kernel
theorem dX5_count_46 : decode cX5_count 46 = .ok (.iconst 5, 1) := by decide +kernel
theorem dX5_count_47 : decode cX5_count 47 = .ok (.iload_n 1, 1) := by decide +kernel
theorem dX5_count_48 : decode cX5_count 48 = .ok (.imul, 1) := by decide +kernel
theorem dX5_count_49 : decode cX5_count 49 = .ok (.iload 5, 2) := by decide +kernel
theorem dX5_count_51 : decode cX5_count 51 = .ok (.iadd, 1) := by decide +kernel
theorem dX5_count_52 : decode cX5_count 52 = .ok (.iaload, 1) := by decide +kernel
theorem dX5_count_53 : decode cX5_count 53 = .ok (.iload_n 3, 1) := by decide +kernel
theorem dX5_count_54 : decode cX5_count 54 = .ok (.if_icmp .lt 13, 3) := by decide +kernel
theorem dX5_count_57 : decode cX5_count 57 = .ok (.iload 4, 2) := by decide +kernel
theorem dX5_count_59 : decode cX5_count 59 = .ok (.iconst 1, 1) := by decide +kernel
theorem dX5_count_60 : decode cX5_count 60 = .ok (.iload 5, 2) := by decide +kernel
theorem dX5_count_62 : decode cX5_count 62 = .ok (.ishl, 1) := by decide +kernel
theorem dX5_count_63 : decode cX5_count 63 = .ok (.ior, 1) := by decide +kernel
theorem dX5_count_64 : decode cX5_count 64 = .ok (.goto 5, 3) := by decide +kernel
theorem dX5_count_67 : decode cX5_count 67 = .ok (.iload 4, 2) := by decide +kernel
theorem dX5_count_69 : decode cX5_count 69 = .ok (.istore 4, 2) := by decide +kernel
theorem dX5_count_71 : decode cX5_count 71 = .ok (.iinc 5 1, 3) := by decide +kernel
theorem dX5_count_74 : decode cX5_count 74 = .ok (.goto (-41), 3) := by decide +kernel
theorem dX5_count_77 : decode cX5_count 77 = .ok (.aload_n 0, 1) := by decide +kernel
theorem dX5_count_78 : decode cX5_count 78 = .ok (.iload_n 1, 1) := by decide +kernel
theorem dX5_count_79 : decode cX5_count 79 = .ok (.iload_n 3, 1) := by decide +kernel
theorem dX5_count_80 : decode cX5_count 80 = .ok (.invokevirtual 123, 3) := by decide +kernel
theorem dX5_count_83 : decode cX5_count 83 = .ok (.aload_n 0, 1) := by decide +kernel
theorem dX5_count_84 : decode cX5_count 84 = .ok (.getfield 17, 3) := by decide +kernel
theorem dX5_count_87 : decode cX5_count 87 = .ok (.iload_n 1, 1) := by decide +kernel
theorem dX5_count_88 : decode cX5_count 88 = .ok (.iaload, 1) := by decide +kernel
theorem dX5_count_89 : decode cX5_count 89 = .ok (.if_icmp .ne 19, 3) := by decide +kernel
theorem dX5_count_92 : decode cX5_count 92 = .ok (.iload 4, 2) := by decide +kernel
theorem dX5_count_94 : decode cX5_count 94 = .ok (.aload_n 0, 1) := by decide +kernel
theorem dX5_count_95 : decode cX5_count 95 = .ok (.getfield 87, 3) := by decide +kernel
theorem dX5_count_98 : decode cX5_count 98 = .ok (.invokestatic 163, 3) := by decide +kernel
theorem dX5_count_101 : decode cX5_count 101 = .ok (.ifCond .eq 7, 3) := by decide +kernel
theorem dX5_count_104 : decode cX5_count 104 = .ok (.iload_n 3, 1) := by decide +kernel
theorem dX5_count_105 : decode cX5_count 105 = .ok (.goto 4, 3) := by decide +kernel
theorem dX5_count_108 : decode cX5_count 108 = .ok (.iload_n 2, 1) := by decide +kernel
theorem dX5_count_109 : decode cX5_count 109 = .ok (.istore_n 2, 1) := by decide +kernel
theorem dX5_count_110 : decode cX5_count 110 = .ok (.iinc 3 1, 3) := by decide +kernel
theorem dX5_count_113 : decode cX5_count 113 = .ok (.goto (-97), 3) := by decide +kernel
theorem dX5_count_116 : decode cX5_count 116 = .ok (.aload_n 0, 1) := by decide +kernel
theorem dX5_count_117 : decode cX5_count 117 = .ok (.getfield 32, 3) := by decide +kernel
theorem dX5_count_120 : decode cX5_count 120 = .ok (.iload_n 1, 1) := by decide +kernel
theorem dX5_count_121 : decode cX5_count 121 = .ok (.iload_n 2, 1) := by decide +kernel
theorem dX5_count_122 : decode cX5_count 122 = .ok (.iastore, 1) := by decide +kernel
theorem dX5_count_123 : decode cX5_count 123 = .ok (.return_, 1) := by decide +kernel
theorem dX5_snapshot_0 : decode cX5_snapshot 0 = .ok (.aload_n 0, 1) := by decide +kernel
theorem dX5_snapshot_1 : decode cX5_snapshot 1 = .ok (.getfield 62, 3) := by decide +kernel
theorem dX5_snapshot_4 : decode cX5_snapshot 4 = .ok (.iload_n 1, 1) := by decide +kernel
theorem dX5_snapshot_5 : decode cX5_snapshot 5 = .ok (.iaload, 1) := by decide +kernel
theorem dX5_snapshot_6 : decode cX5_snapshot 6 = .ok (.aload_n 0, 1) := by decide +kernel
theorem dX5_snapshot_7 : decode cX5_snapshot 7 = .ok (.getfield 17, 3) := by decide +kernel
theorem dX5_snapshot_10 : decode cX5_snapshot 10 = .ok (.iload_n 2, 1) := by decide +kernel
theorem dX5_snapshot_11 : decode cX5_snapshot 11 = .ok (.iaload, 1) := by decide +kernel
theorem dX5_snapshot_12 : decode cX5_snapshot 12 = .ok (.if_icmp .ge 13, 3) := by decide +kernel
theorem dX5_snapshot_15 : decode cX5_snapshot 15 = .ok (.aload_n 0, 1) := by decide +kernel
theorem dX5_snapshot_16 : decode cX5_snapshot 16 = .ok (.iconst 4, 1) := by decide +kernel
theorem dX5_snapshot_17 : decode cX5_snapshot 17 = .ok (.iload_n 2, 1) := by decide +kernel
theorem dX5_snapshot_18 : decode cX5_snapshot 18 = .ok (.iload_n 3, 1) := by decide +kernel
theorem dX5_snapshot_19 : decode cX5_snapshot 19 = .ok (.iconst 0, 1) := by decide +kernel
theorem dX5_snapshot_20 : decode cX5_snapshot 20 = .ok (.iconst 0, 1) := by decide +kernel
theorem dX5_snapshot_21 : decode cX5_snapshot 21 = .ok (.invokevirtual 159, 3) := by decide +kernel
theorem dX5_snapshot_24 : decode cX5_snapshot 24 = .ok (.return_, 1) := by decide +kernel
theorem dX5_snapshot_25 : decode cX5_snapshot 25 = .ok (.aload_n 0, 1) := by decide +kernel
theorem dX5_snapshot_26 : decode cX5_snapshot 26 = .ok (.getfield 13, 3) := by decide +kernel
theorem dX5_snapshot_29 : decode cX5_snapshot 29 = .ok (.iload_n 2, 1) := by decide +kernel
theorem dX5_snapshot_30 : decode cX5_snapshot 30 = .ok (.iconst 0, 1) := by decide +kernel
theorem dX5_snapshot_31 : decode cX5_snapshot 31 = .ok (.iastore, 1) := by decide +kernel
theorem dX5_snapshot_32 : decode cX5_snapshot 32 = .ok (.aload_n 0, 1) := by decide +kernel
theorem dX5_snapshot_33 : decode cX5_snapshot 33 = .ok (.getfield 65, 3) := by decide +kernel
theorem dX5_snapshot_36 : decode cX5_snapshot 36 = .ok (.iload_n 1, 1) := by decide +kernel
theorem dX5_snapshot_37 : decode cX5_snapshot 37 = .ok (.iaload, 1) := by decide +kernel
theorem dX5_snapshot_38 : decode cX5_snapshot 38 = .ok (.istore 4, 2) := by decide +kernel
theorem dX5_snapshot_40 : decode cX5_snapshot 40 = .ok (.iload 4, 2) := by decide +kernel
theorem dX5_snapshot_42 : decode cX5_snapshot 42 = .ok (.aload_n 0, 1) := by decide +kernel
theorem dX5_snapshot_43 : decode cX5_snapshot 43 = .ok (.getfield 32, 3) := by decide +kernel
theorem dX5_snapshot_46 : decode cX5_snapshot 46 = .ok (.iload_n 2, 1) := by decide +kernel
theorem dX5_snapshot_47 : decode cX5_snapshot 47 = .ok (.iaload, 1) := by decide +kernel
theorem dX5_snapshot_48 : decode cX5_snapshot 48 = .ok (.if_icmp .gt 18, 3) := by decide +kernel
theorem dX5_snapshot_51 : decode cX5_snapshot 51 = .ok (.aload_n 0, 1) := by decide +kernel
theorem dX5_snapshot_52 : decode cX5_snapshot 52 = .ok (.iconst 4, 1) := by decide +kernel
theorem dX5_snapshot_53 : decode cX5_snapshot 53 = .ok (.iload_n 2, 1) := by decide +kernel
theorem dX5_snapshot_54 : decode cX5_snapshot 54 = .ok (.iload_n 3, 1) := by decide +kernel
theorem dX5_snapshot_55 : decode cX5_snapshot 55 = .ok (.iconst 1, 1) := by decide +kernel
theorem dX5_snapshot_56 : decode cX5_snapshot 56 = .ok (.aload_n 0, 1) := by decide +kernel
theorem dX5_snapshot_57 : decode cX5_snapshot 57 = .ok (.getfield 32, 3) := by decide +kernel
theorem dX5_snapshot_60 : decode cX5_snapshot 60 = .ok (.iload_n 2, 1) := by decide +kernel
theorem dX5_snapshot_61 : decode cX5_snapshot 61 = .ok (.iaload, 1) := by decide +kernel
theorem dX5_snapshot_62 : decode cX5_snapshot 62 = .ok (.invokevirtual 159, 3) := by decide +kernel
theorem dX5_snapshot_65 : decode cX5_snapshot 65 = .ok (.return_, 1) := by decide +kernel
theorem dX5_snapshot_66 : decode cX5_snapshot 66 = .ok (.aload_n 0, 1) := by decide +kernel
theorem dX5_snapshot_67 : decode cX5_snapshot 67 = .ok (.iload_n 2, 1) := by decide +kernel
theorem dX5_snapshot_68 : decode cX5_snapshot 68 = .ok (.iload 4, 2) := by decide +kernel
theorem dX5_snapshot_70 : decode cX5_snapshot 70 = .ok (.invokevirtual 101, 3) := by decide +kernel
theorem dX5_snapshot_73 : decode cX5_snapshot 73 = .ok (.ifCond .eq 28, 3) := by decide +kernel
theorem dX5_snapshot_76 : decode cX5_snapshot 76 = .ok (.aload_n 0, 1) := by decide +kernel
theorem dX5_snapshot_77 : decode cX5_snapshot 77 = .ok (.getfield 41, 3) := by decide +kernel
theorem dX5_snapshot_80 : decode cX5_snapshot 80 = .ok (.aload_n 0, 1) := by decide +kernel
theorem dX5_snapshot_81 : decode cX5_snapshot 81 = .ok (.iload_n 2, 1) := by decide +kernel
theorem dX5_snapshot_82 : decode cX5_snapshot 82 = .ok (.iload 4, 2) := by decide +kernel
theorem dX5_snapshot_84 : decode cX5_snapshot 84 = .ok (.invokevirtual 105, 3) := by decide +kernel
theorem dX5_snapshot_87 : decode cX5_snapshot 87 = .ok (.iaload, 1) := by decide +kernel
theorem dX5_snapshot_88 : decode cX5_snapshot 88 = .ok (.aload_n 0, 1) := by decide +kernel
theorem dX5_snapshot_89 : decode cX5_snapshot 89 = .ok (.getfield 68, 3) := by decide +kernel
theorem dX5_snapshot_92 : decode cX5_snapshot 92 = .ok (.iload_n 1, 1) := by decide +kernel
theorem dX5_snapshot_93 : decode cX5_snapshot 93 = .ok (.iaload, 1) := by decide +kernel
theorem dX5_snapshot_94 : decode cX5_snapshot 94 = .ok (.if_icmp .ne 7, 3) := by decide +kernel
theorem dX5_snapshot_97 : decode cX5_snapshot 97 = .ok (.iconst 1, 1) := by decide +kernel
theorem dX5_snapshot_98 : decode cX5_snapshot 98 = .ok (.goto 4, 3) := by decide +kernel
theorem dX5_snapshot_101 : decode cX5_snapshot 101 = .ok (.iconst 0, 1) := by decide +kernel
theorem dX5_snapshot_102 : decode cX5_snapshot 102 = .ok (.istore 5, 2) := by decide +kernel
theorem dX5_snapshot_104 : decode cX5_snapshot 104 = .ok (.aload_n 0, 1) := by decide +kernel
theorem dX5_snapshot_105 : decode cX5_snapshot 105 = .ok (.iload_n 2, 1) := by decide +kernel
theorem dX5_snapshot_106 : decode cX5_snapshot 106 = .ok (.iload 5, 2) := by decide +kernel
theorem dX5_snapshot_108 : decode cX5_snapshot 108 = .ok (.ifCond .eq 15, 3) := by decide +kernel
theorem dX5_snapshot_111 : decode cX5_snapshot 111 = .ok (.iload 4, 2) := by decide +kernel
theorem dX5_snapshot_113 : decode cX5_snapshot 113 = .ok (.aload_n 0, 1) := by decide +kernel
theorem dX5_snapshot_114 : decode cX5_snapshot 114 = .ok (.getfield 23, 3) := by decide +kernel
theorem dX5_snapshot_117 : decode cX5_snapshot 117 = .ok (.iload_n 2, 1) := by decide +kernel
theorem dX5_snapshot_118 : decode cX5_snapshot 118 = .ok (.iaload, 1) := by decide +kernel
theorem dX5_snapshot_119 : decode cX5_snapshot 119 = .ok (.isub, 1) := by decide +kernel
theorem dX5_snapshot_120 : decode cX5_snapshot 120 = .ok (.goto 9, 3) := by decide +kernel
theorem dX5_snapshot_123 : decode cX5_snapshot 123 = .ok (.aload_n 0, 1) := by decide +kernel
theorem dX5_snapshot_124 : decode cX5_snapshot 124 = .ok (.getfield 38, 3) := by decide +kernel
theorem dX5_snapshot_127 : decode cX5_snapshot 127 = .ok (.iload_n 2, 1) := by decide +kernel
theorem dX5_snapshot_128 : decode cX5_snapshot 128 = .ok (.iaload, 1) := by decide +kernel
theorem dX5_snapshot_129 : decode cX5_snapshot 129 = .ok (.invokevirtual 133, 3) := by decide +kernel
theorem dX5_snapshot_132 : decode cX5_snapshot 132 = .ok (.aload_n 0, 1) := by decide +kernel
theorem dX5_snapshot_133 : decode cX5_snapshot 133 = .ok (.getfield 23, 3) := by decide +kernel
theorem dX5_snapshot_136 : decode cX5_snapshot 136 = .ok (.iload_n 2, 1) := by decide +kernel
theorem dX5_snapshot_137 : decode cX5_snapshot 137 = .ok (.iload 4, 2) := by decide +kernel
theorem dX5_snapshot_139 : decode cX5_snapshot 139 = .ok (.iastore, 1) := by decide +kernel
theorem dX5_snapshot_140 : decode cX5_snapshot 140 = .ok (.aload_n 0, 1) := by decide +kernel
theorem dX5_snapshot_141 : decode cX5_snapshot 141 = .ok (.getfield 26, 3) := by decide +kernel
theorem dX5_snapshot_144 : decode cX5_snapshot 144 = .ok (.iload_n 2, 1) := by decide +kernel
theorem dX5_snapshot_145 : decode cX5_snapshot 145 = .ok (.aload_n 0, 1) := by decide +kernel
theorem dX5_snapshot_146 : decode cX5_snapshot 146 = .ok (.getfield 68, 3) := by decide +kernel
theorem dX5_snapshot_149 : decode cX5_snapshot 149 = .ok (.iload_n 1, 1) := by decide +kernel
theorem dX5_snapshot_150 : decode cX5_snapshot 150 = .ok (.iaload, 1) := by decide +kernel
theorem dX5_snapshot_151 : decode cX5_snapshot 151 = .ok (.iastore, 1) := by decide +kernel
theorem dX5_snapshot_152 : decode cX5_snapshot 152 = .ok (.aload_n 0, 1) := by decide +kernel
theorem dX5_snapshot_153 : decode cX5_snapshot 153 = .ok (.getfield 29, 3) := by decide +kernel
theorem dX5_snapshot_156 : decode cX5_snapshot 156 = .ok (.iload_n 2, 1) := by decide +kernel
theorem dX5_snapshot_157 : decode cX5_snapshot 157 = .ok (.aload_n 0, 1) := by decide +kernel
theorem dX5_snapshot_158 : decode cX5_snapshot 158 = .ok (.getfield 77, 3) := by decide +kernel
theorem dX5_snapshot_161 : decode cX5_snapshot 161 = .ok (.iload_n 1, 1) := by decide +kernel
theorem dX5_snapshot_162 : decode cX5_snapshot 162 = .ok (.iaload, 1) := by decide +kernel
theorem dX5_snapshot_163 : decode cX5_snapshot 163 = .ok (.iastore, 1) := by decide +kernel
theorem dX5_snapshot_164 : decode cX5_snapshot 164 = .ok (.aload_n 0, 1) := by decide +kernel
theorem dX5_snapshot_165 : decode cX5_snapshot 165 = .ok (.getfield 32, 3) := by decide +kernel
theorem dX5_snapshot_168 : decode cX5_snapshot 168 = .ok (.iload_n 2, 1) := by decide +kernel
theorem dX5_snapshot_169 : decode cX5_snapshot 169 = .ok (.iload 4, 2) := by decide +kernel
theorem dX5_snapshot_171 : decode cX5_snapshot 171 = .ok (.iastore, 1) := by decide +kernel
theorem dX5_snapshot_172 : decode cX5_snapshot 172 = .ok (.aload_n 0, 1) := by decide +kernel
theorem dX5_snapshot_173 : decode cX5_snapshot 173 = .ok (.iconst 4, 1) := by decide +kernel
theorem dX5_snapshot_174 : decode cX5_snapshot 174 = .ok (.iload_n 2, 1) := by decide +kernel
theorem dX5_snapshot_175 : decode cX5_snapshot 175 = .ok (.iload_n 3, 1) := by decide +kernel
theorem dX5_snapshot_176 : decode cX5_snapshot 176 = .ok (.iconst 1, 1) := by decide +kernel
theorem dX5_snapshot_177 : decode cX5_snapshot 177 = .ok (.iload 4, 2) := by decide +kernel
theorem dX5_snapshot_179 : decode cX5_snapshot 179 = .ok (.invokevirtual 159, 3) := by decide +kernel
theorem dX5_snapshot_182 : decode cX5_snapshot 182 = .ok (.return_, 1) := by decide +kernel
theorem dX5_drop_0 : decode cX5_drop 0 = .ok (.aload_n 0, 1) := by decide +kernel
theorem dX5_drop_1 : decode cX5_drop 1 = .ok (.iload_n 1, 1) := by decide +kernel
theorem dX5_drop_2 : decode cX5_drop 2 = .ok (.invokevirtual 137, 3) := by decide +kernel
theorem dX5_drop_5 : decode cX5_drop 5 = .ok (.ifCond .ne 5, 3) := by decide +kernel
theorem dX5_drop_8 : decode cX5_drop 8 = .ok (.iconst (-1), 1) := by decide +kernel
theorem dX5_drop_9 : decode cX5_drop 9 = .ok (.ireturn, 1) := by decide +kernel
theorem dX5_drop_10 : decode cX5_drop 10 = .ok (.aload_n 0, 1) := by decide +kernel
theorem dX5_drop_11 : decode cX5_drop 11 = .ok (.getfield 53, 3) := by decide +kernel
theorem dX5_drop_14 : decode cX5_drop 14 = .ok (.iload_n 1, 1) := by decide +kernel
theorem dX5_drop_15 : decode cX5_drop 15 = .ok (.iaload, 1) := by decide +kernel
theorem dX5_drop_16 : decode cX5_drop 16 = .ok (.ifCond .ne 6, 3) := by decide +kernel
theorem dX5_drop_19 : decode cX5_drop 19 = .ok (.bipush (-5), 2) := by decide +kernel
theorem dX5_drop_21 : decode cX5_drop 21 = .ok (.ireturn, 1) := by decide +kernel
theorem dX5_drop_22 : decode cX5_drop 22 = .ok (.aload_n 0, 1) := by decide +kernel
theorem dX5_drop_23 : decode cX5_drop 23 = .ok (.getfield 53, 3) := by decide +kernel
theorem dX5_drop_26 : decode cX5_drop 26 = .ok (.iload_n 1, 1) := by decide +kernel
theorem dX5_drop_27 : decode cX5_drop 27 = .ok (.iconst 0, 1) := by decide +kernel
theorem dX5_drop_28 : decode cX5_drop 28 = .ok (.iastore, 1) := by decide +kernel
theorem dX5_drop_29 : decode cX5_drop 29 = .ok (.iconst 0, 1) := by decide +kernel
theorem dX5_drop_30 : decode cX5_drop 30 = .ok (.ireturn, 1) := by decide +kernel
theorem dX5_duplicate_0 : decode cX5_duplicate 0 = .ok (.aload_n 0, 1) := by decide +kernel
theorem dX5_duplicate_1 : decode cX5_duplicate 1 = .ok (.iload_n 1, 1) := by decide +kernel
theorem dX5_duplicate_2 : decode cX5_duplicate 2 = .ok (.invokevirtual 137, 3) := by decide +kernel
theorem dX5_duplicate_5 : decode cX5_duplicate 5 = .ok (.ifCond .ne 5, 3) := by decide +kernel
theorem dX5_duplicate_8 : decode cX5_duplicate 8 = .ok (.iconst (-1), 1) := by decide +kernel
theorem dX5_duplicate_9 : decode cX5_duplicate 9 = .ok (.ireturn, 1) := by decide +kernel
theorem dX5_duplicate_10 : decode cX5_duplicate 10 = .ok (.aload_n 0, 1) := by decide +kernel
theorem dX5_duplicate_11 : decode cX5_duplicate 11 = .ok (.getfield 53, 3) := by decide +kernel
theorem dX5_duplicate_14 : decode cX5_duplicate 14 = .ok (.iload_n 1, 1) := by decide +kernel
theorem dX5_duplicate_15 : decode cX5_duplicate 15 = .ok (.iaload, 1) := by decide +kernel
theorem dX5_duplicate_16 : decode cX5_duplicate 16 = .ok (.ifCond .ne 6, 3) := by decide +kernel
theorem dX5_duplicate_19 : decode cX5_duplicate 19 = .ok (.bipush (-5), 2) := by decide +kernel
theorem dX5_duplicate_21 : decode cX5_duplicate 21 = .ok (.ireturn, 1) := by decide +kernel
theorem dX5_duplicate_22 : decode cX5_duplicate 22 = .ok (.aload_n 0, 1) := by decide +kernel
theorem dX5_duplicate_23 : decode cX5_duplicate 23 = .ok (.invokevirtual 109, 3) := by decide +kernel
theorem dX5_duplicate_26 : decode cX5_duplicate 26 = .ok (.istore_n 2, 1) := by decide +kernel
theorem dX5_duplicate_27 : decode cX5_duplicate 27 = .ok (.iload_n 2, 1) := by decide +kernel
theorem dX5_duplicate_28 : decode cX5_duplicate 28 = .ok (.ifCond .ge 6, 3) := by decide +kernel
theorem dX5_duplicate_31 : decode cX5_duplicate 31 = .ok (.bipush (-4), 2) := by decide +kernel
theorem dX5_duplicate_33 : decode cX5_duplicate 33 = .ok (.ireturn, 1) := by decide +kernel
theorem dX5_duplicate_34 : decode cX5_duplicate 34 = .ok (.aload_n 0, 1) := by decide +kernel
theorem dX5_duplicate_35 : decode cX5_duplicate 35 = .ok (.getfield 53, 3) := by decide +kernel
theorem dX5_duplicate_38 : decode cX5_duplicate 38 = .ok (.iload_n 2, 1) := by decide +kernel
theorem dX5_duplicate_39 : decode cX5_duplicate 39 = .ok (.aload_n 0, 1) := by decide +kernel
theorem dX5_duplicate_40 : decode cX5_duplicate 40 = .ok (.getfield 53, 3) := by decide +kernel
theorem dX5_duplicate_43 : decode cX5_duplicate 43 = .ok (.iload_n 1, 1) := by decide +kernel
theorem dX5_duplicate_44 : decode cX5_duplicate 44 = .ok (.iaload, 1) := by decide +kernel
theorem dX5_duplicate_45 : decode cX5_duplicate 45 = .ok (.iastore, 1) := by decide +kernel
theorem dX5_duplicate_46 : decode cX5_duplicate 46 = .ok (.aload_n 0, 1) := by decide +kernel
theorem dX5_duplicate_47 : decode cX5_duplicate 47 = .ok (.getfield 56, 3) := by decide +kernel
theorem dX5_duplicate_50 : decode cX5_duplicate 50 = .ok (.iload_n 2, 1) := by decide +kernel
theorem dX5_duplicate_51 : decode cX5_duplicate 51 = .ok (.aload_n 0, 1) := by decide +kernel
theorem dX5_duplicate_52 : decode cX5_duplicate 52 = .ok (.getfield 56, 3) := by decide +kernel
theorem dX5_duplicate_55 : decode cX5_duplicate 55 = .ok (.iload_n 1, 1) := by decide +kernel
theorem dX5_duplicate_56 : decode cX5_duplicate 56 = .ok (.iaload, 1) := by decide +kernel
theorem dX5_duplicate_57 : decode cX5_duplicate 57 = .ok (.iastore, 1) := by decide +kernel
theorem dX5_duplicate_58 : decode cX5_duplicate 58 = .ok (.aload_n 0, 1) := by decide +kernel
theorem dX5_duplicate_59 : decode cX5_duplicate 59 = .ok (.getfield 59, 3) := by decide +kernel
theorem dX5_duplicate_62 : decode cX5_duplicate 62 = .ok (.iload_n 2, 1) := by decide +kernel
theorem dX5_duplicate_63 : decode cX5_duplicate 63 = .ok (.aload_n 0, 1) := by decide +kernel
theorem dX5_duplicate_64 : decode cX5_duplicate 64 = .ok (.getfield 59, 3) := by decide +kernel
theorem dX5_duplicate_67 : decode cX5_duplicate 67 = .ok (.iload_n 1, 1) := by decide +kernel
theorem dX5_duplicate_68 : decode cX5_duplicate 68 = .ok (.iaload, 1) := by decide +kernel
theorem dX5_duplicate_69 : decode cX5_duplicate 69 = .ok (.iastore, 1) := by decide +kernel
theorem dX5_duplicate_70 : decode cX5_duplicate 70 = .ok (.aload_n 0, 1) := by decide +kernel
theorem dX5_duplicate_71 : decode cX5_duplicate 71 = .ok (.getfield 62, 3) := by decide +kernel
theorem dX5_duplicate_74 : decode cX5_duplicate 74 = .ok (.iload_n 2, 1) := by decide +kernel
theorem dX5_duplicate_75 : decode cX5_duplicate 75 = .ok (.aload_n 0, 1) := by decide +kernel
theorem dX5_duplicate_76 : decode cX5_duplicate 76 = .ok (.getfield 62, 3) := by decide +kernel
theorem dX5_duplicate_79 : decode cX5_duplicate 79 = .ok (.iload_n 1, 1) := by decide +kernel
theorem dX5_duplicate_80 : decode cX5_duplicate 80 = .ok (.iaload, 1) := by decide +kernel
theorem dX5_duplicate_81 : decode cX5_duplicate 81 = .ok (.iastore, 1) := by decide +kernel
theorem dX5_duplicate_82 : decode cX5_duplicate 82 = .ok (.aload_n 0, 1) := by decide +kernel
theorem dX5_duplicate_83 : decode cX5_duplicate 83 = .ok (.getfield 65, 3) := by decide +kernel
theorem dX5_duplicate_86 : decode cX5_duplicate 86 = .ok (.iload_n 2, 1) := by decide +kernel
theorem dX5_duplicate_87 : decode cX5_duplicate 87 = .ok (.aload_n 0, 1) := by decide +kernel
theorem dX5_duplicate_88 : decode cX5_duplicate 88 = .ok (.getfield 65, 3) := by decide +kernel
theorem dX5_duplicate_91 : decode cX5_duplicate 91 = .ok (.iload_n 1, 1) := by decide +kernel
theorem dX5_duplicate_92 : decode cX5_duplicate 92 = .ok (.iaload, 1) := by decide +kernel
theorem dX5_duplicate_93 : decode cX5_duplicate 93 = .ok (.iastore, 1) := by decide +kernel
theorem dX5_duplicate_94 : decode cX5_duplicate 94 = .ok (.aload_n 0, 1) := by decide +kernel
theorem dX5_duplicate_95 : decode cX5_duplicate 95 = .ok (.getfield 68, 3) := by decide +kernel
theorem dX5_duplicate_98 : decode cX5_duplicate 98 = .ok (.iload_n 2, 1) := by decide +kernel
theorem dX5_duplicate_99 : decode cX5_duplicate 99 = .ok (.aload_n 0, 1) := by decide +kernel
theorem dX5_duplicate_100 : decode cX5_duplicate 100 = .ok (.getfield 68, 3) := by decide +kernel
theorem dX5_duplicate_103 : decode cX5_duplicate 103 = .ok (.iload_n 1, 1) := by decide +kernel
theorem dX5_duplicate_104 : decode cX5_duplicate 104 = .ok (.iaload, 1) := by decide +kernel
theorem dX5_duplicate_105 : decode cX5_duplicate 105 = .ok (.iastore, 1) := by decide +kernel
theorem dX5_duplicate_106 : decode cX5_duplicate 106 = .ok (.aload_n 0, 1) := by decide +kernel
theorem dX5_duplicate_107 : decode cX5_duplicate 107 = .ok (.getfield 71, 3) := by decide +kernel
theorem dX5_duplicate_110 : decode cX5_duplicate 110 = .ok (.iload_n 2, 1) := by decide +kernel
theorem dX5_duplicate_111 : decode cX5_duplicate 111 = .ok (.aload_n 0, 1) := by decide +kernel
theorem dX5_duplicate_112 : decode cX5_duplicate 112 = .ok (.getfield 71, 3) := by decide +kernel
theorem dX5_duplicate_115 : decode cX5_duplicate 115 = .ok (.iload_n 1, 1) := by decide +kernel
theorem dX5_duplicate_116 : decode cX5_duplicate 116 = .ok (.baload, 1) := by decide +kernel
theorem dX5_duplicate_117 : decode cX5_duplicate 117 = .ok (.bastore, 1) := by decide +kernel
theorem dX5_duplicate_118 : decode cX5_duplicate 118 = .ok (.aload_n 0, 1) := by decide +kernel
theorem dX5_duplicate_119 : decode cX5_duplicate 119 = .ok (.getfield 74, 3) := by decide +kernel
theorem dX5_duplicate_122 : decode cX5_duplicate 122 = .ok (.iload_n 2, 1) := by decide +kernel
theorem dX5_duplicate_123 : decode cX5_duplicate 123 = .ok (.aload_n 0, 1) := by decide +kernel
theorem dX5_duplicate_124 : decode cX5_duplicate 124 = .ok (.getfield 74, 3) := by decide +kernel
theorem dX5_duplicate_127 : decode cX5_duplicate 127 = .ok (.iload_n 1, 1) := by decide +kernel
theorem dX5_duplicate_128 : decode cX5_duplicate 128 = .ok (.iaload, 1) := by decide +kernel
theorem dX5_duplicate_129 : decode cX5_duplicate 129 = .ok (.iastore, 1) := by decide +kernel
theorem dX5_duplicate_130 : decode cX5_duplicate 130 = .ok (.aload_n 0, 1) := by decide +kernel
theorem dX5_duplicate_131 : decode cX5_duplicate 131 = .ok (.getfield 77, 3) := by decide +kernel
theorem dX5_duplicate_134 : decode cX5_duplicate 134 = .ok (.iload_n 2, 1) := by decide +kernel
theorem dX5_duplicate_135 : decode cX5_duplicate 135 = .ok (.aload_n 0, 1) := by decide +kernel
theorem dX5_duplicate_136 : decode cX5_duplicate 136 = .ok (.getfield 77, 3) := by decide +kernel
theorem dX5_duplicate_139 : decode cX5_duplicate 139 = .ok (.iload_n 1, 1) := by decide +kernel
theorem dX5_duplicate_140 : decode cX5_duplicate 140 = .ok (.iaload, 1) := by decide +kernel
theorem dX5_duplicate_141 : decode cX5_duplicate 141 = .ok (.iastore, 1) := by decide +kernel
theorem dX5_duplicate_142 : decode cX5_duplicate 142 = .ok (.aload_n 0, 1) := by decide +kernel
theorem dX5_duplicate_143 : decode cX5_duplicate 143 = .ok (.getfield 80, 3) := by decide +kernel
theorem dX5_duplicate_146 : decode cX5_duplicate 146 = .ok (.iload_n 2, 1) := by decide +kernel
theorem dX5_duplicate_147 : decode cX5_duplicate 147 = .ok (.aload_n 0, 1) := by decide +kernel
theorem dX5_duplicate_148 : decode cX5_duplicate 148 = .ok (.getfield 80, 3) := by decide +kernel
theorem dX5_duplicate_151 : decode cX5_duplicate 151 = .ok (.iload_n 1, 1) := by decide +kernel
theorem dX5_duplicate_152 : decode cX5_duplicate 152 = .ok (.iaload, 1) := by decide +kernel
theorem dX5_duplicate_153 : decode cX5_duplicate 153 = .ok (.iastore, 1) := by decide +kernel
theorem dX5_duplicate_154 : decode cX5_duplicate 154 = .ok (.iload_n 2, 1) := by decide +kernel
theorem dX5_duplicate_155 : decode cX5_duplicate 155 = .ok (.ireturn, 1) := by decide +kernel
theorem dX5_crash_0 : decode cX5_crash 0 = .ok (.aload_n 0, 1) := by decide +kernel
theorem dX5_crash_1 : decode cX5_crash 1 = .ok (.iload_n 1, 1) := by decide +kernel
theorem dX5_crash_2 : decode cX5_crash 2 = .ok (.invokevirtual 116, 3) := by decide +kernel
theorem dX5_crash_5 : decode cX5_crash 5 = .ok (.ifCond .ne 5, 3) := by decide +kernel
theorem dX5_crash_8 : decode cX5_crash 8 = .ok (.iconst (-1), 1) := by decide +kernel
theorem dX5_crash_9 : decode cX5_crash 9 = .ok (.ireturn, 1) := by decide +kernel
theorem dX5_crash_10 : decode cX5_crash 10 = .ok (.aload_n 0, 1) := by decide +kernel
theorem dX5_crash_11 : decode cX5_crash 11 = .ok (.getfield 7, 3) := by decide +kernel
theorem dX5_crash_14 : decode cX5_crash 14 = .ok (.iload_n 1, 1) := by decide +kernel
theorem dX5_crash_15 : decode cX5_crash 15 = .ok (.baload, 1) := by decide +kernel
theorem dX5_crash_16 : decode cX5_crash 16 = .ok (.ifCond .ne 6, 3) := by decide +kernel
theorem dX5_crash_19 : decode cX5_crash 19 = .ok (.bipush (-2), 2) := by decide +kernel
theorem dX5_crash_21 : decode cX5_crash 21 = .ok (.ireturn, 1) := by decide +kernel
theorem dX5_crash_22 : decode cX5_crash 22 = .ok (.aload_n 0, 1) := by decide +kernel
theorem dX5_crash_23 : decode cX5_crash 23 = .ok (.getfield 7, 3) := by decide +kernel
theorem dX5_crash_26 : decode cX5_crash 26 = .ok (.iload_n 1, 1) := by decide +kernel
theorem dX5_crash_27 : decode cX5_crash 27 = .ok (.iconst 0, 1) := by decide +kernel
theorem dX5_crash_28 : decode cX5_crash 28 = .ok (.bastore, 1) := by decide +kernel
theorem dX5_crash_29 : decode cX5_crash 29 = .ok (.aload_n 0, 1) := by decide +kernel
theorem dX5_crash_30 : decode cX5_crash 30 = .ok (.getfield 13, 3) := by decide +kernel
theorem dX5_crash_33 : decode cX5_crash 33 = .ok (.iload_n 1, 1) := by decide +kernel
theorem dX5_crash_34 : decode cX5_crash 34 = .ok (.iconst 0, 1) := by decide +kernel
theorem dX5_crash_35 : decode cX5_crash 35 = .ok (.iastore, 1) := by decide +kernel
theorem dX5_crash_36 : decode cX5_crash 36 = .ok (.iconst 0, 1) := by decide +kernel
theorem dX5_crash_37 : decode cX5_crash 37 = .ok (.ireturn, 1) := by decide +kernel
theorem dX5_restart_0 : decode cX5_restart 0 = .ok (.aload_n 0, 1) := by decide +kernel
theorem dX5_restart_1 : decode cX5_restart 1 = .ok (.iload_n 1, 1) := by decide +kernel
theorem dX5_restart_2 : decode cX5_restart 2 = .ok (.invokevirtual 116, 3) := by decide +kernel
theorem dX5_restart_5 : decode cX5_restart 5 = .ok (.ifCond .ne 5, 3) := by decide +kernel
theorem dX5_restart_8 : decode cX5_restart 8 = .ok (.iconst (-1), 1) := by decide +kernel
theorem dX5_restart_9 : decode cX5_restart 9 = .ok (.ireturn, 1) := by decide +kernel
theorem dX5_restart_10 : decode cX5_restart 10 = .ok (.aload_n 0, 1) := by decide +kernel
theorem dX5_restart_11 : decode cX5_restart 11 = .ok (.getfield 7, 3) := by decide +kernel
theorem dX5_restart_14 : decode cX5_restart 14 = .ok (.iload_n 1, 1) := by decide +kernel
theorem dX5_restart_15 : decode cX5_restart 15 = .ok (.baload, 1) := by decide +kernel
theorem dX5_restart_16 : decode cX5_restart 16 = .ok (.ifCond .eq 6, 3) := by decide +kernel
theorem dX5_restart_19 : decode cX5_restart 19 = .ok (.bipush (-2), 2) := by decide +kernel
theorem dX5_restart_21 : decode cX5_restart 21 = .ok (.ireturn, 1) := by decide +kernel
theorem dX5_restart_22 : decode cX5_restart 22 = .ok (.aload_n 0, 1) := by decide +kernel
theorem dX5_restart_23 : decode cX5_restart 23 = .ok (.getfield 7, 3) := by decide +kernel
theorem dX5_restart_26 : decode cX5_restart 26 = .ok (.iload_n 1, 1) := by decide +kernel
theorem dX5_restart_27 : decode cX5_restart 27 = .ok (.iconst 1, 1) := by decide +kernel
theorem dX5_restart_28 : decode cX5_restart 28 = .ok (.bastore, 1) := by decide +kernel
theorem dX5_restart_29 : decode cX5_restart 29 = .ok (.aload_n 0, 1) := by decide +kernel
theorem dX5_restart_30 : decode cX5_restart 30 = .ok (.getfield 32, 3) := by decide +kernel
theorem dX5_restart_33 : decode cX5_restart 33 = .ok (.iload_n 1, 1) := by decide +kernel
theorem dX5_restart_34 : decode cX5_restart 34 = .ok (.aload_n 0, 1) := by decide +kernel
theorem dX5_restart_35 : decode cX5_restart 35 = .ok (.getfield 23, 3) := by decide +kernel
theorem dX5_restart_38 : decode cX5_restart 38 = .ok (.iload_n 1, 1) := by decide +kernel
theorem dX5_restart_39 : decode cX5_restart 39 = .ok (.iaload, 1) := by decide +kernel
theorem dX5_restart_40 : decode cX5_restart 40 = .ok (.iastore, 1) := by decide +kernel
theorem dX5_restart_41 : decode cX5_restart 41 = .ok (.iconst 0, 1) := by decide +kernel
theorem dX5_restart_42 : decode cX5_restart 42 = .ok (.ireturn, 1) := by decide +kernel
theorem dX5_role_0 : decode cX5_role 0 = .ok (.aload_n 0, 1) := by decide +kernel
theorem dX5_role_1 : decode cX5_role 1 = .ok (.iload_n 1, 1) := by decide +kernel
theorem dX5_role_2 : decode cX5_role 2 = .ok (.invokevirtual 116, 3) := by decide +kernel
theorem dX5_role_5 : decode cX5_role 5 = .ok (.ifCond .eq 27, 3) := by decide +kernel
theorem dX5_role_8 : decode cX5_role 8 = .ok (.aload_n 0, 1) := by decide +kernel
theorem dX5_role_9 : decode cX5_role 9 = .ok (.getfield 13, 3) := by decide +kernel
theorem dX5_role_12 : decode cX5_role 12 = .ok (.iload_n 1, 1) := by decide +kernel
theorem dX5_role_13 : decode cX5_role 13 = .ok (.iaload, 1) := by decide +kernel
theorem dX5_role_14 : decode cX5_role 14 = .ok (.aload_n 0, 1) := by decide +kernel
theorem dX5_role_15 : decode cX5_role 15 = .ok (.getfield 7, 3) := by decide +kernel
theorem dX5_role_18 : decode cX5_role 18 = .ok (.iload_n 1, 1) := by decide +kernel
theorem dX5_role_19 : decode cX5_role 19 = .ok (.baload, 1) := by decide +kernel
theorem dX5_role_20 : decode cX5_role 20 = .ok (.ifCond .eq 7, 3) := by decide +kernel
theorem dX5_role_23 : decode cX5_role 23 = .ok (.iconst 4, 1) := by decide +kernel
theorem dX5_role_24 : decode cX5_role 24 = .ok (.goto 4, 3) := by decide +kernel
theorem dX5_role_27 : decode cX5_role 27 = .ok (.iconst 0, 1) := by decide +kernel
theorem dX5_role_28 : decode cX5_role 28 = .ok (.iadd, 1) := by decide +kernel
theorem dX5_role_29 : decode cX5_role 29 = .ok (.goto 4, 3) := by decide +kernel
theorem dX5_role_32 : decode cX5_role 32 = .ok (.iconst (-1), 1) := by decide +kernel
theorem dX5_role_33 : decode cX5_role 33 = .ok (.ireturn, 1) := by decide +kernel
theorem dX5_term_0 : decode cX5_term 0 = .ok (.aload_n 0, 1) := by decide +kernel
theorem dX5_term_1 : decode cX5_term 1 = .ok (.iload_n 1, 1) := by decide +kernel
theorem dX5_term_2 : decode cX5_term 2 = .ok (.invokevirtual 116, 3) := by decide +kernel
theorem dX5_term_5 : decode cX5_term 5 = .ok (.ifCond .eq 12, 3) := by decide +kernel
theorem dX5_term_8 : decode cX5_term 8 = .ok (.aload_n 0, 1) := by decide +kernel
theorem dX5_term_9 : decode cX5_term 9 = .ok (.getfield 17, 3) := by decide +kernel
theorem dX5_term_12 : decode cX5_term 12 = .ok (.iload_n 1, 1) := by decide +kernel
theorem dX5_term_13 : decode cX5_term 13 = .ok (.iaload, 1) := by decide +kernel
theorem dX5_term_14 : decode cX5_term 14 = .ok (.goto 4, 3) := by decide +kernel
theorem dX5_term_17 : decode cX5_term 17 = .ok (.iconst (-1), 1) := by decide +kernel
theorem dX5_term_18 : decode cX5_term 18 = .ok (.ireturn, 1) := by decide +kernel
theorem dX5_vote_0 : decode cX5_vote 0 = .ok (.aload_n 0, 1) := by decide +kernel
theorem dX5_vote_1 : decode cX5_vote 1 = .ok (.iload_n 1, 1) := by decide +kernel
theorem dX5_vote_2 : decode cX5_vote 2 = .ok (.invokevirtual 116, 3) := by decide +kernel
theorem dX5_vote_5 : decode cX5_vote 5 = .ok (.ifCond .eq 12, 3) := by decide +kernel
theorem dX5_vote_8 : decode cX5_vote 8 = .ok (.aload_n 0, 1) := by decide +kernel
theorem dX5_vote_9 : decode cX5_vote 9 = .ok (.getfield 20, 3) := by decide +kernel
theorem dX5_vote_12 : decode cX5_vote 12 = .ok (.iload_n 1, 1) := by decide +kernel
theorem dX5_vote_13 : decode cX5_vote 13 = .ok (.iaload, 1) := by decide +kernel
theorem dX5_vote_14 : decode cX5_vote 14 = .ok (.goto 4, 3) := by decide +kernel
theorem dX5_vote_17 : decode cX5_vote 17 = .ok (.iconst (-1), 1) := by decide +kernel
theorem dX5_vote_18 : decode cX5_vote 18 = .ok (.ireturn, 1) := by decide +kernel
theorem dX5_base_0 : decode cX5_base 0 = .ok (.aload_n 0, 1) := by decide +kernel
theorem dX5_base_1 : decode cX5_base 1 = .ok (.iload_n 1, 1) := by decide +kernel
theorem dX5_base_2 : decode cX5_base 2 = .ok (.invokevirtual 116, 3) := by decide +kernel
theorem dX5_base_5 : decode cX5_base 5 = .ok (.ifCond .eq 12, 3) := by decide +kernel
theorem dX5_base_8 : decode cX5_base 8 = .ok (.aload_n 0, 1) := by decide +kernel
theorem dX5_base_9 : decode cX5_base 9 = .ok (.getfield 23, 3) := by decide +kernel
theorem dX5_base_12 : decode cX5_base 12 = .ok (.iload_n 1, 1) := by decide +kernel
theorem dX5_base_13 : decode cX5_base 13 = .ok (.iaload, 1) := by decide +kernel
theorem dX5_base_14 : decode cX5_base 14 = .ok (.goto 4, 3) := by decide +kernel
theorem dX5_base_17 : decode cX5_base 17 = .ok (.iconst (-1), 1) := by decide +kernel
theorem dX5_base_18 : decode cX5_base 18 = .ok (.ireturn, 1) := by decide +kernel
theorem dX5_last_0 : decode cX5_last 0 = .ok (.aload_n 0, 1) := by decide +kernel
theorem dX5_last_1 : decode cX5_last 1 = .ok (.iload_n 1, 1) := by decide +kernel
theorem dX5_last_2 : decode cX5_last 2 = .ok (.invokevirtual 116, 3) := by decide +kernel
theorem dX5_last_5 : decode cX5_last 5 = .ok (.ifCond .eq 11, 3) := by decide +kernel
theorem dX5_last_8 : decode cX5_last 8 = .ok (.aload_n 0, 1) := by decide +kernel
theorem dX5_last_9 : decode cX5_last 9 = .ok (.iload_n 1, 1) := by decide +kernel
theorem dX5_last_10 : decode cX5_last 10 = .ok (.invokevirtual 97, 3) := by decide +kernel
theorem dX5_last_13 : decode cX5_last 13 = .ok (.goto 4, 3) := by decide +kernel
theorem dX5_last_16 : decode cX5_last 16 = .ok (.iconst (-1), 1) := by decide +kernel
theorem dX5_last_17 : decode cX5_last 17 = .ok (.ireturn, 1) := by decide +kernel
theorem dX5_commit_0 : decode cX5_commit 0 = .ok (.aload_n 0, 1) := by decide +kernel
theorem dX5_commit_1 : decode cX5_commit 1 = .ok (.iload_n 1, 1) := by decide +kernel
theorem dX5_commit_2 : decode cX5_commit 2 = .ok (.invokevirtual 116, 3) := by decide +kernel
theorem dX5_commit_5 : decode cX5_commit 5 = .ok (.ifCond .eq 12, 3) := by decide +kernel
theorem dX5_commit_8 : decode cX5_commit 8 = .ok (.aload_n 0, 1) := by decide +kernel
theorem dX5_commit_9 : decode cX5_commit 9 = .ok (.getfield 32, 3) := by decide +kernel
theorem dX5_commit_12 : decode cX5_commit 12 = .ok (.iload_n 1, 1) := by decide +kernel
theorem dX5_commit_13 : decode cX5_commit 13 = .ok (.iaload, 1) := by decide +kernel
theorem dX5_commit_14 : decode cX5_commit 14 = .ok (.goto 4, 3) := by decide +kernel
theorem dX5_commit_17 : decode cX5_commit 17 = .ok (.iconst (-1), 1) := by decide +kernel
theorem dX5_commit_18 : decode cX5_commit 18 = .ok (.ireturn, 1) := by decide +kernel
theorem dX5_termAt_0 : decode cX5_termAt 0 = .ok (.aload_n 0, 1) := by decide +kernel
theorem dX5_termAt_1 : decode cX5_termAt 1 = .ok (.iload_n 1, 1) := by decide +kernel
theorem dX5_termAt_2 : decode cX5_termAt 2 = .ok (.invokevirtual 116, 3) := by decide +kernel
theorem dX5_termAt_5 : decode cX5_termAt 5 = .ok (.ifCond .eq 12, 3) := by decide +kernel
theorem dX5_termAt_8 : decode cX5_termAt 8 = .ok (.aload_n 0, 1) := by decide +kernel
theorem dX5_termAt_9 : decode cX5_termAt 9 = .ok (.iload_n 1, 1) := by decide +kernel
theorem dX5_termAt_10 : decode cX5_termAt 10 = .ok (.iload_n 2, 1) := by decide +kernel
theorem dX5_termAt_11 : decode cX5_termAt 11 = .ok (.invokevirtual 123, 3) := by decide +kernel
theorem dX5_termAt_14 : decode cX5_termAt 14 = .ok (.goto 4, 3) := by decide +kernel
theorem dX5_termAt_17 : decode cX5_termAt 17 = .ok (.iconst (-1), 1) := by decide +kernel
theorem dX5_termAt_18 : decode cX5_termAt 18 = .ok (.ireturn, 1) := by decide +kernel
theorem dX5_commandAt_0 : decode cX5_commandAt 0 = .ok (.aload_n 0, 1) := by decide +kernel
theorem dX5_commandAt_1 : decode cX5_commandAt 1 = .ok (.iload_n 1, 1) := by decide +kernel
theorem dX5_commandAt_2 : decode cX5_commandAt 2 = .ok (.invokevirtual 116, 3) := by decide +kernel
theorem dX5_commandAt_5 : decode cX5_commandAt 5 = .ok (.ifCond .eq 26, 3) := by decide +kernel
theorem dX5_commandAt_8 : decode cX5_commandAt 8 = .ok (.aload_n 0, 1) := by decide +kernel
theorem dX5_commandAt_9 : decode cX5_commandAt 9 = .ok (.iload_n 1, 1) := by decide +kernel
theorem dX5_commandAt_10 : decode cX5_commandAt 10 = .ok (.iload_n 2, 1) := by decide +kernel
theorem dX5_commandAt_11 : decode cX5_commandAt 11 = .ok (.invokevirtual 101, 3) := by decide +kernel
theorem dX5_commandAt_14 : decode cX5_commandAt 14 = .ok (.ifCond .eq 17, 3) := by decide +kernel
theorem dX5_commandAt_17 : decode cX5_commandAt 17 = .ok (.aload_n 0, 1) := by decide +kernel
theorem dX5_commandAt_18 : decode cX5_commandAt 18 = .ok (.getfield 44, 3) := by decide +kernel
theorem dX5_commandAt_21 : decode cX5_commandAt 21 = .ok (.aload_n 0, 1) := by decide +kernel
theorem dX5_commandAt_22 : decode cX5_commandAt 22 = .ok (.iload_n 1, 1) := by decide +kernel
theorem dX5_commandAt_23 : decode cX5_commandAt 23 = .ok (.iload_n 2, 1) := by decide +kernel
theorem dX5_commandAt_24 : decode cX5_commandAt 24 = .ok (.invokevirtual 105, 3) := by decide +kernel
theorem dX5_commandAt_27 : decode cX5_commandAt 27 = .ok (.iaload, 1) := by decide +kernel
theorem dX5_commandAt_28 : decode cX5_commandAt 28 = .ok (.goto 4, 3) := by decide +kernel
theorem dX5_commandAt_31 : decode cX5_commandAt 31 = .ok (.iconst 0, 1) := by decide +kernel
theorem dX5_commandAt_32 : decode cX5_commandAt 32 = .ok (.ireturn, 1) := by decide +kernel
theorem dX5_state_0 : decode cX5_state 0 = .ok (.aload_n 0, 1) := by decide +kernel
theorem dX5_state_1 : decode cX5_state 1 = .ok (.iload_n 1, 1) := by decide +kernel
theorem dX5_state_2 : decode cX5_state 2 = .ok (.invokevirtual 116, 3) := by decide +kernel
theorem dX5_state_5 : decode cX5_state 5 = .ok (.ifCond .eq 17, 3) := by decide +kernel
theorem dX5_state_8 : decode cX5_state 8 = .ok (.aload_n 0, 1) := by decide +kernel
theorem dX5_state_9 : decode cX5_state 9 = .ok (.iload_n 1, 1) := by decide +kernel
theorem dX5_state_10 : decode cX5_state 10 = .ok (.aload_n 0, 1) := by decide +kernel
theorem dX5_state_11 : decode cX5_state 11 = .ok (.getfield 32, 3) := by decide +kernel
theorem dX5_state_14 : decode cX5_state 14 = .ok (.iload_n 1, 1) := by decide +kernel
theorem dX5_state_15 : decode cX5_state 15 = .ok (.iaload, 1) := by decide +kernel
theorem dX5_state_16 : decode cX5_state 16 = .ok (.invokevirtual 130, 3) := by decide +kernel
theorem dX5_state_19 : decode cX5_state 19 = .ok (.goto 4, 3) := by decide +kernel
theorem dX5_state_22 : decode cX5_state 22 = .ok (.iconst 0, 1) := by decide +kernel
theorem dX5_state_23 : decode cX5_state 23 = .ok (.ireturn, 1) := by decide +kernel
theorem dX5_peer_0 : decode cX5_peer 0 = .ok (.aload_n 0, 1) := by decide +kernel
theorem dX5_peer_1 : decode cX5_peer 1 = .ok (.iload_n 1, 1) := by decide +kernel
theorem dX5_peer_2 : decode cX5_peer 2 = .ok (.invokevirtual 116, 3) := by decide +kernel
theorem dX5_peer_5 : decode cX5_peer 5 = .ok (.ifCond .eq 26, 3) := by decide +kernel
theorem dX5_peer_8 : decode cX5_peer 8 = .ok (.aload_n 0, 1) := by decide +kernel
theorem dX5_peer_9 : decode cX5_peer 9 = .ok (.iload_n 2, 1) := by decide +kernel
theorem dX5_peer_10 : decode cX5_peer 10 = .ok (.invokevirtual 116, 3) := by decide +kernel
theorem dX5_peer_13 : decode cX5_peer 13 = .ok (.ifCond .eq 18, 3) := by decide +kernel
theorem dX5_peer_16 : decode cX5_peer 16 = .ok (.iload_n 1, 1) := by decide +kernel
theorem dX5_peer_17 : decode cX5_peer 17 = .ok (.iload_n 2, 1) := by decide +kernel
theorem dX5_peer_18 : decode cX5_peer 18 = .ok (.if_icmp .eq 13, 3) := by decide +kernel
theorem dX5_peer_21 : decode cX5_peer 21 = .ok (.aload_n 0, 1) := by decide +kernel
theorem dX5_peer_22 : decode cX5_peer 22 = .ok (.getfield 13, 3) := by decide +kernel
theorem dX5_peer_25 : decode cX5_peer 25 = .ok (.iload_n 1, 1) := by decide +kernel
theorem dX5_peer_26 : decode cX5_peer 26 = .ok (.iaload, 1) := by decide +kernel
theorem dX5_peer_27 : decode cX5_peer 27 = .ok (.iconst 2, 1) := by decide +kernel
theorem dX5_peer_28 : decode cX5_peer 28 = .ok (.if_icmp .eq 5, 3) := by decide +kernel
theorem dX5_peer_31 : decode cX5_peer 31 = .ok (.iconst (-1), 1) := by decide +kernel
theorem dX5_peer_32 : decode cX5_peer 32 = .ok (.ireturn, 1) := by decide +kernel
theorem dX5_peer_33 : decode cX5_peer 33 = .ok (.aload_n 0, 1) := by decide +kernel
theorem dX5_peer_34 : decode cX5_peer 34 = .ok (.getfield 50, 3) := by decide +kernel
theorem dX5_peer_37 : decode cX5_peer 37 = .ok (.iconst 5, 1) := by decide +kernel
theorem dX5_peer_38 : decode cX5_peer 38 = .ok (.iload_n 1, 1) := by decide +kernel
theorem dX5_peer_39 : decode cX5_peer 39 = .ok (.imul, 1) := by decide +kernel
theorem dX5_peer_40 : decode cX5_peer 40 = .ok (.iload_n 2, 1) := by decide +kernel
theorem dX5_peer_41 : decode cX5_peer 41 = .ok (.iadd, 1) := by decide +kernel
theorem dX5_peer_42 : decode cX5_peer 42 = .ok (.iaload, 1) := by decide +kernel
theorem dX5_peer_43 : decode cX5_peer 43 = .ok (.ldc 174, 2) := by decide +kernel
theorem dX5_peer_45 : decode cX5_peer 45 = .ok (.aload_n 0, 1) := by decide +kernel
theorem dX5_peer_46 : decode cX5_peer 46 = .ok (.getfield 47, 3) := by decide +kernel
theorem dX5_peer_49 : decode cX5_peer 49 = .ok (.iconst 5, 1) := by decide +kernel
theorem dX5_peer_50 : decode cX5_peer 50 = .ok (.iload_n 1, 1) := by decide +kernel
theorem dX5_peer_51 : decode cX5_peer 51 = .ok (.imul, 1) := by decide +kernel
theorem dX5_peer_52 : decode cX5_peer 52 = .ok (.iload_n 2, 1) := by decide +kernel
theorem dX5_peer_53 : decode cX5_peer 53 = .ok (.iadd, 1) := by decide +kernel
theorem dX5_peer_54 : decode cX5_peer 54 = .ok (.iaload, 1) := by decide +kernel
theorem dX5_peer_55 : decode cX5_peer 55 = .ok (.imul, 1) := by decide +kernel
theorem dX5_peer_56 : decode cX5_peer 56 = .ok (.iadd, 1) := by decide +kernel
theorem dX5_peer_57 : decode cX5_peer 57 = .ok (.ireturn, 1) := by decide +kernel
theorem dX5_pending_0 : decode cX5_pending 0 = .ok (.aload_n 0, 1) := by decide +kernel
theorem dX5_pending_1 : decode cX5_pending 1 = .ok (.invokevirtual 120, 3) := by decide +kernel
theorem dX5_pending_4 : decode cX5_pending 4 = .ok (.ireturn, 1) := by decide +kernel
theorem dX5_slot_0 : decode cX5_slot 0 = .ok (.aload_n 0, 1) := by decide +kernel
theorem dX5_slot_1 : decode cX5_slot 1 = .ok (.iload_n 1, 1) := by decide +kernel
theorem dX5_slot_2 : decode cX5_slot 2 = .ok (.invokevirtual 137, 3) := by decide +kernel
theorem dX5_slot_5 : decode cX5_slot 5 = .ok (.ifCond .ne 5, 3) := by decide +kernel
theorem dX5_slot_8 : decode cX5_slot 8 = .ok (.iconst (-1), 1) := by decide +kernel
theorem dX5_slot_9 : decode cX5_slot 9 = .ok (.ireturn, 1) := by decide +kernel
theorem dX5_slot_10 : decode cX5_slot 10 = .ok (.aload_n 0, 1) := by decide +kernel
theorem dX5_slot_11 : decode cX5_slot 11 = .ok (.getfield 53, 3) := by decide +kernel
theorem dX5_slot_14 : decode cX5_slot 14 = .ok (.iload_n 1, 1) := by decide +kernel
theorem dX5_slot_15 : decode cX5_slot 15 = .ok (.iaload, 1) := by decide +kernel
theorem dX5_slot_16 : decode cX5_slot 16 = .ok (.ifCond .ne 7, 3) := by decide +kernel
theorem dX5_slot_19 : decode cX5_slot 19 = .ok (.iconst 0, 1) := by decide +kernel
theorem dX5_slot_20 : decode cX5_slot 20 = .ok (.goto 40, 3) := by decide +kernel
theorem dX5_slot_23 : decode cX5_slot 23 = .ok (.aload_n 0, 1) := by decide +kernel
theorem dX5_slot_24 : decode cX5_slot 24 = .ok (.getfield 53, 3) := by decide +kernel
theorem dX5_slot_27 : decode cX5_slot 27 = .ok (.iload_n 1, 1) := by decide +kernel
theorem dX5_slot_28 : decode cX5_slot 28 = .ok (.iaload, 1) := by decide +kernel
theorem dX5_slot_29 : decode cX5_slot 29 = .ok (.bipush 8, 2) := by decide +kernel
theorem dX5_slot_31 : decode cX5_slot 31 = .ok (.aload_n 0, 1) := by decide +kernel
theorem dX5_slot_32 : decode cX5_slot 32 = .ok (.getfield 56, 3) := by decide +kernel
theorem dX5_slot_35 : decode cX5_slot 35 = .ok (.iload_n 1, 1) := by decide +kernel
theorem dX5_slot_36 : decode cX5_slot 36 = .ok (.iaload, 1) := by decide +kernel
theorem dX5_slot_37 : decode cX5_slot 37 = .ok (.imul, 1) := by decide +kernel
theorem dX5_slot_38 : decode cX5_slot 38 = .ok (.iadd, 1) := by decide +kernel
theorem dX5_slot_39 : decode cX5_slot 39 = .ok (.bipush 64, 2) := by decide +kernel
theorem dX5_slot_41 : decode cX5_slot 41 = .ok (.aload_n 0, 1) := by decide +kernel
theorem dX5_slot_42 : decode cX5_slot 42 = .ok (.getfield 59, 3) := by decide +kernel
theorem dX5_slot_45 : decode cX5_slot 45 = .ok (.iload_n 1, 1) := by decide +kernel
theorem dX5_slot_46 : decode cX5_slot 46 = .ok (.iaload, 1) := by decide +kernel
theorem dX5_slot_47 : decode cX5_slot 47 = .ok (.imul, 1) := by decide +kernel
theorem dX5_slot_48 : decode cX5_slot 48 = .ok (.iadd, 1) := by decide +kernel
theorem dX5_slot_49 : decode cX5_slot 49 = .ok (.sipush 512, 3) := by decide +kernel
theorem dX5_slot_52 : decode cX5_slot 52 = .ok (.aload_n 0, 1) := by decide +kernel
theorem dX5_slot_53 : decode cX5_slot 53 = .ok (.getfield 62, 3) := by decide +kernel
theorem dX5_slot_56 : decode cX5_slot 56 = .ok (.iload_n 1, 1) := by decide +kernel
theorem dX5_slot_57 : decode cX5_slot 57 = .ok (.iaload, 1) := by decide +kernel
theorem dX5_slot_58 : decode cX5_slot 58 = .ok (.imul, 1) := by decide +kernel
theorem dX5_slot_59 : decode cX5_slot 59 = .ok (.iadd, 1) := by decide +kernel
theorem dX5_slot_60 : decode cX5_slot 60 = .ok (.ireturn, 1) := by decide +kernel
end
section
theorem dL_cell_0 : decode cL_cell 0 = .ok (.iload_n 1, 1) := by decide +kernel
theorem dL_cell_1 : decode cL_cell 1 = .ok (.aload_n 0, 1) := by decide +kernel
theorem dL_cell_2 : decode cL_cell 2 = .ok (.arraylength, 1) := by decide +kernel
theorem dL_cell_3 : decode cL_cell 3 = .ok (.if_icmp .ge 9, 3) := by decide +kernel
theorem dL_cell_6 : decode cL_cell 6 = .ok (.aload_n 0, 1) := by decide +kernel
theorem dL_cell_7 : decode cL_cell 7 = .ok (.iload_n 1, 1) := by decide +kernel
theorem dL_cell_8 : decode cL_cell 8 = .ok (.iaload, 1) := by decide +kernel
theorem dL_cell_9 : decode cL_cell 9 = .ok (.goto 4, 3) := by decide +kernel
theorem dL_cell_12 : decode cL_cell 12 = .ok (.iconst 0, 1) := by decide +kernel
theorem dL_cell_13 : decode cL_cell 13 = .ok (.ireturn, 1) := by decide +kernel
theorem dL_law_0 : decode cL_law 0 = .ok (.new 7, 3) := by decide +kernel
theorem dL_law_3 : decode cL_law 3 = .ok (.dup, 1) := by decide +kernel
theorem dL_law_4 : decode cL_law 4 = .ok (.aload_n 0, 1) := by decide +kernel
theorem dL_law_5 : decode cL_law 5 = .ok (.iconst 0, 1) := by decide +kernel
theorem dL_law_6 : decode cL_law 6 = .ok (.invokestatic 9, 3) := by decide +kernel
theorem dL_law_9 : decode cL_law 9 = .ok (.aload_n 0, 1) := by decide +kernel
theorem dL_law_10 : decode cL_law 10 = .ok (.iconst 1, 1) := by decide +kernel
theorem dL_law_11 : decode cL_law 11 = .ok (.invokestatic 9, 3) := by decide +kernel
theorem dL_law_14 : decode cL_law 14 = .ok (.aload_n 0, 1) := by decide +kernel
theorem dL_law_15 : decode cL_law 15 = .ok (.iconst 2, 1) := by decide +kernel
theorem dL_law_16 : decode cL_law 16 = .ok (.invokestatic 9, 3) := by decide +kernel
theorem dL_law_19 : decode cL_law 19 = .ok (.invokespecial 15, 3) := by decide +kernel
theorem dL_law_22 : decode cL_law 22 = .ok (.astore_n 1, 1) := by decide +kernel
theorem dL_law_23 : decode cL_law 23 = .ok (.new 18, 3) := by decide +kernel
theorem dL_law_26 : decode cL_law 26 = .ok (.dup, 1) := by decide +kernel
theorem dL_law_27 : decode cL_law 27 = .ok (.aload_n 0, 1) := by decide +kernel
theorem dL_law_28 : decode cL_law 28 = .ok (.iconst 0, 1) := by decide +kernel
theorem dL_law_29 : decode cL_law 29 = .ok (.invokestatic 9, 3) := by decide +kernel
theorem dL_law_32 : decode cL_law 32 = .ok (.aload_n 0, 1) := by decide +kernel
theorem dL_law_33 : decode cL_law 33 = .ok (.iconst 1, 1) := by decide +kernel
theorem dL_law_34 : decode cL_law 34 = .ok (.invokestatic 9, 3) := by decide +kernel
theorem dL_law_37 : decode cL_law 37 = .ok (.aload_n 0, 1) := by decide +kernel
theorem dL_law_38 : decode cL_law 38 = .ok (.iconst 2, 1) := by decide +kernel
theorem dL_law_39 : decode cL_law 39 = .ok (.invokestatic 9, 3) := by decide +kernel
theorem dL_law_42 : decode cL_law 42 = .ok (.invokespecial 20, 3) := by decide +kernel
theorem dL_law_45 : decode cL_law 45 = .ok (.astore_n 2, 1) := by decide +kernel
theorem dL_law_46 : decode cL_law 46 = .ok (.iconst 3, 1) := by decide +kernel
theorem dL_law_47 : decode cL_law 47 = .ok (.istore_n 3, 1) := by decide +kernel
theorem dL_law_48 : decode cL_law 48 = .ok (.iload_n 3, 1) := by decide +kernel
theorem dL_law_49 : decode cL_law 49 = .ok (.aload_n 0, 1) := by decide +kernel
theorem dL_law_50 : decode cL_law 50 = .ok (.arraylength, 1) := by decide +kernel
theorem dL_law_51 : decode cL_law 51 = .ok (.iconst 3, 1) := by decide +kernel
theorem dL_law_52 : decode cL_law 52 = .ok (.isub, 1) := by decide +kernel
theorem dL_law_53 : decode cL_law 53 = .ok (.if_icmp .gt 636, 3) := by decide +kernel
theorem dL_law_56 : decode cL_law 56 = .ok (.aload_n 0, 1) := by decide +kernel
theorem dL_law_57 : decode cL_law 57 = .ok (.iload_n 3, 1) := by decide +kernel
theorem dL_law_58 : decode cL_law 58 = .ok (.iaload, 1) := by decide +kernel
theorem dL_law_59 : decode cL_law 59 = .ok (.bipush 31, 2) := by decide +kernel
theorem dL_law_61 : decode cL_law 61 = .ok (.iand, 1) := by decide +kernel
theorem dL_law_62 : decode cL_law 62 = .ok (.tableswitch 621 0 20 #[98, 121, 154, 187, 210, 233, 256, 279, 302, 325, 348, 371, 394, 417, 440, 463, 496, 529, 552, 585, 598], 98) := by decide +kernel
theorem dL_law_160 : decode cL_law 160 = .ok (.aload_n 1, 1) := by decide +kernel
theorem dL_law_161 : decode cL_law 161 = .ok (.aload_n 0, 1) := by decide +kernel
theorem dL_law_162 : decode cL_law 162 = .ok (.iload_n 3, 1) := by decide +kernel
theorem dL_law_163 : decode cL_law 163 = .ok (.iconst 1, 1) := by decide +kernel
theorem dL_law_164 : decode cL_law 164 = .ok (.iadd, 1) := by decide +kernel
theorem dL_law_165 : decode cL_law 165 = .ok (.iaload, 1) := by decide +kernel
theorem dL_law_166 : decode cL_law 166 = .ok (.invokevirtual 21, 3) := by decide +kernel
theorem dL_law_169 : decode cL_law 169 = .ok (.aload_n 2, 1) := by decide +kernel
theorem dL_law_170 : decode cL_law 170 = .ok (.aload_n 0, 1) := by decide +kernel
theorem dL_law_171 : decode cL_law 171 = .ok (.iload_n 3, 1) := by decide +kernel
theorem dL_law_172 : decode cL_law 172 = .ok (.iconst 1, 1) := by decide +kernel
theorem dL_law_173 : decode cL_law 173 = .ok (.iadd, 1) := by decide +kernel
theorem dL_law_174 : decode cL_law 174 = .ok (.iaload, 1) := by decide +kernel
theorem dL_law_175 : decode cL_law 175 = .ok (.invokevirtual 25, 3) := by decide +kernel
theorem dL_law_178 : decode cL_law 178 = .ok (.if_icmp .eq 505, 3) := by decide +kernel
theorem dL_law_181 : decode cL_law 181 = .ok (.iconst 0, 1) := by decide +kernel
theorem dL_law_182 : decode cL_law 182 = .ok (.ireturn, 1) := by decide +kernel
theorem dL_law_183 : decode cL_law 183 = .ok (.aload_n 1, 1) := by decide +kernel
theorem dL_law_184 : decode cL_law 184 = .ok (.aload_n 0, 1) := by decide +kernel
theorem dL_law_185 : decode cL_law 185 = .ok (.iload_n 3, 1) := by decide +kernel
theorem dL_law_186 : decode cL_law 186 = .ok (.iconst 1, 1) := by decide +kernel
theorem dL_law_187 : decode cL_law 187 = .ok (.iadd, 1) := by decide +kernel
theorem dL_law_188 : decode cL_law 188 = .ok (.iaload, 1) := by decide +kernel
theorem dL_law_189 : decode cL_law 189 = .ok (.aload_n 0, 1) := by decide +kernel
theorem dL_law_190 : decode cL_law 190 = .ok (.iload_n 3, 1) := by decide +kernel
theorem dL_law_191 : decode cL_law 191 = .ok (.iconst 2, 1) := by decide +kernel
theorem dL_law_192 : decode cL_law 192 = .ok (.iadd, 1) := by decide +kernel
theorem dL_law_193 : decode cL_law 193 = .ok (.iaload, 1) := by decide +kernel
theorem dL_law_194 : decode cL_law 194 = .ok (.invokevirtual 26, 3) := by decide +kernel
theorem dL_law_197 : decode cL_law 197 = .ok (.aload_n 2, 1) := by decide +kernel
theorem dL_law_198 : decode cL_law 198 = .ok (.aload_n 0, 1) := by decide +kernel
theorem dL_law_199 : decode cL_law 199 = .ok (.iload_n 3, 1) := by decide +kernel
theorem dL_law_200 : decode cL_law 200 = .ok (.iconst 1, 1) := by decide +kernel
theorem dL_law_201 : decode cL_law 201 = .ok (.iadd, 1) := by decide +kernel
theorem dL_law_202 : decode cL_law 202 = .ok (.iaload, 1) := by decide +kernel
theorem dL_law_203 : decode cL_law 203 = .ok (.aload_n 0, 1) := by decide +kernel
theorem dL_law_204 : decode cL_law 204 = .ok (.iload_n 3, 1) := by decide +kernel
theorem dL_law_205 : decode cL_law 205 = .ok (.iconst 2, 1) := by decide +kernel
theorem dL_law_206 : decode cL_law 206 = .ok (.iadd, 1) := by decide +kernel
theorem dL_law_207 : decode cL_law 207 = .ok (.iaload, 1) := by decide +kernel
theorem dL_law_208 : decode cL_law 208 = .ok (.invokevirtual 30, 3) := by decide +kernel
theorem dL_law_211 : decode cL_law 211 = .ok (.if_icmp .eq 472, 3) := by decide +kernel
theorem dL_law_214 : decode cL_law 214 = .ok (.iconst 0, 1) := by decide +kernel
theorem dL_law_215 : decode cL_law 215 = .ok (.ireturn, 1) := by decide +kernel
theorem dL_law_216 : decode cL_law 216 = .ok (.aload_n 1, 1) := by decide +kernel
theorem dL_law_217 : decode cL_law 217 = .ok (.aload_n 0, 1) := by decide +kernel
theorem dL_law_218 : decode cL_law 218 = .ok (.iload_n 3, 1) := by decide +kernel
theorem dL_law_219 : decode cL_law 219 = .ok (.iconst 1, 1) := by decide +kernel
theorem dL_law_220 : decode cL_law 220 = .ok (.iadd, 1) := by decide +kernel
theorem dL_law_221 : decode cL_law 221 = .ok (.iaload, 1) := by decide +kernel
theorem dL_law_222 : decode cL_law 222 = .ok (.aload_n 0, 1) := by decide +kernel
theorem dL_law_223 : decode cL_law 223 = .ok (.iload_n 3, 1) := by decide +kernel
theorem dL_law_224 : decode cL_law 224 = .ok (.iconst 2, 1) := by decide +kernel
theorem dL_law_225 : decode cL_law 225 = .ok (.iadd, 1) := by decide +kernel
theorem dL_law_226 : decode cL_law 226 = .ok (.iaload, 1) := by decide +kernel
theorem dL_law_227 : decode cL_law 227 = .ok (.invokevirtual 31, 3) := by decide +kernel
theorem dL_law_230 : decode cL_law 230 = .ok (.aload_n 2, 1) := by decide +kernel
theorem dL_law_231 : decode cL_law 231 = .ok (.aload_n 0, 1) := by decide +kernel
theorem dL_law_232 : decode cL_law 232 = .ok (.iload_n 3, 1) := by decide +kernel
theorem dL_law_233 : decode cL_law 233 = .ok (.iconst 1, 1) := by decide +kernel
theorem dL_law_234 : decode cL_law 234 = .ok (.iadd, 1) := by decide +kernel
theorem dL_law_235 : decode cL_law 235 = .ok (.iaload, 1) := by decide +kernel
theorem dL_law_236 : decode cL_law 236 = .ok (.aload_n 0, 1) := by decide +kernel
theorem dL_law_237 : decode cL_law 237 = .ok (.iload_n 3, 1) := by decide +kernel
theorem dL_law_238 : decode cL_law 238 = .ok (.iconst 2, 1) := by decide +kernel
theorem dL_law_239 : decode cL_law 239 = .ok (.iadd, 1) := by decide +kernel
theorem dL_law_240 : decode cL_law 240 = .ok (.iaload, 1) := by decide +kernel
theorem dL_law_241 : decode cL_law 241 = .ok (.invokevirtual 34, 3) := by decide +kernel
theorem dL_law_244 : decode cL_law 244 = .ok (.if_icmp .eq 439, 3) := by decide +kernel
theorem dL_law_247 : decode cL_law 247 = .ok (.iconst 0, 1) := by decide +kernel
theorem dL_law_248 : decode cL_law 248 = .ok (.ireturn, 1) := by decide +kernel
theorem dL_law_249 : decode cL_law 249 = .ok (.aload_n 1, 1) := by decide +kernel
theorem dL_law_250 : decode cL_law 250 = .ok (.aload_n 0, 1) := by decide +kernel
theorem dL_law_251 : decode cL_law 251 = .ok (.iload_n 3, 1) := by decide +kernel
theorem dL_law_252 : decode cL_law 252 = .ok (.iconst 1, 1) := by decide +kernel
theorem dL_law_253 : decode cL_law 253 = .ok (.iadd, 1) := by decide +kernel
theorem dL_law_254 : decode cL_law 254 = .ok (.iaload, 1) := by decide +kernel
theorem dL_law_255 : decode cL_law 255 = .ok (.invokevirtual 35, 3) := by decide +kernel
theorem dL_law_258 : decode cL_law 258 = .ok (.aload_n 2, 1) := by decide +kernel
theorem dL_law_259 : decode cL_law 259 = .ok (.aload_n 0, 1) := by decide +kernel
theorem dL_law_260 : decode cL_law 260 = .ok (.iload_n 3, 1) := by decide +kernel
theorem dL_law_261 : decode cL_law 261 = .ok (.iconst 1, 1) := by decide +kernel
theorem dL_law_262 : decode cL_law 262 = .ok (.iadd, 1) := by decide +kernel
theorem dL_law_263 : decode cL_law 263 = .ok (.iaload, 1) := by decide +kernel
theorem dL_law_264 : decode cL_law 264 = .ok (.invokevirtual 38, 3) := by decide +kernel
theorem dL_law_267 : decode cL_law 267 = .ok (.if_icmp .eq 416, 3) := by decide +kernel
theorem dL_law_270 : decode cL_law 270 = .ok (.iconst 0, 1) := by decide +kernel
theorem dL_law_271 : decode cL_law 271 = .ok (.ireturn, 1) := by decide +kernel
theorem dL_law_272 : decode cL_law 272 = .ok (.aload_n 1, 1) := by decide +kernel
theorem dL_law_273 : decode cL_law 273 = .ok (.aload_n 0, 1) := by decide +kernel
theorem dL_law_274 : decode cL_law 274 = .ok (.iload_n 3, 1) := by decide +kernel
theorem dL_law_275 : decode cL_law 275 = .ok (.iconst 1, 1) := by decide +kernel
theorem dL_law_276 : decode cL_law 276 = .ok (.iadd, 1) := by decide +kernel
theorem dL_law_277 : decode cL_law 277 = .ok (.iaload, 1) := by decide +kernel
theorem dL_law_278 : decode cL_law 278 = .ok (.invokevirtual 39, 3) := by decide +kernel
theorem dL_law_281 : decode cL_law 281 = .ok (.aload_n 2, 1) := by decide +kernel
theorem dL_law_282 : decode cL_law 282 = .ok (.aload_n 0, 1) := by decide +kernel
theorem dL_law_283 : decode cL_law 283 = .ok (.iload_n 3, 1) := by decide +kernel
theorem dL_law_284 : decode cL_law 284 = .ok (.iconst 1, 1) := by decide +kernel
theorem dL_law_285 : decode cL_law 285 = .ok (.iadd, 1) := by decide +kernel
theorem dL_law_286 : decode cL_law 286 = .ok (.iaload, 1) := by decide +kernel
theorem dL_law_287 : decode cL_law 287 = .ok (.invokevirtual 42, 3) := by decide +kernel
theorem dL_law_290 : decode cL_law 290 = .ok (.if_icmp .eq 393, 3) := by decide +kernel
theorem dL_law_293 : decode cL_law 293 = .ok (.iconst 0, 1) := by decide +kernel
theorem dL_law_294 : decode cL_law 294 = .ok (.ireturn, 1) := by decide +kernel
theorem dL_law_295 : decode cL_law 295 = .ok (.aload_n 1, 1) := by decide +kernel
theorem dL_law_296 : decode cL_law 296 = .ok (.aload_n 0, 1) := by decide +kernel
theorem dL_law_297 : decode cL_law 297 = .ok (.iload_n 3, 1) := by decide +kernel
theorem dL_law_298 : decode cL_law 298 = .ok (.iconst 1, 1) := by decide +kernel
theorem dL_law_299 : decode cL_law 299 = .ok (.iadd, 1) := by decide +kernel
theorem dL_law_300 : decode cL_law 300 = .ok (.iaload, 1) := by decide +kernel
theorem dL_law_301 : decode cL_law 301 = .ok (.invokevirtual 43, 3) := by decide +kernel
theorem dL_law_304 : decode cL_law 304 = .ok (.aload_n 2, 1) := by decide +kernel
theorem dL_law_305 : decode cL_law 305 = .ok (.aload_n 0, 1) := by decide +kernel
theorem dL_law_306 : decode cL_law 306 = .ok (.iload_n 3, 1) := by decide +kernel
theorem dL_law_307 : decode cL_law 307 = .ok (.iconst 1, 1) := by decide +kernel
theorem dL_law_308 : decode cL_law 308 = .ok (.iadd, 1) := by decide +kernel
theorem dL_law_309 : decode cL_law 309 = .ok (.iaload, 1) := by decide +kernel
theorem dL_law_310 : decode cL_law 310 = .ok (.invokevirtual 46, 3) := by decide +kernel
theorem dL_law_313 : decode cL_law 313 = .ok (.if_icmp .eq 370, 3) := by decide +kernel
theorem dL_law_316 : decode cL_law 316 = .ok (.iconst 0, 1) := by decide +kernel
theorem dL_law_317 : decode cL_law 317 = .ok (.ireturn, 1) := by decide +kernel
theorem dL_law_318 : decode cL_law 318 = .ok (.aload_n 1, 1) := by decide +kernel
theorem dL_law_319 : decode cL_law 319 = .ok (.aload_n 0, 1) := by decide +kernel
theorem dL_law_320 : decode cL_law 320 = .ok (.iload_n 3, 1) := by decide +kernel
theorem dL_law_321 : decode cL_law 321 = .ok (.iconst 1, 1) := by decide +kernel
theorem dL_law_322 : decode cL_law 322 = .ok (.iadd, 1) := by decide +kernel
theorem dL_law_323 : decode cL_law 323 = .ok (.iaload, 1) := by decide +kernel
theorem dL_law_324 : decode cL_law 324 = .ok (.invokevirtual 47, 3) := by decide +kernel
theorem dL_law_327 : decode cL_law 327 = .ok (.aload_n 2, 1) := by decide +kernel
theorem dL_law_328 : decode cL_law 328 = .ok (.aload_n 0, 1) := by decide +kernel
theorem dL_law_329 : decode cL_law 329 = .ok (.iload_n 3, 1) := by decide +kernel
theorem dL_law_330 : decode cL_law 330 = .ok (.iconst 1, 1) := by decide +kernel
theorem dL_law_331 : decode cL_law 331 = .ok (.iadd, 1) := by decide +kernel
theorem dL_law_332 : decode cL_law 332 = .ok (.iaload, 1) := by decide +kernel
theorem dL_law_333 : decode cL_law 333 = .ok (.invokevirtual 50, 3) := by decide +kernel
theorem dL_law_336 : decode cL_law 336 = .ok (.if_icmp .eq 347, 3) := by decide +kernel
theorem dL_law_339 : decode cL_law 339 = .ok (.iconst 0, 1) := by decide +kernel
theorem dL_law_340 : decode cL_law 340 = .ok (.ireturn, 1) := by decide +kernel
theorem dL_law_341 : decode cL_law 341 = .ok (.aload_n 1, 1) := by decide +kernel
theorem dL_law_342 : decode cL_law 342 = .ok (.aload_n 0, 1) := by decide +kernel
theorem dL_law_343 : decode cL_law 343 = .ok (.iload_n 3, 1) := by decide +kernel
theorem dL_law_344 : decode cL_law 344 = .ok (.iconst 1, 1) := by decide +kernel
theorem dL_law_345 : decode cL_law 345 = .ok (.iadd, 1) := by decide +kernel
theorem dL_law_346 : decode cL_law 346 = .ok (.iaload, 1) := by decide +kernel
theorem dL_law_347 : decode cL_law 347 = .ok (.invokevirtual 51, 3) := by decide +kernel
theorem dL_law_350 : decode cL_law 350 = .ok (.aload_n 2, 1) := by decide +kernel
theorem dL_law_351 : decode cL_law 351 = .ok (.aload_n 0, 1) := by decide +kernel
theorem dL_law_352 : decode cL_law 352 = .ok (.iload_n 3, 1) := by decide +kernel
theorem dL_law_353 : decode cL_law 353 = .ok (.iconst 1, 1) := by decide +kernel
theorem dL_law_354 : decode cL_law 354 = .ok (.iadd, 1) := by decide +kernel
theorem dL_law_355 : decode cL_law 355 = .ok (.iaload, 1) := by decide +kernel
theorem dL_law_356 : decode cL_law 356 = .ok (.invokevirtual 54, 3) := by decide +kernel
theorem dL_law_359 : decode cL_law 359 = .ok (.if_icmp .eq 324, 3) := by decide +kernel
theorem dL_law_362 : decode cL_law 362 = .ok (.iconst 0, 1) := by decide +kernel
theorem dL_law_363 : decode cL_law 363 = .ok (.ireturn, 1) := by decide +kernel
theorem dL_law_364 : decode cL_law 364 = .ok (.aload_n 1, 1) := by decide +kernel
theorem dL_law_365 : decode cL_law 365 = .ok (.aload_n 0, 1) := by decide +kernel
theorem dL_law_366 : decode cL_law 366 = .ok (.iload_n 3, 1) := by decide +kernel
theorem dL_law_367 : decode cL_law 367 = .ok (.iconst 1, 1) := by decide +kernel
theorem dL_law_368 : decode cL_law 368 = .ok (.iadd, 1) := by decide +kernel
theorem dL_law_369 : decode cL_law 369 = .ok (.iaload, 1) := by decide +kernel
theorem dL_law_370 : decode cL_law 370 = .ok (.invokevirtual 55, 3) := by decide +kernel
theorem dL_law_373 : decode cL_law 373 = .ok (.aload_n 2, 1) := by decide +kernel
theorem dL_law_374 : decode cL_law 374 = .ok (.aload_n 0, 1) := by decide +kernel
theorem dL_law_375 : decode cL_law 375 = .ok (.iload_n 3, 1) := by decide +kernel
theorem dL_law_376 : decode cL_law 376 = .ok (.iconst 1, 1) := by decide +kernel
theorem dL_law_377 : decode cL_law 377 = .ok (.iadd, 1) := by decide +kernel
theorem dL_law_378 : decode cL_law 378 = .ok (.iaload, 1) := by decide +kernel
theorem dL_law_379 : decode cL_law 379 = .ok (.invokevirtual 58, 3) := by decide +kernel
theorem dL_law_382 : decode cL_law 382 = .ok (.if_icmp .eq 301, 3) := by decide +kernel
theorem dL_law_385 : decode cL_law 385 = .ok (.iconst 0, 1) := by decide +kernel
theorem dL_law_386 : decode cL_law 386 = .ok (.ireturn, 1) := by decide +kernel
theorem dL_law_387 : decode cL_law 387 = .ok (.aload_n 1, 1) := by decide +kernel
theorem dL_law_388 : decode cL_law 388 = .ok (.aload_n 0, 1) := by decide +kernel
theorem dL_law_389 : decode cL_law 389 = .ok (.iload_n 3, 1) := by decide +kernel
theorem dL_law_390 : decode cL_law 390 = .ok (.iconst 1, 1) := by decide +kernel
theorem dL_law_391 : decode cL_law 391 = .ok (.iadd, 1) := by decide +kernel
theorem dL_law_392 : decode cL_law 392 = .ok (.iaload, 1) := by decide +kernel
theorem dL_law_393 : decode cL_law 393 = .ok (.invokevirtual 59, 3) := by decide +kernel
theorem dL_law_396 : decode cL_law 396 = .ok (.aload_n 2, 1) := by decide +kernel
theorem dL_law_397 : decode cL_law 397 = .ok (.aload_n 0, 1) := by decide +kernel
theorem dL_law_398 : decode cL_law 398 = .ok (.iload_n 3, 1) := by decide +kernel
theorem dL_law_399 : decode cL_law 399 = .ok (.iconst 1, 1) := by decide +kernel
theorem dL_law_400 : decode cL_law 400 = .ok (.iadd, 1) := by decide +kernel
theorem dL_law_401 : decode cL_law 401 = .ok (.iaload, 1) := by decide +kernel
theorem dL_law_402 : decode cL_law 402 = .ok (.invokevirtual 62, 3) := by decide +kernel
theorem dL_law_405 : decode cL_law 405 = .ok (.if_icmp .eq 278, 3) := by decide +kernel
theorem dL_law_408 : decode cL_law 408 = .ok (.iconst 0, 1) := by decide +kernel
theorem dL_law_409 : decode cL_law 409 = .ok (.ireturn, 1) := by decide +kernel
theorem dL_law_410 : decode cL_law 410 = .ok (.aload_n 1, 1) := by decide +kernel
theorem dL_law_411 : decode cL_law 411 = .ok (.aload_n 0, 1) := by decide +kernel
theorem dL_law_412 : decode cL_law 412 = .ok (.iload_n 3, 1) := by decide +kernel
theorem dL_law_413 : decode cL_law 413 = .ok (.iconst 1, 1) := by decide +kernel
theorem dL_law_414 : decode cL_law 414 = .ok (.iadd, 1) := by decide +kernel
theorem dL_law_415 : decode cL_law 415 = .ok (.iaload, 1) := by decide +kernel
theorem dL_law_416 : decode cL_law 416 = .ok (.invokevirtual 63, 3) := by decide +kernel
theorem dL_law_419 : decode cL_law 419 = .ok (.aload_n 2, 1) := by decide +kernel
theorem dL_law_420 : decode cL_law 420 = .ok (.aload_n 0, 1) := by decide +kernel
theorem dL_law_421 : decode cL_law 421 = .ok (.iload_n 3, 1) := by decide +kernel
theorem dL_law_422 : decode cL_law 422 = .ok (.iconst 1, 1) := by decide +kernel
theorem dL_law_423 : decode cL_law 423 = .ok (.iadd, 1) := by decide +kernel
theorem dL_law_424 : decode cL_law 424 = .ok (.iaload, 1) := by decide +kernel
theorem dL_law_425 : decode cL_law 425 = .ok (.invokevirtual 66, 3) := by decide +kernel
theorem dL_law_428 : decode cL_law 428 = .ok (.if_icmp .eq 255, 3) := by decide +kernel
theorem dL_law_431 : decode cL_law 431 = .ok (.iconst 0, 1) := by decide +kernel
theorem dL_law_432 : decode cL_law 432 = .ok (.ireturn, 1) := by decide +kernel
theorem dL_law_433 : decode cL_law 433 = .ok (.aload_n 1, 1) := by decide +kernel
theorem dL_law_434 : decode cL_law 434 = .ok (.aload_n 0, 1) := by decide +kernel
theorem dL_law_435 : decode cL_law 435 = .ok (.iload_n 3, 1) := by decide +kernel
theorem dL_law_436 : decode cL_law 436 = .ok (.iconst 1, 1) := by decide +kernel
theorem dL_law_437 : decode cL_law 437 = .ok (.iadd, 1) := by decide +kernel
theorem dL_law_438 : decode cL_law 438 = .ok (.iaload, 1) := by decide +kernel
theorem dL_law_439 : decode cL_law 439 = .ok (.invokevirtual 67, 3) := by decide +kernel
theorem dL_law_442 : decode cL_law 442 = .ok (.aload_n 2, 1) := by decide +kernel
theorem dL_law_443 : decode cL_law 443 = .ok (.aload_n 0, 1) := by decide +kernel
theorem dL_law_444 : decode cL_law 444 = .ok (.iload_n 3, 1) := by decide +kernel
theorem dL_law_445 : decode cL_law 445 = .ok (.iconst 1, 1) := by decide +kernel
theorem dL_law_446 : decode cL_law 446 = .ok (.iadd, 1) := by decide +kernel
theorem dL_law_447 : decode cL_law 447 = .ok (.iaload, 1) := by decide +kernel
theorem dL_law_448 : decode cL_law 448 = .ok (.invokevirtual 70, 3) := by decide +kernel
theorem dL_law_451 : decode cL_law 451 = .ok (.if_icmp .eq 232, 3) := by decide +kernel
theorem dL_law_454 : decode cL_law 454 = .ok (.iconst 0, 1) := by decide +kernel
theorem dL_law_455 : decode cL_law 455 = .ok (.ireturn, 1) := by decide +kernel
theorem dL_law_456 : decode cL_law 456 = .ok (.aload_n 1, 1) := by decide +kernel
theorem dL_law_457 : decode cL_law 457 = .ok (.aload_n 0, 1) := by decide +kernel
theorem dL_law_458 : decode cL_law 458 = .ok (.iload_n 3, 1) := by decide +kernel
theorem dL_law_459 : decode cL_law 459 = .ok (.iconst 1, 1) := by decide +kernel
theorem dL_law_460 : decode cL_law 460 = .ok (.iadd, 1) := by decide +kernel
theorem dL_law_461 : decode cL_law 461 = .ok (.iaload, 1) := by decide +kernel
theorem dL_law_462 : decode cL_law 462 = .ok (.invokevirtual 71, 3) := by decide +kernel
theorem dL_law_465 : decode cL_law 465 = .ok (.aload_n 2, 1) := by decide +kernel
theorem dL_law_466 : decode cL_law 466 = .ok (.aload_n 0, 1) := by decide +kernel
theorem dL_law_467 : decode cL_law 467 = .ok (.iload_n 3, 1) := by decide +kernel
theorem dL_law_468 : decode cL_law 468 = .ok (.iconst 1, 1) := by decide +kernel
theorem dL_law_469 : decode cL_law 469 = .ok (.iadd, 1) := by decide +kernel
theorem dL_law_470 : decode cL_law 470 = .ok (.iaload, 1) := by decide +kernel
theorem dL_law_471 : decode cL_law 471 = .ok (.invokevirtual 74, 3) := by decide +kernel
theorem dL_law_474 : decode cL_law 474 = .ok (.if_icmp .eq 209, 3) := by decide +kernel
theorem dL_law_477 : decode cL_law 477 = .ok (.iconst 0, 1) := by decide +kernel
theorem dL_law_478 : decode cL_law 478 = .ok (.ireturn, 1) := by decide +kernel
theorem dL_law_479 : decode cL_law 479 = .ok (.aload_n 1, 1) := by decide +kernel
theorem dL_law_480 : decode cL_law 480 = .ok (.aload_n 0, 1) := by decide +kernel
theorem dL_law_481 : decode cL_law 481 = .ok (.iload_n 3, 1) := by decide +kernel
theorem dL_law_482 : decode cL_law 482 = .ok (.iconst 1, 1) := by decide +kernel
theorem dL_law_483 : decode cL_law 483 = .ok (.iadd, 1) := by decide +kernel
theorem dL_law_484 : decode cL_law 484 = .ok (.iaload, 1) := by decide +kernel
theorem dL_law_485 : decode cL_law 485 = .ok (.invokevirtual 75, 3) := by decide +kernel
theorem dL_law_488 : decode cL_law 488 = .ok (.aload_n 2, 1) := by decide +kernel
theorem dL_law_489 : decode cL_law 489 = .ok (.aload_n 0, 1) := by decide +kernel
theorem dL_law_490 : decode cL_law 490 = .ok (.iload_n 3, 1) := by decide +kernel
theorem dL_law_491 : decode cL_law 491 = .ok (.iconst 1, 1) := by decide +kernel
theorem dL_law_492 : decode cL_law 492 = .ok (.iadd, 1) := by decide +kernel
theorem dL_law_493 : decode cL_law 493 = .ok (.iaload, 1) := by decide +kernel
theorem dL_law_494 : decode cL_law 494 = .ok (.invokevirtual 78, 3) := by decide +kernel
theorem dL_law_497 : decode cL_law 497 = .ok (.if_icmp .eq 186, 3) := by decide +kernel
theorem dL_law_500 : decode cL_law 500 = .ok (.iconst 0, 1) := by decide +kernel
theorem dL_law_501 : decode cL_law 501 = .ok (.ireturn, 1) := by decide +kernel
theorem dL_law_502 : decode cL_law 502 = .ok (.aload_n 1, 1) := by decide +kernel
theorem dL_law_503 : decode cL_law 503 = .ok (.aload_n 0, 1) := by decide +kernel
theorem dL_law_504 : decode cL_law 504 = .ok (.iload_n 3, 1) := by decide +kernel
theorem dL_law_505 : decode cL_law 505 = .ok (.iconst 1, 1) := by decide +kernel
theorem dL_law_506 : decode cL_law 506 = .ok (.iadd, 1) := by decide +kernel
theorem dL_law_507 : decode cL_law 507 = .ok (.iaload, 1) := by decide +kernel
theorem dL_law_508 : decode cL_law 508 = .ok (.invokevirtual 79, 3) := by decide +kernel
theorem dL_law_511 : decode cL_law 511 = .ok (.aload_n 2, 1) := by decide +kernel
theorem dL_law_512 : decode cL_law 512 = .ok (.aload_n 0, 1) := by decide +kernel
theorem dL_law_513 : decode cL_law 513 = .ok (.iload_n 3, 1) := by decide +kernel
theorem dL_law_514 : decode cL_law 514 = .ok (.iconst 1, 1) := by decide +kernel
theorem dL_law_515 : decode cL_law 515 = .ok (.iadd, 1) := by decide +kernel
theorem dL_law_516 : decode cL_law 516 = .ok (.iaload, 1) := by decide +kernel
theorem dL_law_517 : decode cL_law 517 = .ok (.invokevirtual 82, 3) := by decide +kernel
theorem dL_law_520 : decode cL_law 520 = .ok (.if_icmp .eq 163, 3) := by decide +kernel
theorem dL_law_523 : decode cL_law 523 = .ok (.iconst 0, 1) := by decide +kernel
theorem dL_law_524 : decode cL_law 524 = .ok (.ireturn, 1) := by decide +kernel
theorem dL_law_525 : decode cL_law 525 = .ok (.aload_n 1, 1) := by decide +kernel
theorem dL_law_526 : decode cL_law 526 = .ok (.aload_n 0, 1) := by decide +kernel
theorem dL_law_527 : decode cL_law 527 = .ok (.iload_n 3, 1) := by decide +kernel
theorem dL_law_528 : decode cL_law 528 = .ok (.iconst 1, 1) := by decide +kernel
theorem dL_law_529 : decode cL_law 529 = .ok (.iadd, 1) := by decide +kernel
theorem dL_law_530 : decode cL_law 530 = .ok (.iaload, 1) := by decide +kernel
theorem dL_law_531 : decode cL_law 531 = .ok (.aload_n 0, 1) := by decide +kernel
theorem dL_law_532 : decode cL_law 532 = .ok (.iload_n 3, 1) := by decide +kernel
theorem dL_law_533 : decode cL_law 533 = .ok (.iconst 2, 1) := by decide +kernel
theorem dL_law_534 : decode cL_law 534 = .ok (.iadd, 1) := by decide +kernel
theorem dL_law_535 : decode cL_law 535 = .ok (.iaload, 1) := by decide +kernel
theorem dL_law_536 : decode cL_law 536 = .ok (.invokevirtual 83, 3) := by decide +kernel
theorem dL_law_539 : decode cL_law 539 = .ok (.aload_n 2, 1) := by decide +kernel
theorem dL_law_540 : decode cL_law 540 = .ok (.aload_n 0, 1) := by decide +kernel
theorem dL_law_541 : decode cL_law 541 = .ok (.iload_n 3, 1) := by decide +kernel
theorem dL_law_542 : decode cL_law 542 = .ok (.iconst 1, 1) := by decide +kernel
theorem dL_law_543 : decode cL_law 543 = .ok (.iadd, 1) := by decide +kernel
theorem dL_law_544 : decode cL_law 544 = .ok (.iaload, 1) := by decide +kernel
theorem dL_law_545 : decode cL_law 545 = .ok (.aload_n 0, 1) := by decide +kernel
theorem dL_law_546 : decode cL_law 546 = .ok (.iload_n 3, 1) := by decide +kernel
theorem dL_law_547 : decode cL_law 547 = .ok (.iconst 2, 1) := by decide +kernel
theorem dL_law_548 : decode cL_law 548 = .ok (.iadd, 1) := by decide +kernel
theorem dL_law_549 : decode cL_law 549 = .ok (.iaload, 1) := by decide +kernel
theorem dL_law_550 : decode cL_law 550 = .ok (.invokevirtual 86, 3) := by decide +kernel
theorem dL_law_553 : decode cL_law 553 = .ok (.if_icmp .eq 130, 3) := by decide +kernel
theorem dL_law_556 : decode cL_law 556 = .ok (.iconst 0, 1) := by decide +kernel
theorem dL_law_557 : decode cL_law 557 = .ok (.ireturn, 1) := by decide +kernel
theorem dL_law_558 : decode cL_law 558 = .ok (.aload_n 1, 1) := by decide +kernel
theorem dL_law_559 : decode cL_law 559 = .ok (.aload_n 0, 1) := by decide +kernel
theorem dL_law_560 : decode cL_law 560 = .ok (.iload_n 3, 1) := by decide +kernel
theorem dL_law_561 : decode cL_law 561 = .ok (.iconst 1, 1) := by decide +kernel
theorem dL_law_562 : decode cL_law 562 = .ok (.iadd, 1) := by decide +kernel
theorem dL_law_563 : decode cL_law 563 = .ok (.iaload, 1) := by decide +kernel
theorem dL_law_564 : decode cL_law 564 = .ok (.aload_n 0, 1) := by decide +kernel
theorem dL_law_565 : decode cL_law 565 = .ok (.iload_n 3, 1) := by decide +kernel
theorem dL_law_566 : decode cL_law 566 = .ok (.iconst 2, 1) := by decide +kernel
theorem dL_law_567 : decode cL_law 567 = .ok (.iadd, 1) := by decide +kernel
theorem dL_law_568 : decode cL_law 568 = .ok (.iaload, 1) := by decide +kernel
theorem dL_law_569 : decode cL_law 569 = .ok (.invokevirtual 87, 3) := by decide +kernel
theorem dL_law_572 : decode cL_law 572 = .ok (.aload_n 2, 1) := by decide +kernel
theorem dL_law_573 : decode cL_law 573 = .ok (.aload_n 0, 1) := by decide +kernel
theorem dL_law_574 : decode cL_law 574 = .ok (.iload_n 3, 1) := by decide +kernel
theorem dL_law_575 : decode cL_law 575 = .ok (.iconst 1, 1) := by decide +kernel
theorem dL_law_576 : decode cL_law 576 = .ok (.iadd, 1) := by decide +kernel
theorem dL_law_577 : decode cL_law 577 = .ok (.iaload, 1) := by decide +kernel
theorem dL_law_578 : decode cL_law 578 = .ok (.aload_n 0, 1) := by decide +kernel
theorem dL_law_579 : decode cL_law 579 = .ok (.iload_n 3, 1) := by decide +kernel
theorem dL_law_580 : decode cL_law 580 = .ok (.iconst 2, 1) := by decide +kernel
theorem dL_law_581 : decode cL_law 581 = .ok (.iadd, 1) := by decide +kernel
theorem dL_law_582 : decode cL_law 582 = .ok (.iaload, 1) := by decide +kernel
theorem dL_law_583 : decode cL_law 583 = .ok (.invokevirtual 90, 3) := by decide +kernel
theorem dL_law_586 : decode cL_law 586 = .ok (.if_icmp .eq 97, 3) := by decide +kernel
theorem dL_law_589 : decode cL_law 589 = .ok (.iconst 0, 1) := by decide +kernel
theorem dL_law_590 : decode cL_law 590 = .ok (.ireturn, 1) := by decide +kernel
theorem dL_law_591 : decode cL_law 591 = .ok (.aload_n 1, 1) := by decide +kernel
theorem dL_law_592 : decode cL_law 592 = .ok (.aload_n 0, 1) := by decide +kernel
theorem dL_law_593 : decode cL_law 593 = .ok (.iload_n 3, 1) := by decide +kernel
theorem dL_law_594 : decode cL_law 594 = .ok (.iconst 1, 1) := by decide +kernel
theorem dL_law_595 : decode cL_law 595 = .ok (.iadd, 1) := by decide +kernel
theorem dL_law_596 : decode cL_law 596 = .ok (.iaload, 1) := by decide +kernel
theorem dL_law_597 : decode cL_law 597 = .ok (.invokevirtual 91, 3) := by decide +kernel
theorem dL_law_600 : decode cL_law 600 = .ok (.aload_n 2, 1) := by decide +kernel
theorem dL_law_601 : decode cL_law 601 = .ok (.aload_n 0, 1) := by decide +kernel
theorem dL_law_602 : decode cL_law 602 = .ok (.iload_n 3, 1) := by decide +kernel
theorem dL_law_603 : decode cL_law 603 = .ok (.iconst 1, 1) := by decide +kernel
theorem dL_law_604 : decode cL_law 604 = .ok (.iadd, 1) := by decide +kernel
theorem dL_law_605 : decode cL_law 605 = .ok (.iaload, 1) := by decide +kernel
theorem dL_law_606 : decode cL_law 606 = .ok (.invokevirtual 94, 3) := by decide +kernel
theorem dL_law_609 : decode cL_law 609 = .ok (.if_icmp .eq 74, 3) := by decide +kernel
theorem dL_law_612 : decode cL_law 612 = .ok (.iconst 0, 1) := by decide +kernel
theorem dL_law_613 : decode cL_law 613 = .ok (.ireturn, 1) := by decide +kernel
theorem dL_law_614 : decode cL_law 614 = .ok (.aload_n 1, 1) := by decide +kernel
theorem dL_law_615 : decode cL_law 615 = .ok (.aload_n 0, 1) := by decide +kernel
theorem dL_law_616 : decode cL_law 616 = .ok (.iload_n 3, 1) := by decide +kernel
theorem dL_law_617 : decode cL_law 617 = .ok (.iconst 1, 1) := by decide +kernel
theorem dL_law_618 : decode cL_law 618 = .ok (.iadd, 1) := by decide +kernel
theorem dL_law_619 : decode cL_law 619 = .ok (.iaload, 1) := by decide +kernel
theorem dL_law_620 : decode cL_law 620 = .ok (.aload_n 0, 1) := by decide +kernel
theorem dL_law_621 : decode cL_law 621 = .ok (.iload_n 3, 1) := by decide +kernel
theorem dL_law_622 : decode cL_law 622 = .ok (.iconst 2, 1) := by decide +kernel
theorem dL_law_623 : decode cL_law 623 = .ok (.iadd, 1) := by decide +kernel
theorem dL_law_624 : decode cL_law 624 = .ok (.iaload, 1) := by decide +kernel
theorem dL_law_625 : decode cL_law 625 = .ok (.invokevirtual 95, 3) := by decide +kernel
theorem dL_law_628 : decode cL_law 628 = .ok (.aload_n 2, 1) := by decide +kernel
theorem dL_law_629 : decode cL_law 629 = .ok (.aload_n 0, 1) := by decide +kernel
theorem dL_law_630 : decode cL_law 630 = .ok (.iload_n 3, 1) := by decide +kernel
theorem dL_law_631 : decode cL_law 631 = .ok (.iconst 1, 1) := by decide +kernel
theorem dL_law_632 : decode cL_law 632 = .ok (.iadd, 1) := by decide +kernel
theorem dL_law_633 : decode cL_law 633 = .ok (.iaload, 1) := by decide +kernel
theorem dL_law_634 : decode cL_law 634 = .ok (.aload_n 0, 1) := by decide +kernel
theorem dL_law_635 : decode cL_law 635 = .ok (.iload_n 3, 1) := by decide +kernel
theorem dL_law_636 : decode cL_law 636 = .ok (.iconst 2, 1) := by decide +kernel
theorem dL_law_637 : decode cL_law 637 = .ok (.iadd, 1) := by decide +kernel
theorem dL_law_638 : decode cL_law 638 = .ok (.iaload, 1) := by decide +kernel
theorem dL_law_639 : decode cL_law 639 = .ok (.invokevirtual 98, 3) := by decide +kernel
theorem dL_law_642 : decode cL_law 642 = .ok (.if_icmp .eq 41, 3) := by decide +kernel
theorem dL_law_645 : decode cL_law 645 = .ok (.iconst 0, 1) := by decide +kernel
theorem dL_law_646 : decode cL_law 646 = .ok (.ireturn, 1) := by decide +kernel
theorem dL_law_647 : decode cL_law 647 = .ok (.aload_n 1, 1) := by decide +kernel
theorem dL_law_648 : decode cL_law 648 = .ok (.invokevirtual 99, 3) := by decide +kernel
theorem dL_law_651 : decode cL_law 651 = .ok (.aload_n 2, 1) := by decide +kernel
theorem dL_law_652 : decode cL_law 652 = .ok (.invokevirtual 103, 3) := by decide +kernel
theorem dL_law_655 : decode cL_law 655 = .ok (.if_icmp .eq 28, 3) := by decide +kernel
theorem dL_law_658 : decode cL_law 658 = .ok (.iconst 0, 1) := by decide +kernel
theorem dL_law_659 : decode cL_law 659 = .ok (.ireturn, 1) := by decide +kernel
theorem dL_law_660 : decode cL_law 660 = .ok (.aload_n 1, 1) := by decide +kernel
theorem dL_law_661 : decode cL_law 661 = .ok (.aload_n 0, 1) := by decide +kernel
theorem dL_law_662 : decode cL_law 662 = .ok (.iload_n 3, 1) := by decide +kernel
theorem dL_law_663 : decode cL_law 663 = .ok (.iconst 1, 1) := by decide +kernel
theorem dL_law_664 : decode cL_law 664 = .ok (.iadd, 1) := by decide +kernel
theorem dL_law_665 : decode cL_law 665 = .ok (.iaload, 1) := by decide +kernel
theorem dL_law_666 : decode cL_law 666 = .ok (.invokevirtual 104, 3) := by decide +kernel
theorem dL_law_669 : decode cL_law 669 = .ok (.aload_n 2, 1) := by decide +kernel
theorem dL_law_670 : decode cL_law 670 = .ok (.aload_n 0, 1) := by decide +kernel
theorem dL_law_671 : decode cL_law 671 = .ok (.iload_n 3, 1) := by decide +kernel
theorem dL_law_672 : decode cL_law 672 = .ok (.iconst 1, 1) := by decide +kernel
theorem dL_law_673 : decode cL_law 673 = .ok (.iadd, 1) := by decide +kernel
theorem dL_law_674 : decode cL_law 674 = .ok (.iaload, 1) := by decide +kernel
theorem dL_law_675 : decode cL_law 675 = .ok (.invokevirtual 107, 3) := by decide +kernel
theorem dL_law_678 : decode cL_law 678 = .ok (.if_icmp .eq 5, 3) := by decide +kernel
theorem dL_law_681 : decode cL_law 681 = .ok (.iconst 0, 1) := by decide +kernel
theorem dL_law_682 : decode cL_law 682 = .ok (.ireturn, 1) := by decide +kernel
theorem dL_law_683 : decode cL_law 683 = .ok (.iinc 3 3, 3) := by decide +kernel
theorem dL_law_686 : decode cL_law 686 = .ok (.goto (-638), 3) := by decide +kernel
theorem dL_law_689 : decode cL_law 689 = .ok (.iconst 1, 1) := by decide +kernel
theorem dL_law_690 : decode cL_law 690 = .ok (.ireturn, 1) := by decide +kernel
end
section
/-! The frame of all later parts: a state is a function of kind, number and place; a world is a cell for each kind and number. -/
abbrev mz_S : Type := Nat → Nat → Nat → Int32
def mz_u (u : mz_S) (k i f : Nat) (v : Int32) : mz_S := fun k' i' f' => if k' = k ∧ i' = i ∧ f' = f then v else u k' i' f'
theorem mz_at (u : mz_S) (k i f : Nat) (v : Int32) (k' i' f' : Nat) : mz_u u k i f v k' i' f' = if k' = k ∧ i' = i ∧ f' = f then v else u k' i' f' := rfl
theorem mz_us (u : mz_S) (k i f : Nat) (v : Int32) : mz_u u k i f v k i f = v := by simp [mz_u]
theorem mz_uk {u : mz_S} {k i f : Nat} {v : Int32} {k' i' f' : Nat} (h : k' ≠ k) : mz_u u k i f v k' i' f' = u k' i' f' := by simp [mz_u, h]
theorem mz_ui {u : mz_S} {k i f : Nat} {v : Int32} {k' i' f' : Nat} (h : i' ≠ i) : mz_u u k i f v k' i' f' = u k' i' f' := by simp [mz_u, h]
theorem mz_uf {u : mz_S} {k i f : Nat} {v : Int32} {k' i' f' : Nat} (h : f' ≠ f) : mz_u u k i f v k' i' f' = u k' i' f' := by simp [mz_u, h]
theorem mz_uo {u : mz_S} {k i f : Nat} {v : Int32} {k' i' : Nat} (h : ¬ (k' = k ∧ i' = i)) (f' : Nat) : mz_u u k i f v k' i' f' = u k' i' f' := by
  unfold mz_u
  rw [if_neg (fun z => h ⟨z.1, z.2.1⟩)]
/-- a truth as a number -/
def mz_b (c : Prop) [Decidable c] : Int32 := if c then 1 else 0
theorem mz_b_t {c : Prop} [Decidable c] (h : c) : mz_b c = 1 := if_pos h
theorem mz_b_f {c : Prop} [Decidable c] (h : ¬ c) : mz_b c = 0 := if_neg h
theorem mz_b_0 {c : Prop} [Decidable c] : mz_b c = 0 ↔ ¬ c := by
  unfold mz_b
  split <;> simp_all
theorem mz_b_n {c : Prop} [Decidable c] : mz_b c ≠ 0 ↔ c := by
  unfold mz_b
  split <;> simp_all
theorem mz_bb {c : Prop} [Decidable c] : mz_b (mz_b c ≠ 0) = mz_b c := by
  unfold mz_b
  split <;> split <;> simp_all
theorem mz_b_nar {c : Prop} [Decidable c] : narrow .boolean (.int (mz_b c)) = .int (mz_b c) := by
  unfold mz_b
  split <;> rfl
theorem mz_b_fit {c : Prop} [Decidable c] : fits .boolean (.int (mz_b c)) = true := by
  unfold mz_b
  split <;> rfl
theorem mz_b_iff {c d : Prop} [Decidable c] [Decidable d] (h : c ↔ d) : mz_b c = mz_b d := by
  unfold mz_b
  by_cases hc : c
  · rw [if_pos hc, if_pos (h.mp hc)]
  · rw [if_neg hc, if_neg (fun z => hc (h.mpr z))]
/-- a cell of the world for each kind k and number i below nb k, at the address ad k i -/
def mz_G (D : va_G) (cl : List vw_C) (nb : Nat → Nat) (ad : Nat → Nat → Nat) (ce : Nat → Nat → va_E) (H : Heap) : Prop := ∀ k i : Nat, i < nb k → va_at D cl (ad k i, ce k i) H
def mz_I (nb : Nat → Nat) (ad : Nat → Nat → Nat) : Prop := ∀ k i k' i' : Nat, i < nb k → i' < nb k' → ad k i = ad k' i' → k = k' ∧ i = i'
def mz_A (nb : Nat → Nat) (ad : Nat → Nat → Nat) : Nat → Prop := fun q => ∃ k i : Nat, i < nb k ∧ q = ad k i
theorem mz_A.in {nb : Nat → Nat} {ad : Nat → Nat → Nat} {k i : Nat} (h : i < nb k) : mz_A nb ad (ad k i) := ⟨k, i, h, rfl⟩
theorem mz_G.one {D : va_G} {cl : List vw_C} {nb : Nat → Nat} {ad : Nat → Nat → Nat} {ce : Nat → Nat → va_E} {H : Heap} (h : mz_G D cl nb ad ce H) {k i : Nat} (hi : i < nb k) : va_P D cl [(ad k i, ce k i)] H := by
  intro j q hj
  cases j with
  | zero =>
    rw [List.getElem?_cons_zero] at hj
    cases hj
    exact h k i hi
  | succ j =>
    rw [List.getElem?_cons_succ] at hj
    simp at hj
theorem mz_G.set {D : va_G} {cl : List vw_C} {nb : Nat → Nat} {ad : Nat → Nat → Nat} {ce ce' : Nat → Nat → va_E} {H H1 : Heap} {k i : Nat} (h : mz_G D cl nb ad ce H) (hI : mz_I nb ad) (hi : i < nb k) (he : va_at D cl (ad k i, ce' k i) H1) (oq : ∀ q : Nat, q ≠ ad k i → H1[q]? = H[q]?) (ho : ∀ k' i' : Nat, ¬ (k' = k ∧ i' = i) → ce' k' i' = ce k' i') : mz_G D cl nb ad ce' H1 := by
  intro k' i' hi'
  by_cases e : k' = k ∧ i' = i
  · obtain ⟨rfl, rfl⟩ := e
    exact he
  · rw [ho k' i' e]
    exact (h k' i' hi').kept (oq _ (fun z => e (hI k' i' k i hi' hi z)))
theorem mz_G.kept {D : va_G} {cl : List vw_C} {nb : Nat → Nat} {ad : Nat → Nat → Nat} {ce : Nat → Nat → va_E} {H H1 : Heap} (h : mz_G D cl nb ad ce H) (hk : ∀ k i : Nat, i < nb k → H1[ad k i]? = H[ad k i]?) : mz_G D cl nb ad ce H1 := fun k i hi => (h k i hi).kept (hk k i hi)
section MZW
variable {p : Program} {l : Launch} {e : Env} {R : Room} {s : State} {m : MethodId} {args : Array Value} {below : List Frame} {meth : Method} {c : Code} {H : Heap} {locs : List Loc} {cells slots : Nat} {Q : State → Prop}
variable {cc : ByteArray} {pc : Nat} {ls : Array Slot} {rest : List Value} {D : va_G} {cl : List vw_C} {a : Nat} {tys : List (ClassId × FieldType)}
/-- a field of one's own class is written: this cell has it, all others are as they were -/
theorem mz_put (hexec : p.tables.exec = Jvm.exec) (hb : c.code = cc) {own C : String} {T : u_T} {N ci index : Nat} {Ts : List Cond} (hts : ∀ w ∈ Ts, w.before args s = true) (hin : ∀ w ∈ u_ws C T N, w ∈ Ts) (ty0 : Nat → FieldType) (hty : ∀ k, k < N → parseFieldDescriptor (T k).2.2.1 = some (ty0 k)) (hnm : ∀ a, a < N → ∀ b, b < N → a ≠ b → (T a).2.1 ≠ (T b).2.1) (hown : s.vm.findClass own = some m.cls) (hK : va_K D cl tys s) {fs : List Value} (hP : va_at D cl (a, .inr (ci, fs)) H) (hc : cl[ci]? = some (C, T, N)) (k : Nat) (hk : k < N) (hlink : (Cond.fieldLink own index (T k).1 (T k).2.1 (T k).2.2.1).before args s = true) (hfin : (T k).2.2.2 = false) {ty : FieldType} {v : Value} (hd : parseFieldDescriptor (T k).2.2.1 = some ty) (hn : narrow ty v = v) (hfit : fits ty v = true) (hl : k < fs.length) (hdg : decode cc pc = .ok (.putfield index, 3))
    (kk : ∀ (H1 : Heap) (j : Nat), va_at D cl (a, .inr (ci, fs.set k v)) H1 → H1.size = H.size → (∀ q : Nat, q ≠ a → H1[q]? = H[q]?) → W p l e R s m args below meth c H1 (locs ++ [⟨a, j⟩]) cells slots Q (F0 m (pc + 3) ls rest)) : W p l e R s m args below meth c H locs cells slots Q (F0 m pc ls (v :: .ref a :: rest)) := by
  have hap := va_apart (own := own) hts hin ty0 hty hnm hK hc
  obtain ⟨r, h1, cell, q1, q2, q3, q4⟩ := hP
  have hr : r = (C, T, N) := Option.some.inj (h1.symm.trans hc)
  subst hr
  obtain ⟨hS, hfc, kC, hkC, hkind⟩ := hK.1 ci _ hc
  obtain ⟨cf, kf, fi, f, hi, hsl⟩ := hS k hk
  have hlay := hts _ (hin _ (u_in_lay hk))
  unfold u_lay at hlay
  rw [if_neg (by rw [hfin]; decide)] at hlay
  refine W.putK hexec hb (f := f) ⟨hown, hlink, ⟨_, _, _, hi⟩, (u_facts hfc hkC (u_lays hts hin hk) hi).1⟩ (by rw [q2]; exact u_store hfc hkC hkind hlay hi hd hn hfit) q1 q3 (by rw [hsl]; exact k2_hasslot (q4 k hk)) rfl rfl hdg fun H' e1 e2 e3 => ?_
  rw [hsl] at e1 ⊢
  exact kk H' _ ⟨_, hc, t_OB.to (V := updV (vp_V fs) k v) ⟨_, e1, q2, q3, t_set q4 hap hk v⟩ (fun j _ => vp_updV_set hl v j)⟩ e2 e3
/-- the same, of a nest mate -/
theorem mz_putN (hexec : p.tables.exec = Jvm.exec) (hb : c.code = cc) {own C host : String} {T : u_T} {N ci index : Nat} {Ts : List Cond} (hts : ∀ w ∈ Ts, w.before args s = true) (hin : ∀ w ∈ u_ws C T N, w ∈ Ts) (ty0 : Nat → FieldType) (hty : ∀ k, k < N → parseFieldDescriptor (T k).2.2.1 = some (ty0 k)) (hnm : ∀ a, a < N → ∀ b, b < N → a ≠ b → (T a).2.1 ≠ (T b).2.1) (hown : s.vm.findClass own = some m.cls) (hK : va_K D cl tys s) {fs : List Value} (hP : va_at D cl (a, .inr (ci, fs)) H) (hc : cl[ci]? = some (C, T, N)) (k : Nat) (hk : k < N) (hlink : (Cond.fieldLinkNest own index (T k).1 (T k).2.1 (T k).2.2.1 host).before args s = true) (hfin : (T k).2.2.2 = false) {ty : FieldType} {v : Value} (hd : parseFieldDescriptor (T k).2.2.1 = some ty) (hn : narrow ty v = v) (hfit : fits ty v = true) (hl : k < fs.length) (hdg : decode cc pc = .ok (.putfield index, 3))
    (kk : ∀ (H1 : Heap) (j : Nat), va_at D cl (a, .inr (ci, fs.set k v)) H1 → H1.size = H.size → (∀ q : Nat, q ≠ a → H1[q]? = H[q]?) → W p l e R s m args below meth c H1 (locs ++ [⟨a, j⟩]) cells slots Q (F0 m (pc + 3) ls rest)) : W p l e R s m args below meth c H locs cells slots Q (F0 m pc ls (v :: .ref a :: rest)) := by
  have hap := va_apart (own := own) hts hin ty0 hty hnm hK hc
  obtain ⟨r, h1, cell, q1, q2, q3, q4⟩ := hP
  have hr : r = (C, T, N) := Option.some.inj (h1.symm.trans hc)
  subst hr
  obtain ⟨hS, hfc, kC, hkC, hkind⟩ := hK.1 ci _ hc
  obtain ⟨cf, kf, fi, f, hi, hsl⟩ := hS k hk
  have hlay := hts _ (hin _ (u_in_lay hk))
  unfold u_lay at hlay
  rw [if_neg (by rw [hfin]; decide)] at hlay
  refine va_WputK hexec hb (f := f) hown hlink hi (u_facts hfc hkC (u_lays hts hin hk) hi).1 (by rw [q2]; exact u_store hfc hkC hkind hlay hi hd hn hfit) q1 q3 (by rw [hsl]; exact k2_hasslot (q4 k hk)) rfl rfl hdg fun H' e1 e2 e3 => ?_
  rw [hsl] at e1 ⊢
  exact kk H' _ ⟨_, hc, t_OB.to (V := updV (vp_V fs) k v) ⟨_, e1, q2, q3, t_set q4 hap hk v⟩ (fun j _ => vp_updV_set hl v j)⟩ e2 e3
/-- an element of an array of ints is written -/
theorem mz_iast (hexec : p.tables.exec = Jvm.exec) (hb : c.code = cc) (hK : va_K D cl tys s) (t0 : Nat) {cA : ClassId} {n : Nat} {f : Nat → Int32} (hP : va_at D cl (a, .inl (cA, n, .inl f)) H) (ht : tys[t0]? = some (cA, .int)) {i x : Int32} (hin : vp_in i n) (hdg : decode cc pc = .ok (.iastore, 1))
    (kk : ∀ (H1 : Heap) (j : Nat), va_at D cl (a, .inl (cA, n, .inl (upd f i.toNatClampNeg x))) H1 → H1.size = H.size → (∀ q : Nat, q ≠ a → H1[q]? = H[q]?) → W p l e R s m args below meth c H1 (locs ++ [⟨a, j⟩]) cells slots Q (F0 m (pc + 1) ls rest)) : W p l e R s m args below meth c H locs cells slots Q (F0 m pc ls (.int x :: .int i :: .ref a :: rest)) := by
  refine W.iast hexec hb hP ((hK.2 t0 _ ht).1 n (fun j => .int (f j))) (fun q => by cases q) (by show ¬ (i < 0 ∨ (arrV _ _ _).slots.size ≤ _); rw [arrV_size]; exact hin) rfl rfl hdg fun H1 e z oq => ?_
  refine kk H1 _ ?_ z oq
  show H1[a]? = some (vp_cell _ _)
  rw [e, vp_cell_i, vp_cell_i, arrV_store]
  congr 2
  funext q
  by_cases hq : q = i.toNatClampNeg
  · subst hq
    simp [updV, upd]
  · simp [updV, upd, hq]
/-- an element of an array of booleans is written -/
theorem mz_zast (hexec : p.tables.exec = Jvm.exec) (hb : c.code = cc) (hK : va_K D cl tys s) (t0 : Nat) {cA : ClassId} {n : Nat} {f : Nat → Int32} (hP : va_at D cl (a, .inl (cA, n, .inl f)) H) (ht : tys[t0]? = some (cA, .boolean)) {i x : Int32} (hin : vp_in i n) (hv : narrow .boolean (.int x) = .int x) (hdg : decode cc pc = .ok (.bastore, 1))
    (kk : ∀ (H1 : Heap) (j : Nat), va_at D cl (a, .inl (cA, n, .inl (upd f i.toNatClampNeg x))) H1 → H1.size = H.size → (∀ q : Nat, q ≠ a → H1[q]? = H[q]?) → W p l e R s m args below meth c H1 (locs ++ [⟨a, j⟩]) cells slots Q (F0 m (pc + 1) ls rest)) : W p l e R s m args below meth c H locs cells slots Q (F0 m pc ls (.int x :: .int i :: .ref a :: rest)) := by
  refine W.zast hexec hb hP ((hK.2 t0 _ ht).1 n (fun j => .int (f j))) (fun q => by cases q) (by show ¬ (i < 0 ∨ (arrV _ _ _).slots.size ≤ _); rw [arrV_size]; exact hin) rfl rfl hdg fun H1 e z oq => ?_
  refine kk H1 _ ?_ z oq
  show H1[a]? = some (vp_cell _ _)
  rw [e, vp_cell_i, vp_cell_i, arrV_store, hv]
  congr 2
  funext q
  by_cases hq : q = i.toNatClampNeg
  · subst hq
    simp [updV, upd]
  · simp [updV, upd, hq]
/-- branches that give both forms of their condition -/
theorem mz_icmp_lt (hx : p.tables.exec = Jvm.exec) (hb : c.code = cc) {x y : Int32} {off : Int} {tgt : Nat} (hdg : decode cc pc = .ok (.if_icmp .lt off, 3)) (ht : (pc : Int) + off = (tgt : Int)) (kt : x < y → ¬ y ≤ x → W p l e R s m args below meth c H locs cells slots Q (F0 m tgt ls rest)) (kf : ¬ x < y → y ≤ x → W p l e R s m args below meth c H locs cells slots Q (F0 m (pc + 3) ls rest)) : W p l e R s m args below meth c H locs cells slots Q (F0 m pc ls (.int y :: .int x :: rest)) :=
  lv_icmp_lt hx hb hdg ht (fun h => kt h (Int32.not_le.mpr h)) (fun h => kf h (Int32.not_lt.mp h))
theorem mz_icmp_ge (hx : p.tables.exec = Jvm.exec) (hb : c.code = cc) {x y : Int32} {off : Int} {tgt : Nat} (hdg : decode cc pc = .ok (.if_icmp .ge off, 3)) (ht : (pc : Int) + off = (tgt : Int)) (kt : ¬ x < y → y ≤ x → W p l e R s m args below meth c H locs cells slots Q (F0 m tgt ls rest)) (kf : x < y → ¬ y ≤ x → W p l e R s m args below meth c H locs cells slots Q (F0 m (pc + 3) ls rest)) : W p l e R s m args below meth c H locs cells slots Q (F0 m pc ls (.int y :: .int x :: rest)) :=
  lv_icmp_ge hx hb hdg ht (fun h => kt (Int32.not_lt.mpr h) h) (fun h => kf (Int32.not_le.mp h) h)
theorem mz_icmp_gt (hx : p.tables.exec = Jvm.exec) (hb : c.code = cc) {x y : Int32} {off : Int} {tgt : Nat} (hdg : decode cc pc = .ok (.if_icmp .gt off, 3)) (ht : (pc : Int) + off = (tgt : Int)) (kt : y < x → ¬ x ≤ y → W p l e R s m args below meth c H locs cells slots Q (F0 m tgt ls rest)) (kf : ¬ y < x → x ≤ y → W p l e R s m args below meth c H locs cells slots Q (F0 m (pc + 3) ls rest)) : W p l e R s m args below meth c H locs cells slots Q (F0 m pc ls (.int y :: .int x :: rest)) :=
  lv_icmp_gt hx hb hdg ht (fun h => kt h (Int32.not_le.mpr h)) (fun h => kf h (Int32.not_lt.mp h))
theorem mz_icmp_le (hx : p.tables.exec = Jvm.exec) (hb : c.code = cc) {x y : Int32} {off : Int} {tgt : Nat} (hdg : decode cc pc = .ok (.if_icmp .le off, 3)) (ht : (pc : Int) + off = (tgt : Int)) (kt : ¬ y < x → x ≤ y → W p l e R s m args below meth c H locs cells slots Q (F0 m tgt ls rest)) (kf : y < x → ¬ x ≤ y → W p l e R s m args below meth c H locs cells slots Q (F0 m (pc + 3) ls rest)) : W p l e R s m args below meth c H locs cells slots Q (F0 m pc ls (.int y :: .int x :: rest)) :=
  lv_icmp_le hx hb hdg ht (fun h => kt (Int32.not_lt.mpr h) h) (fun h => kf (Int32.not_le.mp h) h)
theorem mz_if_lt (hx : p.tables.exec = Jvm.exec) (hb : c.code = cc) {x : Int32} {off : Int} {tgt : Nat} (hdg : decode cc pc = .ok (.ifCond .lt off, 3)) (ht : (pc : Int) + off = (tgt : Int)) (kt : x < 0 → ¬ 0 ≤ x → W p l e R s m args below meth c H locs cells slots Q (F0 m tgt ls rest)) (kf : ¬ x < 0 → 0 ≤ x → W p l e R s m args below meth c H locs cells slots Q (F0 m (pc + 3) ls rest)) : W p l e R s m args below meth c H locs cells slots Q (F0 m pc ls (.int x :: rest)) :=
  lv_if_lt hx hb hdg ht (fun h => kt h (Int32.not_le.mpr h)) (fun h => kf h (Int32.not_lt.mp h))
theorem mz_if_ge (hx : p.tables.exec = Jvm.exec) (hb : c.code = cc) {x : Int32} {off : Int} {tgt : Nat} (hdg : decode cc pc = .ok (.ifCond .ge off, 3)) (ht : (pc : Int) + off = (tgt : Int)) (kt : ¬ x < 0 → 0 ≤ x → W p l e R s m args below meth c H locs cells slots Q (F0 m tgt ls rest)) (kf : x < 0 → ¬ 0 ≤ x → W p l e R s m args below meth c H locs cells slots Q (F0 m (pc + 3) ls rest)) : W p l e R s m args below meth c H locs cells slots Q (F0 m pc ls (.int x :: rest)) :=
  lv_if_ge hx hb hdg ht (fun h => kt (Int32.not_lt.mpr h) h) (fun h => kf (Int32.not_le.mp h) h)
theorem mz_if_gt (hx : p.tables.exec = Jvm.exec) (hb : c.code = cc) {x : Int32} {off : Int} {tgt : Nat} (hdg : decode cc pc = .ok (.ifCond .gt off, 3)) (ht : (pc : Int) + off = (tgt : Int)) (kt : 0 < x → ¬ x ≤ 0 → W p l e R s m args below meth c H locs cells slots Q (F0 m tgt ls rest)) (kf : ¬ 0 < x → x ≤ 0 → W p l e R s m args below meth c H locs cells slots Q (F0 m (pc + 3) ls rest)) : W p l e R s m args below meth c H locs cells slots Q (F0 m pc ls (.int x :: rest)) :=
  lv_if_gt hx hb hdg ht (fun h => kt h (Int32.not_le.mpr h)) (fun h => kf h (Int32.not_lt.mp h))
theorem mz_if_le (hx : p.tables.exec = Jvm.exec) (hb : c.code = cc) {x : Int32} {off : Int} {tgt : Nat} (hdg : decode cc pc = .ok (.ifCond .le off, 3)) (ht : (pc : Int) + off = (tgt : Int)) (kt : ¬ 0 < x → x ≤ 0 → W p l e R s m args below meth c H locs cells slots Q (F0 m tgt ls rest)) (kf : 0 < x → ¬ x ≤ 0 → W p l e R s m args below meth c H locs cells slots Q (F0 m (pc + 3) ls rest)) : W p l e R s m args below meth c H locs cells slots Q (F0 m pc ls (.int x :: rest)) :=
  lv_if_le hx hb hdg ht (fun h => kt (Int32.not_lt.mpr h) h) (fun h => kf (Int32.not_le.mp h) h)
theorem mz_ifeq_b (hx : p.tables.exec = Jvm.exec) (hb : c.code = cc) {q : Prop} [Decidable q] {off : Int} {tgt : Nat} (hdg : decode cc pc = .ok (.ifCond .eq off, 3)) (ht : (pc : Int) + off = (tgt : Int)) (kt : ¬ q → W p l e R s m args below meth c H locs cells slots Q (F0 m tgt ls rest)) (kf : q → W p l e R s m args below meth c H locs cells slots Q (F0 m (pc + 3) ls rest)) : W p l e R s m args below meth c H locs cells slots Q (F0 m pc ls (.int (mz_b q) :: rest)) :=
  lv_if_eq hx hb hdg ht (fun h => kt (mz_b_0.mp h)) (fun h => kf (mz_b_n.mp h))
theorem mz_ifne_b (hx : p.tables.exec = Jvm.exec) (hb : c.code = cc) {q : Prop} [Decidable q] {off : Int} {tgt : Nat} (hdg : decode cc pc = .ok (.ifCond .ne off, 3)) (ht : (pc : Int) + off = (tgt : Int)) (kt : q → W p l e R s m args below meth c H locs cells slots Q (F0 m tgt ls rest)) (kf : ¬ q → W p l e R s m args below meth c H locs cells slots Q (F0 m (pc + 3) ls rest)) : W p l e R s m args below meth c H locs cells slots Q (F0 m pc ls (.int (mz_b q) :: rest)) :=
  lv_if_ne hx hb hdg ht (fun h => kt (mz_b_n.mp h)) (fun h => kf (mz_b_0.mp h))
end MZW
/-! Contracts in one form: the world goes from the state u to the state u', the answer is r. -/
def mz_K (KK : State → Prop) : Prop := (∀ s U : State, s.WarmedH U.vm → KK s → KK U) ∧ ∀ U V : State, U.vm = V.vm → KK U → KK V
def mz_W (G : mz_S → Heap → Prop) (KK : State → Prop) (u : mz_S) (U : State) : Prop := G u U.heap ∧ KK U
theorem mz_blind {G : mz_S → Heap → Prop} {KK : State → Prop} (h : mz_K KK) (av : List Value) (u : mz_S) : FrameBlind (va_Pc av (mz_W G KK u)) := fun _ U _ _ q => ⟨q.1, q.2.1, h.2 U _ rfl q.2.2⟩
def mz_Ci (l : Launch) (G : mz_S → Heap → Prop) (KK : State → Prop) (A : Nat → Prop) (y : MethodName) (ws : List Cond) (rm : Room) (av : List Value) (u : mz_S) (r : Int32) (u' : mz_S) : Prop :=
  Met l y ws rm (va_Pc av (mz_W G KK u)) (va_Qi (fun (x : Int32) (v : mz_S) => x = r ∧ v = u') (mz_W G KK) A) 0 0 A
def mz_Cv (l : Launch) (G : mz_S → Heap → Prop) (KK : State → Prop) (A : Nat → Prop) (y : MethodName) (ws : List Cond) (rm : Room) (av : List Value) (u : mz_S) (u' : mz_S) : Prop :=
  Met l y ws rm (va_Pc av (mz_W G KK u)) (va_Qv (fun (v : mz_S) => v = u') (mz_W G KK) A) 0 0 A
abbrev mz_Ei (below : List Frame) (G : mz_S → Heap → Prop) (KK : State → Prop) (A : Nat → Prop) (r : Int32) (u' : mz_S) (args : Array Value) (s : State) : State → Prop := MQ below (va_Qi (fun (x : Int32) (v : mz_S) => x = r ∧ v = u') (mz_W G KK) A) args s 0 0 A
abbrev mz_Ev (below : List Frame) (G : mz_S → Heap → Prop) (KK : State → Prop) (A : Nat → Prop) (u' : mz_S) (args : Array Value) (s : State) : State → Prop := MQ below (va_Qv (fun (v : mz_S) => v = u') (mz_W G KK) A) args s 0 0 A
section MZC
variable {l : Launch} {G : mz_S → Heap → Prop} {KK : State → Prop} {A : Nat → Prop} {y : MethodName} {ws ws' : List Cond} {rm : Room} {av : List Value} {u u' : mz_S} {r : Int32}
theorem mz_Ci.of {cc : ByteArray} {maxL : Nat} {ret : Option FieldType} (hy : plainName y.cls = true) (hw : ws = Cond.code y cc maxL ret :: ws') (hn : (lg_sl av).length ≤ maxL)
    (k : ∀ (p : Program) (e : Env) (s : State) (m : MethodId) (args : Array Value) (below : List Frame) (meth : Method) (c : Code) (ls : Array Slot), p.tables.exec = Jvm.exec → c.code = cc → meth.sig.returnType = ret → meth.locks = false → c.maxLocals = maxL → s.vm.findClass y.cls = some m.cls → (∀ w ∈ ws, w.before args s = true) → lv_has ls maxL (lv_args 0 av) → G u s.heap → KK s → va_S A s.heap s.heap [] →
      W p l e rm s m args below meth c s.heap [] 0 0 (mz_Ei below G KK A r u' args s) (F0 m 0 ls [])) : mz_Ci l G KK A y ws rm av u r u' := by
  refine Met.ofW (cc := cc) (maxL := maxL) (ret := ret) hy hw ?_
  intro p e s m args below meth c s₁ B hml hv
  obtain ⟨rfl, hG, hK⟩ := hv
  rw [lg_entry_eq]
  exact k p e s m _ below meth c _ B.exec B.bytes B.returns B.notSynchronized hml (findClass_of_methodNamed B.named) (atoms_spec (ws := ws) B.pre) (lv_entry av hn) hG hK va_S.rf
theorem mz_Cv.of {cc : ByteArray} {maxL : Nat} {ret : Option FieldType} (hy : plainName y.cls = true) (hw : ws = Cond.code y cc maxL ret :: ws') (hn : (lg_sl av).length ≤ maxL)
    (k : ∀ (p : Program) (e : Env) (s : State) (m : MethodId) (args : Array Value) (below : List Frame) (meth : Method) (c : Code) (ls : Array Slot), p.tables.exec = Jvm.exec → c.code = cc → meth.sig.returnType = ret → meth.locks = false → c.maxLocals = maxL → s.vm.findClass y.cls = some m.cls → (∀ w ∈ ws, w.before args s = true) → lv_has ls maxL (lv_args 0 av) → G u s.heap → KK s → va_S A s.heap s.heap [] →
      W p l e rm s m args below meth c s.heap [] 0 0 (mz_Ev below G KK A u' args s) (F0 m 0 ls [])) : mz_Cv l G KK A y ws rm av u u' := by
  refine Met.ofW (cc := cc) (maxL := maxL) (ret := ret) hy hw ?_
  intro p e s m args below meth c s₁ B hml hv
  obtain ⟨rfl, hG, hK⟩ := hv
  rw [lg_entry_eq]
  exact k p e s m _ below meth c _ B.exec B.bytes B.returns B.notSynchronized hml (findClass_of_methodNamed B.named) (atoms_spec (ws := ws) B.pre) (lv_entry av hn) hG hK va_S.rf
variable {p : Program} {e : Env} {R : Room} {s : State} {m : MethodId} {args : Array Value} {below : List Frame} {meth : Method} {c : Code} {H : Heap} {locs : List Loc} {cells slots : Nat} {Q : State → Prop}
variable {cc : ByteArray} {pc : Nat} {ls : Array Slot} {rest st : List Value} {H0 : Heap}
theorem mz_iret (hx : p.tables.exec = Jvm.exec) (hb : c.code = cc) (hr : meth.sig.returnType = some .int) (hlk : meth.locks = false) (hM : mz_K KK) (hK : KK s) (hS : va_S A s.heap H locs) {v : mz_S} (hG : G v H) {x : Int32} (hdg : decode cc pc = .ok (.ireturn, 1)) (h1 : x = r) (h2 : v = u') : W p l e R s m args below meth c H locs 0 0 (mz_Ei below G KK A r u' args s) (F0 m pc ls [.int x]) :=
  W.iret hx hb hr (fun t ht hW => ⟨⟨x, v, rfl, ⟨h1, h2⟩, by rw [ht]; exact hG, hM.1 s t hW hK⟩, hS.F ht⟩) hS.2.2 hdg hlk
theorem mz_zret (hx : p.tables.exec = Jvm.exec) (hb : c.code = cc) (hr : meth.sig.returnType = some .boolean) (hlk : meth.locks = false) (hM : mz_K KK) (hK : KK s) (hS : va_S A s.heap H locs) {v : mz_S} (hG : G v H) {x : Int32} (hdg : decode cc pc = .ok (.ireturn, 1)) (hn : narrow .boolean (.int x) = .int x) (h1 : x = r) (h2 : v = u') : W p l e R s m args below meth c H locs 0 0 (mz_Ei below G KK A r u' args s) (F0 m pc ls [.int x]) :=
  W.zret hx hb hr hn (fun t ht hW => ⟨⟨x, v, rfl, ⟨h1, h2⟩, by rw [ht]; exact hG, hM.1 s t hW hK⟩, hS.F ht⟩) hS.2.2 hdg hlk
theorem mz_vret (hx : p.tables.exec = Jvm.exec) (hb : c.code = cc) (hr : meth.sig.returnType = none) (hlk : meth.locks = false) (hM : mz_K KK) (hK : KK s) (hS : va_S A s.heap H locs) {v : mz_S} (hG : G v H) (hdg : decode cc pc = .ok (.return_, 1)) (h2 : v = u') : W p l e R s m args below meth c H locs 0 0 (mz_Ev below G KK A u' args s) (F0 m pc ls []) :=
  W.vret hx hb hr (fun t ht hW => ⟨⟨v, rfl, h2, by rw [ht]; exact hG, hM.1 s t hW hK⟩, hS.F ht⟩) hS.2.2 hdg hlk
/-- behind a call: what the contract says; the caller's frame is the callee's -/
theorem mz_goi (hr : va_Run p l e R s m args below meth c H locs cells slots 0 0 (F0 m pc ls st) rest (va_Qi (fun (x : Int32) (v : mz_S) => x = r ∧ v = u') (mz_W G KK) A av.toArray) A) (hS : va_S A H0 H locs)
    (kk : ∀ (H1 : Heap) (locs1 : List Loc), G u' H1 → va_S A H0 H1 locs1 → W p l e R s m args below meth c H1 locs1 cells slots Q (F0 m (pc + 3) ls (.int r :: rest))) : W p l e R s m args below meth c H locs cells slots Q (F0 m pc ls st) := by
  refine va_calli hr hS (fun q _ h => h) (fun q h => h) (fun x v t H1 locs1 ht hvm hp hB hz hk hS1 => ?_)
  obtain ⟨rfl, rfl⟩ := hp
  exact kk H1 locs1 (by rw [← ht]; exact hB.1) hS1
theorem mz_gov (hr : va_Run p l e R s m args below meth c H locs cells slots 0 0 (F0 m pc ls st) rest (va_Qv (fun (v : mz_S) => v = u') (mz_W G KK) A av.toArray) A) (hS : va_S A H0 H locs)
    (kk : ∀ (H1 : Heap) (locs1 : List Loc), G u' H1 → va_S A H0 H1 locs1 → W p l e R s m args below meth c H1 locs1 cells slots Q (F0 m (pc + 3) ls rest)) : W p l e R s m args below meth c H locs cells slots Q (F0 m pc ls st) := by
  refine va_callv hr hS (fun q _ h => h) (fun q h => h) (fun v t H1 locs1 ht hvm hp hB hz hk hS1 => ?_)
  obtain rfl := hp
  exact kk H1 locs1 (by rw [← ht]; exact hB.1) hS1
variable {bytes : ByteArray} {maxL nL n index : Nat} {ret : Option FieldType} {Ts : List Cond} {own C host : String} {b : Addr} {As : List Value}
theorem mz_pre (hM : mz_K KK) (hK : KK s) (hG : G u H) : PreS s H (va_Pc As (mz_W G KK u)) As := ⟨mz_blind hM As u, fun U hU hW => ⟨rfl, by rw [hU]; exact hG, hM.1 s U hW hK⟩⟩
theorem mz_preV (hM : mz_K KK) (hK : KK s) (hG : G u H) (hc : ∃ cell : Cell, H[b]? = some cell ∧ cell.vm.isStatics = false ∧ s.vm.findClass C = some cell.cls) : PreV s H C b (va_Pc (.ref b :: As) (mz_W G KK u)) As := ⟨mz_blind hM _ u, hc, fun U hU hW => ⟨rfl, by rw [hU]; exact hG, hM.1 s U hW hK⟩⟩
/-- calls: of one's own class (V), of a nest mate (N), static (S) -/
theorem mz_Vi (S : CallFix p m c cc nL s args Ts own) (hM : mz_Ci l G KK A y ws rm (.ref b :: As) u r u') (cw : CallW R s args own C index y bytes maxL ret ws rm 0 0 n) (hc : ∃ cell : Cell, H[b]? = some cell ∧ cell.vm.isStatics = false ∧ s.vm.findClass C = some cell.cls) (hMK : mz_K KK) (hK : KK s) (hG : G u H) (hS : va_S A H0 H locs) (hn : As.length = n) (hz : ls.size = nL) (hst : st = As.reverse ++ .ref b :: rest) (hR : (rest.map fun v => v.category).sum ≤ 8) (hdg : decode cc pc = .ok (.invokevirtual index, 3)) (hf : cells + 0 ≤ R.cells ∧ slots + 0 ≤ R.slots)
    (kk : ∀ (H1 : Heap) (locs1 : List Loc), G u' H1 → va_S A H0 H1 locs1 → W p l e R s m args below meth c H1 locs1 cells slots Q (F0 m (pc + 3) ls (.int r :: rest))) : W p l e R s m args below meth c H locs cells slots Q (F0 m pc ls st) :=
  mz_goi (va_runV (As := As) (rest := rest) S hM cw (mz_preV hMK hK hG hc) rfl hn hz hst (lv_room (rest := st) hR) hdg hf) hS kk
theorem mz_Vv (S : CallFix p m c cc nL s args Ts own) (hM : mz_Cv l G KK A y ws rm (.ref b :: As) u u') (cw : CallW R s args own C index y bytes maxL ret ws rm 0 0 n) (hc : ∃ cell : Cell, H[b]? = some cell ∧ cell.vm.isStatics = false ∧ s.vm.findClass C = some cell.cls) (hMK : mz_K KK) (hK : KK s) (hG : G u H) (hS : va_S A H0 H locs) (hn : As.length = n) (hz : ls.size = nL) (hst : st = As.reverse ++ .ref b :: rest) (hR : (rest.map fun v => v.category).sum ≤ 8) (hdg : decode cc pc = .ok (.invokevirtual index, 3)) (hf : cells + 0 ≤ R.cells ∧ slots + 0 ≤ R.slots)
    (kk : ∀ (H1 : Heap) (locs1 : List Loc), G u' H1 → va_S A H0 H1 locs1 → W p l e R s m args below meth c H1 locs1 cells slots Q (F0 m (pc + 3) ls rest)) : W p l e R s m args below meth c H locs cells slots Q (F0 m pc ls st) :=
  mz_gov (va_runV (As := As) (rest := rest) S hM cw (mz_preV hMK hK hG hc) rfl hn hz hst (lv_room (rest := st) hR) hdg hf) hS kk
theorem mz_Ni (S : CallFix p m c cc nL s args Ts own) (hM : mz_Ci l G KK A y ws rm (.ref b :: As) u r u') (cw : va_CN R s args own index y host bytes maxL ret ws rm 0 0 n ∧ (Cond.instanceMethod y).before args s = true ∧ (Cond.selects C y y).before args s = true) (hc : ∃ cell : Cell, H[b]? = some cell ∧ cell.vm.isStatics = false ∧ s.vm.findClass C = some cell.cls) (hMK : mz_K KK) (hK : KK s) (hG : G u H) (hS : va_S A H0 H locs) (hn : As.length = n) (hz : ls.size = nL) (hst : st = As.reverse ++ .ref b :: rest) (hR : (rest.map fun v => v.category).sum ≤ 8) (hdg : decode cc pc = .ok (.invokevirtual index, 3)) (hf : cells + 0 ≤ R.cells ∧ slots + 0 ≤ R.slots)
    (kk : ∀ (H1 : Heap) (locs1 : List Loc), G u' H1 → va_S A H0 H1 locs1 → W p l e R s m args below meth c H1 locs1 cells slots Q (F0 m (pc + 3) ls (.int r :: rest))) : W p l e R s m args below meth c H locs cells slots Q (F0 m pc ls st) :=
  mz_goi (va_runVN (As := As) (rest := rest) S hM cw (mz_preV hMK hK hG hc) rfl hn hz hst (lv_room (rest := st) hR) hdg hf) hS kk
theorem mz_Nv (S : CallFix p m c cc nL s args Ts own) (hM : mz_Cv l G KK A y ws rm (.ref b :: As) u u') (cw : va_CN R s args own index y host bytes maxL ret ws rm 0 0 n ∧ (Cond.instanceMethod y).before args s = true ∧ (Cond.selects C y y).before args s = true) (hc : ∃ cell : Cell, H[b]? = some cell ∧ cell.vm.isStatics = false ∧ s.vm.findClass C = some cell.cls) (hMK : mz_K KK) (hK : KK s) (hG : G u H) (hS : va_S A H0 H locs) (hn : As.length = n) (hz : ls.size = nL) (hst : st = As.reverse ++ .ref b :: rest) (hR : (rest.map fun v => v.category).sum ≤ 8) (hdg : decode cc pc = .ok (.invokevirtual index, 3)) (hf : cells + 0 ≤ R.cells ∧ slots + 0 ≤ R.slots)
    (kk : ∀ (H1 : Heap) (locs1 : List Loc), G u' H1 → va_S A H0 H1 locs1 → W p l e R s m args below meth c H1 locs1 cells slots Q (F0 m (pc + 3) ls rest)) : W p l e R s m args below meth c H locs cells slots Q (F0 m pc ls st) :=
  mz_gov (va_runVN (As := As) (rest := rest) S hM cw (mz_preV hMK hK hG hc) rfl hn hz hst (lv_room (rest := st) hR) hdg hf) hS kk
theorem mz_Si (S : CallFix p m c cc nL s args Ts own) (hM : mz_Ci l G KK A y ws rm As u r u') (cw : CallB R s args own index y bytes maxL ret ws rm 0 0 n ∧ (Cond.static y).before args s = true) (hMK : mz_K KK) (hK : KK s) (hG : G u H) (hS : va_S A H0 H locs) (hn : As.length = n) (hz : ls.size = nL) (hst : st = As.reverse ++ rest) (hR : (rest.map fun v => v.category).sum ≤ 8) (hdg : decode cc pc = .ok (.invokestatic index, 3)) (hf : cells + 0 ≤ R.cells ∧ slots + 0 ≤ R.slots)
    (kk : ∀ (H1 : Heap) (locs1 : List Loc), G u' H1 → va_S A H0 H1 locs1 → W p l e R s m args below meth c H1 locs1 cells slots Q (F0 m (pc + 3) ls (.int r :: rest))) : W p l e R s m args below meth c H locs cells slots Q (F0 m pc ls st) :=
  mz_goi (va_runS (As := As) (rest := rest) S hM cw (mz_pre hMK hK hG) rfl hn hz hst (lv_room (rest := st) hR) hdg hf) hS kk
/-- a loop that counts its rounds: P at round j; from each round either on to the next, or out -/
theorem mz_loop (N : Nat) {P : Nat → Array Slot → Heap → List Loc → Prop} (hb : ∀ j ls H locs, P j ls H locs → j ≤ N) (hs : ∀ j ls H locs, P j ls H locs → (j < N → ∀ ls' H' locs', P (j + 1) ls' H' locs' → W p l e R s m args below meth c H' locs' cells slots Q (F0 m pc ls' st)) → W p l e R s m args below meth c H locs cells slots Q (F0 m pc ls st)) : ∀ j ls H locs, P j ls H locs → W p l e R s m args below meth c H locs cells slots Q (F0 m pc ls st) := by
  have key : ∀ d j ls H locs, N - j = d → P j ls H locs → W p l e R s m args below meth c H locs cells slots Q (F0 m pc ls st) := by
    intro d
    induction d with
    | zero =>
      intro j ls H locs hd hP
      exact hs j ls H locs hP (fun hj => absurd hj (by omega))
    | succ d ih =>
      intro j ls H locs hd hP
      exact hs j ls H locs hP (fun hj ls' H' locs' hP' => ih (j + 1) ls' H' locs' (by omega) hP')
  exact fun j ls H locs hP => key _ j ls H locs rfl hP
end MZC
end
section
section MZN
variable {p : Program} {l : Launch} {e : Env} {R : Room} {s : State} {m : MethodId} {args : Array Value} {below : List Frame} {meth : Method} {c : Code} {H : Heap} {locs : List Loc} {cells slots : Nat} {Q : State → Prop}
variable {cc : ByteArray} {pc : Nat} {ls : Array Slot} {rest : List Value} {D : va_G} {cl : List vw_C} {a : Nat} {tys : List (ClassId × FieldType)}
/-- an object is made: it is the heap's next cell -/
theorem mz_new {own C : String} {T : u_T} {N ci index : Nat} {Ts : List Cond} (hexec : p.tables.exec = Jvm.exec) (hb : c.code = cc) (hts : ∀ w ∈ Ts, w.before args s = true) (hin : ∀ w ∈ u_ws C T N, w ∈ Ts) (ty : Nat → FieldType) (hty : ∀ k, k < N → parseFieldDescriptor (T k).2.2.1 = some (ty k)) (hown : s.vm.findClass own = some m.cls) (hcl : (Cond.classLink own index C).before args s = true) (hinst : (Cond.instantiable C N).before args s = true) (hini : (Cond.initialized C).before args s = true) (hK : va_K D cl tys s) (hc : cl[ci]? = some (C, T, N)) (fs : List Value) (hfs : ∀ j, j < N → defaultValue (ty j) = vp_V fs j) {z : Nat} (hz : H.size = z) (hcells : cells + 1 ≤ R.cells) (hslots : slots + N ≤ R.slots) (hdg : decode cc pc = .ok (.new index, 3))
    (kk : ∀ H1 : Heap, va_at D cl (z, .inr (ci, fs)) H1 → H1.size = z + 1 → (∀ q : Nat, q < z → H1[q]? = H[q]?) → W p l e R s m args below meth c H1 locs (cells + 1) (slots + N) Q (F0 m (pc + 3) ls (.ref z :: rest))) : W p l e R s m args below meth c H locs cells slots Q (F0 m pc ls rest) := by
  subst hz
  have hKn := hK.1 ci _ hc
  refine W.newcK hexec hb hown hcl hinst hini rfl hdg hcells hslots hKn.2.1 rfl fun H1 kC hkC e1 z1 o1 => ?_
  exact kk H1 ⟨_, hc, (u_born ty hts hin hKn hkC e1 hty).to hfs⟩ z1 o1
/-- an array of ints or booleans is made -/
theorem mz_newa (hexec : p.tables.exec = Jvm.exec) (hb : c.code = cc) {atype : ArrayType} {ty : FieldType} (harr : (Cond.arrayClass ty).before args s = true) (hty : newarray.typeOf atype = ty) (hdef : defaultValue ty = .int 0) {cA : ClassId} (hA : s.vm.findClass ("[" ++ ty.toString) = some cA) {n : Int32} {N z : Nat} (hn : ¬ n < 0) (hN : n.toNatClampNeg = N) (hbytes : N * componentBytes ty ≤ 536870912) (hz : H.size = z) (hcells : cells + 1 ≤ R.cells) (hslots : slots + N ≤ R.slots) (hdg : decode cc pc = .ok (.newarray atype, 2))
    (kk : ∀ H1 : Heap, va_at D cl (z, .inl (cA, N, .inl (fun _ => 0))) H1 → H1.size = z + 1 → (∀ q : Nat, q < z → H1[q]? = H[q]?) → W p l e R s m args below meth c H1 locs (cells + 1) (slots + N) Q (F0 m (pc + 2) ls (.ref z :: rest))) : W p l e R s m args below meth c H locs cells slots Q (F0 m pc ls (.int n :: rest)) := by
  subst hty
  refine va_newaK hexec hb harr rfl hdg rfl hn hN hbytes hcells hslots hz fun H1 cA' e1 z1 o1 hAr hNm => ?_
  obtain rfl : cA' = cA := Option.some.inj (hNm.symm.trans hA)
  refine kk H1 ?_ z1 o1
  show H1[z]? = some (vp_cell _ _)
  rw [vp_cell_i, e1, hdef]
/-- an array of references is made -/
theorem mz_newq (hexec : p.tables.exec = Jvm.exec) (hb : c.code = cc) {own C : String} {index : Nat} (hown : s.vm.findClass own = some m.cls) (hclink : (Cond.classLink own index C).before args s = true) (hover : va_AO C s) {cA : ClassId} (hA : s.vm.findClass ("[" ++ (FieldType.object C).toString) = some cA) {n : Int32} {N z : Nat} (hn : ¬ n < 0) (hN : n.toNatClampNeg = N) (hbytes : N * 4 ≤ 536870912) (hz : H.size = z) (hcells : cells + 1 ≤ R.cells) (hslots : slots + N ≤ R.slots) (hdg : decode cc pc = .ok (.anewarray index, 3))
    (kk : ∀ H1 : Heap, va_at D cl (z, .inl (cA, N, .inr (.inr (.inr (.inr (fun _ => none)))))) H1 → H1.size = z + 1 → (∀ q : Nat, q < z → H1[q]? = H[q]?) → W p l e R s m args below meth c H1 locs (cells + 1) (slots + N) Q (F0 m (pc + 3) ls (.ref z :: rest))) : W p l e R s m args below meth c H locs cells slots Q (F0 m pc ls (.int n :: rest)) := by
  subst hN
  subst hz
  refine W.anew hexec hb hown hclink (va_AO.use hover) rfl hdg rfl hn hbytes hcells hslots fun cA' kA comp f1 f2 f3 f4 => ?_
  obtain rfl : cA' = cA := Option.some.inj (f1.symm.trans hA)
  refine kk _ ?_ (Array.size_push _) (fun q hq => by rw [Array.getElem?_push, if_neg (Nat.ne_of_lt hq)])
  show (H.push _)[H.size]? = some (vp_cell _ _)
  rw [vp_cell_q, Array.getElem?_push_size, ← arrV_new]
  rfl
/-- a final field is written in a constructor -/
theorem mz_putF (hexec : p.tables.exec = Jvm.exec) (hb : c.code = cc) {own C : String} {T : u_T} {N ci index : Nat} {Ts : List Cond} (hts : ∀ w ∈ Ts, w.before args s = true) (hin : ∀ w ∈ u_ws C T N, w ∈ Ts) (ty0 : Nat → FieldType) (hty : ∀ k, k < N → parseFieldDescriptor (T k).2.2.1 = some (ty0 k)) (hnm : ∀ a, a < N → ∀ b, b < N → a ≠ b → (T a).2.1 ≠ (T b).2.1) (hown : s.vm.findClass own = some m.cls) (hK : va_K D cl tys s) {fs : List Value} (hP : va_at D cl (a, .inr (ci, fs)) H) (hc : cl[ci]? = some (C, T, N)) (k : Nat) (hk : k < N) (hlink : (Cond.fieldLink own index (T k).1 (T k).2.1 (T k).2.2.1).before args s = true) (hfin : (T k).2.2.2 = true) (hin2 : meth.name = "<init>") (hdecl : (T k).1 = own) {ty : FieldType} {v : Value} (hd : parseFieldDescriptor (T k).2.2.1 = some ty) (hn : narrow ty v = v) (hfit : fits ty v = true) (hl : k < fs.length) (hdg : decode cc pc = .ok (.putfield index, 3))
    (kk : ∀ (H1 : Heap) (j : Nat), va_at D cl (a, .inr (ci, fs.set k v)) H1 → H1.size = H.size → (∀ q : Nat, q ≠ a → H1[q]? = H[q]?) → W p l e R s m args below meth c H1 (locs ++ [⟨a, j⟩]) cells slots Q (F0 m (pc + 3) ls rest)) : W p l e R s m args below meth c H locs cells slots Q (F0 m pc ls (v :: .ref a :: rest)) := by
  have hap := va_apart (own := own) hts hin ty0 hty hnm hK hc
  obtain ⟨r, h1, cell, q1, q2, q3, q4⟩ := hP
  have hr : r = (C, T, N) := Option.some.inj (h1.symm.trans hc)
  subst hr
  obtain ⟨hS, hfc, kC, hkC, hkind⟩ := hK.1 ci _ hc
  obtain ⟨cf, kf, fi, f, hi, hsl⟩ := hS k hk
  have hlay := hts _ (hin _ (u_in_lay hk))
  unfold u_lay at hlay
  rw [if_pos hfin] at hlay
  have hcf : m.cls = cf := by
    obtain ⟨_, _, c', _, _, _, -, -, hf', -, -, -, hown2, -⟩ := Cond.laysFinal_spec hlay
    have e1 : c' = cf := by have := hi.symm.trans hf'; simp at this; exact this.1.symm
    rw [hdecl] at hown2
    rw [← e1]; exact Option.some.inj (hown.symm.trans hown2)
  refine W.putFinK hexec hb hown hlink hi (u_facts hfc hkC (u_lays hts hin hk) hi).1 hcf hin2 (by rw [q2]; exact u_fits hfc hkC hkind (Or.inr hlay) hi hd hn hfit) q1 q3 (by rw [hsl]; exact k2_hasslot (q4 k hk)) rfl rfl hdg fun H' e1 e2 e3 => ?_
  rw [hsl] at e1 ⊢
  exact kk H' _ ⟨_, hc, t_OB.to (V := updV (vp_V fs) k v) ⟨_, e1, q2, q3, t_set q4 hap hk v⟩ (fun j _ => vp_updV_set hl v j)⟩ e2 e3
/-- an element of an array of references is written -/
theorem mz_aast (hexec : p.tables.exec = Jvm.exec) (hb : c.code = cc) (hK : va_K D cl tys s) (t0 ci : Nat) {cA : ClassId} {r : vw_C} {n v : Nat} {vs : List Value} {f : Nat → Option Nat} (hP : va_at D cl (a, .inl (cA, n, .inr (.inr (.inr (.inr f))))) H) (ht : tys[t0]? = some (cA, .object r.1)) (hv : va_at D cl (v, .inr (ci, vs)) H) (hc : cl[ci]? = some r) {i : Int32} (hin : vp_in i n) (hdg : decode cc pc = .ok (.aastore, 1))
    (kk : ∀ (H1 : Heap) (j : Nat), va_at D cl (a, .inl (cA, n, .inr (.inr (.inr (.inr (va_up f i.toNatClampNeg (some v))))))) H1 → H1.size = H.size → (∀ q : Nat, q ≠ a → H1[q]? = H[q]?) → W p l e R s m args below meth c H1 (locs ++ [⟨a, j⟩]) cells slots Q (F0 m (pc + 1) ls rest)) : W p l e R s m args below meth c H locs cells slots Q (F0 m pc ls (.ref v :: .int i :: .ref a :: rest)) := by
  have hlt : i.toNatClampNeg < n := Nat.not_le.mp fun q => hin (Or.inr q)
  have h0 : ¬ i < 0 := fun q => hin (Or.inl q)
  obtain ⟨r', hr', cellV, g1, g2, g3, -⟩ := hv
  have hcls := (hK.1 ci r hc).2
  obtain ⟨kA, comp, k1, k2, k3, -⟩ := (hK.2 t0 _ ht).2
  have hcomp : comp = D.1 ci := Option.some.inj (k3.symm.trans hcls.1)
  subst hcomp
  obtain ⟨kC, hkC, -⟩ := hcls.2
  refine W.aast hexec hb hP (fun q h => by cases h) (fun h => by cases h) k1 k2 rfl hkC ⟨h0, by show _ < (arrV _ _ _).slots.size; rw [arrV_size]; exact hlt⟩ g1 (fun q h => by rw [g3] at h; cases h) (by rw [g2]; exact hkC) (by rw [g2]; exact va_assign hcls) rfl rfl hdg fun H1 e z oq => ?_
  refine kk H1 _ ?_ z oq
  show H1[a]? = some (vp_cell _ _)
  rw [e, vp_cell_q, vp_cell_q, arrV_store]
  congr 2
  funext q
  by_cases hq : q = i.toNatClampNeg
  · subst hq
    simp [updV, va_up, va_rf]
  · simp [updV, va_up, hq]
end MZN
end
section
def mz_max (x y : Int32) : Int32 := if x < y then y else x
def mz_min (x y : Int32) : Int32 := if y < x then y else x
def qs_within (v a b : Int32) : Int32 := mz_max a (mz_min b v)
-- Log
def qs_last (u : mz_S) (i : Nat) : Int32 := u 3 i 0 + u 3 i 3
abbrev qs_has (u : mz_S) (i : Nat) (k : Int32) : Prop := u 3 i 0 < k ∧ k ≤ u 3 i 0 + u 3 i 3
def qs_lastT (u : mz_S) (i : Nat) : Int32 := if 0 < u 3 i 3 then u 4 i (u 3 i 3 - 1).toNatClampNeg else u 3 i 1
def qs_term (u : mz_S) (i : Nat) (k : Int32) : Int32 := if qs_has u i k then u 4 i (k - u 3 i 0 - 1).toNatClampNeg else if k = u 3 i 0 then u 3 i 1 else -1
def qs_cmd (u : mz_S) (i : Nat) (k : Int32) : Int32 := if qs_has u i k then u 5 i (k - u 3 i 0 - 1).toNatClampNeg else 0
abbrev qs_full (cap : Nat) (u : mz_S) (i : Nat) : Prop := nI cap ≤ u 3 i 3
def qs_fold (u : mz_S) (i : Nat) : Nat → Int32
  | 0 => u 3 i 2
  | j + 1 => 31 * qs_fold u i j + u 5 i j
def qs_state (u : mz_S) (i : Nat) (x : Int32) : Int32 := qs_fold u i (x - u 3 i 0).toNatClampNeg
abbrev qs_nah (u : mz_S) (i : Nat) (x t : Int32) : Prop := qs_lastT u i < t ∨ (t = qs_lastT u i ∧ qs_last u i ≤ x)
def qs_add (cap : Nat) (u : mz_S) (i : Nat) (t c : Int32) : mz_S := if qs_full cap u i then u else mz_u (mz_u (mz_u u 4 i (u 3 i 3).toNatClampNeg t) 5 i (u 3 i 3).toNatClampNeg c) 3 i 3 (u 3 i 3 + 1)
def qs_cut (u : mz_S) (i : Nat) (k : Int32) : mz_S := if qs_has u i k then mz_u u 3 i 3 (k - u 3 i 0 - 1) else u
def qs_gone (u : mz_S) (i : Nat) (b : Int32) : Int32 := mz_min (u 3 i 3) (mz_max 0 (b - u 3 i 0))
def qs_mv (u : mz_S) (i g : Nat) : Nat → mz_S
  | 0 => u
  | j + 1 => mz_u (mz_u (qs_mv u i g j) 4 i j (qs_mv u i g j 4 i (g + j))) 5 i j (qs_mv u i g j 5 i (g + j))
def qs_rebase (u : mz_S) (i : Nat) (b t x : Int32) : mz_S :=
  mz_u (mz_u (mz_u (mz_u (qs_mv u i (qs_gone u i b).toNatClampNeg (u 3 i 3 - qs_gone u i b).toNatClampNeg) 3 i 3 (u 3 i 3 - qs_gone u i b)) 3 i 0 b) 3 i 1 t) 3 i 2 x
-- Node
def qs_enter (u : mz_S) (i : Nat) (t : Int32) : mz_S := mz_u (mz_u (mz_u u 2 i 3 t) 2 i 2 0) 2 i 4 (-1)
def qs_sv (u : mz_S) (i : Nat) : Nat → mz_S
  | 0 => u
  | j + 1 => mz_u (qs_sv u i j) 6 i j (mz_b (nI j = u 2 i 0))
def qs_stand (n : Nat) (u : mz_S) (i : Nat) : mz_S := qs_sv (mz_u (mz_u (qs_enter u i (u 2 i 3 + 1)) 2 i 2 1) 2 i 4 (u 2 i 0)) i n
def qs_lv (u : mz_S) (i : Nat) : Nat → mz_S
  | 0 => u
  | j + 1 => mz_u (mz_u (qs_lv u i j) 7 i j (qs_last u i + 1)) 8 i j 0
def qs_lead (n : Nat) (u : mz_S) (i : Nat) : mz_S := qs_lv (mz_u u 2 i 2 2) i n
def qs_cutc (u : mz_S) (i : Nat) (k : Int32) : mz_S := mz_u (qs_cut u i k) 2 i 5 (mz_min (u 2 i 5) (qs_last (qs_cut u i k) i))
def qs_take1 (u : mz_S) (i : Nat) (k t : Int32) : mz_S := if qs_has u i k ∧ ¬ qs_term u i k = t then qs_cutc u i k else u
def qs_take (cap : Nat) (u : mz_S) (i : Nat) (k t c : Int32) : mz_S := if qs_has (qs_take1 u i k t) i k then qs_take1 u i k t else qs_add cap (qs_take1 u i k t) i t c
def qs_cv (u : mz_S) (i : Nat) : Nat → Int32
  | 0 => 0
  | j + 1 => if u 6 i j = 0 then qs_cv u i j else qs_cv u i j + 1
def qs_ch (u : mz_S) (i : Nat) (x : Int32) : Nat → Int32
  | 0 => 0
  | j + 1 => if nI j = u 2 i 0 ∨ x ≤ u 8 i j then qs_ch u i x j + 1 else qs_ch u i x j
-- Message and Net
def qs_begin (u : mz_S) (j : Nat) (k f t tm : Int32) : mz_S := mz_u (mz_u (mz_u (mz_u u 11 j 0 k) 11 j 1 f) 11 j 2 t) 11 j 3 tm
def qs_copy (u : mz_S) (a b : Nat) : mz_S :=
  mz_u (mz_u (mz_u (mz_u (mz_u (mz_u (mz_u (mz_u (mz_u (mz_u (mz_u (mz_u u 11 a 0 (u 11 b 0)) 11 a 1 (u 11 b 1)) 11 a 2 (u 11 b 2)) 11 a 3 (u 11 b 3)) 11 a 4 (u 11 b 4)) 11 a 5 (u 11 b 5)) 11 a 6 (mz_b (u 11 b 6 ≠ 0))) 11 a 7 (mz_b (u 11 b 7 ≠ 0))) 11 a 8 (u 11 b 8)) 11 a 9 (u 11 b 9)) 11 a 10 (u 11 b 10)) 11 a 11 (u 11 b 11)
def mz_ff (f : Nat → Int32) : Nat → Nat → Nat
  | 0, j => j
  | d + 1, j => if f j = 0 then j else mz_ff f d (j + 1)
def qs_ff (S : Nat) (u : mz_S) : Nat := mz_ff (fun j => u 11 j 0) S 0
def qs_put1 (u : mz_S) (j b : Nat) : mz_S := mz_u (qs_copy u j b) 9 0 1 (u 9 0 1 + 1)
def qs_put (S : Nat) (u : mz_S) (b : Nat) : mz_S := if qs_ff S u < S then qs_put1 u (qs_ff S u) b else u
def qs_putR (S : Nat) (u : mz_S) : Int32 := if qs_ff S u < S then nI (qs_ff S u) else -4
def qs_clear (u : mz_S) (j : Nat) : mz_S := mz_u (mz_u u 11 j 0 0) 9 0 1 (u 9 0 1 - 1)
-- QuorumLog
abbrev qs_isN (n : Nat) (x : Int32) : Prop := 0 ≤ x ∧ x < nI n
abbrev qs_two (n : Nat) (x y : Int32) : Prop := qs_isN n x ∧ qs_isN n y ∧ ¬ x = y
abbrev qs_maj (n : Nat) (c : Int32) : Prop := nI n < 2 * c
def qs_mAsk (S : Nat) (u : mz_S) (i : Nat) (to : Int32) : mz_S := mz_u (mz_u (qs_begin u S 1 (u 2 i 0) to (u 2 i 3)) 11 S 4 (qs_last u i)) 11 S 5 (qs_lastT u i)
def qs_sAsk (S : Nat) (u : mz_S) (i : Nat) (to : Int32) : mz_S := qs_put S (qs_mAsk S u i to) S
def qs_mVote (S : Nat) (u : mz_S) (i : Nat) (to g : Int32) : mz_S := mz_u (qs_begin u S 2 (u 2 i 0) to (u 2 i 3)) 11 S 6 g
def qs_sVote (S : Nat) (u : mz_S) (i : Nat) (to g : Int32) : mz_S := qs_put S (qs_mVote S u i to g) S
def qs_mApp0 (S : Nat) (u : mz_S) (i : Nat) (to x : Int32) : mz_S := mz_u (mz_u (mz_u (qs_begin u S 3 (u 2 i 0) to (u 2 i 3)) 11 S 4 (x - 1)) 11 S 5 (qs_term u i (x - 1))) 11 S 7 (mz_b (qs_has u i x))
def qs_mApp (S : Nat) (u : mz_S) (i : Nat) (to x : Int32) : mz_S :=
  mz_u (if qs_has u i x then mz_u (mz_u (qs_mApp0 S u i to x) 11 S 8 (qs_term u i x)) 11 S 9 (qs_cmd u i x) else qs_mApp0 S u i to x) 11 S 10 (u 2 i 5)
def qs_sApp (S : Nat) (u : mz_S) (i : Nat) (to : Int32) : mz_S := qs_put S (qs_mApp S u i to (u 7 i to.toNatClampNeg)) S
def qs_mAns (S : Nat) (u : mz_S) (i : Nat) (to g x : Int32) : mz_S := mz_u (mz_u (qs_begin u S 4 (u 2 i 0) to (u 2 i 3)) 11 S 6 g) 11 S 4 x
def qs_sAns (S : Nat) (u : mz_S) (i : Nat) (to g x : Int32) : mz_S := qs_put S (qs_mAns S u i to g x) S
def qs_mSnap (S : Nat) (u : mz_S) (i : Nat) (to : Int32) : mz_S := mz_u (mz_u (mz_u (qs_begin u S 5 (u 2 i 0) to (u 2 i 3)) 11 S 4 (u 3 i 0)) 11 S 5 (u 3 i 1)) 11 S 11 (u 3 i 2)
def qs_sSnap (S : Nat) (u : mz_S) (i : Nat) (to : Int32) : mz_S := qs_put S (qs_mSnap S u i to) S
def qs_asks (S : Nat) (u : mz_S) (x : Int32) : Nat → mz_S
  | 0 => u
  | j + 1 => if nI j = x then qs_asks S u x j else qs_sAsk S (qs_asks S u x j) x.toNatClampNeg (nI j)
def qs_timeout (n S : Nat) (u : mz_S) (x : Int32) : mz_S × Int32 :=
  if ¬ qs_isN n x then (u, -1) else if u 2 x.toNatClampNeg 1 = 0 then (u, -2) else if u 2 x.toNatClampNeg 2 = 2 then (u, -3) else if nI S - u 9 0 1 < nI n - 1 then (u, -4)
  else (qs_asks S (qs_stand n u x.toNatClampNeg) x n, 0)
def qs_heartbeat (n S : Nat) (u : mz_S) (x y : Int32) : mz_S × Int32 :=
  if ¬ qs_two n x y then (u, -1) else if u 2 x.toNatClampNeg 1 = 0 then (u, -2) else if ¬ u 2 x.toNatClampNeg 2 = 2 then (u, -3) else if nI S - u 9 0 1 = 0 then (u, -4)
  else if u 7 x.toNatClampNeg y.toNatClampNeg ≤ u 3 x.toNatClampNeg 0 then (qs_sSnap S u x.toNatClampNeg y, 5) else (qs_sApp S u x.toNatClampNeg y, 3)
def qs_propose (n cap : Nat) (u : mz_S) (x c : Int32) : mz_S × Int32 :=
  if ¬ qs_isN n x then (u, -1) else if u 2 x.toNatClampNeg 1 = 0 then (u, -2) else if ¬ u 2 x.toNatClampNeg 2 = 2 then (u, -3) else if qs_full cap u x.toNatClampNeg then (u, -4)
  else (qs_add cap u x.toNatClampNeg (u 2 x.toNatClampNeg 3) c, qs_last (qs_add cap u x.toNatClampNeg (u 2 x.toNatClampNeg 3) c) x.toNatClampNeg)
def qs_compactU (u : mz_S) (i : Nat) : mz_S := qs_rebase u i (u 2 i 5) (qs_term u i (u 2 i 5)) (qs_state u i (u 2 i 5))
def qs_compact (n : Nat) (u : mz_S) (x : Int32) : mz_S × Int32 :=
  if ¬ qs_isN n x then (u, -1) else if u 2 x.toNatClampNeg 1 = 0 then (u, -2) else (qs_compactU u x.toNatClampNeg, qs_compactU u x.toNatClampNeg 3 x.toNatClampNeg 0 - u 3 x.toNatClampNeg 0)
-- what is received; a: the number of the message that has arrived
def qs_rAsk (S : Nat) (u : mz_S) (i a : Nat) : mz_S :=
  if u 11 a 3 = u 2 i 3 ∧ (u 2 i 4 = -1 ∨ u 2 i 4 = u 11 a 1) ∧ qs_nah u i (u 11 a 4) (u 11 a 5) then qs_sVote S (mz_u u 2 i 4 (u 11 a 1)) i (u 11 a 1) 1 else qs_sVote S u i (u 11 a 1) 0
def qs_rVote1 (u : mz_S) (i a : Nat) : mz_S := mz_u u 6 i (u 11 a 1).toNatClampNeg 1
def qs_rVote (n : Nat) (u : mz_S) (i a : Nat) : mz_S :=
  if ¬ u 2 i 2 = 1 then u else if ¬ u 11 a 3 = u 2 i 3 then u else if u 11 a 6 = 0 then u else if qs_maj n (qs_cv (qs_rVote1 u i a) i n) then qs_lead n (qs_rVote1 u i a) i else qs_rVote1 u i a
def qs_rAppE (cap : Nat) (u : mz_S) (i a : Nat) : mz_S := if u 11 a 7 = 0 then u else qs_take cap u i (u 11 a 4 + 1) (u 11 a 8) (u 11 a 9)
def qs_rAppH (cap : Nat) (u : mz_S) (i a : Nat) : Int32 := if u 11 a 7 = 0 then u 11 a 4 else if qs_has (qs_rAppE cap u i a) i (u 11 a 4 + 1) then u 11 a 4 + 1 else u 11 a 4
def qs_rAppC (cap : Nat) (u : mz_S) (i a : Nat) : mz_S := mz_u (qs_rAppE cap u i a) 2 i 5 (mz_max (qs_rAppE cap u i a 2 i 5) (mz_min (u 11 a 10) (qs_rAppH cap u i a)))
def qs_rApp1 (cap S : Nat) (u : mz_S) (i a : Nat) : mz_S :=
  if u 11 a 4 < u 3 i 0 then qs_sAns S u i (u 11 a 1) 1 (u 3 i 0) else if qs_last u i < u 11 a 4 ∨ ¬ qs_term u i (u 11 a 4) = u 11 a 5 then qs_sAns S u i (u 11 a 1) 0 0
  else qs_sAns S (qs_rAppC cap u i a) i (u 11 a 1) 1 (qs_rAppH cap u i a)
def qs_rApp (cap S : Nat) (u : mz_S) (i a : Nat) : mz_S :=
  if u 11 a 3 < u 2 i 3 then qs_sAns S u i (u 11 a 1) 0 0 else qs_rApp1 cap S (mz_u u 2 i 2 0) i a
def qs_adv (n : Nat) (u : mz_S) (i : Nat) : Nat → Int32 → mz_S
  | 0, _ => u
  | d + 1, x => if u 2 i 5 < x then (if qs_term u i x = u 2 i 3 ∧ qs_maj n (qs_ch u i x n) then mz_u u 2 i 5 x else qs_adv n u i d (x - 1)) else u
def qs_advance (n : Nat) (u : mz_S) (i : Nat) : mz_S := qs_adv n u i (qs_last u i - u 2 i 5).toNatClampNeg (qs_last u i)
def qs_rAnsM (u : mz_S) (i a : Nat) : mz_S := mz_u u 8 i (u 11 a 1).toNatClampNeg (mz_max (u 8 i (u 11 a 1).toNatClampNeg) (u 11 a 4))
def qs_rAnsN (u : mz_S) (i a : Nat) : mz_S := mz_u (qs_rAnsM u i a) 7 i (u 11 a 1).toNatClampNeg (qs_rAnsM u i a 8 i (u 11 a 1).toNatClampNeg + 1)
def qs_rAns (n : Nat) (u : mz_S) (i a : Nat) : mz_S :=
  if ¬ u 2 i 2 = 2 then u else if ¬ u 11 a 3 = u 2 i 3 then u else if u 11 a 6 = 0 then mz_u u 7 i (u 11 a 1).toNatClampNeg (mz_max 1 (u 7 i (u 11 a 1).toNatClampNeg - 1)) else qs_advance n (qs_rAnsN u i a) i
def qs_rSnapC (u : mz_S) (i a : Nat) : mz_S := if qs_term u i (u 11 a 4) = u 11 a 5 then u else qs_cut u i (u 3 i 0 + 1)
def qs_rSnapB (u : mz_S) (i a : Nat) : mz_S := mz_u (qs_rebase (qs_rSnapC u i a) i (u 11 a 4) (u 11 a 5) (u 11 a 11)) 2 i 5 (u 11 a 4)
def qs_rSnap1 (S : Nat) (u : mz_S) (i a : Nat) : mz_S := if u 11 a 4 ≤ u 2 i 5 then qs_sAns S u i (u 11 a 1) 1 (u 2 i 5) else qs_sAns S (qs_rSnapB u i a) i (u 11 a 1) 1 (u 11 a 4)
def qs_rSnap (S : Nat) (u : mz_S) (i a : Nat) : mz_S :=
  if u 11 a 3 < u 2 i 3 then qs_sAns S u i (u 11 a 1) 0 0 else qs_rSnap1 S (mz_u u 2 i 2 0) i a
def qs_rcv1 (n cap S : Nat) (u : mz_S) (i a : Nat) : mz_S :=
  if u 11 a 0 = 1 then qs_rAsk S u i a else if u 11 a 0 = 2 then qs_rVote n u i a else if u 11 a 0 = 3 then qs_rApp cap S u i a else if u 11 a 0 = 4 then qs_rAns n u i a else qs_rSnap S u i a
def qs_rcv (n cap S : Nat) (u : mz_S) (i a : Nat) : mz_S := qs_rcv1 n cap S (if u 2 i 3 < u 11 a 3 then qs_enter u i (u 11 a 3) else u) i a
def qs_dlv (S : Nat) (u : mz_S) (j : Nat) : mz_S := qs_clear (qs_copy u (S + 1) j) j
def qs_deliver (n cap S : Nat) (u : mz_S) (x : Int32) : mz_S × Int32 :=
  if ¬ qs_isN S x then (u, -1) else if u 11 x.toNatClampNeg 0 = 0 then (u, -5)
  else if u 2 (u 11 x.toNatClampNeg 2).toNatClampNeg 1 = 0 then (qs_dlv S u x.toNatClampNeg, u 11 x.toNatClampNeg 0) else (qs_rcv n cap S (qs_dlv S u x.toNatClampNeg) (u 11 x.toNatClampNeg 2).toNatClampNeg (S + 1), u 11 x.toNatClampNeg 0)
def qs_drop (S : Nat) (u : mz_S) (x : Int32) : mz_S × Int32 := if ¬ qs_isN S x then (u, -1) else if u 11 x.toNatClampNeg 0 = 0 then (u, -5) else (qs_clear u x.toNatClampNeg, 0)
def qs_duplicate (S : Nat) (u : mz_S) (x : Int32) : mz_S × Int32 := if ¬ qs_isN S x then (u, -1) else if u 11 x.toNatClampNeg 0 = 0 then (u, -5) else (qs_put S u x.toNatClampNeg, qs_putR S u)
def qs_crash (n : Nat) (u : mz_S) (x : Int32) : mz_S × Int32 := if ¬ qs_isN n x then (u, -1) else if u 2 x.toNatClampNeg 1 = 0 then (u, -2) else (mz_u (mz_u u 2 x.toNatClampNeg 1 0) 2 x.toNatClampNeg 2 0, 0)
def qs_restart (n : Nat) (u : mz_S) (x : Int32) : mz_S × Int32 := if ¬ qs_isN n x then (u, -1) else if ¬ u 2 x.toNatClampNeg 1 = 0 then (u, -2) else (mz_u (mz_u (mz_u u 2 x.toNatClampNeg 1 1) 2 x.toNatClampNeg 2 0) 2 x.toNatClampNeg 5 (u 3 x.toNatClampNeg 0), 0)
def qs_role (n : Nat) (u : mz_S) (x : Int32) : Int32 := if ¬ qs_isN n x then -1 else if u 2 x.toNatClampNeg 1 = 0 then u 2 x.toNatClampNeg 2 else u 2 x.toNatClampNeg 2 + 4
def qs_termQ (n : Nat) (u : mz_S) (x : Int32) : Int32 := if qs_isN n x then u 2 x.toNatClampNeg 3 else -1
def qs_vote (n : Nat) (u : mz_S) (x : Int32) : Int32 := if ¬ qs_isN n x then -1 else if u 2 x.toNatClampNeg 4 = -1 then -1 else u 2 x.toNatClampNeg 4
def qs_base (n : Nat) (u : mz_S) (x : Int32) : Int32 := if qs_isN n x then u 3 x.toNatClampNeg 0 else -1
def qs_lastQ (n : Nat) (u : mz_S) (x : Int32) : Int32 := if qs_isN n x then qs_last u x.toNatClampNeg else -1
def qs_commit (n : Nat) (u : mz_S) (x : Int32) : Int32 := if qs_isN n x then u 2 x.toNatClampNeg 5 else -1
def qs_termAt (n : Nat) (u : mz_S) (x k : Int32) : Int32 := if qs_isN n x then qs_term u x.toNatClampNeg k else -1
def qs_commandAt (n : Nat) (u : mz_S) (x k : Int32) : Int32 := if qs_isN n x then qs_cmd u x.toNatClampNeg k else 0
def qs_stateQ (n : Nat) (u : mz_S) (x : Int32) : Int32 := if qs_isN n x then qs_state u x.toNatClampNeg (u 2 x.toNatClampNeg 5) else 0
def qs_peer (n : Nat) (u : mz_S) (x y : Int32) : Int32 := if ¬ qs_two n x y then -1 else if ¬ u 2 x.toNatClampNeg 2 = 2 then -1 else u 8 x.toNatClampNeg y.toNatClampNeg + 100000 * u 7 x.toNatClampNeg y.toNatClampNeg
def qs_slot (S : Nat) (u : mz_S) (x : Int32) : Int32 := if ¬ qs_isN S x then -1 else if u 11 x.toNatClampNeg 0 = 0 then 0 else u 11 x.toNatClampNeg 0 + 8 * u 11 x.toNatClampNeg 1 + 64 * u 11 x.toNatClampNeg 2 + 512 * u 11 x.toNatClampNeg 3
end
section
-- the reference: kinds are its arrays, all numbers 0: 1 up, 2 role, 3 term, 4 vote, 5 base, 6 baseTerm, 7 baseState, 8 commit, 9 voters, 10 entries, 11 entryTerm, 12 entryCommand, 13 next, 14 match, 15 kind, 16 from, 17 to, 18 borne, 19 number, 20 at, 21 yes, 22 withTerm, 23 command, 24 known
def rs_clamp (v a b : Int32) : Int32 := if v < a then a else if b < v then b else v
def rs_last (r : mz_S) (k : Int32) : Int32 := r 5 0 k.toNatClampNeg + r 10 0 k.toNatClampNeg
abbrev rs_has (r : mz_S) (k i : Int32) : Prop := r 5 0 k.toNatClampNeg < i ∧ i ≤ rs_last r k
def rs_place (r : mz_S) (k i : Int32) : Int32 := 12 * k + i - r 5 0 k.toNatClampNeg - 1
def rs_term (r : mz_S) (k i : Int32) : Int32 := if i = r 5 0 k.toNatClampNeg then r 6 0 k.toNatClampNeg else if rs_has r k i then r 11 0 (rs_place r k i).toNatClampNeg else -1
def rs_fold (r : mz_S) (k : Nat) : Nat → Int32
  | 0 => r 7 0 k
  | j + 1 => 31 * rs_fold r k j + r 12 0 (12 * k + j)
def rs_state (r : mz_S) (k i : Int32) : Int32 := rs_fold r k.toNatClampNeg (i - r 5 0 k.toNatClampNeg).toNatClampNeg
def rs_add (r : mz_S) (k t c : Int32) : mz_S := mz_u (mz_u (mz_u r 11 0 (12 * k + r 10 0 k.toNatClampNeg).toNatClampNeg t) 12 0 (12 * k + r 10 0 k.toNatClampNeg).toNatClampNeg c) 10 0 k.toNatClampNeg (r 10 0 k.toNatClampNeg + 1)
def rs_mv (r : mz_S) (k g : Nat) : Nat → mz_S
  | 0 => r
  | j + 1 => mz_u (mz_u (rs_mv r k g j) 11 0 (12 * k + j) (rs_mv r k g j 11 0 (12 * k + j + g))) 12 0 (12 * k + j) (rs_mv r k g j 12 0 (12 * k + j + g))
def rs_cutF (r : mz_S) (k g : Int32) : mz_S := mz_u (rs_mv r k.toNatClampNeg g.toNatClampNeg (r 10 0 k.toNatClampNeg - g).toNatClampNeg) 10 0 k.toNatClampNeg (r 10 0 k.toNatClampNeg - g)
def rs_ff (S : Nat) (r : mz_S) : Nat := mz_ff (fun j => r 15 0 j) S 0
def rs_free (S : Nat) (r : mz_S) : Int32 := if rs_ff S r < S then nI (rs_ff S r) else -1
def rs_w (r : mz_S) : Nat → Int32
  | 0 => 0
  | j + 1 => rs_w r j + mz_b (0 < r 15 0 j)
def rs_send (S : Nat) (r : mz_S) (k a b : Int32) : mz_S := mz_u (mz_u (mz_u (mz_u r 15 0 (rs_ff S r) k) 16 0 (rs_ff S r) a) 17 0 (rs_ff S r) b) 18 0 (rs_ff S r) (r 3 0 a.toNatClampNeg)
def rs_ans (S : Nat) (r : mz_S) (k a b g x : Int32) : mz_S := mz_u (mz_u (rs_send S r k a b) 21 0 (rs_ff S r) g) 19 0 (rs_ff S r) x
def rs_stand (r : mz_S) (k : Int32) : mz_S := mz_u (mz_u (mz_u (mz_u r 2 0 k.toNatClampNeg 1) 3 0 k.toNatClampNeg (r 3 0 k.toNatClampNeg + 1)) 4 0 k.toNatClampNeg k) 9 0 k.toNatClampNeg (1 <<< (k &&& 31))
def rs_sAsk (S : Nat) (r : mz_S) (a b : Int32) : mz_S := mz_u (mz_u (rs_send S r 1 a b) 19 0 (rs_ff S r) (rs_last r a)) 20 0 (rs_ff S r) (rs_term r a (rs_last r a))
def rs_asks (S : Nat) (r : mz_S) (x : Int32) : Nat → mz_S
  | 0 => r
  | j + 1 => if nI j = x then rs_asks S r x j else rs_sAsk S (rs_asks S r x j) x (nI j)
def rs_timeout (n S : Nat) (r : mz_S) (x : Int32) : mz_S × Int32 :=
  if ¬ qs_isN n x then (r, -1) else if r 1 0 x.toNatClampNeg = 0 then (r, -2) else if r 2 0 x.toNatClampNeg = 2 then (r, -3) else if nI S - rs_w r S < nI n - 1 then (r, -4)
  else (rs_asks S (rs_stand r x) x n, 0)
def rs_sSnap (S : Nat) (r : mz_S) (a b : Int32) : mz_S := mz_u (mz_u (mz_u (rs_send S r 5 a b) 19 0 (rs_ff S r) (r 5 0 a.toNatClampNeg)) 20 0 (rs_ff S r) (r 6 0 a.toNatClampNeg)) 23 0 (rs_ff S r) (r 7 0 a.toNatClampNeg)
def rs_sApp (S : Nat) (r : mz_S) (a b i : Int32) : mz_S :=
  mz_u (mz_u (mz_u (mz_u (mz_u (mz_u (rs_send S r 3 a b) 19 0 (rs_ff S r) (i - 1)) 20 0 (rs_ff S r) (rs_term r a (i - 1))) 24 0 (rs_ff S r) (r 8 0 a.toNatClampNeg)) 21 0 (rs_ff S r) (mz_b (rs_has r a i))) 22 0 (rs_ff S r) (if rs_has r a i then r 11 0 (rs_place r a i).toNatClampNeg else 0)) 23 0 (rs_ff S r) (if rs_has r a i then r 12 0 (rs_place r a i).toNatClampNeg else 0)
def rs_heartbeat (n S : Nat) (r : mz_S) (x y : Int32) : mz_S × Int32 :=
  if ¬ qs_two n x y then (r, -1) else if r 1 0 x.toNatClampNeg = 0 then (r, -2) else if ¬ r 2 0 x.toNatClampNeg = 2 then (r, -3) else if ¬ rs_ff S r < S then (r, -4)
  else if r 13 0 (5 * x + y).toNatClampNeg ≤ r 5 0 x.toNatClampNeg then (rs_sSnap S r x y, 5) else (rs_sApp S r x y (r 13 0 (5 * x + y).toNatClampNeg), 3)
def rs_propose (n cap : Nat) (r : mz_S) (x c : Int32) : mz_S × Int32 :=
  if ¬ qs_isN n x then (r, -1) else if r 1 0 x.toNatClampNeg = 0 then (r, -2) else if ¬ r 2 0 x.toNatClampNeg = 2 then (r, -3) else if r 10 0 x.toNatClampNeg = nI cap then (r, -4)
  else (rs_add r x (r 3 0 x.toNatClampNeg) c, rs_last (rs_add r x (r 3 0 x.toNatClampNeg) c) x)
def rs_rebase (r : mz_S) (k g b t x : Int32) : mz_S := mz_u (mz_u (mz_u (rs_cutF r k g) 5 0 k.toNatClampNeg b) 6 0 k.toNatClampNeg t) 7 0 k.toNatClampNeg x
def rs_compact (n : Nat) (r : mz_S) (x : Int32) : mz_S × Int32 :=
  if ¬ qs_isN n x then (r, -1) else if r 1 0 x.toNatClampNeg = 0 then (r, -2)
  else (rs_rebase r x (r 8 0 x.toNatClampNeg - r 5 0 x.toNatClampNeg) (r 8 0 x.toNatClampNeg) (rs_term r x (r 8 0 x.toNatClampNeg)) (rs_state r x (r 8 0 x.toNatClampNeg)), r 8 0 x.toNatClampNeg - r 5 0 x.toNatClampNeg)
-- what is received: s the slot, k the node, f the sender
abbrev rs_nb (r : mz_S) (s : Nat) (k : Int32) : Prop := rs_term r k (rs_last r k) < r 20 0 s ∨ (r 20 0 s = rs_term r k (rs_last r k) ∧ rs_last r k ≤ r 19 0 s)
abbrev rs_gr (r : mz_S) (s : Nat) (k f : Int32) : Prop := r 18 0 s = r 3 0 k.toNatClampNeg ∧ (r 4 0 k.toNatClampNeg = -1 ∨ r 4 0 k.toNatClampNeg = f) ∧ rs_nb r s k
def rs_rAsk (S : Nat) (r : mz_S) (s : Nat) (k f : Int32) : mz_S := rs_ans S (mz_u r 4 0 k.toNatClampNeg (if rs_gr r s k f then f else r 4 0 k.toNatClampNeg)) 2 k f (mz_b (rs_gr r s k f)) 0
def rs_bits (x : Int32) : Nat → Int32
  | 0 => 0
  | k + 1 => rs_bits x k + (x >>> (nI k &&& 31) &&& 1)
abbrev rs_most (x a : Int32) : Prop := a < 2 * rs_bits x 5
def rs_lv (r : mz_S) (k : Int32) : Nat → mz_S
  | 0 => r
  | j + 1 => mz_u (mz_u (rs_lv r k j) 13 0 (5 * k + nI j).toNatClampNeg (rs_last r k + 1)) 14 0 (5 * k + nI j).toNatClampNeg 0
def rs_rVote1 (r : mz_S) (k f : Int32) : mz_S := mz_u r 9 0 k.toNatClampNeg (r 9 0 k.toNatClampNeg ||| 1 <<< (f &&& 31))
def rs_rVote (n : Nat) (r : mz_S) (s : Nat) (k f : Int32) : mz_S :=
  if ¬ r 2 0 k.toNatClampNeg = 1 then r else if ¬ r 18 0 s = r 3 0 k.toNatClampNeg then r else if r 21 0 s = 0 then r else if ¬ rs_most (rs_rVote1 r k f 9 0 k.toNatClampNeg) (nI n) then rs_rVote1 r k f else rs_lv (mz_u (rs_rVote1 r k f) 2 0 k.toNatClampNeg 2) k 5
def rs_take1 (r : mz_S) (k i t : Int32) : mz_S :=
  if rs_has r k i ∧ ¬ r 11 0 (rs_place r k i).toNatClampNeg = t then mz_u (mz_u r 10 0 k.toNatClampNeg (i - 1 - r 5 0 k.toNatClampNeg)) 8 0 k.toNatClampNeg (if r 8 0 k.toNatClampNeg < rs_last (mz_u r 10 0 k.toNatClampNeg (i - 1 - r 5 0 k.toNatClampNeg)) k then r 8 0 k.toNatClampNeg else rs_last (mz_u r 10 0 k.toNatClampNeg (i - 1 - r 5 0 k.toNatClampNeg)) k) else r
def rs_take (cap : Nat) (r : mz_S) (k i t c : Int32) : mz_S := if ¬ rs_has (rs_take1 r k i t) k i ∧ rs_take1 r k i t 10 0 k.toNatClampNeg < nI cap then rs_add (rs_take1 r k i t) k t c else rs_take1 r k i t
def rs_takeR (cap : Nat) (r : mz_S) (k i t c : Int32) : Int32 := if rs_has (rs_take cap r k i t c) k i then i else i - 1
def rs_rAppE (cap : Nat) (r : mz_S) (s : Nat) (k : Int32) : mz_S := if r 21 0 s = 0 then r else rs_take cap r k (r 19 0 s + 1) (r 22 0 s) (r 23 0 s)
def rs_rAppH (cap : Nat) (r : mz_S) (s : Nat) (k : Int32) : Int32 := if r 21 0 s = 0 then r 19 0 s else rs_takeR cap r k (r 19 0 s + 1) (r 22 0 s) (r 23 0 s)
def rs_rAppX (cap : Nat) (r : mz_S) (s : Nat) (k : Int32) : Int32 := if r 24 0 s < rs_rAppH cap r s k then r 24 0 s else rs_rAppH cap r s k
def rs_rAppC (cap : Nat) (r : mz_S) (s : Nat) (k : Int32) : mz_S := mz_u (rs_rAppE cap r s k) 8 0 k.toNatClampNeg (if rs_rAppE cap r s k 8 0 k.toNatClampNeg < rs_rAppX cap r s k then rs_rAppX cap r s k else rs_rAppE cap r s k 8 0 k.toNatClampNeg)
def rs_rApp1 (cap S : Nat) (r : mz_S) (s : Nat) (k f : Int32) : mz_S :=
  if r 19 0 s < r 5 0 k.toNatClampNeg then rs_ans S r 4 k f 1 (r 5 0 k.toNatClampNeg) else if rs_last r k < r 19 0 s ∨ ¬ rs_term r k (r 19 0 s) = r 20 0 s then rs_ans S r 4 k f 0 0
  else rs_ans S (rs_rAppC cap r s k) 4 k f 1 (rs_rAppH cap r s k)
def rs_rApp (cap S : Nat) (r : mz_S) (s : Nat) (k f : Int32) : mz_S := if r 18 0 s < r 3 0 k.toNatClampNeg then rs_ans S r 4 k f 0 0 else rs_rApp1 cap S (mz_u r 2 0 k.toNatClampNeg 0) s k f
def rs_set (r : mz_S) (k i : Int32) : Nat → Int32
  | 0 => 1 <<< (k &&& 31)
  | j + 1 => if i ≤ r 14 0 (5 * k + nI j).toNatClampNeg then rs_set r k i j ||| 1 <<< (nI j &&& 31) else rs_set r k i j
def rs_best (n : Nat) (r : mz_S) (k : Int32) : Nat → Int32
  | 0 => r 8 0 k.toNatClampNeg
  | d + 1 => if rs_term r k (r 8 0 k.toNatClampNeg + nI (d + 1)) = r 3 0 k.toNatClampNeg ∧ rs_most (rs_set r k (r 8 0 k.toNatClampNeg + nI (d + 1)) n) (nI n) then r 8 0 k.toNatClampNeg + nI (d + 1) else rs_best n r k d
def rs_count (n : Nat) (r : mz_S) (k : Int32) : mz_S := mz_u r 8 0 k.toNatClampNeg (rs_best n r k (rs_last r k - r 8 0 k.toNatClampNeg).toNatClampNeg)
def rs_rAnsM (r : mz_S) (s : Nat) (k f : Int32) : mz_S := mz_u r 14 0 (5 * k + f).toNatClampNeg (if r 14 0 (5 * k + f).toNatClampNeg < r 19 0 s then r 19 0 s else r 14 0 (5 * k + f).toNatClampNeg)
def rs_rAnsN (r : mz_S) (s : Nat) (k f : Int32) : mz_S := mz_u (rs_rAnsM r s k f) 13 0 (5 * k + f).toNatClampNeg (rs_rAnsM r s k f 14 0 (5 * k + f).toNatClampNeg + 1)
def rs_rAns (n : Nat) (r : mz_S) (s : Nat) (k f : Int32) : mz_S :=
  if ¬ r 2 0 k.toNatClampNeg = 2 then r else if ¬ r 18 0 s = r 3 0 k.toNatClampNeg then r else if r 21 0 s = 0 then mz_u r 13 0 (5 * k + f).toNatClampNeg (if 2 < r 13 0 (5 * k + f).toNatClampNeg then r 13 0 (5 * k + f).toNatClampNeg - 1 else 1) else rs_count n (rs_rAnsN r s k f) k
abbrev rs_hasT (r : mz_S) (s : Nat) (k : Int32) : Prop := rs_has r k (r 19 0 s) ∧ r 11 0 (rs_place r k (r 19 0 s)).toNatClampNeg = r 20 0 s
def rs_rSnapB (r : mz_S) (s : Nat) (k : Int32) : mz_S := mz_u (rs_rebase r k (if rs_hasT r s k then r 19 0 s - r 5 0 k.toNatClampNeg else r 10 0 k.toNatClampNeg) (r 19 0 s) (r 20 0 s) (r 23 0 s)) 8 0 k.toNatClampNeg (r 19 0 s)
def rs_rSnap1 (S : Nat) (r : mz_S) (s : Nat) (k f : Int32) : mz_S := if r 19 0 s ≤ r 8 0 k.toNatClampNeg then rs_ans S r 4 k f 1 (r 8 0 k.toNatClampNeg) else rs_ans S (rs_rSnapB r s k) 4 k f 1 (r 19 0 s)
def rs_rSnap (S : Nat) (r : mz_S) (s : Nat) (k f : Int32) : mz_S := if r 18 0 s < r 3 0 k.toNatClampNeg then rs_ans S r 4 k f 0 0 else rs_rSnap1 S (mz_u r 2 0 k.toNatClampNeg 0) s k f
def rs_act (n cap S : Nat) (r : mz_S) (q : Int32) (s : Nat) (k f : Int32) : mz_S :=
  if q = 1 then rs_rAsk S r s k f else if q = 2 then rs_rVote n r s k f else if q = 3 then rs_rApp cap S r s k f else if q = 4 then rs_rAns n r s k f else rs_rSnap S r s k f
def rs_enter (r : mz_S) (k t : Int32) : mz_S := mz_u (mz_u (mz_u r 3 0 k.toNatClampNeg t) 2 0 k.toNatClampNeg 0) 4 0 k.toNatClampNeg (-1)
def rs_rcv (n cap S : Nat) (r : mz_S) (q : Int32) (s : Nat) (k f : Int32) : mz_S := rs_act n cap S (if r 3 0 k.toNatClampNeg < r 18 0 s then rs_enter r k (r 18 0 s) else r) q s k f
def rs_deliver (n cap S : Nat) (r : mz_S) (x : Int32) : mz_S × Int32 :=
  if ¬ qs_isN S x then (r, -1) else if r 15 0 x.toNatClampNeg = 0 then (r, -5)
  else if r 1 0 (r 17 0 x.toNatClampNeg).toNatClampNeg = 0 then (mz_u r 15 0 x.toNatClampNeg 0, r 15 0 x.toNatClampNeg) else (rs_rcv n cap S (mz_u r 15 0 x.toNatClampNeg 0) (r 15 0 x.toNatClampNeg) x.toNatClampNeg (r 17 0 x.toNatClampNeg) (r 16 0 x.toNatClampNeg), r 15 0 x.toNatClampNeg)
def rs_drop (S : Nat) (r : mz_S) (x : Int32) : mz_S × Int32 := if ¬ qs_isN S x then (r, -1) else if r 15 0 x.toNatClampNeg = 0 then (r, -5) else (mz_u r 15 0 x.toNatClampNeg 0, 0)
def rs_copy (r : mz_S) (a b : Nat) : mz_S :=
  mz_u (mz_u (mz_u (mz_u (mz_u (mz_u (mz_u (mz_u (mz_u (mz_u r 15 0 a (r 15 0 b)) 16 0 a (r 16 0 b)) 17 0 a (r 17 0 b)) 18 0 a (r 18 0 b)) 19 0 a (r 19 0 b)) 20 0 a (r 20 0 b)) 21 0 a (mz_b (¬ r 21 0 b = 0))) 22 0 a (r 22 0 b)) 23 0 a (r 23 0 b)) 24 0 a (r 24 0 b)
def rs_duplicate (S : Nat) (r : mz_S) (x : Int32) : mz_S × Int32 := if ¬ qs_isN S x then (r, -1) else if r 15 0 x.toNatClampNeg = 0 then (r, -5) else if ¬ rs_ff S r < S then (r, -4) else (rs_copy r (rs_ff S r) x.toNatClampNeg, nI (rs_ff S r))
def rs_crash (n : Nat) (r : mz_S) (x : Int32) : mz_S × Int32 := if ¬ qs_isN n x then (r, -1) else if r 1 0 x.toNatClampNeg = 0 then (r, -2) else (mz_u (mz_u r 1 0 x.toNatClampNeg 0) 2 0 x.toNatClampNeg 0, 0)
def rs_restart (n : Nat) (r : mz_S) (x : Int32) : mz_S × Int32 := if ¬ qs_isN n x then (r, -1) else if ¬ r 1 0 x.toNatClampNeg = 0 then (r, -2) else (mz_u (mz_u r 1 0 x.toNatClampNeg 1) 8 0 x.toNatClampNeg (r 5 0 x.toNatClampNeg), 0)
def rs_role (n : Nat) (r : mz_S) (x : Int32) : Int32 := if qs_isN n x then r 2 0 x.toNatClampNeg + (if r 1 0 x.toNatClampNeg = 0 then 0 else 4) else -1
def rs_get (n : Nat) (r : mz_S) (a : Nat) (x : Int32) : Int32 := if qs_isN n x then r a 0 x.toNatClampNeg else -1
def rs_lastQ (n : Nat) (r : mz_S) (x : Int32) : Int32 := if qs_isN n x then rs_last r x else -1
def rs_termAt (n : Nat) (r : mz_S) (x k : Int32) : Int32 := if qs_isN n x then rs_term r x k else -1
def rs_commandAt (n : Nat) (r : mz_S) (x k : Int32) : Int32 := if qs_isN n x ∧ rs_has r x k then r 12 0 (rs_place r x k).toNatClampNeg else 0
def rs_stateQ (n : Nat) (r : mz_S) (x : Int32) : Int32 := if qs_isN n x then rs_state r x (r 8 0 x.toNatClampNeg) else 0
def rs_peer (n : Nat) (r : mz_S) (x y : Int32) : Int32 := if ¬ qs_two n x y then -1 else if ¬ r 2 0 x.toNatClampNeg = 2 then -1 else r 14 0 (5 * x + y).toNatClampNeg + 100000 * r 13 0 (5 * x + y).toNatClampNeg
def rs_slot (S : Nat) (r : mz_S) (x : Int32) : Int32 := if ¬ qs_isN S x then -1 else if r 15 0 x.toNatClampNeg = 0 then 0 else r 15 0 x.toNatClampNeg + 8 * r 16 0 x.toNatClampNeg + 64 * r 17 0 x.toNatClampNeg + 512 * r 18 0 x.toNatClampNeg
end
section
/-! Numbers: what the walks need of them. -/
theorem nz_lt {x y : Int32} : x < y ↔ x.toInt < y.toInt := Int32.lt_iff_toInt_lt
theorem nz_le {x y : Int32} : x ≤ y ↔ x.toInt ≤ y.toInt := Int32.le_iff_toInt_le
theorem nz_in {n : Nat} (hn : n < 2 ^ 31) {x : Int32} (h : qs_isN n x) : vp_in x n := by
  rw [vp_in_iff]
  have h1 := nz_le.mp h.1
  have h2 := nz_lt.mp h.2
  rw [nI_toInt hn] at h2
  have h3 : (0 : Int32).toInt = 0 := rfl
  rw [h3] at h1
  exact ⟨h1, h2⟩
theorem nz_of {n : Nat} (hn : n < 2 ^ 31) {x : Int32} (h : qs_isN n x) : ∃ j : Nat, j < n ∧ x = nI j := vp_in_of (nz_in hn h) hn
theorem nz_cl {n : Nat} {x : Int32} (h : vp_in x n) : x.toNatClampNeg < n := Nat.not_le.mp fun q => h (Or.inr q)
theorem nz_mid {b c : Nat} {k : Int32} (hb : b + c < 2 ^ 31) (h1 : nI b < k) (h2 : k ≤ nI b + nI c) : ∃ j : Nat, b < j ∧ j ≤ b + c ∧ k = nI j := by
  rw [nI_add] at h2
  have g1 := nz_lt.mp h1
  have g2 := nz_le.mp h2
  rw [nI_toInt (by omega)] at g1 g2
  have g3 : ¬ k < 0 := fun z => by
    have := nz_lt.mp z
    have h3 : (0 : Int32).toInt = 0 := rfl
    omega
  obtain ⟨j, hj, rfl⟩ := nI_of g3
  rw [nI_toInt hj] at g1 g2
  exact ⟨j, by omega, by omega, rfl⟩
/-- a log's numbers: its base, how many entries -/
def qw (c : Nat) (u : mz_S) (i : Nat) : Prop := ∃ b k : Nat, u 3 i 0 = nI b ∧ u 3 i 3 = nI k ∧ k ≤ c ∧ b ≤ 100000
theorem qw.same {c : Nat} {u u' : mz_S} {i : Nat} (h : qw c u i) (h0 : u' 3 i 0 = u 3 i 0) (h3 : u' 3 i 3 = u 3 i 3) : qw c u' i := by
  obtain ⟨b, k, e1, e2, h1, h2⟩ := h
  exact ⟨b, k, by rw [h0]; exact e1, by rw [h3]; exact e2, h1, h2⟩
theorem qw.ix {c : Nat} {u : mz_S} {i : Nat} (hc : c ≤ 12) (h : qw c u i) {k : Int32} (hk : qs_has u i k) : vp_in (k - u 3 i 0 - 1) c := by
  obtain ⟨b, q, e1, e2, h1, h2⟩ := h
  obtain ⟨h3, h4⟩ := hk
  rw [e1] at h3 h4 ⊢
  rw [e2] at h4
  obtain ⟨j, g1, g2, rfl⟩ := nz_mid (by omega) h3 h4
  rw [pk_sub (by omega), show nI (j - b) - 1 = nI (j - b - 1) from by
    rw [show j - b = (j - b - 1) + 1 by omega, nI_pred]; rfl]
  exact vp_in_nI (by omega) (by omega)
theorem qw.top {c : Nat} {u : mz_S} {i : Nat} (hc : c ≤ 12) (h : qw c u i) (hk : 0 < u 3 i 3) : vp_in (u 3 i 3 - 1) c := by
  obtain ⟨b, q, e1, e2, h1, h2⟩ := h
  rw [e2] at hk ⊢
  have g := nz_lt.mp hk
  rw [nI_toInt (by omega)] at g
  have h3 : (0 : Int32).toInt = 0 := rfl
  rw [show nI q - 1 = nI (q - 1) from by
    rw [show q = (q - 1) + 1 by omega, nI_pred]; rfl]
  exact vp_in_nI (by omega) (by omega)
theorem qw.free {c : Nat} {u : mz_S} {i : Nat} (hc : c ≤ 12) (h : qw c u i) (hk : ¬ qs_full c u i) : vp_in (u 3 i 3) c := by
  obtain ⟨b, q, e1, e2, h1, h2⟩ := h
  unfold qs_full at hk
  rw [e2] at hk ⊢
  rw [nI_leI (by omega) (by omega)] at hk
  exact vp_in_nI (by omega) (by omega)
def qwc (c : Nat) (u : mz_S) (i : Nat) (x : Int32) : Prop := ∃ b k q : Nat, u 3 i 0 = nI b ∧ u 3 i 3 = nI k ∧ x = nI q ∧ b ≤ q ∧ q ≤ b + k ∧ k ≤ c ∧ b ≤ 100000
theorem qwc.qw {c : Nat} {u : mz_S} {i : Nat} {x : Int32} (h : qwc c u i x) : qw c u i := by
  obtain ⟨b, k, q, e1, e2, -, -, -, h1, h2⟩ := h
  exact ⟨b, k, e1, e2, h1, h2⟩
theorem qw.gone {c : Nat} {u : mz_S} {i : Nat} (hc : c ≤ 12) (h : qw c u i) (x : Int32) : ∃ g k : Nat, qs_gone u i x = nI g ∧ u 3 i 3 = nI k ∧ g ≤ k ∧ k ≤ c := by
  obtain ⟨b, k, e1, e2, h1, h2⟩ := h
  have h0 : ¬ mz_max 0 (x - u 3 i 0) < 0 := by
    unfold mz_max
    split
    · rename_i h
      exact fun z => Int32.lt_irrefl (Int32.lt_of_lt_of_le h (Int32.le_of_lt z))
    · exact Int32.lt_irrefl
  obtain ⟨j, hj, e⟩ := nI_of h0
  unfold qs_gone
  rw [e, e2]
  unfold mz_min
  split
  · rename_i h
    rw [nI_ltI (by omega) (by omega)] at h
    exact ⟨j, k, rfl, rfl, by omega, h1⟩
  · exact ⟨k, k, rfl, rfl, Nat.le_refl _, h1⟩
theorem qs_mv_o (u : mz_S) (i g : Nat) {k : Nat} (h4 : k ≠ 4) (h5 : k ≠ 5) (x f : Nat) : ∀ j, qs_mv u i g j k x f = u k x f
  | 0 => rfl
  | j + 1 => by
    unfold qs_mv
    rw [mz_uk h5, mz_uk h4, qs_mv_o u i g h4 h5 x f j]
theorem qs_sv_o (u : mz_S) (i : Nat) {k : Nat} (h : k ≠ 6) (x f : Nat) : ∀ j, qs_sv u i j k x f = u k x f
  | 0 => rfl
  | j + 1 => by
    unfold qs_sv
    rw [mz_uk h, qs_sv_o u i h x f j]
theorem qs_lv_o (u : mz_S) (i : Nat) {k : Nat} (h7 : k ≠ 7) (h8 : k ≠ 8) (x f : Nat) : ∀ j, qs_lv u i j k x f = u k x f
  | 0 => rfl
  | j + 1 => by
    unfold qs_lv
    rw [mz_uk h8, mz_uk h7, qs_lv_o u i h7 h8 x f j]
theorem qs_cut_o (u : mz_S) (i : Nat) (y : Int32) {k : Nat} (h : k ≠ 3) (x f : Nat) : qs_cut u i y k x f = u k x f := by
  unfold qs_cut
  split
  · rw [mz_uk h]
  · rfl
theorem qs_cv_s (u : mz_S) (i j : Nat) : qs_cv u i (j + 1) = if u 6 i j = 0 then qs_cv u i j else qs_cv u i j + 1 := rfl
theorem qs_ch_s (u : mz_S) (i : Nat) (x : Int32) (j : Nat) : qs_ch u i x (j + 1) = if nI j = u 2 i 0 ∨ x ≤ u 8 i j then qs_ch u i x j + 1 else qs_ch u i x j := rfl
theorem qs_copy_o (u : mz_S) (a b : Nat) {k x : Nat} (h : ¬ (k = 11 ∧ x = a)) (f : Nat) : qs_copy u a b k x f = u k x f := by
  unfold qs_copy
  simp only [mz_uo h]
theorem qs_begin_o (u : mz_S) (a : Nat) (p q s t : Int32) {k x : Nat} (h : ¬ (k = 11 ∧ x = a)) (f : Nat) : qs_begin u a p q s t k x f = u k x f := by
  unfold qs_begin
  simp only [mz_uo h]
theorem qw.cut {c : Nat} {u : mz_S} {i : Nat} (hc : c ≤ 12) (h : qw c u i) (y : Int32) : qw c (qs_cut u i y) i := by
  unfold qs_cut
  split
  · rename_i hh
    obtain ⟨b, k, e1, e2, h1, h2⟩ := h
    obtain ⟨g1, g2⟩ := hh
    rw [e1] at g1 g2
    rw [e2] at g2
    obtain ⟨j, g3, g4, rfl⟩ := nz_mid (by omega) g1 g2
    refine ⟨b, j - b - 1, by rw [mz_uf (by decide)]; exact e1, ?_, by omega, h2⟩
    rw [mz_us, e1, pk_sub (by omega), show j - b = (j - b - 1) + 1 by omega, nI_pred]
    congr 1
  · exact h
end
section
section MZT
variable {p : Program} {l : Launch} {e : Env} {R : Room} {s : State} {m : MethodId} {args : Array Value} {below : List Frame} {meth : Method} {c : Code} {H : Heap} {locs : List Loc} {cells slots : Nat} {Q : State → Prop} {pc : Nat} {ls : Array Slot} {rest : List Value}
theorem mz_topE {x y : Int32} (h : x = y) (k : W p l e R s m args below meth c H locs cells slots Q (F0 m pc ls (.int y :: rest))) : W p l e R s m args below meth c H locs cells slots Q (F0 m pc ls (.int x :: rest)) := h ▸ k
end MZT
theorem qs_last_same {u w : mz_S} {i : Nat} (h3 : ∀ f, w 3 i f = u 3 i f) : qs_last w i = qs_last u i := by
  unfold qs_last
  rw [h3, h3]
theorem qs_has_same {u w : mz_S} {i : Nat} (h3 : ∀ f, w 3 i f = u 3 i f) {k : Int32} : qs_has w i k ↔ qs_has u i k := by
  unfold qs_has
  rw [h3, h3]
theorem qs_term_same {u w : mz_S} {i : Nat} (h3 : ∀ f, w 3 i f = u 3 i f) (h4 : ∀ f, w 4 i f = u 4 i f) {k : Int32} : qs_term w i k = qs_term u i k := by
  unfold qs_term qs_has
  simp only [h3, h4]
theorem qs_lastT_same {u w : mz_S} {i : Nat} (h3 : ∀ f, w 3 i f = u 3 i f) (h4 : ∀ f, w 4 i f = u 4 i f) : qs_lastT w i = qs_lastT u i := by
  unfold qs_lastT
  simp only [h3, h4]
theorem qs_cmd_same {u w : mz_S} {i : Nat} (h3 : ∀ f, w 3 i f = u 3 i f) (h5 : ∀ f, w 5 i f = u 5 i f) {k : Int32} : qs_cmd w i k = qs_cmd u i k := by
  unfold qs_cmd qs_has
  simp only [h3, h5]
theorem qs_add_o (c : Nat) (u : mz_S) (i : Nat) (t y : Int32) {k : Nat} (h3 : k ≠ 3) (h4 : k ≠ 4) (h5 : k ≠ 5) (x f : Nat) : qs_add c u i t y k x f = u k x f := by
  unfold qs_add
  split
  · rfl
  · rw [mz_uk h3, mz_uk h5, mz_uk h4]
theorem qs_take1_o (u : mz_S) (i : Nat) (z t : Int32) {k : Nat} (h2 : k ≠ 2) (h3 : k ≠ 3) (x f : Nat) : qs_take1 u i z t k x f = u k x f := by
  unfold qs_take1 qs_cutc
  split
  · rw [mz_uk h2, qs_cut_o _ _ _ h3]
  · rfl
theorem qs_take_o (c : Nat) (u : mz_S) (i : Nat) (z t y : Int32) {k : Nat} (h2 : k ≠ 2) (h3 : k ≠ 3) (h4 : k ≠ 4) (h5 : k ≠ 5) (x f : Nat) : qs_take c u i z t y k x f = u k x f := by
  unfold qs_take
  split
  · rw [qs_take1_o _ _ _ _ h2 h3]
  · rw [qs_add_o _ _ _ _ _ h3 h4 h5, qs_take1_o _ _ _ _ h2 h3]
theorem qs_rAppE_o (c : Nat) (u : mz_S) (i a : Nat) {k : Nat} (h2 : k ≠ 2) (h3 : k ≠ 3) (h4 : k ≠ 4) (h5 : k ≠ 5) (x f : Nat) : qs_rAppE c u i a k x f = u k x f := by
  unfold qs_rAppE
  split
  · rfl
  · rw [qs_take_o _ _ _ _ _ _ h2 h3 h4 h5]
theorem qs_rebase_o (u : mz_S) (i : Nat) (b t y : Int32) {k : Nat} (h3 : k ≠ 3) (h4 : k ≠ 4) (h5 : k ≠ 5) (x f : Nat) : qs_rebase u i b t y k x f = u k x f := by
  unfold qs_rebase
  rw [mz_uk h3, mz_uk h3, mz_uk h3, mz_uk h3, qs_mv_o _ _ _ h4 h5]
theorem qs_rSnapC_o (u : mz_S) (i a : Nat) {k : Nat} (h3 : k ≠ 3) (x f : Nat) : qs_rSnapC u i a k x f = u k x f := by
  unfold qs_rSnapC
  split
  · rfl
  · rw [qs_cut_o _ _ _ h3]
theorem qs_put_o (S : Nat) (u : mz_S) (b : Nat) {k : Nat} (h9 : k ≠ 9) (h11 : k ≠ 11) (x f : Nat) : qs_put S u b k x f = u k x f := by
  unfold qs_put qs_put1
  split
  · rw [mz_uk h9, qs_copy_o _ _ _ (fun z => h11 z.1)]
  · rfl
theorem qs_put_hi (S : Nat) (u : mz_S) (b : Nat) {x : Nat} (h : S ≤ x) (f : Nat) : qs_put S u b 11 x f = u 11 x f := by
  unfold qs_put qs_put1
  split
  · rename_i hh
    rw [mz_uk (by decide), qs_copy_o _ _ _ (by omega)]
  · rfl
theorem qs_sAsk_o (S : Nat) (u : mz_S) (i : Nat) (t : Int32) {k : Nat} (h9 : k ≠ 9) (h11 : k ≠ 11) (x f : Nat) : qs_sAsk S u i t k x f = u k x f := by
  unfold qs_sAsk qs_mAsk
  rw [qs_put_o _ _ _ h9 h11, mz_uk h11, mz_uk h11, qs_begin_o _ _ _ _ _ _ (fun z => h11 z.1)]
theorem qs_asks_o (S : Nat) (u : mz_S) (z : Int32) {k : Nat} (h9 : k ≠ 9) (h11 : k ≠ 11) (x f : Nat) : ∀ j, qs_asks S u z j k x f = u k x f
  | 0 => rfl
  | j + 1 => by
    unfold qs_asks
    split
    · exact qs_asks_o S u z h9 h11 x f j
    · rw [qs_sAsk_o _ _ _ _ h9 h11, qs_asks_o S u z h9 h11 x f j]
theorem qs_stand_o (n : Nat) (u : mz_S) (i : Nat) {k : Nat} (h2 : k ≠ 2) (h6 : k ≠ 6) (x f : Nat) : qs_stand n u i k x f = u k x f := by
  unfold qs_stand qs_enter
  rw [qs_sv_o _ _ h6, mz_uk h2, mz_uk h2, mz_uk h2, mz_uk h2, mz_uk h2]
theorem qwc.same {c : Nat} {u u' : mz_S} {i : Nat} {x x' : Int32} (h : qwc c u i x) (h0 : u' 3 i 0 = u 3 i 0) (h3 : u' 3 i 3 = u 3 i 3) (hx : x' = x) : qwc c u' i x' := by
  obtain ⟨b, k, q, e1, e2, e3, g⟩ := h
  exact ⟨b, k, q, by rw [h0]; exact e1, by rw [h3]; exact e2, by rw [hx]; exact e3, g⟩
-- the message that has arrived stays as it is while it is received
theorem qs_sVote_hi (S : Nat) (u : mz_S) (i : Nat) (t g : Int32) (f : Nat) : qs_sVote S u i t g 11 (S + 1) f = u 11 (S + 1) f := by
  unfold qs_sVote qs_mVote
  rw [qs_put_hi _ _ _ (by omega), mz_ui (by omega), qs_begin_o _ _ _ _ _ _ (by omega)]
theorem qs_sAns_hi (S : Nat) (u : mz_S) (i : Nat) (t g y : Int32) (f : Nat) : qs_sAns S u i t g y 11 (S + 1) f = u 11 (S + 1) f := by
  unfold qs_sAns qs_mAns
  rw [qs_put_hi _ _ _ (by omega), mz_ui (by omega), mz_ui (by omega), qs_begin_o _ _ _ _ _ _ (by omega)]
theorem qs_adv_o (n : Nat) (u : mz_S) (i : Nat) {k : Nat} (h2 : k ≠ 2) (x f : Nat) : ∀ d y, qs_adv n u i d y k x f = u k x f
  | 0, _ => rfl
  | d + 1, y => by
    unfold qs_adv
    split
    · split
      · rw [mz_uk h2]
      · exact qs_adv_o n u i h2 x f d _
    · rfl
theorem qs_lead_o (n : Nat) (u : mz_S) (i : Nat) {k : Nat} (h2 : k ≠ 2) (h7 : k ≠ 7) (h8 : k ≠ 8) (x f : Nat) : qs_lead n u i k x f = u k x f := by
  unfold qs_lead
  rw [qs_lv_o _ _ h7 h8, mz_uk h2]
theorem qs_rcv_hi (n c S : Nat) (u : mz_S) (i a : Nat) (f : Nat) : qs_rcv n c S u i a 11 (S + 1) f = u 11 (S + 1) f := by
  unfold qs_rcv
  generalize hw : (if u 2 i 3 < u 11 a 3 then qs_enter u i (u 11 a 3) else u) = w
  have e : w 11 (S + 1) f = u 11 (S + 1) f := by
    rw [← hw]
    split
    · unfold qs_enter
      rw [mz_uk (by decide), mz_uk (by decide), mz_uk (by decide)]
    · rfl
  rw [← e]
  unfold qs_rcv1
  split
  · unfold qs_rAsk
    split
    · rw [qs_sVote_hi, mz_uk (by decide)]
    · rw [qs_sVote_hi]
  split
  · unfold qs_rVote qs_rVote1
    split
    · rfl
    split
    · rfl
    split
    · rfl
    split
    · rw [qs_lead_o _ _ _ (by decide) (by decide) (by decide), mz_uk (by decide)]
    · rw [mz_uk (by decide)]
  split
  · unfold qs_rApp
    split
    · rw [qs_sAns_hi]
    · unfold qs_rApp1
      split
      · rw [qs_sAns_hi, mz_uk (by decide)]
      split
      · rw [qs_sAns_hi, mz_uk (by decide)]
      · unfold qs_rAppC
        rw [qs_sAns_hi, mz_uk (by decide), qs_rAppE_o _ _ _ _ (by decide) (by decide) (by decide) (by decide), mz_uk (by decide)]
  split
  · unfold qs_rAns qs_advance qs_rAnsN qs_rAnsM
    split
    · rfl
    split
    · rfl
    split
    · rw [mz_uk (by decide)]
    · rw [qs_adv_o _ _ _ (by decide), mz_uk (by decide), mz_uk (by decide)]
  · unfold qs_rSnap
    split
    · rw [qs_sAns_hi]
    · unfold qs_rSnap1
      split
      · rw [qs_sAns_hi, mz_uk (by decide)]
      · unfold qs_rSnapB
        rw [qs_sAns_hi, mz_uk (by decide), qs_rebase_o _ _ _ _ _ (by decide) (by decide) (by decide), qs_rSnapC_o _ _ _ (by decide), mz_uk (by decide)]
theorem mz_out {lo hi : Int} {x : Int32} (h : ∀ k : Int, lo ≤ k → k ≤ hi → ¬ x = Int32.ofInt k) : x.toInt < lo ∨ hi < x.toInt := by
  by_cases h1 : x.toInt < lo
  · exact Or.inl h1
  · by_cases h2 : hi < x.toInt
    · exact Or.inr h2
    · exact absurd (Int32.ofInt_toInt x).symm (h x.toInt (by omega) (by omega))
end
section
def mz_isN : Cond → Bool
  | .fieldLinkNest .. => true
  | .methodLinkNest .. => true
  | _ => false
theorem mz_nw {w : Cond} (hk : mz_isN w = true) {s U : State} (hW : s.WarmedH U.vm) (h : va_Nw w s) : va_Nw w U := by
  cases w <;> first | exact va_Nw.warmF hW h | exact va_Nw.warmM hW h | (simp [mz_isN] at hk)
theorem mz_ns {w : Cond} (hk : mz_isN w = true) {s U : State} (hv : s.vm = U.vm) (h : va_Nw w s) : va_Nw w U := by
  cases w <;> first | exact va_Nw.same rfl hv h | (simp [mz_isN] at hk)
abbrev qL : Type := (Nat → Nat → Nat) × (Nat × Nat × Nat) × (ClassId × ClassId × ClassId × ClassId)
abbrev ql_n (L : qL) : Nat := L.2.1.1
abbrev ql_c (L : qL) : Nat := L.2.1.2.1
abbrev ql_S (L : qL) : Nat := L.2.1.2.2
def qN (L : qL) (k : Nat) : Nat := match k with
  | 0 => 1
  | 1 => 1
  | 2 => ql_n L
  | 3 => ql_n L
  | 4 => ql_n L
  | 5 => ql_n L
  | 6 => ql_n L
  | 7 => ql_n L
  | 8 => ql_n L
  | 9 => 1
  | 10 => 1
  | 11 => ql_S L + 2
  | _ => 0
def qf0 (L : qL) : List Value := [.ref (L.1 1 0), .ref (L.1 9 0), .ref (L.1 11 (ql_S L)), .ref (L.1 11 (ql_S L + 1))]
def qf2 (L : qL) (u : mz_S) (i : Nat) : List Value := [.int (u 2 i 0), .int (mz_b (u 2 i 1 ≠ 0)), .int (u 2 i 2), .int (u 2 i 3), .int (u 2 i 4), .int (u 2 i 5), .ref (L.1 3 i), .ref (L.1 6 i), .ref (L.1 7 i), .ref (L.1 8 i)]
def qf3 (L : qL) (u : mz_S) (i : Nat) : List Value := [.int (u 3 i 0), .int (u 3 i 1), .int (u 3 i 2), .int (u 3 i 3), .ref (L.1 4 i), .ref (L.1 5 i)]
def qf9 (L : qL) (u : mz_S) (i : Nat) : List Value := [.ref (L.1 10 0), .int (u 9 i 1)]
def qf11 (u : mz_S) (k i : Nat) : List Value := [.int (u k i 0), .int (u k i 1), .int (u k i 2), .int (u k i 3), .int (u k i 4), .int (u k i 5), .int (mz_b (u k i 6 ≠ 0)), .int (mz_b (u k i 7 ≠ 0)), .int (u k i 8), .int (u k i 9), .int (u k i 10), .int (u k i 11)]
def qE (L : qL) (u : mz_S) (k i : Nat) : va_E := match k with
  | 0 => .inr (4, qf0 L)
  | 1 => .inl (L.2.2.2.2.1, ql_n L, .inr (.inr (.inr (.inr (fun j => some (L.1 2 j))))))
  | 2 => .inr (3, qf2 L u i)
  | 3 => .inr (0, qf3 L u i)
  | 4 => .inl (L.2.2.1, ql_c L, .inl (u 4 i))
  | 5 => .inl (L.2.2.1, ql_c L, .inl (u 5 i))
  | 6 => .inl (L.2.2.2.1, ql_n L, .inl (u 6 i))
  | 7 => .inl (L.2.2.1, ql_n L, .inl (u 7 i))
  | 8 => .inl (L.2.2.1, ql_n L, .inl (u 8 i))
  | 9 => .inr (2, qf9 L u i)
  | 10 => .inl (L.2.2.2.2.2, ql_S L, .inr (.inr (.inr (.inr (fun j => some (L.1 11 j))))))
  | k => .inr (1, qf11 u k i)
theorem qE_same {L : qL} {u u' : mz_S} {k i : Nat} (h : ∀ f, u' k i f = u k i f) : qE L u' k i = qE L u k i := by
  have h2 : u' k i = u k i := funext h
  unfold qE
  split <;> simp [qf2, qf3, qf9, qf11, h2]
def qT (L : qL) : List (ClassId × FieldType) := [(L.2.2.1, .int), (L.2.2.2.1, .boolean), (L.2.2.2.2.1, .object RX3), (L.2.2.2.2.2, .object RX1)]

theorem qn_all : ∀ w ∈ qn_ws, mz_isN w = true := by decide +kernel
def qG (D : va_G) (L : qL) (u : mz_S) (H : Heap) : Prop := mz_G D vwCl (qN L) L.1 (qE L u) H
theorem qG.one {D : va_G} {L : qL} {u : mz_S} {H : Heap} (h : qG D L u H) {k i : Nat} (hi : i < qN L k) : va_P D vwCl [(L.1 k i, qE L u k i)] H := mz_G.one h hi
theorem qG.set {D : va_G} {L : qL} {u u' : mz_S} {H H1 : Heap} {k i : Nat} (h : qG D L u H) (hI : mz_I (qN L) L.1) (hi : i < qN L k) (he : va_at D vwCl (L.1 k i, qE L u' k i) H1) (oq : ∀ q : Nat, q ≠ L.1 k i → H1[q]? = H[q]?) (ho : ∀ k' i' : Nat, ¬ (k' = k ∧ i' = i) → qE L u' k' i' = qE L u k' i') : qG D L u' H1 := mz_G.set h hI hi he oq ho
def qA (L : qL) : Nat → Prop := mz_A (qN L) L.1
def qK (D : va_G) (L : qL) (s : State) : Prop := va_K D vwCl (qT L) s ∧ ∀ w ∈ qn_ws, va_Nw w s
theorem qK_ok {D : va_G} {L : qL} : mz_K (qK D L) := ⟨fun s U hW h => ⟨va_K.moved hW.alike h.1, fun w hw => mz_nw (qn_all w hw) hW (h.2 w hw)⟩, fun U V hv h => ⟨va_K.moved (by rw [hv]; exact Vm.Alike.refl _) h.1, fun w hw => mz_ns (qn_all w hw) hv (h.2 w hw)⟩⟩
def qL_ok (L : qL) : Prop := (3 ≤ ql_n L ∧ ql_n L ≤ 5 ∧ 1 ≤ ql_c L ∧ ql_c L ≤ 12 ∧ 8 ≤ ql_S L ∧ ql_S L ≤ 40) ∧ mz_I (qN L) L.1
section QW
variable {p : Program} {l : Launch} {e : Env} {R : Room} {s : State} {m : MethodId} {args : Array Value} {below : List Frame} {meth : Method} {c : Code} {H : Heap} {locs : List Loc} {cells slots : Nat} {Q : State → Prop}
variable {cc : ByteArray} {pc : Nat} {ls : Array Slot} {rest : List Value} {D : va_G} {H0 : Heap}
theorem qrecv_0 {L : qL} {u : mz_S} (hK : qK D L s) (hG : qG D L u H) (hi : 0 < 1) : ∃ cell : Cell, H[L.1 0 0]? = some cell ∧ cell.vm.isStatics = false ∧ s.vm.findClass RX4 = some cell.cls := va_recv (q0 := 0) (ci := 4) (q := (RX4, TX4, 4)) hK.1 (hG.one (k := 0) (i := 0) hi) rfl rfl
theorem qg_0 {L : qL} {u : mz_S} {f index : Nat} {v : Value} {Ts : List Cond} {own : String} (hx : p.tables.exec = Jvm.exec) (hb : c.code = cc) (hts : ∀ w ∈ Ts, w.before args s = true) (hin : ∀ w ∈ wsX40, w ∈ Ts) (hown : s.vm.findClass own = some m.cls) (hK : qK D L s) (hG : qG D L u H) (hi : 0 < 1) (hlink : (Cond.fieldLink own index (TX4 f).1 (TX4 f).2.1 (TX4 f).2.2.1).before args s = true) (hf : f < 4) (hv : (qf0 L)[f]? = some v) (hdg : decode cc pc = .ok (.getfield index, 3)) (kk : W p l e R s m args below meth c H locs cells slots Q (F0 m (pc + 3) ls (v :: rest))) : W p l e R s m args below meth c H locs cells slots Q (F0 m pc ls (.ref (L.1 0 0) :: rest)) :=
  va_get (ci := 4) (C := RX4) (T := TX4) (N := 4) hx hb hts hin hown hK.1 (hG.one (k := 0) (i := 0) hi) 0 rfl rfl f hf hlink (fun _ h => h) hv hdg kk
theorem qz_1 {L : qL} {u : mz_S} (hx : p.tables.exec = Jvm.exec) (hb : c.code = cc) (hK : qK D L s) (hG : qG D L u H) (hi : 0 < 1) (hdg : decode cc pc = .ok (.arraylength, 1)) (kk : W p l e R s m args below meth c H locs cells slots Q (F0 m (pc + 1) ls (.int (nI (ql_n L)) :: rest))) : W p l e R s m args below meth c H locs cells slots Q (F0 m pc ls (.ref (L.1 1 0) :: rest)) :=
  va_alen hx hb hK.1 (hG.one (k := 1) (i := 0) hi) 0 2 rfl rfl rfl hdg kk
theorem qa_1 {L : qL} {u : mz_S} {x : Int32} (hx : p.tables.exec = Jvm.exec) (hb : c.code = cc) (hK : qK D L s) (hG : qG D L u H) (hi : 0 < 1) (hin : vp_in x (ql_n L)) (hdg : decode cc pc = .ok (.aaload, 1)) (kk : W p l e R s m args below meth c H locs cells slots Q (F0 m (pc + 1) ls (.ref (L.1 2 x.toNatClampNeg) :: rest))) : W p l e R s m args below meth c H locs cells slots Q (F0 m pc ls (.int x :: .ref (L.1 1 0) :: rest)) :=
  va_aldq (C := "QuorumLog$Node") hx hb hK.1 (hG.one (k := 1) (i := 0) hi) 0 2 rfl rfl hin hdg kk
theorem qrecv_2 {L : qL} {u : mz_S} {i : Nat} (hK : qK D L s) (hG : qG D L u H) (hi : i < ql_n L) : ∃ cell : Cell, H[L.1 2 i]? = some cell ∧ cell.vm.isStatics = false ∧ s.vm.findClass RX3 = some cell.cls := va_recv (q0 := 0) (ci := 3) (q := (RX3, TX3, 10)) hK.1 (hG.one (k := 2) (i := i) hi) rfl rfl
theorem qg_2 {L : qL} {u : mz_S} {i : Nat} {f index : Nat} {v : Value} {Ts : List Cond} {own : String} (hx : p.tables.exec = Jvm.exec) (hb : c.code = cc) (hts : ∀ w ∈ Ts, w.before args s = true) (hin : ∀ w ∈ wsX30, w ∈ Ts) (hown : s.vm.findClass own = some m.cls) (hK : qK D L s) (hG : qG D L u H) (hi : i < ql_n L) (hlink : (Cond.fieldLink own index (TX3 f).1 (TX3 f).2.1 (TX3 f).2.2.1).before args s = true) (hf : f < 10) (hv : (qf2 L u i)[f]? = some v) (hdg : decode cc pc = .ok (.getfield index, 3)) (kk : W p l e R s m args below meth c H locs cells slots Q (F0 m (pc + 3) ls (v :: rest))) : W p l e R s m args below meth c H locs cells slots Q (F0 m pc ls (.ref (L.1 2 i) :: rest)) :=
  va_get (ci := 3) (C := RX3) (T := TX3) (N := 10) hx hb hts hin hown hK.1 (hG.one (k := 2) (i := i) hi) 0 rfl rfl f hf hlink (fun _ h => h) hv hdg kk
theorem qgN_2 {L : qL} {u : mz_S} {i : Nat} {f index : Nat} {v : Value} {Ts : List Cond} {own host : String} (hx : p.tables.exec = Jvm.exec) (hb : c.code = cc) (hts : ∀ w ∈ Ts, w.before args s = true) (hin : ∀ w ∈ wsX30, w ∈ Ts) (hown : s.vm.findClass own = some m.cls) (hK : qK D L s) (hG : qG D L u H) (hi : i < ql_n L) (hlink : (Cond.fieldLinkNest own index (TX3 f).1 (TX3 f).2.1 (TX3 f).2.2.1 host).before args s = true) (hf : f < 10) (hv : (qf2 L u i)[f]? = some v) (hdg : decode cc pc = .ok (.getfield index, 3)) (kk : W p l e R s m args below meth c H locs cells slots Q (F0 m (pc + 3) ls (v :: rest))) : W p l e R s m args below meth c H locs cells slots Q (F0 m pc ls (.ref (L.1 2 i) :: rest)) :=
  va_getN (ci := 3) (C := RX3) (T := TX3) (N := 10) hx hb hts hin hown hK.1 (hG.one (k := 2) (i := i) hi) 0 rfl rfl f hf hlink (fun _ h => h) hv hdg kk
theorem qe_2_1 {L : qL} {u : mz_S} {i : Nat} {x : Int32} (hv : mz_b (x ≠ 0) = x) : qE L (mz_u u 2 i 1 x) 2 i = .inr (3, (qf2 L u i).set 1 (.int x)) := by
  simp [qE, qf2, mz_u, hv]
theorem qp_2_1 {L : qL} {u : mz_S} {i : Nat} {x : Int32} {index : Nat} {Ts : List Cond} {own : String} (hx : p.tables.exec = Jvm.exec) (hb : c.code = cc) (hts : ∀ w ∈ Ts, w.before args s = true) (hin : ∀ w ∈ wsX30, w ∈ Ts) (hown : s.vm.findClass own = some m.cls) (hL : qL_ok L) (hK : qK D L s) (hG : qG D L u H) (hS : va_S (qA L) H0 H locs) (hi : i < ql_n L) (hlink : (Cond.fieldLink own index (TX3 1).1 (TX3 1).2.1 (TX3 1).2.2.1).before args s = true) (hv : mz_b (x ≠ 0) = x) (hdg : decode cc pc = .ok (.putfield index, 3)) (kk : ∀ (H1 : Heap) (locs1 : List Loc), qG D L (mz_u u 2 i 1 x) H1 → va_S (qA L) H0 H1 locs1 → W p l e R s m args below meth c H1 locs1 cells slots Q (F0 m (pc + 3) ls rest)) : W p l e R s m args below meth c H locs cells slots Q (F0 m pc ls (.int x :: .ref (L.1 2 i) :: rest)) := by
  refine mz_put (ci := 3) (C := RX3) (T := TX3) (N := 10) (fs := qf2 L u i) hx hb hts hin tyX3 tyX3_ok nmX3 hown hK.1 (hG 2 i hi) rfl 1 (by decide) hlink rfl (ty := .boolean) (by decide +kernel) (by rw [← hv]; exact mz_b_nar) (by rw [← hv]; exact mz_b_fit) (Nat.le_of_ble_eq_true rfl) hdg (fun H1 j he z oq => kk H1 _ ?_ (hS.put z oq (mz_A.in (k := 2) hi)))
  exact hG.set hL.2 (k := 2) hi (by rw [qe_2_1 hv]; exact he) oq (fun k' i' h => qE_same (fun f => mz_uo h f))
theorem qpN_2_1 {L : qL} {u : mz_S} {i : Nat} {x : Int32} {index : Nat} {Ts : List Cond} {own host : String} (hx : p.tables.exec = Jvm.exec) (hb : c.code = cc) (hts : ∀ w ∈ Ts, w.before args s = true) (hin : ∀ w ∈ wsX30, w ∈ Ts) (hown : s.vm.findClass own = some m.cls) (hL : qL_ok L) (hK : qK D L s) (hG : qG D L u H) (hS : va_S (qA L) H0 H locs) (hi : i < ql_n L) (hlink : (Cond.fieldLinkNest own index (TX3 1).1 (TX3 1).2.1 (TX3 1).2.2.1 host).before args s = true) (hv : mz_b (x ≠ 0) = x) (hdg : decode cc pc = .ok (.putfield index, 3)) (kk : ∀ (H1 : Heap) (locs1 : List Loc), qG D L (mz_u u 2 i 1 x) H1 → va_S (qA L) H0 H1 locs1 → W p l e R s m args below meth c H1 locs1 cells slots Q (F0 m (pc + 3) ls rest)) : W p l e R s m args below meth c H locs cells slots Q (F0 m pc ls (.int x :: .ref (L.1 2 i) :: rest)) := by
  refine mz_putN (ci := 3) (C := RX3) (T := TX3) (N := 10) (fs := qf2 L u i) hx hb hts hin tyX3 tyX3_ok nmX3 hown hK.1 (hG 2 i hi) rfl 1 (by decide) hlink rfl (ty := .boolean) (by decide +kernel) (by rw [← hv]; exact mz_b_nar) (by rw [← hv]; exact mz_b_fit) (Nat.le_of_ble_eq_true rfl) hdg (fun H1 j he z oq => kk H1 _ ?_ (hS.put z oq (mz_A.in (k := 2) hi)))
  exact hG.set hL.2 (k := 2) hi (by rw [qe_2_1 hv]; exact he) oq (fun k' i' h => qE_same (fun f => mz_uo h f))
theorem qe_2_2 {L : qL} {u : mz_S} {i : Nat} {x : Int32} : qE L (mz_u u 2 i 2 x) 2 i = .inr (3, (qf2 L u i).set 2 (.int x)) := by
  simp [qE, qf2, mz_u]
theorem qp_2_2 {L : qL} {u : mz_S} {i : Nat} {x : Int32} {index : Nat} {Ts : List Cond} {own : String} (hx : p.tables.exec = Jvm.exec) (hb : c.code = cc) (hts : ∀ w ∈ Ts, w.before args s = true) (hin : ∀ w ∈ wsX30, w ∈ Ts) (hown : s.vm.findClass own = some m.cls) (hL : qL_ok L) (hK : qK D L s) (hG : qG D L u H) (hS : va_S (qA L) H0 H locs) (hi : i < ql_n L) (hlink : (Cond.fieldLink own index (TX3 2).1 (TX3 2).2.1 (TX3 2).2.2.1).before args s = true) (hdg : decode cc pc = .ok (.putfield index, 3)) (kk : ∀ (H1 : Heap) (locs1 : List Loc), qG D L (mz_u u 2 i 2 x) H1 → va_S (qA L) H0 H1 locs1 → W p l e R s m args below meth c H1 locs1 cells slots Q (F0 m (pc + 3) ls rest)) : W p l e R s m args below meth c H locs cells slots Q (F0 m pc ls (.int x :: .ref (L.1 2 i) :: rest)) := by
  refine mz_put (ci := 3) (C := RX3) (T := TX3) (N := 10) (fs := qf2 L u i) hx hb hts hin tyX3 tyX3_ok nmX3 hown hK.1 (hG 2 i hi) rfl 2 (by decide) hlink rfl (ty := .int) (by decide +kernel) rfl rfl (Nat.le_of_ble_eq_true rfl) hdg (fun H1 j he z oq => kk H1 _ ?_ (hS.put z oq (mz_A.in (k := 2) hi)))
  exact hG.set hL.2 (k := 2) hi (by rw [qe_2_2]; exact he) oq (fun k' i' h => qE_same (fun f => mz_uo h f))
theorem qpN_2_2 {L : qL} {u : mz_S} {i : Nat} {x : Int32} {index : Nat} {Ts : List Cond} {own host : String} (hx : p.tables.exec = Jvm.exec) (hb : c.code = cc) (hts : ∀ w ∈ Ts, w.before args s = true) (hin : ∀ w ∈ wsX30, w ∈ Ts) (hown : s.vm.findClass own = some m.cls) (hL : qL_ok L) (hK : qK D L s) (hG : qG D L u H) (hS : va_S (qA L) H0 H locs) (hi : i < ql_n L) (hlink : (Cond.fieldLinkNest own index (TX3 2).1 (TX3 2).2.1 (TX3 2).2.2.1 host).before args s = true) (hdg : decode cc pc = .ok (.putfield index, 3)) (kk : ∀ (H1 : Heap) (locs1 : List Loc), qG D L (mz_u u 2 i 2 x) H1 → va_S (qA L) H0 H1 locs1 → W p l e R s m args below meth c H1 locs1 cells slots Q (F0 m (pc + 3) ls rest)) : W p l e R s m args below meth c H locs cells slots Q (F0 m pc ls (.int x :: .ref (L.1 2 i) :: rest)) := by
  refine mz_putN (ci := 3) (C := RX3) (T := TX3) (N := 10) (fs := qf2 L u i) hx hb hts hin tyX3 tyX3_ok nmX3 hown hK.1 (hG 2 i hi) rfl 2 (by decide) hlink rfl (ty := .int) (by decide +kernel) rfl rfl (Nat.le_of_ble_eq_true rfl) hdg (fun H1 j he z oq => kk H1 _ ?_ (hS.put z oq (mz_A.in (k := 2) hi)))
  exact hG.set hL.2 (k := 2) hi (by rw [qe_2_2]; exact he) oq (fun k' i' h => qE_same (fun f => mz_uo h f))
theorem qe_2_3 {L : qL} {u : mz_S} {i : Nat} {x : Int32} : qE L (mz_u u 2 i 3 x) 2 i = .inr (3, (qf2 L u i).set 3 (.int x)) := by
  simp [qE, qf2, mz_u]
theorem qp_2_3 {L : qL} {u : mz_S} {i : Nat} {x : Int32} {index : Nat} {Ts : List Cond} {own : String} (hx : p.tables.exec = Jvm.exec) (hb : c.code = cc) (hts : ∀ w ∈ Ts, w.before args s = true) (hin : ∀ w ∈ wsX30, w ∈ Ts) (hown : s.vm.findClass own = some m.cls) (hL : qL_ok L) (hK : qK D L s) (hG : qG D L u H) (hS : va_S (qA L) H0 H locs) (hi : i < ql_n L) (hlink : (Cond.fieldLink own index (TX3 3).1 (TX3 3).2.1 (TX3 3).2.2.1).before args s = true) (hdg : decode cc pc = .ok (.putfield index, 3)) (kk : ∀ (H1 : Heap) (locs1 : List Loc), qG D L (mz_u u 2 i 3 x) H1 → va_S (qA L) H0 H1 locs1 → W p l e R s m args below meth c H1 locs1 cells slots Q (F0 m (pc + 3) ls rest)) : W p l e R s m args below meth c H locs cells slots Q (F0 m pc ls (.int x :: .ref (L.1 2 i) :: rest)) := by
  refine mz_put (ci := 3) (C := RX3) (T := TX3) (N := 10) (fs := qf2 L u i) hx hb hts hin tyX3 tyX3_ok nmX3 hown hK.1 (hG 2 i hi) rfl 3 (by decide) hlink rfl (ty := .int) (by decide +kernel) rfl rfl (Nat.le_of_ble_eq_true rfl) hdg (fun H1 j he z oq => kk H1 _ ?_ (hS.put z oq (mz_A.in (k := 2) hi)))
  exact hG.set hL.2 (k := 2) hi (by rw [qe_2_3]; exact he) oq (fun k' i' h => qE_same (fun f => mz_uo h f))
theorem qpN_2_3 {L : qL} {u : mz_S} {i : Nat} {x : Int32} {index : Nat} {Ts : List Cond} {own host : String} (hx : p.tables.exec = Jvm.exec) (hb : c.code = cc) (hts : ∀ w ∈ Ts, w.before args s = true) (hin : ∀ w ∈ wsX30, w ∈ Ts) (hown : s.vm.findClass own = some m.cls) (hL : qL_ok L) (hK : qK D L s) (hG : qG D L u H) (hS : va_S (qA L) H0 H locs) (hi : i < ql_n L) (hlink : (Cond.fieldLinkNest own index (TX3 3).1 (TX3 3).2.1 (TX3 3).2.2.1 host).before args s = true) (hdg : decode cc pc = .ok (.putfield index, 3)) (kk : ∀ (H1 : Heap) (locs1 : List Loc), qG D L (mz_u u 2 i 3 x) H1 → va_S (qA L) H0 H1 locs1 → W p l e R s m args below meth c H1 locs1 cells slots Q (F0 m (pc + 3) ls rest)) : W p l e R s m args below meth c H locs cells slots Q (F0 m pc ls (.int x :: .ref (L.1 2 i) :: rest)) := by
  refine mz_putN (ci := 3) (C := RX3) (T := TX3) (N := 10) (fs := qf2 L u i) hx hb hts hin tyX3 tyX3_ok nmX3 hown hK.1 (hG 2 i hi) rfl 3 (by decide) hlink rfl (ty := .int) (by decide +kernel) rfl rfl (Nat.le_of_ble_eq_true rfl) hdg (fun H1 j he z oq => kk H1 _ ?_ (hS.put z oq (mz_A.in (k := 2) hi)))
  exact hG.set hL.2 (k := 2) hi (by rw [qe_2_3]; exact he) oq (fun k' i' h => qE_same (fun f => mz_uo h f))
theorem qe_2_4 {L : qL} {u : mz_S} {i : Nat} {x : Int32} : qE L (mz_u u 2 i 4 x) 2 i = .inr (3, (qf2 L u i).set 4 (.int x)) := by
  simp [qE, qf2, mz_u]
theorem qp_2_4 {L : qL} {u : mz_S} {i : Nat} {x : Int32} {index : Nat} {Ts : List Cond} {own : String} (hx : p.tables.exec = Jvm.exec) (hb : c.code = cc) (hts : ∀ w ∈ Ts, w.before args s = true) (hin : ∀ w ∈ wsX30, w ∈ Ts) (hown : s.vm.findClass own = some m.cls) (hL : qL_ok L) (hK : qK D L s) (hG : qG D L u H) (hS : va_S (qA L) H0 H locs) (hi : i < ql_n L) (hlink : (Cond.fieldLink own index (TX3 4).1 (TX3 4).2.1 (TX3 4).2.2.1).before args s = true) (hdg : decode cc pc = .ok (.putfield index, 3)) (kk : ∀ (H1 : Heap) (locs1 : List Loc), qG D L (mz_u u 2 i 4 x) H1 → va_S (qA L) H0 H1 locs1 → W p l e R s m args below meth c H1 locs1 cells slots Q (F0 m (pc + 3) ls rest)) : W p l e R s m args below meth c H locs cells slots Q (F0 m pc ls (.int x :: .ref (L.1 2 i) :: rest)) := by
  refine mz_put (ci := 3) (C := RX3) (T := TX3) (N := 10) (fs := qf2 L u i) hx hb hts hin tyX3 tyX3_ok nmX3 hown hK.1 (hG 2 i hi) rfl 4 (by decide) hlink rfl (ty := .int) (by decide +kernel) rfl rfl (Nat.le_of_ble_eq_true rfl) hdg (fun H1 j he z oq => kk H1 _ ?_ (hS.put z oq (mz_A.in (k := 2) hi)))
  exact hG.set hL.2 (k := 2) hi (by rw [qe_2_4]; exact he) oq (fun k' i' h => qE_same (fun f => mz_uo h f))
theorem qpN_2_4 {L : qL} {u : mz_S} {i : Nat} {x : Int32} {index : Nat} {Ts : List Cond} {own host : String} (hx : p.tables.exec = Jvm.exec) (hb : c.code = cc) (hts : ∀ w ∈ Ts, w.before args s = true) (hin : ∀ w ∈ wsX30, w ∈ Ts) (hown : s.vm.findClass own = some m.cls) (hL : qL_ok L) (hK : qK D L s) (hG : qG D L u H) (hS : va_S (qA L) H0 H locs) (hi : i < ql_n L) (hlink : (Cond.fieldLinkNest own index (TX3 4).1 (TX3 4).2.1 (TX3 4).2.2.1 host).before args s = true) (hdg : decode cc pc = .ok (.putfield index, 3)) (kk : ∀ (H1 : Heap) (locs1 : List Loc), qG D L (mz_u u 2 i 4 x) H1 → va_S (qA L) H0 H1 locs1 → W p l e R s m args below meth c H1 locs1 cells slots Q (F0 m (pc + 3) ls rest)) : W p l e R s m args below meth c H locs cells slots Q (F0 m pc ls (.int x :: .ref (L.1 2 i) :: rest)) := by
  refine mz_putN (ci := 3) (C := RX3) (T := TX3) (N := 10) (fs := qf2 L u i) hx hb hts hin tyX3 tyX3_ok nmX3 hown hK.1 (hG 2 i hi) rfl 4 (by decide) hlink rfl (ty := .int) (by decide +kernel) rfl rfl (Nat.le_of_ble_eq_true rfl) hdg (fun H1 j he z oq => kk H1 _ ?_ (hS.put z oq (mz_A.in (k := 2) hi)))
  exact hG.set hL.2 (k := 2) hi (by rw [qe_2_4]; exact he) oq (fun k' i' h => qE_same (fun f => mz_uo h f))
theorem qe_2_5 {L : qL} {u : mz_S} {i : Nat} {x : Int32} : qE L (mz_u u 2 i 5 x) 2 i = .inr (3, (qf2 L u i).set 5 (.int x)) := by
  simp [qE, qf2, mz_u]
theorem qp_2_5 {L : qL} {u : mz_S} {i : Nat} {x : Int32} {index : Nat} {Ts : List Cond} {own : String} (hx : p.tables.exec = Jvm.exec) (hb : c.code = cc) (hts : ∀ w ∈ Ts, w.before args s = true) (hin : ∀ w ∈ wsX30, w ∈ Ts) (hown : s.vm.findClass own = some m.cls) (hL : qL_ok L) (hK : qK D L s) (hG : qG D L u H) (hS : va_S (qA L) H0 H locs) (hi : i < ql_n L) (hlink : (Cond.fieldLink own index (TX3 5).1 (TX3 5).2.1 (TX3 5).2.2.1).before args s = true) (hdg : decode cc pc = .ok (.putfield index, 3)) (kk : ∀ (H1 : Heap) (locs1 : List Loc), qG D L (mz_u u 2 i 5 x) H1 → va_S (qA L) H0 H1 locs1 → W p l e R s m args below meth c H1 locs1 cells slots Q (F0 m (pc + 3) ls rest)) : W p l e R s m args below meth c H locs cells slots Q (F0 m pc ls (.int x :: .ref (L.1 2 i) :: rest)) := by
  refine mz_put (ci := 3) (C := RX3) (T := TX3) (N := 10) (fs := qf2 L u i) hx hb hts hin tyX3 tyX3_ok nmX3 hown hK.1 (hG 2 i hi) rfl 5 (by decide) hlink rfl (ty := .int) (by decide +kernel) rfl rfl (Nat.le_of_ble_eq_true rfl) hdg (fun H1 j he z oq => kk H1 _ ?_ (hS.put z oq (mz_A.in (k := 2) hi)))
  exact hG.set hL.2 (k := 2) hi (by rw [qe_2_5]; exact he) oq (fun k' i' h => qE_same (fun f => mz_uo h f))
theorem qpN_2_5 {L : qL} {u : mz_S} {i : Nat} {x : Int32} {index : Nat} {Ts : List Cond} {own host : String} (hx : p.tables.exec = Jvm.exec) (hb : c.code = cc) (hts : ∀ w ∈ Ts, w.before args s = true) (hin : ∀ w ∈ wsX30, w ∈ Ts) (hown : s.vm.findClass own = some m.cls) (hL : qL_ok L) (hK : qK D L s) (hG : qG D L u H) (hS : va_S (qA L) H0 H locs) (hi : i < ql_n L) (hlink : (Cond.fieldLinkNest own index (TX3 5).1 (TX3 5).2.1 (TX3 5).2.2.1 host).before args s = true) (hdg : decode cc pc = .ok (.putfield index, 3)) (kk : ∀ (H1 : Heap) (locs1 : List Loc), qG D L (mz_u u 2 i 5 x) H1 → va_S (qA L) H0 H1 locs1 → W p l e R s m args below meth c H1 locs1 cells slots Q (F0 m (pc + 3) ls rest)) : W p l e R s m args below meth c H locs cells slots Q (F0 m pc ls (.int x :: .ref (L.1 2 i) :: rest)) := by
  refine mz_putN (ci := 3) (C := RX3) (T := TX3) (N := 10) (fs := qf2 L u i) hx hb hts hin tyX3 tyX3_ok nmX3 hown hK.1 (hG 2 i hi) rfl 5 (by decide) hlink rfl (ty := .int) (by decide +kernel) rfl rfl (Nat.le_of_ble_eq_true rfl) hdg (fun H1 j he z oq => kk H1 _ ?_ (hS.put z oq (mz_A.in (k := 2) hi)))
  exact hG.set hL.2 (k := 2) hi (by rw [qe_2_5]; exact he) oq (fun k' i' h => qE_same (fun f => mz_uo h f))
theorem qrecv_3 {L : qL} {u : mz_S} {i : Nat} (hK : qK D L s) (hG : qG D L u H) (hi : i < ql_n L) : ∃ cell : Cell, H[L.1 3 i]? = some cell ∧ cell.vm.isStatics = false ∧ s.vm.findClass RX0 = some cell.cls := va_recv (q0 := 0) (ci := 0) (q := (RX0, TX0, 6)) hK.1 (hG.one (k := 3) (i := i) hi) rfl rfl
theorem qg_3 {L : qL} {u : mz_S} {i : Nat} {f index : Nat} {v : Value} {Ts : List Cond} {own : String} (hx : p.tables.exec = Jvm.exec) (hb : c.code = cc) (hts : ∀ w ∈ Ts, w.before args s = true) (hin : ∀ w ∈ wsX00, w ∈ Ts) (hown : s.vm.findClass own = some m.cls) (hK : qK D L s) (hG : qG D L u H) (hi : i < ql_n L) (hlink : (Cond.fieldLink own index (TX0 f).1 (TX0 f).2.1 (TX0 f).2.2.1).before args s = true) (hf : f < 6) (hv : (qf3 L u i)[f]? = some v) (hdg : decode cc pc = .ok (.getfield index, 3)) (kk : W p l e R s m args below meth c H locs cells slots Q (F0 m (pc + 3) ls (v :: rest))) : W p l e R s m args below meth c H locs cells slots Q (F0 m pc ls (.ref (L.1 3 i) :: rest)) :=
  va_get (ci := 0) (C := RX0) (T := TX0) (N := 6) hx hb hts hin hown hK.1 (hG.one (k := 3) (i := i) hi) 0 rfl rfl f hf hlink (fun _ h => h) hv hdg kk
theorem qgN_3 {L : qL} {u : mz_S} {i : Nat} {f index : Nat} {v : Value} {Ts : List Cond} {own host : String} (hx : p.tables.exec = Jvm.exec) (hb : c.code = cc) (hts : ∀ w ∈ Ts, w.before args s = true) (hin : ∀ w ∈ wsX00, w ∈ Ts) (hown : s.vm.findClass own = some m.cls) (hK : qK D L s) (hG : qG D L u H) (hi : i < ql_n L) (hlink : (Cond.fieldLinkNest own index (TX0 f).1 (TX0 f).2.1 (TX0 f).2.2.1 host).before args s = true) (hf : f < 6) (hv : (qf3 L u i)[f]? = some v) (hdg : decode cc pc = .ok (.getfield index, 3)) (kk : W p l e R s m args below meth c H locs cells slots Q (F0 m (pc + 3) ls (v :: rest))) : W p l e R s m args below meth c H locs cells slots Q (F0 m pc ls (.ref (L.1 3 i) :: rest)) :=
  va_getN (ci := 0) (C := RX0) (T := TX0) (N := 6) hx hb hts hin hown hK.1 (hG.one (k := 3) (i := i) hi) 0 rfl rfl f hf hlink (fun _ h => h) hv hdg kk
theorem qe_3_0 {L : qL} {u : mz_S} {i : Nat} {x : Int32} : qE L (mz_u u 3 i 0 x) 3 i = .inr (0, (qf3 L u i).set 0 (.int x)) := by
  simp [qE, qf3, mz_u]
theorem qp_3_0 {L : qL} {u : mz_S} {i : Nat} {x : Int32} {index : Nat} {Ts : List Cond} {own : String} (hx : p.tables.exec = Jvm.exec) (hb : c.code = cc) (hts : ∀ w ∈ Ts, w.before args s = true) (hin : ∀ w ∈ wsX00, w ∈ Ts) (hown : s.vm.findClass own = some m.cls) (hL : qL_ok L) (hK : qK D L s) (hG : qG D L u H) (hS : va_S (qA L) H0 H locs) (hi : i < ql_n L) (hlink : (Cond.fieldLink own index (TX0 0).1 (TX0 0).2.1 (TX0 0).2.2.1).before args s = true) (hdg : decode cc pc = .ok (.putfield index, 3)) (kk : ∀ (H1 : Heap) (locs1 : List Loc), qG D L (mz_u u 3 i 0 x) H1 → va_S (qA L) H0 H1 locs1 → W p l e R s m args below meth c H1 locs1 cells slots Q (F0 m (pc + 3) ls rest)) : W p l e R s m args below meth c H locs cells slots Q (F0 m pc ls (.int x :: .ref (L.1 3 i) :: rest)) := by
  refine mz_put (ci := 0) (C := RX0) (T := TX0) (N := 6) (fs := qf3 L u i) hx hb hts hin tyX0 tyX0_ok nmX0 hown hK.1 (hG 3 i hi) rfl 0 (by decide) hlink rfl (ty := .int) (by decide +kernel) rfl rfl (Nat.le_of_ble_eq_true rfl) hdg (fun H1 j he z oq => kk H1 _ ?_ (hS.put z oq (mz_A.in (k := 3) hi)))
  exact hG.set hL.2 (k := 3) hi (by rw [qe_3_0]; exact he) oq (fun k' i' h => qE_same (fun f => mz_uo h f))
theorem qpN_3_0 {L : qL} {u : mz_S} {i : Nat} {x : Int32} {index : Nat} {Ts : List Cond} {own host : String} (hx : p.tables.exec = Jvm.exec) (hb : c.code = cc) (hts : ∀ w ∈ Ts, w.before args s = true) (hin : ∀ w ∈ wsX00, w ∈ Ts) (hown : s.vm.findClass own = some m.cls) (hL : qL_ok L) (hK : qK D L s) (hG : qG D L u H) (hS : va_S (qA L) H0 H locs) (hi : i < ql_n L) (hlink : (Cond.fieldLinkNest own index (TX0 0).1 (TX0 0).2.1 (TX0 0).2.2.1 host).before args s = true) (hdg : decode cc pc = .ok (.putfield index, 3)) (kk : ∀ (H1 : Heap) (locs1 : List Loc), qG D L (mz_u u 3 i 0 x) H1 → va_S (qA L) H0 H1 locs1 → W p l e R s m args below meth c H1 locs1 cells slots Q (F0 m (pc + 3) ls rest)) : W p l e R s m args below meth c H locs cells slots Q (F0 m pc ls (.int x :: .ref (L.1 3 i) :: rest)) := by
  refine mz_putN (ci := 0) (C := RX0) (T := TX0) (N := 6) (fs := qf3 L u i) hx hb hts hin tyX0 tyX0_ok nmX0 hown hK.1 (hG 3 i hi) rfl 0 (by decide) hlink rfl (ty := .int) (by decide +kernel) rfl rfl (Nat.le_of_ble_eq_true rfl) hdg (fun H1 j he z oq => kk H1 _ ?_ (hS.put z oq (mz_A.in (k := 3) hi)))
  exact hG.set hL.2 (k := 3) hi (by rw [qe_3_0]; exact he) oq (fun k' i' h => qE_same (fun f => mz_uo h f))
theorem qe_3_1 {L : qL} {u : mz_S} {i : Nat} {x : Int32} : qE L (mz_u u 3 i 1 x) 3 i = .inr (0, (qf3 L u i).set 1 (.int x)) := by
  simp [qE, qf3, mz_u]
theorem qp_3_1 {L : qL} {u : mz_S} {i : Nat} {x : Int32} {index : Nat} {Ts : List Cond} {own : String} (hx : p.tables.exec = Jvm.exec) (hb : c.code = cc) (hts : ∀ w ∈ Ts, w.before args s = true) (hin : ∀ w ∈ wsX00, w ∈ Ts) (hown : s.vm.findClass own = some m.cls) (hL : qL_ok L) (hK : qK D L s) (hG : qG D L u H) (hS : va_S (qA L) H0 H locs) (hi : i < ql_n L) (hlink : (Cond.fieldLink own index (TX0 1).1 (TX0 1).2.1 (TX0 1).2.2.1).before args s = true) (hdg : decode cc pc = .ok (.putfield index, 3)) (kk : ∀ (H1 : Heap) (locs1 : List Loc), qG D L (mz_u u 3 i 1 x) H1 → va_S (qA L) H0 H1 locs1 → W p l e R s m args below meth c H1 locs1 cells slots Q (F0 m (pc + 3) ls rest)) : W p l e R s m args below meth c H locs cells slots Q (F0 m pc ls (.int x :: .ref (L.1 3 i) :: rest)) := by
  refine mz_put (ci := 0) (C := RX0) (T := TX0) (N := 6) (fs := qf3 L u i) hx hb hts hin tyX0 tyX0_ok nmX0 hown hK.1 (hG 3 i hi) rfl 1 (by decide) hlink rfl (ty := .int) (by decide +kernel) rfl rfl (Nat.le_of_ble_eq_true rfl) hdg (fun H1 j he z oq => kk H1 _ ?_ (hS.put z oq (mz_A.in (k := 3) hi)))
  exact hG.set hL.2 (k := 3) hi (by rw [qe_3_1]; exact he) oq (fun k' i' h => qE_same (fun f => mz_uo h f))
theorem qpN_3_1 {L : qL} {u : mz_S} {i : Nat} {x : Int32} {index : Nat} {Ts : List Cond} {own host : String} (hx : p.tables.exec = Jvm.exec) (hb : c.code = cc) (hts : ∀ w ∈ Ts, w.before args s = true) (hin : ∀ w ∈ wsX00, w ∈ Ts) (hown : s.vm.findClass own = some m.cls) (hL : qL_ok L) (hK : qK D L s) (hG : qG D L u H) (hS : va_S (qA L) H0 H locs) (hi : i < ql_n L) (hlink : (Cond.fieldLinkNest own index (TX0 1).1 (TX0 1).2.1 (TX0 1).2.2.1 host).before args s = true) (hdg : decode cc pc = .ok (.putfield index, 3)) (kk : ∀ (H1 : Heap) (locs1 : List Loc), qG D L (mz_u u 3 i 1 x) H1 → va_S (qA L) H0 H1 locs1 → W p l e R s m args below meth c H1 locs1 cells slots Q (F0 m (pc + 3) ls rest)) : W p l e R s m args below meth c H locs cells slots Q (F0 m pc ls (.int x :: .ref (L.1 3 i) :: rest)) := by
  refine mz_putN (ci := 0) (C := RX0) (T := TX0) (N := 6) (fs := qf3 L u i) hx hb hts hin tyX0 tyX0_ok nmX0 hown hK.1 (hG 3 i hi) rfl 1 (by decide) hlink rfl (ty := .int) (by decide +kernel) rfl rfl (Nat.le_of_ble_eq_true rfl) hdg (fun H1 j he z oq => kk H1 _ ?_ (hS.put z oq (mz_A.in (k := 3) hi)))
  exact hG.set hL.2 (k := 3) hi (by rw [qe_3_1]; exact he) oq (fun k' i' h => qE_same (fun f => mz_uo h f))
theorem qe_3_2 {L : qL} {u : mz_S} {i : Nat} {x : Int32} : qE L (mz_u u 3 i 2 x) 3 i = .inr (0, (qf3 L u i).set 2 (.int x)) := by
  simp [qE, qf3, mz_u]
theorem qp_3_2 {L : qL} {u : mz_S} {i : Nat} {x : Int32} {index : Nat} {Ts : List Cond} {own : String} (hx : p.tables.exec = Jvm.exec) (hb : c.code = cc) (hts : ∀ w ∈ Ts, w.before args s = true) (hin : ∀ w ∈ wsX00, w ∈ Ts) (hown : s.vm.findClass own = some m.cls) (hL : qL_ok L) (hK : qK D L s) (hG : qG D L u H) (hS : va_S (qA L) H0 H locs) (hi : i < ql_n L) (hlink : (Cond.fieldLink own index (TX0 2).1 (TX0 2).2.1 (TX0 2).2.2.1).before args s = true) (hdg : decode cc pc = .ok (.putfield index, 3)) (kk : ∀ (H1 : Heap) (locs1 : List Loc), qG D L (mz_u u 3 i 2 x) H1 → va_S (qA L) H0 H1 locs1 → W p l e R s m args below meth c H1 locs1 cells slots Q (F0 m (pc + 3) ls rest)) : W p l e R s m args below meth c H locs cells slots Q (F0 m pc ls (.int x :: .ref (L.1 3 i) :: rest)) := by
  refine mz_put (ci := 0) (C := RX0) (T := TX0) (N := 6) (fs := qf3 L u i) hx hb hts hin tyX0 tyX0_ok nmX0 hown hK.1 (hG 3 i hi) rfl 2 (by decide) hlink rfl (ty := .int) (by decide +kernel) rfl rfl (Nat.le_of_ble_eq_true rfl) hdg (fun H1 j he z oq => kk H1 _ ?_ (hS.put z oq (mz_A.in (k := 3) hi)))
  exact hG.set hL.2 (k := 3) hi (by rw [qe_3_2]; exact he) oq (fun k' i' h => qE_same (fun f => mz_uo h f))
theorem qpN_3_2 {L : qL} {u : mz_S} {i : Nat} {x : Int32} {index : Nat} {Ts : List Cond} {own host : String} (hx : p.tables.exec = Jvm.exec) (hb : c.code = cc) (hts : ∀ w ∈ Ts, w.before args s = true) (hin : ∀ w ∈ wsX00, w ∈ Ts) (hown : s.vm.findClass own = some m.cls) (hL : qL_ok L) (hK : qK D L s) (hG : qG D L u H) (hS : va_S (qA L) H0 H locs) (hi : i < ql_n L) (hlink : (Cond.fieldLinkNest own index (TX0 2).1 (TX0 2).2.1 (TX0 2).2.2.1 host).before args s = true) (hdg : decode cc pc = .ok (.putfield index, 3)) (kk : ∀ (H1 : Heap) (locs1 : List Loc), qG D L (mz_u u 3 i 2 x) H1 → va_S (qA L) H0 H1 locs1 → W p l e R s m args below meth c H1 locs1 cells slots Q (F0 m (pc + 3) ls rest)) : W p l e R s m args below meth c H locs cells slots Q (F0 m pc ls (.int x :: .ref (L.1 3 i) :: rest)) := by
  refine mz_putN (ci := 0) (C := RX0) (T := TX0) (N := 6) (fs := qf3 L u i) hx hb hts hin tyX0 tyX0_ok nmX0 hown hK.1 (hG 3 i hi) rfl 2 (by decide) hlink rfl (ty := .int) (by decide +kernel) rfl rfl (Nat.le_of_ble_eq_true rfl) hdg (fun H1 j he z oq => kk H1 _ ?_ (hS.put z oq (mz_A.in (k := 3) hi)))
  exact hG.set hL.2 (k := 3) hi (by rw [qe_3_2]; exact he) oq (fun k' i' h => qE_same (fun f => mz_uo h f))
theorem qe_3_3 {L : qL} {u : mz_S} {i : Nat} {x : Int32} : qE L (mz_u u 3 i 3 x) 3 i = .inr (0, (qf3 L u i).set 3 (.int x)) := by
  simp [qE, qf3, mz_u]
theorem qp_3_3 {L : qL} {u : mz_S} {i : Nat} {x : Int32} {index : Nat} {Ts : List Cond} {own : String} (hx : p.tables.exec = Jvm.exec) (hb : c.code = cc) (hts : ∀ w ∈ Ts, w.before args s = true) (hin : ∀ w ∈ wsX00, w ∈ Ts) (hown : s.vm.findClass own = some m.cls) (hL : qL_ok L) (hK : qK D L s) (hG : qG D L u H) (hS : va_S (qA L) H0 H locs) (hi : i < ql_n L) (hlink : (Cond.fieldLink own index (TX0 3).1 (TX0 3).2.1 (TX0 3).2.2.1).before args s = true) (hdg : decode cc pc = .ok (.putfield index, 3)) (kk : ∀ (H1 : Heap) (locs1 : List Loc), qG D L (mz_u u 3 i 3 x) H1 → va_S (qA L) H0 H1 locs1 → W p l e R s m args below meth c H1 locs1 cells slots Q (F0 m (pc + 3) ls rest)) : W p l e R s m args below meth c H locs cells slots Q (F0 m pc ls (.int x :: .ref (L.1 3 i) :: rest)) := by
  refine mz_put (ci := 0) (C := RX0) (T := TX0) (N := 6) (fs := qf3 L u i) hx hb hts hin tyX0 tyX0_ok nmX0 hown hK.1 (hG 3 i hi) rfl 3 (by decide) hlink rfl (ty := .int) (by decide +kernel) rfl rfl (Nat.le_of_ble_eq_true rfl) hdg (fun H1 j he z oq => kk H1 _ ?_ (hS.put z oq (mz_A.in (k := 3) hi)))
  exact hG.set hL.2 (k := 3) hi (by rw [qe_3_3]; exact he) oq (fun k' i' h => qE_same (fun f => mz_uo h f))
theorem qpN_3_3 {L : qL} {u : mz_S} {i : Nat} {x : Int32} {index : Nat} {Ts : List Cond} {own host : String} (hx : p.tables.exec = Jvm.exec) (hb : c.code = cc) (hts : ∀ w ∈ Ts, w.before args s = true) (hin : ∀ w ∈ wsX00, w ∈ Ts) (hown : s.vm.findClass own = some m.cls) (hL : qL_ok L) (hK : qK D L s) (hG : qG D L u H) (hS : va_S (qA L) H0 H locs) (hi : i < ql_n L) (hlink : (Cond.fieldLinkNest own index (TX0 3).1 (TX0 3).2.1 (TX0 3).2.2.1 host).before args s = true) (hdg : decode cc pc = .ok (.putfield index, 3)) (kk : ∀ (H1 : Heap) (locs1 : List Loc), qG D L (mz_u u 3 i 3 x) H1 → va_S (qA L) H0 H1 locs1 → W p l e R s m args below meth c H1 locs1 cells slots Q (F0 m (pc + 3) ls rest)) : W p l e R s m args below meth c H locs cells slots Q (F0 m pc ls (.int x :: .ref (L.1 3 i) :: rest)) := by
  refine mz_putN (ci := 0) (C := RX0) (T := TX0) (N := 6) (fs := qf3 L u i) hx hb hts hin tyX0 tyX0_ok nmX0 hown hK.1 (hG 3 i hi) rfl 3 (by decide) hlink rfl (ty := .int) (by decide +kernel) rfl rfl (Nat.le_of_ble_eq_true rfl) hdg (fun H1 j he z oq => kk H1 _ ?_ (hS.put z oq (mz_A.in (k := 3) hi)))
  exact hG.set hL.2 (k := 3) hi (by rw [qe_3_3]; exact he) oq (fun k' i' h => qE_same (fun f => mz_uo h f))
theorem qz_4 {L : qL} {u : mz_S} {i : Nat} (hx : p.tables.exec = Jvm.exec) (hb : c.code = cc) (hK : qK D L s) (hG : qG D L u H) (hi : i < ql_n L) (hdg : decode cc pc = .ok (.arraylength, 1)) (kk : W p l e R s m args below meth c H locs cells slots Q (F0 m (pc + 1) ls (.int (nI (ql_c L)) :: rest))) : W p l e R s m args below meth c H locs cells slots Q (F0 m pc ls (.ref (L.1 4 i) :: rest)) :=
  va_alen hx hb hK.1 (hG.one (k := 4) (i := i) hi) 0 0 rfl rfl rfl hdg kk
theorem qa_4 {L : qL} {u : mz_S} {i : Nat} {x : Int32} (hx : p.tables.exec = Jvm.exec) (hb : c.code = cc) (hK : qK D L s) (hG : qG D L u H) (hi : i < ql_n L) (hin : vp_in x (ql_c L)) (hdg : decode cc pc = .ok (.iaload, 1)) (kk : W p l e R s m args below meth c H locs cells slots Q (F0 m (pc + 1) ls (.int (u 4 i x.toNatClampNeg) :: rest))) : W p l e R s m args below meth c H locs cells slots Q (F0 m pc ls (.int x :: .ref (L.1 4 i) :: rest)) :=
  va_iald hx hb hK.1 (hG.one (k := 4) (i := i) hi) 0 0 rfl rfl hin hdg kk
theorem qt_4 {L : qL} {u : mz_S} {i : Nat} {x y : Int32} (hx : p.tables.exec = Jvm.exec) (hb : c.code = cc) (hL : qL_ok L) (hK : qK D L s) (hG : qG D L u H) (hS : va_S (qA L) H0 H locs) (hi : i < ql_n L) (hin : vp_in x (ql_c L)) (hdg : decode cc pc = .ok (.iastore, 1)) (kk : ∀ (H1 : Heap) (locs1 : List Loc), qG D L (mz_u u 4 i x.toNatClampNeg y) H1 → va_S (qA L) H0 H1 locs1 → W p l e R s m args below meth c H1 locs1 cells slots Q (F0 m (pc + 1) ls rest)) : W p l e R s m args below meth c H locs cells slots Q (F0 m pc ls (.int y :: .int x :: .ref (L.1 4 i) :: rest)) := by
  refine mz_iast hx hb hK.1 0 (hG 4 i hi) rfl hin hdg (fun H1 j he z oq => kk H1 _ ?_ (hS.put z oq (mz_A.in (k := 4) hi)))
  refine hG.set hL.2 (k := 4) hi ?_ oq (fun k' i' h => qE_same (fun f => mz_uo h f))
  rw [show qE L (mz_u u 4 i x.toNatClampNeg y) 4 i = .inl (L.2.2.1, ql_c L, .inl (upd (u 4 i) x.toNatClampNeg y)) from by
    have h9 : mz_u u 4 i x.toNatClampNeg y 4 i = upd (u 4 i) x.toNatClampNeg y := by
      funext f
      simp [mz_u, upd]
    simp [qE, h9]]
  exact he
theorem qz_5 {L : qL} {u : mz_S} {i : Nat} (hx : p.tables.exec = Jvm.exec) (hb : c.code = cc) (hK : qK D L s) (hG : qG D L u H) (hi : i < ql_n L) (hdg : decode cc pc = .ok (.arraylength, 1)) (kk : W p l e R s m args below meth c H locs cells slots Q (F0 m (pc + 1) ls (.int (nI (ql_c L)) :: rest))) : W p l e R s m args below meth c H locs cells slots Q (F0 m pc ls (.ref (L.1 5 i) :: rest)) :=
  va_alen hx hb hK.1 (hG.one (k := 5) (i := i) hi) 0 0 rfl rfl rfl hdg kk
theorem qa_5 {L : qL} {u : mz_S} {i : Nat} {x : Int32} (hx : p.tables.exec = Jvm.exec) (hb : c.code = cc) (hK : qK D L s) (hG : qG D L u H) (hi : i < ql_n L) (hin : vp_in x (ql_c L)) (hdg : decode cc pc = .ok (.iaload, 1)) (kk : W p l e R s m args below meth c H locs cells slots Q (F0 m (pc + 1) ls (.int (u 5 i x.toNatClampNeg) :: rest))) : W p l e R s m args below meth c H locs cells slots Q (F0 m pc ls (.int x :: .ref (L.1 5 i) :: rest)) :=
  va_iald hx hb hK.1 (hG.one (k := 5) (i := i) hi) 0 0 rfl rfl hin hdg kk
theorem qt_5 {L : qL} {u : mz_S} {i : Nat} {x y : Int32} (hx : p.tables.exec = Jvm.exec) (hb : c.code = cc) (hL : qL_ok L) (hK : qK D L s) (hG : qG D L u H) (hS : va_S (qA L) H0 H locs) (hi : i < ql_n L) (hin : vp_in x (ql_c L)) (hdg : decode cc pc = .ok (.iastore, 1)) (kk : ∀ (H1 : Heap) (locs1 : List Loc), qG D L (mz_u u 5 i x.toNatClampNeg y) H1 → va_S (qA L) H0 H1 locs1 → W p l e R s m args below meth c H1 locs1 cells slots Q (F0 m (pc + 1) ls rest)) : W p l e R s m args below meth c H locs cells slots Q (F0 m pc ls (.int y :: .int x :: .ref (L.1 5 i) :: rest)) := by
  refine mz_iast hx hb hK.1 0 (hG 5 i hi) rfl hin hdg (fun H1 j he z oq => kk H1 _ ?_ (hS.put z oq (mz_A.in (k := 5) hi)))
  refine hG.set hL.2 (k := 5) hi ?_ oq (fun k' i' h => qE_same (fun f => mz_uo h f))
  rw [show qE L (mz_u u 5 i x.toNatClampNeg y) 5 i = .inl (L.2.2.1, ql_c L, .inl (upd (u 5 i) x.toNatClampNeg y)) from by
    have h9 : mz_u u 5 i x.toNatClampNeg y 5 i = upd (u 5 i) x.toNatClampNeg y := by
      funext f
      simp [mz_u, upd]
    simp [qE, h9]]
  exact he
theorem qz_6 {L : qL} {u : mz_S} {i : Nat} (hx : p.tables.exec = Jvm.exec) (hb : c.code = cc) (hK : qK D L s) (hG : qG D L u H) (hi : i < ql_n L) (hdg : decode cc pc = .ok (.arraylength, 1)) (kk : W p l e R s m args below meth c H locs cells slots Q (F0 m (pc + 1) ls (.int (nI (ql_n L)) :: rest))) : W p l e R s m args below meth c H locs cells slots Q (F0 m pc ls (.ref (L.1 6 i) :: rest)) :=
  va_alen hx hb hK.1 (hG.one (k := 6) (i := i) hi) 0 1 rfl rfl rfl hdg kk
theorem qa_6 {L : qL} {u : mz_S} {i : Nat} {x : Int32} (hx : p.tables.exec = Jvm.exec) (hb : c.code = cc) (hK : qK D L s) (hG : qG D L u H) (hi : i < ql_n L) (hin : vp_in x (ql_n L)) (hdg : decode cc pc = .ok (.baload, 1)) (kk : W p l e R s m args below meth c H locs cells slots Q (F0 m (pc + 1) ls (.int (u 6 i x.toNatClampNeg) :: rest))) : W p l e R s m args below meth c H locs cells slots Q (F0 m pc ls (.int x :: .ref (L.1 6 i) :: rest)) :=
  va_zald hx hb hK.1 (hG.one (k := 6) (i := i) hi) 0 1 rfl rfl hin hdg kk
theorem qt_6 {L : qL} {u : mz_S} {i : Nat} {x y : Int32} (hx : p.tables.exec = Jvm.exec) (hb : c.code = cc) (hL : qL_ok L) (hK : qK D L s) (hG : qG D L u H) (hS : va_S (qA L) H0 H locs) (hi : i < ql_n L) (hin : vp_in x (ql_n L)) (hv : narrow .boolean (.int y) = .int y) (hdg : decode cc pc = .ok (.bastore, 1)) (kk : ∀ (H1 : Heap) (locs1 : List Loc), qG D L (mz_u u 6 i x.toNatClampNeg y) H1 → va_S (qA L) H0 H1 locs1 → W p l e R s m args below meth c H1 locs1 cells slots Q (F0 m (pc + 1) ls rest)) : W p l e R s m args below meth c H locs cells slots Q (F0 m pc ls (.int y :: .int x :: .ref (L.1 6 i) :: rest)) := by
  refine mz_zast hx hb hK.1 1 (hG 6 i hi) rfl hin hv hdg (fun H1 j he z oq => kk H1 _ ?_ (hS.put z oq (mz_A.in (k := 6) hi)))
  refine hG.set hL.2 (k := 6) hi ?_ oq (fun k' i' h => qE_same (fun f => mz_uo h f))
  rw [show qE L (mz_u u 6 i x.toNatClampNeg y) 6 i = .inl (L.2.2.2.1, ql_n L, .inl (upd (u 6 i) x.toNatClampNeg y)) from by
    have h9 : mz_u u 6 i x.toNatClampNeg y 6 i = upd (u 6 i) x.toNatClampNeg y := by
      funext f
      simp [mz_u, upd]
    simp [qE, h9]]
  exact he
theorem qz_7 {L : qL} {u : mz_S} {i : Nat} (hx : p.tables.exec = Jvm.exec) (hb : c.code = cc) (hK : qK D L s) (hG : qG D L u H) (hi : i < ql_n L) (hdg : decode cc pc = .ok (.arraylength, 1)) (kk : W p l e R s m args below meth c H locs cells slots Q (F0 m (pc + 1) ls (.int (nI (ql_n L)) :: rest))) : W p l e R s m args below meth c H locs cells slots Q (F0 m pc ls (.ref (L.1 7 i) :: rest)) :=
  va_alen hx hb hK.1 (hG.one (k := 7) (i := i) hi) 0 0 rfl rfl rfl hdg kk
theorem qa_7 {L : qL} {u : mz_S} {i : Nat} {x : Int32} (hx : p.tables.exec = Jvm.exec) (hb : c.code = cc) (hK : qK D L s) (hG : qG D L u H) (hi : i < ql_n L) (hin : vp_in x (ql_n L)) (hdg : decode cc pc = .ok (.iaload, 1)) (kk : W p l e R s m args below meth c H locs cells slots Q (F0 m (pc + 1) ls (.int (u 7 i x.toNatClampNeg) :: rest))) : W p l e R s m args below meth c H locs cells slots Q (F0 m pc ls (.int x :: .ref (L.1 7 i) :: rest)) :=
  va_iald hx hb hK.1 (hG.one (k := 7) (i := i) hi) 0 0 rfl rfl hin hdg kk
theorem qt_7 {L : qL} {u : mz_S} {i : Nat} {x y : Int32} (hx : p.tables.exec = Jvm.exec) (hb : c.code = cc) (hL : qL_ok L) (hK : qK D L s) (hG : qG D L u H) (hS : va_S (qA L) H0 H locs) (hi : i < ql_n L) (hin : vp_in x (ql_n L)) (hdg : decode cc pc = .ok (.iastore, 1)) (kk : ∀ (H1 : Heap) (locs1 : List Loc), qG D L (mz_u u 7 i x.toNatClampNeg y) H1 → va_S (qA L) H0 H1 locs1 → W p l e R s m args below meth c H1 locs1 cells slots Q (F0 m (pc + 1) ls rest)) : W p l e R s m args below meth c H locs cells slots Q (F0 m pc ls (.int y :: .int x :: .ref (L.1 7 i) :: rest)) := by
  refine mz_iast hx hb hK.1 0 (hG 7 i hi) rfl hin hdg (fun H1 j he z oq => kk H1 _ ?_ (hS.put z oq (mz_A.in (k := 7) hi)))
  refine hG.set hL.2 (k := 7) hi ?_ oq (fun k' i' h => qE_same (fun f => mz_uo h f))
  rw [show qE L (mz_u u 7 i x.toNatClampNeg y) 7 i = .inl (L.2.2.1, ql_n L, .inl (upd (u 7 i) x.toNatClampNeg y)) from by
    have h9 : mz_u u 7 i x.toNatClampNeg y 7 i = upd (u 7 i) x.toNatClampNeg y := by
      funext f
      simp [mz_u, upd]
    simp [qE, h9]]
  exact he
theorem qz_8 {L : qL} {u : mz_S} {i : Nat} (hx : p.tables.exec = Jvm.exec) (hb : c.code = cc) (hK : qK D L s) (hG : qG D L u H) (hi : i < ql_n L) (hdg : decode cc pc = .ok (.arraylength, 1)) (kk : W p l e R s m args below meth c H locs cells slots Q (F0 m (pc + 1) ls (.int (nI (ql_n L)) :: rest))) : W p l e R s m args below meth c H locs cells slots Q (F0 m pc ls (.ref (L.1 8 i) :: rest)) :=
  va_alen hx hb hK.1 (hG.one (k := 8) (i := i) hi) 0 0 rfl rfl rfl hdg kk
theorem qa_8 {L : qL} {u : mz_S} {i : Nat} {x : Int32} (hx : p.tables.exec = Jvm.exec) (hb : c.code = cc) (hK : qK D L s) (hG : qG D L u H) (hi : i < ql_n L) (hin : vp_in x (ql_n L)) (hdg : decode cc pc = .ok (.iaload, 1)) (kk : W p l e R s m args below meth c H locs cells slots Q (F0 m (pc + 1) ls (.int (u 8 i x.toNatClampNeg) :: rest))) : W p l e R s m args below meth c H locs cells slots Q (F0 m pc ls (.int x :: .ref (L.1 8 i) :: rest)) :=
  va_iald hx hb hK.1 (hG.one (k := 8) (i := i) hi) 0 0 rfl rfl hin hdg kk
theorem qt_8 {L : qL} {u : mz_S} {i : Nat} {x y : Int32} (hx : p.tables.exec = Jvm.exec) (hb : c.code = cc) (hL : qL_ok L) (hK : qK D L s) (hG : qG D L u H) (hS : va_S (qA L) H0 H locs) (hi : i < ql_n L) (hin : vp_in x (ql_n L)) (hdg : decode cc pc = .ok (.iastore, 1)) (kk : ∀ (H1 : Heap) (locs1 : List Loc), qG D L (mz_u u 8 i x.toNatClampNeg y) H1 → va_S (qA L) H0 H1 locs1 → W p l e R s m args below meth c H1 locs1 cells slots Q (F0 m (pc + 1) ls rest)) : W p l e R s m args below meth c H locs cells slots Q (F0 m pc ls (.int y :: .int x :: .ref (L.1 8 i) :: rest)) := by
  refine mz_iast hx hb hK.1 0 (hG 8 i hi) rfl hin hdg (fun H1 j he z oq => kk H1 _ ?_ (hS.put z oq (mz_A.in (k := 8) hi)))
  refine hG.set hL.2 (k := 8) hi ?_ oq (fun k' i' h => qE_same (fun f => mz_uo h f))
  rw [show qE L (mz_u u 8 i x.toNatClampNeg y) 8 i = .inl (L.2.2.1, ql_n L, .inl (upd (u 8 i) x.toNatClampNeg y)) from by
    have h9 : mz_u u 8 i x.toNatClampNeg y 8 i = upd (u 8 i) x.toNatClampNeg y := by
      funext f
      simp [mz_u, upd]
    simp [qE, h9]]
  exact he
theorem qrecv_9 {L : qL} {u : mz_S} (hK : qK D L s) (hG : qG D L u H) (hi : 0 < 1) : ∃ cell : Cell, H[L.1 9 0]? = some cell ∧ cell.vm.isStatics = false ∧ s.vm.findClass RX2 = some cell.cls := va_recv (q0 := 0) (ci := 2) (q := (RX2, TX2, 2)) hK.1 (hG.one (k := 9) (i := 0) hi) rfl rfl
theorem qg_9 {L : qL} {u : mz_S} {f index : Nat} {v : Value} {Ts : List Cond} {own : String} (hx : p.tables.exec = Jvm.exec) (hb : c.code = cc) (hts : ∀ w ∈ Ts, w.before args s = true) (hin : ∀ w ∈ wsX20, w ∈ Ts) (hown : s.vm.findClass own = some m.cls) (hK : qK D L s) (hG : qG D L u H) (hi : 0 < 1) (hlink : (Cond.fieldLink own index (TX2 f).1 (TX2 f).2.1 (TX2 f).2.2.1).before args s = true) (hf : f < 2) (hv : (qf9 L u 0)[f]? = some v) (hdg : decode cc pc = .ok (.getfield index, 3)) (kk : W p l e R s m args below meth c H locs cells slots Q (F0 m (pc + 3) ls (v :: rest))) : W p l e R s m args below meth c H locs cells slots Q (F0 m pc ls (.ref (L.1 9 0) :: rest)) :=
  va_get (ci := 2) (C := RX2) (T := TX2) (N := 2) hx hb hts hin hown hK.1 (hG.one (k := 9) (i := 0) hi) 0 rfl rfl f hf hlink (fun _ h => h) hv hdg kk
theorem qgN_9 {L : qL} {u : mz_S} {f index : Nat} {v : Value} {Ts : List Cond} {own host : String} (hx : p.tables.exec = Jvm.exec) (hb : c.code = cc) (hts : ∀ w ∈ Ts, w.before args s = true) (hin : ∀ w ∈ wsX20, w ∈ Ts) (hown : s.vm.findClass own = some m.cls) (hK : qK D L s) (hG : qG D L u H) (hi : 0 < 1) (hlink : (Cond.fieldLinkNest own index (TX2 f).1 (TX2 f).2.1 (TX2 f).2.2.1 host).before args s = true) (hf : f < 2) (hv : (qf9 L u 0)[f]? = some v) (hdg : decode cc pc = .ok (.getfield index, 3)) (kk : W p l e R s m args below meth c H locs cells slots Q (F0 m (pc + 3) ls (v :: rest))) : W p l e R s m args below meth c H locs cells slots Q (F0 m pc ls (.ref (L.1 9 0) :: rest)) :=
  va_getN (ci := 2) (C := RX2) (T := TX2) (N := 2) hx hb hts hin hown hK.1 (hG.one (k := 9) (i := 0) hi) 0 rfl rfl f hf hlink (fun _ h => h) hv hdg kk
theorem qe_9_1 {L : qL} {u : mz_S} {x : Int32} : qE L (mz_u u 9 0 1 x) 9 0 = .inr (2, (qf9 L u 0).set 1 (.int x)) := by
  simp [qE, qf9, mz_u]
theorem qp_9_1 {L : qL} {u : mz_S} {x : Int32} {index : Nat} {Ts : List Cond} {own : String} (hx : p.tables.exec = Jvm.exec) (hb : c.code = cc) (hts : ∀ w ∈ Ts, w.before args s = true) (hin : ∀ w ∈ wsX20, w ∈ Ts) (hown : s.vm.findClass own = some m.cls) (hL : qL_ok L) (hK : qK D L s) (hG : qG D L u H) (hS : va_S (qA L) H0 H locs) (hi : 0 < 1) (hlink : (Cond.fieldLink own index (TX2 1).1 (TX2 1).2.1 (TX2 1).2.2.1).before args s = true) (hdg : decode cc pc = .ok (.putfield index, 3)) (kk : ∀ (H1 : Heap) (locs1 : List Loc), qG D L (mz_u u 9 0 1 x) H1 → va_S (qA L) H0 H1 locs1 → W p l e R s m args below meth c H1 locs1 cells slots Q (F0 m (pc + 3) ls rest)) : W p l e R s m args below meth c H locs cells slots Q (F0 m pc ls (.int x :: .ref (L.1 9 0) :: rest)) := by
  refine mz_put (ci := 2) (C := RX2) (T := TX2) (N := 2) (fs := qf9 L u 0) hx hb hts hin tyX2 tyX2_ok nmX2 hown hK.1 (hG 9 0 hi) rfl 1 (by decide) hlink rfl (ty := .int) (by decide +kernel) rfl rfl (Nat.le_of_ble_eq_true rfl) hdg (fun H1 j he z oq => kk H1 _ ?_ (hS.put z oq (mz_A.in (k := 9) hi)))
  exact hG.set hL.2 (k := 9) hi (by rw [qe_9_1]; exact he) oq (fun k' i' h => qE_same (fun f => mz_uo h f))
theorem qpN_9_1 {L : qL} {u : mz_S} {x : Int32} {index : Nat} {Ts : List Cond} {own host : String} (hx : p.tables.exec = Jvm.exec) (hb : c.code = cc) (hts : ∀ w ∈ Ts, w.before args s = true) (hin : ∀ w ∈ wsX20, w ∈ Ts) (hown : s.vm.findClass own = some m.cls) (hL : qL_ok L) (hK : qK D L s) (hG : qG D L u H) (hS : va_S (qA L) H0 H locs) (hi : 0 < 1) (hlink : (Cond.fieldLinkNest own index (TX2 1).1 (TX2 1).2.1 (TX2 1).2.2.1 host).before args s = true) (hdg : decode cc pc = .ok (.putfield index, 3)) (kk : ∀ (H1 : Heap) (locs1 : List Loc), qG D L (mz_u u 9 0 1 x) H1 → va_S (qA L) H0 H1 locs1 → W p l e R s m args below meth c H1 locs1 cells slots Q (F0 m (pc + 3) ls rest)) : W p l e R s m args below meth c H locs cells slots Q (F0 m pc ls (.int x :: .ref (L.1 9 0) :: rest)) := by
  refine mz_putN (ci := 2) (C := RX2) (T := TX2) (N := 2) (fs := qf9 L u 0) hx hb hts hin tyX2 tyX2_ok nmX2 hown hK.1 (hG 9 0 hi) rfl 1 (by decide) hlink rfl (ty := .int) (by decide +kernel) rfl rfl (Nat.le_of_ble_eq_true rfl) hdg (fun H1 j he z oq => kk H1 _ ?_ (hS.put z oq (mz_A.in (k := 9) hi)))
  exact hG.set hL.2 (k := 9) hi (by rw [qe_9_1]; exact he) oq (fun k' i' h => qE_same (fun f => mz_uo h f))
theorem qz_10 {L : qL} {u : mz_S} (hx : p.tables.exec = Jvm.exec) (hb : c.code = cc) (hK : qK D L s) (hG : qG D L u H) (hi : 0 < 1) (hdg : decode cc pc = .ok (.arraylength, 1)) (kk : W p l e R s m args below meth c H locs cells slots Q (F0 m (pc + 1) ls (.int (nI (ql_S L)) :: rest))) : W p l e R s m args below meth c H locs cells slots Q (F0 m pc ls (.ref (L.1 10 0) :: rest)) :=
  va_alen hx hb hK.1 (hG.one (k := 10) (i := 0) hi) 0 3 rfl rfl rfl hdg kk
theorem qa_10 {L : qL} {u : mz_S} {x : Int32} (hx : p.tables.exec = Jvm.exec) (hb : c.code = cc) (hK : qK D L s) (hG : qG D L u H) (hi : 0 < 1) (hin : vp_in x (ql_S L)) (hdg : decode cc pc = .ok (.aaload, 1)) (kk : W p l e R s m args below meth c H locs cells slots Q (F0 m (pc + 1) ls (.ref (L.1 11 x.toNatClampNeg) :: rest))) : W p l e R s m args below meth c H locs cells slots Q (F0 m pc ls (.int x :: .ref (L.1 10 0) :: rest)) :=
  va_aldq (C := "QuorumLog$Message") hx hb hK.1 (hG.one (k := 10) (i := 0) hi) 0 3 rfl rfl hin hdg kk
theorem qrecv_11 {L : qL} {u : mz_S} {i : Nat} (hK : qK D L s) (hG : qG D L u H) (hi : i < ql_S L + 2) : ∃ cell : Cell, H[L.1 11 i]? = some cell ∧ cell.vm.isStatics = false ∧ s.vm.findClass RX1 = some cell.cls := va_recv (q0 := 0) (ci := 1) (q := (RX1, TX1, 12)) hK.1 (hG.one (k := 11) (i := i) hi) rfl rfl
theorem qg_11 {L : qL} {u : mz_S} {i : Nat} {f index : Nat} {v : Value} {Ts : List Cond} {own : String} (hx : p.tables.exec = Jvm.exec) (hb : c.code = cc) (hts : ∀ w ∈ Ts, w.before args s = true) (hin : ∀ w ∈ wsX10, w ∈ Ts) (hown : s.vm.findClass own = some m.cls) (hK : qK D L s) (hG : qG D L u H) (hi : i < ql_S L + 2) (hlink : (Cond.fieldLink own index (TX1 f).1 (TX1 f).2.1 (TX1 f).2.2.1).before args s = true) (hf : f < 12) (hv : (qf11 u 11 i)[f]? = some v) (hdg : decode cc pc = .ok (.getfield index, 3)) (kk : W p l e R s m args below meth c H locs cells slots Q (F0 m (pc + 3) ls (v :: rest))) : W p l e R s m args below meth c H locs cells slots Q (F0 m pc ls (.ref (L.1 11 i) :: rest)) :=
  va_get (ci := 1) (C := RX1) (T := TX1) (N := 12) hx hb hts hin hown hK.1 (hG.one (k := 11) (i := i) hi) 0 rfl rfl f hf hlink (fun _ h => h) hv hdg kk
theorem qgN_11 {L : qL} {u : mz_S} {i : Nat} {f index : Nat} {v : Value} {Ts : List Cond} {own host : String} (hx : p.tables.exec = Jvm.exec) (hb : c.code = cc) (hts : ∀ w ∈ Ts, w.before args s = true) (hin : ∀ w ∈ wsX10, w ∈ Ts) (hown : s.vm.findClass own = some m.cls) (hK : qK D L s) (hG : qG D L u H) (hi : i < ql_S L + 2) (hlink : (Cond.fieldLinkNest own index (TX1 f).1 (TX1 f).2.1 (TX1 f).2.2.1 host).before args s = true) (hf : f < 12) (hv : (qf11 u 11 i)[f]? = some v) (hdg : decode cc pc = .ok (.getfield index, 3)) (kk : W p l e R s m args below meth c H locs cells slots Q (F0 m (pc + 3) ls (v :: rest))) : W p l e R s m args below meth c H locs cells slots Q (F0 m pc ls (.ref (L.1 11 i) :: rest)) :=
  va_getN (ci := 1) (C := RX1) (T := TX1) (N := 12) hx hb hts hin hown hK.1 (hG.one (k := 11) (i := i) hi) 0 rfl rfl f hf hlink (fun _ h => h) hv hdg kk
theorem qe_11_0 {L : qL} {u : mz_S} {i : Nat} {x : Int32} : qE L (mz_u u 11 i 0 x) 11 i = .inr (1, (qf11 u 11 i).set 0 (.int x)) := by
  simp [qE, qf11, mz_u]
theorem qp_11_0 {L : qL} {u : mz_S} {i : Nat} {x : Int32} {index : Nat} {Ts : List Cond} {own : String} (hx : p.tables.exec = Jvm.exec) (hb : c.code = cc) (hts : ∀ w ∈ Ts, w.before args s = true) (hin : ∀ w ∈ wsX10, w ∈ Ts) (hown : s.vm.findClass own = some m.cls) (hL : qL_ok L) (hK : qK D L s) (hG : qG D L u H) (hS : va_S (qA L) H0 H locs) (hi : i < ql_S L + 2) (hlink : (Cond.fieldLink own index (TX1 0).1 (TX1 0).2.1 (TX1 0).2.2.1).before args s = true) (hdg : decode cc pc = .ok (.putfield index, 3)) (kk : ∀ (H1 : Heap) (locs1 : List Loc), qG D L (mz_u u 11 i 0 x) H1 → va_S (qA L) H0 H1 locs1 → W p l e R s m args below meth c H1 locs1 cells slots Q (F0 m (pc + 3) ls rest)) : W p l e R s m args below meth c H locs cells slots Q (F0 m pc ls (.int x :: .ref (L.1 11 i) :: rest)) := by
  refine mz_put (ci := 1) (C := RX1) (T := TX1) (N := 12) (fs := qf11 u 11 i) hx hb hts hin tyX1 tyX1_ok nmX1 hown hK.1 (hG 11 i hi) rfl 0 (by decide) hlink rfl (ty := .int) (by decide +kernel) rfl rfl (Nat.le_of_ble_eq_true rfl) hdg (fun H1 j he z oq => kk H1 _ ?_ (hS.put z oq (mz_A.in (k := 11) hi)))
  exact hG.set hL.2 (k := 11) hi (by rw [qe_11_0]; exact he) oq (fun k' i' h => qE_same (fun f => mz_uo h f))
theorem qpN_11_0 {L : qL} {u : mz_S} {i : Nat} {x : Int32} {index : Nat} {Ts : List Cond} {own host : String} (hx : p.tables.exec = Jvm.exec) (hb : c.code = cc) (hts : ∀ w ∈ Ts, w.before args s = true) (hin : ∀ w ∈ wsX10, w ∈ Ts) (hown : s.vm.findClass own = some m.cls) (hL : qL_ok L) (hK : qK D L s) (hG : qG D L u H) (hS : va_S (qA L) H0 H locs) (hi : i < ql_S L + 2) (hlink : (Cond.fieldLinkNest own index (TX1 0).1 (TX1 0).2.1 (TX1 0).2.2.1 host).before args s = true) (hdg : decode cc pc = .ok (.putfield index, 3)) (kk : ∀ (H1 : Heap) (locs1 : List Loc), qG D L (mz_u u 11 i 0 x) H1 → va_S (qA L) H0 H1 locs1 → W p l e R s m args below meth c H1 locs1 cells slots Q (F0 m (pc + 3) ls rest)) : W p l e R s m args below meth c H locs cells slots Q (F0 m pc ls (.int x :: .ref (L.1 11 i) :: rest)) := by
  refine mz_putN (ci := 1) (C := RX1) (T := TX1) (N := 12) (fs := qf11 u 11 i) hx hb hts hin tyX1 tyX1_ok nmX1 hown hK.1 (hG 11 i hi) rfl 0 (by decide) hlink rfl (ty := .int) (by decide +kernel) rfl rfl (Nat.le_of_ble_eq_true rfl) hdg (fun H1 j he z oq => kk H1 _ ?_ (hS.put z oq (mz_A.in (k := 11) hi)))
  exact hG.set hL.2 (k := 11) hi (by rw [qe_11_0]; exact he) oq (fun k' i' h => qE_same (fun f => mz_uo h f))
theorem qe_11_1 {L : qL} {u : mz_S} {i : Nat} {x : Int32} : qE L (mz_u u 11 i 1 x) 11 i = .inr (1, (qf11 u 11 i).set 1 (.int x)) := by
  simp [qE, qf11, mz_u]
theorem qp_11_1 {L : qL} {u : mz_S} {i : Nat} {x : Int32} {index : Nat} {Ts : List Cond} {own : String} (hx : p.tables.exec = Jvm.exec) (hb : c.code = cc) (hts : ∀ w ∈ Ts, w.before args s = true) (hin : ∀ w ∈ wsX10, w ∈ Ts) (hown : s.vm.findClass own = some m.cls) (hL : qL_ok L) (hK : qK D L s) (hG : qG D L u H) (hS : va_S (qA L) H0 H locs) (hi : i < ql_S L + 2) (hlink : (Cond.fieldLink own index (TX1 1).1 (TX1 1).2.1 (TX1 1).2.2.1).before args s = true) (hdg : decode cc pc = .ok (.putfield index, 3)) (kk : ∀ (H1 : Heap) (locs1 : List Loc), qG D L (mz_u u 11 i 1 x) H1 → va_S (qA L) H0 H1 locs1 → W p l e R s m args below meth c H1 locs1 cells slots Q (F0 m (pc + 3) ls rest)) : W p l e R s m args below meth c H locs cells slots Q (F0 m pc ls (.int x :: .ref (L.1 11 i) :: rest)) := by
  refine mz_put (ci := 1) (C := RX1) (T := TX1) (N := 12) (fs := qf11 u 11 i) hx hb hts hin tyX1 tyX1_ok nmX1 hown hK.1 (hG 11 i hi) rfl 1 (by decide) hlink rfl (ty := .int) (by decide +kernel) rfl rfl (Nat.le_of_ble_eq_true rfl) hdg (fun H1 j he z oq => kk H1 _ ?_ (hS.put z oq (mz_A.in (k := 11) hi)))
  exact hG.set hL.2 (k := 11) hi (by rw [qe_11_1]; exact he) oq (fun k' i' h => qE_same (fun f => mz_uo h f))
theorem qpN_11_1 {L : qL} {u : mz_S} {i : Nat} {x : Int32} {index : Nat} {Ts : List Cond} {own host : String} (hx : p.tables.exec = Jvm.exec) (hb : c.code = cc) (hts : ∀ w ∈ Ts, w.before args s = true) (hin : ∀ w ∈ wsX10, w ∈ Ts) (hown : s.vm.findClass own = some m.cls) (hL : qL_ok L) (hK : qK D L s) (hG : qG D L u H) (hS : va_S (qA L) H0 H locs) (hi : i < ql_S L + 2) (hlink : (Cond.fieldLinkNest own index (TX1 1).1 (TX1 1).2.1 (TX1 1).2.2.1 host).before args s = true) (hdg : decode cc pc = .ok (.putfield index, 3)) (kk : ∀ (H1 : Heap) (locs1 : List Loc), qG D L (mz_u u 11 i 1 x) H1 → va_S (qA L) H0 H1 locs1 → W p l e R s m args below meth c H1 locs1 cells slots Q (F0 m (pc + 3) ls rest)) : W p l e R s m args below meth c H locs cells slots Q (F0 m pc ls (.int x :: .ref (L.1 11 i) :: rest)) := by
  refine mz_putN (ci := 1) (C := RX1) (T := TX1) (N := 12) (fs := qf11 u 11 i) hx hb hts hin tyX1 tyX1_ok nmX1 hown hK.1 (hG 11 i hi) rfl 1 (by decide) hlink rfl (ty := .int) (by decide +kernel) rfl rfl (Nat.le_of_ble_eq_true rfl) hdg (fun H1 j he z oq => kk H1 _ ?_ (hS.put z oq (mz_A.in (k := 11) hi)))
  exact hG.set hL.2 (k := 11) hi (by rw [qe_11_1]; exact he) oq (fun k' i' h => qE_same (fun f => mz_uo h f))
theorem qe_11_2 {L : qL} {u : mz_S} {i : Nat} {x : Int32} : qE L (mz_u u 11 i 2 x) 11 i = .inr (1, (qf11 u 11 i).set 2 (.int x)) := by
  simp [qE, qf11, mz_u]
theorem qp_11_2 {L : qL} {u : mz_S} {i : Nat} {x : Int32} {index : Nat} {Ts : List Cond} {own : String} (hx : p.tables.exec = Jvm.exec) (hb : c.code = cc) (hts : ∀ w ∈ Ts, w.before args s = true) (hin : ∀ w ∈ wsX10, w ∈ Ts) (hown : s.vm.findClass own = some m.cls) (hL : qL_ok L) (hK : qK D L s) (hG : qG D L u H) (hS : va_S (qA L) H0 H locs) (hi : i < ql_S L + 2) (hlink : (Cond.fieldLink own index (TX1 2).1 (TX1 2).2.1 (TX1 2).2.2.1).before args s = true) (hdg : decode cc pc = .ok (.putfield index, 3)) (kk : ∀ (H1 : Heap) (locs1 : List Loc), qG D L (mz_u u 11 i 2 x) H1 → va_S (qA L) H0 H1 locs1 → W p l e R s m args below meth c H1 locs1 cells slots Q (F0 m (pc + 3) ls rest)) : W p l e R s m args below meth c H locs cells slots Q (F0 m pc ls (.int x :: .ref (L.1 11 i) :: rest)) := by
  refine mz_put (ci := 1) (C := RX1) (T := TX1) (N := 12) (fs := qf11 u 11 i) hx hb hts hin tyX1 tyX1_ok nmX1 hown hK.1 (hG 11 i hi) rfl 2 (by decide) hlink rfl (ty := .int) (by decide +kernel) rfl rfl (Nat.le_of_ble_eq_true rfl) hdg (fun H1 j he z oq => kk H1 _ ?_ (hS.put z oq (mz_A.in (k := 11) hi)))
  exact hG.set hL.2 (k := 11) hi (by rw [qe_11_2]; exact he) oq (fun k' i' h => qE_same (fun f => mz_uo h f))
theorem qpN_11_2 {L : qL} {u : mz_S} {i : Nat} {x : Int32} {index : Nat} {Ts : List Cond} {own host : String} (hx : p.tables.exec = Jvm.exec) (hb : c.code = cc) (hts : ∀ w ∈ Ts, w.before args s = true) (hin : ∀ w ∈ wsX10, w ∈ Ts) (hown : s.vm.findClass own = some m.cls) (hL : qL_ok L) (hK : qK D L s) (hG : qG D L u H) (hS : va_S (qA L) H0 H locs) (hi : i < ql_S L + 2) (hlink : (Cond.fieldLinkNest own index (TX1 2).1 (TX1 2).2.1 (TX1 2).2.2.1 host).before args s = true) (hdg : decode cc pc = .ok (.putfield index, 3)) (kk : ∀ (H1 : Heap) (locs1 : List Loc), qG D L (mz_u u 11 i 2 x) H1 → va_S (qA L) H0 H1 locs1 → W p l e R s m args below meth c H1 locs1 cells slots Q (F0 m (pc + 3) ls rest)) : W p l e R s m args below meth c H locs cells slots Q (F0 m pc ls (.int x :: .ref (L.1 11 i) :: rest)) := by
  refine mz_putN (ci := 1) (C := RX1) (T := TX1) (N := 12) (fs := qf11 u 11 i) hx hb hts hin tyX1 tyX1_ok nmX1 hown hK.1 (hG 11 i hi) rfl 2 (by decide) hlink rfl (ty := .int) (by decide +kernel) rfl rfl (Nat.le_of_ble_eq_true rfl) hdg (fun H1 j he z oq => kk H1 _ ?_ (hS.put z oq (mz_A.in (k := 11) hi)))
  exact hG.set hL.2 (k := 11) hi (by rw [qe_11_2]; exact he) oq (fun k' i' h => qE_same (fun f => mz_uo h f))
theorem qe_11_3 {L : qL} {u : mz_S} {i : Nat} {x : Int32} : qE L (mz_u u 11 i 3 x) 11 i = .inr (1, (qf11 u 11 i).set 3 (.int x)) := by
  simp [qE, qf11, mz_u]
theorem qp_11_3 {L : qL} {u : mz_S} {i : Nat} {x : Int32} {index : Nat} {Ts : List Cond} {own : String} (hx : p.tables.exec = Jvm.exec) (hb : c.code = cc) (hts : ∀ w ∈ Ts, w.before args s = true) (hin : ∀ w ∈ wsX10, w ∈ Ts) (hown : s.vm.findClass own = some m.cls) (hL : qL_ok L) (hK : qK D L s) (hG : qG D L u H) (hS : va_S (qA L) H0 H locs) (hi : i < ql_S L + 2) (hlink : (Cond.fieldLink own index (TX1 3).1 (TX1 3).2.1 (TX1 3).2.2.1).before args s = true) (hdg : decode cc pc = .ok (.putfield index, 3)) (kk : ∀ (H1 : Heap) (locs1 : List Loc), qG D L (mz_u u 11 i 3 x) H1 → va_S (qA L) H0 H1 locs1 → W p l e R s m args below meth c H1 locs1 cells slots Q (F0 m (pc + 3) ls rest)) : W p l e R s m args below meth c H locs cells slots Q (F0 m pc ls (.int x :: .ref (L.1 11 i) :: rest)) := by
  refine mz_put (ci := 1) (C := RX1) (T := TX1) (N := 12) (fs := qf11 u 11 i) hx hb hts hin tyX1 tyX1_ok nmX1 hown hK.1 (hG 11 i hi) rfl 3 (by decide) hlink rfl (ty := .int) (by decide +kernel) rfl rfl (Nat.le_of_ble_eq_true rfl) hdg (fun H1 j he z oq => kk H1 _ ?_ (hS.put z oq (mz_A.in (k := 11) hi)))
  exact hG.set hL.2 (k := 11) hi (by rw [qe_11_3]; exact he) oq (fun k' i' h => qE_same (fun f => mz_uo h f))
theorem qpN_11_3 {L : qL} {u : mz_S} {i : Nat} {x : Int32} {index : Nat} {Ts : List Cond} {own host : String} (hx : p.tables.exec = Jvm.exec) (hb : c.code = cc) (hts : ∀ w ∈ Ts, w.before args s = true) (hin : ∀ w ∈ wsX10, w ∈ Ts) (hown : s.vm.findClass own = some m.cls) (hL : qL_ok L) (hK : qK D L s) (hG : qG D L u H) (hS : va_S (qA L) H0 H locs) (hi : i < ql_S L + 2) (hlink : (Cond.fieldLinkNest own index (TX1 3).1 (TX1 3).2.1 (TX1 3).2.2.1 host).before args s = true) (hdg : decode cc pc = .ok (.putfield index, 3)) (kk : ∀ (H1 : Heap) (locs1 : List Loc), qG D L (mz_u u 11 i 3 x) H1 → va_S (qA L) H0 H1 locs1 → W p l e R s m args below meth c H1 locs1 cells slots Q (F0 m (pc + 3) ls rest)) : W p l e R s m args below meth c H locs cells slots Q (F0 m pc ls (.int x :: .ref (L.1 11 i) :: rest)) := by
  refine mz_putN (ci := 1) (C := RX1) (T := TX1) (N := 12) (fs := qf11 u 11 i) hx hb hts hin tyX1 tyX1_ok nmX1 hown hK.1 (hG 11 i hi) rfl 3 (by decide) hlink rfl (ty := .int) (by decide +kernel) rfl rfl (Nat.le_of_ble_eq_true rfl) hdg (fun H1 j he z oq => kk H1 _ ?_ (hS.put z oq (mz_A.in (k := 11) hi)))
  exact hG.set hL.2 (k := 11) hi (by rw [qe_11_3]; exact he) oq (fun k' i' h => qE_same (fun f => mz_uo h f))
theorem qe_11_4 {L : qL} {u : mz_S} {i : Nat} {x : Int32} : qE L (mz_u u 11 i 4 x) 11 i = .inr (1, (qf11 u 11 i).set 4 (.int x)) := by
  simp [qE, qf11, mz_u]
theorem qp_11_4 {L : qL} {u : mz_S} {i : Nat} {x : Int32} {index : Nat} {Ts : List Cond} {own : String} (hx : p.tables.exec = Jvm.exec) (hb : c.code = cc) (hts : ∀ w ∈ Ts, w.before args s = true) (hin : ∀ w ∈ wsX10, w ∈ Ts) (hown : s.vm.findClass own = some m.cls) (hL : qL_ok L) (hK : qK D L s) (hG : qG D L u H) (hS : va_S (qA L) H0 H locs) (hi : i < ql_S L + 2) (hlink : (Cond.fieldLink own index (TX1 4).1 (TX1 4).2.1 (TX1 4).2.2.1).before args s = true) (hdg : decode cc pc = .ok (.putfield index, 3)) (kk : ∀ (H1 : Heap) (locs1 : List Loc), qG D L (mz_u u 11 i 4 x) H1 → va_S (qA L) H0 H1 locs1 → W p l e R s m args below meth c H1 locs1 cells slots Q (F0 m (pc + 3) ls rest)) : W p l e R s m args below meth c H locs cells slots Q (F0 m pc ls (.int x :: .ref (L.1 11 i) :: rest)) := by
  refine mz_put (ci := 1) (C := RX1) (T := TX1) (N := 12) (fs := qf11 u 11 i) hx hb hts hin tyX1 tyX1_ok nmX1 hown hK.1 (hG 11 i hi) rfl 4 (by decide) hlink rfl (ty := .int) (by decide +kernel) rfl rfl (Nat.le_of_ble_eq_true rfl) hdg (fun H1 j he z oq => kk H1 _ ?_ (hS.put z oq (mz_A.in (k := 11) hi)))
  exact hG.set hL.2 (k := 11) hi (by rw [qe_11_4]; exact he) oq (fun k' i' h => qE_same (fun f => mz_uo h f))
theorem qpN_11_4 {L : qL} {u : mz_S} {i : Nat} {x : Int32} {index : Nat} {Ts : List Cond} {own host : String} (hx : p.tables.exec = Jvm.exec) (hb : c.code = cc) (hts : ∀ w ∈ Ts, w.before args s = true) (hin : ∀ w ∈ wsX10, w ∈ Ts) (hown : s.vm.findClass own = some m.cls) (hL : qL_ok L) (hK : qK D L s) (hG : qG D L u H) (hS : va_S (qA L) H0 H locs) (hi : i < ql_S L + 2) (hlink : (Cond.fieldLinkNest own index (TX1 4).1 (TX1 4).2.1 (TX1 4).2.2.1 host).before args s = true) (hdg : decode cc pc = .ok (.putfield index, 3)) (kk : ∀ (H1 : Heap) (locs1 : List Loc), qG D L (mz_u u 11 i 4 x) H1 → va_S (qA L) H0 H1 locs1 → W p l e R s m args below meth c H1 locs1 cells slots Q (F0 m (pc + 3) ls rest)) : W p l e R s m args below meth c H locs cells slots Q (F0 m pc ls (.int x :: .ref (L.1 11 i) :: rest)) := by
  refine mz_putN (ci := 1) (C := RX1) (T := TX1) (N := 12) (fs := qf11 u 11 i) hx hb hts hin tyX1 tyX1_ok nmX1 hown hK.1 (hG 11 i hi) rfl 4 (by decide) hlink rfl (ty := .int) (by decide +kernel) rfl rfl (Nat.le_of_ble_eq_true rfl) hdg (fun H1 j he z oq => kk H1 _ ?_ (hS.put z oq (mz_A.in (k := 11) hi)))
  exact hG.set hL.2 (k := 11) hi (by rw [qe_11_4]; exact he) oq (fun k' i' h => qE_same (fun f => mz_uo h f))
theorem qe_11_5 {L : qL} {u : mz_S} {i : Nat} {x : Int32} : qE L (mz_u u 11 i 5 x) 11 i = .inr (1, (qf11 u 11 i).set 5 (.int x)) := by
  simp [qE, qf11, mz_u]
theorem qp_11_5 {L : qL} {u : mz_S} {i : Nat} {x : Int32} {index : Nat} {Ts : List Cond} {own : String} (hx : p.tables.exec = Jvm.exec) (hb : c.code = cc) (hts : ∀ w ∈ Ts, w.before args s = true) (hin : ∀ w ∈ wsX10, w ∈ Ts) (hown : s.vm.findClass own = some m.cls) (hL : qL_ok L) (hK : qK D L s) (hG : qG D L u H) (hS : va_S (qA L) H0 H locs) (hi : i < ql_S L + 2) (hlink : (Cond.fieldLink own index (TX1 5).1 (TX1 5).2.1 (TX1 5).2.2.1).before args s = true) (hdg : decode cc pc = .ok (.putfield index, 3)) (kk : ∀ (H1 : Heap) (locs1 : List Loc), qG D L (mz_u u 11 i 5 x) H1 → va_S (qA L) H0 H1 locs1 → W p l e R s m args below meth c H1 locs1 cells slots Q (F0 m (pc + 3) ls rest)) : W p l e R s m args below meth c H locs cells slots Q (F0 m pc ls (.int x :: .ref (L.1 11 i) :: rest)) := by
  refine mz_put (ci := 1) (C := RX1) (T := TX1) (N := 12) (fs := qf11 u 11 i) hx hb hts hin tyX1 tyX1_ok nmX1 hown hK.1 (hG 11 i hi) rfl 5 (by decide) hlink rfl (ty := .int) (by decide +kernel) rfl rfl (Nat.le_of_ble_eq_true rfl) hdg (fun H1 j he z oq => kk H1 _ ?_ (hS.put z oq (mz_A.in (k := 11) hi)))
  exact hG.set hL.2 (k := 11) hi (by rw [qe_11_5]; exact he) oq (fun k' i' h => qE_same (fun f => mz_uo h f))
theorem qpN_11_5 {L : qL} {u : mz_S} {i : Nat} {x : Int32} {index : Nat} {Ts : List Cond} {own host : String} (hx : p.tables.exec = Jvm.exec) (hb : c.code = cc) (hts : ∀ w ∈ Ts, w.before args s = true) (hin : ∀ w ∈ wsX10, w ∈ Ts) (hown : s.vm.findClass own = some m.cls) (hL : qL_ok L) (hK : qK D L s) (hG : qG D L u H) (hS : va_S (qA L) H0 H locs) (hi : i < ql_S L + 2) (hlink : (Cond.fieldLinkNest own index (TX1 5).1 (TX1 5).2.1 (TX1 5).2.2.1 host).before args s = true) (hdg : decode cc pc = .ok (.putfield index, 3)) (kk : ∀ (H1 : Heap) (locs1 : List Loc), qG D L (mz_u u 11 i 5 x) H1 → va_S (qA L) H0 H1 locs1 → W p l e R s m args below meth c H1 locs1 cells slots Q (F0 m (pc + 3) ls rest)) : W p l e R s m args below meth c H locs cells slots Q (F0 m pc ls (.int x :: .ref (L.1 11 i) :: rest)) := by
  refine mz_putN (ci := 1) (C := RX1) (T := TX1) (N := 12) (fs := qf11 u 11 i) hx hb hts hin tyX1 tyX1_ok nmX1 hown hK.1 (hG 11 i hi) rfl 5 (by decide) hlink rfl (ty := .int) (by decide +kernel) rfl rfl (Nat.le_of_ble_eq_true rfl) hdg (fun H1 j he z oq => kk H1 _ ?_ (hS.put z oq (mz_A.in (k := 11) hi)))
  exact hG.set hL.2 (k := 11) hi (by rw [qe_11_5]; exact he) oq (fun k' i' h => qE_same (fun f => mz_uo h f))
theorem qe_11_6 {L : qL} {u : mz_S} {i : Nat} {x : Int32} (hv : mz_b (x ≠ 0) = x) : qE L (mz_u u 11 i 6 x) 11 i = .inr (1, (qf11 u 11 i).set 6 (.int x)) := by
  simp [qE, qf11, mz_u, hv]
theorem qp_11_6 {L : qL} {u : mz_S} {i : Nat} {x : Int32} {index : Nat} {Ts : List Cond} {own : String} (hx : p.tables.exec = Jvm.exec) (hb : c.code = cc) (hts : ∀ w ∈ Ts, w.before args s = true) (hin : ∀ w ∈ wsX10, w ∈ Ts) (hown : s.vm.findClass own = some m.cls) (hL : qL_ok L) (hK : qK D L s) (hG : qG D L u H) (hS : va_S (qA L) H0 H locs) (hi : i < ql_S L + 2) (hlink : (Cond.fieldLink own index (TX1 6).1 (TX1 6).2.1 (TX1 6).2.2.1).before args s = true) (hv : mz_b (x ≠ 0) = x) (hdg : decode cc pc = .ok (.putfield index, 3)) (kk : ∀ (H1 : Heap) (locs1 : List Loc), qG D L (mz_u u 11 i 6 x) H1 → va_S (qA L) H0 H1 locs1 → W p l e R s m args below meth c H1 locs1 cells slots Q (F0 m (pc + 3) ls rest)) : W p l e R s m args below meth c H locs cells slots Q (F0 m pc ls (.int x :: .ref (L.1 11 i) :: rest)) := by
  refine mz_put (ci := 1) (C := RX1) (T := TX1) (N := 12) (fs := qf11 u 11 i) hx hb hts hin tyX1 tyX1_ok nmX1 hown hK.1 (hG 11 i hi) rfl 6 (by decide) hlink rfl (ty := .boolean) (by decide +kernel) (by rw [← hv]; exact mz_b_nar) (by rw [← hv]; exact mz_b_fit) (Nat.le_of_ble_eq_true rfl) hdg (fun H1 j he z oq => kk H1 _ ?_ (hS.put z oq (mz_A.in (k := 11) hi)))
  exact hG.set hL.2 (k := 11) hi (by rw [qe_11_6 hv]; exact he) oq (fun k' i' h => qE_same (fun f => mz_uo h f))
theorem qpN_11_6 {L : qL} {u : mz_S} {i : Nat} {x : Int32} {index : Nat} {Ts : List Cond} {own host : String} (hx : p.tables.exec = Jvm.exec) (hb : c.code = cc) (hts : ∀ w ∈ Ts, w.before args s = true) (hin : ∀ w ∈ wsX10, w ∈ Ts) (hown : s.vm.findClass own = some m.cls) (hL : qL_ok L) (hK : qK D L s) (hG : qG D L u H) (hS : va_S (qA L) H0 H locs) (hi : i < ql_S L + 2) (hlink : (Cond.fieldLinkNest own index (TX1 6).1 (TX1 6).2.1 (TX1 6).2.2.1 host).before args s = true) (hv : mz_b (x ≠ 0) = x) (hdg : decode cc pc = .ok (.putfield index, 3)) (kk : ∀ (H1 : Heap) (locs1 : List Loc), qG D L (mz_u u 11 i 6 x) H1 → va_S (qA L) H0 H1 locs1 → W p l e R s m args below meth c H1 locs1 cells slots Q (F0 m (pc + 3) ls rest)) : W p l e R s m args below meth c H locs cells slots Q (F0 m pc ls (.int x :: .ref (L.1 11 i) :: rest)) := by
  refine mz_putN (ci := 1) (C := RX1) (T := TX1) (N := 12) (fs := qf11 u 11 i) hx hb hts hin tyX1 tyX1_ok nmX1 hown hK.1 (hG 11 i hi) rfl 6 (by decide) hlink rfl (ty := .boolean) (by decide +kernel) (by rw [← hv]; exact mz_b_nar) (by rw [← hv]; exact mz_b_fit) (Nat.le_of_ble_eq_true rfl) hdg (fun H1 j he z oq => kk H1 _ ?_ (hS.put z oq (mz_A.in (k := 11) hi)))
  exact hG.set hL.2 (k := 11) hi (by rw [qe_11_6 hv]; exact he) oq (fun k' i' h => qE_same (fun f => mz_uo h f))
theorem qe_11_7 {L : qL} {u : mz_S} {i : Nat} {x : Int32} (hv : mz_b (x ≠ 0) = x) : qE L (mz_u u 11 i 7 x) 11 i = .inr (1, (qf11 u 11 i).set 7 (.int x)) := by
  simp [qE, qf11, mz_u, hv]
theorem qp_11_7 {L : qL} {u : mz_S} {i : Nat} {x : Int32} {index : Nat} {Ts : List Cond} {own : String} (hx : p.tables.exec = Jvm.exec) (hb : c.code = cc) (hts : ∀ w ∈ Ts, w.before args s = true) (hin : ∀ w ∈ wsX10, w ∈ Ts) (hown : s.vm.findClass own = some m.cls) (hL : qL_ok L) (hK : qK D L s) (hG : qG D L u H) (hS : va_S (qA L) H0 H locs) (hi : i < ql_S L + 2) (hlink : (Cond.fieldLink own index (TX1 7).1 (TX1 7).2.1 (TX1 7).2.2.1).before args s = true) (hv : mz_b (x ≠ 0) = x) (hdg : decode cc pc = .ok (.putfield index, 3)) (kk : ∀ (H1 : Heap) (locs1 : List Loc), qG D L (mz_u u 11 i 7 x) H1 → va_S (qA L) H0 H1 locs1 → W p l e R s m args below meth c H1 locs1 cells slots Q (F0 m (pc + 3) ls rest)) : W p l e R s m args below meth c H locs cells slots Q (F0 m pc ls (.int x :: .ref (L.1 11 i) :: rest)) := by
  refine mz_put (ci := 1) (C := RX1) (T := TX1) (N := 12) (fs := qf11 u 11 i) hx hb hts hin tyX1 tyX1_ok nmX1 hown hK.1 (hG 11 i hi) rfl 7 (by decide) hlink rfl (ty := .boolean) (by decide +kernel) (by rw [← hv]; exact mz_b_nar) (by rw [← hv]; exact mz_b_fit) (Nat.le_of_ble_eq_true rfl) hdg (fun H1 j he z oq => kk H1 _ ?_ (hS.put z oq (mz_A.in (k := 11) hi)))
  exact hG.set hL.2 (k := 11) hi (by rw [qe_11_7 hv]; exact he) oq (fun k' i' h => qE_same (fun f => mz_uo h f))
theorem qpN_11_7 {L : qL} {u : mz_S} {i : Nat} {x : Int32} {index : Nat} {Ts : List Cond} {own host : String} (hx : p.tables.exec = Jvm.exec) (hb : c.code = cc) (hts : ∀ w ∈ Ts, w.before args s = true) (hin : ∀ w ∈ wsX10, w ∈ Ts) (hown : s.vm.findClass own = some m.cls) (hL : qL_ok L) (hK : qK D L s) (hG : qG D L u H) (hS : va_S (qA L) H0 H locs) (hi : i < ql_S L + 2) (hlink : (Cond.fieldLinkNest own index (TX1 7).1 (TX1 7).2.1 (TX1 7).2.2.1 host).before args s = true) (hv : mz_b (x ≠ 0) = x) (hdg : decode cc pc = .ok (.putfield index, 3)) (kk : ∀ (H1 : Heap) (locs1 : List Loc), qG D L (mz_u u 11 i 7 x) H1 → va_S (qA L) H0 H1 locs1 → W p l e R s m args below meth c H1 locs1 cells slots Q (F0 m (pc + 3) ls rest)) : W p l e R s m args below meth c H locs cells slots Q (F0 m pc ls (.int x :: .ref (L.1 11 i) :: rest)) := by
  refine mz_putN (ci := 1) (C := RX1) (T := TX1) (N := 12) (fs := qf11 u 11 i) hx hb hts hin tyX1 tyX1_ok nmX1 hown hK.1 (hG 11 i hi) rfl 7 (by decide) hlink rfl (ty := .boolean) (by decide +kernel) (by rw [← hv]; exact mz_b_nar) (by rw [← hv]; exact mz_b_fit) (Nat.le_of_ble_eq_true rfl) hdg (fun H1 j he z oq => kk H1 _ ?_ (hS.put z oq (mz_A.in (k := 11) hi)))
  exact hG.set hL.2 (k := 11) hi (by rw [qe_11_7 hv]; exact he) oq (fun k' i' h => qE_same (fun f => mz_uo h f))
theorem qe_11_8 {L : qL} {u : mz_S} {i : Nat} {x : Int32} : qE L (mz_u u 11 i 8 x) 11 i = .inr (1, (qf11 u 11 i).set 8 (.int x)) := by
  simp [qE, qf11, mz_u]
theorem qp_11_8 {L : qL} {u : mz_S} {i : Nat} {x : Int32} {index : Nat} {Ts : List Cond} {own : String} (hx : p.tables.exec = Jvm.exec) (hb : c.code = cc) (hts : ∀ w ∈ Ts, w.before args s = true) (hin : ∀ w ∈ wsX10, w ∈ Ts) (hown : s.vm.findClass own = some m.cls) (hL : qL_ok L) (hK : qK D L s) (hG : qG D L u H) (hS : va_S (qA L) H0 H locs) (hi : i < ql_S L + 2) (hlink : (Cond.fieldLink own index (TX1 8).1 (TX1 8).2.1 (TX1 8).2.2.1).before args s = true) (hdg : decode cc pc = .ok (.putfield index, 3)) (kk : ∀ (H1 : Heap) (locs1 : List Loc), qG D L (mz_u u 11 i 8 x) H1 → va_S (qA L) H0 H1 locs1 → W p l e R s m args below meth c H1 locs1 cells slots Q (F0 m (pc + 3) ls rest)) : W p l e R s m args below meth c H locs cells slots Q (F0 m pc ls (.int x :: .ref (L.1 11 i) :: rest)) := by
  refine mz_put (ci := 1) (C := RX1) (T := TX1) (N := 12) (fs := qf11 u 11 i) hx hb hts hin tyX1 tyX1_ok nmX1 hown hK.1 (hG 11 i hi) rfl 8 (by decide) hlink rfl (ty := .int) (by decide +kernel) rfl rfl (Nat.le_of_ble_eq_true rfl) hdg (fun H1 j he z oq => kk H1 _ ?_ (hS.put z oq (mz_A.in (k := 11) hi)))
  exact hG.set hL.2 (k := 11) hi (by rw [qe_11_8]; exact he) oq (fun k' i' h => qE_same (fun f => mz_uo h f))
theorem qpN_11_8 {L : qL} {u : mz_S} {i : Nat} {x : Int32} {index : Nat} {Ts : List Cond} {own host : String} (hx : p.tables.exec = Jvm.exec) (hb : c.code = cc) (hts : ∀ w ∈ Ts, w.before args s = true) (hin : ∀ w ∈ wsX10, w ∈ Ts) (hown : s.vm.findClass own = some m.cls) (hL : qL_ok L) (hK : qK D L s) (hG : qG D L u H) (hS : va_S (qA L) H0 H locs) (hi : i < ql_S L + 2) (hlink : (Cond.fieldLinkNest own index (TX1 8).1 (TX1 8).2.1 (TX1 8).2.2.1 host).before args s = true) (hdg : decode cc pc = .ok (.putfield index, 3)) (kk : ∀ (H1 : Heap) (locs1 : List Loc), qG D L (mz_u u 11 i 8 x) H1 → va_S (qA L) H0 H1 locs1 → W p l e R s m args below meth c H1 locs1 cells slots Q (F0 m (pc + 3) ls rest)) : W p l e R s m args below meth c H locs cells slots Q (F0 m pc ls (.int x :: .ref (L.1 11 i) :: rest)) := by
  refine mz_putN (ci := 1) (C := RX1) (T := TX1) (N := 12) (fs := qf11 u 11 i) hx hb hts hin tyX1 tyX1_ok nmX1 hown hK.1 (hG 11 i hi) rfl 8 (by decide) hlink rfl (ty := .int) (by decide +kernel) rfl rfl (Nat.le_of_ble_eq_true rfl) hdg (fun H1 j he z oq => kk H1 _ ?_ (hS.put z oq (mz_A.in (k := 11) hi)))
  exact hG.set hL.2 (k := 11) hi (by rw [qe_11_8]; exact he) oq (fun k' i' h => qE_same (fun f => mz_uo h f))
theorem qe_11_9 {L : qL} {u : mz_S} {i : Nat} {x : Int32} : qE L (mz_u u 11 i 9 x) 11 i = .inr (1, (qf11 u 11 i).set 9 (.int x)) := by
  simp [qE, qf11, mz_u]
theorem qp_11_9 {L : qL} {u : mz_S} {i : Nat} {x : Int32} {index : Nat} {Ts : List Cond} {own : String} (hx : p.tables.exec = Jvm.exec) (hb : c.code = cc) (hts : ∀ w ∈ Ts, w.before args s = true) (hin : ∀ w ∈ wsX10, w ∈ Ts) (hown : s.vm.findClass own = some m.cls) (hL : qL_ok L) (hK : qK D L s) (hG : qG D L u H) (hS : va_S (qA L) H0 H locs) (hi : i < ql_S L + 2) (hlink : (Cond.fieldLink own index (TX1 9).1 (TX1 9).2.1 (TX1 9).2.2.1).before args s = true) (hdg : decode cc pc = .ok (.putfield index, 3)) (kk : ∀ (H1 : Heap) (locs1 : List Loc), qG D L (mz_u u 11 i 9 x) H1 → va_S (qA L) H0 H1 locs1 → W p l e R s m args below meth c H1 locs1 cells slots Q (F0 m (pc + 3) ls rest)) : W p l e R s m args below meth c H locs cells slots Q (F0 m pc ls (.int x :: .ref (L.1 11 i) :: rest)) := by
  refine mz_put (ci := 1) (C := RX1) (T := TX1) (N := 12) (fs := qf11 u 11 i) hx hb hts hin tyX1 tyX1_ok nmX1 hown hK.1 (hG 11 i hi) rfl 9 (by decide) hlink rfl (ty := .int) (by decide +kernel) rfl rfl (Nat.le_of_ble_eq_true rfl) hdg (fun H1 j he z oq => kk H1 _ ?_ (hS.put z oq (mz_A.in (k := 11) hi)))
  exact hG.set hL.2 (k := 11) hi (by rw [qe_11_9]; exact he) oq (fun k' i' h => qE_same (fun f => mz_uo h f))
theorem qpN_11_9 {L : qL} {u : mz_S} {i : Nat} {x : Int32} {index : Nat} {Ts : List Cond} {own host : String} (hx : p.tables.exec = Jvm.exec) (hb : c.code = cc) (hts : ∀ w ∈ Ts, w.before args s = true) (hin : ∀ w ∈ wsX10, w ∈ Ts) (hown : s.vm.findClass own = some m.cls) (hL : qL_ok L) (hK : qK D L s) (hG : qG D L u H) (hS : va_S (qA L) H0 H locs) (hi : i < ql_S L + 2) (hlink : (Cond.fieldLinkNest own index (TX1 9).1 (TX1 9).2.1 (TX1 9).2.2.1 host).before args s = true) (hdg : decode cc pc = .ok (.putfield index, 3)) (kk : ∀ (H1 : Heap) (locs1 : List Loc), qG D L (mz_u u 11 i 9 x) H1 → va_S (qA L) H0 H1 locs1 → W p l e R s m args below meth c H1 locs1 cells slots Q (F0 m (pc + 3) ls rest)) : W p l e R s m args below meth c H locs cells slots Q (F0 m pc ls (.int x :: .ref (L.1 11 i) :: rest)) := by
  refine mz_putN (ci := 1) (C := RX1) (T := TX1) (N := 12) (fs := qf11 u 11 i) hx hb hts hin tyX1 tyX1_ok nmX1 hown hK.1 (hG 11 i hi) rfl 9 (by decide) hlink rfl (ty := .int) (by decide +kernel) rfl rfl (Nat.le_of_ble_eq_true rfl) hdg (fun H1 j he z oq => kk H1 _ ?_ (hS.put z oq (mz_A.in (k := 11) hi)))
  exact hG.set hL.2 (k := 11) hi (by rw [qe_11_9]; exact he) oq (fun k' i' h => qE_same (fun f => mz_uo h f))
theorem qe_11_10 {L : qL} {u : mz_S} {i : Nat} {x : Int32} : qE L (mz_u u 11 i 10 x) 11 i = .inr (1, (qf11 u 11 i).set 10 (.int x)) := by
  simp [qE, qf11, mz_u]
theorem qp_11_10 {L : qL} {u : mz_S} {i : Nat} {x : Int32} {index : Nat} {Ts : List Cond} {own : String} (hx : p.tables.exec = Jvm.exec) (hb : c.code = cc) (hts : ∀ w ∈ Ts, w.before args s = true) (hin : ∀ w ∈ wsX10, w ∈ Ts) (hown : s.vm.findClass own = some m.cls) (hL : qL_ok L) (hK : qK D L s) (hG : qG D L u H) (hS : va_S (qA L) H0 H locs) (hi : i < ql_S L + 2) (hlink : (Cond.fieldLink own index (TX1 10).1 (TX1 10).2.1 (TX1 10).2.2.1).before args s = true) (hdg : decode cc pc = .ok (.putfield index, 3)) (kk : ∀ (H1 : Heap) (locs1 : List Loc), qG D L (mz_u u 11 i 10 x) H1 → va_S (qA L) H0 H1 locs1 → W p l e R s m args below meth c H1 locs1 cells slots Q (F0 m (pc + 3) ls rest)) : W p l e R s m args below meth c H locs cells slots Q (F0 m pc ls (.int x :: .ref (L.1 11 i) :: rest)) := by
  refine mz_put (ci := 1) (C := RX1) (T := TX1) (N := 12) (fs := qf11 u 11 i) hx hb hts hin tyX1 tyX1_ok nmX1 hown hK.1 (hG 11 i hi) rfl 10 (by decide) hlink rfl (ty := .int) (by decide +kernel) rfl rfl (Nat.le_of_ble_eq_true rfl) hdg (fun H1 j he z oq => kk H1 _ ?_ (hS.put z oq (mz_A.in (k := 11) hi)))
  exact hG.set hL.2 (k := 11) hi (by rw [qe_11_10]; exact he) oq (fun k' i' h => qE_same (fun f => mz_uo h f))
theorem qpN_11_10 {L : qL} {u : mz_S} {i : Nat} {x : Int32} {index : Nat} {Ts : List Cond} {own host : String} (hx : p.tables.exec = Jvm.exec) (hb : c.code = cc) (hts : ∀ w ∈ Ts, w.before args s = true) (hin : ∀ w ∈ wsX10, w ∈ Ts) (hown : s.vm.findClass own = some m.cls) (hL : qL_ok L) (hK : qK D L s) (hG : qG D L u H) (hS : va_S (qA L) H0 H locs) (hi : i < ql_S L + 2) (hlink : (Cond.fieldLinkNest own index (TX1 10).1 (TX1 10).2.1 (TX1 10).2.2.1 host).before args s = true) (hdg : decode cc pc = .ok (.putfield index, 3)) (kk : ∀ (H1 : Heap) (locs1 : List Loc), qG D L (mz_u u 11 i 10 x) H1 → va_S (qA L) H0 H1 locs1 → W p l e R s m args below meth c H1 locs1 cells slots Q (F0 m (pc + 3) ls rest)) : W p l e R s m args below meth c H locs cells slots Q (F0 m pc ls (.int x :: .ref (L.1 11 i) :: rest)) := by
  refine mz_putN (ci := 1) (C := RX1) (T := TX1) (N := 12) (fs := qf11 u 11 i) hx hb hts hin tyX1 tyX1_ok nmX1 hown hK.1 (hG 11 i hi) rfl 10 (by decide) hlink rfl (ty := .int) (by decide +kernel) rfl rfl (Nat.le_of_ble_eq_true rfl) hdg (fun H1 j he z oq => kk H1 _ ?_ (hS.put z oq (mz_A.in (k := 11) hi)))
  exact hG.set hL.2 (k := 11) hi (by rw [qe_11_10]; exact he) oq (fun k' i' h => qE_same (fun f => mz_uo h f))
theorem qe_11_11 {L : qL} {u : mz_S} {i : Nat} {x : Int32} : qE L (mz_u u 11 i 11 x) 11 i = .inr (1, (qf11 u 11 i).set 11 (.int x)) := by
  simp [qE, qf11, mz_u]
theorem qp_11_11 {L : qL} {u : mz_S} {i : Nat} {x : Int32} {index : Nat} {Ts : List Cond} {own : String} (hx : p.tables.exec = Jvm.exec) (hb : c.code = cc) (hts : ∀ w ∈ Ts, w.before args s = true) (hin : ∀ w ∈ wsX10, w ∈ Ts) (hown : s.vm.findClass own = some m.cls) (hL : qL_ok L) (hK : qK D L s) (hG : qG D L u H) (hS : va_S (qA L) H0 H locs) (hi : i < ql_S L + 2) (hlink : (Cond.fieldLink own index (TX1 11).1 (TX1 11).2.1 (TX1 11).2.2.1).before args s = true) (hdg : decode cc pc = .ok (.putfield index, 3)) (kk : ∀ (H1 : Heap) (locs1 : List Loc), qG D L (mz_u u 11 i 11 x) H1 → va_S (qA L) H0 H1 locs1 → W p l e R s m args below meth c H1 locs1 cells slots Q (F0 m (pc + 3) ls rest)) : W p l e R s m args below meth c H locs cells slots Q (F0 m pc ls (.int x :: .ref (L.1 11 i) :: rest)) := by
  refine mz_put (ci := 1) (C := RX1) (T := TX1) (N := 12) (fs := qf11 u 11 i) hx hb hts hin tyX1 tyX1_ok nmX1 hown hK.1 (hG 11 i hi) rfl 11 (by decide) hlink rfl (ty := .int) (by decide +kernel) rfl rfl (Nat.le_of_ble_eq_true rfl) hdg (fun H1 j he z oq => kk H1 _ ?_ (hS.put z oq (mz_A.in (k := 11) hi)))
  exact hG.set hL.2 (k := 11) hi (by rw [qe_11_11]; exact he) oq (fun k' i' h => qE_same (fun f => mz_uo h f))
theorem qpN_11_11 {L : qL} {u : mz_S} {i : Nat} {x : Int32} {index : Nat} {Ts : List Cond} {own host : String} (hx : p.tables.exec = Jvm.exec) (hb : c.code = cc) (hts : ∀ w ∈ Ts, w.before args s = true) (hin : ∀ w ∈ wsX10, w ∈ Ts) (hown : s.vm.findClass own = some m.cls) (hL : qL_ok L) (hK : qK D L s) (hG : qG D L u H) (hS : va_S (qA L) H0 H locs) (hi : i < ql_S L + 2) (hlink : (Cond.fieldLinkNest own index (TX1 11).1 (TX1 11).2.1 (TX1 11).2.2.1 host).before args s = true) (hdg : decode cc pc = .ok (.putfield index, 3)) (kk : ∀ (H1 : Heap) (locs1 : List Loc), qG D L (mz_u u 11 i 11 x) H1 → va_S (qA L) H0 H1 locs1 → W p l e R s m args below meth c H1 locs1 cells slots Q (F0 m (pc + 3) ls rest)) : W p l e R s m args below meth c H locs cells slots Q (F0 m pc ls (.int x :: .ref (L.1 11 i) :: rest)) := by
  refine mz_putN (ci := 1) (C := RX1) (T := TX1) (N := 12) (fs := qf11 u 11 i) hx hb hts hin tyX1 tyX1_ok nmX1 hown hK.1 (hG 11 i hi) rfl 11 (by decide) hlink rfl (ty := .int) (by decide +kernel) rfl rfl (Nat.le_of_ble_eq_true rfl) hdg (fun H1 j he z oq => kk H1 _ ?_ (hS.put z oq (mz_A.in (k := 11) hi)))
  exact hG.set hL.2 (k := 11) hi (by rw [qe_11_11]; exact he) oq (fun k' i' h => qE_same (fun f => mz_uo h f))
end QW
end
section
set_option maxRecDepth 100000 in
set_option maxHeartbeats 4000000 in
theorem qc_lastNumber (l : Launch) (D : va_G) (L : qL) (hL : qL_ok L) (u : mz_S) (i : Nat) (hi : i < ql_n L) : mz_Ci l (qG D L) (qK D L) (qA L) yX0_lastNumber (tz_w yX0_lastNumber cX0_lastNumber 1 (some .int)) ({ frames := 0, cells := 0, slots := 0, locals := 0 } : Room) [.ref (L.1 3 i)] u (qs_last u i) (u) := by
  refine mz_Ci.of (cc := cX0_lastNumber) (maxL := 1) (ret := (some .int)) (by decide) rfl (Nat.le_of_ble_eq_true rfl) ?_
  intro p e s m args below meth c ls hx hb hr hlk hml hown hts hl hG hK hS
  have hl : lv_has ls 1 [(0, .ref (L.1 3 i))] := hl
  have htz : ∀ w ∈ tz, w.before args s = true := fun w h => hts w (List.mem_cons_of_mem _ h)
  refine lv_aload_n hx hb dX0_lastNumber_0 rfl (lv_at hl 0 rfl) ?_
  refine qg_3 (f := 0) hx hb htz tin_X0 hown hK hG hi (htz _ fX0_18) (by decide) rfl dX0_lastNumber_1 ?_
  refine lv_aload_n hx hb dX0_lastNumber_4 rfl (lv_at hl 0 rfl) ?_
  refine qg_3 (f := 3) hx hb htz tin_X0 hown hK hG hi (htz _ fX0_22) (by decide) rfl dX0_lastNumber_5 ?_
  refine lv_iadd hx hb dX0_lastNumber_8 ?_
  exact mz_iret hx hb hr hlk qK_ok hK hS hG dX0_lastNumber_9 rfl rfl

set_option maxRecDepth 100000 in
set_option maxHeartbeats 4000000 in
theorem qc_lastTerm (l : Launch) (D : va_G) (L : qL) (hL : qL_ok L) (u : mz_S) (i : Nat) (hi : i < ql_n L) (hw : qw (ql_c L) u i) : mz_Ci l (qG D L) (qK D L) (qA L) yX0_lastTerm (tz_w yX0_lastTerm cX0_lastTerm 1 (some .int)) ({ frames := 0, cells := 0, slots := 0, locals := 0 } : Room) [.ref (L.1 3 i)] u (qs_lastT u i) (u) := by
  refine mz_Ci.of (cc := cX0_lastTerm) (maxL := 1) (ret := (some .int)) (by decide) rfl (Nat.le_of_ble_eq_true rfl) ?_
  intro p e s m args below meth c ls hx hb hr hlk hml hown hts hl hG hK hS
  have hl : lv_has ls 1 [(0, .ref (L.1 3 i))] := hl
  have htz : ∀ w ∈ tz, w.before args s = true := fun w h => hts w (List.mem_cons_of_mem _ h)
  have hc12 : ql_c L ≤ 12 := hL.1.2.2.2.1
  have hn5 : ql_n L ≤ 5 := hL.1.2.1
  have h40 : ql_S L ≤ 40 := hL.1.2.2.2.2.2
  refine lv_aload_n hx hb dX0_lastTerm_0 rfl (lv_at hl 0 rfl) ?_
  refine qg_3 (f := 3) hx hb htz tin_X0 hown hK hG hi (htz _ fX0_22) (by decide) rfl dX0_lastTerm_1 ?_
  refine mz_if_le hx hb dX0_lastTerm_4 (tgt := 21) rfl (fun h0 h0' => ?_) (fun h0 h0' => ?_)
  · refine lv_aload_n hx hb dX0_lastTerm_21 rfl (lv_at hl 0 rfl) ?_
    refine qg_3 (f := 1) hx hb htz tin_X0 hown hK hG hi (htz _ fX0_25) (by decide) rfl dX0_lastTerm_22 ?_
    exact mz_iret hx hb hr hlk qK_ok hK hS hG dX0_lastTerm_25 (by simp [qs_lastT, h0, h0']) rfl
  · refine lv_aload_n hx hb dX0_lastTerm_7 rfl (lv_at hl 0 rfl) ?_
    refine qg_3 (f := 4) hx hb htz tin_X0 hown hK hG hi (htz _ fX0_9) (by decide) rfl dX0_lastTerm_8 ?_
    refine lv_aload_n hx hb dX0_lastTerm_11 rfl (lv_at hl 0 rfl) ?_
    refine qg_3 (f := 3) hx hb htz tin_X0 hown hK hG hi (htz _ fX0_22) (by decide) rfl dX0_lastTerm_12 ?_
    refine lv_iconst (v := 1) hx hb dX0_lastTerm_15 (by decide) ?_
    refine lv_isub hx hb dX0_lastTerm_16 ?_
    refine qa_4 hx hb hK hG hi (hw.top hc12 h0) dX0_lastTerm_17 ?_
    refine lv_goto hx hb dX0_lastTerm_18 (tgt := 25) rfl ?_
    exact mz_iret hx hb hr hlk qK_ok hK hS hG dX0_lastTerm_25 (by simp [qs_lastT, h0, h0']) rfl

set_option maxRecDepth 100000 in
set_option maxHeartbeats 4000000 in
theorem qc_isFull (l : Launch) (D : va_G) (L : qL) (hL : qL_ok L) (u : mz_S) (i : Nat) (hi : i < ql_n L) : mz_Ci l (qG D L) (qK D L) (qA L) yX0_isFull (tz_w yX0_isFull cX0_isFull 1 (some .boolean)) ({ frames := 0, cells := 0, slots := 0, locals := 0 } : Room) [.ref (L.1 3 i)] u (mz_b (qs_full (ql_c L) u i)) (u) := by
  refine mz_Ci.of (cc := cX0_isFull) (maxL := 1) (ret := (some .boolean)) (by decide) rfl (Nat.le_of_ble_eq_true rfl) ?_
  intro p e s m args below meth c ls hx hb hr hlk hml hown hts hl hG hK hS
  have hl : lv_has ls 1 [(0, .ref (L.1 3 i))] := hl
  have htz : ∀ w ∈ tz, w.before args s = true := fun w h => hts w (List.mem_cons_of_mem _ h)
  refine lv_aload_n hx hb dX0_isFull_0 rfl (lv_at hl 0 rfl) ?_
  refine qg_3 (f := 3) hx hb htz tin_X0 hown hK hG hi (htz _ fX0_22) (by decide) rfl dX0_isFull_1 ?_
  refine lv_aload_n hx hb dX0_isFull_4 rfl (lv_at hl 0 rfl) ?_
  refine qg_3 (f := 4) hx hb htz tin_X0 hown hK hG hi (htz _ fX0_9) (by decide) rfl dX0_isFull_5 ?_
  refine qz_4 hx hb hK hG hi dX0_isFull_8 ?_
  refine mz_icmp_lt hx hb dX0_isFull_9 (tgt := 16) rfl (fun h_1 h_1' => ?_) (fun h_1 h_1' => ?_)
  · refine lv_iconst (v := 0) hx hb dX0_isFull_16 (by decide) ?_
    exact mz_zret hx hb hr hlk qK_ok hK hS hG dX0_isFull_17 (by decide) (by simp [mz_b, qs_full, h_1, h_1']) rfl
  · refine lv_iconst (v := 1) hx hb dX0_isFull_12 (by decide) ?_
    refine lv_goto hx hb dX0_isFull_13 (tgt := 17) rfl ?_
    exact mz_zret hx hb hr hlk qK_ok hK hS hG dX0_isFull_17 (by decide) (by simp [mz_b, qs_full, h_1, h_1']) rfl

set_option maxRecDepth 100000 in
set_option maxHeartbeats 4000000 in
theorem qc_hasEntry (l : Launch) (D : va_G) (L : qL) (hL : qL_ok L) (u : mz_S) (i : Nat) (hi : i < ql_n L) (k : Int32) : mz_Ci l (qG D L) (qK D L) (qA L) yX0_hasEntry (tz_w yX0_hasEntry cX0_hasEntry 2 (some .boolean)) ({ frames := 0, cells := 0, slots := 0, locals := 0 } : Room) [.ref (L.1 3 i), .int k] u (mz_b (qs_has u i k)) (u) := by
  refine mz_Ci.of (cc := cX0_hasEntry) (maxL := 2) (ret := (some .boolean)) (by decide) rfl (Nat.le_of_ble_eq_true rfl) ?_
  intro p e s m args below meth c ls hx hb hr hlk hml hown hts hl hG hK hS
  have hl : lv_has ls 2 [(0, .ref (L.1 3 i)), (1, .int k)] := hl
  have htz : ∀ w ∈ tz, w.before args s = true := fun w h => hts w (List.mem_cons_of_mem _ h)
  refine lv_iload_n hx hb dX0_hasEntry_0 rfl (lv_at hl 1 rfl) ?_
  refine lv_aload_n hx hb dX0_hasEntry_1 rfl (lv_at hl 0 rfl) ?_
  refine qg_3 (f := 0) hx hb htz tin_X0 hown hK hG hi (htz _ fX0_18) (by decide) rfl dX0_hasEntry_2 ?_
  refine mz_icmp_le hx hb dX0_hasEntry_5 (tgt := 25) rfl (fun h_1 h_1' => ?_) (fun h_1 h_1' => ?_)
  · refine lv_iconst (v := 0) hx hb dX0_hasEntry_25 (by decide) ?_
    exact mz_zret hx hb hr hlk qK_ok hK hS hG dX0_hasEntry_26 (by decide) (by simp [mz_b, qs_has, h_1, h_1']) rfl
  · refine lv_iload_n hx hb dX0_hasEntry_8 rfl (lv_at hl 1 rfl) ?_
    refine lv_aload_n hx hb dX0_hasEntry_9 rfl (lv_at hl 0 rfl) ?_
    refine qg_3 (f := 0) hx hb htz tin_X0 hown hK hG hi (htz _ fX0_18) (by decide) rfl dX0_hasEntry_10 ?_
    refine lv_aload_n hx hb dX0_hasEntry_13 rfl (lv_at hl 0 rfl) ?_
    refine qg_3 (f := 3) hx hb htz tin_X0 hown hK hG hi (htz _ fX0_22) (by decide) rfl dX0_hasEntry_14 ?_
    refine lv_iadd hx hb dX0_hasEntry_17 ?_
    refine mz_icmp_gt hx hb dX0_hasEntry_18 (tgt := 25) rfl (fun h_2 h_2' => ?_) (fun h_2 h_2' => ?_)
    · refine lv_iconst (v := 0) hx hb dX0_hasEntry_25 (by decide) ?_
      exact mz_zret hx hb hr hlk qK_ok hK hS hG dX0_hasEntry_26 (by decide) (by simp [mz_b, qs_has, h_1, h_1', h_2, h_2']) rfl
    · refine lv_iconst (v := 1) hx hb dX0_hasEntry_21 (by decide) ?_
      refine lv_goto hx hb dX0_hasEntry_22 (tgt := 26) rfl ?_
      exact mz_zret hx hb hr hlk qK_ok hK hS hG dX0_hasEntry_26 (by decide) (by simp [mz_b, qs_has, h_1, h_1', h_2, h_2']) rfl

set_option maxRecDepth 100000 in
set_option maxHeartbeats 4000000 in
theorem qc_termOf (l : Launch) (D : va_G) (L : qL) (hL : qL_ok L) (u : mz_S) (i : Nat) (hi : i < ql_n L) (k : Int32) (hw : qw (ql_c L) u i) : mz_Ci l (qG D L) (qK D L) (qA L) yX0_termOf (tz_w yX0_termOf cX0_termOf 2 (some .int)) ({ frames := 1, cells := 0, slots := 0, locals := 21 } : Room) [.ref (L.1 3 i), .int k] u (qs_term u i k) (u) := by
  refine mz_Ci.of (cc := cX0_termOf) (maxL := 2) (ret := (some .int)) (by decide) rfl (Nat.le_of_ble_eq_true rfl) ?_
  intro p e s m args below meth c ls hx hb hr hlk hml hown hts hl hG hK hS
  have hl : lv_has ls 2 [(0, .ref (L.1 3 i)), (1, .int k)] := hl
  have htz : ∀ w ∈ tz, w.before args s = true := fun w h => hts w (List.mem_cons_of_mem _ h)
  have hc12 : ql_c L ≤ 12 := hL.1.2.2.2.1
  have hn5 : ql_n L ≤ 5 := hL.1.2.1
  have h40 : ql_S L ≤ 40 := hL.1.2.2.2.2.2
  refine lv_aload_n hx hb dX0_termOf_0 rfl (lv_at hl 0 rfl) ?_
  refine lv_iload_n hx hb dX0_termOf_1 rfl (lv_at hl 1 rfl) ?_
  refine mz_Vi (As := [.int _]) (rest := []) ⟨hx, hb, hml, hown, hts⟩ (qc_hasEntry l D L hL _ i hi _) (tz_V htz mX0_hasEntry lX0_28 rfl rfl ⟨Nat.le_of_ble_eq_true rfl, Nat.le_of_ble_eq_true rfl⟩) (qrecv_3 hK hG hi) qK_ok hK hG hS rfl hl.1 rfl (Nat.le_of_ble_eq_true rfl) dX0_termOf_2 ⟨Nat.zero_le _, Nat.zero_le _⟩ (fun H locs hG hS => ?_)
  refine mz_ifeq_b hx hb dX0_termOf_5 (tgt := 22) rfl (fun h0 => ?_) (fun h0 => ?_)
  · refine lv_iload_n hx hb dX0_termOf_22 rfl (lv_at hl 1 rfl) ?_
    refine lv_aload_n hx hb dX0_termOf_23 rfl (lv_at hl 0 rfl) ?_
    refine qg_3 (f := 0) hx hb htz tin_X0 hown hK hG hi (htz _ fX0_18) (by decide) rfl dX0_termOf_24 ?_
    refine lv_icmp_ne hx hb dX0_termOf_27 (tgt := 37) rfl (fun h1 => ?_) (fun h1 => ?_)
    · refine lv_iconst (v := (-1)) hx hb dX0_termOf_37 (by decide) ?_
      exact mz_iret hx hb hr hlk qK_ok hK hS hG dX0_termOf_38 (by unfold qs_term; first | rw [if_pos h0] | rw [if_neg h0, if_pos h1] | rw [if_neg h0, if_neg h1]) rfl
    · refine lv_aload_n hx hb dX0_termOf_30 rfl (lv_at hl 0 rfl) ?_
      refine qg_3 (f := 1) hx hb htz tin_X0 hown hK hG hi (htz _ fX0_25) (by decide) rfl dX0_termOf_31 ?_
      refine lv_goto hx hb dX0_termOf_34 (tgt := 38) rfl ?_
      exact mz_iret hx hb hr hlk qK_ok hK hS hG dX0_termOf_38 (by unfold qs_term; first | rw [if_pos h0] | rw [if_neg h0, if_pos h1] | rw [if_neg h0, if_neg h1]) rfl
  · refine lv_aload_n hx hb dX0_termOf_8 rfl (lv_at hl 0 rfl) ?_
    refine qg_3 (f := 4) hx hb htz tin_X0 hown hK hG hi (htz _ fX0_9) (by decide) rfl dX0_termOf_9 ?_
    refine lv_iload_n hx hb dX0_termOf_12 rfl (lv_at hl 1 rfl) ?_
    refine lv_aload_n hx hb dX0_termOf_13 rfl (lv_at hl 0 rfl) ?_
    refine qg_3 (f := 0) hx hb htz tin_X0 hown hK hG hi (htz _ fX0_18) (by decide) rfl dX0_termOf_14 ?_
    refine lv_isub hx hb dX0_termOf_17 ?_
    refine lv_iconst (v := 1) hx hb dX0_termOf_18 (by decide) ?_
    refine lv_isub hx hb dX0_termOf_19 ?_
    refine qa_4 hx hb hK hG hi (hw.ix hc12 h0) dX0_termOf_20 ?_
    exact mz_iret hx hb hr hlk qK_ok hK hS hG dX0_termOf_21 (by unfold qs_term; first | rw [if_pos h0] | rw [if_neg h0, if_pos h1] | rw [if_neg h0, if_neg h1]) rfl

set_option maxRecDepth 100000 in
set_option maxHeartbeats 4000000 in
theorem qc_commandOf (l : Launch) (D : va_G) (L : qL) (hL : qL_ok L) (u : mz_S) (i : Nat) (hi : i < ql_n L) (k : Int32) (hw : qw (ql_c L) u i) : mz_Ci l (qG D L) (qK D L) (qA L) yX0_commandOf (tz_w yX0_commandOf cX0_commandOf 2 (some .int)) ({ frames := 1, cells := 0, slots := 0, locals := 21 } : Room) [.ref (L.1 3 i), .int k] u (qs_cmd u i k) (u) := by
  refine mz_Ci.of (cc := cX0_commandOf) (maxL := 2) (ret := (some .int)) (by decide) rfl (Nat.le_of_ble_eq_true rfl) ?_
  intro p e s m args below meth c ls hx hb hr hlk hml hown hts hl hG hK hS
  have hl : lv_has ls 2 [(0, .ref (L.1 3 i)), (1, .int k)] := hl
  have htz : ∀ w ∈ tz, w.before args s = true := fun w h => hts w (List.mem_cons_of_mem _ h)
  have hc12 : ql_c L ≤ 12 := hL.1.2.2.2.1
  have hn5 : ql_n L ≤ 5 := hL.1.2.1
  have h40 : ql_S L ≤ 40 := hL.1.2.2.2.2.2
  refine lv_aload_n hx hb dX0_commandOf_0 rfl (lv_at hl 0 rfl) ?_
  refine lv_iload_n hx hb dX0_commandOf_1 rfl (lv_at hl 1 rfl) ?_
  refine mz_Vi (As := [.int _]) (rest := []) ⟨hx, hb, hml, hown, hts⟩ (qc_hasEntry l D L hL _ i hi _) (tz_V htz mX0_hasEntry lX0_28 rfl rfl ⟨Nat.le_of_ble_eq_true rfl, Nat.le_of_ble_eq_true rfl⟩) (qrecv_3 hK hG hi) qK_ok hK hG hS rfl hl.1 rfl (Nat.le_of_ble_eq_true rfl) dX0_commandOf_2 ⟨Nat.zero_le _, Nat.zero_le _⟩ (fun H locs hG hS => ?_)
  refine mz_ifeq_b hx hb dX0_commandOf_5 (tgt := 24) rfl (fun h0 => ?_) (fun h0 => ?_)
  · refine lv_iconst (v := 0) hx hb dX0_commandOf_24 (by decide) ?_
    exact mz_iret hx hb hr hlk qK_ok hK hS hG dX0_commandOf_25 (by unfold qs_cmd; first | rw [if_pos h0] | rw [if_neg h0]) rfl
  · refine lv_aload_n hx hb dX0_commandOf_8 rfl (lv_at hl 0 rfl) ?_
    refine qg_3 (f := 5) hx hb htz tin_X0 hown hK hG hi (htz _ fX0_15) (by decide) rfl dX0_commandOf_9 ?_
    refine lv_iload_n hx hb dX0_commandOf_12 rfl (lv_at hl 1 rfl) ?_
    refine lv_aload_n hx hb dX0_commandOf_13 rfl (lv_at hl 0 rfl) ?_
    refine qg_3 (f := 0) hx hb htz tin_X0 hown hK hG hi (htz _ fX0_18) (by decide) rfl dX0_commandOf_14 ?_
    refine lv_isub hx hb dX0_commandOf_17 ?_
    refine lv_iconst (v := 1) hx hb dX0_commandOf_18 (by decide) ?_
    refine lv_isub hx hb dX0_commandOf_19 ?_
    refine qa_5 hx hb hK hG hi (hw.ix hc12 h0) dX0_commandOf_20 ?_
    refine lv_goto hx hb dX0_commandOf_21 (tgt := 25) rfl ?_
    exact mz_iret hx hb hr hlk qK_ok hK hS hG dX0_commandOf_25 (by unfold qs_cmd; first | rw [if_pos h0] | rw [if_neg h0]) rfl

set_option maxRecDepth 100000 in
set_option maxHeartbeats 4000000 in
theorem qc_stateUpTo (l : Launch) (D : va_G) (L : qL) (hL : qL_ok L) (u : mz_S) (i : Nat) (hi : i < ql_n L) (x : Int32) (hq : qwc (ql_c L) u i x) : mz_Ci l (qG D L) (qK D L) (qA L) yX0_stateUpTo (tz_w yX0_stateUpTo cX0_stateUpTo 4 (some .int)) ({ frames := 0, cells := 0, slots := 0, locals := 0 } : Room) [.ref (L.1 3 i), .int x] u (qs_state u i x) (u) := by
  refine mz_Ci.of (cc := cX0_stateUpTo) (maxL := 4) (ret := (some .int)) (by decide) rfl (Nat.le_of_ble_eq_true rfl) ?_
  intro p e s m args below meth c ls hx hb hr hlk hml hown hts hl hG hK hS
  have hl : lv_has ls 4 [(0, .ref (L.1 3 i)), (1, .int x)] := hl
  have htz : ∀ w ∈ tz, w.before args s = true := fun w h => hts w (List.mem_cons_of_mem _ h)
  have hc12 : ql_c L ≤ 12 := hL.1.2.2.2.1
  have hn5 : ql_n L ≤ 5 := hL.1.2.1
  have h40 : ql_S L ≤ 40 := hL.1.2.2.2.2.2
  refine lv_aload_n hx hb dX0_stateUpTo_0 rfl (lv_at hl 0 rfl) ?_
  refine qg_3 (f := 2) hx hb htz tin_X0 hown hK hG hi (htz _ fX0_32) (by decide) rfl dX0_stateUpTo_1 ?_
  refine lv_istore_n hx hb dX0_stateUpTo_4 rfl hl (by decide) rfl (fun ls hl => ?_)
  have hl : lv_has ls 4 [(2, .int _), (0, .ref _), (1, .int _)] := hl
  refine lv_iconst (v := 0) hx hb dX0_stateUpTo_5 (by decide) ?_
  refine lv_istore_n hx hb dX0_stateUpTo_6 rfl hl (by decide) rfl (fun ls hl => ?_)
  have hl : lv_has ls 4 [(3, .int _), (2, .int _), (0, .ref _), (1, .int _)] := hl
  obtain ⟨b, c9, q, e1, e2, e3, g1, g2, g3, g4⟩ := hq
  subst e3
  refine mz_loop (q - b) (P := fun j ls H locs => lv_has ls 4 [(3, .int (nI j)), (2, .int (qs_fold u i j)), (0, .ref (L.1 3 i)), (1, .int (nI q))] ∧ qG D L u H ∧ va_S (qA L) s.heap H locs ∧ j ≤ q - b) (fun _ _ _ _ h => h.2.2.2) ?_ 0 _ _ _ ⟨hl, hG, hS, Nat.zero_le _⟩
  intro j ls H locs ⟨hl, hG, hS, hj⟩ ih
  refine lv_iload_n hx hb dX0_stateUpTo_7 rfl (lv_at hl 0 rfl) ?_
  refine lv_aload_n hx hb dX0_stateUpTo_8 rfl (lv_at hl 2 rfl) ?_
  refine qg_3 (f := 3) hx hb htz tin_X0 hown hK hG hi (htz _ fX0_22) (by decide) rfl dX0_stateUpTo_9 ?_
  refine mz_icmp_ge hx hb dX0_stateUpTo_12 (tgt := 43) rfl (fun h0 h0' => ?_) (fun h0 h0' => ?_)
  · rw [e2, nI_leI (by omega) (by omega)] at h0'
    refine lv_iload_n hx hb dX0_stateUpTo_43 rfl (lv_at hl 1 rfl) ?_
    exact mz_iret hx hb hr hlk qK_ok hK hS hG dX0_stateUpTo_44 (by rw [qs_state, e1, pk_sub g1, nI_clamp (by omega), show q - b = j by omega]) rfl
  · rw [e2, nI_ltI (by omega) (by omega)] at h0
    refine lv_aload_n hx hb dX0_stateUpTo_15 rfl (lv_at hl 2 rfl) ?_
    refine qg_3 (f := 0) hx hb htz tin_X0 hown hK hG hi (htz _ fX0_18) (by decide) rfl dX0_stateUpTo_16 ?_
    refine lv_iload_n hx hb dX0_stateUpTo_19 rfl (lv_at hl 0 rfl) ?_
    refine lv_iadd hx hb dX0_stateUpTo_20 ?_
    refine lv_iload_n hx hb dX0_stateUpTo_21 rfl (lv_at hl 3 rfl) ?_
    refine mz_icmp_ge hx hb dX0_stateUpTo_22 (tgt := 43) rfl (fun h1 h1' => ?_) (fun h1 h1' => ?_)
    · rw [e1, nI_add, nI_leI (by omega) (by omega)] at h1'
      refine lv_iload_n hx hb dX0_stateUpTo_43 rfl (lv_at hl 1 rfl) ?_
      exact mz_iret hx hb hr hlk qK_ok hK hS hG dX0_stateUpTo_44 (by rw [qs_state, e1, pk_sub g1, nI_clamp (by omega), show q - b = j by omega]) rfl
    · rw [e1, nI_add, nI_ltI (by omega) (by omega)] at h1
      refine lv_bipush (v := 31) hx hb dX0_stateUpTo_25 (by decide) ?_
      refine lv_iload_n hx hb dX0_stateUpTo_27 rfl (lv_at hl 1 rfl) ?_
      refine lv_imul hx hb dX0_stateUpTo_28 ?_
      refine lv_aload_n hx hb dX0_stateUpTo_29 rfl (lv_at hl 2 rfl) ?_
      refine qg_3 (f := 5) hx hb htz tin_X0 hown hK hG hi (htz _ fX0_15) (by decide) rfl dX0_stateUpTo_30 ?_
      refine lv_iload_n hx hb dX0_stateUpTo_33 rfl (lv_at hl 0 rfl) ?_
      refine qa_5 hx hb hK hG hi (vp_in_nI (by omega) (by omega)) dX0_stateUpTo_34 ?_
      rw [nI_clamp (by omega)]
      refine lv_iadd hx hb dX0_stateUpTo_35 ?_
      refine lv_istore_n hx hb dX0_stateUpTo_36 rfl hl (by decide) rfl (fun ls hl => ?_)
      have hl : lv_has ls 4 [(2, .int _), (3, .int _), (0, .ref _), (1, .int _)] := hl
      refine lv_iinc (k := 1) hx hb dX0_stateUpTo_37 hl rfl (nI_1 j) (by decide) rfl (fun ls hl => ?_)
      have hl : lv_has ls 4 [(3, .int _), (2, .int _), (0, .ref _), (1, .int _)] := hl
      refine lv_goto hx hb dX0_stateUpTo_40 (tgt := 7) rfl ?_
      exact ih (by omega) _ _ _ ⟨hl, hG, hS, by omega⟩

set_option maxRecDepth 100000 in
set_option maxHeartbeats 4000000 in
theorem qc_isNotAheadOf (l : Launch) (D : va_G) (L : qL) (hL : qL_ok L) (u : mz_S) (i : Nat) (hi : i < ql_n L) (x t : Int32) (hw : qw (ql_c L) u i) : mz_Ci l (qG D L) (qK D L) (qA L) yX0_isNotAheadOf (tz_w yX0_isNotAheadOf cX0_isNotAheadOf 3 (some .boolean)) ({ frames := 1, cells := 0, slots := 0, locals := 20 } : Room) [.ref (L.1 3 i), .int x, .int t] u (mz_b (qs_nah u i x t)) (u) := by
  refine mz_Ci.of (cc := cX0_isNotAheadOf) (maxL := 3) (ret := (some .boolean)) (by decide) rfl (Nat.le_of_ble_eq_true rfl) ?_
  intro p e s m args below meth c ls hx hb hr hlk hml hown hts hl hG hK hS
  have hl : lv_has ls 3 [(0, .ref (L.1 3 i)), (1, .int x), (2, .int t)] := hl
  have htz : ∀ w ∈ tz, w.before args s = true := fun w h => hts w (List.mem_cons_of_mem _ h)
  refine lv_iload_n hx hb dX0_isNotAheadOf_0 rfl (lv_at hl 2 rfl) ?_
  refine lv_aload_n hx hb dX0_isNotAheadOf_1 rfl (lv_at hl 0 rfl) ?_
  refine mz_Vi (As := []) (rest := [.int _]) ⟨hx, hb, hml, hown, hts⟩ (qc_lastTerm l D L hL _ i hi hw) (tz_V htz mX0_lastTerm lX0_35 rfl rfl ⟨Nat.le_of_ble_eq_true rfl, Nat.le_of_ble_eq_true rfl⟩) (qrecv_3 hK hG hi) qK_ok hK hG hS rfl hl.1 rfl (Nat.le_of_ble_eq_true rfl) dX0_isNotAheadOf_2 ⟨Nat.zero_le _, Nat.zero_le _⟩ (fun H locs hG hS => ?_)
  refine mz_icmp_gt hx hb dX0_isNotAheadOf_5 (tgt := 24) rfl (fun h0 h0' => ?_) (fun h0 h0' => ?_)
  · refine lv_iconst (v := 1) hx hb dX0_isNotAheadOf_24 (by decide) ?_
    refine lv_goto hx hb dX0_isNotAheadOf_25 (tgt := 29) rfl ?_
    exact mz_zret hx hb hr hlk qK_ok hK hS hG dX0_isNotAheadOf_29 (by decide) (by simp [mz_b, qs_nah, h0, h0']) rfl
  · refine lv_iload_n hx hb dX0_isNotAheadOf_8 rfl (lv_at hl 2 rfl) ?_
    refine lv_aload_n hx hb dX0_isNotAheadOf_9 rfl (lv_at hl 0 rfl) ?_
    refine mz_Vi (As := []) (rest := [.int _]) ⟨hx, hb, hml, hown, hts⟩ (qc_lastTerm l D L hL _ i hi hw) (tz_V htz mX0_lastTerm lX0_35 rfl rfl ⟨Nat.le_of_ble_eq_true rfl, Nat.le_of_ble_eq_true rfl⟩) (qrecv_3 hK hG hi) qK_ok hK hG hS rfl hl.1 rfl (Nat.le_of_ble_eq_true rfl) dX0_isNotAheadOf_10 ⟨Nat.zero_le _, Nat.zero_le _⟩ (fun H locs hG hS => ?_)
    refine lv_icmp_ne hx hb dX0_isNotAheadOf_13 (tgt := 28) rfl (fun h1 => ?_) (fun h1 => ?_)
    · refine lv_iconst (v := 0) hx hb dX0_isNotAheadOf_28 (by decide) ?_
      exact mz_zret hx hb hr hlk qK_ok hK hS hG dX0_isNotAheadOf_29 (by decide) (by simp [mz_b, qs_nah, h0, h0', h1]) rfl
    · refine lv_iload_n hx hb dX0_isNotAheadOf_16 rfl (lv_at hl 1 rfl) ?_
      refine lv_aload_n hx hb dX0_isNotAheadOf_17 rfl (lv_at hl 0 rfl) ?_
      refine mz_Vi (As := []) (rest := [.int _]) ⟨hx, hb, hml, hown, hts⟩ (qc_lastNumber l D L hL _ i hi) (tz_V htz mX0_lastNumber lX0_39 rfl rfl ⟨Nat.le_of_ble_eq_true rfl, Nat.le_of_ble_eq_true rfl⟩) (qrecv_3 hK hG hi) qK_ok hK hG hS rfl hl.1 rfl (Nat.le_of_ble_eq_true rfl) dX0_isNotAheadOf_18 ⟨Nat.zero_le _, Nat.zero_le _⟩ (fun H locs hG hS => ?_)
      refine mz_icmp_lt hx hb dX0_isNotAheadOf_21 (tgt := 28) rfl (fun h2 h2' => ?_) (fun h2 h2' => ?_)
      · refine lv_iconst (v := 0) hx hb dX0_isNotAheadOf_28 (by decide) ?_
        exact mz_zret hx hb hr hlk qK_ok hK hS hG dX0_isNotAheadOf_29 (by decide) (by simp [mz_b, qs_nah, h0, h0', h1, h2, h2']) rfl
      · refine lv_iconst (v := 1) hx hb dX0_isNotAheadOf_24 (by decide) ?_
        refine lv_goto hx hb dX0_isNotAheadOf_25 (tgt := 29) rfl ?_
        exact mz_zret hx hb hr hlk qK_ok hK hS hG dX0_isNotAheadOf_29 (by decide) (by simp [mz_b, qs_nah, h0, h0', h1, h2, h2']) rfl

set_option maxRecDepth 100000 in
set_option maxHeartbeats 4000000 in
theorem qc_add (l : Launch) (D : va_G) (L : qL) (hL : qL_ok L) (u : mz_S) (i : Nat) (hi : i < ql_n L) (t x : Int32) (hw : qw (ql_c L) u i) : mz_Cv l (qG D L) (qK D L) (qA L) yX0_add (tz_w yX0_add cX0_add 3 none) ({ frames := 1, cells := 0, slots := 0, locals := 20 } : Room) [.ref (L.1 3 i), .int t, .int x] u (qs_add (ql_c L) u i t x) := by
  refine mz_Cv.of (cc := cX0_add) (maxL := 3) (ret := none) (by decide) rfl (Nat.le_of_ble_eq_true rfl) ?_
  intro p e s m args below meth c ls hx hb hr hlk hml hown hts hl hG hK hS
  have hl : lv_has ls 3 [(0, .ref (L.1 3 i)), (1, .int t), (2, .int x)] := hl
  have htz : ∀ w ∈ tz, w.before args s = true := fun w h => hts w (List.mem_cons_of_mem _ h)
  have hc12 : ql_c L ≤ 12 := hL.1.2.2.2.1
  have hn5 : ql_n L ≤ 5 := hL.1.2.1
  have h40 : ql_S L ≤ 40 := hL.1.2.2.2.2.2
  refine lv_aload_n hx hb dX0_add_0 rfl (lv_at hl 0 rfl) ?_
  refine mz_Vi (As := []) (rest := []) ⟨hx, hb, hml, hown, hts⟩ (qc_isFull l D L hL _ i hi) (tz_V htz mX0_isFull lX0_42 rfl rfl ⟨Nat.le_of_ble_eq_true rfl, Nat.le_of_ble_eq_true rfl⟩) (qrecv_3 hK hG hi) qK_ok hK hG hS rfl hl.1 rfl (Nat.le_of_ble_eq_true rfl) dX0_add_1 ⟨Nat.zero_le _, Nat.zero_le _⟩ (fun H locs hG hS => ?_)
  refine mz_ifne_b hx hb dX0_add_4 (tgt := 37) rfl (fun h0 => ?_) (fun h0 => ?_)
  · exact mz_vret hx hb hr hlk qK_ok hK hS hG dX0_add_37 (by unfold qs_add; first | rw [if_pos h0] | rw [if_neg h0])
  · refine lv_aload_n hx hb dX0_add_7 rfl (lv_at hl 0 rfl) ?_
    refine qg_3 (f := 4) hx hb htz tin_X0 hown hK hG hi (htz _ fX0_9) (by decide) rfl dX0_add_8 ?_
    refine lv_aload_n hx hb dX0_add_11 rfl (lv_at hl 0 rfl) ?_
    refine qg_3 (f := 3) hx hb htz tin_X0 hown hK hG hi (htz _ fX0_22) (by decide) rfl dX0_add_12 ?_
    refine lv_iload_n hx hb dX0_add_15 rfl (lv_at hl 1 rfl) ?_
    refine qt_4 hx hb hL hK hG hS hi (hw.free hc12 h0) dX0_add_16 (fun H locs hG hS => ?_)
    refine lv_aload_n hx hb dX0_add_17 rfl (lv_at hl 0 rfl) ?_
    refine qg_3 (f := 5) hx hb htz tin_X0 hown hK hG hi (htz _ fX0_15) (by decide) rfl dX0_add_18 ?_
    refine lv_aload_n hx hb dX0_add_21 rfl (lv_at hl 0 rfl) ?_
    refine qg_3 (f := 3) (v := .int (u 3 i 3)) hx hb htz tin_X0 hown hK hG hi (htz _ fX0_22) (by decide) (by simp [qf3, mz_at]) dX0_add_22 ?_
    refine lv_iload_n hx hb dX0_add_25 rfl (lv_at hl 2 rfl) ?_
    refine qt_5 hx hb hL hK hG hS hi (hw.free hc12 h0) dX0_add_26 (fun H locs hG hS => ?_)
    refine lv_aload_n hx hb dX0_add_27 rfl (lv_at hl 0 rfl) ?_
    refine lv_dup hx hb dX0_add_28 rfl ?_
    refine qg_3 (f := 3) (v := .int (u 3 i 3)) hx hb htz tin_X0 hown hK hG hi (htz _ fX0_22) (by decide) (by simp [qf3, mz_at]) dX0_add_29 ?_
    refine lv_iconst (v := 1) hx hb dX0_add_32 (by decide) ?_
    refine lv_iadd hx hb dX0_add_33 ?_
    refine qp_3_3 hx hb htz tin_X0 hown hL hK hG hS hi (htz _ fX0_22) dX0_add_34 (fun H locs hG hS => ?_)
    exact mz_vret hx hb hr hlk qK_ok hK hS hG dX0_add_37 (by unfold qs_add; first | rw [if_pos h0] | rw [if_neg h0])

set_option maxRecDepth 100000 in
set_option maxHeartbeats 4000000 in
theorem qc_cutFrom (l : Launch) (D : va_G) (L : qL) (hL : qL_ok L) (u : mz_S) (i : Nat) (hi : i < ql_n L) (k : Int32) : mz_Cv l (qG D L) (qK D L) (qA L) yX0_cutFrom (tz_w yX0_cutFrom cX0_cutFrom 2 none) ({ frames := 1, cells := 0, slots := 0, locals := 21 } : Room) [.ref (L.1 3 i), .int k] u (qs_cut u i k) := by
  refine mz_Cv.of (cc := cX0_cutFrom) (maxL := 2) (ret := none) (by decide) rfl (Nat.le_of_ble_eq_true rfl) ?_
  intro p e s m args below meth c ls hx hb hr hlk hml hown hts hl hG hK hS
  have hl : lv_has ls 2 [(0, .ref (L.1 3 i)), (1, .int k)] := hl
  have htz : ∀ w ∈ tz, w.before args s = true := fun w h => hts w (List.mem_cons_of_mem _ h)
  refine lv_aload_n hx hb dX0_cutFrom_0 rfl (lv_at hl 0 rfl) ?_
  refine lv_iload_n hx hb dX0_cutFrom_1 rfl (lv_at hl 1 rfl) ?_
  refine mz_Vi (As := [.int _]) (rest := []) ⟨hx, hb, hml, hown, hts⟩ (qc_hasEntry l D L hL _ i hi _) (tz_V htz mX0_hasEntry lX0_28 rfl rfl ⟨Nat.le_of_ble_eq_true rfl, Nat.le_of_ble_eq_true rfl⟩) (qrecv_3 hK hG hi) qK_ok hK hG hS rfl hl.1 rfl (Nat.le_of_ble_eq_true rfl) dX0_cutFrom_2 ⟨Nat.zero_le _, Nat.zero_le _⟩ (fun H locs hG hS => ?_)
  refine mz_ifeq_b hx hb dX0_cutFrom_5 (tgt := 20) rfl (fun h0 => ?_) (fun h0 => ?_)
  · exact mz_vret hx hb hr hlk qK_ok hK hS hG dX0_cutFrom_20 (by unfold qs_cut; first | rw [if_pos h0] | rw [if_neg h0])
  · refine lv_aload_n hx hb dX0_cutFrom_8 rfl (lv_at hl 0 rfl) ?_
    refine lv_iload_n hx hb dX0_cutFrom_9 rfl (lv_at hl 1 rfl) ?_
    refine lv_aload_n hx hb dX0_cutFrom_10 rfl (lv_at hl 0 rfl) ?_
    refine qg_3 (f := 0) hx hb htz tin_X0 hown hK hG hi (htz _ fX0_18) (by decide) rfl dX0_cutFrom_11 ?_
    refine lv_isub hx hb dX0_cutFrom_14 ?_
    refine lv_iconst (v := 1) hx hb dX0_cutFrom_15 (by decide) ?_
    refine lv_isub hx hb dX0_cutFrom_16 ?_
    refine qp_3_3 hx hb htz tin_X0 hown hL hK hG hS hi (htz _ fX0_22) dX0_cutFrom_17 (fun H locs hG hS => ?_)
    exact mz_vret hx hb hr hlk qK_ok hK hS hG dX0_cutFrom_20 (by unfold qs_cut; first | rw [if_pos h0] | rw [if_neg h0])

set_option maxRecDepth 100000 in
set_option maxHeartbeats 4000000 in
theorem qc_rebase (l : Launch) (D : va_G) (L : qL) (hL : qL_ok L) (u : mz_S) (i : Nat) (hi : i < ql_n L) (b t x : Int32) (hw : qw (ql_c L) u i) : mz_Cv l (qG D L) (qK D L) (qA L) yX0_rebase (tz_w yX0_rebase cX0_rebase 6 none) ({ frames := 1, cells := 0, slots := 0, locals := 21 } : Room) [.ref (L.1 3 i), .int b, .int t, .int x] u (qs_rebase u i b t x) := by
  refine mz_Cv.of (cc := cX0_rebase) (maxL := 6) (ret := none) (by decide) rfl (Nat.le_of_ble_eq_true rfl) ?_
  intro p e s m args below meth c ls hx hb hr hlk hml hown hts hl hG hK hS
  have hl : lv_has ls 6 [(0, .ref (L.1 3 i)), (1, .int b), (2, .int t), (3, .int x)] := hl
  have htz : ∀ w ∈ tz, w.before args s = true := fun w h => hts w (List.mem_cons_of_mem _ h)
  have hc12 : ql_c L ≤ 12 := hL.1.2.2.2.1
  have hn5 : ql_n L ≤ 5 := hL.1.2.1
  have h40 : ql_S L ≤ 40 := hL.1.2.2.2.2.2
  refine lv_aload_n hx hb dX0_rebase_0 rfl (lv_at hl 0 rfl) ?_
  refine qg_3 (f := 3) hx hb htz tin_X0 hown hK hG hi (htz _ fX0_22) (by decide) rfl dX0_rebase_1 ?_
  refine lv_iconst (v := 0) hx hb dX0_rebase_4 (by decide) ?_
  refine lv_iload_n hx hb dX0_rebase_5 rfl (lv_at hl 1 rfl) ?_
  refine lv_aload_n hx hb dX0_rebase_6 rfl (lv_at hl 0 rfl) ?_
  refine qg_3 (f := 0) hx hb htz tin_X0 hown hK hG hi (htz _ fX0_18) (by decide) rfl dX0_rebase_7 ?_
  refine lv_isub hx hb dX0_rebase_10 ?_
  refine va_mmax hx hb (hml.trans hl.1.symm) hown (htz _ lX0_46) (htz _ max_stat) (htz _ ini_Math) (htz _ max_code) (Nat.le_of_ble_eq_true rfl) (Nat.le_of_ble_eq_true rfl) (Nat.le_of_ble_eq_true rfl) (Nat.le_of_ble_eq_true rfl) dX0_rebase_11 ?_
  refine va_mmin hx hb (hml.trans hl.1.symm) hown (htz _ lX0_52) (htz _ min_stat) (htz _ ini_Math) (htz _ min_code) (Nat.le_of_ble_eq_true rfl) (Nat.le_of_ble_eq_true rfl) (Nat.le_of_ble_eq_true rfl) (Nat.le_of_ble_eq_true rfl) dX0_rebase_14 ?_
  refine lv_istore hx hb dX0_rebase_17 hl (by decide) rfl (fun ls hl => ?_)
  have hl : lv_has ls 6 [(4, .int _), (0, .ref _), (1, .int _), (2, .int _), (3, .int _)] := hl
  refine lv_iload hx hb dX0_rebase_19 (lv_at hl 0 rfl) ?_
  refine lv_istore hx hb dX0_rebase_21 hl (by decide) rfl (fun ls hl => ?_)
  have hl : lv_has ls 6 [(5, .int _), (4, .int _), (0, .ref _), (1, .int _), (2, .int _), (3, .int _)] := hl
  obtain ⟨g, k9, eg, ek, g1, g2⟩ := hw.gone hc12 b
  have hl : lv_has ls 6 [(5, .int (qs_gone u i b)), (4, .int (qs_gone u i b)), (0, .ref (L.1 3 i)), (1, .int b), (2, .int t), (3, .int x)] := hl
  rw [eg] at hl
  refine mz_loop (k9 - g) (P := fun j ls H locs => lv_has ls 6 [(5, .int (nI (g + j))), (4, .int (nI g)), (0, .ref (L.1 3 i)), (1, .int b), (2, .int t), (3, .int x)] ∧ qG D L (qs_mv u i g j) H ∧ va_S (qA L) s.heap H locs ∧ j ≤ k9 - g) (fun _ _ _ _ h => h.2.2.2) ?_ 0 _ _ _ ⟨hl, hG, hS, Nat.zero_le _⟩
  intro j ls H locs ⟨hl, hG, hS, hj⟩ ih
  refine lv_iload hx hb dX0_rebase_23 (lv_at hl 0 rfl) ?_
  refine lv_aload_n hx hb dX0_rebase_25 rfl (lv_at hl 2 rfl) ?_
  refine qg_3 (f := 3) (v := .int (u 3 i 3)) hx hb htz tin_X0 hown hK hG hi (htz _ fX0_22) (by decide) (by simp [qf3, qs_mv_o]) dX0_rebase_26 ?_
  refine mz_icmp_ge hx hb dX0_rebase_29 (tgt := 72) rfl (fun h0 h0' => ?_) (fun h0 h0' => ?_)
  · rw [ek, nI_leI (by omega) (by omega)] at h0'
    refine lv_aload_n hx hb dX0_rebase_72 rfl (lv_at hl 2 rfl) ?_
    refine lv_dup hx hb dX0_rebase_73 rfl ?_
    refine qg_3 (f := 3) (v := .int (u 3 i 3)) hx hb htz tin_X0 hown hK hG hi (htz _ fX0_22) (by decide) (by simp [qf3, qs_mv_o]) dX0_rebase_74 ?_
    refine lv_iload hx hb dX0_rebase_77 (lv_at hl 1 rfl) ?_
    refine lv_isub hx hb dX0_rebase_79 ?_
    refine qp_3_3 hx hb htz tin_X0 hown hL hK hG hS hi (htz _ fX0_22) dX0_rebase_80 (fun H locs hG hS => ?_)
    refine lv_aload_n hx hb dX0_rebase_83 rfl (lv_at hl 2 rfl) ?_
    refine lv_iload_n hx hb dX0_rebase_84 rfl (lv_at hl 3 rfl) ?_
    refine qp_3_0 hx hb htz tin_X0 hown hL hK hG hS hi (htz _ fX0_18) dX0_rebase_85 (fun H locs hG hS => ?_)
    refine lv_aload_n hx hb dX0_rebase_88 rfl (lv_at hl 2 rfl) ?_
    refine lv_iload_n hx hb dX0_rebase_89 rfl (lv_at hl 4 rfl) ?_
    refine qp_3_1 hx hb htz tin_X0 hown hL hK hG hS hi (htz _ fX0_25) dX0_rebase_90 (fun H locs hG hS => ?_)
    refine lv_aload_n hx hb dX0_rebase_93 rfl (lv_at hl 2 rfl) ?_
    refine lv_iload_n hx hb dX0_rebase_94 rfl (lv_at hl 5 rfl) ?_
    refine qp_3_2 hx hb htz tin_X0 hown hL hK hG hS hi (htz _ fX0_32) dX0_rebase_95 (fun H locs hG hS => ?_)
    exact mz_vret hx hb hr hlk qK_ok hK hS hG dX0_rebase_98 (by rw [qs_rebase, eg, ek, pk_sub (by omega), nI_clamp (by omega), nI_clamp (by omega), show k9 - g = j by omega])
  · rw [ek, nI_ltI (by omega) (by omega)] at h0
    refine lv_aload_n hx hb dX0_rebase_32 rfl (lv_at hl 2 rfl) ?_
    refine qg_3 (f := 4) hx hb htz tin_X0 hown hK hG hi (htz _ fX0_9) (by decide) rfl dX0_rebase_33 ?_
    refine lv_iload hx hb dX0_rebase_36 (lv_at hl 0 rfl) ?_
    refine lv_iload hx hb dX0_rebase_38 (lv_at hl 1 rfl) ?_
    refine lv_isub hx hb dX0_rebase_40 ?_
    rw [pk_sub (by omega), show g + j - g = j by omega]
    refine lv_aload_n hx hb dX0_rebase_41 rfl (lv_at hl 2 rfl) ?_
    refine qg_3 (f := 4) hx hb htz tin_X0 hown hK hG hi (htz _ fX0_9) (by decide) rfl dX0_rebase_42 ?_
    refine lv_iload hx hb dX0_rebase_45 (lv_at hl 0 rfl) ?_
    refine qa_4 hx hb hK hG hi (vp_in_nI (by omega) (by omega)) dX0_rebase_47 ?_
    rw [nI_clamp (by omega)]
    refine qt_4 hx hb hL hK hG hS hi (vp_in_nI (by omega) (by omega)) dX0_rebase_48 (fun H locs hG hS => ?_)
    rw [nI_clamp (by omega)] at hG
    refine lv_aload_n hx hb dX0_rebase_49 rfl (lv_at hl 2 rfl) ?_
    refine qg_3 (f := 5) hx hb htz tin_X0 hown hK hG hi (htz _ fX0_15) (by decide) rfl dX0_rebase_50 ?_
    refine lv_iload hx hb dX0_rebase_53 (lv_at hl 0 rfl) ?_
    refine lv_iload hx hb dX0_rebase_55 (lv_at hl 1 rfl) ?_
    refine lv_isub hx hb dX0_rebase_57 ?_
    rw [pk_sub (by omega), show g + j - g = j by omega]
    refine lv_aload_n hx hb dX0_rebase_58 rfl (lv_at hl 2 rfl) ?_
    refine qg_3 (f := 5) hx hb htz tin_X0 hown hK hG hi (htz _ fX0_15) (by decide) rfl dX0_rebase_59 ?_
    refine lv_iload hx hb dX0_rebase_62 (lv_at hl 0 rfl) ?_
    refine qa_5 hx hb hK hG hi (vp_in_nI (by omega) (by omega)) dX0_rebase_64 ?_
    rw [nI_clamp (by omega), mz_uk (k := 4) (k' := 5) (by decide)]
    refine qt_5 hx hb hL hK hG hS hi (vp_in_nI (by omega) (by omega)) dX0_rebase_65 (fun H locs hG hS => ?_)
    rw [nI_clamp (by omega)] at hG
    refine lv_iinc (k := 0) hx hb dX0_rebase_66 hl rfl (nI_1 (g + j)) (by decide) rfl (fun ls hl => ?_)
    have hl : lv_has ls 6 [(5, .int _), (4, .int _), (0, .ref _), (1, .int _), (2, .int _), (3, .int _)] := hl
    refine lv_goto hx hb dX0_rebase_69 (tgt := 23) rfl ?_
    exact ih (by omega) _ _ _ ⟨hl, hG, hS, by omega⟩
end
section
set_option maxRecDepth 100000 in
set_option maxHeartbeats 4000000 in
theorem qc_enterTerm (l : Launch) (D : va_G) (L : qL) (hL : qL_ok L) (u : mz_S) (i : Nat) (hi : i < ql_n L) (t : Int32) : mz_Cv l (qG D L) (qK D L) (qA L) yX3_enterTerm (tz_w yX3_enterTerm cX3_enterTerm 2 none) ({ frames := 0, cells := 0, slots := 0, locals := 0 } : Room) [.ref (L.1 2 i), .int t] u (qs_enter u i t) := by
  refine mz_Cv.of (cc := cX3_enterTerm) (maxL := 2) (ret := none) (by decide) rfl (Nat.le_of_ble_eq_true rfl) ?_
  intro p e s m args below meth c ls hx hb hr hlk hml hown hts hl hG hK hS
  have hl : lv_has ls 2 [(0, .ref (L.1 2 i)), (1, .int t)] := hl
  have htz : ∀ w ∈ tz, w.before args s = true := fun w h => hts w (List.mem_cons_of_mem _ h)
  refine lv_aload_n hx hb dX3_enterTerm_0 rfl (lv_at hl 0 rfl) ?_
  refine lv_iload_n hx hb dX3_enterTerm_1 rfl (lv_at hl 1 rfl) ?_
  refine qp_2_3 hx hb htz tin_X3 hown hL hK hG hS hi (htz _ fX3_45) dX3_enterTerm_2 (fun H locs hG hS => ?_)
  refine lv_aload_n hx hb dX3_enterTerm_5 rfl (lv_at hl 0 rfl) ?_
  refine lv_iconst (v := 0) hx hb dX3_enterTerm_6 (by decide) ?_
  refine qp_2_2 hx hb htz tin_X3 hown hL hK hG hS hi (htz _ fX3_15) dX3_enterTerm_7 (fun H locs hG hS => ?_)
  refine lv_aload_n hx hb dX3_enterTerm_10 rfl (lv_at hl 0 rfl) ?_
  refine lv_iconst (v := (-1)) hx hb dX3_enterTerm_11 (by decide) ?_
  refine qp_2_4 hx hb htz tin_X3 hown hL hK hG hS hi (htz _ fX3_19) dX3_enterTerm_12 (fun H locs hG hS => ?_)
  exact mz_vret hx hb hr hlk qK_ok hK hS hG dX3_enterTerm_15 rfl

set_option maxRecDepth 100000 in
set_option maxHeartbeats 4000000 in
theorem qc_stand (l : Launch) (D : va_G) (L : qL) (hL : qL_ok L) (u : mz_S) (i : Nat) (hi : i < ql_n L) : mz_Cv l (qG D L) (qK D L) (qA L) yX3_stand (tz_w yX3_stand cX3_stand 2 none) ({ frames := 1, cells := 0, slots := 0, locals := 21 } : Room) [.ref (L.1 2 i)] u (qs_stand (ql_n L) u i) := by
  refine mz_Cv.of (cc := cX3_stand) (maxL := 2) (ret := none) (by decide) rfl (Nat.le_of_ble_eq_true rfl) ?_
  intro p e s m args below meth c ls hx hb hr hlk hml hown hts hl hG hK hS
  have hl : lv_has ls 2 [(0, .ref (L.1 2 i))] := hl
  have htz : ∀ w ∈ tz, w.before args s = true := fun w h => hts w (List.mem_cons_of_mem _ h)
  have hc12 : ql_c L ≤ 12 := hL.1.2.2.2.1
  have hn5 : ql_n L ≤ 5 := hL.1.2.1
  have h40 : ql_S L ≤ 40 := hL.1.2.2.2.2.2
  refine lv_aload_n hx hb dX3_stand_0 rfl (lv_at hl 0 rfl) ?_
  refine lv_aload_n hx hb dX3_stand_1 rfl (lv_at hl 0 rfl) ?_
  refine qg_2 (f := 3) hx hb htz tin_X3 hown hK hG hi (htz _ fX3_45) (by decide) rfl dX3_stand_2 ?_
  refine lv_iconst (v := 1) hx hb dX3_stand_5 (by decide) ?_
  refine lv_iadd hx hb dX3_stand_6 ?_
  refine mz_Vv (As := [.int _]) (rest := []) ⟨hx, hb, hml, hown, hts⟩ (qc_enterTerm l D L hL _ i hi _) (tz_V htz mX3_enterTerm lX3_48 rfl rfl ⟨Nat.le_of_ble_eq_true rfl, Nat.le_of_ble_eq_true rfl⟩) (qrecv_2 hK hG hi) qK_ok hK hG hS rfl hl.1 rfl (Nat.le_of_ble_eq_true rfl) dX3_stand_7 ⟨Nat.zero_le _, Nat.zero_le _⟩ (fun H locs hG hS => ?_)
  refine lv_aload_n hx hb dX3_stand_10 rfl (lv_at hl 0 rfl) ?_
  refine lv_iconst (v := 1) hx hb dX3_stand_11 (by decide) ?_
  refine qp_2_2 hx hb htz tin_X3 hown hL hK hG hS hi (htz _ fX3_15) dX3_stand_12 (fun H locs hG hS => ?_)
  refine lv_aload_n hx hb dX3_stand_15 rfl (lv_at hl 0 rfl) ?_
  refine lv_aload_n hx hb dX3_stand_16 rfl (lv_at hl 0 rfl) ?_
  refine qg_2 (f := 0) (v := .int (u 2 i 0)) hx hb htz tin_X3 hown hK hG hi (htz _ fX3_22) (by decide) (by simp [qf2, qs_enter, mz_at]) dX3_stand_17 ?_
  refine qp_2_4 hx hb htz tin_X3 hown hL hK hG hS hi (htz _ fX3_19) dX3_stand_20 (fun H locs hG hS => ?_)
  refine lv_iconst (v := 0) hx hb dX3_stand_23 (by decide) ?_
  refine lv_istore_n hx hb dX3_stand_24 rfl hl (by decide) rfl (fun ls hl => ?_)
  have hl : lv_has ls 2 [(1, .int _), (0, .ref _)] := hl
  obtain ⟨w, hw⟩ : ∃ w, w = mz_u (mz_u (qs_enter u i (u 2 i 3 + 1)) 2 i 2 1) 2 i 4 (u 2 i 0) := ⟨_, rfl⟩
  rw [← hw] at hG
  refine mz_loop (ql_n L) (P := fun j ls H locs => lv_has ls 2 [(1, .int (nI j)), (0, .ref (L.1 2 i))] ∧ qG D L (qs_sv w i j) H ∧ va_S (qA L) s.heap H locs ∧ j ≤ ql_n L) (fun _ _ _ _ h => h.2.2.2) ?_ 0 _ _ _ ⟨hl, hG, hS, Nat.zero_le _⟩
  intro j ls H locs ⟨hl, hG, hS, hj⟩ ih
  refine lv_iload_n hx hb dX3_stand_25 rfl (lv_at hl 0 rfl) ?_
  refine lv_aload_n hx hb dX3_stand_26 rfl (lv_at hl 1 rfl) ?_
  refine qg_2 (f := 7) hx hb htz tin_X3 hown hK hG hi (htz _ fX3_34) (by decide) rfl dX3_stand_27 ?_
  refine qz_6 hx hb hK hG hi dX3_stand_30 ?_
  refine mz_icmp_ge hx hb dX3_stand_31 (tgt := 59) rfl (fun h0 h0' => ?_) (fun h0 h0' => ?_)
  · rw [nI_leI (by omega) (by omega)] at h0'
    exact mz_vret hx hb hr hlk qK_ok hK hS hG dX3_stand_59 (by unfold qs_stand; rw [← hw, show ql_n L = j by omega])
  · rw [nI_ltI (by omega) (by omega)] at h0
    refine lv_aload_n hx hb dX3_stand_34 rfl (lv_at hl 1 rfl) ?_
    refine qg_2 (f := 7) hx hb htz tin_X3 hown hK hG hi (htz _ fX3_34) (by decide) rfl dX3_stand_35 ?_
    refine lv_iload_n hx hb dX3_stand_38 rfl (lv_at hl 0 rfl) ?_
    refine lv_iload_n hx hb dX3_stand_39 rfl (lv_at hl 0 rfl) ?_
    refine lv_aload_n hx hb dX3_stand_40 rfl (lv_at hl 1 rfl) ?_
    refine qg_2 (f := 0) (v := .int (w 2 i 0)) hx hb htz tin_X3 hown hK hG hi (htz _ fX3_22) (by decide) (by simp [qf2, qs_sv_o]) dX3_stand_41 ?_
    refine lv_icmp_ne hx hb dX3_stand_44 (tgt := 51) rfl (fun h1 => ?_) (fun h1 => ?_)
    · refine lv_iconst (v := 0) hx hb dX3_stand_51 (by decide) ?_
      refine qt_6 hx hb hL hK hG hS hi (vp_in_nI (by omega) (by omega)) (by decide) dX3_stand_52 (fun H locs hG hS => ?_)
      rw [nI_clamp (by omega)] at hG
      refine lv_iinc (k := 0) hx hb dX3_stand_53 hl rfl (nI_1 j) (by decide) rfl (fun ls hl => ?_)
      have hl : lv_has ls 2 [(1, .int _), (0, .ref _)] := hl
      refine lv_goto hx hb dX3_stand_56 (tgt := 25) rfl ?_
      exact ih (by omega) _ _ _ ⟨hl, by first | (rw [qs_sv, mz_b_t h1]; exact hG) | (rw [qs_sv, mz_b_f h1]; exact hG), hS, by omega⟩
    · refine lv_iconst (v := 1) hx hb dX3_stand_47 (by decide) ?_
      refine lv_goto hx hb dX3_stand_48 (tgt := 52) rfl ?_
      refine qt_6 hx hb hL hK hG hS hi (vp_in_nI (by omega) (by omega)) (by decide) dX3_stand_52 (fun H locs hG hS => ?_)
      rw [nI_clamp (by omega)] at hG
      refine lv_iinc (k := 0) hx hb dX3_stand_53 hl rfl (nI_1 j) (by decide) rfl (fun ls hl => ?_)
      have hl : lv_has ls 2 [(1, .int _), (0, .ref _)] := hl
      refine lv_goto hx hb dX3_stand_56 (tgt := 25) rfl ?_
      exact ih (by omega) _ _ _ ⟨hl, by first | (rw [qs_sv, mz_b_t h1]; exact hG) | (rw [qs_sv, mz_b_f h1]; exact hG), hS, by omega⟩

set_option maxRecDepth 100000 in
set_option maxHeartbeats 4000000 in
theorem qc_lead (l : Launch) (D : va_G) (L : qL) (hL : qL_ok L) (u : mz_S) (i : Nat) (hi : i < ql_n L) : mz_Cv l (qG D L) (qK D L) (qA L) yX3_lead (tz_w yX3_lead cX3_lead 2 none) ({ frames := 1, cells := 0, slots := 0, locals := 20 } : Room) [.ref (L.1 2 i)] u (qs_lead (ql_n L) u i) := by
  refine mz_Cv.of (cc := cX3_lead) (maxL := 2) (ret := none) (by decide) rfl (Nat.le_of_ble_eq_true rfl) ?_
  intro p e s m args below meth c ls hx hb hr hlk hml hown hts hl hG hK hS
  have hl : lv_has ls 2 [(0, .ref (L.1 2 i))] := hl
  have htz : ∀ w ∈ tz, w.before args s = true := fun w h => hts w (List.mem_cons_of_mem _ h)
  have hc12 : ql_c L ≤ 12 := hL.1.2.2.2.1
  have hn5 : ql_n L ≤ 5 := hL.1.2.1
  have h40 : ql_S L ≤ 40 := hL.1.2.2.2.2.2
  refine lv_aload_n hx hb dX3_lead_0 rfl (lv_at hl 0 rfl) ?_
  refine lv_iconst (v := 2) hx hb dX3_lead_1 (by decide) ?_
  refine qp_2_2 hx hb htz tin_X3 hown hL hK hG hS hi (htz _ fX3_15) dX3_lead_2 (fun H locs hG hS => ?_)
  refine lv_iconst (v := 0) hx hb dX3_lead_5 (by decide) ?_
  refine lv_istore_n hx hb dX3_lead_6 rfl hl (by decide) rfl (fun ls hl => ?_)
  have hl : lv_has ls 2 [(1, .int _), (0, .ref _)] := hl
  obtain ⟨w, hw⟩ : ∃ w, w = mz_u u 2 i 2 2 := ⟨_, rfl⟩
  rw [← hw] at hG
  refine mz_loop (ql_n L) (P := fun j ls H locs => lv_has ls 2 [(1, .int (nI j)), (0, .ref (L.1 2 i))] ∧ qG D L (qs_lv w i j) H ∧ va_S (qA L) s.heap H locs ∧ j ≤ ql_n L) (fun _ _ _ _ h => h.2.2.2) ?_ 0 _ _ _ ⟨hl, hG, hS, Nat.zero_le _⟩
  intro j ls H locs ⟨hl, hG, hS, hj⟩ ih
  refine lv_iload_n hx hb dX3_lead_7 rfl (lv_at hl 0 rfl) ?_
  refine lv_aload_n hx hb dX3_lead_8 rfl (lv_at hl 1 rfl) ?_
  refine qg_2 (f := 8) hx hb htz tin_X3 hown hK hG hi (htz _ fX3_38) (by decide) rfl dX3_lead_9 ?_
  refine qz_7 hx hb hK hG hi dX3_lead_12 ?_
  refine mz_icmp_ge hx hb dX3_lead_13 (tgt := 44) rfl (fun h0 h0' => ?_) (fun h0 h0' => ?_)
  · rw [nI_leI (by omega) (by omega)] at h0'
    exact mz_vret hx hb hr hlk qK_ok hK hS hG dX3_lead_44 (by unfold qs_lead; rw [← hw, show ql_n L = j by omega])
  · rw [nI_ltI (by omega) (by omega)] at h0
    refine lv_aload_n hx hb dX3_lead_16 rfl (lv_at hl 1 rfl) ?_
    refine qg_2 (f := 8) hx hb htz tin_X3 hown hK hG hi (htz _ fX3_38) (by decide) rfl dX3_lead_17 ?_
    refine lv_iload_n hx hb dX3_lead_20 rfl (lv_at hl 0 rfl) ?_
    refine lv_aload_n hx hb dX3_lead_21 rfl (lv_at hl 1 rfl) ?_
    refine qg_2 (f := 6) hx hb htz tin_X3 hown hK hG hi (htz _ fX3_30) (by decide) rfl dX3_lead_22 ?_
    refine mz_Ni (As := []) (rest := [.int _, .ref _]) ⟨hx, hb, hml, hown, hts⟩ (qc_lastNumber l D L hL _ i hi) (tz_N htz mX0_lastNumber (hK.2 _ nX3_51) rfl rfl ⟨Nat.le_of_ble_eq_true rfl, Nat.le_of_ble_eq_true rfl⟩) (qrecv_3 hK hG hi) qK_ok hK hG hS rfl hl.1 rfl (Nat.le_of_ble_eq_true rfl) dX3_lead_25 ⟨Nat.zero_le _, Nat.zero_le _⟩ (fun H locs hG hS => ?_)
    rw [show qs_last (qs_lv w i j) i = qs_last w i from by simp [qs_last, qs_lv_o]]
    refine lv_iconst (v := 1) hx hb dX3_lead_28 (by decide) ?_
    refine lv_iadd hx hb dX3_lead_29 ?_
    refine qt_7 hx hb hL hK hG hS hi (vp_in_nI (by omega) (by omega)) dX3_lead_30 (fun H locs hG hS => ?_)
    rw [nI_clamp (by omega)] at hG
    refine lv_aload_n hx hb dX3_lead_31 rfl (lv_at hl 1 rfl) ?_
    refine qg_2 (f := 9) hx hb htz tin_X3 hown hK hG hi (htz _ fX3_42) (by decide) rfl dX3_lead_32 ?_
    refine lv_iload_n hx hb dX3_lead_35 rfl (lv_at hl 0 rfl) ?_
    refine lv_iconst (v := 0) hx hb dX3_lead_36 (by decide) ?_
    refine qt_8 hx hb hL hK hG hS hi (vp_in_nI (by omega) (by omega)) dX3_lead_37 (fun H locs hG hS => ?_)
    rw [nI_clamp (by omega)] at hG
    refine lv_iinc (k := 0) hx hb dX3_lead_38 hl rfl (nI_1 j) (by decide) rfl (fun ls hl => ?_)
    have hl : lv_has ls 2 [(1, .int _), (0, .ref _)] := hl
    refine lv_goto hx hb dX3_lead_41 (tgt := 7) rfl ?_
    exact ih (by omega) _ _ _ ⟨hl, hG, hS, by omega⟩

set_option maxRecDepth 100000 in
set_option maxHeartbeats 4000000 in
theorem qc_takeEntry (l : Launch) (D : va_G) (L : qL) (hL : qL_ok L) (u : mz_S) (i : Nat) (hi : i < ql_n L) (k t x : Int32) (hw : qw (ql_c L) u i) : mz_Cv l (qG D L) (qK D L) (qA L) yX3_takeEntry (tz_w yX3_takeEntry cX3_takeEntry 4 none) ({ frames := 2, cells := 0, slots := 0, locals := 42 } : Room) [.ref (L.1 2 i), .int k, .int t, .int x] u (qs_take (ql_c L) u i k t x) := by
  refine mz_Cv.of (cc := cX3_takeEntry) (maxL := 4) (ret := none) (by decide) rfl (Nat.le_of_ble_eq_true rfl) ?_
  intro p e s m args below meth c ls hx hb hr hlk hml hown hts hl hG hK hS
  have hl : lv_has ls 4 [(0, .ref (L.1 2 i)), (1, .int k), (2, .int t), (3, .int x)] := hl
  have htz : ∀ w ∈ tz, w.before args s = true := fun w h => hts w (List.mem_cons_of_mem _ h)
  have hc12 : ql_c L ≤ 12 := hL.1.2.2.2.1
  have hn5 : ql_n L ≤ 5 := hL.1.2.1
  have h40 : ql_S L ≤ 40 := hL.1.2.2.2.2.2
  refine lv_aload_n hx hb dX3_takeEntry_0 rfl (lv_at hl 0 rfl) ?_
  refine qg_2 (f := 6) hx hb htz tin_X3 hown hK hG hi (htz _ fX3_30) (by decide) rfl dX3_takeEntry_1 ?_
  refine lv_iload_n hx hb dX3_takeEntry_4 rfl (lv_at hl 1 rfl) ?_
  refine mz_Ni (As := [.int _]) (rest := []) ⟨hx, hb, hml, hown, hts⟩ (qc_hasEntry l D L hL _ i hi _) (tz_N htz mX0_hasEntry (hK.2 _ nX3_55) rfl rfl ⟨Nat.le_of_ble_eq_true rfl, Nat.le_of_ble_eq_true rfl⟩) (qrecv_3 hK hG hi) qK_ok hK hG hS rfl hl.1 rfl (Nat.le_of_ble_eq_true rfl) dX3_takeEntry_5 ⟨Nat.zero_le _, Nat.zero_le _⟩ (fun H locs hG hS => ?_)
  refine mz_ifeq_b hx hb dX3_takeEntry_8 (tgt := 49) rfl (fun h0 => ?_) (fun h0 => ?_)
  · obtain ⟨w, hw9, hG, hw2⟩ : ∃ w, w = qs_take1 u i k t ∧ qG D L w H ∧ qw (ql_c L) w i := by
      first
        | exact ⟨_, (by rw [qs_take1, if_neg (fun z => h0 z.1)]), hG, hw⟩
        | exact ⟨_, (by rw [qs_take1, if_neg (fun z => z.2 h1)]), hG, hw⟩
        | exact ⟨_, (by rw [qs_take1, if_pos ⟨h0, h1⟩]), hG, (hw.cut hc12 k).same (by simp [qs_cutc, mz_at]) (by simp [qs_cutc, mz_at])⟩
    refine lv_aload_n hx hb dX3_takeEntry_49 rfl (lv_at hl 0 rfl) ?_
    refine qg_2 (f := 6) hx hb htz tin_X3 hown hK hG hi (htz _ fX3_30) (by decide) rfl dX3_takeEntry_50 ?_
    refine lv_iload_n hx hb dX3_takeEntry_53 rfl (lv_at hl 1 rfl) ?_
    refine mz_Ni (As := [.int _]) (rest := []) ⟨hx, hb, hml, hown, hts⟩ (qc_hasEntry l D L hL _ i hi _) (tz_N htz mX0_hasEntry (hK.2 _ nX3_55) rfl rfl ⟨Nat.le_of_ble_eq_true rfl, Nat.le_of_ble_eq_true rfl⟩) (qrecv_3 hK hG hi) qK_ok hK hG hS rfl hl.1 rfl (Nat.le_of_ble_eq_true rfl) dX3_takeEntry_54 ⟨Nat.zero_le _, Nat.zero_le _⟩ (fun H locs hG hS => ?_)
    refine mz_ifne_b hx hb dX3_takeEntry_57 (tgt := 69) rfl (fun h2 => ?_) (fun h2 => ?_)
    · exact mz_vret hx hb hr hlk qK_ok hK hS hG dX3_takeEntry_69 (by rw [qs_take, ← hw9]; first | rw [if_pos h2] | rw [if_neg h2])
    · refine lv_aload_n hx hb dX3_takeEntry_60 rfl (lv_at hl 0 rfl) ?_
      refine qg_2 (f := 6) hx hb htz tin_X3 hown hK hG hi (htz _ fX3_30) (by decide) rfl dX3_takeEntry_61 ?_
      refine lv_iload_n hx hb dX3_takeEntry_64 rfl (lv_at hl 2 rfl) ?_
      refine lv_iload_n hx hb dX3_takeEntry_65 rfl (lv_at hl 3 rfl) ?_
      refine mz_Nv (As := [.int _, .int _]) (rest := []) ⟨hx, hb, hml, hown, hts⟩ (qc_add l D L hL _ i hi _ _ hw2) (tz_N htz mX0_add (hK.2 _ nX3_75) rfl rfl ⟨Nat.le_of_ble_eq_true rfl, Nat.le_of_ble_eq_true rfl⟩) (qrecv_3 hK hG hi) qK_ok hK hG hS rfl hl.1 rfl (Nat.le_of_ble_eq_true rfl) dX3_takeEntry_66 ⟨Nat.zero_le _, Nat.zero_le _⟩ (fun H locs hG hS => ?_)
      exact mz_vret hx hb hr hlk qK_ok hK hS hG dX3_takeEntry_69 (by rw [qs_take, ← hw9]; first | rw [if_pos h2] | rw [if_neg h2])
  · refine lv_aload_n hx hb dX3_takeEntry_11 rfl (lv_at hl 0 rfl) ?_
    refine qg_2 (f := 6) hx hb htz tin_X3 hown hK hG hi (htz _ fX3_30) (by decide) rfl dX3_takeEntry_12 ?_
    refine lv_iload_n hx hb dX3_takeEntry_15 rfl (lv_at hl 1 rfl) ?_
    refine mz_Ni (As := [.int _]) (rest := []) ⟨hx, hb, hml, hown, hts⟩ (qc_termOf l D L hL _ i hi _ hw) (tz_N htz mX0_termOf (hK.2 _ nX3_59) rfl rfl ⟨Nat.le_of_ble_eq_true rfl, Nat.le_of_ble_eq_true rfl⟩) (qrecv_3 hK hG hi) qK_ok hK hG hS rfl hl.1 rfl (Nat.le_of_ble_eq_true rfl) dX3_takeEntry_16 ⟨Nat.zero_le _, Nat.zero_le _⟩ (fun H locs hG hS => ?_)
    refine lv_iload_n hx hb dX3_takeEntry_19 rfl (lv_at hl 2 rfl) ?_
    refine lv_icmp_eq hx hb dX3_takeEntry_20 (tgt := 49) rfl (fun h1 => ?_) (fun h1 => ?_)
    · obtain ⟨w, hw9, hG, hw2⟩ : ∃ w, w = qs_take1 u i k t ∧ qG D L w H ∧ qw (ql_c L) w i := by
        first
          | exact ⟨_, (by rw [qs_take1, if_neg (fun z => h0 z.1)]), hG, hw⟩
          | exact ⟨_, (by rw [qs_take1, if_neg (fun z => z.2 h1)]), hG, hw⟩
          | exact ⟨_, (by rw [qs_take1, if_pos ⟨h0, h1⟩]), hG, (hw.cut hc12 k).same (by simp [qs_cutc, mz_at]) (by simp [qs_cutc, mz_at])⟩
      refine lv_aload_n hx hb dX3_takeEntry_49 rfl (lv_at hl 0 rfl) ?_
      refine qg_2 (f := 6) hx hb htz tin_X3 hown hK hG hi (htz _ fX3_30) (by decide) rfl dX3_takeEntry_50 ?_
      refine lv_iload_n hx hb dX3_takeEntry_53 rfl (lv_at hl 1 rfl) ?_
      refine mz_Ni (As := [.int _]) (rest := []) ⟨hx, hb, hml, hown, hts⟩ (qc_hasEntry l D L hL _ i hi _) (tz_N htz mX0_hasEntry (hK.2 _ nX3_55) rfl rfl ⟨Nat.le_of_ble_eq_true rfl, Nat.le_of_ble_eq_true rfl⟩) (qrecv_3 hK hG hi) qK_ok hK hG hS rfl hl.1 rfl (Nat.le_of_ble_eq_true rfl) dX3_takeEntry_54 ⟨Nat.zero_le _, Nat.zero_le _⟩ (fun H locs hG hS => ?_)
      refine mz_ifne_b hx hb dX3_takeEntry_57 (tgt := 69) rfl (fun h2 => ?_) (fun h2 => ?_)
      · exact mz_vret hx hb hr hlk qK_ok hK hS hG dX3_takeEntry_69 (by rw [qs_take, ← hw9]; first | rw [if_pos h2] | rw [if_neg h2])
      · refine lv_aload_n hx hb dX3_takeEntry_60 rfl (lv_at hl 0 rfl) ?_
        refine qg_2 (f := 6) hx hb htz tin_X3 hown hK hG hi (htz _ fX3_30) (by decide) rfl dX3_takeEntry_61 ?_
        refine lv_iload_n hx hb dX3_takeEntry_64 rfl (lv_at hl 2 rfl) ?_
        refine lv_iload_n hx hb dX3_takeEntry_65 rfl (lv_at hl 3 rfl) ?_
        refine mz_Nv (As := [.int _, .int _]) (rest := []) ⟨hx, hb, hml, hown, hts⟩ (qc_add l D L hL _ i hi _ _ hw2) (tz_N htz mX0_add (hK.2 _ nX3_75) rfl rfl ⟨Nat.le_of_ble_eq_true rfl, Nat.le_of_ble_eq_true rfl⟩) (qrecv_3 hK hG hi) qK_ok hK hG hS rfl hl.1 rfl (Nat.le_of_ble_eq_true rfl) dX3_takeEntry_66 ⟨Nat.zero_le _, Nat.zero_le _⟩ (fun H locs hG hS => ?_)
        exact mz_vret hx hb hr hlk qK_ok hK hS hG dX3_takeEntry_69 (by rw [qs_take, ← hw9]; first | rw [if_pos h2] | rw [if_neg h2])
    · refine lv_aload_n hx hb dX3_takeEntry_23 rfl (lv_at hl 0 rfl) ?_
      refine qg_2 (f := 6) hx hb htz tin_X3 hown hK hG hi (htz _ fX3_30) (by decide) rfl dX3_takeEntry_24 ?_
      refine lv_iload_n hx hb dX3_takeEntry_27 rfl (lv_at hl 1 rfl) ?_
      refine mz_Nv (As := [.int _]) (rest := []) ⟨hx, hb, hml, hown, hts⟩ (qc_cutFrom l D L hL _ i hi _) (tz_N htz mX0_cutFrom (hK.2 _ nX3_63) rfl rfl ⟨Nat.le_of_ble_eq_true rfl, Nat.le_of_ble_eq_true rfl⟩) (qrecv_3 hK hG hi) qK_ok hK hG hS rfl hl.1 rfl (Nat.le_of_ble_eq_true rfl) dX3_takeEntry_28 ⟨Nat.zero_le _, Nat.zero_le _⟩ (fun H locs hG hS => ?_)
      refine lv_aload_n hx hb dX3_takeEntry_31 rfl (lv_at hl 0 rfl) ?_
      refine lv_aload_n hx hb dX3_takeEntry_32 rfl (lv_at hl 0 rfl) ?_
      refine qg_2 (f := 5) (v := .int (u 2 i 5)) hx hb htz tin_X3 hown hK hG hi (htz _ fX3_66) (by decide) (by simp [qf2, qs_cut_o]) dX3_takeEntry_33 ?_
      refine lv_aload_n hx hb dX3_takeEntry_36 rfl (lv_at hl 0 rfl) ?_
      refine qg_2 (f := 6) hx hb htz tin_X3 hown hK hG hi (htz _ fX3_30) (by decide) rfl dX3_takeEntry_37 ?_
      refine mz_Ni (As := []) (rest := [.int _, .ref _]) ⟨hx, hb, hml, hown, hts⟩ (qc_lastNumber l D L hL _ i hi) (tz_N htz mX0_lastNumber (hK.2 _ nX3_51) rfl rfl ⟨Nat.le_of_ble_eq_true rfl, Nat.le_of_ble_eq_true rfl⟩) (qrecv_3 hK hG hi) qK_ok hK hG hS rfl hl.1 rfl (Nat.le_of_ble_eq_true rfl) dX3_takeEntry_40 ⟨Nat.zero_le _, Nat.zero_le _⟩ (fun H locs hG hS => ?_)
      refine va_mmin hx hb (hml.trans hl.1.symm) hown (htz _ lX3_69) (htz _ min_stat) (htz _ ini_Math) (htz _ min_code) (Nat.le_of_ble_eq_true rfl) (Nat.le_of_ble_eq_true rfl) (Nat.le_of_ble_eq_true rfl) (Nat.le_of_ble_eq_true rfl) dX3_takeEntry_43 ?_
      refine qp_2_5 hx hb htz tin_X3 hown hL hK hG hS hi (htz _ fX3_66) dX3_takeEntry_46 (fun H locs hG hS => ?_)
      have hG : qG D L (qs_cutc u i k) H := hG
      obtain ⟨w, hw9, hG, hw2⟩ : ∃ w, w = qs_take1 u i k t ∧ qG D L w H ∧ qw (ql_c L) w i := by
        first
          | exact ⟨_, (by rw [qs_take1, if_neg (fun z => h0 z.1)]), hG, hw⟩
          | exact ⟨_, (by rw [qs_take1, if_neg (fun z => z.2 h1)]), hG, hw⟩
          | exact ⟨_, (by rw [qs_take1, if_pos ⟨h0, h1⟩]), hG, (hw.cut hc12 k).same (by simp [qs_cutc, mz_at]) (by simp [qs_cutc, mz_at])⟩
      refine lv_aload_n hx hb dX3_takeEntry_49 rfl (lv_at hl 0 rfl) ?_
      refine qg_2 (f := 6) hx hb htz tin_X3 hown hK hG hi (htz _ fX3_30) (by decide) rfl dX3_takeEntry_50 ?_
      refine lv_iload_n hx hb dX3_takeEntry_53 rfl (lv_at hl 1 rfl) ?_
      refine mz_Ni (As := [.int _]) (rest := []) ⟨hx, hb, hml, hown, hts⟩ (qc_hasEntry l D L hL _ i hi _) (tz_N htz mX0_hasEntry (hK.2 _ nX3_55) rfl rfl ⟨Nat.le_of_ble_eq_true rfl, Nat.le_of_ble_eq_true rfl⟩) (qrecv_3 hK hG hi) qK_ok hK hG hS rfl hl.1 rfl (Nat.le_of_ble_eq_true rfl) dX3_takeEntry_54 ⟨Nat.zero_le _, Nat.zero_le _⟩ (fun H locs hG hS => ?_)
      refine mz_ifne_b hx hb dX3_takeEntry_57 (tgt := 69) rfl (fun h2 => ?_) (fun h2 => ?_)
      · exact mz_vret hx hb hr hlk qK_ok hK hS hG dX3_takeEntry_69 (by rw [qs_take, ← hw9]; first | rw [if_pos h2] | rw [if_neg h2])
      · refine lv_aload_n hx hb dX3_takeEntry_60 rfl (lv_at hl 0 rfl) ?_
        refine qg_2 (f := 6) hx hb htz tin_X3 hown hK hG hi (htz _ fX3_30) (by decide) rfl dX3_takeEntry_61 ?_
        refine lv_iload_n hx hb dX3_takeEntry_64 rfl (lv_at hl 2 rfl) ?_
        refine lv_iload_n hx hb dX3_takeEntry_65 rfl (lv_at hl 3 rfl) ?_
        refine mz_Nv (As := [.int _, .int _]) (rest := []) ⟨hx, hb, hml, hown, hts⟩ (qc_add l D L hL _ i hi _ _ hw2) (tz_N htz mX0_add (hK.2 _ nX3_75) rfl rfl ⟨Nat.le_of_ble_eq_true rfl, Nat.le_of_ble_eq_true rfl⟩) (qrecv_3 hK hG hi) qK_ok hK hG hS rfl hl.1 rfl (Nat.le_of_ble_eq_true rfl) dX3_takeEntry_66 ⟨Nat.zero_le _, Nat.zero_le _⟩ (fun H locs hG hS => ?_)
        exact mz_vret hx hb hr hlk qK_ok hK hS hG dX3_takeEntry_69 (by rw [qs_take, ← hw9]; first | rw [if_pos h2] | rw [if_neg h2])

set_option maxRecDepth 100000 in
set_option maxHeartbeats 4000000 in
theorem qc_countVoters (l : Launch) (D : va_G) (L : qL) (hL : qL_ok L) (u : mz_S) (i : Nat) (hi : i < ql_n L) : mz_Ci l (qG D L) (qK D L) (qA L) yX3_countVoters (tz_w yX3_countVoters cX3_countVoters 3 (some .int)) ({ frames := 0, cells := 0, slots := 0, locals := 0 } : Room) [.ref (L.1 2 i)] u (qs_cv u i (ql_n L)) (u) := by
  refine mz_Ci.of (cc := cX3_countVoters) (maxL := 3) (ret := (some .int)) (by decide) rfl (Nat.le_of_ble_eq_true rfl) ?_
  intro p e s m args below meth c ls hx hb hr hlk hml hown hts hl hG hK hS
  have hl : lv_has ls 3 [(0, .ref (L.1 2 i))] := hl
  have htz : ∀ w ∈ tz, w.before args s = true := fun w h => hts w (List.mem_cons_of_mem _ h)
  have hc12 : ql_c L ≤ 12 := hL.1.2.2.2.1
  have hn5 : ql_n L ≤ 5 := hL.1.2.1
  have h40 : ql_S L ≤ 40 := hL.1.2.2.2.2.2
  refine lv_iconst (v := 0) hx hb dX3_countVoters_0 (by decide) ?_
  refine lv_istore_n hx hb dX3_countVoters_1 rfl hl (by decide) rfl (fun ls hl => ?_)
  have hl : lv_has ls 3 [(1, .int _), (0, .ref _)] := hl
  refine lv_iconst (v := 0) hx hb dX3_countVoters_2 (by decide) ?_
  refine lv_istore_n hx hb dX3_countVoters_3 rfl hl (by decide) rfl (fun ls hl => ?_)
  have hl : lv_has ls 3 [(2, .int _), (1, .int _), (0, .ref _)] := hl
  refine mz_loop (ql_n L) (P := fun j ls H locs => lv_has ls 3 [(2, .int (nI j)), (1, .int (qs_cv u i j)), (0, .ref (L.1 2 i))] ∧ qG D L u H ∧ va_S (qA L) s.heap H locs ∧ j ≤ ql_n L) (fun _ _ _ _ h => h.2.2.2) ?_ 0 _ _ _ ⟨hl, hG, hS, Nat.zero_le _⟩
  intro j ls H locs ⟨hl, hG, hS, hj⟩ ih
  refine lv_iload_n hx hb dX3_countVoters_4 rfl (lv_at hl 0 rfl) ?_
  refine lv_aload_n hx hb dX3_countVoters_5 rfl (lv_at hl 2 rfl) ?_
  refine qg_2 (f := 7) hx hb htz tin_X3 hown hK hG hi (htz _ fX3_34) (by decide) rfl dX3_countVoters_6 ?_
  refine qz_6 hx hb hK hG hi dX3_countVoters_9 ?_
  refine mz_icmp_ge hx hb dX3_countVoters_10 (tgt := 31) rfl (fun h0 h0' => ?_) (fun h0 h0' => ?_)
  · rw [nI_leI (by omega) (by omega)] at h0'
    refine lv_iload_n hx hb dX3_countVoters_31 rfl (lv_at hl 1 rfl) ?_
    exact mz_iret hx hb hr hlk qK_ok hK hS hG dX3_countVoters_32 (by rw [show ql_n L = j by omega]) rfl
  · rw [nI_ltI (by omega) (by omega)] at h0
    refine lv_aload_n hx hb dX3_countVoters_13 rfl (lv_at hl 2 rfl) ?_
    refine qg_2 (f := 7) hx hb htz tin_X3 hown hK hG hi (htz _ fX3_34) (by decide) rfl dX3_countVoters_14 ?_
    refine lv_iload_n hx hb dX3_countVoters_17 rfl (lv_at hl 0 rfl) ?_
    refine qa_6 hx hb hK hG hi (vp_in_nI (by omega) (by omega)) dX3_countVoters_18 ?_
    rw [nI_clamp (by omega)]
    refine lv_if_eq hx hb dX3_countVoters_19 (tgt := 25) rfl (fun h1 => ?_) (fun h1 => ?_)
    · refine lv_iinc (k := 0) hx hb dX3_countVoters_25 hl rfl (nI_1 j) (by decide) rfl (fun ls hl => ?_)
      have hl : lv_has ls 3 [(2, .int _), (1, .int _), (0, .ref _)] := hl
      refine lv_goto hx hb dX3_countVoters_28 (tgt := 4) rfl ?_
      exact ih (by omega) _ _ _ ⟨by first | (rw [qs_cv_s, if_pos h1]; exact hl) | (rw [qs_cv_s, if_neg h1]; exact hl), hG, hS, by omega⟩
    · refine lv_iinc (k := 1) hx hb dX3_countVoters_22 hl rfl (show _ = qs_cv u i j + 1 from rfl) (by decide) rfl (fun ls hl => ?_)
      have hl : lv_has ls 3 [(1, .int _), (2, .int _), (0, .ref _)] := hl
      refine lv_iinc (k := 1) hx hb dX3_countVoters_25 hl rfl (nI_1 j) (by decide) rfl (fun ls hl => ?_)
      have hl : lv_has ls 3 [(2, .int _), (1, .int _), (0, .ref _)] := hl
      refine lv_goto hx hb dX3_countVoters_28 (tgt := 4) rfl ?_
      exact ih (by omega) _ _ _ ⟨by first | (rw [qs_cv_s, if_pos h1]; exact hl) | (rw [qs_cv_s, if_neg h1]; exact hl), hG, hS, by omega⟩

set_option maxRecDepth 100000 in
set_option maxHeartbeats 4000000 in
theorem qc_countHolders (l : Launch) (D : va_G) (L : qL) (hL : qL_ok L) (u : mz_S) (i : Nat) (hi : i < ql_n L) (x : Int32) : mz_Ci l (qG D L) (qK D L) (qA L) yX3_countHolders (tz_w yX3_countHolders cX3_countHolders 4 (some .int)) ({ frames := 0, cells := 0, slots := 0, locals := 0 } : Room) [.ref (L.1 2 i), .int x] u (qs_ch u i x (ql_n L)) (u) := by
  refine mz_Ci.of (cc := cX3_countHolders) (maxL := 4) (ret := (some .int)) (by decide) rfl (Nat.le_of_ble_eq_true rfl) ?_
  intro p e s m args below meth c ls hx hb hr hlk hml hown hts hl hG hK hS
  have hl : lv_has ls 4 [(0, .ref (L.1 2 i)), (1, .int x)] := hl
  have htz : ∀ w ∈ tz, w.before args s = true := fun w h => hts w (List.mem_cons_of_mem _ h)
  have hc12 : ql_c L ≤ 12 := hL.1.2.2.2.1
  have hn5 : ql_n L ≤ 5 := hL.1.2.1
  have h40 : ql_S L ≤ 40 := hL.1.2.2.2.2.2
  refine lv_iconst (v := 0) hx hb dX3_countHolders_0 (by decide) ?_
  refine lv_istore_n hx hb dX3_countHolders_1 rfl hl (by decide) rfl (fun ls hl => ?_)
  have hl : lv_has ls 4 [(2, .int _), (0, .ref _), (1, .int _)] := hl
  refine lv_iconst (v := 0) hx hb dX3_countHolders_2 (by decide) ?_
  refine lv_istore_n hx hb dX3_countHolders_3 rfl hl (by decide) rfl (fun ls hl => ?_)
  have hl : lv_has ls 4 [(3, .int _), (2, .int _), (0, .ref _), (1, .int _)] := hl
  refine mz_loop (ql_n L) (P := fun j ls H locs => lv_has ls 4 [(3, .int (nI j)), (2, .int (qs_ch u i x j)), (0, .ref (L.1 2 i)), (1, .int x)] ∧ qG D L u H ∧ va_S (qA L) s.heap H locs ∧ j ≤ ql_n L) (fun _ _ _ _ h => h.2.2.2) ?_ 0 _ _ _ ⟨hl, hG, hS, Nat.zero_le _⟩
  intro j ls H locs ⟨hl, hG, hS, hj⟩ ih
  refine lv_iload_n hx hb dX3_countHolders_4 rfl (lv_at hl 0 rfl) ?_
  refine lv_aload_n hx hb dX3_countHolders_5 rfl (lv_at hl 2 rfl) ?_
  refine qg_2 (f := 9) hx hb htz tin_X3 hown hK hG hi (htz _ fX3_42) (by decide) rfl dX3_countHolders_6 ?_
  refine qz_8 hx hb hK hG hi dX3_countHolders_9 ?_
  refine mz_icmp_ge hx hb dX3_countHolders_10 (tgt := 40) rfl (fun h0 h0' => ?_) (fun h0 h0' => ?_)
  · rw [nI_leI (by omega) (by omega)] at h0'
    refine lv_iload_n hx hb dX3_countHolders_40 rfl (lv_at hl 1 rfl) ?_
    exact mz_iret hx hb hr hlk qK_ok hK hS hG dX3_countHolders_41 (by rw [show ql_n L = j by omega]) rfl
  · rw [nI_ltI (by omega) (by omega)] at h0
    refine lv_iload_n hx hb dX3_countHolders_13 rfl (lv_at hl 0 rfl) ?_
    refine lv_aload_n hx hb dX3_countHolders_14 rfl (lv_at hl 2 rfl) ?_
    refine qg_2 (f := 0) hx hb htz tin_X3 hown hK hG hi (htz _ fX3_22) (by decide) rfl dX3_countHolders_15 ?_
    refine lv_icmp_eq hx hb dX3_countHolders_18 (tgt := 31) rfl (fun h1 => ?_) (fun h1 => ?_)
    · refine lv_iinc (k := 1) hx hb dX3_countHolders_31 hl rfl (show _ = qs_ch u i x j + 1 from rfl) (by decide) rfl (fun ls hl => ?_)
      have hl : lv_has ls 4 [(2, .int _), (3, .int _), (0, .ref _), (1, .int _)] := hl
      refine lv_iinc (k := 1) hx hb dX3_countHolders_34 hl rfl (nI_1 j) (by decide) rfl (fun ls hl => ?_)
      have hl : lv_has ls 4 [(3, .int _), (2, .int _), (0, .ref _), (1, .int _)] := hl
      refine lv_goto hx hb dX3_countHolders_37 (tgt := 4) rfl ?_
      exact ih (by omega) _ _ _ ⟨by first | (rw [qs_ch_s, if_pos (Or.inl h1)]; exact hl) | (rw [qs_ch_s, if_pos (Or.inr h2')]; exact hl) | (rw [qs_ch_s, if_neg (fun z => z.elim h1 h2')]; exact hl), hG, hS, by omega⟩
    · refine lv_aload_n hx hb dX3_countHolders_21 rfl (lv_at hl 2 rfl) ?_
      refine qg_2 (f := 9) hx hb htz tin_X3 hown hK hG hi (htz _ fX3_42) (by decide) rfl dX3_countHolders_22 ?_
      refine lv_iload_n hx hb dX3_countHolders_25 rfl (lv_at hl 0 rfl) ?_
      refine qa_8 hx hb hK hG hi (vp_in_nI (by omega) (by omega)) dX3_countHolders_26 ?_
      rw [nI_clamp (by omega)]
      refine lv_iload_n hx hb dX3_countHolders_27 rfl (lv_at hl 3 rfl) ?_
      refine mz_icmp_lt hx hb dX3_countHolders_28 (tgt := 34) rfl (fun h2 h2' => ?_) (fun h2 h2' => ?_)
      · refine lv_iinc (k := 0) hx hb dX3_countHolders_34 hl rfl (nI_1 j) (by decide) rfl (fun ls hl => ?_)
        have hl : lv_has ls 4 [(3, .int _), (2, .int _), (0, .ref _), (1, .int _)] := hl
        refine lv_goto hx hb dX3_countHolders_37 (tgt := 4) rfl ?_
        exact ih (by omega) _ _ _ ⟨by first | (rw [qs_ch_s, if_pos (Or.inl h1)]; exact hl) | (rw [qs_ch_s, if_pos (Or.inr h2')]; exact hl) | (rw [qs_ch_s, if_neg (fun z => z.elim h1 h2')]; exact hl), hG, hS, by omega⟩
      · refine lv_iinc (k := 1) hx hb dX3_countHolders_31 hl rfl (show _ = qs_ch u i x j + 1 from rfl) (by decide) rfl (fun ls hl => ?_)
        have hl : lv_has ls 4 [(2, .int _), (3, .int _), (0, .ref _), (1, .int _)] := hl
        refine lv_iinc (k := 1) hx hb dX3_countHolders_34 hl rfl (nI_1 j) (by decide) rfl (fun ls hl => ?_)
        have hl : lv_has ls 4 [(3, .int _), (2, .int _), (0, .ref _), (1, .int _)] := hl
        refine lv_goto hx hb dX3_countHolders_37 (tgt := 4) rfl ?_
        exact ih (by omega) _ _ _ ⟨by first | (rw [qs_ch_s, if_pos (Or.inl h1)]; exact hl) | (rw [qs_ch_s, if_pos (Or.inr h2')]; exact hl) | (rw [qs_ch_s, if_neg (fun z => z.elim h1 h2')]; exact hl), hG, hS, by omega⟩
end
section
set_option maxRecDepth 100000 in
set_option maxHeartbeats 4000000 in
theorem qc_begin (l : Launch) (D : va_G) (L : qL) (hL : qL_ok L) (u : mz_S) (j : Nat) (hj : j < ql_S L + 2) (k f t x : Int32) : mz_Cv l (qG D L) (qK D L) (qA L) yX1_begin (tz_w yX1_begin cX1_begin 5 none) ({ frames := 0, cells := 0, slots := 0, locals := 0 } : Room) [.ref (L.1 11 j), .int k, .int f, .int t, .int x] u (qs_begin u j k f t x) := by
  refine mz_Cv.of (cc := cX1_begin) (maxL := 5) (ret := none) (by decide) rfl (Nat.le_of_ble_eq_true rfl) ?_
  intro p e s m args below meth c ls hx hb hr hlk hml hown hts hl hG hK hS
  have hl : lv_has ls 5 [(0, .ref (L.1 11 j)), (1, .int k), (2, .int f), (3, .int t), (4, .int x)] := hl
  have htz : ∀ w ∈ tz, w.before args s = true := fun w h => hts w (List.mem_cons_of_mem _ h)
  refine lv_aload_n hx hb dX1_begin_0 rfl (lv_at hl 0 rfl) ?_
  refine lv_iload_n hx hb dX1_begin_1 rfl (lv_at hl 1 rfl) ?_
  refine qp_11_0 hx hb htz tin_X1 hown hL hK hG hS hj (htz _ fX1_7) dX1_begin_2 (fun H locs hG hS => ?_)
  refine lv_aload_n hx hb dX1_begin_5 rfl (lv_at hl 0 rfl) ?_
  refine lv_iload_n hx hb dX1_begin_6 rfl (lv_at hl 2 rfl) ?_
  refine qp_11_1 hx hb htz tin_X1 hown hL hK hG hS hj (htz _ fX1_13) dX1_begin_7 (fun H locs hG hS => ?_)
  refine lv_aload_n hx hb dX1_begin_10 rfl (lv_at hl 0 rfl) ?_
  refine lv_iload_n hx hb dX1_begin_11 rfl (lv_at hl 3 rfl) ?_
  refine qp_11_2 hx hb htz tin_X1 hown hL hK hG hS hj (htz _ fX1_16) dX1_begin_12 (fun H locs hG hS => ?_)
  refine lv_aload_n hx hb dX1_begin_15 rfl (lv_at hl 0 rfl) ?_
  refine lv_iload hx hb dX1_begin_16 (lv_at hl 4 rfl) ?_
  refine qp_11_3 hx hb htz tin_X1 hown hL hK hG hS hj (htz _ fX1_19) dX1_begin_18 (fun H locs hG hS => ?_)
  exact mz_vret hx hb hr hlk qK_ok hK hS hG dX1_begin_21 rfl

set_option maxRecDepth 100000 in
set_option maxHeartbeats 4000000 in
theorem qc_copy (l : Launch) (D : va_G) (L : qL) (hL : qL_ok L) (u : mz_S) (a b : Nat) (ha : a < ql_S L + 2) (hb9 : b < ql_S L + 2) : mz_Cv l (qG D L) (qK D L) (qA L) yX1_copy (tz_w yX1_copy cX1_copy 2 none) ({ frames := 0, cells := 0, slots := 0, locals := 0 } : Room) [.ref (L.1 11 a), .ref (L.1 11 b)] u (qs_copy u a b) := by
  refine mz_Cv.of (cc := cX1_copy) (maxL := 2) (ret := none) (by decide) rfl (Nat.le_of_ble_eq_true rfl) ?_
  intro p e s m args below meth c ls hx hb hr hlk hml hown hts hl hG hK hS
  have hl : lv_has ls 2 [(0, .ref (L.1 11 a)), (1, .ref (L.1 11 b))] := hl
  have htz : ∀ w ∈ tz, w.before args s = true := fun w h => hts w (List.mem_cons_of_mem _ h)
  refine lv_aload_n hx hb dX1_copy_0 rfl (lv_at hl 0 rfl) ?_
  refine lv_aload_n hx hb dX1_copy_1 rfl (lv_at hl 1 rfl) ?_
  refine qg_11 (f := 0) (v := .int (u 11 b 0)) hx hb htz tin_X1 hown hK hG hb9 (htz _ fX1_7) (by decide) (by simp [qf11, mz_at]) dX1_copy_2 ?_
  refine qp_11_0 hx hb htz tin_X1 hown hL hK hG hS ha (htz _ fX1_7) dX1_copy_5 (fun H locs hG hS => ?_)
  refine lv_aload_n hx hb dX1_copy_8 rfl (lv_at hl 0 rfl) ?_
  refine lv_aload_n hx hb dX1_copy_9 rfl (lv_at hl 1 rfl) ?_
  refine qg_11 (f := 1) (v := .int (u 11 b 1)) hx hb htz tin_X1 hown hK hG hb9 (htz _ fX1_13) (by decide) (by simp [qf11, mz_at]) dX1_copy_10 ?_
  refine qp_11_1 hx hb htz tin_X1 hown hL hK hG hS ha (htz _ fX1_13) dX1_copy_13 (fun H locs hG hS => ?_)
  refine lv_aload_n hx hb dX1_copy_16 rfl (lv_at hl 0 rfl) ?_
  refine lv_aload_n hx hb dX1_copy_17 rfl (lv_at hl 1 rfl) ?_
  refine qg_11 (f := 2) (v := .int (u 11 b 2)) hx hb htz tin_X1 hown hK hG hb9 (htz _ fX1_16) (by decide) (by simp [qf11, mz_at]) dX1_copy_18 ?_
  refine qp_11_2 hx hb htz tin_X1 hown hL hK hG hS ha (htz _ fX1_16) dX1_copy_21 (fun H locs hG hS => ?_)
  refine lv_aload_n hx hb dX1_copy_24 rfl (lv_at hl 0 rfl) ?_
  refine lv_aload_n hx hb dX1_copy_25 rfl (lv_at hl 1 rfl) ?_
  refine qg_11 (f := 3) (v := .int (u 11 b 3)) hx hb htz tin_X1 hown hK hG hb9 (htz _ fX1_19) (by decide) (by simp [qf11, mz_at]) dX1_copy_26 ?_
  refine qp_11_3 hx hb htz tin_X1 hown hL hK hG hS ha (htz _ fX1_19) dX1_copy_29 (fun H locs hG hS => ?_)
  refine lv_aload_n hx hb dX1_copy_32 rfl (lv_at hl 0 rfl) ?_
  refine lv_aload_n hx hb dX1_copy_33 rfl (lv_at hl 1 rfl) ?_
  refine qg_11 (f := 4) (v := .int (u 11 b 4)) hx hb htz tin_X1 hown hK hG hb9 (htz _ fX1_22) (by decide) (by simp [qf11, mz_at]) dX1_copy_34 ?_
  refine qp_11_4 hx hb htz tin_X1 hown hL hK hG hS ha (htz _ fX1_22) dX1_copy_37 (fun H locs hG hS => ?_)
  refine lv_aload_n hx hb dX1_copy_40 rfl (lv_at hl 0 rfl) ?_
  refine lv_aload_n hx hb dX1_copy_41 rfl (lv_at hl 1 rfl) ?_
  refine qg_11 (f := 5) (v := .int (u 11 b 5)) hx hb htz tin_X1 hown hK hG hb9 (htz _ fX1_25) (by decide) (by simp [qf11, mz_at]) dX1_copy_42 ?_
  refine qp_11_5 hx hb htz tin_X1 hown hL hK hG hS ha (htz _ fX1_25) dX1_copy_45 (fun H locs hG hS => ?_)
  refine lv_aload_n hx hb dX1_copy_48 rfl (lv_at hl 0 rfl) ?_
  refine lv_aload_n hx hb dX1_copy_49 rfl (lv_at hl 1 rfl) ?_
  refine qg_11 (f := 6) (v := .int (mz_b (u 11 b 6 ≠ 0))) hx hb htz tin_X1 hown hK hG hb9 (htz _ fX1_28) (by decide) (by simp [qf11, mz_at]) dX1_copy_50 ?_
  refine qp_11_6 hx hb htz tin_X1 hown hL hK hG hS ha (htz _ fX1_28) mz_bb dX1_copy_53 (fun H locs hG hS => ?_)
  refine lv_aload_n hx hb dX1_copy_56 rfl (lv_at hl 0 rfl) ?_
  refine lv_aload_n hx hb dX1_copy_57 rfl (lv_at hl 1 rfl) ?_
  refine qg_11 (f := 7) (v := .int (mz_b (u 11 b 7 ≠ 0))) hx hb htz tin_X1 hown hK hG hb9 (htz _ fX1_32) (by decide) (by simp [qf11, mz_at]) dX1_copy_58 ?_
  refine qp_11_7 hx hb htz tin_X1 hown hL hK hG hS ha (htz _ fX1_32) mz_bb dX1_copy_61 (fun H locs hG hS => ?_)
  refine lv_aload_n hx hb dX1_copy_64 rfl (lv_at hl 0 rfl) ?_
  refine lv_aload_n hx hb dX1_copy_65 rfl (lv_at hl 1 rfl) ?_
  refine qg_11 (f := 8) (v := .int (u 11 b 8)) hx hb htz tin_X1 hown hK hG hb9 (htz _ fX1_35) (by decide) (by simp [qf11, mz_at]) dX1_copy_66 ?_
  refine qp_11_8 hx hb htz tin_X1 hown hL hK hG hS ha (htz _ fX1_35) dX1_copy_69 (fun H locs hG hS => ?_)
  refine lv_aload_n hx hb dX1_copy_72 rfl (lv_at hl 0 rfl) ?_
  refine lv_aload_n hx hb dX1_copy_73 rfl (lv_at hl 1 rfl) ?_
  refine qg_11 (f := 9) (v := .int (u 11 b 9)) hx hb htz tin_X1 hown hK hG hb9 (htz _ fX1_38) (by decide) (by simp [qf11, mz_at]) dX1_copy_74 ?_
  refine qp_11_9 hx hb htz tin_X1 hown hL hK hG hS ha (htz _ fX1_38) dX1_copy_77 (fun H locs hG hS => ?_)
  refine lv_aload_n hx hb dX1_copy_80 rfl (lv_at hl 0 rfl) ?_
  refine lv_aload_n hx hb dX1_copy_81 rfl (lv_at hl 1 rfl) ?_
  refine qg_11 (f := 10) (v := .int (u 11 b 10)) hx hb htz tin_X1 hown hK hG hb9 (htz _ fX1_41) (by decide) (by simp [qf11, mz_at]) dX1_copy_82 ?_
  refine qp_11_10 hx hb htz tin_X1 hown hL hK hG hS ha (htz _ fX1_41) dX1_copy_85 (fun H locs hG hS => ?_)
  refine lv_aload_n hx hb dX1_copy_88 rfl (lv_at hl 0 rfl) ?_
  refine lv_aload_n hx hb dX1_copy_89 rfl (lv_at hl 1 rfl) ?_
  refine qg_11 (f := 11) (v := .int (u 11 b 11)) hx hb htz tin_X1 hown hK hG hb9 (htz _ fX1_44) (by decide) (by simp [qf11, mz_at]) dX1_copy_90 ?_
  refine qp_11_11 hx hb htz tin_X1 hown hL hK hG hS ha (htz _ fX1_44) dX1_copy_93 (fun H locs hG hS => ?_)
  exact mz_vret hx hb hr hlk qK_ok hK hS hG dX1_copy_96 rfl

set_option maxRecDepth 100000 in
set_option maxHeartbeats 4000000 in
theorem qc_isSlot (l : Launch) (D : va_G) (L : qL) (hL : qL_ok L) (u : mz_S) (x : Int32) : mz_Ci l (qG D L) (qK D L) (qA L) yX2_isSlot (tz_w yX2_isSlot cX2_isSlot 2 (some .boolean)) ({ frames := 0, cells := 0, slots := 0, locals := 0 } : Room) [.ref (L.1 9 0), .int x] u (mz_b (qs_isN (ql_S L) x)) (u) := by
  refine mz_Ci.of (cc := cX2_isSlot) (maxL := 2) (ret := (some .boolean)) (by decide) rfl (Nat.le_of_ble_eq_true rfl) ?_
  intro p e s m args below meth c ls hx hb hr hlk hml hown hts hl hG hK hS
  have hl : lv_has ls 2 [(0, .ref (L.1 9 0)), (1, .int x)] := hl
  have htz : ∀ w ∈ tz, w.before args s = true := fun w h => hts w (List.mem_cons_of_mem _ h)
  refine lv_iload_n hx hb dX2_isSlot_0 rfl (lv_at hl 1 rfl) ?_
  refine mz_if_lt hx hb dX2_isSlot_1 (tgt := 17) rfl (fun h_1 h_1' => ?_) (fun h_1 h_1' => ?_)
  · refine lv_iconst (v := 0) hx hb dX2_isSlot_17 (by decide) ?_
    exact mz_zret hx hb hr hlk qK_ok hK hS hG dX2_isSlot_18 (by decide) (by simp [mz_b, qs_isN, h_1, h_1']) rfl
  · refine lv_iload_n hx hb dX2_isSlot_4 rfl (lv_at hl 1 rfl) ?_
    refine lv_aload_n hx hb dX2_isSlot_5 rfl (lv_at hl 0 rfl) ?_
    refine qg_9 (f := 0) hx hb htz tin_X2 hown hK hG (by decide) (htz _ fX2_11) (by decide) rfl dX2_isSlot_6 ?_
    refine qz_10 hx hb hK hG (by decide) dX2_isSlot_9 ?_
    refine mz_icmp_ge hx hb dX2_isSlot_10 (tgt := 17) rfl (fun h_2 h_2' => ?_) (fun h_2 h_2' => ?_)
    · refine lv_iconst (v := 0) hx hb dX2_isSlot_17 (by decide) ?_
      exact mz_zret hx hb hr hlk qK_ok hK hS hG dX2_isSlot_18 (by decide) (by simp [mz_b, qs_isN, h_1, h_1', h_2, h_2']) rfl
    · refine lv_iconst (v := 1) hx hb dX2_isSlot_13 (by decide) ?_
      refine lv_goto hx hb dX2_isSlot_14 (tgt := 18) rfl ?_
      exact mz_zret hx hb hr hlk qK_ok hK hS hG dX2_isSlot_18 (by decide) (by simp [mz_b, qs_isN, h_1, h_1', h_2, h_2']) rfl

set_option maxRecDepth 100000 in
set_option maxHeartbeats 4000000 in
theorem qc_isFree (l : Launch) (D : va_G) (L : qL) (hL : qL_ok L) (u : mz_S) (x : Int32) (hx9 : vp_in x (ql_S L)) : mz_Ci l (qG D L) (qK D L) (qA L) yX2_isFree (tz_w yX2_isFree cX2_isFree 2 (some .boolean)) ({ frames := 0, cells := 0, slots := 0, locals := 0 } : Room) [.ref (L.1 9 0), .int x] u (mz_b (u 11 x.toNatClampNeg 0 = 0)) (u) := by
  refine mz_Ci.of (cc := cX2_isFree) (maxL := 2) (ret := (some .boolean)) (by decide) rfl (Nat.le_of_ble_eq_true rfl) ?_
  intro p e s m args below meth c ls hx hb hr hlk hml hown hts hl hG hK hS
  have hl : lv_has ls 2 [(0, .ref (L.1 9 0)), (1, .int x)] := hl
  have htz : ∀ w ∈ tz, w.before args s = true := fun w h => hts w (List.mem_cons_of_mem _ h)
  refine lv_aload_n hx hb dX2_isFree_0 rfl (lv_at hl 0 rfl) ?_
  refine qg_9 (f := 0) hx hb htz tin_X2 hown hK hG (by decide) (htz _ fX2_11) (by decide) rfl dX2_isFree_1 ?_
  refine lv_iload_n hx hb dX2_isFree_4 rfl (lv_at hl 1 rfl) ?_
  refine qa_10 hx hb hK hG (by decide) hx9 dX2_isFree_5 ?_
  refine qgN_11 (f := 0) hx hb htz tin_X1 hown hK hG (by have := nz_cl hx9; omega) (va_Nw.use rfl (hK.2 _ nX2_18)) (by decide) rfl dX2_isFree_6 ?_
  refine lv_if_ne hx hb dX2_isFree_9 (tgt := 16) rfl (fun h_1 => ?_) (fun h_1 => ?_)
  · refine lv_iconst (v := 0) hx hb dX2_isFree_16 (by decide) ?_
    exact mz_zret hx hb hr hlk qK_ok hK hS hG dX2_isFree_17 (by decide) (by simp [mz_b, h_1]) rfl
  · refine lv_iconst (v := 1) hx hb dX2_isFree_12 (by decide) ?_
    refine lv_goto hx hb dX2_isFree_13 (tgt := 17) rfl ?_
    exact mz_zret hx hb hr hlk qK_ok hK hS hG dX2_isFree_17 (by decide) (by simp [mz_b, h_1]) rfl

set_option maxRecDepth 100000 in
set_option maxHeartbeats 4000000 in
theorem qc_countFree (l : Launch) (D : va_G) (L : qL) (hL : qL_ok L) (u : mz_S)  : mz_Ci l (qG D L) (qK D L) (qA L) yX2_countFree (tz_w yX2_countFree cX2_countFree 1 (some .int)) ({ frames := 0, cells := 0, slots := 0, locals := 0 } : Room) [.ref (L.1 9 0)] u (nI (ql_S L) - u 9 0 1) (u) := by
  refine mz_Ci.of (cc := cX2_countFree) (maxL := 1) (ret := (some .int)) (by decide) rfl (Nat.le_of_ble_eq_true rfl) ?_
  intro p e s m args below meth c ls hx hb hr hlk hml hown hts hl hG hK hS
  have hl : lv_has ls 1 [(0, .ref (L.1 9 0))] := hl
  have htz : ∀ w ∈ tz, w.before args s = true := fun w h => hts w (List.mem_cons_of_mem _ h)
  refine lv_aload_n hx hb dX2_countFree_0 rfl (lv_at hl 0 rfl) ?_
  refine qg_9 (f := 0) hx hb htz tin_X2 hown hK hG (by decide) (htz _ fX2_11) (by decide) rfl dX2_countFree_1 ?_
  refine qz_10 hx hb hK hG (by decide) dX2_countFree_4 ?_
  refine lv_aload_n hx hb dX2_countFree_5 rfl (lv_at hl 0 rfl) ?_
  refine qg_9 (f := 1) hx hb htz tin_X2 hown hK hG (by decide) (htz _ fX2_22) (by decide) rfl dX2_countFree_6 ?_
  refine lv_isub hx hb dX2_countFree_9 ?_
  exact mz_iret hx hb hr hlk qK_ok hK hS hG dX2_countFree_10 rfl rfl

set_option maxRecDepth 100000 in
set_option maxHeartbeats 4000000 in
theorem qc_clear (l : Launch) (D : va_G) (L : qL) (hL : qL_ok L) (u : mz_S) (x : Int32) (hx9 : vp_in x (ql_S L)) : mz_Cv l (qG D L) (qK D L) (qA L) yX2_clear (tz_w yX2_clear cX2_clear 2 none) ({ frames := 0, cells := 0, slots := 0, locals := 0 } : Room) [.ref (L.1 9 0), .int x] u (qs_clear u x.toNatClampNeg) := by
  refine mz_Cv.of (cc := cX2_clear) (maxL := 2) (ret := none) (by decide) rfl (Nat.le_of_ble_eq_true rfl) ?_
  intro p e s m args below meth c ls hx hb hr hlk hml hown hts hl hG hK hS
  have hl : lv_has ls 2 [(0, .ref (L.1 9 0)), (1, .int x)] := hl
  have htz : ∀ w ∈ tz, w.before args s = true := fun w h => hts w (List.mem_cons_of_mem _ h)
  refine lv_aload_n hx hb dX2_clear_0 rfl (lv_at hl 0 rfl) ?_
  refine qg_9 (f := 0) hx hb htz tin_X2 hown hK hG (by decide) (htz _ fX2_11) (by decide) rfl dX2_clear_1 ?_
  refine lv_iload_n hx hb dX2_clear_4 rfl (lv_at hl 1 rfl) ?_
  refine qa_10 hx hb hK hG (by decide) hx9 dX2_clear_5 ?_
  refine lv_iconst (v := 0) hx hb dX2_clear_6 (by decide) ?_
  refine qpN_11_0 hx hb htz tin_X1 hown hL hK hG hS (by have := nz_cl hx9; omega) (va_Nw.use rfl (hK.2 _ nX2_18)) dX2_clear_7 (fun H locs hG hS => ?_)
  refine lv_aload_n hx hb dX2_clear_10 rfl (lv_at hl 0 rfl) ?_
  refine lv_dup hx hb dX2_clear_11 rfl ?_
  refine qg_9 (f := 1) (v := .int (u 9 0 1)) hx hb htz tin_X2 hown hK hG (by decide) (htz _ fX2_22) (by decide) (by simp [qf9, mz_at]) dX2_clear_12 ?_
  refine lv_iconst (v := 1) hx hb dX2_clear_15 (by decide) ?_
  refine lv_isub hx hb dX2_clear_16 ?_
  refine qp_9_1 hx hb htz tin_X2 hown hL hK hG hS (by decide) (htz _ fX2_22) dX2_clear_17 (fun H locs hG hS => ?_)
  exact mz_vret hx hb hr hlk qK_ok hK hS hG dX2_clear_20 rfl

set_option maxRecDepth 100000 in
set_option maxHeartbeats 4000000 in
theorem qc_put (l : Launch) (D : va_G) (L : qL) (hL : qL_ok L) (u : mz_S) (b : Nat) (hb9 : b < ql_S L + 2) : mz_Ci l (qG D L) (qK D L) (qA L) yX2_put (tz_w yX2_put cX2_put 3 (some .int)) ({ frames := 1, cells := 0, slots := 0, locals := 21 } : Room) [.ref (L.1 9 0), .ref (L.1 11 b)] u (qs_putR (ql_S L) u) (qs_put (ql_S L) u b) := by
  refine mz_Ci.of (cc := cX2_put) (maxL := 3) (ret := (some .int)) (by decide) rfl (Nat.le_of_ble_eq_true rfl) ?_
  intro p e s m args below meth c ls hx hb hr hlk hml hown hts hl hG hK hS
  have hl : lv_has ls 3 [(0, .ref (L.1 9 0)), (1, .ref (L.1 11 b))] := hl
  have htz : ∀ w ∈ tz, w.before args s = true := fun w h => hts w (List.mem_cons_of_mem _ h)
  have hc12 : ql_c L ≤ 12 := hL.1.2.2.2.1
  have hn5 : ql_n L ≤ 5 := hL.1.2.1
  have h40 : ql_S L ≤ 40 := hL.1.2.2.2.2.2
  refine lv_iconst (v := 0) hx hb dX2_put_0 (by decide) ?_
  refine lv_istore_n hx hb dX2_put_1 rfl hl (by decide) rfl (fun ls hl => ?_)
  have hl : lv_has ls 3 [(2, .int _), (0, .ref _), (1, .ref _)] := hl
  refine mz_loop (ql_S L) (P := fun j ls H locs => lv_has ls 3 [(2, .int (nI j)), (0, .ref (L.1 9 0)), (1, .ref (L.1 11 b))] ∧ qG D L u H ∧ va_S (qA L) s.heap H locs ∧ j ≤ ql_S L ∧ mz_ff (fun j => u 11 j 0) (ql_S L - j) j = qs_ff (ql_S L) u) (fun _ _ _ _ h => h.2.2.2.1) ?_ 0 _ _ _ ⟨hl, hG, hS, Nat.zero_le _, rfl⟩
  intro j ls H locs ⟨hl, hG, hS, hj, hf⟩ ih
  refine lv_iload_n hx hb dX2_put_2 rfl (lv_at hl 0 rfl) ?_
  refine lv_aload_n hx hb dX2_put_3 rfl (lv_at hl 1 rfl) ?_
  refine qg_9 (f := 0) hx hb htz tin_X2 hown hK hG (by decide) (htz _ fX2_11) (by decide) rfl dX2_put_4 ?_
  refine qz_10 hx hb hK hG (by decide) dX2_put_7 ?_
  refine mz_icmp_ge hx hb dX2_put_8 (tgt := 47) rfl (fun h0 h0' => ?_) (fun h0 h0' => ?_)
  · rw [nI_leI (by omega) (by omega)] at h0'
    have e9 : qs_ff (ql_S L) u = j := by rw [← hf, show ql_S L - j = 0 by omega]; rfl
    refine lv_bipush (v := (-4)) hx hb dX2_put_47 (by decide) ?_
    exact mz_iret hx hb hr hlk qK_ok hK hS hG dX2_put_49 (by rw [qs_putR, e9, if_neg (by omega)]) (by rw [qs_put, e9, if_neg (by omega)])
  · rw [nI_ltI (by omega) (by omega)] at h0
    refine lv_aload_n hx hb dX2_put_11 rfl (lv_at hl 1 rfl) ?_
    refine lv_iload_n hx hb dX2_put_12 rfl (lv_at hl 0 rfl) ?_
    refine mz_Vi (As := [.int _]) (rest := []) ⟨hx, hb, hml, hown, hts⟩ (qc_isFree l D L hL _ _ (vp_in_nI (n := j) (by omega) (by omega))) (tz_V htz mX2_isFree lX2_25 rfl rfl ⟨Nat.le_of_ble_eq_true rfl, Nat.le_of_ble_eq_true rfl⟩) (qrecv_9 hK hG (by decide)) qK_ok hK hG hS rfl hl.1 rfl (Nat.le_of_ble_eq_true rfl) dX2_put_13 ⟨Nat.zero_le _, Nat.zero_le _⟩ (fun H locs hG hS => ?_)
    rw [nI_clamp (by omega)]
    refine mz_ifeq_b hx hb dX2_put_16 (tgt := 41) rfl (fun h1 => ?_) (fun h1 => ?_)
    · refine lv_iinc (k := 0) hx hb dX2_put_41 hl rfl (nI_1 j) (by decide) rfl (fun ls hl => ?_)
      have hl : lv_has ls 3 [(2, .int _), (0, .ref _), (1, .ref _)] := hl
      refine lv_goto hx hb dX2_put_44 (tgt := 2) rfl ?_
      exact ih (by omega) _ _ _ ⟨hl, hG, hS, by omega, by rw [← hf, show ql_S L - j = (ql_S L - (j + 1)) + 1 by omega, mz_ff, if_neg h1]⟩
    · have e9 : qs_ff (ql_S L) u = j := by rw [← hf, show ql_S L - j = (ql_S L - (j + 1)) + 1 by omega, mz_ff, if_pos h1]
      refine lv_aload_n hx hb dX2_put_19 rfl (lv_at hl 1 rfl) ?_
      refine qg_9 (f := 0) hx hb htz tin_X2 hown hK hG (by decide) (htz _ fX2_11) (by decide) rfl dX2_put_20 ?_
      refine lv_iload_n hx hb dX2_put_23 rfl (lv_at hl 0 rfl) ?_
      refine qa_10 hx hb hK hG (by decide) (vp_in_nI (by omega) (by omega)) dX2_put_24 ?_
      rw [nI_clamp (by omega)]
      refine lv_aload_n hx hb dX2_put_25 rfl (lv_at hl 2 rfl) ?_
      refine mz_Nv (As := [.ref _]) (rest := []) ⟨hx, hb, hml, hown, hts⟩ (qc_copy l D L hL _ j b (by omega) hb9) (tz_N htz mX1_copy (hK.2 _ nX2_29) rfl rfl ⟨Nat.le_of_ble_eq_true rfl, Nat.le_of_ble_eq_true rfl⟩) (qrecv_11 hK hG (by omega)) qK_ok hK hG hS rfl hl.1 rfl (Nat.le_of_ble_eq_true rfl) dX2_put_26 ⟨Nat.zero_le _, Nat.zero_le _⟩ (fun H locs hG hS => ?_)
      refine lv_aload_n hx hb dX2_put_29 rfl (lv_at hl 1 rfl) ?_
      refine lv_dup hx hb dX2_put_30 rfl ?_
      refine qg_9 (f := 1) (v := .int (u 9 0 1)) hx hb htz tin_X2 hown hK hG (by decide) (htz _ fX2_22) (by decide) (by simp [qf9, qs_copy_o]) dX2_put_31 ?_
      refine lv_iconst (v := 1) hx hb dX2_put_34 (by decide) ?_
      refine lv_iadd hx hb dX2_put_35 ?_
      refine qp_9_1 hx hb htz tin_X2 hown hL hK hG hS (by decide) (htz _ fX2_22) dX2_put_36 (fun H locs hG hS => ?_)
      refine lv_iload_n hx hb dX2_put_39 rfl (lv_at hl 0 rfl) ?_
      exact mz_iret hx hb hr hlk qK_ok hK hS hG dX2_put_40 (by rw [qs_putR, e9, if_pos (by omega)]) (by rw [qs_put, e9, if_pos (by omega)]; rfl)
end
section
set_option maxRecDepth 100000 in
set_option maxHeartbeats 4000000 in
theorem qc_isNode (l : Launch) (D : va_G) (L : qL) (hL : qL_ok L) (u : mz_S) (x : Int32) : mz_Ci l (qG D L) (qK D L) (qA L) yX4_isNode (tz_w yX4_isNode cX4_isNode 2 (some .boolean)) ({ frames := 0, cells := 0, slots := 0, locals := 0 } : Room) [.ref (L.1 0 0), .int x] u (mz_b (qs_isN (ql_n L) x)) (u) := by
  refine mz_Ci.of (cc := cX4_isNode) (maxL := 2) (ret := (some .boolean)) (by decide) rfl (Nat.le_of_ble_eq_true rfl) ?_
  intro p e s m args below meth c ls hx hb hr hlk hml hown hts hl hG hK hS
  have hl : lv_has ls 2 [(0, .ref (L.1 0 0)), (1, .int x)] := hl
  have htz : ∀ w ∈ tz, w.before args s = true := fun w h => hts w (List.mem_cons_of_mem _ h)
  refine lv_iload_n hx hb dX4_isNode_0 rfl (lv_at hl 1 rfl) ?_
  refine mz_if_lt hx hb dX4_isNode_1 (tgt := 17) rfl (fun h_1 h_1' => ?_) (fun h_1 h_1' => ?_)
  · refine lv_iconst (v := 0) hx hb dX4_isNode_17 (by decide) ?_
    exact mz_zret hx hb hr hlk qK_ok hK hS hG dX4_isNode_18 (by decide) (by simp [mz_b, qs_isN, h_1, h_1']) rfl
  · refine lv_iload_n hx hb dX4_isNode_4 rfl (lv_at hl 1 rfl) ?_
    refine lv_aload_n hx hb dX4_isNode_5 rfl (lv_at hl 0 rfl) ?_
    refine qg_0 (f := 0) hx hb htz tin_X4 hown hK hG (by decide) (htz _ fX4_15) (by decide) rfl dX4_isNode_6 ?_
    refine qz_1 hx hb hK hG (by decide) dX4_isNode_9 ?_
    refine mz_icmp_ge hx hb dX4_isNode_10 (tgt := 17) rfl (fun h_2 h_2' => ?_) (fun h_2 h_2' => ?_)
    · refine lv_iconst (v := 0) hx hb dX4_isNode_17 (by decide) ?_
      exact mz_zret hx hb hr hlk qK_ok hK hS hG dX4_isNode_18 (by decide) (by simp [mz_b, qs_isN, h_1, h_1', h_2, h_2']) rfl
    · refine lv_iconst (v := 1) hx hb dX4_isNode_13 (by decide) ?_
      refine lv_goto hx hb dX4_isNode_14 (tgt := 18) rfl ?_
      exact mz_zret hx hb hr hlk qK_ok hK hS hG dX4_isNode_18 (by decide) (by simp [mz_b, qs_isN, h_1, h_1', h_2, h_2']) rfl

set_option maxRecDepth 100000 in
set_option maxHeartbeats 4000000 in
theorem qc_areTwoNodes (l : Launch) (D : va_G) (L : qL) (hL : qL_ok L) (u : mz_S) (x y : Int32) : mz_Ci l (qG D L) (qK D L) (qA L) yX4_areTwoNodes (tz_w yX4_areTwoNodes cX4_areTwoNodes 3 (some .boolean)) ({ frames := 1, cells := 0, slots := 0, locals := 21 } : Room) [.ref (L.1 0 0), .int x, .int y] u (mz_b (qs_two (ql_n L) x y)) (u) := by
  refine mz_Ci.of (cc := cX4_areTwoNodes) (maxL := 3) (ret := (some .boolean)) (by decide) rfl (Nat.le_of_ble_eq_true rfl) ?_
  intro p e s m args below meth c ls hx hb hr hlk hml hown hts hl hG hK hS
  have hl : lv_has ls 3 [(0, .ref (L.1 0 0)), (1, .int x), (2, .int y)] := hl
  have htz : ∀ w ∈ tz, w.before args s = true := fun w h => hts w (List.mem_cons_of_mem _ h)
  refine lv_aload_n hx hb dX4_areTwoNodes_0 rfl (lv_at hl 0 rfl) ?_
  refine lv_iload_n hx hb dX4_areTwoNodes_1 rfl (lv_at hl 1 rfl) ?_
  refine mz_Vi (As := [.int _]) (rest := []) ⟨hx, hb, hml, hown, hts⟩ (qc_isNode l D L hL _ _) (tz_V htz mX4_isNode lX4_41 rfl rfl ⟨Nat.le_of_ble_eq_true rfl, Nat.le_of_ble_eq_true rfl⟩) (qrecv_0 hK hG (by decide)) qK_ok hK hG hS rfl hl.1 rfl (Nat.le_of_ble_eq_true rfl) dX4_areTwoNodes_2 ⟨Nat.zero_le _, Nat.zero_le _⟩ (fun H locs hG hS => ?_)
  refine mz_ifeq_b hx hb dX4_areTwoNodes_5 (tgt := 25) rfl (fun h0 => ?_) (fun h0 => ?_)
  · refine lv_iconst (v := 0) hx hb dX4_areTwoNodes_25 (by decide) ?_
    exact mz_zret hx hb hr hlk qK_ok hK hS hG dX4_areTwoNodes_26 (by decide) (by first | exact (mz_b_f (fun z => h0 z.1)).symm | exact (mz_b_f (fun z => h1 z.2.1)).symm | exact (mz_b_f (fun z => z.2.2 h2)).symm | exact (mz_b_t ⟨h0, h1, h2⟩).symm) rfl
  · refine lv_aload_n hx hb dX4_areTwoNodes_8 rfl (lv_at hl 0 rfl) ?_
    refine lv_iload_n hx hb dX4_areTwoNodes_9 rfl (lv_at hl 2 rfl) ?_
    refine mz_Vi (As := [.int _]) (rest := []) ⟨hx, hb, hml, hown, hts⟩ (qc_isNode l D L hL _ _) (tz_V htz mX4_isNode lX4_41 rfl rfl ⟨Nat.le_of_ble_eq_true rfl, Nat.le_of_ble_eq_true rfl⟩) (qrecv_0 hK hG (by decide)) qK_ok hK hG hS rfl hl.1 rfl (Nat.le_of_ble_eq_true rfl) dX4_areTwoNodes_10 ⟨Nat.zero_le _, Nat.zero_le _⟩ (fun H locs hG hS => ?_)
    refine mz_ifeq_b hx hb dX4_areTwoNodes_13 (tgt := 25) rfl (fun h1 => ?_) (fun h1 => ?_)
    · refine lv_iconst (v := 0) hx hb dX4_areTwoNodes_25 (by decide) ?_
      exact mz_zret hx hb hr hlk qK_ok hK hS hG dX4_areTwoNodes_26 (by decide) (by first | exact (mz_b_f (fun z => h0 z.1)).symm | exact (mz_b_f (fun z => h1 z.2.1)).symm | exact (mz_b_f (fun z => z.2.2 h2)).symm | exact (mz_b_t ⟨h0, h1, h2⟩).symm) rfl
    · refine lv_iload_n hx hb dX4_areTwoNodes_16 rfl (lv_at hl 1 rfl) ?_
      refine lv_iload_n hx hb dX4_areTwoNodes_17 rfl (lv_at hl 2 rfl) ?_
      refine lv_icmp_eq hx hb dX4_areTwoNodes_18 (tgt := 25) rfl (fun h2 => ?_) (fun h2 => ?_)
      · refine lv_iconst (v := 0) hx hb dX4_areTwoNodes_25 (by decide) ?_
        exact mz_zret hx hb hr hlk qK_ok hK hS hG dX4_areTwoNodes_26 (by decide) (by first | exact (mz_b_f (fun z => h0 z.1)).symm | exact (mz_b_f (fun z => h1 z.2.1)).symm | exact (mz_b_f (fun z => z.2.2 h2)).symm | exact (mz_b_t ⟨h0, h1, h2⟩).symm) rfl
      · refine lv_iconst (v := 1) hx hb dX4_areTwoNodes_21 (by decide) ?_
        refine lv_goto hx hb dX4_areTwoNodes_22 (tgt := 26) rfl ?_
        exact mz_zret hx hb hr hlk qK_ok hK hS hG dX4_areTwoNodes_26 (by decide) (by first | exact (mz_b_f (fun z => h0 z.1)).symm | exact (mz_b_f (fun z => h1 z.2.1)).symm | exact (mz_b_f (fun z => z.2.2 h2)).symm | exact (mz_b_t ⟨h0, h1, h2⟩).symm) rfl

set_option maxRecDepth 100000 in
set_option maxHeartbeats 4000000 in
theorem qc_isMajority (l : Launch) (D : va_G) (L : qL) (hL : qL_ok L) (u : mz_S) (k : Int32) : mz_Ci l (qG D L) (qK D L) (qA L) yX4_isMajority (tz_w yX4_isMajority cX4_isMajority 2 (some .boolean)) ({ frames := 0, cells := 0, slots := 0, locals := 0 } : Room) [.ref (L.1 0 0), .int k] u (mz_b (qs_maj (ql_n L) k)) (u) := by
  refine mz_Ci.of (cc := cX4_isMajority) (maxL := 2) (ret := (some .boolean)) (by decide) rfl (Nat.le_of_ble_eq_true rfl) ?_
  intro p e s m args below meth c ls hx hb hr hlk hml hown hts hl hG hK hS
  have hl : lv_has ls 2 [(0, .ref (L.1 0 0)), (1, .int k)] := hl
  have htz : ∀ w ∈ tz, w.before args s = true := fun w h => hts w (List.mem_cons_of_mem _ h)
  refine lv_iconst (v := 2) hx hb dX4_isMajority_0 (by decide) ?_
  refine lv_iload_n hx hb dX4_isMajority_1 rfl (lv_at hl 1 rfl) ?_
  refine lv_imul hx hb dX4_isMajority_2 ?_
  refine lv_aload_n hx hb dX4_isMajority_3 rfl (lv_at hl 0 rfl) ?_
  refine qg_0 (f := 0) hx hb htz tin_X4 hown hK hG (by decide) (htz _ fX4_15) (by decide) rfl dX4_isMajority_4 ?_
  refine qz_1 hx hb hK hG (by decide) dX4_isMajority_7 ?_
  refine mz_icmp_le hx hb dX4_isMajority_8 (tgt := 15) rfl (fun h_1 h_1' => ?_) (fun h_1 h_1' => ?_)
  · refine lv_iconst (v := 0) hx hb dX4_isMajority_15 (by decide) ?_
    exact mz_zret hx hb hr hlk qK_ok hK hS hG dX4_isMajority_16 (by decide) (by simp [mz_b, qs_maj, h_1, h_1']) rfl
  · refine lv_iconst (v := 1) hx hb dX4_isMajority_11 (by decide) ?_
    refine lv_goto hx hb dX4_isMajority_12 (tgt := 16) rfl ?_
    exact mz_zret hx hb hr hlk qK_ok hK hS hG dX4_isMajority_16 (by decide) (by simp [mz_b, qs_maj, h_1, h_1']) rfl

set_option maxRecDepth 100000 in
set_option maxHeartbeats 4000000 in
theorem qc_sendAsk (l : Launch) (D : va_G) (L : qL) (hL : qL_ok L) (u : mz_S) (i : Nat) (hi : i < ql_n L) (t : Int32) (hw : qw (ql_c L) u i) : mz_Cv l (qG D L) (qK D L) (qA L) yX4_sendAsk (tz_w yX4_sendAsk cX4_sendAsk 3 none) ({ frames := 2, cells := 0, slots := 0, locals := 43 } : Room) [.ref (L.1 0 0), .ref (L.1 2 i), .int t] u (qs_sAsk (ql_S L) u i t) := by
  refine mz_Cv.of (cc := cX4_sendAsk) (maxL := 3) (ret := none) (by decide) rfl (Nat.le_of_ble_eq_true rfl) ?_
  intro p e s m args below meth c ls hx hb hr hlk hml hown hts hl hG hK hS
  have hl : lv_has ls 3 [(0, .ref (L.1 0 0)), (1, .ref (L.1 2 i)), (2, .int t)] := hl
  have htz : ∀ w ∈ tz, w.before args s = true := fun w h => hts w (List.mem_cons_of_mem _ h)
  refine lv_aload_n hx hb dX4_sendAsk_0 rfl (lv_at hl 0 rfl) ?_
  refine qg_0 (f := 2) hx hb htz tin_X4 hown hK hG (by decide) (htz _ fX4_34) (by decide) rfl dX4_sendAsk_1 ?_
  refine lv_iconst (v := 1) hx hb dX4_sendAsk_4 (by decide) ?_
  refine lv_aload_n hx hb dX4_sendAsk_5 rfl (lv_at hl 1 rfl) ?_
  refine qgN_2 (f := 0) hx hb htz tin_X3 hown hK hG hi (va_Nw.use rfl (hK.2 _ nX4_171)) (by decide) rfl dX4_sendAsk_6 ?_
  refine lv_iload_n hx hb dX4_sendAsk_9 rfl (lv_at hl 2 rfl) ?_
  refine lv_aload_n hx hb dX4_sendAsk_10 rfl (lv_at hl 1 rfl) ?_
  refine qgN_2 (f := 3) hx hb htz tin_X3 hown hK hG hi (va_Nw.use rfl (hK.2 _ nX4_91)) (by decide) rfl dX4_sendAsk_11 ?_
  refine mz_Nv (As := [.int _, .int _, .int _, .int _]) (rest := []) ⟨hx, hb, hml, hown, hts⟩ (qc_begin l D L hL _ (ql_S L) (by omega) _ _ _ _) (tz_N htz mX1_begin (hK.2 _ nX4_174) rfl rfl ⟨Nat.le_of_ble_eq_true rfl, Nat.le_of_ble_eq_true rfl⟩) (qrecv_11 hK hG (by omega)) qK_ok hK hG hS rfl hl.1 rfl (Nat.le_of_ble_eq_true rfl) dX4_sendAsk_14 ⟨Nat.zero_le _, Nat.zero_le _⟩ (fun H locs hG hS => ?_)
  refine lv_aload_n hx hb dX4_sendAsk_17 rfl (lv_at hl 0 rfl) ?_
  refine qg_0 (f := 2) hx hb htz tin_X4 hown hK hG (by decide) (htz _ fX4_34) (by decide) rfl dX4_sendAsk_18 ?_
  refine lv_aload_n hx hb dX4_sendAsk_21 rfl (lv_at hl 1 rfl) ?_
  refine qgN_2 (f := 6) hx hb htz tin_X3 hown hK hG hi (va_Nw.use rfl (hK.2 _ nX4_72)) (by decide) rfl dX4_sendAsk_22 ?_
  refine mz_Ni (As := []) (rest := [.ref _]) ⟨hx, hb, hml, hown, hts⟩ (qc_lastNumber l D L hL _ i hi) (tz_N htz mX0_lastNumber (hK.2 _ nX4_98) rfl rfl ⟨Nat.le_of_ble_eq_true rfl, Nat.le_of_ble_eq_true rfl⟩) (qrecv_3 hK hG hi) qK_ok hK hG hS rfl hl.1 rfl (Nat.le_of_ble_eq_true rfl) dX4_sendAsk_25 ⟨Nat.zero_le _, Nat.zero_le _⟩ (fun H locs hG hS => ?_)
  refine mz_topE (qs_last_same (u := u) (by simp [qs_begin, mz_at])) ?_
  refine qpN_11_4 hx hb htz tin_X1 hown hL hK hG hS (by omega) (va_Nw.use rfl (hK.2 _ nX4_178)) dX4_sendAsk_28 (fun H locs hG hS => ?_)
  refine lv_aload_n hx hb dX4_sendAsk_31 rfl (lv_at hl 0 rfl) ?_
  refine qg_0 (f := 2) hx hb htz tin_X4 hown hK hG (by decide) (htz _ fX4_34) (by decide) rfl dX4_sendAsk_32 ?_
  refine lv_aload_n hx hb dX4_sendAsk_35 rfl (lv_at hl 1 rfl) ?_
  refine qgN_2 (f := 6) hx hb htz tin_X3 hown hK hG hi (va_Nw.use rfl (hK.2 _ nX4_72)) (by decide) rfl dX4_sendAsk_36 ?_
  refine mz_Ni (As := []) (rest := [.ref _]) ⟨hx, hb, hml, hown, hts⟩ (qc_lastTerm l D L hL _ i hi (hw.same (by simp [qs_begin, mz_at]) (by simp [qs_begin, mz_at]))) (tz_N htz mX0_lastTerm (hK.2 _ nX4_181) rfl rfl ⟨Nat.le_of_ble_eq_true rfl, Nat.le_of_ble_eq_true rfl⟩) (qrecv_3 hK hG hi) qK_ok hK hG hS rfl hl.1 rfl (Nat.le_of_ble_eq_true rfl) dX4_sendAsk_39 ⟨Nat.zero_le _, Nat.zero_le _⟩ (fun H locs hG hS => ?_)
  refine mz_topE (qs_lastT_same (u := u) (by simp [qs_begin, mz_at]) (by simp [qs_begin, mz_at])) ?_
  refine qpN_11_5 hx hb htz tin_X1 hown hL hK hG hS (by omega) (va_Nw.use rfl (hK.2 _ nX4_184)) dX4_sendAsk_42 (fun H locs hG hS => ?_)
  refine lv_aload_n hx hb dX4_sendAsk_45 rfl (lv_at hl 0 rfl) ?_
  refine qg_0 (f := 1) hx hb htz tin_X4 hown hK hG (by decide) (htz _ fX4_27) (by decide) rfl dX4_sendAsk_46 ?_
  refine lv_aload_n hx hb dX4_sendAsk_49 rfl (lv_at hl 0 rfl) ?_
  refine qg_0 (f := 2) hx hb htz tin_X4 hown hK hG (by decide) (htz _ fX4_34) (by decide) rfl dX4_sendAsk_50 ?_
  refine mz_Ni (As := [.ref _]) (rest := []) ⟨hx, hb, hml, hown, hts⟩ (qc_put l D L hL _ (ql_S L) (by omega)) (tz_N htz mX2_put (hK.2 _ nX4_141) rfl rfl ⟨Nat.le_of_ble_eq_true rfl, Nat.le_of_ble_eq_true rfl⟩) (qrecv_9 hK hG (by decide)) qK_ok hK hG hS rfl hl.1 rfl (Nat.le_of_ble_eq_true rfl) dX4_sendAsk_53 ⟨Nat.zero_le _, Nat.zero_le _⟩ (fun H locs hG hS => ?_)
  refine lv_pop hx hb dX4_sendAsk_56 rfl ?_
  exact mz_vret hx hb hr hlk qK_ok hK hS hG dX4_sendAsk_57 rfl

set_option maxRecDepth 100000 in
set_option maxHeartbeats 4000000 in
theorem qc_sendVote (l : Launch) (D : va_G) (L : qL) (hL : qL_ok L) (u : mz_S) (i : Nat) (hi : i < ql_n L) (t g : Int32) (hg : mz_b (g ≠ 0) = g) : mz_Cv l (qG D L) (qK D L) (qA L) yX4_sendVote (tz_w yX4_sendVote cX4_sendVote 4 none) ({ frames := 2, cells := 0, slots := 0, locals := 43 } : Room) [.ref (L.1 0 0), .ref (L.1 2 i), .int t, .int g] u (qs_sVote (ql_S L) u i t g) := by
  refine mz_Cv.of (cc := cX4_sendVote) (maxL := 4) (ret := none) (by decide) rfl (Nat.le_of_ble_eq_true rfl) ?_
  intro p e s m args below meth c ls hx hb hr hlk hml hown hts hl hG hK hS
  have hl : lv_has ls 4 [(0, .ref (L.1 0 0)), (1, .ref (L.1 2 i)), (2, .int t), (3, .int g)] := hl
  have htz : ∀ w ∈ tz, w.before args s = true := fun w h => hts w (List.mem_cons_of_mem _ h)
  refine lv_aload_n hx hb dX4_sendVote_0 rfl (lv_at hl 0 rfl) ?_
  refine qg_0 (f := 2) hx hb htz tin_X4 hown hK hG (by decide) (htz _ fX4_34) (by decide) rfl dX4_sendVote_1 ?_
  refine lv_iconst (v := 2) hx hb dX4_sendVote_4 (by decide) ?_
  refine lv_aload_n hx hb dX4_sendVote_5 rfl (lv_at hl 1 rfl) ?_
  refine qgN_2 (f := 0) hx hb htz tin_X3 hown hK hG hi (va_Nw.use rfl (hK.2 _ nX4_171)) (by decide) rfl dX4_sendVote_6 ?_
  refine lv_iload_n hx hb dX4_sendVote_9 rfl (lv_at hl 2 rfl) ?_
  refine lv_aload_n hx hb dX4_sendVote_10 rfl (lv_at hl 1 rfl) ?_
  refine qgN_2 (f := 3) hx hb htz tin_X3 hown hK hG hi (va_Nw.use rfl (hK.2 _ nX4_91)) (by decide) rfl dX4_sendVote_11 ?_
  refine mz_Nv (As := [.int _, .int _, .int _, .int _]) (rest := []) ⟨hx, hb, hml, hown, hts⟩ (qc_begin l D L hL _ (ql_S L) (by omega) _ _ _ _) (tz_N htz mX1_begin (hK.2 _ nX4_174) rfl rfl ⟨Nat.le_of_ble_eq_true rfl, Nat.le_of_ble_eq_true rfl⟩) (qrecv_11 hK hG (by omega)) qK_ok hK hG hS rfl hl.1 rfl (Nat.le_of_ble_eq_true rfl) dX4_sendVote_14 ⟨Nat.zero_le _, Nat.zero_le _⟩ (fun H locs hG hS => ?_)
  refine lv_aload_n hx hb dX4_sendVote_17 rfl (lv_at hl 0 rfl) ?_
  refine qg_0 (f := 2) hx hb htz tin_X4 hown hK hG (by decide) (htz _ fX4_34) (by decide) rfl dX4_sendVote_18 ?_
  refine lv_iload_n hx hb dX4_sendVote_21 rfl (lv_at hl 3 rfl) ?_
  refine qpN_11_6 hx hb htz tin_X1 hown hL hK hG hS (by omega) (va_Nw.use rfl (hK.2 _ nX4_187)) hg dX4_sendVote_22 (fun H locs hG hS => ?_)
  refine lv_aload_n hx hb dX4_sendVote_25 rfl (lv_at hl 0 rfl) ?_
  refine qg_0 (f := 1) hx hb htz tin_X4 hown hK hG (by decide) (htz _ fX4_27) (by decide) rfl dX4_sendVote_26 ?_
  refine lv_aload_n hx hb dX4_sendVote_29 rfl (lv_at hl 0 rfl) ?_
  refine qg_0 (f := 2) hx hb htz tin_X4 hown hK hG (by decide) (htz _ fX4_34) (by decide) rfl dX4_sendVote_30 ?_
  refine mz_Ni (As := [.ref _]) (rest := []) ⟨hx, hb, hml, hown, hts⟩ (qc_put l D L hL _ (ql_S L) (by omega)) (tz_N htz mX2_put (hK.2 _ nX4_141) rfl rfl ⟨Nat.le_of_ble_eq_true rfl, Nat.le_of_ble_eq_true rfl⟩) (qrecv_9 hK hG (by decide)) qK_ok hK hG hS rfl hl.1 rfl (Nat.le_of_ble_eq_true rfl) dX4_sendVote_33 ⟨Nat.zero_le _, Nat.zero_le _⟩ (fun H locs hG hS => ?_)
  refine lv_pop hx hb dX4_sendVote_36 rfl ?_
  exact mz_vret hx hb hr hlk qK_ok hK hS hG dX4_sendVote_37 rfl

set_option maxRecDepth 100000 in
set_option maxHeartbeats 4000000 in
theorem qc_sendAppended (l : Launch) (D : va_G) (L : qL) (hL : qL_ok L) (u : mz_S) (i : Nat) (hi : i < ql_n L) (t g x : Int32) (hg : mz_b (g ≠ 0) = g) : mz_Cv l (qG D L) (qK D L) (qA L) yX4_sendAppended (tz_w yX4_sendAppended cX4_sendAppended 5 none) ({ frames := 2, cells := 0, slots := 0, locals := 43 } : Room) [.ref (L.1 0 0), .ref (L.1 2 i), .int t, .int g, .int x] u (qs_sAns (ql_S L) u i t g x) := by
  refine mz_Cv.of (cc := cX4_sendAppended) (maxL := 5) (ret := none) (by decide) rfl (Nat.le_of_ble_eq_true rfl) ?_
  intro p e s m args below meth c ls hx hb hr hlk hml hown hts hl hG hK hS
  have hl : lv_has ls 5 [(0, .ref (L.1 0 0)), (1, .ref (L.1 2 i)), (2, .int t), (3, .int g), (4, .int x)] := hl
  have htz : ∀ w ∈ tz, w.before args s = true := fun w h => hts w (List.mem_cons_of_mem _ h)
  refine lv_aload_n hx hb dX4_sendAppended_0 rfl (lv_at hl 0 rfl) ?_
  refine qg_0 (f := 2) hx hb htz tin_X4 hown hK hG (by decide) (htz _ fX4_34) (by decide) rfl dX4_sendAppended_1 ?_
  refine lv_iconst (v := 4) hx hb dX4_sendAppended_4 (by decide) ?_
  refine lv_aload_n hx hb dX4_sendAppended_5 rfl (lv_at hl 1 rfl) ?_
  refine qgN_2 (f := 0) hx hb htz tin_X3 hown hK hG hi (va_Nw.use rfl (hK.2 _ nX4_171)) (by decide) rfl dX4_sendAppended_6 ?_
  refine lv_iload_n hx hb dX4_sendAppended_9 rfl (lv_at hl 2 rfl) ?_
  refine lv_aload_n hx hb dX4_sendAppended_10 rfl (lv_at hl 1 rfl) ?_
  refine qgN_2 (f := 3) hx hb htz tin_X3 hown hK hG hi (va_Nw.use rfl (hK.2 _ nX4_91)) (by decide) rfl dX4_sendAppended_11 ?_
  refine mz_Nv (As := [.int _, .int _, .int _, .int _]) (rest := []) ⟨hx, hb, hml, hown, hts⟩ (qc_begin l D L hL _ (ql_S L) (by omega) _ _ _ _) (tz_N htz mX1_begin (hK.2 _ nX4_174) rfl rfl ⟨Nat.le_of_ble_eq_true rfl, Nat.le_of_ble_eq_true rfl⟩) (qrecv_11 hK hG (by omega)) qK_ok hK hG hS rfl hl.1 rfl (Nat.le_of_ble_eq_true rfl) dX4_sendAppended_14 ⟨Nat.zero_le _, Nat.zero_le _⟩ (fun H locs hG hS => ?_)
  refine lv_aload_n hx hb dX4_sendAppended_17 rfl (lv_at hl 0 rfl) ?_
  refine qg_0 (f := 2) hx hb htz tin_X4 hown hK hG (by decide) (htz _ fX4_34) (by decide) rfl dX4_sendAppended_18 ?_
  refine lv_iload_n hx hb dX4_sendAppended_21 rfl (lv_at hl 3 rfl) ?_
  refine qpN_11_6 hx hb htz tin_X1 hown hL hK hG hS (by omega) (va_Nw.use rfl (hK.2 _ nX4_187)) hg dX4_sendAppended_22 (fun H locs hG hS => ?_)
  refine lv_aload_n hx hb dX4_sendAppended_25 rfl (lv_at hl 0 rfl) ?_
  refine qg_0 (f := 2) hx hb htz tin_X4 hown hK hG (by decide) (htz _ fX4_34) (by decide) rfl dX4_sendAppended_26 ?_
  refine lv_iload hx hb dX4_sendAppended_29 (lv_at hl 4 rfl) ?_
  refine qpN_11_4 hx hb htz tin_X1 hown hL hK hG hS (by omega) (va_Nw.use rfl (hK.2 _ nX4_178)) dX4_sendAppended_31 (fun H locs hG hS => ?_)
  refine lv_aload_n hx hb dX4_sendAppended_34 rfl (lv_at hl 0 rfl) ?_
  refine qg_0 (f := 1) hx hb htz tin_X4 hown hK hG (by decide) (htz _ fX4_27) (by decide) rfl dX4_sendAppended_35 ?_
  refine lv_aload_n hx hb dX4_sendAppended_38 rfl (lv_at hl 0 rfl) ?_
  refine qg_0 (f := 2) hx hb htz tin_X4 hown hK hG (by decide) (htz _ fX4_34) (by decide) rfl dX4_sendAppended_39 ?_
  refine mz_Ni (As := [.ref _]) (rest := []) ⟨hx, hb, hml, hown, hts⟩ (qc_put l D L hL _ (ql_S L) (by omega)) (tz_N htz mX2_put (hK.2 _ nX4_141) rfl rfl ⟨Nat.le_of_ble_eq_true rfl, Nat.le_of_ble_eq_true rfl⟩) (qrecv_9 hK hG (by decide)) qK_ok hK hG hS rfl hl.1 rfl (Nat.le_of_ble_eq_true rfl) dX4_sendAppended_42 ⟨Nat.zero_le _, Nat.zero_le _⟩ (fun H locs hG hS => ?_)
  refine lv_pop hx hb dX4_sendAppended_45 rfl ?_
  exact mz_vret hx hb hr hlk qK_ok hK hS hG dX4_sendAppended_46 rfl

set_option maxRecDepth 100000 in
set_option maxHeartbeats 4000000 in
theorem qc_sendSnapshot (l : Launch) (D : va_G) (L : qL) (hL : qL_ok L) (u : mz_S) (i : Nat) (hi : i < ql_n L) (t : Int32) : mz_Cv l (qG D L) (qK D L) (qA L) yX4_sendSnapshot (tz_w yX4_sendSnapshot cX4_sendSnapshot 3 none) ({ frames := 2, cells := 0, slots := 0, locals := 43 } : Room) [.ref (L.1 0 0), .ref (L.1 2 i), .int t] u (qs_sSnap (ql_S L) u i t) := by
  refine mz_Cv.of (cc := cX4_sendSnapshot) (maxL := 3) (ret := none) (by decide) rfl (Nat.le_of_ble_eq_true rfl) ?_
  intro p e s m args below meth c ls hx hb hr hlk hml hown hts hl hG hK hS
  have hl : lv_has ls 3 [(0, .ref (L.1 0 0)), (1, .ref (L.1 2 i)), (2, .int t)] := hl
  have htz : ∀ w ∈ tz, w.before args s = true := fun w h => hts w (List.mem_cons_of_mem _ h)
  refine lv_aload_n hx hb dX4_sendSnapshot_0 rfl (lv_at hl 0 rfl) ?_
  refine qg_0 (f := 2) hx hb htz tin_X4 hown hK hG (by decide) (htz _ fX4_34) (by decide) rfl dX4_sendSnapshot_1 ?_
  refine lv_iconst (v := 5) hx hb dX4_sendSnapshot_4 (by decide) ?_
  refine lv_aload_n hx hb dX4_sendSnapshot_5 rfl (lv_at hl 1 rfl) ?_
  refine qgN_2 (f := 0) hx hb htz tin_X3 hown hK hG hi (va_Nw.use rfl (hK.2 _ nX4_171)) (by decide) rfl dX4_sendSnapshot_6 ?_
  refine lv_iload_n hx hb dX4_sendSnapshot_9 rfl (lv_at hl 2 rfl) ?_
  refine lv_aload_n hx hb dX4_sendSnapshot_10 rfl (lv_at hl 1 rfl) ?_
  refine qgN_2 (f := 3) hx hb htz tin_X3 hown hK hG hi (va_Nw.use rfl (hK.2 _ nX4_91)) (by decide) rfl dX4_sendSnapshot_11 ?_
  refine mz_Nv (As := [.int _, .int _, .int _, .int _]) (rest := []) ⟨hx, hb, hml, hown, hts⟩ (qc_begin l D L hL _ (ql_S L) (by omega) _ _ _ _) (tz_N htz mX1_begin (hK.2 _ nX4_174) rfl rfl ⟨Nat.le_of_ble_eq_true rfl, Nat.le_of_ble_eq_true rfl⟩) (qrecv_11 hK hG (by omega)) qK_ok hK hG hS rfl hl.1 rfl (Nat.le_of_ble_eq_true rfl) dX4_sendSnapshot_14 ⟨Nat.zero_le _, Nat.zero_le _⟩ (fun H locs hG hS => ?_)
  refine lv_aload_n hx hb dX4_sendSnapshot_17 rfl (lv_at hl 0 rfl) ?_
  refine qg_0 (f := 2) hx hb htz tin_X4 hown hK hG (by decide) (htz _ fX4_34) (by decide) rfl dX4_sendSnapshot_18 ?_
  refine lv_aload_n hx hb dX4_sendSnapshot_21 rfl (lv_at hl 1 rfl) ?_
  refine qgN_2 (f := 6) hx hb htz tin_X3 hown hK hG hi (va_Nw.use rfl (hK.2 _ nX4_72)) (by decide) rfl dX4_sendSnapshot_22 ?_
  refine qgN_3 (f := 0) (v := .int (u 3 i 0)) hx hb htz tin_X0 hown hK hG hi (va_Nw.use rfl (hK.2 _ nX4_76)) (by decide) (by simp [qf3, qs_begin, mz_at]) dX4_sendSnapshot_25 ?_
  refine qpN_11_4 hx hb htz tin_X1 hown hL hK hG hS (by omega) (va_Nw.use rfl (hK.2 _ nX4_178)) dX4_sendSnapshot_28 (fun H locs hG hS => ?_)
  refine lv_aload_n hx hb dX4_sendSnapshot_31 rfl (lv_at hl 0 rfl) ?_
  refine qg_0 (f := 2) hx hb htz tin_X4 hown hK hG (by decide) (htz _ fX4_34) (by decide) rfl dX4_sendSnapshot_32 ?_
  refine lv_aload_n hx hb dX4_sendSnapshot_35 rfl (lv_at hl 1 rfl) ?_
  refine qgN_2 (f := 6) hx hb htz tin_X3 hown hK hG hi (va_Nw.use rfl (hK.2 _ nX4_72)) (by decide) rfl dX4_sendSnapshot_36 ?_
  refine qgN_3 (f := 1) (v := .int (u 3 i 1)) hx hb htz tin_X0 hown hK hG hi (va_Nw.use rfl (hK.2 _ nX4_202)) (by decide) (by simp [qf3, qs_begin, mz_at]) dX4_sendSnapshot_39 ?_
  refine qpN_11_5 hx hb htz tin_X1 hown hL hK hG hS (by omega) (va_Nw.use rfl (hK.2 _ nX4_184)) dX4_sendSnapshot_42 (fun H locs hG hS => ?_)
  refine lv_aload_n hx hb dX4_sendSnapshot_45 rfl (lv_at hl 0 rfl) ?_
  refine qg_0 (f := 2) hx hb htz tin_X4 hown hK hG (by decide) (htz _ fX4_34) (by decide) rfl dX4_sendSnapshot_46 ?_
  refine lv_aload_n hx hb dX4_sendSnapshot_49 rfl (lv_at hl 1 rfl) ?_
  refine qgN_2 (f := 6) hx hb htz tin_X3 hown hK hG hi (va_Nw.use rfl (hK.2 _ nX4_72)) (by decide) rfl dX4_sendSnapshot_50 ?_
  refine qgN_3 (f := 2) (v := .int (u 3 i 2)) hx hb htz tin_X0 hown hK hG hi (va_Nw.use rfl (hK.2 _ nX4_205)) (by decide) (by simp [qf3, qs_begin, mz_at]) dX4_sendSnapshot_53 ?_
  refine qpN_11_11 hx hb htz tin_X1 hown hL hK hG hS (by omega) (va_Nw.use rfl (hK.2 _ nX4_208)) dX4_sendSnapshot_56 (fun H locs hG hS => ?_)
  refine lv_aload_n hx hb dX4_sendSnapshot_59 rfl (lv_at hl 0 rfl) ?_
  refine qg_0 (f := 1) hx hb htz tin_X4 hown hK hG (by decide) (htz _ fX4_27) (by decide) rfl dX4_sendSnapshot_60 ?_
  refine lv_aload_n hx hb dX4_sendSnapshot_63 rfl (lv_at hl 0 rfl) ?_
  refine qg_0 (f := 2) hx hb htz tin_X4 hown hK hG (by decide) (htz _ fX4_34) (by decide) rfl dX4_sendSnapshot_64 ?_
  refine mz_Ni (As := [.ref _]) (rest := []) ⟨hx, hb, hml, hown, hts⟩ (qc_put l D L hL _ (ql_S L) (by omega)) (tz_N htz mX2_put (hK.2 _ nX4_141) rfl rfl ⟨Nat.le_of_ble_eq_true rfl, Nat.le_of_ble_eq_true rfl⟩) (qrecv_9 hK hG (by decide)) qK_ok hK hG hS rfl hl.1 rfl (Nat.le_of_ble_eq_true rfl) dX4_sendSnapshot_67 ⟨Nat.zero_le _, Nat.zero_le _⟩ (fun H locs hG hS => ?_)
  refine lv_pop hx hb dX4_sendSnapshot_70 rfl ?_
  exact mz_vret hx hb hr hlk qK_ok hK hS hG dX4_sendSnapshot_71 rfl

set_option maxRecDepth 100000 in
set_option maxHeartbeats 4000000 in
theorem qc_sendAppend (l : Launch) (D : va_G) (L : qL) (hL : qL_ok L) (u : mz_S) (i : Nat) (hi : i < ql_n L) (t : Int32) (ht : vp_in t (ql_n L)) (hw : qw (ql_c L) u i) : mz_Cv l (qG D L) (qK D L) (qA L) yX4_sendAppend (tz_w yX4_sendAppend cX4_sendAppend 4 none) ({ frames := 2, cells := 0, slots := 0, locals := 43 } : Room) [.ref (L.1 0 0), .ref (L.1 2 i), .int t] u (qs_sApp (ql_S L) u i t) := by
  refine mz_Cv.of (cc := cX4_sendAppend) (maxL := 4) (ret := none) (by decide) rfl (Nat.le_of_ble_eq_true rfl) ?_
  intro p e s m args below meth c ls hx hb hr hlk hml hown hts hl hG hK hS
  have hl : lv_has ls 4 [(0, .ref (L.1 0 0)), (1, .ref (L.1 2 i)), (2, .int t)] := hl
  have htz : ∀ w ∈ tz, w.before args s = true := fun w h => hts w (List.mem_cons_of_mem _ h)
  refine lv_aload_n hx hb dX4_sendAppend_0 rfl (lv_at hl 1 rfl) ?_
  refine qgN_2 (f := 8) hx hb htz tin_X3 hown hK hG hi (va_Nw.use rfl (hK.2 _ nX4_68)) (by decide) rfl dX4_sendAppend_1 ?_
  refine lv_iload_n hx hb dX4_sendAppend_4 rfl (lv_at hl 2 rfl) ?_
  refine qa_7 hx hb hK hG hi ht dX4_sendAppend_5 ?_
  refine lv_istore_n hx hb dX4_sendAppend_6 rfl hl (by decide) rfl (fun ls hl => ?_)
  have hl : lv_has ls 4 [(3, .int _), (0, .ref _), (1, .ref _), (2, .int _)] := hl
  refine lv_aload_n hx hb dX4_sendAppend_7 rfl (lv_at hl 1 rfl) ?_
  refine qg_0 (f := 2) hx hb htz tin_X4 hown hK hG (by decide) (htz _ fX4_34) (by decide) rfl dX4_sendAppend_8 ?_
  refine lv_iconst (v := 3) hx hb dX4_sendAppend_11 (by decide) ?_
  refine lv_aload_n hx hb dX4_sendAppend_12 rfl (lv_at hl 2 rfl) ?_
  refine qgN_2 (f := 0) hx hb htz tin_X3 hown hK hG hi (va_Nw.use rfl (hK.2 _ nX4_171)) (by decide) rfl dX4_sendAppend_13 ?_
  refine lv_iload_n hx hb dX4_sendAppend_16 rfl (lv_at hl 3 rfl) ?_
  refine lv_aload_n hx hb dX4_sendAppend_17 rfl (lv_at hl 2 rfl) ?_
  refine qgN_2 (f := 3) hx hb htz tin_X3 hown hK hG hi (va_Nw.use rfl (hK.2 _ nX4_91)) (by decide) rfl dX4_sendAppend_18 ?_
  refine mz_Nv (As := [.int _, .int _, .int _, .int _]) (rest := []) ⟨hx, hb, hml, hown, hts⟩ (qc_begin l D L hL _ (ql_S L) (by omega) _ _ _ _) (tz_N htz mX1_begin (hK.2 _ nX4_174) rfl rfl ⟨Nat.le_of_ble_eq_true rfl, Nat.le_of_ble_eq_true rfl⟩) (qrecv_11 hK hG (by omega)) qK_ok hK hG hS rfl hl.1 rfl (Nat.le_of_ble_eq_true rfl) dX4_sendAppend_21 ⟨Nat.zero_le _, Nat.zero_le _⟩ (fun H locs hG hS => ?_)
  refine lv_aload_n hx hb dX4_sendAppend_24 rfl (lv_at hl 1 rfl) ?_
  refine qg_0 (f := 2) hx hb htz tin_X4 hown hK hG (by decide) (htz _ fX4_34) (by decide) rfl dX4_sendAppend_25 ?_
  refine lv_iload_n hx hb dX4_sendAppend_28 rfl (lv_at hl 0 rfl) ?_
  refine lv_iconst (v := 1) hx hb dX4_sendAppend_29 (by decide) ?_
  refine lv_isub hx hb dX4_sendAppend_30 ?_
  refine qpN_11_4 hx hb htz tin_X1 hown hL hK hG hS (by omega) (va_Nw.use rfl (hK.2 _ nX4_178)) dX4_sendAppend_31 (fun H locs hG hS => ?_)
  refine lv_aload_n hx hb dX4_sendAppend_34 rfl (lv_at hl 1 rfl) ?_
  refine qg_0 (f := 2) hx hb htz tin_X4 hown hK hG (by decide) (htz _ fX4_34) (by decide) rfl dX4_sendAppend_35 ?_
  refine lv_aload_n hx hb dX4_sendAppend_38 rfl (lv_at hl 2 rfl) ?_
  refine qgN_2 (f := 6) hx hb htz tin_X3 hown hK hG hi (va_Nw.use rfl (hK.2 _ nX4_72)) (by decide) rfl dX4_sendAppend_39 ?_
  refine lv_iload_n hx hb dX4_sendAppend_42 rfl (lv_at hl 0 rfl) ?_
  refine lv_iconst (v := 1) hx hb dX4_sendAppend_43 (by decide) ?_
  refine lv_isub hx hb dX4_sendAppend_44 ?_
  refine mz_Ni (As := [.int _]) (rest := [.ref _]) ⟨hx, hb, hml, hown, hts⟩ (qc_termOf l D L hL _ i hi _ (hw.same (by simp [qs_mApp0, qs_begin, mz_at]) (by simp [qs_mApp0, qs_begin, mz_at]))) (tz_N htz mX0_termOf (hK.2 _ nX4_104) rfl rfl ⟨Nat.le_of_ble_eq_true rfl, Nat.le_of_ble_eq_true rfl⟩) (qrecv_3 hK hG hi) qK_ok hK hG hS rfl hl.1 rfl (Nat.le_of_ble_eq_true rfl) dX4_sendAppend_45 ⟨Nat.zero_le _, Nat.zero_le _⟩ (fun H locs hG hS => ?_)
  refine mz_topE (qs_term_same (u := u) (by simp [qs_mApp0, qs_begin, mz_at]) (by simp [qs_mApp0, qs_begin, mz_at])) ?_
  refine qpN_11_5 hx hb htz tin_X1 hown hL hK hG hS (by omega) (va_Nw.use rfl (hK.2 _ nX4_184)) dX4_sendAppend_48 (fun H locs hG hS => ?_)
  refine lv_aload_n hx hb dX4_sendAppend_51 rfl (lv_at hl 1 rfl) ?_
  refine qg_0 (f := 2) hx hb htz tin_X4 hown hK hG (by decide) (htz _ fX4_34) (by decide) rfl dX4_sendAppend_52 ?_
  refine lv_aload_n hx hb dX4_sendAppend_55 rfl (lv_at hl 2 rfl) ?_
  refine qgN_2 (f := 6) hx hb htz tin_X3 hown hK hG hi (va_Nw.use rfl (hK.2 _ nX4_72)) (by decide) rfl dX4_sendAppend_56 ?_
  refine lv_iload_n hx hb dX4_sendAppend_59 rfl (lv_at hl 0 rfl) ?_
  refine mz_Ni (As := [.int _]) (rest := [.ref _]) ⟨hx, hb, hml, hown, hts⟩ (qc_hasEntry l D L hL _ i hi _) (tz_N htz mX0_hasEntry (hK.2 _ nX4_190) rfl rfl ⟨Nat.le_of_ble_eq_true rfl, Nat.le_of_ble_eq_true rfl⟩) (qrecv_3 hK hG hi) qK_ok hK hG hS rfl hl.1 rfl (Nat.le_of_ble_eq_true rfl) dX4_sendAppend_60 ⟨Nat.zero_le _, Nat.zero_le _⟩ (fun H locs hG hS => ?_)
  refine mz_topE (mz_b_iff (qs_has_same (u := u) (by simp [qs_begin, mz_at]))) ?_
  refine qpN_11_7 hx hb htz tin_X1 hown hL hK hG hS (by omega) (va_Nw.use rfl (hK.2 _ nX4_193)) mz_bb dX4_sendAppend_63 (fun H locs hG hS => ?_)
  have hG : qG D L (qs_mApp0 (ql_S L) u i t (u 7 i t.toNatClampNeg)) H := hG
  refine lv_aload_n hx hb dX4_sendAppend_66 rfl (lv_at hl 1 rfl) ?_
  refine qg_0 (f := 2) hx hb htz tin_X4 hown hK hG (by decide) (htz _ fX4_34) (by decide) rfl dX4_sendAppend_67 ?_
  refine qgN_11 (f := 7) (v := .int (mz_b (qs_has u i (u 7 i t.toNatClampNeg)))) hx hb htz tin_X1 hown hK hG (by omega) (va_Nw.use rfl (hK.2 _ nX4_193)) (by decide) (by rw [show (qf11 (qs_mApp0 (ql_S L) u i t (u 7 i t.toNatClampNeg)) 11 (ql_S L))[7]? = some (.int (mz_b (mz_b (qs_has u i (u 7 i t.toNatClampNeg)) ≠ 0))) from by simp [qf11, qs_mApp0, mz_at], mz_bb]) dX4_sendAppend_70 ?_
  refine mz_ifeq_b hx hb dX4_sendAppend_73 (tgt := 106) rfl (fun h0 => ?_) (fun h0 => ?_)
  · refine lv_aload_n hx hb dX4_sendAppend_106 rfl (lv_at hl 1 rfl) ?_
    refine qg_0 (f := 2) hx hb htz tin_X4 hown hK hG (by decide) (htz _ fX4_34) (by decide) rfl dX4_sendAppend_107 ?_
    refine lv_aload_n hx hb dX4_sendAppend_110 rfl (lv_at hl 2 rfl) ?_
    refine qgN_2 (f := 5) (v := .int (u 2 i 5)) hx hb htz tin_X3 hown hK hG hi (va_Nw.use rfl (hK.2 _ nX4_101)) (by decide) (by simp [qf2, qs_mApp0, qs_begin, mz_at]) dX4_sendAppend_111 ?_
    refine qpN_11_10 hx hb htz tin_X1 hown hL hK hG hS (by omega) (va_Nw.use rfl (hK.2 _ nX4_201)) dX4_sendAppend_114 (fun H locs hG hS => ?_)
    refine lv_aload_n hx hb dX4_sendAppend_117 rfl (lv_at hl 1 rfl) ?_
    refine qg_0 (f := 1) hx hb htz tin_X4 hown hK hG (by decide) (htz _ fX4_27) (by decide) rfl dX4_sendAppend_118 ?_
    refine lv_aload_n hx hb dX4_sendAppend_121 rfl (lv_at hl 1 rfl) ?_
    refine qg_0 (f := 2) hx hb htz tin_X4 hown hK hG (by decide) (htz _ fX4_34) (by decide) rfl dX4_sendAppend_122 ?_
    refine mz_Ni (As := [.ref _]) (rest := []) ⟨hx, hb, hml, hown, hts⟩ (qc_put l D L hL _ (ql_S L) (by omega)) (tz_N htz mX2_put (hK.2 _ nX4_141) rfl rfl ⟨Nat.le_of_ble_eq_true rfl, Nat.le_of_ble_eq_true rfl⟩) (qrecv_9 hK hG (by decide)) qK_ok hK hG hS rfl hl.1 rfl (Nat.le_of_ble_eq_true rfl) dX4_sendAppend_125 ⟨Nat.zero_le _, Nat.zero_le _⟩ (fun H locs hG hS => ?_)
    refine lv_pop hx hb dX4_sendAppend_128 rfl ?_
    exact mz_vret hx hb hr hlk qK_ok hK hS hG dX4_sendAppend_129 (by unfold qs_sApp qs_mApp; first | rw [if_pos h0] | rw [if_neg h0])
  · refine lv_aload_n hx hb dX4_sendAppend_76 rfl (lv_at hl 1 rfl) ?_
    refine qg_0 (f := 2) hx hb htz tin_X4 hown hK hG (by decide) (htz _ fX4_34) (by decide) rfl dX4_sendAppend_77 ?_
    refine lv_aload_n hx hb dX4_sendAppend_80 rfl (lv_at hl 2 rfl) ?_
    refine qgN_2 (f := 6) hx hb htz tin_X3 hown hK hG hi (va_Nw.use rfl (hK.2 _ nX4_72)) (by decide) rfl dX4_sendAppend_81 ?_
    refine lv_iload_n hx hb dX4_sendAppend_84 rfl (lv_at hl 0 rfl) ?_
    refine mz_Ni (As := [.int _]) (rest := [.ref _]) ⟨hx, hb, hml, hown, hts⟩ (qc_termOf l D L hL _ i hi _ (hw.same (by simp [qs_mApp0, qs_begin, mz_at]) (by simp [qs_mApp0, qs_begin, mz_at]))) (tz_N htz mX0_termOf (hK.2 _ nX4_104) rfl rfl ⟨Nat.le_of_ble_eq_true rfl, Nat.le_of_ble_eq_true rfl⟩) (qrecv_3 hK hG hi) qK_ok hK hG hS rfl hl.1 rfl (Nat.le_of_ble_eq_true rfl) dX4_sendAppend_85 ⟨Nat.zero_le _, Nat.zero_le _⟩ (fun H locs hG hS => ?_)
    refine mz_topE (qs_term_same (u := u) (by simp [qs_mApp0, qs_begin, mz_at]) (by simp [qs_mApp0, qs_begin, mz_at])) ?_
    refine qpN_11_8 hx hb htz tin_X1 hown hL hK hG hS (by omega) (va_Nw.use rfl (hK.2 _ nX4_195)) dX4_sendAppend_88 (fun H locs hG hS => ?_)
    refine lv_aload_n hx hb dX4_sendAppend_91 rfl (lv_at hl 1 rfl) ?_
    refine qg_0 (f := 2) hx hb htz tin_X4 hown hK hG (by decide) (htz _ fX4_34) (by decide) rfl dX4_sendAppend_92 ?_
    refine lv_aload_n hx hb dX4_sendAppend_95 rfl (lv_at hl 2 rfl) ?_
    refine qgN_2 (f := 6) hx hb htz tin_X3 hown hK hG hi (va_Nw.use rfl (hK.2 _ nX4_72)) (by decide) rfl dX4_sendAppend_96 ?_
    refine lv_iload_n hx hb dX4_sendAppend_99 rfl (lv_at hl 0 rfl) ?_
    refine mz_Ni (As := [.int _]) (rest := [.ref _]) ⟨hx, hb, hml, hown, hts⟩ (qc_commandOf l D L hL _ i hi _ (hw.same (by simp [qs_mApp0, qs_begin, mz_at]) (by simp [qs_mApp0, qs_begin, mz_at]))) (tz_N htz mX0_commandOf (hK.2 _ nX4_148) rfl rfl ⟨Nat.le_of_ble_eq_true rfl, Nat.le_of_ble_eq_true rfl⟩) (qrecv_3 hK hG hi) qK_ok hK hG hS rfl hl.1 rfl (Nat.le_of_ble_eq_true rfl) dX4_sendAppend_100 ⟨Nat.zero_le _, Nat.zero_le _⟩ (fun H locs hG hS => ?_)
    refine mz_topE (qs_cmd_same (u := u) (by simp [qs_mApp0, qs_begin, mz_at]) (by simp [qs_mApp0, qs_begin, mz_at])) ?_
    refine qpN_11_9 hx hb htz tin_X1 hown hL hK hG hS (by omega) (va_Nw.use rfl (hK.2 _ nX4_198)) dX4_sendAppend_103 (fun H locs hG hS => ?_)
    refine lv_aload_n hx hb dX4_sendAppend_106 rfl (lv_at hl 1 rfl) ?_
    refine qg_0 (f := 2) hx hb htz tin_X4 hown hK hG (by decide) (htz _ fX4_34) (by decide) rfl dX4_sendAppend_107 ?_
    refine lv_aload_n hx hb dX4_sendAppend_110 rfl (lv_at hl 2 rfl) ?_
    refine qgN_2 (f := 5) (v := .int (u 2 i 5)) hx hb htz tin_X3 hown hK hG hi (va_Nw.use rfl (hK.2 _ nX4_101)) (by decide) (by simp [qf2, qs_mApp0, qs_begin, mz_at]) dX4_sendAppend_111 ?_
    refine qpN_11_10 hx hb htz tin_X1 hown hL hK hG hS (by omega) (va_Nw.use rfl (hK.2 _ nX4_201)) dX4_sendAppend_114 (fun H locs hG hS => ?_)
    refine lv_aload_n hx hb dX4_sendAppend_117 rfl (lv_at hl 1 rfl) ?_
    refine qg_0 (f := 1) hx hb htz tin_X4 hown hK hG (by decide) (htz _ fX4_27) (by decide) rfl dX4_sendAppend_118 ?_
    refine lv_aload_n hx hb dX4_sendAppend_121 rfl (lv_at hl 1 rfl) ?_
    refine qg_0 (f := 2) hx hb htz tin_X4 hown hK hG (by decide) (htz _ fX4_34) (by decide) rfl dX4_sendAppend_122 ?_
    refine mz_Ni (As := [.ref _]) (rest := []) ⟨hx, hb, hml, hown, hts⟩ (qc_put l D L hL _ (ql_S L) (by omega)) (tz_N htz mX2_put (hK.2 _ nX4_141) rfl rfl ⟨Nat.le_of_ble_eq_true rfl, Nat.le_of_ble_eq_true rfl⟩) (qrecv_9 hK hG (by decide)) qK_ok hK hG hS rfl hl.1 rfl (Nat.le_of_ble_eq_true rfl) dX4_sendAppend_125 ⟨Nat.zero_le _, Nat.zero_le _⟩ (fun H locs hG hS => ?_)
    refine lv_pop hx hb dX4_sendAppend_128 rfl ?_
    exact mz_vret hx hb hr hlk qK_ok hK hS hG dX4_sendAppend_129 (by unfold qs_sApp qs_mApp; first | rw [if_pos h0] | rw [if_neg h0])
end
section
set_option maxRecDepth 100000 in
set_option maxHeartbeats 4000000 in
theorem qc_advanceCommit (l : Launch) (D : va_G) (L : qL) (hL : qL_ok L) (u : mz_S) (i : Nat) (hi : i < ql_n L) (hq : qwc (ql_c L) u i (u 2 i 5)) : mz_Cv l (qG D L) (qK D L) (qA L) yX4_advanceCommit (tz_w yX4_advanceCommit cX4_advanceCommit 3 none) ({ frames := 2, cells := 0, slots := 0, locals := 42 } : Room) [.ref (L.1 0 0), .ref (L.1 2 i)] u (qs_advance (ql_n L) u i) := by
  refine mz_Cv.of (cc := cX4_advanceCommit) (maxL := 3) (ret := none) (by decide) rfl (Nat.le_of_ble_eq_true rfl) ?_
  intro p e s m args below meth c ls hx hb hr hlk hml hown hts hl hG hK hS
  have hl : lv_has ls 3 [(0, .ref (L.1 0 0)), (1, .ref (L.1 2 i))] := hl
  have htz : ∀ w ∈ tz, w.before args s = true := fun w h => hts w (List.mem_cons_of_mem _ h)
  have hc12 : ql_c L ≤ 12 := hL.1.2.2.2.1
  have hn5 : ql_n L ≤ 5 := hL.1.2.1
  have h40 : ql_S L ≤ 40 := hL.1.2.2.2.2.2
  refine lv_aload_n hx hb dX4_advanceCommit_0 rfl (lv_at hl 1 rfl) ?_
  refine qgN_2 (f := 6) hx hb htz tin_X3 hown hK hG hi (va_Nw.use rfl (hK.2 _ nX4_72)) (by decide) rfl dX4_advanceCommit_1 ?_
  refine mz_Ni (As := []) (rest := []) ⟨hx, hb, hml, hown, hts⟩ (qc_lastNumber l D L hL _ i hi) (tz_N htz mX0_lastNumber (hK.2 _ nX4_98) rfl rfl ⟨Nat.le_of_ble_eq_true rfl, Nat.le_of_ble_eq_true rfl⟩) (qrecv_3 hK hG hi) qK_ok hK hG hS rfl hl.1 rfl (Nat.le_of_ble_eq_true rfl) dX4_advanceCommit_4 ⟨Nat.zero_le _, Nat.zero_le _⟩ (fun H locs hG hS => ?_)
  refine lv_istore_n hx hb dX4_advanceCommit_7 rfl hl (by decide) rfl (fun ls hl => ?_)
  have hl : lv_has ls 3 [(2, .int _), (0, .ref _), (1, .ref _)] := hl
  have hw := hq.qw
  obtain ⟨b, k9, q, e1, e2, e3, g1, g2, g3, g4⟩ := hq
  have el : qs_last u i = nI (b + k9) := by rw [qs_last, e1, e2, nI_add]
  have hl : lv_has ls 3 [(2, .int (qs_last u i)), (0, .ref (L.1 0 0)), (1, .ref (L.1 2 i))] := hl
  rw [el] at hl
  refine mz_loop (b + k9 - q) (P := fun j ls H locs => lv_has ls 3 [(2, .int (nI (b + k9 - j))), (0, .ref (L.1 0 0)), (1, .ref (L.1 2 i))] ∧ qG D L u H ∧ va_S (qA L) s.heap H locs ∧ j ≤ b + k9 - q ∧ qs_adv (ql_n L) u i (b + k9 - q - j) (nI (b + k9 - j)) = qs_advance (ql_n L) u i) (fun _ _ _ _ h => h.2.2.2.1) ?_ 0 _ _ _ ⟨hl, hG, hS, Nat.zero_le _, by rw [qs_advance, el, e3, pk_sub (by omega), nI_clamp (by omega)]; rfl⟩
  intro j ls H locs ⟨hl, hG, hS, hj, ha9⟩ ih
  refine lv_iload_n hx hb dX4_advanceCommit_8 rfl (lv_at hl 0 rfl) ?_
  refine lv_aload_n hx hb dX4_advanceCommit_9 rfl (lv_at hl 2 rfl) ?_
  refine qgN_2 (f := 5) hx hb htz tin_X3 hown hK hG hi (va_Nw.use rfl (hK.2 _ nX4_101)) (by decide) rfl dX4_advanceCommit_10 ?_
  refine mz_icmp_le hx hb dX4_advanceCommit_13 (tgt := 55) rfl (fun h0 h0' => ?_) (fun h0 h0' => ?_)
  · rw [e3, nI_leI (by omega) (by omega)] at h0'
    exact mz_vret hx hb hr hlk qK_ok hK hS hG dX4_advanceCommit_55 (by rw [← ha9, show b + k9 - q - j = 0 by omega]; rfl)
  · have h9 := h0
    rw [e3, nI_ltI (by omega) (by omega)] at h0
    refine lv_aload_n hx hb dX4_advanceCommit_16 rfl (lv_at hl 2 rfl) ?_
    refine qgN_2 (f := 6) hx hb htz tin_X3 hown hK hG hi (va_Nw.use rfl (hK.2 _ nX4_72)) (by decide) rfl dX4_advanceCommit_17 ?_
    refine lv_iload_n hx hb dX4_advanceCommit_20 rfl (lv_at hl 0 rfl) ?_
    refine mz_Ni (As := [.int _]) (rest := []) ⟨hx, hb, hml, hown, hts⟩ (qc_termOf l D L hL _ i hi _ hw) (tz_N htz mX0_termOf (hK.2 _ nX4_104) rfl rfl ⟨Nat.le_of_ble_eq_true rfl, Nat.le_of_ble_eq_true rfl⟩) (qrecv_3 hK hG hi) qK_ok hK hG hS rfl hl.1 rfl (Nat.le_of_ble_eq_true rfl) dX4_advanceCommit_21 ⟨Nat.zero_le _, Nat.zero_le _⟩ (fun H locs hG hS => ?_)
    refine lv_aload_n hx hb dX4_advanceCommit_24 rfl (lv_at hl 2 rfl) ?_
    refine qgN_2 (f := 3) hx hb htz tin_X3 hown hK hG hi (va_Nw.use rfl (hK.2 _ nX4_91)) (by decide) rfl dX4_advanceCommit_25 ?_
    refine lv_icmp_ne hx hb dX4_advanceCommit_28 (tgt := 49) rfl (fun h1 => ?_) (fun h1 => ?_)
    · refine lv_iinc (k := 0) hx hb dX4_advanceCommit_49 hl rfl (show _ = nI (b + k9 - (j + 1)) from by rw [show b + k9 - (j + 1) = b + k9 - j - 1 by omega]; exact sb_m1 (by omega)) (by decide) rfl (fun ls hl => ?_)
      have hl : lv_has ls 3 [(2, .int _), (0, .ref _), (1, .ref _)] := hl
      refine lv_goto hx hb dX4_advanceCommit_52 (tgt := 8) rfl ?_
      exact ih (by omega) _ _ _ ⟨hl, hG, hS, by omega, by
        rw [← ha9, show b + k9 - q - j = (b + k9 - q - (j + 1)) + 1 by omega, qs_adv, if_pos h9]
        first
          | rw [if_neg (fun z => h1 z.1), show nI (b + k9 - j) - 1 = nI (b + k9 - (j + 1)) from by rw [show b + k9 - j = (b + k9 - (j + 1)) + 1 by omega, nI_pred]]
          | rw [if_neg (fun z => h2 z.2), show nI (b + k9 - j) - 1 = nI (b + k9 - (j + 1)) from by rw [show b + k9 - j = (b + k9 - (j + 1)) + 1 by omega, nI_pred]]⟩
    · refine lv_aload_n hx hb dX4_advanceCommit_31 rfl (lv_at hl 1 rfl) ?_
      refine lv_aload_n hx hb dX4_advanceCommit_32 rfl (lv_at hl 2 rfl) ?_
      refine lv_iload_n hx hb dX4_advanceCommit_33 rfl (lv_at hl 0 rfl) ?_
      refine mz_Ni (As := [.int _]) (rest := [.ref _]) ⟨hx, hb, hml, hown, hts⟩ (qc_countHolders l D L hL _ i hi _) (tz_N htz mX3_countHolders (hK.2 _ nX4_263) rfl rfl ⟨Nat.le_of_ble_eq_true rfl, Nat.le_of_ble_eq_true rfl⟩) (qrecv_2 hK hG hi) qK_ok hK hG hS rfl hl.1 rfl (Nat.le_of_ble_eq_true rfl) dX4_advanceCommit_34 ⟨Nat.zero_le _, Nat.zero_le _⟩ (fun H locs hG hS => ?_)
      refine mz_Vi (As := [.int _]) (rest := []) ⟨hx, hb, hml, hown, hts⟩ (qc_isMajority l D L hL _ _) (tz_V htz mX4_isMajority lX4_243 rfl rfl ⟨Nat.le_of_ble_eq_true rfl, Nat.le_of_ble_eq_true rfl⟩) (qrecv_0 hK hG (by decide)) qK_ok hK hG hS rfl hl.1 rfl (Nat.le_of_ble_eq_true rfl) dX4_advanceCommit_37 ⟨Nat.zero_le _, Nat.zero_le _⟩ (fun H locs hG hS => ?_)
      refine mz_ifeq_b hx hb dX4_advanceCommit_40 (tgt := 49) rfl (fun h2 => ?_) (fun h2 => ?_)
      · refine lv_iinc (k := 0) hx hb dX4_advanceCommit_49 hl rfl (show _ = nI (b + k9 - (j + 1)) from by rw [show b + k9 - (j + 1) = b + k9 - j - 1 by omega]; exact sb_m1 (by omega)) (by decide) rfl (fun ls hl => ?_)
        have hl : lv_has ls 3 [(2, .int _), (0, .ref _), (1, .ref _)] := hl
        refine lv_goto hx hb dX4_advanceCommit_52 (tgt := 8) rfl ?_
        exact ih (by omega) _ _ _ ⟨hl, hG, hS, by omega, by
          rw [← ha9, show b + k9 - q - j = (b + k9 - q - (j + 1)) + 1 by omega, qs_adv, if_pos h9]
          first
            | rw [if_neg (fun z => h1 z.1), show nI (b + k9 - j) - 1 = nI (b + k9 - (j + 1)) from by rw [show b + k9 - j = (b + k9 - (j + 1)) + 1 by omega, nI_pred]]
            | rw [if_neg (fun z => h2 z.2), show nI (b + k9 - j) - 1 = nI (b + k9 - (j + 1)) from by rw [show b + k9 - j = (b + k9 - (j + 1)) + 1 by omega, nI_pred]]⟩
      · refine lv_aload_n hx hb dX4_advanceCommit_43 rfl (lv_at hl 2 rfl) ?_
        refine lv_iload_n hx hb dX4_advanceCommit_44 rfl (lv_at hl 0 rfl) ?_
        refine qpN_2_5 hx hb htz tin_X3 hown hL hK hG hS hi (va_Nw.use rfl (hK.2 _ nX4_101)) dX4_advanceCommit_45 (fun H locs hG hS => ?_)
        exact mz_vret hx hb hr hlk qK_ok hK hS hG dX4_advanceCommit_48 (by rw [← ha9, show b + k9 - q - j = (b + k9 - q - (j + 1)) + 1 by omega, qs_adv, if_pos h9, if_pos ⟨h1, h2⟩])

set_option maxRecDepth 100000 in
set_option maxHeartbeats 4000000 in
theorem qc_receiveAsk (l : Launch) (D : va_G) (L : qL) (hL : qL_ok L) (u : mz_S) (i : Nat) (hi : i < ql_n L) (a : Nat) (ha : a < ql_S L + 2) (hw : qw (ql_c L) u i) : mz_Cv l (qG D L) (qK D L) (qA L) yX4_receiveAsk (tz_w yX4_receiveAsk cX4_receiveAsk 5 none) ({ frames := 3, cells := 0, slots := 0, locals := 66 } : Room) [.ref (L.1 0 0), .ref (L.1 2 i), .ref (L.1 11 a)] u (qs_rAsk (ql_S L) u i a) := by
  refine mz_Cv.of (cc := cX4_receiveAsk) (maxL := 5) (ret := none) (by decide) rfl (Nat.le_of_ble_eq_true rfl) ?_
  intro p e s m args below meth c ls hx hb hr hlk hml hown hts hl hG hK hS
  have hl : lv_has ls 5 [(0, .ref (L.1 0 0)), (1, .ref (L.1 2 i)), (2, .ref (L.1 11 a))] := hl
  have htz : ∀ w ∈ tz, w.before args s = true := fun w h => hts w (List.mem_cons_of_mem _ h)
  refine lv_aload_n hx hb dX4_receiveAsk_0 rfl (lv_at hl 1 rfl) ?_
  refine qgN_2 (f := 4) hx hb htz tin_X3 hown hK hG hi (va_Nw.use rfl (hK.2 _ nX4_145)) (by decide) rfl dX4_receiveAsk_1 ?_
  refine lv_iconst (v := (-1)) hx hb dX4_receiveAsk_4 (by decide) ?_
  refine lv_icmp_eq hx hb dX4_receiveAsk_5 (tgt := 19) rfl (fun h0 => ?_) (fun h0 => ?_)
  · refine lv_iconst (v := 1) hx hb dX4_receiveAsk_19 (by decide) ?_
    refine lv_goto hx hb dX4_receiveAsk_20 (tgt := 24) rfl ?_
    refine lv_istore_n hx hb dX4_receiveAsk_24 rfl hl (by decide) rfl (fun ls hl => ?_)
    have hl : lv_has ls 5 [(3, .int _), (0, .ref _), (1, .ref _), (2, .ref _)] := hl
    refine lv_aload_n hx hb dX4_receiveAsk_25 rfl (lv_at hl 3 rfl) ?_
    refine qgN_11 (f := 3) hx hb htz tin_X1 hown hK hG ha (va_Nw.use rfl (hK.2 _ nX4_161)) (by decide) rfl dX4_receiveAsk_26 ?_
    refine lv_aload_n hx hb dX4_receiveAsk_29 rfl (lv_at hl 2 rfl) ?_
    refine qgN_2 (f := 3) hx hb htz tin_X3 hown hK hG hi (va_Nw.use rfl (hK.2 _ nX4_91)) (by decide) rfl dX4_receiveAsk_30 ?_
    refine lv_icmp_ne hx hb dX4_receiveAsk_33 (tgt := 62) rfl (fun h2 => ?_) (fun h2 => ?_)
    · refine lv_iconst (v := 0) hx hb dX4_receiveAsk_62 (by decide) ?_
      refine lv_istore hx hb dX4_receiveAsk_63 hl (by decide) rfl (fun ls hl => ?_)
      have hl : lv_has ls 5 [(4, .int _), (3, .int _), (0, .ref _), (1, .ref _), (2, .ref _)] := hl
      refine lv_iload hx hb dX4_receiveAsk_65 (lv_at hl 0 rfl) ?_
      refine lv_if_eq hx hb dX4_receiveAsk_67 (tgt := 78) rfl (fun h_1 => ?_) (fun h_1 => ?_)
      · refine lv_aload_n hx hb dX4_receiveAsk_78 rfl (lv_at hl 2 rfl) ?_
        refine lv_aload_n hx hb dX4_receiveAsk_79 rfl (lv_at hl 3 rfl) ?_
        refine lv_aload_n hx hb dX4_receiveAsk_80 rfl (lv_at hl 4 rfl) ?_
        refine qgN_11 (f := 1) (v := .int (u 11 a 1)) hx hb htz tin_X1 hown hK hG ha (va_Nw.use rfl (hK.2 _ nX4_158)) (by decide) (by simp [qf11, mz_at]) dX4_receiveAsk_81 ?_
        refine lv_iload hx hb dX4_receiveAsk_84 (lv_at hl 0 rfl) ?_
        refine mz_Vv (As := [.ref _, .int _, .int _]) (rest := []) ⟨hx, hb, hml, hown, hts⟩ (qc_sendVote l D L hL _ i hi _ _ (by decide)) (tz_V htz mX4_sendVote lX4_232 rfl rfl ⟨Nat.le_of_ble_eq_true rfl, Nat.le_of_ble_eq_true rfl⟩) (qrecv_0 hK hG (by decide)) qK_ok hK hG hS rfl hl.1 rfl (Nat.le_of_ble_eq_true rfl) dX4_receiveAsk_86 ⟨Nat.zero_le _, Nat.zero_le _⟩ (fun H locs hG hS => ?_)
        exact mz_vret hx hb hr hlk qK_ok hK hS hG dX4_receiveAsk_89 (by simp [qs_rAsk, h0, h2, h_1])
      · exact absurd h_1 (by decide)
    · refine lv_iload_n hx hb dX4_receiveAsk_36 rfl (lv_at hl 0 rfl) ?_
      refine lv_if_eq hx hb dX4_receiveAsk_37 (tgt := 62) rfl (fun h_2 => ?_) (fun h_2 => ?_)
      · exact absurd h_2 (by decide)
      · refine lv_aload_n hx hb dX4_receiveAsk_40 rfl (lv_at hl 2 rfl) ?_
        refine qgN_2 (f := 6) hx hb htz tin_X3 hown hK hG hi (va_Nw.use rfl (hK.2 _ nX4_72)) (by decide) rfl dX4_receiveAsk_41 ?_
        refine lv_aload_n hx hb dX4_receiveAsk_44 rfl (lv_at hl 3 rfl) ?_
        refine qgN_11 (f := 4) hx hb htz tin_X1 hown hK hG ha (va_Nw.use rfl (hK.2 _ nX4_178)) (by decide) rfl dX4_receiveAsk_45 ?_
        refine lv_aload_n hx hb dX4_receiveAsk_48 rfl (lv_at hl 3 rfl) ?_
        refine qgN_11 (f := 5) hx hb htz tin_X1 hown hK hG ha (va_Nw.use rfl (hK.2 _ nX4_184)) (by decide) rfl dX4_receiveAsk_49 ?_
        refine mz_Ni (As := [.int _, .int _]) (rest := []) ⟨hx, hb, hml, hown, hts⟩ (qc_isNotAheadOf l D L hL _ i hi _ _ hw) (tz_N htz mX0_isNotAheadOf (hK.2 _ nX4_229) rfl rfl ⟨Nat.le_of_ble_eq_true rfl, Nat.le_of_ble_eq_true rfl⟩) (qrecv_3 hK hG hi) qK_ok hK hG hS rfl hl.1 rfl (Nat.le_of_ble_eq_true rfl) dX4_receiveAsk_52 ⟨Nat.zero_le _, Nat.zero_le _⟩ (fun H locs hG hS => ?_)
        refine mz_ifeq_b hx hb dX4_receiveAsk_55 (tgt := 62) rfl (fun h4 => ?_) (fun h4 => ?_)
        · refine lv_iconst (v := 0) hx hb dX4_receiveAsk_62 (by decide) ?_
          refine lv_istore hx hb dX4_receiveAsk_63 hl (by decide) rfl (fun ls hl => ?_)
          have hl : lv_has ls 5 [(4, .int _), (3, .int _), (0, .ref _), (1, .ref _), (2, .ref _)] := hl
          refine lv_iload hx hb dX4_receiveAsk_65 (lv_at hl 0 rfl) ?_
          refine lv_if_eq hx hb dX4_receiveAsk_67 (tgt := 78) rfl (fun h_3 => ?_) (fun h_3 => ?_)
          · refine lv_aload_n hx hb dX4_receiveAsk_78 rfl (lv_at hl 2 rfl) ?_
            refine lv_aload_n hx hb dX4_receiveAsk_79 rfl (lv_at hl 3 rfl) ?_
            refine lv_aload_n hx hb dX4_receiveAsk_80 rfl (lv_at hl 4 rfl) ?_
            refine qgN_11 (f := 1) (v := .int (u 11 a 1)) hx hb htz tin_X1 hown hK hG ha (va_Nw.use rfl (hK.2 _ nX4_158)) (by decide) (by simp [qf11, mz_at]) dX4_receiveAsk_81 ?_
            refine lv_iload hx hb dX4_receiveAsk_84 (lv_at hl 0 rfl) ?_
            refine mz_Vv (As := [.ref _, .int _, .int _]) (rest := []) ⟨hx, hb, hml, hown, hts⟩ (qc_sendVote l D L hL _ i hi _ _ (by decide)) (tz_V htz mX4_sendVote lX4_232 rfl rfl ⟨Nat.le_of_ble_eq_true rfl, Nat.le_of_ble_eq_true rfl⟩) (qrecv_0 hK hG (by decide)) qK_ok hK hG hS rfl hl.1 rfl (Nat.le_of_ble_eq_true rfl) dX4_receiveAsk_86 ⟨Nat.zero_le _, Nat.zero_le _⟩ (fun H locs hG hS => ?_)
            exact mz_vret hx hb hr hlk qK_ok hK hS hG dX4_receiveAsk_89 (by simp [qs_rAsk, h0, h2, h_2, h4, h_3])
          · exact absurd h_3 (by decide)
        · refine lv_iconst (v := 1) hx hb dX4_receiveAsk_58 (by decide) ?_
          refine lv_goto hx hb dX4_receiveAsk_59 (tgt := 63) rfl ?_
          refine lv_istore hx hb dX4_receiveAsk_63 hl (by decide) rfl (fun ls hl => ?_)
          have hl : lv_has ls 5 [(4, .int _), (3, .int _), (0, .ref _), (1, .ref _), (2, .ref _)] := hl
          refine lv_iload hx hb dX4_receiveAsk_65 (lv_at hl 0 rfl) ?_
          refine lv_if_eq hx hb dX4_receiveAsk_67 (tgt := 78) rfl (fun h_4 => ?_) (fun h_4 => ?_)
          · exact absurd h_4 (by decide)
          · refine lv_aload_n hx hb dX4_receiveAsk_70 rfl (lv_at hl 3 rfl) ?_
            refine lv_aload_n hx hb dX4_receiveAsk_71 rfl (lv_at hl 4 rfl) ?_
            refine qgN_11 (f := 1) hx hb htz tin_X1 hown hK hG ha (va_Nw.use rfl (hK.2 _ nX4_158)) (by decide) rfl dX4_receiveAsk_72 ?_
            refine qpN_2_4 hx hb htz tin_X3 hown hL hK hG hS hi (va_Nw.use rfl (hK.2 _ nX4_145)) dX4_receiveAsk_75 (fun H locs hG hS => ?_)
            refine lv_aload_n hx hb dX4_receiveAsk_78 rfl (lv_at hl 2 rfl) ?_
            refine lv_aload_n hx hb dX4_receiveAsk_79 rfl (lv_at hl 3 rfl) ?_
            refine lv_aload_n hx hb dX4_receiveAsk_80 rfl (lv_at hl 4 rfl) ?_
            refine qgN_11 (f := 1) (v := .int (u 11 a 1)) hx hb htz tin_X1 hown hK hG ha (va_Nw.use rfl (hK.2 _ nX4_158)) (by decide) (by simp [qf11, mz_at]) dX4_receiveAsk_81 ?_
            refine lv_iload hx hb dX4_receiveAsk_84 (lv_at hl 0 rfl) ?_
            refine mz_Vv (As := [.ref _, .int _, .int _]) (rest := []) ⟨hx, hb, hml, hown, hts⟩ (qc_sendVote l D L hL _ i hi _ _ (by decide)) (tz_V htz mX4_sendVote lX4_232 rfl rfl ⟨Nat.le_of_ble_eq_true rfl, Nat.le_of_ble_eq_true rfl⟩) (qrecv_0 hK hG (by decide)) qK_ok hK hG hS rfl hl.1 rfl (Nat.le_of_ble_eq_true rfl) dX4_receiveAsk_86 ⟨Nat.zero_le _, Nat.zero_le _⟩ (fun H locs hG hS => ?_)
            exact mz_vret hx hb hr hlk qK_ok hK hS hG dX4_receiveAsk_89 (by simp [qs_rAsk, h0, h2, h_2, h4, h_4])
  · refine lv_aload_n hx hb dX4_receiveAsk_8 rfl (lv_at hl 1 rfl) ?_
    refine qgN_2 (f := 4) hx hb htz tin_X3 hown hK hG hi (va_Nw.use rfl (hK.2 _ nX4_145)) (by decide) rfl dX4_receiveAsk_9 ?_
    refine lv_aload_n hx hb dX4_receiveAsk_12 rfl (lv_at hl 2 rfl) ?_
    refine qgN_11 (f := 1) hx hb htz tin_X1 hown hK hG ha (va_Nw.use rfl (hK.2 _ nX4_158)) (by decide) rfl dX4_receiveAsk_13 ?_
    refine lv_icmp_ne hx hb dX4_receiveAsk_16 (tgt := 23) rfl (fun h1 => ?_) (fun h1 => ?_)
    · refine lv_iconst (v := 0) hx hb dX4_receiveAsk_23 (by decide) ?_
      refine lv_istore_n hx hb dX4_receiveAsk_24 rfl hl (by decide) rfl (fun ls hl => ?_)
      have hl : lv_has ls 5 [(3, .int _), (0, .ref _), (1, .ref _), (2, .ref _)] := hl
      refine lv_aload_n hx hb dX4_receiveAsk_25 rfl (lv_at hl 3 rfl) ?_
      refine qgN_11 (f := 3) hx hb htz tin_X1 hown hK hG ha (va_Nw.use rfl (hK.2 _ nX4_161)) (by decide) rfl dX4_receiveAsk_26 ?_
      refine lv_aload_n hx hb dX4_receiveAsk_29 rfl (lv_at hl 2 rfl) ?_
      refine qgN_2 (f := 3) hx hb htz tin_X3 hown hK hG hi (va_Nw.use rfl (hK.2 _ nX4_91)) (by decide) rfl dX4_receiveAsk_30 ?_
      refine lv_icmp_ne hx hb dX4_receiveAsk_33 (tgt := 62) rfl (fun h2 => ?_) (fun h2 => ?_)
      · refine lv_iconst (v := 0) hx hb dX4_receiveAsk_62 (by decide) ?_
        refine lv_istore hx hb dX4_receiveAsk_63 hl (by decide) rfl (fun ls hl => ?_)
        have hl : lv_has ls 5 [(4, .int _), (3, .int _), (0, .ref _), (1, .ref _), (2, .ref _)] := hl
        refine lv_iload hx hb dX4_receiveAsk_65 (lv_at hl 0 rfl) ?_
        refine lv_if_eq hx hb dX4_receiveAsk_67 (tgt := 78) rfl (fun h_5 => ?_) (fun h_5 => ?_)
        · refine lv_aload_n hx hb dX4_receiveAsk_78 rfl (lv_at hl 2 rfl) ?_
          refine lv_aload_n hx hb dX4_receiveAsk_79 rfl (lv_at hl 3 rfl) ?_
          refine lv_aload_n hx hb dX4_receiveAsk_80 rfl (lv_at hl 4 rfl) ?_
          refine qgN_11 (f := 1) (v := .int (u 11 a 1)) hx hb htz tin_X1 hown hK hG ha (va_Nw.use rfl (hK.2 _ nX4_158)) (by decide) (by simp [qf11, mz_at]) dX4_receiveAsk_81 ?_
          refine lv_iload hx hb dX4_receiveAsk_84 (lv_at hl 0 rfl) ?_
          refine mz_Vv (As := [.ref _, .int _, .int _]) (rest := []) ⟨hx, hb, hml, hown, hts⟩ (qc_sendVote l D L hL _ i hi _ _ (by decide)) (tz_V htz mX4_sendVote lX4_232 rfl rfl ⟨Nat.le_of_ble_eq_true rfl, Nat.le_of_ble_eq_true rfl⟩) (qrecv_0 hK hG (by decide)) qK_ok hK hG hS rfl hl.1 rfl (Nat.le_of_ble_eq_true rfl) dX4_receiveAsk_86 ⟨Nat.zero_le _, Nat.zero_le _⟩ (fun H locs hG hS => ?_)
          exact mz_vret hx hb hr hlk qK_ok hK hS hG dX4_receiveAsk_89 (by simp [qs_rAsk, h0, h1, h2, h_5])
        · exact absurd h_5 (by decide)
      · refine lv_iload_n hx hb dX4_receiveAsk_36 rfl (lv_at hl 0 rfl) ?_
        refine lv_if_eq hx hb dX4_receiveAsk_37 (tgt := 62) rfl (fun h_6 => ?_) (fun h_6 => ?_)
        · refine lv_iconst (v := 0) hx hb dX4_receiveAsk_62 (by decide) ?_
          refine lv_istore hx hb dX4_receiveAsk_63 hl (by decide) rfl (fun ls hl => ?_)
          have hl : lv_has ls 5 [(4, .int _), (3, .int _), (0, .ref _), (1, .ref _), (2, .ref _)] := hl
          refine lv_iload hx hb dX4_receiveAsk_65 (lv_at hl 0 rfl) ?_
          refine lv_if_eq hx hb dX4_receiveAsk_67 (tgt := 78) rfl (fun h_7 => ?_) (fun h_7 => ?_)
          · refine lv_aload_n hx hb dX4_receiveAsk_78 rfl (lv_at hl 2 rfl) ?_
            refine lv_aload_n hx hb dX4_receiveAsk_79 rfl (lv_at hl 3 rfl) ?_
            refine lv_aload_n hx hb dX4_receiveAsk_80 rfl (lv_at hl 4 rfl) ?_
            refine qgN_11 (f := 1) (v := .int (u 11 a 1)) hx hb htz tin_X1 hown hK hG ha (va_Nw.use rfl (hK.2 _ nX4_158)) (by decide) (by simp [qf11, mz_at]) dX4_receiveAsk_81 ?_
            refine lv_iload hx hb dX4_receiveAsk_84 (lv_at hl 0 rfl) ?_
            refine mz_Vv (As := [.ref _, .int _, .int _]) (rest := []) ⟨hx, hb, hml, hown, hts⟩ (qc_sendVote l D L hL _ i hi _ _ (by decide)) (tz_V htz mX4_sendVote lX4_232 rfl rfl ⟨Nat.le_of_ble_eq_true rfl, Nat.le_of_ble_eq_true rfl⟩) (qrecv_0 hK hG (by decide)) qK_ok hK hG hS rfl hl.1 rfl (Nat.le_of_ble_eq_true rfl) dX4_receiveAsk_86 ⟨Nat.zero_le _, Nat.zero_le _⟩ (fun H locs hG hS => ?_)
            exact mz_vret hx hb hr hlk qK_ok hK hS hG dX4_receiveAsk_89 (by simp [qs_rAsk, h0, h1, h2, h_6, h_7])
          · exact absurd h_7 (by decide)
        · exact absurd h_6 (by decide)
    · refine lv_iconst (v := 1) hx hb dX4_receiveAsk_19 (by decide) ?_
      refine lv_goto hx hb dX4_receiveAsk_20 (tgt := 24) rfl ?_
      refine lv_istore_n hx hb dX4_receiveAsk_24 rfl hl (by decide) rfl (fun ls hl => ?_)
      have hl : lv_has ls 5 [(3, .int _), (0, .ref _), (1, .ref _), (2, .ref _)] := hl
      refine lv_aload_n hx hb dX4_receiveAsk_25 rfl (lv_at hl 3 rfl) ?_
      refine qgN_11 (f := 3) hx hb htz tin_X1 hown hK hG ha (va_Nw.use rfl (hK.2 _ nX4_161)) (by decide) rfl dX4_receiveAsk_26 ?_
      refine lv_aload_n hx hb dX4_receiveAsk_29 rfl (lv_at hl 2 rfl) ?_
      refine qgN_2 (f := 3) hx hb htz tin_X3 hown hK hG hi (va_Nw.use rfl (hK.2 _ nX4_91)) (by decide) rfl dX4_receiveAsk_30 ?_
      refine lv_icmp_ne hx hb dX4_receiveAsk_33 (tgt := 62) rfl (fun h2 => ?_) (fun h2 => ?_)
      · refine lv_iconst (v := 0) hx hb dX4_receiveAsk_62 (by decide) ?_
        refine lv_istore hx hb dX4_receiveAsk_63 hl (by decide) rfl (fun ls hl => ?_)
        have hl : lv_has ls 5 [(4, .int _), (3, .int _), (0, .ref _), (1, .ref _), (2, .ref _)] := hl
        refine lv_iload hx hb dX4_receiveAsk_65 (lv_at hl 0 rfl) ?_
        refine lv_if_eq hx hb dX4_receiveAsk_67 (tgt := 78) rfl (fun h_8 => ?_) (fun h_8 => ?_)
        · refine lv_aload_n hx hb dX4_receiveAsk_78 rfl (lv_at hl 2 rfl) ?_
          refine lv_aload_n hx hb dX4_receiveAsk_79 rfl (lv_at hl 3 rfl) ?_
          refine lv_aload_n hx hb dX4_receiveAsk_80 rfl (lv_at hl 4 rfl) ?_
          refine qgN_11 (f := 1) (v := .int (u 11 a 1)) hx hb htz tin_X1 hown hK hG ha (va_Nw.use rfl (hK.2 _ nX4_158)) (by decide) (by simp [qf11, mz_at]) dX4_receiveAsk_81 ?_
          refine lv_iload hx hb dX4_receiveAsk_84 (lv_at hl 0 rfl) ?_
          refine mz_Vv (As := [.ref _, .int _, .int _]) (rest := []) ⟨hx, hb, hml, hown, hts⟩ (qc_sendVote l D L hL _ i hi _ _ (by decide)) (tz_V htz mX4_sendVote lX4_232 rfl rfl ⟨Nat.le_of_ble_eq_true rfl, Nat.le_of_ble_eq_true rfl⟩) (qrecv_0 hK hG (by decide)) qK_ok hK hG hS rfl hl.1 rfl (Nat.le_of_ble_eq_true rfl) dX4_receiveAsk_86 ⟨Nat.zero_le _, Nat.zero_le _⟩ (fun H locs hG hS => ?_)
          exact mz_vret hx hb hr hlk qK_ok hK hS hG dX4_receiveAsk_89 (by simp [qs_rAsk, h0, h1, h2, h_8])
        · exact absurd h_8 (by decide)
      · refine lv_iload_n hx hb dX4_receiveAsk_36 rfl (lv_at hl 0 rfl) ?_
        refine lv_if_eq hx hb dX4_receiveAsk_37 (tgt := 62) rfl (fun h_9 => ?_) (fun h_9 => ?_)
        · exact absurd h_9 (by decide)
        · refine lv_aload_n hx hb dX4_receiveAsk_40 rfl (lv_at hl 2 rfl) ?_
          refine qgN_2 (f := 6) hx hb htz tin_X3 hown hK hG hi (va_Nw.use rfl (hK.2 _ nX4_72)) (by decide) rfl dX4_receiveAsk_41 ?_
          refine lv_aload_n hx hb dX4_receiveAsk_44 rfl (lv_at hl 3 rfl) ?_
          refine qgN_11 (f := 4) hx hb htz tin_X1 hown hK hG ha (va_Nw.use rfl (hK.2 _ nX4_178)) (by decide) rfl dX4_receiveAsk_45 ?_
          refine lv_aload_n hx hb dX4_receiveAsk_48 rfl (lv_at hl 3 rfl) ?_
          refine qgN_11 (f := 5) hx hb htz tin_X1 hown hK hG ha (va_Nw.use rfl (hK.2 _ nX4_184)) (by decide) rfl dX4_receiveAsk_49 ?_
          refine mz_Ni (As := [.int _, .int _]) (rest := []) ⟨hx, hb, hml, hown, hts⟩ (qc_isNotAheadOf l D L hL _ i hi _ _ hw) (tz_N htz mX0_isNotAheadOf (hK.2 _ nX4_229) rfl rfl ⟨Nat.le_of_ble_eq_true rfl, Nat.le_of_ble_eq_true rfl⟩) (qrecv_3 hK hG hi) qK_ok hK hG hS rfl hl.1 rfl (Nat.le_of_ble_eq_true rfl) dX4_receiveAsk_52 ⟨Nat.zero_le _, Nat.zero_le _⟩ (fun H locs hG hS => ?_)
          refine mz_ifeq_b hx hb dX4_receiveAsk_55 (tgt := 62) rfl (fun h4 => ?_) (fun h4 => ?_)
          · refine lv_iconst (v := 0) hx hb dX4_receiveAsk_62 (by decide) ?_
            refine lv_istore hx hb dX4_receiveAsk_63 hl (by decide) rfl (fun ls hl => ?_)
            have hl : lv_has ls 5 [(4, .int _), (3, .int _), (0, .ref _), (1, .ref _), (2, .ref _)] := hl
            refine lv_iload hx hb dX4_receiveAsk_65 (lv_at hl 0 rfl) ?_
            refine lv_if_eq hx hb dX4_receiveAsk_67 (tgt := 78) rfl (fun h_10 => ?_) (fun h_10 => ?_)
            · refine lv_aload_n hx hb dX4_receiveAsk_78 rfl (lv_at hl 2 rfl) ?_
              refine lv_aload_n hx hb dX4_receiveAsk_79 rfl (lv_at hl 3 rfl) ?_
              refine lv_aload_n hx hb dX4_receiveAsk_80 rfl (lv_at hl 4 rfl) ?_
              refine qgN_11 (f := 1) (v := .int (u 11 a 1)) hx hb htz tin_X1 hown hK hG ha (va_Nw.use rfl (hK.2 _ nX4_158)) (by decide) (by simp [qf11, mz_at]) dX4_receiveAsk_81 ?_
              refine lv_iload hx hb dX4_receiveAsk_84 (lv_at hl 0 rfl) ?_
              refine mz_Vv (As := [.ref _, .int _, .int _]) (rest := []) ⟨hx, hb, hml, hown, hts⟩ (qc_sendVote l D L hL _ i hi _ _ (by decide)) (tz_V htz mX4_sendVote lX4_232 rfl rfl ⟨Nat.le_of_ble_eq_true rfl, Nat.le_of_ble_eq_true rfl⟩) (qrecv_0 hK hG (by decide)) qK_ok hK hG hS rfl hl.1 rfl (Nat.le_of_ble_eq_true rfl) dX4_receiveAsk_86 ⟨Nat.zero_le _, Nat.zero_le _⟩ (fun H locs hG hS => ?_)
              exact mz_vret hx hb hr hlk qK_ok hK hS hG dX4_receiveAsk_89 (by simp [qs_rAsk, h0, h1, h2, h_9, h4, h_10])
            · exact absurd h_10 (by decide)
          · refine lv_iconst (v := 1) hx hb dX4_receiveAsk_58 (by decide) ?_
            refine lv_goto hx hb dX4_receiveAsk_59 (tgt := 63) rfl ?_
            refine lv_istore hx hb dX4_receiveAsk_63 hl (by decide) rfl (fun ls hl => ?_)
            have hl : lv_has ls 5 [(4, .int _), (3, .int _), (0, .ref _), (1, .ref _), (2, .ref _)] := hl
            refine lv_iload hx hb dX4_receiveAsk_65 (lv_at hl 0 rfl) ?_
            refine lv_if_eq hx hb dX4_receiveAsk_67 (tgt := 78) rfl (fun h_11 => ?_) (fun h_11 => ?_)
            · exact absurd h_11 (by decide)
            · refine lv_aload_n hx hb dX4_receiveAsk_70 rfl (lv_at hl 3 rfl) ?_
              refine lv_aload_n hx hb dX4_receiveAsk_71 rfl (lv_at hl 4 rfl) ?_
              refine qgN_11 (f := 1) hx hb htz tin_X1 hown hK hG ha (va_Nw.use rfl (hK.2 _ nX4_158)) (by decide) rfl dX4_receiveAsk_72 ?_
              refine qpN_2_4 hx hb htz tin_X3 hown hL hK hG hS hi (va_Nw.use rfl (hK.2 _ nX4_145)) dX4_receiveAsk_75 (fun H locs hG hS => ?_)
              refine lv_aload_n hx hb dX4_receiveAsk_78 rfl (lv_at hl 2 rfl) ?_
              refine lv_aload_n hx hb dX4_receiveAsk_79 rfl (lv_at hl 3 rfl) ?_
              refine lv_aload_n hx hb dX4_receiveAsk_80 rfl (lv_at hl 4 rfl) ?_
              refine qgN_11 (f := 1) (v := .int (u 11 a 1)) hx hb htz tin_X1 hown hK hG ha (va_Nw.use rfl (hK.2 _ nX4_158)) (by decide) (by simp [qf11, mz_at]) dX4_receiveAsk_81 ?_
              refine lv_iload hx hb dX4_receiveAsk_84 (lv_at hl 0 rfl) ?_
              refine mz_Vv (As := [.ref _, .int _, .int _]) (rest := []) ⟨hx, hb, hml, hown, hts⟩ (qc_sendVote l D L hL _ i hi _ _ (by decide)) (tz_V htz mX4_sendVote lX4_232 rfl rfl ⟨Nat.le_of_ble_eq_true rfl, Nat.le_of_ble_eq_true rfl⟩) (qrecv_0 hK hG (by decide)) qK_ok hK hG hS rfl hl.1 rfl (Nat.le_of_ble_eq_true rfl) dX4_receiveAsk_86 ⟨Nat.zero_le _, Nat.zero_le _⟩ (fun H locs hG hS => ?_)
              exact mz_vret hx hb hr hlk qK_ok hK hS hG dX4_receiveAsk_89 (by simp [qs_rAsk, h0, h1, h2, h_9, h4, h_11])

set_option maxRecDepth 100000 in
set_option maxHeartbeats 4000000 in
theorem qc_receiveVote (l : Launch) (D : va_G) (L : qL) (hL : qL_ok L) (u : mz_S) (i : Nat) (hi : i < ql_n L) (a : Nat) (ha : a < ql_S L + 2) (hf : vp_in (u 11 a 1) (ql_n L)) : mz_Cv l (qG D L) (qK D L) (qA L) yX4_receiveVote (tz_w yX4_receiveVote cX4_receiveVote 3 none) ({ frames := 2, cells := 0, slots := 0, locals := 41 } : Room) [.ref (L.1 0 0), .ref (L.1 2 i), .ref (L.1 11 a)] u (qs_rVote (ql_n L) u i a) := by
  refine mz_Cv.of (cc := cX4_receiveVote) (maxL := 3) (ret := none) (by decide) rfl (Nat.le_of_ble_eq_true rfl) ?_
  intro p e s m args below meth c ls hx hb hr hlk hml hown hts hl hG hK hS
  have hl : lv_has ls 3 [(0, .ref (L.1 0 0)), (1, .ref (L.1 2 i)), (2, .ref (L.1 11 a))] := hl
  have htz : ∀ w ∈ tz, w.before args s = true := fun w h => hts w (List.mem_cons_of_mem _ h)
  refine lv_aload_n hx hb dX4_receiveVote_0 rfl (lv_at hl 1 rfl) ?_
  refine qgN_2 (f := 2) hx hb htz tin_X3 hown hK hG hi (va_Nw.use rfl (hK.2 _ nX4_49)) (by decide) rfl dX4_receiveVote_1 ?_
  refine lv_iconst (v := 1) hx hb dX4_receiveVote_4 (by decide) ?_
  refine lv_icmp_ne hx hb dX4_receiveVote_5 (tgt := 26) rfl (fun h0 => ?_) (fun h0 => ?_)
  · exact mz_vret hx hb hr hlk qK_ok hK hS hG dX4_receiveVote_26 (by unfold qs_rVote; first | rw [if_pos h0] | rw [if_neg (not_not_intro h0), if_pos h1] | rw [if_neg (not_not_intro h0), if_neg (not_not_intro h1), if_pos (Decidable.not_not.mp h2)] | rw [if_neg (not_not_intro h0), if_neg (not_not_intro h1), if_neg h2, if_pos h3] | rw [if_neg (not_not_intro h0), if_neg (not_not_intro h1), if_neg h2, if_neg h3])
  · refine lv_aload_n hx hb dX4_receiveVote_8 rfl (lv_at hl 2 rfl) ?_
    refine qgN_11 (f := 3) hx hb htz tin_X1 hown hK hG ha (va_Nw.use rfl (hK.2 _ nX4_161)) (by decide) rfl dX4_receiveVote_9 ?_
    refine lv_aload_n hx hb dX4_receiveVote_12 rfl (lv_at hl 1 rfl) ?_
    refine qgN_2 (f := 3) hx hb htz tin_X3 hown hK hG hi (va_Nw.use rfl (hK.2 _ nX4_91)) (by decide) rfl dX4_receiveVote_13 ?_
    refine lv_icmp_ne hx hb dX4_receiveVote_16 (tgt := 26) rfl (fun h1 => ?_) (fun h1 => ?_)
    · exact mz_vret hx hb hr hlk qK_ok hK hS hG dX4_receiveVote_26 (by unfold qs_rVote; first | rw [if_pos h0] | rw [if_neg (not_not_intro h0), if_pos h1] | rw [if_neg (not_not_intro h0), if_neg (not_not_intro h1), if_pos (Decidable.not_not.mp h2)] | rw [if_neg (not_not_intro h0), if_neg (not_not_intro h1), if_neg h2, if_pos h3] | rw [if_neg (not_not_intro h0), if_neg (not_not_intro h1), if_neg h2, if_neg h3])
    · refine lv_aload_n hx hb dX4_receiveVote_19 rfl (lv_at hl 2 rfl) ?_
      refine qgN_11 (f := 6) hx hb htz tin_X1 hown hK hG ha (va_Nw.use rfl (hK.2 _ nX4_187)) (by decide) rfl dX4_receiveVote_20 ?_
      refine mz_ifne_b hx hb dX4_receiveVote_23 (tgt := 27) rfl (fun h2 => ?_) (fun h2 => ?_)
      · refine lv_aload_n hx hb dX4_receiveVote_27 rfl (lv_at hl 1 rfl) ?_
        refine qgN_2 (f := 7) hx hb htz tin_X3 hown hK hG hi (va_Nw.use rfl (hK.2 _ nX4_236)) (by decide) rfl dX4_receiveVote_28 ?_
        refine lv_aload_n hx hb dX4_receiveVote_31 rfl (lv_at hl 2 rfl) ?_
        refine qgN_11 (f := 1) hx hb htz tin_X1 hown hK hG ha (va_Nw.use rfl (hK.2 _ nX4_158)) (by decide) rfl dX4_receiveVote_32 ?_
        refine lv_iconst (v := 1) hx hb dX4_receiveVote_35 (by decide) ?_
        refine qt_6 hx hb hL hK hG hS hi hf (by decide) dX4_receiveVote_36 (fun H locs hG hS => ?_)
        have hG : qG D L (qs_rVote1 u i a) H := hG
        refine lv_aload_n hx hb dX4_receiveVote_37 rfl (lv_at hl 0 rfl) ?_
        refine lv_aload_n hx hb dX4_receiveVote_38 rfl (lv_at hl 1 rfl) ?_
        refine mz_Ni (As := []) (rest := [.ref _]) ⟨hx, hb, hml, hown, hts⟩ (qc_countVoters l D L hL _ i hi) (tz_N htz mX3_countVoters (hK.2 _ nX4_240) rfl rfl ⟨Nat.le_of_ble_eq_true rfl, Nat.le_of_ble_eq_true rfl⟩) (qrecv_2 hK hG hi) qK_ok hK hG hS rfl hl.1 rfl (Nat.le_of_ble_eq_true rfl) dX4_receiveVote_39 ⟨Nat.zero_le _, Nat.zero_le _⟩ (fun H locs hG hS => ?_)
        refine mz_Vi (As := [.int _]) (rest := []) ⟨hx, hb, hml, hown, hts⟩ (qc_isMajority l D L hL _ _) (tz_V htz mX4_isMajority lX4_243 rfl rfl ⟨Nat.le_of_ble_eq_true rfl, Nat.le_of_ble_eq_true rfl⟩) (qrecv_0 hK hG (by decide)) qK_ok hK hG hS rfl hl.1 rfl (Nat.le_of_ble_eq_true rfl) dX4_receiveVote_42 ⟨Nat.zero_le _, Nat.zero_le _⟩ (fun H locs hG hS => ?_)
        refine mz_ifeq_b hx hb dX4_receiveVote_45 (tgt := 52) rfl (fun h3 => ?_) (fun h3 => ?_)
        · exact mz_vret hx hb hr hlk qK_ok hK hS hG dX4_receiveVote_52 (by unfold qs_rVote; first | rw [if_pos h0] | rw [if_neg (not_not_intro h0), if_pos h1] | rw [if_neg (not_not_intro h0), if_neg (not_not_intro h1), if_pos (Decidable.not_not.mp h2)] | rw [if_neg (not_not_intro h0), if_neg (not_not_intro h1), if_neg h2, if_pos h3] | rw [if_neg (not_not_intro h0), if_neg (not_not_intro h1), if_neg h2, if_neg h3])
        · refine lv_aload_n hx hb dX4_receiveVote_48 rfl (lv_at hl 1 rfl) ?_
          refine mz_Nv (As := []) (rest := []) ⟨hx, hb, hml, hown, hts⟩ (qc_lead l D L hL _ i hi) (tz_N htz mX3_lead (hK.2 _ nX4_246) rfl rfl ⟨Nat.le_of_ble_eq_true rfl, Nat.le_of_ble_eq_true rfl⟩) (qrecv_2 hK hG hi) qK_ok hK hG hS rfl hl.1 rfl (Nat.le_of_ble_eq_true rfl) dX4_receiveVote_49 ⟨Nat.zero_le _, Nat.zero_le _⟩ (fun H locs hG hS => ?_)
          exact mz_vret hx hb hr hlk qK_ok hK hS hG dX4_receiveVote_52 (by unfold qs_rVote; first | rw [if_pos h0] | rw [if_neg (not_not_intro h0), if_pos h1] | rw [if_neg (not_not_intro h0), if_neg (not_not_intro h1), if_pos (Decidable.not_not.mp h2)] | rw [if_neg (not_not_intro h0), if_neg (not_not_intro h1), if_neg h2, if_pos h3] | rw [if_neg (not_not_intro h0), if_neg (not_not_intro h1), if_neg h2, if_neg h3])
      · exact mz_vret hx hb hr hlk qK_ok hK hS hG dX4_receiveVote_26 (by unfold qs_rVote; first | rw [if_pos h0] | rw [if_neg (not_not_intro h0), if_pos h1] | rw [if_neg (not_not_intro h0), if_neg (not_not_intro h1), if_pos (Decidable.not_not.mp h2)] | rw [if_neg (not_not_intro h0), if_neg (not_not_intro h1), if_neg h2, if_pos h3] | rw [if_neg (not_not_intro h0), if_neg (not_not_intro h1), if_neg h2, if_neg h3])

set_option maxRecDepth 100000 in
set_option maxHeartbeats 4000000 in
theorem qc_receiveAppend (l : Launch) (D : va_G) (L : qL) (hL : qL_ok L) (u : mz_S) (i : Nat) (hi : i < ql_n L) (a : Nat) (ha : a < ql_S L + 2) (hw : qw (ql_c L) u i) : mz_Cv l (qG D L) (qK D L) (qA L) yX4_receiveAppend (tz_w yX4_receiveAppend cX4_receiveAppend 4 none) ({ frames := 3, cells := 0, slots := 0, locals := 67 } : Room) [.ref (L.1 0 0), .ref (L.1 2 i), .ref (L.1 11 a)] u (qs_rApp (ql_c L) (ql_S L) u i a) := by
  refine mz_Cv.of (cc := cX4_receiveAppend) (maxL := 4) (ret := none) (by decide) rfl (Nat.le_of_ble_eq_true rfl) ?_
  intro p e s m args below meth c ls hx hb hr hlk hml hown hts hl hG hK hS
  have hl : lv_has ls 4 [(0, .ref (L.1 0 0)), (1, .ref (L.1 2 i)), (2, .ref (L.1 11 a))] := hl
  have htz : ∀ w ∈ tz, w.before args s = true := fun w h => hts w (List.mem_cons_of_mem _ h)
  have hc12 : ql_c L ≤ 12 := hL.1.2.2.2.1
  have hn5 : ql_n L ≤ 5 := hL.1.2.1
  have h40 : ql_S L ≤ 40 := hL.1.2.2.2.2.2
  refine lv_aload_n hx hb dX4_receiveAppend_0 rfl (lv_at hl 2 rfl) ?_
  refine qgN_11 (f := 3) hx hb htz tin_X1 hown hK hG ha (va_Nw.use rfl (hK.2 _ nX4_161)) (by decide) rfl dX4_receiveAppend_1 ?_
  refine lv_aload_n hx hb dX4_receiveAppend_4 rfl (lv_at hl 1 rfl) ?_
  refine qgN_2 (f := 3) hx hb htz tin_X3 hown hK hG hi (va_Nw.use rfl (hK.2 _ nX4_91)) (by decide) rfl dX4_receiveAppend_5 ?_
  refine mz_icmp_ge hx hb dX4_receiveAppend_8 (tgt := 23) rfl (fun h0 h0' => ?_) (fun h0 h0' => ?_)
  · refine lv_aload_n hx hb dX4_receiveAppend_23 rfl (lv_at hl 1 rfl) ?_
    refine lv_iconst (v := 0) hx hb dX4_receiveAppend_24 (by decide) ?_
    refine qpN_2_2 hx hb htz tin_X3 hown hL hK hG hS hi (va_Nw.use rfl (hK.2 _ nX4_49)) dX4_receiveAppend_25 (fun H locs hG hS => ?_)
    obtain ⟨v, hv⟩ : ∃ v, v = mz_u u 2 i 2 0 := ⟨_, rfl⟩
    rw [← hv] at hG
    have hwv : qw (ql_c L) v i := hw.same (by rw [hv]; simp [mz_at]) (by rw [hv]; simp [mz_at])
    refine lv_aload_n hx hb dX4_receiveAppend_28 rfl (lv_at hl 2 rfl) ?_
    refine qgN_11 (f := 4) hx hb htz tin_X1 hown hK hG ha (va_Nw.use rfl (hK.2 _ nX4_178)) (by decide) rfl dX4_receiveAppend_29 ?_
    refine lv_aload_n hx hb dX4_receiveAppend_32 rfl (lv_at hl 1 rfl) ?_
    refine qgN_2 (f := 6) hx hb htz tin_X3 hown hK hG hi (va_Nw.use rfl (hK.2 _ nX4_72)) (by decide) rfl dX4_receiveAppend_33 ?_
    refine qgN_3 (f := 0) hx hb htz tin_X0 hown hK hG hi (va_Nw.use rfl (hK.2 _ nX4_76)) (by decide) rfl dX4_receiveAppend_36 ?_
    refine mz_icmp_ge hx hb dX4_receiveAppend_39 (tgt := 60) rfl (fun h1 h1' => ?_) (fun h1 h1' => ?_)
    · refine lv_aload_n hx hb dX4_receiveAppend_60 rfl (lv_at hl 2 rfl) ?_
      refine qgN_11 (f := 4) hx hb htz tin_X1 hown hK hG ha (va_Nw.use rfl (hK.2 _ nX4_178)) (by decide) rfl dX4_receiveAppend_61 ?_
      refine lv_aload_n hx hb dX4_receiveAppend_64 rfl (lv_at hl 1 rfl) ?_
      refine qgN_2 (f := 6) hx hb htz tin_X3 hown hK hG hi (va_Nw.use rfl (hK.2 _ nX4_72)) (by decide) rfl dX4_receiveAppend_65 ?_
      refine mz_Ni (As := []) (rest := [.int _]) ⟨hx, hb, hml, hown, hts⟩ (qc_lastNumber l D L hL _ i hi) (tz_N htz mX0_lastNumber (hK.2 _ nX4_98) rfl rfl ⟨Nat.le_of_ble_eq_true rfl, Nat.le_of_ble_eq_true rfl⟩) (qrecv_3 hK hG hi) qK_ok hK hG hS rfl hl.1 rfl (Nat.le_of_ble_eq_true rfl) dX4_receiveAppend_68 ⟨Nat.zero_le _, Nat.zero_le _⟩ (fun H locs hG hS => ?_)
      refine mz_icmp_gt hx hb dX4_receiveAppend_71 (tgt := 92) rfl (fun h2 h2' => ?_) (fun h2 h2' => ?_)
      · refine lv_aload_n hx hb dX4_receiveAppend_92 rfl (lv_at hl 0 rfl) ?_
        refine lv_aload_n hx hb dX4_receiveAppend_93 rfl (lv_at hl 1 rfl) ?_
        refine lv_aload_n hx hb dX4_receiveAppend_94 rfl (lv_at hl 2 rfl) ?_
        refine qgN_11 (f := 1) hx hb htz tin_X1 hown hK hG ha (va_Nw.use rfl (hK.2 _ nX4_158)) (by decide) rfl dX4_receiveAppend_95 ?_
        refine lv_iconst (v := 0) hx hb dX4_receiveAppend_98 (by decide) ?_
        refine lv_iconst (v := 0) hx hb dX4_receiveAppend_99 (by decide) ?_
        refine mz_Vv (As := [.ref _, .int _, .int _, .int _]) (rest := []) ⟨hx, hb, hml, hown, hts⟩ (qc_sendAppended l D L hL _ i hi _ _ _ (by decide)) (tz_V htz mX4_sendAppended lX4_249 rfl rfl ⟨Nat.le_of_ble_eq_true rfl, Nat.le_of_ble_eq_true rfl⟩) (qrecv_0 hK hG (by decide)) qK_ok hK hG hS rfl hl.1 rfl (Nat.le_of_ble_eq_true rfl) dX4_receiveAppend_100 ⟨Nat.zero_le _, Nat.zero_le _⟩ (fun H locs hG hS => ?_)
        exact mz_vret hx hb hr hlk qK_ok hK hS hG dX4_receiveAppend_103 (by rw [qs_rApp, if_neg h0, ← hv, qs_rApp1, if_neg h1]; first | rw [if_pos (Or.inl h2)] | rw [if_pos (Or.inr h3)])
      · refine lv_aload_n hx hb dX4_receiveAppend_74 rfl (lv_at hl 1 rfl) ?_
        refine qgN_2 (f := 6) hx hb htz tin_X3 hown hK hG hi (va_Nw.use rfl (hK.2 _ nX4_72)) (by decide) rfl dX4_receiveAppend_75 ?_
        refine lv_aload_n hx hb dX4_receiveAppend_78 rfl (lv_at hl 2 rfl) ?_
        refine qgN_11 (f := 4) hx hb htz tin_X1 hown hK hG ha (va_Nw.use rfl (hK.2 _ nX4_178)) (by decide) rfl dX4_receiveAppend_79 ?_
        refine mz_Ni (As := [.int _]) (rest := []) ⟨hx, hb, hml, hown, hts⟩ (qc_termOf l D L hL _ i hi _ hwv) (tz_N htz mX0_termOf (hK.2 _ nX4_104) rfl rfl ⟨Nat.le_of_ble_eq_true rfl, Nat.le_of_ble_eq_true rfl⟩) (qrecv_3 hK hG hi) qK_ok hK hG hS rfl hl.1 rfl (Nat.le_of_ble_eq_true rfl) dX4_receiveAppend_82 ⟨Nat.zero_le _, Nat.zero_le _⟩ (fun H locs hG hS => ?_)
        refine lv_aload_n hx hb dX4_receiveAppend_85 rfl (lv_at hl 2 rfl) ?_
        refine qgN_11 (f := 5) hx hb htz tin_X1 hown hK hG ha (va_Nw.use rfl (hK.2 _ nX4_184)) (by decide) rfl dX4_receiveAppend_86 ?_
        refine lv_icmp_eq hx hb dX4_receiveAppend_89 (tgt := 104) rfl (fun h3 => ?_) (fun h3 => ?_)
        · refine lv_aload_n hx hb dX4_receiveAppend_104 rfl (lv_at hl 2 rfl) ?_
          refine qgN_11 (f := 4) hx hb htz tin_X1 hown hK hG ha (va_Nw.use rfl (hK.2 _ nX4_178)) (by decide) rfl dX4_receiveAppend_105 ?_
          refine lv_istore_n hx hb dX4_receiveAppend_108 rfl hl (by decide) rfl (fun ls hl => ?_)
          have hl : lv_has ls 4 [(3, .int _), (0, .ref _), (1, .ref _), (2, .ref _)] := hl
          refine lv_aload_n hx hb dX4_receiveAppend_109 rfl (lv_at hl 3 rfl) ?_
          refine qgN_11 (f := 7) hx hb htz tin_X1 hown hK hG ha (va_Nw.use rfl (hK.2 _ nX4_193)) (by decide) rfl dX4_receiveAppend_110 ?_
          refine mz_ifeq_b hx hb dX4_receiveAppend_113 (tgt := 157) rfl (fun h4 => ?_) (fun h4 => ?_)
          · obtain ⟨w, y9, hwe, hye, hG, hl⟩ : ∃ (w : mz_S) (y9 : Int32), w = qs_rAppE (ql_c L) v i a ∧ y9 = qs_rAppH (ql_c L) v i a ∧ qG D L w H ∧ lv_has ls 4 [(3, .int y9), (0, .ref (L.1 0 0)), (1, .ref (L.1 2 i)), (2, .ref (L.1 11 a))] := by
              first
                | exact ⟨_, _, (by rw [qs_rAppE, if_pos (Decidable.not_not.mp h4)]), (by rw [qs_rAppH, if_pos (Decidable.not_not.mp h4)]), hG, hl⟩
                | exact ⟨_, _, (by rw [qs_rAppE, if_neg h4]), (by rw [qs_rAppH, if_neg h4, qs_rAppE, if_neg h4, if_neg h5]), hG, hl⟩
                | exact ⟨_, _, (by rw [qs_rAppE, if_neg h4]), (by rw [qs_rAppH, if_neg h4, qs_rAppE, if_neg h4, if_pos h5]), hG, hl⟩
            refine lv_aload_n hx hb dX4_receiveAppend_157 rfl (lv_at hl 2 rfl) ?_
            refine lv_aload_n hx hb dX4_receiveAppend_158 rfl (lv_at hl 2 rfl) ?_
            refine qgN_2 (f := 5) hx hb htz tin_X3 hown hK hG hi (va_Nw.use rfl (hK.2 _ nX4_101)) (by decide) rfl dX4_receiveAppend_159 ?_
            refine lv_aload_n hx hb dX4_receiveAppend_162 rfl (lv_at hl 3 rfl) ?_
            refine qgN_11 (f := 10) (v := .int (v 11 a 10)) hx hb htz tin_X1 hown hK hG ha (va_Nw.use rfl (hK.2 _ nX4_201)) (by decide) (by rw [hwe]; simp [qf11, qs_rAppE_o]) dX4_receiveAppend_163 ?_
            refine lv_iload_n hx hb dX4_receiveAppend_166 rfl (lv_at hl 0 rfl) ?_
            refine va_mmin hx hb (hml.trans hl.1.symm) hown (htz _ lX4_162) (htz _ min_stat) (htz _ ini_Math) (htz _ min_code) (Nat.le_of_ble_eq_true rfl) (Nat.le_of_ble_eq_true rfl) (Nat.le_of_ble_eq_true rfl) (Nat.le_of_ble_eq_true rfl) dX4_receiveAppend_167 ?_
            refine va_mmax hx hb (hml.trans hl.1.symm) hown (htz _ lX4_168) (htz _ max_stat) (htz _ ini_Math) (htz _ max_code) (Nat.le_of_ble_eq_true rfl) (Nat.le_of_ble_eq_true rfl) (Nat.le_of_ble_eq_true rfl) (Nat.le_of_ble_eq_true rfl) dX4_receiveAppend_170 ?_
            refine qpN_2_5 hx hb htz tin_X3 hown hL hK hG hS hi (va_Nw.use rfl (hK.2 _ nX4_101)) dX4_receiveAppend_173 (fun H locs hG hS => ?_)
            have hG : qG D L (mz_u w 2 i 5 (mz_max (w 2 i 5) (mz_min (v 11 a 10) y9))) H := hG
            refine lv_aload_n hx hb dX4_receiveAppend_176 rfl (lv_at hl 1 rfl) ?_
            refine lv_aload_n hx hb dX4_receiveAppend_177 rfl (lv_at hl 2 rfl) ?_
            refine lv_aload_n hx hb dX4_receiveAppend_178 rfl (lv_at hl 3 rfl) ?_
            refine qgN_11 (f := 1) (v := .int (v 11 a 1)) hx hb htz tin_X1 hown hK hG ha (va_Nw.use rfl (hK.2 _ nX4_158)) (by decide) (by rw [hwe]; simp [qf11, qs_rAppE_o, mz_at]) dX4_receiveAppend_179 ?_
            refine lv_iconst (v := 1) hx hb dX4_receiveAppend_182 (by decide) ?_
            refine lv_iload_n hx hb dX4_receiveAppend_183 rfl (lv_at hl 0 rfl) ?_
            refine mz_Vv (As := [.ref _, .int _, .int _, .int _]) (rest := []) ⟨hx, hb, hml, hown, hts⟩ (qc_sendAppended l D L hL _ i hi _ _ _ (by decide)) (tz_V htz mX4_sendAppended lX4_249 rfl rfl ⟨Nat.le_of_ble_eq_true rfl, Nat.le_of_ble_eq_true rfl⟩) (qrecv_0 hK hG (by decide)) qK_ok hK hG hS rfl hl.1 rfl (Nat.le_of_ble_eq_true rfl) dX4_receiveAppend_184 ⟨Nat.zero_le _, Nat.zero_le _⟩ (fun H locs hG hS => ?_)
            exact mz_vret hx hb hr hlk qK_ok hK hS hG dX4_receiveAppend_187 (by rw [qs_rApp, if_neg h0, ← hv, qs_rApp1, if_neg h1, if_neg (fun z => z.elim h2 (fun q => q h3)), qs_rAppC, ← hwe, ← hye])
          · refine lv_aload_n hx hb dX4_receiveAppend_116 rfl (lv_at hl 2 rfl) ?_
            refine lv_aload_n hx hb dX4_receiveAppend_117 rfl (lv_at hl 3 rfl) ?_
            refine qgN_11 (f := 4) hx hb htz tin_X1 hown hK hG ha (va_Nw.use rfl (hK.2 _ nX4_178)) (by decide) rfl dX4_receiveAppend_118 ?_
            refine lv_iconst (v := 1) hx hb dX4_receiveAppend_121 (by decide) ?_
            refine lv_iadd hx hb dX4_receiveAppend_122 ?_
            refine lv_aload_n hx hb dX4_receiveAppend_123 rfl (lv_at hl 3 rfl) ?_
            refine qgN_11 (f := 8) hx hb htz tin_X1 hown hK hG ha (va_Nw.use rfl (hK.2 _ nX4_195)) (by decide) rfl dX4_receiveAppend_124 ?_
            refine lv_aload_n hx hb dX4_receiveAppend_127 rfl (lv_at hl 3 rfl) ?_
            refine qgN_11 (f := 9) hx hb htz tin_X1 hown hK hG ha (va_Nw.use rfl (hK.2 _ nX4_198)) (by decide) rfl dX4_receiveAppend_128 ?_
            refine mz_Nv (As := [.int _, .int _, .int _]) (rest := []) ⟨hx, hb, hml, hown, hts⟩ (qc_takeEntry l D L hL _ i hi _ _ _ hwv) (tz_N htz mX3_takeEntry (hK.2 _ nX4_253) rfl rfl ⟨Nat.le_of_ble_eq_true rfl, Nat.le_of_ble_eq_true rfl⟩) (qrecv_2 hK hG hi) qK_ok hK hG hS rfl hl.1 rfl (Nat.le_of_ble_eq_true rfl) dX4_receiveAppend_131 ⟨Nat.zero_le _, Nat.zero_le _⟩ (fun H locs hG hS => ?_)
            refine lv_aload_n hx hb dX4_receiveAppend_134 rfl (lv_at hl 2 rfl) ?_
            refine qgN_2 (f := 6) hx hb htz tin_X3 hown hK hG hi (va_Nw.use rfl (hK.2 _ nX4_72)) (by decide) rfl dX4_receiveAppend_135 ?_
            refine lv_aload_n hx hb dX4_receiveAppend_138 rfl (lv_at hl 3 rfl) ?_
            refine qgN_11 (f := 4) (v := .int (v 11 a 4)) hx hb htz tin_X1 hown hK hG ha (va_Nw.use rfl (hK.2 _ nX4_178)) (by decide) (by simp [qf11, qs_take_o]) dX4_receiveAppend_139 ?_
            refine lv_iconst (v := 1) hx hb dX4_receiveAppend_142 (by decide) ?_
            refine lv_iadd hx hb dX4_receiveAppend_143 ?_
            refine mz_Ni (As := [.int _]) (rest := []) ⟨hx, hb, hml, hown, hts⟩ (qc_hasEntry l D L hL _ i hi _) (tz_N htz mX0_hasEntry (hK.2 _ nX4_190) rfl rfl ⟨Nat.le_of_ble_eq_true rfl, Nat.le_of_ble_eq_true rfl⟩) (qrecv_3 hK hG hi) qK_ok hK hG hS rfl hl.1 rfl (Nat.le_of_ble_eq_true rfl) dX4_receiveAppend_144 ⟨Nat.zero_le _, Nat.zero_le _⟩ (fun H locs hG hS => ?_)
            refine mz_ifeq_b hx hb dX4_receiveAppend_147 (tgt := 157) rfl (fun h5 => ?_) (fun h5 => ?_)
            · obtain ⟨w, y9, hwe, hye, hG, hl⟩ : ∃ (w : mz_S) (y9 : Int32), w = qs_rAppE (ql_c L) v i a ∧ y9 = qs_rAppH (ql_c L) v i a ∧ qG D L w H ∧ lv_has ls 4 [(3, .int y9), (0, .ref (L.1 0 0)), (1, .ref (L.1 2 i)), (2, .ref (L.1 11 a))] := by
                first
                  | exact ⟨_, _, (by rw [qs_rAppE, if_pos (Decidable.not_not.mp h4)]), (by rw [qs_rAppH, if_pos (Decidable.not_not.mp h4)]), hG, hl⟩
                  | exact ⟨_, _, (by rw [qs_rAppE, if_neg h4]), (by rw [qs_rAppH, if_neg h4, qs_rAppE, if_neg h4, if_neg h5]), hG, hl⟩
                  | exact ⟨_, _, (by rw [qs_rAppE, if_neg h4]), (by rw [qs_rAppH, if_neg h4, qs_rAppE, if_neg h4, if_pos h5]), hG, hl⟩
              refine lv_aload_n hx hb dX4_receiveAppend_157 rfl (lv_at hl 2 rfl) ?_
              refine lv_aload_n hx hb dX4_receiveAppend_158 rfl (lv_at hl 2 rfl) ?_
              refine qgN_2 (f := 5) hx hb htz tin_X3 hown hK hG hi (va_Nw.use rfl (hK.2 _ nX4_101)) (by decide) rfl dX4_receiveAppend_159 ?_
              refine lv_aload_n hx hb dX4_receiveAppend_162 rfl (lv_at hl 3 rfl) ?_
              refine qgN_11 (f := 10) (v := .int (v 11 a 10)) hx hb htz tin_X1 hown hK hG ha (va_Nw.use rfl (hK.2 _ nX4_201)) (by decide) (by rw [hwe]; simp [qf11, qs_rAppE_o]) dX4_receiveAppend_163 ?_
              refine lv_iload_n hx hb dX4_receiveAppend_166 rfl (lv_at hl 0 rfl) ?_
              refine va_mmin hx hb (hml.trans hl.1.symm) hown (htz _ lX4_162) (htz _ min_stat) (htz _ ini_Math) (htz _ min_code) (Nat.le_of_ble_eq_true rfl) (Nat.le_of_ble_eq_true rfl) (Nat.le_of_ble_eq_true rfl) (Nat.le_of_ble_eq_true rfl) dX4_receiveAppend_167 ?_
              refine va_mmax hx hb (hml.trans hl.1.symm) hown (htz _ lX4_168) (htz _ max_stat) (htz _ ini_Math) (htz _ max_code) (Nat.le_of_ble_eq_true rfl) (Nat.le_of_ble_eq_true rfl) (Nat.le_of_ble_eq_true rfl) (Nat.le_of_ble_eq_true rfl) dX4_receiveAppend_170 ?_
              refine qpN_2_5 hx hb htz tin_X3 hown hL hK hG hS hi (va_Nw.use rfl (hK.2 _ nX4_101)) dX4_receiveAppend_173 (fun H locs hG hS => ?_)
              have hG : qG D L (mz_u w 2 i 5 (mz_max (w 2 i 5) (mz_min (v 11 a 10) y9))) H := hG
              refine lv_aload_n hx hb dX4_receiveAppend_176 rfl (lv_at hl 1 rfl) ?_
              refine lv_aload_n hx hb dX4_receiveAppend_177 rfl (lv_at hl 2 rfl) ?_
              refine lv_aload_n hx hb dX4_receiveAppend_178 rfl (lv_at hl 3 rfl) ?_
              refine qgN_11 (f := 1) (v := .int (v 11 a 1)) hx hb htz tin_X1 hown hK hG ha (va_Nw.use rfl (hK.2 _ nX4_158)) (by decide) (by rw [hwe]; simp [qf11, qs_rAppE_o, mz_at]) dX4_receiveAppend_179 ?_
              refine lv_iconst (v := 1) hx hb dX4_receiveAppend_182 (by decide) ?_
              refine lv_iload_n hx hb dX4_receiveAppend_183 rfl (lv_at hl 0 rfl) ?_
              refine mz_Vv (As := [.ref _, .int _, .int _, .int _]) (rest := []) ⟨hx, hb, hml, hown, hts⟩ (qc_sendAppended l D L hL _ i hi _ _ _ (by decide)) (tz_V htz mX4_sendAppended lX4_249 rfl rfl ⟨Nat.le_of_ble_eq_true rfl, Nat.le_of_ble_eq_true rfl⟩) (qrecv_0 hK hG (by decide)) qK_ok hK hG hS rfl hl.1 rfl (Nat.le_of_ble_eq_true rfl) dX4_receiveAppend_184 ⟨Nat.zero_le _, Nat.zero_le _⟩ (fun H locs hG hS => ?_)
              exact mz_vret hx hb hr hlk qK_ok hK hS hG dX4_receiveAppend_187 (by rw [qs_rApp, if_neg h0, ← hv, qs_rApp1, if_neg h1, if_neg (fun z => z.elim h2 (fun q => q h3)), qs_rAppC, ← hwe, ← hye])
            · refine lv_aload_n hx hb dX4_receiveAppend_150 rfl (lv_at hl 3 rfl) ?_
              refine qgN_11 (f := 4) (v := .int (v 11 a 4)) hx hb htz tin_X1 hown hK hG ha (va_Nw.use rfl (hK.2 _ nX4_178)) (by decide) (by simp [qf11, qs_take_o]) dX4_receiveAppend_151 ?_
              refine lv_iconst (v := 1) hx hb dX4_receiveAppend_154 (by decide) ?_
              refine lv_iadd hx hb dX4_receiveAppend_155 ?_
              refine lv_istore_n hx hb dX4_receiveAppend_156 rfl hl (by decide) rfl (fun ls hl => ?_)
              have hl : lv_has ls 4 [(3, .int _), (0, .ref _), (1, .ref _), (2, .ref _)] := hl
              obtain ⟨w, y9, hwe, hye, hG, hl⟩ : ∃ (w : mz_S) (y9 : Int32), w = qs_rAppE (ql_c L) v i a ∧ y9 = qs_rAppH (ql_c L) v i a ∧ qG D L w H ∧ lv_has ls 4 [(3, .int y9), (0, .ref (L.1 0 0)), (1, .ref (L.1 2 i)), (2, .ref (L.1 11 a))] := by
                first
                  | exact ⟨_, _, (by rw [qs_rAppE, if_pos (Decidable.not_not.mp h4)]), (by rw [qs_rAppH, if_pos (Decidable.not_not.mp h4)]), hG, hl⟩
                  | exact ⟨_, _, (by rw [qs_rAppE, if_neg h4]), (by rw [qs_rAppH, if_neg h4, qs_rAppE, if_neg h4, if_neg h5]), hG, hl⟩
                  | exact ⟨_, _, (by rw [qs_rAppE, if_neg h4]), (by rw [qs_rAppH, if_neg h4, qs_rAppE, if_neg h4, if_pos h5]), hG, hl⟩
              refine lv_aload_n hx hb dX4_receiveAppend_157 rfl (lv_at hl 2 rfl) ?_
              refine lv_aload_n hx hb dX4_receiveAppend_158 rfl (lv_at hl 2 rfl) ?_
              refine qgN_2 (f := 5) hx hb htz tin_X3 hown hK hG hi (va_Nw.use rfl (hK.2 _ nX4_101)) (by decide) rfl dX4_receiveAppend_159 ?_
              refine lv_aload_n hx hb dX4_receiveAppend_162 rfl (lv_at hl 3 rfl) ?_
              refine qgN_11 (f := 10) (v := .int (v 11 a 10)) hx hb htz tin_X1 hown hK hG ha (va_Nw.use rfl (hK.2 _ nX4_201)) (by decide) (by rw [hwe]; simp [qf11, qs_rAppE_o]) dX4_receiveAppend_163 ?_
              refine lv_iload_n hx hb dX4_receiveAppend_166 rfl (lv_at hl 0 rfl) ?_
              refine va_mmin hx hb (hml.trans hl.1.symm) hown (htz _ lX4_162) (htz _ min_stat) (htz _ ini_Math) (htz _ min_code) (Nat.le_of_ble_eq_true rfl) (Nat.le_of_ble_eq_true rfl) (Nat.le_of_ble_eq_true rfl) (Nat.le_of_ble_eq_true rfl) dX4_receiveAppend_167 ?_
              refine va_mmax hx hb (hml.trans hl.1.symm) hown (htz _ lX4_168) (htz _ max_stat) (htz _ ini_Math) (htz _ max_code) (Nat.le_of_ble_eq_true rfl) (Nat.le_of_ble_eq_true rfl) (Nat.le_of_ble_eq_true rfl) (Nat.le_of_ble_eq_true rfl) dX4_receiveAppend_170 ?_
              refine qpN_2_5 hx hb htz tin_X3 hown hL hK hG hS hi (va_Nw.use rfl (hK.2 _ nX4_101)) dX4_receiveAppend_173 (fun H locs hG hS => ?_)
              have hG : qG D L (mz_u w 2 i 5 (mz_max (w 2 i 5) (mz_min (v 11 a 10) y9))) H := hG
              refine lv_aload_n hx hb dX4_receiveAppend_176 rfl (lv_at hl 1 rfl) ?_
              refine lv_aload_n hx hb dX4_receiveAppend_177 rfl (lv_at hl 2 rfl) ?_
              refine lv_aload_n hx hb dX4_receiveAppend_178 rfl (lv_at hl 3 rfl) ?_
              refine qgN_11 (f := 1) (v := .int (v 11 a 1)) hx hb htz tin_X1 hown hK hG ha (va_Nw.use rfl (hK.2 _ nX4_158)) (by decide) (by rw [hwe]; simp [qf11, qs_rAppE_o, mz_at]) dX4_receiveAppend_179 ?_
              refine lv_iconst (v := 1) hx hb dX4_receiveAppend_182 (by decide) ?_
              refine lv_iload_n hx hb dX4_receiveAppend_183 rfl (lv_at hl 0 rfl) ?_
              refine mz_Vv (As := [.ref _, .int _, .int _, .int _]) (rest := []) ⟨hx, hb, hml, hown, hts⟩ (qc_sendAppended l D L hL _ i hi _ _ _ (by decide)) (tz_V htz mX4_sendAppended lX4_249 rfl rfl ⟨Nat.le_of_ble_eq_true rfl, Nat.le_of_ble_eq_true rfl⟩) (qrecv_0 hK hG (by decide)) qK_ok hK hG hS rfl hl.1 rfl (Nat.le_of_ble_eq_true rfl) dX4_receiveAppend_184 ⟨Nat.zero_le _, Nat.zero_le _⟩ (fun H locs hG hS => ?_)
              exact mz_vret hx hb hr hlk qK_ok hK hS hG dX4_receiveAppend_187 (by rw [qs_rApp, if_neg h0, ← hv, qs_rApp1, if_neg h1, if_neg (fun z => z.elim h2 (fun q => q h3)), qs_rAppC, ← hwe, ← hye])
        · refine lv_aload_n hx hb dX4_receiveAppend_92 rfl (lv_at hl 0 rfl) ?_
          refine lv_aload_n hx hb dX4_receiveAppend_93 rfl (lv_at hl 1 rfl) ?_
          refine lv_aload_n hx hb dX4_receiveAppend_94 rfl (lv_at hl 2 rfl) ?_
          refine qgN_11 (f := 1) hx hb htz tin_X1 hown hK hG ha (va_Nw.use rfl (hK.2 _ nX4_158)) (by decide) rfl dX4_receiveAppend_95 ?_
          refine lv_iconst (v := 0) hx hb dX4_receiveAppend_98 (by decide) ?_
          refine lv_iconst (v := 0) hx hb dX4_receiveAppend_99 (by decide) ?_
          refine mz_Vv (As := [.ref _, .int _, .int _, .int _]) (rest := []) ⟨hx, hb, hml, hown, hts⟩ (qc_sendAppended l D L hL _ i hi _ _ _ (by decide)) (tz_V htz mX4_sendAppended lX4_249 rfl rfl ⟨Nat.le_of_ble_eq_true rfl, Nat.le_of_ble_eq_true rfl⟩) (qrecv_0 hK hG (by decide)) qK_ok hK hG hS rfl hl.1 rfl (Nat.le_of_ble_eq_true rfl) dX4_receiveAppend_100 ⟨Nat.zero_le _, Nat.zero_le _⟩ (fun H locs hG hS => ?_)
          exact mz_vret hx hb hr hlk qK_ok hK hS hG dX4_receiveAppend_103 (by rw [qs_rApp, if_neg h0, ← hv, qs_rApp1, if_neg h1]; first | rw [if_pos (Or.inl h2)] | rw [if_pos (Or.inr h3)])
    · refine lv_aload_n hx hb dX4_receiveAppend_42 rfl (lv_at hl 0 rfl) ?_
      refine lv_aload_n hx hb dX4_receiveAppend_43 rfl (lv_at hl 1 rfl) ?_
      refine lv_aload_n hx hb dX4_receiveAppend_44 rfl (lv_at hl 2 rfl) ?_
      refine qgN_11 (f := 1) hx hb htz tin_X1 hown hK hG ha (va_Nw.use rfl (hK.2 _ nX4_158)) (by decide) rfl dX4_receiveAppend_45 ?_
      refine lv_iconst (v := 1) hx hb dX4_receiveAppend_48 (by decide) ?_
      refine lv_aload_n hx hb dX4_receiveAppend_49 rfl (lv_at hl 1 rfl) ?_
      refine qgN_2 (f := 6) hx hb htz tin_X3 hown hK hG hi (va_Nw.use rfl (hK.2 _ nX4_72)) (by decide) rfl dX4_receiveAppend_50 ?_
      refine qgN_3 (f := 0) hx hb htz tin_X0 hown hK hG hi (va_Nw.use rfl (hK.2 _ nX4_76)) (by decide) rfl dX4_receiveAppend_53 ?_
      refine mz_Vv (As := [.ref _, .int _, .int _, .int _]) (rest := []) ⟨hx, hb, hml, hown, hts⟩ (qc_sendAppended l D L hL _ i hi _ _ _ (by decide)) (tz_V htz mX4_sendAppended lX4_249 rfl rfl ⟨Nat.le_of_ble_eq_true rfl, Nat.le_of_ble_eq_true rfl⟩) (qrecv_0 hK hG (by decide)) qK_ok hK hG hS rfl hl.1 rfl (Nat.le_of_ble_eq_true rfl) dX4_receiveAppend_56 ⟨Nat.zero_le _, Nat.zero_le _⟩ (fun H locs hG hS => ?_)
      exact mz_vret hx hb hr hlk qK_ok hK hS hG dX4_receiveAppend_59 (by rw [qs_rApp, if_neg h0, ← hv, qs_rApp1, if_pos h1])
  · refine lv_aload_n hx hb dX4_receiveAppend_11 rfl (lv_at hl 0 rfl) ?_
    refine lv_aload_n hx hb dX4_receiveAppend_12 rfl (lv_at hl 1 rfl) ?_
    refine lv_aload_n hx hb dX4_receiveAppend_13 rfl (lv_at hl 2 rfl) ?_
    refine qgN_11 (f := 1) hx hb htz tin_X1 hown hK hG ha (va_Nw.use rfl (hK.2 _ nX4_158)) (by decide) rfl dX4_receiveAppend_14 ?_
    refine lv_iconst (v := 0) hx hb dX4_receiveAppend_17 (by decide) ?_
    refine lv_iconst (v := 0) hx hb dX4_receiveAppend_18 (by decide) ?_
    refine mz_Vv (As := [.ref _, .int _, .int _, .int _]) (rest := []) ⟨hx, hb, hml, hown, hts⟩ (qc_sendAppended l D L hL _ i hi _ _ _ (by decide)) (tz_V htz mX4_sendAppended lX4_249 rfl rfl ⟨Nat.le_of_ble_eq_true rfl, Nat.le_of_ble_eq_true rfl⟩) (qrecv_0 hK hG (by decide)) qK_ok hK hG hS rfl hl.1 rfl (Nat.le_of_ble_eq_true rfl) dX4_receiveAppend_19 ⟨Nat.zero_le _, Nat.zero_le _⟩ (fun H locs hG hS => ?_)
    exact mz_vret hx hb hr hlk qK_ok hK hS hG dX4_receiveAppend_22 (by rw [qs_rApp, if_pos h0])

set_option maxRecDepth 100000 in
set_option maxHeartbeats 4000000 in
theorem qc_receiveSnapshot (l : Launch) (D : va_G) (L : qL) (hL : qL_ok L) (u : mz_S) (i : Nat) (hi : i < ql_n L) (a : Nat) (ha : a < ql_S L + 2) (hw : qw (ql_c L) u i) : mz_Cv l (qG D L) (qK D L) (qA L) yX4_receiveSnapshot (tz_w yX4_receiveSnapshot cX4_receiveSnapshot 3 none) ({ frames := 3, cells := 0, slots := 0, locals := 67 } : Room) [.ref (L.1 0 0), .ref (L.1 2 i), .ref (L.1 11 a)] u (qs_rSnap (ql_S L) u i a) := by
  refine mz_Cv.of (cc := cX4_receiveSnapshot) (maxL := 3) (ret := none) (by decide) rfl (Nat.le_of_ble_eq_true rfl) ?_
  intro p e s m args below meth c ls hx hb hr hlk hml hown hts hl hG hK hS
  have hl : lv_has ls 3 [(0, .ref (L.1 0 0)), (1, .ref (L.1 2 i)), (2, .ref (L.1 11 a))] := hl
  have htz : ∀ w ∈ tz, w.before args s = true := fun w h => hts w (List.mem_cons_of_mem _ h)
  have hc12 : ql_c L ≤ 12 := hL.1.2.2.2.1
  have hn5 : ql_n L ≤ 5 := hL.1.2.1
  have h40 : ql_S L ≤ 40 := hL.1.2.2.2.2.2
  refine lv_aload_n hx hb dX4_receiveSnapshot_0 rfl (lv_at hl 2 rfl) ?_
  refine qgN_11 (f := 3) hx hb htz tin_X1 hown hK hG ha (va_Nw.use rfl (hK.2 _ nX4_161)) (by decide) rfl dX4_receiveSnapshot_1 ?_
  refine lv_aload_n hx hb dX4_receiveSnapshot_4 rfl (lv_at hl 1 rfl) ?_
  refine qgN_2 (f := 3) hx hb htz tin_X3 hown hK hG hi (va_Nw.use rfl (hK.2 _ nX4_91)) (by decide) rfl dX4_receiveSnapshot_5 ?_
  refine mz_icmp_ge hx hb dX4_receiveSnapshot_8 (tgt := 23) rfl (fun h0 h0' => ?_) (fun h0 h0' => ?_)
  · refine lv_aload_n hx hb dX4_receiveSnapshot_23 rfl (lv_at hl 1 rfl) ?_
    refine lv_iconst (v := 0) hx hb dX4_receiveSnapshot_24 (by decide) ?_
    refine qpN_2_2 hx hb htz tin_X3 hown hL hK hG hS hi (va_Nw.use rfl (hK.2 _ nX4_49)) dX4_receiveSnapshot_25 (fun H locs hG hS => ?_)
    obtain ⟨v, hv⟩ : ∃ v, v = mz_u u 2 i 2 0 := ⟨_, rfl⟩
    rw [← hv] at hG
    have hwv : qw (ql_c L) v i := hw.same (by rw [hv]; simp [mz_at]) (by rw [hv]; simp [mz_at])
    refine lv_aload_n hx hb dX4_receiveSnapshot_28 rfl (lv_at hl 2 rfl) ?_
    refine qgN_11 (f := 4) hx hb htz tin_X1 hown hK hG ha (va_Nw.use rfl (hK.2 _ nX4_178)) (by decide) rfl dX4_receiveSnapshot_29 ?_
    refine lv_aload_n hx hb dX4_receiveSnapshot_32 rfl (lv_at hl 1 rfl) ?_
    refine qgN_2 (f := 5) hx hb htz tin_X3 hown hK hG hi (va_Nw.use rfl (hK.2 _ nX4_101)) (by decide) rfl dX4_receiveSnapshot_33 ?_
    refine mz_icmp_gt hx hb dX4_receiveSnapshot_36 (tgt := 54) rfl (fun h1 h1' => ?_) (fun h1 h1' => ?_)
    · refine lv_aload_n hx hb dX4_receiveSnapshot_54 rfl (lv_at hl 1 rfl) ?_
      refine qgN_2 (f := 6) hx hb htz tin_X3 hown hK hG hi (va_Nw.use rfl (hK.2 _ nX4_72)) (by decide) rfl dX4_receiveSnapshot_55 ?_
      refine lv_aload_n hx hb dX4_receiveSnapshot_58 rfl (lv_at hl 2 rfl) ?_
      refine qgN_11 (f := 4) hx hb htz tin_X1 hown hK hG ha (va_Nw.use rfl (hK.2 _ nX4_178)) (by decide) rfl dX4_receiveSnapshot_59 ?_
      refine mz_Ni (As := [.int _]) (rest := []) ⟨hx, hb, hml, hown, hts⟩ (qc_termOf l D L hL _ i hi _ hwv) (tz_N htz mX0_termOf (hK.2 _ nX4_104) rfl rfl ⟨Nat.le_of_ble_eq_true rfl, Nat.le_of_ble_eq_true rfl⟩) (qrecv_3 hK hG hi) qK_ok hK hG hS rfl hl.1 rfl (Nat.le_of_ble_eq_true rfl) dX4_receiveSnapshot_62 ⟨Nat.zero_le _, Nat.zero_le _⟩ (fun H locs hG hS => ?_)
      refine lv_aload_n hx hb dX4_receiveSnapshot_65 rfl (lv_at hl 2 rfl) ?_
      refine qgN_11 (f := 5) hx hb htz tin_X1 hown hK hG ha (va_Nw.use rfl (hK.2 _ nX4_184)) (by decide) rfl dX4_receiveSnapshot_66 ?_
      refine lv_icmp_eq hx hb dX4_receiveSnapshot_69 (tgt := 88) rfl (fun h2 => ?_) (fun h2 => ?_)
      · obtain ⟨w, hwe, hG, hww⟩ : ∃ w, w = qs_rSnapC v i a ∧ qG D L w H ∧ qw (ql_c L) w i := by
          first
            | exact ⟨_, (by rw [qs_rSnapC, if_pos h2]), hG, hwv⟩
            | exact ⟨_, (by rw [qs_rSnapC, if_neg h2]), hG, hwv.cut hc12 _⟩
        refine lv_aload_n hx hb dX4_receiveSnapshot_88 rfl (lv_at hl 1 rfl) ?_
        refine qgN_2 (f := 6) hx hb htz tin_X3 hown hK hG hi (va_Nw.use rfl (hK.2 _ nX4_72)) (by decide) rfl dX4_receiveSnapshot_89 ?_
        refine lv_aload_n hx hb dX4_receiveSnapshot_92 rfl (lv_at hl 2 rfl) ?_
        refine qgN_11 (f := 4) (v := .int (v 11 a 4)) hx hb htz tin_X1 hown hK hG ha (va_Nw.use rfl (hK.2 _ nX4_178)) (by decide) (by rw [hwe]; simp [qf11, qs_rSnapC_o]) dX4_receiveSnapshot_93 ?_
        refine lv_aload_n hx hb dX4_receiveSnapshot_96 rfl (lv_at hl 2 rfl) ?_
        refine qgN_11 (f := 5) (v := .int (v 11 a 5)) hx hb htz tin_X1 hown hK hG ha (va_Nw.use rfl (hK.2 _ nX4_184)) (by decide) (by rw [hwe]; simp [qf11, qs_rSnapC_o]) dX4_receiveSnapshot_97 ?_
        refine lv_aload_n hx hb dX4_receiveSnapshot_100 rfl (lv_at hl 2 rfl) ?_
        refine qgN_11 (f := 11) (v := .int (v 11 a 11)) hx hb htz tin_X1 hown hK hG ha (va_Nw.use rfl (hK.2 _ nX4_208)) (by decide) (by rw [hwe]; simp [qf11, qs_rSnapC_o]) dX4_receiveSnapshot_101 ?_
        refine mz_Nv (As := [.int _, .int _, .int _]) (rest := []) ⟨hx, hb, hml, hown, hts⟩ (qc_rebase l D L hL _ i hi _ _ _ hww) (tz_N htz mX0_rebase (hK.2 _ nX4_111) rfl rfl ⟨Nat.le_of_ble_eq_true rfl, Nat.le_of_ble_eq_true rfl⟩) (qrecv_3 hK hG hi) qK_ok hK hG hS rfl hl.1 rfl (Nat.le_of_ble_eq_true rfl) dX4_receiveSnapshot_104 ⟨Nat.zero_le _, Nat.zero_le _⟩ (fun H locs hG hS => ?_)
        refine lv_aload_n hx hb dX4_receiveSnapshot_107 rfl (lv_at hl 1 rfl) ?_
        refine lv_aload_n hx hb dX4_receiveSnapshot_108 rfl (lv_at hl 2 rfl) ?_
        refine qgN_11 (f := 4) (v := .int (v 11 a 4)) hx hb htz tin_X1 hown hK hG ha (va_Nw.use rfl (hK.2 _ nX4_178)) (by decide) (by rw [hwe]; simp [qf11, qs_rSnapC_o, qs_rebase_o]) dX4_receiveSnapshot_109 ?_
        refine qpN_2_5 hx hb htz tin_X3 hown hL hK hG hS hi (va_Nw.use rfl (hK.2 _ nX4_101)) dX4_receiveSnapshot_112 (fun H locs hG hS => ?_)
        refine lv_aload_n hx hb dX4_receiveSnapshot_115 rfl (lv_at hl 0 rfl) ?_
        refine lv_aload_n hx hb dX4_receiveSnapshot_116 rfl (lv_at hl 1 rfl) ?_
        refine lv_aload_n hx hb dX4_receiveSnapshot_117 rfl (lv_at hl 2 rfl) ?_
        refine qgN_11 (f := 1) (v := .int (v 11 a 1)) hx hb htz tin_X1 hown hK hG ha (va_Nw.use rfl (hK.2 _ nX4_158)) (by decide) (by rw [hwe]; simp [qf11, qs_rSnapC_o, qs_rebase_o, mz_at]) dX4_receiveSnapshot_118 ?_
        refine lv_iconst (v := 1) hx hb dX4_receiveSnapshot_121 (by decide) ?_
        refine lv_aload_n hx hb dX4_receiveSnapshot_122 rfl (lv_at hl 2 rfl) ?_
        refine qgN_11 (f := 4) (v := .int (v 11 a 4)) hx hb htz tin_X1 hown hK hG ha (va_Nw.use rfl (hK.2 _ nX4_178)) (by decide) (by rw [hwe]; simp [qf11, qs_rSnapC_o, qs_rebase_o, mz_at]) dX4_receiveSnapshot_123 ?_
        refine mz_Vv (As := [.ref _, .int _, .int _, .int _]) (rest := []) ⟨hx, hb, hml, hown, hts⟩ (qc_sendAppended l D L hL _ i hi _ _ _ (by decide)) (tz_V htz mX4_sendAppended lX4_249 rfl rfl ⟨Nat.le_of_ble_eq_true rfl, Nat.le_of_ble_eq_true rfl⟩) (qrecv_0 hK hG (by decide)) qK_ok hK hG hS rfl hl.1 rfl (Nat.le_of_ble_eq_true rfl) dX4_receiveSnapshot_126 ⟨Nat.zero_le _, Nat.zero_le _⟩ (fun H locs hG hS => ?_)
        exact mz_vret hx hb hr hlk qK_ok hK hS hG dX4_receiveSnapshot_129 (by rw [qs_rSnap, if_neg h0, ← hv, qs_rSnap1, if_neg h1', qs_rSnapB, ← hwe])
      · refine lv_aload_n hx hb dX4_receiveSnapshot_72 rfl (lv_at hl 1 rfl) ?_
        refine qgN_2 (f := 6) hx hb htz tin_X3 hown hK hG hi (va_Nw.use rfl (hK.2 _ nX4_72)) (by decide) rfl dX4_receiveSnapshot_73 ?_
        refine lv_aload_n hx hb dX4_receiveSnapshot_76 rfl (lv_at hl 1 rfl) ?_
        refine qgN_2 (f := 6) hx hb htz tin_X3 hown hK hG hi (va_Nw.use rfl (hK.2 _ nX4_72)) (by decide) rfl dX4_receiveSnapshot_77 ?_
        refine qgN_3 (f := 0) hx hb htz tin_X0 hown hK hG hi (va_Nw.use rfl (hK.2 _ nX4_76)) (by decide) rfl dX4_receiveSnapshot_80 ?_
        refine lv_iconst (v := 1) hx hb dX4_receiveSnapshot_83 (by decide) ?_
        refine lv_iadd hx hb dX4_receiveSnapshot_84 ?_
        refine mz_Nv (As := [.int _]) (rest := []) ⟨hx, hb, hml, hown, hts⟩ (qc_cutFrom l D L hL _ i hi _) (tz_N htz mX0_cutFrom (hK.2 _ nX4_260) rfl rfl ⟨Nat.le_of_ble_eq_true rfl, Nat.le_of_ble_eq_true rfl⟩) (qrecv_3 hK hG hi) qK_ok hK hG hS rfl hl.1 rfl (Nat.le_of_ble_eq_true rfl) dX4_receiveSnapshot_85 ⟨Nat.zero_le _, Nat.zero_le _⟩ (fun H locs hG hS => ?_)
        obtain ⟨w, hwe, hG, hww⟩ : ∃ w, w = qs_rSnapC v i a ∧ qG D L w H ∧ qw (ql_c L) w i := by
          first
            | exact ⟨_, (by rw [qs_rSnapC, if_pos h2]), hG, hwv⟩
            | exact ⟨_, (by rw [qs_rSnapC, if_neg h2]), hG, hwv.cut hc12 _⟩
        refine lv_aload_n hx hb dX4_receiveSnapshot_88 rfl (lv_at hl 1 rfl) ?_
        refine qgN_2 (f := 6) hx hb htz tin_X3 hown hK hG hi (va_Nw.use rfl (hK.2 _ nX4_72)) (by decide) rfl dX4_receiveSnapshot_89 ?_
        refine lv_aload_n hx hb dX4_receiveSnapshot_92 rfl (lv_at hl 2 rfl) ?_
        refine qgN_11 (f := 4) (v := .int (v 11 a 4)) hx hb htz tin_X1 hown hK hG ha (va_Nw.use rfl (hK.2 _ nX4_178)) (by decide) (by rw [hwe]; simp [qf11, qs_rSnapC_o]) dX4_receiveSnapshot_93 ?_
        refine lv_aload_n hx hb dX4_receiveSnapshot_96 rfl (lv_at hl 2 rfl) ?_
        refine qgN_11 (f := 5) (v := .int (v 11 a 5)) hx hb htz tin_X1 hown hK hG ha (va_Nw.use rfl (hK.2 _ nX4_184)) (by decide) (by rw [hwe]; simp [qf11, qs_rSnapC_o]) dX4_receiveSnapshot_97 ?_
        refine lv_aload_n hx hb dX4_receiveSnapshot_100 rfl (lv_at hl 2 rfl) ?_
        refine qgN_11 (f := 11) (v := .int (v 11 a 11)) hx hb htz tin_X1 hown hK hG ha (va_Nw.use rfl (hK.2 _ nX4_208)) (by decide) (by rw [hwe]; simp [qf11, qs_rSnapC_o]) dX4_receiveSnapshot_101 ?_
        refine mz_Nv (As := [.int _, .int _, .int _]) (rest := []) ⟨hx, hb, hml, hown, hts⟩ (qc_rebase l D L hL _ i hi _ _ _ hww) (tz_N htz mX0_rebase (hK.2 _ nX4_111) rfl rfl ⟨Nat.le_of_ble_eq_true rfl, Nat.le_of_ble_eq_true rfl⟩) (qrecv_3 hK hG hi) qK_ok hK hG hS rfl hl.1 rfl (Nat.le_of_ble_eq_true rfl) dX4_receiveSnapshot_104 ⟨Nat.zero_le _, Nat.zero_le _⟩ (fun H locs hG hS => ?_)
        refine lv_aload_n hx hb dX4_receiveSnapshot_107 rfl (lv_at hl 1 rfl) ?_
        refine lv_aload_n hx hb dX4_receiveSnapshot_108 rfl (lv_at hl 2 rfl) ?_
        refine qgN_11 (f := 4) (v := .int (v 11 a 4)) hx hb htz tin_X1 hown hK hG ha (va_Nw.use rfl (hK.2 _ nX4_178)) (by decide) (by rw [hwe]; simp [qf11, qs_rSnapC_o, qs_rebase_o]) dX4_receiveSnapshot_109 ?_
        refine qpN_2_5 hx hb htz tin_X3 hown hL hK hG hS hi (va_Nw.use rfl (hK.2 _ nX4_101)) dX4_receiveSnapshot_112 (fun H locs hG hS => ?_)
        refine lv_aload_n hx hb dX4_receiveSnapshot_115 rfl (lv_at hl 0 rfl) ?_
        refine lv_aload_n hx hb dX4_receiveSnapshot_116 rfl (lv_at hl 1 rfl) ?_
        refine lv_aload_n hx hb dX4_receiveSnapshot_117 rfl (lv_at hl 2 rfl) ?_
        refine qgN_11 (f := 1) (v := .int (v 11 a 1)) hx hb htz tin_X1 hown hK hG ha (va_Nw.use rfl (hK.2 _ nX4_158)) (by decide) (by rw [hwe]; simp [qf11, qs_rSnapC_o, qs_rebase_o, mz_at]) dX4_receiveSnapshot_118 ?_
        refine lv_iconst (v := 1) hx hb dX4_receiveSnapshot_121 (by decide) ?_
        refine lv_aload_n hx hb dX4_receiveSnapshot_122 rfl (lv_at hl 2 rfl) ?_
        refine qgN_11 (f := 4) (v := .int (v 11 a 4)) hx hb htz tin_X1 hown hK hG ha (va_Nw.use rfl (hK.2 _ nX4_178)) (by decide) (by rw [hwe]; simp [qf11, qs_rSnapC_o, qs_rebase_o, mz_at]) dX4_receiveSnapshot_123 ?_
        refine mz_Vv (As := [.ref _, .int _, .int _, .int _]) (rest := []) ⟨hx, hb, hml, hown, hts⟩ (qc_sendAppended l D L hL _ i hi _ _ _ (by decide)) (tz_V htz mX4_sendAppended lX4_249 rfl rfl ⟨Nat.le_of_ble_eq_true rfl, Nat.le_of_ble_eq_true rfl⟩) (qrecv_0 hK hG (by decide)) qK_ok hK hG hS rfl hl.1 rfl (Nat.le_of_ble_eq_true rfl) dX4_receiveSnapshot_126 ⟨Nat.zero_le _, Nat.zero_le _⟩ (fun H locs hG hS => ?_)
        exact mz_vret hx hb hr hlk qK_ok hK hS hG dX4_receiveSnapshot_129 (by rw [qs_rSnap, if_neg h0, ← hv, qs_rSnap1, if_neg h1', qs_rSnapB, ← hwe])
    · refine lv_aload_n hx hb dX4_receiveSnapshot_39 rfl (lv_at hl 0 rfl) ?_
      refine lv_aload_n hx hb dX4_receiveSnapshot_40 rfl (lv_at hl 1 rfl) ?_
      refine lv_aload_n hx hb dX4_receiveSnapshot_41 rfl (lv_at hl 2 rfl) ?_
      refine qgN_11 (f := 1) hx hb htz tin_X1 hown hK hG ha (va_Nw.use rfl (hK.2 _ nX4_158)) (by decide) rfl dX4_receiveSnapshot_42 ?_
      refine lv_iconst (v := 1) hx hb dX4_receiveSnapshot_45 (by decide) ?_
      refine lv_aload_n hx hb dX4_receiveSnapshot_46 rfl (lv_at hl 1 rfl) ?_
      refine qgN_2 (f := 5) hx hb htz tin_X3 hown hK hG hi (va_Nw.use rfl (hK.2 _ nX4_101)) (by decide) rfl dX4_receiveSnapshot_47 ?_
      refine mz_Vv (As := [.ref _, .int _, .int _, .int _]) (rest := []) ⟨hx, hb, hml, hown, hts⟩ (qc_sendAppended l D L hL _ i hi _ _ _ (by decide)) (tz_V htz mX4_sendAppended lX4_249 rfl rfl ⟨Nat.le_of_ble_eq_true rfl, Nat.le_of_ble_eq_true rfl⟩) (qrecv_0 hK hG (by decide)) qK_ok hK hG hS rfl hl.1 rfl (Nat.le_of_ble_eq_true rfl) dX4_receiveSnapshot_50 ⟨Nat.zero_le _, Nat.zero_le _⟩ (fun H locs hG hS => ?_)
      exact mz_vret hx hb hr hlk qK_ok hK hS hG dX4_receiveSnapshot_53 (by rw [qs_rSnap, if_neg h0, ← hv, qs_rSnap1, if_pos h1'])
  · refine lv_aload_n hx hb dX4_receiveSnapshot_11 rfl (lv_at hl 0 rfl) ?_
    refine lv_aload_n hx hb dX4_receiveSnapshot_12 rfl (lv_at hl 1 rfl) ?_
    refine lv_aload_n hx hb dX4_receiveSnapshot_13 rfl (lv_at hl 2 rfl) ?_
    refine qgN_11 (f := 1) hx hb htz tin_X1 hown hK hG ha (va_Nw.use rfl (hK.2 _ nX4_158)) (by decide) rfl dX4_receiveSnapshot_14 ?_
    refine lv_iconst (v := 0) hx hb dX4_receiveSnapshot_17 (by decide) ?_
    refine lv_iconst (v := 0) hx hb dX4_receiveSnapshot_18 (by decide) ?_
    refine mz_Vv (As := [.ref _, .int _, .int _, .int _]) (rest := []) ⟨hx, hb, hml, hown, hts⟩ (qc_sendAppended l D L hL _ i hi _ _ _ (by decide)) (tz_V htz mX4_sendAppended lX4_249 rfl rfl ⟨Nat.le_of_ble_eq_true rfl, Nat.le_of_ble_eq_true rfl⟩) (qrecv_0 hK hG (by decide)) qK_ok hK hG hS rfl hl.1 rfl (Nat.le_of_ble_eq_true rfl) dX4_receiveSnapshot_19 ⟨Nat.zero_le _, Nat.zero_le _⟩ (fun H locs hG hS => ?_)
    exact mz_vret hx hb hr hlk qK_ok hK hS hG dX4_receiveSnapshot_22 (by rw [qs_rSnap, if_pos h0])

set_option maxRecDepth 100000 in
set_option maxHeartbeats 4000000 in
theorem qc_receiveAppended (l : Launch) (D : va_G) (L : qL) (hL : qL_ok L) (u : mz_S) (i : Nat) (hi : i < ql_n L) (a : Nat) (ha : a < ql_S L + 2) (hq : qwc (ql_c L) u i (u 2 i 5)) (hf : vp_in (u 11 a 1) (ql_n L)) : mz_Cv l (qG D L) (qK D L) (qA L) yX4_receiveAppended (tz_w yX4_receiveAppended cX4_receiveAppended 3 none) ({ frames := 3, cells := 0, slots := 0, locals := 64 } : Room) [.ref (L.1 0 0), .ref (L.1 2 i), .ref (L.1 11 a)] u (qs_rAns (ql_n L) u i a) := by
  refine mz_Cv.of (cc := cX4_receiveAppended) (maxL := 3) (ret := none) (by decide) rfl (Nat.le_of_ble_eq_true rfl) ?_
  intro p e s m args below meth c ls hx hb hr hlk hml hown hts hl hG hK hS
  have hl : lv_has ls 3 [(0, .ref (L.1 0 0)), (1, .ref (L.1 2 i)), (2, .ref (L.1 11 a))] := hl
  have htz : ∀ w ∈ tz, w.before args s = true := fun w h => hts w (List.mem_cons_of_mem _ h)
  refine lv_aload_n hx hb dX4_receiveAppended_0 rfl (lv_at hl 1 rfl) ?_
  refine qgN_2 (f := 2) hx hb htz tin_X3 hown hK hG hi (va_Nw.use rfl (hK.2 _ nX4_49)) (by decide) rfl dX4_receiveAppended_1 ?_
  refine lv_iconst (v := 2) hx hb dX4_receiveAppended_4 (by decide) ?_
  refine lv_icmp_ne hx hb dX4_receiveAppended_5 (tgt := 19) rfl (fun h0 => ?_) (fun h0 => ?_)
  · exact mz_vret hx hb hr hlk qK_ok hK hS hG dX4_receiveAppended_19 (by unfold qs_rAns; first | rw [if_pos h0] | rw [if_neg (not_not_intro h0), if_pos h1])
  · refine lv_aload_n hx hb dX4_receiveAppended_8 rfl (lv_at hl 2 rfl) ?_
    refine qgN_11 (f := 3) hx hb htz tin_X1 hown hK hG ha (va_Nw.use rfl (hK.2 _ nX4_161)) (by decide) rfl dX4_receiveAppended_9 ?_
    refine lv_aload_n hx hb dX4_receiveAppended_12 rfl (lv_at hl 1 rfl) ?_
    refine qgN_2 (f := 3) hx hb htz tin_X3 hown hK hG hi (va_Nw.use rfl (hK.2 _ nX4_91)) (by decide) rfl dX4_receiveAppended_13 ?_
    refine lv_icmp_eq hx hb dX4_receiveAppended_16 (tgt := 20) rfl (fun h1 => ?_) (fun h1 => ?_)
    · refine lv_aload_n hx hb dX4_receiveAppended_20 rfl (lv_at hl 2 rfl) ?_
      refine qgN_11 (f := 6) hx hb htz tin_X1 hown hK hG ha (va_Nw.use rfl (hK.2 _ nX4_187)) (by decide) rfl dX4_receiveAppended_21 ?_
      refine mz_ifne_b hx hb dX4_receiveAppended_24 (tgt := 52) rfl (fun h2 => ?_) (fun h2 => ?_)
      · refine lv_aload_n hx hb dX4_receiveAppended_52 rfl (lv_at hl 1 rfl) ?_
        refine qgN_2 (f := 9) hx hb htz tin_X3 hown hK hG hi (va_Nw.use rfl (hK.2 _ nX4_151)) (by decide) rfl dX4_receiveAppended_53 ?_
        refine lv_aload_n hx hb dX4_receiveAppended_56 rfl (lv_at hl 2 rfl) ?_
        refine qgN_11 (f := 1) hx hb htz tin_X1 hown hK hG ha (va_Nw.use rfl (hK.2 _ nX4_158)) (by decide) rfl dX4_receiveAppended_57 ?_
        refine lv_aload_n hx hb dX4_receiveAppended_60 rfl (lv_at hl 1 rfl) ?_
        refine qgN_2 (f := 9) hx hb htz tin_X3 hown hK hG hi (va_Nw.use rfl (hK.2 _ nX4_151)) (by decide) rfl dX4_receiveAppended_61 ?_
        refine lv_aload_n hx hb dX4_receiveAppended_64 rfl (lv_at hl 2 rfl) ?_
        refine qgN_11 (f := 1) hx hb htz tin_X1 hown hK hG ha (va_Nw.use rfl (hK.2 _ nX4_158)) (by decide) rfl dX4_receiveAppended_65 ?_
        refine qa_8 hx hb hK hG hi hf dX4_receiveAppended_68 ?_
        refine lv_aload_n hx hb dX4_receiveAppended_69 rfl (lv_at hl 2 rfl) ?_
        refine qgN_11 (f := 4) hx hb htz tin_X1 hown hK hG ha (va_Nw.use rfl (hK.2 _ nX4_178)) (by decide) rfl dX4_receiveAppended_70 ?_
        refine va_mmax hx hb (hml.trans hl.1.symm) hown (htz _ lX4_168) (htz _ max_stat) (htz _ ini_Math) (htz _ max_code) (Nat.le_of_ble_eq_true rfl) (Nat.le_of_ble_eq_true rfl) (Nat.le_of_ble_eq_true rfl) (Nat.le_of_ble_eq_true rfl) dX4_receiveAppended_73 ?_
        refine qt_8 hx hb hL hK hG hS hi hf dX4_receiveAppended_76 (fun H locs hG hS => ?_)
        have hG : qG D L (qs_rAnsM u i a) H := hG
        refine lv_aload_n hx hb dX4_receiveAppended_77 rfl (lv_at hl 1 rfl) ?_
        refine qgN_2 (f := 8) hx hb htz tin_X3 hown hK hG hi (va_Nw.use rfl (hK.2 _ nX4_68)) (by decide) rfl dX4_receiveAppended_78 ?_
        refine lv_aload_n hx hb dX4_receiveAppended_81 rfl (lv_at hl 2 rfl) ?_
        refine qgN_11 (f := 1) (v := .int (u 11 a 1)) hx hb htz tin_X1 hown hK hG ha (va_Nw.use rfl (hK.2 _ nX4_158)) (by decide) (by simp [qf11, qs_rAnsM, mz_at]) dX4_receiveAppended_82 ?_
        refine lv_aload_n hx hb dX4_receiveAppended_85 rfl (lv_at hl 1 rfl) ?_
        refine qgN_2 (f := 9) hx hb htz tin_X3 hown hK hG hi (va_Nw.use rfl (hK.2 _ nX4_151)) (by decide) rfl dX4_receiveAppended_86 ?_
        refine lv_aload_n hx hb dX4_receiveAppended_89 rfl (lv_at hl 2 rfl) ?_
        refine qgN_11 (f := 1) (v := .int (u 11 a 1)) hx hb htz tin_X1 hown hK hG ha (va_Nw.use rfl (hK.2 _ nX4_158)) (by decide) (by simp [qf11, qs_rAnsM, mz_at]) dX4_receiveAppended_90 ?_
        refine qa_8 hx hb hK hG hi hf dX4_receiveAppended_93 ?_
        refine lv_iconst (v := 1) hx hb dX4_receiveAppended_94 (by decide) ?_
        refine lv_iadd hx hb dX4_receiveAppended_95 ?_
        refine qt_7 hx hb hL hK hG hS hi hf dX4_receiveAppended_96 (fun H locs hG hS => ?_)
        have hG : qG D L (qs_rAnsN u i a) H := hG
        refine lv_aload_n hx hb dX4_receiveAppended_97 rfl (lv_at hl 0 rfl) ?_
        refine lv_aload_n hx hb dX4_receiveAppended_98 rfl (lv_at hl 1 rfl) ?_
        refine mz_Vv (As := [.ref _]) (rest := []) ⟨hx, hb, hml, hown, hts⟩ (qc_advanceCommit l D L hL _ i hi (hq.same (by simp [qs_rAnsN, qs_rAnsM, mz_at]) (by simp [qs_rAnsN, qs_rAnsM, mz_at]) (by simp [qs_rAnsN, qs_rAnsM, mz_at]))) (tz_V htz mX4_advanceCommit lX4_256 rfl rfl ⟨Nat.le_of_ble_eq_true rfl, Nat.le_of_ble_eq_true rfl⟩) (qrecv_0 hK hG (by decide)) qK_ok hK hG hS rfl hl.1 rfl (Nat.le_of_ble_eq_true rfl) dX4_receiveAppended_99 ⟨Nat.zero_le _, Nat.zero_le _⟩ (fun H locs hG hS => ?_)
        exact mz_vret hx hb hr hlk qK_ok hK hS hG dX4_receiveAppended_102 (by rw [qs_rAns, if_neg (not_not_intro h0), if_neg (not_not_intro h1), if_neg h2])
      · refine lv_aload_n hx hb dX4_receiveAppended_27 rfl (lv_at hl 1 rfl) ?_
        refine qgN_2 (f := 8) hx hb htz tin_X3 hown hK hG hi (va_Nw.use rfl (hK.2 _ nX4_68)) (by decide) rfl dX4_receiveAppended_28 ?_
        refine lv_aload_n hx hb dX4_receiveAppended_31 rfl (lv_at hl 2 rfl) ?_
        refine qgN_11 (f := 1) hx hb htz tin_X1 hown hK hG ha (va_Nw.use rfl (hK.2 _ nX4_158)) (by decide) rfl dX4_receiveAppended_32 ?_
        refine lv_iconst (v := 1) hx hb dX4_receiveAppended_35 (by decide) ?_
        refine lv_aload_n hx hb dX4_receiveAppended_36 rfl (lv_at hl 1 rfl) ?_
        refine qgN_2 (f := 8) hx hb htz tin_X3 hown hK hG hi (va_Nw.use rfl (hK.2 _ nX4_68)) (by decide) rfl dX4_receiveAppended_37 ?_
        refine lv_aload_n hx hb dX4_receiveAppended_40 rfl (lv_at hl 2 rfl) ?_
        refine qgN_11 (f := 1) hx hb htz tin_X1 hown hK hG ha (va_Nw.use rfl (hK.2 _ nX4_158)) (by decide) rfl dX4_receiveAppended_41 ?_
        refine qa_7 hx hb hK hG hi hf dX4_receiveAppended_44 ?_
        refine lv_iconst (v := 1) hx hb dX4_receiveAppended_45 (by decide) ?_
        refine lv_isub hx hb dX4_receiveAppended_46 ?_
        refine va_mmax hx hb (hml.trans hl.1.symm) hown (htz _ lX4_168) (htz _ max_stat) (htz _ ini_Math) (htz _ max_code) (Nat.le_of_ble_eq_true rfl) (Nat.le_of_ble_eq_true rfl) (Nat.le_of_ble_eq_true rfl) (Nat.le_of_ble_eq_true rfl) dX4_receiveAppended_47 ?_
        refine qt_7 hx hb hL hK hG hS hi hf dX4_receiveAppended_50 (fun H locs hG hS => ?_)
        exact mz_vret hx hb hr hlk qK_ok hK hS hG dX4_receiveAppended_51 (by rw [qs_rAns, if_neg (not_not_intro h0), if_neg (not_not_intro h1), if_pos (Decidable.not_not.mp h2)]; rfl)
    · exact mz_vret hx hb hr hlk qK_ok hK hS hG dX4_receiveAppended_19 (by unfold qs_rAns; first | rw [if_pos h0] | rw [if_neg (not_not_intro h0), if_pos h1])

set_option maxRecDepth 100000 in
set_option maxHeartbeats 4000000 in
theorem qc_receive (l : Launch) (D : va_G) (L : qL) (hL : qL_ok L) (u : mz_S) (i : Nat) (hi : i < ql_n L) (a : Nat) (ha : a < ql_S L + 2) (hq : qwc (ql_c L) u i (u 2 i 5)) (hf : vp_in (u 11 a 1) (ql_n L)) : mz_Cv l (qG D L) (qK D L) (qA L) yX4_receive (tz_w yX4_receive cX4_receive 3 none) ({ frames := 4, cells := 0, slots := 0, locals := 90 } : Room) [.ref (L.1 0 0), .ref (L.1 2 i), .ref (L.1 11 a)] u (qs_rcv (ql_n L) (ql_c L) (ql_S L) u i a) := by
  refine mz_Cv.of (cc := cX4_receive) (maxL := 3) (ret := none) (by decide) rfl (Nat.le_of_ble_eq_true rfl) ?_
  intro p e s m args below meth c ls hx hb hr hlk hml hown hts hl hG hK hS
  have hl : lv_has ls 3 [(0, .ref (L.1 0 0)), (1, .ref (L.1 2 i)), (2, .ref (L.1 11 a))] := hl
  have htz : ∀ w ∈ tz, w.before args s = true := fun w h => hts w (List.mem_cons_of_mem _ h)
  refine lv_aload_n hx hb dX4_receive_0 rfl (lv_at hl 2 rfl) ?_
  refine qgN_11 (f := 3) hx hb htz tin_X1 hown hK hG ha (va_Nw.use rfl (hK.2 _ nX4_161)) (by decide) rfl dX4_receive_1 ?_
  refine lv_aload_n hx hb dX4_receive_4 rfl (lv_at hl 1 rfl) ?_
  refine qgN_2 (f := 3) hx hb htz tin_X3 hown hK hG hi (va_Nw.use rfl (hK.2 _ nX4_91)) (by decide) rfl dX4_receive_5 ?_
  refine mz_icmp_le hx hb dX4_receive_8 (tgt := 19) rfl (fun h0 h0' => ?_) (fun h0 h0' => ?_)
  · obtain ⟨w, hwe, hG, eE, eC⟩ : ∃ w, w = (if u 2 i 3 < u 11 a 3 then qs_enter u i (u 11 a 3) else u) ∧ qG D L w s.heap ∧ (∀ k x f, k ≠ 2 → w k x f = u k x f) ∧ w 2 i 5 = u 2 i 5 := ⟨_, by rw [if_neg h0], hG, fun _ _ _ _ => rfl, rfl⟩
    have hq9 : qwc (ql_c L) w i (w 2 i 5) := hq.same (eE _ _ _ (by decide)) (eE _ _ _ (by decide)) eC
    have hf9 : vp_in (w 11 a 1) (ql_n L) := by rw [eE _ _ _ (by decide)]; exact hf
    refine lv_aload_n hx hb dX4_receive_19 rfl (lv_at hl 2 rfl) ?_
    refine qgN_11 (f := 0) hx hb htz tin_X1 hown hK hG ha (va_Nw.use rfl (hK.2 _ nX4_138)) (by decide) rfl dX4_receive_20 ?_
    by_cases s1 : w 11 a 0 = 1
    · rw [s1]
      refine lv_tableIn hx hb dX4_receive_23 (by decide) (by decide) (off := 29) rfl (tgt := 52) rfl ?_
      refine lv_aload_n hx hb dX4_receive_52 rfl (lv_at hl 0 rfl) ?_
      refine lv_aload_n hx hb dX4_receive_53 rfl (lv_at hl 1 rfl) ?_
      refine lv_aload_n hx hb dX4_receive_54 rfl (lv_at hl 2 rfl) ?_
      refine mz_Vv (As := [.ref _, .ref _]) (rest := []) ⟨hx, hb, hml, hown, hts⟩ (qc_receiveAsk l D L hL _ i hi a ha hq9.qw) (tz_V htz mX4_receiveAsk lX4_214 rfl rfl ⟨Nat.le_of_ble_eq_true rfl, Nat.le_of_ble_eq_true rfl⟩) (qrecv_0 hK hG (by decide)) qK_ok hK hG hS rfl hl.1 rfl (Nat.le_of_ble_eq_true rfl) dX4_receive_55 ⟨Nat.zero_le _, Nat.zero_le _⟩ (fun H locs hG hS => ?_)
      refine lv_goto hx hb dX4_receive_58 (tgt := 94) rfl ?_
      exact mz_vret hx hb hr hlk qK_ok hK hS hG dX4_receive_94 (by rw [qs_rcv, ← hwe, qs_rcv1]; first | rw [if_pos s1] | rw [if_neg s1, if_pos s2] | rw [if_neg s1, if_neg s2, if_pos s3] | rw [if_neg s1, if_neg s2, if_neg s3, if_pos s4] | rw [if_neg s1, if_neg s2, if_neg s3, if_neg s4])
    by_cases s2 : w 11 a 0 = 2
    · rw [s2]
      refine lv_tableIn hx hb dX4_receive_23 (by decide) (by decide) (off := 38) rfl (tgt := 61) rfl ?_
      refine lv_aload_n hx hb dX4_receive_61 rfl (lv_at hl 0 rfl) ?_
      refine lv_aload_n hx hb dX4_receive_62 rfl (lv_at hl 1 rfl) ?_
      refine lv_aload_n hx hb dX4_receive_63 rfl (lv_at hl 2 rfl) ?_
      refine mz_Vv (As := [.ref _, .ref _]) (rest := []) ⟨hx, hb, hml, hown, hts⟩ (qc_receiveVote l D L hL _ i hi a ha hf9) (tz_V htz mX4_receiveVote lX4_217 rfl rfl ⟨Nat.le_of_ble_eq_true rfl, Nat.le_of_ble_eq_true rfl⟩) (qrecv_0 hK hG (by decide)) qK_ok hK hG hS rfl hl.1 rfl (Nat.le_of_ble_eq_true rfl) dX4_receive_64 ⟨Nat.zero_le _, Nat.zero_le _⟩ (fun H locs hG hS => ?_)
      refine lv_goto hx hb dX4_receive_67 (tgt := 94) rfl ?_
      exact mz_vret hx hb hr hlk qK_ok hK hS hG dX4_receive_94 (by rw [qs_rcv, ← hwe, qs_rcv1]; first | rw [if_pos s1] | rw [if_neg s1, if_pos s2] | rw [if_neg s1, if_neg s2, if_pos s3] | rw [if_neg s1, if_neg s2, if_neg s3, if_pos s4] | rw [if_neg s1, if_neg s2, if_neg s3, if_neg s4])
    by_cases s3 : w 11 a 0 = 3
    · rw [s3]
      refine lv_tableIn hx hb dX4_receive_23 (by decide) (by decide) (off := 47) rfl (tgt := 70) rfl ?_
      refine lv_aload_n hx hb dX4_receive_70 rfl (lv_at hl 0 rfl) ?_
      refine lv_aload_n hx hb dX4_receive_71 rfl (lv_at hl 1 rfl) ?_
      refine lv_aload_n hx hb dX4_receive_72 rfl (lv_at hl 2 rfl) ?_
      refine mz_Vv (As := [.ref _, .ref _]) (rest := []) ⟨hx, hb, hml, hown, hts⟩ (qc_receiveAppend l D L hL _ i hi a ha hq9.qw) (tz_V htz mX4_receiveAppend lX4_220 rfl rfl ⟨Nat.le_of_ble_eq_true rfl, Nat.le_of_ble_eq_true rfl⟩) (qrecv_0 hK hG (by decide)) qK_ok hK hG hS rfl hl.1 rfl (Nat.le_of_ble_eq_true rfl) dX4_receive_73 ⟨Nat.zero_le _, Nat.zero_le _⟩ (fun H locs hG hS => ?_)
      refine lv_goto hx hb dX4_receive_76 (tgt := 94) rfl ?_
      exact mz_vret hx hb hr hlk qK_ok hK hS hG dX4_receive_94 (by rw [qs_rcv, ← hwe, qs_rcv1]; first | rw [if_pos s1] | rw [if_neg s1, if_pos s2] | rw [if_neg s1, if_neg s2, if_pos s3] | rw [if_neg s1, if_neg s2, if_neg s3, if_pos s4] | rw [if_neg s1, if_neg s2, if_neg s3, if_neg s4])
    by_cases s4 : w 11 a 0 = 4
    · rw [s4]
      refine lv_tableIn hx hb dX4_receive_23 (by decide) (by decide) (off := 56) rfl (tgt := 79) rfl ?_
      refine lv_aload_n hx hb dX4_receive_79 rfl (lv_at hl 0 rfl) ?_
      refine lv_aload_n hx hb dX4_receive_80 rfl (lv_at hl 1 rfl) ?_
      refine lv_aload_n hx hb dX4_receive_81 rfl (lv_at hl 2 rfl) ?_
      refine mz_Vv (As := [.ref _, .ref _]) (rest := []) ⟨hx, hb, hml, hown, hts⟩ (qc_receiveAppended l D L hL _ i hi a ha hq9 hf9) (tz_V htz mX4_receiveAppended lX4_223 rfl rfl ⟨Nat.le_of_ble_eq_true rfl, Nat.le_of_ble_eq_true rfl⟩) (qrecv_0 hK hG (by decide)) qK_ok hK hG hS rfl hl.1 rfl (Nat.le_of_ble_eq_true rfl) dX4_receive_82 ⟨Nat.zero_le _, Nat.zero_le _⟩ (fun H locs hG hS => ?_)
      refine lv_goto hx hb dX4_receive_85 (tgt := 94) rfl ?_
      exact mz_vret hx hb hr hlk qK_ok hK hS hG dX4_receive_94 (by rw [qs_rcv, ← hwe, qs_rcv1]; first | rw [if_pos s1] | rw [if_neg s1, if_pos s2] | rw [if_neg s1, if_neg s2, if_pos s3] | rw [if_neg s1, if_neg s2, if_neg s3, if_pos s4] | rw [if_neg s1, if_neg s2, if_neg s3, if_neg s4])
    refine lv_tableOut hx hb dX4_receive_23 (mz_out (lo := 1) (hi := 4) (fun k h1 h2 => by rcases (show k = 1 ∨ k = 2 ∨ k = 3 ∨ k = 4 by omega) with rfl | rfl | rfl | rfl <;> assumption)) (tgt := 88) rfl ?_
    refine lv_aload_n hx hb dX4_receive_88 rfl (lv_at hl 0 rfl) ?_
    refine lv_aload_n hx hb dX4_receive_89 rfl (lv_at hl 1 rfl) ?_
    refine lv_aload_n hx hb dX4_receive_90 rfl (lv_at hl 2 rfl) ?_
    refine mz_Vv (As := [.ref _, .ref _]) (rest := []) ⟨hx, hb, hml, hown, hts⟩ (qc_receiveSnapshot l D L hL _ i hi a ha hq9.qw) (tz_V htz mX4_receiveSnapshot lX4_226 rfl rfl ⟨Nat.le_of_ble_eq_true rfl, Nat.le_of_ble_eq_true rfl⟩) (qrecv_0 hK hG (by decide)) qK_ok hK hG hS rfl hl.1 rfl (Nat.le_of_ble_eq_true rfl) dX4_receive_91 ⟨Nat.zero_le _, Nat.zero_le _⟩ (fun H locs hG hS => ?_)
    exact mz_vret hx hb hr hlk qK_ok hK hS hG dX4_receive_94 (by rw [qs_rcv, ← hwe, qs_rcv1]; first | rw [if_pos s1] | rw [if_neg s1, if_pos s2] | rw [if_neg s1, if_neg s2, if_pos s3] | rw [if_neg s1, if_neg s2, if_neg s3, if_pos s4] | rw [if_neg s1, if_neg s2, if_neg s3, if_neg s4])
  · refine lv_aload_n hx hb dX4_receive_11 rfl (lv_at hl 1 rfl) ?_
    refine lv_aload_n hx hb dX4_receive_12 rfl (lv_at hl 2 rfl) ?_
    refine qgN_11 (f := 3) hx hb htz tin_X1 hown hK hG ha (va_Nw.use rfl (hK.2 _ nX4_161)) (by decide) rfl dX4_receive_13 ?_
    refine mz_Nv (As := [.int _]) (rest := []) ⟨hx, hb, hml, hown, hts⟩ (qc_enterTerm l D L hL _ i hi _) (tz_N htz mX3_enterTerm (hK.2 _ nX4_211) rfl rfl ⟨Nat.le_of_ble_eq_true rfl, Nat.le_of_ble_eq_true rfl⟩) (qrecv_2 hK hG hi) qK_ok hK hG hS rfl hl.1 rfl (Nat.le_of_ble_eq_true rfl) dX4_receive_16 ⟨Nat.zero_le _, Nat.zero_le _⟩ (fun H locs hG hS => ?_)
    obtain ⟨w, hwe, hG, eE, eC⟩ : ∃ w, w = (if u 2 i 3 < u 11 a 3 then qs_enter u i (u 11 a 3) else u) ∧ qG D L w H ∧ (∀ k x f, k ≠ 2 → w k x f = u k x f) ∧ w 2 i 5 = u 2 i 5 := ⟨_, by rw [if_pos h0], hG, fun k x f hk => by simp [qs_enter, mz_at, hk], by simp [qs_enter, mz_at]⟩
    have hq9 : qwc (ql_c L) w i (w 2 i 5) := hq.same (eE _ _ _ (by decide)) (eE _ _ _ (by decide)) eC
    have hf9 : vp_in (w 11 a 1) (ql_n L) := by rw [eE _ _ _ (by decide)]; exact hf
    refine lv_aload_n hx hb dX4_receive_19 rfl (lv_at hl 2 rfl) ?_
    refine qgN_11 (f := 0) hx hb htz tin_X1 hown hK hG ha (va_Nw.use rfl (hK.2 _ nX4_138)) (by decide) rfl dX4_receive_20 ?_
    by_cases s1 : w 11 a 0 = 1
    · rw [s1]
      refine lv_tableIn hx hb dX4_receive_23 (by decide) (by decide) (off := 29) rfl (tgt := 52) rfl ?_
      refine lv_aload_n hx hb dX4_receive_52 rfl (lv_at hl 0 rfl) ?_
      refine lv_aload_n hx hb dX4_receive_53 rfl (lv_at hl 1 rfl) ?_
      refine lv_aload_n hx hb dX4_receive_54 rfl (lv_at hl 2 rfl) ?_
      refine mz_Vv (As := [.ref _, .ref _]) (rest := []) ⟨hx, hb, hml, hown, hts⟩ (qc_receiveAsk l D L hL _ i hi a ha hq9.qw) (tz_V htz mX4_receiveAsk lX4_214 rfl rfl ⟨Nat.le_of_ble_eq_true rfl, Nat.le_of_ble_eq_true rfl⟩) (qrecv_0 hK hG (by decide)) qK_ok hK hG hS rfl hl.1 rfl (Nat.le_of_ble_eq_true rfl) dX4_receive_55 ⟨Nat.zero_le _, Nat.zero_le _⟩ (fun H locs hG hS => ?_)
      refine lv_goto hx hb dX4_receive_58 (tgt := 94) rfl ?_
      exact mz_vret hx hb hr hlk qK_ok hK hS hG dX4_receive_94 (by rw [qs_rcv, ← hwe, qs_rcv1]; first | rw [if_pos s1] | rw [if_neg s1, if_pos s2] | rw [if_neg s1, if_neg s2, if_pos s3] | rw [if_neg s1, if_neg s2, if_neg s3, if_pos s4] | rw [if_neg s1, if_neg s2, if_neg s3, if_neg s4])
    by_cases s2 : w 11 a 0 = 2
    · rw [s2]
      refine lv_tableIn hx hb dX4_receive_23 (by decide) (by decide) (off := 38) rfl (tgt := 61) rfl ?_
      refine lv_aload_n hx hb dX4_receive_61 rfl (lv_at hl 0 rfl) ?_
      refine lv_aload_n hx hb dX4_receive_62 rfl (lv_at hl 1 rfl) ?_
      refine lv_aload_n hx hb dX4_receive_63 rfl (lv_at hl 2 rfl) ?_
      refine mz_Vv (As := [.ref _, .ref _]) (rest := []) ⟨hx, hb, hml, hown, hts⟩ (qc_receiveVote l D L hL _ i hi a ha hf9) (tz_V htz mX4_receiveVote lX4_217 rfl rfl ⟨Nat.le_of_ble_eq_true rfl, Nat.le_of_ble_eq_true rfl⟩) (qrecv_0 hK hG (by decide)) qK_ok hK hG hS rfl hl.1 rfl (Nat.le_of_ble_eq_true rfl) dX4_receive_64 ⟨Nat.zero_le _, Nat.zero_le _⟩ (fun H locs hG hS => ?_)
      refine lv_goto hx hb dX4_receive_67 (tgt := 94) rfl ?_
      exact mz_vret hx hb hr hlk qK_ok hK hS hG dX4_receive_94 (by rw [qs_rcv, ← hwe, qs_rcv1]; first | rw [if_pos s1] | rw [if_neg s1, if_pos s2] | rw [if_neg s1, if_neg s2, if_pos s3] | rw [if_neg s1, if_neg s2, if_neg s3, if_pos s4] | rw [if_neg s1, if_neg s2, if_neg s3, if_neg s4])
    by_cases s3 : w 11 a 0 = 3
    · rw [s3]
      refine lv_tableIn hx hb dX4_receive_23 (by decide) (by decide) (off := 47) rfl (tgt := 70) rfl ?_
      refine lv_aload_n hx hb dX4_receive_70 rfl (lv_at hl 0 rfl) ?_
      refine lv_aload_n hx hb dX4_receive_71 rfl (lv_at hl 1 rfl) ?_
      refine lv_aload_n hx hb dX4_receive_72 rfl (lv_at hl 2 rfl) ?_
      refine mz_Vv (As := [.ref _, .ref _]) (rest := []) ⟨hx, hb, hml, hown, hts⟩ (qc_receiveAppend l D L hL _ i hi a ha hq9.qw) (tz_V htz mX4_receiveAppend lX4_220 rfl rfl ⟨Nat.le_of_ble_eq_true rfl, Nat.le_of_ble_eq_true rfl⟩) (qrecv_0 hK hG (by decide)) qK_ok hK hG hS rfl hl.1 rfl (Nat.le_of_ble_eq_true rfl) dX4_receive_73 ⟨Nat.zero_le _, Nat.zero_le _⟩ (fun H locs hG hS => ?_)
      refine lv_goto hx hb dX4_receive_76 (tgt := 94) rfl ?_
      exact mz_vret hx hb hr hlk qK_ok hK hS hG dX4_receive_94 (by rw [qs_rcv, ← hwe, qs_rcv1]; first | rw [if_pos s1] | rw [if_neg s1, if_pos s2] | rw [if_neg s1, if_neg s2, if_pos s3] | rw [if_neg s1, if_neg s2, if_neg s3, if_pos s4] | rw [if_neg s1, if_neg s2, if_neg s3, if_neg s4])
    by_cases s4 : w 11 a 0 = 4
    · rw [s4]
      refine lv_tableIn hx hb dX4_receive_23 (by decide) (by decide) (off := 56) rfl (tgt := 79) rfl ?_
      refine lv_aload_n hx hb dX4_receive_79 rfl (lv_at hl 0 rfl) ?_
      refine lv_aload_n hx hb dX4_receive_80 rfl (lv_at hl 1 rfl) ?_
      refine lv_aload_n hx hb dX4_receive_81 rfl (lv_at hl 2 rfl) ?_
      refine mz_Vv (As := [.ref _, .ref _]) (rest := []) ⟨hx, hb, hml, hown, hts⟩ (qc_receiveAppended l D L hL _ i hi a ha hq9 hf9) (tz_V htz mX4_receiveAppended lX4_223 rfl rfl ⟨Nat.le_of_ble_eq_true rfl, Nat.le_of_ble_eq_true rfl⟩) (qrecv_0 hK hG (by decide)) qK_ok hK hG hS rfl hl.1 rfl (Nat.le_of_ble_eq_true rfl) dX4_receive_82 ⟨Nat.zero_le _, Nat.zero_le _⟩ (fun H locs hG hS => ?_)
      refine lv_goto hx hb dX4_receive_85 (tgt := 94) rfl ?_
      exact mz_vret hx hb hr hlk qK_ok hK hS hG dX4_receive_94 (by rw [qs_rcv, ← hwe, qs_rcv1]; first | rw [if_pos s1] | rw [if_neg s1, if_pos s2] | rw [if_neg s1, if_neg s2, if_pos s3] | rw [if_neg s1, if_neg s2, if_neg s3, if_pos s4] | rw [if_neg s1, if_neg s2, if_neg s3, if_neg s4])
    refine lv_tableOut hx hb dX4_receive_23 (mz_out (lo := 1) (hi := 4) (fun k h1 h2 => by rcases (show k = 1 ∨ k = 2 ∨ k = 3 ∨ k = 4 by omega) with rfl | rfl | rfl | rfl <;> assumption)) (tgt := 88) rfl ?_
    refine lv_aload_n hx hb dX4_receive_88 rfl (lv_at hl 0 rfl) ?_
    refine lv_aload_n hx hb dX4_receive_89 rfl (lv_at hl 1 rfl) ?_
    refine lv_aload_n hx hb dX4_receive_90 rfl (lv_at hl 2 rfl) ?_
    refine mz_Vv (As := [.ref _, .ref _]) (rest := []) ⟨hx, hb, hml, hown, hts⟩ (qc_receiveSnapshot l D L hL _ i hi a ha hq9.qw) (tz_V htz mX4_receiveSnapshot lX4_226 rfl rfl ⟨Nat.le_of_ble_eq_true rfl, Nat.le_of_ble_eq_true rfl⟩) (qrecv_0 hK hG (by decide)) qK_ok hK hG hS rfl hl.1 rfl (Nat.le_of_ble_eq_true rfl) dX4_receive_91 ⟨Nat.zero_le _, Nat.zero_le _⟩ (fun H locs hG hS => ?_)
    exact mz_vret hx hb hr hlk qK_ok hK hS hG dX4_receive_94 (by rw [qs_rcv, ← hwe, qs_rcv1]; first | rw [if_pos s1] | rw [if_neg s1, if_pos s2] | rw [if_neg s1, if_neg s2, if_pos s3] | rw [if_neg s1, if_neg s2, if_neg s3, if_pos s4] | rw [if_neg s1, if_neg s2, if_neg s3, if_neg s4])
end
section
set_option maxRecDepth 100000 in
set_option maxHeartbeats 4000000 in
theorem qc_timeout (l : Launch) (D : va_G) (L : qL) (hL : qL_ok L) (u : mz_S) (x : Int32) (hw : ∀ i, i < ql_n L → qw (ql_c L) u i) : mz_Ci l (qG D L) (qK D L) (qA L) yX4_timeout (tz_w yX4_timeout cX4_timeout 4 (some .int)) ({ frames := 3, cells := 0, slots := 0, locals := 65 } : Room) [.ref (L.1 0 0), .int x] u ((qs_timeout (ql_n L) (ql_S L) u x).2) ((qs_timeout (ql_n L) (ql_S L) u x).1) := by
  refine mz_Ci.of (cc := cX4_timeout) (maxL := 4) (ret := (some .int)) (by decide) rfl (Nat.le_of_ble_eq_true rfl) ?_
  intro p e s m args below meth c ls hx hb hr hlk hml hown hts hl hG hK hS
  have hl : lv_has ls 4 [(0, .ref (L.1 0 0)), (1, .int x)] := hl
  have htz : ∀ w ∈ tz, w.before args s = true := fun w h => hts w (List.mem_cons_of_mem _ h)
  have hc12 : ql_c L ≤ 12 := hL.1.2.2.2.1
  have hn5 : ql_n L ≤ 5 := hL.1.2.1
  have h40 : ql_S L ≤ 40 := hL.1.2.2.2.2.2
  refine lv_aload_n hx hb dX4_timeout_0 rfl (lv_at hl 0 rfl) ?_
  refine lv_iload_n hx hb dX4_timeout_1 rfl (lv_at hl 1 rfl) ?_
  refine mz_Vi (As := [.int _]) (rest := []) ⟨hx, hb, hml, hown, hts⟩ (qc_isNode l D L hL _ _) (tz_V htz mX4_isNode lX4_41 rfl rfl ⟨Nat.le_of_ble_eq_true rfl, Nat.le_of_ble_eq_true rfl⟩) (qrecv_0 hK hG (by decide)) qK_ok hK hG hS rfl hl.1 rfl (Nat.le_of_ble_eq_true rfl) dX4_timeout_2 ⟨Nat.zero_le _, Nat.zero_le _⟩ (fun H locs hG hS => ?_)
  refine mz_ifne_b hx hb dX4_timeout_5 (tgt := 10) rfl (fun h0 => ?_) (fun h0 => ?_)
  · refine lv_aload_n hx hb dX4_timeout_10 rfl (lv_at hl 0 rfl) ?_
    refine qg_0 (f := 0) hx hb htz tin_X4 hown hK hG (by decide) (htz _ fX4_15) (by decide) rfl dX4_timeout_11 ?_
    refine lv_iload_n hx hb dX4_timeout_14 rfl (lv_at hl 1 rfl) ?_
    have hi : x.toNatClampNeg < ql_n L := nz_cl (nz_in (by omega) h0)
    refine qa_1 hx hb hK hG (by decide) (nz_in (by omega) h0) dX4_timeout_15 ?_
    refine lv_astore_n hx hb dX4_timeout_16 rfl hl (by decide) rfl (fun ls hl => ?_)
    have hl : lv_has ls 4 [(2, .ref _), (0, .ref _), (1, .int _)] := hl
    refine lv_aload_n hx hb dX4_timeout_17 rfl (lv_at hl 0 rfl) ?_
    refine qgN_2 (f := 1) hx hb htz tin_X3 hown hK hG hi (va_Nw.use rfl (hK.2 _ nX4_45)) (by decide) rfl dX4_timeout_18 ?_
    refine mz_ifne_b hx hb dX4_timeout_21 (tgt := 27) rfl (fun h1 => ?_) (fun h1 => ?_)
    · refine lv_aload_n hx hb dX4_timeout_27 rfl (lv_at hl 0 rfl) ?_
      refine qgN_2 (f := 2) hx hb htz tin_X3 hown hK hG hi (va_Nw.use rfl (hK.2 _ nX4_49)) (by decide) rfl dX4_timeout_28 ?_
      refine lv_iconst (v := 2) hx hb dX4_timeout_31 (by decide) ?_
      refine lv_icmp_ne hx hb dX4_timeout_32 (tgt := 38) rfl (fun h2 => ?_) (fun h2 => ?_)
      · refine lv_aload_n hx hb dX4_timeout_38 rfl (lv_at hl 1 rfl) ?_
        refine qg_0 (f := 1) hx hb htz tin_X4 hown hK hG (by decide) (htz _ fX4_27) (by decide) rfl dX4_timeout_39 ?_
        refine mz_Ni (As := []) (rest := []) ⟨hx, hb, hml, hown, hts⟩ (qc_countFree l D L hL _) (tz_N htz mX2_countFree (hK.2 _ nX4_53) rfl rfl ⟨Nat.le_of_ble_eq_true rfl, Nat.le_of_ble_eq_true rfl⟩) (qrecv_9 hK hG (by decide)) qK_ok hK hG hS rfl hl.1 rfl (Nat.le_of_ble_eq_true rfl) dX4_timeout_42 ⟨Nat.zero_le _, Nat.zero_le _⟩ (fun H locs hG hS => ?_)
        refine lv_aload_n hx hb dX4_timeout_45 rfl (lv_at hl 1 rfl) ?_
        refine qg_0 (f := 0) hx hb htz tin_X4 hown hK hG (by decide) (htz _ fX4_15) (by decide) rfl dX4_timeout_46 ?_
        refine qz_1 hx hb hK hG (by decide) dX4_timeout_49 ?_
        refine lv_iconst (v := 1) hx hb dX4_timeout_50 (by decide) ?_
        refine lv_isub hx hb dX4_timeout_51 ?_
        refine mz_icmp_ge hx hb dX4_timeout_52 (tgt := 58) rfl (fun h3 h3' => ?_) (fun h3 h3' => ?_)
        · refine lv_aload_n hx hb dX4_timeout_58 rfl (lv_at hl 0 rfl) ?_
          refine mz_Nv (As := []) (rest := []) ⟨hx, hb, hml, hown, hts⟩ (qc_stand l D L hL _ _ hi) (tz_N htz mX3_stand (hK.2 _ nX4_57) rfl rfl ⟨Nat.le_of_ble_eq_true rfl, Nat.le_of_ble_eq_true rfl⟩) (qrecv_2 hK hG hi) qK_ok hK hG hS rfl hl.1 rfl (Nat.le_of_ble_eq_true rfl) dX4_timeout_59 ⟨Nat.zero_le _, Nat.zero_le _⟩ (fun H locs hG hS => ?_)
          refine lv_iconst (v := 0) hx hb dX4_timeout_62 (by decide) ?_
          refine lv_istore_n hx hb dX4_timeout_63 rfl hl (by decide) rfl (fun ls hl => ?_)
          have hl : lv_has ls 4 [(3, .int _), (2, .ref _), (0, .ref _), (1, .int _)] := hl
          obtain ⟨w, hw9⟩ : ∃ w, w = qs_stand (ql_n L) u x.toNatClampNeg := ⟨_, rfl⟩
          rw [← hw9] at hG
          refine mz_loop (ql_n L) (P := fun j ls H locs => lv_has ls 4 [(3, .int (nI j)), (2, .ref (L.1 2 x.toNatClampNeg)), (0, .ref (L.1 0 0)), (1, .int x)] ∧ qG D L (qs_asks (ql_S L) w x j) H ∧ va_S (qA L) s.heap H locs ∧ j ≤ ql_n L) (fun _ _ _ _ h => h.2.2.2) ?_ 0 _ _ _ ⟨hl, hG, hS, Nat.zero_le _⟩
          intro j ls H locs ⟨hl, hG, hS, hj⟩ ih
          refine lv_iload_n hx hb dX4_timeout_64 rfl (lv_at hl 0 rfl) ?_
          refine lv_aload_n hx hb dX4_timeout_65 rfl (lv_at hl 2 rfl) ?_
          refine qg_0 (f := 0) hx hb htz tin_X4 hown hK hG (by decide) (htz _ fX4_15) (by decide) rfl dX4_timeout_66 ?_
          refine qz_1 hx hb hK hG (by decide) dX4_timeout_69 ?_
          refine mz_icmp_ge hx hb dX4_timeout_70 (tgt := 90) rfl (fun h4 h4' => ?_) (fun h4 h4' => ?_)
          · rw [nI_leI (by omega) (by omega)] at h4'
            refine lv_iconst (v := 0) hx hb dX4_timeout_90 (by decide) ?_
            exact mz_iret hx hb hr hlk qK_ok hK hS hG dX4_timeout_91 (by rw [qs_timeout, if_neg (not_not_intro h0), if_neg h1, if_neg h2, if_neg h3]) (by rw [qs_timeout, if_neg (not_not_intro h0), if_neg h1, if_neg h2, if_neg h3, ← hw9, show ql_n L = j by omega])
          · rw [nI_ltI (by omega) (by omega)] at h4
            refine lv_iload_n hx hb dX4_timeout_73 rfl (lv_at hl 0 rfl) ?_
            refine lv_iload_n hx hb dX4_timeout_74 rfl (lv_at hl 3 rfl) ?_
            refine lv_icmp_eq hx hb dX4_timeout_75 (tgt := 84) rfl (fun h5 => ?_) (fun h5 => ?_)
            · refine lv_iinc (k := 0) hx hb dX4_timeout_84 hl rfl (nI_1 j) (by decide) rfl (fun ls hl => ?_)
              have hl : lv_has ls 4 [(3, .int _), (2, .ref _), (0, .ref _), (1, .int _)] := hl
              refine lv_goto hx hb dX4_timeout_87 (tgt := 64) rfl ?_
              exact ih (by omega) _ _ _ ⟨hl, by first | (rw [qs_asks, if_pos h5]; exact hG) | (rw [qs_asks, if_neg h5]; exact hG), hS, by omega⟩
            · refine lv_aload_n hx hb dX4_timeout_78 rfl (lv_at hl 2 rfl) ?_
              refine lv_aload_n hx hb dX4_timeout_79 rfl (lv_at hl 1 rfl) ?_
              refine lv_iload_n hx hb dX4_timeout_80 rfl (lv_at hl 0 rfl) ?_
              refine mz_Vv (As := [.ref _, .int _]) (rest := []) ⟨hx, hb, hml, hown, hts⟩ (qc_sendAsk l D L hL _ _ hi _ ((hw _ hi).same (by rw [qs_asks_o _ _ _ (by decide) (by decide), hw9, qs_stand_o _ _ _ (by decide) (by decide)]) (by rw [qs_asks_o _ _ _ (by decide) (by decide), hw9, qs_stand_o _ _ _ (by decide) (by decide)]))) (tz_V htz mX4_sendAsk lX4_60 rfl rfl ⟨Nat.le_of_ble_eq_true rfl, Nat.le_of_ble_eq_true rfl⟩) (qrecv_0 hK hG (by decide)) qK_ok hK hG hS rfl hl.1 rfl (Nat.le_of_ble_eq_true rfl) dX4_timeout_81 ⟨Nat.zero_le _, Nat.zero_le _⟩ (fun H locs hG hS => ?_)
              refine lv_iinc (k := 0) hx hb dX4_timeout_84 hl rfl (nI_1 j) (by decide) rfl (fun ls hl => ?_)
              have hl : lv_has ls 4 [(3, .int _), (2, .ref _), (0, .ref _), (1, .int _)] := hl
              refine lv_goto hx hb dX4_timeout_87 (tgt := 64) rfl ?_
              exact ih (by omega) _ _ _ ⟨hl, by first | (rw [qs_asks, if_pos h5]; exact hG) | (rw [qs_asks, if_neg h5]; exact hG), hS, by omega⟩
        · refine lv_bipush (v := (-4)) hx hb dX4_timeout_55 (by decide) ?_
          exact mz_iret hx hb hr hlk qK_ok hK hS hG dX4_timeout_57 (by rw [qs_timeout, if_neg (not_not_intro h0), if_neg h1, if_neg h2, if_pos h3]) (by rw [qs_timeout, if_neg (not_not_intro h0), if_neg h1, if_neg h2, if_pos h3])
      · refine lv_bipush (v := (-3)) hx hb dX4_timeout_35 (by decide) ?_
        exact mz_iret hx hb hr hlk qK_ok hK hS hG dX4_timeout_37 (by rw [qs_timeout, if_neg (not_not_intro h0), if_neg h1, if_pos h2]) (by rw [qs_timeout, if_neg (not_not_intro h0), if_neg h1, if_pos h2])
    · refine lv_bipush (v := (-2)) hx hb dX4_timeout_24 (by decide) ?_
      exact mz_iret hx hb hr hlk qK_ok hK hS hG dX4_timeout_26 (by rw [qs_timeout, if_neg (not_not_intro h0), if_pos (Decidable.not_not.mp h1)]) (by rw [qs_timeout, if_neg (not_not_intro h0), if_pos (Decidable.not_not.mp h1)])
  · refine lv_iconst (v := (-1)) hx hb dX4_timeout_8 (by decide) ?_
    exact mz_iret hx hb hr hlk qK_ok hK hS hG dX4_timeout_9 (by rw [qs_timeout, if_pos h0]) (by rw [qs_timeout, if_pos h0])

set_option maxRecDepth 100000 in
set_option maxHeartbeats 4000000 in
theorem qc_heartbeat (l : Launch) (D : va_G) (L : qL) (hL : qL_ok L) (u : mz_S) (x y : Int32) (hw : ∀ i, i < ql_n L → qw (ql_c L) u i) : mz_Ci l (qG D L) (qK D L) (qA L) yX4_heartbeat (tz_w yX4_heartbeat cX4_heartbeat 4 (some .int)) ({ frames := 3, cells := 0, slots := 0, locals := 66 } : Room) [.ref (L.1 0 0), .int x, .int y] u ((qs_heartbeat (ql_n L) (ql_S L) u x y).2) ((qs_heartbeat (ql_n L) (ql_S L) u x y).1) := by
  refine mz_Ci.of (cc := cX4_heartbeat) (maxL := 4) (ret := (some .int)) (by decide) rfl (Nat.le_of_ble_eq_true rfl) ?_
  intro p e s m args below meth c ls hx hb hr hlk hml hown hts hl hG hK hS
  have hl : lv_has ls 4 [(0, .ref (L.1 0 0)), (1, .int x), (2, .int y)] := hl
  have htz : ∀ w ∈ tz, w.before args s = true := fun w h => hts w (List.mem_cons_of_mem _ h)
  have hc12 : ql_c L ≤ 12 := hL.1.2.2.2.1
  have hn5 : ql_n L ≤ 5 := hL.1.2.1
  have h40 : ql_S L ≤ 40 := hL.1.2.2.2.2.2
  refine lv_aload_n hx hb dX4_heartbeat_0 rfl (lv_at hl 0 rfl) ?_
  refine lv_iload_n hx hb dX4_heartbeat_1 rfl (lv_at hl 1 rfl) ?_
  refine lv_iload_n hx hb dX4_heartbeat_2 rfl (lv_at hl 2 rfl) ?_
  refine mz_Vi (As := [.int _, .int _]) (rest := []) ⟨hx, hb, hml, hown, hts⟩ (qc_areTwoNodes l D L hL _ _ _) (tz_V htz mX4_areTwoNodes lX4_64 rfl rfl ⟨Nat.le_of_ble_eq_true rfl, Nat.le_of_ble_eq_true rfl⟩) (qrecv_0 hK hG (by decide)) qK_ok hK hG hS rfl hl.1 rfl (Nat.le_of_ble_eq_true rfl) dX4_heartbeat_3 ⟨Nat.zero_le _, Nat.zero_le _⟩ (fun H locs hG hS => ?_)
  refine mz_ifne_b hx hb dX4_heartbeat_6 (tgt := 11) rfl (fun h0 => ?_) (fun h0 => ?_)
  · refine lv_aload_n hx hb dX4_heartbeat_11 rfl (lv_at hl 0 rfl) ?_
    refine qg_0 (f := 0) hx hb htz tin_X4 hown hK hG (by decide) (htz _ fX4_15) (by decide) rfl dX4_heartbeat_12 ?_
    refine lv_iload_n hx hb dX4_heartbeat_15 rfl (lv_at hl 1 rfl) ?_
    have hi : x.toNatClampNeg < ql_n L := nz_cl (nz_in (by omega) h0.1)
    refine qa_1 hx hb hK hG (by decide) (nz_in (by omega) h0.1) dX4_heartbeat_16 ?_
    refine lv_astore_n hx hb dX4_heartbeat_17 rfl hl (by decide) rfl (fun ls hl => ?_)
    have hl : lv_has ls 4 [(3, .ref _), (0, .ref _), (1, .int _), (2, .int _)] := hl
    refine lv_aload_n hx hb dX4_heartbeat_18 rfl (lv_at hl 0 rfl) ?_
    refine qgN_2 (f := 1) hx hb htz tin_X3 hown hK hG hi (va_Nw.use rfl (hK.2 _ nX4_45)) (by decide) rfl dX4_heartbeat_19 ?_
    refine mz_ifne_b hx hb dX4_heartbeat_22 (tgt := 28) rfl (fun h1 => ?_) (fun h1 => ?_)
    · refine lv_aload_n hx hb dX4_heartbeat_28 rfl (lv_at hl 0 rfl) ?_
      refine qgN_2 (f := 2) hx hb htz tin_X3 hown hK hG hi (va_Nw.use rfl (hK.2 _ nX4_49)) (by decide) rfl dX4_heartbeat_29 ?_
      refine lv_iconst (v := 2) hx hb dX4_heartbeat_32 (by decide) ?_
      refine lv_icmp_eq hx hb dX4_heartbeat_33 (tgt := 39) rfl (fun h2 => ?_) (fun h2 => ?_)
      · refine lv_aload_n hx hb dX4_heartbeat_39 rfl (lv_at hl 1 rfl) ?_
        refine qg_0 (f := 1) hx hb htz tin_X4 hown hK hG (by decide) (htz _ fX4_27) (by decide) rfl dX4_heartbeat_40 ?_
        refine mz_Ni (As := []) (rest := []) ⟨hx, hb, hml, hown, hts⟩ (qc_countFree l D L hL _) (tz_N htz mX2_countFree (hK.2 _ nX4_53) rfl rfl ⟨Nat.le_of_ble_eq_true rfl, Nat.le_of_ble_eq_true rfl⟩) (qrecv_9 hK hG (by decide)) qK_ok hK hG hS rfl hl.1 rfl (Nat.le_of_ble_eq_true rfl) dX4_heartbeat_43 ⟨Nat.zero_le _, Nat.zero_le _⟩ (fun H locs hG hS => ?_)
        refine lv_if_ne hx hb dX4_heartbeat_46 (tgt := 52) rfl (fun h3 => ?_) (fun h3 => ?_)
        · refine lv_aload_n hx hb dX4_heartbeat_52 rfl (lv_at hl 0 rfl) ?_
          refine qgN_2 (f := 8) hx hb htz tin_X3 hown hK hG hi (va_Nw.use rfl (hK.2 _ nX4_68)) (by decide) rfl dX4_heartbeat_53 ?_
          refine lv_iload_n hx hb dX4_heartbeat_56 rfl (lv_at hl 3 rfl) ?_
          refine qa_7 hx hb hK hG hi (nz_in (by omega) h0.2.1) dX4_heartbeat_57 ?_
          refine lv_aload_n hx hb dX4_heartbeat_58 rfl (lv_at hl 0 rfl) ?_
          refine qgN_2 (f := 6) hx hb htz tin_X3 hown hK hG hi (va_Nw.use rfl (hK.2 _ nX4_72)) (by decide) rfl dX4_heartbeat_59 ?_
          refine qgN_3 (f := 0) hx hb htz tin_X0 hown hK hG hi (va_Nw.use rfl (hK.2 _ nX4_76)) (by decide) rfl dX4_heartbeat_62 ?_
          refine mz_icmp_gt hx hb dX4_heartbeat_65 (tgt := 76) rfl (fun h4 h4' => ?_) (fun h4 h4' => ?_)
          · refine lv_aload_n hx hb dX4_heartbeat_76 rfl (lv_at hl 1 rfl) ?_
            refine lv_aload_n hx hb dX4_heartbeat_77 rfl (lv_at hl 0 rfl) ?_
            refine lv_iload_n hx hb dX4_heartbeat_78 rfl (lv_at hl 3 rfl) ?_
            refine mz_Vv (As := [.ref _, .int _]) (rest := []) ⟨hx, hb, hml, hown, hts⟩ (qc_sendAppend l D L hL _ _ hi _ (nz_in (by omega) h0.2.1) (hw _ hi)) (tz_V htz mX4_sendAppend lX4_84 rfl rfl ⟨Nat.le_of_ble_eq_true rfl, Nat.le_of_ble_eq_true rfl⟩) (qrecv_0 hK hG (by decide)) qK_ok hK hG hS rfl hl.1 rfl (Nat.le_of_ble_eq_true rfl) dX4_heartbeat_79 ⟨Nat.zero_le _, Nat.zero_le _⟩ (fun H locs hG hS => ?_)
            refine lv_iconst (v := 3) hx hb dX4_heartbeat_82 (by decide) ?_
            exact mz_iret hx hb hr hlk qK_ok hK hS hG dX4_heartbeat_83 (by rw [qs_heartbeat, if_neg (not_not_intro h0), if_neg h1, if_neg (not_not_intro h2), if_neg h3, if_neg h4']) (by rw [qs_heartbeat, if_neg (not_not_intro h0), if_neg h1, if_neg (not_not_intro h2), if_neg h3, if_neg h4'])
          · refine lv_aload_n hx hb dX4_heartbeat_68 rfl (lv_at hl 1 rfl) ?_
            refine lv_aload_n hx hb dX4_heartbeat_69 rfl (lv_at hl 0 rfl) ?_
            refine lv_iload_n hx hb dX4_heartbeat_70 rfl (lv_at hl 3 rfl) ?_
            refine mz_Vv (As := [.ref _, .int _]) (rest := []) ⟨hx, hb, hml, hown, hts⟩ (qc_sendSnapshot l D L hL _ _ hi _) (tz_V htz mX4_sendSnapshot lX4_81 rfl rfl ⟨Nat.le_of_ble_eq_true rfl, Nat.le_of_ble_eq_true rfl⟩) (qrecv_0 hK hG (by decide)) qK_ok hK hG hS rfl hl.1 rfl (Nat.le_of_ble_eq_true rfl) dX4_heartbeat_71 ⟨Nat.zero_le _, Nat.zero_le _⟩ (fun H locs hG hS => ?_)
            refine lv_iconst (v := 5) hx hb dX4_heartbeat_74 (by decide) ?_
            exact mz_iret hx hb hr hlk qK_ok hK hS hG dX4_heartbeat_75 (by rw [qs_heartbeat, if_neg (not_not_intro h0), if_neg h1, if_neg (not_not_intro h2), if_neg h3, if_pos h4']) (by rw [qs_heartbeat, if_neg (not_not_intro h0), if_neg h1, if_neg (not_not_intro h2), if_neg h3, if_pos h4'])
        · refine lv_bipush (v := (-4)) hx hb dX4_heartbeat_49 (by decide) ?_
          exact mz_iret hx hb hr hlk qK_ok hK hS hG dX4_heartbeat_51 (by rw [qs_heartbeat, if_neg (not_not_intro h0), if_neg h1, if_neg (not_not_intro h2), if_pos h3]) (by rw [qs_heartbeat, if_neg (not_not_intro h0), if_neg h1, if_neg (not_not_intro h2), if_pos h3])
      · refine lv_bipush (v := (-3)) hx hb dX4_heartbeat_36 (by decide) ?_
        exact mz_iret hx hb hr hlk qK_ok hK hS hG dX4_heartbeat_38 (by rw [qs_heartbeat, if_neg (not_not_intro h0), if_neg h1, if_pos h2]) (by rw [qs_heartbeat, if_neg (not_not_intro h0), if_neg h1, if_pos h2])
    · refine lv_bipush (v := (-2)) hx hb dX4_heartbeat_25 (by decide) ?_
      exact mz_iret hx hb hr hlk qK_ok hK hS hG dX4_heartbeat_27 (by rw [qs_heartbeat, if_neg (not_not_intro h0), if_pos (Decidable.not_not.mp h1)]) (by rw [qs_heartbeat, if_neg (not_not_intro h0), if_pos (Decidable.not_not.mp h1)])
  · refine lv_iconst (v := (-1)) hx hb dX4_heartbeat_9 (by decide) ?_
    exact mz_iret hx hb hr hlk qK_ok hK hS hG dX4_heartbeat_10 (by rw [qs_heartbeat, if_pos h0]) (by rw [qs_heartbeat, if_pos h0])

set_option maxRecDepth 100000 in
set_option maxHeartbeats 4000000 in
theorem qc_propose (l : Launch) (D : va_G) (L : qL) (hL : qL_ok L) (u : mz_S) (x y : Int32) (hw : ∀ i, i < ql_n L → qw (ql_c L) u i) : mz_Ci l (qG D L) (qK D L) (qA L) yX4_propose (tz_w yX4_propose cX4_propose 4 (some .int)) ({ frames := 2, cells := 0, slots := 0, locals := 42 } : Room) [.ref (L.1 0 0), .int x, .int y] u ((qs_propose (ql_n L) (ql_c L) u x y).2) ((qs_propose (ql_n L) (ql_c L) u x y).1) := by
  refine mz_Ci.of (cc := cX4_propose) (maxL := 4) (ret := (some .int)) (by decide) rfl (Nat.le_of_ble_eq_true rfl) ?_
  intro p e s m args below meth c ls hx hb hr hlk hml hown hts hl hG hK hS
  have hl : lv_has ls 4 [(0, .ref (L.1 0 0)), (1, .int x), (2, .int y)] := hl
  have htz : ∀ w ∈ tz, w.before args s = true := fun w h => hts w (List.mem_cons_of_mem _ h)
  have hc12 : ql_c L ≤ 12 := hL.1.2.2.2.1
  have hn5 : ql_n L ≤ 5 := hL.1.2.1
  have h40 : ql_S L ≤ 40 := hL.1.2.2.2.2.2
  refine lv_aload_n hx hb dX4_propose_0 rfl (lv_at hl 0 rfl) ?_
  refine lv_iload_n hx hb dX4_propose_1 rfl (lv_at hl 1 rfl) ?_
  refine mz_Vi (As := [.int _]) (rest := []) ⟨hx, hb, hml, hown, hts⟩ (qc_isNode l D L hL _ _) (tz_V htz mX4_isNode lX4_41 rfl rfl ⟨Nat.le_of_ble_eq_true rfl, Nat.le_of_ble_eq_true rfl⟩) (qrecv_0 hK hG (by decide)) qK_ok hK hG hS rfl hl.1 rfl (Nat.le_of_ble_eq_true rfl) dX4_propose_2 ⟨Nat.zero_le _, Nat.zero_le _⟩ (fun H locs hG hS => ?_)
  refine mz_ifne_b hx hb dX4_propose_5 (tgt := 10) rfl (fun h0 => ?_) (fun h0 => ?_)
  · refine lv_aload_n hx hb dX4_propose_10 rfl (lv_at hl 0 rfl) ?_
    refine qg_0 (f := 0) hx hb htz tin_X4 hown hK hG (by decide) (htz _ fX4_15) (by decide) rfl dX4_propose_11 ?_
    refine lv_iload_n hx hb dX4_propose_14 rfl (lv_at hl 1 rfl) ?_
    have hi : x.toNatClampNeg < ql_n L := nz_cl (nz_in (by omega) h0)
    refine qa_1 hx hb hK hG (by decide) (nz_in (by omega) h0) dX4_propose_15 ?_
    refine lv_astore_n hx hb dX4_propose_16 rfl hl (by decide) rfl (fun ls hl => ?_)
    have hl : lv_has ls 4 [(3, .ref _), (0, .ref _), (1, .int _), (2, .int _)] := hl
    refine lv_aload_n hx hb dX4_propose_17 rfl (lv_at hl 0 rfl) ?_
    refine qgN_2 (f := 1) hx hb htz tin_X3 hown hK hG hi (va_Nw.use rfl (hK.2 _ nX4_45)) (by decide) rfl dX4_propose_18 ?_
    refine mz_ifne_b hx hb dX4_propose_21 (tgt := 27) rfl (fun h1 => ?_) (fun h1 => ?_)
    · refine lv_aload_n hx hb dX4_propose_27 rfl (lv_at hl 0 rfl) ?_
      refine qgN_2 (f := 2) hx hb htz tin_X3 hown hK hG hi (va_Nw.use rfl (hK.2 _ nX4_49)) (by decide) rfl dX4_propose_28 ?_
      refine lv_iconst (v := 2) hx hb dX4_propose_31 (by decide) ?_
      refine lv_icmp_eq hx hb dX4_propose_32 (tgt := 38) rfl (fun h2 => ?_) (fun h2 => ?_)
      · refine lv_aload_n hx hb dX4_propose_38 rfl (lv_at hl 0 rfl) ?_
        refine qgN_2 (f := 6) hx hb htz tin_X3 hown hK hG hi (va_Nw.use rfl (hK.2 _ nX4_72)) (by decide) rfl dX4_propose_39 ?_
        refine mz_Ni (As := []) (rest := []) ⟨hx, hb, hml, hown, hts⟩ (qc_isFull l D L hL _ _ hi) (tz_N htz mX0_isFull (hK.2 _ nX4_87) rfl rfl ⟨Nat.le_of_ble_eq_true rfl, Nat.le_of_ble_eq_true rfl⟩) (qrecv_3 hK hG hi) qK_ok hK hG hS rfl hl.1 rfl (Nat.le_of_ble_eq_true rfl) dX4_propose_42 ⟨Nat.zero_le _, Nat.zero_le _⟩ (fun H locs hG hS => ?_)
        refine mz_ifeq_b hx hb dX4_propose_45 (tgt := 51) rfl (fun h3 => ?_) (fun h3 => ?_)
        · refine lv_aload_n hx hb dX4_propose_51 rfl (lv_at hl 0 rfl) ?_
          refine qgN_2 (f := 6) hx hb htz tin_X3 hown hK hG hi (va_Nw.use rfl (hK.2 _ nX4_72)) (by decide) rfl dX4_propose_52 ?_
          refine lv_aload_n hx hb dX4_propose_55 rfl (lv_at hl 0 rfl) ?_
          refine qgN_2 (f := 3) hx hb htz tin_X3 hown hK hG hi (va_Nw.use rfl (hK.2 _ nX4_91)) (by decide) rfl dX4_propose_56 ?_
          refine lv_iload_n hx hb dX4_propose_59 rfl (lv_at hl 3 rfl) ?_
          refine mz_Nv (As := [.int _, .int _]) (rest := []) ⟨hx, hb, hml, hown, hts⟩ (qc_add l D L hL _ _ hi _ _ (hw _ hi)) (tz_N htz mX0_add (hK.2 _ nX4_94) rfl rfl ⟨Nat.le_of_ble_eq_true rfl, Nat.le_of_ble_eq_true rfl⟩) (qrecv_3 hK hG hi) qK_ok hK hG hS rfl hl.1 rfl (Nat.le_of_ble_eq_true rfl) dX4_propose_60 ⟨Nat.zero_le _, Nat.zero_le _⟩ (fun H locs hG hS => ?_)
          refine lv_aload_n hx hb dX4_propose_63 rfl (lv_at hl 0 rfl) ?_
          refine qgN_2 (f := 6) hx hb htz tin_X3 hown hK hG hi (va_Nw.use rfl (hK.2 _ nX4_72)) (by decide) rfl dX4_propose_64 ?_
          refine mz_Ni (As := []) (rest := []) ⟨hx, hb, hml, hown, hts⟩ (qc_lastNumber l D L hL _ _ hi) (tz_N htz mX0_lastNumber (hK.2 _ nX4_98) rfl rfl ⟨Nat.le_of_ble_eq_true rfl, Nat.le_of_ble_eq_true rfl⟩) (qrecv_3 hK hG hi) qK_ok hK hG hS rfl hl.1 rfl (Nat.le_of_ble_eq_true rfl) dX4_propose_67 ⟨Nat.zero_le _, Nat.zero_le _⟩ (fun H locs hG hS => ?_)
          exact mz_iret hx hb hr hlk qK_ok hK hS hG dX4_propose_70 (by rw [qs_propose, if_neg (not_not_intro h0), if_neg h1, if_neg (not_not_intro h2), if_neg h3]) (by rw [qs_propose, if_neg (not_not_intro h0), if_neg h1, if_neg (not_not_intro h2), if_neg h3])
        · refine lv_bipush (v := (-4)) hx hb dX4_propose_48 (by decide) ?_
          exact mz_iret hx hb hr hlk qK_ok hK hS hG dX4_propose_50 (by rw [qs_propose, if_neg (not_not_intro h0), if_neg h1, if_neg (not_not_intro h2), if_pos h3]) (by rw [qs_propose, if_neg (not_not_intro h0), if_neg h1, if_neg (not_not_intro h2), if_pos h3])
      · refine lv_bipush (v := (-3)) hx hb dX4_propose_35 (by decide) ?_
        exact mz_iret hx hb hr hlk qK_ok hK hS hG dX4_propose_37 (by rw [qs_propose, if_neg (not_not_intro h0), if_neg h1, if_pos h2]) (by rw [qs_propose, if_neg (not_not_intro h0), if_neg h1, if_pos h2])
    · refine lv_bipush (v := (-2)) hx hb dX4_propose_24 (by decide) ?_
      exact mz_iret hx hb hr hlk qK_ok hK hS hG dX4_propose_26 (by rw [qs_propose, if_neg (not_not_intro h0), if_pos (Decidable.not_not.mp h1)]) (by rw [qs_propose, if_neg (not_not_intro h0), if_pos (Decidable.not_not.mp h1)])
  · refine lv_iconst (v := (-1)) hx hb dX4_propose_8 (by decide) ?_
    exact mz_iret hx hb hr hlk qK_ok hK hS hG dX4_propose_9 (by rw [qs_propose, if_pos h0]) (by rw [qs_propose, if_pos h0])

set_option maxRecDepth 100000 in
set_option maxHeartbeats 4000000 in
theorem qc_compact (l : Launch) (D : va_G) (L : qL) (hL : qL_ok L) (u : mz_S) (x : Int32) (hq : ∀ i, i < ql_n L → qwc (ql_c L) u i (u 2 i 5)) : mz_Ci l (qG D L) (qK D L) (qA L) yX4_compact (tz_w yX4_compact cX4_compact 4 (some .int)) ({ frames := 2, cells := 0, slots := 0, locals := 46 } : Room) [.ref (L.1 0 0), .int x] u ((qs_compact (ql_n L) u x).2) ((qs_compact (ql_n L) u x).1) := by
  refine mz_Ci.of (cc := cX4_compact) (maxL := 4) (ret := (some .int)) (by decide) rfl (Nat.le_of_ble_eq_true rfl) ?_
  intro p e s m args below meth c ls hx hb hr hlk hml hown hts hl hG hK hS
  have hl : lv_has ls 4 [(0, .ref (L.1 0 0)), (1, .int x)] := hl
  have htz : ∀ w ∈ tz, w.before args s = true := fun w h => hts w (List.mem_cons_of_mem _ h)
  have hc12 : ql_c L ≤ 12 := hL.1.2.2.2.1
  have hn5 : ql_n L ≤ 5 := hL.1.2.1
  have h40 : ql_S L ≤ 40 := hL.1.2.2.2.2.2
  refine lv_aload_n hx hb dX4_compact_0 rfl (lv_at hl 0 rfl) ?_
  refine lv_iload_n hx hb dX4_compact_1 rfl (lv_at hl 1 rfl) ?_
  refine mz_Vi (As := [.int _]) (rest := []) ⟨hx, hb, hml, hown, hts⟩ (qc_isNode l D L hL _ _) (tz_V htz mX4_isNode lX4_41 rfl rfl ⟨Nat.le_of_ble_eq_true rfl, Nat.le_of_ble_eq_true rfl⟩) (qrecv_0 hK hG (by decide)) qK_ok hK hG hS rfl hl.1 rfl (Nat.le_of_ble_eq_true rfl) dX4_compact_2 ⟨Nat.zero_le _, Nat.zero_le _⟩ (fun H locs hG hS => ?_)
  refine mz_ifne_b hx hb dX4_compact_5 (tgt := 10) rfl (fun h0 => ?_) (fun h0 => ?_)
  · refine lv_aload_n hx hb dX4_compact_10 rfl (lv_at hl 0 rfl) ?_
    refine qg_0 (f := 0) hx hb htz tin_X4 hown hK hG (by decide) (htz _ fX4_15) (by decide) rfl dX4_compact_11 ?_
    refine lv_iload_n hx hb dX4_compact_14 rfl (lv_at hl 1 rfl) ?_
    have hi : x.toNatClampNeg < ql_n L := nz_cl (nz_in (by omega) h0)
    refine qa_1 hx hb hK hG (by decide) (nz_in (by omega) h0) dX4_compact_15 ?_
    refine lv_astore_n hx hb dX4_compact_16 rfl hl (by decide) rfl (fun ls hl => ?_)
    have hl : lv_has ls 4 [(2, .ref _), (0, .ref _), (1, .int _)] := hl
    refine lv_aload_n hx hb dX4_compact_17 rfl (lv_at hl 0 rfl) ?_
    refine qgN_2 (f := 1) hx hb htz tin_X3 hown hK hG hi (va_Nw.use rfl (hK.2 _ nX4_45)) (by decide) rfl dX4_compact_18 ?_
    refine mz_ifne_b hx hb dX4_compact_21 (tgt := 27) rfl (fun h1 => ?_) (fun h1 => ?_)
    · refine lv_aload_n hx hb dX4_compact_27 rfl (lv_at hl 0 rfl) ?_
      refine qgN_2 (f := 6) hx hb htz tin_X3 hown hK hG hi (va_Nw.use rfl (hK.2 _ nX4_72)) (by decide) rfl dX4_compact_28 ?_
      refine qgN_3 (f := 0) hx hb htz tin_X0 hown hK hG hi (va_Nw.use rfl (hK.2 _ nX4_76)) (by decide) rfl dX4_compact_31 ?_
      refine lv_istore_n hx hb dX4_compact_34 rfl hl (by decide) rfl (fun ls hl => ?_)
      have hl : lv_has ls 4 [(3, .int _), (2, .ref _), (0, .ref _), (1, .int _)] := hl
      refine lv_aload_n hx hb dX4_compact_35 rfl (lv_at hl 1 rfl) ?_
      refine qgN_2 (f := 6) hx hb htz tin_X3 hown hK hG hi (va_Nw.use rfl (hK.2 _ nX4_72)) (by decide) rfl dX4_compact_36 ?_
      refine lv_aload_n hx hb dX4_compact_39 rfl (lv_at hl 1 rfl) ?_
      refine qgN_2 (f := 5) hx hb htz tin_X3 hown hK hG hi (va_Nw.use rfl (hK.2 _ nX4_101)) (by decide) rfl dX4_compact_40 ?_
      refine lv_aload_n hx hb dX4_compact_43 rfl (lv_at hl 1 rfl) ?_
      refine qgN_2 (f := 6) hx hb htz tin_X3 hown hK hG hi (va_Nw.use rfl (hK.2 _ nX4_72)) (by decide) rfl dX4_compact_44 ?_
      refine lv_aload_n hx hb dX4_compact_47 rfl (lv_at hl 1 rfl) ?_
      refine qgN_2 (f := 5) hx hb htz tin_X3 hown hK hG hi (va_Nw.use rfl (hK.2 _ nX4_101)) (by decide) rfl dX4_compact_48 ?_
      refine mz_Ni (As := [.int _]) (rest := [.int _, .ref _]) ⟨hx, hb, hml, hown, hts⟩ (qc_termOf l D L hL _ _ hi _ (hq _ hi).qw) (tz_N htz mX0_termOf (hK.2 _ nX4_104) rfl rfl ⟨Nat.le_of_ble_eq_true rfl, Nat.le_of_ble_eq_true rfl⟩) (qrecv_3 hK hG hi) qK_ok hK hG hS rfl hl.1 rfl (Nat.le_of_ble_eq_true rfl) dX4_compact_51 ⟨Nat.zero_le _, Nat.zero_le _⟩ (fun H locs hG hS => ?_)
      refine lv_aload_n hx hb dX4_compact_54 rfl (lv_at hl 1 rfl) ?_
      refine qgN_2 (f := 6) hx hb htz tin_X3 hown hK hG hi (va_Nw.use rfl (hK.2 _ nX4_72)) (by decide) rfl dX4_compact_55 ?_
      refine lv_aload_n hx hb dX4_compact_58 rfl (lv_at hl 1 rfl) ?_
      refine qgN_2 (f := 5) hx hb htz tin_X3 hown hK hG hi (va_Nw.use rfl (hK.2 _ nX4_101)) (by decide) rfl dX4_compact_59 ?_
      refine mz_Ni (As := [.int _]) (rest := [.int _, .int _, .ref _]) ⟨hx, hb, hml, hown, hts⟩ (qc_stateUpTo l D L hL _ _ hi _ (hq _ hi)) (tz_N htz mX0_stateUpTo (hK.2 _ nX4_108) rfl rfl ⟨Nat.le_of_ble_eq_true rfl, Nat.le_of_ble_eq_true rfl⟩) (qrecv_3 hK hG hi) qK_ok hK hG hS rfl hl.1 rfl (Nat.le_of_ble_eq_true rfl) dX4_compact_62 ⟨Nat.zero_le _, Nat.zero_le _⟩ (fun H locs hG hS => ?_)
      refine mz_Nv (As := [.int _, .int _, .int _]) (rest := []) ⟨hx, hb, hml, hown, hts⟩ (qc_rebase l D L hL _ _ hi _ _ _ (hq _ hi).qw) (tz_N htz mX0_rebase (hK.2 _ nX4_111) rfl rfl ⟨Nat.le_of_ble_eq_true rfl, Nat.le_of_ble_eq_true rfl⟩) (qrecv_3 hK hG hi) qK_ok hK hG hS rfl hl.1 rfl (Nat.le_of_ble_eq_true rfl) dX4_compact_65 ⟨Nat.zero_le _, Nat.zero_le _⟩ (fun H locs hG hS => ?_)
      refine lv_aload_n hx hb dX4_compact_68 rfl (lv_at hl 1 rfl) ?_
      refine qgN_2 (f := 6) hx hb htz tin_X3 hown hK hG hi (va_Nw.use rfl (hK.2 _ nX4_72)) (by decide) rfl dX4_compact_69 ?_
      refine qgN_3 (f := 0) hx hb htz tin_X0 hown hK hG hi (va_Nw.use rfl (hK.2 _ nX4_76)) (by decide) rfl dX4_compact_72 ?_
      refine lv_iload_n hx hb dX4_compact_75 rfl (lv_at hl 0 rfl) ?_
      refine lv_isub hx hb dX4_compact_76 ?_
      exact mz_iret hx hb hr hlk qK_ok hK hS hG dX4_compact_77 (by rw [qs_compact, if_neg (not_not_intro h0), if_neg h1]; try rfl) (by rw [qs_compact, if_neg (not_not_intro h0), if_neg h1]; try rfl)
    · refine lv_bipush (v := (-2)) hx hb dX4_compact_24 (by decide) ?_
      exact mz_iret hx hb hr hlk qK_ok hK hS hG dX4_compact_26 (by rw [qs_compact, if_neg (not_not_intro h0), if_pos (Decidable.not_not.mp h1)]; try rfl) (by rw [qs_compact, if_neg (not_not_intro h0), if_pos (Decidable.not_not.mp h1)]; try rfl)
  · refine lv_iconst (v := (-1)) hx hb dX4_compact_8 (by decide) ?_
    exact mz_iret hx hb hr hlk qK_ok hK hS hG dX4_compact_9 (by rw [qs_compact, if_pos h0]; try rfl) (by rw [qs_compact, if_pos h0]; try rfl)

set_option maxRecDepth 100000 in
set_option maxHeartbeats 4000000 in
theorem qc_deliver (l : Launch) (D : va_G) (L : qL) (hL : qL_ok L) (u : mz_S) (x : Int32) (hq : ∀ i, i < ql_n L → qwc (ql_c L) u i (u 2 i 5)) (hm : ∀ j, j < ql_S L → ¬ u 11 j 0 = 0 → vp_in (u 11 j 1) (ql_n L) ∧ vp_in (u 11 j 2) (ql_n L)) : mz_Ci l (qG D L) (qK D L) (qA L) yX4_deliver (tz_w yX4_deliver cX4_deliver 3 (some .int)) ({ frames := 5, cells := 0, slots := 0, locals := 112 } : Room) [.ref (L.1 0 0), .int x] u ((qs_deliver (ql_n L) (ql_c L) (ql_S L) u x).2) ((qs_deliver (ql_n L) (ql_c L) (ql_S L) u x).1) := by
  refine mz_Ci.of (cc := cX4_deliver) (maxL := 3) (ret := (some .int)) (by decide) rfl (Nat.le_of_ble_eq_true rfl) ?_
  intro p e s m args below meth c ls hx hb hr hlk hml hown hts hl hG hK hS
  have hl : lv_has ls 3 [(0, .ref (L.1 0 0)), (1, .int x)] := hl
  have htz : ∀ w ∈ tz, w.before args s = true := fun w h => hts w (List.mem_cons_of_mem _ h)
  have hc12 : ql_c L ≤ 12 := hL.1.2.2.2.1
  have hn5 : ql_n L ≤ 5 := hL.1.2.1
  have h40 : ql_S L ≤ 40 := hL.1.2.2.2.2.2
  refine lv_aload_n hx hb dX4_deliver_0 rfl (lv_at hl 0 rfl) ?_
  refine qg_0 (f := 1) hx hb htz tin_X4 hown hK hG (by decide) (htz _ fX4_27) (by decide) rfl dX4_deliver_1 ?_
  refine lv_iload_n hx hb dX4_deliver_4 rfl (lv_at hl 1 rfl) ?_
  refine mz_Ni (As := [.int _]) (rest := []) ⟨hx, hb, hml, hown, hts⟩ (qc_isSlot l D L hL _ _) (tz_N htz mX2_isSlot (hK.2 _ nX4_114) rfl rfl ⟨Nat.le_of_ble_eq_true rfl, Nat.le_of_ble_eq_true rfl⟩) (qrecv_9 hK hG (by decide)) qK_ok hK hG hS rfl hl.1 rfl (Nat.le_of_ble_eq_true rfl) dX4_deliver_5 ⟨Nat.zero_le _, Nat.zero_le _⟩ (fun H locs hG hS => ?_)
  refine mz_ifne_b hx hb dX4_deliver_8 (tgt := 13) rfl (fun h0 => ?_) (fun h0 => ?_)
  · refine lv_aload_n hx hb dX4_deliver_13 rfl (lv_at hl 0 rfl) ?_
    refine qg_0 (f := 1) hx hb htz tin_X4 hown hK hG (by decide) (htz _ fX4_27) (by decide) rfl dX4_deliver_14 ?_
    refine lv_iload_n hx hb dX4_deliver_17 rfl (lv_at hl 1 rfl) ?_
    refine mz_Ni (As := [.int _]) (rest := []) ⟨hx, hb, hml, hown, hts⟩ (qc_isFree l D L hL _ _ (nz_in (by omega) h0)) (tz_N htz mX2_isFree (hK.2 _ nX4_117) rfl rfl ⟨Nat.le_of_ble_eq_true rfl, Nat.le_of_ble_eq_true rfl⟩) (qrecv_9 hK hG (by decide)) qK_ok hK hG hS rfl hl.1 rfl (Nat.le_of_ble_eq_true rfl) dX4_deliver_18 ⟨Nat.zero_le _, Nat.zero_le _⟩ (fun H locs hG hS => ?_)
    refine mz_ifeq_b hx hb dX4_deliver_21 (tgt := 27) rfl (fun h1 => ?_) (fun h1 => ?_)
    · refine lv_aload_n hx hb dX4_deliver_27 rfl (lv_at hl 0 rfl) ?_
      refine qg_0 (f := 3) hx hb htz tin_X4 hown hK hG (by decide) (htz _ fX4_38) (by decide) rfl dX4_deliver_28 ?_
      refine lv_aload_n hx hb dX4_deliver_31 rfl (lv_at hl 0 rfl) ?_
      refine qg_0 (f := 1) hx hb htz tin_X4 hown hK hG (by decide) (htz _ fX4_27) (by decide) rfl dX4_deliver_32 ?_
      refine qgN_9 (f := 0) hx hb htz tin_X2 hown hK hG (by decide) (va_Nw.use rfl (hK.2 _ nX4_120)) (by decide) rfl dX4_deliver_35 ?_
      refine lv_iload_n hx hb dX4_deliver_38 rfl (lv_at hl 1 rfl) ?_
      have hj : x.toNatClampNeg < ql_S L := nz_cl (nz_in (by omega) h0)
      refine qa_10 hx hb hK hG (by decide) (nz_in (by omega) h0) dX4_deliver_39 ?_
      refine mz_Nv (As := [.ref _]) (rest := []) ⟨hx, hb, hml, hown, hts⟩ (qc_copy l D L hL _ (ql_S L + 1) x.toNatClampNeg (by omega) (by omega)) (tz_N htz mX1_copy (hK.2 _ nX4_124) rfl rfl ⟨Nat.le_of_ble_eq_true rfl, Nat.le_of_ble_eq_true rfl⟩) (qrecv_11 hK hG (by omega)) qK_ok hK hG hS rfl hl.1 rfl (Nat.le_of_ble_eq_true rfl) dX4_deliver_40 ⟨Nat.zero_le _, Nat.zero_le _⟩ (fun H locs hG hS => ?_)
      refine lv_aload_n hx hb dX4_deliver_43 rfl (lv_at hl 0 rfl) ?_
      refine qg_0 (f := 1) hx hb htz tin_X4 hown hK hG (by decide) (htz _ fX4_27) (by decide) rfl dX4_deliver_44 ?_
      refine lv_iload_n hx hb dX4_deliver_47 rfl (lv_at hl 1 rfl) ?_
      refine mz_Nv (As := [.int _]) (rest := []) ⟨hx, hb, hml, hown, hts⟩ (qc_clear l D L hL _ _ (nz_in (by omega) h0)) (tz_N htz mX2_clear (hK.2 _ nX4_128) rfl rfl ⟨Nat.le_of_ble_eq_true rfl, Nat.le_of_ble_eq_true rfl⟩) (qrecv_9 hK hG (by decide)) qK_ok hK hG hS rfl hl.1 rfl (Nat.le_of_ble_eq_true rfl) dX4_deliver_48 ⟨Nat.zero_le _, Nat.zero_le _⟩ (fun H locs hG hS => ?_)
      have hG : qG D L (qs_dlv (ql_S L) u x.toNatClampNeg) H := hG
      have hm9 := hm _ hj h1
      have hi : (u 11 x.toNatClampNeg 2).toNatClampNeg < ql_n L := nz_cl hm9.2
      refine lv_aload_n hx hb dX4_deliver_51 rfl (lv_at hl 0 rfl) ?_
      refine qg_0 (f := 0) hx hb htz tin_X4 hown hK hG (by decide) (htz _ fX4_15) (by decide) rfl dX4_deliver_52 ?_
      refine lv_aload_n hx hb dX4_deliver_55 rfl (lv_at hl 0 rfl) ?_
      refine qg_0 (f := 3) hx hb htz tin_X4 hown hK hG (by decide) (htz _ fX4_38) (by decide) rfl dX4_deliver_56 ?_
      refine qgN_11 (f := 2) (v := .int (u 11 x.toNatClampNeg 2)) hx hb htz tin_X1 hown hK hG (by omega) (va_Nw.use rfl (hK.2 _ nX4_131)) (by decide) (by simp [qf11, qs_dlv, qs_clear, qs_copy, mz_at]) dX4_deliver_59 ?_
      refine qa_1 hx hb hK hG (by decide) hm9.2 dX4_deliver_62 ?_
      refine lv_astore_n hx hb dX4_deliver_63 rfl hl (by decide) rfl (fun ls hl => ?_)
      have hl : lv_has ls 3 [(2, .ref _), (0, .ref _), (1, .int _)] := hl
      refine lv_aload_n hx hb dX4_deliver_64 rfl (lv_at hl 0 rfl) ?_
      refine qgN_2 (f := 1) (v := .int (mz_b (u 2 (u 11 x.toNatClampNeg 2).toNatClampNeg 1 ≠ 0))) hx hb htz tin_X3 hown hK hG hi (va_Nw.use rfl (hK.2 _ nX4_45)) (by decide) (by simp [qf2, qs_dlv, qs_clear, qs_copy_o, mz_at]) dX4_deliver_65 ?_
      refine mz_ifeq_b hx hb dX4_deliver_68 (tgt := 80) rfl (fun h2 => ?_) (fun h2 => ?_)
      · refine lv_aload_n hx hb dX4_deliver_80 rfl (lv_at hl 1 rfl) ?_
        refine qg_0 (f := 3) hx hb htz tin_X4 hown hK hG (by decide) (htz _ fX4_38) (by decide) rfl dX4_deliver_81 ?_
        refine qgN_11 (f := 0) (v := .int (u 11 x.toNatClampNeg 0)) hx hb htz tin_X1 hown hK hG (by omega) (va_Nw.use rfl (hK.2 _ nX4_138)) (by decide) (by simp [qf11, qs_rcv_hi, qs_dlv, qs_clear, qs_copy, mz_at, show ¬ (ql_S L + 1 = x.toNatClampNeg) by omega]) dX4_deliver_84 ?_
        exact mz_iret hx hb hr hlk qK_ok hK hS hG dX4_deliver_87 (by rw [qs_deliver, if_neg (not_not_intro h0), if_neg h1]; first | rw [if_pos (Decidable.not_not.mp h2)] | rw [if_neg h2]) (by rw [qs_deliver, if_neg (not_not_intro h0), if_neg h1]; first | rw [if_pos (Decidable.not_not.mp h2)] | rw [if_neg h2])
      · refine lv_aload_n hx hb dX4_deliver_71 rfl (lv_at hl 1 rfl) ?_
        refine lv_aload_n hx hb dX4_deliver_72 rfl (lv_at hl 0 rfl) ?_
        refine lv_aload_n hx hb dX4_deliver_73 rfl (lv_at hl 1 rfl) ?_
        refine qg_0 (f := 3) hx hb htz tin_X4 hown hK hG (by decide) (htz _ fX4_38) (by decide) rfl dX4_deliver_74 ?_
        refine mz_Vv (As := [.ref _, .ref _]) (rest := []) ⟨hx, hb, hml, hown, hts⟩ (qc_receive l D L hL _ _ hi (ql_S L + 1) (by omega) ((hq _ hi).same (by simp [qs_dlv, qs_clear, qs_copy_o, mz_at]) (by simp [qs_dlv, qs_clear, qs_copy_o, mz_at]) (by simp [qs_dlv, qs_clear, qs_copy_o, mz_at])) (by rw [show qs_dlv (ql_S L) u x.toNatClampNeg 11 (ql_S L + 1) 1 = u 11 x.toNatClampNeg 1 from by simp [qs_dlv, qs_clear, qs_copy, mz_at]]; exact hm9.1)) (tz_V htz mX4_receive lX4_134 rfl rfl ⟨Nat.le_of_ble_eq_true rfl, Nat.le_of_ble_eq_true rfl⟩) (qrecv_0 hK hG (by decide)) qK_ok hK hG hS rfl hl.1 rfl (Nat.le_of_ble_eq_true rfl) dX4_deliver_77 ⟨Nat.zero_le _, Nat.zero_le _⟩ (fun H locs hG hS => ?_)
        refine lv_aload_n hx hb dX4_deliver_80 rfl (lv_at hl 1 rfl) ?_
        refine qg_0 (f := 3) hx hb htz tin_X4 hown hK hG (by decide) (htz _ fX4_38) (by decide) rfl dX4_deliver_81 ?_
        refine qgN_11 (f := 0) (v := .int (u 11 x.toNatClampNeg 0)) hx hb htz tin_X1 hown hK hG (by omega) (va_Nw.use rfl (hK.2 _ nX4_138)) (by decide) (by simp [qf11, qs_rcv_hi, qs_dlv, qs_clear, qs_copy, mz_at, show ¬ (ql_S L + 1 = x.toNatClampNeg) by omega]) dX4_deliver_84 ?_
        exact mz_iret hx hb hr hlk qK_ok hK hS hG dX4_deliver_87 (by rw [qs_deliver, if_neg (not_not_intro h0), if_neg h1]; first | rw [if_pos (Decidable.not_not.mp h2)] | rw [if_neg h2]) (by rw [qs_deliver, if_neg (not_not_intro h0), if_neg h1]; first | rw [if_pos (Decidable.not_not.mp h2)] | rw [if_neg h2])
    · refine lv_bipush (v := (-5)) hx hb dX4_deliver_24 (by decide) ?_
      exact mz_iret hx hb hr hlk qK_ok hK hS hG dX4_deliver_26 (by rw [qs_deliver, if_neg (not_not_intro h0), if_pos h1]) (by rw [qs_deliver, if_neg (not_not_intro h0), if_pos h1])
  · refine lv_iconst (v := (-1)) hx hb dX4_deliver_11 (by decide) ?_
    exact mz_iret hx hb hr hlk qK_ok hK hS hG dX4_deliver_12 (by rw [qs_deliver, if_pos h0]) (by rw [qs_deliver, if_pos h0])

set_option maxRecDepth 100000 in
set_option maxHeartbeats 4000000 in
theorem qc_drop (l : Launch) (D : va_G) (L : qL) (hL : qL_ok L) (u : mz_S) (x : Int32) : mz_Ci l (qG D L) (qK D L) (qA L) yX4_drop (tz_w yX4_drop cX4_drop 2 (some .int)) ({ frames := 1, cells := 0, slots := 0, locals := 21 } : Room) [.ref (L.1 0 0), .int x] u ((qs_drop (ql_S L) u x).2) ((qs_drop (ql_S L) u x).1) := by
  refine mz_Ci.of (cc := cX4_drop) (maxL := 2) (ret := (some .int)) (by decide) rfl (Nat.le_of_ble_eq_true rfl) ?_
  intro p e s m args below meth c ls hx hb hr hlk hml hown hts hl hG hK hS
  have hl : lv_has ls 2 [(0, .ref (L.1 0 0)), (1, .int x)] := hl
  have htz : ∀ w ∈ tz, w.before args s = true := fun w h => hts w (List.mem_cons_of_mem _ h)
  have hc12 : ql_c L ≤ 12 := hL.1.2.2.2.1
  have hn5 : ql_n L ≤ 5 := hL.1.2.1
  have h40 : ql_S L ≤ 40 := hL.1.2.2.2.2.2
  refine lv_aload_n hx hb dX4_drop_0 rfl (lv_at hl 0 rfl) ?_
  refine qg_0 (f := 1) hx hb htz tin_X4 hown hK hG (by decide) (htz _ fX4_27) (by decide) rfl dX4_drop_1 ?_
  refine lv_iload_n hx hb dX4_drop_4 rfl (lv_at hl 1 rfl) ?_
  refine mz_Ni (As := [.int _]) (rest := []) ⟨hx, hb, hml, hown, hts⟩ (qc_isSlot l D L hL _ _) (tz_N htz mX2_isSlot (hK.2 _ nX4_114) rfl rfl ⟨Nat.le_of_ble_eq_true rfl, Nat.le_of_ble_eq_true rfl⟩) (qrecv_9 hK hG (by decide)) qK_ok hK hG hS rfl hl.1 rfl (Nat.le_of_ble_eq_true rfl) dX4_drop_5 ⟨Nat.zero_le _, Nat.zero_le _⟩ (fun H locs hG hS => ?_)
  refine mz_ifne_b hx hb dX4_drop_8 (tgt := 13) rfl (fun h0 => ?_) (fun h0 => ?_)
  · refine lv_aload_n hx hb dX4_drop_13 rfl (lv_at hl 0 rfl) ?_
    refine qg_0 (f := 1) hx hb htz tin_X4 hown hK hG (by decide) (htz _ fX4_27) (by decide) rfl dX4_drop_14 ?_
    refine lv_iload_n hx hb dX4_drop_17 rfl (lv_at hl 1 rfl) ?_
    refine mz_Ni (As := [.int _]) (rest := []) ⟨hx, hb, hml, hown, hts⟩ (qc_isFree l D L hL _ _ (nz_in (by omega) h0)) (tz_N htz mX2_isFree (hK.2 _ nX4_117) rfl rfl ⟨Nat.le_of_ble_eq_true rfl, Nat.le_of_ble_eq_true rfl⟩) (qrecv_9 hK hG (by decide)) qK_ok hK hG hS rfl hl.1 rfl (Nat.le_of_ble_eq_true rfl) dX4_drop_18 ⟨Nat.zero_le _, Nat.zero_le _⟩ (fun H locs hG hS => ?_)
    refine mz_ifeq_b hx hb dX4_drop_21 (tgt := 27) rfl (fun h1 => ?_) (fun h1 => ?_)
    · refine lv_aload_n hx hb dX4_drop_27 rfl (lv_at hl 0 rfl) ?_
      refine qg_0 (f := 1) hx hb htz tin_X4 hown hK hG (by decide) (htz _ fX4_27) (by decide) rfl dX4_drop_28 ?_
      refine lv_iload_n hx hb dX4_drop_31 rfl (lv_at hl 1 rfl) ?_
      refine mz_Nv (As := [.int _]) (rest := []) ⟨hx, hb, hml, hown, hts⟩ (qc_clear l D L hL _ _ (nz_in (by omega) h0)) (tz_N htz mX2_clear (hK.2 _ nX4_128) rfl rfl ⟨Nat.le_of_ble_eq_true rfl, Nat.le_of_ble_eq_true rfl⟩) (qrecv_9 hK hG (by decide)) qK_ok hK hG hS rfl hl.1 rfl (Nat.le_of_ble_eq_true rfl) dX4_drop_32 ⟨Nat.zero_le _, Nat.zero_le _⟩ (fun H locs hG hS => ?_)
      refine lv_iconst (v := 0) hx hb dX4_drop_35 (by decide) ?_
      exact mz_iret hx hb hr hlk qK_ok hK hS hG dX4_drop_36 (by rw [qs_drop, if_neg (not_not_intro h0), if_neg h1]) (by rw [qs_drop, if_neg (not_not_intro h0), if_neg h1])
    · refine lv_bipush (v := (-5)) hx hb dX4_drop_24 (by decide) ?_
      exact mz_iret hx hb hr hlk qK_ok hK hS hG dX4_drop_26 (by rw [qs_drop, if_neg (not_not_intro h0), if_pos h1]) (by rw [qs_drop, if_neg (not_not_intro h0), if_pos h1])
  · refine lv_iconst (v := (-1)) hx hb dX4_drop_11 (by decide) ?_
    exact mz_iret hx hb hr hlk qK_ok hK hS hG dX4_drop_12 (by rw [qs_drop, if_pos h0]) (by rw [qs_drop, if_pos h0])

set_option maxRecDepth 100000 in
set_option maxHeartbeats 4000000 in
theorem qc_duplicate (l : Launch) (D : va_G) (L : qL) (hL : qL_ok L) (u : mz_S) (x : Int32) : mz_Ci l (qG D L) (qK D L) (qA L) yX4_duplicate (tz_w yX4_duplicate cX4_duplicate 2 (some .int)) ({ frames := 2, cells := 0, slots := 0, locals := 43 } : Room) [.ref (L.1 0 0), .int x] u ((qs_duplicate (ql_S L) u x).2) ((qs_duplicate (ql_S L) u x).1) := by
  refine mz_Ci.of (cc := cX4_duplicate) (maxL := 2) (ret := (some .int)) (by decide) rfl (Nat.le_of_ble_eq_true rfl) ?_
  intro p e s m args below meth c ls hx hb hr hlk hml hown hts hl hG hK hS
  have hl : lv_has ls 2 [(0, .ref (L.1 0 0)), (1, .int x)] := hl
  have htz : ∀ w ∈ tz, w.before args s = true := fun w h => hts w (List.mem_cons_of_mem _ h)
  have hc12 : ql_c L ≤ 12 := hL.1.2.2.2.1
  have hn5 : ql_n L ≤ 5 := hL.1.2.1
  have h40 : ql_S L ≤ 40 := hL.1.2.2.2.2.2
  refine lv_aload_n hx hb dX4_duplicate_0 rfl (lv_at hl 0 rfl) ?_
  refine qg_0 (f := 1) hx hb htz tin_X4 hown hK hG (by decide) (htz _ fX4_27) (by decide) rfl dX4_duplicate_1 ?_
  refine lv_iload_n hx hb dX4_duplicate_4 rfl (lv_at hl 1 rfl) ?_
  refine mz_Ni (As := [.int _]) (rest := []) ⟨hx, hb, hml, hown, hts⟩ (qc_isSlot l D L hL _ _) (tz_N htz mX2_isSlot (hK.2 _ nX4_114) rfl rfl ⟨Nat.le_of_ble_eq_true rfl, Nat.le_of_ble_eq_true rfl⟩) (qrecv_9 hK hG (by decide)) qK_ok hK hG hS rfl hl.1 rfl (Nat.le_of_ble_eq_true rfl) dX4_duplicate_5 ⟨Nat.zero_le _, Nat.zero_le _⟩ (fun H locs hG hS => ?_)
  refine mz_ifne_b hx hb dX4_duplicate_8 (tgt := 13) rfl (fun h0 => ?_) (fun h0 => ?_)
  · refine lv_aload_n hx hb dX4_duplicate_13 rfl (lv_at hl 0 rfl) ?_
    refine qg_0 (f := 1) hx hb htz tin_X4 hown hK hG (by decide) (htz _ fX4_27) (by decide) rfl dX4_duplicate_14 ?_
    refine lv_iload_n hx hb dX4_duplicate_17 rfl (lv_at hl 1 rfl) ?_
    refine mz_Ni (As := [.int _]) (rest := []) ⟨hx, hb, hml, hown, hts⟩ (qc_isFree l D L hL _ _ (nz_in (by omega) h0)) (tz_N htz mX2_isFree (hK.2 _ nX4_117) rfl rfl ⟨Nat.le_of_ble_eq_true rfl, Nat.le_of_ble_eq_true rfl⟩) (qrecv_9 hK hG (by decide)) qK_ok hK hG hS rfl hl.1 rfl (Nat.le_of_ble_eq_true rfl) dX4_duplicate_18 ⟨Nat.zero_le _, Nat.zero_le _⟩ (fun H locs hG hS => ?_)
    refine mz_ifeq_b hx hb dX4_duplicate_21 (tgt := 27) rfl (fun h1 => ?_) (fun h1 => ?_)
    · refine lv_aload_n hx hb dX4_duplicate_27 rfl (lv_at hl 0 rfl) ?_
      refine qg_0 (f := 1) hx hb htz tin_X4 hown hK hG (by decide) (htz _ fX4_27) (by decide) rfl dX4_duplicate_28 ?_
      refine lv_aload_n hx hb dX4_duplicate_31 rfl (lv_at hl 0 rfl) ?_
      refine qg_0 (f := 1) hx hb htz tin_X4 hown hK hG (by decide) (htz _ fX4_27) (by decide) rfl dX4_duplicate_32 ?_
      refine qgN_9 (f := 0) hx hb htz tin_X2 hown hK hG (by decide) (va_Nw.use rfl (hK.2 _ nX4_120)) (by decide) rfl dX4_duplicate_35 ?_
      refine lv_iload_n hx hb dX4_duplicate_38 rfl (lv_at hl 1 rfl) ?_
      have hj : x.toNatClampNeg < ql_S L := nz_cl (nz_in (by omega) h0)
      refine qa_10 hx hb hK hG (by decide) (nz_in (by omega) h0) dX4_duplicate_39 ?_
      refine mz_Ni (As := [.ref _]) (rest := []) ⟨hx, hb, hml, hown, hts⟩ (qc_put l D L hL _ x.toNatClampNeg (by omega)) (tz_N htz mX2_put (hK.2 _ nX4_141) rfl rfl ⟨Nat.le_of_ble_eq_true rfl, Nat.le_of_ble_eq_true rfl⟩) (qrecv_9 hK hG (by decide)) qK_ok hK hG hS rfl hl.1 rfl (Nat.le_of_ble_eq_true rfl) dX4_duplicate_40 ⟨Nat.zero_le _, Nat.zero_le _⟩ (fun H locs hG hS => ?_)
      exact mz_iret hx hb hr hlk qK_ok hK hS hG dX4_duplicate_43 (by rw [qs_duplicate, if_neg (not_not_intro h0), if_neg h1]) (by rw [qs_duplicate, if_neg (not_not_intro h0), if_neg h1])
    · refine lv_bipush (v := (-5)) hx hb dX4_duplicate_24 (by decide) ?_
      exact mz_iret hx hb hr hlk qK_ok hK hS hG dX4_duplicate_26 (by rw [qs_duplicate, if_neg (not_not_intro h0), if_pos h1]) (by rw [qs_duplicate, if_neg (not_not_intro h0), if_pos h1])
  · refine lv_iconst (v := (-1)) hx hb dX4_duplicate_11 (by decide) ?_
    exact mz_iret hx hb hr hlk qK_ok hK hS hG dX4_duplicate_12 (by rw [qs_duplicate, if_pos h0]) (by rw [qs_duplicate, if_pos h0])

set_option maxRecDepth 100000 in
set_option maxHeartbeats 4000000 in
theorem qc_crash (l : Launch) (D : va_G) (L : qL) (hL : qL_ok L) (u : mz_S) (x : Int32) : mz_Ci l (qG D L) (qK D L) (qA L) yX4_crash (tz_w yX4_crash cX4_crash 3 (some .int)) ({ frames := 1, cells := 0, slots := 0, locals := 21 } : Room) [.ref (L.1 0 0), .int x] u ((qs_crash (ql_n L) u x).2) ((qs_crash (ql_n L) u x).1) := by
  refine mz_Ci.of (cc := cX4_crash) (maxL := 3) (ret := (some .int)) (by decide) rfl (Nat.le_of_ble_eq_true rfl) ?_
  intro p e s m args below meth c ls hx hb hr hlk hml hown hts hl hG hK hS
  have hl : lv_has ls 3 [(0, .ref (L.1 0 0)), (1, .int x)] := hl
  have htz : ∀ w ∈ tz, w.before args s = true := fun w h => hts w (List.mem_cons_of_mem _ h)
  have hc12 : ql_c L ≤ 12 := hL.1.2.2.2.1
  have hn5 : ql_n L ≤ 5 := hL.1.2.1
  have h40 : ql_S L ≤ 40 := hL.1.2.2.2.2.2
  refine lv_aload_n hx hb dX4_crash_0 rfl (lv_at hl 0 rfl) ?_
  refine lv_iload_n hx hb dX4_crash_1 rfl (lv_at hl 1 rfl) ?_
  refine mz_Vi (As := [.int _]) (rest := []) ⟨hx, hb, hml, hown, hts⟩ (qc_isNode l D L hL _ _) (tz_V htz mX4_isNode lX4_41 rfl rfl ⟨Nat.le_of_ble_eq_true rfl, Nat.le_of_ble_eq_true rfl⟩) (qrecv_0 hK hG (by decide)) qK_ok hK hG hS rfl hl.1 rfl (Nat.le_of_ble_eq_true rfl) dX4_crash_2 ⟨Nat.zero_le _, Nat.zero_le _⟩ (fun H locs hG hS => ?_)
  refine mz_ifne_b hx hb dX4_crash_5 (tgt := 10) rfl (fun h0 => ?_) (fun h0 => ?_)
  · refine lv_aload_n hx hb dX4_crash_10 rfl (lv_at hl 0 rfl) ?_
    refine qg_0 (f := 0) hx hb htz tin_X4 hown hK hG (by decide) (htz _ fX4_15) (by decide) rfl dX4_crash_11 ?_
    refine lv_iload_n hx hb dX4_crash_14 rfl (lv_at hl 1 rfl) ?_
    have hi : x.toNatClampNeg < ql_n L := nz_cl (nz_in (by omega) h0)
    refine qa_1 hx hb hK hG (by decide) (nz_in (by omega) h0) dX4_crash_15 ?_
    refine lv_astore_n hx hb dX4_crash_16 rfl hl (by decide) rfl (fun ls hl => ?_)
    have hl : lv_has ls 3 [(2, .ref _), (0, .ref _), (1, .int _)] := hl
    refine lv_aload_n hx hb dX4_crash_17 rfl (lv_at hl 0 rfl) ?_
    refine qgN_2 (f := 1) hx hb htz tin_X3 hown hK hG hi (va_Nw.use rfl (hK.2 _ nX4_45)) (by decide) rfl dX4_crash_18 ?_
    refine mz_ifne_b hx hb dX4_crash_21 (tgt := 27) rfl (fun h1 => ?_) (fun h1 => ?_)
    · refine lv_aload_n hx hb dX4_crash_27 rfl (lv_at hl 0 rfl) ?_
      refine lv_iconst (v := 0) hx hb dX4_crash_28 (by decide) ?_
      refine qpN_2_1 hx hb htz tin_X3 hown hL hK hG hS hi (va_Nw.use rfl (hK.2 _ nX4_45)) (by decide) dX4_crash_29 (fun H locs hG hS => ?_)
      refine lv_aload_n hx hb dX4_crash_32 rfl (lv_at hl 0 rfl) ?_
      refine lv_iconst (v := 0) hx hb dX4_crash_33 (by decide) ?_
      refine qpN_2_2 hx hb htz tin_X3 hown hL hK hG hS hi (va_Nw.use rfl (hK.2 _ nX4_49)) dX4_crash_34 (fun H locs hG hS => ?_)
      refine lv_iconst (v := 0) hx hb dX4_crash_37 (by decide) ?_
      exact mz_iret hx hb hr hlk qK_ok hK hS hG dX4_crash_38 (by rw [qs_crash, if_neg (not_not_intro h0), if_neg h1]) (by rw [qs_crash, if_neg (not_not_intro h0), if_neg h1])
    · refine lv_bipush (v := (-2)) hx hb dX4_crash_24 (by decide) ?_
      exact mz_iret hx hb hr hlk qK_ok hK hS hG dX4_crash_26 (by rw [qs_crash, if_neg (not_not_intro h0), if_pos (Decidable.not_not.mp h1)]) (by rw [qs_crash, if_neg (not_not_intro h0), if_pos (Decidable.not_not.mp h1)])
  · refine lv_iconst (v := (-1)) hx hb dX4_crash_8 (by decide) ?_
    exact mz_iret hx hb hr hlk qK_ok hK hS hG dX4_crash_9 (by rw [qs_crash, if_pos h0]) (by rw [qs_crash, if_pos h0])

set_option maxRecDepth 100000 in
set_option maxHeartbeats 4000000 in
theorem qc_restart (l : Launch) (D : va_G) (L : qL) (hL : qL_ok L) (u : mz_S) (x : Int32) : mz_Ci l (qG D L) (qK D L) (qA L) yX4_restart (tz_w yX4_restart cX4_restart 3 (some .int)) ({ frames := 1, cells := 0, slots := 0, locals := 21 } : Room) [.ref (L.1 0 0), .int x] u ((qs_restart (ql_n L) u x).2) ((qs_restart (ql_n L) u x).1) := by
  refine mz_Ci.of (cc := cX4_restart) (maxL := 3) (ret := (some .int)) (by decide) rfl (Nat.le_of_ble_eq_true rfl) ?_
  intro p e s m args below meth c ls hx hb hr hlk hml hown hts hl hG hK hS
  have hl : lv_has ls 3 [(0, .ref (L.1 0 0)), (1, .int x)] := hl
  have htz : ∀ w ∈ tz, w.before args s = true := fun w h => hts w (List.mem_cons_of_mem _ h)
  have hc12 : ql_c L ≤ 12 := hL.1.2.2.2.1
  have hn5 : ql_n L ≤ 5 := hL.1.2.1
  have h40 : ql_S L ≤ 40 := hL.1.2.2.2.2.2
  refine lv_aload_n hx hb dX4_restart_0 rfl (lv_at hl 0 rfl) ?_
  refine lv_iload_n hx hb dX4_restart_1 rfl (lv_at hl 1 rfl) ?_
  refine mz_Vi (As := [.int _]) (rest := []) ⟨hx, hb, hml, hown, hts⟩ (qc_isNode l D L hL _ _) (tz_V htz mX4_isNode lX4_41 rfl rfl ⟨Nat.le_of_ble_eq_true rfl, Nat.le_of_ble_eq_true rfl⟩) (qrecv_0 hK hG (by decide)) qK_ok hK hG hS rfl hl.1 rfl (Nat.le_of_ble_eq_true rfl) dX4_restart_2 ⟨Nat.zero_le _, Nat.zero_le _⟩ (fun H locs hG hS => ?_)
  refine mz_ifne_b hx hb dX4_restart_5 (tgt := 10) rfl (fun h0 => ?_) (fun h0 => ?_)
  · refine lv_aload_n hx hb dX4_restart_10 rfl (lv_at hl 0 rfl) ?_
    refine qg_0 (f := 0) hx hb htz tin_X4 hown hK hG (by decide) (htz _ fX4_15) (by decide) rfl dX4_restart_11 ?_
    refine lv_iload_n hx hb dX4_restart_14 rfl (lv_at hl 1 rfl) ?_
    have hi : x.toNatClampNeg < ql_n L := nz_cl (nz_in (by omega) h0)
    refine qa_1 hx hb hK hG (by decide) (nz_in (by omega) h0) dX4_restart_15 ?_
    refine lv_astore_n hx hb dX4_restart_16 rfl hl (by decide) rfl (fun ls hl => ?_)
    have hl : lv_has ls 3 [(2, .ref _), (0, .ref _), (1, .int _)] := hl
    refine lv_aload_n hx hb dX4_restart_17 rfl (lv_at hl 0 rfl) ?_
    refine qgN_2 (f := 1) hx hb htz tin_X3 hown hK hG hi (va_Nw.use rfl (hK.2 _ nX4_45)) (by decide) rfl dX4_restart_18 ?_
    refine mz_ifeq_b hx hb dX4_restart_21 (tgt := 27) rfl (fun h1 => ?_) (fun h1 => ?_)
    · refine lv_aload_n hx hb dX4_restart_27 rfl (lv_at hl 0 rfl) ?_
      refine lv_iconst (v := 1) hx hb dX4_restart_28 (by decide) ?_
      refine qpN_2_1 hx hb htz tin_X3 hown hL hK hG hS hi (va_Nw.use rfl (hK.2 _ nX4_45)) (by decide) dX4_restart_29 (fun H locs hG hS => ?_)
      refine lv_aload_n hx hb dX4_restart_32 rfl (lv_at hl 0 rfl) ?_
      refine lv_iconst (v := 0) hx hb dX4_restart_33 (by decide) ?_
      refine qpN_2_2 hx hb htz tin_X3 hown hL hK hG hS hi (va_Nw.use rfl (hK.2 _ nX4_49)) dX4_restart_34 (fun H locs hG hS => ?_)
      refine lv_aload_n hx hb dX4_restart_37 rfl (lv_at hl 0 rfl) ?_
      refine lv_aload_n hx hb dX4_restart_38 rfl (lv_at hl 0 rfl) ?_
      refine qgN_2 (f := 6) hx hb htz tin_X3 hown hK hG hi (va_Nw.use rfl (hK.2 _ nX4_72)) (by decide) rfl dX4_restart_39 ?_
      refine qgN_3 (f := 0) (v := .int (u 3 x.toNatClampNeg 0)) hx hb htz tin_X0 hown hK hG hi (va_Nw.use rfl (hK.2 _ nX4_76)) (by decide) (by simp [qf3, mz_at]) dX4_restart_42 ?_
      refine qpN_2_5 hx hb htz tin_X3 hown hL hK hG hS hi (va_Nw.use rfl (hK.2 _ nX4_101)) dX4_restart_45 (fun H locs hG hS => ?_)
      refine lv_iconst (v := 0) hx hb dX4_restart_48 (by decide) ?_
      exact mz_iret hx hb hr hlk qK_ok hK hS hG dX4_restart_49 (by rw [qs_restart, if_neg (not_not_intro h0), if_neg h1]) (by rw [qs_restart, if_neg (not_not_intro h0), if_neg h1])
    · refine lv_bipush (v := (-2)) hx hb dX4_restart_24 (by decide) ?_
      exact mz_iret hx hb hr hlk qK_ok hK hS hG dX4_restart_26 (by rw [qs_restart, if_neg (not_not_intro h0), if_pos h1]) (by rw [qs_restart, if_neg (not_not_intro h0), if_pos h1])
  · refine lv_iconst (v := (-1)) hx hb dX4_restart_8 (by decide) ?_
    exact mz_iret hx hb hr hlk qK_ok hK hS hG dX4_restart_9 (by rw [qs_restart, if_pos h0]) (by rw [qs_restart, if_pos h0])
end
section
set_option maxRecDepth 100000 in
set_option maxHeartbeats 4000000 in
theorem qc_role (l : Launch) (D : va_G) (L : qL) (hL : qL_ok L) (u : mz_S) (x : Int32) : mz_Ci l (qG D L) (qK D L) (qA L) yX4_role (tz_w yX4_role cX4_role 3 (some .int)) ({ frames := 1, cells := 0, slots := 0, locals := 21 } : Room) [.ref (L.1 0 0), .int x] u (qs_role (ql_n L) u x) (u) := by
  refine mz_Ci.of (cc := cX4_role) (maxL := 3) (ret := (some .int)) (by decide) rfl (Nat.le_of_ble_eq_true rfl) ?_
  intro p e s m args below meth c ls hx hb hr hlk hml hown hts hl hG hK hS
  have hl : lv_has ls 3 [(0, .ref (L.1 0 0)), (1, .int x)] := hl
  have htz : ∀ w ∈ tz, w.before args s = true := fun w h => hts w (List.mem_cons_of_mem _ h)
  have hc12 : ql_c L ≤ 12 := hL.1.2.2.2.1
  have hn5 : ql_n L ≤ 5 := hL.1.2.1
  have h40 : ql_S L ≤ 40 := hL.1.2.2.2.2.2
  refine lv_aload_n hx hb dX4_role_0 rfl (lv_at hl 0 rfl) ?_
  refine lv_iload_n hx hb dX4_role_1 rfl (lv_at hl 1 rfl) ?_
  refine mz_Vi (As := [.int _]) (rest := []) ⟨hx, hb, hml, hown, hts⟩ (qc_isNode l D L hL _ _) (tz_V htz mX4_isNode lX4_41 rfl rfl ⟨Nat.le_of_ble_eq_true rfl, Nat.le_of_ble_eq_true rfl⟩) (qrecv_0 hK hG (by decide)) qK_ok hK hG hS rfl hl.1 rfl (Nat.le_of_ble_eq_true rfl) dX4_role_2 ⟨Nat.zero_le _, Nat.zero_le _⟩ (fun H locs hG hS => ?_)
  refine mz_ifne_b hx hb dX4_role_5 (tgt := 10) rfl (fun h0 => ?_) (fun h0 => ?_)
  · refine lv_aload_n hx hb dX4_role_10 rfl (lv_at hl 0 rfl) ?_
    refine qg_0 (f := 0) hx hb htz tin_X4 hown hK hG (by decide) (htz _ fX4_15) (by decide) rfl dX4_role_11 ?_
    refine lv_iload_n hx hb dX4_role_14 rfl (lv_at hl 1 rfl) ?_
    refine qa_1 hx hb hK hG (by decide) (nz_in (by omega) h0) dX4_role_15 ?_
    refine lv_astore_n hx hb dX4_role_16 rfl hl (by decide) rfl (fun ls hl => ?_)
    have hl : lv_has ls 3 [(2, .ref _), (0, .ref _), (1, .int _)] := hl
    refine lv_aload_n hx hb dX4_role_17 rfl (lv_at hl 0 rfl) ?_
    refine qgN_2 (f := 1) hx hb htz tin_X3 hown hK hG (nz_cl (nz_in (by omega) h0)) (va_Nw.use rfl (hK.2 _ nX4_45)) (by decide) rfl dX4_role_18 ?_
    refine mz_ifeq_b hx hb dX4_role_21 (tgt := 33) rfl (fun h1 => ?_) (fun h1 => ?_)
    · refine lv_aload_n hx hb dX4_role_33 rfl (lv_at hl 0 rfl) ?_
      refine qgN_2 (f := 2) hx hb htz tin_X3 hown hK hG (nz_cl (nz_in (by omega) h0)) (va_Nw.use rfl (hK.2 _ nX4_49)) (by decide) rfl dX4_role_34 ?_
      exact mz_iret hx hb hr hlk qK_ok hK hS hG dX4_role_37 (by unfold qs_role; first | rw [if_pos h0] | rw [if_neg (not_not_intro h0), if_pos (Decidable.not_not.mp h1)] | rw [if_neg (not_not_intro h0), if_neg h1]) rfl
    · refine lv_aload_n hx hb dX4_role_24 rfl (lv_at hl 0 rfl) ?_
      refine qgN_2 (f := 2) hx hb htz tin_X3 hown hK hG (nz_cl (nz_in (by omega) h0)) (va_Nw.use rfl (hK.2 _ nX4_49)) (by decide) rfl dX4_role_25 ?_
      refine lv_iconst (v := 4) hx hb dX4_role_28 (by decide) ?_
      refine lv_iadd hx hb dX4_role_29 ?_
      refine lv_goto hx hb dX4_role_30 (tgt := 37) rfl ?_
      exact mz_iret hx hb hr hlk qK_ok hK hS hG dX4_role_37 (by unfold qs_role; first | rw [if_pos h0] | rw [if_neg (not_not_intro h0), if_pos (Decidable.not_not.mp h1)] | rw [if_neg (not_not_intro h0), if_neg h1]) rfl
  · refine lv_iconst (v := (-1)) hx hb dX4_role_8 (by decide) ?_
    exact mz_iret hx hb hr hlk qK_ok hK hS hG dX4_role_9 (by unfold qs_role; first | rw [if_pos h0] | rw [if_neg (not_not_intro h0), if_pos (Decidable.not_not.mp h1)] | rw [if_neg (not_not_intro h0), if_neg h1]) rfl

set_option maxRecDepth 100000 in
set_option maxHeartbeats 4000000 in
theorem qc_term (l : Launch) (D : va_G) (L : qL) (hL : qL_ok L) (u : mz_S) (x : Int32) : mz_Ci l (qG D L) (qK D L) (qA L) yX4_term (tz_w yX4_term cX4_term 2 (some .int)) ({ frames := 1, cells := 0, slots := 0, locals := 21 } : Room) [.ref (L.1 0 0), .int x] u (qs_termQ (ql_n L) u x) (u) := by
  refine mz_Ci.of (cc := cX4_term) (maxL := 2) (ret := (some .int)) (by decide) rfl (Nat.le_of_ble_eq_true rfl) ?_
  intro p e s m args below meth c ls hx hb hr hlk hml hown hts hl hG hK hS
  have hl : lv_has ls 2 [(0, .ref (L.1 0 0)), (1, .int x)] := hl
  have htz : ∀ w ∈ tz, w.before args s = true := fun w h => hts w (List.mem_cons_of_mem _ h)
  have hc12 : ql_c L ≤ 12 := hL.1.2.2.2.1
  have hn5 : ql_n L ≤ 5 := hL.1.2.1
  have h40 : ql_S L ≤ 40 := hL.1.2.2.2.2.2
  refine lv_aload_n hx hb dX4_term_0 rfl (lv_at hl 0 rfl) ?_
  refine lv_iload_n hx hb dX4_term_1 rfl (lv_at hl 1 rfl) ?_
  refine mz_Vi (As := [.int _]) (rest := []) ⟨hx, hb, hml, hown, hts⟩ (qc_isNode l D L hL _ _) (tz_V htz mX4_isNode lX4_41 rfl rfl ⟨Nat.le_of_ble_eq_true rfl, Nat.le_of_ble_eq_true rfl⟩) (qrecv_0 hK hG (by decide)) qK_ok hK hG hS rfl hl.1 rfl (Nat.le_of_ble_eq_true rfl) dX4_term_2 ⟨Nat.zero_le _, Nat.zero_le _⟩ (fun H locs hG hS => ?_)
  refine mz_ifeq_b hx hb dX4_term_5 (tgt := 20) rfl (fun h0 => ?_) (fun h0 => ?_)
  · refine lv_iconst (v := (-1)) hx hb dX4_term_20 (by decide) ?_
    exact mz_iret hx hb hr hlk qK_ok hK hS hG dX4_term_21 (by unfold qs_termQ; first | rw [if_pos h0] | rw [if_neg h0]) rfl
  · refine lv_aload_n hx hb dX4_term_8 rfl (lv_at hl 0 rfl) ?_
    refine qg_0 (f := 0) hx hb htz tin_X4 hown hK hG (by decide) (htz _ fX4_15) (by decide) rfl dX4_term_9 ?_
    refine lv_iload_n hx hb dX4_term_12 rfl (lv_at hl 1 rfl) ?_
    refine qa_1 hx hb hK hG (by decide) (nz_in (by omega) h0) dX4_term_13 ?_
    refine qgN_2 (f := 3) hx hb htz tin_X3 hown hK hG (nz_cl (nz_in (by omega) h0)) (va_Nw.use rfl (hK.2 _ nX4_91)) (by decide) rfl dX4_term_14 ?_
    refine lv_goto hx hb dX4_term_17 (tgt := 21) rfl ?_
    exact mz_iret hx hb hr hlk qK_ok hK hS hG dX4_term_21 (by unfold qs_termQ; first | rw [if_pos h0] | rw [if_neg h0]) rfl

set_option maxRecDepth 100000 in
set_option maxHeartbeats 4000000 in
theorem qc_vote (l : Launch) (D : va_G) (L : qL) (hL : qL_ok L) (u : mz_S) (x : Int32) : mz_Ci l (qG D L) (qK D L) (qA L) yX4_vote (tz_w yX4_vote cX4_vote 2 (some .int)) ({ frames := 1, cells := 0, slots := 0, locals := 21 } : Room) [.ref (L.1 0 0), .int x] u (qs_vote (ql_n L) u x) (u) := by
  refine mz_Ci.of (cc := cX4_vote) (maxL := 2) (ret := (some .int)) (by decide) rfl (Nat.le_of_ble_eq_true rfl) ?_
  intro p e s m args below meth c ls hx hb hr hlk hml hown hts hl hG hK hS
  have hl : lv_has ls 2 [(0, .ref (L.1 0 0)), (1, .int x)] := hl
  have htz : ∀ w ∈ tz, w.before args s = true := fun w h => hts w (List.mem_cons_of_mem _ h)
  have hc12 : ql_c L ≤ 12 := hL.1.2.2.2.1
  have hn5 : ql_n L ≤ 5 := hL.1.2.1
  have h40 : ql_S L ≤ 40 := hL.1.2.2.2.2.2
  refine lv_aload_n hx hb dX4_vote_0 rfl (lv_at hl 0 rfl) ?_
  refine lv_iload_n hx hb dX4_vote_1 rfl (lv_at hl 1 rfl) ?_
  refine mz_Vi (As := [.int _]) (rest := []) ⟨hx, hb, hml, hown, hts⟩ (qc_isNode l D L hL _ _) (tz_V htz mX4_isNode lX4_41 rfl rfl ⟨Nat.le_of_ble_eq_true rfl, Nat.le_of_ble_eq_true rfl⟩) (qrecv_0 hK hG (by decide)) qK_ok hK hG hS rfl hl.1 rfl (Nat.le_of_ble_eq_true rfl) dX4_vote_2 ⟨Nat.zero_le _, Nat.zero_le _⟩ (fun H locs hG hS => ?_)
  refine mz_ifeq_b hx hb dX4_vote_5 (tgt := 21) rfl (fun h0 => ?_) (fun h0 => ?_)
  · refine lv_iconst (v := (-1)) hx hb dX4_vote_21 (by decide) ?_
    exact mz_iret hx hb hr hlk qK_ok hK hS hG dX4_vote_22 (by unfold qs_vote; first | rw [if_pos h0] | rw [if_neg (not_not_intro h0), if_pos h1] | rw [if_neg (not_not_intro h0), if_neg h1]) rfl
  · refine lv_aload_n hx hb dX4_vote_8 rfl (lv_at hl 0 rfl) ?_
    refine qg_0 (f := 0) hx hb htz tin_X4 hown hK hG (by decide) (htz _ fX4_15) (by decide) rfl dX4_vote_9 ?_
    refine lv_iload_n hx hb dX4_vote_12 rfl (lv_at hl 1 rfl) ?_
    refine qa_1 hx hb hK hG (by decide) (nz_in (by omega) h0) dX4_vote_13 ?_
    refine qgN_2 (f := 4) hx hb htz tin_X3 hown hK hG (nz_cl (nz_in (by omega) h0)) (va_Nw.use rfl (hK.2 _ nX4_145)) (by decide) rfl dX4_vote_14 ?_
    refine lv_iconst (v := (-1)) hx hb dX4_vote_17 (by decide) ?_
    refine lv_icmp_ne hx hb dX4_vote_18 (tgt := 23) rfl (fun h1 => ?_) (fun h1 => ?_)
    · refine lv_aload_n hx hb dX4_vote_23 rfl (lv_at hl 0 rfl) ?_
      refine qg_0 (f := 0) hx hb htz tin_X4 hown hK hG (by decide) (htz _ fX4_15) (by decide) rfl dX4_vote_24 ?_
      refine lv_iload_n hx hb dX4_vote_27 rfl (lv_at hl 1 rfl) ?_
      refine qa_1 hx hb hK hG (by decide) (nz_in (by omega) h0) dX4_vote_28 ?_
      refine qgN_2 (f := 4) hx hb htz tin_X3 hown hK hG (nz_cl (nz_in (by omega) h0)) (va_Nw.use rfl (hK.2 _ nX4_145)) (by decide) rfl dX4_vote_29 ?_
      exact mz_iret hx hb hr hlk qK_ok hK hS hG dX4_vote_32 (by unfold qs_vote; first | rw [if_pos h0] | rw [if_neg (not_not_intro h0), if_pos h1] | rw [if_neg (not_not_intro h0), if_neg h1]) rfl
    · refine lv_iconst (v := (-1)) hx hb dX4_vote_21 (by decide) ?_
      exact mz_iret hx hb hr hlk qK_ok hK hS hG dX4_vote_22 (by unfold qs_vote; first | rw [if_pos h0] | rw [if_neg (not_not_intro h0), if_pos h1] | rw [if_neg (not_not_intro h0), if_neg h1]) rfl

set_option maxRecDepth 100000 in
set_option maxHeartbeats 4000000 in
theorem qc_base (l : Launch) (D : va_G) (L : qL) (hL : qL_ok L) (u : mz_S) (x : Int32) : mz_Ci l (qG D L) (qK D L) (qA L) yX4_base (tz_w yX4_base cX4_base 2 (some .int)) ({ frames := 1, cells := 0, slots := 0, locals := 21 } : Room) [.ref (L.1 0 0), .int x] u (qs_base (ql_n L) u x) (u) := by
  refine mz_Ci.of (cc := cX4_base) (maxL := 2) (ret := (some .int)) (by decide) rfl (Nat.le_of_ble_eq_true rfl) ?_
  intro p e s m args below meth c ls hx hb hr hlk hml hown hts hl hG hK hS
  have hl : lv_has ls 2 [(0, .ref (L.1 0 0)), (1, .int x)] := hl
  have htz : ∀ w ∈ tz, w.before args s = true := fun w h => hts w (List.mem_cons_of_mem _ h)
  have hc12 : ql_c L ≤ 12 := hL.1.2.2.2.1
  have hn5 : ql_n L ≤ 5 := hL.1.2.1
  have h40 : ql_S L ≤ 40 := hL.1.2.2.2.2.2
  refine lv_aload_n hx hb dX4_base_0 rfl (lv_at hl 0 rfl) ?_
  refine lv_iload_n hx hb dX4_base_1 rfl (lv_at hl 1 rfl) ?_
  refine mz_Vi (As := [.int _]) (rest := []) ⟨hx, hb, hml, hown, hts⟩ (qc_isNode l D L hL _ _) (tz_V htz mX4_isNode lX4_41 rfl rfl ⟨Nat.le_of_ble_eq_true rfl, Nat.le_of_ble_eq_true rfl⟩) (qrecv_0 hK hG (by decide)) qK_ok hK hG hS rfl hl.1 rfl (Nat.le_of_ble_eq_true rfl) dX4_base_2 ⟨Nat.zero_le _, Nat.zero_le _⟩ (fun H locs hG hS => ?_)
  refine mz_ifeq_b hx hb dX4_base_5 (tgt := 23) rfl (fun h0 => ?_) (fun h0 => ?_)
  · refine lv_iconst (v := (-1)) hx hb dX4_base_23 (by decide) ?_
    exact mz_iret hx hb hr hlk qK_ok hK hS hG dX4_base_24 (by unfold qs_base; first | rw [if_pos h0] | rw [if_neg h0]) rfl
  · refine lv_aload_n hx hb dX4_base_8 rfl (lv_at hl 0 rfl) ?_
    refine qg_0 (f := 0) hx hb htz tin_X4 hown hK hG (by decide) (htz _ fX4_15) (by decide) rfl dX4_base_9 ?_
    refine lv_iload_n hx hb dX4_base_12 rfl (lv_at hl 1 rfl) ?_
    refine qa_1 hx hb hK hG (by decide) (nz_in (by omega) h0) dX4_base_13 ?_
    refine qgN_2 (f := 6) hx hb htz tin_X3 hown hK hG (nz_cl (nz_in (by omega) h0)) (va_Nw.use rfl (hK.2 _ nX4_72)) (by decide) rfl dX4_base_14 ?_
    refine qgN_3 (f := 0) hx hb htz tin_X0 hown hK hG (nz_cl (nz_in (by omega) h0)) (va_Nw.use rfl (hK.2 _ nX4_76)) (by decide) rfl dX4_base_17 ?_
    refine lv_goto hx hb dX4_base_20 (tgt := 24) rfl ?_
    exact mz_iret hx hb hr hlk qK_ok hK hS hG dX4_base_24 (by unfold qs_base; first | rw [if_pos h0] | rw [if_neg h0]) rfl

set_option maxRecDepth 100000 in
set_option maxHeartbeats 4000000 in
theorem qc_last (l : Launch) (D : va_G) (L : qL) (hL : qL_ok L) (u : mz_S) (x : Int32) : mz_Ci l (qG D L) (qK D L) (qA L) yX4_last (tz_w yX4_last cX4_last 2 (some .int)) ({ frames := 1, cells := 0, slots := 0, locals := 21 } : Room) [.ref (L.1 0 0), .int x] u (qs_lastQ (ql_n L) u x) (u) := by
  refine mz_Ci.of (cc := cX4_last) (maxL := 2) (ret := (some .int)) (by decide) rfl (Nat.le_of_ble_eq_true rfl) ?_
  intro p e s m args below meth c ls hx hb hr hlk hml hown hts hl hG hK hS
  have hl : lv_has ls 2 [(0, .ref (L.1 0 0)), (1, .int x)] := hl
  have htz : ∀ w ∈ tz, w.before args s = true := fun w h => hts w (List.mem_cons_of_mem _ h)
  have hc12 : ql_c L ≤ 12 := hL.1.2.2.2.1
  have hn5 : ql_n L ≤ 5 := hL.1.2.1
  have h40 : ql_S L ≤ 40 := hL.1.2.2.2.2.2
  refine lv_aload_n hx hb dX4_last_0 rfl (lv_at hl 0 rfl) ?_
  refine lv_iload_n hx hb dX4_last_1 rfl (lv_at hl 1 rfl) ?_
  refine mz_Vi (As := [.int _]) (rest := []) ⟨hx, hb, hml, hown, hts⟩ (qc_isNode l D L hL _ _) (tz_V htz mX4_isNode lX4_41 rfl rfl ⟨Nat.le_of_ble_eq_true rfl, Nat.le_of_ble_eq_true rfl⟩) (qrecv_0 hK hG (by decide)) qK_ok hK hG hS rfl hl.1 rfl (Nat.le_of_ble_eq_true rfl) dX4_last_2 ⟨Nat.zero_le _, Nat.zero_le _⟩ (fun H locs hG hS => ?_)
  refine mz_ifeq_b hx hb dX4_last_5 (tgt := 23) rfl (fun h0 => ?_) (fun h0 => ?_)
  · refine lv_iconst (v := (-1)) hx hb dX4_last_23 (by decide) ?_
    exact mz_iret hx hb hr hlk qK_ok hK hS hG dX4_last_24 (by unfold qs_lastQ; first | rw [if_pos h0] | rw [if_neg h0]) rfl
  · refine lv_aload_n hx hb dX4_last_8 rfl (lv_at hl 0 rfl) ?_
    refine qg_0 (f := 0) hx hb htz tin_X4 hown hK hG (by decide) (htz _ fX4_15) (by decide) rfl dX4_last_9 ?_
    refine lv_iload_n hx hb dX4_last_12 rfl (lv_at hl 1 rfl) ?_
    refine qa_1 hx hb hK hG (by decide) (nz_in (by omega) h0) dX4_last_13 ?_
    refine qgN_2 (f := 6) hx hb htz tin_X3 hown hK hG (nz_cl (nz_in (by omega) h0)) (va_Nw.use rfl (hK.2 _ nX4_72)) (by decide) rfl dX4_last_14 ?_
    refine mz_Ni (As := []) (rest := []) ⟨hx, hb, hml, hown, hts⟩ (qc_lastNumber l D L hL _ _ (nz_cl (nz_in (by omega) h0))) (tz_N htz mX0_lastNumber (hK.2 _ nX4_98) rfl rfl ⟨Nat.le_of_ble_eq_true rfl, Nat.le_of_ble_eq_true rfl⟩) (qrecv_3 hK hG (nz_cl (nz_in (by omega) h0))) qK_ok hK hG hS rfl hl.1 rfl (Nat.le_of_ble_eq_true rfl) dX4_last_17 ⟨Nat.zero_le _, Nat.zero_le _⟩ (fun H locs hG hS => ?_)
    refine lv_goto hx hb dX4_last_20 (tgt := 24) rfl ?_
    exact mz_iret hx hb hr hlk qK_ok hK hS hG dX4_last_24 (by unfold qs_lastQ; first | rw [if_pos h0] | rw [if_neg h0]) rfl

set_option maxRecDepth 100000 in
set_option maxHeartbeats 4000000 in
theorem qc_commit (l : Launch) (D : va_G) (L : qL) (hL : qL_ok L) (u : mz_S) (x : Int32) : mz_Ci l (qG D L) (qK D L) (qA L) yX4_commit (tz_w yX4_commit cX4_commit 2 (some .int)) ({ frames := 1, cells := 0, slots := 0, locals := 21 } : Room) [.ref (L.1 0 0), .int x] u (qs_commit (ql_n L) u x) (u) := by
  refine mz_Ci.of (cc := cX4_commit) (maxL := 2) (ret := (some .int)) (by decide) rfl (Nat.le_of_ble_eq_true rfl) ?_
  intro p e s m args below meth c ls hx hb hr hlk hml hown hts hl hG hK hS
  have hl : lv_has ls 2 [(0, .ref (L.1 0 0)), (1, .int x)] := hl
  have htz : ∀ w ∈ tz, w.before args s = true := fun w h => hts w (List.mem_cons_of_mem _ h)
  have hc12 : ql_c L ≤ 12 := hL.1.2.2.2.1
  have hn5 : ql_n L ≤ 5 := hL.1.2.1
  have h40 : ql_S L ≤ 40 := hL.1.2.2.2.2.2
  refine lv_aload_n hx hb dX4_commit_0 rfl (lv_at hl 0 rfl) ?_
  refine lv_iload_n hx hb dX4_commit_1 rfl (lv_at hl 1 rfl) ?_
  refine mz_Vi (As := [.int _]) (rest := []) ⟨hx, hb, hml, hown, hts⟩ (qc_isNode l D L hL _ _) (tz_V htz mX4_isNode lX4_41 rfl rfl ⟨Nat.le_of_ble_eq_true rfl, Nat.le_of_ble_eq_true rfl⟩) (qrecv_0 hK hG (by decide)) qK_ok hK hG hS rfl hl.1 rfl (Nat.le_of_ble_eq_true rfl) dX4_commit_2 ⟨Nat.zero_le _, Nat.zero_le _⟩ (fun H locs hG hS => ?_)
  refine mz_ifeq_b hx hb dX4_commit_5 (tgt := 20) rfl (fun h0 => ?_) (fun h0 => ?_)
  · refine lv_iconst (v := (-1)) hx hb dX4_commit_20 (by decide) ?_
    exact mz_iret hx hb hr hlk qK_ok hK hS hG dX4_commit_21 (by unfold qs_commit; first | rw [if_pos h0] | rw [if_neg h0]) rfl
  · refine lv_aload_n hx hb dX4_commit_8 rfl (lv_at hl 0 rfl) ?_
    refine qg_0 (f := 0) hx hb htz tin_X4 hown hK hG (by decide) (htz _ fX4_15) (by decide) rfl dX4_commit_9 ?_
    refine lv_iload_n hx hb dX4_commit_12 rfl (lv_at hl 1 rfl) ?_
    refine qa_1 hx hb hK hG (by decide) (nz_in (by omega) h0) dX4_commit_13 ?_
    refine qgN_2 (f := 5) hx hb htz tin_X3 hown hK hG (nz_cl (nz_in (by omega) h0)) (va_Nw.use rfl (hK.2 _ nX4_101)) (by decide) rfl dX4_commit_14 ?_
    refine lv_goto hx hb dX4_commit_17 (tgt := 21) rfl ?_
    exact mz_iret hx hb hr hlk qK_ok hK hS hG dX4_commit_21 (by unfold qs_commit; first | rw [if_pos h0] | rw [if_neg h0]) rfl

set_option maxRecDepth 100000 in
set_option maxHeartbeats 4000000 in
theorem qc_termAt (l : Launch) (D : va_G) (L : qL) (hL : qL_ok L) (u : mz_S) (x y : Int32) (hw : ∀ i, i < ql_n L → qw (ql_c L) u i) : mz_Ci l (qG D L) (qK D L) (qA L) yX4_termAt (tz_w yX4_termAt cX4_termAt 3 (some .int)) ({ frames := 2, cells := 0, slots := 0, locals := 42 } : Room) [.ref (L.1 0 0), .int x, .int y] u (qs_termAt (ql_n L) u x y) (u) := by
  refine mz_Ci.of (cc := cX4_termAt) (maxL := 3) (ret := (some .int)) (by decide) rfl (Nat.le_of_ble_eq_true rfl) ?_
  intro p e s m args below meth c ls hx hb hr hlk hml hown hts hl hG hK hS
  have hl : lv_has ls 3 [(0, .ref (L.1 0 0)), (1, .int x), (2, .int y)] := hl
  have htz : ∀ w ∈ tz, w.before args s = true := fun w h => hts w (List.mem_cons_of_mem _ h)
  have hc12 : ql_c L ≤ 12 := hL.1.2.2.2.1
  have hn5 : ql_n L ≤ 5 := hL.1.2.1
  have h40 : ql_S L ≤ 40 := hL.1.2.2.2.2.2
  refine lv_aload_n hx hb dX4_termAt_0 rfl (lv_at hl 0 rfl) ?_
  refine lv_iload_n hx hb dX4_termAt_1 rfl (lv_at hl 1 rfl) ?_
  refine mz_Vi (As := [.int _]) (rest := []) ⟨hx, hb, hml, hown, hts⟩ (qc_isNode l D L hL _ _) (tz_V htz mX4_isNode lX4_41 rfl rfl ⟨Nat.le_of_ble_eq_true rfl, Nat.le_of_ble_eq_true rfl⟩) (qrecv_0 hK hG (by decide)) qK_ok hK hG hS rfl hl.1 rfl (Nat.le_of_ble_eq_true rfl) dX4_termAt_2 ⟨Nat.zero_le _, Nat.zero_le _⟩ (fun H locs hG hS => ?_)
  refine mz_ifeq_b hx hb dX4_termAt_5 (tgt := 24) rfl (fun h0 => ?_) (fun h0 => ?_)
  · refine lv_iconst (v := (-1)) hx hb dX4_termAt_24 (by decide) ?_
    exact mz_iret hx hb hr hlk qK_ok hK hS hG dX4_termAt_25 (by unfold qs_termAt; first | rw [if_pos h0] | rw [if_neg h0]) rfl
  · refine lv_aload_n hx hb dX4_termAt_8 rfl (lv_at hl 0 rfl) ?_
    refine qg_0 (f := 0) hx hb htz tin_X4 hown hK hG (by decide) (htz _ fX4_15) (by decide) rfl dX4_termAt_9 ?_
    refine lv_iload_n hx hb dX4_termAt_12 rfl (lv_at hl 1 rfl) ?_
    refine qa_1 hx hb hK hG (by decide) (nz_in (by omega) h0) dX4_termAt_13 ?_
    refine qgN_2 (f := 6) hx hb htz tin_X3 hown hK hG (nz_cl (nz_in (by omega) h0)) (va_Nw.use rfl (hK.2 _ nX4_72)) (by decide) rfl dX4_termAt_14 ?_
    refine lv_iload_n hx hb dX4_termAt_17 rfl (lv_at hl 2 rfl) ?_
    refine mz_Ni (As := [.int _]) (rest := []) ⟨hx, hb, hml, hown, hts⟩ (qc_termOf l D L hL _ _ (nz_cl (nz_in (by omega) h0)) _ (hw _ (nz_cl (nz_in (by omega) h0)))) (tz_N htz mX0_termOf (hK.2 _ nX4_104) rfl rfl ⟨Nat.le_of_ble_eq_true rfl, Nat.le_of_ble_eq_true rfl⟩) (qrecv_3 hK hG (nz_cl (nz_in (by omega) h0))) qK_ok hK hG hS rfl hl.1 rfl (Nat.le_of_ble_eq_true rfl) dX4_termAt_18 ⟨Nat.zero_le _, Nat.zero_le _⟩ (fun H locs hG hS => ?_)
    refine lv_goto hx hb dX4_termAt_21 (tgt := 25) rfl ?_
    exact mz_iret hx hb hr hlk qK_ok hK hS hG dX4_termAt_25 (by unfold qs_termAt; first | rw [if_pos h0] | rw [if_neg h0]) rfl

set_option maxRecDepth 100000 in
set_option maxHeartbeats 4000000 in
theorem qc_commandAt (l : Launch) (D : va_G) (L : qL) (hL : qL_ok L) (u : mz_S) (x y : Int32) (hw : ∀ i, i < ql_n L → qw (ql_c L) u i) : mz_Ci l (qG D L) (qK D L) (qA L) yX4_commandAt (tz_w yX4_commandAt cX4_commandAt 3 (some .int)) ({ frames := 2, cells := 0, slots := 0, locals := 42 } : Room) [.ref (L.1 0 0), .int x, .int y] u (qs_commandAt (ql_n L) u x y) (u) := by
  refine mz_Ci.of (cc := cX4_commandAt) (maxL := 3) (ret := (some .int)) (by decide) rfl (Nat.le_of_ble_eq_true rfl) ?_
  intro p e s m args below meth c ls hx hb hr hlk hml hown hts hl hG hK hS
  have hl : lv_has ls 3 [(0, .ref (L.1 0 0)), (1, .int x), (2, .int y)] := hl
  have htz : ∀ w ∈ tz, w.before args s = true := fun w h => hts w (List.mem_cons_of_mem _ h)
  have hc12 : ql_c L ≤ 12 := hL.1.2.2.2.1
  have hn5 : ql_n L ≤ 5 := hL.1.2.1
  have h40 : ql_S L ≤ 40 := hL.1.2.2.2.2.2
  refine lv_aload_n hx hb dX4_commandAt_0 rfl (lv_at hl 0 rfl) ?_
  refine lv_iload_n hx hb dX4_commandAt_1 rfl (lv_at hl 1 rfl) ?_
  refine mz_Vi (As := [.int _]) (rest := []) ⟨hx, hb, hml, hown, hts⟩ (qc_isNode l D L hL _ _) (tz_V htz mX4_isNode lX4_41 rfl rfl ⟨Nat.le_of_ble_eq_true rfl, Nat.le_of_ble_eq_true rfl⟩) (qrecv_0 hK hG (by decide)) qK_ok hK hG hS rfl hl.1 rfl (Nat.le_of_ble_eq_true rfl) dX4_commandAt_2 ⟨Nat.zero_le _, Nat.zero_le _⟩ (fun H locs hG hS => ?_)
  refine mz_ifeq_b hx hb dX4_commandAt_5 (tgt := 24) rfl (fun h0 => ?_) (fun h0 => ?_)
  · refine lv_iconst (v := 0) hx hb dX4_commandAt_24 (by decide) ?_
    exact mz_iret hx hb hr hlk qK_ok hK hS hG dX4_commandAt_25 (by unfold qs_commandAt; first | rw [if_pos h0] | rw [if_neg h0]) rfl
  · refine lv_aload_n hx hb dX4_commandAt_8 rfl (lv_at hl 0 rfl) ?_
    refine qg_0 (f := 0) hx hb htz tin_X4 hown hK hG (by decide) (htz _ fX4_15) (by decide) rfl dX4_commandAt_9 ?_
    refine lv_iload_n hx hb dX4_commandAt_12 rfl (lv_at hl 1 rfl) ?_
    refine qa_1 hx hb hK hG (by decide) (nz_in (by omega) h0) dX4_commandAt_13 ?_
    refine qgN_2 (f := 6) hx hb htz tin_X3 hown hK hG (nz_cl (nz_in (by omega) h0)) (va_Nw.use rfl (hK.2 _ nX4_72)) (by decide) rfl dX4_commandAt_14 ?_
    refine lv_iload_n hx hb dX4_commandAt_17 rfl (lv_at hl 2 rfl) ?_
    refine mz_Ni (As := [.int _]) (rest := []) ⟨hx, hb, hml, hown, hts⟩ (qc_commandOf l D L hL _ _ (nz_cl (nz_in (by omega) h0)) _ (hw _ (nz_cl (nz_in (by omega) h0)))) (tz_N htz mX0_commandOf (hK.2 _ nX4_148) rfl rfl ⟨Nat.le_of_ble_eq_true rfl, Nat.le_of_ble_eq_true rfl⟩) (qrecv_3 hK hG (nz_cl (nz_in (by omega) h0))) qK_ok hK hG hS rfl hl.1 rfl (Nat.le_of_ble_eq_true rfl) dX4_commandAt_18 ⟨Nat.zero_le _, Nat.zero_le _⟩ (fun H locs hG hS => ?_)
    refine lv_goto hx hb dX4_commandAt_21 (tgt := 25) rfl ?_
    exact mz_iret hx hb hr hlk qK_ok hK hS hG dX4_commandAt_25 (by unfold qs_commandAt; first | rw [if_pos h0] | rw [if_neg h0]) rfl

set_option maxRecDepth 100000 in
set_option maxHeartbeats 4000000 in
theorem qc_state (l : Launch) (D : va_G) (L : qL) (hL : qL_ok L) (u : mz_S) (x : Int32) (hq : ∀ i, i < ql_n L → qwc (ql_c L) u i (u 2 i 5)) : mz_Ci l (qG D L) (qK D L) (qA L) yX4_state (tz_w yX4_state cX4_state 2 (some .int)) ({ frames := 1, cells := 0, slots := 0, locals := 23 } : Room) [.ref (L.1 0 0), .int x] u (qs_stateQ (ql_n L) u x) (u) := by
  refine mz_Ci.of (cc := cX4_state) (maxL := 2) (ret := (some .int)) (by decide) rfl (Nat.le_of_ble_eq_true rfl) ?_
  intro p e s m args below meth c ls hx hb hr hlk hml hown hts hl hG hK hS
  have hl : lv_has ls 2 [(0, .ref (L.1 0 0)), (1, .int x)] := hl
  have htz : ∀ w ∈ tz, w.before args s = true := fun w h => hts w (List.mem_cons_of_mem _ h)
  have hc12 : ql_c L ≤ 12 := hL.1.2.2.2.1
  have hn5 : ql_n L ≤ 5 := hL.1.2.1
  have h40 : ql_S L ≤ 40 := hL.1.2.2.2.2.2
  refine lv_aload_n hx hb dX4_state_0 rfl (lv_at hl 0 rfl) ?_
  refine lv_iload_n hx hb dX4_state_1 rfl (lv_at hl 1 rfl) ?_
  refine mz_Vi (As := [.int _]) (rest := []) ⟨hx, hb, hml, hown, hts⟩ (qc_isNode l D L hL _ _) (tz_V htz mX4_isNode lX4_41 rfl rfl ⟨Nat.le_of_ble_eq_true rfl, Nat.le_of_ble_eq_true rfl⟩) (qrecv_0 hK hG (by decide)) qK_ok hK hG hS rfl hl.1 rfl (Nat.le_of_ble_eq_true rfl) dX4_state_2 ⟨Nat.zero_le _, Nat.zero_le _⟩ (fun H locs hG hS => ?_)
  refine mz_ifeq_b hx hb dX4_state_5 (tgt := 32) rfl (fun h0 => ?_) (fun h0 => ?_)
  · refine lv_iconst (v := 0) hx hb dX4_state_32 (by decide) ?_
    exact mz_iret hx hb hr hlk qK_ok hK hS hG dX4_state_33 (by unfold qs_stateQ; first | rw [if_pos h0] | rw [if_neg h0]) rfl
  · refine lv_aload_n hx hb dX4_state_8 rfl (lv_at hl 0 rfl) ?_
    refine qg_0 (f := 0) hx hb htz tin_X4 hown hK hG (by decide) (htz _ fX4_15) (by decide) rfl dX4_state_9 ?_
    refine lv_iload_n hx hb dX4_state_12 rfl (lv_at hl 1 rfl) ?_
    refine qa_1 hx hb hK hG (by decide) (nz_in (by omega) h0) dX4_state_13 ?_
    refine qgN_2 (f := 6) hx hb htz tin_X3 hown hK hG (nz_cl (nz_in (by omega) h0)) (va_Nw.use rfl (hK.2 _ nX4_72)) (by decide) rfl dX4_state_14 ?_
    refine lv_aload_n hx hb dX4_state_17 rfl (lv_at hl 0 rfl) ?_
    refine qg_0 (f := 0) hx hb htz tin_X4 hown hK hG (by decide) (htz _ fX4_15) (by decide) rfl dX4_state_18 ?_
    refine lv_iload_n hx hb dX4_state_21 rfl (lv_at hl 1 rfl) ?_
    refine qa_1 hx hb hK hG (by decide) (nz_in (by omega) h0) dX4_state_22 ?_
    refine qgN_2 (f := 5) hx hb htz tin_X3 hown hK hG (nz_cl (nz_in (by omega) h0)) (va_Nw.use rfl (hK.2 _ nX4_101)) (by decide) rfl dX4_state_23 ?_
    refine mz_Ni (As := [.int _]) (rest := []) ⟨hx, hb, hml, hown, hts⟩ (qc_stateUpTo l D L hL _ _ (nz_cl (nz_in (by omega) h0)) _ (hq _ (nz_cl (nz_in (by omega) h0)))) (tz_N htz mX0_stateUpTo (hK.2 _ nX4_108) rfl rfl ⟨Nat.le_of_ble_eq_true rfl, Nat.le_of_ble_eq_true rfl⟩) (qrecv_3 hK hG (nz_cl (nz_in (by omega) h0))) qK_ok hK hG hS rfl hl.1 rfl (Nat.le_of_ble_eq_true rfl) dX4_state_26 ⟨Nat.zero_le _, Nat.zero_le _⟩ (fun H locs hG hS => ?_)
    refine lv_goto hx hb dX4_state_29 (tgt := 33) rfl ?_
    exact mz_iret hx hb hr hlk qK_ok hK hS hG dX4_state_33 (by unfold qs_stateQ; first | rw [if_pos h0] | rw [if_neg h0]) rfl

set_option maxRecDepth 100000 in
set_option maxHeartbeats 4000000 in
theorem qc_peer (l : Launch) (D : va_G) (L : qL) (hL : qL_ok L) (u : mz_S) (x y : Int32) : mz_Ci l (qG D L) (qK D L) (qA L) yX4_peer (tz_w yX4_peer cX4_peer 3 (some .int)) ({ frames := 2, cells := 0, slots := 0, locals := 43 } : Room) [.ref (L.1 0 0), .int x, .int y] u (qs_peer (ql_n L) u x y) (u) := by
  refine mz_Ci.of (cc := cX4_peer) (maxL := 3) (ret := (some .int)) (by decide) rfl (Nat.le_of_ble_eq_true rfl) ?_
  intro p e s m args below meth c ls hx hb hr hlk hml hown hts hl hG hK hS
  have hl : lv_has ls 3 [(0, .ref (L.1 0 0)), (1, .int x), (2, .int y)] := hl
  have htz : ∀ w ∈ tz, w.before args s = true := fun w h => hts w (List.mem_cons_of_mem _ h)
  have hc12 : ql_c L ≤ 12 := hL.1.2.2.2.1
  have hn5 : ql_n L ≤ 5 := hL.1.2.1
  have h40 : ql_S L ≤ 40 := hL.1.2.2.2.2.2
  refine lv_aload_n hx hb dX4_peer_0 rfl (lv_at hl 0 rfl) ?_
  refine lv_iload_n hx hb dX4_peer_1 rfl (lv_at hl 1 rfl) ?_
  refine lv_iload_n hx hb dX4_peer_2 rfl (lv_at hl 2 rfl) ?_
  refine mz_Vi (As := [.int _, .int _]) (rest := []) ⟨hx, hb, hml, hown, hts⟩ (qc_areTwoNodes l D L hL _ _ _) (tz_V htz mX4_areTwoNodes lX4_64 rfl rfl ⟨Nat.le_of_ble_eq_true rfl, Nat.le_of_ble_eq_true rfl⟩) (qrecv_0 hK hG (by decide)) qK_ok hK hG hS rfl hl.1 rfl (Nat.le_of_ble_eq_true rfl) dX4_peer_3 ⟨Nat.zero_le _, Nat.zero_le _⟩ (fun H locs hG hS => ?_)
  refine mz_ifeq_b hx hb dX4_peer_6 (tgt := 22) rfl (fun h0 => ?_) (fun h0 => ?_)
  · refine lv_iconst (v := (-1)) hx hb dX4_peer_22 (by decide) ?_
    exact mz_iret hx hb hr hlk qK_ok hK hS hG dX4_peer_23 (by unfold qs_peer; first | rw [if_pos h0] | rw [if_neg (not_not_intro h0), if_pos h1] | rw [if_neg (not_not_intro h0), if_neg (not_not_intro h1)]) rfl
  · refine lv_aload_n hx hb dX4_peer_9 rfl (lv_at hl 0 rfl) ?_
    refine qg_0 (f := 0) hx hb htz tin_X4 hown hK hG (by decide) (htz _ fX4_15) (by decide) rfl dX4_peer_10 ?_
    refine lv_iload_n hx hb dX4_peer_13 rfl (lv_at hl 1 rfl) ?_
    refine qa_1 hx hb hK hG (by decide) (nz_in (by omega) h0.1) dX4_peer_14 ?_
    refine qgN_2 (f := 2) hx hb htz tin_X3 hown hK hG (nz_cl (nz_in (by omega) h0.1)) (va_Nw.use rfl (hK.2 _ nX4_49)) (by decide) rfl dX4_peer_15 ?_
    refine lv_iconst (v := 2) hx hb dX4_peer_18 (by decide) ?_
    refine lv_icmp_eq hx hb dX4_peer_19 (tgt := 24) rfl (fun h1 => ?_) (fun h1 => ?_)
    · refine lv_aload_n hx hb dX4_peer_24 rfl (lv_at hl 0 rfl) ?_
      refine qg_0 (f := 0) hx hb htz tin_X4 hown hK hG (by decide) (htz _ fX4_15) (by decide) rfl dX4_peer_25 ?_
      refine lv_iload_n hx hb dX4_peer_28 rfl (lv_at hl 1 rfl) ?_
      refine qa_1 hx hb hK hG (by decide) (nz_in (by omega) h0.1) dX4_peer_29 ?_
      refine qgN_2 (f := 9) hx hb htz tin_X3 hown hK hG (nz_cl (nz_in (by omega) h0.1)) (va_Nw.use rfl (hK.2 _ nX4_151)) (by decide) rfl dX4_peer_30 ?_
      refine lv_iload_n hx hb dX4_peer_33 rfl (lv_at hl 2 rfl) ?_
      refine qa_8 hx hb hK hG (nz_cl (nz_in (by omega) h0.1)) (nz_in (by omega) h0.2.1) dX4_peer_34 ?_
      refine lv_ldc (v := 100000) hx hb hown (htz _ kX4_154) dX4_peer_35 ?_
      refine lv_aload_n hx hb dX4_peer_37 rfl (lv_at hl 0 rfl) ?_
      refine qg_0 (f := 0) hx hb htz tin_X4 hown hK hG (by decide) (htz _ fX4_15) (by decide) rfl dX4_peer_38 ?_
      refine lv_iload_n hx hb dX4_peer_41 rfl (lv_at hl 1 rfl) ?_
      refine qa_1 hx hb hK hG (by decide) (nz_in (by omega) h0.1) dX4_peer_42 ?_
      refine qgN_2 (f := 8) hx hb htz tin_X3 hown hK hG (nz_cl (nz_in (by omega) h0.1)) (va_Nw.use rfl (hK.2 _ nX4_68)) (by decide) rfl dX4_peer_43 ?_
      refine lv_iload_n hx hb dX4_peer_46 rfl (lv_at hl 2 rfl) ?_
      refine qa_7 hx hb hK hG (nz_cl (nz_in (by omega) h0.1)) (nz_in (by omega) h0.2.1) dX4_peer_47 ?_
      refine lv_imul hx hb dX4_peer_48 ?_
      refine lv_iadd hx hb dX4_peer_49 ?_
      exact mz_iret hx hb hr hlk qK_ok hK hS hG dX4_peer_50 (by unfold qs_peer; first | rw [if_pos h0] | rw [if_neg (not_not_intro h0), if_pos h1] | rw [if_neg (not_not_intro h0), if_neg (not_not_intro h1)]) rfl
    · refine lv_iconst (v := (-1)) hx hb dX4_peer_22 (by decide) ?_
      exact mz_iret hx hb hr hlk qK_ok hK hS hG dX4_peer_23 (by unfold qs_peer; first | rw [if_pos h0] | rw [if_neg (not_not_intro h0), if_pos h1] | rw [if_neg (not_not_intro h0), if_neg (not_not_intro h1)]) rfl

set_option maxRecDepth 100000 in
set_option maxHeartbeats 4000000 in
theorem qc_pending (l : Launch) (D : va_G) (L : qL) (hL : qL_ok L) (u : mz_S)  : mz_Ci l (qG D L) (qK D L) (qA L) yX4_pending (tz_w yX4_pending cX4_pending 1 (some .int)) ({ frames := 0, cells := 0, slots := 0, locals := 0 } : Room) [.ref (L.1 0 0)] u (u 9 0 1) (u) := by
  refine mz_Ci.of (cc := cX4_pending) (maxL := 1) (ret := (some .int)) (by decide) rfl (Nat.le_of_ble_eq_true rfl) ?_
  intro p e s m args below meth c ls hx hb hr hlk hml hown hts hl hG hK hS
  have hl : lv_has ls 1 [(0, .ref (L.1 0 0))] := hl
  have htz : ∀ w ∈ tz, w.before args s = true := fun w h => hts w (List.mem_cons_of_mem _ h)
  have hc12 : ql_c L ≤ 12 := hL.1.2.2.2.1
  have hn5 : ql_n L ≤ 5 := hL.1.2.1
  have h40 : ql_S L ≤ 40 := hL.1.2.2.2.2.2
  refine lv_aload_n hx hb dX4_pending_0 rfl (lv_at hl 0 rfl) ?_
  refine qg_0 (f := 1) hx hb htz tin_X4 hown hK hG (by decide) (htz _ fX4_27) (by decide) rfl dX4_pending_1 ?_
  refine qgN_9 (f := 1) hx hb htz tin_X2 hown hK hG (by decide) (va_Nw.use rfl (hK.2 _ nX4_155)) (by decide) rfl dX4_pending_4 ?_
  exact mz_iret hx hb hr hlk qK_ok hK hS hG dX4_pending_7 rfl rfl

set_option maxRecDepth 100000 in
set_option maxHeartbeats 4000000 in
theorem qc_slot (l : Launch) (D : va_G) (L : qL) (hL : qL_ok L) (u : mz_S) (x : Int32) : mz_Ci l (qG D L) (qK D L) (qA L) yX4_slot (tz_w yX4_slot cX4_slot 3 (some .int)) ({ frames := 1, cells := 0, slots := 0, locals := 21 } : Room) [.ref (L.1 0 0), .int x] u (qs_slot (ql_S L) u x) (u) := by
  refine mz_Ci.of (cc := cX4_slot) (maxL := 3) (ret := (some .int)) (by decide) rfl (Nat.le_of_ble_eq_true rfl) ?_
  intro p e s m args below meth c ls hx hb hr hlk hml hown hts hl hG hK hS
  have hl : lv_has ls 3 [(0, .ref (L.1 0 0)), (1, .int x)] := hl
  have htz : ∀ w ∈ tz, w.before args s = true := fun w h => hts w (List.mem_cons_of_mem _ h)
  have hc12 : ql_c L ≤ 12 := hL.1.2.2.2.1
  have hn5 : ql_n L ≤ 5 := hL.1.2.1
  have h40 : ql_S L ≤ 40 := hL.1.2.2.2.2.2
  refine lv_aload_n hx hb dX4_slot_0 rfl (lv_at hl 0 rfl) ?_
  refine qg_0 (f := 1) hx hb htz tin_X4 hown hK hG (by decide) (htz _ fX4_27) (by decide) rfl dX4_slot_1 ?_
  refine lv_iload_n hx hb dX4_slot_4 rfl (lv_at hl 1 rfl) ?_
  refine mz_Ni (As := [.int _]) (rest := []) ⟨hx, hb, hml, hown, hts⟩ (qc_isSlot l D L hL _ _) (tz_N htz mX2_isSlot (hK.2 _ nX4_114) rfl rfl ⟨Nat.le_of_ble_eq_true rfl, Nat.le_of_ble_eq_true rfl⟩) (qrecv_9 hK hG (by decide)) qK_ok hK hG hS rfl hl.1 rfl (Nat.le_of_ble_eq_true rfl) dX4_slot_5 ⟨Nat.zero_le _, Nat.zero_le _⟩ (fun H locs hG hS => ?_)
  refine mz_ifne_b hx hb dX4_slot_8 (tgt := 13) rfl (fun h0 => ?_) (fun h0 => ?_)
  · refine lv_aload_n hx hb dX4_slot_13 rfl (lv_at hl 0 rfl) ?_
    refine qg_0 (f := 1) hx hb htz tin_X4 hown hK hG (by decide) (htz _ fX4_27) (by decide) rfl dX4_slot_14 ?_
    refine lv_iload_n hx hb dX4_slot_17 rfl (lv_at hl 1 rfl) ?_
    refine mz_Ni (As := [.int _]) (rest := []) ⟨hx, hb, hml, hown, hts⟩ (qc_isFree l D L hL _ _ (nz_in (by omega) h0)) (tz_N htz mX2_isFree (hK.2 _ nX4_117) rfl rfl ⟨Nat.le_of_ble_eq_true rfl, Nat.le_of_ble_eq_true rfl⟩) (qrecv_9 hK hG (by decide)) qK_ok hK hG hS rfl hl.1 rfl (Nat.le_of_ble_eq_true rfl) dX4_slot_18 ⟨Nat.zero_le _, Nat.zero_le _⟩ (fun H locs hG hS => ?_)
    refine mz_ifeq_b hx hb dX4_slot_21 (tgt := 26) rfl (fun h1 => ?_) (fun h1 => ?_)
    · refine lv_aload_n hx hb dX4_slot_26 rfl (lv_at hl 0 rfl) ?_
      refine qg_0 (f := 1) hx hb htz tin_X4 hown hK hG (by decide) (htz _ fX4_27) (by decide) rfl dX4_slot_27 ?_
      refine qgN_9 (f := 0) hx hb htz tin_X2 hown hK hG (by decide) (va_Nw.use rfl (hK.2 _ nX4_120)) (by decide) rfl dX4_slot_30 ?_
      refine lv_iload_n hx hb dX4_slot_33 rfl (lv_at hl 1 rfl) ?_
      have hj : x.toNatClampNeg < ql_S L := nz_cl (nz_in (by omega) h0)
      refine qa_10 hx hb hK hG (by decide) (nz_in (by omega) h0) dX4_slot_34 ?_
      refine lv_astore_n hx hb dX4_slot_35 rfl hl (by decide) rfl (fun ls hl => ?_)
      have hl : lv_has ls 3 [(2, .ref _), (0, .ref _), (1, .int _)] := hl
      refine lv_aload_n hx hb dX4_slot_36 rfl (lv_at hl 0 rfl) ?_
      refine qgN_11 (f := 0) hx hb htz tin_X1 hown hK hG (by omega) (va_Nw.use rfl (hK.2 _ nX4_138)) (by decide) rfl dX4_slot_37 ?_
      refine lv_bipush (v := 8) hx hb dX4_slot_40 (by decide) ?_
      refine lv_aload_n hx hb dX4_slot_42 rfl (lv_at hl 0 rfl) ?_
      refine qgN_11 (f := 1) hx hb htz tin_X1 hown hK hG (by omega) (va_Nw.use rfl (hK.2 _ nX4_158)) (by decide) rfl dX4_slot_43 ?_
      refine lv_imul hx hb dX4_slot_46 ?_
      refine lv_iadd hx hb dX4_slot_47 ?_
      refine lv_bipush (v := 64) hx hb dX4_slot_48 (by decide) ?_
      refine lv_aload_n hx hb dX4_slot_50 rfl (lv_at hl 0 rfl) ?_
      refine qgN_11 (f := 2) hx hb htz tin_X1 hown hK hG (by omega) (va_Nw.use rfl (hK.2 _ nX4_131)) (by decide) rfl dX4_slot_51 ?_
      refine lv_imul hx hb dX4_slot_54 ?_
      refine lv_iadd hx hb dX4_slot_55 ?_
      refine lv_sipush (v := 512) hx hb dX4_slot_56 (by decide) ?_
      refine lv_aload_n hx hb dX4_slot_59 rfl (lv_at hl 0 rfl) ?_
      refine qgN_11 (f := 3) hx hb htz tin_X1 hown hK hG (by omega) (va_Nw.use rfl (hK.2 _ nX4_161)) (by decide) rfl dX4_slot_60 ?_
      refine lv_imul hx hb dX4_slot_63 ?_
      refine lv_iadd hx hb dX4_slot_64 ?_
      exact mz_iret hx hb hr hlk qK_ok hK hS hG dX4_slot_65 (by unfold qs_slot; first | rw [if_pos h0] | rw [if_neg (not_not_intro h0), if_pos h1] | rw [if_neg (not_not_intro h0), if_neg h1]) rfl
    · refine lv_iconst (v := 0) hx hb dX4_slot_24 (by decide) ?_
      exact mz_iret hx hb hr hlk qK_ok hK hS hG dX4_slot_25 (by unfold qs_slot; first | rw [if_pos h0] | rw [if_neg (not_not_intro h0), if_pos h1] | rw [if_neg (not_not_intro h0), if_neg h1]) rfl
  · refine lv_iconst (v := (-1)) hx hb dX4_slot_11 (by decide) ?_
    exact mz_iret hx hb hr hlk qK_ok hK hS hG dX4_slot_12 (by unfold qs_slot; first | rw [if_pos h0] | rw [if_neg (not_not_intro h0), if_pos h1] | rw [if_neg (not_not_intro h0), if_neg h1]) rfl
end
