section
-- ===== PART A: goes FIRST, ahead of the names: the tables' words, and 'selects' of the private methods out of them =====
/-- a private method of a class that the tables say can be made, by its rows of tables_1 -/
def lw_okq (q : MethodName × Nat) : Prop := (q.1.cls ≠ "java/lang/invoke/MethodHandle" ∧ q.1.cls ≠ "java/lang/invoke/VarHandle") ∧ Cond.instantiable q.1.cls q.2 ∈ tables_1 ∧ Cond.privateMethod q.1 ∈ tables_1 ∧ Cond.instanceMethod q.1 ∈ tables_1
theorem lw_p0 : lw_okq (⟨"TwinStackChip", "lineToServe", "()I"⟩, 7) := ⟨⟨by decide +kernel, by decide +kernel⟩, List.mem_of_getElem? (i := 7) (by decide +kernel), List.mem_of_getElem? (i := 113) (by decide +kernel), List.mem_of_getElem? (i := 114) (by decide +kernel)⟩
theorem lw_p1 : lw_okq (⟨"TwinStackChip", "serve", "(I)V"⟩, 7) := ⟨⟨by decide +kernel, by decide +kernel⟩, List.mem_of_getElem? (i := 7) (by decide +kernel), List.mem_of_getElem? (i := 121) (by decide +kernel), List.mem_of_getElem? (i := 122) (by decide +kernel)⟩
theorem lw_p2 : lw_okq (⟨"TwinStackChip", "pushRegisters", "(II)V"⟩, 7) := ⟨⟨by decide +kernel, by decide +kernel⟩, List.mem_of_getElem? (i := 7) (by decide +kernel), List.mem_of_getElem? (i := 125) (by decide +kernel), List.mem_of_getElem? (i := 126) (by decide +kernel)⟩
theorem lw_p3 : lw_okq (⟨"TwinStackChip", "pushWord", "(II)V"⟩, 7) := ⟨⟨by decide +kernel, by decide +kernel⟩, List.mem_of_getElem? (i := 7) (by decide +kernel), List.mem_of_getElem? (i := 133) (by decide +kernel), List.mem_of_getElem? (i := 134) (by decide +kernel)⟩
theorem lw_p4 : lw_okq (⟨"TwinStackChip", "pushByte", "(II)V"⟩, 7) := ⟨⟨by decide +kernel, by decide +kernel⟩, List.mem_of_getElem? (i := 7) (by decide +kernel), List.mem_of_getElem? (i := 144) (by decide +kernel), List.mem_of_getElem? (i := 145) (by decide +kernel)⟩
theorem lw_p5 : lw_okq (⟨"TwinStackChip", "staysWaiting", "()Z"⟩, 7) := ⟨⟨by decide +kernel, by decide +kernel⟩, List.mem_of_getElem? (i := 7) (by decide +kernel), List.mem_of_getElem? (i := 150) (by decide +kernel), List.mem_of_getElem? (i := 151) (by decide +kernel)⟩
theorem lw_p6 : lw_okq (⟨"TwinStackChip", "fetchCode", "()I"⟩, 7) := ⟨⟨by decide +kernel, by decide +kernel⟩, List.mem_of_getElem? (i := 7) (by decide +kernel), List.mem_of_getElem? (i := 154) (by decide +kernel), List.mem_of_getElem? (i := 155) (by decide +kernel)⟩
theorem lw_p7 : lw_okq (⟨"TwinStackChip", "fetchByte", "()I"⟩, 7) := ⟨⟨by decide +kernel, by decide +kernel⟩, List.mem_of_getElem? (i := 7) (by decide +kernel), List.mem_of_getElem? (i := 158) (by decide +kernel), List.mem_of_getElem? (i := 159) (by decide +kernel)⟩
theorem lw_p8 : lw_okq (⟨"TwinStackChip", "isDefined", "(I)Z"⟩, 7) := ⟨⟨by decide +kernel, by decide +kernel⟩, List.mem_of_getElem? (i := 7) (by decide +kernel), List.mem_of_getElem? (i := 162) (by decide +kernel), List.mem_of_getElem? (i := 163) (by decide +kernel)⟩
theorem lw_p9 : lw_okq (⟨"TwinStackChip", "executeLowerHalf", "(I)V"⟩, 7) := ⟨⟨by decide +kernel, by decide +kernel⟩, List.mem_of_getElem? (i := 7) (by decide +kernel), List.mem_of_getElem? (i := 179) (by decide +kernel), List.mem_of_getElem? (i := 180) (by decide +kernel)⟩
theorem lw_p10 : lw_okq (⟨"TwinStackChip", "executeRowOne", "(I)V"⟩, 7) := ⟨⟨by decide +kernel, by decide +kernel⟩, List.mem_of_getElem? (i := 7) (by decide +kernel), List.mem_of_getElem? (i := 183) (by decide +kernel), List.mem_of_getElem? (i := 184) (by decide +kernel)⟩
theorem lw_p11 : lw_okq (⟨"TwinStackChip", "fetchWord", "()I"⟩, 7) := ⟨⟨by decide +kernel, by decide +kernel⟩, List.mem_of_getElem? (i := 7) (by decide +kernel), List.mem_of_getElem? (i := 187) (by decide +kernel), List.mem_of_getElem? (i := 188) (by decide +kernel)⟩
theorem lw_p12 : lw_okq (⟨"TwinStackChip", "goOn", "(I)V"⟩, 7) := ⟨⟨by decide +kernel, by decide +kernel⟩, List.mem_of_getElem? (i := 7) (by decide +kernel), List.mem_of_getElem? (i := 191) (by decide +kernel), List.mem_of_getElem? (i := 192) (by decide +kernel)⟩
theorem lw_p13 : lw_okq (⟨"TwinStackChip", "callRelative", "(I)V"⟩, 7) := ⟨⟨by decide +kernel, by decide +kernel⟩, List.mem_of_getElem? (i := 7) (by decide +kernel), List.mem_of_getElem? (i := 195) (by decide +kernel), List.mem_of_getElem? (i := 196) (by decide +kernel)⟩
theorem lw_p14 : lw_okq (⟨"TwinStackChip", "exchange", "(I)V"⟩, 7) := ⟨⟨by decide +kernel, by decide +kernel⟩, List.mem_of_getElem? (i := 7) (by decide +kernel), List.mem_of_getElem? (i := 220) (by decide +kernel), List.mem_of_getElem? (i := 221) (by decide +kernel)⟩
theorem lw_p15 : lw_okq (⟨"TwinStackChip", "become", "(II)V"⟩, 7) := ⟨⟨by decide +kernel, by decide +kernel⟩, List.mem_of_getElem? (i := 7) (by decide +kernel), List.mem_of_getElem? (i := 224) (by decide +kernel), List.mem_of_getElem? (i := 225) (by decide +kernel)⟩
def lw_privs_1 : List (MethodName × Nat) := [(⟨"TwinStackChip", "lineToServe", "()I"⟩, 7), (⟨"TwinStackChip", "serve", "(I)V"⟩, 7), (⟨"TwinStackChip", "pushRegisters", "(II)V"⟩, 7), (⟨"TwinStackChip", "pushWord", "(II)V"⟩, 7), (⟨"TwinStackChip", "pushByte", "(II)V"⟩, 7), (⟨"TwinStackChip", "staysWaiting", "()Z"⟩, 7), (⟨"TwinStackChip", "fetchCode", "()I"⟩, 7), (⟨"TwinStackChip", "fetchByte", "()I"⟩, 7), (⟨"TwinStackChip", "isDefined", "(I)Z"⟩, 7), (⟨"TwinStackChip", "executeLowerHalf", "(I)V"⟩, 7), (⟨"TwinStackChip", "executeRowOne", "(I)V"⟩, 7), (⟨"TwinStackChip", "fetchWord", "()I"⟩, 7), (⟨"TwinStackChip", "goOn", "(I)V"⟩, 7), (⟨"TwinStackChip", "callRelative", "(I)V"⟩, 7), (⟨"TwinStackChip", "exchange", "(I)V"⟩, 7), (⟨"TwinStackChip", "become", "(II)V"⟩, 7)]
theorem lw_r1 : ∀ q ∈ lw_privs_1, lw_okq q := List.forall_mem_cons.mpr ⟨lw_p0, List.forall_mem_cons.mpr ⟨lw_p1, List.forall_mem_cons.mpr ⟨lw_p2, List.forall_mem_cons.mpr ⟨lw_p3, List.forall_mem_cons.mpr ⟨lw_p4, List.forall_mem_cons.mpr ⟨lw_p5, List.forall_mem_cons.mpr ⟨lw_p6, List.forall_mem_cons.mpr ⟨lw_p7, List.forall_mem_cons.mpr ⟨lw_p8, List.forall_mem_cons.mpr ⟨lw_p9, List.forall_mem_cons.mpr ⟨lw_p10, List.forall_mem_cons.mpr ⟨lw_p11, List.forall_mem_cons.mpr ⟨lw_p12, List.forall_mem_cons.mpr ⟨lw_p13, List.forall_mem_cons.mpr ⟨lw_p14, List.forall_mem_cons.mpr ⟨lw_p15, fun _ h => absurd h List.not_mem_nil⟩⟩⟩⟩⟩⟩⟩⟩⟩⟩⟩⟩⟩⟩⟩⟩
theorem lw_p16 : lw_okq (⟨"TwinStackChip", "transfer", "(I)V"⟩, 7) := ⟨⟨by decide +kernel, by decide +kernel⟩, List.mem_of_getElem? (i := 7) (by decide +kernel), List.mem_of_getElem? (i := 228) (by decide +kernel), List.mem_of_getElem? (i := 229) (by decide +kernel)⟩
theorem lw_p17 : lw_okq (⟨"TwinStackChip", "branch", "(II)V"⟩, 7) := ⟨⟨by decide +kernel, by decide +kernel⟩, List.mem_of_getElem? (i := 7) (by decide +kernel), List.mem_of_getElem? (i := 232) (by decide +kernel), List.mem_of_getElem? (i := 233) (by decide +kernel)⟩
theorem lw_p18 : lw_okq (⟨"TwinStackChip$Registers", "meetsEven", "(I)Z"⟩, 1) := ⟨⟨by decide +kernel, by decide +kernel⟩, List.mem_of_getElem? (i := 26) (by decide +kernel), List.mem_of_getElem? (i := 240) (by decide +kernel), List.mem_of_getElem? (i := 241) (by decide +kernel)⟩
theorem lw_p19 : lw_okq (⟨"TwinStackChip", "executeRowThree", "(II)V"⟩, 7) := ⟨⟨by decide +kernel, by decide +kernel⟩, List.mem_of_getElem? (i := 7) (by decide +kernel), List.mem_of_getElem? (i := 245) (by decide +kernel), List.mem_of_getElem? (i := 246) (by decide +kernel)⟩
theorem lw_p20 : lw_okq (⟨"TwinStackChip", "indexedAddress", "()I"⟩, 7) := ⟨⟨by decide +kernel, by decide +kernel⟩, List.mem_of_getElem? (i := 7) (by decide +kernel), List.mem_of_getElem? (i := 251) (by decide +kernel), List.mem_of_getElem? (i := 252) (by decide +kernel)⟩
theorem lw_p21 : lw_okq (⟨"TwinStackChip", "addressByKind", "(II)I"⟩, 7) := ⟨⟨by decide +kernel, by decide +kernel⟩, List.mem_of_getElem? (i := 7) (by decide +kernel), List.mem_of_getElem? (i := 256) (by decide +kernel), List.mem_of_getElem? (i := 257) (by decide +kernel)⟩
theorem lw_p22 : lw_okq (⟨"TwinStackChip", "takeAddress", "(II)V"⟩, 7) := ⟨⟨by decide +kernel, by decide +kernel⟩, List.mem_of_getElem? (i := 7) (by decide +kernel), List.mem_of_getElem? (i := 260) (by decide +kernel), List.mem_of_getElem? (i := 261) (by decide +kernel)⟩
theorem lw_p23 : lw_okq (⟨"TwinStackChip", "pullRegisters", "(II)V"⟩, 7) := ⟨⟨by decide +kernel, by decide +kernel⟩, List.mem_of_getElem? (i := 7) (by decide +kernel), List.mem_of_getElem? (i := 264) (by decide +kernel), List.mem_of_getElem? (i := 265) (by decide +kernel)⟩
theorem lw_p24 : lw_okq (⟨"TwinStackChip", "pullByte", "(I)I"⟩, 7) := ⟨⟨by decide +kernel, by decide +kernel⟩, List.mem_of_getElem? (i := 7) (by decide +kernel), List.mem_of_getElem? (i := 268) (by decide +kernel), List.mem_of_getElem? (i := 269) (by decide +kernel)⟩
theorem lw_p25 : lw_okq (⟨"TwinStackChip", "pullWord", "(I)I"⟩, 7) := ⟨⟨by decide +kernel, by decide +kernel⟩, List.mem_of_getElem? (i := 7) (by decide +kernel), List.mem_of_getElem? (i := 272) (by decide +kernel), List.mem_of_getElem? (i := 273) (by decide +kernel)⟩
theorem lw_p26 : lw_okq (⟨"TwinStackChip", "returnFromInterrupt", "()V"⟩, 7) := ⟨⟨by decide +kernel, by decide +kernel⟩, List.mem_of_getElem? (i := 7) (by decide +kernel), List.mem_of_getElem? (i := 276) (by decide +kernel), List.mem_of_getElem? (i := 277) (by decide +kernel)⟩
theorem lw_p27 : lw_okq (⟨"TwinStackChip", "waitForInterrupt", "(I)V"⟩, 7) := ⟨⟨by decide +kernel, by decide +kernel⟩, List.mem_of_getElem? (i := 7) (by decide +kernel), List.mem_of_getElem? (i := 280) (by decide +kernel), List.mem_of_getElem? (i := 281) (by decide +kernel)⟩
theorem lw_p28 : lw_okq (⟨"TwinStackChip", "softwareInterrupt", "(I)V"⟩, 7) := ⟨⟨by decide +kernel, by decide +kernel⟩, List.mem_of_getElem? (i := 7) (by decide +kernel), List.mem_of_getElem? (i := 288) (by decide +kernel), List.mem_of_getElem? (i := 289) (by decide +kernel)⟩
theorem lw_p29 : lw_okq (⟨"TwinStackChip$Arithmetic", "shiftDown", "(II)I"⟩, 1) := ⟨⟨by decide +kernel, by decide +kernel⟩, List.mem_of_getElem? (i := 36) (by decide +kernel), List.mem_of_getElem? (i := 302) (by decide +kernel), List.mem_of_getElem? (i := 303) (by decide +kernel)⟩
theorem lw_p30 : lw_okq (⟨"TwinStackChip$Arithmetic", "shiftUp", "(II)I"⟩, 1) := ⟨⟨by decide +kernel, by decide +kernel⟩, List.mem_of_getElem? (i := 36) (by decide +kernel), List.mem_of_getElem? (i := 310) (by decide +kernel), List.mem_of_getElem? (i := 311) (by decide +kernel)⟩
theorem lw_p31 : lw_okq (⟨"TwinStackChip$Arithmetic", "count", "(IZ)I"⟩, 1) := ⟨⟨by decide +kernel, by decide +kernel⟩, List.mem_of_getElem? (i := 36) (by decide +kernel), List.mem_of_getElem? (i := 314) (by decide +kernel), List.mem_of_getElem? (i := 315) (by decide +kernel)⟩
def lw_privs_2 : List (MethodName × Nat) := [(⟨"TwinStackChip", "transfer", "(I)V"⟩, 7), (⟨"TwinStackChip", "branch", "(II)V"⟩, 7), (⟨"TwinStackChip$Registers", "meetsEven", "(I)Z"⟩, 1), (⟨"TwinStackChip", "executeRowThree", "(II)V"⟩, 7), (⟨"TwinStackChip", "indexedAddress", "()I"⟩, 7), (⟨"TwinStackChip", "addressByKind", "(II)I"⟩, 7), (⟨"TwinStackChip", "takeAddress", "(II)V"⟩, 7), (⟨"TwinStackChip", "pullRegisters", "(II)V"⟩, 7), (⟨"TwinStackChip", "pullByte", "(I)I"⟩, 7), (⟨"TwinStackChip", "pullWord", "(I)I"⟩, 7), (⟨"TwinStackChip", "returnFromInterrupt", "()V"⟩, 7), (⟨"TwinStackChip", "waitForInterrupt", "(I)V"⟩, 7), (⟨"TwinStackChip", "softwareInterrupt", "(I)V"⟩, 7), (⟨"TwinStackChip$Arithmetic", "shiftDown", "(II)I"⟩, 1), (⟨"TwinStackChip$Arithmetic", "shiftUp", "(II)I"⟩, 1), (⟨"TwinStackChip$Arithmetic", "count", "(IZ)I"⟩, 1)]
theorem lw_r2 : ∀ q ∈ lw_privs_2, lw_okq q := List.forall_mem_cons.mpr ⟨lw_p16, List.forall_mem_cons.mpr ⟨lw_p17, List.forall_mem_cons.mpr ⟨lw_p18, List.forall_mem_cons.mpr ⟨lw_p19, List.forall_mem_cons.mpr ⟨lw_p20, List.forall_mem_cons.mpr ⟨lw_p21, List.forall_mem_cons.mpr ⟨lw_p22, List.forall_mem_cons.mpr ⟨lw_p23, List.forall_mem_cons.mpr ⟨lw_p24, List.forall_mem_cons.mpr ⟨lw_p25, List.forall_mem_cons.mpr ⟨lw_p26, List.forall_mem_cons.mpr ⟨lw_p27, List.forall_mem_cons.mpr ⟨lw_p28, List.forall_mem_cons.mpr ⟨lw_p29, List.forall_mem_cons.mpr ⟨lw_p30, List.forall_mem_cons.mpr ⟨lw_p31, fun _ h => absurd h List.not_mem_nil⟩⟩⟩⟩⟩⟩⟩⟩⟩⟩⟩⟩⟩⟩⟩⟩
theorem lw_p32 : lw_okq (⟨"TwinStackChip", "operandAddress", "(II)I"⟩, 7) := ⟨⟨by decide +kernel, by decide +kernel⟩, List.mem_of_getElem? (i := 7) (by decide +kernel), List.mem_of_getElem? (i := 318) (by decide +kernel), List.mem_of_getElem? (i := 319) (by decide +kernel)⟩
theorem lw_p33 : lw_okq (⟨"TwinStackChip", "alterMemory", "(II)V"⟩, 7) := ⟨⟨by decide +kernel, by decide +kernel⟩, List.mem_of_getElem? (i := 7) (by decide +kernel), List.mem_of_getElem? (i := 322) (by decide +kernel), List.mem_of_getElem? (i := 323) (by decide +kernel)⟩
theorem lw_p34 : lw_okq (⟨"TwinStackChip", "executeUpperHalf", "(I)V"⟩, 7) := ⟨⟨by decide +kernel, by decide +kernel⟩, List.mem_of_getElem? (i := 7) (by decide +kernel), List.mem_of_getElem? (i := 326) (by decide +kernel), List.mem_of_getElem? (i := 327) (by decide +kernel)⟩
theorem lw_p35 : lw_okq (⟨"TwinStackChip", "call", "(I)V"⟩, 7) := ⟨⟨by decide +kernel, by decide +kernel⟩, List.mem_of_getElem? (i := 7) (by decide +kernel), List.mem_of_getElem? (i := 330) (by decide +kernel), List.mem_of_getElem? (i := 331) (by decide +kernel)⟩
theorem lw_p36 : lw_okq (⟨"TwinStackChip", "operateOnWord", "(IIZI)V"⟩, 7) := ⟨⟨by decide +kernel, by decide +kernel⟩, List.mem_of_getElem? (i := 7) (by decide +kernel), List.mem_of_getElem? (i := 334) (by decide +kernel), List.mem_of_getElem? (i := 335) (by decide +kernel)⟩
theorem lw_p37 : lw_okq (⟨"TwinStackChip", "operateOnByte", "(III)V"⟩, 7) := ⟨⟨by decide +kernel, by decide +kernel⟩, List.mem_of_getElem? (i := 7) (by decide +kernel), List.mem_of_getElem? (i := 348) (by decide +kernel), List.mem_of_getElem? (i := 349) (by decide +kernel)⟩
theorem lw_p38 : lw_okq (⟨"TwinStackChip$Arithmetic", "addByte", "(III)I"⟩, 1) := ⟨⟨by decide +kernel, by decide +kernel⟩, List.mem_of_getElem? (i := 36) (by decide +kernel), List.mem_of_getElem? (i := 356) (by decide +kernel), List.mem_of_getElem? (i := 357) (by decide +kernel)⟩
theorem lw_p39 : lw_okq (⟨"TwinStackChipModel", "is", "(I)Z"⟩, 8) := ⟨⟨by decide +kernel, by decide +kernel⟩, List.mem_of_getElem? (i := 389) (by decide +kernel), List.mem_of_getElem? (i := 424) (by decide +kernel), List.mem_of_getElem? (i := 425) (by decide +kernel)⟩
theorem lw_p40 : lw_okq (⟨"TwinStackChipModel", "interrupt", "(I)V"⟩, 8) := ⟨⟨by decide +kernel, by decide +kernel⟩, List.mem_of_getElem? (i := 389) (by decide +kernel), List.mem_of_getElem? (i := 428) (by decide +kernel), List.mem_of_getElem? (i := 429) (by decide +kernel)⟩
theorem lw_p41 : lw_okq (⟨"TwinStackChipModel", "flag", "(IZ)V"⟩, 8) := ⟨⟨by decide +kernel, by decide +kernel⟩, List.mem_of_getElem? (i := 389) (by decide +kernel), List.mem_of_getElem? (i := 432) (by decide +kernel), List.mem_of_getElem? (i := 433) (by decide +kernel)⟩
theorem lw_p42 : lw_okq (⟨"TwinStackChipModel", "pushAll", "(II)V"⟩, 8) := ⟨⟨by decide +kernel, by decide +kernel⟩, List.mem_of_getElem? (i := 389) (by decide +kernel), List.mem_of_getElem? (i := 436) (by decide +kernel), List.mem_of_getElem? (i := 437) (by decide +kernel)⟩
theorem lw_p43 : lw_okq (⟨"TwinStackChipModel", "pushWord", "(II)V"⟩, 8) := ⟨⟨by decide +kernel, by decide +kernel⟩, List.mem_of_getElem? (i := 389) (by decide +kernel), List.mem_of_getElem? (i := 440) (by decide +kernel), List.mem_of_getElem? (i := 441) (by decide +kernel)⟩
theorem lw_p44 : lw_okq (⟨"TwinStackChipModel", "push", "(II)V"⟩, 8) := ⟨⟨by decide +kernel, by decide +kernel⟩, List.mem_of_getElem? (i := 389) (by decide +kernel), List.mem_of_getElem? (i := 444) (by decide +kernel), List.mem_of_getElem? (i := 445) (by decide +kernel)⟩
theorem lw_p45 : lw_okq (⟨"TwinStackChipModel", "write", "(II)V"⟩, 8) := ⟨⟨by decide +kernel, by decide +kernel⟩, List.mem_of_getElem? (i := 389) (by decide +kernel), List.mem_of_getElem? (i := 449) (by decide +kernel), List.mem_of_getElem? (i := 450) (by decide +kernel)⟩
theorem lw_p46 : lw_okq (⟨"TwinStackChipModel", "pushState", "()V"⟩, 8) := ⟨⟨by decide +kernel, by decide +kernel⟩, List.mem_of_getElem? (i := 389) (by decide +kernel), List.mem_of_getElem? (i := 453) (by decide +kernel), List.mem_of_getElem? (i := 454) (by decide +kernel)⟩
theorem lw_p47 : lw_okq (⟨"TwinStackChipModel", "readWord", "(I)I"⟩, 8) := ⟨⟨by decide +kernel, by decide +kernel⟩, List.mem_of_getElem? (i := 389) (by decide +kernel), List.mem_of_getElem? (i := 460) (by decide +kernel), List.mem_of_getElem? (i := 461) (by decide +kernel)⟩
def lw_privs_3 : List (MethodName × Nat) := [(⟨"TwinStackChip", "operandAddress", "(II)I"⟩, 7), (⟨"TwinStackChip", "alterMemory", "(II)V"⟩, 7), (⟨"TwinStackChip", "executeUpperHalf", "(I)V"⟩, 7), (⟨"TwinStackChip", "call", "(I)V"⟩, 7), (⟨"TwinStackChip", "operateOnWord", "(IIZI)V"⟩, 7), (⟨"TwinStackChip", "operateOnByte", "(III)V"⟩, 7), (⟨"TwinStackChip$Arithmetic", "addByte", "(III)I"⟩, 1), (⟨"TwinStackChipModel", "is", "(I)Z"⟩, 8), (⟨"TwinStackChipModel", "interrupt", "(I)V"⟩, 8), (⟨"TwinStackChipModel", "flag", "(IZ)V"⟩, 8), (⟨"TwinStackChipModel", "pushAll", "(II)V"⟩, 8), (⟨"TwinStackChipModel", "pushWord", "(II)V"⟩, 8), (⟨"TwinStackChipModel", "push", "(II)V"⟩, 8), (⟨"TwinStackChipModel", "write", "(II)V"⟩, 8), (⟨"TwinStackChipModel", "pushState", "()V"⟩, 8), (⟨"TwinStackChipModel", "readWord", "(I)I"⟩, 8)]
theorem lw_r3 : ∀ q ∈ lw_privs_3, lw_okq q := List.forall_mem_cons.mpr ⟨lw_p32, List.forall_mem_cons.mpr ⟨lw_p33, List.forall_mem_cons.mpr ⟨lw_p34, List.forall_mem_cons.mpr ⟨lw_p35, List.forall_mem_cons.mpr ⟨lw_p36, List.forall_mem_cons.mpr ⟨lw_p37, List.forall_mem_cons.mpr ⟨lw_p38, List.forall_mem_cons.mpr ⟨lw_p39, List.forall_mem_cons.mpr ⟨lw_p40, List.forall_mem_cons.mpr ⟨lw_p41, List.forall_mem_cons.mpr ⟨lw_p42, List.forall_mem_cons.mpr ⟨lw_p43, List.forall_mem_cons.mpr ⟨lw_p44, List.forall_mem_cons.mpr ⟨lw_p45, List.forall_mem_cons.mpr ⟨lw_p46, List.forall_mem_cons.mpr ⟨lw_p47, fun _ h => absurd h List.not_mem_nil⟩⟩⟩⟩⟩⟩⟩⟩⟩⟩⟩⟩⟩⟩⟩⟩
theorem lw_p48 : lw_okq (⟨"TwinStackChipModel", "read", "(I)I"⟩, 8) := ⟨⟨by decide +kernel, by decide +kernel⟩, List.mem_of_getElem? (i := 389) (by decide +kernel), List.mem_of_getElem? (i := 464) (by decide +kernel), List.mem_of_getElem? (i := 465) (by decide +kernel)⟩
theorem lw_p49 : lw_okq (⟨"TwinStackChipModel", "instruct", "()Z"⟩, 8) := ⟨⟨by decide +kernel, by decide +kernel⟩, List.mem_of_getElem? (i := 389) (by decide +kernel), List.mem_of_getElem? (i := 468) (by decide +kernel), List.mem_of_getElem? (i := 469) (by decide +kernel)⟩
theorem lw_p50 : lw_okq (⟨"TwinStackChipModel", "next", "()I"⟩, 8) := ⟨⟨by decide +kernel, by decide +kernel⟩, List.mem_of_getElem? (i := 389) (by decide +kernel), List.mem_of_getElem? (i := 472) (by decide +kernel), List.mem_of_getElem? (i := 473) (by decide +kernel)⟩
theorem lw_p51 : lw_okq (⟨"TwinStackChipModel", "behindTen", "(I)V"⟩, 8) := ⟨⟨by decide +kernel, by decide +kernel⟩, List.mem_of_getElem? (i := 389) (by decide +kernel), List.mem_of_getElem? (i := 476) (by decide +kernel), List.mem_of_getElem? (i := 477) (by decide +kernel)⟩
theorem lw_p52 : lw_okq (⟨"TwinStackChipModel", "branch", "(IZ)V"⟩, 8) := ⟨⟨by decide +kernel, by decide +kernel⟩, List.mem_of_getElem? (i := 389) (by decide +kernel), List.mem_of_getElem? (i := 483) (by decide +kernel), List.mem_of_getElem? (i := 484) (by decide +kernel)⟩
theorem lw_p53 : lw_okq (⟨"TwinStackChipModel", "nextWord", "()I"⟩, 8) := ⟨⟨by decide +kernel, by decide +kernel⟩, List.mem_of_getElem? (i := 389) (by decide +kernel), List.mem_of_getElem? (i := 487) (by decide +kernel), List.mem_of_getElem? (i := 488) (by decide +kernel)⟩
theorem lw_p54 : lw_okq (⟨"TwinStackChipModel", "holds", "(I)Z"⟩, 8) := ⟨⟨by decide +kernel, by decide +kernel⟩, List.mem_of_getElem? (i := 389) (by decide +kernel), List.mem_of_getElem? (i := 494) (by decide +kernel), List.mem_of_getElem? (i := 495) (by decide +kernel)⟩
theorem lw_p55 : lw_okq (⟨"TwinStackChipModel", "trap", "(IZ)V"⟩, 8) := ⟨⟨by decide +kernel, by decide +kernel⟩, List.mem_of_getElem? (i := 389) (by decide +kernel), List.mem_of_getElem? (i := 499) (by decide +kernel), List.mem_of_getElem? (i := 500) (by decide +kernel)⟩
theorem lw_p56 : lw_okq (⟨"TwinStackChipModel", "d", "()I"⟩, 8) := ⟨⟨by decide +kernel, by decide +kernel⟩, List.mem_of_getElem? (i := 389) (by decide +kernel), List.mem_of_getElem? (i := 503) (by decide +kernel), List.mem_of_getElem? (i := 504) (by decide +kernel)⟩
theorem lw_p57 : lw_okq (⟨"TwinStackChipModel", "compare", "(III)V"⟩, 8) := ⟨⟨by decide +kernel, by decide +kernel⟩, List.mem_of_getElem? (i := 389) (by decide +kernel), List.mem_of_getElem? (i := 507) (by decide +kernel), List.mem_of_getElem? (i := 508) (by decide +kernel)⟩
theorem lw_p58 : lw_okq (⟨"TwinStackChipModel", "wordOperand", "(I)I"⟩, 8) := ⟨⟨by decide +kernel, by decide +kernel⟩, List.mem_of_getElem? (i := 389) (by decide +kernel), List.mem_of_getElem? (i := 511) (by decide +kernel), List.mem_of_getElem? (i := 512) (by decide +kernel)⟩
theorem lw_p59 : lw_okq (⟨"TwinStackChipModel", "address", "(I)I"⟩, 8) := ⟨⟨by decide +kernel, by decide +kernel⟩, List.mem_of_getElem? (i := 389) (by decide +kernel), List.mem_of_getElem? (i := 515) (by decide +kernel), List.mem_of_getElem? (i := 516) (by decide +kernel)⟩
theorem lw_p60 : lw_okq (⟨"TwinStackChipModel", "byPostbyte", "()I"⟩, 8) := ⟨⟨by decide +kernel, by decide +kernel⟩, List.mem_of_getElem? (i := 389) (by decide +kernel), List.mem_of_getElem? (i := 519) (by decide +kernel), List.mem_of_getElem? (i := 520) (by decide +kernel)⟩
theorem lw_p61 : lw_okq (⟨"TwinStackChipModel", "less", "(IIIZ)I"⟩, 8) := ⟨⟨by decide +kernel, by decide +kernel⟩, List.mem_of_getElem? (i := 389) (by decide +kernel), List.mem_of_getElem? (i := 523) (by decide +kernel), List.mem_of_getElem? (i := 524) (by decide +kernel)⟩
theorem lw_p62 : lw_okq (⟨"TwinStackChipModel", "shows", "(IZ)V"⟩, 8) := ⟨⟨by decide +kernel, by decide +kernel⟩, List.mem_of_getElem? (i := 389) (by decide +kernel), List.mem_of_getElem? (i := 535) (by decide +kernel), List.mem_of_getElem? (i := 536) (by decide +kernel)⟩
theorem lw_p63 : lw_okq (⟨"TwinStackChipModel", "loadWord", "(II)V"⟩, 8) := ⟨⟨by decide +kernel, by decide +kernel⟩, List.mem_of_getElem? (i := 389) (by decide +kernel), List.mem_of_getElem? (i := 539) (by decide +kernel), List.mem_of_getElem? (i := 540) (by decide +kernel)⟩
def lw_privs_4 : List (MethodName × Nat) := [(⟨"TwinStackChipModel", "read", "(I)I"⟩, 8), (⟨"TwinStackChipModel", "instruct", "()Z"⟩, 8), (⟨"TwinStackChipModel", "next", "()I"⟩, 8), (⟨"TwinStackChipModel", "behindTen", "(I)V"⟩, 8), (⟨"TwinStackChipModel", "branch", "(IZ)V"⟩, 8), (⟨"TwinStackChipModel", "nextWord", "()I"⟩, 8), (⟨"TwinStackChipModel", "holds", "(I)Z"⟩, 8), (⟨"TwinStackChipModel", "trap", "(IZ)V"⟩, 8), (⟨"TwinStackChipModel", "d", "()I"⟩, 8), (⟨"TwinStackChipModel", "compare", "(III)V"⟩, 8), (⟨"TwinStackChipModel", "wordOperand", "(I)I"⟩, 8), (⟨"TwinStackChipModel", "address", "(I)I"⟩, 8), (⟨"TwinStackChipModel", "byPostbyte", "()I"⟩, 8), (⟨"TwinStackChipModel", "less", "(IIIZ)I"⟩, 8), (⟨"TwinStackChipModel", "shows", "(IZ)V"⟩, 8), (⟨"TwinStackChipModel", "loadWord", "(II)V"⟩, 8)]
theorem lw_r4 : ∀ q ∈ lw_privs_4, lw_okq q := List.forall_mem_cons.mpr ⟨lw_p48, List.forall_mem_cons.mpr ⟨lw_p49, List.forall_mem_cons.mpr ⟨lw_p50, List.forall_mem_cons.mpr ⟨lw_p51, List.forall_mem_cons.mpr ⟨lw_p52, List.forall_mem_cons.mpr ⟨lw_p53, List.forall_mem_cons.mpr ⟨lw_p54, List.forall_mem_cons.mpr ⟨lw_p55, List.forall_mem_cons.mpr ⟨lw_p56, List.forall_mem_cons.mpr ⟨lw_p57, List.forall_mem_cons.mpr ⟨lw_p58, List.forall_mem_cons.mpr ⟨lw_p59, List.forall_mem_cons.mpr ⟨lw_p60, List.forall_mem_cons.mpr ⟨lw_p61, List.forall_mem_cons.mpr ⟨lw_p62, List.forall_mem_cons.mpr ⟨lw_p63, fun _ h => absurd h List.not_mem_nil⟩⟩⟩⟩⟩⟩⟩⟩⟩⟩⟩⟩⟩⟩⟩⟩
theorem lw_p64 : lw_okq (⟨"TwinStackChipModel", "moved", "(IZ)I"⟩, 8) := ⟨⟨by decide +kernel, by decide +kernel⟩, List.mem_of_getElem? (i := 389) (by decide +kernel), List.mem_of_getElem? (i := 543) (by decide +kernel), List.mem_of_getElem? (i := 544) (by decide +kernel)⟩
theorem lw_p65 : lw_okq (⟨"TwinStackChipModel", "setD", "(I)V"⟩, 8) := ⟨⟨by decide +kernel, by decide +kernel⟩, List.mem_of_getElem? (i := 389) (by decide +kernel), List.mem_of_getElem? (i := 547) (by decide +kernel), List.mem_of_getElem? (i := 548) (by decide +kernel)⟩
theorem lw_p66 : lw_okq (⟨"TwinStackChipModel", "storeWord", "(II)V"⟩, 8) := ⟨⟨by decide +kernel, by decide +kernel⟩, List.mem_of_getElem? (i := 389) (by decide +kernel), List.mem_of_getElem? (i := 551) (by decide +kernel), List.mem_of_getElem? (i := 552) (by decide +kernel)⟩
theorem lw_p67 : lw_okq (⟨"TwinStackChipModel", "writeWord", "(II)V"⟩, 8) := ⟨⟨by decide +kernel, by decide +kernel⟩, List.mem_of_getElem? (i := 389) (by decide +kernel), List.mem_of_getElem? (i := 555) (by decide +kernel), List.mem_of_getElem? (i := 556) (by decide +kernel)⟩
theorem lw_p68 : lw_okq (⟨"TwinStackChipModel", "behindEleven", "(I)V"⟩, 8) := ⟨⟨by decide +kernel, by decide +kernel⟩, List.mem_of_getElem? (i := 389) (by decide +kernel), List.mem_of_getElem? (i := 559) (by decide +kernel), List.mem_of_getElem? (i := 560) (by decide +kernel)⟩
theorem lw_p69 : lw_okq (⟨"TwinStackChipModel", "upper", "(I)V"⟩, 8) := ⟨⟨by decide +kernel, by decide +kernel⟩, List.mem_of_getElem? (i := 389) (by decide +kernel), List.mem_of_getElem? (i := 564) (by decide +kernel), List.mem_of_getElem? (i := 565) (by decide +kernel)⟩
theorem lw_p70 : lw_okq (⟨"TwinStackChipModel", "accumulate", "(II)V"⟩, 8) := ⟨⟨by decide +kernel, by decide +kernel⟩, List.mem_of_getElem? (i := 389) (by decide +kernel), List.mem_of_getElem? (i := 568) (by decide +kernel), List.mem_of_getElem? (i := 569) (by decide +kernel)⟩
theorem lw_p71 : lw_okq (⟨"TwinStackChipModel", "operand", "(I)I"⟩, 8) := ⟨⟨by decide +kernel, by decide +kernel⟩, List.mem_of_getElem? (i := 389) (by decide +kernel), List.mem_of_getElem? (i := 572) (by decide +kernel), List.mem_of_getElem? (i := 573) (by decide +kernel)⟩
theorem lw_p72 : lw_okq (⟨"TwinStackChipModel", "plus", "(IIIZ)I"⟩, 8) := ⟨⟨by decide +kernel, by decide +kernel⟩, List.mem_of_getElem? (i := 389) (by decide +kernel), List.mem_of_getElem? (i := 576) (by decide +kernel), List.mem_of_getElem? (i := 577) (by decide +kernel)⟩
theorem lw_p73 : lw_okq (⟨"TwinStackChipModel", "addWord", "(IZ)V"⟩, 8) := ⟨⟨by decide +kernel, by decide +kernel⟩, List.mem_of_getElem? (i := 389) (by decide +kernel), List.mem_of_getElem? (i := 580) (by decide +kernel), List.mem_of_getElem? (i := 581) (by decide +kernel)⟩
theorem lw_p74 : lw_okq (⟨"TwinStackChipModel", "call", "(I)V"⟩, 8) := ⟨⟨by decide +kernel, by decide +kernel⟩, List.mem_of_getElem? (i := 389) (by decide +kernel), List.mem_of_getElem? (i := 584) (by decide +kernel), List.mem_of_getElem? (i := 585) (by decide +kernel)⟩
theorem lw_p75 : lw_okq (⟨"TwinStackChipModel", "oneByte", "(I)V"⟩, 8) := ⟨⟨by decide +kernel, by decide +kernel⟩, List.mem_of_getElem? (i := 389) (by decide +kernel), List.mem_of_getElem? (i := 588) (by decide +kernel), List.mem_of_getElem? (i := 589) (by decide +kernel)⟩
theorem lw_p76 : lw_okq (⟨"TwinStackChipModel", "onByte", "(II)I"⟩, 8) := ⟨⟨by decide +kernel, by decide +kernel⟩, List.mem_of_getElem? (i := 389) (by decide +kernel), List.mem_of_getElem? (i := 592) (by decide +kernel), List.mem_of_getElem? (i := 593) (by decide +kernel)⟩
theorem lw_p77 : lw_okq (⟨"TwinStackChipModel", "middle", "(I)V"⟩, 8) := ⟨⟨by decide +kernel, by decide +kernel⟩, List.mem_of_getElem? (i := 389) (by decide +kernel), List.mem_of_getElem? (i := 596) (by decide +kernel), List.mem_of_getElem? (i := 597) (by decide +kernel)⟩
theorem lw_p78 : lw_okq (⟨"TwinStackChipModel", "adjust", "()V"⟩, 8) := ⟨⟨by decide +kernel, by decide +kernel⟩, List.mem_of_getElem? (i := 389) (by decide +kernel), List.mem_of_getElem? (i := 600) (by decide +kernel), List.mem_of_getElem? (i := 601) (by decide +kernel)⟩
theorem lw_p79 : lw_okq (⟨"TwinStackChipModel", "exchange", "(Z)V"⟩, 8) := ⟨⟨by decide +kernel, by decide +kernel⟩, List.mem_of_getElem? (i := 389) (by decide +kernel), List.mem_of_getElem? (i := 604) (by decide +kernel), List.mem_of_getElem? (i := 605) (by decide +kernel)⟩
def lw_privs_5 : List (MethodName × Nat) := [(⟨"TwinStackChipModel", "moved", "(IZ)I"⟩, 8), (⟨"TwinStackChipModel", "setD", "(I)V"⟩, 8), (⟨"TwinStackChipModel", "storeWord", "(II)V"⟩, 8), (⟨"TwinStackChipModel", "writeWord", "(II)V"⟩, 8), (⟨"TwinStackChipModel", "behindEleven", "(I)V"⟩, 8), (⟨"TwinStackChipModel", "upper", "(I)V"⟩, 8), (⟨"TwinStackChipModel", "accumulate", "(II)V"⟩, 8), (⟨"TwinStackChipModel", "operand", "(I)I"⟩, 8), (⟨"TwinStackChipModel", "plus", "(IIIZ)I"⟩, 8), (⟨"TwinStackChipModel", "addWord", "(IZ)V"⟩, 8), (⟨"TwinStackChipModel", "call", "(I)V"⟩, 8), (⟨"TwinStackChipModel", "oneByte", "(I)V"⟩, 8), (⟨"TwinStackChipModel", "onByte", "(II)I"⟩, 8), (⟨"TwinStackChipModel", "middle", "(I)V"⟩, 8), (⟨"TwinStackChipModel", "adjust", "()V"⟩, 8), (⟨"TwinStackChipModel", "exchange", "(Z)V"⟩, 8)]
theorem lw_r5 : ∀ q ∈ lw_privs_5, lw_okq q := List.forall_mem_cons.mpr ⟨lw_p64, List.forall_mem_cons.mpr ⟨lw_p65, List.forall_mem_cons.mpr ⟨lw_p66, List.forall_mem_cons.mpr ⟨lw_p67, List.forall_mem_cons.mpr ⟨lw_p68, List.forall_mem_cons.mpr ⟨lw_p69, List.forall_mem_cons.mpr ⟨lw_p70, List.forall_mem_cons.mpr ⟨lw_p71, List.forall_mem_cons.mpr ⟨lw_p72, List.forall_mem_cons.mpr ⟨lw_p73, List.forall_mem_cons.mpr ⟨lw_p74, List.forall_mem_cons.mpr ⟨lw_p75, List.forall_mem_cons.mpr ⟨lw_p76, List.forall_mem_cons.mpr ⟨lw_p77, List.forall_mem_cons.mpr ⟨lw_p78, List.forall_mem_cons.mpr ⟨lw_p79, fun _ h => absurd h List.not_mem_nil⟩⟩⟩⟩⟩⟩⟩⟩⟩⟩⟩⟩⟩⟩⟩⟩
theorem lw_p80 : lw_okq (⟨"TwinStackChipModel", "get", "(I)I"⟩, 8) := ⟨⟨by decide +kernel, by decide +kernel⟩, List.mem_of_getElem? (i := 389) (by decide +kernel), List.mem_of_getElem? (i := 611) (by decide +kernel), List.mem_of_getElem? (i := 612) (by decide +kernel)⟩
theorem lw_p81 : lw_okq (⟨"TwinStackChipModel", "set", "(II)V"⟩, 8) := ⟨⟨by decide +kernel, by decide +kernel⟩, List.mem_of_getElem? (i := 389) (by decide +kernel), List.mem_of_getElem? (i := 615) (by decide +kernel), List.mem_of_getElem? (i := 616) (by decide +kernel)⟩
theorem lw_p82 : lw_okq (⟨"TwinStackChipModel", "lea", "(I)V"⟩, 8) := ⟨⟨by decide +kernel, by decide +kernel⟩, List.mem_of_getElem? (i := 389) (by decide +kernel), List.mem_of_getElem? (i := 619) (by decide +kernel), List.mem_of_getElem? (i := 620) (by decide +kernel)⟩
theorem lw_p83 : lw_okq (⟨"TwinStackChipModel", "pullAll", "(II)V"⟩, 8) := ⟨⟨by decide +kernel, by decide +kernel⟩, List.mem_of_getElem? (i := 389) (by decide +kernel), List.mem_of_getElem? (i := 623) (by decide +kernel), List.mem_of_getElem? (i := 624) (by decide +kernel)⟩
theorem lw_p84 : lw_okq (⟨"TwinStackChipModel", "pull", "(I)I"⟩, 8) := ⟨⟨by decide +kernel, by decide +kernel⟩, List.mem_of_getElem? (i := 389) (by decide +kernel), List.mem_of_getElem? (i := 627) (by decide +kernel), List.mem_of_getElem? (i := 628) (by decide +kernel)⟩
theorem lw_p85 : lw_okq (⟨"TwinStackChipModel", "pullWord", "(I)I"⟩, 8) := ⟨⟨by decide +kernel, by decide +kernel⟩, List.mem_of_getElem? (i := 389) (by decide +kernel), List.mem_of_getElem? (i := 631) (by decide +kernel), List.mem_of_getElem? (i := 632) (by decide +kernel)⟩
theorem lw_p86 : lw_okq (⟨"TwinStackChipModel", "last", "(I)V"⟩, 8) := ⟨⟨by decide +kernel, by decide +kernel⟩, List.mem_of_getElem? (i := 389) (by decide +kernel), List.mem_of_getElem? (i := 635) (by decide +kernel), List.mem_of_getElem? (i := 636) (by decide +kernel)⟩
theorem lw_p87 : lw_okq (⟨"TwinStackChipModel", "back", "()V"⟩, 8) := ⟨⟨by decide +kernel, by decide +kernel⟩, List.mem_of_getElem? (i := 389) (by decide +kernel), List.mem_of_getElem? (i := 639) (by decide +kernel), List.mem_of_getElem? (i := 640) (by decide +kernel)⟩
theorem lw_p88 : lw_okq (⟨"TwinStackChipModel", "multiply", "()V"⟩, 8) := ⟨⟨by decide +kernel, by decide +kernel⟩, List.mem_of_getElem? (i := 389) (by decide +kernel), List.mem_of_getElem? (i := 643) (by decide +kernel), List.mem_of_getElem? (i := 644) (by decide +kernel)⟩
def lw_privs_6 : List (MethodName × Nat) := [(⟨"TwinStackChipModel", "get", "(I)I"⟩, 8), (⟨"TwinStackChipModel", "set", "(II)V"⟩, 8), (⟨"TwinStackChipModel", "lea", "(I)V"⟩, 8), (⟨"TwinStackChipModel", "pullAll", "(II)V"⟩, 8), (⟨"TwinStackChipModel", "pull", "(I)I"⟩, 8), (⟨"TwinStackChipModel", "pullWord", "(I)I"⟩, 8), (⟨"TwinStackChipModel", "last", "(I)V"⟩, 8), (⟨"TwinStackChipModel", "back", "()V"⟩, 8), (⟨"TwinStackChipModel", "multiply", "()V"⟩, 8)]
theorem lw_r6 : ∀ q ∈ lw_privs_6, lw_okq q := List.forall_mem_cons.mpr ⟨lw_p80, List.forall_mem_cons.mpr ⟨lw_p81, List.forall_mem_cons.mpr ⟨lw_p82, List.forall_mem_cons.mpr ⟨lw_p83, List.forall_mem_cons.mpr ⟨lw_p84, List.forall_mem_cons.mpr ⟨lw_p85, List.forall_mem_cons.mpr ⟨lw_p86, List.forall_mem_cons.mpr ⟨lw_p87, List.forall_mem_cons.mpr ⟨lw_p88, fun _ h => absurd h List.not_mem_nil⟩⟩⟩⟩⟩⟩⟩⟩⟩
def lw_privs : List (MethodName × Nat) := lw_privs_1 ++ (lw_privs_2 ++ (lw_privs_3 ++ (lw_privs_4 ++ (lw_privs_5 ++ (lw_privs_6)))))
def lw_tbl : List Cond := k2_sels lw_privs ++ tables_1
theorem lw_privs_ok : ∀ q ∈ lw_privs, lw_okq q := by
  show ∀ q ∈ lw_privs_1 ++ (lw_privs_2 ++ (lw_privs_3 ++ (lw_privs_4 ++ (lw_privs_5 ++ (lw_privs_6))))), lw_okq q
  exact List.forall_mem_append.mpr ⟨lw_r1, List.forall_mem_append.mpr ⟨lw_r2, List.forall_mem_append.mpr ⟨lw_r3, List.forall_mem_append.mpr ⟨lw_r4, List.forall_mem_append.mpr ⟨lw_r5, lw_r6⟩⟩⟩⟩⟩
-- ===== end of PART A; then your names; then what follows =====
end
section
def R_chip : String := "TwinStackChip"
def R_mem : String := "TwinStackChip$Memory"
def R_reg : String := "TwinStackChip$Registers"
def R_ari : String := "TwinStackChip$Arithmetic"
def R_mod : String := "TwinStackChipModel"
def F_chip : u_T := fun k => match k with
  | 0 => ("TwinStackChip", "memory", "LTwinStackChip$Memory;", true)
  | 1 => ("TwinStackChip", "registers", "LTwinStackChip$Registers;", true)
  | 2 => ("TwinStackChip", "arithmetic", "LTwinStackChip$Arithmetic;", true)
  | 3 => ("TwinStackChip", "levels", "[I", true)
  | 4 => ("TwinStackChip", "nmiArmed", "Z", false)
  | 5 => ("TwinStackChip", "nmiDue", "Z", false)
  | _ => ("TwinStackChip", "waiting", "I", false)
def t_chip : Nat → FieldType := fun k => match k with
  | 0 => .object "TwinStackChip$Memory"
  | 1 => .object "TwinStackChip$Registers"
  | 2 => .object "TwinStackChip$Arithmetic"
  | 3 => .array .int
  | 4 => .boolean
  | 5 => .boolean
  | _ => .int
def F_mem : u_T := fun k => match k with
  | _ => ("TwinStackChip$Memory", "bytes", "[I", true)
def t_mem : Nat → FieldType := fun k => match k with
  | _ => .array .int
def F_reg : u_T := fun k => match k with
  | _ => ("TwinStackChip$Registers", "values", "[I", true)
def t_reg : Nat → FieldType := fun k => match k with
  | _ => .array .int
def F_ari : u_T := fun k => match k with
  | _ => ("TwinStackChip$Arithmetic", "registers", "LTwinStackChip$Registers;", true)
def t_ari : Nat → FieldType := fun k => match k with
  | _ => .object "TwinStackChip$Registers"
def F_mod : u_T := fun k => match k with
  | 0 => ("TwinStackChipModel", "memory", "[I", false)
  | 1 => ("TwinStackChipModel", "\x72", "[I", false)
  | 2 => ("TwinStackChipModel", "before", "[I", false)
  | 3 => ("TwinStackChipModel", "undefined", "Z", false)
  | 4 => ("TwinStackChipModel", "waits", "I", false)
  | 5 => ("TwinStackChipModel", "armed", "Z", false)
  | 6 => ("TwinStackChipModel", "due", "Z", false)
  | _ => ("TwinStackChipModel", "level", "[I", false)
def t_mod : Nat → FieldType := fun k => match k with
  | 0 => .array .int
  | 1 => .array .int
  | 2 => .array .int
  | 3 => .boolean
  | 4 => .int
  | 5 => .boolean
  | 6 => .boolean
  | _ => .array .int
abbrev vwCl : List vw_C := [(R_chip, F_chip, 7), (R_mem, F_mem, 1), (R_reg, F_reg, 1), (R_ari, F_ari, 1), (R_mod, F_mod, 8)]
theorem n_chip : ∀ a, a < 7 → ∀ b, b < 7 → a ≠ b → (F_chip a).2.1 ≠ (F_chip b).2.1 := by decide +kernel
theorem t_chip_ok : ∀ k, k < 7 → parseFieldDescriptor (F_chip k).2.2.1 = some (t_chip k) := by decide +kernel
theorem n_mem : ∀ a, a < 1 → ∀ b, b < 1 → a ≠ b → (F_mem a).2.1 ≠ (F_mem b).2.1 := by decide +kernel
theorem t_mem_ok : ∀ k, k < 1 → parseFieldDescriptor (F_mem k).2.2.1 = some (t_mem k) := by decide +kernel
theorem n_reg : ∀ a, a < 1 → ∀ b, b < 1 → a ≠ b → (F_reg a).2.1 ≠ (F_reg b).2.1 := by decide +kernel
theorem t_reg_ok : ∀ k, k < 1 → parseFieldDescriptor (F_reg k).2.2.1 = some (t_reg k) := by decide +kernel
theorem n_ari : ∀ a, a < 1 → ∀ b, b < 1 → a ≠ b → (F_ari a).2.1 ≠ (F_ari b).2.1 := by decide +kernel
theorem t_ari_ok : ∀ k, k < 1 → parseFieldDescriptor (F_ari k).2.2.1 = some (t_ari k) := by decide +kernel
theorem n_mod : ∀ a, a < 8 → ∀ b, b < 8 → a ≠ b → (F_mod a).2.1 ≠ (F_mod b).2.1 := by decide +kernel
theorem t_mod_ok : ∀ k, k < 8 → parseFieldDescriptor (F_mod k).2.2.1 = some (t_mod k) := by decide +kernel
def tnm (k : Nat) : String := match k with
  | 0 => "LINE_VECTORS"
  | 1 => "SOFTWARE_VECTORS"
  | 2 => "DEFINED_COLUMNS"
  | 3 => "TRANSFER_REGISTERS"
  | _ => "ADDRESS_REGISTERS"
def tln (k : Nat) : Nat := match k with
  | 0 => 3
  | 1 => 3
  | 2 => 48
  | 3 => 16
  | _ => 4
def tvs (k : Nat) : List Int32 := match k with
  | 0 => [65532, 65526, 65528]
  | 1 => [65530, 65524, 65522]
  | 2 => [63449, 63180, 65535, 48895, 47065, 47065, 63449, 63449, 32639, 65535, 65535, 65535, 24447, 65535, 65535, 65535, 0, 0, 65534, 32768, 0, 0, 0, 0, 20488, 53256, 53256, 53256, 16384, 49152, 49152, 49152, 0, 0, 0, 32768, 0, 0, 0, 0, 4104, 4104, 4104, 4104, 0, 0, 0, 0]
  | 3 => [9, 2, 3, 4, 5, 6, -1, -1, 0, 1, 8, 7, -1, -1, -1, -1]
  | _ => [2, 3, 5, 4]
def tvl (k j : Nat) : Int32 := (tvs k).getD j 0
abbrev CS : Type := (Nat → Int32) × (Nat → Int32) × (Nat → Int32) × Int32 × Int32 × Int32
abbrev MS : Type := (Nat → Int32) × (Nat → Int32) × (Nat → Int32) × (Nat → Int32) × Int32 × Int32 × Int32 × Int32
def cx_mem (σ : CS) : Nat → Int32 := σ.1
def cy_mem (σ : CS) (v : Nat → Int32) : CS := (v, σ.2)
def cx_reg (σ : CS) : Nat → Int32 := σ.2.1
def cy_reg (σ : CS) (v : Nat → Int32) : CS := (σ.1, v, σ.2.2)
def cx_lev (σ : CS) : Nat → Int32 := σ.2.2.1
def cy_lev (σ : CS) (v : Nat → Int32) : CS := (σ.1, σ.2.1, v, σ.2.2.2)
def cx_arm (σ : CS) : Int32 := σ.2.2.2.1
def cy_arm (σ : CS) (v : Int32) : CS := (σ.1, σ.2.1, σ.2.2.1, v, σ.2.2.2.2)
def cx_due (σ : CS) : Int32 := σ.2.2.2.2.1
def cy_due (σ : CS) (v : Int32) : CS := (σ.1, σ.2.1, σ.2.2.1, σ.2.2.2.1, v, σ.2.2.2.2.2)
def cx_wai (σ : CS) : Int32 := σ.2.2.2.2.2
def cy_wai (σ : CS) (v : Int32) : CS := (σ.1, σ.2.1, σ.2.2.1, σ.2.2.2.1, σ.2.2.2.2.1, v)
def mx_mem (σ : MS) : Nat → Int32 := σ.1
def my_mem (σ : MS) (v : Nat → Int32) : MS := (v, σ.2)
def mx_reg (σ : MS) : Nat → Int32 := σ.2.1
def my_reg (σ : MS) (v : Nat → Int32) : MS := (σ.1, v, σ.2.2)
def mx_bef (σ : MS) : Nat → Int32 := σ.2.2.1
def my_bef (σ : MS) (v : Nat → Int32) : MS := (σ.1, σ.2.1, v, σ.2.2.2)
def mx_lev (σ : MS) : Nat → Int32 := σ.2.2.2.1
def my_lev (σ : MS) (v : Nat → Int32) : MS := (σ.1, σ.2.1, σ.2.2.1, v, σ.2.2.2.2)
def mx_und (σ : MS) : Int32 := σ.2.2.2.2.1
def my_und (σ : MS) (v : Int32) : MS := (σ.1, σ.2.1, σ.2.2.1, σ.2.2.2.1, v, σ.2.2.2.2.2)
def mx_wai (σ : MS) : Int32 := σ.2.2.2.2.2.1
def my_wai (σ : MS) (v : Int32) : MS := (σ.1, σ.2.1, σ.2.2.1, σ.2.2.2.1, σ.2.2.2.2.1, v, σ.2.2.2.2.2.2)
def mx_arm (σ : MS) : Int32 := σ.2.2.2.2.2.2.1
def my_arm (σ : MS) (v : Int32) : MS := (σ.1, σ.2.1, σ.2.2.1, σ.2.2.2.1, σ.2.2.2.2.1, σ.2.2.2.2.2.1, v, σ.2.2.2.2.2.2.2)
def mx_due (σ : MS) : Int32 := σ.2.2.2.2.2.2.2
def my_due (σ : MS) (v : Int32) : MS := (σ.1, σ.2.1, σ.2.2.1, σ.2.2.2.1, σ.2.2.2.2.1, σ.2.2.2.2.2.1, σ.2.2.2.2.2.2.1, v)
def wdC (ad : Nat → Nat) (cA : ClassId) (σ : CS) : va_W := [(ad 0, .inr (0, [.ref (ad 1), .ref (ad 3), .ref (ad 5), .ref (ad 6), .int (cx_arm σ), .int (cx_due σ), .int (cx_wai σ)])), (ad 1, .inr (1, [.ref (ad 2)])), (ad 2, .inl (cA, 4096, .inl (cx_mem σ))), (ad 3, .inr (2, [.ref (ad 4)])), (ad 4, .inl (cA, 9, .inl (cx_reg σ))), (ad 5, .inr (3, [.ref (ad 3)])), (ad 6, .inl (cA, 3, .inl (cx_lev σ)))]
def wdM (ad : Nat → Nat) (cA : ClassId) (σ : MS) : va_W := [(ad 0, .inr (4, [.ref (ad 1), .ref (ad 2), .ref (ad 3), .int (mx_und σ), .int (mx_wai σ), .int (mx_arm σ), .int (mx_due σ), .ref (ad 4)])), (ad 1, .inl (cA, 4096, .inl (mx_mem σ))), (ad 2, .inl (cA, 9, .inl (mx_reg σ))), (ad 3, .inl (cA, 9, .inl (mx_bef σ))), (ad 4, .inl (cA, 3, .inl (mx_lev σ)))]
abbrev bc_me_has : ByteArray := prog_3_method_2_code
def y_me_has : MethodName := ⟨R_mem, "has", "(I)Z"⟩
abbrev bc_me_byteAt : ByteArray := prog_3_method_3_code
def y_me_byteAt : MethodName := ⟨R_mem, "byteAt", "(I)I"⟩
abbrev bc_me_setByte : ByteArray := prog_3_method_4_code
def y_me_setByte : MethodName := ⟨R_mem, "setByte", "(II)V"⟩
abbrev bc_me_wordAt : ByteArray := prog_3_method_5_code
def y_me_wordAt : MethodName := ⟨R_mem, "wordAt", "(I)I"⟩
abbrev bc_me_setWord : ByteArray := prog_3_method_6_code
def y_me_setWord : MethodName := ⟨R_mem, "setWord", "(II)V"⟩
abbrev bc_re_get : ByteArray := prog_4_method_2_code
def y_re_get : MethodName := ⟨R_reg, "get", "(I)I"⟩
abbrev bc_re_set : ByteArray := prog_4_method_3_code
def y_re_set : MethodName := ⟨R_reg, "set", "(II)V"⟩
abbrev bc_re_has : ByteArray := prog_4_method_4_code
def y_re_has : MethodName := ⟨R_reg, "has", "(I)Z"⟩
abbrev bc_re_turn : ByteArray := prog_4_method_5_code
def y_re_turn : MethodName := ⟨R_reg, "turn", "(IZ)V"⟩
abbrev bc_re_carry : ByteArray := prog_4_method_6_code
def y_re_carry : MethodName := ⟨R_reg, "carry", "()I"⟩
abbrev bc_re_setSign : ByteArray := prog_4_method_7_code
def y_re_setSign : MethodName := ⟨R_reg, "setSign", "(II)V"⟩
abbrev bc_re_meetsEven : ByteArray := prog_4_method_9_code
def y_re_meetsEven : MethodName := ⟨R_reg, "meetsEven", "(I)Z"⟩
abbrev bc_re_meets : ByteArray := prog_4_method_8_code
def y_re_meets : MethodName := ⟨R_reg, "meets", "(I)Z"⟩
abbrev bc_ar_pass : ByteArray := prog_2_method_2_code
def y_ar_pass : MethodName := ⟨R_ari, "pass", "(II)I"⟩
abbrev bc_ar_add : ByteArray := prog_2_method_3_code
def y_ar_add : MethodName := ⟨R_ari, "add", "(IIII)I"⟩
abbrev bc_ar_subtract : ByteArray := prog_2_method_4_code
def y_ar_subtract : MethodName := ⟨R_ari, "subtract", "(IIII)I"⟩
abbrev bc_ar_addByte : ByteArray := prog_2_method_6_code
def y_ar_addByte : MethodName := ⟨R_ari, "addByte", "(III)I"⟩
abbrev bc_ar_combine : ByteArray := prog_2_method_5_code
def y_ar_combine : MethodName := ⟨R_ari, "combine", "(III)I"⟩
abbrev bc_ar_shiftDown : ByteArray := prog_2_method_8_code
def y_ar_shiftDown : MethodName := ⟨R_ari, "shiftDown", "(II)I"⟩
abbrev bc_ar_shiftUp : ByteArray := prog_2_method_9_code
def y_ar_shiftUp : MethodName := ⟨R_ari, "shiftUp", "(II)I"⟩
abbrev bc_ar_count : ByteArray := prog_2_method_10_code
def y_ar_count : MethodName := ⟨R_ari, "count", "(IZ)I"⟩
abbrev bc_ar_alter : ByteArray := prog_2_method_7_code
def y_ar_alter : MethodName := ⟨R_ari, "alter", "(II)I"⟩
abbrev bc_ar_adjustDecimal : ByteArray := prog_2_method_11_code
def y_ar_adjustDecimal : MethodName := ⟨R_ari, "adjustDecimal", "()V"⟩
abbrev bc_ar_extendSign : ByteArray := prog_2_method_12_code
def y_ar_extendSign : MethodName := ⟨R_ari, "extendSign", "()V"⟩
abbrev bc_ar_multiply : ByteArray := prog_2_method_13_code
def y_ar_multiply : MethodName := ⟨R_ari, "multiply", "()V"⟩
abbrev bc_tc_reset : ByteArray := prog_1_method_2_code
def y_tc_reset : MethodName := ⟨R_chip, "reset", "()V"⟩
abbrev bc_tc_poke : ByteArray := prog_1_method_3_code
def y_tc_poke : MethodName := ⟨R_chip, "poke", "(II)Z"⟩
abbrev bc_tc_load : ByteArray := prog_1_method_4_code
def y_tc_load : MethodName := ⟨R_chip, "load", "(III)Z"⟩
abbrev bc_tc_peek : ByteArray := prog_1_method_5_code
def y_tc_peek : MethodName := ⟨R_chip, "peek", "(I)I"⟩
abbrev bc_tc_lineToServe : ByteArray := prog_1_method_14_code
def y_tc_lineToServe : MethodName := ⟨R_chip, "lineToServe", "()I"⟩
abbrev bc_tc_pushWord : ByteArray := prog_1_method_46_code
def y_tc_pushWord : MethodName := ⟨R_chip, "pushWord", "(II)V"⟩
abbrev bc_tc_otherStack : ByteArray := prog_1_method_51_code
def y_tc_otherStack : MethodName := ⟨R_chip, "otherStack", "(I)I"⟩
abbrev bc_tc_pushByte : ByteArray := prog_1_method_45_code
def y_tc_pushByte : MethodName := ⟨R_chip, "pushByte", "(II)V"⟩
abbrev bc_tc_pushRegisters : ByteArray := prog_1_method_49_code
def y_tc_pushRegisters : MethodName := ⟨R_chip, "pushRegisters", "(II)V"⟩
abbrev bc_tc_serve : ByteArray := prog_1_method_15_code
def y_tc_serve : MethodName := ⟨R_chip, "serve", "(I)V"⟩
abbrev bc_tc_staysWaiting : ByteArray := prog_1_method_16_code
def y_tc_staysWaiting : MethodName := ⟨R_chip, "staysWaiting", "()Z"⟩
abbrev bc_tc_fetchByte : ByteArray := prog_1_method_19_code
def y_tc_fetchByte : MethodName := ⟨R_chip, "fetchByte", "()I"⟩
abbrev bc_tc_fetchCode : ByteArray := prog_1_method_21_code
def y_tc_fetchCode : MethodName := ⟨R_chip, "fetchCode", "()I"⟩
abbrev bc_tc_isIndexed : ByteArray := prog_1_method_23_code
def y_tc_isIndexed : MethodName := ⟨R_chip, "isIndexed", "(I)Z"⟩
abbrev bc_tc_isDefinedPostbyte : ByteArray := prog_1_method_24_code
def y_tc_isDefinedPostbyte : MethodName := ⟨R_chip, "isDefinedPostbyte", "(I)Z"⟩
abbrev bc_tc_isDefinedPair : ByteArray := prog_1_method_25_code
def y_tc_isDefinedPair : MethodName := ⟨R_chip, "isDefinedPair", "(II)Z"⟩
abbrev bc_tc_isDefined : ByteArray := prog_1_method_22_code
def y_tc_isDefined : MethodName := ⟨R_chip, "isDefined", "(I)Z"⟩
abbrev bc_tc_fetchWord : ByteArray := prog_1_method_20_code
def y_tc_fetchWord : MethodName := ⟨R_chip, "fetchWord", "()I"⟩
abbrev bc_tc_goOn : ByteArray := prog_1_method_35_code
def y_tc_goOn : MethodName := ⟨R_chip, "goOn", "(I)V"⟩
abbrev bc_tc_callRelative : ByteArray := prog_1_method_36_code
def y_tc_callRelative : MethodName := ⟨R_chip, "callRelative", "(I)V"⟩
abbrev bc_tc_become : ByteArray := prog_1_method_42_code
def y_tc_become : MethodName := ⟨R_chip, "become", "(II)V"⟩
abbrev bc_tc_exchange : ByteArray := prog_1_method_43_code
def y_tc_exchange : MethodName := ⟨R_chip, "exchange", "(I)V"⟩
abbrev bc_tc_transfer : ByteArray := prog_1_method_44_code
def y_tc_transfer : MethodName := ⟨R_chip, "transfer", "(I)V"⟩
abbrev bc_tc_executeRowOne : ByteArray := prog_1_method_30_code
def y_tc_executeRowOne : MethodName := ⟨R_chip, "executeRowOne", "(I)V"⟩
abbrev bc_tc_branch : ByteArray := prog_1_method_34_code
def y_tc_branch : MethodName := ⟨R_chip, "branch", "(II)V"⟩
abbrev bc_tc_addressByKind : ByteArray := prog_1_method_28_code
def y_tc_addressByKind : MethodName := ⟨R_chip, "addressByKind", "(II)I"⟩
abbrev bc_tc_indexedAddress : ByteArray := prog_1_method_27_code
def y_tc_indexedAddress : MethodName := ⟨R_chip, "indexedAddress", "()I"⟩
abbrev bc_tc_takeAddress : ByteArray := prog_1_method_32_code
def y_tc_takeAddress : MethodName := ⟨R_chip, "takeAddress", "(II)V"⟩
abbrev bc_tc_pullByte : ByteArray := prog_1_method_47_code
def y_tc_pullByte : MethodName := ⟨R_chip, "pullByte", "(I)I"⟩
abbrev bc_tc_pullWord : ByteArray := prog_1_method_48_code
def y_tc_pullWord : MethodName := ⟨R_chip, "pullWord", "(I)I"⟩
abbrev bc_tc_pullRegisters : ByteArray := prog_1_method_50_code
def y_tc_pullRegisters : MethodName := ⟨R_chip, "pullRegisters", "(II)V"⟩
abbrev bc_tc_returnFromInterrupt : ByteArray := prog_1_method_52_code
def y_tc_returnFromInterrupt : MethodName := ⟨R_chip, "returnFromInterrupt", "()V"⟩
abbrev bc_tc_waitForInterrupt : ByteArray := prog_1_method_18_code
def y_tc_waitForInterrupt : MethodName := ⟨R_chip, "waitForInterrupt", "(I)V"⟩
abbrev bc_tc_softwareInterrupt : ByteArray := prog_1_method_17_code
def y_tc_softwareInterrupt : MethodName := ⟨R_chip, "softwareInterrupt", "(I)V"⟩
abbrev bc_tc_executeRowThree : ByteArray := prog_1_method_31_code
def y_tc_executeRowThree : MethodName := ⟨R_chip, "executeRowThree", "(II)V"⟩
abbrev bc_tc_operandAddress : ByteArray := prog_1_method_26_code
def y_tc_operandAddress : MethodName := ⟨R_chip, "operandAddress", "(II)I"⟩
abbrev bc_tc_alterMemory : ByteArray := prog_1_method_33_code
def y_tc_alterMemory : MethodName := ⟨R_chip, "alterMemory", "(II)V"⟩
abbrev bc_tc_executeLowerHalf : ByteArray := prog_1_method_29_code
def y_tc_executeLowerHalf : MethodName := ⟨R_chip, "executeLowerHalf", "(I)V"⟩
abbrev bc_tc_call : ByteArray := prog_1_method_37_code
def y_tc_call : MethodName := ⟨R_chip, "call", "(I)V"⟩
abbrev bc_tc_wordRegister : ByteArray := prog_1_method_41_code
def y_tc_wordRegister : MethodName := ⟨R_chip, "wordRegister", "(IIZ)I"⟩
abbrev bc_tc_operateOnWord : ByteArray := prog_1_method_40_code
def y_tc_operateOnWord : MethodName := ⟨R_chip, "operateOnWord", "(IIZI)V"⟩
abbrev bc_tc_operateOnByte : ByteArray := prog_1_method_39_code
def y_tc_operateOnByte : MethodName := ⟨R_chip, "operateOnByte", "(III)V"⟩
abbrev bc_tc_executeUpperHalf : ByteArray := prog_1_method_38_code
def y_tc_executeUpperHalf : MethodName := ⟨R_chip, "executeUpperHalf", "(I)V"⟩
abbrev bc_tc_step : ByteArray := prog_1_method_6_code
def y_tc_step : MethodName := ⟨R_chip, "step", "()I"⟩
abbrev bc_tc_run : ByteArray := prog_1_method_7_code
def y_tc_run : MethodName := ⟨R_chip, "run", "(I)I"⟩
abbrev bc_tc_setLine : ByteArray := prog_1_method_8_code
def y_tc_setLine : MethodName := ⟨R_chip, "setLine", "(II)Z"⟩
abbrev bc_tc_isFaceRegister : ByteArray := prog_1_method_13_code
def y_tc_isFaceRegister : MethodName := ⟨R_chip, "isFaceRegister", "(I)Z"⟩
abbrev bc_tc_reg : ByteArray := prog_1_method_9_code
def y_tc_reg : MethodName := ⟨R_chip, "reg", "(I)I"⟩
abbrev bc_tc_put : ByteArray := prog_1_method_10_code
def y_tc_put : MethodName := ⟨R_chip, "put", "(II)Z"⟩
abbrev bc_tc_waits : ByteArray := prog_1_method_11_code
def y_tc_waits : MethodName := ⟨R_chip, "waits", "()I"⟩
abbrev bc_tc_lines : ByteArray := prog_1_method_12_code
def y_tc_lines : MethodName := ⟨R_chip, "lines", "()I"⟩
abbrev bc_mo_in : ByteArray := prog_6_method_2_code
def y_mo_in : MethodName := ⟨R_mod, "in", "(III)Z"⟩
abbrev bc_mo_read : ByteArray := prog_6_method_3_code
def y_mo_read : MethodName := ⟨R_mod, "read", "(I)I"⟩
abbrev bc_mo_readWord : ByteArray := prog_6_method_4_code
def y_mo_readWord : MethodName := ⟨R_mod, "readWord", "(I)I"⟩
abbrev bc_mo_write : ByteArray := prog_6_method_5_code
def y_mo_write : MethodName := ⟨R_mod, "write", "(II)V"⟩
abbrev bc_mo_writeWord : ByteArray := prog_6_method_6_code
def y_mo_writeWord : MethodName := ⟨R_mod, "writeWord", "(II)V"⟩
abbrev bc_mo_next : ByteArray := prog_6_method_7_code
def y_mo_next : MethodName := ⟨R_mod, "next", "()I"⟩
abbrev bc_mo_nextWord : ByteArray := prog_6_method_8_code
def y_mo_nextWord : MethodName := ⟨R_mod, "nextWord", "()I"⟩
abbrev bc_mo_signed : ByteArray := prog_6_method_9_code
def y_mo_signed : MethodName := ⟨R_mod, "signed", "(I)I"⟩
abbrev bc_mo_d : ByteArray := prog_6_method_10_code
def y_mo_d : MethodName := ⟨R_mod, "d", "()I"⟩
abbrev bc_mo_setD : ByteArray := prog_6_method_11_code
def y_mo_setD : MethodName := ⟨R_mod, "setD", "(I)V"⟩
abbrev bc_mo_flag : ByteArray := prog_6_method_12_code
def y_mo_flag : MethodName := ⟨R_mod, "flag", "(IZ)V"⟩
abbrev bc_mo_is : ByteArray := prog_6_method_13_code
def y_mo_is : MethodName := ⟨R_mod, "is", "(I)Z"⟩
abbrev bc_mo_shows : ByteArray := prog_6_method_14_code
def y_mo_shows : MethodName := ⟨R_mod, "shows", "(IZ)V"⟩
abbrev bc_mo_moved : ByteArray := prog_6_method_15_code
def y_mo_moved : MethodName := ⟨R_mod, "moved", "(IZ)I"⟩
abbrev bc_mo_asSigned : ByteArray := prog_6_method_16_code
def y_mo_asSigned : MethodName := ⟨R_mod, "asSigned", "(IZ)I"⟩
abbrev bc_mo_hasRoom : ByteArray := prog_6_method_17_code
def y_mo_hasRoom : MethodName := ⟨R_mod, "hasRoom", "(IZ)Z"⟩
abbrev bc_mo_plus : ByteArray := prog_6_method_18_code
def y_mo_plus : MethodName := ⟨R_mod, "plus", "(IIIZ)I"⟩
abbrev bc_mo_less : ByteArray := prog_6_method_19_code
def y_mo_less : MethodName := ⟨R_mod, "less", "(IIIZ)I"⟩
abbrev bc_mo_byPostbyte : ByteArray := prog_6_method_20_code
def y_mo_byPostbyte : MethodName := ⟨R_mod, "byPostbyte", "()I"⟩
abbrev bc_mo_address : ByteArray := prog_6_method_21_code
def y_mo_address : MethodName := ⟨R_mod, "address", "(I)I"⟩
abbrev bc_mo_operand : ByteArray := prog_6_method_22_code
def y_mo_operand : MethodName := ⟨R_mod, "operand", "(I)I"⟩
abbrev bc_mo_wordOperand : ByteArray := prog_6_method_23_code
def y_mo_wordOperand : MethodName := ⟨R_mod, "wordOperand", "(I)I"⟩
abbrev bc_mo_push : ByteArray := prog_6_method_24_code
def y_mo_push : MethodName := ⟨R_mod, "push", "(II)V"⟩
abbrev bc_mo_pushWord : ByteArray := prog_6_method_25_code
def y_mo_pushWord : MethodName := ⟨R_mod, "pushWord", "(II)V"⟩
abbrev bc_mo_pull : ByteArray := prog_6_method_26_code
def y_mo_pull : MethodName := ⟨R_mod, "pull", "(I)I"⟩
abbrev bc_mo_pullWord : ByteArray := prog_6_method_27_code
def y_mo_pullWord : MethodName := ⟨R_mod, "pullWord", "(I)I"⟩
abbrev bc_mo_pushAll : ByteArray := prog_6_method_28_code
def y_mo_pushAll : MethodName := ⟨R_mod, "pushAll", "(II)V"⟩
abbrev bc_mo_pullAll : ByteArray := prog_6_method_29_code
def y_mo_pullAll : MethodName := ⟨R_mod, "pullAll", "(II)V"⟩
abbrev bc_mo_onByte : ByteArray := prog_6_method_30_code
def y_mo_onByte : MethodName := ⟨R_mod, "onByte", "(II)I"⟩
abbrev bc_mo_oneByte : ByteArray := prog_6_method_31_code
def y_mo_oneByte : MethodName := ⟨R_mod, "oneByte", "(I)V"⟩
abbrev bc_mo_accumulate : ByteArray := prog_6_method_32_code
def y_mo_accumulate : MethodName := ⟨R_mod, "accumulate", "(II)V"⟩
abbrev bc_mo_compare : ByteArray := prog_6_method_33_code
def y_mo_compare : MethodName := ⟨R_mod, "compare", "(III)V"⟩
abbrev bc_mo_loadWord : ByteArray := prog_6_method_34_code
def y_mo_loadWord : MethodName := ⟨R_mod, "loadWord", "(II)V"⟩
abbrev bc_mo_storeWord : ByteArray := prog_6_method_35_code
def y_mo_storeWord : MethodName := ⟨R_mod, "storeWord", "(II)V"⟩
abbrev bc_mo_addWord : ByteArray := prog_6_method_36_code
def y_mo_addWord : MethodName := ⟨R_mod, "addWord", "(IZ)V"⟩
abbrev bc_mo_call : ByteArray := prog_6_method_37_code
def y_mo_call : MethodName := ⟨R_mod, "call", "(I)V"⟩
abbrev bc_mo_upper : ByteArray := prog_6_method_38_code
def y_mo_upper : MethodName := ⟨R_mod, "upper", "(I)V"⟩
abbrev bc_mo_holds : ByteArray := prog_6_method_39_code
def y_mo_holds : MethodName := ⟨R_mod, "holds", "(I)Z"⟩
abbrev bc_mo_branch : ByteArray := prog_6_method_40_code
def y_mo_branch : MethodName := ⟨R_mod, "branch", "(IZ)V"⟩
abbrev bc_mo_adjust : ByteArray := prog_6_method_41_code
def y_mo_adjust : MethodName := ⟨R_mod, "adjust", "()V"⟩
abbrev bc_mo_named : ByteArray := prog_6_method_42_code
def y_mo_named : MethodName := ⟨R_mod, "named", "(I)I"⟩
abbrev bc_mo_get : ByteArray := prog_6_method_43_code
def y_mo_get : MethodName := ⟨R_mod, "get", "(I)I"⟩
abbrev bc_mo_set : ByteArray := prog_6_method_44_code
def y_mo_set : MethodName := ⟨R_mod, "set", "(II)V"⟩
abbrev bc_mo_exchange : ByteArray := prog_6_method_45_code
def y_mo_exchange : MethodName := ⟨R_mod, "exchange", "(Z)V"⟩
abbrev bc_mo_lea : ByteArray := prog_6_method_46_code
def y_mo_lea : MethodName := ⟨R_mod, "lea", "(I)V"⟩
abbrev bc_mo_pushState : ByteArray := prog_6_method_47_code
def y_mo_pushState : MethodName := ⟨R_mod, "pushState", "()V"⟩
abbrev bc_mo_trap : ByteArray := prog_6_method_48_code
def y_mo_trap : MethodName := ⟨R_mod, "trap", "(IZ)V"⟩
abbrev bc_mo_multiply : ByteArray := prog_6_method_49_code
def y_mo_multiply : MethodName := ⟨R_mod, "multiply", "()V"⟩
abbrev bc_mo_back : ByteArray := prog_6_method_50_code
def y_mo_back : MethodName := ⟨R_mod, "back", "()V"⟩
abbrev bc_mo_last : ByteArray := prog_6_method_52_code
def y_mo_last : MethodName := ⟨R_mod, "last", "(I)V"⟩
abbrev bc_mo_middle : ByteArray := prog_6_method_51_code
def y_mo_middle : MethodName := ⟨R_mod, "middle", "(I)V"⟩
abbrev bc_mo_behindTen : ByteArray := prog_6_method_53_code
def y_mo_behindTen : MethodName := ⟨R_mod, "behindTen", "(I)V"⟩
abbrev bc_mo_behindEleven : ByteArray := prog_6_method_54_code
def y_mo_behindEleven : MethodName := ⟨R_mod, "behindEleven", "(I)V"⟩
abbrev bc_mo_instruct : ByteArray := prog_6_method_55_code
def y_mo_instruct : MethodName := ⟨R_mod, "instruct", "()Z"⟩
abbrev bc_mo_interrupt : ByteArray := prog_6_method_56_code
def y_mo_interrupt : MethodName := ⟨R_mod, "interrupt", "(I)V"⟩
abbrev bc_mo_step : ByteArray := prog_6_method_57_code
def y_mo_step : MethodName := ⟨R_mod, "step", "()I"⟩
abbrev bc_mo_run : ByteArray := prog_6_method_58_code
def y_mo_run : MethodName := ⟨R_mod, "run", "(I)I"⟩
abbrev bc_mo_reset : ByteArray := prog_6_method_59_code
def y_mo_reset : MethodName := ⟨R_mod, "reset", "()V"⟩
abbrev bc_mo_poke : ByteArray := prog_6_method_60_code
def y_mo_poke : MethodName := ⟨R_mod, "poke", "(II)Z"⟩
abbrev bc_mo_load : ByteArray := prog_6_method_61_code
def y_mo_load : MethodName := ⟨R_mod, "load", "(III)Z"⟩
abbrev bc_mo_peek : ByteArray := prog_6_method_62_code
def y_mo_peek : MethodName := ⟨R_mod, "peek", "(I)I"⟩
abbrev bc_mo_setLine : ByteArray := prog_6_method_63_code
def y_mo_setLine : MethodName := ⟨R_mod, "setLine", "(II)Z"⟩
abbrev bc_mo_reg : ByteArray := prog_6_method_64_code
def y_mo_reg : MethodName := ⟨R_mod, "reg", "(I)I"⟩
abbrev bc_mo_put : ByteArray := prog_6_method_65_code
def y_mo_put : MethodName := ⟨R_mod, "put", "(II)Z"⟩
abbrev bc_mo_waits : ByteArray := prog_6_method_66_code
def y_mo_waits : MethodName := ⟨R_mod, "waits", "()I"⟩
abbrev bc_mo_lines : ByteArray := prog_6_method_67_code
def y_mo_lines : MethodName := ⟨R_mod, "lines", "()I"⟩
abbrev bc_me_init : ByteArray := prog_3_method_1_code
def y_me_init : MethodName := ⟨R_mem, "<init>", "()V"⟩
abbrev bc_re_init : ByteArray := prog_4_method_1_code
def y_re_init : MethodName := ⟨R_reg, "<init>", "()V"⟩
abbrev bc_ar_init : ByteArray := prog_2_method_1_code
def y_ar_init : MethodName := ⟨R_ari, "<init>", "(LTwinStackChip$Registers;)V"⟩
abbrev bc_tc_init : ByteArray := prog_1_method_1_code
def y_tc_init : MethodName := ⟨R_chip, "<init>", "()V"⟩
abbrev bc_mo_init : ByteArray := prog_6_method_1_code
def y_mo_init : MethodName := ⟨R_mod, "<init>", "()V"⟩
theorem cb_m128 : (Int8.ofInt (-128)).toInt32 = (-128 : Int32) := by decide
theorem cb_m13 : (Int8.ofInt (-13)).toInt32 = (-13 : Int32) := by decide
theorem cb_m2 : (Int8.ofInt (-2)).toInt32 = (-2 : Int32) := by decide
theorem cb_6 : (Int8.ofInt 6).toInt32 = (6 : Int32) := by decide
theorem cb_7 : (Int8.ofInt 7).toInt32 = (7 : Int32) := by decide
theorem cb_8 : (Int8.ofInt 8).toInt32 = (8 : Int32) := by decide
theorem cb_9 : (Int8.ofInt 9).toInt32 = (9 : Int32) := by decide
theorem cb_10 : (Int8.ofInt 10).toInt32 = (10 : Int32) := by decide
theorem cb_11 : (Int8.ofInt 11).toInt32 = (11 : Int32) := by decide
theorem cb_12 : (Int8.ofInt 12).toInt32 = (12 : Int32) := by decide
theorem cb_13 : (Int8.ofInt 13).toInt32 = (13 : Int32) := by decide
theorem cb_14 : (Int8.ofInt 14).toInt32 = (14 : Int32) := by decide
theorem cb_15 : (Int8.ofInt 15).toInt32 = (15 : Int32) := by decide
theorem cb_16 : (Int8.ofInt 16).toInt32 = (16 : Int32) := by decide
theorem cb_17 : (Int8.ofInt 17).toInt32 = (17 : Int32) := by decide
theorem cb_18 : (Int8.ofInt 18).toInt32 = (18 : Int32) := by decide
theorem cb_19 : (Int8.ofInt 19).toInt32 = (19 : Int32) := by decide
theorem cb_22 : (Int8.ofInt 22).toInt32 = (22 : Int32) := by decide
theorem cb_23 : (Int8.ofInt 23).toInt32 = (23 : Int32) := by decide
theorem cb_25 : (Int8.ofInt 25).toInt32 = (25 : Int32) := by decide
theorem cb_26 : (Int8.ofInt 26).toInt32 = (26 : Int32) := by decide
theorem cb_28 : (Int8.ofInt 28).toInt32 = (28 : Int32) := by decide
theorem cb_29 : (Int8.ofInt 29).toInt32 = (29 : Int32) := by decide
theorem cb_30 : (Int8.ofInt 30).toInt32 = (30 : Int32) := by decide
theorem cb_31 : (Int8.ofInt 31).toInt32 = (31 : Int32) := by decide
theorem cb_32 : (Int8.ofInt 32).toInt32 = (32 : Int32) := by decide
theorem cb_33 : (Int8.ofInt 33).toInt32 = (33 : Int32) := by decide
theorem cb_47 : (Int8.ofInt 47).toInt32 = (47 : Int32) := by decide
theorem cb_48 : (Int8.ofInt 48).toInt32 = (48 : Int32) := by decide
theorem cb_49 : (Int8.ofInt 49).toInt32 = (49 : Int32) := by decide
theorem cb_50 : (Int8.ofInt 50).toInt32 = (50 : Int32) := by decide
theorem cb_51 : (Int8.ofInt 51).toInt32 = (51 : Int32) := by decide
theorem cb_52 : (Int8.ofInt 52).toInt32 = (52 : Int32) := by decide
theorem cb_54 : (Int8.ofInt 54).toInt32 = (54 : Int32) := by decide
theorem cb_55 : (Int8.ofInt 55).toInt32 = (55 : Int32) := by decide
theorem cb_57 : (Int8.ofInt 57).toInt32 = (57 : Int32) := by decide
theorem cb_58 : (Int8.ofInt 58).toInt32 = (58 : Int32) := by decide
theorem cb_59 : (Int8.ofInt 59).toInt32 = (59 : Int32) := by decide
theorem cb_60 : (Int8.ofInt 60).toInt32 = (60 : Int32) := by decide
theorem cb_61 : (Int8.ofInt 61).toInt32 = (61 : Int32) := by decide
theorem cb_63 : (Int8.ofInt 63).toInt32 = (63 : Int32) := by decide
theorem cb_64 : (Int8.ofInt 64).toInt32 = (64 : Int32) := by decide
theorem cb_80 : (Int8.ofInt 80).toInt32 = (80 : Int32) := by decide
theorem cb_96 : (Int8.ofInt 96).toInt32 = (96 : Int32) := by decide
theorem cb_127 : (Int8.ofInt 127).toInt32 = (127 : Int32) := by decide
theorem ci_m1 : Int32.ofInt (-1) = (-1 : Int32) := by decide
theorem ci_0 : Int32.ofInt 0 = (0 : Int32) := by decide
theorem ci_1 : Int32.ofInt 1 = (1 : Int32) := by decide
theorem ci_2 : Int32.ofInt 2 = (2 : Int32) := by decide
theorem ci_3 : Int32.ofInt 3 = (3 : Int32) := by decide
theorem ci_4 : Int32.ofInt 4 = (4 : Int32) := by decide
theorem ci_5 : Int32.ofInt 5 = (5 : Int32) := by decide
theorem ci_6 : Int32.ofInt 6 = (6 : Int32) := by decide
theorem ci_96 : Int32.ofInt 96 = (96 : Int32) := by decide
theorem cs_m32768 : (Int16.ofInt (-32768)).toInt32 = (-32768 : Int32) := by decide
theorem cs_128 : (Int16.ofInt 128).toInt32 = (128 : Int32) := by decide
theorem cs_129 : (Int16.ofInt 129).toInt32 = (129 : Int32) := by decide
theorem cs_141 : (Int16.ofInt 141).toInt32 = (141 : Int32) := by decide
theorem cs_159 : (Int16.ofInt 159).toInt32 = (159 : Int32) := by decide
theorem cs_191 : (Int16.ofInt 191).toInt32 = (191 : Int32) := by decide
theorem cs_192 : (Int16.ofInt 192).toInt32 = (192 : Int32) := by decide
theorem cs_254 : (Int16.ofInt 254).toInt32 = (254 : Int32) := by decide
theorem cs_255 : (Int16.ofInt 255).toInt32 = (255 : Int32) := by decide
theorem cs_256 : (Int16.ofInt 256).toInt32 = (256 : Int32) := by decide
theorem cs_512 : (Int16.ofInt 512).toInt32 = (512 : Int32) := by decide
theorem cs_4095 : (Int16.ofInt 4095).toInt32 = (4095 : Int32) := by decide
theorem cs_4096 : (Int16.ofInt 4096).toInt32 = (4096 : Int32) := by decide
theorem cs_15226 : (Int16.ofInt 15226).toInt32 = (15226 : Int32) := by decide
theorem cs_15231 : (Int16.ofInt 15231).toInt32 = (15231 : Int32) := by decide
theorem cs_32767 : (Int16.ofInt 32767).toInt32 = (32767 : Int32) := by decide
end
section
-- the words that go through every call
def CW : List Cond := lw_tbl.filter goodWord
theorem cw_mem {w : Cond} (h1 : w ∈ lw_tbl) (h2 : goodWord w = true) : w ∈ CW := List.mem_filter.mpr ⟨h1, h2⟩
theorem cw_good : ∀ w ∈ CW, goodWord w = true := fun _ h => (List.mem_filter.mp h).2
theorem cw_in {ws : List Cond} (h : ∀ w ∈ ws, w ∈ CW) : GoodIn CW ws := fun w hw => ⟨h w hw, good_of_word (cw_good w (h w hw))⟩
-- pure combinators
def gd {α : Type} (b : Bool) (m : Option α) : Option α := if b = true then m else none
def bd {S β : Type} (m : Option (Int32 × S)) (k : Int32 → S → Option β) : Option β := match m with
  | some o => k o.1 o.2
  | none => none
def nm {β : Type} (x : Int32) (k : Int32 → β) : β := k x
def ns {S β : Type} (x : S) (k : S → β) : β := k x
def okI (i : Int32) (n : Nat) : Bool := !(decide (i < 0)) && decide (i.toNatClampNeg < n)
def isB (v : Int32) : Bool := decide (v = 0) || decide (v = 1)
def swi {α : Type} (x : Int32) : List (Int32 × Nat × α) → α → α
  | [], d => d
  | c :: r, d => if x = c.1 then c.2.2 else swi x r d
def swt {α : Type} (x : Int32) : List (Int32 × Nat × α) → Nat → Nat
  | [], d => d
  | c :: r, d => if x = c.1 then c.2.1 else swt x r d
theorem gd_some {α : Type} {b : Bool} {m : Option α} {o : α} (h : gd b m = some o) : b = true ∧ m = some o := by
  unfold gd at h
  by_cases hb : b = true
  · rw [if_pos hb] at h; exact ⟨hb, h⟩
  · rw [if_neg hb] at h; cases h
theorem bd_some {S β : Type} {m : Option (Int32 × S)} {k : Int32 → S → Option β} {o : β} (h : bd m k = some o) : ∃ z, m = some z ∧ k z.1 z.2 = some o := by
  cases m with
  | none => cases h
  | some z => exact ⟨z, rfl, h⟩
theorem okI_in {i : Int32} {n : Nat} (h : okI i n = true) : vp_in i n := by
  unfold okI at h
  simp only [Bool.and_eq_true, Bool.not_eq_true', decide_eq_false_iff_not, decide_eq_true_eq] at h
  intro q
  rcases q with q | q
  · exact h.1 q
  · omega
theorem isB_ok {v : Int32} (h : isB v = true) : narrow .boolean (.int v) = .int v ∧ fits .boolean (.int v) = true := by
  unfold isB at h
  simp only [Bool.or_eq_true, decide_eq_true_eq] at h
  rcases h with rfl | rfl
  · exact ⟨rfl, by decide +kernel⟩
  · exact ⟨rfl, by decide +kernel⟩
-- static tables
def Sts (A : Nat → Prop) (tb : Nat → Nat) (U : State) (H : Heap) : Prop := ∀ k, k < 5 → va_Z R_chip (tnm k) "[I" (.ref (tb k)) A U H ∧ va_T .int (tb k) (tln k) (fun j => .int (tvl k j)) A U H
theorem Sts.moved {A : Nat → Prop} {tb : Nat → Nat} {u U : State} {H : Heap} (hvm : u.vm.Alike U.vm) (h : Sts A tb u H) : Sts A tb U H := fun k hk => ⟨(h k hk).1.moved hvm, (h k hk).2.moved hvm⟩
theorem Sts.kept {A : Nat → Prop} {tb : Nat → Nat} {U : State} {H H1 : Heap} (h : Sts A tb U H) (hq : ∀ a : Nat, a < H.size → ¬ A a → H1[a]? = H[a]?) : Sts A tb U H1 := fun k hk => ⟨(h k hk).1.kept hq, (h k hk).2.kept hq⟩
theorem Sts.less {A B : Nat → Prop} {tb : Nat → Nat} {U : State} {H : Heap} (h : Sts A tb U H) (hq : ∀ a : Nat, B a → A a) : Sts B tb U H := fun k hk => ⟨(h k hk).1.narrow hq, (h k hk).2.narrow hq⟩
-- the context of a walk
abbrev Ev : Type := va_G × (Nat → Prop) × ClassId × (Nat → Nat) × (Nat → Nat)
abbrev eD (E : Ev) : va_G := E.1
abbrev eA (E : Ev) : Nat → Prop := E.2.1
abbrev eC (E : Ev) : ClassId := E.2.2.1
abbrev eT (E : Ev) : Nat → Nat := E.2.2.2.1
abbrev eO (E : Ev) : Nat → Nat := E.2.2.2.2
abbrev Cx : Type := (Program × Launch × Env × Room × State) × (MethodId × Array Value × List Frame × Method × Code) × Ev
abbrev xp (X : Cx) : Program := X.1.1
abbrev xl (X : Cx) : Launch := X.1.2.1
abbrev xe (X : Cx) : Env := X.1.2.2.1
abbrev xR (X : Cx) : Room := X.1.2.2.2.1
abbrev xs (X : Cx) : State := X.1.2.2.2.2
abbrev xm (X : Cx) : MethodId := X.2.1.1
abbrev xa (X : Cx) : Array Value := X.2.1.2.1
abbrev xb (X : Cx) : List Frame := X.2.1.2.2.1
abbrev xh (X : Cx) : Method := X.2.1.2.2.2.1
abbrev xc (X : Cx) : Code := X.2.1.2.2.2.2
abbrev xE (X : Cx) : Ev := X.2.2
def Gd (X : Cx) (b : ByteArray) (nL : Nat) (own : String) (ret : Option FieldType) (rm : Room) : Prop :=
  (xp X).tables.exec = Jvm.exec ∧ (xc X).code = b ∧ (xc X).maxLocals = nL ∧ (xs X).vm.findClass own = some (xm X).cls ∧ (∀ w ∈ CW, w.before (xa X) (xs X) = true) ∧ (xh X).locks = false ∧ (xh X).sig.returnType = ret ∧ xR X = rm ∧ va_K (eD (xE X)) vwCl [(eC (xE X), .int)] (xs X) ∧ Sts (eA (xE X)) (eT (xE X)) (xs X) (xs X).heap
section
variable {X : Cx} {b : ByteArray} {nL : Nat} {own : String} {ret : Option FieldType} {rm : Room}
theorem Gd.x (G : Gd X b nL own ret rm) : (xp X).tables.exec = Jvm.exec := G.1
theorem Gd.c (G : Gd X b nL own ret rm) : (xc X).code = b := G.2.1
theorem Gd.n (G : Gd X b nL own ret rm) : (xc X).maxLocals = nL := G.2.2.1
theorem Gd.o (G : Gd X b nL own ret rm) : (xs X).vm.findClass own = some (xm X).cls := G.2.2.2.1
theorem Gd.t (G : Gd X b nL own ret rm) : ∀ w ∈ CW, w.before (xa X) (xs X) = true := G.2.2.2.2.1
theorem Gd.k (G : Gd X b nL own ret rm) : (xh X).locks = false := G.2.2.2.2.2.1
theorem Gd.r (G : Gd X b nL own ret rm) : (xh X).sig.returnType = ret := G.2.2.2.2.2.2.1
theorem Gd.R (G : Gd X b nL own ret rm) : xR X = rm := G.2.2.2.2.2.2.2.1
theorem Gd.K (G : Gd X b nL own ret rm) : va_K (eD (xE X)) vwCl [(eC (xE X), .int)] (xs X) := G.2.2.2.2.2.2.2.2.1
theorem Gd.S (G : Gd X b nL own ret rm) : Sts (eA (xE X)) (eT (xE X)) (xs X) (xs X).heap := G.2.2.2.2.2.2.2.2.2
end
abbrev WD (S : Type) : Type := (Nat → Nat) → ClassId → S → va_W
def J {S : Type} (wd : WD S) (X : Cx) (Q : Int32 × S → State → Prop) (nL pc : Nat) (L : List (Nat × Value)) (st : List Value) (σ : S) (mm : Option (Int32 × S)) : Prop :=
  ∀ o, mm = some o → ∀ (H : Heap) (locs : List Loc) (ls : Array Slot), va_P (eD (xE X)) vwCl (wd (eO (xE X)) (eC (xE X)) σ) H → va_D (eA (xE X)) (wd (eO (xE X)) (eC (xE X)) σ) → va_S (eA (xE X)) (xs X).heap H locs → lv_has ls nL L →
    W (xp X) (xl X) (xe X) (xR X) (xs X) (xm X) (xa X) (xb X) (xh X) (xc X) H locs 0 0 (Q o) (F0 (xm X) pc ls st)
def Okw {S : Type} (wd : WD S) (E : Ev) (σ : S) (U : State) : Prop := va_P (eD E) vwCl (wd (eO E) (eC E) σ) U.heap ∧ va_K (eD E) vwCl [(eC E, .int)] U ∧ va_D (eA E) (wd (eO E) (eC E) σ) ∧ Sts (eA E) (eT E) U U.heap
def QI {S : Type} (wd : WD S) (X : Cx) (o : Int32 × S) : State → Prop := MQ (xb X) (va_Qi (fun (r : Int32) (u : S) => r = o.1 ∧ u = o.2) (fun u t => Okw wd (xE X) u t) (eA (xE X))) (xa X) (xs X) 0 0 (eA (xE X))
def QV {S : Type} (wd : WD S) (X : Cx) (o : Int32 × S) : State → Prop := MQ (xb X) (va_Qv (fun (u : S) => u = o.2) (fun u t => Okw wd (xE X) u t) (eA (xE X))) (xa X) (xs X) 0 0 (eA (xE X))
def CtI {S : Type} (wd : WD S) (l : Launch) (E : Ev) (y : MethodName) (b : ByteArray) (n : Nat) (ret : Option FieldType) (rm : Room) (av : List Value) (σ : S) (mm : Option (Int32 × S)) : Prop := ∀ o, mm = some o → Met l y (Cond.code y b n ret :: CW) rm (va_Pc av (fun U => Okw wd E σ U)) (va_Qi (fun (r : Int32) (u : S) => r = o.1 ∧ u = o.2) (fun u t => Okw wd E u t) (eA E)) 0 0 (eA E)
def CtV {S : Type} (wd : WD S) (l : Launch) (E : Ev) (y : MethodName) (b : ByteArray) (n : Nat) (ret : Option FieldType) (rm : Room) (av : List Value) (σ : S) (mm : Option (Int32 × S)) : Prop := ∀ o, mm = some o → Met l y (Cond.code y b n ret :: CW) rm (va_Pc av (fun U => Okw wd E σ U)) (va_Qv (fun (u : S) => u = o.2) (fun u t => Okw wd E u t) (eA E)) 0 0 (eA E)
def rmm (f n : Nat) : Room := { frames := f, cells := 0, slots := 0, locals := n }
def rok (yf yl yn f n : Nat) : Bool := Nat.ble (yf + 1) f && Nat.ble (8 + (yn + 11) + yl) n
theorem rok_1 {yf yl yn f n : Nat} (h : rok yf yl yn f n = true) : (rmm yf yl).frames + 1 ≤ (rmm f n).frames ∧ 8 + (yn + 11) + (rmm yf yl).locals ≤ (rmm f n).locals := by
  unfold rok at h
  simp only [Bool.and_eq_true] at h
  exact ⟨Nat.le_of_ble_eq_true h.1, Nat.le_of_ble_eq_true h.2⟩
def Mw0 (y : MethodName) (b : ByteArray) (n : Nat) (ret : Option FieldType) (k : Nat) : Prop := Cond.initialized y.cls ∈ CW ∧ Cond.code y b n ret ∈ CW ∧ y.cls ≠ "java/lang/invoke/MethodHandle" ∧ y.cls ≠ "java/lang/invoke/VarHandle" ∧ (parseMethodDescriptor y.desc).map (fun d => d.parameters.length) = some k
def MwV (y : MethodName) (b : ByteArray) (n : Nat) (ret : Option FieldType) (k : Nat) : Prop := Mw0 y b n ret k ∧ Cond.instanceMethod y ∈ CW ∧ Cond.selects y.cls y y ∈ CW
def MwS (y : MethodName) (b : ByteArray) (n : Nat) (ret : Option FieldType) (k : Nat) : Prop := Mw0 y b n ret k ∧ Cond.static y ∈ CW
def Rcv {S : Type} (wd : WD S) (E : Ev) (a : Nat) (C : String) : Prop := ∀ σ : S, ∃ (q0 ci : Nat) (fs : List Value) (T : u_T) (N : Nat), (wd (eO E) (eC E) σ)[q0]? = some (a, .inr (ci, fs)) ∧ vwCl[ci]? = some (C, T, N)
theorem Okw.blind {S : Type} {wd : WD S} {E : Ev} {σ : S} {av : List Value} : FrameBlind (va_Pc av (fun U => Okw wd E σ U)) := fun a U g mk q => by
  obtain ⟨q0, qP, qK, qD, qS⟩ := q
  exact ⟨q0, qP, va_K.moved (u := U) (U := U.calling g mk a) (Vm.Alike.refl U.vm) qK, qD, Sts.moved (u := U) (U := U.calling g mk a) (Vm.Alike.refl U.vm) qS⟩
section
variable {S : Type} {wd : WD S} {X : Cx} {b : ByteArray} {nL pc : Nat} {own : String} {ret : Option FieldType} {rm : Room} {Q : Int32 × S → State → Prop} {L : List (Nat × Value)} {st : List Value} {σ : S} {mm m1 m2 : Option (Int32 × S)}
theorem okw_of (G : Gd X b nL own ret rm) {H : Heap} {locs : List Loc} (hP : va_P (eD (xE X)) vwCl (wd (eO (xE X)) (eC (xE X)) σ) H) (hD : va_D (eA (xE X)) (wd (eO (xE X)) (eC (xE X)) σ)) (hS : va_S (eA (xE X)) (xs X).heap H locs) {t : State} (ht : t.heap = H) (hA : (xs X).vm.Alike t.vm) : Okw wd (xE X) σ t :=
  ⟨by rw [ht]; exact hP, va_K.moved hA G.K, hD, by rw [ht]; exact Sts.moved hA (Sts.kept G.S hS.2.1)⟩
theorem j_iadd {x y : Int32} (G : Gd X b nL own ret rm) (hd : decode b pc = .ok (.iadd, 1)) (k : J wd X Q nL (pc + 1) L (.int (x + y) :: st) σ mm) : J wd X Q nL pc L (.int y :: .int x :: st) σ mm := fun o ho H locs ls hP hD hS hl => lv_iadd G.x G.c hd (k o ho H locs ls hP hD hS hl)
theorem j_isub {x y : Int32} (G : Gd X b nL own ret rm) (hd : decode b pc = .ok (.isub, 1)) (k : J wd X Q nL (pc + 1) L (.int (x - y) :: st) σ mm) : J wd X Q nL pc L (.int y :: .int x :: st) σ mm := fun o ho H locs ls hP hD hS hl => lv_isub G.x G.c hd (k o ho H locs ls hP hD hS hl)
theorem j_imul {x y : Int32} (G : Gd X b nL own ret rm) (hd : decode b pc = .ok (.imul, 1)) (k : J wd X Q nL (pc + 1) L (.int (x * y) :: st) σ mm) : J wd X Q nL pc L (.int y :: .int x :: st) σ mm := fun o ho H locs ls hP hD hS hl => lv_imul G.x G.c hd (k o ho H locs ls hP hD hS hl)
theorem j_iand {x y : Int32} (G : Gd X b nL own ret rm) (hd : decode b pc = .ok (.iand, 1)) (k : J wd X Q nL (pc + 1) L (.int (x &&& y) :: st) σ mm) : J wd X Q nL pc L (.int y :: .int x :: st) σ mm := fun o ho H locs ls hP hD hS hl => lv_iand G.x G.c hd (k o ho H locs ls hP hD hS hl)
theorem j_ior {x y : Int32} (G : Gd X b nL own ret rm) (hd : decode b pc = .ok (.ior, 1)) (k : J wd X Q nL (pc + 1) L (.int (x ||| y) :: st) σ mm) : J wd X Q nL pc L (.int y :: .int x :: st) σ mm := fun o ho H locs ls hP hD hS hl => lv_ior G.x G.c hd (k o ho H locs ls hP hD hS hl)
theorem j_ixor {x y : Int32} (G : Gd X b nL own ret rm) (hd : decode b pc = .ok (.ixor, 1)) (k : J wd X Q nL (pc + 1) L (.int (x ^^^ y) :: st) σ mm) : J wd X Q nL pc L (.int y :: .int x :: st) σ mm := fun o ho H locs ls hP hD hS hl => lv_ixor G.x G.c hd (k o ho H locs ls hP hD hS hl)
theorem j_ishl {x y : Int32} (G : Gd X b nL own ret rm) (hd : decode b pc = .ok (.ishl, 1)) (k : J wd X Q nL (pc + 1) L (.int (x <<< (y &&& 31)) :: st) σ mm) : J wd X Q nL pc L (.int y :: .int x :: st) σ mm := fun o ho H locs ls hP hD hS hl => lv_ishl G.x G.c hd (k o ho H locs ls hP hD hS hl)
theorem j_ishr {x y : Int32} (G : Gd X b nL own ret rm) (hd : decode b pc = .ok (.ishr, 1)) (k : J wd X Q nL (pc + 1) L (.int (x >>> (y &&& 31)) :: st) σ mm) : J wd X Q nL pc L (.int y :: .int x :: st) σ mm := fun o ho H locs ls hP hD hS hl => lv_ishr G.x G.c hd (k o ho H locs ls hP hD hS hl)
theorem j_irem {x y : Int32} (G : Gd X b nL own ret rm) (hd : decode b pc = .ok (.irem, 1)) (hy : ¬ y = 0) (k : J wd X Q nL (pc + 1) L (.int (x - x / y * y) :: st) σ mm) : J wd X Q nL pc L (.int y :: .int x :: st) σ mm := fun o ho H locs ls hP hD hS hl => lv_irem G.x G.c hd hy (k o ho H locs ls hP hD hS hl)
theorem j_i2b {x : Int32} (G : Gd X b nL own ret rm) (hd : decode b pc = .ok (.i2b, 1)) (k : J wd X Q nL (pc + 1) L (.int (x.toInt8.toInt32) :: st) σ mm) : J wd X Q nL pc L (.int x :: st) σ mm := fun o ho H locs ls hP hD hS hl => lv_i2b G.x G.c hd rfl (k o ho H locs ls hP hD hS hl)
theorem j_iconst {n : Int} {v : Int32} (G : Gd X b nL own ret rm) (hd : decode b pc = .ok (.iconst n, 1)) (hv : Int32.ofInt n = v) (k : J wd X Q nL (pc + 1) L (.int v :: st) σ mm) : J wd X Q nL pc L st σ mm := fun o ho H locs ls hP hD hS hl => lv_iconst G.x G.c hd hv (k o ho H locs ls hP hD hS hl)
theorem j_bipush {n : Int} {v : Int32} (G : Gd X b nL own ret rm) (hd : decode b pc = .ok (.bipush n, 2)) (hv : (Int8.ofInt n).toInt32 = v) (k : J wd X Q nL (pc + 2) L (.int v :: st) σ mm) : J wd X Q nL pc L st σ mm := fun o ho H locs ls hP hD hS hl => lv_bipush G.x G.c hd hv (k o ho H locs ls hP hD hS hl)
theorem j_sipush {n : Int} {v : Int32} (G : Gd X b nL own ret rm) (hd : decode b pc = .ok (.sipush n, 3)) (hv : (Int16.ofInt n).toInt32 = v) (k : J wd X Q nL (pc + 3) L (.int v :: st) σ mm) : J wd X Q nL pc L st σ mm := fun o ho H locs ls hP hD hS hl => lv_sipush G.x G.c hd hv (k o ho H locs ls hP hD hS hl)
theorem j_ldc {i : Nat} {v : Int32} (G : Gd X b nL own ret rm) (hd : decode b pc = .ok (.ldc i, 2)) (hw : Cond.constant own i v ∈ CW) (k : J wd X Q nL (pc + 2) L (.int v :: st) σ mm) : J wd X Q nL pc L st σ mm := fun o ho H locs ls hP hD hS hl => lv_ldc G.x G.c G.o (G.t _ hw) hd (k o ho H locs ls hP hD hS hl)
theorem j_ldc_w {i : Nat} {v : Int32} (G : Gd X b nL own ret rm) (hd : decode b pc = .ok (.ldc_w i, 3)) (hw : Cond.constant own i v ∈ CW) (k : J wd X Q nL (pc + 3) L (.int v :: st) σ mm) : J wd X Q nL pc L st σ mm := fun o ho H locs ls hP hD hS hl => lv_ldcw G.x G.c G.o (G.t _ hw) hd (k o ho H locs ls hP hD hS hl)
theorem j_dup {v : Value} (G : Gd X b nL own ret rm) (hd : decode b pc = .ok (.dup, 1)) (hv : v.category = 1) (k : J wd X Q nL (pc + 1) L (v :: v :: st) σ mm) : J wd X Q nL pc L (v :: st) σ mm := fun o ho H locs ls hP hD hS hl => lv_dup G.x G.c hd hv (k o ho H locs ls hP hD hS hl)
theorem j_pop {v : Value} (G : Gd X b nL own ret rm) (hd : decode b pc = .ok (.pop, 1)) (hv : v.category = 1) (k : J wd X Q nL (pc + 1) L st σ mm) : J wd X Q nL pc L (v :: st) σ mm := fun o ho H locs ls hP hD hS hl => lv_pop G.x G.c hd hv (k o ho H locs ls hP hD hS hl)
theorem j_goto {off : Int} {tgt : Nat} (G : Gd X b nL own ret rm) (hd : decode b pc = .ok (.goto off, 3)) (ht : (pc : Int) + off = (tgt : Int)) (k : J wd X Q nL tgt L st σ mm) : J wd X Q nL pc L st σ mm := fun o ho H locs ls hP hD hS hl => lv_goto G.x G.c hd ht (k o ho H locs ls hP hD hS hl)
theorem j_ifeq {x : Int32} {off : Int} {tgt : Nat} {mt mf : Option (Int32 × S)} (G : Gd X b nL own ret rm) (hd : decode b pc = .ok (.ifCond .eq off, 3)) (ht : (pc : Int) + off = (tgt : Int)) (kt : J wd X Q nL tgt L st σ mt) (kf : J wd X Q nL (pc + 3) L st σ mf) : J wd X Q nL pc L (.int x :: st) σ (if x = 0 then mt else mf) := fun o ho H locs ls hP hD hS hl => lv_if_eq G.x G.c hd ht (fun h => kt o (by rw [if_pos h] at ho; exact ho) H locs ls hP hD hS hl) (fun h => kf o (by rw [if_neg h] at ho; exact ho) H locs ls hP hD hS hl)
theorem j_ifne {x : Int32} {off : Int} {tgt : Nat} {mt mf : Option (Int32 × S)} (G : Gd X b nL own ret rm) (hd : decode b pc = .ok (.ifCond .ne off, 3)) (ht : (pc : Int) + off = (tgt : Int)) (kt : J wd X Q nL tgt L st σ mt) (kf : J wd X Q nL (pc + 3) L st σ mf) : J wd X Q nL pc L (.int x :: st) σ (if x = 0 then mf else mt) := fun o ho H locs ls hP hD hS hl => lv_if_ne G.x G.c hd ht (fun h => kt o (by rw [if_neg h] at ho; exact ho) H locs ls hP hD hS hl) (fun h => kf o (by rw [if_pos h] at ho; exact ho) H locs ls hP hD hS hl)
theorem j_iflt {x : Int32} {off : Int} {tgt : Nat} {mt mf : Option (Int32 × S)} (G : Gd X b nL own ret rm) (hd : decode b pc = .ok (.ifCond .lt off, 3)) (ht : (pc : Int) + off = (tgt : Int)) (kt : J wd X Q nL tgt L st σ mt) (kf : J wd X Q nL (pc + 3) L st σ mf) : J wd X Q nL pc L (.int x :: st) σ (if x < 0 then mt else mf) := fun o ho H locs ls hP hD hS hl => lv_if_lt G.x G.c hd ht (fun h => kt o (by rw [if_pos h] at ho; exact ho) H locs ls hP hD hS hl) (fun h => kf o (by rw [if_neg h] at ho; exact ho) H locs ls hP hD hS hl)
theorem j_ifge {x : Int32} {off : Int} {tgt : Nat} {mt mf : Option (Int32 × S)} (G : Gd X b nL own ret rm) (hd : decode b pc = .ok (.ifCond .ge off, 3)) (ht : (pc : Int) + off = (tgt : Int)) (kt : J wd X Q nL tgt L st σ mt) (kf : J wd X Q nL (pc + 3) L st σ mf) : J wd X Q nL pc L (.int x :: st) σ (if 0 ≤ x then mt else mf) := fun o ho H locs ls hP hD hS hl => lv_if_ge G.x G.c hd ht (fun h => kt o (by rw [if_pos h] at ho; exact ho) H locs ls hP hD hS hl) (fun h => kf o (by rw [if_neg h] at ho; exact ho) H locs ls hP hD hS hl)
theorem j_ifgt {x : Int32} {off : Int} {tgt : Nat} {mt mf : Option (Int32 × S)} (G : Gd X b nL own ret rm) (hd : decode b pc = .ok (.ifCond .gt off, 3)) (ht : (pc : Int) + off = (tgt : Int)) (kt : J wd X Q nL tgt L st σ mt) (kf : J wd X Q nL (pc + 3) L st σ mf) : J wd X Q nL pc L (.int x :: st) σ (if 0 < x then mt else mf) := fun o ho H locs ls hP hD hS hl => lv_if_gt G.x G.c hd ht (fun h => kt o (by rw [if_pos h] at ho; exact ho) H locs ls hP hD hS hl) (fun h => kf o (by rw [if_neg h] at ho; exact ho) H locs ls hP hD hS hl)
theorem j_ifle {x : Int32} {off : Int} {tgt : Nat} {mt mf : Option (Int32 × S)} (G : Gd X b nL own ret rm) (hd : decode b pc = .ok (.ifCond .le off, 3)) (ht : (pc : Int) + off = (tgt : Int)) (kt : J wd X Q nL tgt L st σ mt) (kf : J wd X Q nL (pc + 3) L st σ mf) : J wd X Q nL pc L (.int x :: st) σ (if x ≤ 0 then mt else mf) := fun o ho H locs ls hP hD hS hl => lv_if_le G.x G.c hd ht (fun h => kt o (by rw [if_pos h] at ho; exact ho) H locs ls hP hD hS hl) (fun h => kf o (by rw [if_neg h] at ho; exact ho) H locs ls hP hD hS hl)
theorem j_iceq {x y : Int32} {off : Int} {tgt : Nat} {mt mf : Option (Int32 × S)} (G : Gd X b nL own ret rm) (hd : decode b pc = .ok (.if_icmp .eq off, 3)) (ht : (pc : Int) + off = (tgt : Int)) (kt : J wd X Q nL tgt L st σ mt) (kf : J wd X Q nL (pc + 3) L st σ mf) : J wd X Q nL pc L (.int y :: .int x :: st) σ (if x = y then mt else mf) := fun o ho H locs ls hP hD hS hl => lv_icmp_eq G.x G.c hd ht (fun h => kt o (by rw [if_pos h] at ho; exact ho) H locs ls hP hD hS hl) (fun h => kf o (by rw [if_neg h] at ho; exact ho) H locs ls hP hD hS hl)
theorem j_icne {x y : Int32} {off : Int} {tgt : Nat} {mt mf : Option (Int32 × S)} (G : Gd X b nL own ret rm) (hd : decode b pc = .ok (.if_icmp .ne off, 3)) (ht : (pc : Int) + off = (tgt : Int)) (kt : J wd X Q nL tgt L st σ mt) (kf : J wd X Q nL (pc + 3) L st σ mf) : J wd X Q nL pc L (.int y :: .int x :: st) σ (if x = y then mf else mt) := fun o ho H locs ls hP hD hS hl => lv_icmp_ne G.x G.c hd ht (fun h => kt o (by rw [if_neg h] at ho; exact ho) H locs ls hP hD hS hl) (fun h => kf o (by rw [if_pos h] at ho; exact ho) H locs ls hP hD hS hl)
theorem j_iclt {x y : Int32} {off : Int} {tgt : Nat} {mt mf : Option (Int32 × S)} (G : Gd X b nL own ret rm) (hd : decode b pc = .ok (.if_icmp .lt off, 3)) (ht : (pc : Int) + off = (tgt : Int)) (kt : J wd X Q nL tgt L st σ mt) (kf : J wd X Q nL (pc + 3) L st σ mf) : J wd X Q nL pc L (.int y :: .int x :: st) σ (if x < y then mt else mf) := fun o ho H locs ls hP hD hS hl => lv_icmp_lt G.x G.c hd ht (fun h => kt o (by rw [if_pos h] at ho; exact ho) H locs ls hP hD hS hl) (fun h => kf o (by rw [if_neg h] at ho; exact ho) H locs ls hP hD hS hl)
theorem j_icge {x y : Int32} {off : Int} {tgt : Nat} {mt mf : Option (Int32 × S)} (G : Gd X b nL own ret rm) (hd : decode b pc = .ok (.if_icmp .ge off, 3)) (ht : (pc : Int) + off = (tgt : Int)) (kt : J wd X Q nL tgt L st σ mt) (kf : J wd X Q nL (pc + 3) L st σ mf) : J wd X Q nL pc L (.int y :: .int x :: st) σ (if y ≤ x then mt else mf) := fun o ho H locs ls hP hD hS hl => lv_icmp_ge G.x G.c hd ht (fun h => kt o (by rw [if_pos h] at ho; exact ho) H locs ls hP hD hS hl) (fun h => kf o (by rw [if_neg h] at ho; exact ho) H locs ls hP hD hS hl)
theorem j_icgt {x y : Int32} {off : Int} {tgt : Nat} {mt mf : Option (Int32 × S)} (G : Gd X b nL own ret rm) (hd : decode b pc = .ok (.if_icmp .gt off, 3)) (ht : (pc : Int) + off = (tgt : Int)) (kt : J wd X Q nL tgt L st σ mt) (kf : J wd X Q nL (pc + 3) L st σ mf) : J wd X Q nL pc L (.int y :: .int x :: st) σ (if y < x then mt else mf) := fun o ho H locs ls hP hD hS hl => lv_icmp_gt G.x G.c hd ht (fun h => kt o (by rw [if_pos h] at ho; exact ho) H locs ls hP hD hS hl) (fun h => kf o (by rw [if_neg h] at ho; exact ho) H locs ls hP hD hS hl)
theorem j_icle {x y : Int32} {off : Int} {tgt : Nat} {mt mf : Option (Int32 × S)} (G : Gd X b nL own ret rm) (hd : decode b pc = .ok (.if_icmp .le off, 3)) (ht : (pc : Int) + off = (tgt : Int)) (kt : J wd X Q nL tgt L st σ mt) (kf : J wd X Q nL (pc + 3) L st σ mf) : J wd X Q nL pc L (.int y :: .int x :: st) σ (if x ≤ y then mt else mf) := fun o ho H locs ls hP hD hS hl => lv_icmp_le G.x G.c hd ht (fun h => kt o (by rw [if_pos h] at ho; exact ho) H locs ls hP hD hS hl) (fun h => kf o (by rw [if_neg h] at ho; exact ho) H locs ls hP hD hS hl)
theorem j_iload_n {n : Fin 4} {i : Nat} {x : Int32} (k : Nat) (G : Gd X b nL own ret rm) (hd : decode b pc = .ok (.iload_n n, 1)) (hi : (n : Nat) = i) (hk : L[k]? = some (i, .int x)) (kj : J wd X Q nL (pc + 1) L (.int x :: st) σ mm) : J wd X Q nL pc L st σ mm := fun o ho H locs ls hP hD hS hl => lv_iload_n G.x G.c hd hi (lv_at hl k hk) (kj o ho H locs ls hP hD hS hl)
theorem j_iload {i : Nat} {x : Int32} (k : Nat) (G : Gd X b nL own ret rm) (hd : decode b pc = .ok (.iload i, 2)) (hk : L[k]? = some (i, .int x)) (kj : J wd X Q nL (pc + 2) L (.int x :: st) σ mm) : J wd X Q nL pc L st σ mm := fun o ho H locs ls hP hD hS hl => lv_iload G.x G.c hd (lv_at hl k hk) (kj o ho H locs ls hP hD hS hl)
theorem j_aload_n {n : Fin 4} {i : Nat} {x : Nat} (k : Nat) (G : Gd X b nL own ret rm) (hd : decode b pc = .ok (.aload_n n, 1)) (hi : (n : Nat) = i) (hk : L[k]? = some (i, .ref x)) (kj : J wd X Q nL (pc + 1) L (.ref x :: st) σ mm) : J wd X Q nL pc L st σ mm := fun o ho H locs ls hP hD hS hl => lv_aload_n G.x G.c hd hi (lv_at hl k hk) (kj o ho H locs ls hP hD hS hl)
def lsto (i : Nat) (v : Value) (L : List (Nat × Value)) : List (Nat × Value) := (i, v) :: L.filter (fun q => !(q.1 == i) && !(q.1 + 1 == i && q.2.category == 2))
theorem j_istore_n {n : Fin 4} {i : Nat} {x : Int32} {L1 : List (Nat × Value)} (ks : List Nat) (G : Gd X b nL own ret rm) (hd : decode b pc = .ok (.istore_n n, 1)) (hi : (n : Nat) = i) (hn : i < nL) (hL : lv_pick (lsto i (.int x) L) ks = L1) (kj : J wd X Q nL (pc + 1) L1 st σ mm) : J wd X Q nL pc L (.int x :: st) σ mm := fun o ho H locs ls hP hD hS hl => lv_istore_n G.x G.c hd hi hl hn rfl (fun ls1 hl1 => kj o ho H locs ls1 hP hD hS (lv_sub hl1 ks hL))
theorem j_istore {i : Nat} {x : Int32} {L1 : List (Nat × Value)} (ks : List Nat) (G : Gd X b nL own ret rm) (hd : decode b pc = .ok (.istore i, 2)) (hn : i < nL) (hL : lv_pick (lsto i (.int x) L) ks = L1) (kj : J wd X Q nL (pc + 2) L1 st σ mm) : J wd X Q nL pc L (.int x :: st) σ mm := fun o ho H locs ls hP hD hS hl => lv_istore G.x G.c hd hl hn rfl (fun ls1 hl1 => kj o ho H locs ls1 hP hD hS (lv_sub hl1 ks hL))
theorem j_iinc {i : Nat} {n : Int} {x v : Int32} {L1 : List (Nat × Value)} (k : Nat) (ks : List Nat) (G : Gd X b nL own ret rm) (hd : decode b pc = .ok (.iinc i n, 3)) (hk : L[k]? = some (i, .int x)) (hv : x + Int32.ofInt n = v) (hn : i < nL) (hL : lv_pick (lsto i (.int v) L) ks = L1) (kj : J wd X Q nL (pc + 3) L1 st σ mm) : J wd X Q nL pc L st σ mm := fun o ho H locs ls hP hD hS hl => lv_iinc G.x G.c hd hl hk hv hn rfl (fun ls1 hl1 => kj o ho H locs ls1 hP hD hS (lv_sub hl1 ks hL))
theorem j_sub {L1 : List (Nat × Value)} (ks : List Nat) (hL : lv_pick L ks = L1) (kj : J wd X Q nL pc L1 st σ mm) : J wd X Q nL pc L st σ mm := fun o ho H locs ls hP hD hS hl => kj o ho H locs ls hP hD hS (lv_sub hl ks hL)
theorem j_nm {x : Int32} {kk : Int32 → Option (Int32 × S)} (k : ∀ v : Int32, J wd X Q nL pc L (.int v :: st) σ (kk v)) : J wd X Q nL pc L (.int x :: st) σ (nm x kk) := k x
theorem j_ns {τ : S} {kk : S → Option (Int32 × S)} (k : ∀ v : S, J wd X Q nL pc L st v (kk v)) : J wd X Q nL pc L st τ (ns τ kk) := k τ
theorem j_iret {v : Int32} (G : Gd X b nL own (some .int) rm) (hd : decode b pc = .ok (.ireturn, 1)) : J wd X (QI wd X) nL pc L [.int v] σ (some (v, σ)) := fun o ho H locs ls hP hD hS hl => by
  cases ho
  exact W.iret (hlocks := G.k) G.x G.c G.r (fun t ht hW => ⟨⟨v, σ, rfl, ⟨rfl, rfl⟩, okw_of G hP hD hS ht hW.alike⟩, hS.F ht⟩) hS.2.2 hd
theorem j_zret {v : Int32} (G : Gd X b nL own (some .boolean) rm) (hd : decode b pc = .ok (.ireturn, 1)) : J wd X (QI wd X) nL pc L [.int v] σ (gd (isB v) (some (v, σ))) := fun o ho H locs ls hP hD hS hl => by
  obtain ⟨hv, ho⟩ := gd_some ho
  cases ho
  exact W.zret (hlocks := G.k) G.x G.c G.r (isB_ok hv).1 (fun t ht hW => ⟨⟨v, σ, rfl, ⟨rfl, rfl⟩, okw_of G hP hD hS ht hW.alike⟩, hS.F ht⟩) hS.2.2 hd
theorem j_zretc {v : Int32} (hv : isB v = true) (G : Gd X b nL own (some .boolean) rm) (hd : decode b pc = .ok (.ireturn, 1)) : J wd X (QI wd X) nL pc L [.int v] σ (some (v, σ)) := fun o ho H locs ls hP hD hS hl => by
  cases ho
  exact W.zret (hlocks := G.k) G.x G.c G.r (isB_ok hv).1 (fun t ht hW => ⟨⟨v, σ, rfl, ⟨rfl, rfl⟩, okw_of G hP hD hS ht hW.alike⟩, hS.F ht⟩) hS.2.2 hd
theorem j_vret (G : Gd X b nL own none rm) (hd : decode b pc = .ok (.return_, 1)) : J wd X (QV wd X) nL pc L [] σ (some (0, σ)) := fun o ho H locs ls hP hD hS hl => by
  cases ho
  exact W.vret (hlocks := G.k) G.x G.c G.r (fun t ht hW => ⟨⟨σ, rfl, rfl, okw_of G hP hD hS ht hW.alike⟩, hS.F ht⟩) hS.2.2 hd
theorem j_callVi {y : MethodName} {yb : ByteArray} {yn n f fl yf yl idx : Nat} {yret : Option FieldType} {a : Nat} {As rest st0 : List Value} {kk : Int32 → S → Option (Int32 × S)}
    (G : Gd X b nL own ret (rmm f fl)) (hM : CtI wd (xl X) (xE X) y yb yn yret (rmm yf yl) (.ref a :: As) σ m1) (hm : MwV y yb yn yret n) (hlk : Cond.methodLink own idx y ∈ CW) (hr : Rcv wd (xE X) a y.cls) (hn : As.length = n) (hst : st0 = As.reverse ++ .ref a :: rest) (hc : (rest.map fun v => v.category).sum ≤ 8) (hrm : rok yf yl yn f fl = true) (hd : decode b pc = .ok (.invokevirtual idx, 3)) (kj : ∀ (r : Int32) (u : S), J wd X Q nL (pc + 3) L (.int r :: rest) u (kk r u)) : J wd X Q nL pc L st0 σ (bd m1 kk) := fun o ho H locs ls hP hD hS hl => by
  obtain ⟨z, hz1, hz2⟩ := bd_some ho
  have hB : CallB (xR X) (xs X) (xa X) own idx y yb yn yret (Cond.code y yb yn yret :: CW) (rmm yf yl) 0 0 n := callB_of n G.t (cw_in (fun w hw => by
    rcases List.mem_cons.mp hw with rfl | h
    · exact hm.1.2.1
    · exact h)) rfl rfl rfl (G.t _ hm.1.1) (G.t _ hlk) hm.1.2.2 (by rw [G.R]; exact rok_1 hrm)
  obtain ⟨q0, ci, fs, T, N, hr1, hr2⟩ := hr σ
  refine va_calli (va_runV (Ts := CW) (C := y.cls) (b := a) (As := As) (rest := rest) ⟨G.x, G.c, G.n, G.o, G.t⟩ (hM z hz1) ⟨hB, G.t _ hm.2.1, G.t _ hm.2.2⟩ ⟨Okw.blind, va_recv G.K hP hr2 hr1, fun U hU hW => ⟨rfl, okw_of G hP hD hS hU hW.alike⟩⟩ rfl hn hl.1 hst (lv_room hc) hd ⟨Nat.zero_le _, Nat.zero_le _⟩) hS (fun q _ h => h) (fun q h => h) ?_
  intro r u t H1 locs1 ht hvm hpost hB1 hz hk hS1
  obtain ⟨h1, h2⟩ := hpost
  subst h1; subst h2
  obtain ⟨hP1, -, hD1, -⟩ := hB1
  rw [ht] at hP1
  exact kj z.1 z.2 o hz2 H1 locs1 ls hP1 hD1 hS1 hl
theorem j_callVv {y : MethodName} {yb : ByteArray} {yn n f fl yf yl idx : Nat} {yret : Option FieldType} {a : Nat} {As rest st0 : List Value} {kk : Int32 → S → Option (Int32 × S)}
    (G : Gd X b nL own ret (rmm f fl)) (hM : CtV wd (xl X) (xE X) y yb yn yret (rmm yf yl) (.ref a :: As) σ m1) (hm : MwV y yb yn yret n) (hlk : Cond.methodLink own idx y ∈ CW) (hr : Rcv wd (xE X) a y.cls) (hn : As.length = n) (hst : st0 = As.reverse ++ .ref a :: rest) (hc : (rest.map fun v => v.category).sum ≤ 8) (hrm : rok yf yl yn f fl = true) (hd : decode b pc = .ok (.invokevirtual idx, 3)) (kj : ∀ (z : Int32) (u : S), J wd X Q nL (pc + 3) L rest u (kk z u)) : J wd X Q nL pc L st0 σ (bd m1 kk) := fun o ho H locs ls hP hD hS hl => by
  obtain ⟨z, hz1, hz2⟩ := bd_some ho
  have hB : CallB (xR X) (xs X) (xa X) own idx y yb yn yret (Cond.code y yb yn yret :: CW) (rmm yf yl) 0 0 n := callB_of n G.t (cw_in (fun w hw => by
    rcases List.mem_cons.mp hw with rfl | h
    · exact hm.1.2.1
    · exact h)) rfl rfl rfl (G.t _ hm.1.1) (G.t _ hlk) hm.1.2.2 (by rw [G.R]; exact rok_1 hrm)
  obtain ⟨q0, ci, fs, T, N, hr1, hr2⟩ := hr σ
  refine va_callv (va_runV (Ts := CW) (C := y.cls) (b := a) (As := As) (rest := rest) ⟨G.x, G.c, G.n, G.o, G.t⟩ (hM z hz1) ⟨hB, G.t _ hm.2.1, G.t _ hm.2.2⟩ ⟨Okw.blind, va_recv G.K hP hr2 hr1, fun U hU hW => ⟨rfl, okw_of G hP hD hS hU hW.alike⟩⟩ rfl hn hl.1 hst (lv_room hc) hd ⟨Nat.zero_le _, Nat.zero_le _⟩) hS (fun q _ h => h) (fun q h => h) ?_
  intro u t H1 locs1 ht hvm hpost hB1 hz hk hS1
  subst hpost
  obtain ⟨hP1, -, hD1, -⟩ := hB1
  rw [ht] at hP1
  exact kj z.1 z.2 o hz2 H1 locs1 ls hP1 hD1 hS1 hl
theorem j_callSi {y : MethodName} {yb : ByteArray} {yn n f fl yf yl idx : Nat} {yret : Option FieldType} {As rest st0 : List Value} {kk : Int32 → S → Option (Int32 × S)}
    (G : Gd X b nL own ret (rmm f fl)) (hM : CtI wd (xl X) (xE X) y yb yn yret (rmm yf yl) (As) σ m1) (hm : MwS y yb yn yret n) (hlk : Cond.methodLink own idx y ∈ CW) (hn : As.length = n) (hst : st0 = As.reverse ++ rest) (hc : (rest.map fun v => v.category).sum ≤ 8) (hrm : rok yf yl yn f fl = true) (hd : decode b pc = .ok (.invokestatic idx, 3)) (kj : ∀ (r : Int32) (u : S), J wd X Q nL (pc + 3) L (.int r :: rest) u (kk r u)) : J wd X Q nL pc L st0 σ (bd m1 kk) := fun o ho H locs ls hP hD hS hl => by
  obtain ⟨z, hz1, hz2⟩ := bd_some ho
  have hB : CallB (xR X) (xs X) (xa X) own idx y yb yn yret (Cond.code y yb yn yret :: CW) (rmm yf yl) 0 0 n := callB_of n G.t (cw_in (fun w hw => by
    rcases List.mem_cons.mp hw with rfl | h
    · exact hm.1.2.1
    · exact h)) rfl rfl rfl (G.t _ hm.1.1) (G.t _ hlk) hm.1.2.2 (by rw [G.R]; exact rok_1 hrm)
  refine va_calli (va_runS (Ts := CW) (As := As) (rest := rest) ⟨G.x, G.c, G.n, G.o, G.t⟩ (hM z hz1) ⟨hB, G.t _ hm.2⟩ ⟨Okw.blind, fun U hU hW => ⟨rfl, okw_of G hP hD hS hU hW.alike⟩⟩ rfl hn hl.1 hst (lv_room hc) hd ⟨Nat.zero_le _, Nat.zero_le _⟩) hS (fun q _ h => h) (fun q h => h) ?_
  intro r u t H1 locs1 ht hvm hpost hB1 hz hk hS1
  obtain ⟨h1, h2⟩ := hpost
  subst h1; subst h2
  obtain ⟨hP1, -, hD1, -⟩ := hB1
  rw [ht] at hP1
  exact kj z.1 z.2 o hz2 H1 locs1 ls hP1 hD1 hS1 hl
theorem j_callSv {y : MethodName} {yb : ByteArray} {yn n f fl yf yl idx : Nat} {yret : Option FieldType} {As rest st0 : List Value} {kk : Int32 → S → Option (Int32 × S)}
    (G : Gd X b nL own ret (rmm f fl)) (hM : CtV wd (xl X) (xE X) y yb yn yret (rmm yf yl) (As) σ m1) (hm : MwS y yb yn yret n) (hlk : Cond.methodLink own idx y ∈ CW) (hn : As.length = n) (hst : st0 = As.reverse ++ rest) (hc : (rest.map fun v => v.category).sum ≤ 8) (hrm : rok yf yl yn f fl = true) (hd : decode b pc = .ok (.invokestatic idx, 3)) (kj : ∀ (z : Int32) (u : S), J wd X Q nL (pc + 3) L rest u (kk z u)) : J wd X Q nL pc L st0 σ (bd m1 kk) := fun o ho H locs ls hP hD hS hl => by
  obtain ⟨z, hz1, hz2⟩ := bd_some ho
  have hB : CallB (xR X) (xs X) (xa X) own idx y yb yn yret (Cond.code y yb yn yret :: CW) (rmm yf yl) 0 0 n := callB_of n G.t (cw_in (fun w hw => by
    rcases List.mem_cons.mp hw with rfl | h
    · exact hm.1.2.1
    · exact h)) rfl rfl rfl (G.t _ hm.1.1) (G.t _ hlk) hm.1.2.2 (by rw [G.R]; exact rok_1 hrm)
  refine va_callv (va_runS (Ts := CW) (As := As) (rest := rest) ⟨G.x, G.c, G.n, G.o, G.t⟩ (hM z hz1) ⟨hB, G.t _ hm.2⟩ ⟨Okw.blind, fun U hU hW => ⟨rfl, okw_of G hP hD hS hU hW.alike⟩⟩ rfl hn hl.1 hst (lv_room hc) hd ⟨Nat.zero_le _, Nat.zero_le _⟩) hS (fun q _ h => h) (fun q h => h) ?_
  intro u t H1 locs1 ht hvm hpost hB1 hz hk hS1
  subst hpost
  obtain ⟨hP1, -, hD1, -⟩ := hB1
  rw [ht] at hP1
  exact kj z.1 z.2 o hz2 H1 locs1 ls hP1 hD1 hS1 hl
theorem j_Vi0 {y : MethodName} {yb : ByteArray} {yn f fl yf yl idx : Nat} {yret : Option FieldType} {a : Nat} {rest : List Value} {kk : Int32 → S → Option (Int32 × S)} (G : Gd X b nL own ret (rmm f fl)) (hM : CtI wd (xl X) (xE X) y yb yn yret (rmm yf yl) (.ref a :: []) σ m1) (hm : MwV y yb yn yret 0) (hlk : Cond.methodLink own idx y ∈ CW) (hr : Rcv wd (xE X) a y.cls) (hd : decode b pc = .ok (.invokevirtual idx, 3)) (hrm : rok yf yl yn f fl = true) (hc : (rest.map fun v => v.category).sum ≤ 8) (kj : ∀ (r : Int32) (u : S), J wd X Q nL (pc + 3) L (.int r :: rest) u (kk r u)) : J wd X Q nL pc L (.ref a :: rest) σ (bd m1 kk) := j_callVi (As := []) G hM hm hlk hr rfl rfl hc hrm hd kj
theorem j_Vi1 {y : MethodName} {yb : ByteArray} {yn f fl yf yl idx : Nat} {yret : Option FieldType} {a : Nat} {a1 : Int32} {rest : List Value} {kk : Int32 → S → Option (Int32 × S)} (G : Gd X b nL own ret (rmm f fl)) (hM : CtI wd (xl X) (xE X) y yb yn yret (rmm yf yl) (.ref a :: [.int a1]) σ m1) (hm : MwV y yb yn yret 1) (hlk : Cond.methodLink own idx y ∈ CW) (hr : Rcv wd (xE X) a y.cls) (hd : decode b pc = .ok (.invokevirtual idx, 3)) (hrm : rok yf yl yn f fl = true) (hc : (rest.map fun v => v.category).sum ≤ 8) (kj : ∀ (r : Int32) (u : S), J wd X Q nL (pc + 3) L (.int r :: rest) u (kk r u)) : J wd X Q nL pc L (.int a1 :: .ref a :: rest) σ (bd m1 kk) := j_callVi (As := [.int a1]) G hM hm hlk hr rfl rfl hc hrm hd kj
theorem j_Vi2 {y : MethodName} {yb : ByteArray} {yn f fl yf yl idx : Nat} {yret : Option FieldType} {a : Nat} {a1 a2 : Int32} {rest : List Value} {kk : Int32 → S → Option (Int32 × S)} (G : Gd X b nL own ret (rmm f fl)) (hM : CtI wd (xl X) (xE X) y yb yn yret (rmm yf yl) (.ref a :: [.int a1, .int a2]) σ m1) (hm : MwV y yb yn yret 2) (hlk : Cond.methodLink own idx y ∈ CW) (hr : Rcv wd (xE X) a y.cls) (hd : decode b pc = .ok (.invokevirtual idx, 3)) (hrm : rok yf yl yn f fl = true) (hc : (rest.map fun v => v.category).sum ≤ 8) (kj : ∀ (r : Int32) (u : S), J wd X Q nL (pc + 3) L (.int r :: rest) u (kk r u)) : J wd X Q nL pc L (.int a2 :: .int a1 :: .ref a :: rest) σ (bd m1 kk) := j_callVi (As := [.int a1, .int a2]) G hM hm hlk hr rfl rfl hc hrm hd kj
theorem j_Vi3 {y : MethodName} {yb : ByteArray} {yn f fl yf yl idx : Nat} {yret : Option FieldType} {a : Nat} {a1 a2 a3 : Int32} {rest : List Value} {kk : Int32 → S → Option (Int32 × S)} (G : Gd X b nL own ret (rmm f fl)) (hM : CtI wd (xl X) (xE X) y yb yn yret (rmm yf yl) (.ref a :: [.int a1, .int a2, .int a3]) σ m1) (hm : MwV y yb yn yret 3) (hlk : Cond.methodLink own idx y ∈ CW) (hr : Rcv wd (xE X) a y.cls) (hd : decode b pc = .ok (.invokevirtual idx, 3)) (hrm : rok yf yl yn f fl = true) (hc : (rest.map fun v => v.category).sum ≤ 8) (kj : ∀ (r : Int32) (u : S), J wd X Q nL (pc + 3) L (.int r :: rest) u (kk r u)) : J wd X Q nL pc L (.int a3 :: .int a2 :: .int a1 :: .ref a :: rest) σ (bd m1 kk) := j_callVi (As := [.int a1, .int a2, .int a3]) G hM hm hlk hr rfl rfl hc hrm hd kj
theorem j_Vi4 {y : MethodName} {yb : ByteArray} {yn f fl yf yl idx : Nat} {yret : Option FieldType} {a : Nat} {a1 a2 a3 a4 : Int32} {rest : List Value} {kk : Int32 → S → Option (Int32 × S)} (G : Gd X b nL own ret (rmm f fl)) (hM : CtI wd (xl X) (xE X) y yb yn yret (rmm yf yl) (.ref a :: [.int a1, .int a2, .int a3, .int a4]) σ m1) (hm : MwV y yb yn yret 4) (hlk : Cond.methodLink own idx y ∈ CW) (hr : Rcv wd (xE X) a y.cls) (hd : decode b pc = .ok (.invokevirtual idx, 3)) (hrm : rok yf yl yn f fl = true) (hc : (rest.map fun v => v.category).sum ≤ 8) (kj : ∀ (r : Int32) (u : S), J wd X Q nL (pc + 3) L (.int r :: rest) u (kk r u)) : J wd X Q nL pc L (.int a4 :: .int a3 :: .int a2 :: .int a1 :: .ref a :: rest) σ (bd m1 kk) := j_callVi (As := [.int a1, .int a2, .int a3, .int a4]) G hM hm hlk hr rfl rfl hc hrm hd kj
theorem j_Vv0 {y : MethodName} {yb : ByteArray} {yn f fl yf yl idx : Nat} {yret : Option FieldType} {a : Nat} {rest : List Value} {kk : Int32 → S → Option (Int32 × S)} (G : Gd X b nL own ret (rmm f fl)) (hM : CtV wd (xl X) (xE X) y yb yn yret (rmm yf yl) (.ref a :: []) σ m1) (hm : MwV y yb yn yret 0) (hlk : Cond.methodLink own idx y ∈ CW) (hr : Rcv wd (xE X) a y.cls) (hd : decode b pc = .ok (.invokevirtual idx, 3)) (hrm : rok yf yl yn f fl = true) (hc : (rest.map fun v => v.category).sum ≤ 8) (kj : ∀ (z : Int32) (u : S), J wd X Q nL (pc + 3) L rest u (kk z u)) : J wd X Q nL pc L (.ref a :: rest) σ (bd m1 kk) := j_callVv (As := []) G hM hm hlk hr rfl rfl hc hrm hd kj
theorem j_Vv1 {y : MethodName} {yb : ByteArray} {yn f fl yf yl idx : Nat} {yret : Option FieldType} {a : Nat} {a1 : Int32} {rest : List Value} {kk : Int32 → S → Option (Int32 × S)} (G : Gd X b nL own ret (rmm f fl)) (hM : CtV wd (xl X) (xE X) y yb yn yret (rmm yf yl) (.ref a :: [.int a1]) σ m1) (hm : MwV y yb yn yret 1) (hlk : Cond.methodLink own idx y ∈ CW) (hr : Rcv wd (xE X) a y.cls) (hd : decode b pc = .ok (.invokevirtual idx, 3)) (hrm : rok yf yl yn f fl = true) (hc : (rest.map fun v => v.category).sum ≤ 8) (kj : ∀ (z : Int32) (u : S), J wd X Q nL (pc + 3) L rest u (kk z u)) : J wd X Q nL pc L (.int a1 :: .ref a :: rest) σ (bd m1 kk) := j_callVv (As := [.int a1]) G hM hm hlk hr rfl rfl hc hrm hd kj
theorem j_Vv2 {y : MethodName} {yb : ByteArray} {yn f fl yf yl idx : Nat} {yret : Option FieldType} {a : Nat} {a1 a2 : Int32} {rest : List Value} {kk : Int32 → S → Option (Int32 × S)} (G : Gd X b nL own ret (rmm f fl)) (hM : CtV wd (xl X) (xE X) y yb yn yret (rmm yf yl) (.ref a :: [.int a1, .int a2]) σ m1) (hm : MwV y yb yn yret 2) (hlk : Cond.methodLink own idx y ∈ CW) (hr : Rcv wd (xE X) a y.cls) (hd : decode b pc = .ok (.invokevirtual idx, 3)) (hrm : rok yf yl yn f fl = true) (hc : (rest.map fun v => v.category).sum ≤ 8) (kj : ∀ (z : Int32) (u : S), J wd X Q nL (pc + 3) L rest u (kk z u)) : J wd X Q nL pc L (.int a2 :: .int a1 :: .ref a :: rest) σ (bd m1 kk) := j_callVv (As := [.int a1, .int a2]) G hM hm hlk hr rfl rfl hc hrm hd kj
theorem j_Vv3 {y : MethodName} {yb : ByteArray} {yn f fl yf yl idx : Nat} {yret : Option FieldType} {a : Nat} {a1 a2 a3 : Int32} {rest : List Value} {kk : Int32 → S → Option (Int32 × S)} (G : Gd X b nL own ret (rmm f fl)) (hM : CtV wd (xl X) (xE X) y yb yn yret (rmm yf yl) (.ref a :: [.int a1, .int a2, .int a3]) σ m1) (hm : MwV y yb yn yret 3) (hlk : Cond.methodLink own idx y ∈ CW) (hr : Rcv wd (xE X) a y.cls) (hd : decode b pc = .ok (.invokevirtual idx, 3)) (hrm : rok yf yl yn f fl = true) (hc : (rest.map fun v => v.category).sum ≤ 8) (kj : ∀ (z : Int32) (u : S), J wd X Q nL (pc + 3) L rest u (kk z u)) : J wd X Q nL pc L (.int a3 :: .int a2 :: .int a1 :: .ref a :: rest) σ (bd m1 kk) := j_callVv (As := [.int a1, .int a2, .int a3]) G hM hm hlk hr rfl rfl hc hrm hd kj
theorem j_Vv4 {y : MethodName} {yb : ByteArray} {yn f fl yf yl idx : Nat} {yret : Option FieldType} {a : Nat} {a1 a2 a3 a4 : Int32} {rest : List Value} {kk : Int32 → S → Option (Int32 × S)} (G : Gd X b nL own ret (rmm f fl)) (hM : CtV wd (xl X) (xE X) y yb yn yret (rmm yf yl) (.ref a :: [.int a1, .int a2, .int a3, .int a4]) σ m1) (hm : MwV y yb yn yret 4) (hlk : Cond.methodLink own idx y ∈ CW) (hr : Rcv wd (xE X) a y.cls) (hd : decode b pc = .ok (.invokevirtual idx, 3)) (hrm : rok yf yl yn f fl = true) (hc : (rest.map fun v => v.category).sum ≤ 8) (kj : ∀ (z : Int32) (u : S), J wd X Q nL (pc + 3) L rest u (kk z u)) : J wd X Q nL pc L (.int a4 :: .int a3 :: .int a2 :: .int a1 :: .ref a :: rest) σ (bd m1 kk) := j_callVv (As := [.int a1, .int a2, .int a3, .int a4]) G hM hm hlk hr rfl rfl hc hrm hd kj
theorem j_Si1 {y : MethodName} {yb : ByteArray} {yn f fl yf yl idx : Nat} {yret : Option FieldType} {a1 : Int32} {rest : List Value} {kk : Int32 → S → Option (Int32 × S)} (G : Gd X b nL own ret (rmm f fl)) (hM : CtI wd (xl X) (xE X) y yb yn yret (rmm yf yl) ([.int a1]) σ m1) (hm : MwS y yb yn yret 1) (hlk : Cond.methodLink own idx y ∈ CW) (hd : decode b pc = .ok (.invokestatic idx, 3)) (hrm : rok yf yl yn f fl = true) (hc : (rest.map fun v => v.category).sum ≤ 8) (kj : ∀ (r : Int32) (u : S), J wd X Q nL (pc + 3) L (.int r :: rest) u (kk r u)) : J wd X Q nL pc L (.int a1 :: rest) σ (bd m1 kk) := j_callSi (As := [.int a1]) G hM hm hlk rfl rfl hc hrm hd kj
theorem j_Si2 {y : MethodName} {yb : ByteArray} {yn f fl yf yl idx : Nat} {yret : Option FieldType} {a1 a2 : Int32} {rest : List Value} {kk : Int32 → S → Option (Int32 × S)} (G : Gd X b nL own ret (rmm f fl)) (hM : CtI wd (xl X) (xE X) y yb yn yret (rmm yf yl) ([.int a1, .int a2]) σ m1) (hm : MwS y yb yn yret 2) (hlk : Cond.methodLink own idx y ∈ CW) (hd : decode b pc = .ok (.invokestatic idx, 3)) (hrm : rok yf yl yn f fl = true) (hc : (rest.map fun v => v.category).sum ≤ 8) (kj : ∀ (r : Int32) (u : S), J wd X Q nL (pc + 3) L (.int r :: rest) u (kk r u)) : J wd X Q nL pc L (.int a2 :: .int a1 :: rest) σ (bd m1 kk) := j_callSi (As := [.int a1, .int a2]) G hM hm hlk rfl rfl hc hrm hd kj
theorem j_Si3 {y : MethodName} {yb : ByteArray} {yn f fl yf yl idx : Nat} {yret : Option FieldType} {a1 a2 a3 : Int32} {rest : List Value} {kk : Int32 → S → Option (Int32 × S)} (G : Gd X b nL own ret (rmm f fl)) (hM : CtI wd (xl X) (xE X) y yb yn yret (rmm yf yl) ([.int a1, .int a2, .int a3]) σ m1) (hm : MwS y yb yn yret 3) (hlk : Cond.methodLink own idx y ∈ CW) (hd : decode b pc = .ok (.invokestatic idx, 3)) (hrm : rok yf yl yn f fl = true) (hc : (rest.map fun v => v.category).sum ≤ 8) (kj : ∀ (r : Int32) (u : S), J wd X Q nL (pc + 3) L (.int r :: rest) u (kk r u)) : J wd X Q nL pc L (.int a3 :: .int a2 :: .int a1 :: rest) σ (bd m1 kk) := j_callSi (As := [.int a1, .int a2, .int a3]) G hM hm hlk rfl rfl hc hrm hd kj
theorem j_Si4 {y : MethodName} {yb : ByteArray} {yn f fl yf yl idx : Nat} {yret : Option FieldType} {a1 a2 a3 a4 : Int32} {rest : List Value} {kk : Int32 → S → Option (Int32 × S)} (G : Gd X b nL own ret (rmm f fl)) (hM : CtI wd (xl X) (xE X) y yb yn yret (rmm yf yl) ([.int a1, .int a2, .int a3, .int a4]) σ m1) (hm : MwS y yb yn yret 4) (hlk : Cond.methodLink own idx y ∈ CW) (hd : decode b pc = .ok (.invokestatic idx, 3)) (hrm : rok yf yl yn f fl = true) (hc : (rest.map fun v => v.category).sum ≤ 8) (kj : ∀ (r : Int32) (u : S), J wd X Q nL (pc + 3) L (.int r :: rest) u (kk r u)) : J wd X Q nL pc L (.int a4 :: .int a3 :: .int a2 :: .int a1 :: rest) σ (bd m1 kk) := j_callSi (As := [.int a1, .int a2, .int a3, .int a4]) G hM hm hlk rfl rfl hc hrm hd kj
theorem j_Sv1 {y : MethodName} {yb : ByteArray} {yn f fl yf yl idx : Nat} {yret : Option FieldType} {a1 : Int32} {rest : List Value} {kk : Int32 → S → Option (Int32 × S)} (G : Gd X b nL own ret (rmm f fl)) (hM : CtV wd (xl X) (xE X) y yb yn yret (rmm yf yl) ([.int a1]) σ m1) (hm : MwS y yb yn yret 1) (hlk : Cond.methodLink own idx y ∈ CW) (hd : decode b pc = .ok (.invokestatic idx, 3)) (hrm : rok yf yl yn f fl = true) (hc : (rest.map fun v => v.category).sum ≤ 8) (kj : ∀ (z : Int32) (u : S), J wd X Q nL (pc + 3) L rest u (kk z u)) : J wd X Q nL pc L (.int a1 :: rest) σ (bd m1 kk) := j_callSv (As := [.int a1]) G hM hm hlk rfl rfl hc hrm hd kj
theorem j_Sv2 {y : MethodName} {yb : ByteArray} {yn f fl yf yl idx : Nat} {yret : Option FieldType} {a1 a2 : Int32} {rest : List Value} {kk : Int32 → S → Option (Int32 × S)} (G : Gd X b nL own ret (rmm f fl)) (hM : CtV wd (xl X) (xE X) y yb yn yret (rmm yf yl) ([.int a1, .int a2]) σ m1) (hm : MwS y yb yn yret 2) (hlk : Cond.methodLink own idx y ∈ CW) (hd : decode b pc = .ok (.invokestatic idx, 3)) (hrm : rok yf yl yn f fl = true) (hc : (rest.map fun v => v.category).sum ≤ 8) (kj : ∀ (z : Int32) (u : S), J wd X Q nL (pc + 3) L rest u (kk z u)) : J wd X Q nL pc L (.int a2 :: .int a1 :: rest) σ (bd m1 kk) := j_callSv (As := [.int a1, .int a2]) G hM hm hlk rfl rfl hc hrm hd kj
theorem j_Sv3 {y : MethodName} {yb : ByteArray} {yn f fl yf yl idx : Nat} {yret : Option FieldType} {a1 a2 a3 : Int32} {rest : List Value} {kk : Int32 → S → Option (Int32 × S)} (G : Gd X b nL own ret (rmm f fl)) (hM : CtV wd (xl X) (xE X) y yb yn yret (rmm yf yl) ([.int a1, .int a2, .int a3]) σ m1) (hm : MwS y yb yn yret 3) (hlk : Cond.methodLink own idx y ∈ CW) (hd : decode b pc = .ok (.invokestatic idx, 3)) (hrm : rok yf yl yn f fl = true) (hc : (rest.map fun v => v.category).sum ≤ 8) (kj : ∀ (z : Int32) (u : S), J wd X Q nL (pc + 3) L rest u (kk z u)) : J wd X Q nL pc L (.int a3 :: .int a2 :: .int a1 :: rest) σ (bd m1 kk) := j_callSv (As := [.int a1, .int a2, .int a3]) G hM hm hlk rfl rfl hc hrm hd kj
theorem j_Sv4 {y : MethodName} {yb : ByteArray} {yn f fl yf yl idx : Nat} {yret : Option FieldType} {a1 a2 a3 a4 : Int32} {rest : List Value} {kk : Int32 → S → Option (Int32 × S)} (G : Gd X b nL own ret (rmm f fl)) (hM : CtV wd (xl X) (xE X) y yb yn yret (rmm yf yl) ([.int a1, .int a2, .int a3, .int a4]) σ m1) (hm : MwS y yb yn yret 4) (hlk : Cond.methodLink own idx y ∈ CW) (hd : decode b pc = .ok (.invokestatic idx, 3)) (hrm : rok yf yl yn f fl = true) (hc : (rest.map fun v => v.category).sum ≤ 8) (kj : ∀ (z : Int32) (u : S), J wd X Q nL (pc + 3) L rest u (kk z u)) : J wd X Q nL pc L (.int a4 :: .int a3 :: .int a2 :: .int a1 :: rest) σ (bd m1 kk) := j_callSv (As := [.int a1, .int a2, .int a3, .int a4]) G hM hm hlk rfl rfl hc hrm hd kj
theorem j_get (q0 : Nat) {a ci idx : Nat} {fs : List Value} {C : String} {T : u_T} {N : Nat} {v : Value} (k : Nat) (he : (wd (eO (xE X)) (eC (xE X)) σ)[q0]? = some (a, .inr (ci, fs))) (hc : vwCl[ci]? = some (C, T, N)) (hin : ∀ w ∈ u_ws C T N, w ∈ CW) (hk : k < N) (hlk : Cond.fieldLink own idx C (T k).2.1 (T k).2.2.1 ∈ CW) (hdecl : (T k).1 = C) (hv : fs[k]? = some v) (G : Gd X b nL own ret rm) (hd : decode b pc = .ok (.getfield idx, 3)) (kj : J wd X Q nL (pc + 3) L (v :: st) σ mm) : J wd X Q nL pc L (.ref a :: st) σ mm := fun o ho H locs ls hP hD hS hl =>
  va_get (D := eD (xE X)) (ci := ci) (v := v) (C := C) (T := T) (N := N) G.x G.c G.t hin G.o G.K hP q0 he hc k hk (G.t _ hlk) (fun x9 h9 => by rw [hdecl] at h9; exact h9) hv hd (kj o ho H locs ls hP hD hS hl)
theorem j_put (q0 : Nat) {a ci idx : Nat} {fs : List Value} {C : String} {T : u_T} {N : Nat} {v : Value} {ty : FieldType} (k : Nat) (ty0 : Nat → FieldType) (he : (wd (eO (xE X)) (eC (xE X)) σ)[q0]? = some (a, .inr (ci, fs))) (hc : vwCl[ci]? = some (C, T, N)) (hin : ∀ w ∈ u_ws C T N, w ∈ CW) (hty : ∀ k, k < N → parseFieldDescriptor (T k).2.2.1 = some (ty0 k)) (hnm : ∀ a, a < N → ∀ b, b < N → a ≠ b → (T a).2.1 ≠ (T b).2.1) (hk : k < N) (hlk : Cond.fieldLink own idx C (T k).2.1 (T k).2.2.1 ∈ CW) (hdecl : (T k).1 = C) (hfin : (T k).2.2.2 = false) (hd0 : parseFieldDescriptor (T k).2.2.1 = some ty) (hn : narrow ty v = v) (hfit : fits ty v = true) (hl0 : k < fs.length) (σ1 : S) (hσ : (wd (eO (xE X)) (eC (xE X)) σ).set q0 (a, .inr (ci, fs.set k v)) = wd (eO (xE X)) (eC (xE X)) σ1) (G : Gd X b nL own ret rm) (hd : decode b pc = .ok (.putfield idx, 3)) (kj : J wd X Q nL (pc + 3) L st σ1 mm) : J wd X Q nL pc L (v :: .ref a :: st) σ mm := fun o ho H locs ls hP hD hS hl =>
  va_put (D := eD (xE X)) (ci := ci) (v := v) (ty := ty) (C := C) (T := T) (N := N) G.x G.c G.t hin ty0 hty hnm G.o G.K hP hD hS q0 he hc k hk (G.t _ hlk) (fun x9 h9 => by rw [hdecl] at h9; exact h9) hfin hd0 hn hfit hl0 hd (fun H1 locs1 hP1 hD1 hS1 => kj o ho H1 locs1 ls (hσ ▸ hP1) (hσ ▸ hD1) hS1 hl)
theorem j_ald (q0 : Nat) {a n : Nat} {f : Nat → Int32} {i : Int32} (ha : (wd (eO (xE X)) (eC (xE X)) σ)[q0]? = some (a, .inl (eC (xE X), n, .inl f))) (G : Gd X b nL own ret rm) (hd : decode b pc = .ok (.iaload, 1)) (kj : J wd X Q nL (pc + 1) L (.int (f i.toNatClampNeg) :: st) σ mm) : J wd X Q nL pc L (.int i :: .ref a :: st) σ (gd (okI i n) mm) := fun o ho H locs ls hP hD hS hl => by
  obtain ⟨hi, ho⟩ := gd_some ho
  exact va_iald G.x G.c G.K hP q0 0 ha rfl (okI_in hi) hd (kj o ho H locs ls hP hD hS hl)
theorem j_aldc (q0 : Nat) {a n j : Nat} {f : Nat → Int32} {i : Int32} (ha : (wd (eO (xE X)) (eC (xE X)) σ)[q0]? = some (a, .inl (eC (xE X), n, .inl f))) (hi : okI i n = true) (hj : i.toNatClampNeg = j) (G : Gd X b nL own ret rm) (hd : decode b pc = .ok (.iaload, 1)) (kj : J wd X Q nL (pc + 1) L (.int (f j) :: st) σ mm) : J wd X Q nL pc L (.int i :: .ref a :: st) σ mm := fun o ho H locs ls hP hD hS hl => by
  subst hj
  exact va_iald G.x G.c G.K hP q0 0 ha rfl (okI_in hi) hd (kj o ho H locs ls hP hD hS hl)
theorem j_ast (q0 : Nat) {a n : Nat} {f : Nat → Int32} {i x : Int32} (ha : (wd (eO (xE X)) (eC (xE X)) σ)[q0]? = some (a, .inl (eC (xE X), n, .inl f))) (σ1 : S) (hσ : (wd (eO (xE X)) (eC (xE X)) σ).set q0 (a, .inl (eC (xE X), n, .inl (upd f i.toNatClampNeg x))) = wd (eO (xE X)) (eC (xE X)) σ1) (G : Gd X b nL own ret rm) (hd : decode b pc = .ok (.iastore, 1)) (kj : J wd X Q nL (pc + 1) L st σ1 mm) : J wd X Q nL pc L (.int x :: .int i :: .ref a :: st) σ (gd (okI i n) mm) := fun o ho H locs ls hP hD hS hl => by
  obtain ⟨hi, ho⟩ := gd_some ho
  exact va_iast G.x G.c G.K hP hD hS q0 0 ha rfl (okI_in hi) hd (fun H1 locs1 hP1 hD1 hS1 => kj o ho H1 locs1 ls (hσ ▸ hP1) (hσ ▸ hD1) hS1 hl)
theorem j_astc (q0 : Nat) {a n j : Nat} {f : Nat → Int32} {i x : Int32} (ha : (wd (eO (xE X)) (eC (xE X)) σ)[q0]? = some (a, .inl (eC (xE X), n, .inl f))) (σ1 : S) (hi : okI i n = true) (hj : i.toNatClampNeg = j) (hσ : (wd (eO (xE X)) (eC (xE X)) σ).set q0 (a, .inl (eC (xE X), n, .inl (upd f j x))) = wd (eO (xE X)) (eC (xE X)) σ1) (G : Gd X b nL own ret rm) (hd : decode b pc = .ok (.iastore, 1)) (kj : J wd X Q nL (pc + 1) L st σ1 mm) : J wd X Q nL pc L (.int x :: .int i :: .ref a :: st) σ mm := fun o ho H locs ls hP hD hS hl => by
  subst hj
  exact va_iast G.x G.c G.K hP hD hS q0 0 ha rfl (okI_in hi) hd (fun H1 locs1 hP1 hD1 hS1 => kj o ho H1 locs1 ls (hσ ▸ hP1) (hσ ▸ hD1) hS1 hl)
theorem j_gets (k : Nat) {idx : Nat} (hk : k < 5) (hlk : Cond.fieldLink own idx R_chip (tnm k) "[I" ∈ CW) (G : Gd X b nL own ret rm) (hd : decode b pc = .ok (.getstatic idx, 3)) (kj : J wd X Q nL (pc + 3) L (.ref (eT (xE X) k) :: st) σ mm) : J wd X Q nL pc L st σ mm := fun o ho H locs ls hP hD hS hl =>
  va_gets G.x G.c (G.S k hk).1 hS G.o (G.t _ hlk) (fun _ h => h) hd (kj o ho H locs ls hP hD hS hl)
theorem j_tald (k : Nat) {i : Int32} (hk : k < 5) (G : Gd X b nL own ret rm) (hd : decode b pc = .ok (.iaload, 1)) (kj : J wd X Q nL (pc + 1) L (.int (tvl k i.toNatClampNeg) :: st) σ mm) : J wd X Q nL pc L (.int i :: .ref (eT (xE X) k) :: st) σ (gd (okI i (tln k)) mm) := fun o ho H locs ls hP hD hS hl => by
  obtain ⟨hi, ho⟩ := gd_some ho
  exact va_ti G.x G.c (G.S k hk).2 hS (okI_in hi) rfl hd (kj o ho H locs ls hP hD hS hl)
-- switches
def JA (wd : WD S) (X : Cx) (Q : Int32 × S → State → Prop) (nL : Nat) (L : List (Nat × Value)) (st : List Value) (σ : S) : List (Int32 × Nat × Option (Int32 × S)) → Prop
  | [] => True
  | c :: r => J wd X Q nL c.2.1 L st σ c.2.2 ∧ JA wd X Q nL L st σ r
theorem ja_at {dt : Nat} {md : Option (Int32 × S)} (hd : J wd X Q nL dt L st σ md) (x : Int32) : ∀ cs : List (Int32 × Nat × Option (Int32 × S)), JA wd X Q nL L st σ cs → J wd X Q nL (swt x cs dt) L st σ (swi x cs md)
  | [], _ => hd
  | c :: r, h => by
    by_cases hx : x = c.1
    · rw [swt, swi, if_pos hx, if_pos hx]; exact h.1
    · rw [swt, swi, if_neg hx, if_neg hx]; exact ja_at hd x r h.2
def swz (z : Int) : List (Int32 × Nat) → Nat → Nat
  | [], d => d
  | c :: r, d => if z = c.1.toInt then c.2 else swz z r d
def tck (pc : Nat) (dflt lo hi : Int) (offs : Array Int) (ks : List (Int32 × Nat)) (dt : Nat) : Bool :=
  decide ((pc : Int) + dflt = (dt : Int)) && ks.all (fun q => decide (lo ≤ q.1.toInt) && decide (q.1.toInt ≤ hi)) && (List.range (hi - lo + 1).toNat).all (fun j => decide (offs[j]? = some ((swz (lo + (j : Int)) ks dt : Int) - (pc : Int))))
theorem swz_swt {α : Type} (x : Int32) (dt : Nat) : ∀ cs : List (Int32 × Nat × α), swz x.toInt (cs.map (fun c => (c.1, c.2.1))) dt = swt x cs dt
  | [] => rfl
  | c :: r => by
    by_cases hx : x = c.1
    · rw [swt, if_pos hx, List.map_cons, swz, if_pos (by rw [hx])]
    · rw [swt, if_neg hx, List.map_cons, swz, if_neg (fun h => hx (Int32.toInt_inj.mp h))]
      exact swz_swt x dt r
theorem swt_out {α : Type} {x : Int32} {dt : Nat} : ∀ cs : List (Int32 × Nat × α), (∀ c ∈ cs, x ≠ c.1) → swt x cs dt = dt
  | [], _ => rfl
  | c :: r, h => by
    rw [swt, if_neg (h c List.mem_cons_self)]
    exact swt_out r (fun d hd => h d (List.mem_cons_of_mem _ hd))
theorem j_ts {x : Int32} {dflt lo hi : Int} {offs : Array Int} {len dt : Nat} {cs : List (Int32 × Nat × Option (Int32 × S))} {md : Option (Int32 × S)} (G : Gd X b nL own ret rm) (hd : decode b pc = .ok (.tableswitch dflt lo hi offs, len)) (hck : tck pc dflt lo hi offs (cs.map (fun c => (c.1, c.2.1))) dt = true) (hcs : JA wd X Q nL L st σ cs) (hdf : J wd X Q nL dt L st σ md) : J wd X Q nL pc L (.int x :: st) σ (swi x cs md) := fun o ho H locs ls hP hD hS hl => by
  have key := ja_at hdf x cs hcs o ho H locs ls hP hD hS hl
  unfold tck at hck
  simp only [Bool.and_eq_true, decide_eq_true_eq, List.all_eq_true] at hck
  obtain ⟨⟨h1, h2⟩, h3⟩ := hck
  by_cases hr : x.toInt < lo ∨ hi < x.toInt
  · refine lv_tableOut G.x G.c hd hr (tgt := swt x cs dt) ?_ key
    rw [swt_out cs (fun c hc he => ?_)]
    · exact h1
    · have h4 := h2 (c.1, c.2.1) (List.mem_map.mpr ⟨c, hc, rfl⟩)
      subst he
      dsimp only at h4
      omega
  · have hlo : ¬ x.toInt < lo := fun h => hr (Or.inl h)
    have hhi : ¬ hi < x.toInt := fun h => hr (Or.inr h)
    have h5 := h3 (x.toInt - lo).toNat (List.mem_range.mpr (by omega))
    have h6 : lo + ((x.toInt - lo).toNat : Int) = x.toInt := by omega
    rw [h6, swz_swt] at h5
    refine lv_tableIn G.x G.c hd hlo hhi h5 (tgt := swt x cs dt) (by omega) key
end
theorem ct_i {S : Type} {wd : WD S} {l : Launch} {E : Ev} {y : MethodName} {b : ByteArray} {n f fl : Nat} {ret : Option FieldType} {av : List Value} {σ : S} {mm : Option (Int32 × S)} (hy : plainName y.cls = true) (hn : (lg_sl av).length ≤ n) (body : ∀ X : Cx, xE X = E → xl X = l → Gd X b n y.cls ret (rmm f fl) → J wd X (QI wd X) n 0 (lv_args 0 av) [] σ mm) : CtI wd l E y b n ret (rmm f fl) av σ mm := by
  intro o ho
  refine Met.ofW (cc := b) (maxL := n) (ret := ret) hy rfl ?_
  intro p e s m args below meth c s₁ B hml hv
  obtain ⟨rfl, hP, hK, hD, hS⟩ := hv
  have hl := lv_entry av (n := n) hn
  rw [lg_entry_eq]
  exact body ((p, l, e, rmm f fl, s), (m, av.toArray, below, meth, c), E) rfl rfl ⟨B.exec, B.bytes, hml, findClass_of_methodNamed B.named, fun w hw => atoms_spec (ws := Cond.code y b n ret :: CW) B.pre w (List.mem_cons_of_mem _ hw), B.notSynchronized, B.returns, rfl, hK, hS⟩ o ho s.heap [] _ hP hD va_S.rf hl
theorem ct_v {S : Type} {wd : WD S} {l : Launch} {E : Ev} {y : MethodName} {b : ByteArray} {n f fl : Nat} {ret : Option FieldType} {av : List Value} {σ : S} {mm : Option (Int32 × S)} (hy : plainName y.cls = true) (hn : (lg_sl av).length ≤ n) (body : ∀ X : Cx, xE X = E → xl X = l → Gd X b n y.cls ret (rmm f fl) → J wd X (QV wd X) n 0 (lv_args 0 av) [] σ mm) : CtV wd l E y b n ret (rmm f fl) av σ mm := by
  intro o ho
  refine Met.ofW (cc := b) (maxL := n) (ret := ret) hy rfl ?_
  intro p e s m args below meth c s₁ B hml hv
  obtain ⟨rfl, hP, hK, hD, hS⟩ := hv
  have hl := lv_entry av (n := n) hn
  rw [lg_entry_eq]
  exact body ((p, l, e, rmm f fl, s), (m, av.toArray, below, meth, c), E) rfl rfl ⟨B.exec, B.bytes, hml, findClass_of_methodNamed B.named, fun w hw => atoms_spec (ws := Cond.code y b n ret :: CW) B.pre w (List.mem_cons_of_mem _ hw), B.notSynchronized, B.returns, rfl, hK, hS⟩ o ho s.heap [] _ hP hD va_S.rf hl
end
