section
-- ===== PART A: goes FIRST, ahead of the names: the tables' words, and 'selects' of the private methods out of them =====
/-- a private method of a class that the tables say can be made, by its rows of tables_1 -/
def lw_okq (q : MethodName × Nat) : Prop := (q.1.cls ≠ "java/lang/invoke/MethodHandle" ∧ q.1.cls ≠ "java/lang/invoke/VarHandle") ∧ Cond.instantiable q.1.cls q.2 ∈ tables_1 ∧ Cond.privateMethod q.1 ∈ tables_1 ∧ Cond.instanceMethod q.1 ∈ tables_1
theorem lw_p0 : lw_okq (⟨"TwinStackChip", "lineToServe", "()I"⟩, 7) := ⟨⟨by decide +kernel, by decide +kernel⟩, List.mem_of_getElem? (i := 7) (by decide +kernel), List.mem_of_getElem? (i := 113) (by decide +kernel), List.mem_of_getElem? (i := 114) (by decide +kernel)⟩
theorem lw_p1 : lw_okq (⟨"TwinStackChip", "serve", "(I)V"⟩, 7) := ⟨⟨by decide +kernel, by decide +kernel⟩, List.mem_of_getElem? (i := 7) (by decide +kernel), List.mem_of_getElem? (i := 121) (by decide +kernel), List.mem_of_getElem? (i := 122) (by decide +kernel)⟩
theorem lw_p2 : lw_okq (⟨"TwinStackChip", "pushRegisters", "(II)V"⟩, 7) := ⟨⟨by decide +kernel, by decide +kernel⟩, List.mem_of_getElem? (i := 7) (by decide +kernel), List.mem_of_getElem? (i := 125) (by decide +kernel), List.mem_of_getElem? (i := 126) (by decide +kernel)⟩
theorem lw_p3 : lw_okq (⟨"TwinStackChip", "pushWord", "(II)V"⟩, 7) := ⟨⟨by decide +kernel, by decide +kernel⟩, List.mem_of_getElem? (i := 7) (by decide +kernel), List.mem_of_getElem? (i := 133) (by decide +kernel), List.mem_of_getElem? (i := 134) (by decide +kernel)⟩
theorem lw_p4 : lw_okq (⟨"TwinStackChip", "pushByte", "(II)V"⟩, 7) := ⟨⟨by decide +kernel, by decide +kernel⟩, List.mem_of_getElem? (i := 7) (by decide +kernel), List.mem_of_getElem? (i := 144) (by decide +kernel), List.mem_of_getElem? (i := 145) (by decide +kernel)⟩
theorem lw_p5 : lw_okq (⟨"TwinStackChip", "staysWaiting", "()Z"⟩, 7) := ⟨⟨by decide +kernel, by decide +kernel⟩, List.mem_of_getElem? (i := 7) (by decide +kernel), List.mem_of_getElem? (i := 150) (by decide +kernel), List.mem_of_getElem? (i := 151) (by decide +kernel)⟩
theorem lw_p6 : lw_okq (⟨"TwinStackChip", "fetchCode", "()I"⟩, 7) := ⟨⟨by decide +kernel, by decide +kernel⟩, List.mem_of_getElem? (i := 7) (by decide +kernel), List.mem_of_getElem? (i := 154) (by decide +kernel), List.mem_of_getElem? (i := 155) (by decide +kernel)⟩
theorem lw_p7 : lw_okq (⟨"TwinStackChip", "fetchByte", "()I"⟩, 7) := ⟨⟨by decide +kernel, by decide +kernel⟩, List.mem_of_getElem? (i := 7) (by decide +kernel), List.mem_of_getElem? (i := 158) (by decide +kernel), List.mem_of_getElem? (i := 159) (by decide +kernel)⟩
theorem lw_p8 : lw_okq (⟨"TwinStackChip", "isDefined", "(I)Z"⟩, 7) := ⟨⟨by decide +kernel, by decide +kernel⟩, List.mem_of_getElem? (i := 7) (by decide +kernel), List.mem_of_getElem? (i := 162) (by decide +kernel), List.mem_of_getElem? (i := 163) (by decide +kernel)⟩
theorem lw_p9 : lw_okq (⟨"TwinStackChip", "executeLowerHalf", "(I)V"⟩, 7) := ⟨⟨by decide +kernel, by decide +kernel⟩, List.mem_of_getElem? (i := 7) (by decide +kernel), List.mem_of_getElem? (i := 179) (by decide +kernel), List.mem_of_getElem? (i := 180) (by decide +kernel)⟩
theorem lw_p10 : lw_okq (⟨"TwinStackChip", "executeRowOne", "(I)V"⟩, 7) := ⟨⟨by decide +kernel, by decide +kernel⟩, List.mem_of_getElem? (i := 7) (by decide +kernel), List.mem_of_getElem? (i := 183) (by decide +kernel), List.mem_of_getElem? (i := 184) (by decide +kernel)⟩
theorem lw_p11 : lw_okq (⟨"TwinStackChip", "fetchWord", "()I"⟩, 7) := ⟨⟨by decide +kernel, by decide +kernel⟩, List.mem_of_getElem? (i := 7) (by decide +kernel), List.mem_of_getElem? (i := 187) (by decide +kernel), List.mem_of_getElem? (i := 188) (by decide +kernel)⟩
theorem lw_p12 : lw_okq (⟨"TwinStackChip", "goOn", "(I)V"⟩, 7) := ⟨⟨by decide +kernel, by decide +kernel⟩, List.mem_of_getElem? (i := 7) (by decide +kernel), List.mem_of_getElem? (i := 191) (by decide +kernel), List.mem_of_getElem? (i := 192) (by decide +kernel)⟩
theorem lw_p13 : lw_okq (⟨"TwinStackChip", "callRelative", "(I)V"⟩, 7) := ⟨⟨by decide +kernel, by decide +kernel⟩, List.mem_of_getElem? (i := 7) (by decide +kernel), List.mem_of_getElem? (i := 195) (by decide +kernel), List.mem_of_getElem? (i := 196) (by decide +kernel)⟩
theorem lw_p14 : lw_okq (⟨"TwinStackChip", "exchange", "(I)V"⟩, 7) := ⟨⟨by decide +kernel, by decide +kernel⟩, List.mem_of_getElem? (i := 7) (by decide +kernel), List.mem_of_getElem? (i := 220) (by decide +kernel), List.mem_of_getElem? (i := 221) (by decide +kernel)⟩
theorem lw_p15 : lw_okq (⟨"TwinStackChip", "become", "(II)V"⟩, 7) := ⟨⟨by decide +kernel, by decide +kernel⟩, List.mem_of_getElem? (i := 7) (by decide +kernel), List.mem_of_getElem? (i := 224) (by decide +kernel), List.mem_of_getElem? (i := 225) (by decide +kernel)⟩
def lw_privs_1 : List (MethodName × Nat) := [(⟨"TwinStackChip", "lineToServe", "()I"⟩, 7), (⟨"TwinStackChip", "serve", "(I)V"⟩, 7), (⟨"TwinStackChip", "pushRegisters", "(II)V"⟩, 7), (⟨"TwinStackChip", "pushWord", "(II)V"⟩, 7), (⟨"TwinStackChip", "pushByte", "(II)V"⟩, 7), (⟨"TwinStackChip", "staysWaiting", "()Z"⟩, 7), (⟨"TwinStackChip", "fetchCode", "()I"⟩, 7), (⟨"TwinStackChip", "fetchByte", "()I"⟩, 7), (⟨"TwinStackChip", "isDefined", "(I)Z"⟩, 7), (⟨"TwinStackChip", "executeLowerHalf", "(I)V"⟩, 7), (⟨"TwinStackChip", "executeRowOne", "(I)V"⟩, 7), (⟨"TwinStackChip", "fetchWord", "()I"⟩, 7), (⟨"TwinStackChip", "goOn", "(I)V"⟩, 7), (⟨"TwinStackChip", "callRelative", "(I)V"⟩, 7), (⟨"TwinStackChip", "exchange", "(I)V"⟩, 7), (⟨"TwinStackChip", "become", "(II)V"⟩, 7)]
theorem lw_r1 : ∀ q ∈ lw_privs_1, lw_okq q := List.forall_mem_cons.mpr ⟨lw_p0, List.forall_mem_cons.mpr ⟨lw_p1, List.forall_mem_cons.mpr ⟨lw_p2, List.forall_mem_cons.mpr ⟨lw_p3, List.forall_mem_cons.mpr ⟨lw_p4, List.forall_mem_cons.mpr ⟨lw_p5, List.forall_mem_cons.mpr ⟨lw_p6, List.forall_mem_cons.mpr ⟨lw_p7, List.forall_mem_cons.mpr ⟨lw_p8, List.forall_mem_cons.mpr ⟨lw_p9, List.forall_mem_cons.mpr ⟨lw_p10, List.forall_mem_cons.mpr ⟨lw_p11, List.forall_mem_cons.mpr ⟨lw_p12, List.forall_mem_cons.mpr ⟨lw_p13, List.forall_mem_cons.mpr ⟨lw_p14, List.forall_mem_cons.mpr ⟨lw_p15, fun _ h => absurd h List.not_mem_nil⟩⟩⟩⟩⟩⟩⟩⟩⟩⟩⟩⟩⟩⟩⟩⟩
theorem lw_p16 : lw_okq (⟨"TwinStackChip", "transfer", "(I)V"⟩, 7) := ⟨⟨by decide +kernel, by decide +kernel⟩, List.mem_of_getElem? (i := 7) (by decide +kernel), List.mem_of_getElem? (i := 228) (by decide +kernel), List.mem_of_getElem? (i := 229) (by decide +kernel)⟩
theorem lw_p17 : lw_okq (⟨"TwinStackChip", "branch", "(II)V"⟩, 7) := ⟨⟨by decide +kernel, by decide +kernel⟩, List.mem_of_getElem? (i := 7) (by decide +kernel), List.mem_of_getElem? (i := 232) (by decide +kernel), List.mem_of_getElem? (i := 233) (by decide +kernel)⟩
theorem lw_p18 : lw_okq (⟨"TwinStackChip$Registers", "meetsEven", "(I)Z"⟩, 1) := ⟨⟨by decide +kernel, by decide +kernel⟩, List.mem_of_getElem? (i := 26) (by decide +kernel), List.mem_of_getElem? (i := 240) (by decide +kernel), List.mem_of_getElem? (i := 241) (by decide +kernel)⟩
theorem lw_p19 : lw_okq (⟨"TwinStackChip", "executeRowThree", "(II)V"⟩, 7) := ⟨⟨by decide +kernel, by decide +kernel⟩, List.mem_of_getElem? (i := 7) (by decide +kernel), List.mem_of_getElem? (i := 245) (by decide +kernel), List.mem_of_getElem? (i := 246) (by decide +kernel)⟩
theorem lw_p20 : lw_okq (⟨"TwinStackChip", "indexedAddress", "()I"⟩, 7) := ⟨⟨by decide +kernel, by decide +kernel⟩, List.mem_of_getElem? (i := 7) (by decide +kernel), List.mem_of_getElem? (i := 251) (by decide +kernel), List.mem_of_getElem? (i := 252) (by decide +kernel)⟩
theorem lw_p21 : lw_okq (⟨"TwinStackChip", "addressByKind", "(II)I"⟩, 7) := ⟨⟨by decide +kernel, by decide +kernel⟩, List.mem_of_getElem? (i := 7) (by decide +kernel), List.mem_of_getElem? (i := 256) (by decide +kernel), List.mem_of_getElem? (i := 257) (by decide +kernel)⟩
theorem lw_p22 : lw_okq (⟨"TwinStackChip", "takeAddress", "(II)V"⟩, 7) := ⟨⟨by decide +kernel, by decide +kernel⟩, List.mem_of_getElem? (i := 7) (by decide +kernel), List.mem_of_getElem? (i := 260) (by decide +kernel), List.mem_of_getElem? (i := 261) (by decide +kernel)⟩
theorem lw_p23 : lw_okq (⟨"TwinStackChip", "pullRegisters", "(II)V"⟩, 7) := ⟨⟨by decide +kernel, by decide +kernel⟩, List.mem_of_getElem? (i := 7) (by decide +kernel), List.mem_of_getElem? (i := 264) (by decide +kernel), List.mem_of_getElem? (i := 265) (by decide +kernel)⟩
theorem lw_p24 : lw_okq (⟨"TwinStackChip", "pullByte", "(I)I"⟩, 7) := ⟨⟨by decide +kernel, by decide +kernel⟩, List.mem_of_getElem? (i := 7) (by decide +kernel), List.mem_of_getElem? (i := 268) (by decide +kernel), List.mem_of_getElem? (i := 269) (by decide +kernel)⟩
theorem lw_p25 : lw_okq (⟨"TwinStackChip", "pullWord", "(I)I"⟩, 7) := ⟨⟨by decide +kernel, by decide +kernel⟩, List.mem_of_getElem? (i := 7) (by decide +kernel), List.mem_of_getElem? (i := 272) (by decide +kernel), List.mem_of_getElem? (i := 273) (by decide +kernel)⟩
theorem lw_p26 : lw_okq (⟨"TwinStackChip", "returnFromInterrupt", "()V"⟩, 7) := ⟨⟨by decide +kernel, by decide +kernel⟩, List.mem_of_getElem? (i := 7) (by decide +kernel), List.mem_of_getElem? (i := 276) (by decide +kernel), List.mem_of_getElem? (i := 277) (by decide +kernel)⟩
theorem lw_p27 : lw_okq (⟨"TwinStackChip", "waitForInterrupt", "(I)V"⟩, 7) := ⟨⟨by decide +kernel, by decide +kernel⟩, List.mem_of_getElem? (i := 7) (by decide +kernel), List.mem_of_getElem? (i := 280) (by decide +kernel), List.mem_of_getElem? (i := 281) (by decide +kernel)⟩
theorem lw_p28 : lw_okq (⟨"TwinStackChip", "softwareInterrupt", "(I)V"⟩, 7) := ⟨⟨by decide +kernel, by decide +kernel⟩, List.mem_of_getElem? (i := 7) (by decide +kernel), List.mem_of_getElem? (i := 288) (by decide +kernel), List.mem_of_getElem? (i := 289) (by decide +kernel)⟩
theorem lw_p29 : lw_okq (⟨"TwinStackChip$Arithmetic", "shiftDown", "(II)I"⟩, 1) := ⟨⟨by decide +kernel, by decide +kernel⟩, List.mem_of_getElem? (i := 36) (by decide +kernel), List.mem_of_getElem? (i := 302) (by decide +kernel), List.mem_of_getElem? (i := 303) (by decide +kernel)⟩
theorem lw_p30 : lw_okq (⟨"TwinStackChip$Arithmetic", "shiftUp", "(II)I"⟩, 1) := ⟨⟨by decide +kernel, by decide +kernel⟩, List.mem_of_getElem? (i := 36) (by decide +kernel), List.mem_of_getElem? (i := 310) (by decide +kernel), List.mem_of_getElem? (i := 311) (by decide +kernel)⟩
theorem lw_p31 : lw_okq (⟨"TwinStackChip$Arithmetic", "count", "(IZ)I"⟩, 1) := ⟨⟨by decide +kernel, by decide +kernel⟩, List.mem_of_getElem? (i := 36) (by decide +kernel), List.mem_of_getElem? (i := 314) (by decide +kernel), List.mem_of_getElem? (i := 315) (by decide +kernel)⟩
def lw_privs_2 : List (MethodName × Nat) := [(⟨"TwinStackChip", "transfer", "(I)V"⟩, 7), (⟨"TwinStackChip", "branch", "(II)V"⟩, 7), (⟨"TwinStackChip$Registers", "meetsEven", "(I)Z"⟩, 1), (⟨"TwinStackChip", "executeRowThree", "(II)V"⟩, 7), (⟨"TwinStackChip", "indexedAddress", "()I"⟩, 7), (⟨"TwinStackChip", "addressByKind", "(II)I"⟩, 7), (⟨"TwinStackChip", "takeAddress", "(II)V"⟩, 7), (⟨"TwinStackChip", "pullRegisters", "(II)V"⟩, 7), (⟨"TwinStackChip", "pullByte", "(I)I"⟩, 7), (⟨"TwinStackChip", "pullWord", "(I)I"⟩, 7), (⟨"TwinStackChip", "returnFromInterrupt", "()V"⟩, 7), (⟨"TwinStackChip", "waitForInterrupt", "(I)V"⟩, 7), (⟨"TwinStackChip", "softwareInterrupt", "(I)V"⟩, 7), (⟨"TwinStackChip$Arithmetic", "shiftDown", "(II)I"⟩, 1), (⟨"TwinStackChip$Arithmetic", "shiftUp", "(II)I"⟩, 1), (⟨"TwinStackChip$Arithmetic", "count", "(IZ)I"⟩, 1)]
theorem lw_r2 : ∀ q ∈ lw_privs_2, lw_okq q := List.forall_mem_cons.mpr ⟨lw_p16, List.forall_mem_cons.mpr ⟨lw_p17, List.forall_mem_cons.mpr ⟨lw_p18, List.forall_mem_cons.mpr ⟨lw_p19, List.forall_mem_cons.mpr ⟨lw_p20, List.forall_mem_cons.mpr ⟨lw_p21, List.forall_mem_cons.mpr ⟨lw_p22, List.forall_mem_cons.mpr ⟨lw_p23, List.forall_mem_cons.mpr ⟨lw_p24, List.forall_mem_cons.mpr ⟨lw_p25, List.forall_mem_cons.mpr ⟨lw_p26, List.forall_mem_cons.mpr ⟨lw_p27, List.forall_mem_cons.mpr ⟨lw_p28, List.forall_mem_cons.mpr ⟨lw_p29, List.forall_mem_cons.mpr ⟨lw_p30, List.forall_mem_cons.mpr ⟨lw_p31, fun _ h => absurd h List.not_mem_nil⟩⟩⟩⟩⟩⟩⟩⟩⟩⟩⟩⟩⟩⟩⟩⟩
theorem lw_p32 : lw_okq (⟨"TwinStackChip", "operandAddress", "(II)I"⟩, 7) := ⟨⟨by decide +kernel, by decide +kernel⟩, List.mem_of_getElem? (i := 7) (by decide +kernel), List.mem_of_getElem? (i := 318) (by decide +kernel), List.mem_of_getElem? (i := 319) (by decide +kernel)⟩
theorem lw_p33 : lw_okq (⟨"TwinStackChip", "alterMemory", "(II)V"⟩, 7) := ⟨⟨by decide +kernel, by decide +kernel⟩, List.mem_of_getElem? (i := 7) (by decide +kernel), List.mem_of_getElem? (i := 322) (by decide +kernel), List.mem_of_getElem? (i := 323) (by decide +kernel)⟩
theorem lw_p34 : lw_okq (⟨"TwinStackChip", "executeUpperHalf", "(I)V"⟩, 7) := ⟨⟨by decide +kernel, by decide +kernel⟩, List.mem_of_getElem? (i := 7) (by decide +kernel), List.mem_of_getElem? (i := 326) (by decide +kernel), List.mem_of_getElem? (i := 327) (by decide +kernel)⟩
theorem lw_p35 : lw_okq (⟨"TwinStackChip", "call", "(I)V"⟩, 7) := ⟨⟨by decide +kernel, by decide +kernel⟩, List.mem_of_getElem? (i := 7) (by decide +kernel), List.mem_of_getElem? (i := 330) (by decide +kernel), List.mem_of_getElem? (i := 331) (by decide +kernel)⟩
theorem lw_p36 : lw_okq (⟨"TwinStackChip", "operateOnWord", "(IIZI)V"⟩, 7) := ⟨⟨by decide +kernel, by decide +kernel⟩, List.mem_of_getElem? (i := 7) (by decide +kernel), List.mem_of_getElem? (i := 334) (by decide +kernel), List.mem_of_getElem? (i := 335) (by decide +kernel)⟩
theorem lw_p37 : lw_okq (⟨"TwinStackChip", "operateOnByte", "(III)V"⟩, 7) := ⟨⟨by decide +kernel, by decide +kernel⟩, List.mem_of_getElem? (i := 7) (by decide +kernel), List.mem_of_getElem? (i := 348) (by decide +kernel), List.mem_of_getElem? (i := 349) (by decide +kernel)⟩
theorem lw_p38 : lw_okq (⟨"TwinStackChip$Arithmetic", "addByte", "(III)I"⟩, 1) := ⟨⟨by decide +kernel, by decide +kernel⟩, List.mem_of_getElem? (i := 36) (by decide +kernel), List.mem_of_getElem? (i := 356) (by decide +kernel), List.mem_of_getElem? (i := 357) (by decide +kernel)⟩
theorem lw_p39 : lw_okq (⟨"TwinStackChipModel", "is", "(I)Z"⟩, 8) := ⟨⟨by decide +kernel, by decide +kernel⟩, List.mem_of_getElem? (i := 389) (by decide +kernel), List.mem_of_getElem? (i := 424) (by decide +kernel), List.mem_of_getElem? (i := 425) (by decide +kernel)⟩
theorem lw_p40 : lw_okq (⟨"TwinStackChipModel", "interrupt", "(I)V"⟩, 8) := ⟨⟨by decide +kernel, by decide +kernel⟩, List.mem_of_getElem? (i := 389) (by decide +kernel), List.mem_of_getElem? (i := 428) (by decide +kernel), List.mem_of_getElem? (i := 429) (by decide +kernel)⟩
theorem lw_p41 : lw_okq (⟨"TwinStackChipModel", "flag", "(IZ)V"⟩, 8) := ⟨⟨by decide +kernel, by decide +kernel⟩, List.mem_of_getElem? (i := 389) (by decide +kernel), List.mem_of_getElem? (i := 432) (by decide +kernel), List.mem_of_getElem? (i := 433) (by decide +kernel)⟩
theorem lw_p42 : lw_okq (⟨"TwinStackChipModel", "pushAll", "(II)V"⟩, 8) := ⟨⟨by decide +kernel, by decide +kernel⟩, List.mem_of_getElem? (i := 389) (by decide +kernel), List.mem_of_getElem? (i := 436) (by decide +kernel), List.mem_of_getElem? (i := 437) (by decide +kernel)⟩
theorem lw_p43 : lw_okq (⟨"TwinStackChipModel", "pushWord", "(II)V"⟩, 8) := ⟨⟨by decide +kernel, by decide +kernel⟩, List.mem_of_getElem? (i := 389) (by decide +kernel), List.mem_of_getElem? (i := 440) (by decide +kernel), List.mem_of_getElem? (i := 441) (by decide +kernel)⟩
theorem lw_p44 : lw_okq (⟨"TwinStackChipModel", "push", "(II)V"⟩, 8) := ⟨⟨by decide +kernel, by decide +kernel⟩, List.mem_of_getElem? (i := 389) (by decide +kernel), List.mem_of_getElem? (i := 444) (by decide +kernel), List.mem_of_getElem? (i := 445) (by decide +kernel)⟩
theorem lw_p45 : lw_okq (⟨"TwinStackChipModel", "write", "(II)V"⟩, 8) := ⟨⟨by decide +kernel, by decide +kernel⟩, List.mem_of_getElem? (i := 389) (by decide +kernel), List.mem_of_getElem? (i := 449) (by decide +kernel), List.mem_of_getElem? (i := 450) (by decide +kernel)⟩
theorem lw_p46 : lw_okq (⟨"TwinStackChipModel", "pushState", "()V"⟩, 8) := ⟨⟨by decide +kernel, by decide +kernel⟩, List.mem_of_getElem? (i := 389) (by decide +kernel), List.mem_of_getElem? (i := 453) (by decide +kernel), List.mem_of_getElem? (i := 454) (by decide +kernel)⟩
theorem lw_p47 : lw_okq (⟨"TwinStackChipModel", "readWord", "(I)I"⟩, 8) := ⟨⟨by decide +kernel, by decide +kernel⟩, List.mem_of_getElem? (i := 389) (by decide +kernel), List.mem_of_getElem? (i := 460) (by decide +kernel), List.mem_of_getElem? (i := 461) (by decide +kernel)⟩
def lw_privs_3 : List (MethodName × Nat) := [(⟨"TwinStackChip", "operandAddress", "(II)I"⟩, 7), (⟨"TwinStackChip", "alterMemory", "(II)V"⟩, 7), (⟨"TwinStackChip", "executeUpperHalf", "(I)V"⟩, 7), (⟨"TwinStackChip", "call", "(I)V"⟩, 7), (⟨"TwinStackChip", "operateOnWord", "(IIZI)V"⟩, 7), (⟨"TwinStackChip", "operateOnByte", "(III)V"⟩, 7), (⟨"TwinStackChip$Arithmetic", "addByte", "(III)I"⟩, 1), (⟨"TwinStackChipModel", "is", "(I)Z"⟩, 8), (⟨"TwinStackChipModel", "interrupt", "(I)V"⟩, 8), (⟨"TwinStackChipModel", "flag", "(IZ)V"⟩, 8), (⟨"TwinStackChipModel", "pushAll", "(II)V"⟩, 8), (⟨"TwinStackChipModel", "pushWord", "(II)V"⟩, 8), (⟨"TwinStackChipModel", "push", "(II)V"⟩, 8), (⟨"TwinStackChipModel", "write", "(II)V"⟩, 8), (⟨"TwinStackChipModel", "pushState", "()V"⟩, 8), (⟨"TwinStackChipModel", "readWord", "(I)I"⟩, 8)]
theorem lw_r3 : ∀ q ∈ lw_privs_3, lw_okq q := List.forall_mem_cons.mpr ⟨lw_p32, List.forall_mem_cons.mpr ⟨lw_p33, List.forall_mem_cons.mpr ⟨lw_p34, List.forall_mem_cons.mpr ⟨lw_p35, List.forall_mem_cons.mpr ⟨lw_p36, List.forall_mem_cons.mpr ⟨lw_p37, List.forall_mem_cons.mpr ⟨lw_p38, List.forall_mem_cons.mpr ⟨lw_p39, List.forall_mem_cons.mpr ⟨lw_p40, List.forall_mem_cons.mpr ⟨lw_p41, List.forall_mem_cons.mpr ⟨lw_p42, List.forall_mem_cons.mpr ⟨lw_p43, List.forall_mem_cons.mpr ⟨lw_p44, List.forall_mem_cons.mpr ⟨lw_p45, List.forall_mem_cons.mpr ⟨lw_p46, List.forall_mem_cons.mpr ⟨lw_p47, fun _ h => absurd h List.not_mem_nil⟩⟩⟩⟩⟩⟩⟩⟩⟩⟩⟩⟩⟩⟩⟩⟩
theorem lw_p48 : lw_okq (⟨"TwinStackChipModel", "read", "(I)I"⟩, 8) := ⟨⟨by decide +kernel, by decide +kernel⟩, List.mem_of_getElem? (i := 389) (by decide +kernel), List.mem_of_getElem? (i := 464) (by decide +kernel), List.mem_of_getElem? (i := 465) (by decide +kernel)⟩
theorem lw_p49 : lw_okq (⟨"TwinStackChipModel", "instruct", "()Z"⟩, 8) := ⟨⟨by decide +kernel, by decide +kernel⟩, List.mem_of_getElem? (i := 389) (by decide +kernel), List.mem_of_getElem? (i := 468) (by decide +kernel), List.mem_of_getElem? (i := 469) (by decide +kernel)⟩
theorem lw_p50 : lw_okq (⟨"TwinStackChipModel", "next", "()I"⟩, 8) := ⟨⟨by decide +kernel, by decide +kernel⟩, List.mem_of_getElem? (i := 389) (by decide +kernel), List.mem_of_getElem? (i := 472) (by decide +kernel), List.mem_of_getElem? (i := 473) (by decide +kernel)⟩
theorem lw_p51 : lw_okq (⟨"TwinStackChipModel", "behindTen", "(I)V"⟩, 8) := ⟨⟨by decide +kernel, by decide +kernel⟩, List.mem_of_getElem? (i := 389) (by decide +kernel), List.mem_of_getElem? (i := 476) (by decide +kernel), List.mem_of_getElem? (i := 477) (by decide +kernel)⟩
theorem lw_p52 : lw_okq (⟨"TwinStackChipModel", "branch", "(IZ)V"⟩, 8) := ⟨⟨by decide +kernel, by decide +kernel⟩, List.mem_of_getElem? (i := 389) (by decide +kernel), List.mem_of_getElem? (i := 483) (by decide +kernel), List.mem_of_getElem? (i := 484) (by decide +kernel)⟩
theorem lw_p53 : lw_okq (⟨"TwinStackChipModel", "nextWord", "()I"⟩, 8) := ⟨⟨by decide +kernel, by decide +kernel⟩, List.mem_of_getElem? (i := 389) (by decide +kernel), List.mem_of_getElem? (i := 487) (by decide +kernel), List.mem_of_getElem? (i := 488) (by decide +kernel)⟩
theorem lw_p54 : lw_okq (⟨"TwinStackChipModel", "holds", "(I)Z"⟩, 8) := ⟨⟨by decide +kernel, by decide +kernel⟩, List.mem_of_getElem? (i := 389) (by decide +kernel), List.mem_of_getElem? (i := 494) (by decide +kernel), List.mem_of_getElem? (i := 495) (by decide +kernel)⟩
theorem lw_p55 : lw_okq (⟨"TwinStackChipModel", "trap", "(IZ)V"⟩, 8) := ⟨⟨by decide +kernel, by decide +kernel⟩, List.mem_of_getElem? (i := 389) (by decide +kernel), List.mem_of_getElem? (i := 499) (by decide +kernel), List.mem_of_getElem? (i := 500) (by decide +kernel)⟩
theorem lw_p56 : lw_okq (⟨"TwinStackChipModel", "d", "()I"⟩, 8) := ⟨⟨by decide +kernel, by decide +kernel⟩, List.mem_of_getElem? (i := 389) (by decide +kernel), List.mem_of_getElem? (i := 503) (by decide +kernel), List.mem_of_getElem? (i := 504) (by decide +kernel)⟩
theorem lw_p57 : lw_okq (⟨"TwinStackChipModel", "compare", "(III)V"⟩, 8) := ⟨⟨by decide +kernel, by decide +kernel⟩, List.mem_of_getElem? (i := 389) (by decide +kernel), List.mem_of_getElem? (i := 507) (by decide +kernel), List.mem_of_getElem? (i := 508) (by decide +kernel)⟩
theorem lw_p58 : lw_okq (⟨"TwinStackChipModel", "wordOperand", "(I)I"⟩, 8) := ⟨⟨by decide +kernel, by decide +kernel⟩, List.mem_of_getElem? (i := 389) (by decide +kernel), List.mem_of_getElem? (i := 511) (by decide +kernel), List.mem_of_getElem? (i := 512) (by decide +kernel)⟩
theorem lw_p59 : lw_okq (⟨"TwinStackChipModel", "address", "(I)I"⟩, 8) := ⟨⟨by decide +kernel, by decide +kernel⟩, List.mem_of_getElem? (i := 389) (by decide +kernel), List.mem_of_getElem? (i := 515) (by decide +kernel), List.mem_of_getElem? (i := 516) (by decide +kernel)⟩
theorem lw_p60 : lw_okq (⟨"TwinStackChipModel", "byPostbyte", "()I"⟩, 8) := ⟨⟨by decide +kernel, by decide +kernel⟩, List.mem_of_getElem? (i := 389) (by decide +kernel), List.mem_of_getElem? (i := 519) (by decide +kernel), List.mem_of_getElem? (i := 520) (by decide +kernel)⟩
theorem lw_p61 : lw_okq (⟨"TwinStackChipModel", "less", "(IIIZ)I"⟩, 8) := ⟨⟨by decide +kernel, by decide +kernel⟩, List.mem_of_getElem? (i := 389) (by decide +kernel), List.mem_of_getElem? (i := 523) (by decide +kernel), List.mem_of_getElem? (i := 524) (by decide +kernel)⟩
theorem lw_p62 : lw_okq (⟨"TwinStackChipModel", "shows", "(IZ)V"⟩, 8) := ⟨⟨by decide +kernel, by decide +kernel⟩, List.mem_of_getElem? (i := 389) (by decide +kernel), List.mem_of_getElem? (i := 535) (by decide +kernel), List.mem_of_getElem? (i := 536) (by decide +kernel)⟩
theorem lw_p63 : lw_okq (⟨"TwinStackChipModel", "loadWord", "(II)V"⟩, 8) := ⟨⟨by decide +kernel, by decide +kernel⟩, List.mem_of_getElem? (i := 389) (by decide +kernel), List.mem_of_getElem? (i := 539) (by decide +kernel), List.mem_of_getElem? (i := 540) (by decide +kernel)⟩
def lw_privs_4 : List (MethodName × Nat) := [(⟨"TwinStackChipModel", "read", "(I)I"⟩, 8), (⟨"TwinStackChipModel", "instruct", "()Z"⟩, 8), (⟨"TwinStackChipModel", "next", "()I"⟩, 8), (⟨"TwinStackChipModel", "behindTen", "(I)V"⟩, 8), (⟨"TwinStackChipModel", "branch", "(IZ)V"⟩, 8), (⟨"TwinStackChipModel", "nextWord", "()I"⟩, 8), (⟨"TwinStackChipModel", "holds", "(I)Z"⟩, 8), (⟨"TwinStackChipModel", "trap", "(IZ)V"⟩, 8), (⟨"TwinStackChipModel", "d", "()I"⟩, 8), (⟨"TwinStackChipModel", "compare", "(III)V"⟩, 8), (⟨"TwinStackChipModel", "wordOperand", "(I)I"⟩, 8), (⟨"TwinStackChipModel", "address", "(I)I"⟩, 8), (⟨"TwinStackChipModel", "byPostbyte", "()I"⟩, 8), (⟨"TwinStackChipModel", "less", "(IIIZ)I"⟩, 8), (⟨"TwinStackChipModel", "shows", "(IZ)V"⟩, 8), (⟨"TwinStackChipModel", "loadWord", "(II)V"⟩, 8)]
theorem lw_r4 : ∀ q ∈ lw_privs_4, lw_okq q := List.forall_mem_cons.mpr ⟨lw_p48, List.forall_mem_cons.mpr ⟨lw_p49, List.forall_mem_cons.mpr ⟨lw_p50, List.forall_mem_cons.mpr ⟨lw_p51, List.forall_mem_cons.mpr ⟨lw_p52, List.forall_mem_cons.mpr ⟨lw_p53, List.forall_mem_cons.mpr ⟨lw_p54, List.forall_mem_cons.mpr ⟨lw_p55, List.forall_mem_cons.mpr ⟨lw_p56, List.forall_mem_cons.mpr ⟨lw_p57, List.forall_mem_cons.mpr ⟨lw_p58, List.forall_mem_cons.mpr ⟨lw_p59, List.forall_mem_cons.mpr ⟨lw_p60, List.forall_mem_cons.mpr ⟨lw_p61, List.forall_mem_cons.mpr ⟨lw_p62, List.forall_mem_cons.mpr ⟨lw_p63, fun _ h => absurd h List.not_mem_nil⟩⟩⟩⟩⟩⟩⟩⟩⟩⟩⟩⟩⟩⟩⟩⟩
theorem lw_p64 : lw_okq (⟨"TwinStackChipModel", "moved", "(IZ)I"⟩, 8) := ⟨⟨by decide +kernel, by decide +kernel⟩, List.mem_of_getElem? (i := 389) (by decide +kernel), List.mem_of_getElem? (i := 543) (by decide +kernel), List.mem_of_getElem? (i := 544) (by decide +kernel)⟩
theorem lw_p65 : lw_okq (⟨"TwinStackChipModel", "setD", "(I)V"⟩, 8) := ⟨⟨by decide +kernel, by decide +kernel⟩, List.mem_of_getElem? (i := 389) (by decide +kernel), List.mem_of_getElem? (i := 547) (by decide +kernel), List.mem_of_getElem? (i := 548) (by decide +kernel)⟩
theorem lw_p66 : lw_okq (⟨"TwinStackChipModel", "storeWord", "(II)V"⟩, 8) := ⟨⟨by decide +kernel, by decide +kernel⟩, List.mem_of_getElem? (i := 389) (by decide +kernel), List.mem_of_getElem? (i := 551) (by decide +kernel), List.mem_of_getElem? (i := 552) (by decide +kernel)⟩
theorem lw_p67 : lw_okq (⟨"TwinStackChipModel", "writeWord", "(II)V"⟩, 8) := ⟨⟨by decide +kernel, by decide +kernel⟩, List.mem_of_getElem? (i := 389) (by decide +kernel), List.mem_of_getElem? (i := 555) (by decide +kernel), List.mem_of_getElem? (i := 556) (by decide +kernel)⟩
theorem lw_p68 : lw_okq (⟨"TwinStackChipModel", "behindEleven", "(I)V"⟩, 8) := ⟨⟨by decide +kernel, by decide +kernel⟩, List.mem_of_getElem? (i := 389) (by decide +kernel), List.mem_of_getElem? (i := 559) (by decide +kernel), List.mem_of_getElem? (i := 560) (by decide +kernel)⟩
theorem lw_p69 : lw_okq (⟨"TwinStackChipModel", "upper", "(I)V"⟩, 8) := ⟨⟨by decide +kernel, by decide +kernel⟩, List.mem_of_getElem? (i := 389) (by decide +kernel), List.mem_of_getElem? (i := 564) (by decide +kernel), List.mem_of_getElem? (i := 565) (by decide +kernel)⟩
theorem lw_p70 : lw_okq (⟨"TwinStackChipModel", "accumulate", "(II)V"⟩, 8) := ⟨⟨by decide +kernel, by decide +kernel⟩, List.mem_of_getElem? (i := 389) (by decide +kernel), List.mem_of_getElem? (i := 568) (by decide +kernel), List.mem_of_getElem? (i := 569) (by decide +kernel)⟩
theorem lw_p71 : lw_okq (⟨"TwinStackChipModel", "operand", "(I)I"⟩, 8) := ⟨⟨by decide +kernel, by decide +kernel⟩, List.mem_of_getElem? (i := 389) (by decide +kernel), List.mem_of_getElem? (i := 572) (by decide +kernel), List.mem_of_getElem? (i := 573) (by decide +kernel)⟩
theorem lw_p72 : lw_okq (⟨"TwinStackChipModel", "plus", "(IIIZ)I"⟩, 8) := ⟨⟨by decide +kernel, by decide +kernel⟩, List.mem_of_getElem? (i := 389) (by decide +kernel), List.mem_of_getElem? (i := 576) (by decide +kernel), List.mem_of_getElem? (i := 577) (by decide +kernel)⟩
theorem lw_p73 : lw_okq (⟨"TwinStackChipModel", "addWord", "(IZ)V"⟩, 8) := ⟨⟨by decide +kernel, by decide +kernel⟩, List.mem_of_getElem? (i := 389) (by decide +kernel), List.mem_of_getElem? (i := 580) (by decide +kernel), List.mem_of_getElem? (i := 581) (by decide +kernel)⟩
theorem lw_p74 : lw_okq (⟨"TwinStackChipModel", "call", "(I)V"⟩, 8) := ⟨⟨by decide +kernel, by decide +kernel⟩, List.mem_of_getElem? (i := 389) (by decide +kernel), List.mem_of_getElem? (i := 584) (by decide +kernel), List.mem_of_getElem? (i := 585) (by decide +kernel)⟩
theorem lw_p75 : lw_okq (⟨"TwinStackChipModel", "oneByte", "(I)V"⟩, 8) := ⟨⟨by decide +kernel, by decide +kernel⟩, List.mem_of_getElem? (i := 389) (by decide +kernel), List.mem_of_getElem? (i := 588) (by decide +kernel), List.mem_of_getElem? (i := 589) (by decide +kernel)⟩
theorem lw_p76 : lw_okq (⟨"TwinStackChipModel", "onByte", "(II)I"⟩, 8) := ⟨⟨by decide +kernel, by decide +kernel⟩, List.mem_of_getElem? (i := 389) (by decide +kernel), List.mem_of_getElem? (i := 592) (by decide +kernel), List.mem_of_getElem? (i := 593) (by decide +kernel)⟩
theorem lw_p77 : lw_okq (⟨"TwinStackChipModel", "middle", "(I)V"⟩, 8) := ⟨⟨by decide +kernel, by decide +kernel⟩, List.mem_of_getElem? (i := 389) (by decide +kernel), List.mem_of_getElem? (i := 596) (by decide +kernel), List.mem_of_getElem? (i := 597) (by decide +kernel)⟩
theorem lw_p78 : lw_okq (⟨"TwinStackChipModel", "adjust", "()V"⟩, 8) := ⟨⟨by decide +kernel, by decide +kernel⟩, List.mem_of_getElem? (i := 389) (by decide +kernel), List.mem_of_getElem? (i := 600) (by decide +kernel), List.mem_of_getElem? (i := 601) (by decide +kernel)⟩
theorem lw_p79 : lw_okq (⟨"TwinStackChipModel", "exchange", "(Z)V"⟩, 8) := ⟨⟨by decide +kernel, by decide +kernel⟩, List.mem_of_getElem? (i := 389) (by decide +kernel), List.mem_of_getElem? (i := 604) (by decide +kernel), List.mem_of_getElem? (i := 605) (by decide +kernel)⟩
def lw_privs_5 : List (MethodName × Nat) := [(⟨"TwinStackChipModel", "moved", "(IZ)I"⟩, 8), (⟨"TwinStackChipModel", "setD", "(I)V"⟩, 8), (⟨"TwinStackChipModel", "storeWord", "(II)V"⟩, 8), (⟨"TwinStackChipModel", "writeWord", "(II)V"⟩, 8), (⟨"TwinStackChipModel", "behindEleven", "(I)V"⟩, 8), (⟨"TwinStackChipModel", "upper", "(I)V"⟩, 8), (⟨"TwinStackChipModel", "accumulate", "(II)V"⟩, 8), (⟨"TwinStackChipModel", "operand", "(I)I"⟩, 8), (⟨"TwinStackChipModel", "plus", "(IIIZ)I"⟩, 8), (⟨"TwinStackChipModel", "addWord", "(IZ)V"⟩, 8), (⟨"TwinStackChipModel", "call", "(I)V"⟩, 8), (⟨"TwinStackChipModel", "oneByte", "(I)V"⟩, 8), (⟨"TwinStackChipModel", "onByte", "(II)I"⟩, 8), (⟨"TwinStackChipModel", "middle", "(I)V"⟩, 8), (⟨"TwinStackChipModel", "adjust", "()V"⟩, 8), (⟨"TwinStackChipModel", "exchange", "(Z)V"⟩, 8)]
theorem lw_r5 : ∀ q ∈ lw_privs_5, lw_okq q := List.forall_mem_cons.mpr ⟨lw_p64, List.forall_mem_cons.mpr ⟨lw_p65, List.forall_mem_cons.mpr ⟨lw_p66, List.forall_mem_cons.mpr ⟨lw_p67, List.forall_mem_cons.mpr ⟨lw_p68, List.forall_mem_cons.mpr ⟨lw_p69, List.forall_mem_cons.mpr ⟨lw_p70, List.forall_mem_cons.mpr ⟨lw_p71, List.forall_mem_cons.mpr ⟨lw_p72, List.forall_mem_cons.mpr ⟨lw_p73, List.forall_mem_cons.mpr ⟨lw_p74, List.forall_mem_cons.mpr ⟨lw_p75, List.forall_mem_cons.mpr ⟨lw_p76, List.forall_mem_cons.mpr ⟨lw_p77, List.forall_mem_cons.mpr ⟨lw_p78, List.forall_mem_cons.mpr ⟨lw_p79, fun _ h => absurd h List.not_mem_nil⟩⟩⟩⟩⟩⟩⟩⟩⟩⟩⟩⟩⟩⟩⟩⟩
theorem lw_p80 : lw_okq (⟨"TwinStackChipModel", "get", "(I)I"⟩, 8) := ⟨⟨by decide +kernel, by decide +kernel⟩, List.mem_of_getElem? (i := 389) (by decide +kernel), List.mem_of_getElem? (i := 611) (by decide +kernel), List.mem_of_getElem? (i := 612) (by decide +kernel)⟩
theorem lw_p81 : lw_okq (⟨"TwinStackChipModel", "set", "(II)V"⟩, 8) := ⟨⟨by decide +kernel, by decide +kernel⟩, List.mem_of_getElem? (i := 389) (by decide +kernel), List.mem_of_getElem? (i := 615) (by decide +kernel), List.mem_of_getElem? (i := 616) (by decide +kernel)⟩
theorem lw_p82 : lw_okq (⟨"TwinStackChipModel", "lea", "(I)V"⟩, 8) := ⟨⟨by decide +kernel, by decide +kernel⟩, List.mem_of_getElem? (i := 389) (by decide +kernel), List.mem_of_getElem? (i := 619) (by decide +kernel), List.mem_of_getElem? (i := 620) (by decide +kernel)⟩
theorem lw_p83 : lw_okq (⟨"TwinStackChipModel", "pullAll", "(II)V"⟩, 8) := ⟨⟨by decide +kernel, by decide +kernel⟩, List.mem_of_getElem? (i := 389) (by decide +kernel), List.mem_of_getElem? (i := 623) (by decide +kernel), List.mem_of_getElem? (i := 624) (by decide +kernel)⟩
theorem lw_p84 : lw_okq (⟨"TwinStackChipModel", "pull", "(I)I"⟩, 8) := ⟨⟨by decide +kernel, by decide +kernel⟩, List.mem_of_getElem? (i := 389) (by decide +kernel), List.mem_of_getElem? (i := 627) (by decide +kernel), List.mem_of_getElem? (i := 628) (by decide +kernel)⟩
theorem lw_p85 : lw_okq (⟨"TwinStackChipModel", "pullWord", "(I)I"⟩, 8) := ⟨⟨by decide +kernel, by decide +kernel⟩, List.mem_of_getElem? (i := 389) (by decide +kernel), List.mem_of_getElem? (i := 631) (by decide +kernel), List.mem_of_getElem? (i := 632) (by decide +kernel)⟩
theorem lw_p86 : lw_okq (⟨"TwinStackChipModel", "last", "(I)V"⟩, 8) := ⟨⟨by decide +kernel, by decide +kernel⟩, List.mem_of_getElem? (i := 389) (by decide +kernel), List.mem_of_getElem? (i := 635) (by decide +kernel), List.mem_of_getElem? (i := 636) (by decide +kernel)⟩
theorem lw_p87 : lw_okq (⟨"TwinStackChipModel", "back", "()V"⟩, 8) := ⟨⟨by decide +kernel, by decide +kernel⟩, List.mem_of_getElem? (i := 389) (by decide +kernel), List.mem_of_getElem? (i := 639) (by decide +kernel), List.mem_of_getElem? (i := 640) (by decide +kernel)⟩
theorem lw_p88 : lw_okq (⟨"TwinStackChipModel", "multiply", "()V"⟩, 8) := ⟨⟨by decide +kernel, by decide +kernel⟩, List.mem_of_getElem? (i := 389) (by decide +kernel), List.mem_of_getElem? (i := 643) (by decide +kernel), List.mem_of_getElem? (i := 644) (by decide +kernel)⟩
def lw_privs_6 : List (MethodName × Nat) := [(⟨"TwinStackChipModel", "get", "(I)I"⟩, 8), (⟨"TwinStackChipModel", "set", "(II)V"⟩, 8), (⟨"TwinStackChipModel", "lea", "(I)V"⟩, 8), (⟨"TwinStackChipModel", "pullAll", "(II)V"⟩, 8), (⟨"TwinStackChipModel", "pull", "(I)I"⟩, 8), (⟨"TwinStackChipModel", "pullWord", "(I)I"⟩, 8), (⟨"TwinStackChipModel", "last", "(I)V"⟩, 8), (⟨"TwinStackChipModel", "back", "()V"⟩, 8), (⟨"TwinStackChipModel", "multiply", "()V"⟩, 8)]
theorem lw_r6 : ∀ q ∈ lw_privs_6, lw_okq q := List.forall_mem_cons.mpr ⟨lw_p80, List.forall_mem_cons.mpr ⟨lw_p81, List.forall_mem_cons.mpr ⟨lw_p82, List.forall_mem_cons.mpr ⟨lw_p83, List.forall_mem_cons.mpr ⟨lw_p84, List.forall_mem_cons.mpr ⟨lw_p85, List.forall_mem_cons.mpr ⟨lw_p86, List.forall_mem_cons.mpr ⟨lw_p87, List.forall_mem_cons.mpr ⟨lw_p88, fun _ h => absurd h List.not_mem_nil⟩⟩⟩⟩⟩⟩⟩⟩⟩
def lw_privs : List (MethodName × Nat) := lw_privs_1 ++ (lw_privs_2 ++ (lw_privs_3 ++ (lw_privs_4 ++ (lw_privs_5 ++ (lw_privs_6)))))
def lw_tbl : List Cond := k2_sels lw_privs ++ tables_1
theorem lw_privs_ok : ∀ q ∈ lw_privs, lw_okq q := by
  show ∀ q ∈ lw_privs_1 ++ (lw_privs_2 ++ (lw_privs_3 ++ (lw_privs_4 ++ (lw_privs_5 ++ (lw_privs_6))))), lw_okq q
  exact List.forall_mem_append.mpr ⟨lw_r1, List.forall_mem_append.mpr ⟨lw_r2, List.forall_mem_append.mpr ⟨lw_r3, List.forall_mem_append.mpr ⟨lw_r4, List.forall_mem_append.mpr ⟨lw_r5, lw_r6⟩⟩⟩⟩⟩
-- ===== end of PART A; then your names; then what follows =====
end
section
def R_chip : String := "TwinStackChip"
def R_mem : String := "TwinStackChip$Memory"
def R_reg : String := "TwinStackChip$Registers"
def R_ari : String := "TwinStackChip$Arithmetic"
def R_mod : String := "TwinStackChipModel"
def F_chip : u_T := fun k => match k with
  | 0 => ("TwinStackChip", "memory", "LTwinStackChip$Memory;", true)
  | 1 => ("TwinStackChip", "registers", "LTwinStackChip$Registers;", true)
  | 2 => ("TwinStackChip", "arithmetic", "LTwinStackChip$Arithmetic;", true)
  | 3 => ("TwinStackChip", "levels", "[I", true)
  | 4 => ("TwinStackChip", "nmiArmed", "Z", false)
  | 5 => ("TwinStackChip", "nmiDue", "Z", false)
  | _ => ("TwinStackChip", "waiting", "I", false)
def t_chip : Nat → FieldType := fun k => match k with
  | 0 => .object "TwinStackChip$Memory"
  | 1 => .object "TwinStackChip$Registers"
  | 2 => .object "TwinStackChip$Arithmetic"
  | 3 => .array .int
  | 4 => .boolean
  | 5 => .boolean
  | _ => .int
def F_mem : u_T := fun k => match k with
  | _ => ("TwinStackChip$Memory", "bytes", "[I", true)
def t_mem : Nat → FieldType := fun k => match k with
  | _ => .array .int
def F_reg : u_T := fun k => match k with
  | _ => ("TwinStackChip$Registers", "values", "[I", true)
def t_reg : Nat → FieldType := fun k => match k with
  | _ => .array .int
def F_ari : u_T := fun k => match k with
  | _ => ("TwinStackChip$Arithmetic", "registers", "LTwinStackChip$Registers;", true)
def t_ari : Nat → FieldType := fun k => match k with
  | _ => .object "TwinStackChip$Registers"
def F_mod : u_T := fun k => match k with
  | 0 => ("TwinStackChipModel", "memory", "[I", false)
  | 1 => ("TwinStackChipModel", "\x72", "[I", false)
  | 2 => ("TwinStackChipModel", "before", "[I", false)
  | 3 => ("TwinStackChipModel", "undefined", "Z", false)
  | 4 => ("TwinStackChipModel", "waits", "I", false)
  | 5 => ("TwinStackChipModel", "armed", "Z", false)
  | 6 => ("TwinStackChipModel", "due", "Z", false)
  | _ => ("TwinStackChipModel", "level", "[I", false)
def t_mod : Nat → FieldType := fun k => match k with
  | 0 => .array .int
  | 1 => .array .int
  | 2 => .array .int
  | 3 => .boolean
  | 4 => .int
  | 5 => .boolean
  | 6 => .boolean
  | _ => .array .int
abbrev vwCl : List vw_C := [(R_chip, F_chip, 7), (R_mem, F_mem, 1), (R_reg, F_reg, 1), (R_ari, F_ari, 1), (R_mod, F_mod, 8)]
theorem n_chip : ∀ a, a < 7 → ∀ b, b < 7 → a ≠ b → (F_chip a).2.1 ≠ (F_chip b).2.1 := by decide +kernel
theorem t_chip_ok : ∀ k, k < 7 → parseFieldDescriptor (F_chip k).2.2.1 = some (t_chip k) := by decide +kernel
theorem n_mem : ∀ a, a < 1 → ∀ b, b < 1 → a ≠ b → (F_mem a).2.1 ≠ (F_mem b).2.1 := by decide +kernel
theorem t_mem_ok : ∀ k, k < 1 → parseFieldDescriptor (F_mem k).2.2.1 = some (t_mem k) := by decide +kernel
theorem n_reg : ∀ a, a < 1 → ∀ b, b < 1 → a ≠ b → (F_reg a).2.1 ≠ (F_reg b).2.1 := by decide +kernel
theorem t_reg_ok : ∀ k, k < 1 → parseFieldDescriptor (F_reg k).2.2.1 = some (t_reg k) := by decide +kernel
theorem n_ari : ∀ a, a < 1 → ∀ b, b < 1 → a ≠ b → (F_ari a).2.1 ≠ (F_ari b).2.1 := by decide +kernel
theorem t_ari_ok : ∀ k, k < 1 → parseFieldDescriptor (F_ari k).2.2.1 = some (t_ari k) := by decide +kernel
theorem n_mod : ∀ a, a < 8 → ∀ b, b < 8 → a ≠ b → (F_mod a).2.1 ≠ (F_mod b).2.1 := by decide +kernel
theorem t_mod_ok : ∀ k, k < 8 → parseFieldDescriptor (F_mod k).2.2.1 = some (t_mod k) := by decide +kernel
def tnm (k : Nat) : String := match k with
  | 0 => "LINE_VECTORS"
  | 1 => "SOFTWARE_VECTORS"
  | 2 => "DEFINED_COLUMNS"
  | 3 => "TRANSFER_REGISTERS"
  | _ => "ADDRESS_REGISTERS"
def tln (k : Nat) : Nat := match k with
  | 0 => 3
  | 1 => 3
  | 2 => 48
  | 3 => 16
  | _ => 4
def tvs (k : Nat) : List Int32 := match k with
  | 0 => [65532, 65526, 65528]
  | 1 => [65530, 65524, 65522]
  | 2 => [63449, 63180, 65535, 48895, 47065, 47065, 63449, 63449, 32639, 65535, 65535, 65535, 24447, 65535, 65535, 65535, 0, 0, 65534, 32768, 0, 0, 0, 0, 20488, 53256, 53256, 53256, 16384, 49152, 49152, 49152, 0, 0, 0, 32768, 0, 0, 0, 0, 4104, 4104, 4104, 4104, 0, 0, 0, 0]
  | 3 => [9, 2, 3, 4, 5, 6, -1, -1, 0, 1, 8, 7, -1, -1, -1, -1]
  | _ => [2, 3, 5, 4]
def tvl (k j : Nat) : Int32 := (tvs k).getD j 0
abbrev CS : Type := (Nat → Int32) × (Nat → Int32) × (Nat → Int32) × Int32 × Int32 × Int32
abbrev MS : Type := (Nat → Int32) × (Nat → Int32) × (Nat → Int32) × (Nat → Int32) × Int32 × Int32 × Int32 × Int32
def cx_mem (σ : CS) : Nat → Int32 := σ.1
def cy_mem (σ : CS) (v : Nat → Int32) : CS := (v, σ.2)
def cx_reg (σ : CS) : Nat → Int32 := σ.2.1
def cy_reg (σ : CS) (v : Nat → Int32) : CS := (σ.1, v, σ.2.2)
def cx_lev (σ : CS) : Nat → Int32 := σ.2.2.1
def cy_lev (σ : CS) (v : Nat → Int32) : CS := (σ.1, σ.2.1, v, σ.2.2.2)
def cx_arm (σ : CS) : Int32 := σ.2.2.2.1
def cy_arm (σ : CS) (v : Int32) : CS := (σ.1, σ.2.1, σ.2.2.1, v, σ.2.2.2.2)
def cx_due (σ : CS) : Int32 := σ.2.2.2.2.1
def cy_due (σ : CS) (v : Int32) : CS := (σ.1, σ.2.1, σ.2.2.1, σ.2.2.2.1, v, σ.2.2.2.2.2)
def cx_wai (σ : CS) : Int32 := σ.2.2.2.2.2
def cy_wai (σ : CS) (v : Int32) : CS := (σ.1, σ.2.1, σ.2.2.1, σ.2.2.2.1, σ.2.2.2.2.1, v)
def mx_mem (σ : MS) : Nat → Int32 := σ.1
def my_mem (σ : MS) (v : Nat → Int32) : MS := (v, σ.2)
def mx_reg (σ : MS) : Nat → Int32 := σ.2.1
def my_reg (σ : MS) (v : Nat → Int32) : MS := (σ.1, v, σ.2.2)
def mx_bef (σ : MS) : Nat → Int32 := σ.2.2.1
def my_bef (σ : MS) (v : Nat → Int32) : MS := (σ.1, σ.2.1, v, σ.2.2.2)
def mx_lev (σ : MS) : Nat → Int32 := σ.2.2.2.1
def my_lev (σ : MS) (v : Nat → Int32) : MS := (σ.1, σ.2.1, σ.2.2.1, v, σ.2.2.2.2)
def mx_und (σ : MS) : Int32 := σ.2.2.2.2.1
def my_und (σ : MS) (v : Int32) : MS := (σ.1, σ.2.1, σ.2.2.1, σ.2.2.2.1, v, σ.2.2.2.2.2)
def mx_wai (σ : MS) : Int32 := σ.2.2.2.2.2.1
def my_wai (σ : MS) (v : Int32) : MS := (σ.1, σ.2.1, σ.2.2.1, σ.2.2.2.1, σ.2.2.2.2.1, v, σ.2.2.2.2.2.2)
def mx_arm (σ : MS) : Int32 := σ.2.2.2.2.2.2.1
def my_arm (σ : MS) (v : Int32) : MS := (σ.1, σ.2.1, σ.2.2.1, σ.2.2.2.1, σ.2.2.2.2.1, σ.2.2.2.2.2.1, v, σ.2.2.2.2.2.2.2)
def mx_due (σ : MS) : Int32 := σ.2.2.2.2.2.2.2
def my_due (σ : MS) (v : Int32) : MS := (σ.1, σ.2.1, σ.2.2.1, σ.2.2.2.1, σ.2.2.2.2.1, σ.2.2.2.2.2.1, σ.2.2.2.2.2.2.1, v)
def wdC (ad : Nat → Nat) (cA : ClassId) (σ : CS) : va_W := [(ad 0, .inr (0, [.ref (ad 1), .ref (ad 3), .ref (ad 5), .ref (ad 6), .int (cx_arm σ), .int (cx_due σ), .int (cx_wai σ)])), (ad 1, .inr (1, [.ref (ad 2)])), (ad 2, .inl (cA, 4096, .inl (cx_mem σ))), (ad 3, .inr (2, [.ref (ad 4)])), (ad 4, .inl (cA, 9, .inl (cx_reg σ))), (ad 5, .inr (3, [.ref (ad 3)])), (ad 6, .inl (cA, 3, .inl (cx_lev σ)))]
def wdM (ad : Nat → Nat) (cA : ClassId) (σ : MS) : va_W := [(ad 0, .inr (4, [.ref (ad 1), .ref (ad 2), .ref (ad 3), .int (mx_und σ), .int (mx_wai σ), .int (mx_arm σ), .int (mx_due σ), .ref (ad 4)])), (ad 1, .inl (cA, 4096, .inl (mx_mem σ))), (ad 2, .inl (cA, 9, .inl (mx_reg σ))), (ad 3, .inl (cA, 9, .inl (mx_bef σ))), (ad 4, .inl (cA, 3, .inl (mx_lev σ)))]
abbrev bc_me_has : ByteArray := prog_3_method_2_code
def y_me_has : MethodName := ⟨R_mem, "has", "(I)Z"⟩
abbrev bc_me_byteAt : ByteArray := prog_3_method_3_code
def y_me_byteAt : MethodName := ⟨R_mem, "byteAt", "(I)I"⟩
abbrev bc_me_setByte : ByteArray := prog_3_method_4_code
def y_me_setByte : MethodName := ⟨R_mem, "setByte", "(II)V"⟩
abbrev bc_me_wordAt : ByteArray := prog_3_method_5_code
def y_me_wordAt : MethodName := ⟨R_mem, "wordAt", "(I)I"⟩
abbrev bc_me_setWord : ByteArray := prog_3_method_6_code
def y_me_setWord : MethodName := ⟨R_mem, "setWord", "(II)V"⟩
abbrev bc_re_get : ByteArray := prog_4_method_2_code
def y_re_get : MethodName := ⟨R_reg, "get", "(I)I"⟩
abbrev bc_re_set : ByteArray := prog_4_method_3_code
def y_re_set : MethodName := ⟨R_reg, "set", "(II)V"⟩
abbrev bc_re_has : ByteArray := prog_4_method_4_code
def y_re_has : MethodName := ⟨R_reg, "has", "(I)Z"⟩
abbrev bc_re_turn : ByteArray := prog_4_method_5_code
def y_re_turn : MethodName := ⟨R_reg, "turn", "(IZ)V"⟩
abbrev bc_re_carry : ByteArray := prog_4_method_6_code
def y_re_carry : MethodName := ⟨R_reg, "carry", "()I"⟩
abbrev bc_re_setSign : ByteArray := prog_4_method_7_code
def y_re_setSign : MethodName := ⟨R_reg, "setSign", "(II)V"⟩
abbrev bc_re_meetsEven : ByteArray := prog_4_method_9_code
def y_re_meetsEven : MethodName := ⟨R_reg, "meetsEven", "(I)Z"⟩
abbrev bc_re_meets : ByteArray := prog_4_method_8_code
def y_re_meets : MethodName := ⟨R_reg, "meets", "(I)Z"⟩
abbrev bc_ar_pass : ByteArray := prog_2_method_2_code
def y_ar_pass : MethodName := ⟨R_ari, "pass", "(II)I"⟩
abbrev bc_ar_add : ByteArray := prog_2_method_3_code
def y_ar_add : MethodName := ⟨R_ari, "add", "(IIII)I"⟩
abbrev bc_ar_subtract : ByteArray := prog_2_method_4_code
def y_ar_subtract : MethodName := ⟨R_ari, "subtract", "(IIII)I"⟩
abbrev bc_ar_addByte : ByteArray := prog_2_method_6_code
def y_ar_addByte : MethodName := ⟨R_ari, "addByte", "(III)I"⟩
abbrev bc_ar_combine : ByteArray := prog_2_method_5_code
def y_ar_combine : MethodName := ⟨R_ari, "combine", "(III)I"⟩
abbrev bc_ar_shiftDown : ByteArray := prog_2_method_8_code
def y_ar_shiftDown : MethodName := ⟨R_ari, "shiftDown", "(II)I"⟩
abbrev bc_ar_shiftUp : ByteArray := prog_2_method_9_code
def y_ar_shiftUp : MethodName := ⟨R_ari, "shiftUp", "(II)I"⟩
abbrev bc_ar_count : ByteArray := prog_2_method_10_code
def y_ar_count : MethodName := ⟨R_ari, "count", "(IZ)I"⟩
abbrev bc_ar_alter : ByteArray := prog_2_method_7_code
def y_ar_alter : MethodName := ⟨R_ari, "alter", "(II)I"⟩
abbrev bc_ar_adjustDecimal : ByteArray := prog_2_method_11_code
def y_ar_adjustDecimal : MethodName := ⟨R_ari, "adjustDecimal", "()V"⟩
abbrev bc_ar_extendSign : ByteArray := prog_2_method_12_code
def y_ar_extendSign : MethodName := ⟨R_ari, "extendSign", "()V"⟩
abbrev bc_ar_multiply : ByteArray := prog_2_method_13_code
def y_ar_multiply : MethodName := ⟨R_ari, "multiply", "()V"⟩
abbrev bc_tc_reset : ByteArray := prog_1_method_2_code
def y_tc_reset : MethodName := ⟨R_chip, "reset", "()V"⟩
abbrev bc_tc_poke : ByteArray := prog_1_method_3_code
def y_tc_poke : MethodName := ⟨R_chip, "poke", "(II)Z"⟩
abbrev bc_tc_load : ByteArray := prog_1_method_4_code
def y_tc_load : MethodName := ⟨R_chip, "load", "(III)Z"⟩
abbrev bc_tc_peek : ByteArray := prog_1_method_5_code
def y_tc_peek : MethodName := ⟨R_chip, "peek", "(I)I"⟩
abbrev bc_tc_lineToServe : ByteArray := prog_1_method_14_code
def y_tc_lineToServe : MethodName := ⟨R_chip, "lineToServe", "()I"⟩
abbrev bc_tc_pushWord : ByteArray := prog_1_method_46_code
def y_tc_pushWord : MethodName := ⟨R_chip, "pushWord", "(II)V"⟩
abbrev bc_tc_otherStack : ByteArray := prog_1_method_51_code
def y_tc_otherStack : MethodName := ⟨R_chip, "otherStack", "(I)I"⟩
abbrev bc_tc_pushByte : ByteArray := prog_1_method_45_code
def y_tc_pushByte : MethodName := ⟨R_chip, "pushByte", "(II)V"⟩
abbrev bc_tc_pushRegisters : ByteArray := prog_1_method_49_code
def y_tc_pushRegisters : MethodName := ⟨R_chip, "pushRegisters", "(II)V"⟩
abbrev bc_tc_serve : ByteArray := prog_1_method_15_code
def y_tc_serve : MethodName := ⟨R_chip, "serve", "(I)V"⟩
abbrev bc_tc_staysWaiting : ByteArray := prog_1_method_16_code
def y_tc_staysWaiting : MethodName := ⟨R_chip, "staysWaiting", "()Z"⟩
abbrev bc_tc_fetchByte : ByteArray := prog_1_method_19_code
def y_tc_fetchByte : MethodName := ⟨R_chip, "fetchByte", "()I"⟩
abbrev bc_tc_fetchCode : ByteArray := prog_1_method_21_code
def y_tc_fetchCode : MethodName := ⟨R_chip, "fetchCode", "()I"⟩
abbrev bc_tc_isIndexed : ByteArray := prog_1_method_23_code
def y_tc_isIndexed : MethodName := ⟨R_chip, "isIndexed", "(I)Z"⟩
abbrev bc_tc_isDefinedPostbyte : ByteArray := prog_1_method_24_code
def y_tc_isDefinedPostbyte : MethodName := ⟨R_chip, "isDefinedPostbyte", "(I)Z"⟩
abbrev bc_tc_isDefinedPair : ByteArray := prog_1_method_25_code
def y_tc_isDefinedPair : MethodName := ⟨R_chip, "isDefinedPair", "(II)Z"⟩
abbrev bc_tc_isDefined : ByteArray := prog_1_method_22_code
def y_tc_isDefined : MethodName := ⟨R_chip, "isDefined", "(I)Z"⟩
abbrev bc_tc_fetchWord : ByteArray := prog_1_method_20_code
def y_tc_fetchWord : MethodName := ⟨R_chip, "fetchWord", "()I"⟩
abbrev bc_tc_goOn : ByteArray := prog_1_method_35_code
def y_tc_goOn : MethodName := ⟨R_chip, "goOn", "(I)V"⟩
abbrev bc_tc_callRelative : ByteArray := prog_1_method_36_code
def y_tc_callRelative : MethodName := ⟨R_chip, "callRelative", "(I)V"⟩
abbrev bc_tc_become : ByteArray := prog_1_method_42_code
def y_tc_become : MethodName := ⟨R_chip, "become", "(II)V"⟩
abbrev bc_tc_exchange : ByteArray := prog_1_method_43_code
def y_tc_exchange : MethodName := ⟨R_chip, "exchange", "(I)V"⟩
abbrev bc_tc_transfer : ByteArray := prog_1_method_44_code
def y_tc_transfer : MethodName := ⟨R_chip, "transfer", "(I)V"⟩
abbrev bc_tc_executeRowOne : ByteArray := prog_1_method_30_code
def y_tc_executeRowOne : MethodName := ⟨R_chip, "executeRowOne", "(I)V"⟩
abbrev bc_tc_branch : ByteArray := prog_1_method_34_code
def y_tc_branch : MethodName := ⟨R_chip, "branch", "(II)V"⟩
abbrev bc_tc_addressByKind : ByteArray := prog_1_method_28_code
def y_tc_addressByKind : MethodName := ⟨R_chip, "addressByKind", "(II)I"⟩
abbrev bc_tc_indexedAddress : ByteArray := prog_1_method_27_code
def y_tc_indexedAddress : MethodName := ⟨R_chip, "indexedAddress", "()I"⟩
abbrev bc_tc_takeAddress : ByteArray := prog_1_method_32_code
def y_tc_takeAddress : MethodName := ⟨R_chip, "takeAddress", "(II)V"⟩
abbrev bc_tc_pullByte : ByteArray := prog_1_method_47_code
def y_tc_pullByte : MethodName := ⟨R_chip, "pullByte", "(I)I"⟩
abbrev bc_tc_pullWord : ByteArray := prog_1_method_48_code
def y_tc_pullWord : MethodName := ⟨R_chip, "pullWord", "(I)I"⟩
abbrev bc_tc_pullRegisters : ByteArray := prog_1_method_50_code
def y_tc_pullRegisters : MethodName := ⟨R_chip, "pullRegisters", "(II)V"⟩
abbrev bc_tc_returnFromInterrupt : ByteArray := prog_1_method_52_code
def y_tc_returnFromInterrupt : MethodName := ⟨R_chip, "returnFromInterrupt", "()V"⟩
abbrev bc_tc_waitForInterrupt : ByteArray := prog_1_method_18_code
def y_tc_waitForInterrupt : MethodName := ⟨R_chip, "waitForInterrupt", "(I)V"⟩
abbrev bc_tc_softwareInterrupt : ByteArray := prog_1_method_17_code
def y_tc_softwareInterrupt : MethodName := ⟨R_chip, "softwareInterrupt", "(I)V"⟩
abbrev bc_tc_executeRowThree : ByteArray := prog_1_method_31_code
def y_tc_executeRowThree : MethodName := ⟨R_chip, "executeRowThree", "(II)V"⟩
abbrev bc_tc_operandAddress : ByteArray := prog_1_method_26_code
def y_tc_operandAddress : MethodName := ⟨R_chip, "operandAddress", "(II)I"⟩
abbrev bc_tc_alterMemory : ByteArray := prog_1_method_33_code
def y_tc_alterMemory : MethodName := ⟨R_chip, "alterMemory", "(II)V"⟩
abbrev bc_tc_executeLowerHalf : ByteArray := prog_1_method_29_code
def y_tc_executeLowerHalf : MethodName := ⟨R_chip, "executeLowerHalf", "(I)V"⟩
abbrev bc_tc_call : ByteArray := prog_1_method_37_code
def y_tc_call : MethodName := ⟨R_chip, "call", "(I)V"⟩
abbrev bc_tc_wordRegister : ByteArray := prog_1_method_41_code
def y_tc_wordRegister : MethodName := ⟨R_chip, "wordRegister", "(IIZ)I"⟩
abbrev bc_tc_operateOnWord : ByteArray := prog_1_method_40_code
def y_tc_operateOnWord : MethodName := ⟨R_chip, "operateOnWord", "(IIZI)V"⟩
abbrev bc_tc_operateOnByte : ByteArray := prog_1_method_39_code
def y_tc_operateOnByte : MethodName := ⟨R_chip, "operateOnByte", "(III)V"⟩
abbrev bc_tc_executeUpperHalf : ByteArray := prog_1_method_38_code
def y_tc_executeUpperHalf : MethodName := ⟨R_chip, "executeUpperHalf", "(I)V"⟩
abbrev bc_tc_step : ByteArray := prog_1_method_6_code
def y_tc_step : MethodName := ⟨R_chip, "step", "()I"⟩
abbrev bc_tc_run : ByteArray := prog_1_method_7_code
def y_tc_run : MethodName := ⟨R_chip, "run", "(I)I"⟩
abbrev bc_tc_setLine : ByteArray := prog_1_method_8_code
def y_tc_setLine : MethodName := ⟨R_chip, "setLine", "(II)Z"⟩
abbrev bc_tc_isFaceRegister : ByteArray := prog_1_method_13_code
def y_tc_isFaceRegister : MethodName := ⟨R_chip, "isFaceRegister", "(I)Z"⟩
abbrev bc_tc_reg : ByteArray := prog_1_method_9_code
def y_tc_reg : MethodName := ⟨R_chip, "reg", "(I)I"⟩
abbrev bc_tc_put : ByteArray := prog_1_method_10_code
def y_tc_put : MethodName := ⟨R_chip, "put", "(II)Z"⟩
abbrev bc_tc_waits : ByteArray := prog_1_method_11_code
def y_tc_waits : MethodName := ⟨R_chip, "waits", "()I"⟩
abbrev bc_tc_lines : ByteArray := prog_1_method_12_code
def y_tc_lines : MethodName := ⟨R_chip, "lines", "()I"⟩
abbrev bc_mo_in : ByteArray := prog_6_method_2_code
def y_mo_in : MethodName := ⟨R_mod, "in", "(III)Z"⟩
abbrev bc_mo_read : ByteArray := prog_6_method_3_code
def y_mo_read : MethodName := ⟨R_mod, "read", "(I)I"⟩
abbrev bc_mo_readWord : ByteArray := prog_6_method_4_code
def y_mo_readWord : MethodName := ⟨R_mod, "readWord", "(I)I"⟩
abbrev bc_mo_write : ByteArray := prog_6_method_5_code
def y_mo_write : MethodName := ⟨R_mod, "write", "(II)V"⟩
abbrev bc_mo_writeWord : ByteArray := prog_6_method_6_code
def y_mo_writeWord : MethodName := ⟨R_mod, "writeWord", "(II)V"⟩
abbrev bc_mo_next : ByteArray := prog_6_method_7_code
def y_mo_next : MethodName := ⟨R_mod, "next", "()I"⟩
abbrev bc_mo_nextWord : ByteArray := prog_6_method_8_code
def y_mo_nextWord : MethodName := ⟨R_mod, "nextWord", "()I"⟩
abbrev bc_mo_signed : ByteArray := prog_6_method_9_code
def y_mo_signed : MethodName := ⟨R_mod, "signed", "(I)I"⟩
abbrev bc_mo_d : ByteArray := prog_6_method_10_code
def y_mo_d : MethodName := ⟨R_mod, "d", "()I"⟩
abbrev bc_mo_setD : ByteArray := prog_6_method_11_code
def y_mo_setD : MethodName := ⟨R_mod, "setD", "(I)V"⟩
abbrev bc_mo_flag : ByteArray := prog_6_method_12_code
def y_mo_flag : MethodName := ⟨R_mod, "flag", "(IZ)V"⟩
abbrev bc_mo_is : ByteArray := prog_6_method_13_code
def y_mo_is : MethodName := ⟨R_mod, "is", "(I)Z"⟩
abbrev bc_mo_shows : ByteArray := prog_6_method_14_code
def y_mo_shows : MethodName := ⟨R_mod, "shows", "(IZ)V"⟩
abbrev bc_mo_moved : ByteArray := prog_6_method_15_code
def y_mo_moved : MethodName := ⟨R_mod, "moved", "(IZ)I"⟩
abbrev bc_mo_asSigned : ByteArray := prog_6_method_16_code
def y_mo_asSigned : MethodName := ⟨R_mod, "asSigned", "(IZ)I"⟩
abbrev bc_mo_hasRoom : ByteArray := prog_6_method_17_code
def y_mo_hasRoom : MethodName := ⟨R_mod, "hasRoom", "(IZ)Z"⟩
abbrev bc_mo_plus : ByteArray := prog_6_method_18_code
def y_mo_plus : MethodName := ⟨R_mod, "plus", "(IIIZ)I"⟩
abbrev bc_mo_less : ByteArray := prog_6_method_19_code
def y_mo_less : MethodName := ⟨R_mod, "less", "(IIIZ)I"⟩
abbrev bc_mo_byPostbyte : ByteArray := prog_6_method_20_code
def y_mo_byPostbyte : MethodName := ⟨R_mod, "byPostbyte", "()I"⟩
abbrev bc_mo_address : ByteArray := prog_6_method_21_code
def y_mo_address : MethodName := ⟨R_mod, "address", "(I)I"⟩
abbrev bc_mo_operand : ByteArray := prog_6_method_22_code
def y_mo_operand : MethodName := ⟨R_mod, "operand", "(I)I"⟩
abbrev bc_mo_wordOperand : ByteArray := prog_6_method_23_code
def y_mo_wordOperand : MethodName := ⟨R_mod, "wordOperand", "(I)I"⟩
abbrev bc_mo_push : ByteArray := prog_6_method_24_code
def y_mo_push : MethodName := ⟨R_mod, "push", "(II)V"⟩
abbrev bc_mo_pushWord : ByteArray := prog_6_method_25_code
def y_mo_pushWord : MethodName := ⟨R_mod, "pushWord", "(II)V"⟩
abbrev bc_mo_pull : ByteArray := prog_6_method_26_code
def y_mo_pull : MethodName := ⟨R_mod, "pull", "(I)I"⟩
abbrev bc_mo_pullWord : ByteArray := prog_6_method_27_code
def y_mo_pullWord : MethodName := ⟨R_mod, "pullWord", "(I)I"⟩
abbrev bc_mo_pushAll : ByteArray := prog_6_method_28_code
def y_mo_pushAll : MethodName := ⟨R_mod, "pushAll", "(II)V"⟩
abbrev bc_mo_pullAll : ByteArray := prog_6_method_29_code
def y_mo_pullAll : MethodName := ⟨R_mod, "pullAll", "(II)V"⟩
abbrev bc_mo_onByte : ByteArray := prog_6_method_30_code
def y_mo_onByte : MethodName := ⟨R_mod, "onByte", "(II)I"⟩
abbrev bc_mo_oneByte : ByteArray := prog_6_method_31_code
def y_mo_oneByte : MethodName := ⟨R_mod, "oneByte", "(I)V"⟩
abbrev bc_mo_accumulate : ByteArray := prog_6_method_32_code
def y_mo_accumulate : MethodName := ⟨R_mod, "accumulate", "(II)V"⟩
abbrev bc_mo_compare : ByteArray := prog_6_method_33_code
def y_mo_compare : MethodName := ⟨R_mod, "compare", "(III)V"⟩
abbrev bc_mo_loadWord : ByteArray := prog_6_method_34_code
def y_mo_loadWord : MethodName := ⟨R_mod, "loadWord", "(II)V"⟩
abbrev bc_mo_storeWord : ByteArray := prog_6_method_35_code
def y_mo_storeWord : MethodName := ⟨R_mod, "storeWord", "(II)V"⟩
abbrev bc_mo_addWord : ByteArray := prog_6_method_36_code
def y_mo_addWord : MethodName := ⟨R_mod, "addWord", "(IZ)V"⟩
abbrev bc_mo_call : ByteArray := prog_6_method_37_code
def y_mo_call : MethodName := ⟨R_mod, "call", "(I)V"⟩
abbrev bc_mo_upper : ByteArray := prog_6_method_38_code
def y_mo_upper : MethodName := ⟨R_mod, "upper", "(I)V"⟩
abbrev bc_mo_holds : ByteArray := prog_6_method_39_code
def y_mo_holds : MethodName := ⟨R_mod, "holds", "(I)Z"⟩
abbrev bc_mo_branch : ByteArray := prog_6_method_40_code
def y_mo_branch : MethodName := ⟨R_mod, "branch", "(IZ)V"⟩
abbrev bc_mo_adjust : ByteArray := prog_6_method_41_code
def y_mo_adjust : MethodName := ⟨R_mod, "adjust", "()V"⟩
abbrev bc_mo_named : ByteArray := prog_6_method_42_code
def y_mo_named : MethodName := ⟨R_mod, "named", "(I)I"⟩
abbrev bc_mo_get : ByteArray := prog_6_method_43_code
def y_mo_get : MethodName := ⟨R_mod, "get", "(I)I"⟩
abbrev bc_mo_set : ByteArray := prog_6_method_44_code
def y_mo_set : MethodName := ⟨R_mod, "set", "(II)V"⟩
abbrev bc_mo_exchange : ByteArray := prog_6_method_45_code
def y_mo_exchange : MethodName := ⟨R_mod, "exchange", "(Z)V"⟩
abbrev bc_mo_lea : ByteArray := prog_6_method_46_code
def y_mo_lea : MethodName := ⟨R_mod, "lea", "(I)V"⟩
abbrev bc_mo_pushState : ByteArray := prog_6_method_47_code
def y_mo_pushState : MethodName := ⟨R_mod, "pushState", "()V"⟩
abbrev bc_mo_trap : ByteArray := prog_6_method_48_code
def y_mo_trap : MethodName := ⟨R_mod, "trap", "(IZ)V"⟩
abbrev bc_mo_multiply : ByteArray := prog_6_method_49_code
def y_mo_multiply : MethodName := ⟨R_mod, "multiply", "()V"⟩
abbrev bc_mo_back : ByteArray := prog_6_method_50_code
def y_mo_back : MethodName := ⟨R_mod, "back", "()V"⟩
abbrev bc_mo_last : ByteArray := prog_6_method_52_code
def y_mo_last : MethodName := ⟨R_mod, "last", "(I)V"⟩
abbrev bc_mo_middle : ByteArray := prog_6_method_51_code
def y_mo_middle : MethodName := ⟨R_mod, "middle", "(I)V"⟩
abbrev bc_mo_behindTen : ByteArray := prog_6_method_53_code
def y_mo_behindTen : MethodName := ⟨R_mod, "behindTen", "(I)V"⟩
abbrev bc_mo_behindEleven : ByteArray := prog_6_method_54_code
def y_mo_behindEleven : MethodName := ⟨R_mod, "behindEleven", "(I)V"⟩
abbrev bc_mo_instruct : ByteArray := prog_6_method_55_code
def y_mo_instruct : MethodName := ⟨R_mod, "instruct", "()Z"⟩
abbrev bc_mo_interrupt : ByteArray := prog_6_method_56_code
def y_mo_interrupt : MethodName := ⟨R_mod, "interrupt", "(I)V"⟩
abbrev bc_mo_step : ByteArray := prog_6_method_57_code
def y_mo_step : MethodName := ⟨R_mod, "step", "()I"⟩
abbrev bc_mo_run : ByteArray := prog_6_method_58_code
def y_mo_run : MethodName := ⟨R_mod, "run", "(I)I"⟩
abbrev bc_mo_reset : ByteArray := prog_6_method_59_code
def y_mo_reset : MethodName := ⟨R_mod, "reset", "()V"⟩
abbrev bc_mo_poke : ByteArray := prog_6_method_60_code
def y_mo_poke : MethodName := ⟨R_mod, "poke", "(II)Z"⟩
abbrev bc_mo_load : ByteArray := prog_6_method_61_code
def y_mo_load : MethodName := ⟨R_mod, "load", "(III)Z"⟩
abbrev bc_mo_peek : ByteArray := prog_6_method_62_code
def y_mo_peek : MethodName := ⟨R_mod, "peek", "(I)I"⟩
abbrev bc_mo_setLine : ByteArray := prog_6_method_63_code
def y_mo_setLine : MethodName := ⟨R_mod, "setLine", "(II)Z"⟩
abbrev bc_mo_reg : ByteArray := prog_6_method_64_code
def y_mo_reg : MethodName := ⟨R_mod, "reg", "(I)I"⟩
abbrev bc_mo_put : ByteArray := prog_6_method_65_code
def y_mo_put : MethodName := ⟨R_mod, "put", "(II)Z"⟩
abbrev bc_mo_waits : ByteArray := prog_6_method_66_code
def y_mo_waits : MethodName := ⟨R_mod, "waits", "()I"⟩
abbrev bc_mo_lines : ByteArray := prog_6_method_67_code
def y_mo_lines : MethodName := ⟨R_mod, "lines", "()I"⟩
abbrev bc_me_init : ByteArray := prog_3_method_1_code
def y_me_init : MethodName := ⟨R_mem, "<init>", "()V"⟩
abbrev bc_re_init : ByteArray := prog_4_method_1_code
def y_re_init : MethodName := ⟨R_reg, "<init>", "()V"⟩
abbrev bc_ar_init : ByteArray := prog_2_method_1_code
def y_ar_init : MethodName := ⟨R_ari, "<init>", "(LTwinStackChip$Registers;)V"⟩
abbrev bc_tc_init : ByteArray := prog_1_method_1_code
def y_tc_init : MethodName := ⟨R_chip, "<init>", "()V"⟩
abbrev bc_mo_init : ByteArray := prog_6_method_1_code
def y_mo_init : MethodName := ⟨R_mod, "<init>", "()V"⟩
theorem cb_m128 : (Int8.ofInt (-128)).toInt32 = (-128 : Int32) := by decide
theorem cb_m13 : (Int8.ofInt (-13)).toInt32 = (-13 : Int32) := by decide
theorem cb_m2 : (Int8.ofInt (-2)).toInt32 = (-2 : Int32) := by decide
theorem cb_6 : (Int8.ofInt 6).toInt32 = (6 : Int32) := by decide
theorem cb_7 : (Int8.ofInt 7).toInt32 = (7 : Int32) := by decide
theorem cb_8 : (Int8.ofInt 8).toInt32 = (8 : Int32) := by decide
theorem cb_9 : (Int8.ofInt 9).toInt32 = (9 : Int32) := by decide
theorem cb_10 : (Int8.ofInt 10).toInt32 = (10 : Int32) := by decide
theorem cb_11 : (Int8.ofInt 11).toInt32 = (11 : Int32) := by decide
theorem cb_12 : (Int8.ofInt 12).toInt32 = (12 : Int32) := by decide
theorem cb_13 : (Int8.ofInt 13).toInt32 = (13 : Int32) := by decide
theorem cb_14 : (Int8.ofInt 14).toInt32 = (14 : Int32) := by decide
theorem cb_15 : (Int8.ofInt 15).toInt32 = (15 : Int32) := by decide
theorem cb_16 : (Int8.ofInt 16).toInt32 = (16 : Int32) := by decide
theorem cb_17 : (Int8.ofInt 17).toInt32 = (17 : Int32) := by decide
theorem cb_18 : (Int8.ofInt 18).toInt32 = (18 : Int32) := by decide
theorem cb_19 : (Int8.ofInt 19).toInt32 = (19 : Int32) := by decide
theorem cb_22 : (Int8.ofInt 22).toInt32 = (22 : Int32) := by decide
theorem cb_23 : (Int8.ofInt 23).toInt32 = (23 : Int32) := by decide
theorem cb_25 : (Int8.ofInt 25).toInt32 = (25 : Int32) := by decide
theorem cb_26 : (Int8.ofInt 26).toInt32 = (26 : Int32) := by decide
theorem cb_28 : (Int8.ofInt 28).toInt32 = (28 : Int32) := by decide
theorem cb_29 : (Int8.ofInt 29).toInt32 = (29 : Int32) := by decide
theorem cb_30 : (Int8.ofInt 30).toInt32 = (30 : Int32) := by decide
theorem cb_31 : (Int8.ofInt 31).toInt32 = (31 : Int32) := by decide
theorem cb_32 : (Int8.ofInt 32).toInt32 = (32 : Int32) := by decide
theorem cb_33 : (Int8.ofInt 33).toInt32 = (33 : Int32) := by decide
theorem cb_47 : (Int8.ofInt 47).toInt32 = (47 : Int32) := by decide
theorem cb_48 : (Int8.ofInt 48).toInt32 = (48 : Int32) := by decide
theorem cb_49 : (Int8.ofInt 49).toInt32 = (49 : Int32) := by decide
theorem cb_50 : (Int8.ofInt 50).toInt32 = (50 : Int32) := by decide
theorem cb_51 : (Int8.ofInt 51).toInt32 = (51 : Int32) := by decide
theorem cb_52 : (Int8.ofInt 52).toInt32 = (52 : Int32) := by decide
theorem cb_54 : (Int8.ofInt 54).toInt32 = (54 : Int32) := by decide
theorem cb_55 : (Int8.ofInt 55).toInt32 = (55 : Int32) := by decide
theorem cb_57 : (Int8.ofInt 57).toInt32 = (57 : Int32) := by decide
theorem cb_58 : (Int8.ofInt 58).toInt32 = (58 : Int32) := by decide
theorem cb_59 : (Int8.ofInt 59).toInt32 = (59 : Int32) := by decide
theorem cb_60 : (Int8.ofInt 60).toInt32 = (60 : Int32) := by decide
theorem cb_61 : (Int8.ofInt 61).toInt32 = (61 : Int32) := by decide
theorem cb_63 : (Int8.ofInt 63).toInt32 = (63 : Int32) := by decide
theorem cb_64 : (Int8.ofInt 64).toInt32 = (64 : Int32) := by decide
theorem cb_80 : (Int8.ofInt 80).toInt32 = (80 : Int32) := by decide
theorem cb_96 : (Int8.ofInt 96).toInt32 = (96 : Int32) := by decide
theorem cb_127 : (Int8.ofInt 127).toInt32 = (127 : Int32) := by decide
theorem ci_m1 : Int32.ofInt (-1) = (-1 : Int32) := by decide
theorem ci_0 : Int32.ofInt 0 = (0 : Int32) := by decide
theorem ci_1 : Int32.ofInt 1 = (1 : Int32) := by decide
theorem ci_2 : Int32.ofInt 2 = (2 : Int32) := by decide
theorem ci_3 : Int32.ofInt 3 = (3 : Int32) := by decide
theorem ci_4 : Int32.ofInt 4 = (4 : Int32) := by decide
theorem ci_5 : Int32.ofInt 5 = (5 : Int32) := by decide
theorem ci_6 : Int32.ofInt 6 = (6 : Int32) := by decide
theorem ci_96 : Int32.ofInt 96 = (96 : Int32) := by decide
theorem cs_m32768 : (Int16.ofInt (-32768)).toInt32 = (-32768 : Int32) := by decide
theorem cs_128 : (Int16.ofInt 128).toInt32 = (128 : Int32) := by decide
theorem cs_129 : (Int16.ofInt 129).toInt32 = (129 : Int32) := by decide
theorem cs_141 : (Int16.ofInt 141).toInt32 = (141 : Int32) := by decide
theorem cs_159 : (Int16.ofInt 159).toInt32 = (159 : Int32) := by decide
theorem cs_191 : (Int16.ofInt 191).toInt32 = (191 : Int32) := by decide
theorem cs_192 : (Int16.ofInt 192).toInt32 = (192 : Int32) := by decide
theorem cs_254 : (Int16.ofInt 254).toInt32 = (254 : Int32) := by decide
theorem cs_255 : (Int16.ofInt 255).toInt32 = (255 : Int32) := by decide
theorem cs_256 : (Int16.ofInt 256).toInt32 = (256 : Int32) := by decide
theorem cs_512 : (Int16.ofInt 512).toInt32 = (512 : Int32) := by decide
theorem cs_4095 : (Int16.ofInt 4095).toInt32 = (4095 : Int32) := by decide
theorem cs_4096 : (Int16.ofInt 4096).toInt32 = (4096 : Int32) := by decide
theorem cs_15226 : (Int16.ofInt 15226).toInt32 = (15226 : Int32) := by decide
theorem cs_15231 : (Int16.ofInt 15231).toInt32 = (15231 : Int32) := by decide
theorem cs_32767 : (Int16.ofInt 32767).toInt32 = (32767 : Int32) := by decide
end
section
theorem d_me_has_0 : decode bc_me_has 0 = .ok (.iload_n 0, 1) := by decide +kernel
theorem d_me_has_1 : decode bc_me_has 1 = .ok (.ifCond .lt 14, 3) := by decide +kernel
theorem d_me_has_4 : decode bc_me_has 4 = .ok (.iload_n 0, 1) := by decide +kernel
theorem d_me_has_5 : decode bc_me_has 5 = .ok (.sipush 4096, 3) := by decide +kernel
theorem d_me_has_8 : decode bc_me_has 8 = .ok (.if_icmp .ge 7, 3) := by decide +kernel
theorem d_me_has_11 : decode bc_me_has 11 = .ok (.iconst 1, 1) := by decide +kernel
theorem d_me_has_12 : decode bc_me_has 12 = .ok (.goto 4, 3) := by decide +kernel
theorem d_me_has_15 : decode bc_me_has 15 = .ok (.iconst 0, 1) := by decide +kernel
theorem d_me_has_16 : decode bc_me_has 16 = .ok (.ireturn, 1) := by decide +kernel
theorem d_me_byteAt_0 : decode bc_me_byteAt 0 = .ok (.aload_n 0, 1) := by decide +kernel
theorem d_me_byteAt_1 : decode bc_me_byteAt 1 = .ok (.getfield 9, 3) := by decide +kernel
theorem d_me_byteAt_4 : decode bc_me_byteAt 4 = .ok (.iload_n 1, 1) := by decide +kernel
theorem d_me_byteAt_5 : decode bc_me_byteAt 5 = .ok (.sipush 4095, 3) := by decide +kernel
theorem d_me_byteAt_8 : decode bc_me_byteAt 8 = .ok (.iand, 1) := by decide +kernel
theorem d_me_byteAt_9 : decode bc_me_byteAt 9 = .ok (.iaload, 1) := by decide +kernel
theorem d_me_byteAt_10 : decode bc_me_byteAt 10 = .ok (.ireturn, 1) := by decide +kernel
theorem d_me_setByte_0 : decode bc_me_setByte 0 = .ok (.aload_n 0, 1) := by decide +kernel
theorem d_me_setByte_1 : decode bc_me_setByte 1 = .ok (.getfield 9, 3) := by decide +kernel
theorem d_me_setByte_4 : decode bc_me_setByte 4 = .ok (.iload_n 1, 1) := by decide +kernel
theorem d_me_setByte_5 : decode bc_me_setByte 5 = .ok (.sipush 4095, 3) := by decide +kernel
theorem d_me_setByte_8 : decode bc_me_setByte 8 = .ok (.iand, 1) := by decide +kernel
theorem d_me_setByte_9 : decode bc_me_setByte 9 = .ok (.iload_n 2, 1) := by decide +kernel
theorem d_me_setByte_10 : decode bc_me_setByte 10 = .ok (.sipush 255, 3) := by decide +kernel
theorem d_me_setByte_13 : decode bc_me_setByte 13 = .ok (.iand, 1) := by decide +kernel
theorem d_me_setByte_14 : decode bc_me_setByte 14 = .ok (.iastore, 1) := by decide +kernel
theorem d_me_setByte_15 : decode bc_me_setByte 15 = .ok (.return_, 1) := by decide +kernel
theorem d_me_wordAt_0 : decode bc_me_wordAt 0 = .ok (.aload_n 0, 1) := by decide +kernel
theorem d_me_wordAt_1 : decode bc_me_wordAt 1 = .ok (.getfield 9, 3) := by decide +kernel
theorem d_me_wordAt_4 : decode bc_me_wordAt 4 = .ok (.iload_n 1, 1) := by decide +kernel
theorem d_me_wordAt_5 : decode bc_me_wordAt 5 = .ok (.sipush 4095, 3) := by decide +kernel
theorem d_me_wordAt_8 : decode bc_me_wordAt 8 = .ok (.iand, 1) := by decide +kernel
theorem d_me_wordAt_9 : decode bc_me_wordAt 9 = .ok (.iaload, 1) := by decide +kernel
theorem d_me_wordAt_10 : decode bc_me_wordAt 10 = .ok (.bipush 8, 2) := by decide +kernel
theorem d_me_wordAt_12 : decode bc_me_wordAt 12 = .ok (.ishl, 1) := by decide +kernel
theorem d_me_wordAt_13 : decode bc_me_wordAt 13 = .ok (.aload_n 0, 1) := by decide +kernel
theorem d_me_wordAt_14 : decode bc_me_wordAt 14 = .ok (.getfield 9, 3) := by decide +kernel
theorem d_me_wordAt_17 : decode bc_me_wordAt 17 = .ok (.iload_n 1, 1) := by decide +kernel
theorem d_me_wordAt_18 : decode bc_me_wordAt 18 = .ok (.iconst 1, 1) := by decide +kernel
theorem d_me_wordAt_19 : decode bc_me_wordAt 19 = .ok (.iadd, 1) := by decide +kernel
theorem d_me_wordAt_20 : decode bc_me_wordAt 20 = .ok (.sipush 4095, 3) := by decide +kernel
theorem d_me_wordAt_23 : decode bc_me_wordAt 23 = .ok (.iand, 1) := by decide +kernel
theorem d_me_wordAt_24 : decode bc_me_wordAt 24 = .ok (.iaload, 1) := by decide +kernel
theorem d_me_wordAt_25 : decode bc_me_wordAt 25 = .ok (.ior, 1) := by decide +kernel
theorem d_me_wordAt_26 : decode bc_me_wordAt 26 = .ok (.ireturn, 1) := by decide +kernel
theorem d_me_setWord_0 : decode bc_me_setWord 0 = .ok (.aload_n 0, 1) := by decide +kernel
theorem d_me_setWord_1 : decode bc_me_setWord 1 = .ok (.getfield 9, 3) := by decide +kernel
theorem d_me_setWord_4 : decode bc_me_setWord 4 = .ok (.iload_n 1, 1) := by decide +kernel
theorem d_me_setWord_5 : decode bc_me_setWord 5 = .ok (.sipush 4095, 3) := by decide +kernel
theorem d_me_setWord_8 : decode bc_me_setWord 8 = .ok (.iand, 1) := by decide +kernel
theorem d_me_setWord_9 : decode bc_me_setWord 9 = .ok (.iload_n 2, 1) := by decide +kernel
theorem d_me_setWord_10 : decode bc_me_setWord 10 = .ok (.bipush 8, 2) := by decide +kernel
theorem d_me_setWord_12 : decode bc_me_setWord 12 = .ok (.ishr, 1) := by decide +kernel
theorem d_me_setWord_13 : decode bc_me_setWord 13 = .ok (.sipush 255, 3) := by decide +kernel
theorem d_me_setWord_16 : decode bc_me_setWord 16 = .ok (.iand, 1) := by decide +kernel
theorem d_me_setWord_17 : decode bc_me_setWord 17 = .ok (.iastore, 1) := by decide +kernel
theorem d_me_setWord_18 : decode bc_me_setWord 18 = .ok (.aload_n 0, 1) := by decide +kernel
theorem d_me_setWord_19 : decode bc_me_setWord 19 = .ok (.getfield 9, 3) := by decide +kernel
theorem d_me_setWord_22 : decode bc_me_setWord 22 = .ok (.iload_n 1, 1) := by decide +kernel
theorem d_me_setWord_23 : decode bc_me_setWord 23 = .ok (.iconst 1, 1) := by decide +kernel
theorem d_me_setWord_24 : decode bc_me_setWord 24 = .ok (.iadd, 1) := by decide +kernel
theorem d_me_setWord_25 : decode bc_me_setWord 25 = .ok (.sipush 4095, 3) := by decide +kernel
theorem d_me_setWord_28 : decode bc_me_setWord 28 = .ok (.iand, 1) := by decide +kernel
theorem d_me_setWord_29 : decode bc_me_setWord 29 = .ok (.iload_n 2, 1) := by decide +kernel
theorem d_me_setWord_30 : decode bc_me_setWord 30 = .ok (.sipush 255, 3) := by decide +kernel
theorem d_me_setWord_33 : decode bc_me_setWord 33 = .ok (.iand, 1) := by decide +kernel
theorem d_me_setWord_34 : decode bc_me_setWord 34 = .ok (.iastore, 1) := by decide +kernel
theorem d_me_setWord_35 : decode bc_me_setWord 35 = .ok (.return_, 1) := by decide +kernel
theorem d_re_get_0 : decode bc_re_get 0 = .ok (.iload_n 1, 1) := by decide +kernel
theorem d_re_get_1 : decode bc_re_get 1 = .ok (.bipush 9, 2) := by decide +kernel
theorem d_re_get_3 : decode bc_re_get 3 = .ok (.if_icmp .ne 22, 3) := by decide +kernel
theorem d_re_get_6 : decode bc_re_get 6 = .ok (.aload_n 0, 1) := by decide +kernel
theorem d_re_get_7 : decode bc_re_get 7 = .ok (.getfield 9, 3) := by decide +kernel
theorem d_re_get_10 : decode bc_re_get 10 = .ok (.iconst 0, 1) := by decide +kernel
theorem d_re_get_11 : decode bc_re_get 11 = .ok (.iaload, 1) := by decide +kernel
theorem d_re_get_12 : decode bc_re_get 12 = .ok (.bipush 8, 2) := by decide +kernel
theorem d_re_get_14 : decode bc_re_get 14 = .ok (.ishl, 1) := by decide +kernel
theorem d_re_get_15 : decode bc_re_get 15 = .ok (.aload_n 0, 1) := by decide +kernel
theorem d_re_get_16 : decode bc_re_get 16 = .ok (.getfield 9, 3) := by decide +kernel
theorem d_re_get_19 : decode bc_re_get 19 = .ok (.iconst 1, 1) := by decide +kernel
theorem d_re_get_20 : decode bc_re_get 20 = .ok (.iaload, 1) := by decide +kernel
theorem d_re_get_21 : decode bc_re_get 21 = .ok (.ior, 1) := by decide +kernel
theorem d_re_get_22 : decode bc_re_get 22 = .ok (.goto 9, 3) := by decide +kernel
theorem d_re_get_25 : decode bc_re_get 25 = .ok (.aload_n 0, 1) := by decide +kernel
theorem d_re_get_26 : decode bc_re_get 26 = .ok (.getfield 9, 3) := by decide +kernel
theorem d_re_get_29 : decode bc_re_get 29 = .ok (.iload_n 1, 1) := by decide +kernel
theorem d_re_get_30 : decode bc_re_get 30 = .ok (.iaload, 1) := by decide +kernel
theorem d_re_get_31 : decode bc_re_get 31 = .ok (.ireturn, 1) := by decide +kernel
theorem d_re_set_0 : decode bc_re_set 0 = .ok (.iload_n 1, 1) := by decide +kernel
theorem d_re_set_1 : decode bc_re_set 1 = .ok (.bipush 9, 2) := by decide +kernel
theorem d_re_set_3 : decode bc_re_set 3 = .ok (.if_icmp .ne 31, 3) := by decide +kernel
theorem d_re_set_6 : decode bc_re_set 6 = .ok (.aload_n 0, 1) := by decide +kernel
theorem d_re_set_7 : decode bc_re_set 7 = .ok (.getfield 9, 3) := by decide +kernel
theorem d_re_set_10 : decode bc_re_set 10 = .ok (.iconst 0, 1) := by decide +kernel
theorem d_re_set_11 : decode bc_re_set 11 = .ok (.iload_n 2, 1) := by decide +kernel
theorem d_re_set_12 : decode bc_re_set 12 = .ok (.bipush 8, 2) := by decide +kernel
theorem d_re_set_14 : decode bc_re_set 14 = .ok (.ishr, 1) := by decide +kernel
theorem d_re_set_15 : decode bc_re_set 15 = .ok (.sipush 255, 3) := by decide +kernel
theorem d_re_set_18 : decode bc_re_set 18 = .ok (.iand, 1) := by decide +kernel
theorem d_re_set_19 : decode bc_re_set 19 = .ok (.iastore, 1) := by decide +kernel
theorem d_re_set_20 : decode bc_re_set 20 = .ok (.aload_n 0, 1) := by decide +kernel
theorem d_re_set_21 : decode bc_re_set 21 = .ok (.getfield 9, 3) := by decide +kernel
theorem d_re_set_24 : decode bc_re_set 24 = .ok (.iconst 1, 1) := by decide +kernel
theorem d_re_set_25 : decode bc_re_set 25 = .ok (.iload_n 2, 1) := by decide +kernel
theorem d_re_set_26 : decode bc_re_set 26 = .ok (.sipush 255, 3) := by decide +kernel
theorem d_re_set_29 : decode bc_re_set 29 = .ok (.iand, 1) := by decide +kernel
theorem d_re_set_30 : decode bc_re_set 30 = .ok (.iastore, 1) := by decide +kernel
theorem d_re_set_31 : decode bc_re_set 31 = .ok (.goto 42, 3) := by decide +kernel
theorem d_re_set_34 : decode bc_re_set 34 = .ok (.iload_n 1, 1) := by decide +kernel
theorem d_re_set_35 : decode bc_re_set 35 = .ok (.iconst 2, 1) := by decide +kernel
theorem d_re_set_36 : decode bc_re_set 36 = .ok (.if_icmp .lt 13, 3) := by decide +kernel
theorem d_re_set_39 : decode bc_re_set 39 = .ok (.iload_n 1, 1) := by decide +kernel
theorem d_re_set_40 : decode bc_re_set 40 = .ok (.bipush 6, 2) := by decide +kernel
theorem d_re_set_42 : decode bc_re_set 42 = .ok (.if_icmp .gt 7, 3) := by decide +kernel
theorem d_re_set_45 : decode bc_re_set 45 = .ok (.iconst 1, 1) := by decide +kernel
theorem d_re_set_46 : decode bc_re_set 46 = .ok (.goto 4, 3) := by decide +kernel
theorem d_re_set_49 : decode bc_re_set 49 = .ok (.iconst 0, 1) := by decide +kernel
theorem d_re_set_50 : decode bc_re_set 50 = .ok (.istore_n 3, 1) := by decide +kernel
theorem d_re_set_51 : decode bc_re_set 51 = .ok (.aload_n 0, 1) := by decide +kernel
theorem d_re_set_52 : decode bc_re_set 52 = .ok (.getfield 9, 3) := by decide +kernel
theorem d_re_set_55 : decode bc_re_set 55 = .ok (.iload_n 1, 1) := by decide +kernel
theorem d_re_set_56 : decode bc_re_set 56 = .ok (.iload_n 3, 1) := by decide +kernel
theorem d_re_set_57 : decode bc_re_set 57 = .ok (.ifCond .eq 10, 3) := by decide +kernel
theorem d_re_set_60 : decode bc_re_set 60 = .ok (.iload_n 2, 1) := by decide +kernel
theorem d_re_set_61 : decode bc_re_set 61 = .ok (.ldc 15, 2) := by decide +kernel
theorem d_re_set_63 : decode bc_re_set 63 = .ok (.iand, 1) := by decide +kernel
theorem d_re_set_64 : decode bc_re_set 64 = .ok (.goto 8, 3) := by decide +kernel
theorem d_re_set_67 : decode bc_re_set 67 = .ok (.iload_n 2, 1) := by decide +kernel
theorem d_re_set_68 : decode bc_re_set 68 = .ok (.sipush 255, 3) := by decide +kernel
theorem d_re_set_71 : decode bc_re_set 71 = .ok (.iand, 1) := by decide +kernel
theorem d_re_set_72 : decode bc_re_set 72 = .ok (.iastore, 1) := by decide +kernel
theorem d_re_set_73 : decode bc_re_set 73 = .ok (.return_, 1) := by decide +kernel
theorem d_re_has_0 : decode bc_re_has 0 = .ok (.aload_n 0, 1) := by decide +kernel
theorem d_re_has_1 : decode bc_re_has 1 = .ok (.getfield 9, 3) := by decide +kernel
theorem d_re_has_4 : decode bc_re_has 4 = .ok (.bipush 8, 2) := by decide +kernel
theorem d_re_has_6 : decode bc_re_has 6 = .ok (.iaload, 1) := by decide +kernel
theorem d_re_has_7 : decode bc_re_has 7 = .ok (.iload_n 1, 1) := by decide +kernel
theorem d_re_has_8 : decode bc_re_has 8 = .ok (.iand, 1) := by decide +kernel
theorem d_re_has_9 : decode bc_re_has 9 = .ok (.ifCond .eq 7, 3) := by decide +kernel
theorem d_re_has_12 : decode bc_re_has 12 = .ok (.iconst 1, 1) := by decide +kernel
theorem d_re_has_13 : decode bc_re_has 13 = .ok (.goto 4, 3) := by decide +kernel
theorem d_re_has_16 : decode bc_re_has 16 = .ok (.iconst 0, 1) := by decide +kernel
theorem d_re_has_17 : decode bc_re_has 17 = .ok (.ireturn, 1) := by decide +kernel
theorem d_re_turn_0 : decode bc_re_turn 0 = .ok (.aload_n 0, 1) := by decide +kernel
theorem d_re_turn_1 : decode bc_re_turn 1 = .ok (.getfield 9, 3) := by decide +kernel
theorem d_re_turn_4 : decode bc_re_turn 4 = .ok (.bipush 8, 2) := by decide +kernel
theorem d_re_turn_6 : decode bc_re_turn 6 = .ok (.iload_n 2, 1) := by decide +kernel
theorem d_re_turn_7 : decode bc_re_turn 7 = .ok (.ifCond .eq 15, 3) := by decide +kernel
theorem d_re_turn_10 : decode bc_re_turn 10 = .ok (.aload_n 0, 1) := by decide +kernel
theorem d_re_turn_11 : decode bc_re_turn 11 = .ok (.getfield 9, 3) := by decide +kernel
theorem d_re_turn_14 : decode bc_re_turn 14 = .ok (.bipush 8, 2) := by decide +kernel
theorem d_re_turn_16 : decode bc_re_turn 16 = .ok (.iaload, 1) := by decide +kernel
theorem d_re_turn_17 : decode bc_re_turn 17 = .ok (.iload_n 1, 1) := by decide +kernel
theorem d_re_turn_18 : decode bc_re_turn 18 = .ok (.ior, 1) := by decide +kernel
theorem d_re_turn_19 : decode bc_re_turn 19 = .ok (.goto 14, 3) := by decide +kernel
theorem d_re_turn_22 : decode bc_re_turn 22 = .ok (.aload_n 0, 1) := by decide +kernel
theorem d_re_turn_23 : decode bc_re_turn 23 = .ok (.getfield 9, 3) := by decide +kernel
theorem d_re_turn_26 : decode bc_re_turn 26 = .ok (.bipush 8, 2) := by decide +kernel
theorem d_re_turn_28 : decode bc_re_turn 28 = .ok (.iaload, 1) := by decide +kernel
theorem d_re_turn_29 : decode bc_re_turn 29 = .ok (.iload_n 1, 1) := by decide +kernel
theorem d_re_turn_30 : decode bc_re_turn 30 = .ok (.iconst (-1), 1) := by decide +kernel
theorem d_re_turn_31 : decode bc_re_turn 31 = .ok (.ixor, 1) := by decide +kernel
theorem d_re_turn_32 : decode bc_re_turn 32 = .ok (.iand, 1) := by decide +kernel
theorem d_re_turn_33 : decode bc_re_turn 33 = .ok (.iastore, 1) := by decide +kernel
theorem d_re_turn_34 : decode bc_re_turn 34 = .ok (.return_, 1) := by decide +kernel
theorem d_re_carry_0 : decode bc_re_carry 0 = .ok (.aload_n 0, 1) := by decide +kernel
theorem d_re_carry_1 : decode bc_re_carry 1 = .ok (.getfield 9, 3) := by decide +kernel
theorem d_re_carry_4 : decode bc_re_carry 4 = .ok (.bipush 8, 2) := by decide +kernel
theorem d_re_carry_6 : decode bc_re_carry 6 = .ok (.iaload, 1) := by decide +kernel
theorem d_re_carry_7 : decode bc_re_carry 7 = .ok (.iconst 1, 1) := by decide +kernel
theorem d_re_carry_8 : decode bc_re_carry 8 = .ok (.iand, 1) := by decide +kernel
theorem d_re_carry_9 : decode bc_re_carry 9 = .ok (.ireturn, 1) := by decide +kernel
theorem d_re_setSign_0 : decode bc_re_setSign 0 = .ok (.iload_n 1, 1) := by decide +kernel
theorem d_re_setSign_1 : decode bc_re_setSign 1 = .ok (.ifCond .ne 7, 3) := by decide +kernel
theorem d_re_setSign_4 : decode bc_re_setSign 4 = .ok (.iconst 4, 1) := by decide +kernel
theorem d_re_setSign_5 : decode bc_re_setSign 5 = .ok (.goto 4, 3) := by decide +kernel
theorem d_re_setSign_8 : decode bc_re_setSign 8 = .ok (.iconst 0, 1) := by decide +kernel
theorem d_re_setSign_9 : decode bc_re_setSign 9 = .ok (.istore_n 3, 1) := by decide +kernel
theorem d_re_setSign_10 : decode bc_re_setSign 10 = .ok (.iload_n 1, 1) := by decide +kernel
theorem d_re_setSign_11 : decode bc_re_setSign 11 = .ok (.iload_n 2, 1) := by decide +kernel
theorem d_re_setSign_12 : decode bc_re_setSign 12 = .ok (.iand, 1) := by decide +kernel
theorem d_re_setSign_13 : decode bc_re_setSign 13 = .ok (.ifCond .eq 8, 3) := by decide +kernel
theorem d_re_setSign_16 : decode bc_re_setSign 16 = .ok (.bipush 8, 2) := by decide +kernel
theorem d_re_setSign_18 : decode bc_re_setSign 18 = .ok (.goto 4, 3) := by decide +kernel
theorem d_re_setSign_21 : decode bc_re_setSign 21 = .ok (.iconst 0, 1) := by decide +kernel
theorem d_re_setSign_22 : decode bc_re_setSign 22 = .ok (.istore 4, 2) := by decide +kernel
theorem d_re_setSign_24 : decode bc_re_setSign 24 = .ok (.aload_n 0, 1) := by decide +kernel
theorem d_re_setSign_25 : decode bc_re_setSign 25 = .ok (.getfield 9, 3) := by decide +kernel
theorem d_re_setSign_28 : decode bc_re_setSign 28 = .ok (.bipush 8, 2) := by decide +kernel
theorem d_re_setSign_30 : decode bc_re_setSign 30 = .ok (.aload_n 0, 1) := by decide +kernel
theorem d_re_setSign_31 : decode bc_re_setSign 31 = .ok (.getfield 9, 3) := by decide +kernel
theorem d_re_setSign_34 : decode bc_re_setSign 34 = .ok (.bipush 8, 2) := by decide +kernel
theorem d_re_setSign_36 : decode bc_re_setSign 36 = .ok (.iaload, 1) := by decide +kernel
theorem d_re_setSign_37 : decode bc_re_setSign 37 = .ok (.bipush (-13), 2) := by decide +kernel
theorem d_re_setSign_39 : decode bc_re_setSign 39 = .ok (.iand, 1) := by decide +kernel
theorem d_re_setSign_40 : decode bc_re_setSign 40 = .ok (.iload_n 3, 1) := by decide +kernel
theorem d_re_setSign_41 : decode bc_re_setSign 41 = .ok (.ior, 1) := by decide +kernel
theorem d_re_setSign_42 : decode bc_re_setSign 42 = .ok (.iload 4, 2) := by decide +kernel
theorem d_re_setSign_44 : decode bc_re_setSign 44 = .ok (.ior, 1) := by decide +kernel
theorem d_re_setSign_45 : decode bc_re_setSign 45 = .ok (.iastore, 1) := by decide +kernel
theorem d_re_setSign_46 : decode bc_re_setSign 46 = .ok (.return_, 1) := by decide +kernel
theorem d_re_meetsEven_0 : decode bc_re_meetsEven 0 = .ok (.aload_n 0, 1) := by decide +kernel
theorem d_re_meetsEven_1 : decode bc_re_meetsEven 1 = .ok (.bipush 8, 2) := by decide +kernel
theorem d_re_meetsEven_3 : decode bc_re_meetsEven 3 = .ok (.invokevirtual 20, 3) := by decide +kernel
theorem d_re_meetsEven_6 : decode bc_re_meetsEven 6 = .ok (.aload_n 0, 1) := by decide +kernel
theorem d_re_meetsEven_7 : decode bc_re_meetsEven 7 = .ok (.iconst 2, 1) := by decide +kernel
theorem d_re_meetsEven_8 : decode bc_re_meetsEven 8 = .ok (.invokevirtual 20, 3) := by decide +kernel
theorem d_re_meetsEven_11 : decode bc_re_meetsEven 11 = .ok (.if_icmp .ne 7, 3) := by decide +kernel
theorem d_re_meetsEven_14 : decode bc_re_meetsEven 14 = .ok (.iconst 1, 1) := by decide +kernel
theorem d_re_meetsEven_15 : decode bc_re_meetsEven 15 = .ok (.goto 4, 3) := by decide +kernel
theorem d_re_meetsEven_18 : decode bc_re_meetsEven 18 = .ok (.iconst 0, 1) := by decide +kernel
theorem d_re_meetsEven_19 : decode bc_re_meetsEven 19 = .ok (.istore_n 2, 1) := by decide +kernel
theorem d_re_meetsEven_20 : decode bc_re_meetsEven 20 = .ok (.iload_n 1, 1) := by decide +kernel
theorem d_re_meetsEven_21 : decode bc_re_meetsEven 21 = .ok (.tableswitch 118 0 6 #[43, 45, 59, 73, 87, 101, 116], 43) := by decide +kernel
theorem d_re_meetsEven_64 : decode bc_re_meetsEven 64 = .ok (.iconst 1, 1) := by decide +kernel
theorem d_re_meetsEven_65 : decode bc_re_meetsEven 65 = .ok (.ireturn, 1) := by decide +kernel
theorem d_re_meetsEven_66 : decode bc_re_meetsEven 66 = .ok (.aload_n 0, 1) := by decide +kernel
theorem d_re_meetsEven_67 : decode bc_re_meetsEven 67 = .ok (.iconst 5, 1) := by decide +kernel
theorem d_re_meetsEven_68 : decode bc_re_meetsEven 68 = .ok (.invokevirtual 20, 3) := by decide +kernel
theorem d_re_meetsEven_71 : decode bc_re_meetsEven 71 = .ok (.ifCond .ne 7, 3) := by decide +kernel
theorem d_re_meetsEven_74 : decode bc_re_meetsEven 74 = .ok (.iconst 1, 1) := by decide +kernel
theorem d_re_meetsEven_75 : decode bc_re_meetsEven 75 = .ok (.goto 4, 3) := by decide +kernel
theorem d_re_meetsEven_78 : decode bc_re_meetsEven 78 = .ok (.iconst 0, 1) := by decide +kernel
theorem d_re_meetsEven_79 : decode bc_re_meetsEven 79 = .ok (.ireturn, 1) := by decide +kernel
theorem d_re_meetsEven_80 : decode bc_re_meetsEven 80 = .ok (.aload_n 0, 1) := by decide +kernel
theorem d_re_meetsEven_81 : decode bc_re_meetsEven 81 = .ok (.iconst 1, 1) := by decide +kernel
theorem d_re_meetsEven_82 : decode bc_re_meetsEven 82 = .ok (.invokevirtual 20, 3) := by decide +kernel
theorem d_re_meetsEven_85 : decode bc_re_meetsEven 85 = .ok (.ifCond .ne 7, 3) := by decide +kernel
theorem d_re_meetsEven_88 : decode bc_re_meetsEven 88 = .ok (.iconst 1, 1) := by decide +kernel
theorem d_re_meetsEven_89 : decode bc_re_meetsEven 89 = .ok (.goto 4, 3) := by decide +kernel
theorem d_re_meetsEven_92 : decode bc_re_meetsEven 92 = .ok (.iconst 0, 1) := by decide +kernel
theorem d_re_meetsEven_93 : decode bc_re_meetsEven 93 = .ok (.ireturn, 1) := by decide +kernel
theorem d_re_meetsEven_94 : decode bc_re_meetsEven 94 = .ok (.aload_n 0, 1) := by decide +kernel
theorem d_re_meetsEven_95 : decode bc_re_meetsEven 95 = .ok (.iconst 4, 1) := by decide +kernel
theorem d_re_meetsEven_96 : decode bc_re_meetsEven 96 = .ok (.invokevirtual 20, 3) := by decide +kernel
theorem d_re_meetsEven_99 : decode bc_re_meetsEven 99 = .ok (.ifCond .ne 7, 3) := by decide +kernel
theorem d_re_meetsEven_102 : decode bc_re_meetsEven 102 = .ok (.iconst 1, 1) := by decide +kernel
theorem d_re_meetsEven_103 : decode bc_re_meetsEven 103 = .ok (.goto 4, 3) := by decide +kernel
theorem d_re_meetsEven_106 : decode bc_re_meetsEven 106 = .ok (.iconst 0, 1) := by decide +kernel
theorem d_re_meetsEven_107 : decode bc_re_meetsEven 107 = .ok (.ireturn, 1) := by decide +kernel
theorem d_re_meetsEven_108 : decode bc_re_meetsEven 108 = .ok (.aload_n 0, 1) := by decide +kernel
theorem d_re_meetsEven_109 : decode bc_re_meetsEven 109 = .ok (.iconst 2, 1) := by decide +kernel
theorem d_re_meetsEven_110 : decode bc_re_meetsEven 110 = .ok (.invokevirtual 20, 3) := by decide +kernel
theorem d_re_meetsEven_113 : decode bc_re_meetsEven 113 = .ok (.ifCond .ne 7, 3) := by decide +kernel
theorem d_re_meetsEven_116 : decode bc_re_meetsEven 116 = .ok (.iconst 1, 1) := by decide +kernel
theorem d_re_meetsEven_117 : decode bc_re_meetsEven 117 = .ok (.goto 4, 3) := by decide +kernel
theorem d_re_meetsEven_120 : decode bc_re_meetsEven 120 = .ok (.iconst 0, 1) := by decide +kernel
theorem d_re_meetsEven_121 : decode bc_re_meetsEven 121 = .ok (.ireturn, 1) := by decide +kernel
theorem d_re_meetsEven_122 : decode bc_re_meetsEven 122 = .ok (.aload_n 0, 1) := by decide +kernel
theorem d_re_meetsEven_123 : decode bc_re_meetsEven 123 = .ok (.bipush 8, 2) := by decide +kernel
theorem d_re_meetsEven_125 : decode bc_re_meetsEven 125 = .ok (.invokevirtual 20, 3) := by decide +kernel
theorem d_re_meetsEven_128 : decode bc_re_meetsEven 128 = .ok (.ifCond .ne 7, 3) := by decide +kernel
theorem d_re_meetsEven_131 : decode bc_re_meetsEven 131 = .ok (.iconst 1, 1) := by decide +kernel
theorem d_re_meetsEven_132 : decode bc_re_meetsEven 132 = .ok (.goto 4, 3) := by decide +kernel
theorem d_re_meetsEven_135 : decode bc_re_meetsEven 135 = .ok (.iconst 0, 1) := by decide +kernel
theorem d_re_meetsEven_136 : decode bc_re_meetsEven 136 = .ok (.ireturn, 1) := by decide +kernel
theorem d_re_meetsEven_137 : decode bc_re_meetsEven 137 = .ok (.iload_n 2, 1) := by decide +kernel
theorem d_re_meetsEven_138 : decode bc_re_meetsEven 138 = .ok (.ireturn, 1) := by decide +kernel
theorem d_re_meetsEven_139 : decode bc_re_meetsEven 139 = .ok (.iload_n 2, 1) := by decide +kernel
theorem d_re_meetsEven_140 : decode bc_re_meetsEven 140 = .ok (.ifCond .eq 15, 3) := by decide +kernel
theorem d_re_meetsEven_143 : decode bc_re_meetsEven 143 = .ok (.aload_n 0, 1) := by decide +kernel
theorem d_re_meetsEven_144 : decode bc_re_meetsEven 144 = .ok (.iconst 4, 1) := by decide +kernel
theorem d_re_meetsEven_145 : decode bc_re_meetsEven 145 = .ok (.invokevirtual 20, 3) := by decide +kernel
theorem d_re_meetsEven_148 : decode bc_re_meetsEven 148 = .ok (.ifCond .ne 7, 3) := by decide +kernel
theorem d_re_meetsEven_151 : decode bc_re_meetsEven 151 = .ok (.iconst 1, 1) := by decide +kernel
theorem d_re_meetsEven_152 : decode bc_re_meetsEven 152 = .ok (.goto 4, 3) := by decide +kernel
theorem d_re_meetsEven_155 : decode bc_re_meetsEven 155 = .ok (.iconst 0, 1) := by decide +kernel
theorem d_re_meetsEven_156 : decode bc_re_meetsEven 156 = .ok (.ireturn, 1) := by decide +kernel
theorem d_re_meets_0 : decode bc_re_meets 0 = .ok (.iload_n 1, 1) := by decide +kernel
theorem d_re_meets_1 : decode bc_re_meets 1 = .ok (.iconst 1, 1) := by decide +kernel
theorem d_re_meets_2 : decode bc_re_meets 2 = .ok (.iand, 1) := by decide +kernel
theorem d_re_meets_3 : decode bc_re_meets 3 = .ok (.ifCond .eq 7, 3) := by decide +kernel
theorem d_re_meets_6 : decode bc_re_meets 6 = .ok (.iconst 1, 1) := by decide +kernel
theorem d_re_meets_7 : decode bc_re_meets 7 = .ok (.goto 4, 3) := by decide +kernel
theorem d_re_meets_10 : decode bc_re_meets 10 = .ok (.iconst 0, 1) := by decide +kernel
theorem d_re_meets_11 : decode bc_re_meets 11 = .ok (.istore_n 2, 1) := by decide +kernel
theorem d_re_meets_12 : decode bc_re_meets 12 = .ok (.iload_n 2, 1) := by decide +kernel
theorem d_re_meets_13 : decode bc_re_meets 13 = .ok (.aload_n 0, 1) := by decide +kernel
theorem d_re_meets_14 : decode bc_re_meets 14 = .ok (.iload_n 1, 1) := by decide +kernel
theorem d_re_meets_15 : decode bc_re_meets 15 = .ok (.iconst 1, 1) := by decide +kernel
theorem d_re_meets_16 : decode bc_re_meets 16 = .ok (.ishr, 1) := by decide +kernel
theorem d_re_meets_17 : decode bc_re_meets 17 = .ok (.invokevirtual 16, 3) := by decide +kernel
theorem d_re_meets_20 : decode bc_re_meets 20 = .ok (.if_icmp .eq 7, 3) := by decide +kernel
theorem d_re_meets_23 : decode bc_re_meets 23 = .ok (.iconst 1, 1) := by decide +kernel
theorem d_re_meets_24 : decode bc_re_meets 24 = .ok (.goto 4, 3) := by decide +kernel
theorem d_re_meets_27 : decode bc_re_meets 27 = .ok (.iconst 0, 1) := by decide +kernel
theorem d_re_meets_28 : decode bc_re_meets 28 = .ok (.ireturn, 1) := by decide +kernel
theorem d_ar_pass_0 : decode bc_ar_pass 0 = .ok (.aload_n 0, 1) := by decide +kernel
theorem d_ar_pass_1 : decode bc_ar_pass 1 = .ok (.getfield 9, 3) := by decide +kernel
theorem d_ar_pass_4 : decode bc_ar_pass 4 = .ok (.iconst 2, 1) := by decide +kernel
theorem d_ar_pass_5 : decode bc_ar_pass 5 = .ok (.iconst 0, 1) := by decide +kernel
theorem d_ar_pass_6 : decode bc_ar_pass 6 = .ok (.invokevirtual 15, 3) := by decide +kernel
theorem d_ar_pass_9 : decode bc_ar_pass 9 = .ok (.aload_n 0, 1) := by decide +kernel
theorem d_ar_pass_10 : decode bc_ar_pass 10 = .ok (.getfield 9, 3) := by decide +kernel
theorem d_ar_pass_13 : decode bc_ar_pass 13 = .ok (.iload_n 1, 1) := by decide +kernel
theorem d_ar_pass_14 : decode bc_ar_pass 14 = .ok (.iload_n 2, 1) := by decide +kernel
theorem d_ar_pass_15 : decode bc_ar_pass 15 = .ok (.invokevirtual 21, 3) := by decide +kernel
theorem d_ar_pass_18 : decode bc_ar_pass 18 = .ok (.iload_n 1, 1) := by decide +kernel
theorem d_ar_pass_19 : decode bc_ar_pass 19 = .ok (.ireturn, 1) := by decide +kernel
theorem d_ar_add_0 : decode bc_ar_add 0 = .ok (.iload_n 1, 1) := by decide +kernel
theorem d_ar_add_1 : decode bc_ar_add 1 = .ok (.iload_n 2, 1) := by decide +kernel
theorem d_ar_add_2 : decode bc_ar_add 2 = .ok (.iadd, 1) := by decide +kernel
theorem d_ar_add_3 : decode bc_ar_add 3 = .ok (.iload_n 3, 1) := by decide +kernel
theorem d_ar_add_4 : decode bc_ar_add 4 = .ok (.iadd, 1) := by decide +kernel
theorem d_ar_add_5 : decode bc_ar_add 5 = .ok (.istore 5, 2) := by decide +kernel
theorem d_ar_add_7 : decode bc_ar_add 7 = .ok (.iload 5, 2) := by decide +kernel
theorem d_ar_add_9 : decode bc_ar_add 9 = .ok (.iconst 2, 1) := by decide +kernel
theorem d_ar_add_10 : decode bc_ar_add 10 = .ok (.iload 4, 2) := by decide +kernel
theorem d_ar_add_12 : decode bc_ar_add 12 = .ok (.imul, 1) := by decide +kernel
theorem d_ar_add_13 : decode bc_ar_add 13 = .ok (.iconst 1, 1) := by decide +kernel
theorem d_ar_add_14 : decode bc_ar_add 14 = .ok (.isub, 1) := by decide +kernel
theorem d_ar_add_15 : decode bc_ar_add 15 = .ok (.iand, 1) := by decide +kernel
theorem d_ar_add_16 : decode bc_ar_add 16 = .ok (.istore 6, 2) := by decide +kernel
theorem d_ar_add_18 : decode bc_ar_add 18 = .ok (.aload_n 0, 1) := by decide +kernel
theorem d_ar_add_19 : decode bc_ar_add 19 = .ok (.getfield 9, 3) := by decide +kernel
theorem d_ar_add_22 : decode bc_ar_add 22 = .ok (.iconst 2, 1) := by decide +kernel
theorem d_ar_add_23 : decode bc_ar_add 23 = .ok (.iload_n 1, 1) := by decide +kernel
theorem d_ar_add_24 : decode bc_ar_add 24 = .ok (.iload 6, 2) := by decide +kernel
theorem d_ar_add_26 : decode bc_ar_add 26 = .ok (.ixor, 1) := by decide +kernel
theorem d_ar_add_27 : decode bc_ar_add 27 = .ok (.iload_n 2, 1) := by decide +kernel
theorem d_ar_add_28 : decode bc_ar_add 28 = .ok (.iload 6, 2) := by decide +kernel
theorem d_ar_add_30 : decode bc_ar_add 30 = .ok (.ixor, 1) := by decide +kernel
theorem d_ar_add_31 : decode bc_ar_add 31 = .ok (.iand, 1) := by decide +kernel
theorem d_ar_add_32 : decode bc_ar_add 32 = .ok (.iload 4, 2) := by decide +kernel
theorem d_ar_add_34 : decode bc_ar_add 34 = .ok (.iand, 1) := by decide +kernel
theorem d_ar_add_35 : decode bc_ar_add 35 = .ok (.ifCond .eq 7, 3) := by decide +kernel
theorem d_ar_add_38 : decode bc_ar_add 38 = .ok (.iconst 1, 1) := by decide +kernel
theorem d_ar_add_39 : decode bc_ar_add 39 = .ok (.goto 4, 3) := by decide +kernel
theorem d_ar_add_42 : decode bc_ar_add 42 = .ok (.iconst 0, 1) := by decide +kernel
theorem d_ar_add_43 : decode bc_ar_add 43 = .ok (.invokevirtual 15, 3) := by decide +kernel
theorem d_ar_add_46 : decode bc_ar_add 46 = .ok (.aload_n 0, 1) := by decide +kernel
theorem d_ar_add_47 : decode bc_ar_add 47 = .ok (.getfield 9, 3) := by decide +kernel
theorem d_ar_add_50 : decode bc_ar_add 50 = .ok (.iconst 1, 1) := by decide +kernel
theorem d_ar_add_51 : decode bc_ar_add 51 = .ok (.iload 5, 2) := by decide +kernel
theorem d_ar_add_53 : decode bc_ar_add 53 = .ok (.iload 6, 2) := by decide +kernel
theorem d_ar_add_55 : decode bc_ar_add 55 = .ok (.if_icmp .eq 7, 3) := by decide +kernel
theorem d_ar_add_58 : decode bc_ar_add 58 = .ok (.iconst 1, 1) := by decide +kernel
theorem d_ar_add_59 : decode bc_ar_add 59 = .ok (.goto 4, 3) := by decide +kernel
theorem d_ar_add_62 : decode bc_ar_add 62 = .ok (.iconst 0, 1) := by decide +kernel
theorem d_ar_add_63 : decode bc_ar_add 63 = .ok (.invokevirtual 15, 3) := by decide +kernel
theorem d_ar_add_66 : decode bc_ar_add 66 = .ok (.aload_n 0, 1) := by decide +kernel
theorem d_ar_add_67 : decode bc_ar_add 67 = .ok (.getfield 9, 3) := by decide +kernel
theorem d_ar_add_70 : decode bc_ar_add 70 = .ok (.iload 6, 2) := by decide +kernel
theorem d_ar_add_72 : decode bc_ar_add 72 = .ok (.iload 4, 2) := by decide +kernel
theorem d_ar_add_74 : decode bc_ar_add 74 = .ok (.invokevirtual 21, 3) := by decide +kernel
theorem d_ar_add_77 : decode bc_ar_add 77 = .ok (.iload 6, 2) := by decide +kernel
theorem d_ar_add_79 : decode bc_ar_add 79 = .ok (.ireturn, 1) := by decide +kernel
theorem d_ar_subtract_0 : decode bc_ar_subtract 0 = .ok (.iload_n 1, 1) := by decide +kernel
theorem d_ar_subtract_1 : decode bc_ar_subtract 1 = .ok (.iload_n 2, 1) := by decide +kernel
theorem d_ar_subtract_2 : decode bc_ar_subtract 2 = .ok (.isub, 1) := by decide +kernel
theorem d_ar_subtract_3 : decode bc_ar_subtract 3 = .ok (.iload_n 3, 1) := by decide +kernel
theorem d_ar_subtract_4 : decode bc_ar_subtract 4 = .ok (.isub, 1) := by decide +kernel
theorem d_ar_subtract_5 : decode bc_ar_subtract 5 = .ok (.istore 5, 2) := by decide +kernel
theorem d_ar_subtract_7 : decode bc_ar_subtract 7 = .ok (.iload 5, 2) := by decide +kernel
theorem d_ar_subtract_9 : decode bc_ar_subtract 9 = .ok (.iconst 2, 1) := by decide +kernel
theorem d_ar_subtract_10 : decode bc_ar_subtract 10 = .ok (.iload 4, 2) := by decide +kernel
theorem d_ar_subtract_12 : decode bc_ar_subtract 12 = .ok (.imul, 1) := by decide +kernel
theorem d_ar_subtract_13 : decode bc_ar_subtract 13 = .ok (.iconst 1, 1) := by decide +kernel
theorem d_ar_subtract_14 : decode bc_ar_subtract 14 = .ok (.isub, 1) := by decide +kernel
theorem d_ar_subtract_15 : decode bc_ar_subtract 15 = .ok (.iand, 1) := by decide +kernel
theorem d_ar_subtract_16 : decode bc_ar_subtract 16 = .ok (.istore 6, 2) := by decide +kernel
theorem d_ar_subtract_18 : decode bc_ar_subtract 18 = .ok (.aload_n 0, 1) := by decide +kernel
theorem d_ar_subtract_19 : decode bc_ar_subtract 19 = .ok (.getfield 9, 3) := by decide +kernel
theorem d_ar_subtract_22 : decode bc_ar_subtract 22 = .ok (.iconst 2, 1) := by decide +kernel
theorem d_ar_subtract_23 : decode bc_ar_subtract 23 = .ok (.iload_n 1, 1) := by decide +kernel
theorem d_ar_subtract_24 : decode bc_ar_subtract 24 = .ok (.iload_n 2, 1) := by decide +kernel
theorem d_ar_subtract_25 : decode bc_ar_subtract 25 = .ok (.ixor, 1) := by decide +kernel
theorem d_ar_subtract_26 : decode bc_ar_subtract 26 = .ok (.iload_n 1, 1) := by decide +kernel
theorem d_ar_subtract_27 : decode bc_ar_subtract 27 = .ok (.iload 6, 2) := by decide +kernel
theorem d_ar_subtract_29 : decode bc_ar_subtract 29 = .ok (.ixor, 1) := by decide +kernel
theorem d_ar_subtract_30 : decode bc_ar_subtract 30 = .ok (.iand, 1) := by decide +kernel
theorem d_ar_subtract_31 : decode bc_ar_subtract 31 = .ok (.iload 4, 2) := by decide +kernel
theorem d_ar_subtract_33 : decode bc_ar_subtract 33 = .ok (.iand, 1) := by decide +kernel
theorem d_ar_subtract_34 : decode bc_ar_subtract 34 = .ok (.ifCond .eq 7, 3) := by decide +kernel
theorem d_ar_subtract_37 : decode bc_ar_subtract 37 = .ok (.iconst 1, 1) := by decide +kernel
theorem d_ar_subtract_38 : decode bc_ar_subtract 38 = .ok (.goto 4, 3) := by decide +kernel
theorem d_ar_subtract_41 : decode bc_ar_subtract 41 = .ok (.iconst 0, 1) := by decide +kernel
theorem d_ar_subtract_42 : decode bc_ar_subtract 42 = .ok (.invokevirtual 15, 3) := by decide +kernel
theorem d_ar_subtract_45 : decode bc_ar_subtract 45 = .ok (.aload_n 0, 1) := by decide +kernel
theorem d_ar_subtract_46 : decode bc_ar_subtract 46 = .ok (.getfield 9, 3) := by decide +kernel
theorem d_ar_subtract_49 : decode bc_ar_subtract 49 = .ok (.iconst 1, 1) := by decide +kernel
theorem d_ar_subtract_50 : decode bc_ar_subtract 50 = .ok (.iload 5, 2) := by decide +kernel
theorem d_ar_subtract_52 : decode bc_ar_subtract 52 = .ok (.ifCond .ge 7, 3) := by decide +kernel
theorem d_ar_subtract_55 : decode bc_ar_subtract 55 = .ok (.iconst 1, 1) := by decide +kernel
theorem d_ar_subtract_56 : decode bc_ar_subtract 56 = .ok (.goto 4, 3) := by decide +kernel
theorem d_ar_subtract_59 : decode bc_ar_subtract 59 = .ok (.iconst 0, 1) := by decide +kernel
theorem d_ar_subtract_60 : decode bc_ar_subtract 60 = .ok (.invokevirtual 15, 3) := by decide +kernel
theorem d_ar_subtract_63 : decode bc_ar_subtract 63 = .ok (.aload_n 0, 1) := by decide +kernel
theorem d_ar_subtract_64 : decode bc_ar_subtract 64 = .ok (.getfield 9, 3) := by decide +kernel
theorem d_ar_subtract_67 : decode bc_ar_subtract 67 = .ok (.iload 6, 2) := by decide +kernel
theorem d_ar_subtract_69 : decode bc_ar_subtract 69 = .ok (.iload 4, 2) := by decide +kernel
theorem d_ar_subtract_71 : decode bc_ar_subtract 71 = .ok (.invokevirtual 21, 3) := by decide +kernel
theorem d_ar_subtract_74 : decode bc_ar_subtract 74 = .ok (.iload 6, 2) := by decide +kernel
theorem d_ar_subtract_76 : decode bc_ar_subtract 76 = .ok (.ireturn, 1) := by decide +kernel
theorem d_ar_addByte_0 : decode bc_ar_addByte 0 = .ok (.aload_n 0, 1) := by decide +kernel
theorem d_ar_addByte_1 : decode bc_ar_addByte 1 = .ok (.getfield 9, 3) := by decide +kernel
theorem d_ar_addByte_4 : decode bc_ar_addByte 4 = .ok (.bipush 32, 2) := by decide +kernel
theorem d_ar_addByte_6 : decode bc_ar_addByte 6 = .ok (.iload_n 1, 1) := by decide +kernel
theorem d_ar_addByte_7 : decode bc_ar_addByte 7 = .ok (.bipush 15, 2) := by decide +kernel
theorem d_ar_addByte_9 : decode bc_ar_addByte 9 = .ok (.iand, 1) := by decide +kernel
theorem d_ar_addByte_10 : decode bc_ar_addByte 10 = .ok (.iload_n 2, 1) := by decide +kernel
theorem d_ar_addByte_11 : decode bc_ar_addByte 11 = .ok (.bipush 15, 2) := by decide +kernel
theorem d_ar_addByte_13 : decode bc_ar_addByte 13 = .ok (.iand, 1) := by decide +kernel
theorem d_ar_addByte_14 : decode bc_ar_addByte 14 = .ok (.iadd, 1) := by decide +kernel
theorem d_ar_addByte_15 : decode bc_ar_addByte 15 = .ok (.iload_n 3, 1) := by decide +kernel
theorem d_ar_addByte_16 : decode bc_ar_addByte 16 = .ok (.iadd, 1) := by decide +kernel
theorem d_ar_addByte_17 : decode bc_ar_addByte 17 = .ok (.bipush 15, 2) := by decide +kernel
theorem d_ar_addByte_19 : decode bc_ar_addByte 19 = .ok (.if_icmp .le 7, 3) := by decide +kernel
theorem d_ar_addByte_22 : decode bc_ar_addByte 22 = .ok (.iconst 1, 1) := by decide +kernel
theorem d_ar_addByte_23 : decode bc_ar_addByte 23 = .ok (.goto 4, 3) := by decide +kernel
theorem d_ar_addByte_26 : decode bc_ar_addByte 26 = .ok (.iconst 0, 1) := by decide +kernel
theorem d_ar_addByte_27 : decode bc_ar_addByte 27 = .ok (.invokevirtual 15, 3) := by decide +kernel
theorem d_ar_addByte_30 : decode bc_ar_addByte 30 = .ok (.aload_n 0, 1) := by decide +kernel
theorem d_ar_addByte_31 : decode bc_ar_addByte 31 = .ok (.iload_n 1, 1) := by decide +kernel
theorem d_ar_addByte_32 : decode bc_ar_addByte 32 = .ok (.iload_n 2, 1) := by decide +kernel
theorem d_ar_addByte_33 : decode bc_ar_addByte 33 = .ok (.iload_n 3, 1) := by decide +kernel
theorem d_ar_addByte_34 : decode bc_ar_addByte 34 = .ok (.sipush 128, 3) := by decide +kernel
theorem d_ar_addByte_37 : decode bc_ar_addByte 37 = .ok (.invokevirtual 41, 3) := by decide +kernel
theorem d_ar_addByte_40 : decode bc_ar_addByte 40 = .ok (.ireturn, 1) := by decide +kernel
theorem d_ar_combine_0 : decode bc_ar_combine 0 = .ok (.iload_n 1, 1) := by decide +kernel
theorem d_ar_combine_1 : decode bc_ar_combine 1 = .ok (.tableswitch 143 0 10 #[59, 59, 70, 143, 87, 87, 98, 143, 107, 118, 132], 59) := by decide +kernel
theorem d_ar_combine_60 : decode bc_ar_combine 60 = .ok (.aload_n 0, 1) := by decide +kernel
theorem d_ar_combine_61 : decode bc_ar_combine 61 = .ok (.iload_n 2, 1) := by decide +kernel
theorem d_ar_combine_62 : decode bc_ar_combine 62 = .ok (.iload_n 3, 1) := by decide +kernel
theorem d_ar_combine_63 : decode bc_ar_combine 63 = .ok (.iconst 0, 1) := by decide +kernel
theorem d_ar_combine_64 : decode bc_ar_combine 64 = .ok (.sipush 128, 3) := by decide +kernel
theorem d_ar_combine_67 : decode bc_ar_combine 67 = .ok (.invokevirtual 25, 3) := by decide +kernel
theorem d_ar_combine_70 : decode bc_ar_combine 70 = .ok (.ireturn, 1) := by decide +kernel
theorem d_ar_combine_71 : decode bc_ar_combine 71 = .ok (.aload_n 0, 1) := by decide +kernel
theorem d_ar_combine_72 : decode bc_ar_combine 72 = .ok (.iload_n 2, 1) := by decide +kernel
theorem d_ar_combine_73 : decode bc_ar_combine 73 = .ok (.iload_n 3, 1) := by decide +kernel
theorem d_ar_combine_74 : decode bc_ar_combine 74 = .ok (.aload_n 0, 1) := by decide +kernel
theorem d_ar_combine_75 : decode bc_ar_combine 75 = .ok (.getfield 9, 3) := by decide +kernel
theorem d_ar_combine_78 : decode bc_ar_combine 78 = .ok (.invokevirtual 29, 3) := by decide +kernel
theorem d_ar_combine_81 : decode bc_ar_combine 81 = .ok (.sipush 128, 3) := by decide +kernel
theorem d_ar_combine_84 : decode bc_ar_combine 84 = .ok (.invokevirtual 25, 3) := by decide +kernel
theorem d_ar_combine_87 : decode bc_ar_combine 87 = .ok (.ireturn, 1) := by decide +kernel
theorem d_ar_combine_88 : decode bc_ar_combine 88 = .ok (.aload_n 0, 1) := by decide +kernel
theorem d_ar_combine_89 : decode bc_ar_combine 89 = .ok (.iload_n 2, 1) := by decide +kernel
theorem d_ar_combine_90 : decode bc_ar_combine 90 = .ok (.iload_n 3, 1) := by decide +kernel
theorem d_ar_combine_91 : decode bc_ar_combine 91 = .ok (.iand, 1) := by decide +kernel
theorem d_ar_combine_92 : decode bc_ar_combine 92 = .ok (.sipush 128, 3) := by decide +kernel
theorem d_ar_combine_95 : decode bc_ar_combine 95 = .ok (.invokevirtual 33, 3) := by decide +kernel
theorem d_ar_combine_98 : decode bc_ar_combine 98 = .ok (.ireturn, 1) := by decide +kernel
theorem d_ar_combine_99 : decode bc_ar_combine 99 = .ok (.aload_n 0, 1) := by decide +kernel
theorem d_ar_combine_100 : decode bc_ar_combine 100 = .ok (.iload_n 3, 1) := by decide +kernel
theorem d_ar_combine_101 : decode bc_ar_combine 101 = .ok (.sipush 128, 3) := by decide +kernel
theorem d_ar_combine_104 : decode bc_ar_combine 104 = .ok (.invokevirtual 33, 3) := by decide +kernel
theorem d_ar_combine_107 : decode bc_ar_combine 107 = .ok (.ireturn, 1) := by decide +kernel
theorem d_ar_combine_108 : decode bc_ar_combine 108 = .ok (.aload_n 0, 1) := by decide +kernel
theorem d_ar_combine_109 : decode bc_ar_combine 109 = .ok (.iload_n 2, 1) := by decide +kernel
theorem d_ar_combine_110 : decode bc_ar_combine 110 = .ok (.iload_n 3, 1) := by decide +kernel
theorem d_ar_combine_111 : decode bc_ar_combine 111 = .ok (.ixor, 1) := by decide +kernel
theorem d_ar_combine_112 : decode bc_ar_combine 112 = .ok (.sipush 128, 3) := by decide +kernel
theorem d_ar_combine_115 : decode bc_ar_combine 115 = .ok (.invokevirtual 33, 3) := by decide +kernel
theorem d_ar_combine_118 : decode bc_ar_combine 118 = .ok (.ireturn, 1) := by decide +kernel
theorem d_ar_combine_119 : decode bc_ar_combine 119 = .ok (.aload_n 0, 1) := by decide +kernel
theorem d_ar_combine_120 : decode bc_ar_combine 120 = .ok (.iload_n 2, 1) := by decide +kernel
theorem d_ar_combine_121 : decode bc_ar_combine 121 = .ok (.iload_n 3, 1) := by decide +kernel
theorem d_ar_combine_122 : decode bc_ar_combine 122 = .ok (.aload_n 0, 1) := by decide +kernel
theorem d_ar_combine_123 : decode bc_ar_combine 123 = .ok (.getfield 9, 3) := by decide +kernel
theorem d_ar_combine_126 : decode bc_ar_combine 126 = .ok (.invokevirtual 29, 3) := by decide +kernel
theorem d_ar_combine_129 : decode bc_ar_combine 129 = .ok (.invokevirtual 37, 3) := by decide +kernel
theorem d_ar_combine_132 : decode bc_ar_combine 132 = .ok (.ireturn, 1) := by decide +kernel
theorem d_ar_combine_133 : decode bc_ar_combine 133 = .ok (.aload_n 0, 1) := by decide +kernel
theorem d_ar_combine_134 : decode bc_ar_combine 134 = .ok (.iload_n 2, 1) := by decide +kernel
theorem d_ar_combine_135 : decode bc_ar_combine 135 = .ok (.iload_n 3, 1) := by decide +kernel
theorem d_ar_combine_136 : decode bc_ar_combine 136 = .ok (.ior, 1) := by decide +kernel
theorem d_ar_combine_137 : decode bc_ar_combine 137 = .ok (.sipush 128, 3) := by decide +kernel
theorem d_ar_combine_140 : decode bc_ar_combine 140 = .ok (.invokevirtual 33, 3) := by decide +kernel
theorem d_ar_combine_143 : decode bc_ar_combine 143 = .ok (.ireturn, 1) := by decide +kernel
theorem d_ar_combine_144 : decode bc_ar_combine 144 = .ok (.aload_n 0, 1) := by decide +kernel
theorem d_ar_combine_145 : decode bc_ar_combine 145 = .ok (.iload_n 2, 1) := by decide +kernel
theorem d_ar_combine_146 : decode bc_ar_combine 146 = .ok (.iload_n 3, 1) := by decide +kernel
theorem d_ar_combine_147 : decode bc_ar_combine 147 = .ok (.iconst 0, 1) := by decide +kernel
theorem d_ar_combine_148 : decode bc_ar_combine 148 = .ok (.invokevirtual 37, 3) := by decide +kernel
theorem d_ar_combine_151 : decode bc_ar_combine 151 = .ok (.ireturn, 1) := by decide +kernel
theorem d_ar_shiftDown_0 : decode bc_ar_shiftDown 0 = .ok (.iload_n 1, 1) := by decide +kernel
theorem d_ar_shiftDown_1 : decode bc_ar_shiftDown 1 = .ok (.iconst 1, 1) := by decide +kernel
theorem d_ar_shiftDown_2 : decode bc_ar_shiftDown 2 = .ok (.ishr, 1) := by decide +kernel
theorem d_ar_shiftDown_3 : decode bc_ar_shiftDown 3 = .ok (.iload_n 2, 1) := by decide +kernel
theorem d_ar_shiftDown_4 : decode bc_ar_shiftDown 4 = .ok (.ior, 1) := by decide +kernel
theorem d_ar_shiftDown_5 : decode bc_ar_shiftDown 5 = .ok (.istore_n 3, 1) := by decide +kernel
theorem d_ar_shiftDown_6 : decode bc_ar_shiftDown 6 = .ok (.aload_n 0, 1) := by decide +kernel
theorem d_ar_shiftDown_7 : decode bc_ar_shiftDown 7 = .ok (.getfield 9, 3) := by decide +kernel
theorem d_ar_shiftDown_10 : decode bc_ar_shiftDown 10 = .ok (.iconst 1, 1) := by decide +kernel
theorem d_ar_shiftDown_11 : decode bc_ar_shiftDown 11 = .ok (.iload_n 1, 1) := by decide +kernel
theorem d_ar_shiftDown_12 : decode bc_ar_shiftDown 12 = .ok (.iconst 1, 1) := by decide +kernel
theorem d_ar_shiftDown_13 : decode bc_ar_shiftDown 13 = .ok (.iand, 1) := by decide +kernel
theorem d_ar_shiftDown_14 : decode bc_ar_shiftDown 14 = .ok (.ifCond .eq 7, 3) := by decide +kernel
theorem d_ar_shiftDown_17 : decode bc_ar_shiftDown 17 = .ok (.iconst 1, 1) := by decide +kernel
theorem d_ar_shiftDown_18 : decode bc_ar_shiftDown 18 = .ok (.goto 4, 3) := by decide +kernel
theorem d_ar_shiftDown_21 : decode bc_ar_shiftDown 21 = .ok (.iconst 0, 1) := by decide +kernel
theorem d_ar_shiftDown_22 : decode bc_ar_shiftDown 22 = .ok (.invokevirtual 15, 3) := by decide +kernel
theorem d_ar_shiftDown_25 : decode bc_ar_shiftDown 25 = .ok (.aload_n 0, 1) := by decide +kernel
theorem d_ar_shiftDown_26 : decode bc_ar_shiftDown 26 = .ok (.getfield 9, 3) := by decide +kernel
theorem d_ar_shiftDown_29 : decode bc_ar_shiftDown 29 = .ok (.iload_n 3, 1) := by decide +kernel
theorem d_ar_shiftDown_30 : decode bc_ar_shiftDown 30 = .ok (.sipush 128, 3) := by decide +kernel
theorem d_ar_shiftDown_33 : decode bc_ar_shiftDown 33 = .ok (.invokevirtual 21, 3) := by decide +kernel
theorem d_ar_shiftDown_36 : decode bc_ar_shiftDown 36 = .ok (.iload_n 3, 1) := by decide +kernel
theorem d_ar_shiftDown_37 : decode bc_ar_shiftDown 37 = .ok (.ireturn, 1) := by decide +kernel
theorem d_ar_shiftUp_0 : decode bc_ar_shiftUp 0 = .ok (.iload_n 1, 1) := by decide +kernel
theorem d_ar_shiftUp_1 : decode bc_ar_shiftUp 1 = .ok (.iconst 1, 1) := by decide +kernel
theorem d_ar_shiftUp_2 : decode bc_ar_shiftUp 2 = .ok (.ishl, 1) := by decide +kernel
theorem d_ar_shiftUp_3 : decode bc_ar_shiftUp 3 = .ok (.sipush 255, 3) := by decide +kernel
theorem d_ar_shiftUp_6 : decode bc_ar_shiftUp 6 = .ok (.iand, 1) := by decide +kernel
theorem d_ar_shiftUp_7 : decode bc_ar_shiftUp 7 = .ok (.iload_n 2, 1) := by decide +kernel
theorem d_ar_shiftUp_8 : decode bc_ar_shiftUp 8 = .ok (.ior, 1) := by decide +kernel
theorem d_ar_shiftUp_9 : decode bc_ar_shiftUp 9 = .ok (.istore_n 3, 1) := by decide +kernel
theorem d_ar_shiftUp_10 : decode bc_ar_shiftUp 10 = .ok (.aload_n 0, 1) := by decide +kernel
theorem d_ar_shiftUp_11 : decode bc_ar_shiftUp 11 = .ok (.getfield 9, 3) := by decide +kernel
theorem d_ar_shiftUp_14 : decode bc_ar_shiftUp 14 = .ok (.iconst 1, 1) := by decide +kernel
theorem d_ar_shiftUp_15 : decode bc_ar_shiftUp 15 = .ok (.iload_n 1, 1) := by decide +kernel
theorem d_ar_shiftUp_16 : decode bc_ar_shiftUp 16 = .ok (.sipush 128, 3) := by decide +kernel
theorem d_ar_shiftUp_19 : decode bc_ar_shiftUp 19 = .ok (.iand, 1) := by decide +kernel
theorem d_ar_shiftUp_20 : decode bc_ar_shiftUp 20 = .ok (.ifCond .eq 7, 3) := by decide +kernel
theorem d_ar_shiftUp_23 : decode bc_ar_shiftUp 23 = .ok (.iconst 1, 1) := by decide +kernel
theorem d_ar_shiftUp_24 : decode bc_ar_shiftUp 24 = .ok (.goto 4, 3) := by decide +kernel
theorem d_ar_shiftUp_27 : decode bc_ar_shiftUp 27 = .ok (.iconst 0, 1) := by decide +kernel
theorem d_ar_shiftUp_28 : decode bc_ar_shiftUp 28 = .ok (.invokevirtual 15, 3) := by decide +kernel
theorem d_ar_shiftUp_31 : decode bc_ar_shiftUp 31 = .ok (.aload_n 0, 1) := by decide +kernel
theorem d_ar_shiftUp_32 : decode bc_ar_shiftUp 32 = .ok (.getfield 9, 3) := by decide +kernel
theorem d_ar_shiftUp_35 : decode bc_ar_shiftUp 35 = .ok (.iconst 2, 1) := by decide +kernel
theorem d_ar_shiftUp_36 : decode bc_ar_shiftUp 36 = .ok (.iload_n 1, 1) := by decide +kernel
theorem d_ar_shiftUp_37 : decode bc_ar_shiftUp 37 = .ok (.iload_n 1, 1) := by decide +kernel
theorem d_ar_shiftUp_38 : decode bc_ar_shiftUp 38 = .ok (.iconst 1, 1) := by decide +kernel
theorem d_ar_shiftUp_39 : decode bc_ar_shiftUp 39 = .ok (.ishl, 1) := by decide +kernel
theorem d_ar_shiftUp_40 : decode bc_ar_shiftUp 40 = .ok (.ixor, 1) := by decide +kernel
theorem d_ar_shiftUp_41 : decode bc_ar_shiftUp 41 = .ok (.sipush 128, 3) := by decide +kernel
theorem d_ar_shiftUp_44 : decode bc_ar_shiftUp 44 = .ok (.iand, 1) := by decide +kernel
theorem d_ar_shiftUp_45 : decode bc_ar_shiftUp 45 = .ok (.ifCond .eq 7, 3) := by decide +kernel
theorem d_ar_shiftUp_48 : decode bc_ar_shiftUp 48 = .ok (.iconst 1, 1) := by decide +kernel
theorem d_ar_shiftUp_49 : decode bc_ar_shiftUp 49 = .ok (.goto 4, 3) := by decide +kernel
theorem d_ar_shiftUp_52 : decode bc_ar_shiftUp 52 = .ok (.iconst 0, 1) := by decide +kernel
theorem d_ar_shiftUp_53 : decode bc_ar_shiftUp 53 = .ok (.invokevirtual 15, 3) := by decide +kernel
theorem d_ar_shiftUp_56 : decode bc_ar_shiftUp 56 = .ok (.aload_n 0, 1) := by decide +kernel
theorem d_ar_shiftUp_57 : decode bc_ar_shiftUp 57 = .ok (.getfield 9, 3) := by decide +kernel
theorem d_ar_shiftUp_60 : decode bc_ar_shiftUp 60 = .ok (.iload_n 3, 1) := by decide +kernel
theorem d_ar_shiftUp_61 : decode bc_ar_shiftUp 61 = .ok (.sipush 128, 3) := by decide +kernel
theorem d_ar_shiftUp_64 : decode bc_ar_shiftUp 64 = .ok (.invokevirtual 21, 3) := by decide +kernel
theorem d_ar_shiftUp_67 : decode bc_ar_shiftUp 67 = .ok (.iload_n 3, 1) := by decide +kernel
theorem d_ar_shiftUp_68 : decode bc_ar_shiftUp 68 = .ok (.ireturn, 1) := by decide +kernel
theorem d_ar_count_0 : decode bc_ar_count 0 = .ok (.aload_n 0, 1) := by decide +kernel
theorem d_ar_count_1 : decode bc_ar_count 1 = .ok (.getfield 9, 3) := by decide +kernel
theorem d_ar_count_4 : decode bc_ar_count 4 = .ok (.iconst 2, 1) := by decide +kernel
theorem d_ar_count_5 : decode bc_ar_count 5 = .ok (.iload_n 2, 1) := by decide +kernel
theorem d_ar_count_6 : decode bc_ar_count 6 = .ok (.invokevirtual 15, 3) := by decide +kernel
theorem d_ar_count_9 : decode bc_ar_count 9 = .ok (.aload_n 0, 1) := by decide +kernel
theorem d_ar_count_10 : decode bc_ar_count 10 = .ok (.getfield 9, 3) := by decide +kernel
theorem d_ar_count_13 : decode bc_ar_count 13 = .ok (.iload_n 1, 1) := by decide +kernel
theorem d_ar_count_14 : decode bc_ar_count 14 = .ok (.sipush 128, 3) := by decide +kernel
theorem d_ar_count_17 : decode bc_ar_count 17 = .ok (.invokevirtual 21, 3) := by decide +kernel
theorem d_ar_count_20 : decode bc_ar_count 20 = .ok (.iload_n 1, 1) := by decide +kernel
theorem d_ar_count_21 : decode bc_ar_count 21 = .ok (.ireturn, 1) := by decide +kernel
theorem d_ar_alter_0 : decode bc_ar_alter 0 = .ok (.iload_n 1, 1) := by decide +kernel
theorem d_ar_alter_1 : decode bc_ar_alter 1 = .ok (.tableswitch 216 0 13 #[71, 216, 216, 82, 106, 216, 113, 129, 140, 147, 160, 216, 184, 207], 71) := by decide +kernel
theorem d_ar_alter_72 : decode bc_ar_alter 72 = .ok (.aload_n 0, 1) := by decide +kernel
theorem d_ar_alter_73 : decode bc_ar_alter 73 = .ok (.iconst 0, 1) := by decide +kernel
theorem d_ar_alter_74 : decode bc_ar_alter 74 = .ok (.iload_n 2, 1) := by decide +kernel
theorem d_ar_alter_75 : decode bc_ar_alter 75 = .ok (.iconst 0, 1) := by decide +kernel
theorem d_ar_alter_76 : decode bc_ar_alter 76 = .ok (.sipush 128, 3) := by decide +kernel
theorem d_ar_alter_79 : decode bc_ar_alter 79 = .ok (.invokevirtual 25, 3) := by decide +kernel
theorem d_ar_alter_82 : decode bc_ar_alter 82 = .ok (.ireturn, 1) := by decide +kernel
theorem d_ar_alter_83 : decode bc_ar_alter 83 = .ok (.aload_n 0, 1) := by decide +kernel
theorem d_ar_alter_84 : decode bc_ar_alter 84 = .ok (.getfield 9, 3) := by decide +kernel
theorem d_ar_alter_87 : decode bc_ar_alter 87 = .ok (.iconst 1, 1) := by decide +kernel
theorem d_ar_alter_88 : decode bc_ar_alter 88 = .ok (.iconst 1, 1) := by decide +kernel
theorem d_ar_alter_89 : decode bc_ar_alter 89 = .ok (.invokevirtual 15, 3) := by decide +kernel
theorem d_ar_alter_92 : decode bc_ar_alter 92 = .ok (.aload_n 0, 1) := by decide +kernel
theorem d_ar_alter_93 : decode bc_ar_alter 93 = .ok (.iload_n 2, 1) := by decide +kernel
theorem d_ar_alter_94 : decode bc_ar_alter 94 = .ok (.iconst (-1), 1) := by decide +kernel
theorem d_ar_alter_95 : decode bc_ar_alter 95 = .ok (.ixor, 1) := by decide +kernel
theorem d_ar_alter_96 : decode bc_ar_alter 96 = .ok (.sipush 255, 3) := by decide +kernel
theorem d_ar_alter_99 : decode bc_ar_alter 99 = .ok (.iand, 1) := by decide +kernel
theorem d_ar_alter_100 : decode bc_ar_alter 100 = .ok (.sipush 128, 3) := by decide +kernel
theorem d_ar_alter_103 : decode bc_ar_alter 103 = .ok (.invokevirtual 33, 3) := by decide +kernel
theorem d_ar_alter_106 : decode bc_ar_alter 106 = .ok (.ireturn, 1) := by decide +kernel
theorem d_ar_alter_107 : decode bc_ar_alter 107 = .ok (.aload_n 0, 1) := by decide +kernel
theorem d_ar_alter_108 : decode bc_ar_alter 108 = .ok (.iload_n 2, 1) := by decide +kernel
theorem d_ar_alter_109 : decode bc_ar_alter 109 = .ok (.iconst 0, 1) := by decide +kernel
theorem d_ar_alter_110 : decode bc_ar_alter 110 = .ok (.invokevirtual 44, 3) := by decide +kernel
theorem d_ar_alter_113 : decode bc_ar_alter 113 = .ok (.ireturn, 1) := by decide +kernel
theorem d_ar_alter_114 : decode bc_ar_alter 114 = .ok (.aload_n 0, 1) := by decide +kernel
theorem d_ar_alter_115 : decode bc_ar_alter 115 = .ok (.iload_n 2, 1) := by decide +kernel
theorem d_ar_alter_116 : decode bc_ar_alter 116 = .ok (.aload_n 0, 1) := by decide +kernel
theorem d_ar_alter_117 : decode bc_ar_alter 117 = .ok (.getfield 9, 3) := by decide +kernel
theorem d_ar_alter_120 : decode bc_ar_alter 120 = .ok (.invokevirtual 29, 3) := by decide +kernel
theorem d_ar_alter_123 : decode bc_ar_alter 123 = .ok (.bipush 7, 2) := by decide +kernel
theorem d_ar_alter_125 : decode bc_ar_alter 125 = .ok (.ishl, 1) := by decide +kernel
theorem d_ar_alter_126 : decode bc_ar_alter 126 = .ok (.invokevirtual 44, 3) := by decide +kernel
theorem d_ar_alter_129 : decode bc_ar_alter 129 = .ok (.ireturn, 1) := by decide +kernel
theorem d_ar_alter_130 : decode bc_ar_alter 130 = .ok (.aload_n 0, 1) := by decide +kernel
theorem d_ar_alter_131 : decode bc_ar_alter 131 = .ok (.iload_n 2, 1) := by decide +kernel
theorem d_ar_alter_132 : decode bc_ar_alter 132 = .ok (.iload_n 2, 1) := by decide +kernel
theorem d_ar_alter_133 : decode bc_ar_alter 133 = .ok (.sipush 128, 3) := by decide +kernel
theorem d_ar_alter_136 : decode bc_ar_alter 136 = .ok (.iand, 1) := by decide +kernel
theorem d_ar_alter_137 : decode bc_ar_alter 137 = .ok (.invokevirtual 44, 3) := by decide +kernel
theorem d_ar_alter_140 : decode bc_ar_alter 140 = .ok (.ireturn, 1) := by decide +kernel
theorem d_ar_alter_141 : decode bc_ar_alter 141 = .ok (.aload_n 0, 1) := by decide +kernel
theorem d_ar_alter_142 : decode bc_ar_alter 142 = .ok (.iload_n 2, 1) := by decide +kernel
theorem d_ar_alter_143 : decode bc_ar_alter 143 = .ok (.iconst 0, 1) := by decide +kernel
theorem d_ar_alter_144 : decode bc_ar_alter 144 = .ok (.invokevirtual 47, 3) := by decide +kernel
theorem d_ar_alter_147 : decode bc_ar_alter 147 = .ok (.ireturn, 1) := by decide +kernel
theorem d_ar_alter_148 : decode bc_ar_alter 148 = .ok (.aload_n 0, 1) := by decide +kernel
theorem d_ar_alter_149 : decode bc_ar_alter 149 = .ok (.iload_n 2, 1) := by decide +kernel
theorem d_ar_alter_150 : decode bc_ar_alter 150 = .ok (.aload_n 0, 1) := by decide +kernel
theorem d_ar_alter_151 : decode bc_ar_alter 151 = .ok (.getfield 9, 3) := by decide +kernel
theorem d_ar_alter_154 : decode bc_ar_alter 154 = .ok (.invokevirtual 29, 3) := by decide +kernel
theorem d_ar_alter_157 : decode bc_ar_alter 157 = .ok (.invokevirtual 47, 3) := by decide +kernel
theorem d_ar_alter_160 : decode bc_ar_alter 160 = .ok (.ireturn, 1) := by decide +kernel
theorem d_ar_alter_161 : decode bc_ar_alter 161 = .ok (.aload_n 0, 1) := by decide +kernel
theorem d_ar_alter_162 : decode bc_ar_alter 162 = .ok (.iload_n 2, 1) := by decide +kernel
theorem d_ar_alter_163 : decode bc_ar_alter 163 = .ok (.iconst 1, 1) := by decide +kernel
theorem d_ar_alter_164 : decode bc_ar_alter 164 = .ok (.isub, 1) := by decide +kernel
theorem d_ar_alter_165 : decode bc_ar_alter 165 = .ok (.sipush 255, 3) := by decide +kernel
theorem d_ar_alter_168 : decode bc_ar_alter 168 = .ok (.iand, 1) := by decide +kernel
theorem d_ar_alter_169 : decode bc_ar_alter 169 = .ok (.iload_n 2, 1) := by decide +kernel
theorem d_ar_alter_170 : decode bc_ar_alter 170 = .ok (.sipush 128, 3) := by decide +kernel
theorem d_ar_alter_173 : decode bc_ar_alter 173 = .ok (.if_icmp .ne 7, 3) := by decide +kernel
theorem d_ar_alter_176 : decode bc_ar_alter 176 = .ok (.iconst 1, 1) := by decide +kernel
theorem d_ar_alter_177 : decode bc_ar_alter 177 = .ok (.goto 4, 3) := by decide +kernel
theorem d_ar_alter_180 : decode bc_ar_alter 180 = .ok (.iconst 0, 1) := by decide +kernel
theorem d_ar_alter_181 : decode bc_ar_alter 181 = .ok (.invokevirtual 50, 3) := by decide +kernel
theorem d_ar_alter_184 : decode bc_ar_alter 184 = .ok (.ireturn, 1) := by decide +kernel
theorem d_ar_alter_185 : decode bc_ar_alter 185 = .ok (.aload_n 0, 1) := by decide +kernel
theorem d_ar_alter_186 : decode bc_ar_alter 186 = .ok (.iload_n 2, 1) := by decide +kernel
theorem d_ar_alter_187 : decode bc_ar_alter 187 = .ok (.iconst 1, 1) := by decide +kernel
theorem d_ar_alter_188 : decode bc_ar_alter 188 = .ok (.iadd, 1) := by decide +kernel
theorem d_ar_alter_189 : decode bc_ar_alter 189 = .ok (.sipush 255, 3) := by decide +kernel
theorem d_ar_alter_192 : decode bc_ar_alter 192 = .ok (.iand, 1) := by decide +kernel
theorem d_ar_alter_193 : decode bc_ar_alter 193 = .ok (.iload_n 2, 1) := by decide +kernel
theorem d_ar_alter_194 : decode bc_ar_alter 194 = .ok (.bipush 127, 2) := by decide +kernel
theorem d_ar_alter_196 : decode bc_ar_alter 196 = .ok (.if_icmp .ne 7, 3) := by decide +kernel
theorem d_ar_alter_199 : decode bc_ar_alter 199 = .ok (.iconst 1, 1) := by decide +kernel
theorem d_ar_alter_200 : decode bc_ar_alter 200 = .ok (.goto 4, 3) := by decide +kernel
theorem d_ar_alter_203 : decode bc_ar_alter 203 = .ok (.iconst 0, 1) := by decide +kernel
theorem d_ar_alter_204 : decode bc_ar_alter 204 = .ok (.invokevirtual 50, 3) := by decide +kernel
theorem d_ar_alter_207 : decode bc_ar_alter 207 = .ok (.ireturn, 1) := by decide +kernel
theorem d_ar_alter_208 : decode bc_ar_alter 208 = .ok (.aload_n 0, 1) := by decide +kernel
theorem d_ar_alter_209 : decode bc_ar_alter 209 = .ok (.iload_n 2, 1) := by decide +kernel
theorem d_ar_alter_210 : decode bc_ar_alter 210 = .ok (.sipush 128, 3) := by decide +kernel
theorem d_ar_alter_213 : decode bc_ar_alter 213 = .ok (.invokevirtual 33, 3) := by decide +kernel
theorem d_ar_alter_216 : decode bc_ar_alter 216 = .ok (.ireturn, 1) := by decide +kernel
theorem d_ar_alter_217 : decode bc_ar_alter 217 = .ok (.aload_n 0, 1) := by decide +kernel
theorem d_ar_alter_218 : decode bc_ar_alter 218 = .ok (.getfield 9, 3) := by decide +kernel
theorem d_ar_alter_221 : decode bc_ar_alter 221 = .ok (.iconst 1, 1) := by decide +kernel
theorem d_ar_alter_222 : decode bc_ar_alter 222 = .ok (.iconst 0, 1) := by decide +kernel
theorem d_ar_alter_223 : decode bc_ar_alter 223 = .ok (.invokevirtual 15, 3) := by decide +kernel
theorem d_ar_alter_226 : decode bc_ar_alter 226 = .ok (.aload_n 0, 1) := by decide +kernel
theorem d_ar_alter_227 : decode bc_ar_alter 227 = .ok (.iconst 0, 1) := by decide +kernel
theorem d_ar_alter_228 : decode bc_ar_alter 228 = .ok (.sipush 128, 3) := by decide +kernel
theorem d_ar_alter_231 : decode bc_ar_alter 231 = .ok (.invokevirtual 33, 3) := by decide +kernel
theorem d_ar_alter_234 : decode bc_ar_alter 234 = .ok (.ireturn, 1) := by decide +kernel
theorem d_ar_adjustDecimal_0 : decode bc_ar_adjustDecimal 0 = .ok (.aload_n 0, 1) := by decide +kernel
theorem d_ar_adjustDecimal_1 : decode bc_ar_adjustDecimal 1 = .ok (.getfield 9, 3) := by decide +kernel
theorem d_ar_adjustDecimal_4 : decode bc_ar_adjustDecimal 4 = .ok (.iconst 0, 1) := by decide +kernel
theorem d_ar_adjustDecimal_5 : decode bc_ar_adjustDecimal 5 = .ok (.invokevirtual 54, 3) := by decide +kernel
theorem d_ar_adjustDecimal_8 : decode bc_ar_adjustDecimal 8 = .ok (.istore_n 1, 1) := by decide +kernel
theorem d_ar_adjustDecimal_9 : decode bc_ar_adjustDecimal 9 = .ok (.iload_n 1, 1) := by decide +kernel
theorem d_ar_adjustDecimal_10 : decode bc_ar_adjustDecimal 10 = .ok (.iconst 4, 1) := by decide +kernel
theorem d_ar_adjustDecimal_11 : decode bc_ar_adjustDecimal 11 = .ok (.ishr, 1) := by decide +kernel
theorem d_ar_adjustDecimal_12 : decode bc_ar_adjustDecimal 12 = .ok (.istore_n 2, 1) := by decide +kernel
theorem d_ar_adjustDecimal_13 : decode bc_ar_adjustDecimal 13 = .ok (.iload_n 1, 1) := by decide +kernel
theorem d_ar_adjustDecimal_14 : decode bc_ar_adjustDecimal 14 = .ok (.bipush 15, 2) := by decide +kernel
theorem d_ar_adjustDecimal_16 : decode bc_ar_adjustDecimal 16 = .ok (.iand, 1) := by decide +kernel
theorem d_ar_adjustDecimal_17 : decode bc_ar_adjustDecimal 17 = .ok (.bipush 9, 2) := by decide +kernel
theorem d_ar_adjustDecimal_19 : decode bc_ar_adjustDecimal 19 = .ok (.if_icmp .le 7, 3) := by decide +kernel
theorem d_ar_adjustDecimal_22 : decode bc_ar_adjustDecimal 22 = .ok (.iconst 1, 1) := by decide +kernel
theorem d_ar_adjustDecimal_23 : decode bc_ar_adjustDecimal 23 = .ok (.goto 4, 3) := by decide +kernel
theorem d_ar_adjustDecimal_26 : decode bc_ar_adjustDecimal 26 = .ok (.iconst 0, 1) := by decide +kernel
theorem d_ar_adjustDecimal_27 : decode bc_ar_adjustDecimal 27 = .ok (.istore_n 3, 1) := by decide +kernel
theorem d_ar_adjustDecimal_28 : decode bc_ar_adjustDecimal 28 = .ok (.iload_n 1, 1) := by decide +kernel
theorem d_ar_adjustDecimal_29 : decode bc_ar_adjustDecimal 29 = .ok (.istore 4, 2) := by decide +kernel
theorem d_ar_adjustDecimal_31 : decode bc_ar_adjustDecimal 31 = .ok (.aload_n 0, 1) := by decide +kernel
theorem d_ar_adjustDecimal_32 : decode bc_ar_adjustDecimal 32 = .ok (.getfield 9, 3) := by decide +kernel
theorem d_ar_adjustDecimal_35 : decode bc_ar_adjustDecimal 35 = .ok (.bipush 32, 2) := by decide +kernel
theorem d_ar_adjustDecimal_37 : decode bc_ar_adjustDecimal 37 = .ok (.invokevirtual 58, 3) := by decide +kernel
theorem d_ar_adjustDecimal_40 : decode bc_ar_adjustDecimal 40 = .ok (.ifCond .ne 7, 3) := by decide +kernel
theorem d_ar_adjustDecimal_43 : decode bc_ar_adjustDecimal 43 = .ok (.iload_n 3, 1) := by decide +kernel
theorem d_ar_adjustDecimal_44 : decode bc_ar_adjustDecimal 44 = .ok (.ifCond .eq 6, 3) := by decide +kernel
theorem d_ar_adjustDecimal_47 : decode bc_ar_adjustDecimal 47 = .ok (.iinc 4 6, 3) := by decide +kernel
theorem d_ar_adjustDecimal_50 : decode bc_ar_adjustDecimal 50 = .ok (.aload_n 0, 1) := by decide +kernel
theorem d_ar_adjustDecimal_51 : decode bc_ar_adjustDecimal 51 = .ok (.getfield 9, 3) := by decide +kernel
theorem d_ar_adjustDecimal_54 : decode bc_ar_adjustDecimal 54 = .ok (.iconst 1, 1) := by decide +kernel
theorem d_ar_adjustDecimal_55 : decode bc_ar_adjustDecimal 55 = .ok (.invokevirtual 58, 3) := by decide +kernel
theorem d_ar_adjustDecimal_58 : decode bc_ar_adjustDecimal 58 = .ok (.ifCond .ne 19, 3) := by decide +kernel
theorem d_ar_adjustDecimal_61 : decode bc_ar_adjustDecimal 61 = .ok (.iload_n 2, 1) := by decide +kernel
theorem d_ar_adjustDecimal_62 : decode bc_ar_adjustDecimal 62 = .ok (.bipush 9, 2) := by decide +kernel
theorem d_ar_adjustDecimal_64 : decode bc_ar_adjustDecimal 64 = .ok (.if_icmp .gt 13, 3) := by decide +kernel
theorem d_ar_adjustDecimal_67 : decode bc_ar_adjustDecimal 67 = .ok (.iload_n 2, 1) := by decide +kernel
theorem d_ar_adjustDecimal_68 : decode bc_ar_adjustDecimal 68 = .ok (.bipush 8, 2) := by decide +kernel
theorem d_ar_adjustDecimal_70 : decode bc_ar_adjustDecimal 70 = .ok (.if_icmp .le 10, 3) := by decide +kernel
theorem d_ar_adjustDecimal_73 : decode bc_ar_adjustDecimal 73 = .ok (.iload_n 3, 1) := by decide +kernel
theorem d_ar_adjustDecimal_74 : decode bc_ar_adjustDecimal 74 = .ok (.ifCond .eq 6, 3) := by decide +kernel
theorem d_ar_adjustDecimal_77 : decode bc_ar_adjustDecimal 77 = .ok (.iinc 4 96, 3) := by decide +kernel
theorem d_ar_adjustDecimal_80 : decode bc_ar_adjustDecimal 80 = .ok (.iload 4, 2) := by decide +kernel
theorem d_ar_adjustDecimal_82 : decode bc_ar_adjustDecimal 82 = .ok (.sipush 255, 3) := by decide +kernel
theorem d_ar_adjustDecimal_85 : decode bc_ar_adjustDecimal 85 = .ok (.if_icmp .le 12, 3) := by decide +kernel
theorem d_ar_adjustDecimal_88 : decode bc_ar_adjustDecimal 88 = .ok (.aload_n 0, 1) := by decide +kernel
theorem d_ar_adjustDecimal_89 : decode bc_ar_adjustDecimal 89 = .ok (.getfield 9, 3) := by decide +kernel
theorem d_ar_adjustDecimal_92 : decode bc_ar_adjustDecimal 92 = .ok (.iconst 1, 1) := by decide +kernel
end
section
theorem d_ar_adjustDecimal_93 : decode bc_ar_adjustDecimal 93 = .ok (.iconst 1, 1) := by decide +kernel
theorem d_ar_adjustDecimal_94 : decode bc_ar_adjustDecimal 94 = .ok (.invokevirtual 15, 3) := by decide +kernel
theorem d_ar_adjustDecimal_97 : decode bc_ar_adjustDecimal 97 = .ok (.aload_n 0, 1) := by decide +kernel
theorem d_ar_adjustDecimal_98 : decode bc_ar_adjustDecimal 98 = .ok (.getfield 9, 3) := by decide +kernel
theorem d_ar_adjustDecimal_101 : decode bc_ar_adjustDecimal 101 = .ok (.iconst 0, 1) := by decide +kernel
theorem d_ar_adjustDecimal_102 : decode bc_ar_adjustDecimal 102 = .ok (.iload 4, 2) := by decide +kernel
theorem d_ar_adjustDecimal_104 : decode bc_ar_adjustDecimal 104 = .ok (.invokevirtual 62, 3) := by decide +kernel
theorem d_ar_adjustDecimal_107 : decode bc_ar_adjustDecimal 107 = .ok (.aload_n 0, 1) := by decide +kernel
theorem d_ar_adjustDecimal_108 : decode bc_ar_adjustDecimal 108 = .ok (.getfield 9, 3) := by decide +kernel
theorem d_ar_adjustDecimal_111 : decode bc_ar_adjustDecimal 111 = .ok (.iload 4, 2) := by decide +kernel
theorem d_ar_adjustDecimal_113 : decode bc_ar_adjustDecimal 113 = .ok (.sipush 255, 3) := by decide +kernel
theorem d_ar_adjustDecimal_116 : decode bc_ar_adjustDecimal 116 = .ok (.iand, 1) := by decide +kernel
theorem d_ar_adjustDecimal_117 : decode bc_ar_adjustDecimal 117 = .ok (.sipush 128, 3) := by decide +kernel
theorem d_ar_adjustDecimal_120 : decode bc_ar_adjustDecimal 120 = .ok (.invokevirtual 21, 3) := by decide +kernel
theorem d_ar_adjustDecimal_123 : decode bc_ar_adjustDecimal 123 = .ok (.return_, 1) := by decide +kernel
theorem d_ar_extendSign_0 : decode bc_ar_extendSign 0 = .ok (.aload_n 0, 1) := by decide +kernel
theorem d_ar_extendSign_1 : decode bc_ar_extendSign 1 = .ok (.getfield 9, 3) := by decide +kernel
theorem d_ar_extendSign_4 : decode bc_ar_extendSign 4 = .ok (.iconst 0, 1) := by decide +kernel
theorem d_ar_extendSign_5 : decode bc_ar_extendSign 5 = .ok (.aload_n 0, 1) := by decide +kernel
theorem d_ar_extendSign_6 : decode bc_ar_extendSign 6 = .ok (.getfield 9, 3) := by decide +kernel
theorem d_ar_extendSign_9 : decode bc_ar_extendSign 9 = .ok (.iconst 1, 1) := by decide +kernel
theorem d_ar_extendSign_10 : decode bc_ar_extendSign 10 = .ok (.invokevirtual 54, 3) := by decide +kernel
theorem d_ar_extendSign_13 : decode bc_ar_extendSign 13 = .ok (.sipush 128, 3) := by decide +kernel
theorem d_ar_extendSign_16 : decode bc_ar_extendSign 16 = .ok (.iand, 1) := by decide +kernel
theorem d_ar_extendSign_17 : decode bc_ar_extendSign 17 = .ok (.ifCond .eq 9, 3) := by decide +kernel
theorem d_ar_extendSign_20 : decode bc_ar_extendSign 20 = .ok (.sipush 255, 3) := by decide +kernel
theorem d_ar_extendSign_23 : decode bc_ar_extendSign 23 = .ok (.goto 4, 3) := by decide +kernel
theorem d_ar_extendSign_26 : decode bc_ar_extendSign 26 = .ok (.iconst 0, 1) := by decide +kernel
theorem d_ar_extendSign_27 : decode bc_ar_extendSign 27 = .ok (.invokevirtual 62, 3) := by decide +kernel
theorem d_ar_extendSign_30 : decode bc_ar_extendSign 30 = .ok (.aload_n 0, 1) := by decide +kernel
theorem d_ar_extendSign_31 : decode bc_ar_extendSign 31 = .ok (.aload_n 0, 1) := by decide +kernel
theorem d_ar_extendSign_32 : decode bc_ar_extendSign 32 = .ok (.getfield 9, 3) := by decide +kernel
theorem d_ar_extendSign_35 : decode bc_ar_extendSign 35 = .ok (.bipush 9, 2) := by decide +kernel
theorem d_ar_extendSign_37 : decode bc_ar_extendSign 37 = .ok (.invokevirtual 54, 3) := by decide +kernel
theorem d_ar_extendSign_40 : decode bc_ar_extendSign 40 = .ok (.ldc 65, 2) := by decide +kernel
theorem d_ar_extendSign_42 : decode bc_ar_extendSign 42 = .ok (.invokevirtual 33, 3) := by decide +kernel
theorem d_ar_extendSign_45 : decode bc_ar_extendSign 45 = .ok (.pop, 1) := by decide +kernel
theorem d_ar_extendSign_46 : decode bc_ar_extendSign 46 = .ok (.return_, 1) := by decide +kernel
theorem d_ar_multiply_0 : decode bc_ar_multiply 0 = .ok (.aload_n 0, 1) := by decide +kernel
theorem d_ar_multiply_1 : decode bc_ar_multiply 1 = .ok (.getfield 9, 3) := by decide +kernel
theorem d_ar_multiply_4 : decode bc_ar_multiply 4 = .ok (.iconst 0, 1) := by decide +kernel
theorem d_ar_multiply_5 : decode bc_ar_multiply 5 = .ok (.invokevirtual 54, 3) := by decide +kernel
theorem d_ar_multiply_8 : decode bc_ar_multiply 8 = .ok (.aload_n 0, 1) := by decide +kernel
theorem d_ar_multiply_9 : decode bc_ar_multiply 9 = .ok (.getfield 9, 3) := by decide +kernel
theorem d_ar_multiply_12 : decode bc_ar_multiply 12 = .ok (.iconst 1, 1) := by decide +kernel
theorem d_ar_multiply_13 : decode bc_ar_multiply 13 = .ok (.invokevirtual 54, 3) := by decide +kernel
theorem d_ar_multiply_16 : decode bc_ar_multiply 16 = .ok (.imul, 1) := by decide +kernel
theorem d_ar_multiply_17 : decode bc_ar_multiply 17 = .ok (.istore_n 1, 1) := by decide +kernel
theorem d_ar_multiply_18 : decode bc_ar_multiply 18 = .ok (.aload_n 0, 1) := by decide +kernel
theorem d_ar_multiply_19 : decode bc_ar_multiply 19 = .ok (.getfield 9, 3) := by decide +kernel
theorem d_ar_multiply_22 : decode bc_ar_multiply 22 = .ok (.bipush 9, 2) := by decide +kernel
theorem d_ar_multiply_24 : decode bc_ar_multiply 24 = .ok (.iload_n 1, 1) := by decide +kernel
theorem d_ar_multiply_25 : decode bc_ar_multiply 25 = .ok (.invokevirtual 62, 3) := by decide +kernel
theorem d_ar_multiply_28 : decode bc_ar_multiply 28 = .ok (.aload_n 0, 1) := by decide +kernel
theorem d_ar_multiply_29 : decode bc_ar_multiply 29 = .ok (.getfield 9, 3) := by decide +kernel
theorem d_ar_multiply_32 : decode bc_ar_multiply 32 = .ok (.iconst 4, 1) := by decide +kernel
theorem d_ar_multiply_33 : decode bc_ar_multiply 33 = .ok (.iload_n 1, 1) := by decide +kernel
theorem d_ar_multiply_34 : decode bc_ar_multiply 34 = .ok (.ifCond .ne 7, 3) := by decide +kernel
theorem d_ar_multiply_37 : decode bc_ar_multiply 37 = .ok (.iconst 1, 1) := by decide +kernel
theorem d_ar_multiply_38 : decode bc_ar_multiply 38 = .ok (.goto 4, 3) := by decide +kernel
theorem d_ar_multiply_41 : decode bc_ar_multiply 41 = .ok (.iconst 0, 1) := by decide +kernel
theorem d_ar_multiply_42 : decode bc_ar_multiply 42 = .ok (.invokevirtual 15, 3) := by decide +kernel
theorem d_ar_multiply_45 : decode bc_ar_multiply 45 = .ok (.aload_n 0, 1) := by decide +kernel
theorem d_ar_multiply_46 : decode bc_ar_multiply 46 = .ok (.getfield 9, 3) := by decide +kernel
theorem d_ar_multiply_49 : decode bc_ar_multiply 49 = .ok (.iconst 1, 1) := by decide +kernel
theorem d_ar_multiply_50 : decode bc_ar_multiply 50 = .ok (.iload_n 1, 1) := by decide +kernel
theorem d_ar_multiply_51 : decode bc_ar_multiply 51 = .ok (.sipush 128, 3) := by decide +kernel
theorem d_ar_multiply_54 : decode bc_ar_multiply 54 = .ok (.iand, 1) := by decide +kernel
theorem d_ar_multiply_55 : decode bc_ar_multiply 55 = .ok (.ifCond .eq 7, 3) := by decide +kernel
theorem d_ar_multiply_58 : decode bc_ar_multiply 58 = .ok (.iconst 1, 1) := by decide +kernel
theorem d_ar_multiply_59 : decode bc_ar_multiply 59 = .ok (.goto 4, 3) := by decide +kernel
theorem d_ar_multiply_62 : decode bc_ar_multiply 62 = .ok (.iconst 0, 1) := by decide +kernel
theorem d_ar_multiply_63 : decode bc_ar_multiply 63 = .ok (.invokevirtual 15, 3) := by decide +kernel
theorem d_ar_multiply_66 : decode bc_ar_multiply 66 = .ok (.return_, 1) := by decide +kernel
theorem d_tc_reset_0 : decode bc_tc_reset 0 = .ok (.aload_n 0, 1) := by decide +kernel
theorem d_tc_reset_1 : decode bc_tc_reset 1 = .ok (.getfield 19, 3) := by decide +kernel
theorem d_tc_reset_4 : decode bc_tc_reset 4 = .ok (.bipush 7, 2) := by decide +kernel
theorem d_tc_reset_6 : decode bc_tc_reset 6 = .ok (.iconst 0, 1) := by decide +kernel
theorem d_tc_reset_7 : decode bc_tc_reset 7 = .ok (.invokevirtual 36, 3) := by decide +kernel
theorem d_tc_reset_10 : decode bc_tc_reset 10 = .ok (.aload_n 0, 1) := by decide +kernel
theorem d_tc_reset_11 : decode bc_tc_reset 11 = .ok (.getfield 19, 3) := by decide +kernel
theorem d_tc_reset_14 : decode bc_tc_reset 14 = .ok (.bipush 80, 2) := by decide +kernel
theorem d_tc_reset_16 : decode bc_tc_reset 16 = .ok (.iconst 1, 1) := by decide +kernel
theorem d_tc_reset_17 : decode bc_tc_reset 17 = .ok (.invokevirtual 40, 3) := by decide +kernel
theorem d_tc_reset_20 : decode bc_tc_reset 20 = .ok (.aload_n 0, 1) := by decide +kernel
theorem d_tc_reset_21 : decode bc_tc_reset 21 = .ok (.iconst 0, 1) := by decide +kernel
theorem d_tc_reset_22 : decode bc_tc_reset 22 = .ok (.putfield 44, 3) := by decide +kernel
theorem d_tc_reset_25 : decode bc_tc_reset 25 = .ok (.aload_n 0, 1) := by decide +kernel
theorem d_tc_reset_26 : decode bc_tc_reset 26 = .ok (.iconst 0, 1) := by decide +kernel
theorem d_tc_reset_27 : decode bc_tc_reset 27 = .ok (.putfield 48, 3) := by decide +kernel
theorem d_tc_reset_30 : decode bc_tc_reset 30 = .ok (.aload_n 0, 1) := by decide +kernel
theorem d_tc_reset_31 : decode bc_tc_reset 31 = .ok (.iconst 0, 1) := by decide +kernel
theorem d_tc_reset_32 : decode bc_tc_reset 32 = .ok (.putfield 51, 3) := by decide +kernel
theorem d_tc_reset_35 : decode bc_tc_reset 35 = .ok (.aload_n 0, 1) := by decide +kernel
theorem d_tc_reset_36 : decode bc_tc_reset 36 = .ok (.getfield 19, 3) := by decide +kernel
theorem d_tc_reset_39 : decode bc_tc_reset 39 = .ok (.bipush 6, 2) := by decide +kernel
theorem d_tc_reset_41 : decode bc_tc_reset 41 = .ok (.aload_n 0, 1) := by decide +kernel
theorem d_tc_reset_42 : decode bc_tc_reset 42 = .ok (.getfield 10, 3) := by decide +kernel
theorem d_tc_reset_45 : decode bc_tc_reset 45 = .ok (.ldc 55, 2) := by decide +kernel
theorem d_tc_reset_47 : decode bc_tc_reset 47 = .ok (.invokevirtual 56, 3) := by decide +kernel
theorem d_tc_reset_50 : decode bc_tc_reset 50 = .ok (.invokevirtual 36, 3) := by decide +kernel
theorem d_tc_reset_53 : decode bc_tc_reset 53 = .ok (.return_, 1) := by decide +kernel
theorem d_tc_poke_0 : decode bc_tc_poke 0 = .ok (.iload_n 1, 1) := by decide +kernel
theorem d_tc_poke_1 : decode bc_tc_poke 1 = .ok (.invokestatic 60, 3) := by decide +kernel
theorem d_tc_poke_4 : decode bc_tc_poke 4 = .ok (.ifCond .eq 14, 3) := by decide +kernel
theorem d_tc_poke_7 : decode bc_tc_poke 7 = .ok (.iload_n 2, 1) := by decide +kernel
theorem d_tc_poke_8 : decode bc_tc_poke 8 = .ok (.ifCond .lt 10, 3) := by decide +kernel
theorem d_tc_poke_11 : decode bc_tc_poke 11 = .ok (.iload_n 2, 1) := by decide +kernel
theorem d_tc_poke_12 : decode bc_tc_poke 12 = .ok (.sipush 255, 3) := by decide +kernel
theorem d_tc_poke_15 : decode bc_tc_poke 15 = .ok (.if_icmp .le 5, 3) := by decide +kernel
theorem d_tc_poke_18 : decode bc_tc_poke 18 = .ok (.iconst 0, 1) := by decide +kernel
theorem d_tc_poke_19 : decode bc_tc_poke 19 = .ok (.ireturn, 1) := by decide +kernel
theorem d_tc_poke_20 : decode bc_tc_poke 20 = .ok (.aload_n 0, 1) := by decide +kernel
theorem d_tc_poke_21 : decode bc_tc_poke 21 = .ok (.getfield 10, 3) := by decide +kernel
theorem d_tc_poke_24 : decode bc_tc_poke 24 = .ok (.iload_n 1, 1) := by decide +kernel
theorem d_tc_poke_25 : decode bc_tc_poke 25 = .ok (.iload_n 2, 1) := by decide +kernel
theorem d_tc_poke_26 : decode bc_tc_poke 26 = .ok (.invokevirtual 64, 3) := by decide +kernel
theorem d_tc_poke_29 : decode bc_tc_poke 29 = .ok (.iconst 1, 1) := by decide +kernel
theorem d_tc_poke_30 : decode bc_tc_poke 30 = .ok (.ireturn, 1) := by decide +kernel
theorem d_tc_load_0 : decode bc_tc_load 0 = .ok (.iload_n 3, 1) := by decide +kernel
theorem d_tc_load_1 : decode bc_tc_load 1 = .ok (.iconst 1, 1) := by decide +kernel
theorem d_tc_load_2 : decode bc_tc_load 2 = .ok (.if_icmp .lt 8, 3) := by decide +kernel
theorem d_tc_load_5 : decode bc_tc_load 5 = .ok (.iload_n 3, 1) := by decide +kernel
theorem d_tc_load_6 : decode bc_tc_load 6 = .ok (.iconst 4, 1) := by decide +kernel
theorem d_tc_load_7 : decode bc_tc_load 7 = .ok (.if_icmp .le 5, 3) := by decide +kernel
theorem d_tc_load_10 : decode bc_tc_load 10 = .ok (.iconst 0, 1) := by decide +kernel
theorem d_tc_load_11 : decode bc_tc_load 11 = .ok (.ireturn, 1) := by decide +kernel
theorem d_tc_load_12 : decode bc_tc_load 12 = .ok (.iload_n 1, 1) := by decide +kernel
theorem d_tc_load_13 : decode bc_tc_load 13 = .ok (.invokestatic 60, 3) := by decide +kernel
theorem d_tc_load_16 : decode bc_tc_load 16 = .ok (.ifCond .eq 14, 3) := by decide +kernel
theorem d_tc_load_19 : decode bc_tc_load 19 = .ok (.iload_n 1, 1) := by decide +kernel
theorem d_tc_load_20 : decode bc_tc_load 20 = .ok (.iload_n 3, 1) := by decide +kernel
theorem d_tc_load_21 : decode bc_tc_load 21 = .ok (.iadd, 1) := by decide +kernel
theorem d_tc_load_22 : decode bc_tc_load 22 = .ok (.iconst 1, 1) := by decide +kernel
theorem d_tc_load_23 : decode bc_tc_load 23 = .ok (.isub, 1) := by decide +kernel
theorem d_tc_load_24 : decode bc_tc_load 24 = .ok (.invokestatic 60, 3) := by decide +kernel
theorem d_tc_load_27 : decode bc_tc_load 27 = .ok (.ifCond .ne 5, 3) := by decide +kernel
theorem d_tc_load_30 : decode bc_tc_load 30 = .ok (.iconst 0, 1) := by decide +kernel
theorem d_tc_load_31 : decode bc_tc_load 31 = .ok (.ireturn, 1) := by decide +kernel
theorem d_tc_load_32 : decode bc_tc_load 32 = .ok (.iconst 0, 1) := by decide +kernel
theorem d_tc_load_33 : decode bc_tc_load 33 = .ok (.istore 4, 2) := by decide +kernel
theorem d_tc_load_35 : decode bc_tc_load 35 = .ok (.iload 4, 2) := by decide +kernel
theorem d_tc_load_37 : decode bc_tc_load 37 = .ok (.iload_n 3, 1) := by decide +kernel
theorem d_tc_load_38 : decode bc_tc_load 38 = .ok (.if_icmp .ge 31, 3) := by decide +kernel
theorem d_tc_load_41 : decode bc_tc_load 41 = .ok (.aload_n 0, 1) := by decide +kernel
theorem d_tc_load_42 : decode bc_tc_load 42 = .ok (.getfield 10, 3) := by decide +kernel
theorem d_tc_load_45 : decode bc_tc_load 45 = .ok (.iload_n 1, 1) := by decide +kernel
theorem d_tc_load_46 : decode bc_tc_load 46 = .ok (.iload 4, 2) := by decide +kernel
theorem d_tc_load_48 : decode bc_tc_load 48 = .ok (.iadd, 1) := by decide +kernel
theorem d_tc_load_49 : decode bc_tc_load 49 = .ok (.iload_n 2, 1) := by decide +kernel
theorem d_tc_load_50 : decode bc_tc_load 50 = .ok (.bipush 8, 2) := by decide +kernel
theorem d_tc_load_52 : decode bc_tc_load 52 = .ok (.iload_n 3, 1) := by decide +kernel
theorem d_tc_load_53 : decode bc_tc_load 53 = .ok (.iconst 1, 1) := by decide +kernel
theorem d_tc_load_54 : decode bc_tc_load 54 = .ok (.isub, 1) := by decide +kernel
theorem d_tc_load_55 : decode bc_tc_load 55 = .ok (.iload 4, 2) := by decide +kernel
theorem d_tc_load_57 : decode bc_tc_load 57 = .ok (.isub, 1) := by decide +kernel
theorem d_tc_load_58 : decode bc_tc_load 58 = .ok (.imul, 1) := by decide +kernel
theorem d_tc_load_59 : decode bc_tc_load 59 = .ok (.ishr, 1) := by decide +kernel
theorem d_tc_load_60 : decode bc_tc_load 60 = .ok (.invokevirtual 64, 3) := by decide +kernel
theorem d_tc_load_63 : decode bc_tc_load 63 = .ok (.iinc 4 1, 3) := by decide +kernel
theorem d_tc_load_66 : decode bc_tc_load 66 = .ok (.goto (-31), 3) := by decide +kernel
theorem d_tc_load_69 : decode bc_tc_load 69 = .ok (.iconst 1, 1) := by decide +kernel
theorem d_tc_load_70 : decode bc_tc_load 70 = .ok (.ireturn, 1) := by decide +kernel
theorem d_tc_peek_0 : decode bc_tc_peek 0 = .ok (.iload_n 1, 1) := by decide +kernel
theorem d_tc_peek_1 : decode bc_tc_peek 1 = .ok (.invokestatic 60, 3) := by decide +kernel
theorem d_tc_peek_4 : decode bc_tc_peek 4 = .ok (.ifCond .eq 14, 3) := by decide +kernel
theorem d_tc_peek_7 : decode bc_tc_peek 7 = .ok (.aload_n 0, 1) := by decide +kernel
theorem d_tc_peek_8 : decode bc_tc_peek 8 = .ok (.getfield 10, 3) := by decide +kernel
theorem d_tc_peek_11 : decode bc_tc_peek 11 = .ok (.iload_n 1, 1) := by decide +kernel
theorem d_tc_peek_12 : decode bc_tc_peek 12 = .ok (.invokevirtual 67, 3) := by decide +kernel
theorem d_tc_peek_15 : decode bc_tc_peek 15 = .ok (.goto 4, 3) := by decide +kernel
theorem d_tc_peek_18 : decode bc_tc_peek 18 = .ok (.iconst (-1), 1) := by decide +kernel
theorem d_tc_peek_19 : decode bc_tc_peek 19 = .ok (.ireturn, 1) := by decide +kernel
theorem d_tc_lineToServe_0 : decode bc_tc_lineToServe 0 = .ok (.aload_n 0, 1) := by decide +kernel
theorem d_tc_lineToServe_1 : decode bc_tc_lineToServe 1 = .ok (.getfield 48, 3) := by decide +kernel
theorem d_tc_lineToServe_4 : decode bc_tc_lineToServe 4 = .ok (.ifCond .eq 5, 3) := by decide +kernel
theorem d_tc_lineToServe_7 : decode bc_tc_lineToServe 7 = .ok (.iconst 0, 1) := by decide +kernel
theorem d_tc_lineToServe_8 : decode bc_tc_lineToServe 8 = .ok (.ireturn, 1) := by decide +kernel
theorem d_tc_lineToServe_9 : decode bc_tc_lineToServe 9 = .ok (.aload_n 0, 1) := by decide +kernel
theorem d_tc_lineToServe_10 : decode bc_tc_lineToServe 10 = .ok (.getfield 32, 3) := by decide +kernel
theorem d_tc_lineToServe_13 : decode bc_tc_lineToServe 13 = .ok (.iconst 1, 1) := by decide +kernel
theorem d_tc_lineToServe_14 : decode bc_tc_lineToServe 14 = .ok (.iaload, 1) := by decide +kernel
theorem d_tc_lineToServe_15 : decode bc_tc_lineToServe 15 = .ok (.iconst 1, 1) := by decide +kernel
theorem d_tc_lineToServe_16 : decode bc_tc_lineToServe 16 = .ok (.if_icmp .ne 17, 3) := by decide +kernel
theorem d_tc_lineToServe_19 : decode bc_tc_lineToServe 19 = .ok (.aload_n 0, 1) := by decide +kernel
theorem d_tc_lineToServe_20 : decode bc_tc_lineToServe 20 = .ok (.getfield 19, 3) := by decide +kernel
theorem d_tc_lineToServe_23 : decode bc_tc_lineToServe 23 = .ok (.bipush 64, 2) := by decide +kernel
theorem d_tc_lineToServe_25 : decode bc_tc_lineToServe 25 = .ok (.invokevirtual 103, 3) := by decide +kernel
theorem d_tc_lineToServe_28 : decode bc_tc_lineToServe 28 = .ok (.ifCond .ne 5, 3) := by decide +kernel
theorem d_tc_lineToServe_31 : decode bc_tc_lineToServe 31 = .ok (.iconst 1, 1) := by decide +kernel
theorem d_tc_lineToServe_32 : decode bc_tc_lineToServe 32 = .ok (.ireturn, 1) := by decide +kernel
theorem d_tc_lineToServe_33 : decode bc_tc_lineToServe 33 = .ok (.aload_n 0, 1) := by decide +kernel
theorem d_tc_lineToServe_34 : decode bc_tc_lineToServe 34 = .ok (.getfield 32, 3) := by decide +kernel
theorem d_tc_lineToServe_37 : decode bc_tc_lineToServe 37 = .ok (.iconst 2, 1) := by decide +kernel
theorem d_tc_lineToServe_38 : decode bc_tc_lineToServe 38 = .ok (.iaload, 1) := by decide +kernel
theorem d_tc_lineToServe_39 : decode bc_tc_lineToServe 39 = .ok (.iconst 1, 1) := by decide +kernel
theorem d_tc_lineToServe_40 : decode bc_tc_lineToServe 40 = .ok (.if_icmp .ne 17, 3) := by decide +kernel
theorem d_tc_lineToServe_43 : decode bc_tc_lineToServe 43 = .ok (.aload_n 0, 1) := by decide +kernel
theorem d_tc_lineToServe_44 : decode bc_tc_lineToServe 44 = .ok (.getfield 19, 3) := by decide +kernel
theorem d_tc_lineToServe_47 : decode bc_tc_lineToServe 47 = .ok (.bipush 16, 2) := by decide +kernel
theorem d_tc_lineToServe_49 : decode bc_tc_lineToServe 49 = .ok (.invokevirtual 103, 3) := by decide +kernel
theorem d_tc_lineToServe_52 : decode bc_tc_lineToServe 52 = .ok (.ifCond .ne 5, 3) := by decide +kernel
theorem d_tc_lineToServe_55 : decode bc_tc_lineToServe 55 = .ok (.iconst 2, 1) := by decide +kernel
theorem d_tc_lineToServe_56 : decode bc_tc_lineToServe 56 = .ok (.ireturn, 1) := by decide +kernel
theorem d_tc_lineToServe_57 : decode bc_tc_lineToServe 57 = .ok (.iconst (-1), 1) := by decide +kernel
theorem d_tc_lineToServe_58 : decode bc_tc_lineToServe 58 = .ok (.ireturn, 1) := by decide +kernel
theorem d_tc_pushWord_0 : decode bc_tc_pushWord 0 = .ok (.aload_n 0, 1) := by decide +kernel
theorem d_tc_pushWord_1 : decode bc_tc_pushWord 1 = .ok (.getfield 19, 3) := by decide +kernel
theorem d_tc_pushWord_4 : decode bc_tc_pushWord 4 = .ok (.iload_n 1, 1) := by decide +kernel
theorem d_tc_pushWord_5 : decode bc_tc_pushWord 5 = .ok (.aload_n 0, 1) := by decide +kernel
theorem d_tc_pushWord_6 : decode bc_tc_pushWord 6 = .ok (.getfield 19, 3) := by decide +kernel
theorem d_tc_pushWord_9 : decode bc_tc_pushWord 9 = .ok (.iload_n 1, 1) := by decide +kernel
theorem d_tc_pushWord_10 : decode bc_tc_pushWord 10 = .ok (.invokevirtual 82, 3) := by decide +kernel
theorem d_tc_pushWord_13 : decode bc_tc_pushWord 13 = .ok (.iconst 2, 1) := by decide +kernel
theorem d_tc_pushWord_14 : decode bc_tc_pushWord 14 = .ok (.isub, 1) := by decide +kernel
theorem d_tc_pushWord_15 : decode bc_tc_pushWord 15 = .ok (.invokevirtual 36, 3) := by decide +kernel
theorem d_tc_pushWord_18 : decode bc_tc_pushWord 18 = .ok (.aload_n 0, 1) := by decide +kernel
theorem d_tc_pushWord_19 : decode bc_tc_pushWord 19 = .ok (.getfield 10, 3) := by decide +kernel
theorem d_tc_pushWord_22 : decode bc_tc_pushWord 22 = .ok (.aload_n 0, 1) := by decide +kernel
theorem d_tc_pushWord_23 : decode bc_tc_pushWord 23 = .ok (.getfield 19, 3) := by decide +kernel
theorem d_tc_pushWord_26 : decode bc_tc_pushWord 26 = .ok (.iload_n 1, 1) := by decide +kernel
theorem d_tc_pushWord_27 : decode bc_tc_pushWord 27 = .ok (.invokevirtual 82, 3) := by decide +kernel
theorem d_tc_pushWord_30 : decode bc_tc_pushWord 30 = .ok (.iload_n 2, 1) := by decide +kernel
theorem d_tc_pushWord_31 : decode bc_tc_pushWord 31 = .ok (.invokevirtual 235, 3) := by decide +kernel
theorem d_tc_pushWord_34 : decode bc_tc_pushWord 34 = .ok (.return_, 1) := by decide +kernel
theorem d_tc_otherStack_0 : decode bc_tc_otherStack 0 = .ok (.iload_n 0, 1) := by decide +kernel
theorem d_tc_otherStack_1 : decode bc_tc_otherStack 1 = .ok (.iconst 5, 1) := by decide +kernel
theorem d_tc_otherStack_2 : decode bc_tc_otherStack 2 = .ok (.if_icmp .ne 7, 3) := by decide +kernel
theorem d_tc_otherStack_5 : decode bc_tc_otherStack 5 = .ok (.iconst 4, 1) := by decide +kernel
theorem d_tc_otherStack_6 : decode bc_tc_otherStack 6 = .ok (.goto 4, 3) := by decide +kernel
theorem d_tc_otherStack_9 : decode bc_tc_otherStack 9 = .ok (.iconst 5, 1) := by decide +kernel
theorem d_tc_otherStack_10 : decode bc_tc_otherStack 10 = .ok (.ireturn, 1) := by decide +kernel
theorem d_tc_pushByte_0 : decode bc_tc_pushByte 0 = .ok (.aload_n 0, 1) := by decide +kernel
theorem d_tc_pushByte_1 : decode bc_tc_pushByte 1 = .ok (.getfield 19, 3) := by decide +kernel
theorem d_tc_pushByte_4 : decode bc_tc_pushByte 4 = .ok (.iload_n 1, 1) := by decide +kernel
theorem d_tc_pushByte_5 : decode bc_tc_pushByte 5 = .ok (.aload_n 0, 1) := by decide +kernel
theorem d_tc_pushByte_6 : decode bc_tc_pushByte 6 = .ok (.getfield 19, 3) := by decide +kernel
theorem d_tc_pushByte_9 : decode bc_tc_pushByte 9 = .ok (.iload_n 1, 1) := by decide +kernel
theorem d_tc_pushByte_10 : decode bc_tc_pushByte 10 = .ok (.invokevirtual 82, 3) := by decide +kernel
theorem d_tc_pushByte_13 : decode bc_tc_pushByte 13 = .ok (.iconst 1, 1) := by decide +kernel
theorem d_tc_pushByte_14 : decode bc_tc_pushByte 14 = .ok (.isub, 1) := by decide +kernel
theorem d_tc_pushByte_15 : decode bc_tc_pushByte 15 = .ok (.invokevirtual 36, 3) := by decide +kernel
theorem d_tc_pushByte_18 : decode bc_tc_pushByte 18 = .ok (.aload_n 0, 1) := by decide +kernel
theorem d_tc_pushByte_19 : decode bc_tc_pushByte 19 = .ok (.getfield 10, 3) := by decide +kernel
theorem d_tc_pushByte_22 : decode bc_tc_pushByte 22 = .ok (.aload_n 0, 1) := by decide +kernel
theorem d_tc_pushByte_23 : decode bc_tc_pushByte 23 = .ok (.getfield 19, 3) := by decide +kernel
theorem d_tc_pushByte_26 : decode bc_tc_pushByte 26 = .ok (.iload_n 1, 1) := by decide +kernel
theorem d_tc_pushByte_27 : decode bc_tc_pushByte 27 = .ok (.invokevirtual 82, 3) := by decide +kernel
theorem d_tc_pushByte_30 : decode bc_tc_pushByte 30 = .ok (.iload_n 2, 1) := by decide +kernel
theorem d_tc_pushByte_31 : decode bc_tc_pushByte 31 = .ok (.invokevirtual 64, 3) := by decide +kernel
theorem d_tc_pushByte_34 : decode bc_tc_pushByte 34 = .ok (.return_, 1) := by decide +kernel
theorem d_tc_pushRegisters_0 : decode bc_tc_pushRegisters 0 = .ok (.iload_n 2, 1) := by decide +kernel
theorem d_tc_pushRegisters_1 : decode bc_tc_pushRegisters 1 = .ok (.sipush 128, 3) := by decide +kernel
theorem d_tc_pushRegisters_4 : decode bc_tc_pushRegisters 4 = .ok (.iand, 1) := by decide +kernel
theorem d_tc_pushRegisters_5 : decode bc_tc_pushRegisters 5 = .ok (.ifCond .eq 17, 3) := by decide +kernel
theorem d_tc_pushRegisters_8 : decode bc_tc_pushRegisters 8 = .ok (.aload_n 0, 1) := by decide +kernel
theorem d_tc_pushRegisters_9 : decode bc_tc_pushRegisters 9 = .ok (.iload_n 1, 1) := by decide +kernel
theorem d_tc_pushRegisters_10 : decode bc_tc_pushRegisters 10 = .ok (.aload_n 0, 1) := by decide +kernel
theorem d_tc_pushRegisters_11 : decode bc_tc_pushRegisters 11 = .ok (.getfield 19, 3) := by decide +kernel
theorem d_tc_pushRegisters_14 : decode bc_tc_pushRegisters 14 = .ok (.bipush 6, 2) := by decide +kernel
theorem d_tc_pushRegisters_16 : decode bc_tc_pushRegisters 16 = .ok (.invokevirtual 82, 3) := by decide +kernel
theorem d_tc_pushRegisters_19 : decode bc_tc_pushRegisters 19 = .ok (.invokevirtual 209, 3) := by decide +kernel
theorem d_tc_pushRegisters_22 : decode bc_tc_pushRegisters 22 = .ok (.iload_n 2, 1) := by decide +kernel
theorem d_tc_pushRegisters_23 : decode bc_tc_pushRegisters 23 = .ok (.bipush 64, 2) := by decide +kernel
theorem d_tc_pushRegisters_25 : decode bc_tc_pushRegisters 25 = .ok (.iand, 1) := by decide +kernel
theorem d_tc_pushRegisters_26 : decode bc_tc_pushRegisters 26 = .ok (.ifCond .eq 19, 3) := by decide +kernel
theorem d_tc_pushRegisters_29 : decode bc_tc_pushRegisters 29 = .ok (.aload_n 0, 1) := by decide +kernel
theorem d_tc_pushRegisters_30 : decode bc_tc_pushRegisters 30 = .ok (.iload_n 1, 1) := by decide +kernel
theorem d_tc_pushRegisters_31 : decode bc_tc_pushRegisters 31 = .ok (.aload_n 0, 1) := by decide +kernel
theorem d_tc_pushRegisters_32 : decode bc_tc_pushRegisters 32 = .ok (.getfield 19, 3) := by decide +kernel
theorem d_tc_pushRegisters_35 : decode bc_tc_pushRegisters 35 = .ok (.iload_n 1, 1) := by decide +kernel
theorem d_tc_pushRegisters_36 : decode bc_tc_pushRegisters 36 = .ok (.invokestatic 245, 3) := by decide +kernel
theorem d_tc_pushRegisters_39 : decode bc_tc_pushRegisters 39 = .ok (.invokevirtual 82, 3) := by decide +kernel
theorem d_tc_pushRegisters_42 : decode bc_tc_pushRegisters 42 = .ok (.invokevirtual 209, 3) := by decide +kernel
theorem d_tc_pushRegisters_45 : decode bc_tc_pushRegisters 45 = .ok (.iload_n 2, 1) := by decide +kernel
theorem d_tc_pushRegisters_46 : decode bc_tc_pushRegisters 46 = .ok (.bipush 32, 2) := by decide +kernel
theorem d_tc_pushRegisters_48 : decode bc_tc_pushRegisters 48 = .ok (.iand, 1) := by decide +kernel
theorem d_tc_pushRegisters_49 : decode bc_tc_pushRegisters 49 = .ok (.ifCond .eq 16, 3) := by decide +kernel
theorem d_tc_pushRegisters_52 : decode bc_tc_pushRegisters 52 = .ok (.aload_n 0, 1) := by decide +kernel
theorem d_tc_pushRegisters_53 : decode bc_tc_pushRegisters 53 = .ok (.iload_n 1, 1) := by decide +kernel
theorem d_tc_pushRegisters_54 : decode bc_tc_pushRegisters 54 = .ok (.aload_n 0, 1) := by decide +kernel
theorem d_tc_pushRegisters_55 : decode bc_tc_pushRegisters 55 = .ok (.getfield 19, 3) := by decide +kernel
theorem d_tc_pushRegisters_58 : decode bc_tc_pushRegisters 58 = .ok (.iconst 3, 1) := by decide +kernel
theorem d_tc_pushRegisters_59 : decode bc_tc_pushRegisters 59 = .ok (.invokevirtual 82, 3) := by decide +kernel
theorem d_tc_pushRegisters_62 : decode bc_tc_pushRegisters 62 = .ok (.invokevirtual 209, 3) := by decide +kernel
theorem d_tc_pushRegisters_65 : decode bc_tc_pushRegisters 65 = .ok (.iload_n 2, 1) := by decide +kernel
theorem d_tc_pushRegisters_66 : decode bc_tc_pushRegisters 66 = .ok (.bipush 16, 2) := by decide +kernel
theorem d_tc_pushRegisters_68 : decode bc_tc_pushRegisters 68 = .ok (.iand, 1) := by decide +kernel
theorem d_tc_pushRegisters_69 : decode bc_tc_pushRegisters 69 = .ok (.ifCond .eq 16, 3) := by decide +kernel
theorem d_tc_pushRegisters_72 : decode bc_tc_pushRegisters 72 = .ok (.aload_n 0, 1) := by decide +kernel
theorem d_tc_pushRegisters_73 : decode bc_tc_pushRegisters 73 = .ok (.iload_n 1, 1) := by decide +kernel
theorem d_tc_pushRegisters_74 : decode bc_tc_pushRegisters 74 = .ok (.aload_n 0, 1) := by decide +kernel
theorem d_tc_pushRegisters_75 : decode bc_tc_pushRegisters 75 = .ok (.getfield 19, 3) := by decide +kernel
theorem d_tc_pushRegisters_78 : decode bc_tc_pushRegisters 78 = .ok (.iconst 2, 1) := by decide +kernel
theorem d_tc_pushRegisters_79 : decode bc_tc_pushRegisters 79 = .ok (.invokevirtual 82, 3) := by decide +kernel
theorem d_tc_pushRegisters_82 : decode bc_tc_pushRegisters 82 = .ok (.invokevirtual 209, 3) := by decide +kernel
theorem d_tc_pushRegisters_85 : decode bc_tc_pushRegisters 85 = .ok (.iload_n 2, 1) := by decide +kernel
theorem d_tc_pushRegisters_86 : decode bc_tc_pushRegisters 86 = .ok (.bipush 8, 2) := by decide +kernel
theorem d_tc_pushRegisters_88 : decode bc_tc_pushRegisters 88 = .ok (.iand, 1) := by decide +kernel
theorem d_tc_pushRegisters_89 : decode bc_tc_pushRegisters 89 = .ok (.ifCond .eq 17, 3) := by decide +kernel
theorem d_tc_pushRegisters_92 : decode bc_tc_pushRegisters 92 = .ok (.aload_n 0, 1) := by decide +kernel
theorem d_tc_pushRegisters_93 : decode bc_tc_pushRegisters 93 = .ok (.iload_n 1, 1) := by decide +kernel
theorem d_tc_pushRegisters_94 : decode bc_tc_pushRegisters 94 = .ok (.aload_n 0, 1) := by decide +kernel
theorem d_tc_pushRegisters_95 : decode bc_tc_pushRegisters 95 = .ok (.getfield 19, 3) := by decide +kernel
theorem d_tc_pushRegisters_98 : decode bc_tc_pushRegisters 98 = .ok (.bipush 7, 2) := by decide +kernel
theorem d_tc_pushRegisters_100 : decode bc_tc_pushRegisters 100 = .ok (.invokevirtual 82, 3) := by decide +kernel
theorem d_tc_pushRegisters_103 : decode bc_tc_pushRegisters 103 = .ok (.invokevirtual 248, 3) := by decide +kernel
theorem d_tc_pushRegisters_106 : decode bc_tc_pushRegisters 106 = .ok (.iload_n 2, 1) := by decide +kernel
theorem d_tc_pushRegisters_107 : decode bc_tc_pushRegisters 107 = .ok (.iconst 4, 1) := by decide +kernel
theorem d_tc_pushRegisters_108 : decode bc_tc_pushRegisters 108 = .ok (.iand, 1) := by decide +kernel
theorem d_tc_pushRegisters_109 : decode bc_tc_pushRegisters 109 = .ok (.ifCond .eq 16, 3) := by decide +kernel
theorem d_tc_pushRegisters_112 : decode bc_tc_pushRegisters 112 = .ok (.aload_n 0, 1) := by decide +kernel
theorem d_tc_pushRegisters_113 : decode bc_tc_pushRegisters 113 = .ok (.iload_n 1, 1) := by decide +kernel
theorem d_tc_pushRegisters_114 : decode bc_tc_pushRegisters 114 = .ok (.aload_n 0, 1) := by decide +kernel
theorem d_tc_pushRegisters_115 : decode bc_tc_pushRegisters 115 = .ok (.getfield 19, 3) := by decide +kernel
theorem d_tc_pushRegisters_118 : decode bc_tc_pushRegisters 118 = .ok (.iconst 1, 1) := by decide +kernel
theorem d_tc_pushRegisters_119 : decode bc_tc_pushRegisters 119 = .ok (.invokevirtual 82, 3) := by decide +kernel
theorem d_tc_pushRegisters_122 : decode bc_tc_pushRegisters 122 = .ok (.invokevirtual 248, 3) := by decide +kernel
theorem d_tc_pushRegisters_125 : decode bc_tc_pushRegisters 125 = .ok (.iload_n 2, 1) := by decide +kernel
theorem d_tc_pushRegisters_126 : decode bc_tc_pushRegisters 126 = .ok (.iconst 2, 1) := by decide +kernel
theorem d_tc_pushRegisters_127 : decode bc_tc_pushRegisters 127 = .ok (.iand, 1) := by decide +kernel
theorem d_tc_pushRegisters_128 : decode bc_tc_pushRegisters 128 = .ok (.ifCond .eq 16, 3) := by decide +kernel
theorem d_tc_pushRegisters_131 : decode bc_tc_pushRegisters 131 = .ok (.aload_n 0, 1) := by decide +kernel
theorem d_tc_pushRegisters_132 : decode bc_tc_pushRegisters 132 = .ok (.iload_n 1, 1) := by decide +kernel
theorem d_tc_pushRegisters_133 : decode bc_tc_pushRegisters 133 = .ok (.aload_n 0, 1) := by decide +kernel
theorem d_tc_pushRegisters_134 : decode bc_tc_pushRegisters 134 = .ok (.getfield 19, 3) := by decide +kernel
theorem d_tc_pushRegisters_137 : decode bc_tc_pushRegisters 137 = .ok (.iconst 0, 1) := by decide +kernel
theorem d_tc_pushRegisters_138 : decode bc_tc_pushRegisters 138 = .ok (.invokevirtual 82, 3) := by decide +kernel
theorem d_tc_pushRegisters_141 : decode bc_tc_pushRegisters 141 = .ok (.invokevirtual 248, 3) := by decide +kernel
theorem d_tc_pushRegisters_144 : decode bc_tc_pushRegisters 144 = .ok (.iload_n 2, 1) := by decide +kernel
theorem d_tc_pushRegisters_145 : decode bc_tc_pushRegisters 145 = .ok (.iconst 1, 1) := by decide +kernel
theorem d_tc_pushRegisters_146 : decode bc_tc_pushRegisters 146 = .ok (.iand, 1) := by decide +kernel
theorem d_tc_pushRegisters_147 : decode bc_tc_pushRegisters 147 = .ok (.ifCond .eq 17, 3) := by decide +kernel
theorem d_tc_pushRegisters_150 : decode bc_tc_pushRegisters 150 = .ok (.aload_n 0, 1) := by decide +kernel
theorem d_tc_pushRegisters_151 : decode bc_tc_pushRegisters 151 = .ok (.iload_n 1, 1) := by decide +kernel
theorem d_tc_pushRegisters_152 : decode bc_tc_pushRegisters 152 = .ok (.aload_n 0, 1) := by decide +kernel
theorem d_tc_pushRegisters_153 : decode bc_tc_pushRegisters 153 = .ok (.getfield 19, 3) := by decide +kernel
theorem d_tc_pushRegisters_156 : decode bc_tc_pushRegisters 156 = .ok (.bipush 8, 2) := by decide +kernel
theorem d_tc_pushRegisters_158 : decode bc_tc_pushRegisters 158 = .ok (.invokevirtual 82, 3) := by decide +kernel
theorem d_tc_pushRegisters_161 : decode bc_tc_pushRegisters 161 = .ok (.invokevirtual 248, 3) := by decide +kernel
theorem d_tc_pushRegisters_164 : decode bc_tc_pushRegisters 164 = .ok (.return_, 1) := by decide +kernel
theorem d_tc_serve_0 : decode bc_tc_serve 0 = .ok (.aload_n 0, 1) := by decide +kernel
theorem d_tc_serve_1 : decode bc_tc_serve 1 = .ok (.iconst 0, 1) := by decide +kernel
theorem d_tc_serve_2 : decode bc_tc_serve 2 = .ok (.putfield 48, 3) := by decide +kernel
theorem d_tc_serve_5 : decode bc_tc_serve 5 = .ok (.aload_n 0, 1) := by decide +kernel
theorem d_tc_serve_6 : decode bc_tc_serve 6 = .ok (.getfield 51, 3) := by decide +kernel
theorem d_tc_serve_9 : decode bc_tc_serve 9 = .ok (.iconst 2, 1) := by decide +kernel
theorem d_tc_serve_10 : decode bc_tc_serve 10 = .ok (.if_icmp .eq 42, 3) := by decide +kernel
theorem d_tc_serve_13 : decode bc_tc_serve 13 = .ok (.aload_n 0, 1) := by decide +kernel
theorem d_tc_serve_14 : decode bc_tc_serve 14 = .ok (.getfield 19, 3) := by decide +kernel
theorem d_tc_serve_17 : decode bc_tc_serve 17 = .ok (.sipush 128, 3) := by decide +kernel
theorem d_tc_serve_20 : decode bc_tc_serve 20 = .ok (.iload_n 1, 1) := by decide +kernel
theorem d_tc_serve_21 : decode bc_tc_serve 21 = .ok (.iconst 1, 1) := by decide +kernel
theorem d_tc_serve_22 : decode bc_tc_serve 22 = .ok (.if_icmp .eq 7, 3) := by decide +kernel
theorem d_tc_serve_25 : decode bc_tc_serve 25 = .ok (.iconst 1, 1) := by decide +kernel
theorem d_tc_serve_26 : decode bc_tc_serve 26 = .ok (.goto 4, 3) := by decide +kernel
theorem d_tc_serve_29 : decode bc_tc_serve 29 = .ok (.iconst 0, 1) := by decide +kernel
theorem d_tc_serve_30 : decode bc_tc_serve 30 = .ok (.invokevirtual 40, 3) := by decide +kernel
theorem d_tc_serve_33 : decode bc_tc_serve 33 = .ok (.aload_n 0, 1) := by decide +kernel
theorem d_tc_serve_34 : decode bc_tc_serve 34 = .ok (.iconst 5, 1) := by decide +kernel
theorem d_tc_serve_35 : decode bc_tc_serve 35 = .ok (.iload_n 1, 1) := by decide +kernel
theorem d_tc_serve_36 : decode bc_tc_serve 36 = .ok (.iconst 1, 1) := by decide +kernel
theorem d_tc_serve_37 : decode bc_tc_serve 37 = .ok (.if_icmp .ne 9, 3) := by decide +kernel
theorem d_tc_serve_40 : decode bc_tc_serve 40 = .ok (.sipush 129, 3) := by decide +kernel
theorem d_tc_serve_43 : decode bc_tc_serve 43 = .ok (.goto 6, 3) := by decide +kernel
theorem d_tc_serve_46 : decode bc_tc_serve 46 = .ok (.sipush 255, 3) := by decide +kernel
theorem d_tc_serve_49 : decode bc_tc_serve 49 = .ok (.invokevirtual 104, 3) := by decide +kernel
theorem d_tc_serve_52 : decode bc_tc_serve 52 = .ok (.aload_n 0, 1) := by decide +kernel
theorem d_tc_serve_53 : decode bc_tc_serve 53 = .ok (.getfield 19, 3) := by decide +kernel
theorem d_tc_serve_56 : decode bc_tc_serve 56 = .ok (.iload_n 1, 1) := by decide +kernel
theorem d_tc_serve_57 : decode bc_tc_serve 57 = .ok (.iconst 2, 1) := by decide +kernel
theorem d_tc_serve_58 : decode bc_tc_serve 58 = .ok (.if_icmp .ne 8, 3) := by decide +kernel
theorem d_tc_serve_61 : decode bc_tc_serve 61 = .ok (.bipush 16, 2) := by decide +kernel
theorem d_tc_serve_63 : decode bc_tc_serve 63 = .ok (.goto 5, 3) := by decide +kernel
theorem d_tc_serve_66 : decode bc_tc_serve 66 = .ok (.bipush 80, 2) := by decide +kernel
theorem d_tc_serve_68 : decode bc_tc_serve 68 = .ok (.iconst 1, 1) := by decide +kernel
theorem d_tc_serve_69 : decode bc_tc_serve 69 = .ok (.invokevirtual 40, 3) := by decide +kernel
theorem d_tc_serve_72 : decode bc_tc_serve 72 = .ok (.aload_n 0, 1) := by decide +kernel
theorem d_tc_serve_73 : decode bc_tc_serve 73 = .ok (.getfield 19, 3) := by decide +kernel
theorem d_tc_serve_76 : decode bc_tc_serve 76 = .ok (.bipush 6, 2) := by decide +kernel
theorem d_tc_serve_78 : decode bc_tc_serve 78 = .ok (.aload_n 0, 1) := by decide +kernel
theorem d_tc_serve_79 : decode bc_tc_serve 79 = .ok (.getfield 10, 3) := by decide +kernel
theorem d_tc_serve_82 : decode bc_tc_serve 82 = .ok (.getstatic 107, 3) := by decide +kernel
theorem d_tc_serve_85 : decode bc_tc_serve 85 = .ok (.iload_n 1, 1) := by decide +kernel
theorem d_tc_serve_86 : decode bc_tc_serve 86 = .ok (.iaload, 1) := by decide +kernel
theorem d_tc_serve_87 : decode bc_tc_serve 87 = .ok (.invokevirtual 56, 3) := by decide +kernel
theorem d_tc_serve_90 : decode bc_tc_serve 90 = .ok (.invokevirtual 36, 3) := by decide +kernel
theorem d_tc_serve_93 : decode bc_tc_serve 93 = .ok (.aload_n 0, 1) := by decide +kernel
theorem d_tc_serve_94 : decode bc_tc_serve 94 = .ok (.iconst 0, 1) := by decide +kernel
theorem d_tc_serve_95 : decode bc_tc_serve 95 = .ok (.putfield 51, 3) := by decide +kernel
theorem d_tc_serve_98 : decode bc_tc_serve 98 = .ok (.return_, 1) := by decide +kernel
theorem d_tc_staysWaiting_0 : decode bc_tc_staysWaiting 0 = .ok (.aload_n 0, 1) := by decide +kernel
theorem d_tc_staysWaiting_1 : decode bc_tc_staysWaiting 1 = .ok (.getfield 51, 3) := by decide +kernel
theorem d_tc_staysWaiting_4 : decode bc_tc_staysWaiting 4 = .ok (.iconst 1, 1) := by decide +kernel
theorem d_tc_staysWaiting_5 : decode bc_tc_staysWaiting 5 = .ok (.if_icmp .ne 27, 3) := by decide +kernel
theorem d_tc_staysWaiting_8 : decode bc_tc_staysWaiting 8 = .ok (.aload_n 0, 1) := by decide +kernel
theorem d_tc_staysWaiting_9 : decode bc_tc_staysWaiting 9 = .ok (.getfield 32, 3) := by decide +kernel
theorem d_tc_staysWaiting_12 : decode bc_tc_staysWaiting 12 = .ok (.iconst 1, 1) := by decide +kernel
theorem d_tc_staysWaiting_13 : decode bc_tc_staysWaiting 13 = .ok (.iaload, 1) := by decide +kernel
theorem d_tc_staysWaiting_14 : decode bc_tc_staysWaiting 14 = .ok (.ifCond .ne 16, 3) := by decide +kernel
theorem d_tc_staysWaiting_17 : decode bc_tc_staysWaiting 17 = .ok (.aload_n 0, 1) := by decide +kernel
theorem d_tc_staysWaiting_18 : decode bc_tc_staysWaiting 18 = .ok (.getfield 32, 3) := by decide +kernel
theorem d_tc_staysWaiting_21 : decode bc_tc_staysWaiting 21 = .ok (.iconst 2, 1) := by decide +kernel
theorem d_tc_staysWaiting_22 : decode bc_tc_staysWaiting 22 = .ok (.iaload, 1) := by decide +kernel
theorem d_tc_staysWaiting_23 : decode bc_tc_staysWaiting 23 = .ok (.ifCond .ne 7, 3) := by decide +kernel
theorem d_tc_staysWaiting_26 : decode bc_tc_staysWaiting 26 = .ok (.iconst 1, 1) := by decide +kernel
theorem d_tc_staysWaiting_27 : decode bc_tc_staysWaiting 27 = .ok (.goto 4, 3) := by decide +kernel
theorem d_tc_staysWaiting_30 : decode bc_tc_staysWaiting 30 = .ok (.iconst 0, 1) := by decide +kernel
theorem d_tc_staysWaiting_31 : decode bc_tc_staysWaiting 31 = .ok (.ireturn, 1) := by decide +kernel
theorem d_tc_staysWaiting_32 : decode bc_tc_staysWaiting 32 = .ok (.aload_n 0, 1) := by decide +kernel
theorem d_tc_staysWaiting_33 : decode bc_tc_staysWaiting 33 = .ok (.getfield 51, 3) := by decide +kernel
theorem d_tc_staysWaiting_36 : decode bc_tc_staysWaiting 36 = .ok (.iconst 2, 1) := by decide +kernel
theorem d_tc_staysWaiting_37 : decode bc_tc_staysWaiting 37 = .ok (.if_icmp .ne 7, 3) := by decide +kernel
theorem d_tc_staysWaiting_40 : decode bc_tc_staysWaiting 40 = .ok (.iconst 1, 1) := by decide +kernel
theorem d_tc_staysWaiting_41 : decode bc_tc_staysWaiting 41 = .ok (.goto 4, 3) := by decide +kernel
theorem d_tc_staysWaiting_44 : decode bc_tc_staysWaiting 44 = .ok (.iconst 0, 1) := by decide +kernel
theorem d_tc_staysWaiting_45 : decode bc_tc_staysWaiting 45 = .ok (.ireturn, 1) := by decide +kernel
theorem d_tc_fetchByte_0 : decode bc_tc_fetchByte 0 = .ok (.aload_n 0, 1) := by decide +kernel
theorem d_tc_fetchByte_1 : decode bc_tc_fetchByte 1 = .ok (.getfield 19, 3) := by decide +kernel
theorem d_tc_fetchByte_4 : decode bc_tc_fetchByte 4 = .ok (.bipush 6, 2) := by decide +kernel
theorem d_tc_fetchByte_6 : decode bc_tc_fetchByte 6 = .ok (.invokevirtual 82, 3) := by decide +kernel
theorem d_tc_fetchByte_9 : decode bc_tc_fetchByte 9 = .ok (.istore_n 1, 1) := by decide +kernel
theorem d_tc_fetchByte_10 : decode bc_tc_fetchByte 10 = .ok (.aload_n 0, 1) := by decide +kernel
theorem d_tc_fetchByte_11 : decode bc_tc_fetchByte 11 = .ok (.getfield 19, 3) := by decide +kernel
theorem d_tc_fetchByte_14 : decode bc_tc_fetchByte 14 = .ok (.bipush 6, 2) := by decide +kernel
theorem d_tc_fetchByte_16 : decode bc_tc_fetchByte 16 = .ok (.iload_n 1, 1) := by decide +kernel
theorem d_tc_fetchByte_17 : decode bc_tc_fetchByte 17 = .ok (.iconst 1, 1) := by decide +kernel
theorem d_tc_fetchByte_18 : decode bc_tc_fetchByte 18 = .ok (.iadd, 1) := by decide +kernel
theorem d_tc_fetchByte_19 : decode bc_tc_fetchByte 19 = .ok (.invokevirtual 36, 3) := by decide +kernel
theorem d_tc_fetchByte_22 : decode bc_tc_fetchByte 22 = .ok (.aload_n 0, 1) := by decide +kernel
theorem d_tc_fetchByte_23 : decode bc_tc_fetchByte 23 = .ok (.getfield 10, 3) := by decide +kernel
theorem d_tc_fetchByte_26 : decode bc_tc_fetchByte 26 = .ok (.iload_n 1, 1) := by decide +kernel
theorem d_tc_fetchByte_27 : decode bc_tc_fetchByte 27 = .ok (.invokevirtual 67, 3) := by decide +kernel
theorem d_tc_fetchByte_30 : decode bc_tc_fetchByte 30 = .ok (.ireturn, 1) := by decide +kernel
theorem d_tc_fetchCode_0 : decode bc_tc_fetchCode 0 = .ok (.aload_n 0, 1) := by decide +kernel
theorem d_tc_fetchCode_1 : decode bc_tc_fetchCode 1 = .ok (.invokevirtual 113, 3) := by decide +kernel
theorem d_tc_fetchCode_4 : decode bc_tc_fetchCode 4 = .ok (.istore_n 1, 1) := by decide +kernel
theorem d_tc_fetchCode_5 : decode bc_tc_fetchCode 5 = .ok (.iload_n 1, 1) := by decide +kernel
theorem d_tc_fetchCode_6 : decode bc_tc_fetchCode 6 = .ok (.bipush 16, 2) := by decide +kernel
theorem d_tc_fetchCode_8 : decode bc_tc_fetchCode 8 = .ok (.if_icmp .ne 12, 3) := by decide +kernel
theorem d_tc_fetchCode_11 : decode bc_tc_fetchCode 11 = .ok (.sipush 256, 3) := by decide +kernel
theorem d_tc_fetchCode_14 : decode bc_tc_fetchCode 14 = .ok (.aload_n 0, 1) := by decide +kernel
theorem d_tc_fetchCode_15 : decode bc_tc_fetchCode 15 = .ok (.invokevirtual 113, 3) := by decide +kernel
theorem d_tc_fetchCode_18 : decode bc_tc_fetchCode 18 = .ok (.ior, 1) := by decide +kernel
theorem d_tc_fetchCode_19 : decode bc_tc_fetchCode 19 = .ok (.ireturn, 1) := by decide +kernel
theorem d_tc_fetchCode_20 : decode bc_tc_fetchCode 20 = .ok (.iload_n 1, 1) := by decide +kernel
theorem d_tc_fetchCode_21 : decode bc_tc_fetchCode 21 = .ok (.bipush 17, 2) := by decide +kernel
theorem d_tc_fetchCode_23 : decode bc_tc_fetchCode 23 = .ok (.if_icmp .ne 12, 3) := by decide +kernel
theorem d_tc_fetchCode_26 : decode bc_tc_fetchCode 26 = .ok (.sipush 512, 3) := by decide +kernel
theorem d_tc_fetchCode_29 : decode bc_tc_fetchCode 29 = .ok (.aload_n 0, 1) := by decide +kernel
theorem d_tc_fetchCode_30 : decode bc_tc_fetchCode 30 = .ok (.invokevirtual 113, 3) := by decide +kernel
theorem d_tc_fetchCode_33 : decode bc_tc_fetchCode 33 = .ok (.ior, 1) := by decide +kernel
theorem d_tc_fetchCode_34 : decode bc_tc_fetchCode 34 = .ok (.ireturn, 1) := by decide +kernel
theorem d_tc_fetchCode_35 : decode bc_tc_fetchCode 35 = .ok (.iload_n 1, 1) := by decide +kernel
theorem d_tc_fetchCode_36 : decode bc_tc_fetchCode 36 = .ok (.ireturn, 1) := by decide +kernel
theorem d_tc_isIndexed_0 : decode bc_tc_isIndexed 0 = .ok (.iload_n 0, 1) := by decide +kernel
theorem d_tc_isIndexed_1 : decode bc_tc_isIndexed 1 = .ok (.iconst 4, 1) := by decide +kernel
theorem d_tc_isIndexed_2 : decode bc_tc_isIndexed 2 = .ok (.ishr, 1) := by decide +kernel
theorem d_tc_isIndexed_3 : decode bc_tc_isIndexed 3 = .ok (.bipush 15, 2) := by decide +kernel
theorem d_tc_isIndexed_5 : decode bc_tc_isIndexed 5 = .ok (.iand, 1) := by decide +kernel
theorem d_tc_isIndexed_6 : decode bc_tc_isIndexed 6 = .ok (.istore_n 1, 1) := by decide +kernel
theorem d_tc_isIndexed_7 : decode bc_tc_isIndexed 7 = .ok (.iload_n 1, 1) := by decide +kernel
theorem d_tc_isIndexed_8 : decode bc_tc_isIndexed 8 = .ok (.bipush 6, 2) := by decide +kernel
theorem d_tc_isIndexed_10 : decode bc_tc_isIndexed 10 = .ok (.if_icmp .eq 27, 3) := by decide +kernel
theorem d_tc_isIndexed_13 : decode bc_tc_isIndexed 13 = .ok (.iload_n 1, 1) := by decide +kernel
theorem d_tc_isIndexed_14 : decode bc_tc_isIndexed 14 = .ok (.bipush 10, 2) := by decide +kernel
theorem d_tc_isIndexed_16 : decode bc_tc_isIndexed 16 = .ok (.if_icmp .eq 21, 3) := by decide +kernel
theorem d_tc_isIndexed_19 : decode bc_tc_isIndexed 19 = .ok (.iload_n 1, 1) := by decide +kernel
theorem d_tc_isIndexed_20 : decode bc_tc_isIndexed 20 = .ok (.bipush 14, 2) := by decide +kernel
theorem d_tc_isIndexed_22 : decode bc_tc_isIndexed 22 = .ok (.if_icmp .eq 15, 3) := by decide +kernel
theorem d_tc_isIndexed_25 : decode bc_tc_isIndexed 25 = .ok (.iload_n 0, 1) := by decide +kernel
theorem d_tc_isIndexed_26 : decode bc_tc_isIndexed 26 = .ok (.bipush 48, 2) := by decide +kernel
theorem d_tc_isIndexed_28 : decode bc_tc_isIndexed 28 = .ok (.if_icmp .lt 13, 3) := by decide +kernel
theorem d_tc_isIndexed_31 : decode bc_tc_isIndexed 31 = .ok (.iload_n 0, 1) := by decide +kernel
theorem d_tc_isIndexed_32 : decode bc_tc_isIndexed 32 = .ok (.bipush 51, 2) := by decide +kernel
theorem d_tc_isIndexed_34 : decode bc_tc_isIndexed 34 = .ok (.if_icmp .gt 7, 3) := by decide +kernel
theorem d_tc_isIndexed_37 : decode bc_tc_isIndexed 37 = .ok (.iconst 1, 1) := by decide +kernel
theorem d_tc_isIndexed_38 : decode bc_tc_isIndexed 38 = .ok (.goto 4, 3) := by decide +kernel
theorem d_tc_isIndexed_41 : decode bc_tc_isIndexed 41 = .ok (.iconst 0, 1) := by decide +kernel
theorem d_tc_isIndexed_42 : decode bc_tc_isIndexed 42 = .ok (.ireturn, 1) := by decide +kernel
theorem d_tc_isDefinedPostbyte_0 : decode bc_tc_isDefinedPostbyte 0 = .ok (.iload_n 0, 1) := by decide +kernel
theorem d_tc_isDefinedPostbyte_1 : decode bc_tc_isDefinedPostbyte 1 = .ok (.sipush 128, 3) := by decide +kernel
theorem d_tc_isDefinedPostbyte_4 : decode bc_tc_isDefinedPostbyte 4 = .ok (.if_icmp .lt 10, 3) := by decide +kernel
theorem d_tc_isDefinedPostbyte_7 : decode bc_tc_isDefinedPostbyte 7 = .ok (.iload_n 0, 1) := by decide +kernel
theorem d_tc_isDefinedPostbyte_8 : decode bc_tc_isDefinedPostbyte 8 = .ok (.sipush 159, 3) := by decide +kernel
theorem d_tc_isDefinedPostbyte_11 : decode bc_tc_isDefinedPostbyte 11 = .ok (.if_icmp .ne 5, 3) := by decide +kernel
theorem d_tc_isDefinedPostbyte_14 : decode bc_tc_isDefinedPostbyte 14 = .ok (.iconst 1, 1) := by decide +kernel
theorem d_tc_isDefinedPostbyte_15 : decode bc_tc_isDefinedPostbyte 15 = .ok (.ireturn, 1) := by decide +kernel
theorem d_tc_isDefinedPostbyte_16 : decode bc_tc_isDefinedPostbyte 16 = .ok (.iload_n 0, 1) := by decide +kernel
theorem d_tc_isDefinedPostbyte_17 : decode bc_tc_isDefinedPostbyte 17 = .ok (.bipush 16, 2) := by decide +kernel
theorem d_tc_isDefinedPostbyte_19 : decode bc_tc_isDefinedPostbyte 19 = .ok (.iand, 1) := by decide +kernel
theorem d_tc_isDefinedPostbyte_20 : decode bc_tc_isDefinedPostbyte 20 = .ok (.ifCond .ne 9, 3) := by decide +kernel
theorem d_tc_isDefinedPostbyte_23 : decode bc_tc_isDefinedPostbyte 23 = .ok (.sipush 15231, 3) := by decide +kernel
theorem d_tc_isDefinedPostbyte_26 : decode bc_tc_isDefinedPostbyte 26 = .ok (.goto 6, 3) := by decide +kernel
theorem d_tc_isDefinedPostbyte_29 : decode bc_tc_isDefinedPostbyte 29 = .ok (.sipush 15226, 3) := by decide +kernel
theorem d_tc_isDefinedPostbyte_32 : decode bc_tc_isDefinedPostbyte 32 = .ok (.istore_n 1, 1) := by decide +kernel
theorem d_tc_isDefinedPostbyte_33 : decode bc_tc_isDefinedPostbyte 33 = .ok (.iload_n 1, 1) := by decide +kernel
theorem d_tc_isDefinedPostbyte_34 : decode bc_tc_isDefinedPostbyte 34 = .ok (.iload_n 0, 1) := by decide +kernel
theorem d_tc_isDefinedPostbyte_35 : decode bc_tc_isDefinedPostbyte 35 = .ok (.bipush 15, 2) := by decide +kernel
theorem d_tc_isDefinedPostbyte_37 : decode bc_tc_isDefinedPostbyte 37 = .ok (.iand, 1) := by decide +kernel
theorem d_tc_isDefinedPostbyte_38 : decode bc_tc_isDefinedPostbyte 38 = .ok (.ishr, 1) := by decide +kernel
theorem d_tc_isDefinedPostbyte_39 : decode bc_tc_isDefinedPostbyte 39 = .ok (.iconst 1, 1) := by decide +kernel
theorem d_tc_isDefinedPostbyte_40 : decode bc_tc_isDefinedPostbyte 40 = .ok (.iand, 1) := by decide +kernel
theorem d_tc_isDefinedPostbyte_41 : decode bc_tc_isDefinedPostbyte 41 = .ok (.ifCond .eq 7, 3) := by decide +kernel
theorem d_tc_isDefinedPostbyte_44 : decode bc_tc_isDefinedPostbyte 44 = .ok (.iconst 1, 1) := by decide +kernel
theorem d_tc_isDefinedPostbyte_45 : decode bc_tc_isDefinedPostbyte 45 = .ok (.goto 4, 3) := by decide +kernel
theorem d_tc_isDefinedPostbyte_48 : decode bc_tc_isDefinedPostbyte 48 = .ok (.iconst 0, 1) := by decide +kernel
theorem d_tc_isDefinedPostbyte_49 : decode bc_tc_isDefinedPostbyte 49 = .ok (.ireturn, 1) := by decide +kernel
theorem d_tc_isDefinedPair_0 : decode bc_tc_isDefinedPair 0 = .ok (.iload_n 0, 1) := by decide +kernel
theorem d_tc_isDefinedPair_1 : decode bc_tc_isDefinedPair 1 = .ok (.bipush 8, 2) := by decide +kernel
theorem d_tc_isDefinedPair_3 : decode bc_tc_isDefinedPair 3 = .ok (.if_icmp .ge 7, 3) := by decide +kernel
theorem d_tc_isDefinedPair_6 : decode bc_tc_isDefinedPair 6 = .ok (.iconst 1, 1) := by decide +kernel
theorem d_tc_isDefinedPair_7 : decode bc_tc_isDefinedPair 7 = .ok (.goto 4, 3) := by decide +kernel
theorem d_tc_isDefinedPair_10 : decode bc_tc_isDefinedPair 10 = .ok (.iconst 0, 1) := by decide +kernel
theorem d_tc_isDefinedPair_11 : decode bc_tc_isDefinedPair 11 = .ok (.iload_n 1, 1) := by decide +kernel
theorem d_tc_isDefinedPair_12 : decode bc_tc_isDefinedPair 12 = .ok (.bipush 8, 2) := by decide +kernel
theorem d_tc_isDefinedPair_14 : decode bc_tc_isDefinedPair 14 = .ok (.if_icmp .ge 7, 3) := by decide +kernel
theorem d_tc_isDefinedPair_17 : decode bc_tc_isDefinedPair 17 = .ok (.iconst 1, 1) := by decide +kernel
theorem d_tc_isDefinedPair_18 : decode bc_tc_isDefinedPair 18 = .ok (.goto 4, 3) := by decide +kernel
theorem d_tc_isDefinedPair_21 : decode bc_tc_isDefinedPair 21 = .ok (.iconst 0, 1) := by decide +kernel
theorem d_tc_isDefinedPair_22 : decode bc_tc_isDefinedPair 22 = .ok (.if_icmp .ne 7, 3) := by decide +kernel
theorem d_tc_isDefinedPair_25 : decode bc_tc_isDefinedPair 25 = .ok (.iconst 1, 1) := by decide +kernel
theorem d_tc_isDefinedPair_26 : decode bc_tc_isDefinedPair 26 = .ok (.goto 4, 3) := by decide +kernel
theorem d_tc_isDefinedPair_29 : decode bc_tc_isDefinedPair 29 = .ok (.iconst 0, 1) := by decide +kernel
theorem d_tc_isDefinedPair_30 : decode bc_tc_isDefinedPair 30 = .ok (.istore_n 2, 1) := by decide +kernel
theorem d_tc_isDefinedPair_31 : decode bc_tc_isDefinedPair 31 = .ok (.iload_n 2, 1) := by decide +kernel
theorem d_tc_isDefinedPair_32 : decode bc_tc_isDefinedPair 32 = .ok (.ifCond .eq 25, 3) := by decide +kernel
theorem d_tc_isDefinedPair_35 : decode bc_tc_isDefinedPair 35 = .ok (.getstatic 129, 3) := by decide +kernel
theorem d_tc_isDefinedPair_38 : decode bc_tc_isDefinedPair 38 = .ok (.iload_n 0, 1) := by decide +kernel
theorem d_tc_isDefinedPair_39 : decode bc_tc_isDefinedPair 39 = .ok (.iaload, 1) := by decide +kernel
theorem d_tc_isDefinedPair_40 : decode bc_tc_isDefinedPair 40 = .ok (.iconst (-1), 1) := by decide +kernel
theorem d_tc_isDefinedPair_41 : decode bc_tc_isDefinedPair 41 = .ok (.if_icmp .eq 16, 3) := by decide +kernel
theorem d_tc_isDefinedPair_44 : decode bc_tc_isDefinedPair 44 = .ok (.getstatic 129, 3) := by decide +kernel
theorem d_tc_isDefinedPair_47 : decode bc_tc_isDefinedPair 47 = .ok (.iload_n 1, 1) := by decide +kernel
theorem d_tc_isDefinedPair_48 : decode bc_tc_isDefinedPair 48 = .ok (.iaload, 1) := by decide +kernel
theorem d_tc_isDefinedPair_49 : decode bc_tc_isDefinedPair 49 = .ok (.iconst (-1), 1) := by decide +kernel
theorem d_tc_isDefinedPair_50 : decode bc_tc_isDefinedPair 50 = .ok (.if_icmp .eq 7, 3) := by decide +kernel
theorem d_tc_isDefinedPair_53 : decode bc_tc_isDefinedPair 53 = .ok (.iconst 1, 1) := by decide +kernel
theorem d_tc_isDefinedPair_54 : decode bc_tc_isDefinedPair 54 = .ok (.goto 4, 3) := by decide +kernel
theorem d_tc_isDefinedPair_57 : decode bc_tc_isDefinedPair 57 = .ok (.iconst 0, 1) := by decide +kernel
theorem d_tc_isDefinedPair_58 : decode bc_tc_isDefinedPair 58 = .ok (.ireturn, 1) := by decide +kernel
theorem d_tc_isDefined_0 : decode bc_tc_isDefined 0 = .ok (.getstatic 116, 3) := by decide +kernel
theorem d_tc_isDefined_3 : decode bc_tc_isDefined 3 = .ok (.iload_n 1, 1) := by decide +kernel
theorem d_tc_isDefined_4 : decode bc_tc_isDefined 4 = .ok (.iconst 4, 1) := by decide +kernel
theorem d_tc_isDefined_5 : decode bc_tc_isDefined 5 = .ok (.ishr, 1) := by decide +kernel
theorem d_tc_isDefined_6 : decode bc_tc_isDefined 6 = .ok (.iaload, 1) := by decide +kernel
theorem d_tc_isDefined_7 : decode bc_tc_isDefined 7 = .ok (.iload_n 1, 1) := by decide +kernel
theorem d_tc_isDefined_8 : decode bc_tc_isDefined 8 = .ok (.bipush 15, 2) := by decide +kernel
theorem d_tc_isDefined_10 : decode bc_tc_isDefined 10 = .ok (.iand, 1) := by decide +kernel
theorem d_tc_isDefined_11 : decode bc_tc_isDefined 11 = .ok (.ishr, 1) := by decide +kernel
theorem d_tc_isDefined_12 : decode bc_tc_isDefined 12 = .ok (.iconst 1, 1) := by decide +kernel
theorem d_tc_isDefined_13 : decode bc_tc_isDefined 13 = .ok (.iand, 1) := by decide +kernel
theorem d_tc_isDefined_14 : decode bc_tc_isDefined 14 = .ok (.ifCond .ne 5, 3) := by decide +kernel
theorem d_tc_isDefined_17 : decode bc_tc_isDefined 17 = .ok (.iconst 0, 1) := by decide +kernel
theorem d_tc_isDefined_18 : decode bc_tc_isDefined 18 = .ok (.ireturn, 1) := by decide +kernel
theorem d_tc_isDefined_19 : decode bc_tc_isDefined 19 = .ok (.aload_n 0, 1) := by decide +kernel
theorem d_tc_isDefined_20 : decode bc_tc_isDefined 20 = .ok (.getfield 10, 3) := by decide +kernel
theorem d_tc_isDefined_23 : decode bc_tc_isDefined 23 = .ok (.aload_n 0, 1) := by decide +kernel
theorem d_tc_isDefined_24 : decode bc_tc_isDefined 24 = .ok (.getfield 19, 3) := by decide +kernel
theorem d_tc_isDefined_27 : decode bc_tc_isDefined 27 = .ok (.bipush 6, 2) := by decide +kernel
theorem d_tc_isDefined_29 : decode bc_tc_isDefined 29 = .ok (.invokevirtual 82, 3) := by decide +kernel
theorem d_tc_isDefined_32 : decode bc_tc_isDefined 32 = .ok (.invokevirtual 67, 3) := by decide +kernel
theorem d_tc_isDefined_35 : decode bc_tc_isDefined 35 = .ok (.istore_n 2, 1) := by decide +kernel
theorem d_tc_isDefined_36 : decode bc_tc_isDefined 36 = .ok (.iload_n 1, 1) := by decide +kernel
theorem d_tc_isDefined_37 : decode bc_tc_isDefined 37 = .ok (.invokestatic 119, 3) := by decide +kernel
theorem d_tc_isDefined_40 : decode bc_tc_isDefined 40 = .ok (.ifCond .eq 8, 3) := by decide +kernel
theorem d_tc_isDefined_43 : decode bc_tc_isDefined 43 = .ok (.iload_n 2, 1) := by decide +kernel
theorem d_tc_isDefined_44 : decode bc_tc_isDefined 44 = .ok (.invokestatic 122, 3) := by decide +kernel
theorem d_tc_isDefined_47 : decode bc_tc_isDefined 47 = .ok (.ireturn, 1) := by decide +kernel
theorem d_tc_isDefined_48 : decode bc_tc_isDefined 48 = .ok (.iload_n 1, 1) := by decide +kernel
theorem d_tc_isDefined_49 : decode bc_tc_isDefined 49 = .ok (.bipush 30, 2) := by decide +kernel
theorem d_tc_isDefined_51 : decode bc_tc_isDefined 51 = .ok (.if_icmp .eq 9, 3) := by decide +kernel
theorem d_tc_isDefined_54 : decode bc_tc_isDefined 54 = .ok (.iload_n 1, 1) := by decide +kernel
theorem d_tc_isDefined_55 : decode bc_tc_isDefined 55 = .ok (.bipush 31, 2) := by decide +kernel
theorem d_tc_isDefined_57 : decode bc_tc_isDefined 57 = .ok (.if_icmp .ne 14, 3) := by decide +kernel
theorem d_tc_isDefined_60 : decode bc_tc_isDefined 60 = .ok (.iload_n 2, 1) := by decide +kernel
theorem d_tc_isDefined_61 : decode bc_tc_isDefined 61 = .ok (.iconst 4, 1) := by decide +kernel
theorem d_tc_isDefined_62 : decode bc_tc_isDefined 62 = .ok (.ishr, 1) := by decide +kernel
theorem d_tc_isDefined_63 : decode bc_tc_isDefined 63 = .ok (.iload_n 2, 1) := by decide +kernel
theorem d_tc_isDefined_64 : decode bc_tc_isDefined 64 = .ok (.bipush 15, 2) := by decide +kernel
theorem d_tc_isDefined_66 : decode bc_tc_isDefined 66 = .ok (.iand, 1) := by decide +kernel
theorem d_tc_isDefined_67 : decode bc_tc_isDefined 67 = .ok (.invokestatic 125, 3) := by decide +kernel
theorem d_tc_isDefined_70 : decode bc_tc_isDefined 70 = .ok (.ireturn, 1) := by decide +kernel
theorem d_tc_isDefined_71 : decode bc_tc_isDefined 71 = .ok (.iconst 1, 1) := by decide +kernel
theorem d_tc_isDefined_72 : decode bc_tc_isDefined 72 = .ok (.ireturn, 1) := by decide +kernel
theorem d_tc_fetchWord_0 : decode bc_tc_fetchWord 0 = .ok (.aload_n 0, 1) := by decide +kernel
theorem d_tc_fetchWord_1 : decode bc_tc_fetchWord 1 = .ok (.getfield 19, 3) := by decide +kernel
theorem d_tc_fetchWord_4 : decode bc_tc_fetchWord 4 = .ok (.bipush 6, 2) := by decide +kernel
theorem d_tc_fetchWord_6 : decode bc_tc_fetchWord 6 = .ok (.invokevirtual 82, 3) := by decide +kernel
theorem d_tc_fetchWord_9 : decode bc_tc_fetchWord 9 = .ok (.istore_n 1, 1) := by decide +kernel
theorem d_tc_fetchWord_10 : decode bc_tc_fetchWord 10 = .ok (.aload_n 0, 1) := by decide +kernel
theorem d_tc_fetchWord_11 : decode bc_tc_fetchWord 11 = .ok (.getfield 19, 3) := by decide +kernel
theorem d_tc_fetchWord_14 : decode bc_tc_fetchWord 14 = .ok (.bipush 6, 2) := by decide +kernel
theorem d_tc_fetchWord_16 : decode bc_tc_fetchWord 16 = .ok (.iload_n 1, 1) := by decide +kernel
theorem d_tc_fetchWord_17 : decode bc_tc_fetchWord 17 = .ok (.iconst 2, 1) := by decide +kernel
theorem d_tc_fetchWord_18 : decode bc_tc_fetchWord 18 = .ok (.iadd, 1) := by decide +kernel
theorem d_tc_fetchWord_19 : decode bc_tc_fetchWord 19 = .ok (.invokevirtual 36, 3) := by decide +kernel
theorem d_tc_fetchWord_22 : decode bc_tc_fetchWord 22 = .ok (.aload_n 0, 1) := by decide +kernel
theorem d_tc_fetchWord_23 : decode bc_tc_fetchWord 23 = .ok (.getfield 10, 3) := by decide +kernel
theorem d_tc_fetchWord_26 : decode bc_tc_fetchWord 26 = .ok (.iload_n 1, 1) := by decide +kernel
theorem d_tc_fetchWord_27 : decode bc_tc_fetchWord 27 = .ok (.invokevirtual 56, 3) := by decide +kernel
theorem d_tc_fetchWord_30 : decode bc_tc_fetchWord 30 = .ok (.ireturn, 1) := by decide +kernel
theorem d_tc_goOn_0 : decode bc_tc_goOn 0 = .ok (.aload_n 0, 1) := by decide +kernel
theorem d_tc_goOn_1 : decode bc_tc_goOn 1 = .ok (.getfield 19, 3) := by decide +kernel
theorem d_tc_goOn_4 : decode bc_tc_goOn 4 = .ok (.bipush 6, 2) := by decide +kernel
theorem d_tc_goOn_6 : decode bc_tc_goOn 6 = .ok (.aload_n 0, 1) := by decide +kernel
theorem d_tc_goOn_7 : decode bc_tc_goOn 7 = .ok (.getfield 19, 3) := by decide +kernel
theorem d_tc_goOn_10 : decode bc_tc_goOn 10 = .ok (.bipush 6, 2) := by decide +kernel
theorem d_tc_goOn_12 : decode bc_tc_goOn 12 = .ok (.invokevirtual 82, 3) := by decide +kernel
theorem d_tc_goOn_15 : decode bc_tc_goOn 15 = .ok (.iload_n 1, 1) := by decide +kernel
theorem d_tc_goOn_16 : decode bc_tc_goOn 16 = .ok (.iadd, 1) := by decide +kernel
theorem d_tc_goOn_17 : decode bc_tc_goOn 17 = .ok (.invokevirtual 36, 3) := by decide +kernel
theorem d_tc_goOn_20 : decode bc_tc_goOn 20 = .ok (.return_, 1) := by decide +kernel
theorem d_tc_callRelative_0 : decode bc_tc_callRelative 0 = .ok (.aload_n 0, 1) := by decide +kernel
theorem d_tc_callRelative_1 : decode bc_tc_callRelative 1 = .ok (.iconst 5, 1) := by decide +kernel
theorem d_tc_callRelative_2 : decode bc_tc_callRelative 2 = .ok (.aload_n 0, 1) := by decide +kernel
theorem d_tc_callRelative_3 : decode bc_tc_callRelative 3 = .ok (.getfield 19, 3) := by decide +kernel
theorem d_tc_callRelative_6 : decode bc_tc_callRelative 6 = .ok (.bipush 6, 2) := by decide +kernel
theorem d_tc_callRelative_8 : decode bc_tc_callRelative 8 = .ok (.invokevirtual 82, 3) := by decide +kernel
theorem d_tc_callRelative_11 : decode bc_tc_callRelative 11 = .ok (.invokevirtual 209, 3) := by decide +kernel
theorem d_tc_callRelative_14 : decode bc_tc_callRelative 14 = .ok (.aload_n 0, 1) := by decide +kernel
theorem d_tc_callRelative_15 : decode bc_tc_callRelative 15 = .ok (.iload_n 1, 1) := by decide +kernel
theorem d_tc_callRelative_16 : decode bc_tc_callRelative 16 = .ok (.invokevirtual 161, 3) := by decide +kernel
theorem d_tc_callRelative_19 : decode bc_tc_callRelative 19 = .ok (.return_, 1) := by decide +kernel
theorem d_tc_become_0 : decode bc_tc_become 0 = .ok (.aload_n 0, 1) := by decide +kernel
theorem d_tc_become_1 : decode bc_tc_become 1 = .ok (.getfield 19, 3) := by decide +kernel
theorem d_tc_become_4 : decode bc_tc_become 4 = .ok (.iload_n 1, 1) := by decide +kernel
theorem d_tc_become_5 : decode bc_tc_become 5 = .ok (.iload_n 2, 1) := by decide +kernel
theorem d_tc_become_6 : decode bc_tc_become 6 = .ok (.invokevirtual 36, 3) := by decide +kernel
theorem d_tc_become_9 : decode bc_tc_become 9 = .ok (.iload_n 1, 1) := by decide +kernel
theorem d_tc_become_10 : decode bc_tc_become 10 = .ok (.iconst 5, 1) := by decide +kernel
theorem d_tc_become_11 : decode bc_tc_become 11 = .ok (.if_icmp .ne 8, 3) := by decide +kernel
theorem d_tc_become_14 : decode bc_tc_become 14 = .ok (.aload_n 0, 1) := by decide +kernel
theorem d_tc_become_15 : decode bc_tc_become 15 = .ok (.iconst 1, 1) := by decide +kernel
theorem d_tc_become_16 : decode bc_tc_become 16 = .ok (.putfield 44, 3) := by decide +kernel
theorem d_tc_become_19 : decode bc_tc_become 19 = .ok (.return_, 1) := by decide +kernel
theorem d_tc_exchange_0 : decode bc_tc_exchange 0 = .ok (.getstatic 129, 3) := by decide +kernel
theorem d_tc_exchange_3 : decode bc_tc_exchange 3 = .ok (.iload_n 1, 1) := by decide +kernel
theorem d_tc_exchange_4 : decode bc_tc_exchange 4 = .ok (.iconst 4, 1) := by decide +kernel
theorem d_tc_exchange_5 : decode bc_tc_exchange 5 = .ok (.ishr, 1) := by decide +kernel
theorem d_tc_exchange_6 : decode bc_tc_exchange 6 = .ok (.iaload, 1) := by decide +kernel
theorem d_tc_exchange_7 : decode bc_tc_exchange 7 = .ok (.istore_n 2, 1) := by decide +kernel
theorem d_tc_exchange_8 : decode bc_tc_exchange 8 = .ok (.getstatic 129, 3) := by decide +kernel
theorem d_tc_exchange_11 : decode bc_tc_exchange 11 = .ok (.iload_n 1, 1) := by decide +kernel
theorem d_tc_exchange_12 : decode bc_tc_exchange 12 = .ok (.bipush 15, 2) := by decide +kernel
theorem d_tc_exchange_14 : decode bc_tc_exchange 14 = .ok (.iand, 1) := by decide +kernel
theorem d_tc_exchange_15 : decode bc_tc_exchange 15 = .ok (.iaload, 1) := by decide +kernel
theorem d_tc_exchange_16 : decode bc_tc_exchange 16 = .ok (.istore_n 3, 1) := by decide +kernel
theorem d_tc_exchange_17 : decode bc_tc_exchange 17 = .ok (.aload_n 0, 1) := by decide +kernel
theorem d_tc_exchange_18 : decode bc_tc_exchange 18 = .ok (.getfield 19, 3) := by decide +kernel
theorem d_tc_exchange_21 : decode bc_tc_exchange 21 = .ok (.iload_n 2, 1) := by decide +kernel
theorem d_tc_exchange_22 : decode bc_tc_exchange 22 = .ok (.invokevirtual 82, 3) := by decide +kernel
theorem d_tc_exchange_25 : decode bc_tc_exchange 25 = .ok (.istore 4, 2) := by decide +kernel
theorem d_tc_exchange_27 : decode bc_tc_exchange 27 = .ok (.aload_n 0, 1) := by decide +kernel
theorem d_tc_exchange_28 : decode bc_tc_exchange 28 = .ok (.iload_n 2, 1) := by decide +kernel
theorem d_tc_exchange_29 : decode bc_tc_exchange 29 = .ok (.aload_n 0, 1) := by decide +kernel
theorem d_tc_exchange_30 : decode bc_tc_exchange 30 = .ok (.getfield 19, 3) := by decide +kernel
theorem d_tc_exchange_33 : decode bc_tc_exchange 33 = .ok (.iload_n 3, 1) := by decide +kernel
theorem d_tc_exchange_34 : decode bc_tc_exchange 34 = .ok (.invokevirtual 82, 3) := by decide +kernel
theorem d_tc_exchange_37 : decode bc_tc_exchange 37 = .ok (.invokevirtual 203, 3) := by decide +kernel
theorem d_tc_exchange_40 : decode bc_tc_exchange 40 = .ok (.aload_n 0, 1) := by decide +kernel
theorem d_tc_exchange_41 : decode bc_tc_exchange 41 = .ok (.iload_n 3, 1) := by decide +kernel
theorem d_tc_exchange_42 : decode bc_tc_exchange 42 = .ok (.iload 4, 2) := by decide +kernel
theorem d_tc_exchange_44 : decode bc_tc_exchange 44 = .ok (.invokevirtual 203, 3) := by decide +kernel
theorem d_tc_exchange_47 : decode bc_tc_exchange 47 = .ok (.return_, 1) := by decide +kernel
theorem d_tc_transfer_0 : decode bc_tc_transfer 0 = .ok (.aload_n 0, 1) := by decide +kernel
theorem d_tc_transfer_1 : decode bc_tc_transfer 1 = .ok (.getstatic 129, 3) := by decide +kernel
theorem d_tc_transfer_4 : decode bc_tc_transfer 4 = .ok (.iload_n 1, 1) := by decide +kernel
theorem d_tc_transfer_5 : decode bc_tc_transfer 5 = .ok (.bipush 15, 2) := by decide +kernel
theorem d_tc_transfer_7 : decode bc_tc_transfer 7 = .ok (.iand, 1) := by decide +kernel
theorem d_tc_transfer_8 : decode bc_tc_transfer 8 = .ok (.iaload, 1) := by decide +kernel
theorem d_tc_transfer_9 : decode bc_tc_transfer 9 = .ok (.aload_n 0, 1) := by decide +kernel
theorem d_tc_transfer_10 : decode bc_tc_transfer 10 = .ok (.getfield 19, 3) := by decide +kernel
theorem d_tc_transfer_13 : decode bc_tc_transfer 13 = .ok (.getstatic 129, 3) := by decide +kernel
theorem d_tc_transfer_16 : decode bc_tc_transfer 16 = .ok (.iload_n 1, 1) := by decide +kernel
theorem d_tc_transfer_17 : decode bc_tc_transfer 17 = .ok (.iconst 4, 1) := by decide +kernel
theorem d_tc_transfer_18 : decode bc_tc_transfer 18 = .ok (.ishr, 1) := by decide +kernel
theorem d_tc_transfer_19 : decode bc_tc_transfer 19 = .ok (.iaload, 1) := by decide +kernel
theorem d_tc_transfer_20 : decode bc_tc_transfer 20 = .ok (.invokevirtual 82, 3) := by decide +kernel
theorem d_tc_transfer_23 : decode bc_tc_transfer 23 = .ok (.invokevirtual 203, 3) := by decide +kernel
theorem d_tc_transfer_26 : decode bc_tc_transfer 26 = .ok (.return_, 1) := by decide +kernel
theorem d_tc_executeRowOne_0 : decode bc_tc_executeRowOne 0 = .ok (.iload_n 1, 1) := by decide +kernel
theorem d_tc_executeRowOne_1 : decode bc_tc_executeRowOne 1 = .ok (.tableswitch 191 3 15 #[67, 191, 191, 75, 86, 191, 97, 107, 191, 133, 159, 169, 180], 67) := by decide +kernel
theorem d_tc_executeRowOne_68 : decode bc_tc_executeRowOne 68 = .ok (.aload_n 0, 1) := by decide +kernel
theorem d_tc_executeRowOne_69 : decode bc_tc_executeRowOne 69 = .ok (.iconst 1, 1) := by decide +kernel
theorem d_tc_executeRowOne_70 : decode bc_tc_executeRowOne 70 = .ok (.putfield 51, 3) := by decide +kernel
theorem d_tc_executeRowOne_73 : decode bc_tc_executeRowOne 73 = .ok (.goto 119, 3) := by decide +kernel
theorem d_tc_executeRowOne_76 : decode bc_tc_executeRowOne 76 = .ok (.aload_n 0, 1) := by decide +kernel
theorem d_tc_executeRowOne_77 : decode bc_tc_executeRowOne 77 = .ok (.aload_n 0, 1) := by decide +kernel
theorem d_tc_executeRowOne_78 : decode bc_tc_executeRowOne 78 = .ok (.invokevirtual 135, 3) := by decide +kernel
theorem d_tc_executeRowOne_81 : decode bc_tc_executeRowOne 81 = .ok (.invokevirtual 161, 3) := by decide +kernel
theorem d_tc_executeRowOne_84 : decode bc_tc_executeRowOne 84 = .ok (.goto 108, 3) := by decide +kernel
theorem d_tc_executeRowOne_87 : decode bc_tc_executeRowOne 87 = .ok (.aload_n 0, 1) := by decide +kernel
theorem d_tc_executeRowOne_88 : decode bc_tc_executeRowOne 88 = .ok (.aload_n 0, 1) := by decide +kernel
theorem d_tc_executeRowOne_89 : decode bc_tc_executeRowOne 89 = .ok (.invokevirtual 135, 3) := by decide +kernel
theorem d_tc_executeRowOne_92 : decode bc_tc_executeRowOne 92 = .ok (.invokevirtual 164, 3) := by decide +kernel
theorem d_tc_executeRowOne_95 : decode bc_tc_executeRowOne 95 = .ok (.goto 97, 3) := by decide +kernel
theorem d_tc_executeRowOne_98 : decode bc_tc_executeRowOne 98 = .ok (.aload_n 0, 1) := by decide +kernel
theorem d_tc_executeRowOne_99 : decode bc_tc_executeRowOne 99 = .ok (.getfield 28, 3) := by decide +kernel
theorem d_tc_executeRowOne_102 : decode bc_tc_executeRowOne 102 = .ok (.invokevirtual 167, 3) := by decide +kernel
end
section
theorem d_tc_executeRowOne_105 : decode bc_tc_executeRowOne 105 = .ok (.goto 87, 3) := by decide +kernel
theorem d_tc_executeRowOne_108 : decode bc_tc_executeRowOne 108 = .ok (.aload_n 0, 1) := by decide +kernel
theorem d_tc_executeRowOne_109 : decode bc_tc_executeRowOne 109 = .ok (.getfield 19, 3) := by decide +kernel
theorem d_tc_executeRowOne_112 : decode bc_tc_executeRowOne 112 = .ok (.bipush 8, 2) := by decide +kernel
theorem d_tc_executeRowOne_114 : decode bc_tc_executeRowOne 114 = .ok (.aload_n 0, 1) := by decide +kernel
theorem d_tc_executeRowOne_115 : decode bc_tc_executeRowOne 115 = .ok (.getfield 19, 3) := by decide +kernel
theorem d_tc_executeRowOne_118 : decode bc_tc_executeRowOne 118 = .ok (.bipush 8, 2) := by decide +kernel
theorem d_tc_executeRowOne_120 : decode bc_tc_executeRowOne 120 = .ok (.invokevirtual 82, 3) := by decide +kernel
theorem d_tc_executeRowOne_123 : decode bc_tc_executeRowOne 123 = .ok (.aload_n 0, 1) := by decide +kernel
theorem d_tc_executeRowOne_124 : decode bc_tc_executeRowOne 124 = .ok (.invokevirtual 113, 3) := by decide +kernel
theorem d_tc_executeRowOne_127 : decode bc_tc_executeRowOne 127 = .ok (.ior, 1) := by decide +kernel
theorem d_tc_executeRowOne_128 : decode bc_tc_executeRowOne 128 = .ok (.invokevirtual 36, 3) := by decide +kernel
theorem d_tc_executeRowOne_131 : decode bc_tc_executeRowOne 131 = .ok (.goto 61, 3) := by decide +kernel
theorem d_tc_executeRowOne_134 : decode bc_tc_executeRowOne 134 = .ok (.aload_n 0, 1) := by decide +kernel
theorem d_tc_executeRowOne_135 : decode bc_tc_executeRowOne 135 = .ok (.getfield 19, 3) := by decide +kernel
theorem d_tc_executeRowOne_138 : decode bc_tc_executeRowOne 138 = .ok (.bipush 8, 2) := by decide +kernel
theorem d_tc_executeRowOne_140 : decode bc_tc_executeRowOne 140 = .ok (.aload_n 0, 1) := by decide +kernel
theorem d_tc_executeRowOne_141 : decode bc_tc_executeRowOne 141 = .ok (.getfield 19, 3) := by decide +kernel
theorem d_tc_executeRowOne_144 : decode bc_tc_executeRowOne 144 = .ok (.bipush 8, 2) := by decide +kernel
theorem d_tc_executeRowOne_146 : decode bc_tc_executeRowOne 146 = .ok (.invokevirtual 82, 3) := by decide +kernel
theorem d_tc_executeRowOne_149 : decode bc_tc_executeRowOne 149 = .ok (.aload_n 0, 1) := by decide +kernel
theorem d_tc_executeRowOne_150 : decode bc_tc_executeRowOne 150 = .ok (.invokevirtual 113, 3) := by decide +kernel
theorem d_tc_executeRowOne_153 : decode bc_tc_executeRowOne 153 = .ok (.iand, 1) := by decide +kernel
theorem d_tc_executeRowOne_154 : decode bc_tc_executeRowOne 154 = .ok (.invokevirtual 36, 3) := by decide +kernel
theorem d_tc_executeRowOne_157 : decode bc_tc_executeRowOne 157 = .ok (.goto 35, 3) := by decide +kernel
theorem d_tc_executeRowOne_160 : decode bc_tc_executeRowOne 160 = .ok (.aload_n 0, 1) := by decide +kernel
theorem d_tc_executeRowOne_161 : decode bc_tc_executeRowOne 161 = .ok (.getfield 28, 3) := by decide +kernel
theorem d_tc_executeRowOne_164 : decode bc_tc_executeRowOne 164 = .ok (.invokevirtual 170, 3) := by decide +kernel
theorem d_tc_executeRowOne_167 : decode bc_tc_executeRowOne 167 = .ok (.goto 25, 3) := by decide +kernel
theorem d_tc_executeRowOne_170 : decode bc_tc_executeRowOne 170 = .ok (.aload_n 0, 1) := by decide +kernel
theorem d_tc_executeRowOne_171 : decode bc_tc_executeRowOne 171 = .ok (.aload_n 0, 1) := by decide +kernel
theorem d_tc_executeRowOne_172 : decode bc_tc_executeRowOne 172 = .ok (.invokevirtual 113, 3) := by decide +kernel
theorem d_tc_executeRowOne_175 : decode bc_tc_executeRowOne 175 = .ok (.invokevirtual 173, 3) := by decide +kernel
theorem d_tc_executeRowOne_178 : decode bc_tc_executeRowOne 178 = .ok (.goto 14, 3) := by decide +kernel
theorem d_tc_executeRowOne_181 : decode bc_tc_executeRowOne 181 = .ok (.aload_n 0, 1) := by decide +kernel
theorem d_tc_executeRowOne_182 : decode bc_tc_executeRowOne 182 = .ok (.aload_n 0, 1) := by decide +kernel
theorem d_tc_executeRowOne_183 : decode bc_tc_executeRowOne 183 = .ok (.invokevirtual 113, 3) := by decide +kernel
theorem d_tc_executeRowOne_186 : decode bc_tc_executeRowOne 186 = .ok (.invokevirtual 176, 3) := by decide +kernel
theorem d_tc_executeRowOne_189 : decode bc_tc_executeRowOne 189 = .ok (.goto 3, 3) := by decide +kernel
theorem d_tc_executeRowOne_192 : decode bc_tc_executeRowOne 192 = .ok (.return_, 1) := by decide +kernel
theorem d_tc_branch_0 : decode bc_tc_branch 0 = .ok (.aload_n 0, 1) := by decide +kernel
theorem d_tc_branch_1 : decode bc_tc_branch 1 = .ok (.getfield 19, 3) := by decide +kernel
theorem d_tc_branch_4 : decode bc_tc_branch 4 = .ok (.iload_n 1, 1) := by decide +kernel
theorem d_tc_branch_5 : decode bc_tc_branch 5 = .ok (.invokevirtual 206, 3) := by decide +kernel
theorem d_tc_branch_8 : decode bc_tc_branch 8 = .ok (.ifCond .eq 8, 3) := by decide +kernel
theorem d_tc_branch_11 : decode bc_tc_branch 11 = .ok (.aload_n 0, 1) := by decide +kernel
theorem d_tc_branch_12 : decode bc_tc_branch 12 = .ok (.iload_n 2, 1) := by decide +kernel
theorem d_tc_branch_13 : decode bc_tc_branch 13 = .ok (.invokevirtual 161, 3) := by decide +kernel
theorem d_tc_branch_16 : decode bc_tc_branch 16 = .ok (.return_, 1) := by decide +kernel
theorem d_tc_addressByKind_0 : decode bc_tc_addressByKind 0 = .ok (.aload_n 0, 1) := by decide +kernel
theorem d_tc_addressByKind_1 : decode bc_tc_addressByKind 1 = .ok (.getfield 19, 3) := by decide +kernel
theorem d_tc_addressByKind_4 : decode bc_tc_addressByKind 4 = .ok (.iload_n 2, 1) := by decide +kernel
theorem d_tc_addressByKind_5 : decode bc_tc_addressByKind 5 = .ok (.invokevirtual 82, 3) := by decide +kernel
theorem d_tc_addressByKind_8 : decode bc_tc_addressByKind 8 = .ok (.istore_n 3, 1) := by decide +kernel
theorem d_tc_addressByKind_9 : decode bc_tc_addressByKind 9 = .ok (.iload_n 1, 1) := by decide +kernel
theorem d_tc_addressByKind_10 : decode bc_tc_addressByKind 10 = .ok (.tableswitch 218 0 13 #[70, 83, 96, 111, 126, 128, 140, 218, 152, 160, 218, 167, 179, 199], 70) := by decide +kernel
theorem d_tc_addressByKind_80 : decode bc_tc_addressByKind 80 = .ok (.aload_n 0, 1) := by decide +kernel
theorem d_tc_addressByKind_81 : decode bc_tc_addressByKind 81 = .ok (.getfield 19, 3) := by decide +kernel
theorem d_tc_addressByKind_84 : decode bc_tc_addressByKind 84 = .ok (.iload_n 2, 1) := by decide +kernel
theorem d_tc_addressByKind_85 : decode bc_tc_addressByKind 85 = .ok (.iload_n 3, 1) := by decide +kernel
theorem d_tc_addressByKind_86 : decode bc_tc_addressByKind 86 = .ok (.iconst 1, 1) := by decide +kernel
theorem d_tc_addressByKind_87 : decode bc_tc_addressByKind 87 = .ok (.iadd, 1) := by decide +kernel
theorem d_tc_addressByKind_88 : decode bc_tc_addressByKind 88 = .ok (.invokevirtual 36, 3) := by decide +kernel
theorem d_tc_addressByKind_91 : decode bc_tc_addressByKind 91 = .ok (.iload_n 3, 1) := by decide +kernel
theorem d_tc_addressByKind_92 : decode bc_tc_addressByKind 92 = .ok (.ireturn, 1) := by decide +kernel
theorem d_tc_addressByKind_93 : decode bc_tc_addressByKind 93 = .ok (.aload_n 0, 1) := by decide +kernel
theorem d_tc_addressByKind_94 : decode bc_tc_addressByKind 94 = .ok (.getfield 19, 3) := by decide +kernel
theorem d_tc_addressByKind_97 : decode bc_tc_addressByKind 97 = .ok (.iload_n 2, 1) := by decide +kernel
theorem d_tc_addressByKind_98 : decode bc_tc_addressByKind 98 = .ok (.iload_n 3, 1) := by decide +kernel
theorem d_tc_addressByKind_99 : decode bc_tc_addressByKind 99 = .ok (.iconst 2, 1) := by decide +kernel
theorem d_tc_addressByKind_100 : decode bc_tc_addressByKind 100 = .ok (.iadd, 1) := by decide +kernel
theorem d_tc_addressByKind_101 : decode bc_tc_addressByKind 101 = .ok (.invokevirtual 36, 3) := by decide +kernel
theorem d_tc_addressByKind_104 : decode bc_tc_addressByKind 104 = .ok (.iload_n 3, 1) := by decide +kernel
theorem d_tc_addressByKind_105 : decode bc_tc_addressByKind 105 = .ok (.ireturn, 1) := by decide +kernel
theorem d_tc_addressByKind_106 : decode bc_tc_addressByKind 106 = .ok (.aload_n 0, 1) := by decide +kernel
theorem d_tc_addressByKind_107 : decode bc_tc_addressByKind 107 = .ok (.getfield 19, 3) := by decide +kernel
theorem d_tc_addressByKind_110 : decode bc_tc_addressByKind 110 = .ok (.iload_n 2, 1) := by decide +kernel
theorem d_tc_addressByKind_111 : decode bc_tc_addressByKind 111 = .ok (.iload_n 3, 1) := by decide +kernel
theorem d_tc_addressByKind_112 : decode bc_tc_addressByKind 112 = .ok (.iconst 1, 1) := by decide +kernel
theorem d_tc_addressByKind_113 : decode bc_tc_addressByKind 113 = .ok (.isub, 1) := by decide +kernel
theorem d_tc_addressByKind_114 : decode bc_tc_addressByKind 114 = .ok (.invokevirtual 36, 3) := by decide +kernel
theorem d_tc_addressByKind_117 : decode bc_tc_addressByKind 117 = .ok (.iload_n 3, 1) := by decide +kernel
theorem d_tc_addressByKind_118 : decode bc_tc_addressByKind 118 = .ok (.iconst 1, 1) := by decide +kernel
theorem d_tc_addressByKind_119 : decode bc_tc_addressByKind 119 = .ok (.isub, 1) := by decide +kernel
theorem d_tc_addressByKind_120 : decode bc_tc_addressByKind 120 = .ok (.ireturn, 1) := by decide +kernel
theorem d_tc_addressByKind_121 : decode bc_tc_addressByKind 121 = .ok (.aload_n 0, 1) := by decide +kernel
theorem d_tc_addressByKind_122 : decode bc_tc_addressByKind 122 = .ok (.getfield 19, 3) := by decide +kernel
theorem d_tc_addressByKind_125 : decode bc_tc_addressByKind 125 = .ok (.iload_n 2, 1) := by decide +kernel
theorem d_tc_addressByKind_126 : decode bc_tc_addressByKind 126 = .ok (.iload_n 3, 1) := by decide +kernel
theorem d_tc_addressByKind_127 : decode bc_tc_addressByKind 127 = .ok (.iconst 2, 1) := by decide +kernel
theorem d_tc_addressByKind_128 : decode bc_tc_addressByKind 128 = .ok (.isub, 1) := by decide +kernel
theorem d_tc_addressByKind_129 : decode bc_tc_addressByKind 129 = .ok (.invokevirtual 36, 3) := by decide +kernel
theorem d_tc_addressByKind_132 : decode bc_tc_addressByKind 132 = .ok (.iload_n 3, 1) := by decide +kernel
theorem d_tc_addressByKind_133 : decode bc_tc_addressByKind 133 = .ok (.iconst 2, 1) := by decide +kernel
theorem d_tc_addressByKind_134 : decode bc_tc_addressByKind 134 = .ok (.isub, 1) := by decide +kernel
theorem d_tc_addressByKind_135 : decode bc_tc_addressByKind 135 = .ok (.ireturn, 1) := by decide +kernel
theorem d_tc_addressByKind_136 : decode bc_tc_addressByKind 136 = .ok (.iload_n 3, 1) := by decide +kernel
theorem d_tc_addressByKind_137 : decode bc_tc_addressByKind 137 = .ok (.ireturn, 1) := by decide +kernel
theorem d_tc_addressByKind_138 : decode bc_tc_addressByKind 138 = .ok (.iload_n 3, 1) := by decide +kernel
theorem d_tc_addressByKind_139 : decode bc_tc_addressByKind 139 = .ok (.aload_n 0, 1) := by decide +kernel
theorem d_tc_addressByKind_140 : decode bc_tc_addressByKind 140 = .ok (.getfield 19, 3) := by decide +kernel
theorem d_tc_addressByKind_143 : decode bc_tc_addressByKind 143 = .ok (.iconst 1, 1) := by decide +kernel
theorem d_tc_addressByKind_144 : decode bc_tc_addressByKind 144 = .ok (.invokevirtual 82, 3) := by decide +kernel
theorem d_tc_addressByKind_147 : decode bc_tc_addressByKind 147 = .ok (.i2b, 1) := by decide +kernel
theorem d_tc_addressByKind_148 : decode bc_tc_addressByKind 148 = .ok (.iadd, 1) := by decide +kernel
theorem d_tc_addressByKind_149 : decode bc_tc_addressByKind 149 = .ok (.ireturn, 1) := by decide +kernel
theorem d_tc_addressByKind_150 : decode bc_tc_addressByKind 150 = .ok (.iload_n 3, 1) := by decide +kernel
theorem d_tc_addressByKind_151 : decode bc_tc_addressByKind 151 = .ok (.aload_n 0, 1) := by decide +kernel
theorem d_tc_addressByKind_152 : decode bc_tc_addressByKind 152 = .ok (.getfield 19, 3) := by decide +kernel
theorem d_tc_addressByKind_155 : decode bc_tc_addressByKind 155 = .ok (.iconst 0, 1) := by decide +kernel
theorem d_tc_addressByKind_156 : decode bc_tc_addressByKind 156 = .ok (.invokevirtual 82, 3) := by decide +kernel
theorem d_tc_addressByKind_159 : decode bc_tc_addressByKind 159 = .ok (.i2b, 1) := by decide +kernel
theorem d_tc_addressByKind_160 : decode bc_tc_addressByKind 160 = .ok (.iadd, 1) := by decide +kernel
theorem d_tc_addressByKind_161 : decode bc_tc_addressByKind 161 = .ok (.ireturn, 1) := by decide +kernel
theorem d_tc_addressByKind_162 : decode bc_tc_addressByKind 162 = .ok (.iload_n 3, 1) := by decide +kernel
theorem d_tc_addressByKind_163 : decode bc_tc_addressByKind 163 = .ok (.aload_n 0, 1) := by decide +kernel
theorem d_tc_addressByKind_164 : decode bc_tc_addressByKind 164 = .ok (.invokevirtual 113, 3) := by decide +kernel
theorem d_tc_addressByKind_167 : decode bc_tc_addressByKind 167 = .ok (.i2b, 1) := by decide +kernel
theorem d_tc_addressByKind_168 : decode bc_tc_addressByKind 168 = .ok (.iadd, 1) := by decide +kernel
theorem d_tc_addressByKind_169 : decode bc_tc_addressByKind 169 = .ok (.ireturn, 1) := by decide +kernel
theorem d_tc_addressByKind_170 : decode bc_tc_addressByKind 170 = .ok (.iload_n 3, 1) := by decide +kernel
theorem d_tc_addressByKind_171 : decode bc_tc_addressByKind 171 = .ok (.aload_n 0, 1) := by decide +kernel
theorem d_tc_addressByKind_172 : decode bc_tc_addressByKind 172 = .ok (.invokevirtual 135, 3) := by decide +kernel
theorem d_tc_addressByKind_175 : decode bc_tc_addressByKind 175 = .ok (.iadd, 1) := by decide +kernel
theorem d_tc_addressByKind_176 : decode bc_tc_addressByKind 176 = .ok (.ireturn, 1) := by decide +kernel
theorem d_tc_addressByKind_177 : decode bc_tc_addressByKind 177 = .ok (.iload_n 3, 1) := by decide +kernel
theorem d_tc_addressByKind_178 : decode bc_tc_addressByKind 178 = .ok (.aload_n 0, 1) := by decide +kernel
theorem d_tc_addressByKind_179 : decode bc_tc_addressByKind 179 = .ok (.getfield 19, 3) := by decide +kernel
theorem d_tc_addressByKind_182 : decode bc_tc_addressByKind 182 = .ok (.bipush 9, 2) := by decide +kernel
theorem d_tc_addressByKind_184 : decode bc_tc_addressByKind 184 = .ok (.invokevirtual 82, 3) := by decide +kernel
theorem d_tc_addressByKind_187 : decode bc_tc_addressByKind 187 = .ok (.iadd, 1) := by decide +kernel
theorem d_tc_addressByKind_188 : decode bc_tc_addressByKind 188 = .ok (.ireturn, 1) := by decide +kernel
theorem d_tc_addressByKind_189 : decode bc_tc_addressByKind 189 = .ok (.aload_n 0, 1) := by decide +kernel
theorem d_tc_addressByKind_190 : decode bc_tc_addressByKind 190 = .ok (.invokevirtual 113, 3) := by decide +kernel
theorem d_tc_addressByKind_193 : decode bc_tc_addressByKind 193 = .ok (.i2b, 1) := by decide +kernel
theorem d_tc_addressByKind_194 : decode bc_tc_addressByKind 194 = .ok (.istore 4, 2) := by decide +kernel
theorem d_tc_addressByKind_196 : decode bc_tc_addressByKind 196 = .ok (.aload_n 0, 1) := by decide +kernel
theorem d_tc_addressByKind_197 : decode bc_tc_addressByKind 197 = .ok (.getfield 19, 3) := by decide +kernel
theorem d_tc_addressByKind_200 : decode bc_tc_addressByKind 200 = .ok (.bipush 6, 2) := by decide +kernel
theorem d_tc_addressByKind_202 : decode bc_tc_addressByKind 202 = .ok (.invokevirtual 82, 3) := by decide +kernel
theorem d_tc_addressByKind_205 : decode bc_tc_addressByKind 205 = .ok (.iload 4, 2) := by decide +kernel
theorem d_tc_addressByKind_207 : decode bc_tc_addressByKind 207 = .ok (.iadd, 1) := by decide +kernel
theorem d_tc_addressByKind_208 : decode bc_tc_addressByKind 208 = .ok (.ireturn, 1) := by decide +kernel
theorem d_tc_addressByKind_209 : decode bc_tc_addressByKind 209 = .ok (.aload_n 0, 1) := by decide +kernel
theorem d_tc_addressByKind_210 : decode bc_tc_addressByKind 210 = .ok (.invokevirtual 135, 3) := by decide +kernel
theorem d_tc_addressByKind_213 : decode bc_tc_addressByKind 213 = .ok (.istore 4, 2) := by decide +kernel
theorem d_tc_addressByKind_215 : decode bc_tc_addressByKind 215 = .ok (.aload_n 0, 1) := by decide +kernel
theorem d_tc_addressByKind_216 : decode bc_tc_addressByKind 216 = .ok (.getfield 19, 3) := by decide +kernel
theorem d_tc_addressByKind_219 : decode bc_tc_addressByKind 219 = .ok (.bipush 6, 2) := by decide +kernel
theorem d_tc_addressByKind_221 : decode bc_tc_addressByKind 221 = .ok (.invokevirtual 82, 3) := by decide +kernel
theorem d_tc_addressByKind_224 : decode bc_tc_addressByKind 224 = .ok (.iload 4, 2) := by decide +kernel
theorem d_tc_addressByKind_226 : decode bc_tc_addressByKind 226 = .ok (.iadd, 1) := by decide +kernel
theorem d_tc_addressByKind_227 : decode bc_tc_addressByKind 227 = .ok (.ireturn, 1) := by decide +kernel
theorem d_tc_addressByKind_228 : decode bc_tc_addressByKind 228 = .ok (.aload_n 0, 1) := by decide +kernel
theorem d_tc_addressByKind_229 : decode bc_tc_addressByKind 229 = .ok (.invokevirtual 135, 3) := by decide +kernel
theorem d_tc_addressByKind_232 : decode bc_tc_addressByKind 232 = .ok (.ireturn, 1) := by decide +kernel
theorem d_tc_indexedAddress_0 : decode bc_tc_indexedAddress 0 = .ok (.aload_n 0, 1) := by decide +kernel
theorem d_tc_indexedAddress_1 : decode bc_tc_indexedAddress 1 = .ok (.invokevirtual 113, 3) := by decide +kernel
theorem d_tc_indexedAddress_4 : decode bc_tc_indexedAddress 4 = .ok (.istore_n 1, 1) := by decide +kernel
theorem d_tc_indexedAddress_5 : decode bc_tc_indexedAddress 5 = .ok (.iconst 2, 1) := by decide +kernel
theorem d_tc_indexedAddress_6 : decode bc_tc_indexedAddress 6 = .ok (.iload_n 1, 1) := by decide +kernel
theorem d_tc_indexedAddress_7 : decode bc_tc_indexedAddress 7 = .ok (.iconst 5, 1) := by decide +kernel
theorem d_tc_indexedAddress_8 : decode bc_tc_indexedAddress 8 = .ok (.ishr, 1) := by decide +kernel
theorem d_tc_indexedAddress_9 : decode bc_tc_indexedAddress 9 = .ok (.iconst 3, 1) := by decide +kernel
theorem d_tc_indexedAddress_10 : decode bc_tc_indexedAddress 10 = .ok (.iand, 1) := by decide +kernel
theorem d_tc_indexedAddress_11 : decode bc_tc_indexedAddress 11 = .ok (.iadd, 1) := by decide +kernel
theorem d_tc_indexedAddress_12 : decode bc_tc_indexedAddress 12 = .ok (.istore_n 2, 1) := by decide +kernel
theorem d_tc_indexedAddress_13 : decode bc_tc_indexedAddress 13 = .ok (.iload_n 1, 1) := by decide +kernel
theorem d_tc_indexedAddress_14 : decode bc_tc_indexedAddress 14 = .ok (.sipush 128, 3) := by decide +kernel
theorem d_tc_indexedAddress_17 : decode bc_tc_indexedAddress 17 = .ok (.if_icmp .ge 28, 3) := by decide +kernel
theorem d_tc_indexedAddress_20 : decode bc_tc_indexedAddress 20 = .ok (.iload_n 1, 1) := by decide +kernel
theorem d_tc_indexedAddress_21 : decode bc_tc_indexedAddress 21 = .ok (.bipush 31, 2) := by decide +kernel
theorem d_tc_indexedAddress_23 : decode bc_tc_indexedAddress 23 = .ok (.iand, 1) := by decide +kernel
theorem d_tc_indexedAddress_24 : decode bc_tc_indexedAddress 24 = .ok (.bipush 16, 2) := by decide +kernel
theorem d_tc_indexedAddress_26 : decode bc_tc_indexedAddress 26 = .ok (.ixor, 1) := by decide +kernel
theorem d_tc_indexedAddress_27 : decode bc_tc_indexedAddress 27 = .ok (.bipush 16, 2) := by decide +kernel
theorem d_tc_indexedAddress_29 : decode bc_tc_indexedAddress 29 = .ok (.isub, 1) := by decide +kernel
theorem d_tc_indexedAddress_30 : decode bc_tc_indexedAddress 30 = .ok (.istore_n 3, 1) := by decide +kernel
theorem d_tc_indexedAddress_31 : decode bc_tc_indexedAddress 31 = .ok (.aload_n 0, 1) := by decide +kernel
theorem d_tc_indexedAddress_32 : decode bc_tc_indexedAddress 32 = .ok (.getfield 19, 3) := by decide +kernel
theorem d_tc_indexedAddress_35 : decode bc_tc_indexedAddress 35 = .ok (.iload_n 2, 1) := by decide +kernel
theorem d_tc_indexedAddress_36 : decode bc_tc_indexedAddress 36 = .ok (.invokevirtual 82, 3) := by decide +kernel
theorem d_tc_indexedAddress_39 : decode bc_tc_indexedAddress 39 = .ok (.iload_n 3, 1) := by decide +kernel
theorem d_tc_indexedAddress_40 : decode bc_tc_indexedAddress 40 = .ok (.iadd, 1) := by decide +kernel
theorem d_tc_indexedAddress_41 : decode bc_tc_indexedAddress 41 = .ok (.ldc 138, 2) := by decide +kernel
theorem d_tc_indexedAddress_43 : decode bc_tc_indexedAddress 43 = .ok (.iand, 1) := by decide +kernel
theorem d_tc_indexedAddress_44 : decode bc_tc_indexedAddress 44 = .ok (.ireturn, 1) := by decide +kernel
theorem d_tc_indexedAddress_45 : decode bc_tc_indexedAddress 45 = .ok (.aload_n 0, 1) := by decide +kernel
theorem d_tc_indexedAddress_46 : decode bc_tc_indexedAddress 46 = .ok (.iload_n 1, 1) := by decide +kernel
theorem d_tc_indexedAddress_47 : decode bc_tc_indexedAddress 47 = .ok (.bipush 15, 2) := by decide +kernel
theorem d_tc_indexedAddress_49 : decode bc_tc_indexedAddress 49 = .ok (.iand, 1) := by decide +kernel
theorem d_tc_indexedAddress_50 : decode bc_tc_indexedAddress 50 = .ok (.iload_n 2, 1) := by decide +kernel
theorem d_tc_indexedAddress_51 : decode bc_tc_indexedAddress 51 = .ok (.invokevirtual 139, 3) := by decide +kernel
theorem d_tc_indexedAddress_54 : decode bc_tc_indexedAddress 54 = .ok (.ldc 138, 2) := by decide +kernel
theorem d_tc_indexedAddress_56 : decode bc_tc_indexedAddress 56 = .ok (.iand, 1) := by decide +kernel
theorem d_tc_indexedAddress_57 : decode bc_tc_indexedAddress 57 = .ok (.istore_n 3, 1) := by decide +kernel
theorem d_tc_indexedAddress_58 : decode bc_tc_indexedAddress 58 = .ok (.iload_n 1, 1) := by decide +kernel
theorem d_tc_indexedAddress_59 : decode bc_tc_indexedAddress 59 = .ok (.bipush 16, 2) := by decide +kernel
theorem d_tc_indexedAddress_61 : decode bc_tc_indexedAddress 61 = .ok (.iand, 1) := by decide +kernel
theorem d_tc_indexedAddress_62 : decode bc_tc_indexedAddress 62 = .ok (.ifCond .ne 7, 3) := by decide +kernel
theorem d_tc_indexedAddress_65 : decode bc_tc_indexedAddress 65 = .ok (.iload_n 3, 1) := by decide +kernel
theorem d_tc_indexedAddress_66 : decode bc_tc_indexedAddress 66 = .ok (.goto 11, 3) := by decide +kernel
theorem d_tc_indexedAddress_69 : decode bc_tc_indexedAddress 69 = .ok (.aload_n 0, 1) := by decide +kernel
theorem d_tc_indexedAddress_70 : decode bc_tc_indexedAddress 70 = .ok (.getfield 10, 3) := by decide +kernel
theorem d_tc_indexedAddress_73 : decode bc_tc_indexedAddress 73 = .ok (.iload_n 3, 1) := by decide +kernel
theorem d_tc_indexedAddress_74 : decode bc_tc_indexedAddress 74 = .ok (.invokevirtual 56, 3) := by decide +kernel
theorem d_tc_indexedAddress_77 : decode bc_tc_indexedAddress 77 = .ok (.ireturn, 1) := by decide +kernel
theorem d_tc_takeAddress_0 : decode bc_tc_takeAddress 0 = .ok (.aload_n 0, 1) := by decide +kernel
theorem d_tc_takeAddress_1 : decode bc_tc_takeAddress 1 = .ok (.iload_n 1, 1) := by decide +kernel
theorem d_tc_takeAddress_2 : decode bc_tc_takeAddress 2 = .ok (.iload_n 2, 1) := by decide +kernel
theorem d_tc_takeAddress_3 : decode bc_tc_takeAddress 3 = .ok (.invokevirtual 203, 3) := by decide +kernel
theorem d_tc_takeAddress_6 : decode bc_tc_takeAddress 6 = .ok (.iload_n 1, 1) := by decide +kernel
theorem d_tc_takeAddress_7 : decode bc_tc_takeAddress 7 = .ok (.iconst 2, 1) := by decide +kernel
theorem d_tc_takeAddress_8 : decode bc_tc_takeAddress 8 = .ok (.if_icmp .eq 8, 3) := by decide +kernel
theorem d_tc_takeAddress_11 : decode bc_tc_takeAddress 11 = .ok (.iload_n 1, 1) := by decide +kernel
theorem d_tc_takeAddress_12 : decode bc_tc_takeAddress 12 = .ok (.iconst 3, 1) := by decide +kernel
theorem d_tc_takeAddress_13 : decode bc_tc_takeAddress 13 = .ok (.if_icmp .ne 20, 3) := by decide +kernel
theorem d_tc_takeAddress_16 : decode bc_tc_takeAddress 16 = .ok (.aload_n 0, 1) := by decide +kernel
theorem d_tc_takeAddress_17 : decode bc_tc_takeAddress 17 = .ok (.getfield 19, 3) := by decide +kernel
theorem d_tc_takeAddress_20 : decode bc_tc_takeAddress 20 = .ok (.iconst 4, 1) := by decide +kernel
theorem d_tc_takeAddress_21 : decode bc_tc_takeAddress 21 = .ok (.iload_n 2, 1) := by decide +kernel
theorem d_tc_takeAddress_22 : decode bc_tc_takeAddress 22 = .ok (.ifCond .ne 7, 3) := by decide +kernel
theorem d_tc_takeAddress_25 : decode bc_tc_takeAddress 25 = .ok (.iconst 1, 1) := by decide +kernel
theorem d_tc_takeAddress_26 : decode bc_tc_takeAddress 26 = .ok (.goto 4, 3) := by decide +kernel
theorem d_tc_takeAddress_29 : decode bc_tc_takeAddress 29 = .ok (.iconst 0, 1) := by decide +kernel
theorem d_tc_takeAddress_30 : decode bc_tc_takeAddress 30 = .ok (.invokevirtual 40, 3) := by decide +kernel
theorem d_tc_takeAddress_33 : decode bc_tc_takeAddress 33 = .ok (.return_, 1) := by decide +kernel
theorem d_tc_pullByte_0 : decode bc_tc_pullByte 0 = .ok (.aload_n 0, 1) := by decide +kernel
theorem d_tc_pullByte_1 : decode bc_tc_pullByte 1 = .ok (.getfield 19, 3) := by decide +kernel
theorem d_tc_pullByte_4 : decode bc_tc_pullByte 4 = .ok (.iload_n 1, 1) := by decide +kernel
theorem d_tc_pullByte_5 : decode bc_tc_pullByte 5 = .ok (.invokevirtual 82, 3) := by decide +kernel
theorem d_tc_pullByte_8 : decode bc_tc_pullByte 8 = .ok (.istore_n 2, 1) := by decide +kernel
theorem d_tc_pullByte_9 : decode bc_tc_pullByte 9 = .ok (.aload_n 0, 1) := by decide +kernel
theorem d_tc_pullByte_10 : decode bc_tc_pullByte 10 = .ok (.getfield 19, 3) := by decide +kernel
theorem d_tc_pullByte_13 : decode bc_tc_pullByte 13 = .ok (.iload_n 1, 1) := by decide +kernel
theorem d_tc_pullByte_14 : decode bc_tc_pullByte 14 = .ok (.iload_n 2, 1) := by decide +kernel
theorem d_tc_pullByte_15 : decode bc_tc_pullByte 15 = .ok (.iconst 1, 1) := by decide +kernel
theorem d_tc_pullByte_16 : decode bc_tc_pullByte 16 = .ok (.iadd, 1) := by decide +kernel
theorem d_tc_pullByte_17 : decode bc_tc_pullByte 17 = .ok (.invokevirtual 36, 3) := by decide +kernel
theorem d_tc_pullByte_20 : decode bc_tc_pullByte 20 = .ok (.aload_n 0, 1) := by decide +kernel
theorem d_tc_pullByte_21 : decode bc_tc_pullByte 21 = .ok (.getfield 10, 3) := by decide +kernel
theorem d_tc_pullByte_24 : decode bc_tc_pullByte 24 = .ok (.iload_n 2, 1) := by decide +kernel
theorem d_tc_pullByte_25 : decode bc_tc_pullByte 25 = .ok (.invokevirtual 67, 3) := by decide +kernel
theorem d_tc_pullByte_28 : decode bc_tc_pullByte 28 = .ok (.ireturn, 1) := by decide +kernel
theorem d_tc_pullWord_0 : decode bc_tc_pullWord 0 = .ok (.aload_n 0, 1) := by decide +kernel
theorem d_tc_pullWord_1 : decode bc_tc_pullWord 1 = .ok (.getfield 19, 3) := by decide +kernel
theorem d_tc_pullWord_4 : decode bc_tc_pullWord 4 = .ok (.iload_n 1, 1) := by decide +kernel
theorem d_tc_pullWord_5 : decode bc_tc_pullWord 5 = .ok (.invokevirtual 82, 3) := by decide +kernel
theorem d_tc_pullWord_8 : decode bc_tc_pullWord 8 = .ok (.istore_n 2, 1) := by decide +kernel
theorem d_tc_pullWord_9 : decode bc_tc_pullWord 9 = .ok (.aload_n 0, 1) := by decide +kernel
theorem d_tc_pullWord_10 : decode bc_tc_pullWord 10 = .ok (.getfield 19, 3) := by decide +kernel
theorem d_tc_pullWord_13 : decode bc_tc_pullWord 13 = .ok (.iload_n 1, 1) := by decide +kernel
theorem d_tc_pullWord_14 : decode bc_tc_pullWord 14 = .ok (.iload_n 2, 1) := by decide +kernel
theorem d_tc_pullWord_15 : decode bc_tc_pullWord 15 = .ok (.iconst 2, 1) := by decide +kernel
theorem d_tc_pullWord_16 : decode bc_tc_pullWord 16 = .ok (.iadd, 1) := by decide +kernel
theorem d_tc_pullWord_17 : decode bc_tc_pullWord 17 = .ok (.invokevirtual 36, 3) := by decide +kernel
theorem d_tc_pullWord_20 : decode bc_tc_pullWord 20 = .ok (.aload_n 0, 1) := by decide +kernel
theorem d_tc_pullWord_21 : decode bc_tc_pullWord 21 = .ok (.getfield 10, 3) := by decide +kernel
theorem d_tc_pullWord_24 : decode bc_tc_pullWord 24 = .ok (.iload_n 2, 1) := by decide +kernel
theorem d_tc_pullWord_25 : decode bc_tc_pullWord 25 = .ok (.invokevirtual 56, 3) := by decide +kernel
theorem d_tc_pullWord_28 : decode bc_tc_pullWord 28 = .ok (.ireturn, 1) := by decide +kernel
theorem d_tc_pullRegisters_0 : decode bc_tc_pullRegisters 0 = .ok (.iload_n 2, 1) := by decide +kernel
theorem d_tc_pullRegisters_1 : decode bc_tc_pullRegisters 1 = .ok (.iconst 1, 1) := by decide +kernel
theorem d_tc_pullRegisters_2 : decode bc_tc_pullRegisters 2 = .ok (.iand, 1) := by decide +kernel
theorem d_tc_pullRegisters_3 : decode bc_tc_pullRegisters 3 = .ok (.ifCond .eq 17, 3) := by decide +kernel
theorem d_tc_pullRegisters_6 : decode bc_tc_pullRegisters 6 = .ok (.aload_n 0, 1) := by decide +kernel
theorem d_tc_pullRegisters_7 : decode bc_tc_pullRegisters 7 = .ok (.getfield 19, 3) := by decide +kernel
theorem d_tc_pullRegisters_10 : decode bc_tc_pullRegisters 10 = .ok (.bipush 8, 2) := by decide +kernel
theorem d_tc_pullRegisters_12 : decode bc_tc_pullRegisters 12 = .ok (.aload_n 0, 1) := by decide +kernel
theorem d_tc_pullRegisters_13 : decode bc_tc_pullRegisters 13 = .ok (.iload_n 1, 1) := by decide +kernel
theorem d_tc_pullRegisters_14 : decode bc_tc_pullRegisters 14 = .ok (.invokevirtual 251, 3) := by decide +kernel
theorem d_tc_pullRegisters_17 : decode bc_tc_pullRegisters 17 = .ok (.invokevirtual 36, 3) := by decide +kernel
theorem d_tc_pullRegisters_20 : decode bc_tc_pullRegisters 20 = .ok (.iload_n 2, 1) := by decide +kernel
theorem d_tc_pullRegisters_21 : decode bc_tc_pullRegisters 21 = .ok (.iconst 2, 1) := by decide +kernel
theorem d_tc_pullRegisters_22 : decode bc_tc_pullRegisters 22 = .ok (.iand, 1) := by decide +kernel
theorem d_tc_pullRegisters_23 : decode bc_tc_pullRegisters 23 = .ok (.ifCond .eq 16, 3) := by decide +kernel
theorem d_tc_pullRegisters_26 : decode bc_tc_pullRegisters 26 = .ok (.aload_n 0, 1) := by decide +kernel
theorem d_tc_pullRegisters_27 : decode bc_tc_pullRegisters 27 = .ok (.getfield 19, 3) := by decide +kernel
theorem d_tc_pullRegisters_30 : decode bc_tc_pullRegisters 30 = .ok (.iconst 0, 1) := by decide +kernel
theorem d_tc_pullRegisters_31 : decode bc_tc_pullRegisters 31 = .ok (.aload_n 0, 1) := by decide +kernel
theorem d_tc_pullRegisters_32 : decode bc_tc_pullRegisters 32 = .ok (.iload_n 1, 1) := by decide +kernel
theorem d_tc_pullRegisters_33 : decode bc_tc_pullRegisters 33 = .ok (.invokevirtual 251, 3) := by decide +kernel
theorem d_tc_pullRegisters_36 : decode bc_tc_pullRegisters 36 = .ok (.invokevirtual 36, 3) := by decide +kernel
theorem d_tc_pullRegisters_39 : decode bc_tc_pullRegisters 39 = .ok (.iload_n 2, 1) := by decide +kernel
theorem d_tc_pullRegisters_40 : decode bc_tc_pullRegisters 40 = .ok (.iconst 4, 1) := by decide +kernel
theorem d_tc_pullRegisters_41 : decode bc_tc_pullRegisters 41 = .ok (.iand, 1) := by decide +kernel
theorem d_tc_pullRegisters_42 : decode bc_tc_pullRegisters 42 = .ok (.ifCond .eq 16, 3) := by decide +kernel
theorem d_tc_pullRegisters_45 : decode bc_tc_pullRegisters 45 = .ok (.aload_n 0, 1) := by decide +kernel
theorem d_tc_pullRegisters_46 : decode bc_tc_pullRegisters 46 = .ok (.getfield 19, 3) := by decide +kernel
theorem d_tc_pullRegisters_49 : decode bc_tc_pullRegisters 49 = .ok (.iconst 1, 1) := by decide +kernel
theorem d_tc_pullRegisters_50 : decode bc_tc_pullRegisters 50 = .ok (.aload_n 0, 1) := by decide +kernel
theorem d_tc_pullRegisters_51 : decode bc_tc_pullRegisters 51 = .ok (.iload_n 1, 1) := by decide +kernel
theorem d_tc_pullRegisters_52 : decode bc_tc_pullRegisters 52 = .ok (.invokevirtual 251, 3) := by decide +kernel
theorem d_tc_pullRegisters_55 : decode bc_tc_pullRegisters 55 = .ok (.invokevirtual 36, 3) := by decide +kernel
theorem d_tc_pullRegisters_58 : decode bc_tc_pullRegisters 58 = .ok (.iload_n 2, 1) := by decide +kernel
theorem d_tc_pullRegisters_59 : decode bc_tc_pullRegisters 59 = .ok (.bipush 8, 2) := by decide +kernel
theorem d_tc_pullRegisters_61 : decode bc_tc_pullRegisters 61 = .ok (.iand, 1) := by decide +kernel
theorem d_tc_pullRegisters_62 : decode bc_tc_pullRegisters 62 = .ok (.ifCond .eq 17, 3) := by decide +kernel
theorem d_tc_pullRegisters_65 : decode bc_tc_pullRegisters 65 = .ok (.aload_n 0, 1) := by decide +kernel
theorem d_tc_pullRegisters_66 : decode bc_tc_pullRegisters 66 = .ok (.getfield 19, 3) := by decide +kernel
theorem d_tc_pullRegisters_69 : decode bc_tc_pullRegisters 69 = .ok (.bipush 7, 2) := by decide +kernel
theorem d_tc_pullRegisters_71 : decode bc_tc_pullRegisters 71 = .ok (.aload_n 0, 1) := by decide +kernel
theorem d_tc_pullRegisters_72 : decode bc_tc_pullRegisters 72 = .ok (.iload_n 1, 1) := by decide +kernel
theorem d_tc_pullRegisters_73 : decode bc_tc_pullRegisters 73 = .ok (.invokevirtual 251, 3) := by decide +kernel
theorem d_tc_pullRegisters_76 : decode bc_tc_pullRegisters 76 = .ok (.invokevirtual 36, 3) := by decide +kernel
theorem d_tc_pullRegisters_79 : decode bc_tc_pullRegisters 79 = .ok (.iload_n 2, 1) := by decide +kernel
theorem d_tc_pullRegisters_80 : decode bc_tc_pullRegisters 80 = .ok (.bipush 16, 2) := by decide +kernel
theorem d_tc_pullRegisters_82 : decode bc_tc_pullRegisters 82 = .ok (.iand, 1) := by decide +kernel
theorem d_tc_pullRegisters_83 : decode bc_tc_pullRegisters 83 = .ok (.ifCond .eq 16, 3) := by decide +kernel
theorem d_tc_pullRegisters_86 : decode bc_tc_pullRegisters 86 = .ok (.aload_n 0, 1) := by decide +kernel
theorem d_tc_pullRegisters_87 : decode bc_tc_pullRegisters 87 = .ok (.getfield 19, 3) := by decide +kernel
theorem d_tc_pullRegisters_90 : decode bc_tc_pullRegisters 90 = .ok (.iconst 2, 1) := by decide +kernel
theorem d_tc_pullRegisters_91 : decode bc_tc_pullRegisters 91 = .ok (.aload_n 0, 1) := by decide +kernel
theorem d_tc_pullRegisters_92 : decode bc_tc_pullRegisters 92 = .ok (.iload_n 1, 1) := by decide +kernel
theorem d_tc_pullRegisters_93 : decode bc_tc_pullRegisters 93 = .ok (.invokevirtual 188, 3) := by decide +kernel
theorem d_tc_pullRegisters_96 : decode bc_tc_pullRegisters 96 = .ok (.invokevirtual 36, 3) := by decide +kernel
theorem d_tc_pullRegisters_99 : decode bc_tc_pullRegisters 99 = .ok (.iload_n 2, 1) := by decide +kernel
theorem d_tc_pullRegisters_100 : decode bc_tc_pullRegisters 100 = .ok (.bipush 32, 2) := by decide +kernel
theorem d_tc_pullRegisters_102 : decode bc_tc_pullRegisters 102 = .ok (.iand, 1) := by decide +kernel
theorem d_tc_pullRegisters_103 : decode bc_tc_pullRegisters 103 = .ok (.ifCond .eq 16, 3) := by decide +kernel
theorem d_tc_pullRegisters_106 : decode bc_tc_pullRegisters 106 = .ok (.aload_n 0, 1) := by decide +kernel
theorem d_tc_pullRegisters_107 : decode bc_tc_pullRegisters 107 = .ok (.getfield 19, 3) := by decide +kernel
theorem d_tc_pullRegisters_110 : decode bc_tc_pullRegisters 110 = .ok (.iconst 3, 1) := by decide +kernel
theorem d_tc_pullRegisters_111 : decode bc_tc_pullRegisters 111 = .ok (.aload_n 0, 1) := by decide +kernel
theorem d_tc_pullRegisters_112 : decode bc_tc_pullRegisters 112 = .ok (.iload_n 1, 1) := by decide +kernel
theorem d_tc_pullRegisters_113 : decode bc_tc_pullRegisters 113 = .ok (.invokevirtual 188, 3) := by decide +kernel
theorem d_tc_pullRegisters_116 : decode bc_tc_pullRegisters 116 = .ok (.invokevirtual 36, 3) := by decide +kernel
theorem d_tc_pullRegisters_119 : decode bc_tc_pullRegisters 119 = .ok (.iload_n 2, 1) := by decide +kernel
theorem d_tc_pullRegisters_120 : decode bc_tc_pullRegisters 120 = .ok (.bipush 64, 2) := by decide +kernel
theorem d_tc_pullRegisters_122 : decode bc_tc_pullRegisters 122 = .ok (.iand, 1) := by decide +kernel
theorem d_tc_pullRegisters_123 : decode bc_tc_pullRegisters 123 = .ok (.ifCond .eq 16, 3) := by decide +kernel
theorem d_tc_pullRegisters_126 : decode bc_tc_pullRegisters 126 = .ok (.aload_n 0, 1) := by decide +kernel
theorem d_tc_pullRegisters_127 : decode bc_tc_pullRegisters 127 = .ok (.iload_n 1, 1) := by decide +kernel
theorem d_tc_pullRegisters_128 : decode bc_tc_pullRegisters 128 = .ok (.invokestatic 245, 3) := by decide +kernel
theorem d_tc_pullRegisters_131 : decode bc_tc_pullRegisters 131 = .ok (.aload_n 0, 1) := by decide +kernel
theorem d_tc_pullRegisters_132 : decode bc_tc_pullRegisters 132 = .ok (.iload_n 1, 1) := by decide +kernel
theorem d_tc_pullRegisters_133 : decode bc_tc_pullRegisters 133 = .ok (.invokevirtual 188, 3) := by decide +kernel
theorem d_tc_pullRegisters_136 : decode bc_tc_pullRegisters 136 = .ok (.invokevirtual 203, 3) := by decide +kernel
theorem d_tc_pullRegisters_139 : decode bc_tc_pullRegisters 139 = .ok (.iload_n 2, 1) := by decide +kernel
theorem d_tc_pullRegisters_140 : decode bc_tc_pullRegisters 140 = .ok (.sipush 128, 3) := by decide +kernel
theorem d_tc_pullRegisters_143 : decode bc_tc_pullRegisters 143 = .ok (.iand, 1) := by decide +kernel
theorem d_tc_pullRegisters_144 : decode bc_tc_pullRegisters 144 = .ok (.ifCond .eq 17, 3) := by decide +kernel
theorem d_tc_pullRegisters_147 : decode bc_tc_pullRegisters 147 = .ok (.aload_n 0, 1) := by decide +kernel
theorem d_tc_pullRegisters_148 : decode bc_tc_pullRegisters 148 = .ok (.getfield 19, 3) := by decide +kernel
theorem d_tc_pullRegisters_151 : decode bc_tc_pullRegisters 151 = .ok (.bipush 6, 2) := by decide +kernel
theorem d_tc_pullRegisters_153 : decode bc_tc_pullRegisters 153 = .ok (.aload_n 0, 1) := by decide +kernel
theorem d_tc_pullRegisters_154 : decode bc_tc_pullRegisters 154 = .ok (.iload_n 1, 1) := by decide +kernel
theorem d_tc_pullRegisters_155 : decode bc_tc_pullRegisters 155 = .ok (.invokevirtual 188, 3) := by decide +kernel
theorem d_tc_pullRegisters_158 : decode bc_tc_pullRegisters 158 = .ok (.invokevirtual 36, 3) := by decide +kernel
theorem d_tc_pullRegisters_161 : decode bc_tc_pullRegisters 161 = .ok (.return_, 1) := by decide +kernel
theorem d_tc_returnFromInterrupt_0 : decode bc_tc_returnFromInterrupt 0 = .ok (.aload_n 0, 1) := by decide +kernel
theorem d_tc_returnFromInterrupt_1 : decode bc_tc_returnFromInterrupt 1 = .ok (.getfield 19, 3) := by decide +kernel
theorem d_tc_returnFromInterrupt_4 : decode bc_tc_returnFromInterrupt 4 = .ok (.bipush 8, 2) := by decide +kernel
theorem d_tc_returnFromInterrupt_6 : decode bc_tc_returnFromInterrupt 6 = .ok (.aload_n 0, 1) := by decide +kernel
theorem d_tc_returnFromInterrupt_7 : decode bc_tc_returnFromInterrupt 7 = .ok (.iconst 5, 1) := by decide +kernel
theorem d_tc_returnFromInterrupt_8 : decode bc_tc_returnFromInterrupt 8 = .ok (.invokevirtual 251, 3) := by decide +kernel
theorem d_tc_returnFromInterrupt_11 : decode bc_tc_returnFromInterrupt 11 = .ok (.invokevirtual 36, 3) := by decide +kernel
theorem d_tc_returnFromInterrupt_14 : decode bc_tc_returnFromInterrupt 14 = .ok (.aload_n 0, 1) := by decide +kernel
theorem d_tc_returnFromInterrupt_15 : decode bc_tc_returnFromInterrupt 15 = .ok (.iconst 5, 1) := by decide +kernel
theorem d_tc_returnFromInterrupt_16 : decode bc_tc_returnFromInterrupt 16 = .ok (.aload_n 0, 1) := by decide +kernel
theorem d_tc_returnFromInterrupt_17 : decode bc_tc_returnFromInterrupt 17 = .ok (.getfield 19, 3) := by decide +kernel
theorem d_tc_returnFromInterrupt_20 : decode bc_tc_returnFromInterrupt 20 = .ok (.sipush 128, 3) := by decide +kernel
theorem d_tc_returnFromInterrupt_23 : decode bc_tc_returnFromInterrupt 23 = .ok (.invokevirtual 103, 3) := by decide +kernel
theorem d_tc_returnFromInterrupt_26 : decode bc_tc_returnFromInterrupt 26 = .ok (.ifCond .eq 9, 3) := by decide +kernel
theorem d_tc_returnFromInterrupt_29 : decode bc_tc_returnFromInterrupt 29 = .ok (.sipush 254, 3) := by decide +kernel
theorem d_tc_returnFromInterrupt_32 : decode bc_tc_returnFromInterrupt 32 = .ok (.goto 6, 3) := by decide +kernel
theorem d_tc_returnFromInterrupt_35 : decode bc_tc_returnFromInterrupt 35 = .ok (.sipush 128, 3) := by decide +kernel
theorem d_tc_returnFromInterrupt_38 : decode bc_tc_returnFromInterrupt 38 = .ok (.invokevirtual 185, 3) := by decide +kernel
theorem d_tc_returnFromInterrupt_41 : decode bc_tc_returnFromInterrupt 41 = .ok (.return_, 1) := by decide +kernel
theorem d_tc_waitForInterrupt_0 : decode bc_tc_waitForInterrupt 0 = .ok (.aload_n 0, 1) := by decide +kernel
theorem d_tc_waitForInterrupt_1 : decode bc_tc_waitForInterrupt 1 = .ok (.getfield 19, 3) := by decide +kernel
theorem d_tc_waitForInterrupt_4 : decode bc_tc_waitForInterrupt 4 = .ok (.bipush 8, 2) := by decide +kernel
theorem d_tc_waitForInterrupt_6 : decode bc_tc_waitForInterrupt 6 = .ok (.aload_n 0, 1) := by decide +kernel
theorem d_tc_waitForInterrupt_7 : decode bc_tc_waitForInterrupt 7 = .ok (.getfield 19, 3) := by decide +kernel
theorem d_tc_waitForInterrupt_10 : decode bc_tc_waitForInterrupt 10 = .ok (.bipush 8, 2) := by decide +kernel
theorem d_tc_waitForInterrupt_12 : decode bc_tc_waitForInterrupt 12 = .ok (.invokevirtual 82, 3) := by decide +kernel
theorem d_tc_waitForInterrupt_15 : decode bc_tc_waitForInterrupt 15 = .ok (.iload_n 1, 1) := by decide +kernel
theorem d_tc_waitForInterrupt_16 : decode bc_tc_waitForInterrupt 16 = .ok (.iand, 1) := by decide +kernel
theorem d_tc_waitForInterrupt_17 : decode bc_tc_waitForInterrupt 17 = .ok (.sipush 128, 3) := by decide +kernel
theorem d_tc_waitForInterrupt_20 : decode bc_tc_waitForInterrupt 20 = .ok (.ior, 1) := by decide +kernel
theorem d_tc_waitForInterrupt_21 : decode bc_tc_waitForInterrupt 21 = .ok (.invokevirtual 36, 3) := by decide +kernel
theorem d_tc_waitForInterrupt_24 : decode bc_tc_waitForInterrupt 24 = .ok (.aload_n 0, 1) := by decide +kernel
theorem d_tc_waitForInterrupt_25 : decode bc_tc_waitForInterrupt 25 = .ok (.iconst 5, 1) := by decide +kernel
theorem d_tc_waitForInterrupt_26 : decode bc_tc_waitForInterrupt 26 = .ok (.sipush 255, 3) := by decide +kernel
theorem d_tc_waitForInterrupt_29 : decode bc_tc_waitForInterrupt 29 = .ok (.invokevirtual 104, 3) := by decide +kernel
theorem d_tc_waitForInterrupt_32 : decode bc_tc_waitForInterrupt 32 = .ok (.aload_n 0, 1) := by decide +kernel
theorem d_tc_waitForInterrupt_33 : decode bc_tc_waitForInterrupt 33 = .ok (.iconst 2, 1) := by decide +kernel
theorem d_tc_waitForInterrupt_34 : decode bc_tc_waitForInterrupt 34 = .ok (.putfield 51, 3) := by decide +kernel
theorem d_tc_waitForInterrupt_37 : decode bc_tc_waitForInterrupt 37 = .ok (.return_, 1) := by decide +kernel
theorem d_tc_softwareInterrupt_0 : decode bc_tc_softwareInterrupt 0 = .ok (.aload_n 0, 1) := by decide +kernel
theorem d_tc_softwareInterrupt_1 : decode bc_tc_softwareInterrupt 1 = .ok (.getfield 19, 3) := by decide +kernel
theorem d_tc_softwareInterrupt_4 : decode bc_tc_softwareInterrupt 4 = .ok (.sipush 128, 3) := by decide +kernel
theorem d_tc_softwareInterrupt_7 : decode bc_tc_softwareInterrupt 7 = .ok (.iconst 1, 1) := by decide +kernel
theorem d_tc_softwareInterrupt_8 : decode bc_tc_softwareInterrupt 8 = .ok (.invokevirtual 40, 3) := by decide +kernel
theorem d_tc_softwareInterrupt_11 : decode bc_tc_softwareInterrupt 11 = .ok (.aload_n 0, 1) := by decide +kernel
theorem d_tc_softwareInterrupt_12 : decode bc_tc_softwareInterrupt 12 = .ok (.iconst 5, 1) := by decide +kernel
theorem d_tc_softwareInterrupt_13 : decode bc_tc_softwareInterrupt 13 = .ok (.sipush 255, 3) := by decide +kernel
theorem d_tc_softwareInterrupt_16 : decode bc_tc_softwareInterrupt 16 = .ok (.invokevirtual 104, 3) := by decide +kernel
theorem d_tc_softwareInterrupt_19 : decode bc_tc_softwareInterrupt 19 = .ok (.iload_n 1, 1) := by decide +kernel
theorem d_tc_softwareInterrupt_20 : decode bc_tc_softwareInterrupt 20 = .ok (.ifCond .ne 13, 3) := by decide +kernel
theorem d_tc_softwareInterrupt_23 : decode bc_tc_softwareInterrupt 23 = .ok (.aload_n 0, 1) := by decide +kernel
theorem d_tc_softwareInterrupt_24 : decode bc_tc_softwareInterrupt 24 = .ok (.getfield 19, 3) := by decide +kernel
theorem d_tc_softwareInterrupt_27 : decode bc_tc_softwareInterrupt 27 = .ok (.bipush 80, 2) := by decide +kernel
theorem d_tc_softwareInterrupt_29 : decode bc_tc_softwareInterrupt 29 = .ok (.iconst 1, 1) := by decide +kernel
theorem d_tc_softwareInterrupt_30 : decode bc_tc_softwareInterrupt 30 = .ok (.invokevirtual 40, 3) := by decide +kernel
theorem d_tc_softwareInterrupt_33 : decode bc_tc_softwareInterrupt 33 = .ok (.aload_n 0, 1) := by decide +kernel
theorem d_tc_softwareInterrupt_34 : decode bc_tc_softwareInterrupt 34 = .ok (.getfield 19, 3) := by decide +kernel
theorem d_tc_softwareInterrupt_37 : decode bc_tc_softwareInterrupt 37 = .ok (.bipush 6, 2) := by decide +kernel
theorem d_tc_softwareInterrupt_39 : decode bc_tc_softwareInterrupt 39 = .ok (.aload_n 0, 1) := by decide +kernel
theorem d_tc_softwareInterrupt_40 : decode bc_tc_softwareInterrupt 40 = .ok (.getfield 10, 3) := by decide +kernel
theorem d_tc_softwareInterrupt_43 : decode bc_tc_softwareInterrupt 43 = .ok (.getstatic 110, 3) := by decide +kernel
theorem d_tc_softwareInterrupt_46 : decode bc_tc_softwareInterrupt 46 = .ok (.iload_n 1, 1) := by decide +kernel
theorem d_tc_softwareInterrupt_47 : decode bc_tc_softwareInterrupt 47 = .ok (.iaload, 1) := by decide +kernel
theorem d_tc_softwareInterrupt_48 : decode bc_tc_softwareInterrupt 48 = .ok (.invokevirtual 56, 3) := by decide +kernel
theorem d_tc_softwareInterrupt_51 : decode bc_tc_softwareInterrupt 51 = .ok (.invokevirtual 36, 3) := by decide +kernel
theorem d_tc_softwareInterrupt_54 : decode bc_tc_softwareInterrupt 54 = .ok (.return_, 1) := by decide +kernel
theorem d_tc_executeRowThree_0 : decode bc_tc_executeRowThree 0 = .ok (.iload_n 2, 1) := by decide +kernel
theorem d_tc_executeRowThree_1 : decode bc_tc_executeRowThree 1 = .ok (.tableswitch 208 0 13 #[71, 71, 71, 71, 87, 99, 111, 123, 208, 135, 152, 180, 187, 198], 71) := by decide +kernel
theorem d_tc_executeRowThree_72 : decode bc_tc_executeRowThree 72 = .ok (.aload_n 0, 1) := by decide +kernel
theorem d_tc_executeRowThree_73 : decode bc_tc_executeRowThree 73 = .ok (.getstatic 179, 3) := by decide +kernel
theorem d_tc_executeRowThree_76 : decode bc_tc_executeRowThree 76 = .ok (.iload_n 2, 1) := by decide +kernel
theorem d_tc_executeRowThree_77 : decode bc_tc_executeRowThree 77 = .ok (.iaload, 1) := by decide +kernel
theorem d_tc_executeRowThree_78 : decode bc_tc_executeRowThree 78 = .ok (.aload_n 0, 1) := by decide +kernel
theorem d_tc_executeRowThree_79 : decode bc_tc_executeRowThree 79 = .ok (.invokevirtual 132, 3) := by decide +kernel
theorem d_tc_executeRowThree_82 : decode bc_tc_executeRowThree 82 = .ok (.invokevirtual 182, 3) := by decide +kernel
theorem d_tc_executeRowThree_85 : decode bc_tc_executeRowThree 85 = .ok (.goto 129, 3) := by decide +kernel
theorem d_tc_executeRowThree_88 : decode bc_tc_executeRowThree 88 = .ok (.aload_n 0, 1) := by decide +kernel
theorem d_tc_executeRowThree_89 : decode bc_tc_executeRowThree 89 = .ok (.iconst 5, 1) := by decide +kernel
theorem d_tc_executeRowThree_90 : decode bc_tc_executeRowThree 90 = .ok (.aload_n 0, 1) := by decide +kernel
theorem d_tc_executeRowThree_91 : decode bc_tc_executeRowThree 91 = .ok (.invokevirtual 113, 3) := by decide +kernel
theorem d_tc_executeRowThree_94 : decode bc_tc_executeRowThree 94 = .ok (.invokevirtual 104, 3) := by decide +kernel
theorem d_tc_executeRowThree_97 : decode bc_tc_executeRowThree 97 = .ok (.goto 117, 3) := by decide +kernel
theorem d_tc_executeRowThree_100 : decode bc_tc_executeRowThree 100 = .ok (.aload_n 0, 1) := by decide +kernel
theorem d_tc_executeRowThree_101 : decode bc_tc_executeRowThree 101 = .ok (.iconst 5, 1) := by decide +kernel
theorem d_tc_executeRowThree_102 : decode bc_tc_executeRowThree 102 = .ok (.aload_n 0, 1) := by decide +kernel
theorem d_tc_executeRowThree_103 : decode bc_tc_executeRowThree 103 = .ok (.invokevirtual 113, 3) := by decide +kernel
theorem d_tc_executeRowThree_106 : decode bc_tc_executeRowThree 106 = .ok (.invokevirtual 185, 3) := by decide +kernel
theorem d_tc_executeRowThree_109 : decode bc_tc_executeRowThree 109 = .ok (.goto 105, 3) := by decide +kernel
theorem d_tc_executeRowThree_112 : decode bc_tc_executeRowThree 112 = .ok (.aload_n 0, 1) := by decide +kernel
theorem d_tc_executeRowThree_113 : decode bc_tc_executeRowThree 113 = .ok (.iconst 4, 1) := by decide +kernel
theorem d_tc_executeRowThree_114 : decode bc_tc_executeRowThree 114 = .ok (.aload_n 0, 1) := by decide +kernel
theorem d_tc_executeRowThree_115 : decode bc_tc_executeRowThree 115 = .ok (.invokevirtual 113, 3) := by decide +kernel
theorem d_tc_executeRowThree_118 : decode bc_tc_executeRowThree 118 = .ok (.invokevirtual 104, 3) := by decide +kernel
theorem d_tc_executeRowThree_121 : decode bc_tc_executeRowThree 121 = .ok (.goto 93, 3) := by decide +kernel
theorem d_tc_executeRowThree_124 : decode bc_tc_executeRowThree 124 = .ok (.aload_n 0, 1) := by decide +kernel
theorem d_tc_executeRowThree_125 : decode bc_tc_executeRowThree 125 = .ok (.iconst 4, 1) := by decide +kernel
theorem d_tc_executeRowThree_126 : decode bc_tc_executeRowThree 126 = .ok (.aload_n 0, 1) := by decide +kernel
theorem d_tc_executeRowThree_127 : decode bc_tc_executeRowThree 127 = .ok (.invokevirtual 113, 3) := by decide +kernel
theorem d_tc_executeRowThree_130 : decode bc_tc_executeRowThree 130 = .ok (.invokevirtual 185, 3) := by decide +kernel
theorem d_tc_executeRowThree_133 : decode bc_tc_executeRowThree 133 = .ok (.goto 81, 3) := by decide +kernel
theorem d_tc_executeRowThree_136 : decode bc_tc_executeRowThree 136 = .ok (.aload_n 0, 1) := by decide +kernel
theorem d_tc_executeRowThree_137 : decode bc_tc_executeRowThree 137 = .ok (.getfield 19, 3) := by decide +kernel
theorem d_tc_executeRowThree_140 : decode bc_tc_executeRowThree 140 = .ok (.bipush 6, 2) := by decide +kernel
theorem d_tc_executeRowThree_142 : decode bc_tc_executeRowThree 142 = .ok (.aload_n 0, 1) := by decide +kernel
theorem d_tc_executeRowThree_143 : decode bc_tc_executeRowThree 143 = .ok (.iconst 5, 1) := by decide +kernel
theorem d_tc_executeRowThree_144 : decode bc_tc_executeRowThree 144 = .ok (.invokevirtual 188, 3) := by decide +kernel
theorem d_tc_executeRowThree_147 : decode bc_tc_executeRowThree 147 = .ok (.invokevirtual 36, 3) := by decide +kernel
theorem d_tc_executeRowThree_150 : decode bc_tc_executeRowThree 150 = .ok (.goto 64, 3) := by decide +kernel
theorem d_tc_executeRowThree_153 : decode bc_tc_executeRowThree 153 = .ok (.aload_n 0, 1) := by decide +kernel
theorem d_tc_executeRowThree_154 : decode bc_tc_executeRowThree 154 = .ok (.getfield 19, 3) := by decide +kernel
theorem d_tc_executeRowThree_157 : decode bc_tc_executeRowThree 157 = .ok (.iconst 2, 1) := by decide +kernel
theorem d_tc_executeRowThree_158 : decode bc_tc_executeRowThree 158 = .ok (.aload_n 0, 1) := by decide +kernel
theorem d_tc_executeRowThree_159 : decode bc_tc_executeRowThree 159 = .ok (.getfield 19, 3) := by decide +kernel
theorem d_tc_executeRowThree_162 : decode bc_tc_executeRowThree 162 = .ok (.iconst 2, 1) := by decide +kernel
theorem d_tc_executeRowThree_163 : decode bc_tc_executeRowThree 163 = .ok (.invokevirtual 82, 3) := by decide +kernel
theorem d_tc_executeRowThree_166 : decode bc_tc_executeRowThree 166 = .ok (.aload_n 0, 1) := by decide +kernel
theorem d_tc_executeRowThree_167 : decode bc_tc_executeRowThree 167 = .ok (.getfield 19, 3) := by decide +kernel
theorem d_tc_executeRowThree_170 : decode bc_tc_executeRowThree 170 = .ok (.iconst 1, 1) := by decide +kernel
theorem d_tc_executeRowThree_171 : decode bc_tc_executeRowThree 171 = .ok (.invokevirtual 82, 3) := by decide +kernel
theorem d_tc_executeRowThree_174 : decode bc_tc_executeRowThree 174 = .ok (.iadd, 1) := by decide +kernel
theorem d_tc_executeRowThree_175 : decode bc_tc_executeRowThree 175 = .ok (.invokevirtual 36, 3) := by decide +kernel
theorem d_tc_executeRowThree_178 : decode bc_tc_executeRowThree 178 = .ok (.goto 36, 3) := by decide +kernel
theorem d_tc_executeRowThree_181 : decode bc_tc_executeRowThree 181 = .ok (.aload_n 0, 1) := by decide +kernel
theorem d_tc_executeRowThree_182 : decode bc_tc_executeRowThree 182 = .ok (.invokevirtual 191, 3) := by decide +kernel
theorem d_tc_executeRowThree_185 : decode bc_tc_executeRowThree 185 = .ok (.goto 29, 3) := by decide +kernel
theorem d_tc_executeRowThree_188 : decode bc_tc_executeRowThree 188 = .ok (.aload_n 0, 1) := by decide +kernel
theorem d_tc_executeRowThree_189 : decode bc_tc_executeRowThree 189 = .ok (.aload_n 0, 1) := by decide +kernel
theorem d_tc_executeRowThree_190 : decode bc_tc_executeRowThree 190 = .ok (.invokevirtual 113, 3) := by decide +kernel
theorem d_tc_executeRowThree_193 : decode bc_tc_executeRowThree 193 = .ok (.invokevirtual 194, 3) := by decide +kernel
theorem d_tc_executeRowThree_196 : decode bc_tc_executeRowThree 196 = .ok (.goto 18, 3) := by decide +kernel
theorem d_tc_executeRowThree_199 : decode bc_tc_executeRowThree 199 = .ok (.aload_n 0, 1) := by decide +kernel
theorem d_tc_executeRowThree_200 : decode bc_tc_executeRowThree 200 = .ok (.getfield 28, 3) := by decide +kernel
theorem d_tc_executeRowThree_203 : decode bc_tc_executeRowThree 203 = .ok (.invokevirtual 197, 3) := by decide +kernel
theorem d_tc_executeRowThree_206 : decode bc_tc_executeRowThree 206 = .ok (.goto 8, 3) := by decide +kernel
theorem d_tc_executeRowThree_209 : decode bc_tc_executeRowThree 209 = .ok (.aload_n 0, 1) := by decide +kernel
theorem d_tc_executeRowThree_210 : decode bc_tc_executeRowThree 210 = .ok (.iload_n 1, 1) := by decide +kernel
theorem d_tc_executeRowThree_211 : decode bc_tc_executeRowThree 211 = .ok (.invokevirtual 200, 3) := by decide +kernel
theorem d_tc_executeRowThree_214 : decode bc_tc_executeRowThree 214 = .ok (.return_, 1) := by decide +kernel
theorem d_tc_operandAddress_0 : decode bc_tc_operandAddress 0 = .ok (.iload_n 1, 1) := by decide +kernel
theorem d_tc_operandAddress_1 : decode bc_tc_operandAddress 1 = .ok (.tableswitch 74 0 2 #[27, 51, 69], 27) := by decide +kernel
theorem d_tc_operandAddress_28 : decode bc_tc_operandAddress 28 = .ok (.aload_n 0, 1) := by decide +kernel
theorem d_tc_operandAddress_29 : decode bc_tc_operandAddress 29 = .ok (.getfield 19, 3) := by decide +kernel
theorem d_tc_operandAddress_32 : decode bc_tc_operandAddress 32 = .ok (.bipush 6, 2) := by decide +kernel
theorem d_tc_operandAddress_34 : decode bc_tc_operandAddress 34 = .ok (.invokevirtual 82, 3) := by decide +kernel
theorem d_tc_operandAddress_37 : decode bc_tc_operandAddress 37 = .ok (.istore_n 3, 1) := by decide +kernel
theorem d_tc_operandAddress_38 : decode bc_tc_operandAddress 38 = .ok (.aload_n 0, 1) := by decide +kernel
theorem d_tc_operandAddress_39 : decode bc_tc_operandAddress 39 = .ok (.getfield 19, 3) := by decide +kernel
theorem d_tc_operandAddress_42 : decode bc_tc_operandAddress 42 = .ok (.bipush 6, 2) := by decide +kernel
theorem d_tc_operandAddress_44 : decode bc_tc_operandAddress 44 = .ok (.iload_n 3, 1) := by decide +kernel
theorem d_tc_operandAddress_45 : decode bc_tc_operandAddress 45 = .ok (.iload_n 2, 1) := by decide +kernel
theorem d_tc_operandAddress_46 : decode bc_tc_operandAddress 46 = .ok (.iadd, 1) := by decide +kernel
theorem d_tc_operandAddress_47 : decode bc_tc_operandAddress 47 = .ok (.invokevirtual 36, 3) := by decide +kernel
theorem d_tc_operandAddress_50 : decode bc_tc_operandAddress 50 = .ok (.iload_n 3, 1) := by decide +kernel
theorem d_tc_operandAddress_51 : decode bc_tc_operandAddress 51 = .ok (.ireturn, 1) := by decide +kernel
theorem d_tc_operandAddress_52 : decode bc_tc_operandAddress 52 = .ok (.aload_n 0, 1) := by decide +kernel
theorem d_tc_operandAddress_53 : decode bc_tc_operandAddress 53 = .ok (.getfield 19, 3) := by decide +kernel
theorem d_tc_operandAddress_56 : decode bc_tc_operandAddress 56 = .ok (.bipush 7, 2) := by decide +kernel
theorem d_tc_operandAddress_58 : decode bc_tc_operandAddress 58 = .ok (.invokevirtual 82, 3) := by decide +kernel
theorem d_tc_operandAddress_61 : decode bc_tc_operandAddress 61 = .ok (.bipush 8, 2) := by decide +kernel
theorem d_tc_operandAddress_63 : decode bc_tc_operandAddress 63 = .ok (.ishl, 1) := by decide +kernel
theorem d_tc_operandAddress_64 : decode bc_tc_operandAddress 64 = .ok (.aload_n 0, 1) := by decide +kernel
theorem d_tc_operandAddress_65 : decode bc_tc_operandAddress 65 = .ok (.invokevirtual 113, 3) := by decide +kernel
theorem d_tc_operandAddress_68 : decode bc_tc_operandAddress 68 = .ok (.ior, 1) := by decide +kernel
theorem d_tc_operandAddress_69 : decode bc_tc_operandAddress 69 = .ok (.ireturn, 1) := by decide +kernel
theorem d_tc_operandAddress_70 : decode bc_tc_operandAddress 70 = .ok (.aload_n 0, 1) := by decide +kernel
theorem d_tc_operandAddress_71 : decode bc_tc_operandAddress 71 = .ok (.invokevirtual 132, 3) := by decide +kernel
theorem d_tc_operandAddress_74 : decode bc_tc_operandAddress 74 = .ok (.ireturn, 1) := by decide +kernel
theorem d_tc_operandAddress_75 : decode bc_tc_operandAddress 75 = .ok (.aload_n 0, 1) := by decide +kernel
theorem d_tc_operandAddress_76 : decode bc_tc_operandAddress 76 = .ok (.invokevirtual 135, 3) := by decide +kernel
theorem d_tc_operandAddress_79 : decode bc_tc_operandAddress 79 = .ok (.ireturn, 1) := by decide +kernel
theorem d_tc_alterMemory_0 : decode bc_tc_alterMemory 0 = .ok (.iload_n 1, 1) := by decide +kernel
theorem d_tc_alterMemory_1 : decode bc_tc_alterMemory 1 = .ok (.bipush 14, 2) := by decide +kernel
theorem d_tc_alterMemory_3 : decode bc_tc_alterMemory 3 = .ok (.if_icmp .ne 16, 3) := by decide +kernel
theorem d_tc_alterMemory_6 : decode bc_tc_alterMemory 6 = .ok (.aload_n 0, 1) := by decide +kernel
theorem d_tc_alterMemory_7 : decode bc_tc_alterMemory 7 = .ok (.getfield 19, 3) := by decide +kernel
theorem d_tc_alterMemory_10 : decode bc_tc_alterMemory 10 = .ok (.bipush 6, 2) := by decide +kernel
theorem d_tc_alterMemory_12 : decode bc_tc_alterMemory 12 = .ok (.iload_n 2, 1) := by decide +kernel
theorem d_tc_alterMemory_13 : decode bc_tc_alterMemory 13 = .ok (.invokevirtual 36, 3) := by decide +kernel
theorem d_tc_alterMemory_16 : decode bc_tc_alterMemory 16 = .ok (.goto 27, 3) := by decide +kernel
theorem d_tc_alterMemory_19 : decode bc_tc_alterMemory 19 = .ok (.aload_n 0, 1) := by decide +kernel
theorem d_tc_alterMemory_20 : decode bc_tc_alterMemory 20 = .ok (.getfield 10, 3) := by decide +kernel
theorem d_tc_alterMemory_23 : decode bc_tc_alterMemory 23 = .ok (.iload_n 2, 1) := by decide +kernel
theorem d_tc_alterMemory_24 : decode bc_tc_alterMemory 24 = .ok (.aload_n 0, 1) := by decide +kernel
theorem d_tc_alterMemory_25 : decode bc_tc_alterMemory 25 = .ok (.getfield 28, 3) := by decide +kernel
theorem d_tc_alterMemory_28 : decode bc_tc_alterMemory 28 = .ok (.iload_n 1, 1) := by decide +kernel
theorem d_tc_alterMemory_29 : decode bc_tc_alterMemory 29 = .ok (.aload_n 0, 1) := by decide +kernel
theorem d_tc_alterMemory_30 : decode bc_tc_alterMemory 30 = .ok (.getfield 10, 3) := by decide +kernel
theorem d_tc_alterMemory_33 : decode bc_tc_alterMemory 33 = .ok (.iload_n 2, 1) := by decide +kernel
theorem d_tc_alterMemory_34 : decode bc_tc_alterMemory 34 = .ok (.invokevirtual 67, 3) := by decide +kernel
theorem d_tc_alterMemory_37 : decode bc_tc_alterMemory 37 = .ok (.invokevirtual 152, 3) := by decide +kernel
theorem d_tc_alterMemory_40 : decode bc_tc_alterMemory 40 = .ok (.invokevirtual 64, 3) := by decide +kernel
theorem d_tc_alterMemory_43 : decode bc_tc_alterMemory 43 = .ok (.return_, 1) := by decide +kernel
theorem d_tc_executeLowerHalf_0 : decode bc_tc_executeLowerHalf 0 = .ok (.iload_n 1, 1) := by decide +kernel
theorem d_tc_executeLowerHalf_1 : decode bc_tc_executeLowerHalf 1 = .ok (.bipush 8, 2) := by decide +kernel
theorem d_tc_executeLowerHalf_3 : decode bc_tc_executeLowerHalf 3 = .ok (.ishr, 1) := by decide +kernel
theorem d_tc_executeLowerHalf_4 : decode bc_tc_executeLowerHalf 4 = .ok (.istore_n 2, 1) := by decide +kernel
theorem d_tc_executeLowerHalf_5 : decode bc_tc_executeLowerHalf 5 = .ok (.iload_n 1, 1) := by decide +kernel
theorem d_tc_executeLowerHalf_6 : decode bc_tc_executeLowerHalf 6 = .ok (.iconst 4, 1) := by decide +kernel
theorem d_tc_executeLowerHalf_7 : decode bc_tc_executeLowerHalf 7 = .ok (.ishr, 1) := by decide +kernel
theorem d_tc_executeLowerHalf_8 : decode bc_tc_executeLowerHalf 8 = .ok (.bipush 7, 2) := by decide +kernel
theorem d_tc_executeLowerHalf_10 : decode bc_tc_executeLowerHalf 10 = .ok (.iand, 1) := by decide +kernel
theorem d_tc_executeLowerHalf_11 : decode bc_tc_executeLowerHalf 11 = .ok (.istore_n 3, 1) := by decide +kernel
theorem d_tc_executeLowerHalf_12 : decode bc_tc_executeLowerHalf 12 = .ok (.iload_n 1, 1) := by decide +kernel
theorem d_tc_executeLowerHalf_13 : decode bc_tc_executeLowerHalf 13 = .ok (.bipush 15, 2) := by decide +kernel
theorem d_tc_executeLowerHalf_15 : decode bc_tc_executeLowerHalf 15 = .ok (.iand, 1) := by decide +kernel
theorem d_tc_executeLowerHalf_16 : decode bc_tc_executeLowerHalf 16 = .ok (.istore 4, 2) := by decide +kernel
theorem d_tc_executeLowerHalf_18 : decode bc_tc_executeLowerHalf 18 = .ok (.iload_n 3, 1) := by decide +kernel
theorem d_tc_executeLowerHalf_19 : decode bc_tc_executeLowerHalf 19 = .ok (.tableswitch 133 1 5 #[33, 42, 67, 77, 105], 33) := by decide +kernel
theorem d_tc_executeLowerHalf_52 : decode bc_tc_executeLowerHalf 52 = .ok (.aload_n 0, 1) := by decide +kernel
theorem d_tc_executeLowerHalf_53 : decode bc_tc_executeLowerHalf 53 = .ok (.iload 4, 2) := by decide +kernel
theorem d_tc_executeLowerHalf_55 : decode bc_tc_executeLowerHalf 55 = .ok (.invokevirtual 143, 3) := by decide +kernel
theorem d_tc_executeLowerHalf_58 : decode bc_tc_executeLowerHalf 58 = .ok (.goto 116, 3) := by decide +kernel
theorem d_tc_executeLowerHalf_61 : decode bc_tc_executeLowerHalf 61 = .ok (.aload_n 0, 1) := by decide +kernel
theorem d_tc_executeLowerHalf_62 : decode bc_tc_executeLowerHalf 62 = .ok (.iload 4, 2) := by decide +kernel
theorem d_tc_executeLowerHalf_64 : decode bc_tc_executeLowerHalf 64 = .ok (.iload_n 2, 1) := by decide +kernel
theorem d_tc_executeLowerHalf_65 : decode bc_tc_executeLowerHalf 65 = .ok (.ifCond .ne 11, 3) := by decide +kernel
theorem d_tc_executeLowerHalf_68 : decode bc_tc_executeLowerHalf 68 = .ok (.aload_n 0, 1) := by decide +kernel
theorem d_tc_executeLowerHalf_69 : decode bc_tc_executeLowerHalf 69 = .ok (.invokevirtual 113, 3) := by decide +kernel
theorem d_tc_executeLowerHalf_72 : decode bc_tc_executeLowerHalf 72 = .ok (.i2b, 1) := by decide +kernel
theorem d_tc_executeLowerHalf_73 : decode bc_tc_executeLowerHalf 73 = .ok (.goto 7, 3) := by decide +kernel
theorem d_tc_executeLowerHalf_76 : decode bc_tc_executeLowerHalf 76 = .ok (.aload_n 0, 1) := by decide +kernel
theorem d_tc_executeLowerHalf_77 : decode bc_tc_executeLowerHalf 77 = .ok (.invokevirtual 135, 3) := by decide +kernel
theorem d_tc_executeLowerHalf_80 : decode bc_tc_executeLowerHalf 80 = .ok (.invokevirtual 146, 3) := by decide +kernel
theorem d_tc_executeLowerHalf_83 : decode bc_tc_executeLowerHalf 83 = .ok (.goto 91, 3) := by decide +kernel
theorem d_tc_executeLowerHalf_86 : decode bc_tc_executeLowerHalf 86 = .ok (.aload_n 0, 1) := by decide +kernel
theorem d_tc_executeLowerHalf_87 : decode bc_tc_executeLowerHalf 87 = .ok (.iload_n 2, 1) := by decide +kernel
theorem d_tc_executeLowerHalf_88 : decode bc_tc_executeLowerHalf 88 = .ok (.iload 4, 2) := by decide +kernel
theorem d_tc_executeLowerHalf_90 : decode bc_tc_executeLowerHalf 90 = .ok (.invokevirtual 149, 3) := by decide +kernel
theorem d_tc_executeLowerHalf_93 : decode bc_tc_executeLowerHalf 93 = .ok (.goto 81, 3) := by decide +kernel
theorem d_tc_executeLowerHalf_96 : decode bc_tc_executeLowerHalf 96 = .ok (.aload_n 0, 1) := by decide +kernel
theorem d_tc_executeLowerHalf_97 : decode bc_tc_executeLowerHalf 97 = .ok (.getfield 19, 3) := by decide +kernel
theorem d_tc_executeLowerHalf_100 : decode bc_tc_executeLowerHalf 100 = .ok (.iconst 0, 1) := by decide +kernel
theorem d_tc_executeLowerHalf_101 : decode bc_tc_executeLowerHalf 101 = .ok (.aload_n 0, 1) := by decide +kernel
theorem d_tc_executeLowerHalf_102 : decode bc_tc_executeLowerHalf 102 = .ok (.getfield 28, 3) := by decide +kernel
theorem d_tc_executeLowerHalf_105 : decode bc_tc_executeLowerHalf 105 = .ok (.iload 4, 2) := by decide +kernel
theorem d_tc_executeLowerHalf_107 : decode bc_tc_executeLowerHalf 107 = .ok (.aload_n 0, 1) := by decide +kernel
theorem d_tc_executeLowerHalf_108 : decode bc_tc_executeLowerHalf 108 = .ok (.getfield 19, 3) := by decide +kernel
theorem d_tc_executeLowerHalf_111 : decode bc_tc_executeLowerHalf 111 = .ok (.iconst 0, 1) := by decide +kernel
theorem d_tc_executeLowerHalf_112 : decode bc_tc_executeLowerHalf 112 = .ok (.invokevirtual 82, 3) := by decide +kernel
theorem d_tc_executeLowerHalf_115 : decode bc_tc_executeLowerHalf 115 = .ok (.invokevirtual 152, 3) := by decide +kernel
theorem d_tc_executeLowerHalf_118 : decode bc_tc_executeLowerHalf 118 = .ok (.invokevirtual 36, 3) := by decide +kernel
theorem d_tc_executeLowerHalf_121 : decode bc_tc_executeLowerHalf 121 = .ok (.goto 53, 3) := by decide +kernel
theorem d_tc_executeLowerHalf_124 : decode bc_tc_executeLowerHalf 124 = .ok (.aload_n 0, 1) := by decide +kernel
theorem d_tc_executeLowerHalf_125 : decode bc_tc_executeLowerHalf 125 = .ok (.getfield 19, 3) := by decide +kernel
theorem d_tc_executeLowerHalf_128 : decode bc_tc_executeLowerHalf 128 = .ok (.iconst 1, 1) := by decide +kernel
theorem d_tc_executeLowerHalf_129 : decode bc_tc_executeLowerHalf 129 = .ok (.aload_n 0, 1) := by decide +kernel
theorem d_tc_executeLowerHalf_130 : decode bc_tc_executeLowerHalf 130 = .ok (.getfield 28, 3) := by decide +kernel
theorem d_tc_executeLowerHalf_133 : decode bc_tc_executeLowerHalf 133 = .ok (.iload 4, 2) := by decide +kernel
theorem d_tc_executeLowerHalf_135 : decode bc_tc_executeLowerHalf 135 = .ok (.aload_n 0, 1) := by decide +kernel
theorem d_tc_executeLowerHalf_136 : decode bc_tc_executeLowerHalf 136 = .ok (.getfield 19, 3) := by decide +kernel
theorem d_tc_executeLowerHalf_139 : decode bc_tc_executeLowerHalf 139 = .ok (.iconst 1, 1) := by decide +kernel
theorem d_tc_executeLowerHalf_140 : decode bc_tc_executeLowerHalf 140 = .ok (.invokevirtual 82, 3) := by decide +kernel
theorem d_tc_executeLowerHalf_143 : decode bc_tc_executeLowerHalf 143 = .ok (.invokevirtual 152, 3) := by decide +kernel
theorem d_tc_executeLowerHalf_146 : decode bc_tc_executeLowerHalf 146 = .ok (.invokevirtual 36, 3) := by decide +kernel
theorem d_tc_executeLowerHalf_149 : decode bc_tc_executeLowerHalf 149 = .ok (.goto 25, 3) := by decide +kernel
theorem d_tc_executeLowerHalf_152 : decode bc_tc_executeLowerHalf 152 = .ok (.aload_n 0, 1) := by decide +kernel
theorem d_tc_executeLowerHalf_153 : decode bc_tc_executeLowerHalf 153 = .ok (.iload 4, 2) := by decide +kernel
theorem d_tc_executeLowerHalf_155 : decode bc_tc_executeLowerHalf 155 = .ok (.aload_n 0, 1) := by decide +kernel
theorem d_tc_executeLowerHalf_156 : decode bc_tc_executeLowerHalf 156 = .ok (.iload_n 3, 1) := by decide +kernel
theorem d_tc_executeLowerHalf_157 : decode bc_tc_executeLowerHalf 157 = .ok (.ifCond .ne 7, 3) := by decide +kernel
theorem d_tc_executeLowerHalf_160 : decode bc_tc_executeLowerHalf 160 = .ok (.iconst 1, 1) := by decide +kernel
theorem d_tc_executeLowerHalf_161 : decode bc_tc_executeLowerHalf 161 = .ok (.goto 6, 3) := by decide +kernel
theorem d_tc_executeLowerHalf_164 : decode bc_tc_executeLowerHalf 164 = .ok (.iload_n 3, 1) := by decide +kernel
theorem d_tc_executeLowerHalf_165 : decode bc_tc_executeLowerHalf 165 = .ok (.iconst 3, 1) := by decide +kernel
theorem d_tc_executeLowerHalf_166 : decode bc_tc_executeLowerHalf 166 = .ok (.iand, 1) := by decide +kernel
theorem d_tc_executeLowerHalf_167 : decode bc_tc_executeLowerHalf 167 = .ok (.iconst 1, 1) := by decide +kernel
theorem d_tc_executeLowerHalf_168 : decode bc_tc_executeLowerHalf 168 = .ok (.invokevirtual 155, 3) := by decide +kernel
theorem d_tc_executeLowerHalf_171 : decode bc_tc_executeLowerHalf 171 = .ok (.invokevirtual 158, 3) := by decide +kernel
theorem d_tc_executeLowerHalf_174 : decode bc_tc_executeLowerHalf 174 = .ok (.return_, 1) := by decide +kernel
theorem d_tc_call_0 : decode bc_tc_call 0 = .ok (.aload_n 0, 1) := by decide +kernel
theorem d_tc_call_1 : decode bc_tc_call 1 = .ok (.iconst 5, 1) := by decide +kernel
theorem d_tc_call_2 : decode bc_tc_call 2 = .ok (.aload_n 0, 1) := by decide +kernel
theorem d_tc_call_3 : decode bc_tc_call 3 = .ok (.getfield 19, 3) := by decide +kernel
theorem d_tc_call_6 : decode bc_tc_call 6 = .ok (.bipush 6, 2) := by decide +kernel
theorem d_tc_call_8 : decode bc_tc_call 8 = .ok (.invokevirtual 82, 3) := by decide +kernel
theorem d_tc_call_11 : decode bc_tc_call 11 = .ok (.invokevirtual 209, 3) := by decide +kernel
theorem d_tc_call_14 : decode bc_tc_call 14 = .ok (.aload_n 0, 1) := by decide +kernel
theorem d_tc_call_15 : decode bc_tc_call 15 = .ok (.getfield 19, 3) := by decide +kernel
theorem d_tc_call_18 : decode bc_tc_call 18 = .ok (.bipush 6, 2) := by decide +kernel
theorem d_tc_call_20 : decode bc_tc_call 20 = .ok (.iload_n 1, 1) := by decide +kernel
theorem d_tc_call_21 : decode bc_tc_call 21 = .ok (.invokevirtual 36, 3) := by decide +kernel
theorem d_tc_call_24 : decode bc_tc_call 24 = .ok (.return_, 1) := by decide +kernel
theorem d_tc_wordRegister_0 : decode bc_tc_wordRegister 0 = .ok (.iload_n 0, 1) := by decide +kernel
theorem d_tc_wordRegister_1 : decode bc_tc_wordRegister 1 = .ok (.iconst 2, 1) := by decide +kernel
theorem d_tc_wordRegister_2 : decode bc_tc_wordRegister 2 = .ok (.if_icmp .ne 14, 3) := by decide +kernel
theorem d_tc_wordRegister_5 : decode bc_tc_wordRegister 5 = .ok (.iload_n 1, 1) := by decide +kernel
theorem d_tc_wordRegister_6 : decode bc_tc_wordRegister 6 = .ok (.iconst 3, 1) := by decide +kernel
theorem d_tc_wordRegister_7 : decode bc_tc_wordRegister 7 = .ok (.if_icmp .ne 7, 3) := by decide +kernel
theorem d_tc_wordRegister_10 : decode bc_tc_wordRegister 10 = .ok (.iconst 4, 1) := by decide +kernel
theorem d_tc_wordRegister_11 : decode bc_tc_wordRegister 11 = .ok (.goto 4, 3) := by decide +kernel
theorem d_tc_wordRegister_14 : decode bc_tc_wordRegister 14 = .ok (.iconst 5, 1) := by decide +kernel
theorem d_tc_wordRegister_15 : decode bc_tc_wordRegister 15 = .ok (.ireturn, 1) := by decide +kernel
theorem d_tc_wordRegister_16 : decode bc_tc_wordRegister 16 = .ok (.iload_n 1, 1) := by decide +kernel
theorem d_tc_wordRegister_17 : decode bc_tc_wordRegister 17 = .ok (.iconst 3, 1) := by decide +kernel
theorem d_tc_wordRegister_18 : decode bc_tc_wordRegister 18 = .ok (.if_icmp .eq 19, 3) := by decide +kernel
theorem d_tc_wordRegister_21 : decode bc_tc_wordRegister 21 = .ok (.iload_n 1, 1) := by decide +kernel
theorem d_tc_wordRegister_22 : decode bc_tc_wordRegister 22 = .ok (.bipush 13, 2) := by decide +kernel
theorem d_tc_wordRegister_24 : decode bc_tc_wordRegister 24 = .ok (.if_icmp .eq 13, 3) := by decide +kernel
theorem d_tc_wordRegister_27 : decode bc_tc_wordRegister 27 = .ok (.iload_n 1, 1) := by decide +kernel
theorem d_tc_wordRegister_28 : decode bc_tc_wordRegister 28 = .ok (.bipush 12, 2) := by decide +kernel
theorem d_tc_wordRegister_30 : decode bc_tc_wordRegister 30 = .ok (.if_icmp .ne 10, 3) := by decide +kernel
theorem d_tc_wordRegister_33 : decode bc_tc_wordRegister 33 = .ok (.iload_n 2, 1) := by decide +kernel
theorem d_tc_wordRegister_34 : decode bc_tc_wordRegister 34 = .ok (.ifCond .eq 6, 3) := by decide +kernel
theorem d_tc_wordRegister_37 : decode bc_tc_wordRegister 37 = .ok (.bipush 9, 2) := by decide +kernel
theorem d_tc_wordRegister_39 : decode bc_tc_wordRegister 39 = .ok (.ireturn, 1) := by decide +kernel
theorem d_tc_wordRegister_40 : decode bc_tc_wordRegister 40 = .ok (.iload_n 0, 1) := by decide +kernel
theorem d_tc_wordRegister_41 : decode bc_tc_wordRegister 41 = .ok (.iconst 1, 1) := by decide +kernel
theorem d_tc_wordRegister_42 : decode bc_tc_wordRegister 42 = .ok (.if_icmp .ne 13, 3) := by decide +kernel
theorem d_tc_wordRegister_45 : decode bc_tc_wordRegister 45 = .ok (.iload_n 2, 1) := by decide +kernel
theorem d_tc_wordRegister_46 : decode bc_tc_wordRegister 46 = .ok (.ifCond .eq 7, 3) := by decide +kernel
theorem d_tc_wordRegister_49 : decode bc_tc_wordRegister 49 = .ok (.iconst 5, 1) := by decide +kernel
theorem d_tc_wordRegister_50 : decode bc_tc_wordRegister 50 = .ok (.goto 4, 3) := by decide +kernel
theorem d_tc_wordRegister_53 : decode bc_tc_wordRegister 53 = .ok (.iconst 3, 1) := by decide +kernel
theorem d_tc_wordRegister_54 : decode bc_tc_wordRegister 54 = .ok (.ireturn, 1) := by decide +kernel
theorem d_tc_wordRegister_55 : decode bc_tc_wordRegister 55 = .ok (.iload_n 2, 1) := by decide +kernel
theorem d_tc_wordRegister_56 : decode bc_tc_wordRegister 56 = .ok (.ifCond .eq 7, 3) := by decide +kernel
theorem d_tc_wordRegister_59 : decode bc_tc_wordRegister 59 = .ok (.iconst 4, 1) := by decide +kernel
theorem d_tc_wordRegister_60 : decode bc_tc_wordRegister 60 = .ok (.goto 4, 3) := by decide +kernel
theorem d_tc_wordRegister_63 : decode bc_tc_wordRegister 63 = .ok (.iconst 2, 1) := by decide +kernel
theorem d_tc_wordRegister_64 : decode bc_tc_wordRegister 64 = .ok (.ireturn, 1) := by decide +kernel
theorem d_tc_operateOnWord_0 : decode bc_tc_operateOnWord 0 = .ok (.iload_n 1, 1) := by decide +kernel
theorem d_tc_operateOnWord_1 : decode bc_tc_operateOnWord 1 = .ok (.iload_n 2, 1) := by decide +kernel
theorem d_tc_operateOnWord_2 : decode bc_tc_operateOnWord 2 = .ok (.iload_n 3, 1) := by decide +kernel
theorem d_tc_operateOnWord_3 : decode bc_tc_operateOnWord 3 = .ok (.invokestatic 230, 3) := by decide +kernel
theorem d_tc_operateOnWord_6 : decode bc_tc_operateOnWord 6 = .ok (.istore 5, 2) := by decide +kernel
theorem d_tc_operateOnWord_8 : decode bc_tc_operateOnWord 8 = .ok (.aload_n 0, 1) := by decide +kernel
theorem d_tc_operateOnWord_9 : decode bc_tc_operateOnWord 9 = .ok (.getfield 19, 3) := by decide +kernel
theorem d_tc_operateOnWord_12 : decode bc_tc_operateOnWord 12 = .ok (.iload 5, 2) := by decide +kernel
theorem d_tc_operateOnWord_14 : decode bc_tc_operateOnWord 14 = .ok (.invokevirtual 82, 3) := by decide +kernel
theorem d_tc_operateOnWord_17 : decode bc_tc_operateOnWord 17 = .ok (.istore 6, 2) := by decide +kernel
theorem d_tc_operateOnWord_19 : decode bc_tc_operateOnWord 19 = .ok (.iload_n 2, 1) := by decide +kernel
theorem d_tc_operateOnWord_20 : decode bc_tc_operateOnWord 20 = .ok (.bipush 14, 2) := by decide +kernel
theorem d_tc_operateOnWord_22 : decode bc_tc_operateOnWord 22 = .ok (.if_icmp .eq 13, 3) := by decide +kernel
theorem d_tc_operateOnWord_25 : decode bc_tc_operateOnWord 25 = .ok (.iload_n 2, 1) := by decide +kernel
theorem d_tc_operateOnWord_26 : decode bc_tc_operateOnWord 26 = .ok (.bipush 12, 2) := by decide +kernel
theorem d_tc_operateOnWord_28 : decode bc_tc_operateOnWord 28 = .ok (.if_icmp .ne 11, 3) := by decide +kernel
theorem d_tc_operateOnWord_31 : decode bc_tc_operateOnWord 31 = .ok (.iload_n 3, 1) := by decide +kernel
theorem d_tc_operateOnWord_32 : decode bc_tc_operateOnWord 32 = .ok (.ifCond .eq 7, 3) := by decide +kernel
theorem d_tc_operateOnWord_35 : decode bc_tc_operateOnWord 35 = .ok (.iconst 1, 1) := by decide +kernel
theorem d_tc_operateOnWord_36 : decode bc_tc_operateOnWord 36 = .ok (.goto 4, 3) := by decide +kernel
theorem d_tc_operateOnWord_39 : decode bc_tc_operateOnWord 39 = .ok (.iconst 0, 1) := by decide +kernel
theorem d_tc_operateOnWord_40 : decode bc_tc_operateOnWord 40 = .ok (.istore 7, 2) := by decide +kernel
theorem d_tc_operateOnWord_42 : decode bc_tc_operateOnWord 42 = .ok (.iload 7, 2) := by decide +kernel
theorem d_tc_operateOnWord_44 : decode bc_tc_operateOnWord 44 = .ok (.ifCond .eq 30, 3) := by decide +kernel
theorem d_tc_operateOnWord_47 : decode bc_tc_operateOnWord 47 = .ok (.aload_n 0, 1) := by decide +kernel
theorem d_tc_operateOnWord_48 : decode bc_tc_operateOnWord 48 = .ok (.iload 5, 2) := by decide +kernel
theorem d_tc_operateOnWord_50 : decode bc_tc_operateOnWord 50 = .ok (.aload_n 0, 1) := by decide +kernel
theorem d_tc_operateOnWord_51 : decode bc_tc_operateOnWord 51 = .ok (.getfield 28, 3) := by decide +kernel
theorem d_tc_operateOnWord_54 : decode bc_tc_operateOnWord 54 = .ok (.aload_n 0, 1) := by decide +kernel
theorem d_tc_operateOnWord_55 : decode bc_tc_operateOnWord 55 = .ok (.getfield 10, 3) := by decide +kernel
end
section
theorem d_tc_operateOnWord_58 : decode bc_tc_operateOnWord 58 = .ok (.iload 4, 2) := by decide +kernel
theorem d_tc_operateOnWord_60 : decode bc_tc_operateOnWord 60 = .ok (.invokevirtual 56, 3) := by decide +kernel
theorem d_tc_operateOnWord_63 : decode bc_tc_operateOnWord 63 = .ok (.ldc 234, 2) := by decide +kernel
theorem d_tc_operateOnWord_65 : decode bc_tc_operateOnWord 65 = .ok (.invokevirtual 223, 3) := by decide +kernel
theorem d_tc_operateOnWord_68 : decode bc_tc_operateOnWord 68 = .ok (.invokevirtual 203, 3) := by decide +kernel
theorem d_tc_operateOnWord_71 : decode bc_tc_operateOnWord 71 = .ok (.goto 130, 3) := by decide +kernel
theorem d_tc_operateOnWord_74 : decode bc_tc_operateOnWord 74 = .ok (.iload_n 2, 1) := by decide +kernel
theorem d_tc_operateOnWord_75 : decode bc_tc_operateOnWord 75 = .ok (.bipush 13, 2) := by decide +kernel
theorem d_tc_operateOnWord_77 : decode bc_tc_operateOnWord 77 = .ok (.if_icmp .lt 26, 3) := by decide +kernel
theorem d_tc_operateOnWord_80 : decode bc_tc_operateOnWord 80 = .ok (.aload_n 0, 1) := by decide +kernel
theorem d_tc_operateOnWord_81 : decode bc_tc_operateOnWord 81 = .ok (.getfield 10, 3) := by decide +kernel
theorem d_tc_operateOnWord_84 : decode bc_tc_operateOnWord 84 = .ok (.iload 4, 2) := by decide +kernel
theorem d_tc_operateOnWord_86 : decode bc_tc_operateOnWord 86 = .ok (.aload_n 0, 1) := by decide +kernel
theorem d_tc_operateOnWord_87 : decode bc_tc_operateOnWord 87 = .ok (.getfield 28, 3) := by decide +kernel
theorem d_tc_operateOnWord_90 : decode bc_tc_operateOnWord 90 = .ok (.iload 6, 2) := by decide +kernel
theorem d_tc_operateOnWord_92 : decode bc_tc_operateOnWord 92 = .ok (.ldc 234, 2) := by decide +kernel
theorem d_tc_operateOnWord_94 : decode bc_tc_operateOnWord 94 = .ok (.invokevirtual 223, 3) := by decide +kernel
theorem d_tc_operateOnWord_97 : decode bc_tc_operateOnWord 97 = .ok (.invokevirtual 235, 3) := by decide +kernel
theorem d_tc_operateOnWord_100 : decode bc_tc_operateOnWord 100 = .ok (.goto 101, 3) := by decide +kernel
theorem d_tc_operateOnWord_103 : decode bc_tc_operateOnWord 103 = .ok (.iload_n 2, 1) := by decide +kernel
theorem d_tc_operateOnWord_104 : decode bc_tc_operateOnWord 104 = .ok (.iconst 3, 1) := by decide +kernel
theorem d_tc_operateOnWord_105 : decode bc_tc_operateOnWord 105 = .ok (.if_icmp .ne 40, 3) := by decide +kernel
theorem d_tc_operateOnWord_108 : decode bc_tc_operateOnWord 108 = .ok (.iload_n 3, 1) := by decide +kernel
theorem d_tc_operateOnWord_109 : decode bc_tc_operateOnWord 109 = .ok (.ifCond .eq 36, 3) := by decide +kernel
theorem d_tc_operateOnWord_112 : decode bc_tc_operateOnWord 112 = .ok (.aload_n 0, 1) := by decide +kernel
theorem d_tc_operateOnWord_113 : decode bc_tc_operateOnWord 113 = .ok (.getfield 19, 3) := by decide +kernel
theorem d_tc_operateOnWord_116 : decode bc_tc_operateOnWord 116 = .ok (.bipush 9, 2) := by decide +kernel
theorem d_tc_operateOnWord_118 : decode bc_tc_operateOnWord 118 = .ok (.aload_n 0, 1) := by decide +kernel
theorem d_tc_operateOnWord_119 : decode bc_tc_operateOnWord 119 = .ok (.getfield 28, 3) := by decide +kernel
theorem d_tc_operateOnWord_122 : decode bc_tc_operateOnWord 122 = .ok (.iload 6, 2) := by decide +kernel
theorem d_tc_operateOnWord_124 : decode bc_tc_operateOnWord 124 = .ok (.aload_n 0, 1) := by decide +kernel
theorem d_tc_operateOnWord_125 : decode bc_tc_operateOnWord 125 = .ok (.getfield 10, 3) := by decide +kernel
theorem d_tc_operateOnWord_128 : decode bc_tc_operateOnWord 128 = .ok (.iload 4, 2) := by decide +kernel
theorem d_tc_operateOnWord_130 : decode bc_tc_operateOnWord 130 = .ok (.invokevirtual 56, 3) := by decide +kernel
theorem d_tc_operateOnWord_133 : decode bc_tc_operateOnWord 133 = .ok (.iconst 0, 1) := by decide +kernel
theorem d_tc_operateOnWord_134 : decode bc_tc_operateOnWord 134 = .ok (.ldc 234, 2) := by decide +kernel
theorem d_tc_operateOnWord_136 : decode bc_tc_operateOnWord 136 = .ok (.invokevirtual 238, 3) := by decide +kernel
theorem d_tc_operateOnWord_139 : decode bc_tc_operateOnWord 139 = .ok (.invokevirtual 36, 3) := by decide +kernel
theorem d_tc_operateOnWord_142 : decode bc_tc_operateOnWord 142 = .ok (.goto 59, 3) := by decide +kernel
theorem d_tc_operateOnWord_145 : decode bc_tc_operateOnWord 145 = .ok (.aload_n 0, 1) := by decide +kernel
theorem d_tc_operateOnWord_146 : decode bc_tc_operateOnWord 146 = .ok (.getfield 28, 3) := by decide +kernel
theorem d_tc_operateOnWord_149 : decode bc_tc_operateOnWord 149 = .ok (.iload 6, 2) := by decide +kernel
theorem d_tc_operateOnWord_151 : decode bc_tc_operateOnWord 151 = .ok (.aload_n 0, 1) := by decide +kernel
theorem d_tc_operateOnWord_152 : decode bc_tc_operateOnWord 152 = .ok (.getfield 10, 3) := by decide +kernel
theorem d_tc_operateOnWord_155 : decode bc_tc_operateOnWord 155 = .ok (.iload 4, 2) := by decide +kernel
theorem d_tc_operateOnWord_157 : decode bc_tc_operateOnWord 157 = .ok (.invokevirtual 56, 3) := by decide +kernel
theorem d_tc_operateOnWord_160 : decode bc_tc_operateOnWord 160 = .ok (.iconst 0, 1) := by decide +kernel
theorem d_tc_operateOnWord_161 : decode bc_tc_operateOnWord 161 = .ok (.ldc 234, 2) := by decide +kernel
theorem d_tc_operateOnWord_163 : decode bc_tc_operateOnWord 163 = .ok (.invokevirtual 242, 3) := by decide +kernel
theorem d_tc_operateOnWord_166 : decode bc_tc_operateOnWord 166 = .ok (.istore 8, 2) := by decide +kernel
theorem d_tc_operateOnWord_168 : decode bc_tc_operateOnWord 168 = .ok (.iload_n 1, 1) := by decide +kernel
theorem d_tc_operateOnWord_169 : decode bc_tc_operateOnWord 169 = .ok (.ifCond .ne 9, 3) := by decide +kernel
theorem d_tc_operateOnWord_172 : decode bc_tc_operateOnWord 172 = .ok (.iload_n 2, 1) := by decide +kernel
theorem d_tc_operateOnWord_173 : decode bc_tc_operateOnWord 173 = .ok (.bipush 12, 2) := by decide +kernel
theorem d_tc_operateOnWord_175 : decode bc_tc_operateOnWord 175 = .ok (.if_icmp .ne 7, 3) := by decide +kernel
theorem d_tc_operateOnWord_178 : decode bc_tc_operateOnWord 178 = .ok (.iconst 1, 1) := by decide +kernel
theorem d_tc_operateOnWord_179 : decode bc_tc_operateOnWord 179 = .ok (.goto 4, 3) := by decide +kernel
theorem d_tc_operateOnWord_182 : decode bc_tc_operateOnWord 182 = .ok (.iconst 0, 1) := by decide +kernel
theorem d_tc_operateOnWord_183 : decode bc_tc_operateOnWord 183 = .ok (.istore 9, 2) := by decide +kernel
theorem d_tc_operateOnWord_185 : decode bc_tc_operateOnWord 185 = .ok (.iload 9, 2) := by decide +kernel
theorem d_tc_operateOnWord_187 : decode bc_tc_operateOnWord 187 = .ok (.ifCond .ne 14, 3) := by decide +kernel
theorem d_tc_operateOnWord_190 : decode bc_tc_operateOnWord 190 = .ok (.aload_n 0, 1) := by decide +kernel
theorem d_tc_operateOnWord_191 : decode bc_tc_operateOnWord 191 = .ok (.getfield 19, 3) := by decide +kernel
theorem d_tc_operateOnWord_194 : decode bc_tc_operateOnWord 194 = .ok (.bipush 9, 2) := by decide +kernel
theorem d_tc_operateOnWord_196 : decode bc_tc_operateOnWord 196 = .ok (.iload 8, 2) := by decide +kernel
theorem d_tc_operateOnWord_198 : decode bc_tc_operateOnWord 198 = .ok (.invokevirtual 36, 3) := by decide +kernel
theorem d_tc_operateOnWord_201 : decode bc_tc_operateOnWord 201 = .ok (.return_, 1) := by decide +kernel
theorem d_tc_operateOnByte_0 : decode bc_tc_operateOnByte 0 = .ok (.aload_n 0, 1) := by decide +kernel
theorem d_tc_operateOnByte_1 : decode bc_tc_operateOnByte 1 = .ok (.getfield 19, 3) := by decide +kernel
theorem d_tc_operateOnByte_4 : decode bc_tc_operateOnByte 4 = .ok (.iload_n 2, 1) := by decide +kernel
theorem d_tc_operateOnByte_5 : decode bc_tc_operateOnByte 5 = .ok (.invokevirtual 82, 3) := by decide +kernel
theorem d_tc_operateOnByte_8 : decode bc_tc_operateOnByte 8 = .ok (.istore 4, 2) := by decide +kernel
theorem d_tc_operateOnByte_10 : decode bc_tc_operateOnByte 10 = .ok (.iload_n 1, 1) := by decide +kernel
theorem d_tc_operateOnByte_11 : decode bc_tc_operateOnByte 11 = .ok (.bipush 7, 2) := by decide +kernel
theorem d_tc_operateOnByte_13 : decode bc_tc_operateOnByte 13 = .ok (.if_icmp .ne 24, 3) := by decide +kernel
theorem d_tc_operateOnByte_16 : decode bc_tc_operateOnByte 16 = .ok (.aload_n 0, 1) := by decide +kernel
theorem d_tc_operateOnByte_17 : decode bc_tc_operateOnByte 17 = .ok (.getfield 10, 3) := by decide +kernel
theorem d_tc_operateOnByte_20 : decode bc_tc_operateOnByte 20 = .ok (.iload_n 3, 1) := by decide +kernel
theorem d_tc_operateOnByte_21 : decode bc_tc_operateOnByte 21 = .ok (.aload_n 0, 1) := by decide +kernel
theorem d_tc_operateOnByte_22 : decode bc_tc_operateOnByte 22 = .ok (.getfield 28, 3) := by decide +kernel
theorem d_tc_operateOnByte_25 : decode bc_tc_operateOnByte 25 = .ok (.iload 4, 2) := by decide +kernel
theorem d_tc_operateOnByte_27 : decode bc_tc_operateOnByte 27 = .ok (.sipush 128, 3) := by decide +kernel
theorem d_tc_operateOnByte_30 : decode bc_tc_operateOnByte 30 = .ok (.invokevirtual 223, 3) := by decide +kernel
theorem d_tc_operateOnByte_33 : decode bc_tc_operateOnByte 33 = .ok (.invokevirtual 64, 3) := by decide +kernel
theorem d_tc_operateOnByte_36 : decode bc_tc_operateOnByte 36 = .ok (.return_, 1) := by decide +kernel
theorem d_tc_operateOnByte_37 : decode bc_tc_operateOnByte 37 = .ok (.aload_n 0, 1) := by decide +kernel
theorem d_tc_operateOnByte_38 : decode bc_tc_operateOnByte 38 = .ok (.getfield 28, 3) := by decide +kernel
theorem d_tc_operateOnByte_41 : decode bc_tc_operateOnByte 41 = .ok (.iload_n 1, 1) := by decide +kernel
theorem d_tc_operateOnByte_42 : decode bc_tc_operateOnByte 42 = .ok (.iload 4, 2) := by decide +kernel
theorem d_tc_operateOnByte_44 : decode bc_tc_operateOnByte 44 = .ok (.aload_n 0, 1) := by decide +kernel
theorem d_tc_operateOnByte_45 : decode bc_tc_operateOnByte 45 = .ok (.getfield 10, 3) := by decide +kernel
theorem d_tc_operateOnByte_48 : decode bc_tc_operateOnByte 48 = .ok (.iload_n 3, 1) := by decide +kernel
theorem d_tc_operateOnByte_49 : decode bc_tc_operateOnByte 49 = .ok (.invokevirtual 67, 3) := by decide +kernel
theorem d_tc_operateOnByte_52 : decode bc_tc_operateOnByte 52 = .ok (.invokevirtual 226, 3) := by decide +kernel
theorem d_tc_operateOnByte_55 : decode bc_tc_operateOnByte 55 = .ok (.istore 5, 2) := by decide +kernel
theorem d_tc_operateOnByte_57 : decode bc_tc_operateOnByte 57 = .ok (.iload_n 1, 1) := by decide +kernel
theorem d_tc_operateOnByte_58 : decode bc_tc_operateOnByte 58 = .ok (.iconst 1, 1) := by decide +kernel
theorem d_tc_operateOnByte_59 : decode bc_tc_operateOnByte 59 = .ok (.if_icmp .eq 8, 3) := by decide +kernel
theorem d_tc_operateOnByte_62 : decode bc_tc_operateOnByte 62 = .ok (.iload_n 1, 1) := by decide +kernel
theorem d_tc_operateOnByte_63 : decode bc_tc_operateOnByte 63 = .ok (.iconst 5, 1) := by decide +kernel
theorem d_tc_operateOnByte_64 : decode bc_tc_operateOnByte 64 = .ok (.if_icmp .ne 7, 3) := by decide +kernel
theorem d_tc_operateOnByte_67 : decode bc_tc_operateOnByte 67 = .ok (.iconst 1, 1) := by decide +kernel
theorem d_tc_operateOnByte_68 : decode bc_tc_operateOnByte 68 = .ok (.goto 4, 3) := by decide +kernel
theorem d_tc_operateOnByte_71 : decode bc_tc_operateOnByte 71 = .ok (.iconst 0, 1) := by decide +kernel
theorem d_tc_operateOnByte_72 : decode bc_tc_operateOnByte 72 = .ok (.istore 6, 2) := by decide +kernel
theorem d_tc_operateOnByte_74 : decode bc_tc_operateOnByte 74 = .ok (.iload 6, 2) := by decide +kernel
theorem d_tc_operateOnByte_76 : decode bc_tc_operateOnByte 76 = .ok (.ifCond .ne 13, 3) := by decide +kernel
theorem d_tc_operateOnByte_79 : decode bc_tc_operateOnByte 79 = .ok (.aload_n 0, 1) := by decide +kernel
theorem d_tc_operateOnByte_80 : decode bc_tc_operateOnByte 80 = .ok (.getfield 19, 3) := by decide +kernel
theorem d_tc_operateOnByte_83 : decode bc_tc_operateOnByte 83 = .ok (.iload_n 2, 1) := by decide +kernel
theorem d_tc_operateOnByte_84 : decode bc_tc_operateOnByte 84 = .ok (.iload 5, 2) := by decide +kernel
theorem d_tc_operateOnByte_86 : decode bc_tc_operateOnByte 86 = .ok (.invokevirtual 36, 3) := by decide +kernel
theorem d_tc_operateOnByte_89 : decode bc_tc_operateOnByte 89 = .ok (.return_, 1) := by decide +kernel
theorem d_tc_executeUpperHalf_0 : decode bc_tc_executeUpperHalf 0 = .ok (.iload_n 1, 1) := by decide +kernel
theorem d_tc_executeUpperHalf_1 : decode bc_tc_executeUpperHalf 1 = .ok (.sipush 141, 3) := by decide +kernel
theorem d_tc_executeUpperHalf_4 : decode bc_tc_executeUpperHalf 4 = .ok (.if_icmp .ne 13, 3) := by decide +kernel
theorem d_tc_executeUpperHalf_7 : decode bc_tc_executeUpperHalf 7 = .ok (.aload_n 0, 1) := by decide +kernel
theorem d_tc_executeUpperHalf_8 : decode bc_tc_executeUpperHalf 8 = .ok (.aload_n 0, 1) := by decide +kernel
theorem d_tc_executeUpperHalf_9 : decode bc_tc_executeUpperHalf 9 = .ok (.invokevirtual 113, 3) := by decide +kernel
theorem d_tc_executeUpperHalf_12 : decode bc_tc_executeUpperHalf 12 = .ok (.i2b, 1) := by decide +kernel
theorem d_tc_executeUpperHalf_13 : decode bc_tc_executeUpperHalf 13 = .ok (.invokevirtual 164, 3) := by decide +kernel
theorem d_tc_executeUpperHalf_16 : decode bc_tc_executeUpperHalf 16 = .ok (.return_, 1) := by decide +kernel
theorem d_tc_executeUpperHalf_17 : decode bc_tc_executeUpperHalf 17 = .ok (.iload_n 1, 1) := by decide +kernel
theorem d_tc_executeUpperHalf_18 : decode bc_tc_executeUpperHalf 18 = .ok (.bipush 8, 2) := by decide +kernel
theorem d_tc_executeUpperHalf_20 : decode bc_tc_executeUpperHalf 20 = .ok (.ishr, 1) := by decide +kernel
theorem d_tc_executeUpperHalf_21 : decode bc_tc_executeUpperHalf 21 = .ok (.istore_n 2, 1) := by decide +kernel
theorem d_tc_executeUpperHalf_22 : decode bc_tc_executeUpperHalf 22 = .ok (.iload_n 1, 1) := by decide +kernel
theorem d_tc_executeUpperHalf_23 : decode bc_tc_executeUpperHalf 23 = .ok (.bipush 15, 2) := by decide +kernel
theorem d_tc_executeUpperHalf_25 : decode bc_tc_executeUpperHalf 25 = .ok (.iand, 1) := by decide +kernel
theorem d_tc_executeUpperHalf_26 : decode bc_tc_executeUpperHalf 26 = .ok (.istore_n 3, 1) := by decide +kernel
theorem d_tc_executeUpperHalf_27 : decode bc_tc_executeUpperHalf 27 = .ok (.iload_n 1, 1) := by decide +kernel
theorem d_tc_executeUpperHalf_28 : decode bc_tc_executeUpperHalf 28 = .ok (.bipush 64, 2) := by decide +kernel
theorem d_tc_executeUpperHalf_30 : decode bc_tc_executeUpperHalf 30 = .ok (.iand, 1) := by decide +kernel
theorem d_tc_executeUpperHalf_31 : decode bc_tc_executeUpperHalf 31 = .ok (.ifCond .eq 7, 3) := by decide +kernel
theorem d_tc_executeUpperHalf_34 : decode bc_tc_executeUpperHalf 34 = .ok (.iconst 1, 1) := by decide +kernel
theorem d_tc_executeUpperHalf_35 : decode bc_tc_executeUpperHalf 35 = .ok (.goto 4, 3) := by decide +kernel
theorem d_tc_executeUpperHalf_38 : decode bc_tc_executeUpperHalf 38 = .ok (.iconst 0, 1) := by decide +kernel
theorem d_tc_executeUpperHalf_39 : decode bc_tc_executeUpperHalf 39 = .ok (.istore 4, 2) := by decide +kernel
theorem d_tc_executeUpperHalf_41 : decode bc_tc_executeUpperHalf 41 = .ok (.iload_n 3, 1) := by decide +kernel
theorem d_tc_executeUpperHalf_42 : decode bc_tc_executeUpperHalf 42 = .ok (.iconst 3, 1) := by decide +kernel
theorem d_tc_executeUpperHalf_43 : decode bc_tc_executeUpperHalf 43 = .ok (.if_icmp .eq 9, 3) := by decide +kernel
theorem d_tc_executeUpperHalf_46 : decode bc_tc_executeUpperHalf 46 = .ok (.iload_n 3, 1) := by decide +kernel
theorem d_tc_executeUpperHalf_47 : decode bc_tc_executeUpperHalf 47 = .ok (.bipush 12, 2) := by decide +kernel
theorem d_tc_executeUpperHalf_49 : decode bc_tc_executeUpperHalf 49 = .ok (.if_icmp .lt 7, 3) := by decide +kernel
theorem d_tc_executeUpperHalf_52 : decode bc_tc_executeUpperHalf 52 = .ok (.iconst 1, 1) := by decide +kernel
theorem d_tc_executeUpperHalf_53 : decode bc_tc_executeUpperHalf 53 = .ok (.goto 4, 3) := by decide +kernel
theorem d_tc_executeUpperHalf_56 : decode bc_tc_executeUpperHalf 56 = .ok (.iconst 0, 1) := by decide +kernel
theorem d_tc_executeUpperHalf_57 : decode bc_tc_executeUpperHalf 57 = .ok (.istore 5, 2) := by decide +kernel
theorem d_tc_executeUpperHalf_59 : decode bc_tc_executeUpperHalf 59 = .ok (.aload_n 0, 1) := by decide +kernel
theorem d_tc_executeUpperHalf_60 : decode bc_tc_executeUpperHalf 60 = .ok (.iload_n 1, 1) := by decide +kernel
theorem d_tc_executeUpperHalf_61 : decode bc_tc_executeUpperHalf 61 = .ok (.iconst 4, 1) := by decide +kernel
theorem d_tc_executeUpperHalf_62 : decode bc_tc_executeUpperHalf 62 = .ok (.ishr, 1) := by decide +kernel
theorem d_tc_executeUpperHalf_63 : decode bc_tc_executeUpperHalf 63 = .ok (.iconst 3, 1) := by decide +kernel
theorem d_tc_executeUpperHalf_64 : decode bc_tc_executeUpperHalf 64 = .ok (.iand, 1) := by decide +kernel
theorem d_tc_executeUpperHalf_65 : decode bc_tc_executeUpperHalf 65 = .ok (.iload 5, 2) := by decide +kernel
theorem d_tc_executeUpperHalf_67 : decode bc_tc_executeUpperHalf 67 = .ok (.ifCond .eq 7, 3) := by decide +kernel
theorem d_tc_executeUpperHalf_70 : decode bc_tc_executeUpperHalf 70 = .ok (.iconst 2, 1) := by decide +kernel
theorem d_tc_executeUpperHalf_71 : decode bc_tc_executeUpperHalf 71 = .ok (.goto 4, 3) := by decide +kernel
theorem d_tc_executeUpperHalf_74 : decode bc_tc_executeUpperHalf 74 = .ok (.iconst 1, 1) := by decide +kernel
theorem d_tc_executeUpperHalf_75 : decode bc_tc_executeUpperHalf 75 = .ok (.invokevirtual 155, 3) := by decide +kernel
theorem d_tc_executeUpperHalf_78 : decode bc_tc_executeUpperHalf 78 = .ok (.istore 6, 2) := by decide +kernel
theorem d_tc_executeUpperHalf_80 : decode bc_tc_executeUpperHalf 80 = .ok (.iload_n 3, 1) := by decide +kernel
theorem d_tc_executeUpperHalf_81 : decode bc_tc_executeUpperHalf 81 = .ok (.bipush 13, 2) := by decide +kernel
theorem d_tc_executeUpperHalf_83 : decode bc_tc_executeUpperHalf 83 = .ok (.if_icmp .ne 17, 3) := by decide +kernel
theorem d_tc_executeUpperHalf_86 : decode bc_tc_executeUpperHalf 86 = .ok (.iload 4, 2) := by decide +kernel
theorem d_tc_executeUpperHalf_88 : decode bc_tc_executeUpperHalf 88 = .ok (.ifCond .ne 12, 3) := by decide +kernel
theorem d_tc_executeUpperHalf_91 : decode bc_tc_executeUpperHalf 91 = .ok (.aload_n 0, 1) := by decide +kernel
theorem d_tc_executeUpperHalf_92 : decode bc_tc_executeUpperHalf 92 = .ok (.iload 6, 2) := by decide +kernel
theorem d_tc_executeUpperHalf_94 : decode bc_tc_executeUpperHalf 94 = .ok (.invokevirtual 212, 3) := by decide +kernel
theorem d_tc_executeUpperHalf_97 : decode bc_tc_executeUpperHalf 97 = .ok (.goto 38, 3) := by decide +kernel
theorem d_tc_executeUpperHalf_100 : decode bc_tc_executeUpperHalf 100 = .ok (.iload 5, 2) := by decide +kernel
theorem d_tc_executeUpperHalf_102 : decode bc_tc_executeUpperHalf 102 = .ok (.ifCond .eq 16, 3) := by decide +kernel
theorem d_tc_executeUpperHalf_105 : decode bc_tc_executeUpperHalf 105 = .ok (.aload_n 0, 1) := by decide +kernel
theorem d_tc_executeUpperHalf_106 : decode bc_tc_executeUpperHalf 106 = .ok (.iload_n 2, 1) := by decide +kernel
theorem d_tc_executeUpperHalf_107 : decode bc_tc_executeUpperHalf 107 = .ok (.iload_n 3, 1) := by decide +kernel
theorem d_tc_executeUpperHalf_108 : decode bc_tc_executeUpperHalf 108 = .ok (.iload 4, 2) := by decide +kernel
theorem d_tc_executeUpperHalf_110 : decode bc_tc_executeUpperHalf 110 = .ok (.iload 6, 2) := by decide +kernel
theorem d_tc_executeUpperHalf_112 : decode bc_tc_executeUpperHalf 112 = .ok (.invokevirtual 215, 3) := by decide +kernel
theorem d_tc_executeUpperHalf_115 : decode bc_tc_executeUpperHalf 115 = .ok (.goto 20, 3) := by decide +kernel
theorem d_tc_executeUpperHalf_118 : decode bc_tc_executeUpperHalf 118 = .ok (.aload_n 0, 1) := by decide +kernel
theorem d_tc_executeUpperHalf_119 : decode bc_tc_executeUpperHalf 119 = .ok (.iload_n 3, 1) := by decide +kernel
theorem d_tc_executeUpperHalf_120 : decode bc_tc_executeUpperHalf 120 = .ok (.iload 4, 2) := by decide +kernel
theorem d_tc_executeUpperHalf_122 : decode bc_tc_executeUpperHalf 122 = .ok (.ifCond .eq 7, 3) := by decide +kernel
theorem d_tc_executeUpperHalf_125 : decode bc_tc_executeUpperHalf 125 = .ok (.iconst 1, 1) := by decide +kernel
theorem d_tc_executeUpperHalf_126 : decode bc_tc_executeUpperHalf 126 = .ok (.goto 4, 3) := by decide +kernel
theorem d_tc_executeUpperHalf_129 : decode bc_tc_executeUpperHalf 129 = .ok (.iconst 0, 1) := by decide +kernel
theorem d_tc_executeUpperHalf_130 : decode bc_tc_executeUpperHalf 130 = .ok (.iload 6, 2) := by decide +kernel
theorem d_tc_executeUpperHalf_132 : decode bc_tc_executeUpperHalf 132 = .ok (.invokevirtual 219, 3) := by decide +kernel
theorem d_tc_executeUpperHalf_135 : decode bc_tc_executeUpperHalf 135 = .ok (.return_, 1) := by decide +kernel
theorem d_tc_step_0 : decode bc_tc_step 0 = .ok (.aload_n 0, 1) := by decide +kernel
theorem d_tc_step_1 : decode bc_tc_step 1 = .ok (.invokevirtual 70, 3) := by decide +kernel
theorem d_tc_step_4 : decode bc_tc_step 4 = .ok (.istore_n 1, 1) := by decide +kernel
theorem d_tc_step_5 : decode bc_tc_step 5 = .ok (.iload_n 1, 1) := by decide +kernel
theorem d_tc_step_6 : decode bc_tc_step 6 = .ok (.iconst (-1), 1) := by decide +kernel
theorem d_tc_step_7 : decode bc_tc_step 7 = .ok (.if_icmp .eq 10, 3) := by decide +kernel
theorem d_tc_step_10 : decode bc_tc_step 10 = .ok (.aload_n 0, 1) := by decide +kernel
theorem d_tc_step_11 : decode bc_tc_step 11 = .ok (.iload_n 1, 1) := by decide +kernel
theorem d_tc_step_12 : decode bc_tc_step 12 = .ok (.invokevirtual 74, 3) := by decide +kernel
theorem d_tc_step_15 : decode bc_tc_step 15 = .ok (.iconst 0, 1) := by decide +kernel
theorem d_tc_step_16 : decode bc_tc_step 16 = .ok (.ireturn, 1) := by decide +kernel
theorem d_tc_step_17 : decode bc_tc_step 17 = .ok (.aload_n 0, 1) := by decide +kernel
theorem d_tc_step_18 : decode bc_tc_step 18 = .ok (.invokevirtual 78, 3) := by decide +kernel
theorem d_tc_step_21 : decode bc_tc_step 21 = .ok (.ifCond .eq 5, 3) := by decide +kernel
theorem d_tc_step_24 : decode bc_tc_step 24 = .ok (.iconst 1, 1) := by decide +kernel
theorem d_tc_step_25 : decode bc_tc_step 25 = .ok (.ireturn, 1) := by decide +kernel
theorem d_tc_step_26 : decode bc_tc_step 26 = .ok (.aload_n 0, 1) := by decide +kernel
theorem d_tc_step_27 : decode bc_tc_step 27 = .ok (.iconst 0, 1) := by decide +kernel
theorem d_tc_step_28 : decode bc_tc_step 28 = .ok (.putfield 51, 3) := by decide +kernel
theorem d_tc_step_31 : decode bc_tc_step 31 = .ok (.aload_n 0, 1) := by decide +kernel
theorem d_tc_step_32 : decode bc_tc_step 32 = .ok (.getfield 19, 3) := by decide +kernel
theorem d_tc_step_35 : decode bc_tc_step 35 = .ok (.bipush 6, 2) := by decide +kernel
theorem d_tc_step_37 : decode bc_tc_step 37 = .ok (.invokevirtual 82, 3) := by decide +kernel
theorem d_tc_step_40 : decode bc_tc_step 40 = .ok (.istore_n 2, 1) := by decide +kernel
theorem d_tc_step_41 : decode bc_tc_step 41 = .ok (.aload_n 0, 1) := by decide +kernel
theorem d_tc_step_42 : decode bc_tc_step 42 = .ok (.invokevirtual 85, 3) := by decide +kernel
theorem d_tc_step_45 : decode bc_tc_step 45 = .ok (.istore_n 3, 1) := by decide +kernel
theorem d_tc_step_46 : decode bc_tc_step 46 = .ok (.aload_n 0, 1) := by decide +kernel
theorem d_tc_step_47 : decode bc_tc_step 47 = .ok (.iload_n 3, 1) := by decide +kernel
theorem d_tc_step_48 : decode bc_tc_step 48 = .ok (.invokevirtual 88, 3) := by decide +kernel
theorem d_tc_step_51 : decode bc_tc_step 51 = .ok (.ifCond .ne 15, 3) := by decide +kernel
theorem d_tc_step_54 : decode bc_tc_step 54 = .ok (.aload_n 0, 1) := by decide +kernel
theorem d_tc_step_55 : decode bc_tc_step 55 = .ok (.getfield 19, 3) := by decide +kernel
theorem d_tc_step_58 : decode bc_tc_step 58 = .ok (.bipush 6, 2) := by decide +kernel
theorem d_tc_step_60 : decode bc_tc_step 60 = .ok (.iload_n 2, 1) := by decide +kernel
theorem d_tc_step_61 : decode bc_tc_step 61 = .ok (.invokevirtual 36, 3) := by decide +kernel
theorem d_tc_step_64 : decode bc_tc_step 64 = .ok (.iconst 2, 1) := by decide +kernel
theorem d_tc_step_65 : decode bc_tc_step 65 = .ok (.ireturn, 1) := by decide +kernel
theorem d_tc_step_66 : decode bc_tc_step 66 = .ok (.iload_n 3, 1) := by decide +kernel
theorem d_tc_step_67 : decode bc_tc_step 67 = .ok (.sipush 128, 3) := by decide +kernel
theorem d_tc_step_70 : decode bc_tc_step 70 = .ok (.iand, 1) := by decide +kernel
theorem d_tc_step_71 : decode bc_tc_step 71 = .ok (.ifCond .ne 11, 3) := by decide +kernel
theorem d_tc_step_74 : decode bc_tc_step 74 = .ok (.aload_n 0, 1) := by decide +kernel
theorem d_tc_step_75 : decode bc_tc_step 75 = .ok (.iload_n 3, 1) := by decide +kernel
theorem d_tc_step_76 : decode bc_tc_step 76 = .ok (.invokevirtual 91, 3) := by decide +kernel
theorem d_tc_step_79 : decode bc_tc_step 79 = .ok (.goto 8, 3) := by decide +kernel
theorem d_tc_step_82 : decode bc_tc_step 82 = .ok (.aload_n 0, 1) := by decide +kernel
theorem d_tc_step_83 : decode bc_tc_step 83 = .ok (.iload_n 3, 1) := by decide +kernel
theorem d_tc_step_84 : decode bc_tc_step 84 = .ok (.invokevirtual 94, 3) := by decide +kernel
theorem d_tc_step_87 : decode bc_tc_step 87 = .ok (.iconst 0, 1) := by decide +kernel
theorem d_tc_step_88 : decode bc_tc_step 88 = .ok (.ireturn, 1) := by decide +kernel
theorem d_tc_run_0 : decode bc_tc_run 0 = .ok (.iload_n 1, 1) := by decide +kernel
theorem d_tc_run_1 : decode bc_tc_run 1 = .ok (.iconst 1, 1) := by decide +kernel
theorem d_tc_run_2 : decode bc_tc_run 2 = .ok (.if_icmp .lt 9, 3) := by decide +kernel
theorem d_tc_run_5 : decode bc_tc_run 5 = .ok (.iload_n 1, 1) := by decide +kernel
theorem d_tc_run_6 : decode bc_tc_run 6 = .ok (.bipush 50, 2) := by decide +kernel
theorem d_tc_run_8 : decode bc_tc_run 8 = .ok (.if_icmp .le 5, 3) := by decide +kernel
theorem d_tc_run_11 : decode bc_tc_run 11 = .ok (.iconst (-1), 1) := by decide +kernel
theorem d_tc_run_12 : decode bc_tc_run 12 = .ok (.ireturn, 1) := by decide +kernel
theorem d_tc_run_13 : decode bc_tc_run 13 = .ok (.iconst 1, 1) := by decide +kernel
theorem d_tc_run_14 : decode bc_tc_run 14 = .ok (.istore_n 2, 1) := by decide +kernel
theorem d_tc_run_15 : decode bc_tc_run 15 = .ok (.iload_n 2, 1) := by decide +kernel
theorem d_tc_run_16 : decode bc_tc_run 16 = .ok (.iload_n 1, 1) := by decide +kernel
theorem d_tc_run_17 : decode bc_tc_run 17 = .ok (.if_icmp .gt 18, 3) := by decide +kernel
theorem d_tc_run_20 : decode bc_tc_run 20 = .ok (.aload_n 0, 1) := by decide +kernel
theorem d_tc_run_21 : decode bc_tc_run 21 = .ok (.invokevirtual 97, 3) := by decide +kernel
theorem d_tc_run_24 : decode bc_tc_run 24 = .ok (.ifCond .eq 5, 3) := by decide +kernel
theorem d_tc_run_27 : decode bc_tc_run 27 = .ok (.iload_n 2, 1) := by decide +kernel
theorem d_tc_run_28 : decode bc_tc_run 28 = .ok (.ireturn, 1) := by decide +kernel
theorem d_tc_run_29 : decode bc_tc_run 29 = .ok (.iinc 2 1, 3) := by decide +kernel
theorem d_tc_run_32 : decode bc_tc_run 32 = .ok (.goto (-17), 3) := by decide +kernel
theorem d_tc_run_35 : decode bc_tc_run 35 = .ok (.iload_n 1, 1) := by decide +kernel
theorem d_tc_run_36 : decode bc_tc_run 36 = .ok (.ireturn, 1) := by decide +kernel
theorem d_tc_setLine_0 : decode bc_tc_setLine 0 = .ok (.iload_n 1, 1) := by decide +kernel
theorem d_tc_setLine_1 : decode bc_tc_setLine 1 = .ok (.ifCond .lt 17, 3) := by decide +kernel
theorem d_tc_setLine_4 : decode bc_tc_setLine 4 = .ok (.iload_n 1, 1) := by decide +kernel
theorem d_tc_setLine_5 : decode bc_tc_setLine 5 = .ok (.iconst 3, 1) := by decide +kernel
theorem d_tc_setLine_6 : decode bc_tc_setLine 6 = .ok (.if_icmp .ge 12, 3) := by decide +kernel
theorem d_tc_setLine_9 : decode bc_tc_setLine 9 = .ok (.iload_n 2, 1) := by decide +kernel
theorem d_tc_setLine_10 : decode bc_tc_setLine 10 = .ok (.ifCond .lt 8, 3) := by decide +kernel
theorem d_tc_setLine_13 : decode bc_tc_setLine 13 = .ok (.iload_n 2, 1) := by decide +kernel
theorem d_tc_setLine_14 : decode bc_tc_setLine 14 = .ok (.iconst 1, 1) := by decide +kernel
theorem d_tc_setLine_15 : decode bc_tc_setLine 15 = .ok (.if_icmp .le 5, 3) := by decide +kernel
theorem d_tc_setLine_18 : decode bc_tc_setLine 18 = .ok (.iconst 0, 1) := by decide +kernel
theorem d_tc_setLine_19 : decode bc_tc_setLine 19 = .ok (.ireturn, 1) := by decide +kernel
theorem d_tc_setLine_20 : decode bc_tc_setLine 20 = .ok (.iload_n 1, 1) := by decide +kernel
theorem d_tc_setLine_21 : decode bc_tc_setLine 21 = .ok (.ifCond .ne 25, 3) := by decide +kernel
theorem d_tc_setLine_24 : decode bc_tc_setLine 24 = .ok (.aload_n 0, 1) := by decide +kernel
theorem d_tc_setLine_25 : decode bc_tc_setLine 25 = .ok (.getfield 44, 3) := by decide +kernel
theorem d_tc_setLine_28 : decode bc_tc_setLine 28 = .ok (.ifCond .eq 18, 3) := by decide +kernel
theorem d_tc_setLine_31 : decode bc_tc_setLine 31 = .ok (.iload_n 2, 1) := by decide +kernel
theorem d_tc_setLine_32 : decode bc_tc_setLine 32 = .ok (.aload_n 0, 1) := by decide +kernel
theorem d_tc_setLine_33 : decode bc_tc_setLine 33 = .ok (.getfield 32, 3) := by decide +kernel
theorem d_tc_setLine_36 : decode bc_tc_setLine 36 = .ok (.iconst 0, 1) := by decide +kernel
theorem d_tc_setLine_37 : decode bc_tc_setLine 37 = .ok (.iaload, 1) := by decide +kernel
theorem d_tc_setLine_38 : decode bc_tc_setLine 38 = .ok (.if_icmp .le 8, 3) := by decide +kernel
theorem d_tc_setLine_41 : decode bc_tc_setLine 41 = .ok (.aload_n 0, 1) := by decide +kernel
theorem d_tc_setLine_42 : decode bc_tc_setLine 42 = .ok (.iconst 1, 1) := by decide +kernel
theorem d_tc_setLine_43 : decode bc_tc_setLine 43 = .ok (.putfield 48, 3) := by decide +kernel
theorem d_tc_setLine_46 : decode bc_tc_setLine 46 = .ok (.aload_n 0, 1) := by decide +kernel
theorem d_tc_setLine_47 : decode bc_tc_setLine 47 = .ok (.getfield 32, 3) := by decide +kernel
theorem d_tc_setLine_50 : decode bc_tc_setLine 50 = .ok (.iload_n 1, 1) := by decide +kernel
theorem d_tc_setLine_51 : decode bc_tc_setLine 51 = .ok (.iload_n 2, 1) := by decide +kernel
theorem d_tc_setLine_52 : decode bc_tc_setLine 52 = .ok (.iastore, 1) := by decide +kernel
theorem d_tc_setLine_53 : decode bc_tc_setLine 53 = .ok (.iconst 1, 1) := by decide +kernel
theorem d_tc_setLine_54 : decode bc_tc_setLine 54 = .ok (.ireturn, 1) := by decide +kernel
theorem d_tc_isFaceRegister_0 : decode bc_tc_isFaceRegister 0 = .ok (.iload_n 0, 1) := by decide +kernel
theorem d_tc_isFaceRegister_1 : decode bc_tc_isFaceRegister 1 = .ok (.ifCond .lt 13, 3) := by decide +kernel
theorem d_tc_isFaceRegister_4 : decode bc_tc_isFaceRegister 4 = .ok (.iload_n 0, 1) := by decide +kernel
theorem d_tc_isFaceRegister_5 : decode bc_tc_isFaceRegister 5 = .ok (.bipush 9, 2) := by decide +kernel
theorem d_tc_isFaceRegister_7 : decode bc_tc_isFaceRegister 7 = .ok (.if_icmp .ge 7, 3) := by decide +kernel
theorem d_tc_isFaceRegister_10 : decode bc_tc_isFaceRegister 10 = .ok (.iconst 1, 1) := by decide +kernel
theorem d_tc_isFaceRegister_11 : decode bc_tc_isFaceRegister 11 = .ok (.goto 4, 3) := by decide +kernel
theorem d_tc_isFaceRegister_14 : decode bc_tc_isFaceRegister 14 = .ok (.iconst 0, 1) := by decide +kernel
theorem d_tc_isFaceRegister_15 : decode bc_tc_isFaceRegister 15 = .ok (.ireturn, 1) := by decide +kernel
theorem d_tc_reg_0 : decode bc_tc_reg 0 = .ok (.iload_n 1, 1) := by decide +kernel
theorem d_tc_reg_1 : decode bc_tc_reg 1 = .ok (.invokestatic 100, 3) := by decide +kernel
theorem d_tc_reg_4 : decode bc_tc_reg 4 = .ok (.ifCond .eq 14, 3) := by decide +kernel
theorem d_tc_reg_7 : decode bc_tc_reg 7 = .ok (.aload_n 0, 1) := by decide +kernel
theorem d_tc_reg_8 : decode bc_tc_reg 8 = .ok (.getfield 19, 3) := by decide +kernel
theorem d_tc_reg_11 : decode bc_tc_reg 11 = .ok (.iload_n 1, 1) := by decide +kernel
theorem d_tc_reg_12 : decode bc_tc_reg 12 = .ok (.invokevirtual 82, 3) := by decide +kernel
theorem d_tc_reg_15 : decode bc_tc_reg 15 = .ok (.goto 4, 3) := by decide +kernel
theorem d_tc_reg_18 : decode bc_tc_reg 18 = .ok (.iconst (-1), 1) := by decide +kernel
theorem d_tc_reg_19 : decode bc_tc_reg 19 = .ok (.ireturn, 1) := by decide +kernel
theorem d_tc_put_0 : decode bc_tc_put 0 = .ok (.iload_n 1, 1) := by decide +kernel
theorem d_tc_put_1 : decode bc_tc_put 1 = .ok (.invokestatic 100, 3) := by decide +kernel
theorem d_tc_put_4 : decode bc_tc_put 4 = .ok (.ifCond .ne 5, 3) := by decide +kernel
theorem d_tc_put_7 : decode bc_tc_put 7 = .ok (.iconst 0, 1) := by decide +kernel
theorem d_tc_put_8 : decode bc_tc_put 8 = .ok (.ireturn, 1) := by decide +kernel
theorem d_tc_put_9 : decode bc_tc_put 9 = .ok (.aload_n 0, 1) := by decide +kernel
theorem d_tc_put_10 : decode bc_tc_put 10 = .ok (.getfield 19, 3) := by decide +kernel
theorem d_tc_put_13 : decode bc_tc_put 13 = .ok (.iload_n 1, 1) := by decide +kernel
theorem d_tc_put_14 : decode bc_tc_put 14 = .ok (.iload_n 2, 1) := by decide +kernel
theorem d_tc_put_15 : decode bc_tc_put 15 = .ok (.invokevirtual 36, 3) := by decide +kernel
theorem d_tc_put_18 : decode bc_tc_put 18 = .ok (.iconst 1, 1) := by decide +kernel
theorem d_tc_put_19 : decode bc_tc_put 19 = .ok (.ireturn, 1) := by decide +kernel
theorem d_tc_waits_0 : decode bc_tc_waits 0 = .ok (.aload_n 0, 1) := by decide +kernel
theorem d_tc_waits_1 : decode bc_tc_waits 1 = .ok (.getfield 51, 3) := by decide +kernel
theorem d_tc_waits_4 : decode bc_tc_waits 4 = .ok (.ireturn, 1) := by decide +kernel
theorem d_tc_lines_0 : decode bc_tc_lines 0 = .ok (.aload_n 0, 1) := by decide +kernel
theorem d_tc_lines_1 : decode bc_tc_lines 1 = .ok (.getfield 44, 3) := by decide +kernel
theorem d_tc_lines_4 : decode bc_tc_lines 4 = .ok (.ifCond .eq 7, 3) := by decide +kernel
theorem d_tc_lines_7 : decode bc_tc_lines 7 = .ok (.iconst 1, 1) := by decide +kernel
theorem d_tc_lines_8 : decode bc_tc_lines 8 = .ok (.goto 4, 3) := by decide +kernel
theorem d_tc_lines_11 : decode bc_tc_lines 11 = .ok (.iconst 0, 1) := by decide +kernel
theorem d_tc_lines_12 : decode bc_tc_lines 12 = .ok (.istore_n 1, 1) := by decide +kernel
theorem d_tc_lines_13 : decode bc_tc_lines 13 = .ok (.aload_n 0, 1) := by decide +kernel
theorem d_tc_lines_14 : decode bc_tc_lines 14 = .ok (.getfield 48, 3) := by decide +kernel
theorem d_tc_lines_17 : decode bc_tc_lines 17 = .ok (.ifCond .eq 7, 3) := by decide +kernel
theorem d_tc_lines_20 : decode bc_tc_lines 20 = .ok (.iconst 2, 1) := by decide +kernel
theorem d_tc_lines_21 : decode bc_tc_lines 21 = .ok (.goto 4, 3) := by decide +kernel
theorem d_tc_lines_24 : decode bc_tc_lines 24 = .ok (.iconst 0, 1) := by decide +kernel
theorem d_tc_lines_25 : decode bc_tc_lines 25 = .ok (.istore_n 2, 1) := by decide +kernel
theorem d_tc_lines_26 : decode bc_tc_lines 26 = .ok (.iload_n 1, 1) := by decide +kernel
theorem d_tc_lines_27 : decode bc_tc_lines 27 = .ok (.iload_n 2, 1) := by decide +kernel
theorem d_tc_lines_28 : decode bc_tc_lines 28 = .ok (.ior, 1) := by decide +kernel
theorem d_tc_lines_29 : decode bc_tc_lines 29 = .ok (.aload_n 0, 1) := by decide +kernel
theorem d_tc_lines_30 : decode bc_tc_lines 30 = .ok (.getfield 32, 3) := by decide +kernel
theorem d_tc_lines_33 : decode bc_tc_lines 33 = .ok (.iconst 0, 1) := by decide +kernel
theorem d_tc_lines_34 : decode bc_tc_lines 34 = .ok (.iaload, 1) := by decide +kernel
theorem d_tc_lines_35 : decode bc_tc_lines 35 = .ok (.iconst 2, 1) := by decide +kernel
theorem d_tc_lines_36 : decode bc_tc_lines 36 = .ok (.ishl, 1) := by decide +kernel
theorem d_tc_lines_37 : decode bc_tc_lines 37 = .ok (.ior, 1) := by decide +kernel
theorem d_tc_lines_38 : decode bc_tc_lines 38 = .ok (.aload_n 0, 1) := by decide +kernel
theorem d_tc_lines_39 : decode bc_tc_lines 39 = .ok (.getfield 32, 3) := by decide +kernel
theorem d_tc_lines_42 : decode bc_tc_lines 42 = .ok (.iconst 1, 1) := by decide +kernel
theorem d_tc_lines_43 : decode bc_tc_lines 43 = .ok (.iaload, 1) := by decide +kernel
theorem d_tc_lines_44 : decode bc_tc_lines 44 = .ok (.iconst 3, 1) := by decide +kernel
theorem d_tc_lines_45 : decode bc_tc_lines 45 = .ok (.ishl, 1) := by decide +kernel
theorem d_tc_lines_46 : decode bc_tc_lines 46 = .ok (.ior, 1) := by decide +kernel
theorem d_tc_lines_47 : decode bc_tc_lines 47 = .ok (.aload_n 0, 1) := by decide +kernel
theorem d_tc_lines_48 : decode bc_tc_lines 48 = .ok (.getfield 32, 3) := by decide +kernel
theorem d_tc_lines_51 : decode bc_tc_lines 51 = .ok (.iconst 2, 1) := by decide +kernel
theorem d_tc_lines_52 : decode bc_tc_lines 52 = .ok (.iaload, 1) := by decide +kernel
theorem d_tc_lines_53 : decode bc_tc_lines 53 = .ok (.iconst 4, 1) := by decide +kernel
theorem d_tc_lines_54 : decode bc_tc_lines 54 = .ok (.ishl, 1) := by decide +kernel
theorem d_tc_lines_55 : decode bc_tc_lines 55 = .ok (.ior, 1) := by decide +kernel
theorem d_tc_lines_56 : decode bc_tc_lines 56 = .ok (.ireturn, 1) := by decide +kernel
theorem d_mo_in_0 : decode bc_mo_in 0 = .ok (.iload_n 0, 1) := by decide +kernel
theorem d_mo_in_1 : decode bc_mo_in 1 = .ok (.iload_n 1, 1) := by decide +kernel
theorem d_mo_in_2 : decode bc_mo_in 2 = .ok (.if_icmp .lt 12, 3) := by decide +kernel
theorem d_mo_in_5 : decode bc_mo_in 5 = .ok (.iload_n 0, 1) := by decide +kernel
theorem d_mo_in_6 : decode bc_mo_in 6 = .ok (.iload_n 2, 1) := by decide +kernel
theorem d_mo_in_7 : decode bc_mo_in 7 = .ok (.if_icmp .gt 7, 3) := by decide +kernel
theorem d_mo_in_10 : decode bc_mo_in 10 = .ok (.iconst 1, 1) := by decide +kernel
theorem d_mo_in_11 : decode bc_mo_in 11 = .ok (.goto 4, 3) := by decide +kernel
theorem d_mo_in_14 : decode bc_mo_in 14 = .ok (.iconst 0, 1) := by decide +kernel
theorem d_mo_in_15 : decode bc_mo_in 15 = .ok (.ireturn, 1) := by decide +kernel
theorem d_mo_read_0 : decode bc_mo_read 0 = .ok (.aload_n 0, 1) := by decide +kernel
theorem d_mo_read_1 : decode bc_mo_read 1 = .ok (.getfield 7, 3) := by decide +kernel
theorem d_mo_read_4 : decode bc_mo_read 4 = .ok (.iload_n 1, 1) := by decide +kernel
theorem d_mo_read_5 : decode bc_mo_read 5 = .ok (.sipush 4095, 3) := by decide +kernel
theorem d_mo_read_8 : decode bc_mo_read 8 = .ok (.iand, 1) := by decide +kernel
theorem d_mo_read_9 : decode bc_mo_read 9 = .ok (.iaload, 1) := by decide +kernel
theorem d_mo_read_10 : decode bc_mo_read 10 = .ok (.ireturn, 1) := by decide +kernel
theorem d_mo_readWord_0 : decode bc_mo_readWord 0 = .ok (.sipush 256, 3) := by decide +kernel
theorem d_mo_readWord_3 : decode bc_mo_readWord 3 = .ok (.aload_n 0, 1) := by decide +kernel
theorem d_mo_readWord_4 : decode bc_mo_readWord 4 = .ok (.iload_n 1, 1) := by decide +kernel
theorem d_mo_readWord_5 : decode bc_mo_readWord 5 = .ok (.invokevirtual 22, 3) := by decide +kernel
theorem d_mo_readWord_8 : decode bc_mo_readWord 8 = .ok (.imul, 1) := by decide +kernel
theorem d_mo_readWord_9 : decode bc_mo_readWord 9 = .ok (.aload_n 0, 1) := by decide +kernel
theorem d_mo_readWord_10 : decode bc_mo_readWord 10 = .ok (.iload_n 1, 1) := by decide +kernel
theorem d_mo_readWord_11 : decode bc_mo_readWord 11 = .ok (.iconst 1, 1) := by decide +kernel
theorem d_mo_readWord_12 : decode bc_mo_readWord 12 = .ok (.iadd, 1) := by decide +kernel
theorem d_mo_readWord_13 : decode bc_mo_readWord 13 = .ok (.invokevirtual 22, 3) := by decide +kernel
theorem d_mo_readWord_16 : decode bc_mo_readWord 16 = .ok (.iadd, 1) := by decide +kernel
theorem d_mo_readWord_17 : decode bc_mo_readWord 17 = .ok (.ireturn, 1) := by decide +kernel
theorem d_mo_write_0 : decode bc_mo_write 0 = .ok (.aload_n 0, 1) := by decide +kernel
theorem d_mo_write_1 : decode bc_mo_write 1 = .ok (.getfield 7, 3) := by decide +kernel
theorem d_mo_write_4 : decode bc_mo_write 4 = .ok (.iload_n 1, 1) := by decide +kernel
theorem d_mo_write_5 : decode bc_mo_write 5 = .ok (.sipush 4095, 3) := by decide +kernel
theorem d_mo_write_8 : decode bc_mo_write 8 = .ok (.iand, 1) := by decide +kernel
theorem d_mo_write_9 : decode bc_mo_write 9 = .ok (.iload_n 2, 1) := by decide +kernel
theorem d_mo_write_10 : decode bc_mo_write 10 = .ok (.sipush 255, 3) := by decide +kernel
theorem d_mo_write_13 : decode bc_mo_write 13 = .ok (.iand, 1) := by decide +kernel
theorem d_mo_write_14 : decode bc_mo_write 14 = .ok (.iastore, 1) := by decide +kernel
theorem d_mo_write_15 : decode bc_mo_write 15 = .ok (.return_, 1) := by decide +kernel
theorem d_mo_writeWord_0 : decode bc_mo_writeWord 0 = .ok (.aload_n 0, 1) := by decide +kernel
theorem d_mo_writeWord_1 : decode bc_mo_writeWord 1 = .ok (.iload_n 1, 1) := by decide +kernel
theorem d_mo_writeWord_2 : decode bc_mo_writeWord 2 = .ok (.iload_n 2, 1) := by decide +kernel
theorem d_mo_writeWord_3 : decode bc_mo_writeWord 3 = .ok (.bipush 8, 2) := by decide +kernel
theorem d_mo_writeWord_5 : decode bc_mo_writeWord 5 = .ok (.ishr, 1) := by decide +kernel
theorem d_mo_writeWord_6 : decode bc_mo_writeWord 6 = .ok (.invokevirtual 26, 3) := by decide +kernel
theorem d_mo_writeWord_9 : decode bc_mo_writeWord 9 = .ok (.aload_n 0, 1) := by decide +kernel
theorem d_mo_writeWord_10 : decode bc_mo_writeWord 10 = .ok (.iload_n 1, 1) := by decide +kernel
theorem d_mo_writeWord_11 : decode bc_mo_writeWord 11 = .ok (.iconst 1, 1) := by decide +kernel
theorem d_mo_writeWord_12 : decode bc_mo_writeWord 12 = .ok (.iadd, 1) := by decide +kernel
theorem d_mo_writeWord_13 : decode bc_mo_writeWord 13 = .ok (.iload_n 2, 1) := by decide +kernel
theorem d_mo_writeWord_14 : decode bc_mo_writeWord 14 = .ok (.invokevirtual 26, 3) := by decide +kernel
theorem d_mo_writeWord_17 : decode bc_mo_writeWord 17 = .ok (.return_, 1) := by decide +kernel
theorem d_mo_next_0 : decode bc_mo_next 0 = .ok (.aload_n 0, 1) := by decide +kernel
theorem d_mo_next_1 : decode bc_mo_next 1 = .ok (.aload_n 0, 1) := by decide +kernel
theorem d_mo_next_2 : decode bc_mo_next 2 = .ok (.getfield 13, 3) := by decide +kernel
theorem d_mo_next_5 : decode bc_mo_next 5 = .ok (.bipush 6, 2) := by decide +kernel
theorem d_mo_next_7 : decode bc_mo_next 7 = .ok (.iaload, 1) := by decide +kernel
theorem d_mo_next_8 : decode bc_mo_next 8 = .ok (.invokevirtual 22, 3) := by decide +kernel
theorem d_mo_next_11 : decode bc_mo_next 11 = .ok (.istore_n 1, 1) := by decide +kernel
theorem d_mo_next_12 : decode bc_mo_next 12 = .ok (.aload_n 0, 1) := by decide +kernel
theorem d_mo_next_13 : decode bc_mo_next 13 = .ok (.getfield 13, 3) := by decide +kernel
theorem d_mo_next_16 : decode bc_mo_next 16 = .ok (.bipush 6, 2) := by decide +kernel
theorem d_mo_next_18 : decode bc_mo_next 18 = .ok (.aload_n 0, 1) := by decide +kernel
theorem d_mo_next_19 : decode bc_mo_next 19 = .ok (.getfield 13, 3) := by decide +kernel
theorem d_mo_next_22 : decode bc_mo_next 22 = .ok (.bipush 6, 2) := by decide +kernel
theorem d_mo_next_24 : decode bc_mo_next 24 = .ok (.iaload, 1) := by decide +kernel
theorem d_mo_next_25 : decode bc_mo_next 25 = .ok (.iconst 1, 1) := by decide +kernel
theorem d_mo_next_26 : decode bc_mo_next 26 = .ok (.iadd, 1) := by decide +kernel
theorem d_mo_next_27 : decode bc_mo_next 27 = .ok (.ldc 30, 2) := by decide +kernel
theorem d_mo_next_29 : decode bc_mo_next 29 = .ok (.iand, 1) := by decide +kernel
theorem d_mo_next_30 : decode bc_mo_next 30 = .ok (.iastore, 1) := by decide +kernel
theorem d_mo_next_31 : decode bc_mo_next 31 = .ok (.iload_n 1, 1) := by decide +kernel
theorem d_mo_next_32 : decode bc_mo_next 32 = .ok (.ireturn, 1) := by decide +kernel
theorem d_mo_nextWord_0 : decode bc_mo_nextWord 0 = .ok (.aload_n 0, 1) := by decide +kernel
theorem d_mo_nextWord_1 : decode bc_mo_nextWord 1 = .ok (.invokevirtual 31, 3) := by decide +kernel
theorem d_mo_nextWord_4 : decode bc_mo_nextWord 4 = .ok (.istore_n 1, 1) := by decide +kernel
theorem d_mo_nextWord_5 : decode bc_mo_nextWord 5 = .ok (.sipush 256, 3) := by decide +kernel
theorem d_mo_nextWord_8 : decode bc_mo_nextWord 8 = .ok (.iload_n 1, 1) := by decide +kernel
theorem d_mo_nextWord_9 : decode bc_mo_nextWord 9 = .ok (.imul, 1) := by decide +kernel
theorem d_mo_nextWord_10 : decode bc_mo_nextWord 10 = .ok (.aload_n 0, 1) := by decide +kernel
theorem d_mo_nextWord_11 : decode bc_mo_nextWord 11 = .ok (.invokevirtual 31, 3) := by decide +kernel
theorem d_mo_nextWord_14 : decode bc_mo_nextWord 14 = .ok (.iadd, 1) := by decide +kernel
theorem d_mo_nextWord_15 : decode bc_mo_nextWord 15 = .ok (.ireturn, 1) := by decide +kernel
theorem d_mo_signed_0 : decode bc_mo_signed 0 = .ok (.iload_n 0, 1) := by decide +kernel
theorem d_mo_signed_1 : decode bc_mo_signed 1 = .ok (.sipush 128, 3) := by decide +kernel
theorem d_mo_signed_4 : decode bc_mo_signed 4 = .ok (.if_icmp .lt 11, 3) := by decide +kernel
theorem d_mo_signed_7 : decode bc_mo_signed 7 = .ok (.iload_n 0, 1) := by decide +kernel
theorem d_mo_signed_8 : decode bc_mo_signed 8 = .ok (.sipush 256, 3) := by decide +kernel
theorem d_mo_signed_11 : decode bc_mo_signed 11 = .ok (.isub, 1) := by decide +kernel
theorem d_mo_signed_12 : decode bc_mo_signed 12 = .ok (.goto 4, 3) := by decide +kernel
theorem d_mo_signed_15 : decode bc_mo_signed 15 = .ok (.iload_n 0, 1) := by decide +kernel
theorem d_mo_signed_16 : decode bc_mo_signed 16 = .ok (.ireturn, 1) := by decide +kernel
theorem d_mo_d_0 : decode bc_mo_d 0 = .ok (.sipush 256, 3) := by decide +kernel
theorem d_mo_d_3 : decode bc_mo_d 3 = .ok (.aload_n 0, 1) := by decide +kernel
theorem d_mo_d_4 : decode bc_mo_d 4 = .ok (.getfield 13, 3) := by decide +kernel
theorem d_mo_d_7 : decode bc_mo_d 7 = .ok (.iconst 0, 1) := by decide +kernel
theorem d_mo_d_8 : decode bc_mo_d 8 = .ok (.iaload, 1) := by decide +kernel
theorem d_mo_d_9 : decode bc_mo_d 9 = .ok (.imul, 1) := by decide +kernel
theorem d_mo_d_10 : decode bc_mo_d 10 = .ok (.aload_n 0, 1) := by decide +kernel
theorem d_mo_d_11 : decode bc_mo_d 11 = .ok (.getfield 13, 3) := by decide +kernel
theorem d_mo_d_14 : decode bc_mo_d 14 = .ok (.iconst 1, 1) := by decide +kernel
theorem d_mo_d_15 : decode bc_mo_d 15 = .ok (.iaload, 1) := by decide +kernel
theorem d_mo_d_16 : decode bc_mo_d 16 = .ok (.iadd, 1) := by decide +kernel
theorem d_mo_d_17 : decode bc_mo_d 17 = .ok (.ireturn, 1) := by decide +kernel
theorem d_mo_setD_0 : decode bc_mo_setD 0 = .ok (.aload_n 0, 1) := by decide +kernel
theorem d_mo_setD_1 : decode bc_mo_setD 1 = .ok (.getfield 13, 3) := by decide +kernel
theorem d_mo_setD_4 : decode bc_mo_setD 4 = .ok (.iconst 0, 1) := by decide +kernel
theorem d_mo_setD_5 : decode bc_mo_setD 5 = .ok (.iload_n 1, 1) := by decide +kernel
theorem d_mo_setD_6 : decode bc_mo_setD 6 = .ok (.bipush 8, 2) := by decide +kernel
theorem d_mo_setD_8 : decode bc_mo_setD 8 = .ok (.ishr, 1) := by decide +kernel
theorem d_mo_setD_9 : decode bc_mo_setD 9 = .ok (.sipush 255, 3) := by decide +kernel
theorem d_mo_setD_12 : decode bc_mo_setD 12 = .ok (.iand, 1) := by decide +kernel
theorem d_mo_setD_13 : decode bc_mo_setD 13 = .ok (.iastore, 1) := by decide +kernel
theorem d_mo_setD_14 : decode bc_mo_setD 14 = .ok (.aload_n 0, 1) := by decide +kernel
theorem d_mo_setD_15 : decode bc_mo_setD 15 = .ok (.getfield 13, 3) := by decide +kernel
theorem d_mo_setD_18 : decode bc_mo_setD 18 = .ok (.iconst 1, 1) := by decide +kernel
theorem d_mo_setD_19 : decode bc_mo_setD 19 = .ok (.iload_n 1, 1) := by decide +kernel
theorem d_mo_setD_20 : decode bc_mo_setD 20 = .ok (.sipush 255, 3) := by decide +kernel
theorem d_mo_setD_23 : decode bc_mo_setD 23 = .ok (.iand, 1) := by decide +kernel
theorem d_mo_setD_24 : decode bc_mo_setD 24 = .ok (.iastore, 1) := by decide +kernel
theorem d_mo_setD_25 : decode bc_mo_setD 25 = .ok (.return_, 1) := by decide +kernel
theorem d_mo_flag_0 : decode bc_mo_flag 0 = .ok (.aload_n 0, 1) := by decide +kernel
theorem d_mo_flag_1 : decode bc_mo_flag 1 = .ok (.getfield 13, 3) := by decide +kernel
theorem d_mo_flag_4 : decode bc_mo_flag 4 = .ok (.bipush 8, 2) := by decide +kernel
theorem d_mo_flag_6 : decode bc_mo_flag 6 = .ok (.iload_n 2, 1) := by decide +kernel
theorem d_mo_flag_7 : decode bc_mo_flag 7 = .ok (.ifCond .eq 15, 3) := by decide +kernel
theorem d_mo_flag_10 : decode bc_mo_flag 10 = .ok (.aload_n 0, 1) := by decide +kernel
theorem d_mo_flag_11 : decode bc_mo_flag 11 = .ok (.getfield 13, 3) := by decide +kernel
theorem d_mo_flag_14 : decode bc_mo_flag 14 = .ok (.bipush 8, 2) := by decide +kernel
theorem d_mo_flag_16 : decode bc_mo_flag 16 = .ok (.iaload, 1) := by decide +kernel
theorem d_mo_flag_17 : decode bc_mo_flag 17 = .ok (.iload_n 1, 1) := by decide +kernel
theorem d_mo_flag_18 : decode bc_mo_flag 18 = .ok (.ior, 1) := by decide +kernel
theorem d_mo_flag_19 : decode bc_mo_flag 19 = .ok (.goto 14, 3) := by decide +kernel
theorem d_mo_flag_22 : decode bc_mo_flag 22 = .ok (.aload_n 0, 1) := by decide +kernel
theorem d_mo_flag_23 : decode bc_mo_flag 23 = .ok (.getfield 13, 3) := by decide +kernel
theorem d_mo_flag_26 : decode bc_mo_flag 26 = .ok (.bipush 8, 2) := by decide +kernel
theorem d_mo_flag_28 : decode bc_mo_flag 28 = .ok (.iaload, 1) := by decide +kernel
theorem d_mo_flag_29 : decode bc_mo_flag 29 = .ok (.iload_n 1, 1) := by decide +kernel
theorem d_mo_flag_30 : decode bc_mo_flag 30 = .ok (.iconst (-1), 1) := by decide +kernel
theorem d_mo_flag_31 : decode bc_mo_flag 31 = .ok (.ixor, 1) := by decide +kernel
theorem d_mo_flag_32 : decode bc_mo_flag 32 = .ok (.iand, 1) := by decide +kernel
theorem d_mo_flag_33 : decode bc_mo_flag 33 = .ok (.iastore, 1) := by decide +kernel
theorem d_mo_flag_34 : decode bc_mo_flag 34 = .ok (.return_, 1) := by decide +kernel
theorem d_mo_is_0 : decode bc_mo_is 0 = .ok (.aload_n 0, 1) := by decide +kernel
theorem d_mo_is_1 : decode bc_mo_is 1 = .ok (.getfield 13, 3) := by decide +kernel
theorem d_mo_is_4 : decode bc_mo_is 4 = .ok (.bipush 8, 2) := by decide +kernel
theorem d_mo_is_6 : decode bc_mo_is 6 = .ok (.iaload, 1) := by decide +kernel
theorem d_mo_is_7 : decode bc_mo_is 7 = .ok (.iload_n 1, 1) := by decide +kernel
theorem d_mo_is_8 : decode bc_mo_is 8 = .ok (.iand, 1) := by decide +kernel
theorem d_mo_is_9 : decode bc_mo_is 9 = .ok (.ifCond .eq 7, 3) := by decide +kernel
theorem d_mo_is_12 : decode bc_mo_is 12 = .ok (.iconst 1, 1) := by decide +kernel
theorem d_mo_is_13 : decode bc_mo_is 13 = .ok (.goto 4, 3) := by decide +kernel
theorem d_mo_is_16 : decode bc_mo_is 16 = .ok (.iconst 0, 1) := by decide +kernel
theorem d_mo_is_17 : decode bc_mo_is 17 = .ok (.ireturn, 1) := by decide +kernel
theorem d_mo_shows_0 : decode bc_mo_shows 0 = .ok (.aload_n 0, 1) := by decide +kernel
theorem d_mo_shows_1 : decode bc_mo_shows 1 = .ok (.bipush 8, 2) := by decide +kernel
theorem d_mo_shows_3 : decode bc_mo_shows 3 = .ok (.iload_n 1, 1) := by decide +kernel
theorem d_mo_shows_4 : decode bc_mo_shows 4 = .ok (.iload_n 2, 1) := by decide +kernel
theorem d_mo_shows_5 : decode bc_mo_shows 5 = .ok (.ifCond .eq 8, 3) := by decide +kernel
theorem d_mo_shows_8 : decode bc_mo_shows 8 = .ok (.ldc 35, 2) := by decide +kernel
theorem d_mo_shows_10 : decode bc_mo_shows 10 = .ok (.goto 6, 3) := by decide +kernel
theorem d_mo_shows_13 : decode bc_mo_shows 13 = .ok (.sipush 128, 3) := by decide +kernel
theorem d_mo_shows_16 : decode bc_mo_shows 16 = .ok (.iand, 1) := by decide +kernel
theorem d_mo_shows_17 : decode bc_mo_shows 17 = .ok (.ifCond .eq 7, 3) := by decide +kernel
theorem d_mo_shows_20 : decode bc_mo_shows 20 = .ok (.iconst 1, 1) := by decide +kernel
theorem d_mo_shows_21 : decode bc_mo_shows 21 = .ok (.goto 4, 3) := by decide +kernel
theorem d_mo_shows_24 : decode bc_mo_shows 24 = .ok (.iconst 0, 1) := by decide +kernel
theorem d_mo_shows_25 : decode bc_mo_shows 25 = .ok (.invokevirtual 36, 3) := by decide +kernel
theorem d_mo_shows_28 : decode bc_mo_shows 28 = .ok (.aload_n 0, 1) := by decide +kernel
theorem d_mo_shows_29 : decode bc_mo_shows 29 = .ok (.iconst 4, 1) := by decide +kernel
theorem d_mo_shows_30 : decode bc_mo_shows 30 = .ok (.iload_n 1, 1) := by decide +kernel
theorem d_mo_shows_31 : decode bc_mo_shows 31 = .ok (.iload_n 2, 1) := by decide +kernel
theorem d_mo_shows_32 : decode bc_mo_shows 32 = .ok (.ifCond .eq 8, 3) := by decide +kernel
theorem d_mo_shows_35 : decode bc_mo_shows 35 = .ok (.ldc 30, 2) := by decide +kernel
theorem d_mo_shows_37 : decode bc_mo_shows 37 = .ok (.goto 6, 3) := by decide +kernel
theorem d_mo_shows_40 : decode bc_mo_shows 40 = .ok (.sipush 255, 3) := by decide +kernel
theorem d_mo_shows_43 : decode bc_mo_shows 43 = .ok (.iand, 1) := by decide +kernel
theorem d_mo_shows_44 : decode bc_mo_shows 44 = .ok (.ifCond .ne 7, 3) := by decide +kernel
theorem d_mo_shows_47 : decode bc_mo_shows 47 = .ok (.iconst 1, 1) := by decide +kernel
theorem d_mo_shows_48 : decode bc_mo_shows 48 = .ok (.goto 4, 3) := by decide +kernel
theorem d_mo_shows_51 : decode bc_mo_shows 51 = .ok (.iconst 0, 1) := by decide +kernel
theorem d_mo_shows_52 : decode bc_mo_shows 52 = .ok (.invokevirtual 36, 3) := by decide +kernel
theorem d_mo_shows_55 : decode bc_mo_shows 55 = .ok (.return_, 1) := by decide +kernel
theorem d_mo_moved_0 : decode bc_mo_moved 0 = .ok (.aload_n 0, 1) := by decide +kernel
theorem d_mo_moved_1 : decode bc_mo_moved 1 = .ok (.iload_n 1, 1) := by decide +kernel
theorem d_mo_moved_2 : decode bc_mo_moved 2 = .ok (.iload_n 2, 1) := by decide +kernel
theorem d_mo_moved_3 : decode bc_mo_moved 3 = .ok (.invokevirtual 40, 3) := by decide +kernel
theorem d_mo_moved_6 : decode bc_mo_moved 6 = .ok (.aload_n 0, 1) := by decide +kernel
theorem d_mo_moved_7 : decode bc_mo_moved 7 = .ok (.iconst 2, 1) := by decide +kernel
theorem d_mo_moved_8 : decode bc_mo_moved 8 = .ok (.iconst 0, 1) := by decide +kernel
theorem d_mo_moved_9 : decode bc_mo_moved 9 = .ok (.invokevirtual 36, 3) := by decide +kernel
theorem d_mo_moved_12 : decode bc_mo_moved 12 = .ok (.iload_n 1, 1) := by decide +kernel
theorem d_mo_moved_13 : decode bc_mo_moved 13 = .ok (.ireturn, 1) := by decide +kernel
theorem d_mo_asSigned_0 : decode bc_mo_asSigned 0 = .ok (.iload_n 1, 1) := by decide +kernel
theorem d_mo_asSigned_1 : decode bc_mo_asSigned 1 = .ok (.ifCond .eq 20, 3) := by decide +kernel
theorem d_mo_asSigned_4 : decode bc_mo_asSigned 4 = .ok (.iload_n 0, 1) := by decide +kernel
theorem d_mo_asSigned_5 : decode bc_mo_asSigned 5 = .ok (.ldc 35, 2) := by decide +kernel
theorem d_mo_asSigned_7 : decode bc_mo_asSigned 7 = .ok (.if_icmp .lt 10, 3) := by decide +kernel
theorem d_mo_asSigned_10 : decode bc_mo_asSigned 10 = .ok (.iload_n 0, 1) := by decide +kernel
theorem d_mo_asSigned_11 : decode bc_mo_asSigned 11 = .ok (.ldc 43, 2) := by decide +kernel
theorem d_mo_asSigned_13 : decode bc_mo_asSigned 13 = .ok (.isub, 1) := by decide +kernel
theorem d_mo_asSigned_14 : decode bc_mo_asSigned 14 = .ok (.goto 23, 3) := by decide +kernel
theorem d_mo_asSigned_17 : decode bc_mo_asSigned 17 = .ok (.iload_n 0, 1) := by decide +kernel
theorem d_mo_asSigned_18 : decode bc_mo_asSigned 18 = .ok (.goto 19, 3) := by decide +kernel
theorem d_mo_asSigned_21 : decode bc_mo_asSigned 21 = .ok (.iload_n 0, 1) := by decide +kernel
theorem d_mo_asSigned_22 : decode bc_mo_asSigned 22 = .ok (.sipush 128, 3) := by decide +kernel
theorem d_mo_asSigned_25 : decode bc_mo_asSigned 25 = .ok (.if_icmp .lt 11, 3) := by decide +kernel
theorem d_mo_asSigned_28 : decode bc_mo_asSigned 28 = .ok (.iload_n 0, 1) := by decide +kernel
theorem d_mo_asSigned_29 : decode bc_mo_asSigned 29 = .ok (.sipush 256, 3) := by decide +kernel
theorem d_mo_asSigned_32 : decode bc_mo_asSigned 32 = .ok (.isub, 1) := by decide +kernel
theorem d_mo_asSigned_33 : decode bc_mo_asSigned 33 = .ok (.goto 4, 3) := by decide +kernel
theorem d_mo_asSigned_36 : decode bc_mo_asSigned 36 = .ok (.iload_n 0, 1) := by decide +kernel
theorem d_mo_asSigned_37 : decode bc_mo_asSigned 37 = .ok (.ireturn, 1) := by decide +kernel
theorem d_mo_hasRoom_0 : decode bc_mo_hasRoom 0 = .ok (.iload_n 1, 1) := by decide +kernel
theorem d_mo_hasRoom_1 : decode bc_mo_hasRoom 1 = .ok (.ifCond .eq 16, 3) := by decide +kernel
theorem d_mo_hasRoom_4 : decode bc_mo_hasRoom 4 = .ok (.iload_n 0, 1) := by decide +kernel
theorem d_mo_hasRoom_5 : decode bc_mo_hasRoom 5 = .ok (.sipush (-32768), 3) := by decide +kernel
theorem d_mo_hasRoom_8 : decode bc_mo_hasRoom 8 = .ok (.sipush 32767, 3) := by decide +kernel
theorem d_mo_hasRoom_11 : decode bc_mo_hasRoom 11 = .ok (.invokestatic 44, 3) := by decide +kernel
theorem d_mo_hasRoom_14 : decode bc_mo_hasRoom 14 = .ok (.goto 11, 3) := by decide +kernel
theorem d_mo_hasRoom_17 : decode bc_mo_hasRoom 17 = .ok (.iload_n 0, 1) := by decide +kernel
theorem d_mo_hasRoom_18 : decode bc_mo_hasRoom 18 = .ok (.bipush (-128), 2) := by decide +kernel
theorem d_mo_hasRoom_20 : decode bc_mo_hasRoom 20 = .ok (.bipush 127, 2) := by decide +kernel
theorem d_mo_hasRoom_22 : decode bc_mo_hasRoom 22 = .ok (.invokestatic 44, 3) := by decide +kernel
theorem d_mo_hasRoom_25 : decode bc_mo_hasRoom 25 = .ok (.ireturn, 1) := by decide +kernel
theorem d_mo_plus_0 : decode bc_mo_plus 0 = .ok (.iload_n 1, 1) := by decide +kernel
theorem d_mo_plus_1 : decode bc_mo_plus 1 = .ok (.iload_n 2, 1) := by decide +kernel
theorem d_mo_plus_2 : decode bc_mo_plus 2 = .ok (.iadd, 1) := by decide +kernel
theorem d_mo_plus_3 : decode bc_mo_plus 3 = .ok (.iload_n 3, 1) := by decide +kernel
theorem d_mo_plus_4 : decode bc_mo_plus 4 = .ok (.iadd, 1) := by decide +kernel
theorem d_mo_plus_5 : decode bc_mo_plus 5 = .ok (.istore 5, 2) := by decide +kernel
theorem d_mo_plus_7 : decode bc_mo_plus 7 = .ok (.iload 4, 2) := by decide +kernel
theorem d_mo_plus_9 : decode bc_mo_plus 9 = .ok (.ifCond .ne 30, 3) := by decide +kernel
theorem d_mo_plus_12 : decode bc_mo_plus 12 = .ok (.aload_n 0, 1) := by decide +kernel
theorem d_mo_plus_13 : decode bc_mo_plus 13 = .ok (.bipush 32, 2) := by decide +kernel
theorem d_mo_plus_15 : decode bc_mo_plus 15 = .ok (.iload_n 1, 1) := by decide +kernel
theorem d_mo_plus_16 : decode bc_mo_plus 16 = .ok (.bipush 15, 2) := by decide +kernel
theorem d_mo_plus_18 : decode bc_mo_plus 18 = .ok (.iand, 1) := by decide +kernel
theorem d_mo_plus_19 : decode bc_mo_plus 19 = .ok (.iload_n 2, 1) := by decide +kernel
theorem d_mo_plus_20 : decode bc_mo_plus 20 = .ok (.bipush 15, 2) := by decide +kernel
theorem d_mo_plus_22 : decode bc_mo_plus 22 = .ok (.iand, 1) := by decide +kernel
theorem d_mo_plus_23 : decode bc_mo_plus 23 = .ok (.iadd, 1) := by decide +kernel
theorem d_mo_plus_24 : decode bc_mo_plus 24 = .ok (.iload_n 3, 1) := by decide +kernel
theorem d_mo_plus_25 : decode bc_mo_plus 25 = .ok (.iadd, 1) := by decide +kernel
theorem d_mo_plus_26 : decode bc_mo_plus 26 = .ok (.bipush 15, 2) := by decide +kernel
theorem d_mo_plus_28 : decode bc_mo_plus 28 = .ok (.if_icmp .le 7, 3) := by decide +kernel
theorem d_mo_plus_31 : decode bc_mo_plus 31 = .ok (.iconst 1, 1) := by decide +kernel
theorem d_mo_plus_32 : decode bc_mo_plus 32 = .ok (.goto 4, 3) := by decide +kernel
theorem d_mo_plus_35 : decode bc_mo_plus 35 = .ok (.iconst 0, 1) := by decide +kernel
theorem d_mo_plus_36 : decode bc_mo_plus 36 = .ok (.invokevirtual 36, 3) := by decide +kernel
theorem d_mo_plus_39 : decode bc_mo_plus 39 = .ok (.aload_n 0, 1) := by decide +kernel
theorem d_mo_plus_40 : decode bc_mo_plus 40 = .ok (.iconst 1, 1) := by decide +kernel
theorem d_mo_plus_41 : decode bc_mo_plus 41 = .ok (.iload 5, 2) := by decide +kernel
theorem d_mo_plus_43 : decode bc_mo_plus 43 = .ok (.iload 4, 2) := by decide +kernel
theorem d_mo_plus_45 : decode bc_mo_plus 45 = .ok (.ifCond .eq 8, 3) := by decide +kernel
theorem d_mo_plus_48 : decode bc_mo_plus 48 = .ok (.ldc 30, 2) := by decide +kernel
theorem d_mo_plus_50 : decode bc_mo_plus 50 = .ok (.goto 6, 3) := by decide +kernel
theorem d_mo_plus_53 : decode bc_mo_plus 53 = .ok (.sipush 255, 3) := by decide +kernel
theorem d_mo_plus_56 : decode bc_mo_plus 56 = .ok (.if_icmp .le 7, 3) := by decide +kernel
theorem d_mo_plus_59 : decode bc_mo_plus 59 = .ok (.iconst 1, 1) := by decide +kernel
theorem d_mo_plus_60 : decode bc_mo_plus 60 = .ok (.goto 4, 3) := by decide +kernel
theorem d_mo_plus_63 : decode bc_mo_plus 63 = .ok (.iconst 0, 1) := by decide +kernel
theorem d_mo_plus_64 : decode bc_mo_plus 64 = .ok (.invokevirtual 36, 3) := by decide +kernel
theorem d_mo_plus_67 : decode bc_mo_plus 67 = .ok (.aload_n 0, 1) := by decide +kernel
theorem d_mo_plus_68 : decode bc_mo_plus 68 = .ok (.iconst 2, 1) := by decide +kernel
theorem d_mo_plus_69 : decode bc_mo_plus 69 = .ok (.iload_n 1, 1) := by decide +kernel
theorem d_mo_plus_70 : decode bc_mo_plus 70 = .ok (.iload 4, 2) := by decide +kernel
theorem d_mo_plus_72 : decode bc_mo_plus 72 = .ok (.invokestatic 48, 3) := by decide +kernel
theorem d_mo_plus_75 : decode bc_mo_plus 75 = .ok (.iload_n 2, 1) := by decide +kernel
theorem d_mo_plus_76 : decode bc_mo_plus 76 = .ok (.iload 4, 2) := by decide +kernel
theorem d_mo_plus_78 : decode bc_mo_plus 78 = .ok (.invokestatic 48, 3) := by decide +kernel
theorem d_mo_plus_81 : decode bc_mo_plus 81 = .ok (.iadd, 1) := by decide +kernel
theorem d_mo_plus_82 : decode bc_mo_plus 82 = .ok (.iload_n 3, 1) := by decide +kernel
theorem d_mo_plus_83 : decode bc_mo_plus 83 = .ok (.iadd, 1) := by decide +kernel
theorem d_mo_plus_84 : decode bc_mo_plus 84 = .ok (.iload 4, 2) := by decide +kernel
theorem d_mo_plus_86 : decode bc_mo_plus 86 = .ok (.invokestatic 52, 3) := by decide +kernel
theorem d_mo_plus_89 : decode bc_mo_plus 89 = .ok (.ifCond .ne 7, 3) := by decide +kernel
theorem d_mo_plus_92 : decode bc_mo_plus 92 = .ok (.iconst 1, 1) := by decide +kernel
theorem d_mo_plus_93 : decode bc_mo_plus 93 = .ok (.goto 4, 3) := by decide +kernel
theorem d_mo_plus_96 : decode bc_mo_plus 96 = .ok (.iconst 0, 1) := by decide +kernel
theorem d_mo_plus_97 : decode bc_mo_plus 97 = .ok (.invokevirtual 36, 3) := by decide +kernel
theorem d_mo_plus_100 : decode bc_mo_plus 100 = .ok (.aload_n 0, 1) := by decide +kernel
theorem d_mo_plus_101 : decode bc_mo_plus 101 = .ok (.iload 5, 2) := by decide +kernel
theorem d_mo_plus_103 : decode bc_mo_plus 103 = .ok (.iload 4, 2) := by decide +kernel
theorem d_mo_plus_105 : decode bc_mo_plus 105 = .ok (.invokevirtual 40, 3) := by decide +kernel
theorem d_mo_plus_108 : decode bc_mo_plus 108 = .ok (.iload 5, 2) := by decide +kernel
theorem d_mo_plus_110 : decode bc_mo_plus 110 = .ok (.iload 4, 2) := by decide +kernel
theorem d_mo_plus_112 : decode bc_mo_plus 112 = .ok (.ifCond .eq 8, 3) := by decide +kernel
theorem d_mo_plus_115 : decode bc_mo_plus 115 = .ok (.ldc 30, 2) := by decide +kernel
theorem d_mo_plus_117 : decode bc_mo_plus 117 = .ok (.goto 6, 3) := by decide +kernel
theorem d_mo_plus_120 : decode bc_mo_plus 120 = .ok (.sipush 255, 3) := by decide +kernel
theorem d_mo_plus_123 : decode bc_mo_plus 123 = .ok (.iand, 1) := by decide +kernel
theorem d_mo_plus_124 : decode bc_mo_plus 124 = .ok (.ireturn, 1) := by decide +kernel
theorem d_mo_less_0 : decode bc_mo_less 0 = .ok (.iload_n 1, 1) := by decide +kernel
theorem d_mo_less_1 : decode bc_mo_less 1 = .ok (.iload_n 2, 1) := by decide +kernel
theorem d_mo_less_2 : decode bc_mo_less 2 = .ok (.isub, 1) := by decide +kernel
theorem d_mo_less_3 : decode bc_mo_less 3 = .ok (.iload_n 3, 1) := by decide +kernel
theorem d_mo_less_4 : decode bc_mo_less 4 = .ok (.isub, 1) := by decide +kernel
theorem d_mo_less_5 : decode bc_mo_less 5 = .ok (.istore 5, 2) := by decide +kernel
theorem d_mo_less_7 : decode bc_mo_less 7 = .ok (.aload_n 0, 1) := by decide +kernel
theorem d_mo_less_8 : decode bc_mo_less 8 = .ok (.iconst 1, 1) := by decide +kernel
theorem d_mo_less_9 : decode bc_mo_less 9 = .ok (.iload 5, 2) := by decide +kernel
theorem d_mo_less_11 : decode bc_mo_less 11 = .ok (.ifCond .ge 7, 3) := by decide +kernel
theorem d_mo_less_14 : decode bc_mo_less 14 = .ok (.iconst 1, 1) := by decide +kernel
theorem d_mo_less_15 : decode bc_mo_less 15 = .ok (.goto 4, 3) := by decide +kernel
theorem d_mo_less_18 : decode bc_mo_less 18 = .ok (.iconst 0, 1) := by decide +kernel
theorem d_mo_less_19 : decode bc_mo_less 19 = .ok (.invokevirtual 36, 3) := by decide +kernel
theorem d_mo_less_22 : decode bc_mo_less 22 = .ok (.aload_n 0, 1) := by decide +kernel
theorem d_mo_less_23 : decode bc_mo_less 23 = .ok (.iconst 2, 1) := by decide +kernel
theorem d_mo_less_24 : decode bc_mo_less 24 = .ok (.iload_n 1, 1) := by decide +kernel
theorem d_mo_less_25 : decode bc_mo_less 25 = .ok (.iload 4, 2) := by decide +kernel
theorem d_mo_less_27 : decode bc_mo_less 27 = .ok (.invokestatic 48, 3) := by decide +kernel
theorem d_mo_less_30 : decode bc_mo_less 30 = .ok (.iload_n 2, 1) := by decide +kernel
theorem d_mo_less_31 : decode bc_mo_less 31 = .ok (.iload 4, 2) := by decide +kernel
theorem d_mo_less_33 : decode bc_mo_less 33 = .ok (.invokestatic 48, 3) := by decide +kernel
theorem d_mo_less_36 : decode bc_mo_less 36 = .ok (.isub, 1) := by decide +kernel
theorem d_mo_less_37 : decode bc_mo_less 37 = .ok (.iload_n 3, 1) := by decide +kernel
theorem d_mo_less_38 : decode bc_mo_less 38 = .ok (.isub, 1) := by decide +kernel
theorem d_mo_less_39 : decode bc_mo_less 39 = .ok (.iload 4, 2) := by decide +kernel
theorem d_mo_less_41 : decode bc_mo_less 41 = .ok (.invokestatic 52, 3) := by decide +kernel
theorem d_mo_less_44 : decode bc_mo_less 44 = .ok (.ifCond .ne 7, 3) := by decide +kernel
theorem d_mo_less_47 : decode bc_mo_less 47 = .ok (.iconst 1, 1) := by decide +kernel
theorem d_mo_less_48 : decode bc_mo_less 48 = .ok (.goto 4, 3) := by decide +kernel
theorem d_mo_less_51 : decode bc_mo_less 51 = .ok (.iconst 0, 1) := by decide +kernel
theorem d_mo_less_52 : decode bc_mo_less 52 = .ok (.invokevirtual 36, 3) := by decide +kernel
theorem d_mo_less_55 : decode bc_mo_less 55 = .ok (.aload_n 0, 1) := by decide +kernel
theorem d_mo_less_56 : decode bc_mo_less 56 = .ok (.iload 5, 2) := by decide +kernel
theorem d_mo_less_58 : decode bc_mo_less 58 = .ok (.iload 4, 2) := by decide +kernel
theorem d_mo_less_60 : decode bc_mo_less 60 = .ok (.invokevirtual 40, 3) := by decide +kernel
theorem d_mo_less_63 : decode bc_mo_less 63 = .ok (.iload 5, 2) := by decide +kernel
theorem d_mo_less_65 : decode bc_mo_less 65 = .ok (.iload 4, 2) := by decide +kernel
theorem d_mo_less_67 : decode bc_mo_less 67 = .ok (.ifCond .eq 8, 3) := by decide +kernel
end
section
theorem d_mo_less_70 : decode bc_mo_less 70 = .ok (.ldc 30, 2) := by decide +kernel
theorem d_mo_less_72 : decode bc_mo_less 72 = .ok (.goto 6, 3) := by decide +kernel
theorem d_mo_less_75 : decode bc_mo_less 75 = .ok (.sipush 255, 3) := by decide +kernel
theorem d_mo_less_78 : decode bc_mo_less 78 = .ok (.iand, 1) := by decide +kernel
theorem d_mo_less_79 : decode bc_mo_less 79 = .ok (.ireturn, 1) := by decide +kernel
theorem d_mo_byPostbyte_0 : decode bc_mo_byPostbyte 0 = .ok (.aload_n 0, 1) := by decide +kernel
theorem d_mo_byPostbyte_1 : decode bc_mo_byPostbyte 1 = .ok (.invokevirtual 31, 3) := by decide +kernel
theorem d_mo_byPostbyte_4 : decode bc_mo_byPostbyte 4 = .ok (.istore_n 1, 1) := by decide +kernel
theorem d_mo_byPostbyte_5 : decode bc_mo_byPostbyte 5 = .ok (.iconst 2, 1) := by decide +kernel
theorem d_mo_byPostbyte_6 : decode bc_mo_byPostbyte 6 = .ok (.iload_n 1, 1) := by decide +kernel
theorem d_mo_byPostbyte_7 : decode bc_mo_byPostbyte 7 = .ok (.iconst 5, 1) := by decide +kernel
theorem d_mo_byPostbyte_8 : decode bc_mo_byPostbyte 8 = .ok (.ishr, 1) := by decide +kernel
theorem d_mo_byPostbyte_9 : decode bc_mo_byPostbyte 9 = .ok (.iconst 3, 1) := by decide +kernel
theorem d_mo_byPostbyte_10 : decode bc_mo_byPostbyte 10 = .ok (.iand, 1) := by decide +kernel
theorem d_mo_byPostbyte_11 : decode bc_mo_byPostbyte 11 = .ok (.iadd, 1) := by decide +kernel
theorem d_mo_byPostbyte_12 : decode bc_mo_byPostbyte 12 = .ok (.istore_n 2, 1) := by decide +kernel
theorem d_mo_byPostbyte_13 : decode bc_mo_byPostbyte 13 = .ok (.iload_n 1, 1) := by decide +kernel
theorem d_mo_byPostbyte_14 : decode bc_mo_byPostbyte 14 = .ok (.bipush 15, 2) := by decide +kernel
theorem d_mo_byPostbyte_16 : decode bc_mo_byPostbyte 16 = .ok (.iand, 1) := by decide +kernel
theorem d_mo_byPostbyte_17 : decode bc_mo_byPostbyte 17 = .ok (.istore_n 3, 1) := by decide +kernel
theorem d_mo_byPostbyte_18 : decode bc_mo_byPostbyte 18 = .ok (.aload_n 0, 1) := by decide +kernel
theorem d_mo_byPostbyte_19 : decode bc_mo_byPostbyte 19 = .ok (.getfield 13, 3) := by decide +kernel
theorem d_mo_byPostbyte_22 : decode bc_mo_byPostbyte 22 = .ok (.iload_n 2, 1) := by decide +kernel
theorem d_mo_byPostbyte_23 : decode bc_mo_byPostbyte 23 = .ok (.iaload, 1) := by decide +kernel
theorem d_mo_byPostbyte_24 : decode bc_mo_byPostbyte 24 = .ok (.istore 4, 2) := by decide +kernel
theorem d_mo_byPostbyte_26 : decode bc_mo_byPostbyte 26 = .ok (.iload_n 1, 1) := by decide +kernel
theorem d_mo_byPostbyte_27 : decode bc_mo_byPostbyte 27 = .ok (.sipush 128, 3) := by decide +kernel
theorem d_mo_byPostbyte_30 : decode bc_mo_byPostbyte 30 = .ok (.if_icmp .ge 21, 3) := by decide +kernel
theorem d_mo_byPostbyte_33 : decode bc_mo_byPostbyte 33 = .ok (.iload 4, 2) := by decide +kernel
theorem d_mo_byPostbyte_35 : decode bc_mo_byPostbyte 35 = .ok (.iload_n 1, 1) := by decide +kernel
theorem d_mo_byPostbyte_36 : decode bc_mo_byPostbyte 36 = .ok (.bipush 31, 2) := by decide +kernel
theorem d_mo_byPostbyte_38 : decode bc_mo_byPostbyte 38 = .ok (.iand, 1) := by decide +kernel
theorem d_mo_byPostbyte_39 : decode bc_mo_byPostbyte 39 = .ok (.iadd, 1) := by decide +kernel
theorem d_mo_byPostbyte_40 : decode bc_mo_byPostbyte 40 = .ok (.iconst 2, 1) := by decide +kernel
theorem d_mo_byPostbyte_41 : decode bc_mo_byPostbyte 41 = .ok (.iload_n 1, 1) := by decide +kernel
theorem d_mo_byPostbyte_42 : decode bc_mo_byPostbyte 42 = .ok (.bipush 16, 2) := by decide +kernel
theorem d_mo_byPostbyte_44 : decode bc_mo_byPostbyte 44 = .ok (.iand, 1) := by decide +kernel
theorem d_mo_byPostbyte_45 : decode bc_mo_byPostbyte 45 = .ok (.imul, 1) := by decide +kernel
theorem d_mo_byPostbyte_46 : decode bc_mo_byPostbyte 46 = .ok (.isub, 1) := by decide +kernel
theorem d_mo_byPostbyte_47 : decode bc_mo_byPostbyte 47 = .ok (.ldc 30, 2) := by decide +kernel
theorem d_mo_byPostbyte_49 : decode bc_mo_byPostbyte 49 = .ok (.iand, 1) := by decide +kernel
theorem d_mo_byPostbyte_50 : decode bc_mo_byPostbyte 50 = .ok (.ireturn, 1) := by decide +kernel
theorem d_mo_byPostbyte_51 : decode bc_mo_byPostbyte 51 = .ok (.iload_n 1, 1) := by decide +kernel
theorem d_mo_byPostbyte_52 : decode bc_mo_byPostbyte 52 = .ok (.bipush 16, 2) := by decide +kernel
theorem d_mo_byPostbyte_54 : decode bc_mo_byPostbyte 54 = .ok (.iand, 1) := by decide +kernel
theorem d_mo_byPostbyte_55 : decode bc_mo_byPostbyte 55 = .ok (.ifCond .eq 7, 3) := by decide +kernel
theorem d_mo_byPostbyte_58 : decode bc_mo_byPostbyte 58 = .ok (.iconst 1, 1) := by decide +kernel
theorem d_mo_byPostbyte_59 : decode bc_mo_byPostbyte 59 = .ok (.goto 4, 3) := by decide +kernel
theorem d_mo_byPostbyte_62 : decode bc_mo_byPostbyte 62 = .ok (.iconst 0, 1) := by decide +kernel
theorem d_mo_byPostbyte_63 : decode bc_mo_byPostbyte 63 = .ok (.istore 5, 2) := by decide +kernel
theorem d_mo_byPostbyte_65 : decode bc_mo_byPostbyte 65 = .ok (.aload_n 0, 1) := by decide +kernel
theorem d_mo_byPostbyte_66 : decode bc_mo_byPostbyte 66 = .ok (.iload_n 3, 1) := by decide +kernel
theorem d_mo_byPostbyte_67 : decode bc_mo_byPostbyte 67 = .ok (.bipush 7, 2) := by decide +kernel
theorem d_mo_byPostbyte_69 : decode bc_mo_byPostbyte 69 = .ok (.if_icmp .eq 42, 3) := by decide +kernel
theorem d_mo_byPostbyte_72 : decode bc_mo_byPostbyte 72 = .ok (.iload_n 3, 1) := by decide +kernel
theorem d_mo_byPostbyte_73 : decode bc_mo_byPostbyte 73 = .ok (.bipush 10, 2) := by decide +kernel
theorem d_mo_byPostbyte_75 : decode bc_mo_byPostbyte 75 = .ok (.if_icmp .eq 36, 3) := by decide +kernel
theorem d_mo_byPostbyte_78 : decode bc_mo_byPostbyte 78 = .ok (.iload_n 3, 1) := by decide +kernel
theorem d_mo_byPostbyte_79 : decode bc_mo_byPostbyte 79 = .ok (.bipush 14, 2) := by decide +kernel
theorem d_mo_byPostbyte_81 : decode bc_mo_byPostbyte 81 = .ok (.if_icmp .eq 30, 3) := by decide +kernel
theorem d_mo_byPostbyte_84 : decode bc_mo_byPostbyte 84 = .ok (.iload_n 3, 1) := by decide +kernel
theorem d_mo_byPostbyte_85 : decode bc_mo_byPostbyte 85 = .ok (.ifCond .eq 8, 3) := by decide +kernel
theorem d_mo_byPostbyte_88 : decode bc_mo_byPostbyte 88 = .ok (.iload_n 3, 1) := by decide +kernel
theorem d_mo_byPostbyte_89 : decode bc_mo_byPostbyte 89 = .ok (.iconst 2, 1) := by decide +kernel
theorem d_mo_byPostbyte_90 : decode bc_mo_byPostbyte 90 = .ok (.if_icmp .ne 8, 3) := by decide +kernel
theorem d_mo_byPostbyte_93 : decode bc_mo_byPostbyte 93 = .ok (.iload 5, 2) := by decide +kernel
theorem d_mo_byPostbyte_95 : decode bc_mo_byPostbyte 95 = .ok (.ifCond .ne 16, 3) := by decide +kernel
theorem d_mo_byPostbyte_98 : decode bc_mo_byPostbyte 98 = .ok (.iload_n 3, 1) := by decide +kernel
theorem d_mo_byPostbyte_99 : decode bc_mo_byPostbyte 99 = .ok (.bipush 15, 2) := by decide +kernel
theorem d_mo_byPostbyte_101 : decode bc_mo_byPostbyte 101 = .ok (.if_icmp .ne 14, 3) := by decide +kernel
theorem d_mo_byPostbyte_104 : decode bc_mo_byPostbyte 104 = .ok (.iload_n 1, 1) := by decide +kernel
theorem d_mo_byPostbyte_105 : decode bc_mo_byPostbyte 105 = .ok (.sipush 159, 3) := by decide +kernel
theorem d_mo_byPostbyte_108 : decode bc_mo_byPostbyte 108 = .ok (.if_icmp .eq 7, 3) := by decide +kernel
theorem d_mo_byPostbyte_111 : decode bc_mo_byPostbyte 111 = .ok (.iconst 1, 1) := by decide +kernel
theorem d_mo_byPostbyte_112 : decode bc_mo_byPostbyte 112 = .ok (.goto 4, 3) := by decide +kernel
theorem d_mo_byPostbyte_115 : decode bc_mo_byPostbyte 115 = .ok (.iconst 0, 1) := by decide +kernel
theorem d_mo_byPostbyte_116 : decode bc_mo_byPostbyte 116 = .ok (.putfield 56, 3) := by decide +kernel
theorem d_mo_byPostbyte_119 : decode bc_mo_byPostbyte 119 = .ok (.aload_n 0, 1) := by decide +kernel
theorem d_mo_byPostbyte_120 : decode bc_mo_byPostbyte 120 = .ok (.getfield 56, 3) := by decide +kernel
theorem d_mo_byPostbyte_123 : decode bc_mo_byPostbyte 123 = .ok (.ifCond .eq 5, 3) := by decide +kernel
theorem d_mo_byPostbyte_126 : decode bc_mo_byPostbyte 126 = .ok (.iconst 0, 1) := by decide +kernel
theorem d_mo_byPostbyte_127 : decode bc_mo_byPostbyte 127 = .ok (.ireturn, 1) := by decide +kernel
theorem d_mo_byPostbyte_128 : decode bc_mo_byPostbyte 128 = .ok (.iload_n 3, 1) := by decide +kernel
theorem d_mo_byPostbyte_129 : decode bc_mo_byPostbyte 129 = .ok (.iconst 2, 1) := by decide +kernel
theorem d_mo_byPostbyte_130 : decode bc_mo_byPostbyte 130 = .ok (.if_icmp .ge 18, 3) := by decide +kernel
theorem d_mo_byPostbyte_133 : decode bc_mo_byPostbyte 133 = .ok (.aload_n 0, 1) := by decide +kernel
theorem d_mo_byPostbyte_134 : decode bc_mo_byPostbyte 134 = .ok (.getfield 13, 3) := by decide +kernel
theorem d_mo_byPostbyte_137 : decode bc_mo_byPostbyte 137 = .ok (.iload_n 2, 1) := by decide +kernel
theorem d_mo_byPostbyte_138 : decode bc_mo_byPostbyte 138 = .ok (.iload 4, 2) := by decide +kernel
theorem d_mo_byPostbyte_140 : decode bc_mo_byPostbyte 140 = .ok (.iload_n 3, 1) := by decide +kernel
theorem d_mo_byPostbyte_141 : decode bc_mo_byPostbyte 141 = .ok (.iadd, 1) := by decide +kernel
theorem d_mo_byPostbyte_142 : decode bc_mo_byPostbyte 142 = .ok (.iconst 1, 1) := by decide +kernel
theorem d_mo_byPostbyte_143 : decode bc_mo_byPostbyte 143 = .ok (.iadd, 1) := by decide +kernel
theorem d_mo_byPostbyte_144 : decode bc_mo_byPostbyte 144 = .ok (.ldc 30, 2) := by decide +kernel
theorem d_mo_byPostbyte_146 : decode bc_mo_byPostbyte 146 = .ok (.iand, 1) := by decide +kernel
theorem d_mo_byPostbyte_147 : decode bc_mo_byPostbyte 147 = .ok (.iastore, 1) := by decide +kernel
theorem d_mo_byPostbyte_148 : decode bc_mo_byPostbyte 148 = .ok (.iload_n 3, 1) := by decide +kernel
theorem d_mo_byPostbyte_149 : decode bc_mo_byPostbyte 149 = .ok (.iconst 2, 1) := by decide +kernel
theorem d_mo_byPostbyte_150 : decode bc_mo_byPostbyte 150 = .ok (.if_icmp .eq 8, 3) := by decide +kernel
theorem d_mo_byPostbyte_153 : decode bc_mo_byPostbyte 153 = .ok (.iload_n 3, 1) := by decide +kernel
theorem d_mo_byPostbyte_154 : decode bc_mo_byPostbyte 154 = .ok (.iconst 3, 1) := by decide +kernel
theorem d_mo_byPostbyte_155 : decode bc_mo_byPostbyte 155 = .ok (.if_icmp .ne 22, 3) := by decide +kernel
theorem d_mo_byPostbyte_158 : decode bc_mo_byPostbyte 158 = .ok (.iload 4, 2) := by decide +kernel
theorem d_mo_byPostbyte_160 : decode bc_mo_byPostbyte 160 = .ok (.iload_n 3, 1) := by decide +kernel
theorem d_mo_byPostbyte_161 : decode bc_mo_byPostbyte 161 = .ok (.isub, 1) := by decide +kernel
theorem d_mo_byPostbyte_162 : decode bc_mo_byPostbyte 162 = .ok (.iconst 1, 1) := by decide +kernel
theorem d_mo_byPostbyte_163 : decode bc_mo_byPostbyte 163 = .ok (.iadd, 1) := by decide +kernel
theorem d_mo_byPostbyte_164 : decode bc_mo_byPostbyte 164 = .ok (.ldc 30, 2) := by decide +kernel
theorem d_mo_byPostbyte_166 : decode bc_mo_byPostbyte 166 = .ok (.iand, 1) := by decide +kernel
theorem d_mo_byPostbyte_167 : decode bc_mo_byPostbyte 167 = .ok (.istore 4, 2) := by decide +kernel
theorem d_mo_byPostbyte_169 : decode bc_mo_byPostbyte 169 = .ok (.aload_n 0, 1) := by decide +kernel
theorem d_mo_byPostbyte_170 : decode bc_mo_byPostbyte 170 = .ok (.getfield 13, 3) := by decide +kernel
theorem d_mo_byPostbyte_173 : decode bc_mo_byPostbyte 173 = .ok (.iload_n 2, 1) := by decide +kernel
theorem d_mo_byPostbyte_174 : decode bc_mo_byPostbyte 174 = .ok (.iload 4, 2) := by decide +kernel
theorem d_mo_byPostbyte_176 : decode bc_mo_byPostbyte 176 = .ok (.iastore, 1) := by decide +kernel
theorem d_mo_byPostbyte_177 : decode bc_mo_byPostbyte 177 = .ok (.iload_n 3, 1) := by decide +kernel
theorem d_mo_byPostbyte_178 : decode bc_mo_byPostbyte 178 = .ok (.iconst 5, 1) := by decide +kernel
theorem d_mo_byPostbyte_179 : decode bc_mo_byPostbyte 179 = .ok (.if_icmp .eq 9, 3) := by decide +kernel
theorem d_mo_byPostbyte_182 : decode bc_mo_byPostbyte 182 = .ok (.iload_n 3, 1) := by decide +kernel
theorem d_mo_byPostbyte_183 : decode bc_mo_byPostbyte 183 = .ok (.bipush 6, 2) := by decide +kernel
theorem d_mo_byPostbyte_185 : decode bc_mo_byPostbyte 185 = .ok (.if_icmp .ne 31, 3) := by decide +kernel
theorem d_mo_byPostbyte_188 : decode bc_mo_byPostbyte 188 = .ok (.iload 4, 2) := by decide +kernel
theorem d_mo_byPostbyte_190 : decode bc_mo_byPostbyte 190 = .ok (.iload_n 3, 1) := by decide +kernel
theorem d_mo_byPostbyte_191 : decode bc_mo_byPostbyte 191 = .ok (.iconst 5, 1) := by decide +kernel
theorem d_mo_byPostbyte_192 : decode bc_mo_byPostbyte 192 = .ok (.if_icmp .ne 12, 3) := by decide +kernel
theorem d_mo_byPostbyte_195 : decode bc_mo_byPostbyte 195 = .ok (.aload_n 0, 1) := by decide +kernel
theorem d_mo_byPostbyte_196 : decode bc_mo_byPostbyte 196 = .ok (.getfield 13, 3) := by decide +kernel
theorem d_mo_byPostbyte_199 : decode bc_mo_byPostbyte 199 = .ok (.iconst 1, 1) := by decide +kernel
theorem d_mo_byPostbyte_200 : decode bc_mo_byPostbyte 200 = .ok (.iaload, 1) := by decide +kernel
theorem d_mo_byPostbyte_201 : decode bc_mo_byPostbyte 201 = .ok (.goto 9, 3) := by decide +kernel
theorem d_mo_byPostbyte_204 : decode bc_mo_byPostbyte 204 = .ok (.aload_n 0, 1) := by decide +kernel
theorem d_mo_byPostbyte_205 : decode bc_mo_byPostbyte 205 = .ok (.getfield 13, 3) := by decide +kernel
theorem d_mo_byPostbyte_208 : decode bc_mo_byPostbyte 208 = .ok (.iconst 0, 1) := by decide +kernel
theorem d_mo_byPostbyte_209 : decode bc_mo_byPostbyte 209 = .ok (.iaload, 1) := by decide +kernel
theorem d_mo_byPostbyte_210 : decode bc_mo_byPostbyte 210 = .ok (.invokestatic 60, 3) := by decide +kernel
theorem d_mo_byPostbyte_213 : decode bc_mo_byPostbyte 213 = .ok (.iadd, 1) := by decide +kernel
theorem d_mo_byPostbyte_214 : decode bc_mo_byPostbyte 214 = .ok (.istore 4, 2) := by decide +kernel
theorem d_mo_byPostbyte_216 : decode bc_mo_byPostbyte 216 = .ok (.iload_n 3, 1) := by decide +kernel
theorem d_mo_byPostbyte_217 : decode bc_mo_byPostbyte 217 = .ok (.bipush 8, 2) := by decide +kernel
theorem d_mo_byPostbyte_219 : decode bc_mo_byPostbyte 219 = .ok (.if_icmp .ne 15, 3) := by decide +kernel
theorem d_mo_byPostbyte_222 : decode bc_mo_byPostbyte 222 = .ok (.iload 4, 2) := by decide +kernel
theorem d_mo_byPostbyte_224 : decode bc_mo_byPostbyte 224 = .ok (.aload_n 0, 1) := by decide +kernel
theorem d_mo_byPostbyte_225 : decode bc_mo_byPostbyte 225 = .ok (.invokevirtual 31, 3) := by decide +kernel
theorem d_mo_byPostbyte_228 : decode bc_mo_byPostbyte 228 = .ok (.invokestatic 60, 3) := by decide +kernel
theorem d_mo_byPostbyte_231 : decode bc_mo_byPostbyte 231 = .ok (.iadd, 1) := by decide +kernel
theorem d_mo_byPostbyte_232 : decode bc_mo_byPostbyte 232 = .ok (.istore 4, 2) := by decide +kernel
theorem d_mo_byPostbyte_234 : decode bc_mo_byPostbyte 234 = .ok (.iload_n 3, 1) := by decide +kernel
theorem d_mo_byPostbyte_235 : decode bc_mo_byPostbyte 235 = .ok (.bipush 9, 2) := by decide +kernel
theorem d_mo_byPostbyte_237 : decode bc_mo_byPostbyte 237 = .ok (.if_icmp .ne 12, 3) := by decide +kernel
theorem d_mo_byPostbyte_240 : decode bc_mo_byPostbyte 240 = .ok (.iload 4, 2) := by decide +kernel
theorem d_mo_byPostbyte_242 : decode bc_mo_byPostbyte 242 = .ok (.aload_n 0, 1) := by decide +kernel
theorem d_mo_byPostbyte_243 : decode bc_mo_byPostbyte 243 = .ok (.invokevirtual 63, 3) := by decide +kernel
theorem d_mo_byPostbyte_246 : decode bc_mo_byPostbyte 246 = .ok (.iadd, 1) := by decide +kernel
theorem d_mo_byPostbyte_247 : decode bc_mo_byPostbyte 247 = .ok (.istore 4, 2) := by decide +kernel
theorem d_mo_byPostbyte_249 : decode bc_mo_byPostbyte 249 = .ok (.iload_n 3, 1) := by decide +kernel
theorem d_mo_byPostbyte_250 : decode bc_mo_byPostbyte 250 = .ok (.bipush 11, 2) := by decide +kernel
theorem d_mo_byPostbyte_252 : decode bc_mo_byPostbyte 252 = .ok (.if_icmp .ne 12, 3) := by decide +kernel
theorem d_mo_byPostbyte_255 : decode bc_mo_byPostbyte 255 = .ok (.iload 4, 2) := by decide +kernel
theorem d_mo_byPostbyte_257 : decode bc_mo_byPostbyte 257 = .ok (.aload_n 0, 1) := by decide +kernel
theorem d_mo_byPostbyte_258 : decode bc_mo_byPostbyte 258 = .ok (.invokevirtual 66, 3) := by decide +kernel
theorem d_mo_byPostbyte_261 : decode bc_mo_byPostbyte 261 = .ok (.iadd, 1) := by decide +kernel
theorem d_mo_byPostbyte_262 : decode bc_mo_byPostbyte 262 = .ok (.istore 4, 2) := by decide +kernel
theorem d_mo_byPostbyte_264 : decode bc_mo_byPostbyte 264 = .ok (.iload_n 3, 1) := by decide +kernel
theorem d_mo_byPostbyte_265 : decode bc_mo_byPostbyte 265 = .ok (.bipush 12, 2) := by decide +kernel
theorem d_mo_byPostbyte_267 : decode bc_mo_byPostbyte 267 = .ok (.if_icmp .ne 24, 3) := by decide +kernel
theorem d_mo_byPostbyte_270 : decode bc_mo_byPostbyte 270 = .ok (.aload_n 0, 1) := by decide +kernel
theorem d_mo_byPostbyte_271 : decode bc_mo_byPostbyte 271 = .ok (.invokevirtual 31, 3) := by decide +kernel
theorem d_mo_byPostbyte_274 : decode bc_mo_byPostbyte 274 = .ok (.invokestatic 60, 3) := by decide +kernel
theorem d_mo_byPostbyte_277 : decode bc_mo_byPostbyte 277 = .ok (.istore 6, 2) := by decide +kernel
theorem d_mo_byPostbyte_279 : decode bc_mo_byPostbyte 279 = .ok (.aload_n 0, 1) := by decide +kernel
theorem d_mo_byPostbyte_280 : decode bc_mo_byPostbyte 280 = .ok (.getfield 13, 3) := by decide +kernel
theorem d_mo_byPostbyte_283 : decode bc_mo_byPostbyte 283 = .ok (.bipush 6, 2) := by decide +kernel
theorem d_mo_byPostbyte_285 : decode bc_mo_byPostbyte 285 = .ok (.iaload, 1) := by decide +kernel
theorem d_mo_byPostbyte_286 : decode bc_mo_byPostbyte 286 = .ok (.iload 6, 2) := by decide +kernel
theorem d_mo_byPostbyte_288 : decode bc_mo_byPostbyte 288 = .ok (.iadd, 1) := by decide +kernel
theorem d_mo_byPostbyte_289 : decode bc_mo_byPostbyte 289 = .ok (.istore 4, 2) := by decide +kernel
theorem d_mo_byPostbyte_291 : decode bc_mo_byPostbyte 291 = .ok (.iload_n 3, 1) := by decide +kernel
theorem d_mo_byPostbyte_292 : decode bc_mo_byPostbyte 292 = .ok (.bipush 13, 2) := by decide +kernel
theorem d_mo_byPostbyte_294 : decode bc_mo_byPostbyte 294 = .ok (.if_icmp .ne 21, 3) := by decide +kernel
theorem d_mo_byPostbyte_297 : decode bc_mo_byPostbyte 297 = .ok (.aload_n 0, 1) := by decide +kernel
theorem d_mo_byPostbyte_298 : decode bc_mo_byPostbyte 298 = .ok (.invokevirtual 63, 3) := by decide +kernel
theorem d_mo_byPostbyte_301 : decode bc_mo_byPostbyte 301 = .ok (.istore 6, 2) := by decide +kernel
theorem d_mo_byPostbyte_303 : decode bc_mo_byPostbyte 303 = .ok (.aload_n 0, 1) := by decide +kernel
theorem d_mo_byPostbyte_304 : decode bc_mo_byPostbyte 304 = .ok (.getfield 13, 3) := by decide +kernel
theorem d_mo_byPostbyte_307 : decode bc_mo_byPostbyte 307 = .ok (.bipush 6, 2) := by decide +kernel
theorem d_mo_byPostbyte_309 : decode bc_mo_byPostbyte 309 = .ok (.iaload, 1) := by decide +kernel
theorem d_mo_byPostbyte_310 : decode bc_mo_byPostbyte 310 = .ok (.iload 6, 2) := by decide +kernel
theorem d_mo_byPostbyte_312 : decode bc_mo_byPostbyte 312 = .ok (.iadd, 1) := by decide +kernel
theorem d_mo_byPostbyte_313 : decode bc_mo_byPostbyte 313 = .ok (.istore 4, 2) := by decide +kernel
theorem d_mo_byPostbyte_315 : decode bc_mo_byPostbyte 315 = .ok (.iload_n 3, 1) := by decide +kernel
theorem d_mo_byPostbyte_316 : decode bc_mo_byPostbyte 316 = .ok (.bipush 15, 2) := by decide +kernel
theorem d_mo_byPostbyte_318 : decode bc_mo_byPostbyte 318 = .ok (.if_icmp .ne 9, 3) := by decide +kernel
theorem d_mo_byPostbyte_321 : decode bc_mo_byPostbyte 321 = .ok (.aload_n 0, 1) := by decide +kernel
theorem d_mo_byPostbyte_322 : decode bc_mo_byPostbyte 322 = .ok (.invokevirtual 63, 3) := by decide +kernel
theorem d_mo_byPostbyte_325 : decode bc_mo_byPostbyte 325 = .ok (.istore 4, 2) := by decide +kernel
theorem d_mo_byPostbyte_327 : decode bc_mo_byPostbyte 327 = .ok (.iload 4, 2) := by decide +kernel
theorem d_mo_byPostbyte_329 : decode bc_mo_byPostbyte 329 = .ok (.ldc 30, 2) := by decide +kernel
theorem d_mo_byPostbyte_331 : decode bc_mo_byPostbyte 331 = .ok (.iand, 1) := by decide +kernel
theorem d_mo_byPostbyte_332 : decode bc_mo_byPostbyte 332 = .ok (.istore 4, 2) := by decide +kernel
theorem d_mo_byPostbyte_334 : decode bc_mo_byPostbyte 334 = .ok (.iload 5, 2) := by decide +kernel
theorem d_mo_byPostbyte_336 : decode bc_mo_byPostbyte 336 = .ok (.ifCond .eq 12, 3) := by decide +kernel
theorem d_mo_byPostbyte_339 : decode bc_mo_byPostbyte 339 = .ok (.aload_n 0, 1) := by decide +kernel
theorem d_mo_byPostbyte_340 : decode bc_mo_byPostbyte 340 = .ok (.iload 4, 2) := by decide +kernel
theorem d_mo_byPostbyte_342 : decode bc_mo_byPostbyte 342 = .ok (.invokevirtual 69, 3) := by decide +kernel
theorem d_mo_byPostbyte_345 : decode bc_mo_byPostbyte 345 = .ok (.goto 5, 3) := by decide +kernel
theorem d_mo_byPostbyte_348 : decode bc_mo_byPostbyte 348 = .ok (.iload 4, 2) := by decide +kernel
theorem d_mo_byPostbyte_350 : decode bc_mo_byPostbyte 350 = .ok (.ireturn, 1) := by decide +kernel
theorem d_mo_address_0 : decode bc_mo_address 0 = .ok (.iload_n 1, 1) := by decide +kernel
theorem d_mo_address_1 : decode bc_mo_address 1 = .ok (.iconst 2, 1) := by decide +kernel
theorem d_mo_address_2 : decode bc_mo_address 2 = .ok (.if_icmp .ne 8, 3) := by decide +kernel
theorem d_mo_address_5 : decode bc_mo_address 5 = .ok (.aload_n 0, 1) := by decide +kernel
theorem d_mo_address_6 : decode bc_mo_address 6 = .ok (.invokevirtual 72, 3) := by decide +kernel
theorem d_mo_address_9 : decode bc_mo_address 9 = .ok (.ireturn, 1) := by decide +kernel
theorem d_mo_address_10 : decode bc_mo_address 10 = .ok (.iload_n 1, 1) := by decide +kernel
theorem d_mo_address_11 : decode bc_mo_address 11 = .ok (.iconst 1, 1) := by decide +kernel
theorem d_mo_address_12 : decode bc_mo_address 12 = .ok (.if_icmp .ne 22, 3) := by decide +kernel
theorem d_mo_address_15 : decode bc_mo_address 15 = .ok (.sipush 256, 3) := by decide +kernel
theorem d_mo_address_18 : decode bc_mo_address 18 = .ok (.aload_n 0, 1) := by decide +kernel
theorem d_mo_address_19 : decode bc_mo_address 19 = .ok (.getfield 13, 3) := by decide +kernel
theorem d_mo_address_22 : decode bc_mo_address 22 = .ok (.bipush 7, 2) := by decide +kernel
theorem d_mo_address_24 : decode bc_mo_address 24 = .ok (.iaload, 1) := by decide +kernel
theorem d_mo_address_25 : decode bc_mo_address 25 = .ok (.imul, 1) := by decide +kernel
theorem d_mo_address_26 : decode bc_mo_address 26 = .ok (.aload_n 0, 1) := by decide +kernel
theorem d_mo_address_27 : decode bc_mo_address 27 = .ok (.invokevirtual 31, 3) := by decide +kernel
theorem d_mo_address_30 : decode bc_mo_address 30 = .ok (.iadd, 1) := by decide +kernel
theorem d_mo_address_31 : decode bc_mo_address 31 = .ok (.goto 7, 3) := by decide +kernel
theorem d_mo_address_34 : decode bc_mo_address 34 = .ok (.aload_n 0, 1) := by decide +kernel
theorem d_mo_address_35 : decode bc_mo_address 35 = .ok (.invokevirtual 63, 3) := by decide +kernel
theorem d_mo_address_38 : decode bc_mo_address 38 = .ok (.ireturn, 1) := by decide +kernel
theorem d_mo_operand_0 : decode bc_mo_operand 0 = .ok (.iload_n 1, 1) := by decide +kernel
theorem d_mo_operand_1 : decode bc_mo_operand 1 = .ok (.ifCond .ne 10, 3) := by decide +kernel
theorem d_mo_operand_4 : decode bc_mo_operand 4 = .ok (.aload_n 0, 1) := by decide +kernel
theorem d_mo_operand_5 : decode bc_mo_operand 5 = .ok (.invokevirtual 31, 3) := by decide +kernel
theorem d_mo_operand_8 : decode bc_mo_operand 8 = .ok (.goto 12, 3) := by decide +kernel
theorem d_mo_operand_11 : decode bc_mo_operand 11 = .ok (.aload_n 0, 1) := by decide +kernel
theorem d_mo_operand_12 : decode bc_mo_operand 12 = .ok (.aload_n 0, 1) := by decide +kernel
theorem d_mo_operand_13 : decode bc_mo_operand 13 = .ok (.iload_n 1, 1) := by decide +kernel
theorem d_mo_operand_14 : decode bc_mo_operand 14 = .ok (.invokevirtual 75, 3) := by decide +kernel
theorem d_mo_operand_17 : decode bc_mo_operand 17 = .ok (.invokevirtual 22, 3) := by decide +kernel
theorem d_mo_operand_20 : decode bc_mo_operand 20 = .ok (.ireturn, 1) := by decide +kernel
theorem d_mo_wordOperand_0 : decode bc_mo_wordOperand 0 = .ok (.iload_n 1, 1) := by decide +kernel
theorem d_mo_wordOperand_1 : decode bc_mo_wordOperand 1 = .ok (.ifCond .ne 10, 3) := by decide +kernel
theorem d_mo_wordOperand_4 : decode bc_mo_wordOperand 4 = .ok (.aload_n 0, 1) := by decide +kernel
theorem d_mo_wordOperand_5 : decode bc_mo_wordOperand 5 = .ok (.invokevirtual 63, 3) := by decide +kernel
theorem d_mo_wordOperand_8 : decode bc_mo_wordOperand 8 = .ok (.goto 12, 3) := by decide +kernel
theorem d_mo_wordOperand_11 : decode bc_mo_wordOperand 11 = .ok (.aload_n 0, 1) := by decide +kernel
theorem d_mo_wordOperand_12 : decode bc_mo_wordOperand 12 = .ok (.aload_n 0, 1) := by decide +kernel
theorem d_mo_wordOperand_13 : decode bc_mo_wordOperand 13 = .ok (.iload_n 1, 1) := by decide +kernel
theorem d_mo_wordOperand_14 : decode bc_mo_wordOperand 14 = .ok (.invokevirtual 75, 3) := by decide +kernel
theorem d_mo_wordOperand_17 : decode bc_mo_wordOperand 17 = .ok (.invokevirtual 69, 3) := by decide +kernel
theorem d_mo_wordOperand_20 : decode bc_mo_wordOperand 20 = .ok (.ireturn, 1) := by decide +kernel
theorem d_mo_push_0 : decode bc_mo_push 0 = .ok (.aload_n 0, 1) := by decide +kernel
theorem d_mo_push_1 : decode bc_mo_push 1 = .ok (.getfield 13, 3) := by decide +kernel
theorem d_mo_push_4 : decode bc_mo_push 4 = .ok (.iload_n 1, 1) := by decide +kernel
theorem d_mo_push_5 : decode bc_mo_push 5 = .ok (.aload_n 0, 1) := by decide +kernel
theorem d_mo_push_6 : decode bc_mo_push 6 = .ok (.getfield 13, 3) := by decide +kernel
theorem d_mo_push_9 : decode bc_mo_push 9 = .ok (.iload_n 1, 1) := by decide +kernel
theorem d_mo_push_10 : decode bc_mo_push 10 = .ok (.iaload, 1) := by decide +kernel
theorem d_mo_push_11 : decode bc_mo_push 11 = .ok (.iconst 1, 1) := by decide +kernel
theorem d_mo_push_12 : decode bc_mo_push 12 = .ok (.isub, 1) := by decide +kernel
theorem d_mo_push_13 : decode bc_mo_push 13 = .ok (.ldc 30, 2) := by decide +kernel
theorem d_mo_push_15 : decode bc_mo_push 15 = .ok (.iand, 1) := by decide +kernel
theorem d_mo_push_16 : decode bc_mo_push 16 = .ok (.iastore, 1) := by decide +kernel
theorem d_mo_push_17 : decode bc_mo_push 17 = .ok (.aload_n 0, 1) := by decide +kernel
theorem d_mo_push_18 : decode bc_mo_push 18 = .ok (.aload_n 0, 1) := by decide +kernel
theorem d_mo_push_19 : decode bc_mo_push 19 = .ok (.getfield 13, 3) := by decide +kernel
theorem d_mo_push_22 : decode bc_mo_push 22 = .ok (.iload_n 1, 1) := by decide +kernel
theorem d_mo_push_23 : decode bc_mo_push 23 = .ok (.iaload, 1) := by decide +kernel
theorem d_mo_push_24 : decode bc_mo_push 24 = .ok (.iload_n 2, 1) := by decide +kernel
theorem d_mo_push_25 : decode bc_mo_push 25 = .ok (.invokevirtual 26, 3) := by decide +kernel
theorem d_mo_push_28 : decode bc_mo_push 28 = .ok (.return_, 1) := by decide +kernel
theorem d_mo_pushWord_0 : decode bc_mo_pushWord 0 = .ok (.aload_n 0, 1) := by decide +kernel
theorem d_mo_pushWord_1 : decode bc_mo_pushWord 1 = .ok (.iload_n 1, 1) := by decide +kernel
theorem d_mo_pushWord_2 : decode bc_mo_pushWord 2 = .ok (.iload_n 2, 1) := by decide +kernel
theorem d_mo_pushWord_3 : decode bc_mo_pushWord 3 = .ok (.sipush 255, 3) := by decide +kernel
theorem d_mo_pushWord_6 : decode bc_mo_pushWord 6 = .ok (.iand, 1) := by decide +kernel
theorem d_mo_pushWord_7 : decode bc_mo_pushWord 7 = .ok (.invokevirtual 78, 3) := by decide +kernel
theorem d_mo_pushWord_10 : decode bc_mo_pushWord 10 = .ok (.aload_n 0, 1) := by decide +kernel
theorem d_mo_pushWord_11 : decode bc_mo_pushWord 11 = .ok (.iload_n 1, 1) := by decide +kernel
theorem d_mo_pushWord_12 : decode bc_mo_pushWord 12 = .ok (.iload_n 2, 1) := by decide +kernel
theorem d_mo_pushWord_13 : decode bc_mo_pushWord 13 = .ok (.bipush 8, 2) := by decide +kernel
theorem d_mo_pushWord_15 : decode bc_mo_pushWord 15 = .ok (.ishr, 1) := by decide +kernel
theorem d_mo_pushWord_16 : decode bc_mo_pushWord 16 = .ok (.invokevirtual 78, 3) := by decide +kernel
theorem d_mo_pushWord_19 : decode bc_mo_pushWord 19 = .ok (.return_, 1) := by decide +kernel
theorem d_mo_pull_0 : decode bc_mo_pull 0 = .ok (.aload_n 0, 1) := by decide +kernel
theorem d_mo_pull_1 : decode bc_mo_pull 1 = .ok (.aload_n 0, 1) := by decide +kernel
theorem d_mo_pull_2 : decode bc_mo_pull 2 = .ok (.getfield 13, 3) := by decide +kernel
theorem d_mo_pull_5 : decode bc_mo_pull 5 = .ok (.iload_n 1, 1) := by decide +kernel
theorem d_mo_pull_6 : decode bc_mo_pull 6 = .ok (.iaload, 1) := by decide +kernel
theorem d_mo_pull_7 : decode bc_mo_pull 7 = .ok (.invokevirtual 22, 3) := by decide +kernel
theorem d_mo_pull_10 : decode bc_mo_pull 10 = .ok (.istore_n 2, 1) := by decide +kernel
theorem d_mo_pull_11 : decode bc_mo_pull 11 = .ok (.aload_n 0, 1) := by decide +kernel
theorem d_mo_pull_12 : decode bc_mo_pull 12 = .ok (.getfield 13, 3) := by decide +kernel
theorem d_mo_pull_15 : decode bc_mo_pull 15 = .ok (.iload_n 1, 1) := by decide +kernel
theorem d_mo_pull_16 : decode bc_mo_pull 16 = .ok (.aload_n 0, 1) := by decide +kernel
theorem d_mo_pull_17 : decode bc_mo_pull 17 = .ok (.getfield 13, 3) := by decide +kernel
theorem d_mo_pull_20 : decode bc_mo_pull 20 = .ok (.iload_n 1, 1) := by decide +kernel
theorem d_mo_pull_21 : decode bc_mo_pull 21 = .ok (.iaload, 1) := by decide +kernel
theorem d_mo_pull_22 : decode bc_mo_pull 22 = .ok (.iconst 1, 1) := by decide +kernel
theorem d_mo_pull_23 : decode bc_mo_pull 23 = .ok (.iadd, 1) := by decide +kernel
theorem d_mo_pull_24 : decode bc_mo_pull 24 = .ok (.ldc 30, 2) := by decide +kernel
theorem d_mo_pull_26 : decode bc_mo_pull 26 = .ok (.iand, 1) := by decide +kernel
theorem d_mo_pull_27 : decode bc_mo_pull 27 = .ok (.iastore, 1) := by decide +kernel
theorem d_mo_pull_28 : decode bc_mo_pull 28 = .ok (.iload_n 2, 1) := by decide +kernel
theorem d_mo_pull_29 : decode bc_mo_pull 29 = .ok (.ireturn, 1) := by decide +kernel
theorem d_mo_pullWord_0 : decode bc_mo_pullWord 0 = .ok (.aload_n 0, 1) := by decide +kernel
theorem d_mo_pullWord_1 : decode bc_mo_pullWord 1 = .ok (.iload_n 1, 1) := by decide +kernel
theorem d_mo_pullWord_2 : decode bc_mo_pullWord 2 = .ok (.invokevirtual 81, 3) := by decide +kernel
theorem d_mo_pullWord_5 : decode bc_mo_pullWord 5 = .ok (.istore_n 2, 1) := by decide +kernel
theorem d_mo_pullWord_6 : decode bc_mo_pullWord 6 = .ok (.sipush 256, 3) := by decide +kernel
theorem d_mo_pullWord_9 : decode bc_mo_pullWord 9 = .ok (.iload_n 2, 1) := by decide +kernel
theorem d_mo_pullWord_10 : decode bc_mo_pullWord 10 = .ok (.imul, 1) := by decide +kernel
theorem d_mo_pullWord_11 : decode bc_mo_pullWord 11 = .ok (.aload_n 0, 1) := by decide +kernel
theorem d_mo_pullWord_12 : decode bc_mo_pullWord 12 = .ok (.iload_n 1, 1) := by decide +kernel
theorem d_mo_pullWord_13 : decode bc_mo_pullWord 13 = .ok (.invokevirtual 81, 3) := by decide +kernel
theorem d_mo_pullWord_16 : decode bc_mo_pullWord 16 = .ok (.iadd, 1) := by decide +kernel
theorem d_mo_pullWord_17 : decode bc_mo_pullWord 17 = .ok (.ireturn, 1) := by decide +kernel
theorem d_mo_pushAll_0 : decode bc_mo_pushAll 0 = .ok (.iload_n 2, 1) := by decide +kernel
theorem d_mo_pushAll_1 : decode bc_mo_pushAll 1 = .ok (.sipush 128, 3) := by decide +kernel
theorem d_mo_pushAll_4 : decode bc_mo_pushAll 4 = .ok (.iand, 1) := by decide +kernel
theorem d_mo_pushAll_5 : decode bc_mo_pushAll 5 = .ok (.ifCond .eq 15, 3) := by decide +kernel
theorem d_mo_pushAll_8 : decode bc_mo_pushAll 8 = .ok (.aload_n 0, 1) := by decide +kernel
theorem d_mo_pushAll_9 : decode bc_mo_pushAll 9 = .ok (.iload_n 1, 1) := by decide +kernel
theorem d_mo_pushAll_10 : decode bc_mo_pushAll 10 = .ok (.aload_n 0, 1) := by decide +kernel
theorem d_mo_pushAll_11 : decode bc_mo_pushAll 11 = .ok (.getfield 13, 3) := by decide +kernel
theorem d_mo_pushAll_14 : decode bc_mo_pushAll 14 = .ok (.bipush 6, 2) := by decide +kernel
theorem d_mo_pushAll_16 : decode bc_mo_pushAll 16 = .ok (.iaload, 1) := by decide +kernel
theorem d_mo_pushAll_17 : decode bc_mo_pushAll 17 = .ok (.invokevirtual 84, 3) := by decide +kernel
theorem d_mo_pushAll_20 : decode bc_mo_pushAll 20 = .ok (.iload_n 2, 1) := by decide +kernel
theorem d_mo_pushAll_21 : decode bc_mo_pushAll 21 = .ok (.bipush 64, 2) := by decide +kernel
theorem d_mo_pushAll_23 : decode bc_mo_pushAll 23 = .ok (.iand, 1) := by decide +kernel
theorem d_mo_pushAll_24 : decode bc_mo_pushAll 24 = .ok (.ifCond .eq 23, 3) := by decide +kernel
theorem d_mo_pushAll_27 : decode bc_mo_pushAll 27 = .ok (.aload_n 0, 1) := by decide +kernel
theorem d_mo_pushAll_28 : decode bc_mo_pushAll 28 = .ok (.iload_n 1, 1) := by decide +kernel
theorem d_mo_pushAll_29 : decode bc_mo_pushAll 29 = .ok (.aload_n 0, 1) := by decide +kernel
theorem d_mo_pushAll_30 : decode bc_mo_pushAll 30 = .ok (.getfield 13, 3) := by decide +kernel
theorem d_mo_pushAll_33 : decode bc_mo_pushAll 33 = .ok (.iload_n 1, 1) := by decide +kernel
theorem d_mo_pushAll_34 : decode bc_mo_pushAll 34 = .ok (.iconst 5, 1) := by decide +kernel
theorem d_mo_pushAll_35 : decode bc_mo_pushAll 35 = .ok (.if_icmp .ne 7, 3) := by decide +kernel
theorem d_mo_pushAll_38 : decode bc_mo_pushAll 38 = .ok (.iconst 4, 1) := by decide +kernel
theorem d_mo_pushAll_39 : decode bc_mo_pushAll 39 = .ok (.goto 4, 3) := by decide +kernel
theorem d_mo_pushAll_42 : decode bc_mo_pushAll 42 = .ok (.iconst 5, 1) := by decide +kernel
theorem d_mo_pushAll_43 : decode bc_mo_pushAll 43 = .ok (.iaload, 1) := by decide +kernel
theorem d_mo_pushAll_44 : decode bc_mo_pushAll 44 = .ok (.invokevirtual 84, 3) := by decide +kernel
theorem d_mo_pushAll_47 : decode bc_mo_pushAll 47 = .ok (.iload_n 2, 1) := by decide +kernel
theorem d_mo_pushAll_48 : decode bc_mo_pushAll 48 = .ok (.bipush 32, 2) := by decide +kernel
theorem d_mo_pushAll_50 : decode bc_mo_pushAll 50 = .ok (.iand, 1) := by decide +kernel
theorem d_mo_pushAll_51 : decode bc_mo_pushAll 51 = .ok (.ifCond .eq 14, 3) := by decide +kernel
theorem d_mo_pushAll_54 : decode bc_mo_pushAll 54 = .ok (.aload_n 0, 1) := by decide +kernel
theorem d_mo_pushAll_55 : decode bc_mo_pushAll 55 = .ok (.iload_n 1, 1) := by decide +kernel
theorem d_mo_pushAll_56 : decode bc_mo_pushAll 56 = .ok (.aload_n 0, 1) := by decide +kernel
theorem d_mo_pushAll_57 : decode bc_mo_pushAll 57 = .ok (.getfield 13, 3) := by decide +kernel
theorem d_mo_pushAll_60 : decode bc_mo_pushAll 60 = .ok (.iconst 3, 1) := by decide +kernel
theorem d_mo_pushAll_61 : decode bc_mo_pushAll 61 = .ok (.iaload, 1) := by decide +kernel
theorem d_mo_pushAll_62 : decode bc_mo_pushAll 62 = .ok (.invokevirtual 84, 3) := by decide +kernel
theorem d_mo_pushAll_65 : decode bc_mo_pushAll 65 = .ok (.iload_n 2, 1) := by decide +kernel
theorem d_mo_pushAll_66 : decode bc_mo_pushAll 66 = .ok (.bipush 16, 2) := by decide +kernel
theorem d_mo_pushAll_68 : decode bc_mo_pushAll 68 = .ok (.iand, 1) := by decide +kernel
theorem d_mo_pushAll_69 : decode bc_mo_pushAll 69 = .ok (.ifCond .eq 14, 3) := by decide +kernel
theorem d_mo_pushAll_72 : decode bc_mo_pushAll 72 = .ok (.aload_n 0, 1) := by decide +kernel
theorem d_mo_pushAll_73 : decode bc_mo_pushAll 73 = .ok (.iload_n 1, 1) := by decide +kernel
theorem d_mo_pushAll_74 : decode bc_mo_pushAll 74 = .ok (.aload_n 0, 1) := by decide +kernel
theorem d_mo_pushAll_75 : decode bc_mo_pushAll 75 = .ok (.getfield 13, 3) := by decide +kernel
theorem d_mo_pushAll_78 : decode bc_mo_pushAll 78 = .ok (.iconst 2, 1) := by decide +kernel
theorem d_mo_pushAll_79 : decode bc_mo_pushAll 79 = .ok (.iaload, 1) := by decide +kernel
theorem d_mo_pushAll_80 : decode bc_mo_pushAll 80 = .ok (.invokevirtual 84, 3) := by decide +kernel
theorem d_mo_pushAll_83 : decode bc_mo_pushAll 83 = .ok (.iload_n 2, 1) := by decide +kernel
theorem d_mo_pushAll_84 : decode bc_mo_pushAll 84 = .ok (.bipush 8, 2) := by decide +kernel
theorem d_mo_pushAll_86 : decode bc_mo_pushAll 86 = .ok (.iand, 1) := by decide +kernel
theorem d_mo_pushAll_87 : decode bc_mo_pushAll 87 = .ok (.ifCond .eq 15, 3) := by decide +kernel
theorem d_mo_pushAll_90 : decode bc_mo_pushAll 90 = .ok (.aload_n 0, 1) := by decide +kernel
theorem d_mo_pushAll_91 : decode bc_mo_pushAll 91 = .ok (.iload_n 1, 1) := by decide +kernel
theorem d_mo_pushAll_92 : decode bc_mo_pushAll 92 = .ok (.aload_n 0, 1) := by decide +kernel
theorem d_mo_pushAll_93 : decode bc_mo_pushAll 93 = .ok (.getfield 13, 3) := by decide +kernel
theorem d_mo_pushAll_96 : decode bc_mo_pushAll 96 = .ok (.bipush 7, 2) := by decide +kernel
theorem d_mo_pushAll_98 : decode bc_mo_pushAll 98 = .ok (.iaload, 1) := by decide +kernel
theorem d_mo_pushAll_99 : decode bc_mo_pushAll 99 = .ok (.invokevirtual 78, 3) := by decide +kernel
theorem d_mo_pushAll_102 : decode bc_mo_pushAll 102 = .ok (.iload_n 2, 1) := by decide +kernel
theorem d_mo_pushAll_103 : decode bc_mo_pushAll 103 = .ok (.iconst 4, 1) := by decide +kernel
theorem d_mo_pushAll_104 : decode bc_mo_pushAll 104 = .ok (.iand, 1) := by decide +kernel
theorem d_mo_pushAll_105 : decode bc_mo_pushAll 105 = .ok (.ifCond .eq 14, 3) := by decide +kernel
theorem d_mo_pushAll_108 : decode bc_mo_pushAll 108 = .ok (.aload_n 0, 1) := by decide +kernel
theorem d_mo_pushAll_109 : decode bc_mo_pushAll 109 = .ok (.iload_n 1, 1) := by decide +kernel
theorem d_mo_pushAll_110 : decode bc_mo_pushAll 110 = .ok (.aload_n 0, 1) := by decide +kernel
theorem d_mo_pushAll_111 : decode bc_mo_pushAll 111 = .ok (.getfield 13, 3) := by decide +kernel
theorem d_mo_pushAll_114 : decode bc_mo_pushAll 114 = .ok (.iconst 1, 1) := by decide +kernel
theorem d_mo_pushAll_115 : decode bc_mo_pushAll 115 = .ok (.iaload, 1) := by decide +kernel
theorem d_mo_pushAll_116 : decode bc_mo_pushAll 116 = .ok (.invokevirtual 78, 3) := by decide +kernel
theorem d_mo_pushAll_119 : decode bc_mo_pushAll 119 = .ok (.iload_n 2, 1) := by decide +kernel
theorem d_mo_pushAll_120 : decode bc_mo_pushAll 120 = .ok (.iconst 2, 1) := by decide +kernel
theorem d_mo_pushAll_121 : decode bc_mo_pushAll 121 = .ok (.iand, 1) := by decide +kernel
theorem d_mo_pushAll_122 : decode bc_mo_pushAll 122 = .ok (.ifCond .eq 14, 3) := by decide +kernel
theorem d_mo_pushAll_125 : decode bc_mo_pushAll 125 = .ok (.aload_n 0, 1) := by decide +kernel
theorem d_mo_pushAll_126 : decode bc_mo_pushAll 126 = .ok (.iload_n 1, 1) := by decide +kernel
theorem d_mo_pushAll_127 : decode bc_mo_pushAll 127 = .ok (.aload_n 0, 1) := by decide +kernel
theorem d_mo_pushAll_128 : decode bc_mo_pushAll 128 = .ok (.getfield 13, 3) := by decide +kernel
theorem d_mo_pushAll_131 : decode bc_mo_pushAll 131 = .ok (.iconst 0, 1) := by decide +kernel
theorem d_mo_pushAll_132 : decode bc_mo_pushAll 132 = .ok (.iaload, 1) := by decide +kernel
theorem d_mo_pushAll_133 : decode bc_mo_pushAll 133 = .ok (.invokevirtual 78, 3) := by decide +kernel
theorem d_mo_pushAll_136 : decode bc_mo_pushAll 136 = .ok (.iload_n 2, 1) := by decide +kernel
theorem d_mo_pushAll_137 : decode bc_mo_pushAll 137 = .ok (.iconst 1, 1) := by decide +kernel
theorem d_mo_pushAll_138 : decode bc_mo_pushAll 138 = .ok (.iand, 1) := by decide +kernel
theorem d_mo_pushAll_139 : decode bc_mo_pushAll 139 = .ok (.ifCond .eq 15, 3) := by decide +kernel
theorem d_mo_pushAll_142 : decode bc_mo_pushAll 142 = .ok (.aload_n 0, 1) := by decide +kernel
theorem d_mo_pushAll_143 : decode bc_mo_pushAll 143 = .ok (.iload_n 1, 1) := by decide +kernel
theorem d_mo_pushAll_144 : decode bc_mo_pushAll 144 = .ok (.aload_n 0, 1) := by decide +kernel
theorem d_mo_pushAll_145 : decode bc_mo_pushAll 145 = .ok (.getfield 13, 3) := by decide +kernel
theorem d_mo_pushAll_148 : decode bc_mo_pushAll 148 = .ok (.bipush 8, 2) := by decide +kernel
theorem d_mo_pushAll_150 : decode bc_mo_pushAll 150 = .ok (.iaload, 1) := by decide +kernel
theorem d_mo_pushAll_151 : decode bc_mo_pushAll 151 = .ok (.invokevirtual 78, 3) := by decide +kernel
theorem d_mo_pushAll_154 : decode bc_mo_pushAll 154 = .ok (.return_, 1) := by decide +kernel
theorem d_mo_pullAll_0 : decode bc_mo_pullAll 0 = .ok (.iload_n 2, 1) := by decide +kernel
theorem d_mo_pullAll_1 : decode bc_mo_pullAll 1 = .ok (.iconst 1, 1) := by decide +kernel
theorem d_mo_pullAll_2 : decode bc_mo_pullAll 2 = .ok (.iand, 1) := by decide +kernel
theorem d_mo_pullAll_3 : decode bc_mo_pullAll 3 = .ok (.ifCond .eq 15, 3) := by decide +kernel
theorem d_mo_pullAll_6 : decode bc_mo_pullAll 6 = .ok (.aload_n 0, 1) := by decide +kernel
theorem d_mo_pullAll_7 : decode bc_mo_pullAll 7 = .ok (.getfield 13, 3) := by decide +kernel
theorem d_mo_pullAll_10 : decode bc_mo_pullAll 10 = .ok (.bipush 8, 2) := by decide +kernel
theorem d_mo_pullAll_12 : decode bc_mo_pullAll 12 = .ok (.aload_n 0, 1) := by decide +kernel
theorem d_mo_pullAll_13 : decode bc_mo_pullAll 13 = .ok (.iload_n 1, 1) := by decide +kernel
theorem d_mo_pullAll_14 : decode bc_mo_pullAll 14 = .ok (.invokevirtual 81, 3) := by decide +kernel
theorem d_mo_pullAll_17 : decode bc_mo_pullAll 17 = .ok (.iastore, 1) := by decide +kernel
theorem d_mo_pullAll_18 : decode bc_mo_pullAll 18 = .ok (.iload_n 2, 1) := by decide +kernel
theorem d_mo_pullAll_19 : decode bc_mo_pullAll 19 = .ok (.iconst 2, 1) := by decide +kernel
theorem d_mo_pullAll_20 : decode bc_mo_pullAll 20 = .ok (.iand, 1) := by decide +kernel
theorem d_mo_pullAll_21 : decode bc_mo_pullAll 21 = .ok (.ifCond .eq 14, 3) := by decide +kernel
theorem d_mo_pullAll_24 : decode bc_mo_pullAll 24 = .ok (.aload_n 0, 1) := by decide +kernel
theorem d_mo_pullAll_25 : decode bc_mo_pullAll 25 = .ok (.getfield 13, 3) := by decide +kernel
theorem d_mo_pullAll_28 : decode bc_mo_pullAll 28 = .ok (.iconst 0, 1) := by decide +kernel
theorem d_mo_pullAll_29 : decode bc_mo_pullAll 29 = .ok (.aload_n 0, 1) := by decide +kernel
theorem d_mo_pullAll_30 : decode bc_mo_pullAll 30 = .ok (.iload_n 1, 1) := by decide +kernel
theorem d_mo_pullAll_31 : decode bc_mo_pullAll 31 = .ok (.invokevirtual 81, 3) := by decide +kernel
theorem d_mo_pullAll_34 : decode bc_mo_pullAll 34 = .ok (.iastore, 1) := by decide +kernel
theorem d_mo_pullAll_35 : decode bc_mo_pullAll 35 = .ok (.iload_n 2, 1) := by decide +kernel
theorem d_mo_pullAll_36 : decode bc_mo_pullAll 36 = .ok (.iconst 4, 1) := by decide +kernel
theorem d_mo_pullAll_37 : decode bc_mo_pullAll 37 = .ok (.iand, 1) := by decide +kernel
theorem d_mo_pullAll_38 : decode bc_mo_pullAll 38 = .ok (.ifCond .eq 14, 3) := by decide +kernel
theorem d_mo_pullAll_41 : decode bc_mo_pullAll 41 = .ok (.aload_n 0, 1) := by decide +kernel
theorem d_mo_pullAll_42 : decode bc_mo_pullAll 42 = .ok (.getfield 13, 3) := by decide +kernel
theorem d_mo_pullAll_45 : decode bc_mo_pullAll 45 = .ok (.iconst 1, 1) := by decide +kernel
theorem d_mo_pullAll_46 : decode bc_mo_pullAll 46 = .ok (.aload_n 0, 1) := by decide +kernel
theorem d_mo_pullAll_47 : decode bc_mo_pullAll 47 = .ok (.iload_n 1, 1) := by decide +kernel
theorem d_mo_pullAll_48 : decode bc_mo_pullAll 48 = .ok (.invokevirtual 81, 3) := by decide +kernel
theorem d_mo_pullAll_51 : decode bc_mo_pullAll 51 = .ok (.iastore, 1) := by decide +kernel
theorem d_mo_pullAll_52 : decode bc_mo_pullAll 52 = .ok (.iload_n 2, 1) := by decide +kernel
theorem d_mo_pullAll_53 : decode bc_mo_pullAll 53 = .ok (.bipush 8, 2) := by decide +kernel
theorem d_mo_pullAll_55 : decode bc_mo_pullAll 55 = .ok (.iand, 1) := by decide +kernel
theorem d_mo_pullAll_56 : decode bc_mo_pullAll 56 = .ok (.ifCond .eq 15, 3) := by decide +kernel
theorem d_mo_pullAll_59 : decode bc_mo_pullAll 59 = .ok (.aload_n 0, 1) := by decide +kernel
theorem d_mo_pullAll_60 : decode bc_mo_pullAll 60 = .ok (.getfield 13, 3) := by decide +kernel
theorem d_mo_pullAll_63 : decode bc_mo_pullAll 63 = .ok (.bipush 7, 2) := by decide +kernel
theorem d_mo_pullAll_65 : decode bc_mo_pullAll 65 = .ok (.aload_n 0, 1) := by decide +kernel
theorem d_mo_pullAll_66 : decode bc_mo_pullAll 66 = .ok (.iload_n 1, 1) := by decide +kernel
theorem d_mo_pullAll_67 : decode bc_mo_pullAll 67 = .ok (.invokevirtual 81, 3) := by decide +kernel
theorem d_mo_pullAll_70 : decode bc_mo_pullAll 70 = .ok (.iastore, 1) := by decide +kernel
theorem d_mo_pullAll_71 : decode bc_mo_pullAll 71 = .ok (.iload_n 2, 1) := by decide +kernel
theorem d_mo_pullAll_72 : decode bc_mo_pullAll 72 = .ok (.bipush 16, 2) := by decide +kernel
theorem d_mo_pullAll_74 : decode bc_mo_pullAll 74 = .ok (.iand, 1) := by decide +kernel
theorem d_mo_pullAll_75 : decode bc_mo_pullAll 75 = .ok (.ifCond .eq 14, 3) := by decide +kernel
theorem d_mo_pullAll_78 : decode bc_mo_pullAll 78 = .ok (.aload_n 0, 1) := by decide +kernel
theorem d_mo_pullAll_79 : decode bc_mo_pullAll 79 = .ok (.getfield 13, 3) := by decide +kernel
theorem d_mo_pullAll_82 : decode bc_mo_pullAll 82 = .ok (.iconst 2, 1) := by decide +kernel
theorem d_mo_pullAll_83 : decode bc_mo_pullAll 83 = .ok (.aload_n 0, 1) := by decide +kernel
theorem d_mo_pullAll_84 : decode bc_mo_pullAll 84 = .ok (.iload_n 1, 1) := by decide +kernel
theorem d_mo_pullAll_85 : decode bc_mo_pullAll 85 = .ok (.invokevirtual 87, 3) := by decide +kernel
theorem d_mo_pullAll_88 : decode bc_mo_pullAll 88 = .ok (.iastore, 1) := by decide +kernel
theorem d_mo_pullAll_89 : decode bc_mo_pullAll 89 = .ok (.iload_n 2, 1) := by decide +kernel
theorem d_mo_pullAll_90 : decode bc_mo_pullAll 90 = .ok (.bipush 32, 2) := by decide +kernel
theorem d_mo_pullAll_92 : decode bc_mo_pullAll 92 = .ok (.iand, 1) := by decide +kernel
theorem d_mo_pullAll_93 : decode bc_mo_pullAll 93 = .ok (.ifCond .eq 14, 3) := by decide +kernel
theorem d_mo_pullAll_96 : decode bc_mo_pullAll 96 = .ok (.aload_n 0, 1) := by decide +kernel
theorem d_mo_pullAll_97 : decode bc_mo_pullAll 97 = .ok (.getfield 13, 3) := by decide +kernel
theorem d_mo_pullAll_100 : decode bc_mo_pullAll 100 = .ok (.iconst 3, 1) := by decide +kernel
theorem d_mo_pullAll_101 : decode bc_mo_pullAll 101 = .ok (.aload_n 0, 1) := by decide +kernel
theorem d_mo_pullAll_102 : decode bc_mo_pullAll 102 = .ok (.iload_n 1, 1) := by decide +kernel
theorem d_mo_pullAll_103 : decode bc_mo_pullAll 103 = .ok (.invokevirtual 87, 3) := by decide +kernel
theorem d_mo_pullAll_106 : decode bc_mo_pullAll 106 = .ok (.iastore, 1) := by decide +kernel
theorem d_mo_pullAll_107 : decode bc_mo_pullAll 107 = .ok (.iload_n 2, 1) := by decide +kernel
theorem d_mo_pullAll_108 : decode bc_mo_pullAll 108 = .ok (.bipush 64, 2) := by decide +kernel
theorem d_mo_pullAll_110 : decode bc_mo_pullAll 110 = .ok (.iand, 1) := by decide +kernel
theorem d_mo_pullAll_111 : decode bc_mo_pullAll 111 = .ok (.ifCond .eq 46, 3) := by decide +kernel
theorem d_mo_pullAll_114 : decode bc_mo_pullAll 114 = .ok (.iload_n 1, 1) := by decide +kernel
theorem d_mo_pullAll_115 : decode bc_mo_pullAll 115 = .ok (.iconst 5, 1) := by decide +kernel
theorem d_mo_pullAll_116 : decode bc_mo_pullAll 116 = .ok (.if_icmp .ne 7, 3) := by decide +kernel
theorem d_mo_pullAll_119 : decode bc_mo_pullAll 119 = .ok (.iconst 4, 1) := by decide +kernel
theorem d_mo_pullAll_120 : decode bc_mo_pullAll 120 = .ok (.goto 4, 3) := by decide +kernel
theorem d_mo_pullAll_123 : decode bc_mo_pullAll 123 = .ok (.iconst 5, 1) := by decide +kernel
theorem d_mo_pullAll_124 : decode bc_mo_pullAll 124 = .ok (.istore_n 3, 1) := by decide +kernel
theorem d_mo_pullAll_125 : decode bc_mo_pullAll 125 = .ok (.aload_n 0, 1) := by decide +kernel
theorem d_mo_pullAll_126 : decode bc_mo_pullAll 126 = .ok (.getfield 13, 3) := by decide +kernel
theorem d_mo_pullAll_129 : decode bc_mo_pullAll 129 = .ok (.iload_n 3, 1) := by decide +kernel
theorem d_mo_pullAll_130 : decode bc_mo_pullAll 130 = .ok (.aload_n 0, 1) := by decide +kernel
theorem d_mo_pullAll_131 : decode bc_mo_pullAll 131 = .ok (.iload_n 1, 1) := by decide +kernel
theorem d_mo_pullAll_132 : decode bc_mo_pullAll 132 = .ok (.invokevirtual 87, 3) := by decide +kernel
theorem d_mo_pullAll_135 : decode bc_mo_pullAll 135 = .ok (.iastore, 1) := by decide +kernel
theorem d_mo_pullAll_136 : decode bc_mo_pullAll 136 = .ok (.aload_n 0, 1) := by decide +kernel
theorem d_mo_pullAll_137 : decode bc_mo_pullAll 137 = .ok (.aload_n 0, 1) := by decide +kernel
theorem d_mo_pullAll_138 : decode bc_mo_pullAll 138 = .ok (.getfield 90, 3) := by decide +kernel
theorem d_mo_pullAll_141 : decode bc_mo_pullAll 141 = .ok (.ifCond .ne 8, 3) := by decide +kernel
theorem d_mo_pullAll_144 : decode bc_mo_pullAll 144 = .ok (.iload_n 3, 1) := by decide +kernel
theorem d_mo_pullAll_145 : decode bc_mo_pullAll 145 = .ok (.iconst 5, 1) := by decide +kernel
theorem d_mo_pullAll_146 : decode bc_mo_pullAll 146 = .ok (.if_icmp .ne 7, 3) := by decide +kernel
theorem d_mo_pullAll_149 : decode bc_mo_pullAll 149 = .ok (.iconst 1, 1) := by decide +kernel
theorem d_mo_pullAll_150 : decode bc_mo_pullAll 150 = .ok (.goto 4, 3) := by decide +kernel
theorem d_mo_pullAll_153 : decode bc_mo_pullAll 153 = .ok (.iconst 0, 1) := by decide +kernel
theorem d_mo_pullAll_154 : decode bc_mo_pullAll 154 = .ok (.putfield 90, 3) := by decide +kernel
theorem d_mo_pullAll_157 : decode bc_mo_pullAll 157 = .ok (.iload_n 2, 1) := by decide +kernel
theorem d_mo_pullAll_158 : decode bc_mo_pullAll 158 = .ok (.sipush 128, 3) := by decide +kernel
theorem d_mo_pullAll_161 : decode bc_mo_pullAll 161 = .ok (.iand, 1) := by decide +kernel
theorem d_mo_pullAll_162 : decode bc_mo_pullAll 162 = .ok (.ifCond .eq 15, 3) := by decide +kernel
theorem d_mo_pullAll_165 : decode bc_mo_pullAll 165 = .ok (.aload_n 0, 1) := by decide +kernel
theorem d_mo_pullAll_166 : decode bc_mo_pullAll 166 = .ok (.getfield 13, 3) := by decide +kernel
theorem d_mo_pullAll_169 : decode bc_mo_pullAll 169 = .ok (.bipush 6, 2) := by decide +kernel
theorem d_mo_pullAll_171 : decode bc_mo_pullAll 171 = .ok (.aload_n 0, 1) := by decide +kernel
theorem d_mo_pullAll_172 : decode bc_mo_pullAll 172 = .ok (.iload_n 1, 1) := by decide +kernel
theorem d_mo_pullAll_173 : decode bc_mo_pullAll 173 = .ok (.invokevirtual 87, 3) := by decide +kernel
theorem d_mo_pullAll_176 : decode bc_mo_pullAll 176 = .ok (.iastore, 1) := by decide +kernel
theorem d_mo_pullAll_177 : decode bc_mo_pullAll 177 = .ok (.return_, 1) := by decide +kernel
theorem d_mo_onByte_0 : decode bc_mo_onByte 0 = .ok (.aload_n 0, 1) := by decide +kernel
theorem d_mo_onByte_1 : decode bc_mo_onByte 1 = .ok (.iconst 1, 1) := by decide +kernel
theorem d_mo_onByte_2 : decode bc_mo_onByte 2 = .ok (.invokevirtual 93, 3) := by decide +kernel
theorem d_mo_onByte_5 : decode bc_mo_onByte 5 = .ok (.ifCond .eq 7, 3) := by decide +kernel
theorem d_mo_onByte_8 : decode bc_mo_onByte 8 = .ok (.iconst 1, 1) := by decide +kernel
theorem d_mo_onByte_9 : decode bc_mo_onByte 9 = .ok (.goto 4, 3) := by decide +kernel
theorem d_mo_onByte_12 : decode bc_mo_onByte 12 = .ok (.iconst 0, 1) := by decide +kernel
theorem d_mo_onByte_13 : decode bc_mo_onByte 13 = .ok (.istore_n 3, 1) := by decide +kernel
theorem d_mo_onByte_14 : decode bc_mo_onByte 14 = .ok (.iload_n 2, 1) := by decide +kernel
theorem d_mo_onByte_15 : decode bc_mo_onByte 15 = .ok (.istore 4, 2) := by decide +kernel
theorem d_mo_onByte_17 : decode bc_mo_onByte 17 = .ok (.iload_n 1, 1) := by decide +kernel
theorem d_mo_onByte_18 : decode bc_mo_onByte 18 = .ok (.ifCond .ne 12, 3) := by decide +kernel
theorem d_mo_onByte_21 : decode bc_mo_onByte 21 = .ok (.aload_n 0, 1) := by decide +kernel
theorem d_mo_onByte_22 : decode bc_mo_onByte 22 = .ok (.iconst 0, 1) := by decide +kernel
theorem d_mo_onByte_23 : decode bc_mo_onByte 23 = .ok (.iload_n 2, 1) := by decide +kernel
theorem d_mo_onByte_24 : decode bc_mo_onByte 24 = .ok (.iconst 0, 1) := by decide +kernel
theorem d_mo_onByte_25 : decode bc_mo_onByte 25 = .ok (.iconst 0, 1) := by decide +kernel
theorem d_mo_onByte_26 : decode bc_mo_onByte 26 = .ok (.invokevirtual 97, 3) := by decide +kernel
theorem d_mo_onByte_29 : decode bc_mo_onByte 29 = .ok (.ireturn, 1) := by decide +kernel
theorem d_mo_onByte_30 : decode bc_mo_onByte 30 = .ok (.iload_n 1, 1) := by decide +kernel
theorem d_mo_onByte_31 : decode bc_mo_onByte 31 = .ok (.iconst 3, 1) := by decide +kernel
theorem d_mo_onByte_32 : decode bc_mo_onByte 32 = .ok (.if_icmp .ne 10, 3) := by decide +kernel
theorem d_mo_onByte_35 : decode bc_mo_onByte 35 = .ok (.sipush 255, 3) := by decide +kernel
theorem d_mo_onByte_38 : decode bc_mo_onByte 38 = .ok (.iload_n 2, 1) := by decide +kernel
theorem d_mo_onByte_39 : decode bc_mo_onByte 39 = .ok (.isub, 1) := by decide +kernel
theorem d_mo_onByte_40 : decode bc_mo_onByte 40 = .ok (.istore 4, 2) := by decide +kernel
theorem d_mo_onByte_42 : decode bc_mo_onByte 42 = .ok (.iload_n 1, 1) := by decide +kernel
theorem d_mo_onByte_43 : decode bc_mo_onByte 43 = .ok (.iconst 4, 1) := by decide +kernel
theorem d_mo_onByte_44 : decode bc_mo_onByte 44 = .ok (.if_icmp .ne 8, 3) := by decide +kernel
theorem d_mo_onByte_47 : decode bc_mo_onByte 47 = .ok (.iload_n 2, 1) := by decide +kernel
theorem d_mo_onByte_48 : decode bc_mo_onByte 48 = .ok (.iconst 1, 1) := by decide +kernel
theorem d_mo_onByte_49 : decode bc_mo_onByte 49 = .ok (.ishr, 1) := by decide +kernel
theorem d_mo_onByte_50 : decode bc_mo_onByte 50 = .ok (.istore 4, 2) := by decide +kernel
theorem d_mo_onByte_52 : decode bc_mo_onByte 52 = .ok (.iload_n 1, 1) := by decide +kernel
theorem d_mo_onByte_53 : decode bc_mo_onByte 53 = .ok (.bipush 6, 2) := by decide +kernel
theorem d_mo_onByte_55 : decode bc_mo_onByte 55 = .ok (.if_icmp .ne 13, 3) := by decide +kernel
theorem d_mo_onByte_58 : decode bc_mo_onByte 58 = .ok (.iload_n 2, 1) := by decide +kernel
theorem d_mo_onByte_59 : decode bc_mo_onByte 59 = .ok (.iconst 1, 1) := by decide +kernel
theorem d_mo_onByte_60 : decode bc_mo_onByte 60 = .ok (.ishr, 1) := by decide +kernel
theorem d_mo_onByte_61 : decode bc_mo_onByte 61 = .ok (.iload_n 3, 1) := by decide +kernel
theorem d_mo_onByte_62 : decode bc_mo_onByte 62 = .ok (.bipush 7, 2) := by decide +kernel
theorem d_mo_onByte_64 : decode bc_mo_onByte 64 = .ok (.ishl, 1) := by decide +kernel
theorem d_mo_onByte_65 : decode bc_mo_onByte 65 = .ok (.ior, 1) := by decide +kernel
theorem d_mo_onByte_66 : decode bc_mo_onByte 66 = .ok (.istore 4, 2) := by decide +kernel
theorem d_mo_onByte_68 : decode bc_mo_onByte 68 = .ok (.iload_n 1, 1) := by decide +kernel
theorem d_mo_onByte_69 : decode bc_mo_onByte 69 = .ok (.bipush 7, 2) := by decide +kernel
theorem d_mo_onByte_71 : decode bc_mo_onByte 71 = .ok (.if_icmp .ne 14, 3) := by decide +kernel
theorem d_mo_onByte_74 : decode bc_mo_onByte 74 = .ok (.iload_n 2, 1) := by decide +kernel
theorem d_mo_onByte_75 : decode bc_mo_onByte 75 = .ok (.iconst 1, 1) := by decide +kernel
theorem d_mo_onByte_76 : decode bc_mo_onByte 76 = .ok (.ishr, 1) := by decide +kernel
theorem d_mo_onByte_77 : decode bc_mo_onByte 77 = .ok (.iload_n 2, 1) := by decide +kernel
theorem d_mo_onByte_78 : decode bc_mo_onByte 78 = .ok (.sipush 128, 3) := by decide +kernel
theorem d_mo_onByte_81 : decode bc_mo_onByte 81 = .ok (.iand, 1) := by decide +kernel
theorem d_mo_onByte_82 : decode bc_mo_onByte 82 = .ok (.ior, 1) := by decide +kernel
theorem d_mo_onByte_83 : decode bc_mo_onByte 83 = .ok (.istore 4, 2) := by decide +kernel
theorem d_mo_onByte_85 : decode bc_mo_onByte 85 = .ok (.iload_n 1, 1) := by decide +kernel
theorem d_mo_onByte_86 : decode bc_mo_onByte 86 = .ok (.bipush 8, 2) := by decide +kernel
theorem d_mo_onByte_88 : decode bc_mo_onByte 88 = .ok (.if_icmp .ne 12, 3) := by decide +kernel
theorem d_mo_onByte_91 : decode bc_mo_onByte 91 = .ok (.iload_n 2, 1) := by decide +kernel
theorem d_mo_onByte_92 : decode bc_mo_onByte 92 = .ok (.iconst 1, 1) := by decide +kernel
theorem d_mo_onByte_93 : decode bc_mo_onByte 93 = .ok (.ishl, 1) := by decide +kernel
theorem d_mo_onByte_94 : decode bc_mo_onByte 94 = .ok (.sipush 255, 3) := by decide +kernel
theorem d_mo_onByte_97 : decode bc_mo_onByte 97 = .ok (.iand, 1) := by decide +kernel
theorem d_mo_onByte_98 : decode bc_mo_onByte 98 = .ok (.istore 4, 2) := by decide +kernel
theorem d_mo_onByte_100 : decode bc_mo_onByte 100 = .ok (.iload_n 1, 1) := by decide +kernel
theorem d_mo_onByte_101 : decode bc_mo_onByte 101 = .ok (.bipush 9, 2) := by decide +kernel
theorem d_mo_onByte_103 : decode bc_mo_onByte 103 = .ok (.if_icmp .ne 14, 3) := by decide +kernel
theorem d_mo_onByte_106 : decode bc_mo_onByte 106 = .ok (.iload_n 2, 1) := by decide +kernel
theorem d_mo_onByte_107 : decode bc_mo_onByte 107 = .ok (.iconst 1, 1) := by decide +kernel
theorem d_mo_onByte_108 : decode bc_mo_onByte 108 = .ok (.ishl, 1) := by decide +kernel
theorem d_mo_onByte_109 : decode bc_mo_onByte 109 = .ok (.sipush 255, 3) := by decide +kernel
theorem d_mo_onByte_112 : decode bc_mo_onByte 112 = .ok (.iand, 1) := by decide +kernel
theorem d_mo_onByte_113 : decode bc_mo_onByte 113 = .ok (.iload_n 3, 1) := by decide +kernel
theorem d_mo_onByte_114 : decode bc_mo_onByte 114 = .ok (.ior, 1) := by decide +kernel
theorem d_mo_onByte_115 : decode bc_mo_onByte 115 = .ok (.istore 4, 2) := by decide +kernel
theorem d_mo_onByte_117 : decode bc_mo_onByte 117 = .ok (.iload_n 1, 1) := by decide +kernel
theorem d_mo_onByte_118 : decode bc_mo_onByte 118 = .ok (.bipush 10, 2) := by decide +kernel
theorem d_mo_onByte_120 : decode bc_mo_onByte 120 = .ok (.if_icmp .ne 12, 3) := by decide +kernel
theorem d_mo_onByte_123 : decode bc_mo_onByte 123 = .ok (.iload_n 2, 1) := by decide +kernel
theorem d_mo_onByte_124 : decode bc_mo_onByte 124 = .ok (.iconst 1, 1) := by decide +kernel
theorem d_mo_onByte_125 : decode bc_mo_onByte 125 = .ok (.isub, 1) := by decide +kernel
theorem d_mo_onByte_126 : decode bc_mo_onByte 126 = .ok (.sipush 255, 3) := by decide +kernel
theorem d_mo_onByte_129 : decode bc_mo_onByte 129 = .ok (.iand, 1) := by decide +kernel
theorem d_mo_onByte_130 : decode bc_mo_onByte 130 = .ok (.istore 4, 2) := by decide +kernel
theorem d_mo_onByte_132 : decode bc_mo_onByte 132 = .ok (.iload_n 1, 1) := by decide +kernel
theorem d_mo_onByte_133 : decode bc_mo_onByte 133 = .ok (.bipush 12, 2) := by decide +kernel
theorem d_mo_onByte_135 : decode bc_mo_onByte 135 = .ok (.if_icmp .ne 12, 3) := by decide +kernel
theorem d_mo_onByte_138 : decode bc_mo_onByte 138 = .ok (.iload_n 2, 1) := by decide +kernel
theorem d_mo_onByte_139 : decode bc_mo_onByte 139 = .ok (.iconst 1, 1) := by decide +kernel
theorem d_mo_onByte_140 : decode bc_mo_onByte 140 = .ok (.iadd, 1) := by decide +kernel
theorem d_mo_onByte_141 : decode bc_mo_onByte 141 = .ok (.sipush 255, 3) := by decide +kernel
theorem d_mo_onByte_144 : decode bc_mo_onByte 144 = .ok (.iand, 1) := by decide +kernel
theorem d_mo_onByte_145 : decode bc_mo_onByte 145 = .ok (.istore 4, 2) := by decide +kernel
theorem d_mo_onByte_147 : decode bc_mo_onByte 147 = .ok (.iload_n 1, 1) := by decide +kernel
theorem d_mo_onByte_148 : decode bc_mo_onByte 148 = .ok (.bipush 15, 2) := by decide +kernel
theorem d_mo_onByte_150 : decode bc_mo_onByte 150 = .ok (.if_icmp .ne 6, 3) := by decide +kernel
theorem d_mo_onByte_153 : decode bc_mo_onByte 153 = .ok (.iconst 0, 1) := by decide +kernel
theorem d_mo_onByte_154 : decode bc_mo_onByte 154 = .ok (.istore 4, 2) := by decide +kernel
theorem d_mo_onByte_156 : decode bc_mo_onByte 156 = .ok (.aload_n 0, 1) := by decide +kernel
theorem d_mo_onByte_157 : decode bc_mo_onByte 157 = .ok (.iload 4, 2) := by decide +kernel
theorem d_mo_onByte_159 : decode bc_mo_onByte 159 = .ok (.iconst 0, 1) := by decide +kernel
theorem d_mo_onByte_160 : decode bc_mo_onByte 160 = .ok (.invokevirtual 40, 3) := by decide +kernel
theorem d_mo_onByte_163 : decode bc_mo_onByte 163 = .ok (.iload_n 1, 1) := by decide +kernel
theorem d_mo_onByte_164 : decode bc_mo_onByte 164 = .ok (.iconst 3, 1) := by decide +kernel
theorem d_mo_onByte_165 : decode bc_mo_onByte 165 = .ok (.if_icmp .eq 15, 3) := by decide +kernel
theorem d_mo_onByte_168 : decode bc_mo_onByte 168 = .ok (.iload_n 1, 1) := by decide +kernel
theorem d_mo_onByte_169 : decode bc_mo_onByte 169 = .ok (.bipush 13, 2) := by decide +kernel
theorem d_mo_onByte_171 : decode bc_mo_onByte 171 = .ok (.if_icmp .eq 9, 3) := by decide +kernel
theorem d_mo_onByte_174 : decode bc_mo_onByte 174 = .ok (.iload_n 1, 1) := by decide +kernel
theorem d_mo_onByte_175 : decode bc_mo_onByte 175 = .ok (.bipush 15, 2) := by decide +kernel
theorem d_mo_onByte_177 : decode bc_mo_onByte 177 = .ok (.if_icmp .ne 9, 3) := by decide +kernel
theorem d_mo_onByte_180 : decode bc_mo_onByte 180 = .ok (.aload_n 0, 1) := by decide +kernel
theorem d_mo_onByte_181 : decode bc_mo_onByte 181 = .ok (.iconst 2, 1) := by decide +kernel
theorem d_mo_onByte_182 : decode bc_mo_onByte 182 = .ok (.iconst 0, 1) := by decide +kernel
theorem d_mo_onByte_183 : decode bc_mo_onByte 183 = .ok (.invokevirtual 36, 3) := by decide +kernel
theorem d_mo_onByte_186 : decode bc_mo_onByte 186 = .ok (.iload_n 1, 1) := by decide +kernel
theorem d_mo_onByte_187 : decode bc_mo_onByte 187 = .ok (.bipush 8, 2) := by decide +kernel
theorem d_mo_onByte_189 : decode bc_mo_onByte 189 = .ok (.if_icmp .eq 9, 3) := by decide +kernel
theorem d_mo_onByte_192 : decode bc_mo_onByte 192 = .ok (.iload_n 1, 1) := by decide +kernel
theorem d_mo_onByte_193 : decode bc_mo_onByte 193 = .ok (.bipush 9, 2) := by decide +kernel
theorem d_mo_onByte_195 : decode bc_mo_onByte 195 = .ok (.if_icmp .ne 26, 3) := by decide +kernel
theorem d_mo_onByte_198 : decode bc_mo_onByte 198 = .ok (.aload_n 0, 1) := by decide +kernel
theorem d_mo_onByte_199 : decode bc_mo_onByte 199 = .ok (.iconst 2, 1) := by decide +kernel
theorem d_mo_onByte_200 : decode bc_mo_onByte 200 = .ok (.iload_n 2, 1) := by decide +kernel
theorem d_mo_onByte_201 : decode bc_mo_onByte 201 = .ok (.bipush 7, 2) := by decide +kernel
theorem d_mo_onByte_203 : decode bc_mo_onByte 203 = .ok (.ishr, 1) := by decide +kernel
theorem d_mo_onByte_204 : decode bc_mo_onByte 204 = .ok (.iload_n 2, 1) := by decide +kernel
theorem d_mo_onByte_205 : decode bc_mo_onByte 205 = .ok (.bipush 6, 2) := by decide +kernel
theorem d_mo_onByte_207 : decode bc_mo_onByte 207 = .ok (.ishr, 1) := by decide +kernel
theorem d_mo_onByte_208 : decode bc_mo_onByte 208 = .ok (.iconst 1, 1) := by decide +kernel
theorem d_mo_onByte_209 : decode bc_mo_onByte 209 = .ok (.iand, 1) := by decide +kernel
theorem d_mo_onByte_210 : decode bc_mo_onByte 210 = .ok (.if_icmp .eq 7, 3) := by decide +kernel
theorem d_mo_onByte_213 : decode bc_mo_onByte 213 = .ok (.iconst 1, 1) := by decide +kernel
theorem d_mo_onByte_214 : decode bc_mo_onByte 214 = .ok (.goto 4, 3) := by decide +kernel
theorem d_mo_onByte_217 : decode bc_mo_onByte 217 = .ok (.iconst 0, 1) := by decide +kernel
theorem d_mo_onByte_218 : decode bc_mo_onByte 218 = .ok (.invokevirtual 36, 3) := by decide +kernel
theorem d_mo_onByte_221 : decode bc_mo_onByte 221 = .ok (.iload_n 1, 1) := by decide +kernel
theorem d_mo_onByte_222 : decode bc_mo_onByte 222 = .ok (.bipush 10, 2) := by decide +kernel
theorem d_mo_onByte_224 : decode bc_mo_onByte 224 = .ok (.if_icmp .ne 20, 3) := by decide +kernel
theorem d_mo_onByte_227 : decode bc_mo_onByte 227 = .ok (.aload_n 0, 1) := by decide +kernel
theorem d_mo_onByte_228 : decode bc_mo_onByte 228 = .ok (.iconst 2, 1) := by decide +kernel
theorem d_mo_onByte_229 : decode bc_mo_onByte 229 = .ok (.iload_n 2, 1) := by decide +kernel
theorem d_mo_onByte_230 : decode bc_mo_onByte 230 = .ok (.sipush 128, 3) := by decide +kernel
theorem d_mo_onByte_233 : decode bc_mo_onByte 233 = .ok (.if_icmp .ne 7, 3) := by decide +kernel
theorem d_mo_onByte_236 : decode bc_mo_onByte 236 = .ok (.iconst 1, 1) := by decide +kernel
theorem d_mo_onByte_237 : decode bc_mo_onByte 237 = .ok (.goto 4, 3) := by decide +kernel
theorem d_mo_onByte_240 : decode bc_mo_onByte 240 = .ok (.iconst 0, 1) := by decide +kernel
theorem d_mo_onByte_241 : decode bc_mo_onByte 241 = .ok (.invokevirtual 36, 3) := by decide +kernel
theorem d_mo_onByte_244 : decode bc_mo_onByte 244 = .ok (.iload_n 1, 1) := by decide +kernel
theorem d_mo_onByte_245 : decode bc_mo_onByte 245 = .ok (.bipush 12, 2) := by decide +kernel
theorem d_mo_onByte_247 : decode bc_mo_onByte 247 = .ok (.if_icmp .ne 19, 3) := by decide +kernel
theorem d_mo_onByte_250 : decode bc_mo_onByte 250 = .ok (.aload_n 0, 1) := by decide +kernel
theorem d_mo_onByte_251 : decode bc_mo_onByte 251 = .ok (.iconst 2, 1) := by decide +kernel
theorem d_mo_onByte_252 : decode bc_mo_onByte 252 = .ok (.iload_n 2, 1) := by decide +kernel
theorem d_mo_onByte_253 : decode bc_mo_onByte 253 = .ok (.bipush 127, 2) := by decide +kernel
theorem d_mo_onByte_255 : decode bc_mo_onByte 255 = .ok (.if_icmp .ne 7, 3) := by decide +kernel
theorem d_mo_onByte_258 : decode bc_mo_onByte 258 = .ok (.iconst 1, 1) := by decide +kernel
theorem d_mo_onByte_259 : decode bc_mo_onByte 259 = .ok (.goto 4, 3) := by decide +kernel
theorem d_mo_onByte_262 : decode bc_mo_onByte 262 = .ok (.iconst 0, 1) := by decide +kernel
theorem d_mo_onByte_263 : decode bc_mo_onByte 263 = .ok (.invokevirtual 36, 3) := by decide +kernel
theorem d_mo_onByte_266 : decode bc_mo_onByte 266 = .ok (.iload_n 1, 1) := by decide +kernel
theorem d_mo_onByte_267 : decode bc_mo_onByte 267 = .ok (.iconst 3, 1) := by decide +kernel
theorem d_mo_onByte_268 : decode bc_mo_onByte 268 = .ok (.if_icmp .ne 9, 3) := by decide +kernel
theorem d_mo_onByte_271 : decode bc_mo_onByte 271 = .ok (.aload_n 0, 1) := by decide +kernel
theorem d_mo_onByte_272 : decode bc_mo_onByte 272 = .ok (.iconst 1, 1) := by decide +kernel
theorem d_mo_onByte_273 : decode bc_mo_onByte 273 = .ok (.iconst 1, 1) := by decide +kernel
theorem d_mo_onByte_274 : decode bc_mo_onByte 274 = .ok (.invokevirtual 36, 3) := by decide +kernel
theorem d_mo_onByte_277 : decode bc_mo_onByte 277 = .ok (.iload_n 1, 1) := by decide +kernel
theorem d_mo_onByte_278 : decode bc_mo_onByte 278 = .ok (.bipush 15, 2) := by decide +kernel
theorem d_mo_onByte_280 : decode bc_mo_onByte 280 = .ok (.if_icmp .ne 9, 3) := by decide +kernel
theorem d_mo_onByte_283 : decode bc_mo_onByte 283 = .ok (.aload_n 0, 1) := by decide +kernel
theorem d_mo_onByte_284 : decode bc_mo_onByte 284 = .ok (.iconst 1, 1) := by decide +kernel
theorem d_mo_onByte_285 : decode bc_mo_onByte 285 = .ok (.iconst 0, 1) := by decide +kernel
theorem d_mo_onByte_286 : decode bc_mo_onByte 286 = .ok (.invokevirtual 36, 3) := by decide +kernel
theorem d_mo_onByte_289 : decode bc_mo_onByte 289 = .ok (.iload_n 1, 1) := by decide +kernel
theorem d_mo_onByte_290 : decode bc_mo_onByte 290 = .ok (.iconst 4, 1) := by decide +kernel
theorem d_mo_onByte_291 : decode bc_mo_onByte 291 = .ok (.bipush 7, 2) := by decide +kernel
theorem d_mo_onByte_293 : decode bc_mo_onByte 293 = .ok (.invokestatic 44, 3) := by decide +kernel
theorem d_mo_onByte_296 : decode bc_mo_onByte 296 = .ok (.ifCond .eq 19, 3) := by decide +kernel
theorem d_mo_onByte_299 : decode bc_mo_onByte 299 = .ok (.aload_n 0, 1) := by decide +kernel
theorem d_mo_onByte_300 : decode bc_mo_onByte 300 = .ok (.iconst 1, 1) := by decide +kernel
theorem d_mo_onByte_301 : decode bc_mo_onByte 301 = .ok (.iload_n 2, 1) := by decide +kernel
end
section
theorem d_mo_onByte_302 : decode bc_mo_onByte 302 = .ok (.iconst 1, 1) := by decide +kernel
theorem d_mo_onByte_303 : decode bc_mo_onByte 303 = .ok (.iand, 1) := by decide +kernel
theorem d_mo_onByte_304 : decode bc_mo_onByte 304 = .ok (.ifCond .eq 7, 3) := by decide +kernel
theorem d_mo_onByte_307 : decode bc_mo_onByte 307 = .ok (.iconst 1, 1) := by decide +kernel
theorem d_mo_onByte_308 : decode bc_mo_onByte 308 = .ok (.goto 4, 3) := by decide +kernel
theorem d_mo_onByte_311 : decode bc_mo_onByte 311 = .ok (.iconst 0, 1) := by decide +kernel
theorem d_mo_onByte_312 : decode bc_mo_onByte 312 = .ok (.invokevirtual 36, 3) := by decide +kernel
theorem d_mo_onByte_315 : decode bc_mo_onByte 315 = .ok (.iload_n 1, 1) := by decide +kernel
theorem d_mo_onByte_316 : decode bc_mo_onByte 316 = .ok (.bipush 8, 2) := by decide +kernel
theorem d_mo_onByte_318 : decode bc_mo_onByte 318 = .ok (.if_icmp .eq 9, 3) := by decide +kernel
theorem d_mo_onByte_321 : decode bc_mo_onByte 321 = .ok (.iload_n 1, 1) := by decide +kernel
theorem d_mo_onByte_322 : decode bc_mo_onByte 322 = .ok (.bipush 9, 2) := by decide +kernel
theorem d_mo_onByte_324 : decode bc_mo_onByte 324 = .ok (.if_icmp .ne 20, 3) := by decide +kernel
theorem d_mo_onByte_327 : decode bc_mo_onByte 327 = .ok (.aload_n 0, 1) := by decide +kernel
theorem d_mo_onByte_328 : decode bc_mo_onByte 328 = .ok (.iconst 1, 1) := by decide +kernel
theorem d_mo_onByte_329 : decode bc_mo_onByte 329 = .ok (.iload_n 2, 1) := by decide +kernel
theorem d_mo_onByte_330 : decode bc_mo_onByte 330 = .ok (.sipush 128, 3) := by decide +kernel
theorem d_mo_onByte_333 : decode bc_mo_onByte 333 = .ok (.if_icmp .lt 7, 3) := by decide +kernel
theorem d_mo_onByte_336 : decode bc_mo_onByte 336 = .ok (.iconst 1, 1) := by decide +kernel
theorem d_mo_onByte_337 : decode bc_mo_onByte 337 = .ok (.goto 4, 3) := by decide +kernel
theorem d_mo_onByte_340 : decode bc_mo_onByte 340 = .ok (.iconst 0, 1) := by decide +kernel
theorem d_mo_onByte_341 : decode bc_mo_onByte 341 = .ok (.invokevirtual 36, 3) := by decide +kernel
theorem d_mo_onByte_344 : decode bc_mo_onByte 344 = .ok (.iload 4, 2) := by decide +kernel
theorem d_mo_onByte_346 : decode bc_mo_onByte 346 = .ok (.ireturn, 1) := by decide +kernel
theorem d_mo_oneByte_0 : decode bc_mo_oneByte 0 = .ok (.iload_n 1, 1) := by decide +kernel
theorem d_mo_oneByte_1 : decode bc_mo_oneByte 1 = .ok (.bipush 15, 2) := by decide +kernel
theorem d_mo_oneByte_3 : decode bc_mo_oneByte 3 = .ok (.iand, 1) := by decide +kernel
theorem d_mo_oneByte_4 : decode bc_mo_oneByte 4 = .ok (.istore_n 2, 1) := by decide +kernel
theorem d_mo_oneByte_5 : decode bc_mo_oneByte 5 = .ok (.iload_n 1, 1) := by decide +kernel
theorem d_mo_oneByte_6 : decode bc_mo_oneByte 6 = .ok (.iconst 4, 1) := by decide +kernel
theorem d_mo_oneByte_7 : decode bc_mo_oneByte 7 = .ok (.ishr, 1) := by decide +kernel
theorem d_mo_oneByte_8 : decode bc_mo_oneByte 8 = .ok (.istore_n 3, 1) := by decide +kernel
theorem d_mo_oneByte_9 : decode bc_mo_oneByte 9 = .ok (.iload_n 3, 1) := by decide +kernel
theorem d_mo_oneByte_10 : decode bc_mo_oneByte 10 = .ok (.iconst 4, 1) := by decide +kernel
theorem d_mo_oneByte_11 : decode bc_mo_oneByte 11 = .ok (.if_icmp .eq 8, 3) := by decide +kernel
theorem d_mo_oneByte_14 : decode bc_mo_oneByte 14 = .ok (.iload_n 3, 1) := by decide +kernel
theorem d_mo_oneByte_15 : decode bc_mo_oneByte 15 = .ok (.iconst 5, 1) := by decide +kernel
theorem d_mo_oneByte_16 : decode bc_mo_oneByte 16 = .ok (.if_icmp .ne 7, 3) := by decide +kernel
theorem d_mo_oneByte_19 : decode bc_mo_oneByte 19 = .ok (.iconst 1, 1) := by decide +kernel
theorem d_mo_oneByte_20 : decode bc_mo_oneByte 20 = .ok (.goto 4, 3) := by decide +kernel
theorem d_mo_oneByte_23 : decode bc_mo_oneByte 23 = .ok (.iconst 0, 1) := by decide +kernel
theorem d_mo_oneByte_24 : decode bc_mo_oneByte 24 = .ok (.istore 4, 2) := by decide +kernel
theorem d_mo_oneByte_26 : decode bc_mo_oneByte 26 = .ok (.aload_n 0, 1) := by decide +kernel
theorem d_mo_oneByte_27 : decode bc_mo_oneByte 27 = .ok (.iload_n 2, 1) := by decide +kernel
theorem d_mo_oneByte_28 : decode bc_mo_oneByte 28 = .ok (.iconst 1, 1) := by decide +kernel
theorem d_mo_oneByte_29 : decode bc_mo_oneByte 29 = .ok (.if_icmp .eq 30, 3) := by decide +kernel
theorem d_mo_oneByte_32 : decode bc_mo_oneByte 32 = .ok (.iload_n 2, 1) := by decide +kernel
theorem d_mo_oneByte_33 : decode bc_mo_oneByte 33 = .ok (.iconst 2, 1) := by decide +kernel
theorem d_mo_oneByte_34 : decode bc_mo_oneByte 34 = .ok (.if_icmp .eq 25, 3) := by decide +kernel
theorem d_mo_oneByte_37 : decode bc_mo_oneByte 37 = .ok (.iload_n 2, 1) := by decide +kernel
theorem d_mo_oneByte_38 : decode bc_mo_oneByte 38 = .ok (.iconst 5, 1) := by decide +kernel
theorem d_mo_oneByte_39 : decode bc_mo_oneByte 39 = .ok (.if_icmp .eq 20, 3) := by decide +kernel
theorem d_mo_oneByte_42 : decode bc_mo_oneByte 42 = .ok (.iload_n 2, 1) := by decide +kernel
theorem d_mo_oneByte_43 : decode bc_mo_oneByte 43 = .ok (.bipush 11, 2) := by decide +kernel
theorem d_mo_oneByte_45 : decode bc_mo_oneByte 45 = .ok (.if_icmp .eq 14, 3) := by decide +kernel
theorem d_mo_oneByte_48 : decode bc_mo_oneByte 48 = .ok (.iload_n 2, 1) := by decide +kernel
theorem d_mo_oneByte_49 : decode bc_mo_oneByte 49 = .ok (.bipush 14, 2) := by decide +kernel
theorem d_mo_oneByte_51 : decode bc_mo_oneByte 51 = .ok (.if_icmp .ne 12, 3) := by decide +kernel
theorem d_mo_oneByte_54 : decode bc_mo_oneByte 54 = .ok (.iload 4, 2) := by decide +kernel
theorem d_mo_oneByte_56 : decode bc_mo_oneByte 56 = .ok (.ifCond .eq 7, 3) := by decide +kernel
theorem d_mo_oneByte_59 : decode bc_mo_oneByte 59 = .ok (.iconst 1, 1) := by decide +kernel
theorem d_mo_oneByte_60 : decode bc_mo_oneByte 60 = .ok (.goto 4, 3) := by decide +kernel
theorem d_mo_oneByte_63 : decode bc_mo_oneByte 63 = .ok (.iconst 0, 1) := by decide +kernel
theorem d_mo_oneByte_64 : decode bc_mo_oneByte 64 = .ok (.putfield 56, 3) := by decide +kernel
theorem d_mo_oneByte_67 : decode bc_mo_oneByte 67 = .ok (.aload_n 0, 1) := by decide +kernel
theorem d_mo_oneByte_68 : decode bc_mo_oneByte 68 = .ok (.getfield 56, 3) := by decide +kernel
theorem d_mo_oneByte_71 : decode bc_mo_oneByte 71 = .ok (.ifCond .eq 4, 3) := by decide +kernel
theorem d_mo_oneByte_74 : decode bc_mo_oneByte 74 = .ok (.return_, 1) := by decide +kernel
theorem d_mo_oneByte_75 : decode bc_mo_oneByte 75 = .ok (.iload 4, 2) := by decide +kernel
theorem d_mo_oneByte_77 : decode bc_mo_oneByte 77 = .ok (.ifCond .eq 25, 3) := by decide +kernel
theorem d_mo_oneByte_80 : decode bc_mo_oneByte 80 = .ok (.aload_n 0, 1) := by decide +kernel
theorem d_mo_oneByte_81 : decode bc_mo_oneByte 81 = .ok (.getfield 13, 3) := by decide +kernel
theorem d_mo_oneByte_84 : decode bc_mo_oneByte 84 = .ok (.iload_n 3, 1) := by decide +kernel
theorem d_mo_oneByte_85 : decode bc_mo_oneByte 85 = .ok (.iconst 4, 1) := by decide +kernel
theorem d_mo_oneByte_86 : decode bc_mo_oneByte 86 = .ok (.isub, 1) := by decide +kernel
theorem d_mo_oneByte_87 : decode bc_mo_oneByte 87 = .ok (.aload_n 0, 1) := by decide +kernel
theorem d_mo_oneByte_88 : decode bc_mo_oneByte 88 = .ok (.iload_n 2, 1) := by decide +kernel
theorem d_mo_oneByte_89 : decode bc_mo_oneByte 89 = .ok (.aload_n 0, 1) := by decide +kernel
theorem d_mo_oneByte_90 : decode bc_mo_oneByte 90 = .ok (.getfield 13, 3) := by decide +kernel
theorem d_mo_oneByte_93 : decode bc_mo_oneByte 93 = .ok (.iload_n 3, 1) := by decide +kernel
theorem d_mo_oneByte_94 : decode bc_mo_oneByte 94 = .ok (.iconst 4, 1) := by decide +kernel
theorem d_mo_oneByte_95 : decode bc_mo_oneByte 95 = .ok (.isub, 1) := by decide +kernel
theorem d_mo_oneByte_96 : decode bc_mo_oneByte 96 = .ok (.iaload, 1) := by decide +kernel
theorem d_mo_oneByte_97 : decode bc_mo_oneByte 97 = .ok (.invokevirtual 101, 3) := by decide +kernel
theorem d_mo_oneByte_100 : decode bc_mo_oneByte 100 = .ok (.iastore, 1) := by decide +kernel
theorem d_mo_oneByte_101 : decode bc_mo_oneByte 101 = .ok (.return_, 1) := by decide +kernel
theorem d_mo_oneByte_102 : decode bc_mo_oneByte 102 = .ok (.aload_n 0, 1) := by decide +kernel
theorem d_mo_oneByte_103 : decode bc_mo_oneByte 103 = .ok (.iload_n 3, 1) := by decide +kernel
theorem d_mo_oneByte_104 : decode bc_mo_oneByte 104 = .ok (.ifCond .ne 7, 3) := by decide +kernel
theorem d_mo_oneByte_107 : decode bc_mo_oneByte 107 = .ok (.iconst 1, 1) := by decide +kernel
theorem d_mo_oneByte_108 : decode bc_mo_oneByte 108 = .ok (.goto 6, 3) := by decide +kernel
theorem d_mo_oneByte_111 : decode bc_mo_oneByte 111 = .ok (.iload_n 3, 1) := by decide +kernel
theorem d_mo_oneByte_112 : decode bc_mo_oneByte 112 = .ok (.iconst 4, 1) := by decide +kernel
theorem d_mo_oneByte_113 : decode bc_mo_oneByte 113 = .ok (.isub, 1) := by decide +kernel
theorem d_mo_oneByte_114 : decode bc_mo_oneByte 114 = .ok (.invokevirtual 75, 3) := by decide +kernel
theorem d_mo_oneByte_117 : decode bc_mo_oneByte 117 = .ok (.istore 5, 2) := by decide +kernel
theorem d_mo_oneByte_119 : decode bc_mo_oneByte 119 = .ok (.aload_n 0, 1) := by decide +kernel
theorem d_mo_oneByte_120 : decode bc_mo_oneByte 120 = .ok (.getfield 56, 3) := by decide +kernel
theorem d_mo_oneByte_123 : decode bc_mo_oneByte 123 = .ok (.ifCond .eq 4, 3) := by decide +kernel
theorem d_mo_oneByte_126 : decode bc_mo_oneByte 126 = .ok (.return_, 1) := by decide +kernel
theorem d_mo_oneByte_127 : decode bc_mo_oneByte 127 = .ok (.iload_n 2, 1) := by decide +kernel
theorem d_mo_oneByte_128 : decode bc_mo_oneByte 128 = .ok (.bipush 14, 2) := by decide +kernel
theorem d_mo_oneByte_130 : decode bc_mo_oneByte 130 = .ok (.if_icmp .ne 13, 3) := by decide +kernel
theorem d_mo_oneByte_133 : decode bc_mo_oneByte 133 = .ok (.aload_n 0, 1) := by decide +kernel
theorem d_mo_oneByte_134 : decode bc_mo_oneByte 134 = .ok (.getfield 13, 3) := by decide +kernel
theorem d_mo_oneByte_137 : decode bc_mo_oneByte 137 = .ok (.bipush 6, 2) := by decide +kernel
theorem d_mo_oneByte_139 : decode bc_mo_oneByte 139 = .ok (.iload 5, 2) := by decide +kernel
theorem d_mo_oneByte_141 : decode bc_mo_oneByte 141 = .ok (.iastore, 1) := by decide +kernel
theorem d_mo_oneByte_142 : decode bc_mo_oneByte 142 = .ok (.return_, 1) := by decide +kernel
theorem d_mo_oneByte_143 : decode bc_mo_oneByte 143 = .ok (.aload_n 0, 1) := by decide +kernel
theorem d_mo_oneByte_144 : decode bc_mo_oneByte 144 = .ok (.iload_n 2, 1) := by decide +kernel
theorem d_mo_oneByte_145 : decode bc_mo_oneByte 145 = .ok (.aload_n 0, 1) := by decide +kernel
theorem d_mo_oneByte_146 : decode bc_mo_oneByte 146 = .ok (.iload 5, 2) := by decide +kernel
theorem d_mo_oneByte_148 : decode bc_mo_oneByte 148 = .ok (.invokevirtual 22, 3) := by decide +kernel
theorem d_mo_oneByte_151 : decode bc_mo_oneByte 151 = .ok (.invokevirtual 101, 3) := by decide +kernel
theorem d_mo_oneByte_154 : decode bc_mo_oneByte 154 = .ok (.istore 6, 2) := by decide +kernel
theorem d_mo_oneByte_156 : decode bc_mo_oneByte 156 = .ok (.iload_n 2, 1) := by decide +kernel
theorem d_mo_oneByte_157 : decode bc_mo_oneByte 157 = .ok (.bipush 13, 2) := by decide +kernel
theorem d_mo_oneByte_159 : decode bc_mo_oneByte 159 = .ok (.if_icmp .eq 11, 3) := by decide +kernel
theorem d_mo_oneByte_162 : decode bc_mo_oneByte 162 = .ok (.aload_n 0, 1) := by decide +kernel
theorem d_mo_oneByte_163 : decode bc_mo_oneByte 163 = .ok (.iload 5, 2) := by decide +kernel
theorem d_mo_oneByte_165 : decode bc_mo_oneByte 165 = .ok (.iload 6, 2) := by decide +kernel
theorem d_mo_oneByte_167 : decode bc_mo_oneByte 167 = .ok (.invokevirtual 26, 3) := by decide +kernel
theorem d_mo_oneByte_170 : decode bc_mo_oneByte 170 = .ok (.return_, 1) := by decide +kernel
theorem d_mo_accumulate_0 : decode bc_mo_accumulate 0 = .ok (.iload_n 1, 1) := by decide +kernel
theorem d_mo_accumulate_1 : decode bc_mo_accumulate 1 = .ok (.bipush 15, 2) := by decide +kernel
theorem d_mo_accumulate_3 : decode bc_mo_accumulate 3 = .ok (.iand, 1) := by decide +kernel
theorem d_mo_accumulate_4 : decode bc_mo_accumulate 4 = .ok (.istore_n 3, 1) := by decide +kernel
theorem d_mo_accumulate_5 : decode bc_mo_accumulate 5 = .ok (.iload_n 1, 1) := by decide +kernel
theorem d_mo_accumulate_6 : decode bc_mo_accumulate 6 = .ok (.iconst 4, 1) := by decide +kernel
theorem d_mo_accumulate_7 : decode bc_mo_accumulate 7 = .ok (.ishr, 1) := by decide +kernel
theorem d_mo_accumulate_8 : decode bc_mo_accumulate 8 = .ok (.iconst 3, 1) := by decide +kernel
theorem d_mo_accumulate_9 : decode bc_mo_accumulate 9 = .ok (.iand, 1) := by decide +kernel
theorem d_mo_accumulate_10 : decode bc_mo_accumulate 10 = .ok (.istore 4, 2) := by decide +kernel
theorem d_mo_accumulate_12 : decode bc_mo_accumulate 12 = .ok (.aload_n 0, 1) := by decide +kernel
theorem d_mo_accumulate_13 : decode bc_mo_accumulate 13 = .ok (.iconst 1, 1) := by decide +kernel
theorem d_mo_accumulate_14 : decode bc_mo_accumulate 14 = .ok (.invokevirtual 93, 3) := by decide +kernel
theorem d_mo_accumulate_17 : decode bc_mo_accumulate 17 = .ok (.ifCond .eq 7, 3) := by decide +kernel
theorem d_mo_accumulate_20 : decode bc_mo_accumulate 20 = .ok (.iconst 1, 1) := by decide +kernel
theorem d_mo_accumulate_21 : decode bc_mo_accumulate 21 = .ok (.goto 4, 3) := by decide +kernel
theorem d_mo_accumulate_24 : decode bc_mo_accumulate 24 = .ok (.iconst 0, 1) := by decide +kernel
theorem d_mo_accumulate_25 : decode bc_mo_accumulate 25 = .ok (.istore 5, 2) := by decide +kernel
theorem d_mo_accumulate_27 : decode bc_mo_accumulate 27 = .ok (.iload_n 3, 1) := by decide +kernel
theorem d_mo_accumulate_28 : decode bc_mo_accumulate 28 = .ok (.bipush 7, 2) := by decide +kernel
theorem d_mo_accumulate_30 : decode bc_mo_accumulate 30 = .ok (.if_icmp .ne 58, 3) := by decide +kernel
theorem d_mo_accumulate_33 : decode bc_mo_accumulate 33 = .ok (.aload_n 0, 1) := by decide +kernel
theorem d_mo_accumulate_34 : decode bc_mo_accumulate 34 = .ok (.iload 4, 2) := by decide +kernel
theorem d_mo_accumulate_36 : decode bc_mo_accumulate 36 = .ok (.ifCond .ne 7, 3) := by decide +kernel
theorem d_mo_accumulate_39 : decode bc_mo_accumulate 39 = .ok (.iconst 1, 1) := by decide +kernel
theorem d_mo_accumulate_40 : decode bc_mo_accumulate 40 = .ok (.goto 4, 3) := by decide +kernel
theorem d_mo_accumulate_43 : decode bc_mo_accumulate 43 = .ok (.iconst 0, 1) := by decide +kernel
theorem d_mo_accumulate_44 : decode bc_mo_accumulate 44 = .ok (.putfield 56, 3) := by decide +kernel
theorem d_mo_accumulate_47 : decode bc_mo_accumulate 47 = .ok (.aload_n 0, 1) := by decide +kernel
theorem d_mo_accumulate_48 : decode bc_mo_accumulate 48 = .ok (.getfield 56, 3) := by decide +kernel
theorem d_mo_accumulate_51 : decode bc_mo_accumulate 51 = .ok (.ifCond .eq 4, 3) := by decide +kernel
theorem d_mo_accumulate_54 : decode bc_mo_accumulate 54 = .ok (.return_, 1) := by decide +kernel
theorem d_mo_accumulate_55 : decode bc_mo_accumulate 55 = .ok (.aload_n 0, 1) := by decide +kernel
theorem d_mo_accumulate_56 : decode bc_mo_accumulate 56 = .ok (.iload 4, 2) := by decide +kernel
theorem d_mo_accumulate_58 : decode bc_mo_accumulate 58 = .ok (.invokevirtual 75, 3) := by decide +kernel
theorem d_mo_accumulate_61 : decode bc_mo_accumulate 61 = .ok (.istore 6, 2) := by decide +kernel
theorem d_mo_accumulate_63 : decode bc_mo_accumulate 63 = .ok (.aload_n 0, 1) := by decide +kernel
theorem d_mo_accumulate_64 : decode bc_mo_accumulate 64 = .ok (.getfield 56, 3) := by decide +kernel
theorem d_mo_accumulate_67 : decode bc_mo_accumulate 67 = .ok (.ifCond .ne 20, 3) := by decide +kernel
theorem d_mo_accumulate_70 : decode bc_mo_accumulate 70 = .ok (.aload_n 0, 1) := by decide +kernel
theorem d_mo_accumulate_71 : decode bc_mo_accumulate 71 = .ok (.iload 6, 2) := by decide +kernel
theorem d_mo_accumulate_73 : decode bc_mo_accumulate 73 = .ok (.aload_n 0, 1) := by decide +kernel
theorem d_mo_accumulate_74 : decode bc_mo_accumulate 74 = .ok (.aload_n 0, 1) := by decide +kernel
theorem d_mo_accumulate_75 : decode bc_mo_accumulate 75 = .ok (.getfield 13, 3) := by decide +kernel
theorem d_mo_accumulate_78 : decode bc_mo_accumulate 78 = .ok (.iload_n 2, 1) := by decide +kernel
theorem d_mo_accumulate_79 : decode bc_mo_accumulate 79 = .ok (.iaload, 1) := by decide +kernel
theorem d_mo_accumulate_80 : decode bc_mo_accumulate 80 = .ok (.iconst 0, 1) := by decide +kernel
theorem d_mo_accumulate_81 : decode bc_mo_accumulate 81 = .ok (.invokevirtual 105, 3) := by decide +kernel
theorem d_mo_accumulate_84 : decode bc_mo_accumulate 84 = .ok (.invokevirtual 26, 3) := by decide +kernel
theorem d_mo_accumulate_87 : decode bc_mo_accumulate 87 = .ok (.return_, 1) := by decide +kernel
theorem d_mo_accumulate_88 : decode bc_mo_accumulate 88 = .ok (.aload_n 0, 1) := by decide +kernel
theorem d_mo_accumulate_89 : decode bc_mo_accumulate 89 = .ok (.iload 4, 2) := by decide +kernel
theorem d_mo_accumulate_91 : decode bc_mo_accumulate 91 = .ok (.invokevirtual 108, 3) := by decide +kernel
theorem d_mo_accumulate_94 : decode bc_mo_accumulate 94 = .ok (.istore 6, 2) := by decide +kernel
theorem d_mo_accumulate_96 : decode bc_mo_accumulate 96 = .ok (.aload_n 0, 1) := by decide +kernel
theorem d_mo_accumulate_97 : decode bc_mo_accumulate 97 = .ok (.getfield 56, 3) := by decide +kernel
theorem d_mo_accumulate_100 : decode bc_mo_accumulate 100 = .ok (.ifCond .eq 4, 3) := by decide +kernel
theorem d_mo_accumulate_103 : decode bc_mo_accumulate 103 = .ok (.return_, 1) := by decide +kernel
theorem d_mo_accumulate_104 : decode bc_mo_accumulate 104 = .ok (.aload_n 0, 1) := by decide +kernel
theorem d_mo_accumulate_105 : decode bc_mo_accumulate 105 = .ok (.getfield 13, 3) := by decide +kernel
theorem d_mo_accumulate_108 : decode bc_mo_accumulate 108 = .ok (.iload_n 2, 1) := by decide +kernel
theorem d_mo_accumulate_109 : decode bc_mo_accumulate 109 = .ok (.iaload, 1) := by decide +kernel
theorem d_mo_accumulate_110 : decode bc_mo_accumulate 110 = .ok (.istore 7, 2) := by decide +kernel
theorem d_mo_accumulate_112 : decode bc_mo_accumulate 112 = .ok (.iload_n 3, 1) := by decide +kernel
theorem d_mo_accumulate_113 : decode bc_mo_accumulate 113 = .ok (.ifCond .eq 8, 3) := by decide +kernel
theorem d_mo_accumulate_116 : decode bc_mo_accumulate 116 = .ok (.iload_n 3, 1) := by decide +kernel
theorem d_mo_accumulate_117 : decode bc_mo_accumulate 117 = .ok (.iconst 1, 1) := by decide +kernel
theorem d_mo_accumulate_118 : decode bc_mo_accumulate 118 = .ok (.if_icmp .ne 15, 3) := by decide +kernel
theorem d_mo_accumulate_121 : decode bc_mo_accumulate 121 = .ok (.aload_n 0, 1) := by decide +kernel
theorem d_mo_accumulate_122 : decode bc_mo_accumulate 122 = .ok (.iload 7, 2) := by decide +kernel
theorem d_mo_accumulate_124 : decode bc_mo_accumulate 124 = .ok (.iload 6, 2) := by decide +kernel
theorem d_mo_accumulate_126 : decode bc_mo_accumulate 126 = .ok (.iconst 0, 1) := by decide +kernel
theorem d_mo_accumulate_127 : decode bc_mo_accumulate 127 = .ok (.iconst 0, 1) := by decide +kernel
theorem d_mo_accumulate_128 : decode bc_mo_accumulate 128 = .ok (.invokevirtual 97, 3) := by decide +kernel
theorem d_mo_accumulate_131 : decode bc_mo_accumulate 131 = .ok (.istore 7, 2) := by decide +kernel
theorem d_mo_accumulate_133 : decode bc_mo_accumulate 133 = .ok (.iload_n 3, 1) := by decide +kernel
theorem d_mo_accumulate_134 : decode bc_mo_accumulate 134 = .ok (.iconst 2, 1) := by decide +kernel
theorem d_mo_accumulate_135 : decode bc_mo_accumulate 135 = .ok (.if_icmp .ne 16, 3) := by decide +kernel
theorem d_mo_accumulate_138 : decode bc_mo_accumulate 138 = .ok (.aload_n 0, 1) := by decide +kernel
theorem d_mo_accumulate_139 : decode bc_mo_accumulate 139 = .ok (.iload 7, 2) := by decide +kernel
theorem d_mo_accumulate_141 : decode bc_mo_accumulate 141 = .ok (.iload 6, 2) := by decide +kernel
theorem d_mo_accumulate_143 : decode bc_mo_accumulate 143 = .ok (.iload 5, 2) := by decide +kernel
theorem d_mo_accumulate_145 : decode bc_mo_accumulate 145 = .ok (.iconst 0, 1) := by decide +kernel
theorem d_mo_accumulate_146 : decode bc_mo_accumulate 146 = .ok (.invokevirtual 97, 3) := by decide +kernel
theorem d_mo_accumulate_149 : decode bc_mo_accumulate 149 = .ok (.istore 7, 2) := by decide +kernel
theorem d_mo_accumulate_151 : decode bc_mo_accumulate 151 = .ok (.iload_n 3, 1) := by decide +kernel
theorem d_mo_accumulate_152 : decode bc_mo_accumulate 152 = .ok (.iconst 4, 1) := by decide +kernel
theorem d_mo_accumulate_153 : decode bc_mo_accumulate 153 = .ok (.if_icmp .eq 8, 3) := by decide +kernel
theorem d_mo_accumulate_156 : decode bc_mo_accumulate 156 = .ok (.iload_n 3, 1) := by decide +kernel
theorem d_mo_accumulate_157 : decode bc_mo_accumulate 157 = .ok (.iconst 5, 1) := by decide +kernel
theorem d_mo_accumulate_158 : decode bc_mo_accumulate 158 = .ok (.if_icmp .ne 15, 3) := by decide +kernel
theorem d_mo_accumulate_161 : decode bc_mo_accumulate 161 = .ok (.aload_n 0, 1) := by decide +kernel
theorem d_mo_accumulate_162 : decode bc_mo_accumulate 162 = .ok (.iload 7, 2) := by decide +kernel
theorem d_mo_accumulate_164 : decode bc_mo_accumulate 164 = .ok (.iload 6, 2) := by decide +kernel
theorem d_mo_accumulate_166 : decode bc_mo_accumulate 166 = .ok (.iand, 1) := by decide +kernel
theorem d_mo_accumulate_167 : decode bc_mo_accumulate 167 = .ok (.iconst 0, 1) := by decide +kernel
theorem d_mo_accumulate_168 : decode bc_mo_accumulate 168 = .ok (.invokevirtual 105, 3) := by decide +kernel
theorem d_mo_accumulate_171 : decode bc_mo_accumulate 171 = .ok (.istore 7, 2) := by decide +kernel
theorem d_mo_accumulate_173 : decode bc_mo_accumulate 173 = .ok (.iload_n 3, 1) := by decide +kernel
theorem d_mo_accumulate_174 : decode bc_mo_accumulate 174 = .ok (.bipush 6, 2) := by decide +kernel
theorem d_mo_accumulate_176 : decode bc_mo_accumulate 176 = .ok (.if_icmp .ne 12, 3) := by decide +kernel
theorem d_mo_accumulate_179 : decode bc_mo_accumulate 179 = .ok (.aload_n 0, 1) := by decide +kernel
theorem d_mo_accumulate_180 : decode bc_mo_accumulate 180 = .ok (.iload 6, 2) := by decide +kernel
theorem d_mo_accumulate_182 : decode bc_mo_accumulate 182 = .ok (.iconst 0, 1) := by decide +kernel
theorem d_mo_accumulate_183 : decode bc_mo_accumulate 183 = .ok (.invokevirtual 105, 3) := by decide +kernel
theorem d_mo_accumulate_186 : decode bc_mo_accumulate 186 = .ok (.istore 7, 2) := by decide +kernel
theorem d_mo_accumulate_188 : decode bc_mo_accumulate 188 = .ok (.iload_n 3, 1) := by decide +kernel
theorem d_mo_accumulate_189 : decode bc_mo_accumulate 189 = .ok (.bipush 8, 2) := by decide +kernel
theorem d_mo_accumulate_191 : decode bc_mo_accumulate 191 = .ok (.if_icmp .ne 15, 3) := by decide +kernel
theorem d_mo_accumulate_194 : decode bc_mo_accumulate 194 = .ok (.aload_n 0, 1) := by decide +kernel
theorem d_mo_accumulate_195 : decode bc_mo_accumulate 195 = .ok (.iload 7, 2) := by decide +kernel
theorem d_mo_accumulate_197 : decode bc_mo_accumulate 197 = .ok (.iload 6, 2) := by decide +kernel
theorem d_mo_accumulate_199 : decode bc_mo_accumulate 199 = .ok (.ixor, 1) := by decide +kernel
theorem d_mo_accumulate_200 : decode bc_mo_accumulate 200 = .ok (.iconst 0, 1) := by decide +kernel
theorem d_mo_accumulate_201 : decode bc_mo_accumulate 201 = .ok (.invokevirtual 105, 3) := by decide +kernel
theorem d_mo_accumulate_204 : decode bc_mo_accumulate 204 = .ok (.istore 7, 2) := by decide +kernel
theorem d_mo_accumulate_206 : decode bc_mo_accumulate 206 = .ok (.iload_n 3, 1) := by decide +kernel
theorem d_mo_accumulate_207 : decode bc_mo_accumulate 207 = .ok (.bipush 9, 2) := by decide +kernel
theorem d_mo_accumulate_209 : decode bc_mo_accumulate 209 = .ok (.if_icmp .ne 16, 3) := by decide +kernel
theorem d_mo_accumulate_212 : decode bc_mo_accumulate 212 = .ok (.aload_n 0, 1) := by decide +kernel
theorem d_mo_accumulate_213 : decode bc_mo_accumulate 213 = .ok (.iload 7, 2) := by decide +kernel
theorem d_mo_accumulate_215 : decode bc_mo_accumulate 215 = .ok (.iload 6, 2) := by decide +kernel
theorem d_mo_accumulate_217 : decode bc_mo_accumulate 217 = .ok (.iload 5, 2) := by decide +kernel
theorem d_mo_accumulate_219 : decode bc_mo_accumulate 219 = .ok (.iconst 0, 1) := by decide +kernel
theorem d_mo_accumulate_220 : decode bc_mo_accumulate 220 = .ok (.invokevirtual 111, 3) := by decide +kernel
theorem d_mo_accumulate_223 : decode bc_mo_accumulate 223 = .ok (.istore 7, 2) := by decide +kernel
theorem d_mo_accumulate_225 : decode bc_mo_accumulate 225 = .ok (.iload_n 3, 1) := by decide +kernel
theorem d_mo_accumulate_226 : decode bc_mo_accumulate 226 = .ok (.bipush 10, 2) := by decide +kernel
theorem d_mo_accumulate_228 : decode bc_mo_accumulate 228 = .ok (.if_icmp .ne 15, 3) := by decide +kernel
theorem d_mo_accumulate_231 : decode bc_mo_accumulate 231 = .ok (.aload_n 0, 1) := by decide +kernel
theorem d_mo_accumulate_232 : decode bc_mo_accumulate 232 = .ok (.iload 7, 2) := by decide +kernel
theorem d_mo_accumulate_234 : decode bc_mo_accumulate 234 = .ok (.iload 6, 2) := by decide +kernel
theorem d_mo_accumulate_236 : decode bc_mo_accumulate 236 = .ok (.ior, 1) := by decide +kernel
theorem d_mo_accumulate_237 : decode bc_mo_accumulate 237 = .ok (.iconst 0, 1) := by decide +kernel
theorem d_mo_accumulate_238 : decode bc_mo_accumulate 238 = .ok (.invokevirtual 105, 3) := by decide +kernel
theorem d_mo_accumulate_241 : decode bc_mo_accumulate 241 = .ok (.istore 7, 2) := by decide +kernel
theorem d_mo_accumulate_243 : decode bc_mo_accumulate 243 = .ok (.iload_n 3, 1) := by decide +kernel
theorem d_mo_accumulate_244 : decode bc_mo_accumulate 244 = .ok (.bipush 11, 2) := by decide +kernel
theorem d_mo_accumulate_246 : decode bc_mo_accumulate 246 = .ok (.if_icmp .ne 15, 3) := by decide +kernel
theorem d_mo_accumulate_249 : decode bc_mo_accumulate 249 = .ok (.aload_n 0, 1) := by decide +kernel
theorem d_mo_accumulate_250 : decode bc_mo_accumulate 250 = .ok (.iload 7, 2) := by decide +kernel
theorem d_mo_accumulate_252 : decode bc_mo_accumulate 252 = .ok (.iload 6, 2) := by decide +kernel
theorem d_mo_accumulate_254 : decode bc_mo_accumulate 254 = .ok (.iconst 0, 1) := by decide +kernel
theorem d_mo_accumulate_255 : decode bc_mo_accumulate 255 = .ok (.iconst 0, 1) := by decide +kernel
theorem d_mo_accumulate_256 : decode bc_mo_accumulate 256 = .ok (.invokevirtual 111, 3) := by decide +kernel
theorem d_mo_accumulate_259 : decode bc_mo_accumulate 259 = .ok (.istore 7, 2) := by decide +kernel
theorem d_mo_accumulate_261 : decode bc_mo_accumulate 261 = .ok (.iload_n 3, 1) := by decide +kernel
theorem d_mo_accumulate_262 : decode bc_mo_accumulate 262 = .ok (.iconst 1, 1) := by decide +kernel
theorem d_mo_accumulate_263 : decode bc_mo_accumulate 263 = .ok (.if_icmp .eq 16, 3) := by decide +kernel
theorem d_mo_accumulate_266 : decode bc_mo_accumulate 266 = .ok (.iload_n 3, 1) := by decide +kernel
theorem d_mo_accumulate_267 : decode bc_mo_accumulate 267 = .ok (.iconst 5, 1) := by decide +kernel
theorem d_mo_accumulate_268 : decode bc_mo_accumulate 268 = .ok (.if_icmp .eq 11, 3) := by decide +kernel
theorem d_mo_accumulate_271 : decode bc_mo_accumulate 271 = .ok (.aload_n 0, 1) := by decide +kernel
theorem d_mo_accumulate_272 : decode bc_mo_accumulate 272 = .ok (.getfield 13, 3) := by decide +kernel
theorem d_mo_accumulate_275 : decode bc_mo_accumulate 275 = .ok (.iload_n 2, 1) := by decide +kernel
theorem d_mo_accumulate_276 : decode bc_mo_accumulate 276 = .ok (.iload 7, 2) := by decide +kernel
theorem d_mo_accumulate_278 : decode bc_mo_accumulate 278 = .ok (.iastore, 1) := by decide +kernel
theorem d_mo_accumulate_279 : decode bc_mo_accumulate 279 = .ok (.return_, 1) := by decide +kernel
theorem d_mo_compare_0 : decode bc_mo_compare 0 = .ok (.aload_n 0, 1) := by decide +kernel
theorem d_mo_compare_1 : decode bc_mo_compare 1 = .ok (.iload_n 3, 1) := by decide +kernel
theorem d_mo_compare_2 : decode bc_mo_compare 2 = .ok (.invokevirtual 114, 3) := by decide +kernel
theorem d_mo_compare_5 : decode bc_mo_compare 5 = .ok (.istore 4, 2) := by decide +kernel
theorem d_mo_compare_7 : decode bc_mo_compare 7 = .ok (.aload_n 0, 1) := by decide +kernel
theorem d_mo_compare_8 : decode bc_mo_compare 8 = .ok (.getfield 56, 3) := by decide +kernel
theorem d_mo_compare_11 : decode bc_mo_compare 11 = .ok (.ifCond .eq 4, 3) := by decide +kernel
theorem d_mo_compare_14 : decode bc_mo_compare 14 = .ok (.return_, 1) := by decide +kernel
theorem d_mo_compare_15 : decode bc_mo_compare 15 = .ok (.aload_n 0, 1) := by decide +kernel
theorem d_mo_compare_16 : decode bc_mo_compare 16 = .ok (.iload_n 2, 1) := by decide +kernel
theorem d_mo_compare_17 : decode bc_mo_compare 17 = .ok (.ifCond .ge 7, 3) := by decide +kernel
theorem d_mo_compare_20 : decode bc_mo_compare 20 = .ok (.iload_n 1, 1) := by decide +kernel
theorem d_mo_compare_21 : decode bc_mo_compare 21 = .ok (.goto 9, 3) := by decide +kernel
theorem d_mo_compare_24 : decode bc_mo_compare 24 = .ok (.aload_n 0, 1) := by decide +kernel
theorem d_mo_compare_25 : decode bc_mo_compare 25 = .ok (.getfield 13, 3) := by decide +kernel
theorem d_mo_compare_28 : decode bc_mo_compare 28 = .ok (.iload_n 2, 1) := by decide +kernel
theorem d_mo_compare_29 : decode bc_mo_compare 29 = .ok (.iaload, 1) := by decide +kernel
theorem d_mo_compare_30 : decode bc_mo_compare 30 = .ok (.iload 4, 2) := by decide +kernel
theorem d_mo_compare_32 : decode bc_mo_compare 32 = .ok (.iconst 0, 1) := by decide +kernel
theorem d_mo_compare_33 : decode bc_mo_compare 33 = .ok (.iconst 1, 1) := by decide +kernel
theorem d_mo_compare_34 : decode bc_mo_compare 34 = .ok (.invokevirtual 97, 3) := by decide +kernel
theorem d_mo_compare_37 : decode bc_mo_compare 37 = .ok (.pop, 1) := by decide +kernel
theorem d_mo_compare_38 : decode bc_mo_compare 38 = .ok (.return_, 1) := by decide +kernel
theorem d_mo_loadWord_0 : decode bc_mo_loadWord 0 = .ok (.aload_n 0, 1) := by decide +kernel
theorem d_mo_loadWord_1 : decode bc_mo_loadWord 1 = .ok (.iload_n 2, 1) := by decide +kernel
theorem d_mo_loadWord_2 : decode bc_mo_loadWord 2 = .ok (.invokevirtual 114, 3) := by decide +kernel
theorem d_mo_loadWord_5 : decode bc_mo_loadWord 5 = .ok (.istore_n 3, 1) := by decide +kernel
theorem d_mo_loadWord_6 : decode bc_mo_loadWord 6 = .ok (.aload_n 0, 1) := by decide +kernel
theorem d_mo_loadWord_7 : decode bc_mo_loadWord 7 = .ok (.getfield 56, 3) := by decide +kernel
theorem d_mo_loadWord_10 : decode bc_mo_loadWord 10 = .ok (.ifCond .eq 4, 3) := by decide +kernel
theorem d_mo_loadWord_13 : decode bc_mo_loadWord 13 = .ok (.return_, 1) := by decide +kernel
theorem d_mo_loadWord_14 : decode bc_mo_loadWord 14 = .ok (.aload_n 0, 1) := by decide +kernel
theorem d_mo_loadWord_15 : decode bc_mo_loadWord 15 = .ok (.iload_n 3, 1) := by decide +kernel
theorem d_mo_loadWord_16 : decode bc_mo_loadWord 16 = .ok (.iconst 1, 1) := by decide +kernel
theorem d_mo_loadWord_17 : decode bc_mo_loadWord 17 = .ok (.invokevirtual 105, 3) := by decide +kernel
theorem d_mo_loadWord_20 : decode bc_mo_loadWord 20 = .ok (.pop, 1) := by decide +kernel
theorem d_mo_loadWord_21 : decode bc_mo_loadWord 21 = .ok (.iload_n 1, 1) := by decide +kernel
theorem d_mo_loadWord_22 : decode bc_mo_loadWord 22 = .ok (.ifCond .ge 11, 3) := by decide +kernel
theorem d_mo_loadWord_25 : decode bc_mo_loadWord 25 = .ok (.aload_n 0, 1) := by decide +kernel
theorem d_mo_loadWord_26 : decode bc_mo_loadWord 26 = .ok (.iload_n 3, 1) := by decide +kernel
theorem d_mo_loadWord_27 : decode bc_mo_loadWord 27 = .ok (.invokevirtual 117, 3) := by decide +kernel
theorem d_mo_loadWord_30 : decode bc_mo_loadWord 30 = .ok (.goto 10, 3) := by decide +kernel
theorem d_mo_loadWord_33 : decode bc_mo_loadWord 33 = .ok (.aload_n 0, 1) := by decide +kernel
theorem d_mo_loadWord_34 : decode bc_mo_loadWord 34 = .ok (.getfield 13, 3) := by decide +kernel
theorem d_mo_loadWord_37 : decode bc_mo_loadWord 37 = .ok (.iload_n 1, 1) := by decide +kernel
theorem d_mo_loadWord_38 : decode bc_mo_loadWord 38 = .ok (.iload_n 3, 1) := by decide +kernel
theorem d_mo_loadWord_39 : decode bc_mo_loadWord 39 = .ok (.iastore, 1) := by decide +kernel
theorem d_mo_loadWord_40 : decode bc_mo_loadWord 40 = .ok (.aload_n 0, 1) := by decide +kernel
theorem d_mo_loadWord_41 : decode bc_mo_loadWord 41 = .ok (.aload_n 0, 1) := by decide +kernel
theorem d_mo_loadWord_42 : decode bc_mo_loadWord 42 = .ok (.getfield 90, 3) := by decide +kernel
theorem d_mo_loadWord_45 : decode bc_mo_loadWord 45 = .ok (.ifCond .ne 8, 3) := by decide +kernel
theorem d_mo_loadWord_48 : decode bc_mo_loadWord 48 = .ok (.iload_n 1, 1) := by decide +kernel
theorem d_mo_loadWord_49 : decode bc_mo_loadWord 49 = .ok (.iconst 5, 1) := by decide +kernel
theorem d_mo_loadWord_50 : decode bc_mo_loadWord 50 = .ok (.if_icmp .ne 7, 3) := by decide +kernel
theorem d_mo_loadWord_53 : decode bc_mo_loadWord 53 = .ok (.iconst 1, 1) := by decide +kernel
theorem d_mo_loadWord_54 : decode bc_mo_loadWord 54 = .ok (.goto 4, 3) := by decide +kernel
theorem d_mo_loadWord_57 : decode bc_mo_loadWord 57 = .ok (.iconst 0, 1) := by decide +kernel
theorem d_mo_loadWord_58 : decode bc_mo_loadWord 58 = .ok (.putfield 90, 3) := by decide +kernel
theorem d_mo_loadWord_61 : decode bc_mo_loadWord 61 = .ok (.return_, 1) := by decide +kernel
theorem d_mo_storeWord_0 : decode bc_mo_storeWord 0 = .ok (.aload_n 0, 1) := by decide +kernel
theorem d_mo_storeWord_1 : decode bc_mo_storeWord 1 = .ok (.iload_n 2, 1) := by decide +kernel
theorem d_mo_storeWord_2 : decode bc_mo_storeWord 2 = .ok (.ifCond .ne 7, 3) := by decide +kernel
theorem d_mo_storeWord_5 : decode bc_mo_storeWord 5 = .ok (.iconst 1, 1) := by decide +kernel
theorem d_mo_storeWord_6 : decode bc_mo_storeWord 6 = .ok (.goto 4, 3) := by decide +kernel
theorem d_mo_storeWord_9 : decode bc_mo_storeWord 9 = .ok (.iconst 0, 1) := by decide +kernel
theorem d_mo_storeWord_10 : decode bc_mo_storeWord 10 = .ok (.putfield 56, 3) := by decide +kernel
theorem d_mo_storeWord_13 : decode bc_mo_storeWord 13 = .ok (.aload_n 0, 1) := by decide +kernel
theorem d_mo_storeWord_14 : decode bc_mo_storeWord 14 = .ok (.getfield 56, 3) := by decide +kernel
theorem d_mo_storeWord_17 : decode bc_mo_storeWord 17 = .ok (.ifCond .eq 4, 3) := by decide +kernel
theorem d_mo_storeWord_20 : decode bc_mo_storeWord 20 = .ok (.return_, 1) := by decide +kernel
theorem d_mo_storeWord_21 : decode bc_mo_storeWord 21 = .ok (.aload_n 0, 1) := by decide +kernel
theorem d_mo_storeWord_22 : decode bc_mo_storeWord 22 = .ok (.iload_n 2, 1) := by decide +kernel
theorem d_mo_storeWord_23 : decode bc_mo_storeWord 23 = .ok (.invokevirtual 75, 3) := by decide +kernel
theorem d_mo_storeWord_26 : decode bc_mo_storeWord 26 = .ok (.istore_n 3, 1) := by decide +kernel
theorem d_mo_storeWord_27 : decode bc_mo_storeWord 27 = .ok (.aload_n 0, 1) := by decide +kernel
theorem d_mo_storeWord_28 : decode bc_mo_storeWord 28 = .ok (.getfield 56, 3) := by decide +kernel
theorem d_mo_storeWord_31 : decode bc_mo_storeWord 31 = .ok (.ifCond .eq 4, 3) := by decide +kernel
theorem d_mo_storeWord_34 : decode bc_mo_storeWord 34 = .ok (.return_, 1) := by decide +kernel
theorem d_mo_storeWord_35 : decode bc_mo_storeWord 35 = .ok (.iload_n 1, 1) := by decide +kernel
theorem d_mo_storeWord_36 : decode bc_mo_storeWord 36 = .ok (.ifCond .ge 10, 3) := by decide +kernel
theorem d_mo_storeWord_39 : decode bc_mo_storeWord 39 = .ok (.aload_n 0, 1) := by decide +kernel
theorem d_mo_storeWord_40 : decode bc_mo_storeWord 40 = .ok (.invokevirtual 66, 3) := by decide +kernel
theorem d_mo_storeWord_43 : decode bc_mo_storeWord 43 = .ok (.goto 9, 3) := by decide +kernel
theorem d_mo_storeWord_46 : decode bc_mo_storeWord 46 = .ok (.aload_n 0, 1) := by decide +kernel
theorem d_mo_storeWord_47 : decode bc_mo_storeWord 47 = .ok (.getfield 13, 3) := by decide +kernel
theorem d_mo_storeWord_50 : decode bc_mo_storeWord 50 = .ok (.iload_n 1, 1) := by decide +kernel
theorem d_mo_storeWord_51 : decode bc_mo_storeWord 51 = .ok (.iaload, 1) := by decide +kernel
theorem d_mo_storeWord_52 : decode bc_mo_storeWord 52 = .ok (.istore 4, 2) := by decide +kernel
theorem d_mo_storeWord_54 : decode bc_mo_storeWord 54 = .ok (.aload_n 0, 1) := by decide +kernel
theorem d_mo_storeWord_55 : decode bc_mo_storeWord 55 = .ok (.iload 4, 2) := by decide +kernel
theorem d_mo_storeWord_57 : decode bc_mo_storeWord 57 = .ok (.iconst 1, 1) := by decide +kernel
theorem d_mo_storeWord_58 : decode bc_mo_storeWord 58 = .ok (.invokevirtual 105, 3) := by decide +kernel
theorem d_mo_storeWord_61 : decode bc_mo_storeWord 61 = .ok (.pop, 1) := by decide +kernel
theorem d_mo_storeWord_62 : decode bc_mo_storeWord 62 = .ok (.aload_n 0, 1) := by decide +kernel
theorem d_mo_storeWord_63 : decode bc_mo_storeWord 63 = .ok (.iload_n 3, 1) := by decide +kernel
theorem d_mo_storeWord_64 : decode bc_mo_storeWord 64 = .ok (.iload 4, 2) := by decide +kernel
theorem d_mo_storeWord_66 : decode bc_mo_storeWord 66 = .ok (.invokevirtual 121, 3) := by decide +kernel
theorem d_mo_storeWord_69 : decode bc_mo_storeWord 69 = .ok (.return_, 1) := by decide +kernel
theorem d_mo_addWord_0 : decode bc_mo_addWord 0 = .ok (.aload_n 0, 1) := by decide +kernel
theorem d_mo_addWord_1 : decode bc_mo_addWord 1 = .ok (.iload_n 1, 1) := by decide +kernel
theorem d_mo_addWord_2 : decode bc_mo_addWord 2 = .ok (.invokevirtual 114, 3) := by decide +kernel
theorem d_mo_addWord_5 : decode bc_mo_addWord 5 = .ok (.istore_n 3, 1) := by decide +kernel
theorem d_mo_addWord_6 : decode bc_mo_addWord 6 = .ok (.aload_n 0, 1) := by decide +kernel
theorem d_mo_addWord_7 : decode bc_mo_addWord 7 = .ok (.getfield 56, 3) := by decide +kernel
theorem d_mo_addWord_10 : decode bc_mo_addWord 10 = .ok (.ifCond .eq 4, 3) := by decide +kernel
theorem d_mo_addWord_13 : decode bc_mo_addWord 13 = .ok (.return_, 1) := by decide +kernel
theorem d_mo_addWord_14 : decode bc_mo_addWord 14 = .ok (.iload_n 2, 1) := by decide +kernel
theorem d_mo_addWord_15 : decode bc_mo_addWord 15 = .ok (.ifCond .eq 17, 3) := by decide +kernel
theorem d_mo_addWord_18 : decode bc_mo_addWord 18 = .ok (.aload_n 0, 1) := by decide +kernel
theorem d_mo_addWord_19 : decode bc_mo_addWord 19 = .ok (.aload_n 0, 1) := by decide +kernel
theorem d_mo_addWord_20 : decode bc_mo_addWord 20 = .ok (.invokevirtual 66, 3) := by decide +kernel
theorem d_mo_addWord_23 : decode bc_mo_addWord 23 = .ok (.iload_n 3, 1) := by decide +kernel
theorem d_mo_addWord_24 : decode bc_mo_addWord 24 = .ok (.iconst 0, 1) := by decide +kernel
theorem d_mo_addWord_25 : decode bc_mo_addWord 25 = .ok (.iconst 1, 1) := by decide +kernel
theorem d_mo_addWord_26 : decode bc_mo_addWord 26 = .ok (.invokevirtual 97, 3) := by decide +kernel
theorem d_mo_addWord_29 : decode bc_mo_addWord 29 = .ok (.goto 14, 3) := by decide +kernel
theorem d_mo_addWord_32 : decode bc_mo_addWord 32 = .ok (.aload_n 0, 1) := by decide +kernel
theorem d_mo_addWord_33 : decode bc_mo_addWord 33 = .ok (.aload_n 0, 1) := by decide +kernel
theorem d_mo_addWord_34 : decode bc_mo_addWord 34 = .ok (.invokevirtual 66, 3) := by decide +kernel
theorem d_mo_addWord_37 : decode bc_mo_addWord 37 = .ok (.iload_n 3, 1) := by decide +kernel
theorem d_mo_addWord_38 : decode bc_mo_addWord 38 = .ok (.iconst 0, 1) := by decide +kernel
theorem d_mo_addWord_39 : decode bc_mo_addWord 39 = .ok (.iconst 1, 1) := by decide +kernel
theorem d_mo_addWord_40 : decode bc_mo_addWord 40 = .ok (.invokevirtual 111, 3) := by decide +kernel
theorem d_mo_addWord_43 : decode bc_mo_addWord 43 = .ok (.istore 4, 2) := by decide +kernel
theorem d_mo_addWord_45 : decode bc_mo_addWord 45 = .ok (.aload_n 0, 1) := by decide +kernel
theorem d_mo_addWord_46 : decode bc_mo_addWord 46 = .ok (.iload 4, 2) := by decide +kernel
theorem d_mo_addWord_48 : decode bc_mo_addWord 48 = .ok (.invokevirtual 117, 3) := by decide +kernel
theorem d_mo_addWord_51 : decode bc_mo_addWord 51 = .ok (.return_, 1) := by decide +kernel
theorem d_mo_call_0 : decode bc_mo_call 0 = .ok (.iconst 0, 1) := by decide +kernel
theorem d_mo_call_1 : decode bc_mo_call 1 = .ok (.istore_n 2, 1) := by decide +kernel
theorem d_mo_call_2 : decode bc_mo_call 2 = .ok (.iload_n 1, 1) := by decide +kernel
theorem d_mo_call_3 : decode bc_mo_call 3 = .ok (.ifCond .ne 27, 3) := by decide +kernel
theorem d_mo_call_6 : decode bc_mo_call 6 = .ok (.aload_n 0, 1) := by decide +kernel
theorem d_mo_call_7 : decode bc_mo_call 7 = .ok (.invokevirtual 31, 3) := by decide +kernel
theorem d_mo_call_10 : decode bc_mo_call 10 = .ok (.invokestatic 60, 3) := by decide +kernel
theorem d_mo_call_13 : decode bc_mo_call 13 = .ok (.istore_n 3, 1) := by decide +kernel
theorem d_mo_call_14 : decode bc_mo_call 14 = .ok (.aload_n 0, 1) := by decide +kernel
theorem d_mo_call_15 : decode bc_mo_call 15 = .ok (.getfield 13, 3) := by decide +kernel
theorem d_mo_call_18 : decode bc_mo_call 18 = .ok (.bipush 6, 2) := by decide +kernel
theorem d_mo_call_20 : decode bc_mo_call 20 = .ok (.iaload, 1) := by decide +kernel
theorem d_mo_call_21 : decode bc_mo_call 21 = .ok (.iload_n 3, 1) := by decide +kernel
theorem d_mo_call_22 : decode bc_mo_call 22 = .ok (.iadd, 1) := by decide +kernel
theorem d_mo_call_23 : decode bc_mo_call 23 = .ok (.ldc 30, 2) := by decide +kernel
theorem d_mo_call_25 : decode bc_mo_call 25 = .ok (.iand, 1) := by decide +kernel
theorem d_mo_call_26 : decode bc_mo_call 26 = .ok (.istore_n 2, 1) := by decide +kernel
theorem d_mo_call_27 : decode bc_mo_call 27 = .ok (.goto 9, 3) := by decide +kernel
theorem d_mo_call_30 : decode bc_mo_call 30 = .ok (.aload_n 0, 1) := by decide +kernel
theorem d_mo_call_31 : decode bc_mo_call 31 = .ok (.iload_n 1, 1) := by decide +kernel
theorem d_mo_call_32 : decode bc_mo_call 32 = .ok (.invokevirtual 75, 3) := by decide +kernel
theorem d_mo_call_35 : decode bc_mo_call 35 = .ok (.istore_n 2, 1) := by decide +kernel
theorem d_mo_call_36 : decode bc_mo_call 36 = .ok (.aload_n 0, 1) := by decide +kernel
theorem d_mo_call_37 : decode bc_mo_call 37 = .ok (.getfield 56, 3) := by decide +kernel
theorem d_mo_call_40 : decode bc_mo_call 40 = .ok (.ifCond .eq 4, 3) := by decide +kernel
theorem d_mo_call_43 : decode bc_mo_call 43 = .ok (.return_, 1) := by decide +kernel
theorem d_mo_call_44 : decode bc_mo_call 44 = .ok (.aload_n 0, 1) := by decide +kernel
theorem d_mo_call_45 : decode bc_mo_call 45 = .ok (.iconst 5, 1) := by decide +kernel
theorem d_mo_call_46 : decode bc_mo_call 46 = .ok (.aload_n 0, 1) := by decide +kernel
theorem d_mo_call_47 : decode bc_mo_call 47 = .ok (.getfield 13, 3) := by decide +kernel
theorem d_mo_call_50 : decode bc_mo_call 50 = .ok (.bipush 6, 2) := by decide +kernel
theorem d_mo_call_52 : decode bc_mo_call 52 = .ok (.iaload, 1) := by decide +kernel
theorem d_mo_call_53 : decode bc_mo_call 53 = .ok (.invokevirtual 84, 3) := by decide +kernel
theorem d_mo_call_56 : decode bc_mo_call 56 = .ok (.aload_n 0, 1) := by decide +kernel
theorem d_mo_call_57 : decode bc_mo_call 57 = .ok (.getfield 13, 3) := by decide +kernel
theorem d_mo_call_60 : decode bc_mo_call 60 = .ok (.bipush 6, 2) := by decide +kernel
theorem d_mo_call_62 : decode bc_mo_call 62 = .ok (.iload_n 2, 1) := by decide +kernel
theorem d_mo_call_63 : decode bc_mo_call 63 = .ok (.iastore, 1) := by decide +kernel
theorem d_mo_call_64 : decode bc_mo_call 64 = .ok (.return_, 1) := by decide +kernel
theorem d_mo_upper_0 : decode bc_mo_upper 0 = .ok (.iload_n 1, 1) := by decide +kernel
theorem d_mo_upper_1 : decode bc_mo_upper 1 = .ok (.bipush 15, 2) := by decide +kernel
theorem d_mo_upper_3 : decode bc_mo_upper 3 = .ok (.iand, 1) := by decide +kernel
theorem d_mo_upper_4 : decode bc_mo_upper 4 = .ok (.istore_n 2, 1) := by decide +kernel
theorem d_mo_upper_5 : decode bc_mo_upper 5 = .ok (.iload_n 1, 1) := by decide +kernel
theorem d_mo_upper_6 : decode bc_mo_upper 6 = .ok (.iconst 4, 1) := by decide +kernel
theorem d_mo_upper_7 : decode bc_mo_upper 7 = .ok (.ishr, 1) := by decide +kernel
theorem d_mo_upper_8 : decode bc_mo_upper 8 = .ok (.iconst 3, 1) := by decide +kernel
theorem d_mo_upper_9 : decode bc_mo_upper 9 = .ok (.iand, 1) := by decide +kernel
theorem d_mo_upper_10 : decode bc_mo_upper 10 = .ok (.istore_n 3, 1) := by decide +kernel
theorem d_mo_upper_11 : decode bc_mo_upper 11 = .ok (.iload_n 1, 1) := by decide +kernel
theorem d_mo_upper_12 : decode bc_mo_upper 12 = .ok (.sipush 192, 3) := by decide +kernel
theorem d_mo_upper_15 : decode bc_mo_upper 15 = .ok (.if_icmp .lt 7, 3) := by decide +kernel
theorem d_mo_upper_18 : decode bc_mo_upper 18 = .ok (.iconst 1, 1) := by decide +kernel
theorem d_mo_upper_19 : decode bc_mo_upper 19 = .ok (.goto 4, 3) := by decide +kernel
theorem d_mo_upper_22 : decode bc_mo_upper 22 = .ok (.iconst 0, 1) := by decide +kernel
theorem d_mo_upper_23 : decode bc_mo_upper 23 = .ok (.istore 4, 2) := by decide +kernel
theorem d_mo_upper_25 : decode bc_mo_upper 25 = .ok (.iload_n 2, 1) := by decide +kernel
theorem d_mo_upper_26 : decode bc_mo_upper 26 = .ok (.bipush 12, 2) := by decide +kernel
theorem d_mo_upper_28 : decode bc_mo_upper 28 = .ok (.if_icmp .ge 23, 3) := by decide +kernel
theorem d_mo_upper_31 : decode bc_mo_upper 31 = .ok (.iload_n 2, 1) := by decide +kernel
theorem d_mo_upper_32 : decode bc_mo_upper 32 = .ok (.iconst 3, 1) := by decide +kernel
theorem d_mo_upper_33 : decode bc_mo_upper 33 = .ok (.if_icmp .eq 18, 3) := by decide +kernel
theorem d_mo_upper_36 : decode bc_mo_upper 36 = .ok (.aload_n 0, 1) := by decide +kernel
theorem d_mo_upper_37 : decode bc_mo_upper 37 = .ok (.iload_n 1, 1) := by decide +kernel
theorem d_mo_upper_38 : decode bc_mo_upper 38 = .ok (.iload 4, 2) := by decide +kernel
theorem d_mo_upper_40 : decode bc_mo_upper 40 = .ok (.ifCond .eq 7, 3) := by decide +kernel
theorem d_mo_upper_43 : decode bc_mo_upper 43 = .ok (.iconst 1, 1) := by decide +kernel
theorem d_mo_upper_44 : decode bc_mo_upper 44 = .ok (.goto 4, 3) := by decide +kernel
theorem d_mo_upper_47 : decode bc_mo_upper 47 = .ok (.iconst 0, 1) := by decide +kernel
theorem d_mo_upper_48 : decode bc_mo_upper 48 = .ok (.invokevirtual 124, 3) := by decide +kernel
theorem d_mo_upper_51 : decode bc_mo_upper 51 = .ok (.iload_n 2, 1) := by decide +kernel
theorem d_mo_upper_52 : decode bc_mo_upper 52 = .ok (.iconst 3, 1) := by decide +kernel
theorem d_mo_upper_53 : decode bc_mo_upper 53 = .ok (.if_icmp .ne 18, 3) := by decide +kernel
theorem d_mo_upper_56 : decode bc_mo_upper 56 = .ok (.aload_n 0, 1) := by decide +kernel
theorem d_mo_upper_57 : decode bc_mo_upper 57 = .ok (.iload_n 3, 1) := by decide +kernel
theorem d_mo_upper_58 : decode bc_mo_upper 58 = .ok (.iload 4, 2) := by decide +kernel
theorem d_mo_upper_60 : decode bc_mo_upper 60 = .ok (.ifCond .ne 7, 3) := by decide +kernel
theorem d_mo_upper_63 : decode bc_mo_upper 63 = .ok (.iconst 1, 1) := by decide +kernel
theorem d_mo_upper_64 : decode bc_mo_upper 64 = .ok (.goto 4, 3) := by decide +kernel
theorem d_mo_upper_67 : decode bc_mo_upper 67 = .ok (.iconst 0, 1) := by decide +kernel
theorem d_mo_upper_68 : decode bc_mo_upper 68 = .ok (.invokevirtual 127, 3) := by decide +kernel
theorem d_mo_upper_71 : decode bc_mo_upper 71 = .ok (.iload_n 2, 1) := by decide +kernel
theorem d_mo_upper_72 : decode bc_mo_upper 72 = .ok (.bipush 12, 2) := by decide +kernel
theorem d_mo_upper_74 : decode bc_mo_upper 74 = .ok (.if_icmp .ne 14, 3) := by decide +kernel
theorem d_mo_upper_77 : decode bc_mo_upper 77 = .ok (.iload 4, 2) := by decide +kernel
theorem d_mo_upper_79 : decode bc_mo_upper 79 = .ok (.ifCond .eq 9, 3) := by decide +kernel
theorem d_mo_upper_82 : decode bc_mo_upper 82 = .ok (.aload_n 0, 1) := by decide +kernel
theorem d_mo_upper_83 : decode bc_mo_upper 83 = .ok (.iconst (-1), 1) := by decide +kernel
theorem d_mo_upper_84 : decode bc_mo_upper 84 = .ok (.iload_n 3, 1) := by decide +kernel
theorem d_mo_upper_85 : decode bc_mo_upper 85 = .ok (.invokevirtual 130, 3) := by decide +kernel
theorem d_mo_upper_88 : decode bc_mo_upper 88 = .ok (.iload_n 2, 1) := by decide +kernel
theorem d_mo_upper_89 : decode bc_mo_upper 89 = .ok (.bipush 12, 2) := by decide +kernel
theorem d_mo_upper_91 : decode bc_mo_upper 91 = .ok (.if_icmp .ne 15, 3) := by decide +kernel
theorem d_mo_upper_94 : decode bc_mo_upper 94 = .ok (.iload 4, 2) := by decide +kernel
theorem d_mo_upper_96 : decode bc_mo_upper 96 = .ok (.ifCond .ne 10, 3) := by decide +kernel
theorem d_mo_upper_99 : decode bc_mo_upper 99 = .ok (.aload_n 0, 1) := by decide +kernel
theorem d_mo_upper_100 : decode bc_mo_upper 100 = .ok (.iconst 0, 1) := by decide +kernel
theorem d_mo_upper_101 : decode bc_mo_upper 101 = .ok (.iconst 2, 1) := by decide +kernel
theorem d_mo_upper_102 : decode bc_mo_upper 102 = .ok (.iload_n 3, 1) := by decide +kernel
theorem d_mo_upper_103 : decode bc_mo_upper 103 = .ok (.invokevirtual 133, 3) := by decide +kernel
theorem d_mo_upper_106 : decode bc_mo_upper 106 = .ok (.iload_n 2, 1) := by decide +kernel
theorem d_mo_upper_107 : decode bc_mo_upper 107 = .ok (.bipush 13, 2) := by decide +kernel
theorem d_mo_upper_109 : decode bc_mo_upper 109 = .ok (.if_icmp .ne 14, 3) := by decide +kernel
theorem d_mo_upper_112 : decode bc_mo_upper 112 = .ok (.iload 4, 2) := by decide +kernel
theorem d_mo_upper_114 : decode bc_mo_upper 114 = .ok (.ifCond .eq 9, 3) := by decide +kernel
theorem d_mo_upper_117 : decode bc_mo_upper 117 = .ok (.aload_n 0, 1) := by decide +kernel
theorem d_mo_upper_118 : decode bc_mo_upper 118 = .ok (.iconst (-1), 1) := by decide +kernel
theorem d_mo_upper_119 : decode bc_mo_upper 119 = .ok (.iload_n 3, 1) := by decide +kernel
theorem d_mo_upper_120 : decode bc_mo_upper 120 = .ok (.invokevirtual 137, 3) := by decide +kernel
theorem d_mo_upper_123 : decode bc_mo_upper 123 = .ok (.iload_n 2, 1) := by decide +kernel
theorem d_mo_upper_124 : decode bc_mo_upper 124 = .ok (.bipush 13, 2) := by decide +kernel
theorem d_mo_upper_126 : decode bc_mo_upper 126 = .ok (.if_icmp .ne 13, 3) := by decide +kernel
theorem d_mo_upper_129 : decode bc_mo_upper 129 = .ok (.iload 4, 2) := by decide +kernel
theorem d_mo_upper_131 : decode bc_mo_upper 131 = .ok (.ifCond .ne 8, 3) := by decide +kernel
theorem d_mo_upper_134 : decode bc_mo_upper 134 = .ok (.aload_n 0, 1) := by decide +kernel
theorem d_mo_upper_135 : decode bc_mo_upper 135 = .ok (.iload_n 3, 1) := by decide +kernel
theorem d_mo_upper_136 : decode bc_mo_upper 136 = .ok (.invokevirtual 140, 3) := by decide +kernel
theorem d_mo_upper_139 : decode bc_mo_upper 139 = .ok (.iload_n 2, 1) := by decide +kernel
theorem d_mo_upper_140 : decode bc_mo_upper 140 = .ok (.bipush 14, 2) := by decide +kernel
theorem d_mo_upper_142 : decode bc_mo_upper 142 = .ok (.if_icmp .ne 18, 3) := by decide +kernel
theorem d_mo_upper_145 : decode bc_mo_upper 145 = .ok (.aload_n 0, 1) := by decide +kernel
theorem d_mo_upper_146 : decode bc_mo_upper 146 = .ok (.iload 4, 2) := by decide +kernel
theorem d_mo_upper_148 : decode bc_mo_upper 148 = .ok (.ifCond .eq 7, 3) := by decide +kernel
theorem d_mo_upper_151 : decode bc_mo_upper 151 = .ok (.iconst 4, 1) := by decide +kernel
theorem d_mo_upper_152 : decode bc_mo_upper 152 = .ok (.goto 4, 3) := by decide +kernel
theorem d_mo_upper_155 : decode bc_mo_upper 155 = .ok (.iconst 2, 1) := by decide +kernel
theorem d_mo_upper_156 : decode bc_mo_upper 156 = .ok (.iload_n 3, 1) := by decide +kernel
theorem d_mo_upper_157 : decode bc_mo_upper 157 = .ok (.invokevirtual 130, 3) := by decide +kernel
theorem d_mo_upper_160 : decode bc_mo_upper 160 = .ok (.iload_n 2, 1) := by decide +kernel
theorem d_mo_upper_161 : decode bc_mo_upper 161 = .ok (.bipush 15, 2) := by decide +kernel
theorem d_mo_upper_163 : decode bc_mo_upper 163 = .ok (.if_icmp .ne 18, 3) := by decide +kernel
theorem d_mo_upper_166 : decode bc_mo_upper 166 = .ok (.aload_n 0, 1) := by decide +kernel
theorem d_mo_upper_167 : decode bc_mo_upper 167 = .ok (.iload 4, 2) := by decide +kernel
theorem d_mo_upper_169 : decode bc_mo_upper 169 = .ok (.ifCond .eq 7, 3) := by decide +kernel
theorem d_mo_upper_172 : decode bc_mo_upper 172 = .ok (.iconst 4, 1) := by decide +kernel
theorem d_mo_upper_173 : decode bc_mo_upper 173 = .ok (.goto 4, 3) := by decide +kernel
theorem d_mo_upper_176 : decode bc_mo_upper 176 = .ok (.iconst 2, 1) := by decide +kernel
theorem d_mo_upper_177 : decode bc_mo_upper 177 = .ok (.iload_n 3, 1) := by decide +kernel
theorem d_mo_upper_178 : decode bc_mo_upper 178 = .ok (.invokevirtual 137, 3) := by decide +kernel
theorem d_mo_upper_181 : decode bc_mo_upper 181 = .ok (.return_, 1) := by decide +kernel
theorem d_mo_holds_0 : decode bc_mo_holds 0 = .ok (.aload_n 0, 1) := by decide +kernel
theorem d_mo_holds_1 : decode bc_mo_holds 1 = .ok (.bipush 8, 2) := by decide +kernel
theorem d_mo_holds_3 : decode bc_mo_holds 3 = .ok (.invokevirtual 93, 3) := by decide +kernel
theorem d_mo_holds_6 : decode bc_mo_holds 6 = .ok (.aload_n 0, 1) := by decide +kernel
theorem d_mo_holds_7 : decode bc_mo_holds 7 = .ok (.iconst 2, 1) := by decide +kernel
theorem d_mo_holds_8 : decode bc_mo_holds 8 = .ok (.invokevirtual 93, 3) := by decide +kernel
theorem d_mo_holds_11 : decode bc_mo_holds 11 = .ok (.if_icmp .eq 7, 3) := by decide +kernel
theorem d_mo_holds_14 : decode bc_mo_holds 14 = .ok (.iconst 1, 1) := by decide +kernel
theorem d_mo_holds_15 : decode bc_mo_holds 15 = .ok (.goto 4, 3) := by decide +kernel
theorem d_mo_holds_18 : decode bc_mo_holds 18 = .ok (.iconst 0, 1) := by decide +kernel
theorem d_mo_holds_19 : decode bc_mo_holds 19 = .ok (.istore_n 2, 1) := by decide +kernel
theorem d_mo_holds_20 : decode bc_mo_holds 20 = .ok (.iload_n 1, 1) := by decide +kernel
theorem d_mo_holds_21 : decode bc_mo_holds 21 = .ok (.iconst 1, 1) := by decide +kernel
theorem d_mo_holds_22 : decode bc_mo_holds 22 = .ok (.ishr, 1) := by decide +kernel
theorem d_mo_holds_23 : decode bc_mo_holds 23 = .ok (.istore_n 3, 1) := by decide +kernel
theorem d_mo_holds_24 : decode bc_mo_holds 24 = .ok (.iload_n 3, 1) := by decide +kernel
theorem d_mo_holds_25 : decode bc_mo_holds 25 = .ok (.ifCond .ne 7, 3) := by decide +kernel
theorem d_mo_holds_28 : decode bc_mo_holds 28 = .ok (.iconst 0, 1) := by decide +kernel
theorem d_mo_holds_29 : decode bc_mo_holds 29 = .ok (.goto 112, 3) := by decide +kernel
theorem d_mo_holds_32 : decode bc_mo_holds 32 = .ok (.iload_n 3, 1) := by decide +kernel
theorem d_mo_holds_33 : decode bc_mo_holds 33 = .ok (.iconst 1, 1) := by decide +kernel
theorem d_mo_holds_34 : decode bc_mo_holds 34 = .ok (.if_icmp .ne 27, 3) := by decide +kernel
theorem d_mo_holds_37 : decode bc_mo_holds 37 = .ok (.aload_n 0, 1) := by decide +kernel
theorem d_mo_holds_38 : decode bc_mo_holds 38 = .ok (.iconst 1, 1) := by decide +kernel
theorem d_mo_holds_39 : decode bc_mo_holds 39 = .ok (.invokevirtual 93, 3) := by decide +kernel
theorem d_mo_holds_42 : decode bc_mo_holds 42 = .ok (.ifCond .ne 11, 3) := by decide +kernel
theorem d_mo_holds_45 : decode bc_mo_holds 45 = .ok (.aload_n 0, 1) := by decide +kernel
theorem d_mo_holds_46 : decode bc_mo_holds 46 = .ok (.iconst 4, 1) := by decide +kernel
theorem d_mo_holds_47 : decode bc_mo_holds 47 = .ok (.invokevirtual 93, 3) := by decide +kernel
theorem d_mo_holds_50 : decode bc_mo_holds 50 = .ok (.ifCond .eq 7, 3) := by decide +kernel
theorem d_mo_holds_53 : decode bc_mo_holds 53 = .ok (.iconst 1, 1) := by decide +kernel
theorem d_mo_holds_54 : decode bc_mo_holds 54 = .ok (.goto 87, 3) := by decide +kernel
theorem d_mo_holds_57 : decode bc_mo_holds 57 = .ok (.iconst 0, 1) := by decide +kernel
theorem d_mo_holds_58 : decode bc_mo_holds 58 = .ok (.goto 83, 3) := by decide +kernel
theorem d_mo_holds_61 : decode bc_mo_holds 61 = .ok (.iload_n 3, 1) := by decide +kernel
theorem d_mo_holds_62 : decode bc_mo_holds 62 = .ok (.iconst 2, 1) := by decide +kernel
theorem d_mo_holds_63 : decode bc_mo_holds 63 = .ok (.if_icmp .ne 11, 3) := by decide +kernel
theorem d_mo_holds_66 : decode bc_mo_holds 66 = .ok (.aload_n 0, 1) := by decide +kernel
theorem d_mo_holds_67 : decode bc_mo_holds 67 = .ok (.iconst 1, 1) := by decide +kernel
theorem d_mo_holds_68 : decode bc_mo_holds 68 = .ok (.invokevirtual 93, 3) := by decide +kernel
theorem d_mo_holds_71 : decode bc_mo_holds 71 = .ok (.goto 70, 3) := by decide +kernel
theorem d_mo_holds_74 : decode bc_mo_holds 74 = .ok (.iload_n 3, 1) := by decide +kernel
theorem d_mo_holds_75 : decode bc_mo_holds 75 = .ok (.iconst 3, 1) := by decide +kernel
theorem d_mo_holds_76 : decode bc_mo_holds 76 = .ok (.if_icmp .ne 11, 3) := by decide +kernel
theorem d_mo_holds_79 : decode bc_mo_holds 79 = .ok (.aload_n 0, 1) := by decide +kernel
theorem d_mo_holds_80 : decode bc_mo_holds 80 = .ok (.iconst 4, 1) := by decide +kernel
theorem d_mo_holds_81 : decode bc_mo_holds 81 = .ok (.invokevirtual 93, 3) := by decide +kernel
theorem d_mo_holds_84 : decode bc_mo_holds 84 = .ok (.goto 57, 3) := by decide +kernel
theorem d_mo_holds_87 : decode bc_mo_holds 87 = .ok (.iload_n 3, 1) := by decide +kernel
theorem d_mo_holds_88 : decode bc_mo_holds 88 = .ok (.iconst 4, 1) := by decide +kernel
theorem d_mo_holds_89 : decode bc_mo_holds 89 = .ok (.if_icmp .ne 11, 3) := by decide +kernel
theorem d_mo_holds_92 : decode bc_mo_holds 92 = .ok (.aload_n 0, 1) := by decide +kernel
theorem d_mo_holds_93 : decode bc_mo_holds 93 = .ok (.iconst 2, 1) := by decide +kernel
theorem d_mo_holds_94 : decode bc_mo_holds 94 = .ok (.invokevirtual 93, 3) := by decide +kernel
theorem d_mo_holds_97 : decode bc_mo_holds 97 = .ok (.goto 44, 3) := by decide +kernel
theorem d_mo_holds_100 : decode bc_mo_holds 100 = .ok (.iload_n 3, 1) := by decide +kernel
theorem d_mo_holds_101 : decode bc_mo_holds 101 = .ok (.iconst 5, 1) := by decide +kernel
theorem d_mo_holds_102 : decode bc_mo_holds 102 = .ok (.if_icmp .ne 12, 3) := by decide +kernel
theorem d_mo_holds_105 : decode bc_mo_holds 105 = .ok (.aload_n 0, 1) := by decide +kernel
theorem d_mo_holds_106 : decode bc_mo_holds 106 = .ok (.bipush 8, 2) := by decide +kernel
theorem d_mo_holds_108 : decode bc_mo_holds 108 = .ok (.invokevirtual 93, 3) := by decide +kernel
theorem d_mo_holds_111 : decode bc_mo_holds 111 = .ok (.goto 30, 3) := by decide +kernel
theorem d_mo_holds_114 : decode bc_mo_holds 114 = .ok (.iload_n 3, 1) := by decide +kernel
theorem d_mo_holds_115 : decode bc_mo_holds 115 = .ok (.bipush 6, 2) := by decide +kernel
theorem d_mo_holds_117 : decode bc_mo_holds 117 = .ok (.if_icmp .ne 7, 3) := by decide +kernel
theorem d_mo_holds_120 : decode bc_mo_holds 120 = .ok (.iload_n 2, 1) := by decide +kernel
theorem d_mo_holds_121 : decode bc_mo_holds 121 = .ok (.goto 20, 3) := by decide +kernel
theorem d_mo_holds_124 : decode bc_mo_holds 124 = .ok (.aload_n 0, 1) := by decide +kernel
theorem d_mo_holds_125 : decode bc_mo_holds 125 = .ok (.iconst 4, 1) := by decide +kernel
theorem d_mo_holds_126 : decode bc_mo_holds 126 = .ok (.invokevirtual 93, 3) := by decide +kernel
theorem d_mo_holds_129 : decode bc_mo_holds 129 = .ok (.ifCond .ne 7, 3) := by decide +kernel
theorem d_mo_holds_132 : decode bc_mo_holds 132 = .ok (.iload_n 2, 1) := by decide +kernel
theorem d_mo_holds_133 : decode bc_mo_holds 133 = .ok (.ifCond .eq 7, 3) := by decide +kernel
theorem d_mo_holds_136 : decode bc_mo_holds 136 = .ok (.iconst 1, 1) := by decide +kernel
theorem d_mo_holds_137 : decode bc_mo_holds 137 = .ok (.goto 4, 3) := by decide +kernel
theorem d_mo_holds_140 : decode bc_mo_holds 140 = .ok (.iconst 0, 1) := by decide +kernel
theorem d_mo_holds_141 : decode bc_mo_holds 141 = .ok (.istore 4, 2) := by decide +kernel
theorem d_mo_holds_143 : decode bc_mo_holds 143 = .ok (.iload 4, 2) := by decide +kernel
theorem d_mo_holds_145 : decode bc_mo_holds 145 = .ok (.iload_n 1, 1) := by decide +kernel
theorem d_mo_holds_146 : decode bc_mo_holds 146 = .ok (.iconst 1, 1) := by decide +kernel
theorem d_mo_holds_147 : decode bc_mo_holds 147 = .ok (.iand, 1) := by decide +kernel
theorem d_mo_holds_148 : decode bc_mo_holds 148 = .ok (.iconst 1, 1) := by decide +kernel
theorem d_mo_holds_149 : decode bc_mo_holds 149 = .ok (.if_icmp .ne 7, 3) := by decide +kernel
theorem d_mo_holds_152 : decode bc_mo_holds 152 = .ok (.iconst 1, 1) := by decide +kernel
theorem d_mo_holds_153 : decode bc_mo_holds 153 = .ok (.goto 4, 3) := by decide +kernel
theorem d_mo_holds_156 : decode bc_mo_holds 156 = .ok (.iconst 0, 1) := by decide +kernel
theorem d_mo_holds_157 : decode bc_mo_holds 157 = .ok (.if_icmp .ne 7, 3) := by decide +kernel
theorem d_mo_holds_160 : decode bc_mo_holds 160 = .ok (.iconst 1, 1) := by decide +kernel
theorem d_mo_holds_161 : decode bc_mo_holds 161 = .ok (.goto 4, 3) := by decide +kernel
theorem d_mo_holds_164 : decode bc_mo_holds 164 = .ok (.iconst 0, 1) := by decide +kernel
theorem d_mo_holds_165 : decode bc_mo_holds 165 = .ok (.ireturn, 1) := by decide +kernel
theorem d_mo_branch_0 : decode bc_mo_branch 0 = .ok (.iload_n 2, 1) := by decide +kernel
theorem d_mo_branch_1 : decode bc_mo_branch 1 = .ok (.ifCond .eq 10, 3) := by decide +kernel
theorem d_mo_branch_4 : decode bc_mo_branch 4 = .ok (.aload_n 0, 1) := by decide +kernel
theorem d_mo_branch_5 : decode bc_mo_branch 5 = .ok (.invokevirtual 63, 3) := by decide +kernel
theorem d_mo_branch_8 : decode bc_mo_branch 8 = .ok (.goto 10, 3) := by decide +kernel
theorem d_mo_branch_11 : decode bc_mo_branch 11 = .ok (.aload_n 0, 1) := by decide +kernel
theorem d_mo_branch_12 : decode bc_mo_branch 12 = .ok (.invokevirtual 31, 3) := by decide +kernel
theorem d_mo_branch_15 : decode bc_mo_branch 15 = .ok (.invokestatic 60, 3) := by decide +kernel
theorem d_mo_branch_18 : decode bc_mo_branch 18 = .ok (.istore_n 3, 1) := by decide +kernel
theorem d_mo_branch_19 : decode bc_mo_branch 19 = .ok (.iload_n 1, 1) := by decide +kernel
theorem d_mo_branch_20 : decode bc_mo_branch 20 = .ok (.ifCond .eq 16, 3) := by decide +kernel
theorem d_mo_branch_23 : decode bc_mo_branch 23 = .ok (.iload_n 1, 1) := by decide +kernel
theorem d_mo_branch_24 : decode bc_mo_branch 24 = .ok (.iconst 1, 1) := by decide +kernel
theorem d_mo_branch_25 : decode bc_mo_branch 25 = .ok (.if_icmp .le 30, 3) := by decide +kernel
theorem d_mo_branch_28 : decode bc_mo_branch 28 = .ok (.aload_n 0, 1) := by decide +kernel
theorem d_mo_branch_29 : decode bc_mo_branch 29 = .ok (.iload_n 1, 1) := by decide +kernel
theorem d_mo_branch_30 : decode bc_mo_branch 30 = .ok (.invokevirtual 143, 3) := by decide +kernel
theorem d_mo_branch_33 : decode bc_mo_branch 33 = .ok (.ifCond .eq 22, 3) := by decide +kernel
theorem d_mo_branch_36 : decode bc_mo_branch 36 = .ok (.aload_n 0, 1) := by decide +kernel
theorem d_mo_branch_37 : decode bc_mo_branch 37 = .ok (.getfield 13, 3) := by decide +kernel
theorem d_mo_branch_40 : decode bc_mo_branch 40 = .ok (.bipush 6, 2) := by decide +kernel
theorem d_mo_branch_42 : decode bc_mo_branch 42 = .ok (.aload_n 0, 1) := by decide +kernel
theorem d_mo_branch_43 : decode bc_mo_branch 43 = .ok (.getfield 13, 3) := by decide +kernel
theorem d_mo_branch_46 : decode bc_mo_branch 46 = .ok (.bipush 6, 2) := by decide +kernel
theorem d_mo_branch_48 : decode bc_mo_branch 48 = .ok (.iaload, 1) := by decide +kernel
theorem d_mo_branch_49 : decode bc_mo_branch 49 = .ok (.iload_n 3, 1) := by decide +kernel
theorem d_mo_branch_50 : decode bc_mo_branch 50 = .ok (.iadd, 1) := by decide +kernel
theorem d_mo_branch_51 : decode bc_mo_branch 51 = .ok (.ldc 30, 2) := by decide +kernel
theorem d_mo_branch_53 : decode bc_mo_branch 53 = .ok (.iand, 1) := by decide +kernel
theorem d_mo_branch_54 : decode bc_mo_branch 54 = .ok (.iastore, 1) := by decide +kernel
theorem d_mo_branch_55 : decode bc_mo_branch 55 = .ok (.return_, 1) := by decide +kernel
theorem d_mo_adjust_0 : decode bc_mo_adjust 0 = .ok (.aload_n 0, 1) := by decide +kernel
theorem d_mo_adjust_1 : decode bc_mo_adjust 1 = .ok (.getfield 13, 3) := by decide +kernel
theorem d_mo_adjust_4 : decode bc_mo_adjust 4 = .ok (.iconst 0, 1) := by decide +kernel
theorem d_mo_adjust_5 : decode bc_mo_adjust 5 = .ok (.iaload, 1) := by decide +kernel
theorem d_mo_adjust_6 : decode bc_mo_adjust 6 = .ok (.bipush 15, 2) := by decide +kernel
theorem d_mo_adjust_8 : decode bc_mo_adjust 8 = .ok (.iand, 1) := by decide +kernel
theorem d_mo_adjust_9 : decode bc_mo_adjust 9 = .ok (.istore_n 1, 1) := by decide +kernel
theorem d_mo_adjust_10 : decode bc_mo_adjust 10 = .ok (.aload_n 0, 1) := by decide +kernel
theorem d_mo_adjust_11 : decode bc_mo_adjust 11 = .ok (.getfield 13, 3) := by decide +kernel
theorem d_mo_adjust_14 : decode bc_mo_adjust 14 = .ok (.iconst 0, 1) := by decide +kernel
theorem d_mo_adjust_15 : decode bc_mo_adjust 15 = .ok (.iaload, 1) := by decide +kernel
theorem d_mo_adjust_16 : decode bc_mo_adjust 16 = .ok (.iconst 4, 1) := by decide +kernel
theorem d_mo_adjust_17 : decode bc_mo_adjust 17 = .ok (.ishr, 1) := by decide +kernel
theorem d_mo_adjust_18 : decode bc_mo_adjust 18 = .ok (.istore_n 2, 1) := by decide +kernel
theorem d_mo_adjust_19 : decode bc_mo_adjust 19 = .ok (.aload_n 0, 1) := by decide +kernel
theorem d_mo_adjust_20 : decode bc_mo_adjust 20 = .ok (.bipush 32, 2) := by decide +kernel
theorem d_mo_adjust_22 : decode bc_mo_adjust 22 = .ok (.invokevirtual 93, 3) := by decide +kernel
theorem d_mo_adjust_25 : decode bc_mo_adjust 25 = .ok (.ifCond .ne 9, 3) := by decide +kernel
theorem d_mo_adjust_28 : decode bc_mo_adjust 28 = .ok (.iload_n 1, 1) := by decide +kernel
theorem d_mo_adjust_29 : decode bc_mo_adjust 29 = .ok (.bipush 9, 2) := by decide +kernel
theorem d_mo_adjust_31 : decode bc_mo_adjust 31 = .ok (.if_icmp .le 8, 3) := by decide +kernel
theorem d_mo_adjust_34 : decode bc_mo_adjust 34 = .ok (.bipush 6, 2) := by decide +kernel
theorem d_mo_adjust_36 : decode bc_mo_adjust 36 = .ok (.goto 4, 3) := by decide +kernel
theorem d_mo_adjust_39 : decode bc_mo_adjust 39 = .ok (.iconst 0, 1) := by decide +kernel
theorem d_mo_adjust_40 : decode bc_mo_adjust 40 = .ok (.istore_n 3, 1) := by decide +kernel
theorem d_mo_adjust_41 : decode bc_mo_adjust 41 = .ok (.aload_n 0, 1) := by decide +kernel
theorem d_mo_adjust_42 : decode bc_mo_adjust 42 = .ok (.iconst 1, 1) := by decide +kernel
theorem d_mo_adjust_43 : decode bc_mo_adjust 43 = .ok (.invokevirtual 93, 3) := by decide +kernel
end
section
theorem d_mo_adjust_46 : decode bc_mo_adjust 46 = .ok (.ifCond .ne 21, 3) := by decide +kernel
theorem d_mo_adjust_49 : decode bc_mo_adjust 49 = .ok (.iload_n 2, 1) := by decide +kernel
theorem d_mo_adjust_50 : decode bc_mo_adjust 50 = .ok (.bipush 9, 2) := by decide +kernel
theorem d_mo_adjust_52 : decode bc_mo_adjust 52 = .ok (.if_icmp .gt 15, 3) := by decide +kernel
theorem d_mo_adjust_55 : decode bc_mo_adjust 55 = .ok (.iload_n 2, 1) := by decide +kernel
theorem d_mo_adjust_56 : decode bc_mo_adjust 56 = .ok (.bipush 8, 2) := by decide +kernel
theorem d_mo_adjust_58 : decode bc_mo_adjust 58 = .ok (.if_icmp .le 16, 3) := by decide +kernel
theorem d_mo_adjust_61 : decode bc_mo_adjust 61 = .ok (.iload_n 1, 1) := by decide +kernel
theorem d_mo_adjust_62 : decode bc_mo_adjust 62 = .ok (.bipush 9, 2) := by decide +kernel
theorem d_mo_adjust_64 : decode bc_mo_adjust 64 = .ok (.if_icmp .le 10, 3) := by decide +kernel
theorem d_mo_adjust_67 : decode bc_mo_adjust 67 = .ok (.iload_n 3, 1) := by decide +kernel
theorem d_mo_adjust_68 : decode bc_mo_adjust 68 = .ok (.bipush 96, 2) := by decide +kernel
theorem d_mo_adjust_70 : decode bc_mo_adjust 70 = .ok (.iadd, 1) := by decide +kernel
theorem d_mo_adjust_71 : decode bc_mo_adjust 71 = .ok (.goto 4, 3) := by decide +kernel
theorem d_mo_adjust_74 : decode bc_mo_adjust 74 = .ok (.iload_n 3, 1) := by decide +kernel
theorem d_mo_adjust_75 : decode bc_mo_adjust 75 = .ok (.istore_n 3, 1) := by decide +kernel
theorem d_mo_adjust_76 : decode bc_mo_adjust 76 = .ok (.aload_n 0, 1) := by decide +kernel
theorem d_mo_adjust_77 : decode bc_mo_adjust 77 = .ok (.getfield 13, 3) := by decide +kernel
theorem d_mo_adjust_80 : decode bc_mo_adjust 80 = .ok (.iconst 0, 1) := by decide +kernel
theorem d_mo_adjust_81 : decode bc_mo_adjust 81 = .ok (.iaload, 1) := by decide +kernel
theorem d_mo_adjust_82 : decode bc_mo_adjust 82 = .ok (.iload_n 3, 1) := by decide +kernel
theorem d_mo_adjust_83 : decode bc_mo_adjust 83 = .ok (.iadd, 1) := by decide +kernel
theorem d_mo_adjust_84 : decode bc_mo_adjust 84 = .ok (.istore 4, 2) := by decide +kernel
theorem d_mo_adjust_86 : decode bc_mo_adjust 86 = .ok (.aload_n 0, 1) := by decide +kernel
theorem d_mo_adjust_87 : decode bc_mo_adjust 87 = .ok (.iconst 1, 1) := by decide +kernel
theorem d_mo_adjust_88 : decode bc_mo_adjust 88 = .ok (.aload_n 0, 1) := by decide +kernel
theorem d_mo_adjust_89 : decode bc_mo_adjust 89 = .ok (.iconst 1, 1) := by decide +kernel
theorem d_mo_adjust_90 : decode bc_mo_adjust 90 = .ok (.invokevirtual 93, 3) := by decide +kernel
theorem d_mo_adjust_93 : decode bc_mo_adjust 93 = .ok (.ifCond .ne 11, 3) := by decide +kernel
theorem d_mo_adjust_96 : decode bc_mo_adjust 96 = .ok (.iload 4, 2) := by decide +kernel
theorem d_mo_adjust_98 : decode bc_mo_adjust 98 = .ok (.sipush 255, 3) := by decide +kernel
theorem d_mo_adjust_101 : decode bc_mo_adjust 101 = .ok (.if_icmp .le 7, 3) := by decide +kernel
theorem d_mo_adjust_104 : decode bc_mo_adjust 104 = .ok (.iconst 1, 1) := by decide +kernel
theorem d_mo_adjust_105 : decode bc_mo_adjust 105 = .ok (.goto 4, 3) := by decide +kernel
theorem d_mo_adjust_108 : decode bc_mo_adjust 108 = .ok (.iconst 0, 1) := by decide +kernel
theorem d_mo_adjust_109 : decode bc_mo_adjust 109 = .ok (.invokevirtual 36, 3) := by decide +kernel
theorem d_mo_adjust_112 : decode bc_mo_adjust 112 = .ok (.aload_n 0, 1) := by decide +kernel
theorem d_mo_adjust_113 : decode bc_mo_adjust 113 = .ok (.getfield 13, 3) := by decide +kernel
theorem d_mo_adjust_116 : decode bc_mo_adjust 116 = .ok (.iconst 0, 1) := by decide +kernel
theorem d_mo_adjust_117 : decode bc_mo_adjust 117 = .ok (.iload 4, 2) := by decide +kernel
theorem d_mo_adjust_119 : decode bc_mo_adjust 119 = .ok (.sipush 255, 3) := by decide +kernel
theorem d_mo_adjust_122 : decode bc_mo_adjust 122 = .ok (.iand, 1) := by decide +kernel
theorem d_mo_adjust_123 : decode bc_mo_adjust 123 = .ok (.iastore, 1) := by decide +kernel
theorem d_mo_adjust_124 : decode bc_mo_adjust 124 = .ok (.aload_n 0, 1) := by decide +kernel
theorem d_mo_adjust_125 : decode bc_mo_adjust 125 = .ok (.aload_n 0, 1) := by decide +kernel
theorem d_mo_adjust_126 : decode bc_mo_adjust 126 = .ok (.getfield 13, 3) := by decide +kernel
theorem d_mo_adjust_129 : decode bc_mo_adjust 129 = .ok (.iconst 0, 1) := by decide +kernel
theorem d_mo_adjust_130 : decode bc_mo_adjust 130 = .ok (.iaload, 1) := by decide +kernel
theorem d_mo_adjust_131 : decode bc_mo_adjust 131 = .ok (.iconst 0, 1) := by decide +kernel
theorem d_mo_adjust_132 : decode bc_mo_adjust 132 = .ok (.invokevirtual 40, 3) := by decide +kernel
theorem d_mo_adjust_135 : decode bc_mo_adjust 135 = .ok (.return_, 1) := by decide +kernel
theorem d_mo_named_0 : decode bc_mo_named 0 = .ok (.iload_n 0, 1) := by decide +kernel
theorem d_mo_named_1 : decode bc_mo_named 1 = .ok (.ifCond .ne 7, 3) := by decide +kernel
theorem d_mo_named_4 : decode bc_mo_named 4 = .ok (.iconst (-1), 1) := by decide +kernel
theorem d_mo_named_5 : decode bc_mo_named 5 = .ok (.goto 75, 3) := by decide +kernel
theorem d_mo_named_8 : decode bc_mo_named 8 = .ok (.iload_n 0, 1) := by decide +kernel
theorem d_mo_named_9 : decode bc_mo_named 9 = .ok (.iconst 5, 1) := by decide +kernel
theorem d_mo_named_10 : decode bc_mo_named 10 = .ok (.if_icmp .gt 20, 3) := by decide +kernel
theorem d_mo_named_13 : decode bc_mo_named 13 = .ok (.iload_n 0, 1) := by decide +kernel
theorem d_mo_named_14 : decode bc_mo_named 14 = .ok (.iconst 1, 1) := by decide +kernel
theorem d_mo_named_15 : decode bc_mo_named 15 = .ok (.iadd, 1) := by decide +kernel
theorem d_mo_named_16 : decode bc_mo_named 16 = .ok (.iload_n 0, 1) := by decide +kernel
theorem d_mo_named_17 : decode bc_mo_named 17 = .ok (.iconst 5, 1) := by decide +kernel
theorem d_mo_named_18 : decode bc_mo_named 18 = .ok (.if_icmp .le 7, 3) := by decide +kernel
theorem d_mo_named_21 : decode bc_mo_named 21 = .ok (.iconst 1, 1) := by decide +kernel
theorem d_mo_named_22 : decode bc_mo_named 22 = .ok (.goto 4, 3) := by decide +kernel
theorem d_mo_named_25 : decode bc_mo_named 25 = .ok (.iconst 0, 1) := by decide +kernel
theorem d_mo_named_26 : decode bc_mo_named 26 = .ok (.isub, 1) := by decide +kernel
theorem d_mo_named_27 : decode bc_mo_named 27 = .ok (.goto 53, 3) := by decide +kernel
theorem d_mo_named_30 : decode bc_mo_named 30 = .ok (.iload_n 0, 1) := by decide +kernel
theorem d_mo_named_31 : decode bc_mo_named 31 = .ok (.bipush 8, 2) := by decide +kernel
theorem d_mo_named_33 : decode bc_mo_named 33 = .ok (.if_icmp .lt 45, 3) := by decide +kernel
theorem d_mo_named_36 : decode bc_mo_named 36 = .ok (.iload_n 0, 1) := by decide +kernel
theorem d_mo_named_37 : decode bc_mo_named 37 = .ok (.bipush 11, 2) := by decide +kernel
theorem d_mo_named_39 : decode bc_mo_named 39 = .ok (.if_icmp .gt 39, 3) := by decide +kernel
theorem d_mo_named_42 : decode bc_mo_named 42 = .ok (.iload_n 0, 1) := by decide +kernel
theorem d_mo_named_43 : decode bc_mo_named 43 = .ok (.bipush 8, 2) := by decide +kernel
theorem d_mo_named_45 : decode bc_mo_named 45 = .ok (.if_icmp .ne 7, 3) := by decide +kernel
theorem d_mo_named_48 : decode bc_mo_named 48 = .ok (.iconst 0, 1) := by decide +kernel
theorem d_mo_named_49 : decode bc_mo_named 49 = .ok (.goto 31, 3) := by decide +kernel
theorem d_mo_named_52 : decode bc_mo_named 52 = .ok (.iload_n 0, 1) := by decide +kernel
theorem d_mo_named_53 : decode bc_mo_named 53 = .ok (.bipush 9, 2) := by decide +kernel
theorem d_mo_named_55 : decode bc_mo_named 55 = .ok (.if_icmp .ne 7, 3) := by decide +kernel
theorem d_mo_named_58 : decode bc_mo_named 58 = .ok (.iconst 1, 1) := by decide +kernel
theorem d_mo_named_59 : decode bc_mo_named 59 = .ok (.goto 21, 3) := by decide +kernel
theorem d_mo_named_62 : decode bc_mo_named 62 = .ok (.iload_n 0, 1) := by decide +kernel
theorem d_mo_named_63 : decode bc_mo_named 63 = .ok (.bipush 10, 2) := by decide +kernel
theorem d_mo_named_65 : decode bc_mo_named 65 = .ok (.if_icmp .ne 8, 3) := by decide +kernel
theorem d_mo_named_68 : decode bc_mo_named 68 = .ok (.bipush 8, 2) := by decide +kernel
theorem d_mo_named_70 : decode bc_mo_named 70 = .ok (.goto 10, 3) := by decide +kernel
theorem d_mo_named_73 : decode bc_mo_named 73 = .ok (.bipush 7, 2) := by decide +kernel
theorem d_mo_named_75 : decode bc_mo_named 75 = .ok (.goto 5, 3) := by decide +kernel
theorem d_mo_named_78 : decode bc_mo_named 78 = .ok (.bipush (-2), 2) := by decide +kernel
theorem d_mo_named_80 : decode bc_mo_named 80 = .ok (.ireturn, 1) := by decide +kernel
theorem d_mo_get_0 : decode bc_mo_get 0 = .ok (.iload_n 1, 1) := by decide +kernel
theorem d_mo_get_1 : decode bc_mo_get 1 = .ok (.ifCond .ge 10, 3) := by decide +kernel
theorem d_mo_get_4 : decode bc_mo_get 4 = .ok (.aload_n 0, 1) := by decide +kernel
theorem d_mo_get_5 : decode bc_mo_get 5 = .ok (.invokevirtual 66, 3) := by decide +kernel
theorem d_mo_get_8 : decode bc_mo_get 8 = .ok (.goto 9, 3) := by decide +kernel
theorem d_mo_get_11 : decode bc_mo_get 11 = .ok (.aload_n 0, 1) := by decide +kernel
theorem d_mo_get_12 : decode bc_mo_get 12 = .ok (.getfield 13, 3) := by decide +kernel
theorem d_mo_get_15 : decode bc_mo_get 15 = .ok (.iload_n 1, 1) := by decide +kernel
theorem d_mo_get_16 : decode bc_mo_get 16 = .ok (.iaload, 1) := by decide +kernel
theorem d_mo_get_17 : decode bc_mo_get 17 = .ok (.ireturn, 1) := by decide +kernel
theorem d_mo_set_0 : decode bc_mo_set 0 = .ok (.iload_n 1, 1) := by decide +kernel
theorem d_mo_set_1 : decode bc_mo_set 1 = .ok (.ifCond .ge 11, 3) := by decide +kernel
theorem d_mo_set_4 : decode bc_mo_set 4 = .ok (.aload_n 0, 1) := by decide +kernel
theorem d_mo_set_5 : decode bc_mo_set 5 = .ok (.iload_n 2, 1) := by decide +kernel
theorem d_mo_set_6 : decode bc_mo_set 6 = .ok (.invokevirtual 117, 3) := by decide +kernel
theorem d_mo_set_9 : decode bc_mo_set 9 = .ok (.goto 10, 3) := by decide +kernel
theorem d_mo_set_12 : decode bc_mo_set 12 = .ok (.aload_n 0, 1) := by decide +kernel
theorem d_mo_set_13 : decode bc_mo_set 13 = .ok (.getfield 13, 3) := by decide +kernel
theorem d_mo_set_16 : decode bc_mo_set 16 = .ok (.iload_n 1, 1) := by decide +kernel
theorem d_mo_set_17 : decode bc_mo_set 17 = .ok (.iload_n 2, 1) := by decide +kernel
theorem d_mo_set_18 : decode bc_mo_set 18 = .ok (.iastore, 1) := by decide +kernel
theorem d_mo_set_19 : decode bc_mo_set 19 = .ok (.aload_n 0, 1) := by decide +kernel
theorem d_mo_set_20 : decode bc_mo_set 20 = .ok (.aload_n 0, 1) := by decide +kernel
theorem d_mo_set_21 : decode bc_mo_set 21 = .ok (.getfield 90, 3) := by decide +kernel
theorem d_mo_set_24 : decode bc_mo_set 24 = .ok (.ifCond .ne 8, 3) := by decide +kernel
theorem d_mo_set_27 : decode bc_mo_set 27 = .ok (.iload_n 1, 1) := by decide +kernel
theorem d_mo_set_28 : decode bc_mo_set 28 = .ok (.iconst 5, 1) := by decide +kernel
theorem d_mo_set_29 : decode bc_mo_set 29 = .ok (.if_icmp .ne 7, 3) := by decide +kernel
theorem d_mo_set_32 : decode bc_mo_set 32 = .ok (.iconst 1, 1) := by decide +kernel
theorem d_mo_set_33 : decode bc_mo_set 33 = .ok (.goto 4, 3) := by decide +kernel
theorem d_mo_set_36 : decode bc_mo_set 36 = .ok (.iconst 0, 1) := by decide +kernel
theorem d_mo_set_37 : decode bc_mo_set 37 = .ok (.putfield 90, 3) := by decide +kernel
theorem d_mo_set_40 : decode bc_mo_set 40 = .ok (.return_, 1) := by decide +kernel
theorem d_mo_exchange_0 : decode bc_mo_exchange 0 = .ok (.aload_n 0, 1) := by decide +kernel
theorem d_mo_exchange_1 : decode bc_mo_exchange 1 = .ok (.invokevirtual 31, 3) := by decide +kernel
theorem d_mo_exchange_4 : decode bc_mo_exchange 4 = .ok (.istore_n 2, 1) := by decide +kernel
theorem d_mo_exchange_5 : decode bc_mo_exchange 5 = .ok (.iload_n 2, 1) := by decide +kernel
theorem d_mo_exchange_6 : decode bc_mo_exchange 6 = .ok (.iconst 4, 1) := by decide +kernel
theorem d_mo_exchange_7 : decode bc_mo_exchange 7 = .ok (.ishr, 1) := by decide +kernel
theorem d_mo_exchange_8 : decode bc_mo_exchange 8 = .ok (.invokestatic 146, 3) := by decide +kernel
theorem d_mo_exchange_11 : decode bc_mo_exchange 11 = .ok (.istore_n 3, 1) := by decide +kernel
theorem d_mo_exchange_12 : decode bc_mo_exchange 12 = .ok (.iload_n 2, 1) := by decide +kernel
theorem d_mo_exchange_13 : decode bc_mo_exchange 13 = .ok (.bipush 15, 2) := by decide +kernel
theorem d_mo_exchange_15 : decode bc_mo_exchange 15 = .ok (.iand, 1) := by decide +kernel
theorem d_mo_exchange_16 : decode bc_mo_exchange 16 = .ok (.invokestatic 146, 3) := by decide +kernel
theorem d_mo_exchange_19 : decode bc_mo_exchange 19 = .ok (.istore 4, 2) := by decide +kernel
theorem d_mo_exchange_21 : decode bc_mo_exchange 21 = .ok (.iload_n 3, 1) := by decide +kernel
theorem d_mo_exchange_22 : decode bc_mo_exchange 22 = .ok (.iconst (-1), 1) := by decide +kernel
theorem d_mo_exchange_23 : decode bc_mo_exchange 23 = .ok (.if_icmp .eq 13, 3) := by decide +kernel
theorem d_mo_exchange_26 : decode bc_mo_exchange 26 = .ok (.iload_n 3, 1) := by decide +kernel
theorem d_mo_exchange_27 : decode bc_mo_exchange 27 = .ok (.iconst 2, 1) := by decide +kernel
theorem d_mo_exchange_28 : decode bc_mo_exchange 28 = .ok (.bipush 6, 2) := by decide +kernel
theorem d_mo_exchange_30 : decode bc_mo_exchange 30 = .ok (.invokestatic 44, 3) := by decide +kernel
theorem d_mo_exchange_33 : decode bc_mo_exchange 33 = .ok (.ifCond .eq 7, 3) := by decide +kernel
theorem d_mo_exchange_36 : decode bc_mo_exchange 36 = .ok (.iconst 1, 1) := by decide +kernel
theorem d_mo_exchange_37 : decode bc_mo_exchange 37 = .ok (.goto 4, 3) := by decide +kernel
theorem d_mo_exchange_40 : decode bc_mo_exchange 40 = .ok (.iconst 0, 1) := by decide +kernel
theorem d_mo_exchange_41 : decode bc_mo_exchange 41 = .ok (.istore 5, 2) := by decide +kernel
theorem d_mo_exchange_43 : decode bc_mo_exchange 43 = .ok (.iload 4, 2) := by decide +kernel
theorem d_mo_exchange_45 : decode bc_mo_exchange 45 = .ok (.iconst (-1), 1) := by decide +kernel
theorem d_mo_exchange_46 : decode bc_mo_exchange 46 = .ok (.if_icmp .eq 14, 3) := by decide +kernel
theorem d_mo_exchange_49 : decode bc_mo_exchange 49 = .ok (.iload 4, 2) := by decide +kernel
theorem d_mo_exchange_51 : decode bc_mo_exchange 51 = .ok (.iconst 2, 1) := by decide +kernel
theorem d_mo_exchange_52 : decode bc_mo_exchange 52 = .ok (.bipush 6, 2) := by decide +kernel
theorem d_mo_exchange_54 : decode bc_mo_exchange 54 = .ok (.invokestatic 44, 3) := by decide +kernel
theorem d_mo_exchange_57 : decode bc_mo_exchange 57 = .ok (.ifCond .eq 7, 3) := by decide +kernel
theorem d_mo_exchange_60 : decode bc_mo_exchange 60 = .ok (.iconst 1, 1) := by decide +kernel
theorem d_mo_exchange_61 : decode bc_mo_exchange 61 = .ok (.goto 4, 3) := by decide +kernel
theorem d_mo_exchange_64 : decode bc_mo_exchange 64 = .ok (.iconst 0, 1) := by decide +kernel
theorem d_mo_exchange_65 : decode bc_mo_exchange 65 = .ok (.istore 6, 2) := by decide +kernel
theorem d_mo_exchange_67 : decode bc_mo_exchange 67 = .ok (.aload_n 0, 1) := by decide +kernel
theorem d_mo_exchange_68 : decode bc_mo_exchange 68 = .ok (.iload_n 3, 1) := by decide +kernel
theorem d_mo_exchange_69 : decode bc_mo_exchange 69 = .ok (.bipush (-2), 2) := by decide +kernel
theorem d_mo_exchange_71 : decode bc_mo_exchange 71 = .ok (.if_icmp .eq 17, 3) := by decide +kernel
theorem d_mo_exchange_74 : decode bc_mo_exchange 74 = .ok (.iload 4, 2) := by decide +kernel
theorem d_mo_exchange_76 : decode bc_mo_exchange 76 = .ok (.bipush (-2), 2) := by decide +kernel
theorem d_mo_exchange_78 : decode bc_mo_exchange 78 = .ok (.if_icmp .eq 10, 3) := by decide +kernel
theorem d_mo_exchange_81 : decode bc_mo_exchange 81 = .ok (.iload 5, 2) := by decide +kernel
theorem d_mo_exchange_83 : decode bc_mo_exchange 83 = .ok (.iload 6, 2) := by decide +kernel
theorem d_mo_exchange_85 : decode bc_mo_exchange 85 = .ok (.if_icmp .eq 7, 3) := by decide +kernel
theorem d_mo_exchange_88 : decode bc_mo_exchange 88 = .ok (.iconst 1, 1) := by decide +kernel
theorem d_mo_exchange_89 : decode bc_mo_exchange 89 = .ok (.goto 4, 3) := by decide +kernel
theorem d_mo_exchange_92 : decode bc_mo_exchange 92 = .ok (.iconst 0, 1) := by decide +kernel
theorem d_mo_exchange_93 : decode bc_mo_exchange 93 = .ok (.putfield 56, 3) := by decide +kernel
theorem d_mo_exchange_96 : decode bc_mo_exchange 96 = .ok (.aload_n 0, 1) := by decide +kernel
theorem d_mo_exchange_97 : decode bc_mo_exchange 97 = .ok (.getfield 56, 3) := by decide +kernel
theorem d_mo_exchange_100 : decode bc_mo_exchange 100 = .ok (.ifCond .eq 4, 3) := by decide +kernel
theorem d_mo_exchange_103 : decode bc_mo_exchange 103 = .ok (.return_, 1) := by decide +kernel
theorem d_mo_exchange_104 : decode bc_mo_exchange 104 = .ok (.aload_n 0, 1) := by decide +kernel
theorem d_mo_exchange_105 : decode bc_mo_exchange 105 = .ok (.iload_n 3, 1) := by decide +kernel
theorem d_mo_exchange_106 : decode bc_mo_exchange 106 = .ok (.invokevirtual 149, 3) := by decide +kernel
theorem d_mo_exchange_109 : decode bc_mo_exchange 109 = .ok (.istore 7, 2) := by decide +kernel
theorem d_mo_exchange_111 : decode bc_mo_exchange 111 = .ok (.aload_n 0, 1) := by decide +kernel
theorem d_mo_exchange_112 : decode bc_mo_exchange 112 = .ok (.iload 4, 2) := by decide +kernel
theorem d_mo_exchange_114 : decode bc_mo_exchange 114 = .ok (.invokevirtual 149, 3) := by decide +kernel
theorem d_mo_exchange_117 : decode bc_mo_exchange 117 = .ok (.istore 8, 2) := by decide +kernel
theorem d_mo_exchange_119 : decode bc_mo_exchange 119 = .ok (.aload_n 0, 1) := by decide +kernel
theorem d_mo_exchange_120 : decode bc_mo_exchange 120 = .ok (.iload 4, 2) := by decide +kernel
theorem d_mo_exchange_122 : decode bc_mo_exchange 122 = .ok (.iload 7, 2) := by decide +kernel
theorem d_mo_exchange_124 : decode bc_mo_exchange 124 = .ok (.invokevirtual 152, 3) := by decide +kernel
theorem d_mo_exchange_127 : decode bc_mo_exchange 127 = .ok (.iload_n 1, 1) := by decide +kernel
theorem d_mo_exchange_128 : decode bc_mo_exchange 128 = .ok (.ifCond .eq 10, 3) := by decide +kernel
theorem d_mo_exchange_131 : decode bc_mo_exchange 131 = .ok (.aload_n 0, 1) := by decide +kernel
theorem d_mo_exchange_132 : decode bc_mo_exchange 132 = .ok (.iload_n 3, 1) := by decide +kernel
theorem d_mo_exchange_133 : decode bc_mo_exchange 133 = .ok (.iload 8, 2) := by decide +kernel
theorem d_mo_exchange_135 : decode bc_mo_exchange 135 = .ok (.invokevirtual 152, 3) := by decide +kernel
theorem d_mo_exchange_138 : decode bc_mo_exchange 138 = .ok (.return_, 1) := by decide +kernel
theorem d_mo_lea_0 : decode bc_mo_lea 0 = .ok (.aload_n 0, 1) := by decide +kernel
theorem d_mo_lea_1 : decode bc_mo_lea 1 = .ok (.invokevirtual 72, 3) := by decide +kernel
theorem d_mo_lea_4 : decode bc_mo_lea 4 = .ok (.istore_n 2, 1) := by decide +kernel
theorem d_mo_lea_5 : decode bc_mo_lea 5 = .ok (.aload_n 0, 1) := by decide +kernel
theorem d_mo_lea_6 : decode bc_mo_lea 6 = .ok (.getfield 56, 3) := by decide +kernel
theorem d_mo_lea_9 : decode bc_mo_lea 9 = .ok (.ifCond .eq 4, 3) := by decide +kernel
theorem d_mo_lea_12 : decode bc_mo_lea 12 = .ok (.return_, 1) := by decide +kernel
theorem d_mo_lea_13 : decode bc_mo_lea 13 = .ok (.aload_n 0, 1) := by decide +kernel
theorem d_mo_lea_14 : decode bc_mo_lea 14 = .ok (.getfield 13, 3) := by decide +kernel
theorem d_mo_lea_17 : decode bc_mo_lea 17 = .ok (.iload_n 1, 1) := by decide +kernel
theorem d_mo_lea_18 : decode bc_mo_lea 18 = .ok (.iload_n 2, 1) := by decide +kernel
theorem d_mo_lea_19 : decode bc_mo_lea 19 = .ok (.iastore, 1) := by decide +kernel
theorem d_mo_lea_20 : decode bc_mo_lea 20 = .ok (.iload_n 1, 1) := by decide +kernel
theorem d_mo_lea_21 : decode bc_mo_lea 21 = .ok (.iconst 2, 1) := by decide +kernel
theorem d_mo_lea_22 : decode bc_mo_lea 22 = .ok (.if_icmp .eq 8, 3) := by decide +kernel
theorem d_mo_lea_25 : decode bc_mo_lea 25 = .ok (.iload_n 1, 1) := by decide +kernel
theorem d_mo_lea_26 : decode bc_mo_lea 26 = .ok (.iconst 3, 1) := by decide +kernel
theorem d_mo_lea_27 : decode bc_mo_lea 27 = .ok (.if_icmp .ne 17, 3) := by decide +kernel
theorem d_mo_lea_30 : decode bc_mo_lea 30 = .ok (.aload_n 0, 1) := by decide +kernel
theorem d_mo_lea_31 : decode bc_mo_lea 31 = .ok (.iconst 4, 1) := by decide +kernel
theorem d_mo_lea_32 : decode bc_mo_lea 32 = .ok (.iload_n 2, 1) := by decide +kernel
theorem d_mo_lea_33 : decode bc_mo_lea 33 = .ok (.ifCond .ne 7, 3) := by decide +kernel
theorem d_mo_lea_36 : decode bc_mo_lea 36 = .ok (.iconst 1, 1) := by decide +kernel
theorem d_mo_lea_37 : decode bc_mo_lea 37 = .ok (.goto 4, 3) := by decide +kernel
theorem d_mo_lea_40 : decode bc_mo_lea 40 = .ok (.iconst 0, 1) := by decide +kernel
theorem d_mo_lea_41 : decode bc_mo_lea 41 = .ok (.invokevirtual 36, 3) := by decide +kernel
theorem d_mo_lea_44 : decode bc_mo_lea 44 = .ok (.aload_n 0, 1) := by decide +kernel
theorem d_mo_lea_45 : decode bc_mo_lea 45 = .ok (.aload_n 0, 1) := by decide +kernel
theorem d_mo_lea_46 : decode bc_mo_lea 46 = .ok (.getfield 90, 3) := by decide +kernel
theorem d_mo_lea_49 : decode bc_mo_lea 49 = .ok (.ifCond .ne 8, 3) := by decide +kernel
theorem d_mo_lea_52 : decode bc_mo_lea 52 = .ok (.iload_n 1, 1) := by decide +kernel
theorem d_mo_lea_53 : decode bc_mo_lea 53 = .ok (.iconst 5, 1) := by decide +kernel
theorem d_mo_lea_54 : decode bc_mo_lea 54 = .ok (.if_icmp .ne 7, 3) := by decide +kernel
theorem d_mo_lea_57 : decode bc_mo_lea 57 = .ok (.iconst 1, 1) := by decide +kernel
theorem d_mo_lea_58 : decode bc_mo_lea 58 = .ok (.goto 4, 3) := by decide +kernel
theorem d_mo_lea_61 : decode bc_mo_lea 61 = .ok (.iconst 0, 1) := by decide +kernel
theorem d_mo_lea_62 : decode bc_mo_lea 62 = .ok (.putfield 90, 3) := by decide +kernel
theorem d_mo_lea_65 : decode bc_mo_lea 65 = .ok (.return_, 1) := by decide +kernel
theorem d_mo_pushState_0 : decode bc_mo_pushState 0 = .ok (.aload_n 0, 1) := by decide +kernel
theorem d_mo_pushState_1 : decode bc_mo_pushState 1 = .ok (.sipush 128, 3) := by decide +kernel
theorem d_mo_pushState_4 : decode bc_mo_pushState 4 = .ok (.iconst 1, 1) := by decide +kernel
theorem d_mo_pushState_5 : decode bc_mo_pushState 5 = .ok (.invokevirtual 36, 3) := by decide +kernel
theorem d_mo_pushState_8 : decode bc_mo_pushState 8 = .ok (.aload_n 0, 1) := by decide +kernel
theorem d_mo_pushState_9 : decode bc_mo_pushState 9 = .ok (.iconst 5, 1) := by decide +kernel
theorem d_mo_pushState_10 : decode bc_mo_pushState 10 = .ok (.sipush 255, 3) := by decide +kernel
theorem d_mo_pushState_13 : decode bc_mo_pushState 13 = .ok (.invokevirtual 155, 3) := by decide +kernel
theorem d_mo_pushState_16 : decode bc_mo_pushState 16 = .ok (.return_, 1) := by decide +kernel
theorem d_mo_trap_0 : decode bc_mo_trap 0 = .ok (.aload_n 0, 1) := by decide +kernel
theorem d_mo_trap_1 : decode bc_mo_trap 1 = .ok (.invokevirtual 158, 3) := by decide +kernel
theorem d_mo_trap_4 : decode bc_mo_trap 4 = .ok (.iload_n 2, 1) := by decide +kernel
theorem d_mo_trap_5 : decode bc_mo_trap 5 = .ok (.ifCond .eq 23, 3) := by decide +kernel
theorem d_mo_trap_8 : decode bc_mo_trap 8 = .ok (.aload_n 0, 1) := by decide +kernel
theorem d_mo_trap_9 : decode bc_mo_trap 9 = .ok (.getfield 13, 3) := by decide +kernel
theorem d_mo_trap_12 : decode bc_mo_trap 12 = .ok (.bipush 8, 2) := by decide +kernel
theorem d_mo_trap_14 : decode bc_mo_trap 14 = .ok (.aload_n 0, 1) := by decide +kernel
theorem d_mo_trap_15 : decode bc_mo_trap 15 = .ok (.getfield 13, 3) := by decide +kernel
theorem d_mo_trap_18 : decode bc_mo_trap 18 = .ok (.bipush 8, 2) := by decide +kernel
theorem d_mo_trap_20 : decode bc_mo_trap 20 = .ok (.iaload, 1) := by decide +kernel
theorem d_mo_trap_21 : decode bc_mo_trap 21 = .ok (.bipush 16, 2) := by decide +kernel
theorem d_mo_trap_23 : decode bc_mo_trap 23 = .ok (.ior, 1) := by decide +kernel
theorem d_mo_trap_24 : decode bc_mo_trap 24 = .ok (.bipush 64, 2) := by decide +kernel
theorem d_mo_trap_26 : decode bc_mo_trap 26 = .ok (.ior, 1) := by decide +kernel
theorem d_mo_trap_27 : decode bc_mo_trap 27 = .ok (.iastore, 1) := by decide +kernel
theorem d_mo_trap_28 : decode bc_mo_trap 28 = .ok (.aload_n 0, 1) := by decide +kernel
theorem d_mo_trap_29 : decode bc_mo_trap 29 = .ok (.getfield 13, 3) := by decide +kernel
theorem d_mo_trap_32 : decode bc_mo_trap 32 = .ok (.bipush 6, 2) := by decide +kernel
theorem d_mo_trap_34 : decode bc_mo_trap 34 = .ok (.aload_n 0, 1) := by decide +kernel
theorem d_mo_trap_35 : decode bc_mo_trap 35 = .ok (.iload_n 1, 1) := by decide +kernel
theorem d_mo_trap_36 : decode bc_mo_trap 36 = .ok (.invokevirtual 69, 3) := by decide +kernel
theorem d_mo_trap_39 : decode bc_mo_trap 39 = .ok (.iastore, 1) := by decide +kernel
theorem d_mo_trap_40 : decode bc_mo_trap 40 = .ok (.return_, 1) := by decide +kernel
theorem d_mo_multiply_0 : decode bc_mo_multiply 0 = .ok (.aload_n 0, 1) := by decide +kernel
theorem d_mo_multiply_1 : decode bc_mo_multiply 1 = .ok (.getfield 13, 3) := by decide +kernel
theorem d_mo_multiply_4 : decode bc_mo_multiply 4 = .ok (.iconst 0, 1) := by decide +kernel
theorem d_mo_multiply_5 : decode bc_mo_multiply 5 = .ok (.iaload, 1) := by decide +kernel
theorem d_mo_multiply_6 : decode bc_mo_multiply 6 = .ok (.aload_n 0, 1) := by decide +kernel
theorem d_mo_multiply_7 : decode bc_mo_multiply 7 = .ok (.getfield 13, 3) := by decide +kernel
theorem d_mo_multiply_10 : decode bc_mo_multiply 10 = .ok (.iconst 1, 1) := by decide +kernel
theorem d_mo_multiply_11 : decode bc_mo_multiply 11 = .ok (.iaload, 1) := by decide +kernel
theorem d_mo_multiply_12 : decode bc_mo_multiply 12 = .ok (.imul, 1) := by decide +kernel
theorem d_mo_multiply_13 : decode bc_mo_multiply 13 = .ok (.istore_n 1, 1) := by decide +kernel
theorem d_mo_multiply_14 : decode bc_mo_multiply 14 = .ok (.aload_n 0, 1) := by decide +kernel
theorem d_mo_multiply_15 : decode bc_mo_multiply 15 = .ok (.iload_n 1, 1) := by decide +kernel
theorem d_mo_multiply_16 : decode bc_mo_multiply 16 = .ok (.invokevirtual 117, 3) := by decide +kernel
theorem d_mo_multiply_19 : decode bc_mo_multiply 19 = .ok (.aload_n 0, 1) := by decide +kernel
theorem d_mo_multiply_20 : decode bc_mo_multiply 20 = .ok (.iconst 4, 1) := by decide +kernel
theorem d_mo_multiply_21 : decode bc_mo_multiply 21 = .ok (.iload_n 1, 1) := by decide +kernel
theorem d_mo_multiply_22 : decode bc_mo_multiply 22 = .ok (.ifCond .ne 7, 3) := by decide +kernel
theorem d_mo_multiply_25 : decode bc_mo_multiply 25 = .ok (.iconst 1, 1) := by decide +kernel
theorem d_mo_multiply_26 : decode bc_mo_multiply 26 = .ok (.goto 4, 3) := by decide +kernel
theorem d_mo_multiply_29 : decode bc_mo_multiply 29 = .ok (.iconst 0, 1) := by decide +kernel
theorem d_mo_multiply_30 : decode bc_mo_multiply 30 = .ok (.invokevirtual 36, 3) := by decide +kernel
theorem d_mo_multiply_33 : decode bc_mo_multiply 33 = .ok (.aload_n 0, 1) := by decide +kernel
theorem d_mo_multiply_34 : decode bc_mo_multiply 34 = .ok (.iconst 1, 1) := by decide +kernel
theorem d_mo_multiply_35 : decode bc_mo_multiply 35 = .ok (.iload_n 1, 1) := by decide +kernel
theorem d_mo_multiply_36 : decode bc_mo_multiply 36 = .ok (.sipush 128, 3) := by decide +kernel
theorem d_mo_multiply_39 : decode bc_mo_multiply 39 = .ok (.iand, 1) := by decide +kernel
theorem d_mo_multiply_40 : decode bc_mo_multiply 40 = .ok (.ifCond .eq 7, 3) := by decide +kernel
theorem d_mo_multiply_43 : decode bc_mo_multiply 43 = .ok (.iconst 1, 1) := by decide +kernel
theorem d_mo_multiply_44 : decode bc_mo_multiply 44 = .ok (.goto 4, 3) := by decide +kernel
theorem d_mo_multiply_47 : decode bc_mo_multiply 47 = .ok (.iconst 0, 1) := by decide +kernel
theorem d_mo_multiply_48 : decode bc_mo_multiply 48 = .ok (.invokevirtual 36, 3) := by decide +kernel
theorem d_mo_multiply_51 : decode bc_mo_multiply 51 = .ok (.return_, 1) := by decide +kernel
theorem d_mo_back_0 : decode bc_mo_back 0 = .ok (.aload_n 0, 1) := by decide +kernel
theorem d_mo_back_1 : decode bc_mo_back 1 = .ok (.getfield 13, 3) := by decide +kernel
theorem d_mo_back_4 : decode bc_mo_back 4 = .ok (.bipush 8, 2) := by decide +kernel
theorem d_mo_back_6 : decode bc_mo_back 6 = .ok (.aload_n 0, 1) := by decide +kernel
theorem d_mo_back_7 : decode bc_mo_back 7 = .ok (.iconst 5, 1) := by decide +kernel
theorem d_mo_back_8 : decode bc_mo_back 8 = .ok (.invokevirtual 81, 3) := by decide +kernel
theorem d_mo_back_11 : decode bc_mo_back 11 = .ok (.iastore, 1) := by decide +kernel
theorem d_mo_back_12 : decode bc_mo_back 12 = .ok (.aload_n 0, 1) := by decide +kernel
theorem d_mo_back_13 : decode bc_mo_back 13 = .ok (.iconst 5, 1) := by decide +kernel
theorem d_mo_back_14 : decode bc_mo_back 14 = .ok (.aload_n 0, 1) := by decide +kernel
theorem d_mo_back_15 : decode bc_mo_back 15 = .ok (.sipush 128, 3) := by decide +kernel
theorem d_mo_back_18 : decode bc_mo_back 18 = .ok (.invokevirtual 93, 3) := by decide +kernel
theorem d_mo_back_21 : decode bc_mo_back 21 = .ok (.ifCond .eq 9, 3) := by decide +kernel
theorem d_mo_back_24 : decode bc_mo_back 24 = .ok (.sipush 254, 3) := by decide +kernel
theorem d_mo_back_27 : decode bc_mo_back 27 = .ok (.goto 6, 3) := by decide +kernel
theorem d_mo_back_30 : decode bc_mo_back 30 = .ok (.sipush 128, 3) := by decide +kernel
theorem d_mo_back_33 : decode bc_mo_back 33 = .ok (.invokevirtual 161, 3) := by decide +kernel
theorem d_mo_back_36 : decode bc_mo_back 36 = .ok (.return_, 1) := by decide +kernel
theorem d_mo_last_0 : decode bc_mo_last 0 = .ok (.iload_n 1, 1) := by decide +kernel
theorem d_mo_last_1 : decode bc_mo_last 1 = .ok (.bipush 57, 2) := by decide +kernel
theorem d_mo_last_3 : decode bc_mo_last 3 = .ok (.if_icmp .ne 18, 3) := by decide +kernel
theorem d_mo_last_6 : decode bc_mo_last 6 = .ok (.aload_n 0, 1) := by decide +kernel
theorem d_mo_last_7 : decode bc_mo_last 7 = .ok (.getfield 13, 3) := by decide +kernel
theorem d_mo_last_10 : decode bc_mo_last 10 = .ok (.bipush 6, 2) := by decide +kernel
theorem d_mo_last_12 : decode bc_mo_last 12 = .ok (.aload_n 0, 1) := by decide +kernel
theorem d_mo_last_13 : decode bc_mo_last 13 = .ok (.iconst 5, 1) := by decide +kernel
theorem d_mo_last_14 : decode bc_mo_last 14 = .ok (.invokevirtual 87, 3) := by decide +kernel
theorem d_mo_last_17 : decode bc_mo_last 17 = .ok (.iastore, 1) := by decide +kernel
theorem d_mo_last_18 : decode bc_mo_last 18 = .ok (.goto 118, 3) := by decide +kernel
theorem d_mo_last_21 : decode bc_mo_last 21 = .ok (.iload_n 1, 1) := by decide +kernel
theorem d_mo_last_22 : decode bc_mo_last 22 = .ok (.bipush 58, 2) := by decide +kernel
theorem d_mo_last_24 : decode bc_mo_last 24 = .ok (.if_icmp .ne 28, 3) := by decide +kernel
theorem d_mo_last_27 : decode bc_mo_last 27 = .ok (.aload_n 0, 1) := by decide +kernel
theorem d_mo_last_28 : decode bc_mo_last 28 = .ok (.getfield 13, 3) := by decide +kernel
theorem d_mo_last_31 : decode bc_mo_last 31 = .ok (.iconst 2, 1) := by decide +kernel
theorem d_mo_last_32 : decode bc_mo_last 32 = .ok (.aload_n 0, 1) := by decide +kernel
theorem d_mo_last_33 : decode bc_mo_last 33 = .ok (.getfield 13, 3) := by decide +kernel
theorem d_mo_last_36 : decode bc_mo_last 36 = .ok (.iconst 2, 1) := by decide +kernel
theorem d_mo_last_37 : decode bc_mo_last 37 = .ok (.iaload, 1) := by decide +kernel
theorem d_mo_last_38 : decode bc_mo_last 38 = .ok (.aload_n 0, 1) := by decide +kernel
theorem d_mo_last_39 : decode bc_mo_last 39 = .ok (.getfield 13, 3) := by decide +kernel
theorem d_mo_last_42 : decode bc_mo_last 42 = .ok (.iconst 1, 1) := by decide +kernel
theorem d_mo_last_43 : decode bc_mo_last 43 = .ok (.iaload, 1) := by decide +kernel
theorem d_mo_last_44 : decode bc_mo_last 44 = .ok (.iadd, 1) := by decide +kernel
theorem d_mo_last_45 : decode bc_mo_last 45 = .ok (.ldc 30, 2) := by decide +kernel
theorem d_mo_last_47 : decode bc_mo_last 47 = .ok (.iand, 1) := by decide +kernel
theorem d_mo_last_48 : decode bc_mo_last 48 = .ok (.iastore, 1) := by decide +kernel
theorem d_mo_last_49 : decode bc_mo_last 49 = .ok (.goto 87, 3) := by decide +kernel
theorem d_mo_last_52 : decode bc_mo_last 52 = .ok (.iload_n 1, 1) := by decide +kernel
theorem d_mo_last_53 : decode bc_mo_last 53 = .ok (.bipush 59, 2) := by decide +kernel
theorem d_mo_last_55 : decode bc_mo_last 55 = .ok (.if_icmp .ne 10, 3) := by decide +kernel
theorem d_mo_last_58 : decode bc_mo_last 58 = .ok (.aload_n 0, 1) := by decide +kernel
theorem d_mo_last_59 : decode bc_mo_last 59 = .ok (.invokevirtual 184, 3) := by decide +kernel
theorem d_mo_last_62 : decode bc_mo_last 62 = .ok (.goto 74, 3) := by decide +kernel
theorem d_mo_last_65 : decode bc_mo_last 65 = .ok (.iload_n 1, 1) := by decide +kernel
theorem d_mo_last_66 : decode bc_mo_last 66 = .ok (.bipush 60, 2) := by decide +kernel
theorem d_mo_last_68 : decode bc_mo_last 68 = .ok (.if_icmp .ne 34, 3) := by decide +kernel
theorem d_mo_last_71 : decode bc_mo_last 71 = .ok (.aload_n 0, 1) := by decide +kernel
theorem d_mo_last_72 : decode bc_mo_last 72 = .ok (.getfield 13, 3) := by decide +kernel
theorem d_mo_last_75 : decode bc_mo_last 75 = .ok (.bipush 8, 2) := by decide +kernel
theorem d_mo_last_77 : decode bc_mo_last 77 = .ok (.aload_n 0, 1) := by decide +kernel
theorem d_mo_last_78 : decode bc_mo_last 78 = .ok (.getfield 13, 3) := by decide +kernel
theorem d_mo_last_81 : decode bc_mo_last 81 = .ok (.bipush 8, 2) := by decide +kernel
theorem d_mo_last_83 : decode bc_mo_last 83 = .ok (.iaload, 1) := by decide +kernel
theorem d_mo_last_84 : decode bc_mo_last 84 = .ok (.aload_n 0, 1) := by decide +kernel
theorem d_mo_last_85 : decode bc_mo_last 85 = .ok (.invokevirtual 31, 3) := by decide +kernel
theorem d_mo_last_88 : decode bc_mo_last 88 = .ok (.iand, 1) := by decide +kernel
theorem d_mo_last_89 : decode bc_mo_last 89 = .ok (.iastore, 1) := by decide +kernel
theorem d_mo_last_90 : decode bc_mo_last 90 = .ok (.aload_n 0, 1) := by decide +kernel
theorem d_mo_last_91 : decode bc_mo_last 91 = .ok (.invokevirtual 158, 3) := by decide +kernel
theorem d_mo_last_94 : decode bc_mo_last 94 = .ok (.aload_n 0, 1) := by decide +kernel
theorem d_mo_last_95 : decode bc_mo_last 95 = .ok (.iconst 2, 1) := by decide +kernel
theorem d_mo_last_96 : decode bc_mo_last 96 = .ok (.putfield 164, 3) := by decide +kernel
theorem d_mo_last_99 : decode bc_mo_last 99 = .ok (.goto 37, 3) := by decide +kernel
theorem d_mo_last_102 : decode bc_mo_last 102 = .ok (.iload_n 1, 1) := by decide +kernel
theorem d_mo_last_103 : decode bc_mo_last 103 = .ok (.bipush 61, 2) := by decide +kernel
theorem d_mo_last_105 : decode bc_mo_last 105 = .ok (.if_icmp .ne 10, 3) := by decide +kernel
theorem d_mo_last_108 : decode bc_mo_last 108 = .ok (.aload_n 0, 1) := by decide +kernel
theorem d_mo_last_109 : decode bc_mo_last 109 = .ok (.invokevirtual 187, 3) := by decide +kernel
theorem d_mo_last_112 : decode bc_mo_last 112 = .ok (.goto 24, 3) := by decide +kernel
theorem d_mo_last_115 : decode bc_mo_last 115 = .ok (.iload_n 1, 1) := by decide +kernel
theorem d_mo_last_116 : decode bc_mo_last 116 = .ok (.bipush 63, 2) := by decide +kernel
theorem d_mo_last_118 : decode bc_mo_last 118 = .ok (.if_icmp .ne 13, 3) := by decide +kernel
theorem d_mo_last_121 : decode bc_mo_last 121 = .ok (.aload_n 0, 1) := by decide +kernel
theorem d_mo_last_122 : decode bc_mo_last 122 = .ok (.ldc 190, 2) := by decide +kernel
theorem d_mo_last_124 : decode bc_mo_last 124 = .ok (.iconst 1, 1) := by decide +kernel
theorem d_mo_last_125 : decode bc_mo_last 125 = .ok (.invokevirtual 191, 3) := by decide +kernel
theorem d_mo_last_128 : decode bc_mo_last 128 = .ok (.goto 8, 3) := by decide +kernel
theorem d_mo_last_131 : decode bc_mo_last 131 = .ok (.aload_n 0, 1) := by decide +kernel
theorem d_mo_last_132 : decode bc_mo_last 132 = .ok (.iconst 1, 1) := by decide +kernel
theorem d_mo_last_133 : decode bc_mo_last 133 = .ok (.putfield 56, 3) := by decide +kernel
theorem d_mo_last_136 : decode bc_mo_last 136 = .ok (.return_, 1) := by decide +kernel
theorem d_mo_middle_0 : decode bc_mo_middle 0 = .ok (.iload_n 1, 1) := by decide +kernel
theorem d_mo_middle_1 : decode bc_mo_middle 1 = .ok (.bipush 18, 2) := by decide +kernel
theorem d_mo_middle_3 : decode bc_mo_middle 3 = .ok (.if_icmp .ne 4, 3) := by decide +kernel
theorem d_mo_middle_6 : decode bc_mo_middle 6 = .ok (.return_, 1) := by decide +kernel
theorem d_mo_middle_7 : decode bc_mo_middle 7 = .ok (.iload_n 1, 1) := by decide +kernel
theorem d_mo_middle_8 : decode bc_mo_middle 8 = .ok (.bipush 19, 2) := by decide +kernel
theorem d_mo_middle_10 : decode bc_mo_middle 10 = .ok (.if_icmp .ne 11, 3) := by decide +kernel
theorem d_mo_middle_13 : decode bc_mo_middle 13 = .ok (.aload_n 0, 1) := by decide +kernel
theorem d_mo_middle_14 : decode bc_mo_middle 14 = .ok (.iconst 1, 1) := by decide +kernel
theorem d_mo_middle_15 : decode bc_mo_middle 15 = .ok (.putfield 164, 3) := by decide +kernel
theorem d_mo_middle_18 : decode bc_mo_middle 18 = .ok (.goto 312, 3) := by decide +kernel
theorem d_mo_middle_21 : decode bc_mo_middle 21 = .ok (.iload_n 1, 1) := by decide +kernel
theorem d_mo_middle_22 : decode bc_mo_middle 22 = .ok (.bipush 22, 2) := by decide +kernel
theorem d_mo_middle_24 : decode bc_mo_middle 24 = .ok (.if_icmp .ne 12, 3) := by decide +kernel
theorem d_mo_middle_27 : decode bc_mo_middle 27 = .ok (.aload_n 0, 1) := by decide +kernel
theorem d_mo_middle_28 : decode bc_mo_middle 28 = .ok (.iconst 0, 1) := by decide +kernel
theorem d_mo_middle_29 : decode bc_mo_middle 29 = .ok (.iconst 1, 1) := by decide +kernel
theorem d_mo_middle_30 : decode bc_mo_middle 30 = .ok (.invokevirtual 168, 3) := by decide +kernel
theorem d_mo_middle_33 : decode bc_mo_middle 33 = .ok (.goto 297, 3) := by decide +kernel
theorem d_mo_middle_36 : decode bc_mo_middle 36 = .ok (.iload_n 1, 1) := by decide +kernel
theorem d_mo_middle_37 : decode bc_mo_middle 37 = .ok (.bipush 23, 2) := by decide +kernel
theorem d_mo_middle_39 : decode bc_mo_middle 39 = .ok (.if_icmp .ne 42, 3) := by decide +kernel
theorem d_mo_middle_42 : decode bc_mo_middle 42 = .ok (.aload_n 0, 1) := by decide +kernel
theorem d_mo_middle_43 : decode bc_mo_middle 43 = .ok (.invokevirtual 63, 3) := by decide +kernel
theorem d_mo_middle_46 : decode bc_mo_middle 46 = .ok (.istore_n 2, 1) := by decide +kernel
theorem d_mo_middle_47 : decode bc_mo_middle 47 = .ok (.aload_n 0, 1) := by decide +kernel
theorem d_mo_middle_48 : decode bc_mo_middle 48 = .ok (.iconst 5, 1) := by decide +kernel
theorem d_mo_middle_49 : decode bc_mo_middle 49 = .ok (.aload_n 0, 1) := by decide +kernel
theorem d_mo_middle_50 : decode bc_mo_middle 50 = .ok (.getfield 13, 3) := by decide +kernel
theorem d_mo_middle_53 : decode bc_mo_middle 53 = .ok (.bipush 6, 2) := by decide +kernel
theorem d_mo_middle_55 : decode bc_mo_middle 55 = .ok (.iaload, 1) := by decide +kernel
theorem d_mo_middle_56 : decode bc_mo_middle 56 = .ok (.invokevirtual 84, 3) := by decide +kernel
theorem d_mo_middle_59 : decode bc_mo_middle 59 = .ok (.aload_n 0, 1) := by decide +kernel
theorem d_mo_middle_60 : decode bc_mo_middle 60 = .ok (.getfield 13, 3) := by decide +kernel
theorem d_mo_middle_63 : decode bc_mo_middle 63 = .ok (.bipush 6, 2) := by decide +kernel
theorem d_mo_middle_65 : decode bc_mo_middle 65 = .ok (.aload_n 0, 1) := by decide +kernel
theorem d_mo_middle_66 : decode bc_mo_middle 66 = .ok (.getfield 13, 3) := by decide +kernel
theorem d_mo_middle_69 : decode bc_mo_middle 69 = .ok (.bipush 6, 2) := by decide +kernel
theorem d_mo_middle_71 : decode bc_mo_middle 71 = .ok (.iaload, 1) := by decide +kernel
theorem d_mo_middle_72 : decode bc_mo_middle 72 = .ok (.iload_n 2, 1) := by decide +kernel
theorem d_mo_middle_73 : decode bc_mo_middle 73 = .ok (.iadd, 1) := by decide +kernel
theorem d_mo_middle_74 : decode bc_mo_middle 74 = .ok (.ldc 30, 2) := by decide +kernel
theorem d_mo_middle_76 : decode bc_mo_middle 76 = .ok (.iand, 1) := by decide +kernel
theorem d_mo_middle_77 : decode bc_mo_middle 77 = .ok (.iastore, 1) := by decide +kernel
theorem d_mo_middle_78 : decode bc_mo_middle 78 = .ok (.goto 252, 3) := by decide +kernel
theorem d_mo_middle_81 : decode bc_mo_middle 81 = .ok (.iload_n 1, 1) := by decide +kernel
theorem d_mo_middle_82 : decode bc_mo_middle 82 = .ok (.bipush 25, 2) := by decide +kernel
theorem d_mo_middle_84 : decode bc_mo_middle 84 = .ok (.if_icmp .ne 10, 3) := by decide +kernel
theorem d_mo_middle_87 : decode bc_mo_middle 87 = .ok (.aload_n 0, 1) := by decide +kernel
theorem d_mo_middle_88 : decode bc_mo_middle 88 = .ok (.invokevirtual 171, 3) := by decide +kernel
theorem d_mo_middle_91 : decode bc_mo_middle 91 = .ok (.goto 239, 3) := by decide +kernel
theorem d_mo_middle_94 : decode bc_mo_middle 94 = .ok (.iload_n 1, 1) := by decide +kernel
theorem d_mo_middle_95 : decode bc_mo_middle 95 = .ok (.bipush 26, 2) := by decide +kernel
theorem d_mo_middle_97 : decode bc_mo_middle 97 = .ok (.if_icmp .ne 25, 3) := by decide +kernel
theorem d_mo_middle_100 : decode bc_mo_middle 100 = .ok (.aload_n 0, 1) := by decide +kernel
theorem d_mo_middle_101 : decode bc_mo_middle 101 = .ok (.getfield 13, 3) := by decide +kernel
theorem d_mo_middle_104 : decode bc_mo_middle 104 = .ok (.bipush 8, 2) := by decide +kernel
theorem d_mo_middle_106 : decode bc_mo_middle 106 = .ok (.aload_n 0, 1) := by decide +kernel
theorem d_mo_middle_107 : decode bc_mo_middle 107 = .ok (.getfield 13, 3) := by decide +kernel
theorem d_mo_middle_110 : decode bc_mo_middle 110 = .ok (.bipush 8, 2) := by decide +kernel
theorem d_mo_middle_112 : decode bc_mo_middle 112 = .ok (.iaload, 1) := by decide +kernel
theorem d_mo_middle_113 : decode bc_mo_middle 113 = .ok (.aload_n 0, 1) := by decide +kernel
theorem d_mo_middle_114 : decode bc_mo_middle 114 = .ok (.invokevirtual 31, 3) := by decide +kernel
theorem d_mo_middle_117 : decode bc_mo_middle 117 = .ok (.ior, 1) := by decide +kernel
theorem d_mo_middle_118 : decode bc_mo_middle 118 = .ok (.iastore, 1) := by decide +kernel
theorem d_mo_middle_119 : decode bc_mo_middle 119 = .ok (.goto 211, 3) := by decide +kernel
theorem d_mo_middle_122 : decode bc_mo_middle 122 = .ok (.iload_n 1, 1) := by decide +kernel
theorem d_mo_middle_123 : decode bc_mo_middle 123 = .ok (.bipush 28, 2) := by decide +kernel
theorem d_mo_middle_125 : decode bc_mo_middle 125 = .ok (.if_icmp .ne 25, 3) := by decide +kernel
theorem d_mo_middle_128 : decode bc_mo_middle 128 = .ok (.aload_n 0, 1) := by decide +kernel
theorem d_mo_middle_129 : decode bc_mo_middle 129 = .ok (.getfield 13, 3) := by decide +kernel
theorem d_mo_middle_132 : decode bc_mo_middle 132 = .ok (.bipush 8, 2) := by decide +kernel
theorem d_mo_middle_134 : decode bc_mo_middle 134 = .ok (.aload_n 0, 1) := by decide +kernel
theorem d_mo_middle_135 : decode bc_mo_middle 135 = .ok (.getfield 13, 3) := by decide +kernel
theorem d_mo_middle_138 : decode bc_mo_middle 138 = .ok (.bipush 8, 2) := by decide +kernel
theorem d_mo_middle_140 : decode bc_mo_middle 140 = .ok (.iaload, 1) := by decide +kernel
theorem d_mo_middle_141 : decode bc_mo_middle 141 = .ok (.aload_n 0, 1) := by decide +kernel
theorem d_mo_middle_142 : decode bc_mo_middle 142 = .ok (.invokevirtual 31, 3) := by decide +kernel
theorem d_mo_middle_145 : decode bc_mo_middle 145 = .ok (.iand, 1) := by decide +kernel
theorem d_mo_middle_146 : decode bc_mo_middle 146 = .ok (.iastore, 1) := by decide +kernel
theorem d_mo_middle_147 : decode bc_mo_middle 147 = .ok (.goto 183, 3) := by decide +kernel
theorem d_mo_middle_150 : decode bc_mo_middle 150 = .ok (.iload_n 1, 1) := by decide +kernel
theorem d_mo_middle_151 : decode bc_mo_middle 151 = .ok (.bipush 29, 2) := by decide +kernel
theorem d_mo_middle_153 : decode bc_mo_middle 153 = .ok (.if_icmp .ne 41, 3) := by decide +kernel
theorem d_mo_middle_156 : decode bc_mo_middle 156 = .ok (.aload_n 0, 1) := by decide +kernel
theorem d_mo_middle_157 : decode bc_mo_middle 157 = .ok (.getfield 13, 3) := by decide +kernel
theorem d_mo_middle_160 : decode bc_mo_middle 160 = .ok (.iconst 0, 1) := by decide +kernel
theorem d_mo_middle_161 : decode bc_mo_middle 161 = .ok (.aload_n 0, 1) := by decide +kernel
theorem d_mo_middle_162 : decode bc_mo_middle 162 = .ok (.getfield 13, 3) := by decide +kernel
theorem d_mo_middle_165 : decode bc_mo_middle 165 = .ok (.iconst 1, 1) := by decide +kernel
theorem d_mo_middle_166 : decode bc_mo_middle 166 = .ok (.iaload, 1) := by decide +kernel
theorem d_mo_middle_167 : decode bc_mo_middle 167 = .ok (.sipush 128, 3) := by decide +kernel
theorem d_mo_middle_170 : decode bc_mo_middle 170 = .ok (.if_icmp .lt 9, 3) := by decide +kernel
theorem d_mo_middle_173 : decode bc_mo_middle 173 = .ok (.sipush 255, 3) := by decide +kernel
theorem d_mo_middle_176 : decode bc_mo_middle 176 = .ok (.goto 4, 3) := by decide +kernel
theorem d_mo_middle_179 : decode bc_mo_middle 179 = .ok (.iconst 0, 1) := by decide +kernel
theorem d_mo_middle_180 : decode bc_mo_middle 180 = .ok (.iastore, 1) := by decide +kernel
theorem d_mo_middle_181 : decode bc_mo_middle 181 = .ok (.aload_n 0, 1) := by decide +kernel
theorem d_mo_middle_182 : decode bc_mo_middle 182 = .ok (.aload_n 0, 1) := by decide +kernel
theorem d_mo_middle_183 : decode bc_mo_middle 183 = .ok (.invokevirtual 66, 3) := by decide +kernel
theorem d_mo_middle_186 : decode bc_mo_middle 186 = .ok (.iconst 1, 1) := by decide +kernel
theorem d_mo_middle_187 : decode bc_mo_middle 187 = .ok (.invokevirtual 105, 3) := by decide +kernel
theorem d_mo_middle_190 : decode bc_mo_middle 190 = .ok (.pop, 1) := by decide +kernel
theorem d_mo_middle_191 : decode bc_mo_middle 191 = .ok (.goto 139, 3) := by decide +kernel
theorem d_mo_middle_194 : decode bc_mo_middle 194 = .ok (.iload_n 1, 1) := by decide +kernel
theorem d_mo_middle_195 : decode bc_mo_middle 195 = .ok (.bipush 30, 2) := by decide +kernel
theorem d_mo_middle_197 : decode bc_mo_middle 197 = .ok (.if_icmp .eq 9, 3) := by decide +kernel
theorem d_mo_middle_200 : decode bc_mo_middle 200 = .ok (.iload_n 1, 1) := by decide +kernel
theorem d_mo_middle_201 : decode bc_mo_middle 201 = .ok (.bipush 31, 2) := by decide +kernel
theorem d_mo_middle_203 : decode bc_mo_middle 203 = .ok (.if_icmp .ne 21, 3) := by decide +kernel
theorem d_mo_middle_206 : decode bc_mo_middle 206 = .ok (.aload_n 0, 1) := by decide +kernel
theorem d_mo_middle_207 : decode bc_mo_middle 207 = .ok (.iload_n 1, 1) := by decide +kernel
theorem d_mo_middle_208 : decode bc_mo_middle 208 = .ok (.bipush 30, 2) := by decide +kernel
theorem d_mo_middle_210 : decode bc_mo_middle 210 = .ok (.if_icmp .ne 7, 3) := by decide +kernel
theorem d_mo_middle_213 : decode bc_mo_middle 213 = .ok (.iconst 1, 1) := by decide +kernel
theorem d_mo_middle_214 : decode bc_mo_middle 214 = .ok (.goto 4, 3) := by decide +kernel
theorem d_mo_middle_217 : decode bc_mo_middle 217 = .ok (.iconst 0, 1) := by decide +kernel
theorem d_mo_middle_218 : decode bc_mo_middle 218 = .ok (.invokevirtual 174, 3) := by decide +kernel
theorem d_mo_middle_221 : decode bc_mo_middle 221 = .ok (.goto 109, 3) := by decide +kernel
theorem d_mo_middle_224 : decode bc_mo_middle 224 = .ok (.iload_n 1, 1) := by decide +kernel
theorem d_mo_middle_225 : decode bc_mo_middle 225 = .ok (.bipush 48, 2) := by decide +kernel
theorem d_mo_middle_227 : decode bc_mo_middle 227 = .ok (.bipush 51, 2) := by decide +kernel
theorem d_mo_middle_229 : decode bc_mo_middle 229 = .ok (.invokestatic 44, 3) := by decide +kernel
theorem d_mo_middle_232 : decode bc_mo_middle 232 = .ok (.ifCond .eq 41, 3) := by decide +kernel
theorem d_mo_middle_235 : decode bc_mo_middle 235 = .ok (.aload_n 0, 1) := by decide +kernel
theorem d_mo_middle_236 : decode bc_mo_middle 236 = .ok (.iload_n 1, 1) := by decide +kernel
theorem d_mo_middle_237 : decode bc_mo_middle 237 = .ok (.bipush 48, 2) := by decide +kernel
theorem d_mo_middle_239 : decode bc_mo_middle 239 = .ok (.if_icmp .ne 7, 3) := by decide +kernel
theorem d_mo_middle_242 : decode bc_mo_middle 242 = .ok (.iconst 2, 1) := by decide +kernel
theorem d_mo_middle_243 : decode bc_mo_middle 243 = .ok (.goto 24, 3) := by decide +kernel
theorem d_mo_middle_246 : decode bc_mo_middle 246 = .ok (.iload_n 1, 1) := by decide +kernel
theorem d_mo_middle_247 : decode bc_mo_middle 247 = .ok (.bipush 49, 2) := by decide +kernel
theorem d_mo_middle_249 : decode bc_mo_middle 249 = .ok (.if_icmp .ne 7, 3) := by decide +kernel
theorem d_mo_middle_252 : decode bc_mo_middle 252 = .ok (.iconst 3, 1) := by decide +kernel
theorem d_mo_middle_253 : decode bc_mo_middle 253 = .ok (.goto 14, 3) := by decide +kernel
theorem d_mo_middle_256 : decode bc_mo_middle 256 = .ok (.iload_n 1, 1) := by decide +kernel
theorem d_mo_middle_257 : decode bc_mo_middle 257 = .ok (.bipush 50, 2) := by decide +kernel
theorem d_mo_middle_259 : decode bc_mo_middle 259 = .ok (.if_icmp .ne 7, 3) := by decide +kernel
theorem d_mo_middle_262 : decode bc_mo_middle 262 = .ok (.iconst 5, 1) := by decide +kernel
theorem d_mo_middle_263 : decode bc_mo_middle 263 = .ok (.goto 4, 3) := by decide +kernel
theorem d_mo_middle_266 : decode bc_mo_middle 266 = .ok (.iconst 4, 1) := by decide +kernel
theorem d_mo_middle_267 : decode bc_mo_middle 267 = .ok (.invokevirtual 178, 3) := by decide +kernel
theorem d_mo_middle_270 : decode bc_mo_middle 270 = .ok (.goto 60, 3) := by decide +kernel
theorem d_mo_middle_273 : decode bc_mo_middle 273 = .ok (.iload_n 1, 1) := by decide +kernel
theorem d_mo_middle_274 : decode bc_mo_middle 274 = .ok (.bipush 52, 2) := by decide +kernel
theorem d_mo_middle_276 : decode bc_mo_middle 276 = .ok (.bipush 55, 2) := by decide +kernel
theorem d_mo_middle_278 : decode bc_mo_middle 278 = .ok (.invokestatic 44, 3) := by decide +kernel
theorem d_mo_middle_281 : decode bc_mo_middle 281 = .ok (.ifCond .eq 44, 3) := by decide +kernel
theorem d_mo_middle_284 : decode bc_mo_middle 284 = .ok (.aload_n 0, 1) := by decide +kernel
theorem d_mo_middle_285 : decode bc_mo_middle 285 = .ok (.invokevirtual 31, 3) := by decide +kernel
theorem d_mo_middle_288 : decode bc_mo_middle 288 = .ok (.istore_n 2, 1) := by decide +kernel
theorem d_mo_middle_289 : decode bc_mo_middle 289 = .ok (.iload_n 1, 1) := by decide +kernel
theorem d_mo_middle_290 : decode bc_mo_middle 290 = .ok (.bipush 54, 2) := by decide +kernel
theorem d_mo_middle_292 : decode bc_mo_middle 292 = .ok (.if_icmp .ge 7, 3) := by decide +kernel
theorem d_mo_middle_295 : decode bc_mo_middle 295 = .ok (.iconst 5, 1) := by decide +kernel
theorem d_mo_middle_296 : decode bc_mo_middle 296 = .ok (.goto 4, 3) := by decide +kernel
theorem d_mo_middle_299 : decode bc_mo_middle 299 = .ok (.iconst 4, 1) := by decide +kernel
theorem d_mo_middle_300 : decode bc_mo_middle 300 = .ok (.istore_n 3, 1) := by decide +kernel
theorem d_mo_middle_301 : decode bc_mo_middle 301 = .ok (.iload_n 1, 1) := by decide +kernel
theorem d_mo_middle_302 : decode bc_mo_middle 302 = .ok (.iconst 2, 1) := by decide +kernel
theorem d_mo_middle_303 : decode bc_mo_middle 303 = .ok (.irem, 1) := by decide +kernel
theorem d_mo_middle_304 : decode bc_mo_middle 304 = .ok (.ifCond .ne 12, 3) := by decide +kernel
theorem d_mo_middle_307 : decode bc_mo_middle 307 = .ok (.aload_n 0, 1) := by decide +kernel
theorem d_mo_middle_308 : decode bc_mo_middle 308 = .ok (.iload_n 3, 1) := by decide +kernel
theorem d_mo_middle_309 : decode bc_mo_middle 309 = .ok (.iload_n 2, 1) := by decide +kernel
theorem d_mo_middle_310 : decode bc_mo_middle 310 = .ok (.invokevirtual 155, 3) := by decide +kernel
theorem d_mo_middle_313 : decode bc_mo_middle 313 = .ok (.goto 9, 3) := by decide +kernel
theorem d_mo_middle_316 : decode bc_mo_middle 316 = .ok (.aload_n 0, 1) := by decide +kernel
theorem d_mo_middle_317 : decode bc_mo_middle 317 = .ok (.iload_n 3, 1) := by decide +kernel
theorem d_mo_middle_318 : decode bc_mo_middle 318 = .ok (.iload_n 2, 1) := by decide +kernel
theorem d_mo_middle_319 : decode bc_mo_middle 319 = .ok (.invokevirtual 161, 3) := by decide +kernel
theorem d_mo_middle_322 : decode bc_mo_middle 322 = .ok (.goto 8, 3) := by decide +kernel
theorem d_mo_middle_325 : decode bc_mo_middle 325 = .ok (.aload_n 0, 1) := by decide +kernel
theorem d_mo_middle_326 : decode bc_mo_middle 326 = .ok (.iload_n 1, 1) := by decide +kernel
theorem d_mo_middle_327 : decode bc_mo_middle 327 = .ok (.invokevirtual 181, 3) := by decide +kernel
theorem d_mo_middle_330 : decode bc_mo_middle 330 = .ok (.return_, 1) := by decide +kernel
theorem d_mo_behindTen_0 : decode bc_mo_behindTen 0 = .ok (.iload_n 1, 1) := by decide +kernel
theorem d_mo_behindTen_1 : decode bc_mo_behindTen 1 = .ok (.iconst 4, 1) := by decide +kernel
theorem d_mo_behindTen_2 : decode bc_mo_behindTen 2 = .ok (.ishr, 1) := by decide +kernel
theorem d_mo_behindTen_3 : decode bc_mo_behindTen 3 = .ok (.iconst 3, 1) := by decide +kernel
theorem d_mo_behindTen_4 : decode bc_mo_behindTen 4 = .ok (.iand, 1) := by decide +kernel
theorem d_mo_behindTen_5 : decode bc_mo_behindTen 5 = .ok (.istore_n 2, 1) := by decide +kernel
theorem d_mo_behindTen_6 : decode bc_mo_behindTen 6 = .ok (.iload_n 1, 1) := by decide +kernel
theorem d_mo_behindTen_7 : decode bc_mo_behindTen 7 = .ok (.bipush 15, 2) := by decide +kernel
theorem d_mo_behindTen_9 : decode bc_mo_behindTen 9 = .ok (.iand, 1) := by decide +kernel
theorem d_mo_behindTen_10 : decode bc_mo_behindTen 10 = .ok (.istore_n 3, 1) := by decide +kernel
theorem d_mo_behindTen_11 : decode bc_mo_behindTen 11 = .ok (.iload_n 1, 1) := by decide +kernel
theorem d_mo_behindTen_12 : decode bc_mo_behindTen 12 = .ok (.bipush 33, 2) := by decide +kernel
theorem d_mo_behindTen_14 : decode bc_mo_behindTen 14 = .ok (.bipush 47, 2) := by decide +kernel
theorem d_mo_behindTen_16 : decode bc_mo_behindTen 16 = .ok (.invokestatic 44, 3) := by decide +kernel
theorem d_mo_behindTen_19 : decode bc_mo_behindTen 19 = .ok (.ifCond .eq 12, 3) := by decide +kernel
theorem d_mo_behindTen_22 : decode bc_mo_behindTen 22 = .ok (.aload_n 0, 1) := by decide +kernel
theorem d_mo_behindTen_23 : decode bc_mo_behindTen 23 = .ok (.iload_n 3, 1) := by decide +kernel
theorem d_mo_behindTen_24 : decode bc_mo_behindTen 24 = .ok (.iconst 1, 1) := by decide +kernel
theorem d_mo_behindTen_25 : decode bc_mo_behindTen 25 = .ok (.invokevirtual 168, 3) := by decide +kernel
theorem d_mo_behindTen_28 : decode bc_mo_behindTen 28 = .ok (.goto 184, 3) := by decide +kernel
theorem d_mo_behindTen_31 : decode bc_mo_behindTen 31 = .ok (.iload_n 1, 1) := by decide +kernel
theorem d_mo_behindTen_32 : decode bc_mo_behindTen 32 = .ok (.bipush 63, 2) := by decide +kernel
theorem d_mo_behindTen_34 : decode bc_mo_behindTen 34 = .ok (.if_icmp .ne 13, 3) := by decide +kernel
theorem d_mo_behindTen_37 : decode bc_mo_behindTen 37 = .ok (.aload_n 0, 1) := by decide +kernel
theorem d_mo_behindTen_38 : decode bc_mo_behindTen 38 = .ok (.ldc 194, 2) := by decide +kernel
theorem d_mo_behindTen_40 : decode bc_mo_behindTen 40 = .ok (.iconst 0, 1) := by decide +kernel
theorem d_mo_behindTen_41 : decode bc_mo_behindTen 41 = .ok (.invokevirtual 191, 3) := by decide +kernel
theorem d_mo_behindTen_44 : decode bc_mo_behindTen 44 = .ok (.goto 168, 3) := by decide +kernel
theorem d_mo_behindTen_47 : decode bc_mo_behindTen 47 = .ok (.iload_n 1, 1) := by decide +kernel
theorem d_mo_behindTen_48 : decode bc_mo_behindTen 48 = .ok (.sipush 128, 3) := by decide +kernel
theorem d_mo_behindTen_51 : decode bc_mo_behindTen 51 = .ok (.sipush 191, 3) := by decide +kernel
theorem d_mo_behindTen_54 : decode bc_mo_behindTen 54 = .ok (.invokestatic 44, 3) := by decide +kernel
theorem d_mo_behindTen_57 : decode bc_mo_behindTen 57 = .ok (.ifCond .eq 21, 3) := by decide +kernel
theorem d_mo_behindTen_60 : decode bc_mo_behindTen 60 = .ok (.iload_n 3, 1) := by decide +kernel
theorem d_mo_behindTen_61 : decode bc_mo_behindTen 61 = .ok (.iconst 3, 1) := by decide +kernel
theorem d_mo_behindTen_62 : decode bc_mo_behindTen 62 = .ok (.if_icmp .ne 16, 3) := by decide +kernel
theorem d_mo_behindTen_65 : decode bc_mo_behindTen 65 = .ok (.aload_n 0, 1) := by decide +kernel
theorem d_mo_behindTen_66 : decode bc_mo_behindTen 66 = .ok (.aload_n 0, 1) := by decide +kernel
theorem d_mo_behindTen_67 : decode bc_mo_behindTen 67 = .ok (.invokevirtual 66, 3) := by decide +kernel
theorem d_mo_behindTen_70 : decode bc_mo_behindTen 70 = .ok (.iconst (-1), 1) := by decide +kernel
theorem d_mo_behindTen_71 : decode bc_mo_behindTen 71 = .ok (.iload_n 2, 1) := by decide +kernel
theorem d_mo_behindTen_72 : decode bc_mo_behindTen 72 = .ok (.invokevirtual 133, 3) := by decide +kernel
theorem d_mo_behindTen_75 : decode bc_mo_behindTen 75 = .ok (.goto 137, 3) := by decide +kernel
theorem d_mo_behindTen_78 : decode bc_mo_behindTen 78 = .ok (.iload_n 1, 1) := by decide +kernel
theorem d_mo_behindTen_79 : decode bc_mo_behindTen 79 = .ok (.sipush 128, 3) := by decide +kernel
theorem d_mo_behindTen_82 : decode bc_mo_behindTen 82 = .ok (.sipush 191, 3) := by decide +kernel
theorem d_mo_behindTen_85 : decode bc_mo_behindTen 85 = .ok (.invokestatic 44, 3) := by decide +kernel
theorem d_mo_behindTen_88 : decode bc_mo_behindTen 88 = .ok (.ifCond .eq 19, 3) := by decide +kernel
theorem d_mo_behindTen_91 : decode bc_mo_behindTen 91 = .ok (.iload_n 3, 1) := by decide +kernel
theorem d_mo_behindTen_92 : decode bc_mo_behindTen 92 = .ok (.bipush 12, 2) := by decide +kernel
theorem d_mo_behindTen_94 : decode bc_mo_behindTen 94 = .ok (.if_icmp .ne 13, 3) := by decide +kernel
theorem d_mo_behindTen_97 : decode bc_mo_behindTen 97 = .ok (.aload_n 0, 1) := by decide +kernel
theorem d_mo_behindTen_98 : decode bc_mo_behindTen 98 = .ok (.iconst 0, 1) := by decide +kernel
theorem d_mo_behindTen_99 : decode bc_mo_behindTen 99 = .ok (.iconst 3, 1) := by decide +kernel
theorem d_mo_behindTen_100 : decode bc_mo_behindTen 100 = .ok (.iload_n 2, 1) := by decide +kernel
theorem d_mo_behindTen_101 : decode bc_mo_behindTen 101 = .ok (.invokevirtual 133, 3) := by decide +kernel
theorem d_mo_behindTen_104 : decode bc_mo_behindTen 104 = .ok (.goto 108, 3) := by decide +kernel
theorem d_mo_behindTen_107 : decode bc_mo_behindTen 107 = .ok (.iload_n 1, 1) := by decide +kernel
theorem d_mo_behindTen_108 : decode bc_mo_behindTen 108 = .ok (.sipush 128, 3) := by decide +kernel
theorem d_mo_behindTen_111 : decode bc_mo_behindTen 111 = .ok (.sipush 191, 3) := by decide +kernel
theorem d_mo_behindTen_114 : decode bc_mo_behindTen 114 = .ok (.invokestatic 44, 3) := by decide +kernel
theorem d_mo_behindTen_117 : decode bc_mo_behindTen 117 = .ok (.ifCond .eq 18, 3) := by decide +kernel
theorem d_mo_behindTen_120 : decode bc_mo_behindTen 120 = .ok (.iload_n 3, 1) := by decide +kernel
theorem d_mo_behindTen_121 : decode bc_mo_behindTen 121 = .ok (.bipush 14, 2) := by decide +kernel
theorem d_mo_behindTen_123 : decode bc_mo_behindTen 123 = .ok (.if_icmp .ne 12, 3) := by decide +kernel
theorem d_mo_behindTen_126 : decode bc_mo_behindTen 126 = .ok (.aload_n 0, 1) := by decide +kernel
theorem d_mo_behindTen_127 : decode bc_mo_behindTen 127 = .ok (.iconst 3, 1) := by decide +kernel
theorem d_mo_behindTen_128 : decode bc_mo_behindTen 128 = .ok (.iload_n 2, 1) := by decide +kernel
theorem d_mo_behindTen_129 : decode bc_mo_behindTen 129 = .ok (.invokevirtual 130, 3) := by decide +kernel
theorem d_mo_behindTen_132 : decode bc_mo_behindTen 132 = .ok (.goto 80, 3) := by decide +kernel
theorem d_mo_behindTen_135 : decode bc_mo_behindTen 135 = .ok (.iload_n 1, 1) := by decide +kernel
theorem d_mo_behindTen_136 : decode bc_mo_behindTen 136 = .ok (.sipush 128, 3) := by decide +kernel
theorem d_mo_behindTen_139 : decode bc_mo_behindTen 139 = .ok (.sipush 191, 3) := by decide +kernel
theorem d_mo_behindTen_142 : decode bc_mo_behindTen 142 = .ok (.invokestatic 44, 3) := by decide +kernel
theorem d_mo_behindTen_145 : decode bc_mo_behindTen 145 = .ok (.ifCond .eq 18, 3) := by decide +kernel
theorem d_mo_behindTen_148 : decode bc_mo_behindTen 148 = .ok (.iload_n 3, 1) := by decide +kernel
theorem d_mo_behindTen_149 : decode bc_mo_behindTen 149 = .ok (.bipush 15, 2) := by decide +kernel
theorem d_mo_behindTen_151 : decode bc_mo_behindTen 151 = .ok (.if_icmp .ne 12, 3) := by decide +kernel
theorem d_mo_behindTen_154 : decode bc_mo_behindTen 154 = .ok (.aload_n 0, 1) := by decide +kernel
theorem d_mo_behindTen_155 : decode bc_mo_behindTen 155 = .ok (.iconst 3, 1) := by decide +kernel
theorem d_mo_behindTen_156 : decode bc_mo_behindTen 156 = .ok (.iload_n 2, 1) := by decide +kernel
theorem d_mo_behindTen_157 : decode bc_mo_behindTen 157 = .ok (.invokevirtual 137, 3) := by decide +kernel
theorem d_mo_behindTen_160 : decode bc_mo_behindTen 160 = .ok (.goto 52, 3) := by decide +kernel
theorem d_mo_behindTen_163 : decode bc_mo_behindTen 163 = .ok (.iload_n 1, 1) := by decide +kernel
theorem d_mo_behindTen_164 : decode bc_mo_behindTen 164 = .ok (.sipush 192, 3) := by decide +kernel
theorem d_mo_behindTen_167 : decode bc_mo_behindTen 167 = .ok (.if_icmp .lt 18, 3) := by decide +kernel
theorem d_mo_behindTen_170 : decode bc_mo_behindTen 170 = .ok (.iload_n 3, 1) := by decide +kernel
theorem d_mo_behindTen_171 : decode bc_mo_behindTen 171 = .ok (.bipush 14, 2) := by decide +kernel
theorem d_mo_behindTen_173 : decode bc_mo_behindTen 173 = .ok (.if_icmp .ne 12, 3) := by decide +kernel
theorem d_mo_behindTen_176 : decode bc_mo_behindTen 176 = .ok (.aload_n 0, 1) := by decide +kernel
theorem d_mo_behindTen_177 : decode bc_mo_behindTen 177 = .ok (.iconst 5, 1) := by decide +kernel
theorem d_mo_behindTen_178 : decode bc_mo_behindTen 178 = .ok (.iload_n 2, 1) := by decide +kernel
theorem d_mo_behindTen_179 : decode bc_mo_behindTen 179 = .ok (.invokevirtual 130, 3) := by decide +kernel
theorem d_mo_behindTen_182 : decode bc_mo_behindTen 182 = .ok (.goto 30, 3) := by decide +kernel
theorem d_mo_behindTen_185 : decode bc_mo_behindTen 185 = .ok (.iload_n 1, 1) := by decide +kernel
theorem d_mo_behindTen_186 : decode bc_mo_behindTen 186 = .ok (.sipush 192, 3) := by decide +kernel
theorem d_mo_behindTen_189 : decode bc_mo_behindTen 189 = .ok (.if_icmp .lt 18, 3) := by decide +kernel
theorem d_mo_behindTen_192 : decode bc_mo_behindTen 192 = .ok (.iload_n 3, 1) := by decide +kernel
theorem d_mo_behindTen_193 : decode bc_mo_behindTen 193 = .ok (.bipush 15, 2) := by decide +kernel
theorem d_mo_behindTen_195 : decode bc_mo_behindTen 195 = .ok (.if_icmp .ne 12, 3) := by decide +kernel
theorem d_mo_behindTen_198 : decode bc_mo_behindTen 198 = .ok (.aload_n 0, 1) := by decide +kernel
theorem d_mo_behindTen_199 : decode bc_mo_behindTen 199 = .ok (.iconst 5, 1) := by decide +kernel
theorem d_mo_behindTen_200 : decode bc_mo_behindTen 200 = .ok (.iload_n 2, 1) := by decide +kernel
theorem d_mo_behindTen_201 : decode bc_mo_behindTen 201 = .ok (.invokevirtual 137, 3) := by decide +kernel
theorem d_mo_behindTen_204 : decode bc_mo_behindTen 204 = .ok (.goto 8, 3) := by decide +kernel
theorem d_mo_behindTen_207 : decode bc_mo_behindTen 207 = .ok (.aload_n 0, 1) := by decide +kernel
theorem d_mo_behindTen_208 : decode bc_mo_behindTen 208 = .ok (.iconst 1, 1) := by decide +kernel
theorem d_mo_behindTen_209 : decode bc_mo_behindTen 209 = .ok (.putfield 56, 3) := by decide +kernel
theorem d_mo_behindTen_212 : decode bc_mo_behindTen 212 = .ok (.return_, 1) := by decide +kernel
theorem d_mo_behindEleven_0 : decode bc_mo_behindEleven 0 = .ok (.iload_n 1, 1) := by decide +kernel
theorem d_mo_behindEleven_1 : decode bc_mo_behindEleven 1 = .ok (.iconst 4, 1) := by decide +kernel
theorem d_mo_behindEleven_2 : decode bc_mo_behindEleven 2 = .ok (.ishr, 1) := by decide +kernel
theorem d_mo_behindEleven_3 : decode bc_mo_behindEleven 3 = .ok (.iconst 3, 1) := by decide +kernel
theorem d_mo_behindEleven_4 : decode bc_mo_behindEleven 4 = .ok (.iand, 1) := by decide +kernel
theorem d_mo_behindEleven_5 : decode bc_mo_behindEleven 5 = .ok (.istore_n 2, 1) := by decide +kernel
theorem d_mo_behindEleven_6 : decode bc_mo_behindEleven 6 = .ok (.iload_n 1, 1) := by decide +kernel
theorem d_mo_behindEleven_7 : decode bc_mo_behindEleven 7 = .ok (.bipush 15, 2) := by decide +kernel
theorem d_mo_behindEleven_9 : decode bc_mo_behindEleven 9 = .ok (.iand, 1) := by decide +kernel
theorem d_mo_behindEleven_10 : decode bc_mo_behindEleven 10 = .ok (.istore_n 3, 1) := by decide +kernel
theorem d_mo_behindEleven_11 : decode bc_mo_behindEleven 11 = .ok (.iload_n 1, 1) := by decide +kernel
theorem d_mo_behindEleven_12 : decode bc_mo_behindEleven 12 = .ok (.bipush 63, 2) := by decide +kernel
theorem d_mo_behindEleven_14 : decode bc_mo_behindEleven 14 = .ok (.if_icmp .ne 13, 3) := by decide +kernel
theorem d_mo_behindEleven_17 : decode bc_mo_behindEleven 17 = .ok (.aload_n 0, 1) := by decide +kernel
theorem d_mo_behindEleven_18 : decode bc_mo_behindEleven 18 = .ok (.ldc 195, 2) := by decide +kernel
theorem d_mo_behindEleven_20 : decode bc_mo_behindEleven 20 = .ok (.iconst 0, 1) := by decide +kernel
theorem d_mo_behindEleven_21 : decode bc_mo_behindEleven 21 = .ok (.invokevirtual 191, 3) := by decide +kernel
theorem d_mo_behindEleven_24 : decode bc_mo_behindEleven 24 = .ok (.goto 51, 3) := by decide +kernel
theorem d_mo_behindEleven_27 : decode bc_mo_behindEleven 27 = .ok (.iload_n 1, 1) := by decide +kernel
end
section
theorem d_mo_behindEleven_28 : decode bc_mo_behindEleven 28 = .ok (.sipush 128, 3) := by decide +kernel
theorem d_mo_behindEleven_31 : decode bc_mo_behindEleven 31 = .ok (.sipush 191, 3) := by decide +kernel
theorem d_mo_behindEleven_34 : decode bc_mo_behindEleven 34 = .ok (.invokestatic 44, 3) := by decide +kernel
theorem d_mo_behindEleven_37 : decode bc_mo_behindEleven 37 = .ok (.ifCond .eq 33, 3) := by decide +kernel
theorem d_mo_behindEleven_40 : decode bc_mo_behindEleven 40 = .ok (.iload_n 3, 1) := by decide +kernel
theorem d_mo_behindEleven_41 : decode bc_mo_behindEleven 41 = .ok (.iconst 3, 1) := by decide +kernel
theorem d_mo_behindEleven_42 : decode bc_mo_behindEleven 42 = .ok (.if_icmp .eq 9, 3) := by decide +kernel
theorem d_mo_behindEleven_45 : decode bc_mo_behindEleven 45 = .ok (.iload_n 3, 1) := by decide +kernel
theorem d_mo_behindEleven_46 : decode bc_mo_behindEleven 46 = .ok (.bipush 12, 2) := by decide +kernel
theorem d_mo_behindEleven_48 : decode bc_mo_behindEleven 48 = .ok (.if_icmp .ne 22, 3) := by decide +kernel
theorem d_mo_behindEleven_51 : decode bc_mo_behindEleven 51 = .ok (.aload_n 0, 1) := by decide +kernel
theorem d_mo_behindEleven_52 : decode bc_mo_behindEleven 52 = .ok (.iconst 0, 1) := by decide +kernel
theorem d_mo_behindEleven_53 : decode bc_mo_behindEleven 53 = .ok (.iload_n 3, 1) := by decide +kernel
theorem d_mo_behindEleven_54 : decode bc_mo_behindEleven 54 = .ok (.iconst 3, 1) := by decide +kernel
theorem d_mo_behindEleven_55 : decode bc_mo_behindEleven 55 = .ok (.if_icmp .ne 7, 3) := by decide +kernel
theorem d_mo_behindEleven_58 : decode bc_mo_behindEleven 58 = .ok (.iconst 4, 1) := by decide +kernel
theorem d_mo_behindEleven_59 : decode bc_mo_behindEleven 59 = .ok (.goto 4, 3) := by decide +kernel
theorem d_mo_behindEleven_62 : decode bc_mo_behindEleven 62 = .ok (.iconst 5, 1) := by decide +kernel
theorem d_mo_behindEleven_63 : decode bc_mo_behindEleven 63 = .ok (.iload_n 2, 1) := by decide +kernel
theorem d_mo_behindEleven_64 : decode bc_mo_behindEleven 64 = .ok (.invokevirtual 133, 3) := by decide +kernel
theorem d_mo_behindEleven_67 : decode bc_mo_behindEleven 67 = .ok (.goto 8, 3) := by decide +kernel
theorem d_mo_behindEleven_70 : decode bc_mo_behindEleven 70 = .ok (.aload_n 0, 1) := by decide +kernel
theorem d_mo_behindEleven_71 : decode bc_mo_behindEleven 71 = .ok (.iconst 1, 1) := by decide +kernel
theorem d_mo_behindEleven_72 : decode bc_mo_behindEleven 72 = .ok (.putfield 56, 3) := by decide +kernel
theorem d_mo_behindEleven_75 : decode bc_mo_behindEleven 75 = .ok (.return_, 1) := by decide +kernel
theorem d_mo_instruct_0 : decode bc_mo_instruct 0 = .ok (.iconst 0, 1) := by decide +kernel
theorem d_mo_instruct_1 : decode bc_mo_instruct 1 = .ok (.istore_n 1, 1) := by decide +kernel
theorem d_mo_instruct_2 : decode bc_mo_instruct 2 = .ok (.iload_n 1, 1) := by decide +kernel
theorem d_mo_instruct_3 : decode bc_mo_instruct 3 = .ok (.bipush 9, 2) := by decide +kernel
theorem d_mo_instruct_5 : decode bc_mo_instruct 5 = .ok (.if_icmp .ge 21, 3) := by decide +kernel
theorem d_mo_instruct_8 : decode bc_mo_instruct 8 = .ok (.aload_n 0, 1) := by decide +kernel
theorem d_mo_instruct_9 : decode bc_mo_instruct 9 = .ok (.getfield 16, 3) := by decide +kernel
theorem d_mo_instruct_12 : decode bc_mo_instruct 12 = .ok (.iload_n 1, 1) := by decide +kernel
theorem d_mo_instruct_13 : decode bc_mo_instruct 13 = .ok (.aload_n 0, 1) := by decide +kernel
theorem d_mo_instruct_14 : decode bc_mo_instruct 14 = .ok (.getfield 13, 3) := by decide +kernel
theorem d_mo_instruct_17 : decode bc_mo_instruct 17 = .ok (.iload_n 1, 1) := by decide +kernel
theorem d_mo_instruct_18 : decode bc_mo_instruct 18 = .ok (.iaload, 1) := by decide +kernel
theorem d_mo_instruct_19 : decode bc_mo_instruct 19 = .ok (.iastore, 1) := by decide +kernel
theorem d_mo_instruct_20 : decode bc_mo_instruct 20 = .ok (.iinc 1 1, 3) := by decide +kernel
theorem d_mo_instruct_23 : decode bc_mo_instruct 23 = .ok (.goto (-21), 3) := by decide +kernel
theorem d_mo_instruct_26 : decode bc_mo_instruct 26 = .ok (.aload_n 0, 1) := by decide +kernel
theorem d_mo_instruct_27 : decode bc_mo_instruct 27 = .ok (.iconst 0, 1) := by decide +kernel
theorem d_mo_instruct_28 : decode bc_mo_instruct 28 = .ok (.putfield 56, 3) := by decide +kernel
theorem d_mo_instruct_31 : decode bc_mo_instruct 31 = .ok (.aload_n 0, 1) := by decide +kernel
theorem d_mo_instruct_32 : decode bc_mo_instruct 32 = .ok (.invokevirtual 31, 3) := by decide +kernel
theorem d_mo_instruct_35 : decode bc_mo_instruct 35 = .ok (.istore_n 1, 1) := by decide +kernel
theorem d_mo_instruct_36 : decode bc_mo_instruct 36 = .ok (.iload_n 1, 1) := by decide +kernel
theorem d_mo_instruct_37 : decode bc_mo_instruct 37 = .ok (.bipush 16, 2) := by decide +kernel
theorem d_mo_instruct_39 : decode bc_mo_instruct 39 = .ok (.if_icmp .ne 14, 3) := by decide +kernel
theorem d_mo_instruct_42 : decode bc_mo_instruct 42 = .ok (.aload_n 0, 1) := by decide +kernel
theorem d_mo_instruct_43 : decode bc_mo_instruct 43 = .ok (.aload_n 0, 1) := by decide +kernel
theorem d_mo_instruct_44 : decode bc_mo_instruct 44 = .ok (.invokevirtual 31, 3) := by decide +kernel
theorem d_mo_instruct_47 : decode bc_mo_instruct 47 = .ok (.invokevirtual 196, 3) := by decide +kernel
theorem d_mo_instruct_50 : decode bc_mo_instruct 50 = .ok (.goto 83, 3) := by decide +kernel
theorem d_mo_instruct_53 : decode bc_mo_instruct 53 = .ok (.iload_n 1, 1) := by decide +kernel
theorem d_mo_instruct_54 : decode bc_mo_instruct 54 = .ok (.bipush 17, 2) := by decide +kernel
theorem d_mo_instruct_56 : decode bc_mo_instruct 56 = .ok (.if_icmp .ne 14, 3) := by decide +kernel
theorem d_mo_instruct_59 : decode bc_mo_instruct 59 = .ok (.aload_n 0, 1) := by decide +kernel
theorem d_mo_instruct_60 : decode bc_mo_instruct 60 = .ok (.aload_n 0, 1) := by decide +kernel
theorem d_mo_instruct_61 : decode bc_mo_instruct 61 = .ok (.invokevirtual 31, 3) := by decide +kernel
theorem d_mo_instruct_64 : decode bc_mo_instruct 64 = .ok (.invokevirtual 199, 3) := by decide +kernel
theorem d_mo_instruct_67 : decode bc_mo_instruct 67 = .ok (.goto 66, 3) := by decide +kernel
theorem d_mo_instruct_70 : decode bc_mo_instruct 70 = .ok (.iload_n 1, 1) := by decide +kernel
theorem d_mo_instruct_71 : decode bc_mo_instruct 71 = .ok (.sipush 128, 3) := by decide +kernel
theorem d_mo_instruct_74 : decode bc_mo_instruct 74 = .ok (.if_icmp .lt 11, 3) := by decide +kernel
theorem d_mo_instruct_77 : decode bc_mo_instruct 77 = .ok (.aload_n 0, 1) := by decide +kernel
theorem d_mo_instruct_78 : decode bc_mo_instruct 78 = .ok (.iload_n 1, 1) := by decide +kernel
theorem d_mo_instruct_79 : decode bc_mo_instruct 79 = .ok (.invokevirtual 202, 3) := by decide +kernel
theorem d_mo_instruct_82 : decode bc_mo_instruct 82 = .ok (.goto 51, 3) := by decide +kernel
theorem d_mo_instruct_85 : decode bc_mo_instruct 85 = .ok (.iload_n 1, 1) := by decide +kernel
theorem d_mo_instruct_86 : decode bc_mo_instruct 86 = .ok (.bipush 16, 2) := by decide +kernel
theorem d_mo_instruct_88 : decode bc_mo_instruct 88 = .ok (.if_icmp .lt 9, 3) := by decide +kernel
theorem d_mo_instruct_91 : decode bc_mo_instruct 91 = .ok (.iload_n 1, 1) := by decide +kernel
theorem d_mo_instruct_92 : decode bc_mo_instruct 92 = .ok (.bipush 64, 2) := by decide +kernel
theorem d_mo_instruct_94 : decode bc_mo_instruct 94 = .ok (.if_icmp .lt 11, 3) := by decide +kernel
theorem d_mo_instruct_97 : decode bc_mo_instruct 97 = .ok (.aload_n 0, 1) := by decide +kernel
theorem d_mo_instruct_98 : decode bc_mo_instruct 98 = .ok (.iload_n 1, 1) := by decide +kernel
theorem d_mo_instruct_99 : decode bc_mo_instruct 99 = .ok (.invokevirtual 205, 3) := by decide +kernel
theorem d_mo_instruct_102 : decode bc_mo_instruct 102 = .ok (.goto 31, 3) := by decide +kernel
theorem d_mo_instruct_105 : decode bc_mo_instruct 105 = .ok (.iload_n 1, 1) := by decide +kernel
theorem d_mo_instruct_106 : decode bc_mo_instruct 106 = .ok (.bipush 32, 2) := by decide +kernel
theorem d_mo_instruct_108 : decode bc_mo_instruct 108 = .ok (.bipush 47, 2) := by decide +kernel
theorem d_mo_instruct_110 : decode bc_mo_instruct 110 = .ok (.invokestatic 44, 3) := by decide +kernel
theorem d_mo_instruct_113 : decode bc_mo_instruct 113 = .ok (.ifCond .eq 15, 3) := by decide +kernel
theorem d_mo_instruct_116 : decode bc_mo_instruct 116 = .ok (.aload_n 0, 1) := by decide +kernel
theorem d_mo_instruct_117 : decode bc_mo_instruct 117 = .ok (.iload_n 1, 1) := by decide +kernel
theorem d_mo_instruct_118 : decode bc_mo_instruct 118 = .ok (.bipush 15, 2) := by decide +kernel
theorem d_mo_instruct_120 : decode bc_mo_instruct 120 = .ok (.iand, 1) := by decide +kernel
theorem d_mo_instruct_121 : decode bc_mo_instruct 121 = .ok (.iconst 0, 1) := by decide +kernel
theorem d_mo_instruct_122 : decode bc_mo_instruct 122 = .ok (.invokevirtual 168, 3) := by decide +kernel
theorem d_mo_instruct_125 : decode bc_mo_instruct 125 = .ok (.goto 8, 3) := by decide +kernel
theorem d_mo_instruct_128 : decode bc_mo_instruct 128 = .ok (.aload_n 0, 1) := by decide +kernel
theorem d_mo_instruct_129 : decode bc_mo_instruct 129 = .ok (.iload_n 1, 1) := by decide +kernel
theorem d_mo_instruct_130 : decode bc_mo_instruct 130 = .ok (.invokevirtual 208, 3) := by decide +kernel
theorem d_mo_instruct_133 : decode bc_mo_instruct 133 = .ok (.iconst 0, 1) := by decide +kernel
theorem d_mo_instruct_134 : decode bc_mo_instruct 134 = .ok (.istore_n 2, 1) := by decide +kernel
theorem d_mo_instruct_135 : decode bc_mo_instruct 135 = .ok (.iload_n 2, 1) := by decide +kernel
theorem d_mo_instruct_136 : decode bc_mo_instruct 136 = .ok (.bipush 9, 2) := by decide +kernel
theorem d_mo_instruct_138 : decode bc_mo_instruct 138 = .ok (.if_icmp .ge 28, 3) := by decide +kernel
theorem d_mo_instruct_141 : decode bc_mo_instruct 141 = .ok (.aload_n 0, 1) := by decide +kernel
theorem d_mo_instruct_142 : decode bc_mo_instruct 142 = .ok (.getfield 56, 3) := by decide +kernel
theorem d_mo_instruct_145 : decode bc_mo_instruct 145 = .ok (.ifCond .eq 21, 3) := by decide +kernel
theorem d_mo_instruct_148 : decode bc_mo_instruct 148 = .ok (.aload_n 0, 1) := by decide +kernel
theorem d_mo_instruct_149 : decode bc_mo_instruct 149 = .ok (.getfield 13, 3) := by decide +kernel
theorem d_mo_instruct_152 : decode bc_mo_instruct 152 = .ok (.iload_n 2, 1) := by decide +kernel
theorem d_mo_instruct_153 : decode bc_mo_instruct 153 = .ok (.aload_n 0, 1) := by decide +kernel
theorem d_mo_instruct_154 : decode bc_mo_instruct 154 = .ok (.getfield 16, 3) := by decide +kernel
theorem d_mo_instruct_157 : decode bc_mo_instruct 157 = .ok (.iload_n 2, 1) := by decide +kernel
theorem d_mo_instruct_158 : decode bc_mo_instruct 158 = .ok (.iaload, 1) := by decide +kernel
theorem d_mo_instruct_159 : decode bc_mo_instruct 159 = .ok (.iastore, 1) := by decide +kernel
theorem d_mo_instruct_160 : decode bc_mo_instruct 160 = .ok (.iinc 2 1, 3) := by decide +kernel
theorem d_mo_instruct_163 : decode bc_mo_instruct 163 = .ok (.goto (-28), 3) := by decide +kernel
theorem d_mo_instruct_166 : decode bc_mo_instruct 166 = .ok (.aload_n 0, 1) := by decide +kernel
theorem d_mo_instruct_167 : decode bc_mo_instruct 167 = .ok (.getfield 56, 3) := by decide +kernel
theorem d_mo_instruct_170 : decode bc_mo_instruct 170 = .ok (.ifCond .ne 7, 3) := by decide +kernel
theorem d_mo_instruct_173 : decode bc_mo_instruct 173 = .ok (.iconst 1, 1) := by decide +kernel
theorem d_mo_instruct_174 : decode bc_mo_instruct 174 = .ok (.goto 4, 3) := by decide +kernel
theorem d_mo_instruct_177 : decode bc_mo_instruct 177 = .ok (.iconst 0, 1) := by decide +kernel
theorem d_mo_instruct_178 : decode bc_mo_instruct 178 = .ok (.ireturn, 1) := by decide +kernel
theorem d_mo_interrupt_0 : decode bc_mo_interrupt 0 = .ok (.aload_n 0, 1) := by decide +kernel
theorem d_mo_interrupt_1 : decode bc_mo_interrupt 1 = .ok (.iload_n 1, 1) := by decide +kernel
theorem d_mo_interrupt_2 : decode bc_mo_interrupt 2 = .ok (.ifCond .ne 7, 3) := by decide +kernel
theorem d_mo_interrupt_5 : decode bc_mo_interrupt 5 = .ok (.iconst 0, 1) := by decide +kernel
theorem d_mo_interrupt_6 : decode bc_mo_interrupt 6 = .ok (.goto 7, 3) := by decide +kernel
theorem d_mo_interrupt_9 : decode bc_mo_interrupt 9 = .ok (.aload_n 0, 1) := by decide +kernel
theorem d_mo_interrupt_10 : decode bc_mo_interrupt 10 = .ok (.getfield 211, 3) := by decide +kernel
theorem d_mo_interrupt_13 : decode bc_mo_interrupt 13 = .ok (.putfield 211, 3) := by decide +kernel
theorem d_mo_interrupt_16 : decode bc_mo_interrupt 16 = .ok (.aload_n 0, 1) := by decide +kernel
theorem d_mo_interrupt_17 : decode bc_mo_interrupt 17 = .ok (.getfield 164, 3) := by decide +kernel
theorem d_mo_interrupt_20 : decode bc_mo_interrupt 20 = .ok (.iconst 2, 1) := by decide +kernel
theorem d_mo_interrupt_21 : decode bc_mo_interrupt 21 = .ok (.if_icmp .eq 31, 3) := by decide +kernel
theorem d_mo_interrupt_24 : decode bc_mo_interrupt 24 = .ok (.iload_n 1, 1) := by decide +kernel
theorem d_mo_interrupt_25 : decode bc_mo_interrupt 25 = .ok (.iconst 1, 1) := by decide +kernel
theorem d_mo_interrupt_26 : decode bc_mo_interrupt 26 = .ok (.if_icmp .ne 22, 3) := by decide +kernel
theorem d_mo_interrupt_29 : decode bc_mo_interrupt 29 = .ok (.aload_n 0, 1) := by decide +kernel
theorem d_mo_interrupt_30 : decode bc_mo_interrupt 30 = .ok (.sipush 128, 3) := by decide +kernel
theorem d_mo_interrupt_33 : decode bc_mo_interrupt 33 = .ok (.iconst 0, 1) := by decide +kernel
theorem d_mo_interrupt_34 : decode bc_mo_interrupt 34 = .ok (.invokevirtual 36, 3) := by decide +kernel
theorem d_mo_interrupt_37 : decode bc_mo_interrupt 37 = .ok (.aload_n 0, 1) := by decide +kernel
theorem d_mo_interrupt_38 : decode bc_mo_interrupt 38 = .ok (.iconst 5, 1) := by decide +kernel
theorem d_mo_interrupt_39 : decode bc_mo_interrupt 39 = .ok (.sipush 129, 3) := by decide +kernel
theorem d_mo_interrupt_42 : decode bc_mo_interrupt 42 = .ok (.invokevirtual 155, 3) := by decide +kernel
theorem d_mo_interrupt_45 : decode bc_mo_interrupt 45 = .ok (.goto 7, 3) := by decide +kernel
theorem d_mo_interrupt_48 : decode bc_mo_interrupt 48 = .ok (.aload_n 0, 1) := by decide +kernel
theorem d_mo_interrupt_49 : decode bc_mo_interrupt 49 = .ok (.invokevirtual 158, 3) := by decide +kernel
theorem d_mo_interrupt_52 : decode bc_mo_interrupt 52 = .ok (.aload_n 0, 1) := by decide +kernel
theorem d_mo_interrupt_53 : decode bc_mo_interrupt 53 = .ok (.getfield 13, 3) := by decide +kernel
theorem d_mo_interrupt_56 : decode bc_mo_interrupt 56 = .ok (.bipush 8, 2) := by decide +kernel
theorem d_mo_interrupt_58 : decode bc_mo_interrupt 58 = .ok (.aload_n 0, 1) := by decide +kernel
theorem d_mo_interrupt_59 : decode bc_mo_interrupt 59 = .ok (.getfield 13, 3) := by decide +kernel
theorem d_mo_interrupt_62 : decode bc_mo_interrupt 62 = .ok (.bipush 8, 2) := by decide +kernel
theorem d_mo_interrupt_64 : decode bc_mo_interrupt 64 = .ok (.iaload, 1) := by decide +kernel
theorem d_mo_interrupt_65 : decode bc_mo_interrupt 65 = .ok (.bipush 16, 2) := by decide +kernel
theorem d_mo_interrupt_67 : decode bc_mo_interrupt 67 = .ok (.ior, 1) := by decide +kernel
theorem d_mo_interrupt_68 : decode bc_mo_interrupt 68 = .ok (.iload_n 1, 1) := by decide +kernel
theorem d_mo_interrupt_69 : decode bc_mo_interrupt 69 = .ok (.iconst 2, 1) := by decide +kernel
theorem d_mo_interrupt_70 : decode bc_mo_interrupt 70 = .ok (.if_icmp .ge 8, 3) := by decide +kernel
theorem d_mo_interrupt_73 : decode bc_mo_interrupt 73 = .ok (.bipush 64, 2) := by decide +kernel
theorem d_mo_interrupt_75 : decode bc_mo_interrupt 75 = .ok (.goto 4, 3) := by decide +kernel
theorem d_mo_interrupt_78 : decode bc_mo_interrupt 78 = .ok (.iconst 0, 1) := by decide +kernel
theorem d_mo_interrupt_79 : decode bc_mo_interrupt 79 = .ok (.ior, 1) := by decide +kernel
theorem d_mo_interrupt_80 : decode bc_mo_interrupt 80 = .ok (.iastore, 1) := by decide +kernel
theorem d_mo_interrupt_81 : decode bc_mo_interrupt 81 = .ok (.aload_n 0, 1) := by decide +kernel
theorem d_mo_interrupt_82 : decode bc_mo_interrupt 82 = .ok (.getfield 13, 3) := by decide +kernel
theorem d_mo_interrupt_85 : decode bc_mo_interrupt 85 = .ok (.bipush 6, 2) := by decide +kernel
theorem d_mo_interrupt_87 : decode bc_mo_interrupt 87 = .ok (.aload_n 0, 1) := by decide +kernel
theorem d_mo_interrupt_88 : decode bc_mo_interrupt 88 = .ok (.iload_n 1, 1) := by decide +kernel
theorem d_mo_interrupt_89 : decode bc_mo_interrupt 89 = .ok (.ifCond .ne 8, 3) := by decide +kernel
theorem d_mo_interrupt_92 : decode bc_mo_interrupt 92 = .ok (.ldc 214, 2) := by decide +kernel
theorem d_mo_interrupt_94 : decode bc_mo_interrupt 94 = .ok (.goto 15, 3) := by decide +kernel
theorem d_mo_interrupt_97 : decode bc_mo_interrupt 97 = .ok (.iload_n 1, 1) := by decide +kernel
theorem d_mo_interrupt_98 : decode bc_mo_interrupt 98 = .ok (.iconst 1, 1) := by decide +kernel
theorem d_mo_interrupt_99 : decode bc_mo_interrupt 99 = .ok (.if_icmp .ne 8, 3) := by decide +kernel
theorem d_mo_interrupt_102 : decode bc_mo_interrupt 102 = .ok (.ldc 215, 2) := by decide +kernel
theorem d_mo_interrupt_104 : decode bc_mo_interrupt 104 = .ok (.goto 5, 3) := by decide +kernel
theorem d_mo_interrupt_107 : decode bc_mo_interrupt 107 = .ok (.ldc 216, 2) := by decide +kernel
theorem d_mo_interrupt_109 : decode bc_mo_interrupt 109 = .ok (.invokevirtual 69, 3) := by decide +kernel
theorem d_mo_interrupt_112 : decode bc_mo_interrupt 112 = .ok (.iastore, 1) := by decide +kernel
theorem d_mo_interrupt_113 : decode bc_mo_interrupt 113 = .ok (.aload_n 0, 1) := by decide +kernel
theorem d_mo_interrupt_114 : decode bc_mo_interrupt 114 = .ok (.iconst 0, 1) := by decide +kernel
theorem d_mo_interrupt_115 : decode bc_mo_interrupt 115 = .ok (.putfield 164, 3) := by decide +kernel
theorem d_mo_interrupt_118 : decode bc_mo_interrupt 118 = .ok (.return_, 1) := by decide +kernel
theorem d_mo_step_0 : decode bc_mo_step 0 = .ok (.aload_n 0, 1) := by decide +kernel
theorem d_mo_step_1 : decode bc_mo_step 1 = .ok (.getfield 211, 3) := by decide +kernel
theorem d_mo_step_4 : decode bc_mo_step 4 = .ok (.ifCond .eq 7, 3) := by decide +kernel
theorem d_mo_step_7 : decode bc_mo_step 7 = .ok (.iconst 0, 1) := by decide +kernel
theorem d_mo_step_8 : decode bc_mo_step 8 = .ok (.goto 50, 3) := by decide +kernel
theorem d_mo_step_11 : decode bc_mo_step 11 = .ok (.aload_n 0, 1) := by decide +kernel
theorem d_mo_step_12 : decode bc_mo_step 12 = .ok (.getfield 19, 3) := by decide +kernel
theorem d_mo_step_15 : decode bc_mo_step 15 = .ok (.iconst 1, 1) := by decide +kernel
theorem d_mo_step_16 : decode bc_mo_step 16 = .ok (.iaload, 1) := by decide +kernel
theorem d_mo_step_17 : decode bc_mo_step 17 = .ok (.iconst 1, 1) := by decide +kernel
theorem d_mo_step_18 : decode bc_mo_step 18 = .ok (.if_icmp .ne 16, 3) := by decide +kernel
theorem d_mo_step_21 : decode bc_mo_step 21 = .ok (.aload_n 0, 1) := by decide +kernel
theorem d_mo_step_22 : decode bc_mo_step 22 = .ok (.bipush 64, 2) := by decide +kernel
theorem d_mo_step_24 : decode bc_mo_step 24 = .ok (.invokevirtual 93, 3) := by decide +kernel
theorem d_mo_step_27 : decode bc_mo_step 27 = .ok (.ifCond .ne 7, 3) := by decide +kernel
theorem d_mo_step_30 : decode bc_mo_step 30 = .ok (.iconst 1, 1) := by decide +kernel
theorem d_mo_step_31 : decode bc_mo_step 31 = .ok (.goto 27, 3) := by decide +kernel
theorem d_mo_step_34 : decode bc_mo_step 34 = .ok (.aload_n 0, 1) := by decide +kernel
theorem d_mo_step_35 : decode bc_mo_step 35 = .ok (.getfield 19, 3) := by decide +kernel
theorem d_mo_step_38 : decode bc_mo_step 38 = .ok (.iconst 2, 1) := by decide +kernel
theorem d_mo_step_39 : decode bc_mo_step 39 = .ok (.iaload, 1) := by decide +kernel
theorem d_mo_step_40 : decode bc_mo_step 40 = .ok (.iconst 1, 1) := by decide +kernel
theorem d_mo_step_41 : decode bc_mo_step 41 = .ok (.if_icmp .ne 16, 3) := by decide +kernel
theorem d_mo_step_44 : decode bc_mo_step 44 = .ok (.aload_n 0, 1) := by decide +kernel
theorem d_mo_step_45 : decode bc_mo_step 45 = .ok (.bipush 16, 2) := by decide +kernel
theorem d_mo_step_47 : decode bc_mo_step 47 = .ok (.invokevirtual 93, 3) := by decide +kernel
theorem d_mo_step_50 : decode bc_mo_step 50 = .ok (.ifCond .ne 7, 3) := by decide +kernel
theorem d_mo_step_53 : decode bc_mo_step 53 = .ok (.iconst 2, 1) := by decide +kernel
theorem d_mo_step_54 : decode bc_mo_step 54 = .ok (.goto 4, 3) := by decide +kernel
theorem d_mo_step_57 : decode bc_mo_step 57 = .ok (.iconst (-1), 1) := by decide +kernel
theorem d_mo_step_58 : decode bc_mo_step 58 = .ok (.istore_n 1, 1) := by decide +kernel
theorem d_mo_step_59 : decode bc_mo_step 59 = .ok (.iload_n 1, 1) := by decide +kernel
theorem d_mo_step_60 : decode bc_mo_step 60 = .ok (.ifCond .lt 10, 3) := by decide +kernel
theorem d_mo_step_63 : decode bc_mo_step 63 = .ok (.aload_n 0, 1) := by decide +kernel
theorem d_mo_step_64 : decode bc_mo_step 64 = .ok (.iload_n 1, 1) := by decide +kernel
theorem d_mo_step_65 : decode bc_mo_step 65 = .ok (.invokevirtual 217, 3) := by decide +kernel
theorem d_mo_step_68 : decode bc_mo_step 68 = .ok (.iconst 0, 1) := by decide +kernel
theorem d_mo_step_69 : decode bc_mo_step 69 = .ok (.ireturn, 1) := by decide +kernel
theorem d_mo_step_70 : decode bc_mo_step 70 = .ok (.aload_n 0, 1) := by decide +kernel
theorem d_mo_step_71 : decode bc_mo_step 71 = .ok (.getfield 164, 3) := by decide +kernel
theorem d_mo_step_74 : decode bc_mo_step 74 = .ok (.iconst 2, 1) := by decide +kernel
theorem d_mo_step_75 : decode bc_mo_step 75 = .ok (.if_icmp .eq 29, 3) := by decide +kernel
theorem d_mo_step_78 : decode bc_mo_step 78 = .ok (.aload_n 0, 1) := by decide +kernel
theorem d_mo_step_79 : decode bc_mo_step 79 = .ok (.getfield 164, 3) := by decide +kernel
theorem d_mo_step_82 : decode bc_mo_step 82 = .ok (.iconst 1, 1) := by decide +kernel
theorem d_mo_step_83 : decode bc_mo_step 83 = .ok (.if_icmp .ne 23, 3) := by decide +kernel
theorem d_mo_step_86 : decode bc_mo_step 86 = .ok (.aload_n 0, 1) := by decide +kernel
theorem d_mo_step_87 : decode bc_mo_step 87 = .ok (.getfield 19, 3) := by decide +kernel
theorem d_mo_step_90 : decode bc_mo_step 90 = .ok (.iconst 1, 1) := by decide +kernel
theorem d_mo_step_91 : decode bc_mo_step 91 = .ok (.iaload, 1) := by decide +kernel
theorem d_mo_step_92 : decode bc_mo_step 92 = .ok (.ifCond .ne 14, 3) := by decide +kernel
theorem d_mo_step_95 : decode bc_mo_step 95 = .ok (.aload_n 0, 1) := by decide +kernel
theorem d_mo_step_96 : decode bc_mo_step 96 = .ok (.getfield 19, 3) := by decide +kernel
theorem d_mo_step_99 : decode bc_mo_step 99 = .ok (.iconst 2, 1) := by decide +kernel
theorem d_mo_step_100 : decode bc_mo_step 100 = .ok (.iaload, 1) := by decide +kernel
theorem d_mo_step_101 : decode bc_mo_step 101 = .ok (.ifCond .ne 5, 3) := by decide +kernel
theorem d_mo_step_104 : decode bc_mo_step 104 = .ok (.iconst 1, 1) := by decide +kernel
theorem d_mo_step_105 : decode bc_mo_step 105 = .ok (.ireturn, 1) := by decide +kernel
theorem d_mo_step_106 : decode bc_mo_step 106 = .ok (.aload_n 0, 1) := by decide +kernel
theorem d_mo_step_107 : decode bc_mo_step 107 = .ok (.iconst 0, 1) := by decide +kernel
theorem d_mo_step_108 : decode bc_mo_step 108 = .ok (.putfield 164, 3) := by decide +kernel
theorem d_mo_step_111 : decode bc_mo_step 111 = .ok (.aload_n 0, 1) := by decide +kernel
theorem d_mo_step_112 : decode bc_mo_step 112 = .ok (.invokevirtual 220, 3) := by decide +kernel
theorem d_mo_step_115 : decode bc_mo_step 115 = .ok (.ifCond .eq 7, 3) := by decide +kernel
theorem d_mo_step_118 : decode bc_mo_step 118 = .ok (.iconst 0, 1) := by decide +kernel
theorem d_mo_step_119 : decode bc_mo_step 119 = .ok (.goto 4, 3) := by decide +kernel
theorem d_mo_step_122 : decode bc_mo_step 122 = .ok (.iconst 2, 1) := by decide +kernel
theorem d_mo_step_123 : decode bc_mo_step 123 = .ok (.ireturn, 1) := by decide +kernel
theorem d_mo_run_0 : decode bc_mo_run 0 = .ok (.iload_n 1, 1) := by decide +kernel
theorem d_mo_run_1 : decode bc_mo_run 1 = .ok (.iconst 1, 1) := by decide +kernel
theorem d_mo_run_2 : decode bc_mo_run 2 = .ok (.bipush 50, 2) := by decide +kernel
theorem d_mo_run_4 : decode bc_mo_run 4 = .ok (.invokestatic 44, 3) := by decide +kernel
theorem d_mo_run_7 : decode bc_mo_run 7 = .ok (.ifCond .ne 5, 3) := by decide +kernel
theorem d_mo_run_10 : decode bc_mo_run 10 = .ok (.iconst (-1), 1) := by decide +kernel
theorem d_mo_run_11 : decode bc_mo_run 11 = .ok (.ireturn, 1) := by decide +kernel
theorem d_mo_run_12 : decode bc_mo_run 12 = .ok (.iconst 0, 1) := by decide +kernel
theorem d_mo_run_13 : decode bc_mo_run 13 = .ok (.istore_n 2, 1) := by decide +kernel
theorem d_mo_run_14 : decode bc_mo_run 14 = .ok (.iconst 0, 1) := by decide +kernel
theorem d_mo_run_15 : decode bc_mo_run 15 = .ok (.istore_n 3, 1) := by decide +kernel
theorem d_mo_run_16 : decode bc_mo_run 16 = .ok (.iload_n 2, 1) := by decide +kernel
theorem d_mo_run_17 : decode bc_mo_run 17 = .ok (.iload_n 1, 1) := by decide +kernel
theorem d_mo_run_18 : decode bc_mo_run 18 = .ok (.if_icmp .ge 19, 3) := by decide +kernel
theorem d_mo_run_21 : decode bc_mo_run 21 = .ok (.iload_n 3, 1) := by decide +kernel
theorem d_mo_run_22 : decode bc_mo_run 22 = .ok (.ifCond .ne 15, 3) := by decide +kernel
theorem d_mo_run_25 : decode bc_mo_run 25 = .ok (.aload_n 0, 1) := by decide +kernel
theorem d_mo_run_26 : decode bc_mo_run 26 = .ok (.invokevirtual 224, 3) := by decide +kernel
theorem d_mo_run_29 : decode bc_mo_run 29 = .ok (.istore_n 3, 1) := by decide +kernel
theorem d_mo_run_30 : decode bc_mo_run 30 = .ok (.iload_n 2, 1) := by decide +kernel
theorem d_mo_run_31 : decode bc_mo_run 31 = .ok (.iconst 1, 1) := by decide +kernel
theorem d_mo_run_32 : decode bc_mo_run 32 = .ok (.iadd, 1) := by decide +kernel
theorem d_mo_run_33 : decode bc_mo_run 33 = .ok (.istore_n 2, 1) := by decide +kernel
theorem d_mo_run_34 : decode bc_mo_run 34 = .ok (.goto (-18), 3) := by decide +kernel
theorem d_mo_run_37 : decode bc_mo_run 37 = .ok (.iload_n 2, 1) := by decide +kernel
theorem d_mo_run_38 : decode bc_mo_run 38 = .ok (.ireturn, 1) := by decide +kernel
theorem d_mo_reset_0 : decode bc_mo_reset 0 = .ok (.aload_n 0, 1) := by decide +kernel
theorem d_mo_reset_1 : decode bc_mo_reset 1 = .ok (.getfield 13, 3) := by decide +kernel
theorem d_mo_reset_4 : decode bc_mo_reset 4 = .ok (.bipush 7, 2) := by decide +kernel
theorem d_mo_reset_6 : decode bc_mo_reset 6 = .ok (.iconst 0, 1) := by decide +kernel
theorem d_mo_reset_7 : decode bc_mo_reset 7 = .ok (.iastore, 1) := by decide +kernel
theorem d_mo_reset_8 : decode bc_mo_reset 8 = .ok (.aload_n 0, 1) := by decide +kernel
theorem d_mo_reset_9 : decode bc_mo_reset 9 = .ok (.getfield 13, 3) := by decide +kernel
theorem d_mo_reset_12 : decode bc_mo_reset 12 = .ok (.bipush 8, 2) := by decide +kernel
theorem d_mo_reset_14 : decode bc_mo_reset 14 = .ok (.aload_n 0, 1) := by decide +kernel
theorem d_mo_reset_15 : decode bc_mo_reset 15 = .ok (.getfield 13, 3) := by decide +kernel
theorem d_mo_reset_18 : decode bc_mo_reset 18 = .ok (.bipush 8, 2) := by decide +kernel
theorem d_mo_reset_20 : decode bc_mo_reset 20 = .ok (.iaload, 1) := by decide +kernel
theorem d_mo_reset_21 : decode bc_mo_reset 21 = .ok (.bipush 16, 2) := by decide +kernel
theorem d_mo_reset_23 : decode bc_mo_reset 23 = .ok (.ior, 1) := by decide +kernel
theorem d_mo_reset_24 : decode bc_mo_reset 24 = .ok (.bipush 64, 2) := by decide +kernel
theorem d_mo_reset_26 : decode bc_mo_reset 26 = .ok (.ior, 1) := by decide +kernel
theorem d_mo_reset_27 : decode bc_mo_reset 27 = .ok (.iastore, 1) := by decide +kernel
theorem d_mo_reset_28 : decode bc_mo_reset 28 = .ok (.aload_n 0, 1) := by decide +kernel
theorem d_mo_reset_29 : decode bc_mo_reset 29 = .ok (.iconst 0, 1) := by decide +kernel
theorem d_mo_reset_30 : decode bc_mo_reset 30 = .ok (.putfield 90, 3) := by decide +kernel
theorem d_mo_reset_33 : decode bc_mo_reset 33 = .ok (.aload_n 0, 1) := by decide +kernel
theorem d_mo_reset_34 : decode bc_mo_reset 34 = .ok (.iconst 0, 1) := by decide +kernel
theorem d_mo_reset_35 : decode bc_mo_reset 35 = .ok (.putfield 211, 3) := by decide +kernel
theorem d_mo_reset_38 : decode bc_mo_reset 38 = .ok (.aload_n 0, 1) := by decide +kernel
theorem d_mo_reset_39 : decode bc_mo_reset 39 = .ok (.iconst 0, 1) := by decide +kernel
theorem d_mo_reset_40 : decode bc_mo_reset 40 = .ok (.putfield 164, 3) := by decide +kernel
theorem d_mo_reset_43 : decode bc_mo_reset 43 = .ok (.aload_n 0, 1) := by decide +kernel
theorem d_mo_reset_44 : decode bc_mo_reset 44 = .ok (.getfield 13, 3) := by decide +kernel
theorem d_mo_reset_47 : decode bc_mo_reset 47 = .ok (.bipush 6, 2) := by decide +kernel
theorem d_mo_reset_49 : decode bc_mo_reset 49 = .ok (.aload_n 0, 1) := by decide +kernel
theorem d_mo_reset_50 : decode bc_mo_reset 50 = .ok (.ldc 227, 2) := by decide +kernel
theorem d_mo_reset_52 : decode bc_mo_reset 52 = .ok (.invokevirtual 69, 3) := by decide +kernel
theorem d_mo_reset_55 : decode bc_mo_reset 55 = .ok (.iastore, 1) := by decide +kernel
theorem d_mo_reset_56 : decode bc_mo_reset 56 = .ok (.return_, 1) := by decide +kernel
theorem d_mo_poke_0 : decode bc_mo_poke 0 = .ok (.iload_n 1, 1) := by decide +kernel
theorem d_mo_poke_1 : decode bc_mo_poke 1 = .ok (.iconst 0, 1) := by decide +kernel
theorem d_mo_poke_2 : decode bc_mo_poke 2 = .ok (.sipush 4095, 3) := by decide +kernel
theorem d_mo_poke_5 : decode bc_mo_poke 5 = .ok (.invokestatic 44, 3) := by decide +kernel
theorem d_mo_poke_8 : decode bc_mo_poke 8 = .ok (.ifCond .eq 14, 3) := by decide +kernel
theorem d_mo_poke_11 : decode bc_mo_poke 11 = .ok (.iload_n 2, 1) := by decide +kernel
theorem d_mo_poke_12 : decode bc_mo_poke 12 = .ok (.iconst 0, 1) := by decide +kernel
theorem d_mo_poke_13 : decode bc_mo_poke 13 = .ok (.sipush 255, 3) := by decide +kernel
theorem d_mo_poke_16 : decode bc_mo_poke 16 = .ok (.invokestatic 44, 3) := by decide +kernel
theorem d_mo_poke_19 : decode bc_mo_poke 19 = .ok (.ifCond .ne 5, 3) := by decide +kernel
theorem d_mo_poke_22 : decode bc_mo_poke 22 = .ok (.iconst 0, 1) := by decide +kernel
theorem d_mo_poke_23 : decode bc_mo_poke 23 = .ok (.ireturn, 1) := by decide +kernel
theorem d_mo_poke_24 : decode bc_mo_poke 24 = .ok (.aload_n 0, 1) := by decide +kernel
theorem d_mo_poke_25 : decode bc_mo_poke 25 = .ok (.getfield 7, 3) := by decide +kernel
theorem d_mo_poke_28 : decode bc_mo_poke 28 = .ok (.iload_n 1, 1) := by decide +kernel
theorem d_mo_poke_29 : decode bc_mo_poke 29 = .ok (.iload_n 2, 1) := by decide +kernel
theorem d_mo_poke_30 : decode bc_mo_poke 30 = .ok (.iastore, 1) := by decide +kernel
theorem d_mo_poke_31 : decode bc_mo_poke 31 = .ok (.iconst 1, 1) := by decide +kernel
theorem d_mo_poke_32 : decode bc_mo_poke 32 = .ok (.ireturn, 1) := by decide +kernel
theorem d_mo_load_0 : decode bc_mo_load 0 = .ok (.iload_n 3, 1) := by decide +kernel
theorem d_mo_load_1 : decode bc_mo_load 1 = .ok (.iconst 1, 1) := by decide +kernel
theorem d_mo_load_2 : decode bc_mo_load 2 = .ok (.iconst 4, 1) := by decide +kernel
theorem d_mo_load_3 : decode bc_mo_load 3 = .ok (.invokestatic 44, 3) := by decide +kernel
theorem d_mo_load_6 : decode bc_mo_load 6 = .ok (.ifCond .eq 16, 3) := by decide +kernel
theorem d_mo_load_9 : decode bc_mo_load 9 = .ok (.iload_n 1, 1) := by decide +kernel
theorem d_mo_load_10 : decode bc_mo_load 10 = .ok (.ifCond .lt 12, 3) := by decide +kernel
theorem d_mo_load_13 : decode bc_mo_load 13 = .ok (.iload_n 1, 1) := by decide +kernel
theorem d_mo_load_14 : decode bc_mo_load 14 = .ok (.sipush 4096, 3) := by decide +kernel
theorem d_mo_load_17 : decode bc_mo_load 17 = .ok (.iload_n 3, 1) := by decide +kernel
theorem d_mo_load_18 : decode bc_mo_load 18 = .ok (.isub, 1) := by decide +kernel
theorem d_mo_load_19 : decode bc_mo_load 19 = .ok (.if_icmp .le 5, 3) := by decide +kernel
theorem d_mo_load_22 : decode bc_mo_load 22 = .ok (.iconst 0, 1) := by decide +kernel
theorem d_mo_load_23 : decode bc_mo_load 23 = .ok (.ireturn, 1) := by decide +kernel
theorem d_mo_load_24 : decode bc_mo_load 24 = .ok (.iconst 0, 1) := by decide +kernel
theorem d_mo_load_25 : decode bc_mo_load 25 = .ok (.istore 4, 2) := by decide +kernel
theorem d_mo_load_27 : decode bc_mo_load 27 = .ok (.iload 4, 2) := by decide +kernel
theorem d_mo_load_29 : decode bc_mo_load 29 = .ok (.iload_n 3, 1) := by decide +kernel
theorem d_mo_load_30 : decode bc_mo_load 30 = .ok (.if_icmp .ge 33, 3) := by decide +kernel
theorem d_mo_load_33 : decode bc_mo_load 33 = .ok (.aload_n 0, 1) := by decide +kernel
theorem d_mo_load_34 : decode bc_mo_load 34 = .ok (.getfield 7, 3) := by decide +kernel
theorem d_mo_load_37 : decode bc_mo_load 37 = .ok (.iload_n 1, 1) := by decide +kernel
theorem d_mo_load_38 : decode bc_mo_load 38 = .ok (.iload 4, 2) := by decide +kernel
theorem d_mo_load_40 : decode bc_mo_load 40 = .ok (.iadd, 1) := by decide +kernel
theorem d_mo_load_41 : decode bc_mo_load 41 = .ok (.iload_n 2, 1) := by decide +kernel
theorem d_mo_load_42 : decode bc_mo_load 42 = .ok (.bipush 8, 2) := by decide +kernel
theorem d_mo_load_44 : decode bc_mo_load 44 = .ok (.iload_n 3, 1) := by decide +kernel
theorem d_mo_load_45 : decode bc_mo_load 45 = .ok (.iconst 1, 1) := by decide +kernel
theorem d_mo_load_46 : decode bc_mo_load 46 = .ok (.isub, 1) := by decide +kernel
theorem d_mo_load_47 : decode bc_mo_load 47 = .ok (.iload 4, 2) := by decide +kernel
theorem d_mo_load_49 : decode bc_mo_load 49 = .ok (.isub, 1) := by decide +kernel
theorem d_mo_load_50 : decode bc_mo_load 50 = .ok (.imul, 1) := by decide +kernel
theorem d_mo_load_51 : decode bc_mo_load 51 = .ok (.ishr, 1) := by decide +kernel
theorem d_mo_load_52 : decode bc_mo_load 52 = .ok (.sipush 255, 3) := by decide +kernel
theorem d_mo_load_55 : decode bc_mo_load 55 = .ok (.iand, 1) := by decide +kernel
theorem d_mo_load_56 : decode bc_mo_load 56 = .ok (.iastore, 1) := by decide +kernel
theorem d_mo_load_57 : decode bc_mo_load 57 = .ok (.iinc 4 1, 3) := by decide +kernel
theorem d_mo_load_60 : decode bc_mo_load 60 = .ok (.goto (-33), 3) := by decide +kernel
theorem d_mo_load_63 : decode bc_mo_load 63 = .ok (.iconst 1, 1) := by decide +kernel
theorem d_mo_load_64 : decode bc_mo_load 64 = .ok (.ireturn, 1) := by decide +kernel
theorem d_mo_peek_0 : decode bc_mo_peek 0 = .ok (.iload_n 1, 1) := by decide +kernel
theorem d_mo_peek_1 : decode bc_mo_peek 1 = .ok (.iconst 0, 1) := by decide +kernel
theorem d_mo_peek_2 : decode bc_mo_peek 2 = .ok (.sipush 4095, 3) := by decide +kernel
theorem d_mo_peek_5 : decode bc_mo_peek 5 = .ok (.invokestatic 44, 3) := by decide +kernel
theorem d_mo_peek_8 : decode bc_mo_peek 8 = .ok (.ifCond .eq 12, 3) := by decide +kernel
theorem d_mo_peek_11 : decode bc_mo_peek 11 = .ok (.aload_n 0, 1) := by decide +kernel
theorem d_mo_peek_12 : decode bc_mo_peek 12 = .ok (.getfield 7, 3) := by decide +kernel
theorem d_mo_peek_15 : decode bc_mo_peek 15 = .ok (.iload_n 1, 1) := by decide +kernel
theorem d_mo_peek_16 : decode bc_mo_peek 16 = .ok (.iaload, 1) := by decide +kernel
theorem d_mo_peek_17 : decode bc_mo_peek 17 = .ok (.goto 4, 3) := by decide +kernel
theorem d_mo_peek_20 : decode bc_mo_peek 20 = .ok (.iconst (-1), 1) := by decide +kernel
theorem d_mo_peek_21 : decode bc_mo_peek 21 = .ok (.ireturn, 1) := by decide +kernel
theorem d_mo_setLine_0 : decode bc_mo_setLine 0 = .ok (.iload_n 1, 1) := by decide +kernel
theorem d_mo_setLine_1 : decode bc_mo_setLine 1 = .ok (.iconst 0, 1) := by decide +kernel
theorem d_mo_setLine_2 : decode bc_mo_setLine 2 = .ok (.iconst 2, 1) := by decide +kernel
theorem d_mo_setLine_3 : decode bc_mo_setLine 3 = .ok (.invokestatic 44, 3) := by decide +kernel
theorem d_mo_setLine_6 : decode bc_mo_setLine 6 = .ok (.ifCond .eq 12, 3) := by decide +kernel
theorem d_mo_setLine_9 : decode bc_mo_setLine 9 = .ok (.iload_n 2, 1) := by decide +kernel
theorem d_mo_setLine_10 : decode bc_mo_setLine 10 = .ok (.iconst 0, 1) := by decide +kernel
theorem d_mo_setLine_11 : decode bc_mo_setLine 11 = .ok (.iconst 1, 1) := by decide +kernel
theorem d_mo_setLine_12 : decode bc_mo_setLine 12 = .ok (.invokestatic 44, 3) := by decide +kernel
theorem d_mo_setLine_15 : decode bc_mo_setLine 15 = .ok (.ifCond .ne 5, 3) := by decide +kernel
theorem d_mo_setLine_18 : decode bc_mo_setLine 18 = .ok (.iconst 0, 1) := by decide +kernel
theorem d_mo_setLine_19 : decode bc_mo_setLine 19 = .ok (.ireturn, 1) := by decide +kernel
theorem d_mo_setLine_20 : decode bc_mo_setLine 20 = .ok (.aload_n 0, 1) := by decide +kernel
theorem d_mo_setLine_21 : decode bc_mo_setLine 21 = .ok (.aload_n 0, 1) := by decide +kernel
theorem d_mo_setLine_22 : decode bc_mo_setLine 22 = .ok (.getfield 211, 3) := by decide +kernel
theorem d_mo_setLine_25 : decode bc_mo_setLine 25 = .ok (.ifCond .ne 28, 3) := by decide +kernel
theorem d_mo_setLine_28 : decode bc_mo_setLine 28 = .ok (.iload_n 1, 1) := by decide +kernel
theorem d_mo_setLine_29 : decode bc_mo_setLine 29 = .ok (.ifCond .ne 28, 3) := by decide +kernel
theorem d_mo_setLine_32 : decode bc_mo_setLine 32 = .ok (.iload_n 2, 1) := by decide +kernel
theorem d_mo_setLine_33 : decode bc_mo_setLine 33 = .ok (.iconst 1, 1) := by decide +kernel
theorem d_mo_setLine_34 : decode bc_mo_setLine 34 = .ok (.if_icmp .ne 23, 3) := by decide +kernel
theorem d_mo_setLine_37 : decode bc_mo_setLine 37 = .ok (.aload_n 0, 1) := by decide +kernel
theorem d_mo_setLine_38 : decode bc_mo_setLine 38 = .ok (.getfield 19, 3) := by decide +kernel
theorem d_mo_setLine_41 : decode bc_mo_setLine 41 = .ok (.iconst 0, 1) := by decide +kernel
theorem d_mo_setLine_42 : decode bc_mo_setLine 42 = .ok (.iaload, 1) := by decide +kernel
theorem d_mo_setLine_43 : decode bc_mo_setLine 43 = .ok (.ifCond .ne 14, 3) := by decide +kernel
theorem d_mo_setLine_46 : decode bc_mo_setLine 46 = .ok (.aload_n 0, 1) := by decide +kernel
theorem d_mo_setLine_47 : decode bc_mo_setLine 47 = .ok (.getfield 90, 3) := by decide +kernel
theorem d_mo_setLine_50 : decode bc_mo_setLine 50 = .ok (.ifCond .eq 7, 3) := by decide +kernel
theorem d_mo_setLine_53 : decode bc_mo_setLine 53 = .ok (.iconst 1, 1) := by decide +kernel
theorem d_mo_setLine_54 : decode bc_mo_setLine 54 = .ok (.goto 4, 3) := by decide +kernel
theorem d_mo_setLine_57 : decode bc_mo_setLine 57 = .ok (.iconst 0, 1) := by decide +kernel
theorem d_mo_setLine_58 : decode bc_mo_setLine 58 = .ok (.putfield 211, 3) := by decide +kernel
theorem d_mo_setLine_61 : decode bc_mo_setLine 61 = .ok (.aload_n 0, 1) := by decide +kernel
theorem d_mo_setLine_62 : decode bc_mo_setLine 62 = .ok (.getfield 19, 3) := by decide +kernel
theorem d_mo_setLine_65 : decode bc_mo_setLine 65 = .ok (.iload_n 1, 1) := by decide +kernel
theorem d_mo_setLine_66 : decode bc_mo_setLine 66 = .ok (.iload_n 2, 1) := by decide +kernel
theorem d_mo_setLine_67 : decode bc_mo_setLine 67 = .ok (.iastore, 1) := by decide +kernel
theorem d_mo_setLine_68 : decode bc_mo_setLine 68 = .ok (.iconst 1, 1) := by decide +kernel
theorem d_mo_setLine_69 : decode bc_mo_setLine 69 = .ok (.ireturn, 1) := by decide +kernel
theorem d_mo_reg_0 : decode bc_mo_reg 0 = .ok (.iload_n 1, 1) := by decide +kernel
theorem d_mo_reg_1 : decode bc_mo_reg 1 = .ok (.iconst 0, 1) := by decide +kernel
theorem d_mo_reg_2 : decode bc_mo_reg 2 = .ok (.bipush 8, 2) := by decide +kernel
theorem d_mo_reg_4 : decode bc_mo_reg 4 = .ok (.invokestatic 44, 3) := by decide +kernel
theorem d_mo_reg_7 : decode bc_mo_reg 7 = .ok (.ifCond .eq 12, 3) := by decide +kernel
theorem d_mo_reg_10 : decode bc_mo_reg 10 = .ok (.aload_n 0, 1) := by decide +kernel
theorem d_mo_reg_11 : decode bc_mo_reg 11 = .ok (.getfield 13, 3) := by decide +kernel
theorem d_mo_reg_14 : decode bc_mo_reg 14 = .ok (.iload_n 1, 1) := by decide +kernel
theorem d_mo_reg_15 : decode bc_mo_reg 15 = .ok (.iaload, 1) := by decide +kernel
theorem d_mo_reg_16 : decode bc_mo_reg 16 = .ok (.goto 4, 3) := by decide +kernel
theorem d_mo_reg_19 : decode bc_mo_reg 19 = .ok (.iconst (-1), 1) := by decide +kernel
theorem d_mo_reg_20 : decode bc_mo_reg 20 = .ok (.ireturn, 1) := by decide +kernel
theorem d_mo_put_0 : decode bc_mo_put 0 = .ok (.iload_n 1, 1) := by decide +kernel
theorem d_mo_put_1 : decode bc_mo_put 1 = .ok (.iconst 0, 1) := by decide +kernel
theorem d_mo_put_2 : decode bc_mo_put 2 = .ok (.bipush 8, 2) := by decide +kernel
theorem d_mo_put_4 : decode bc_mo_put 4 = .ok (.invokestatic 44, 3) := by decide +kernel
theorem d_mo_put_7 : decode bc_mo_put 7 = .ok (.ifCond .ne 5, 3) := by decide +kernel
theorem d_mo_put_10 : decode bc_mo_put 10 = .ok (.iconst 0, 1) := by decide +kernel
theorem d_mo_put_11 : decode bc_mo_put 11 = .ok (.ireturn, 1) := by decide +kernel
theorem d_mo_put_12 : decode bc_mo_put 12 = .ok (.aload_n 0, 1) := by decide +kernel
theorem d_mo_put_13 : decode bc_mo_put 13 = .ok (.getfield 13, 3) := by decide +kernel
theorem d_mo_put_16 : decode bc_mo_put 16 = .ok (.iload_n 1, 1) := by decide +kernel
theorem d_mo_put_17 : decode bc_mo_put 17 = .ok (.iload_n 2, 1) := by decide +kernel
theorem d_mo_put_18 : decode bc_mo_put 18 = .ok (.iload_n 1, 1) := by decide +kernel
theorem d_mo_put_19 : decode bc_mo_put 19 = .ok (.iconst 2, 1) := by decide +kernel
theorem d_mo_put_20 : decode bc_mo_put 20 = .ok (.bipush 6, 2) := by decide +kernel
theorem d_mo_put_22 : decode bc_mo_put 22 = .ok (.invokestatic 44, 3) := by decide +kernel
theorem d_mo_put_25 : decode bc_mo_put 25 = .ok (.ifCond .eq 8, 3) := by decide +kernel
theorem d_mo_put_28 : decode bc_mo_put 28 = .ok (.ldc 30, 2) := by decide +kernel
theorem d_mo_put_30 : decode bc_mo_put 30 = .ok (.goto 6, 3) := by decide +kernel
theorem d_mo_put_33 : decode bc_mo_put 33 = .ok (.sipush 255, 3) := by decide +kernel
theorem d_mo_put_36 : decode bc_mo_put 36 = .ok (.iand, 1) := by decide +kernel
theorem d_mo_put_37 : decode bc_mo_put 37 = .ok (.iastore, 1) := by decide +kernel
theorem d_mo_put_38 : decode bc_mo_put 38 = .ok (.iconst 1, 1) := by decide +kernel
theorem d_mo_put_39 : decode bc_mo_put 39 = .ok (.ireturn, 1) := by decide +kernel
theorem d_mo_waits_0 : decode bc_mo_waits 0 = .ok (.aload_n 0, 1) := by decide +kernel
theorem d_mo_waits_1 : decode bc_mo_waits 1 = .ok (.getfield 164, 3) := by decide +kernel
theorem d_mo_waits_4 : decode bc_mo_waits 4 = .ok (.ireturn, 1) := by decide +kernel
theorem d_mo_lines_0 : decode bc_mo_lines 0 = .ok (.aload_n 0, 1) := by decide +kernel
theorem d_mo_lines_1 : decode bc_mo_lines 1 = .ok (.getfield 90, 3) := by decide +kernel
theorem d_mo_lines_4 : decode bc_mo_lines 4 = .ok (.ifCond .eq 7, 3) := by decide +kernel
theorem d_mo_lines_7 : decode bc_mo_lines 7 = .ok (.iconst 1, 1) := by decide +kernel
theorem d_mo_lines_8 : decode bc_mo_lines 8 = .ok (.goto 4, 3) := by decide +kernel
theorem d_mo_lines_11 : decode bc_mo_lines 11 = .ok (.iconst 0, 1) := by decide +kernel
theorem d_mo_lines_12 : decode bc_mo_lines 12 = .ok (.aload_n 0, 1) := by decide +kernel
theorem d_mo_lines_13 : decode bc_mo_lines 13 = .ok (.getfield 211, 3) := by decide +kernel
theorem d_mo_lines_16 : decode bc_mo_lines 16 = .ok (.ifCond .eq 7, 3) := by decide +kernel
theorem d_mo_lines_19 : decode bc_mo_lines 19 = .ok (.iconst 2, 1) := by decide +kernel
theorem d_mo_lines_20 : decode bc_mo_lines 20 = .ok (.goto 4, 3) := by decide +kernel
theorem d_mo_lines_23 : decode bc_mo_lines 23 = .ok (.iconst 0, 1) := by decide +kernel
theorem d_mo_lines_24 : decode bc_mo_lines 24 = .ok (.iadd, 1) := by decide +kernel
theorem d_mo_lines_25 : decode bc_mo_lines 25 = .ok (.iconst 4, 1) := by decide +kernel
theorem d_mo_lines_26 : decode bc_mo_lines 26 = .ok (.aload_n 0, 1) := by decide +kernel
theorem d_mo_lines_27 : decode bc_mo_lines 27 = .ok (.getfield 19, 3) := by decide +kernel
theorem d_mo_lines_30 : decode bc_mo_lines 30 = .ok (.iconst 0, 1) := by decide +kernel
theorem d_mo_lines_31 : decode bc_mo_lines 31 = .ok (.iaload, 1) := by decide +kernel
theorem d_mo_lines_32 : decode bc_mo_lines 32 = .ok (.imul, 1) := by decide +kernel
theorem d_mo_lines_33 : decode bc_mo_lines 33 = .ok (.iadd, 1) := by decide +kernel
theorem d_mo_lines_34 : decode bc_mo_lines 34 = .ok (.bipush 8, 2) := by decide +kernel
theorem d_mo_lines_36 : decode bc_mo_lines 36 = .ok (.aload_n 0, 1) := by decide +kernel
theorem d_mo_lines_37 : decode bc_mo_lines 37 = .ok (.getfield 19, 3) := by decide +kernel
theorem d_mo_lines_40 : decode bc_mo_lines 40 = .ok (.iconst 1, 1) := by decide +kernel
theorem d_mo_lines_41 : decode bc_mo_lines 41 = .ok (.iaload, 1) := by decide +kernel
theorem d_mo_lines_42 : decode bc_mo_lines 42 = .ok (.imul, 1) := by decide +kernel
theorem d_mo_lines_43 : decode bc_mo_lines 43 = .ok (.iadd, 1) := by decide +kernel
theorem d_mo_lines_44 : decode bc_mo_lines 44 = .ok (.bipush 16, 2) := by decide +kernel
theorem d_mo_lines_46 : decode bc_mo_lines 46 = .ok (.aload_n 0, 1) := by decide +kernel
theorem d_mo_lines_47 : decode bc_mo_lines 47 = .ok (.getfield 19, 3) := by decide +kernel
theorem d_mo_lines_50 : decode bc_mo_lines 50 = .ok (.iconst 2, 1) := by decide +kernel
theorem d_mo_lines_51 : decode bc_mo_lines 51 = .ok (.iaload, 1) := by decide +kernel
theorem d_mo_lines_52 : decode bc_mo_lines 52 = .ok (.imul, 1) := by decide +kernel
theorem d_mo_lines_53 : decode bc_mo_lines 53 = .ok (.iadd, 1) := by decide +kernel
theorem d_mo_lines_54 : decode bc_mo_lines 54 = .ok (.ireturn, 1) := by decide +kernel
theorem d_me_init_0 : decode bc_me_init 0 = .ok (.aload_n 0, 1) := by decide +kernel
theorem d_me_init_1 : decode bc_me_init 1 = .ok (.invokespecial 3, 3) := by decide +kernel
theorem d_me_init_4 : decode bc_me_init 4 = .ok (.aload_n 0, 1) := by decide +kernel
theorem d_me_init_5 : decode bc_me_init 5 = .ok (.sipush 4096, 3) := by decide +kernel
theorem d_me_init_8 : decode bc_me_init 8 = .ok (.newarray .int, 2) := by decide +kernel
theorem d_me_init_10 : decode bc_me_init 10 = .ok (.putfield 9, 3) := by decide +kernel
theorem d_me_init_13 : decode bc_me_init 13 = .ok (.return_, 1) := by decide +kernel
theorem d_re_init_0 : decode bc_re_init 0 = .ok (.aload_n 0, 1) := by decide +kernel
theorem d_re_init_1 : decode bc_re_init 1 = .ok (.invokespecial 3, 3) := by decide +kernel
theorem d_re_init_4 : decode bc_re_init 4 = .ok (.aload_n 0, 1) := by decide +kernel
theorem d_re_init_5 : decode bc_re_init 5 = .ok (.bipush 9, 2) := by decide +kernel
theorem d_re_init_7 : decode bc_re_init 7 = .ok (.newarray .int, 2) := by decide +kernel
theorem d_re_init_9 : decode bc_re_init 9 = .ok (.putfield 9, 3) := by decide +kernel
theorem d_re_init_12 : decode bc_re_init 12 = .ok (.return_, 1) := by decide +kernel
theorem d_ar_init_0 : decode bc_ar_init 0 = .ok (.aload_n 0, 1) := by decide +kernel
theorem d_ar_init_1 : decode bc_ar_init 1 = .ok (.invokespecial 3, 3) := by decide +kernel
theorem d_ar_init_4 : decode bc_ar_init 4 = .ok (.aload_n 0, 1) := by decide +kernel
theorem d_ar_init_5 : decode bc_ar_init 5 = .ok (.aload_n 1, 1) := by decide +kernel
theorem d_ar_init_6 : decode bc_ar_init 6 = .ok (.putfield 9, 3) := by decide +kernel
theorem d_ar_init_9 : decode bc_ar_init 9 = .ok (.return_, 1) := by decide +kernel
theorem d_tc_init_0 : decode bc_tc_init 0 = .ok (.aload_n 0, 1) := by decide +kernel
theorem d_tc_init_1 : decode bc_tc_init 1 = .ok (.invokespecial 1, 3) := by decide +kernel
theorem d_tc_init_4 : decode bc_tc_init 4 = .ok (.aload_n 0, 1) := by decide +kernel
theorem d_tc_init_5 : decode bc_tc_init 5 = .ok (.new 7, 3) := by decide +kernel
theorem d_tc_init_8 : decode bc_tc_init 8 = .ok (.dup, 1) := by decide +kernel
theorem d_tc_init_9 : decode bc_tc_init 9 = .ok (.invokespecial 9, 3) := by decide +kernel
theorem d_tc_init_12 : decode bc_tc_init 12 = .ok (.putfield 10, 3) := by decide +kernel
theorem d_tc_init_15 : decode bc_tc_init 15 = .ok (.aload_n 0, 1) := by decide +kernel
theorem d_tc_init_16 : decode bc_tc_init 16 = .ok (.new 16, 3) := by decide +kernel
theorem d_tc_init_19 : decode bc_tc_init 19 = .ok (.dup, 1) := by decide +kernel
theorem d_tc_init_20 : decode bc_tc_init 20 = .ok (.invokespecial 18, 3) := by decide +kernel
theorem d_tc_init_23 : decode bc_tc_init 23 = .ok (.putfield 19, 3) := by decide +kernel
theorem d_tc_init_26 : decode bc_tc_init 26 = .ok (.aload_n 0, 1) := by decide +kernel
theorem d_tc_init_27 : decode bc_tc_init 27 = .ok (.new 23, 3) := by decide +kernel
theorem d_tc_init_30 : decode bc_tc_init 30 = .ok (.dup, 1) := by decide +kernel
theorem d_tc_init_31 : decode bc_tc_init 31 = .ok (.aload_n 0, 1) := by decide +kernel
theorem d_tc_init_32 : decode bc_tc_init 32 = .ok (.getfield 19, 3) := by decide +kernel
theorem d_tc_init_35 : decode bc_tc_init 35 = .ok (.invokespecial 25, 3) := by decide +kernel
theorem d_tc_init_38 : decode bc_tc_init 38 = .ok (.putfield 28, 3) := by decide +kernel
theorem d_tc_init_41 : decode bc_tc_init 41 = .ok (.aload_n 0, 1) := by decide +kernel
theorem d_tc_init_42 : decode bc_tc_init 42 = .ok (.iconst 3, 1) := by decide +kernel
theorem d_tc_init_43 : decode bc_tc_init 43 = .ok (.newarray .int, 2) := by decide +kernel
theorem d_tc_init_45 : decode bc_tc_init 45 = .ok (.putfield 32, 3) := by decide +kernel
theorem d_tc_init_48 : decode bc_tc_init 48 = .ok (.return_, 1) := by decide +kernel
theorem d_mo_init_0 : decode bc_mo_init 0 = .ok (.aload_n 0, 1) := by decide +kernel
theorem d_mo_init_1 : decode bc_mo_init 1 = .ok (.invokespecial 1, 3) := by decide +kernel
theorem d_mo_init_4 : decode bc_mo_init 4 = .ok (.aload_n 0, 1) := by decide +kernel
theorem d_mo_init_5 : decode bc_mo_init 5 = .ok (.sipush 4096, 3) := by decide +kernel
theorem d_mo_init_8 : decode bc_mo_init 8 = .ok (.newarray .int, 2) := by decide +kernel
theorem d_mo_init_10 : decode bc_mo_init 10 = .ok (.putfield 7, 3) := by decide +kernel
theorem d_mo_init_13 : decode bc_mo_init 13 = .ok (.aload_n 0, 1) := by decide +kernel
theorem d_mo_init_14 : decode bc_mo_init 14 = .ok (.bipush 9, 2) := by decide +kernel
theorem d_mo_init_16 : decode bc_mo_init 16 = .ok (.newarray .int, 2) := by decide +kernel
theorem d_mo_init_18 : decode bc_mo_init 18 = .ok (.putfield 13, 3) := by decide +kernel
theorem d_mo_init_21 : decode bc_mo_init 21 = .ok (.aload_n 0, 1) := by decide +kernel
theorem d_mo_init_22 : decode bc_mo_init 22 = .ok (.bipush 9, 2) := by decide +kernel
theorem d_mo_init_24 : decode bc_mo_init 24 = .ok (.newarray .int, 2) := by decide +kernel
theorem d_mo_init_26 : decode bc_mo_init 26 = .ok (.putfield 16, 3) := by decide +kernel
theorem d_mo_init_29 : decode bc_mo_init 29 = .ok (.aload_n 0, 1) := by decide +kernel
theorem d_mo_init_30 : decode bc_mo_init 30 = .ok (.iconst 3, 1) := by decide +kernel
theorem d_mo_init_31 : decode bc_mo_init 31 = .ok (.newarray .int, 2) := by decide +kernel
theorem d_mo_init_33 : decode bc_mo_init 33 = .ok (.putfield 19, 3) := by decide +kernel
theorem d_mo_init_36 : decode bc_mo_init 36 = .ok (.return_, 1) := by decide +kernel
end
section
-- the words that go through every call
def CW : List Cond := lw_tbl.filter goodWord
theorem cw_mem {w : Cond} (h1 : w ∈ lw_tbl) (h2 : goodWord w = true) : w ∈ CW := List.mem_filter.mpr ⟨h1, h2⟩
theorem cw_i {w : Cond} (i : Nat) (h1 : lw_tbl[i]? = some w) (h2 : goodWord w = true) : w ∈ CW := cw_mem (List.mem_of_getElem? h1) h2
theorem cw_good : ∀ w ∈ CW, goodWord w = true := fun _ h => (List.mem_filter.mp h).2
theorem cw_in {ws : List Cond} (h : ∀ w ∈ ws, w ∈ CW) : GoodIn CW ws := fun w hw => ⟨h w hw, good_of_word (cw_good w (h w hw))⟩
def Mw0 (y : MethodName) (b : ByteArray) (n : Nat) (ret : Option FieldType) (k : Nat) : Prop := Cond.initialized y.cls ∈ CW ∧ Cond.code y b n ret ∈ CW ∧ y.cls ≠ "java/lang/invoke/MethodHandle" ∧ y.cls ≠ "java/lang/invoke/VarHandle" ∧ (parseMethodDescriptor y.desc).map (fun d => d.parameters.length) = some k
def MwV (y : MethodName) (b : ByteArray) (n : Nat) (ret : Option FieldType) (k : Nat) : Prop := Mw0 y b n ret k ∧ Cond.instanceMethod y ∈ CW ∧ Cond.selects y.cls y y ∈ CW
def MwS (y : MethodName) (b : ByteArray) (n : Nat) (ret : Option FieldType) (k : Nat) : Prop := Mw0 y b n ret k ∧ Cond.static y ∈ CW
end
section
set_option maxRecDepth 20000 in
theorem u_chip : ∀ w ∈ u_ws R_chip F_chip 7, w ∈ CW := fun w hw => cw_mem ((show ∀ w ∈ u_ws R_chip F_chip 7, w ∈ lw_tbl by decide +kernel) w hw) ((show ∀ w ∈ u_ws R_chip F_chip 7, goodWord w = true by decide +kernel) w hw)
set_option maxRecDepth 20000 in
theorem u_mem : ∀ w ∈ u_ws R_mem F_mem 1, w ∈ CW := fun w hw => cw_mem ((show ∀ w ∈ u_ws R_mem F_mem 1, w ∈ lw_tbl by decide +kernel) w hw) ((show ∀ w ∈ u_ws R_mem F_mem 1, goodWord w = true by decide +kernel) w hw)
set_option maxRecDepth 20000 in
theorem u_reg : ∀ w ∈ u_ws R_reg F_reg 1, w ∈ CW := fun w hw => cw_mem ((show ∀ w ∈ u_ws R_reg F_reg 1, w ∈ lw_tbl by decide +kernel) w hw) ((show ∀ w ∈ u_ws R_reg F_reg 1, goodWord w = true by decide +kernel) w hw)
set_option maxRecDepth 20000 in
theorem u_ari : ∀ w ∈ u_ws R_ari F_ari 1, w ∈ CW := fun w hw => cw_mem ((show ∀ w ∈ u_ws R_ari F_ari 1, w ∈ lw_tbl by decide +kernel) w hw) ((show ∀ w ∈ u_ws R_ari F_ari 1, goodWord w = true by decide +kernel) w hw)
set_option maxRecDepth 20000 in
theorem u_mod : ∀ w ∈ u_ws R_mod F_mod 8, w ∈ CW := fun w hw => cw_mem ((show ∀ w ∈ u_ws R_mod F_mod 8, w ∈ lw_tbl by decide +kernel) w hw) ((show ∀ w ∈ u_ws R_mod F_mod 8, goodWord w = true by decide +kernel) w hw)
theorem kc_ar_65 : Cond.constant R_ari 65 (32768 : Int32) ∈ CW := cw_i 303 (by decide +kernel) rfl
theorem kc_mo_30 : Cond.constant R_mod 30 (65535 : Int32) ∈ CW := cw_i 536 (by decide +kernel) rfl
theorem kc_mo_35 : Cond.constant R_mod 35 (32768 : Int32) ∈ CW := cw_i 618 (by decide +kernel) rfl
theorem kc_mo_43 : Cond.constant R_mod 43 (65536 : Int32) ∈ CW := cw_i 619 (by decide +kernel) rfl
theorem kc_mo_190 : Cond.constant R_mod 190 (65530 : Int32) ∈ CW := cw_i 735 (by decide +kernel) rfl
theorem kc_mo_194 : Cond.constant R_mod 194 (65524 : Int32) ∈ CW := cw_i 586 (by decide +kernel) rfl
theorem kc_mo_195 : Cond.constant R_mod 195 (65522 : Int32) ∈ CW := cw_i 651 (by decide +kernel) rfl
theorem kc_mo_214 : Cond.constant R_mod 214 (65532 : Int32) ∈ CW := cw_i 545 (by decide +kernel) rfl
theorem kc_mo_215 : Cond.constant R_mod 215 (65526 : Int32) ∈ CW := cw_i 546 (by decide +kernel) rfl
theorem kc_mo_216 : Cond.constant R_mod 216 (65528 : Int32) ∈ CW := cw_i 547 (by decide +kernel) rfl
theorem kc_mo_227 : Cond.constant R_mod 227 (65534 : Int32) ∈ CW := cw_i 745 (by decide +kernel) rfl
theorem kc_re_15 : Cond.constant R_reg 15 (65535 : Int32) ∈ CW := cw_i 164 (by decide +kernel) rfl
theorem kc_tc_55 : Cond.constant R_chip 55 (65534 : Int32) ∈ CW := cw_i 169 (by decide +kernel) rfl
theorem kc_tc_138 : Cond.constant R_chip 138 (65535 : Int32) ∈ CW := cw_i 343 (by decide +kernel) rfl
theorem kc_tc_234 : Cond.constant R_chip 234 (32768 : Int32) ∈ CW := cw_i 429 (by decide +kernel) rfl
theorem ks_tc_107 : Cond.fieldLink R_chip 107 R_chip (tnm 0) "[I" ∈ CW := cw_i 236 (by decide +kernel) rfl
theorem ks_tc_110 : Cond.fieldLink R_chip 110 R_chip (tnm 1) "[I" ∈ CW := cw_i 380 (by decide +kernel) rfl
theorem ks_tc_116 : Cond.fieldLink R_chip 116 R_chip (tnm 2) "[I" ∈ CW := cw_i 254 (by decide +kernel) rfl
theorem ks_tc_129 : Cond.fieldLink R_chip 129 R_chip (tnm 3) "[I" ∈ CW := cw_i 265 (by decide +kernel) rfl
theorem ks_tc_179 : Cond.fieldLink R_chip 179 R_chip (tnm 4) "[I" ∈ CW := cw_i 337 (by decide +kernel) rfl
theorem mw_me_has : MwS y_me_has bc_me_has 1 (some .boolean) 1 := ⟨⟨cw_i 91 (by decide +kernel) rfl, cw_i 180 (by decide +kernel) rfl, by decide, by decide, by decide +kernel⟩, cw_i 179 (by decide +kernel) rfl⟩
theorem mw_me_byteAt : MwV y_me_byteAt bc_me_byteAt 2 (some .int) 1 := ⟨⟨cw_i 91 (by decide +kernel) rfl, cw_i 196 (by decide +kernel) rfl, by decide, by decide, by decide +kernel⟩, cw_i 194 (by decide +kernel) rfl, cw_i 195 (by decide +kernel) rfl⟩
theorem mw_me_setByte : MwV y_me_setByte bc_me_setByte 3 none 2 := ⟨⟨cw_i 91 (by decide +kernel) rfl, cw_i 184 (by decide +kernel) rfl, by decide, by decide, by decide +kernel⟩, cw_i 182 (by decide +kernel) rfl, cw_i 183 (by decide +kernel) rfl⟩
theorem mw_me_wordAt : MwV y_me_wordAt bc_me_wordAt 2 (some .int) 1 := ⟨⟨cw_i 91 (by decide +kernel) rfl, cw_i 173 (by decide +kernel) rfl, by decide, by decide, by decide +kernel⟩, cw_i 171 (by decide +kernel) rfl, cw_i 172 (by decide +kernel) rfl⟩
theorem mw_me_setWord : MwV y_me_setWord bc_me_setWord 3 none 2 := ⟨⟨cw_i 91 (by decide +kernel) rfl, cw_i 228 (by decide +kernel) rfl, by decide, by decide, by decide +kernel⟩, cw_i 226 (by decide +kernel) rfl, cw_i 227 (by decide +kernel) rfl⟩
theorem mw_re_get : MwV y_re_get bc_re_get 2 (some .int) 1 := ⟨⟨cw_i 92 (by decide +kernel) rfl, cw_i 220 (by decide +kernel) rfl, by decide, by decide, by decide +kernel⟩, cw_i 218 (by decide +kernel) rfl, cw_i 219 (by decide +kernel) rfl⟩
theorem mw_re_set : MwV y_re_set bc_re_set 4 none 2 := ⟨⟨cw_i 92 (by decide +kernel) rfl, cw_i 163 (by decide +kernel) rfl, by decide, by decide, by decide +kernel⟩, cw_i 161 (by decide +kernel) rfl, cw_i 162 (by decide +kernel) rfl⟩
theorem mw_re_has : MwV y_re_has bc_re_has 2 (some .boolean) 1 := ⟨⟨cw_i 92 (by decide +kernel) rfl, cw_i 208 (by decide +kernel) rfl, by decide, by decide, by decide +kernel⟩, cw_i 206 (by decide +kernel) rfl, cw_i 207 (by decide +kernel) rfl⟩
theorem mw_re_turn : MwV y_re_turn bc_re_turn 3 none 2 := ⟨⟨cw_i 92 (by decide +kernel) rfl, cw_i 168 (by decide +kernel) rfl, by decide, by decide, by decide +kernel⟩, cw_i 166 (by decide +kernel) rfl, cw_i 167 (by decide +kernel) rfl⟩
theorem mw_re_carry : MwV y_re_carry bc_re_carry 1 (some .int) 0 := ⟨⟨cw_i 92 (by decide +kernel) rfl, cw_i 397 (by decide +kernel) rfl, by decide, by decide, by decide +kernel⟩, cw_i 395 (by decide +kernel) rfl, cw_i 396 (by decide +kernel) rfl⟩
theorem mw_re_setSign : MwV y_re_setSign bc_re_setSign 5 none 2 := ⟨⟨cw_i 92 (by decide +kernel) rfl, cw_i 298 (by decide +kernel) rfl, by decide, by decide, by decide +kernel⟩, cw_i 296 (by decide +kernel) rfl, cw_i 297 (by decide +kernel) rfl⟩
theorem mw_re_meetsEven : MwV y_re_meetsEven bc_re_meetsEven 3 (some .boolean) 1 := ⟨⟨cw_i 92 (by decide +kernel) rfl, cw_i 331 (by decide +kernel) rfl, by decide, by decide, by decide +kernel⟩, cw_i 330 (by decide +kernel) rfl, cw_i 18 (by decide +kernel) rfl⟩
theorem mw_re_meets : MwV y_re_meets bc_re_meets 3 (some .boolean) 1 := ⟨⟨cw_i 92 (by decide +kernel) rfl, cw_i 327 (by decide +kernel) rfl, by decide, by decide, by decide +kernel⟩, cw_i 325 (by decide +kernel) rfl, cw_i 326 (by decide +kernel) rfl⟩
theorem mw_ar_pass : MwV y_ar_pass bc_ar_pass 3 (some .int) 2 := ⟨⟨cw_i 93 (by decide +kernel) rfl, cw_i 307 (by decide +kernel) rfl, by decide, by decide, by decide +kernel⟩, cw_i 305 (by decide +kernel) rfl, cw_i 306 (by decide +kernel) rfl⟩
theorem mw_ar_add : MwV y_ar_add bc_ar_add 7 (some .int) 4 := ⟨⟨cw_i 93 (by decide +kernel) rfl, cw_i 434 (by decide +kernel) rfl, by decide, by decide, by decide +kernel⟩, cw_i 432 (by decide +kernel) rfl, cw_i 433 (by decide +kernel) rfl⟩
theorem mw_ar_subtract : MwV y_ar_subtract bc_ar_subtract 7 (some .int) 4 := ⟨⟨cw_i 93 (by decide +kernel) rfl, cw_i 389 (by decide +kernel) rfl, by decide, by decide, by decide +kernel⟩, cw_i 387 (by decide +kernel) rfl, cw_i 388 (by decide +kernel) rfl⟩
theorem mw_ar_addByte : MwV y_ar_addByte bc_ar_addByte 4 (some .int) 3 := ⟨⟨cw_i 93 (by decide +kernel) rfl, cw_i 447 (by decide +kernel) rfl, by decide, by decide, by decide +kernel⟩, cw_i 446 (by decide +kernel) rfl, cw_i 38 (by decide +kernel) rfl⟩
theorem mw_ar_combine : MwV y_ar_combine bc_ar_combine 4 (some .int) 3 := ⟨⟨cw_i 93 (by decide +kernel) rfl, cw_i 443 (by decide +kernel) rfl, by decide, by decide, by decide +kernel⟩, cw_i 441 (by decide +kernel) rfl, cw_i 442 (by decide +kernel) rfl⟩
theorem mw_ar_shiftDown : MwV y_ar_shiftDown bc_ar_shiftDown 4 (some .int) 2 := ⟨⟨cw_i 93 (by decide +kernel) rfl, cw_i 393 (by decide +kernel) rfl, by decide, by decide, by decide +kernel⟩, cw_i 392 (by decide +kernel) rfl, cw_i 29 (by decide +kernel) rfl⟩
theorem mw_ar_shiftUp : MwV y_ar_shiftUp bc_ar_shiftUp 4 (some .int) 2 := ⟨⟨cw_i 93 (by decide +kernel) rfl, cw_i 401 (by decide +kernel) rfl, by decide, by decide, by decide +kernel⟩, cw_i 400 (by decide +kernel) rfl, cw_i 30 (by decide +kernel) rfl⟩
theorem mw_ar_count : MwV y_ar_count bc_ar_count 3 (some .int) 2 := ⟨⟨cw_i 93 (by decide +kernel) rfl, cw_i 405 (by decide +kernel) rfl, by decide, by decide, by decide +kernel⟩, cw_i 404 (by decide +kernel) rfl, cw_i 31 (by decide +kernel) rfl⟩
theorem mw_ar_alter : MwV y_ar_alter bc_ar_alter 3 (some .int) 2 := ⟨⟨cw_i 93 (by decide +kernel) rfl, cw_i 385 (by decide +kernel) rfl, by decide, by decide, by decide +kernel⟩, cw_i 383 (by decide +kernel) rfl, cw_i 384 (by decide +kernel) rfl⟩
theorem mw_ar_adjustDecimal : MwV y_ar_adjustDecimal bc_ar_adjustDecimal 5 none 0 := ⟨⟨cw_i 93 (by decide +kernel) rfl, cw_i 290 (by decide +kernel) rfl, by decide, by decide, by decide +kernel⟩, cw_i 288 (by decide +kernel) rfl, cw_i 289 (by decide +kernel) rfl⟩
theorem mw_ar_extendSign : MwV y_ar_extendSign bc_ar_extendSign 1 none 0 := ⟨⟨cw_i 93 (by decide +kernel) rfl, cw_i 302 (by decide +kernel) rfl, by decide, by decide, by decide +kernel⟩, cw_i 300 (by decide +kernel) rfl, cw_i 301 (by decide +kernel) rfl⟩
theorem mw_ar_multiply : MwV y_ar_multiply bc_ar_multiply 2 none 0 := ⟨⟨cw_i 93 (by decide +kernel) rfl, cw_i 375 (by decide +kernel) rfl, by decide, by decide, by decide +kernel⟩, cw_i 373 (by decide +kernel) rfl, cw_i 374 (by decide +kernel) rfl⟩
theorem mw_tc_reset : MwV y_tc_reset bc_tc_reset 1 none 0 := ⟨⟨cw_i 90 (by decide +kernel) rfl, cw_i 159 (by decide +kernel) rfl, by decide, by decide, by decide +kernel⟩, cw_i 157 (by decide +kernel) rfl, cw_i 158 (by decide +kernel) rfl⟩
theorem mw_tc_poke : MwV y_tc_poke bc_tc_poke 3 (some .boolean) 2 := ⟨⟨cw_i 90 (by decide +kernel) rfl, cw_i 177 (by decide +kernel) rfl, by decide, by decide, by decide +kernel⟩, cw_i 175 (by decide +kernel) rfl, cw_i 176 (by decide +kernel) rfl⟩
theorem mw_tc_load : MwV y_tc_load bc_tc_load 5 (some .boolean) 3 := ⟨⟨cw_i 90 (by decide +kernel) rfl, cw_i 188 (by decide +kernel) rfl, by decide, by decide, by decide +kernel⟩, cw_i 186 (by decide +kernel) rfl, cw_i 187 (by decide +kernel) rfl⟩
theorem mw_tc_peek : MwV y_tc_peek bc_tc_peek 2 (some .int) 1 := ⟨⟨cw_i 90 (by decide +kernel) rfl, cw_i 192 (by decide +kernel) rfl, by decide, by decide, by decide +kernel⟩, cw_i 190 (by decide +kernel) rfl, cw_i 191 (by decide +kernel) rfl⟩
theorem mw_tc_lineToServe : MwV y_tc_lineToServe bc_tc_lineToServe 1 (some .int) 0 := ⟨⟨cw_i 90 (by decide +kernel) rfl, cw_i 204 (by decide +kernel) rfl, by decide, by decide, by decide +kernel⟩, cw_i 203 (by decide +kernel) rfl, cw_i 0 (by decide +kernel) rfl⟩
theorem mw_tc_pushWord : MwV y_tc_pushWord bc_tc_pushWord 3 none 2 := ⟨⟨cw_i 90 (by decide +kernel) rfl, cw_i 224 (by decide +kernel) rfl, by decide, by decide, by decide +kernel⟩, cw_i 223 (by decide +kernel) rfl, cw_i 3 (by decide +kernel) rfl⟩
theorem mw_tc_otherStack : MwS y_tc_otherStack bc_tc_otherStack 1 (some .int) 1 := ⟨⟨cw_i 90 (by decide +kernel) rfl, cw_i 231 (by decide +kernel) rfl, by decide, by decide, by decide +kernel⟩, cw_i 230 (by decide +kernel) rfl⟩
theorem mw_tc_pushByte : MwV y_tc_pushByte bc_tc_pushByte 3 none 2 := ⟨⟨cw_i 90 (by decide +kernel) rfl, cw_i 235 (by decide +kernel) rfl, by decide, by decide, by decide +kernel⟩, cw_i 234 (by decide +kernel) rfl, cw_i 4 (by decide +kernel) rfl⟩
theorem mw_tc_pushRegisters : MwV y_tc_pushRegisters bc_tc_pushRegisters 3 none 2 := ⟨⟨cw_i 90 (by decide +kernel) rfl, cw_i 216 (by decide +kernel) rfl, by decide, by decide, by decide +kernel⟩, cw_i 215 (by decide +kernel) rfl, cw_i 2 (by decide +kernel) rfl⟩
theorem mw_tc_serve : MwV y_tc_serve bc_tc_serve 2 none 1 := ⟨⟨cw_i 90 (by decide +kernel) rfl, cw_i 212 (by decide +kernel) rfl, by decide, by decide, by decide +kernel⟩, cw_i 211 (by decide +kernel) rfl, cw_i 1 (by decide +kernel) rfl⟩
theorem mw_tc_staysWaiting : MwV y_tc_staysWaiting bc_tc_staysWaiting 1 (some .boolean) 0 := ⟨⟨cw_i 90 (by decide +kernel) rfl, cw_i 241 (by decide +kernel) rfl, by decide, by decide, by decide +kernel⟩, cw_i 240 (by decide +kernel) rfl, cw_i 5 (by decide +kernel) rfl⟩
theorem mw_tc_fetchByte : MwV y_tc_fetchByte bc_tc_fetchByte 2 (some .int) 0 := ⟨⟨cw_i 90 (by decide +kernel) rfl, cw_i 249 (by decide +kernel) rfl, by decide, by decide, by decide +kernel⟩, cw_i 248 (by decide +kernel) rfl, cw_i 7 (by decide +kernel) rfl⟩
theorem mw_tc_fetchCode : MwV y_tc_fetchCode bc_tc_fetchCode 2 (some .int) 0 := ⟨⟨cw_i 90 (by decide +kernel) rfl, cw_i 245 (by decide +kernel) rfl, by decide, by decide, by decide +kernel⟩, cw_i 244 (by decide +kernel) rfl, cw_i 6 (by decide +kernel) rfl⟩
theorem mw_tc_isIndexed : MwS y_tc_isIndexed bc_tc_isIndexed 2 (some .boolean) 1 := ⟨⟨cw_i 90 (by decide +kernel) rfl, cw_i 258 (by decide +kernel) rfl, by decide, by decide, by decide +kernel⟩, cw_i 257 (by decide +kernel) rfl⟩
theorem mw_tc_isDefinedPostbyte : MwS y_tc_isDefinedPostbyte bc_tc_isDefinedPostbyte 2 (some .boolean) 1 := ⟨⟨cw_i 90 (by decide +kernel) rfl, cw_i 261 (by decide +kernel) rfl, by decide, by decide, by decide +kernel⟩, cw_i 260 (by decide +kernel) rfl⟩
theorem mw_tc_isDefinedPair : MwS y_tc_isDefinedPair bc_tc_isDefinedPair 3 (some .boolean) 2 := ⟨⟨cw_i 90 (by decide +kernel) rfl, cw_i 264 (by decide +kernel) rfl, by decide, by decide, by decide +kernel⟩, cw_i 263 (by decide +kernel) rfl⟩
theorem mw_tc_isDefined : MwV y_tc_isDefined bc_tc_isDefined 3 (some .boolean) 1 := ⟨⟨cw_i 90 (by decide +kernel) rfl, cw_i 253 (by decide +kernel) rfl, by decide, by decide, by decide +kernel⟩, cw_i 252 (by decide +kernel) rfl, cw_i 8 (by decide +kernel) rfl⟩
theorem mw_tc_fetchWord : MwV y_tc_fetchWord bc_tc_fetchWord 2 (some .int) 0 := ⟨⟨cw_i 90 (by decide +kernel) rfl, cw_i 278 (by decide +kernel) rfl, by decide, by decide, by decide +kernel⟩, cw_i 277 (by decide +kernel) rfl, cw_i 11 (by decide +kernel) rfl⟩
theorem mw_tc_goOn : MwV y_tc_goOn bc_tc_goOn 2 none 1 := ⟨⟨cw_i 90 (by decide +kernel) rfl, cw_i 282 (by decide +kernel) rfl, by decide, by decide, by decide +kernel⟩, cw_i 281 (by decide +kernel) rfl, cw_i 12 (by decide +kernel) rfl⟩
theorem mw_tc_callRelative : MwV y_tc_callRelative bc_tc_callRelative 2 none 1 := ⟨⟨cw_i 90 (by decide +kernel) rfl, cw_i 286 (by decide +kernel) rfl, by decide, by decide, by decide +kernel⟩, cw_i 285 (by decide +kernel) rfl, cw_i 13 (by decide +kernel) rfl⟩
theorem mw_tc_become : MwV y_tc_become bc_tc_become 3 none 2 := ⟨⟨cw_i 90 (by decide +kernel) rfl, cw_i 315 (by decide +kernel) rfl, by decide, by decide, by decide +kernel⟩, cw_i 314 (by decide +kernel) rfl, cw_i 15 (by decide +kernel) rfl⟩
theorem mw_tc_exchange : MwV y_tc_exchange bc_tc_exchange 5 none 1 := ⟨⟨cw_i 90 (by decide +kernel) rfl, cw_i 311 (by decide +kernel) rfl, by decide, by decide, by decide +kernel⟩, cw_i 310 (by decide +kernel) rfl, cw_i 14 (by decide +kernel) rfl⟩
theorem mw_tc_transfer : MwV y_tc_transfer bc_tc_transfer 2 none 1 := ⟨⟨cw_i 90 (by decide +kernel) rfl, cw_i 319 (by decide +kernel) rfl, by decide, by decide, by decide +kernel⟩, cw_i 318 (by decide +kernel) rfl, cw_i 16 (by decide +kernel) rfl⟩
theorem mw_tc_executeRowOne : MwV y_tc_executeRowOne bc_tc_executeRowOne 2 none 1 := ⟨⟨cw_i 90 (by decide +kernel) rfl, cw_i 274 (by decide +kernel) rfl, by decide, by decide, by decide +kernel⟩, cw_i 273 (by decide +kernel) rfl, cw_i 10 (by decide +kernel) rfl⟩
theorem mw_tc_branch : MwV y_tc_branch bc_tc_branch 3 none 2 := ⟨⟨cw_i 90 (by decide +kernel) rfl, cw_i 323 (by decide +kernel) rfl, by decide, by decide, by decide +kernel⟩, cw_i 322 (by decide +kernel) rfl, cw_i 17 (by decide +kernel) rfl⟩
theorem mw_tc_addressByKind : MwV y_tc_addressByKind bc_tc_addressByKind 5 (some .int) 2 := ⟨⟨cw_i 90 (by decide +kernel) rfl, cw_i 347 (by decide +kernel) rfl, by decide, by decide, by decide +kernel⟩, cw_i 346 (by decide +kernel) rfl, cw_i 21 (by decide +kernel) rfl⟩
theorem mw_tc_indexedAddress : MwV y_tc_indexedAddress bc_tc_indexedAddress 4 (some .int) 0 := ⟨⟨cw_i 90 (by decide +kernel) rfl, cw_i 342 (by decide +kernel) rfl, by decide, by decide, by decide +kernel⟩, cw_i 341 (by decide +kernel) rfl, cw_i 20 (by decide +kernel) rfl⟩
theorem mw_tc_takeAddress : MwV y_tc_takeAddress bc_tc_takeAddress 3 none 2 := ⟨⟨cw_i 90 (by decide +kernel) rfl, cw_i 351 (by decide +kernel) rfl, by decide, by decide, by decide +kernel⟩, cw_i 350 (by decide +kernel) rfl, cw_i 22 (by decide +kernel) rfl⟩
theorem mw_tc_pullByte : MwV y_tc_pullByte bc_tc_pullByte 3 (some .int) 1 := ⟨⟨cw_i 90 (by decide +kernel) rfl, cw_i 359 (by decide +kernel) rfl, by decide, by decide, by decide +kernel⟩, cw_i 358 (by decide +kernel) rfl, cw_i 24 (by decide +kernel) rfl⟩
theorem mw_tc_pullWord : MwV y_tc_pullWord bc_tc_pullWord 3 (some .int) 1 := ⟨⟨cw_i 90 (by decide +kernel) rfl, cw_i 363 (by decide +kernel) rfl, by decide, by decide, by decide +kernel⟩, cw_i 362 (by decide +kernel) rfl, cw_i 25 (by decide +kernel) rfl⟩
theorem mw_tc_pullRegisters : MwV y_tc_pullRegisters bc_tc_pullRegisters 3 none 2 := ⟨⟨cw_i 90 (by decide +kernel) rfl, cw_i 355 (by decide +kernel) rfl, by decide, by decide, by decide +kernel⟩, cw_i 354 (by decide +kernel) rfl, cw_i 23 (by decide +kernel) rfl⟩
theorem mw_tc_returnFromInterrupt : MwV y_tc_returnFromInterrupt bc_tc_returnFromInterrupt 1 none 0 := ⟨⟨cw_i 90 (by decide +kernel) rfl, cw_i 367 (by decide +kernel) rfl, by decide, by decide, by decide +kernel⟩, cw_i 366 (by decide +kernel) rfl, cw_i 26 (by decide +kernel) rfl⟩
theorem mw_tc_waitForInterrupt : MwV y_tc_waitForInterrupt bc_tc_waitForInterrupt 2 none 1 := ⟨⟨cw_i 90 (by decide +kernel) rfl, cw_i 371 (by decide +kernel) rfl, by decide, by decide, by decide +kernel⟩, cw_i 370 (by decide +kernel) rfl, cw_i 27 (by decide +kernel) rfl⟩
theorem mw_tc_softwareInterrupt : MwV y_tc_softwareInterrupt bc_tc_softwareInterrupt 2 none 1 := ⟨⟨cw_i 90 (by decide +kernel) rfl, cw_i 379 (by decide +kernel) rfl, by decide, by decide, by decide +kernel⟩, cw_i 378 (by decide +kernel) rfl, cw_i 28 (by decide +kernel) rfl⟩
theorem mw_tc_executeRowThree : MwV y_tc_executeRowThree bc_tc_executeRowThree 3 none 2 := ⟨⟨cw_i 90 (by decide +kernel) rfl, cw_i 336 (by decide +kernel) rfl, by decide, by decide, by decide +kernel⟩, cw_i 335 (by decide +kernel) rfl, cw_i 19 (by decide +kernel) rfl⟩
theorem mw_tc_operandAddress : MwV y_tc_operandAddress bc_tc_operandAddress 4 (some .int) 2 := ⟨⟨cw_i 90 (by decide +kernel) rfl, cw_i 409 (by decide +kernel) rfl, by decide, by decide, by decide +kernel⟩, cw_i 408 (by decide +kernel) rfl, cw_i 32 (by decide +kernel) rfl⟩
theorem mw_tc_alterMemory : MwV y_tc_alterMemory bc_tc_alterMemory 3 none 2 := ⟨⟨cw_i 90 (by decide +kernel) rfl, cw_i 413 (by decide +kernel) rfl, by decide, by decide, by decide +kernel⟩, cw_i 412 (by decide +kernel) rfl, cw_i 33 (by decide +kernel) rfl⟩
theorem mw_tc_executeLowerHalf : MwV y_tc_executeLowerHalf bc_tc_executeLowerHalf 5 none 1 := ⟨⟨cw_i 90 (by decide +kernel) rfl, cw_i 270 (by decide +kernel) rfl, by decide, by decide, by decide +kernel⟩, cw_i 269 (by decide +kernel) rfl, cw_i 9 (by decide +kernel) rfl⟩
theorem mw_tc_call : MwV y_tc_call bc_tc_call 2 none 1 := ⟨⟨cw_i 90 (by decide +kernel) rfl, cw_i 421 (by decide +kernel) rfl, by decide, by decide, by decide +kernel⟩, cw_i 420 (by decide +kernel) rfl, cw_i 35 (by decide +kernel) rfl⟩
theorem mw_tc_wordRegister : MwS y_tc_wordRegister bc_tc_wordRegister 3 (some .int) 3 := ⟨⟨cw_i 90 (by decide +kernel) rfl, cw_i 428 (by decide +kernel) rfl, by decide, by decide, by decide +kernel⟩, cw_i 427 (by decide +kernel) rfl⟩
theorem mw_tc_operateOnWord : MwV y_tc_operateOnWord bc_tc_operateOnWord 10 none 4 := ⟨⟨cw_i 90 (by decide +kernel) rfl, cw_i 425 (by decide +kernel) rfl, by decide, by decide, by decide +kernel⟩, cw_i 424 (by decide +kernel) rfl, cw_i 36 (by decide +kernel) rfl⟩
theorem mw_tc_operateOnByte : MwV y_tc_operateOnByte bc_tc_operateOnByte 7 none 3 := ⟨⟨cw_i 90 (by decide +kernel) rfl, cw_i 439 (by decide +kernel) rfl, by decide, by decide, by decide +kernel⟩, cw_i 438 (by decide +kernel) rfl, cw_i 37 (by decide +kernel) rfl⟩
theorem mw_tc_executeUpperHalf : MwV y_tc_executeUpperHalf bc_tc_executeUpperHalf 7 none 1 := ⟨⟨cw_i 90 (by decide +kernel) rfl, cw_i 417 (by decide +kernel) rfl, by decide, by decide, by decide +kernel⟩, cw_i 416 (by decide +kernel) rfl, cw_i 34 (by decide +kernel) rfl⟩
theorem mw_tc_step : MwV y_tc_step bc_tc_step 4 (some .int) 0 := ⟨⟨cw_i 90 (by decide +kernel) rfl, cw_i 200 (by decide +kernel) rfl, by decide, by decide, by decide +kernel⟩, cw_i 198 (by decide +kernel) rfl, cw_i 199 (by decide +kernel) rfl⟩
theorem mw_tc_run : MwV y_tc_run bc_tc_run 3 (some .int) 1 := ⟨⟨cw_i 90 (by decide +kernel) rfl, cw_i 452 (by decide +kernel) rfl, by decide, by decide, by decide +kernel⟩, cw_i 450 (by decide +kernel) rfl, cw_i 451 (by decide +kernel) rfl⟩
theorem mw_tc_setLine : MwV y_tc_setLine bc_tc_setLine 3 (some .boolean) 2 := ⟨⟨cw_i 90 (by decide +kernel) rfl, cw_i 457 (by decide +kernel) rfl, by decide, by decide, by decide +kernel⟩, cw_i 455 (by decide +kernel) rfl, cw_i 456 (by decide +kernel) rfl⟩
theorem mw_tc_isFaceRegister : MwS y_tc_isFaceRegister bc_tc_isFaceRegister 1 (some .boolean) 1 := ⟨⟨cw_i 90 (by decide +kernel) rfl, cw_i 464 (by decide +kernel) rfl, by decide, by decide, by decide +kernel⟩, cw_i 463 (by decide +kernel) rfl⟩
theorem mw_tc_reg : MwV y_tc_reg bc_tc_reg 2 (some .int) 1 := ⟨⟨cw_i 90 (by decide +kernel) rfl, cw_i 461 (by decide +kernel) rfl, by decide, by decide, by decide +kernel⟩, cw_i 459 (by decide +kernel) rfl, cw_i 460 (by decide +kernel) rfl⟩
theorem mw_tc_put : MwV y_tc_put bc_tc_put 3 (some .boolean) 2 := ⟨⟨cw_i 90 (by decide +kernel) rfl, cw_i 468 (by decide +kernel) rfl, by decide, by decide, by decide +kernel⟩, cw_i 466 (by decide +kernel) rfl, cw_i 467 (by decide +kernel) rfl⟩
theorem mw_tc_waits : MwV y_tc_waits bc_tc_waits 1 (some .int) 0 := ⟨⟨cw_i 90 (by decide +kernel) rfl, cw_i 472 (by decide +kernel) rfl, by decide, by decide, by decide +kernel⟩, cw_i 470 (by decide +kernel) rfl, cw_i 471 (by decide +kernel) rfl⟩
theorem mw_tc_lines : MwV y_tc_lines bc_tc_lines 3 (some .int) 0 := ⟨⟨cw_i 90 (by decide +kernel) rfl, cw_i 476 (by decide +kernel) rfl, by decide, by decide, by decide +kernel⟩, cw_i 474 (by decide +kernel) rfl, cw_i 475 (by decide +kernel) rfl⟩
theorem mw_mo_in : MwS y_mo_in bc_mo_in 3 (some .boolean) 3 := ⟨⟨cw_i 94 (by decide +kernel) rfl, cw_i 570 (by decide +kernel) rfl, by decide, by decide, by decide +kernel⟩, cw_i 569 (by decide +kernel) rfl⟩
theorem mw_mo_read : MwV y_mo_read bc_mo_read 2 (some .int) 1 := ⟨⟨cw_i 94 (by decide +kernel) rfl, cw_i 555 (by decide +kernel) rfl, by decide, by decide, by decide +kernel⟩, cw_i 554 (by decide +kernel) rfl, cw_i 48 (by decide +kernel) rfl⟩
theorem mw_mo_readWord : MwV y_mo_readWord bc_mo_readWord 2 (some .int) 1 := ⟨⟨cw_i 94 (by decide +kernel) rfl, cw_i 551 (by decide +kernel) rfl, by decide, by decide, by decide +kernel⟩, cw_i 550 (by decide +kernel) rfl, cw_i 47 (by decide +kernel) rfl⟩
theorem mw_mo_write : MwV y_mo_write bc_mo_write 3 none 2 := ⟨⟨cw_i 94 (by decide +kernel) rfl, cw_i 540 (by decide +kernel) rfl, by decide, by decide, by decide +kernel⟩, cw_i 539 (by decide +kernel) rfl, cw_i 45 (by decide +kernel) rfl⟩
theorem mw_mo_writeWord : MwV y_mo_writeWord bc_mo_writeWord 3 none 2 := ⟨⟨cw_i 94 (by decide +kernel) rfl, cw_i 646 (by decide +kernel) rfl, by decide, by decide, by decide +kernel⟩, cw_i 645 (by decide +kernel) rfl, cw_i 67 (by decide +kernel) rfl⟩
theorem mw_mo_next : MwV y_mo_next bc_mo_next 2 (some .int) 0 := ⟨⟨cw_i 94 (by decide +kernel) rfl, cw_i 563 (by decide +kernel) rfl, by decide, by decide, by decide +kernel⟩, cw_i 562 (by decide +kernel) rfl, cw_i 50 (by decide +kernel) rfl⟩
theorem mw_mo_nextWord : MwV y_mo_nextWord bc_mo_nextWord 2 (some .int) 0 := ⟨⟨cw_i 94 (by decide +kernel) rfl, cw_i 578 (by decide +kernel) rfl, by decide, by decide, by decide +kernel⟩, cw_i 577 (by decide +kernel) rfl, cw_i 53 (by decide +kernel) rfl⟩
theorem mw_mo_signed : MwS y_mo_signed bc_mo_signed 1 (some .int) 1 := ⟨⟨cw_i 94 (by decide +kernel) rfl, cw_i 581 (by decide +kernel) rfl, by decide, by decide, by decide +kernel⟩, cw_i 580 (by decide +kernel) rfl⟩
theorem mw_mo_d : MwV y_mo_d bc_mo_d 1 (some .int) 0 := ⟨⟨cw_i 94 (by decide +kernel) rfl, cw_i 594 (by decide +kernel) rfl, by decide, by decide, by decide +kernel⟩, cw_i 593 (by decide +kernel) rfl, cw_i 56 (by decide +kernel) rfl⟩
theorem mw_mo_setD : MwV y_mo_setD bc_mo_setD 2 none 1 := ⟨⟨cw_i 94 (by decide +kernel) rfl, cw_i 638 (by decide +kernel) rfl, by decide, by decide, by decide +kernel⟩, cw_i 637 (by decide +kernel) rfl, cw_i 65 (by decide +kernel) rfl⟩
theorem mw_mo_flag : MwV y_mo_flag bc_mo_flag 3 none 2 := ⟨⟨cw_i 94 (by decide +kernel) rfl, cw_i 523 (by decide +kernel) rfl, by decide, by decide, by decide +kernel⟩, cw_i 522 (by decide +kernel) rfl, cw_i 41 (by decide +kernel) rfl⟩
theorem mw_mo_is : MwV y_mo_is bc_mo_is 2 (some .boolean) 1 := ⟨⟨cw_i 94 (by decide +kernel) rfl, cw_i 515 (by decide +kernel) rfl, by decide, by decide, by decide +kernel⟩, cw_i 514 (by decide +kernel) rfl, cw_i 39 (by decide +kernel) rfl⟩
theorem mw_mo_shows : MwV y_mo_shows bc_mo_shows 3 none 2 := ⟨⟨cw_i 94 (by decide +kernel) rfl, cw_i 626 (by decide +kernel) rfl, by decide, by decide, by decide +kernel⟩, cw_i 625 (by decide +kernel) rfl, cw_i 62 (by decide +kernel) rfl⟩
theorem mw_mo_moved : MwV y_mo_moved bc_mo_moved 3 (some .int) 2 := ⟨⟨cw_i 94 (by decide +kernel) rfl, cw_i 634 (by decide +kernel) rfl, by decide, by decide, by decide +kernel⟩, cw_i 633 (by decide +kernel) rfl, cw_i 64 (by decide +kernel) rfl⟩
theorem mw_mo_asSigned : MwS y_mo_asSigned bc_mo_asSigned 2 (some .int) 2 := ⟨⟨cw_i 94 (by decide +kernel) rfl, cw_i 617 (by decide +kernel) rfl, by decide, by decide, by decide +kernel⟩, cw_i 616 (by decide +kernel) rfl⟩
theorem mw_mo_hasRoom : MwS y_mo_hasRoom bc_mo_hasRoom 2 (some .boolean) 2 := ⟨⟨cw_i 94 (by decide +kernel) rfl, cw_i 622 (by decide +kernel) rfl, by decide, by decide, by decide +kernel⟩, cw_i 621 (by decide +kernel) rfl⟩
theorem mw_mo_plus : MwV y_mo_plus bc_mo_plus 6 (some .int) 4 := ⟨⟨cw_i 94 (by decide +kernel) rfl, cw_i 667 (by decide +kernel) rfl, by decide, by decide, by decide +kernel⟩, cw_i 666 (by decide +kernel) rfl, cw_i 72 (by decide +kernel) rfl⟩
theorem mw_mo_less : MwV y_mo_less bc_mo_less 6 (some .int) 4 := ⟨⟨cw_i 94 (by decide +kernel) rfl, cw_i 614 (by decide +kernel) rfl, by decide, by decide, by decide +kernel⟩, cw_i 613 (by decide +kernel) rfl, cw_i 61 (by decide +kernel) rfl⟩
theorem mw_mo_byPostbyte : MwV y_mo_byPostbyte bc_mo_byPostbyte 7 (some .int) 0 := ⟨⟨cw_i 94 (by decide +kernel) rfl, cw_i 610 (by decide +kernel) rfl, by decide, by decide, by decide +kernel⟩, cw_i 609 (by decide +kernel) rfl, cw_i 60 (by decide +kernel) rfl⟩
theorem mw_mo_address : MwV y_mo_address bc_mo_address 2 (some .int) 1 := ⟨⟨cw_i 94 (by decide +kernel) rfl, cw_i 606 (by decide +kernel) rfl, by decide, by decide, by decide +kernel⟩, cw_i 605 (by decide +kernel) rfl, cw_i 59 (by decide +kernel) rfl⟩
theorem mw_mo_operand : MwV y_mo_operand bc_mo_operand 2 (some .int) 1 := ⟨⟨cw_i 94 (by decide +kernel) rfl, cw_i 663 (by decide +kernel) rfl, by decide, by decide, by decide +kernel⟩, cw_i 662 (by decide +kernel) rfl, cw_i 71 (by decide +kernel) rfl⟩
theorem mw_mo_wordOperand : MwV y_mo_wordOperand bc_mo_wordOperand 2 (some .int) 1 := ⟨⟨cw_i 94 (by decide +kernel) rfl, cw_i 602 (by decide +kernel) rfl, by decide, by decide, by decide +kernel⟩, cw_i 601 (by decide +kernel) rfl, cw_i 58 (by decide +kernel) rfl⟩
theorem mw_mo_push : MwV y_mo_push bc_mo_push 3 none 2 := ⟨⟨cw_i 94 (by decide +kernel) rfl, cw_i 535 (by decide +kernel) rfl, by decide, by decide, by decide +kernel⟩, cw_i 534 (by decide +kernel) rfl, cw_i 44 (by decide +kernel) rfl⟩
theorem mw_mo_pushWord : MwV y_mo_pushWord bc_mo_pushWord 3 none 2 := ⟨⟨cw_i 94 (by decide +kernel) rfl, cw_i 531 (by decide +kernel) rfl, by decide, by decide, by decide +kernel⟩, cw_i 530 (by decide +kernel) rfl, cw_i 43 (by decide +kernel) rfl⟩
theorem mw_mo_pull : MwV y_mo_pull bc_mo_pull 3 (some .int) 1 := ⟨⟨cw_i 94 (by decide +kernel) rfl, cw_i 718 (by decide +kernel) rfl, by decide, by decide, by decide +kernel⟩, cw_i 717 (by decide +kernel) rfl, cw_i 84 (by decide +kernel) rfl⟩
theorem mw_mo_pullWord : MwV y_mo_pullWord bc_mo_pullWord 3 (some .int) 1 := ⟨⟨cw_i 94 (by decide +kernel) rfl, cw_i 722 (by decide +kernel) rfl, by decide, by decide, by decide +kernel⟩, cw_i 721 (by decide +kernel) rfl, cw_i 85 (by decide +kernel) rfl⟩
theorem mw_mo_pushAll : MwV y_mo_pushAll bc_mo_pushAll 3 none 2 := ⟨⟨cw_i 94 (by decide +kernel) rfl, cw_i 527 (by decide +kernel) rfl, by decide, by decide, by decide +kernel⟩, cw_i 526 (by decide +kernel) rfl, cw_i 42 (by decide +kernel) rfl⟩
theorem mw_mo_pullAll : MwV y_mo_pullAll bc_mo_pullAll 4 none 2 := ⟨⟨cw_i 94 (by decide +kernel) rfl, cw_i 714 (by decide +kernel) rfl, by decide, by decide, by decide +kernel⟩, cw_i 713 (by decide +kernel) rfl, cw_i 83 (by decide +kernel) rfl⟩
theorem mw_mo_onByte : MwV y_mo_onByte bc_mo_onByte 5 (some .int) 2 := ⟨⟨cw_i 94 (by decide +kernel) rfl, cw_i 683 (by decide +kernel) rfl, by decide, by decide, by decide +kernel⟩, cw_i 682 (by decide +kernel) rfl, cw_i 76 (by decide +kernel) rfl⟩
theorem mw_mo_oneByte : MwV y_mo_oneByte bc_mo_oneByte 7 none 1 := ⟨⟨cw_i 94 (by decide +kernel) rfl, cw_i 679 (by decide +kernel) rfl, by decide, by decide, by decide +kernel⟩, cw_i 678 (by decide +kernel) rfl, cw_i 75 (by decide +kernel) rfl⟩
theorem mw_mo_accumulate : MwV y_mo_accumulate bc_mo_accumulate 8 none 2 := ⟨⟨cw_i 94 (by decide +kernel) rfl, cw_i 659 (by decide +kernel) rfl, by decide, by decide, by decide +kernel⟩, cw_i 658 (by decide +kernel) rfl, cw_i 70 (by decide +kernel) rfl⟩
theorem mw_mo_compare : MwV y_mo_compare bc_mo_compare 5 none 3 := ⟨⟨cw_i 94 (by decide +kernel) rfl, cw_i 598 (by decide +kernel) rfl, by decide, by decide, by decide +kernel⟩, cw_i 597 (by decide +kernel) rfl, cw_i 57 (by decide +kernel) rfl⟩
theorem mw_mo_loadWord : MwV y_mo_loadWord bc_mo_loadWord 4 none 2 := ⟨⟨cw_i 94 (by decide +kernel) rfl, cw_i 630 (by decide +kernel) rfl, by decide, by decide, by decide +kernel⟩, cw_i 629 (by decide +kernel) rfl, cw_i 63 (by decide +kernel) rfl⟩
theorem mw_mo_storeWord : MwV y_mo_storeWord bc_mo_storeWord 5 none 2 := ⟨⟨cw_i 94 (by decide +kernel) rfl, cw_i 642 (by decide +kernel) rfl, by decide, by decide, by decide +kernel⟩, cw_i 641 (by decide +kernel) rfl, cw_i 66 (by decide +kernel) rfl⟩
theorem mw_mo_addWord : MwV y_mo_addWord bc_mo_addWord 5 none 2 := ⟨⟨cw_i 94 (by decide +kernel) rfl, cw_i 671 (by decide +kernel) rfl, by decide, by decide, by decide +kernel⟩, cw_i 670 (by decide +kernel) rfl, cw_i 73 (by decide +kernel) rfl⟩
theorem mw_mo_call : MwV y_mo_call bc_mo_call 4 none 1 := ⟨⟨cw_i 94 (by decide +kernel) rfl, cw_i 675 (by decide +kernel) rfl, by decide, by decide, by decide +kernel⟩, cw_i 674 (by decide +kernel) rfl, cw_i 74 (by decide +kernel) rfl⟩
theorem mw_mo_upper : MwV y_mo_upper bc_mo_upper 5 none 1 := ⟨⟨cw_i 94 (by decide +kernel) rfl, cw_i 655 (by decide +kernel) rfl, by decide, by decide, by decide +kernel⟩, cw_i 654 (by decide +kernel) rfl, cw_i 69 (by decide +kernel) rfl⟩
theorem mw_mo_holds : MwV y_mo_holds bc_mo_holds 5 (some .boolean) 1 := ⟨⟨cw_i 94 (by decide +kernel) rfl, cw_i 585 (by decide +kernel) rfl, by decide, by decide, by decide +kernel⟩, cw_i 584 (by decide +kernel) rfl, cw_i 54 (by decide +kernel) rfl⟩
theorem mw_mo_branch : MwV y_mo_branch bc_mo_branch 4 none 2 := ⟨⟨cw_i 94 (by decide +kernel) rfl, cw_i 574 (by decide +kernel) rfl, by decide, by decide, by decide +kernel⟩, cw_i 573 (by decide +kernel) rfl, cw_i 52 (by decide +kernel) rfl⟩
theorem mw_mo_adjust : MwV y_mo_adjust bc_mo_adjust 5 none 0 := ⟨⟨cw_i 94 (by decide +kernel) rfl, cw_i 691 (by decide +kernel) rfl, by decide, by decide, by decide +kernel⟩, cw_i 690 (by decide +kernel) rfl, cw_i 78 (by decide +kernel) rfl⟩
theorem mw_mo_named : MwS y_mo_named bc_mo_named 1 (some .int) 1 := ⟨⟨cw_i 94 (by decide +kernel) rfl, cw_i 698 (by decide +kernel) rfl, by decide, by decide, by decide +kernel⟩, cw_i 697 (by decide +kernel) rfl⟩
theorem mw_mo_get : MwV y_mo_get bc_mo_get 2 (some .int) 1 := ⟨⟨cw_i 94 (by decide +kernel) rfl, cw_i 702 (by decide +kernel) rfl, by decide, by decide, by decide +kernel⟩, cw_i 701 (by decide +kernel) rfl, cw_i 80 (by decide +kernel) rfl⟩
theorem mw_mo_set : MwV y_mo_set bc_mo_set 3 none 2 := ⟨⟨cw_i 94 (by decide +kernel) rfl, cw_i 706 (by decide +kernel) rfl, by decide, by decide, by decide +kernel⟩, cw_i 705 (by decide +kernel) rfl, cw_i 81 (by decide +kernel) rfl⟩
theorem mw_mo_exchange : MwV y_mo_exchange bc_mo_exchange 9 none 1 := ⟨⟨cw_i 94 (by decide +kernel) rfl, cw_i 695 (by decide +kernel) rfl, by decide, by decide, by decide +kernel⟩, cw_i 694 (by decide +kernel) rfl, cw_i 79 (by decide +kernel) rfl⟩
theorem mw_mo_lea : MwV y_mo_lea bc_mo_lea 3 none 1 := ⟨⟨cw_i 94 (by decide +kernel) rfl, cw_i 710 (by decide +kernel) rfl, by decide, by decide, by decide +kernel⟩, cw_i 709 (by decide +kernel) rfl, cw_i 82 (by decide +kernel) rfl⟩
theorem mw_mo_pushState : MwV y_mo_pushState bc_mo_pushState 1 none 0 := ⟨⟨cw_i 94 (by decide +kernel) rfl, cw_i 544 (by decide +kernel) rfl, by decide, by decide, by decide +kernel⟩, cw_i 543 (by decide +kernel) rfl, cw_i 46 (by decide +kernel) rfl⟩
theorem mw_mo_trap : MwV y_mo_trap bc_mo_trap 3 none 2 := ⟨⟨cw_i 94 (by decide +kernel) rfl, cw_i 590 (by decide +kernel) rfl, by decide, by decide, by decide +kernel⟩, cw_i 589 (by decide +kernel) rfl, cw_i 55 (by decide +kernel) rfl⟩
theorem mw_mo_multiply : MwV y_mo_multiply bc_mo_multiply 2 none 0 := ⟨⟨cw_i 94 (by decide +kernel) rfl, cw_i 734 (by decide +kernel) rfl, by decide, by decide, by decide +kernel⟩, cw_i 733 (by decide +kernel) rfl, cw_i 88 (by decide +kernel) rfl⟩
theorem mw_mo_back : MwV y_mo_back bc_mo_back 1 none 0 := ⟨⟨cw_i 94 (by decide +kernel) rfl, cw_i 730 (by decide +kernel) rfl, by decide, by decide, by decide +kernel⟩, cw_i 729 (by decide +kernel) rfl, cw_i 87 (by decide +kernel) rfl⟩
theorem mw_mo_last : MwV y_mo_last bc_mo_last 2 none 1 := ⟨⟨cw_i 94 (by decide +kernel) rfl, cw_i 726 (by decide +kernel) rfl, by decide, by decide, by decide +kernel⟩, cw_i 725 (by decide +kernel) rfl, cw_i 86 (by decide +kernel) rfl⟩
theorem mw_mo_middle : MwV y_mo_middle bc_mo_middle 4 none 1 := ⟨⟨cw_i 94 (by decide +kernel) rfl, cw_i 687 (by decide +kernel) rfl, by decide, by decide, by decide +kernel⟩, cw_i 686 (by decide +kernel) rfl, cw_i 77 (by decide +kernel) rfl⟩
theorem mw_mo_behindTen : MwV y_mo_behindTen bc_mo_behindTen 4 none 1 := ⟨⟨cw_i 94 (by decide +kernel) rfl, cw_i 567 (by decide +kernel) rfl, by decide, by decide, by decide +kernel⟩, cw_i 566 (by decide +kernel) rfl, cw_i 51 (by decide +kernel) rfl⟩
theorem mw_mo_behindEleven : MwV y_mo_behindEleven bc_mo_behindEleven 4 none 1 := ⟨⟨cw_i 94 (by decide +kernel) rfl, cw_i 650 (by decide +kernel) rfl, by decide, by decide, by decide +kernel⟩, cw_i 649 (by decide +kernel) rfl, cw_i 68 (by decide +kernel) rfl⟩
theorem mw_mo_instruct : MwV y_mo_instruct bc_mo_instruct 3 (some .boolean) 0 := ⟨⟨cw_i 94 (by decide +kernel) rfl, cw_i 559 (by decide +kernel) rfl, by decide, by decide, by decide +kernel⟩, cw_i 558 (by decide +kernel) rfl, cw_i 49 (by decide +kernel) rfl⟩
theorem mw_mo_interrupt : MwV y_mo_interrupt bc_mo_interrupt 2 none 1 := ⟨⟨cw_i 94 (by decide +kernel) rfl, cw_i 519 (by decide +kernel) rfl, by decide, by decide, by decide +kernel⟩, cw_i 518 (by decide +kernel) rfl, cw_i 40 (by decide +kernel) rfl⟩
theorem mw_mo_step : MwV y_mo_step bc_mo_step 2 (some .int) 0 := ⟨⟨cw_i 94 (by decide +kernel) rfl, cw_i 511 (by decide +kernel) rfl, by decide, by decide, by decide +kernel⟩, cw_i 509 (by decide +kernel) rfl, cw_i 510 (by decide +kernel) rfl⟩
theorem mw_mo_run : MwV y_mo_run bc_mo_run 4 (some .int) 1 := ⟨⟨cw_i 94 (by decide +kernel) rfl, cw_i 739 (by decide +kernel) rfl, by decide, by decide, by decide +kernel⟩, cw_i 737 (by decide +kernel) rfl, cw_i 738 (by decide +kernel) rfl⟩
theorem mw_mo_reset : MwV y_mo_reset bc_mo_reset 1 none 0 := ⟨⟨cw_i 94 (by decide +kernel) rfl, cw_i 744 (by decide +kernel) rfl, by decide, by decide, by decide +kernel⟩, cw_i 742 (by decide +kernel) rfl, cw_i 743 (by decide +kernel) rfl⟩
theorem mw_mo_poke : MwV y_mo_poke bc_mo_poke 3 (some .boolean) 2 := ⟨⟨cw_i 94 (by decide +kernel) rfl, cw_i 749 (by decide +kernel) rfl, by decide, by decide, by decide +kernel⟩, cw_i 747 (by decide +kernel) rfl, cw_i 748 (by decide +kernel) rfl⟩
theorem mw_mo_load : MwV y_mo_load bc_mo_load 5 (some .boolean) 3 := ⟨⟨cw_i 94 (by decide +kernel) rfl, cw_i 753 (by decide +kernel) rfl, by decide, by decide, by decide +kernel⟩, cw_i 751 (by decide +kernel) rfl, cw_i 752 (by decide +kernel) rfl⟩
theorem mw_mo_peek : MwV y_mo_peek bc_mo_peek 2 (some .int) 1 := ⟨⟨cw_i 94 (by decide +kernel) rfl, cw_i 757 (by decide +kernel) rfl, by decide, by decide, by decide +kernel⟩, cw_i 755 (by decide +kernel) rfl, cw_i 756 (by decide +kernel) rfl⟩
theorem mw_mo_setLine : MwV y_mo_setLine bc_mo_setLine 3 (some .boolean) 2 := ⟨⟨cw_i 94 (by decide +kernel) rfl, cw_i 761 (by decide +kernel) rfl, by decide, by decide, by decide +kernel⟩, cw_i 759 (by decide +kernel) rfl, cw_i 760 (by decide +kernel) rfl⟩
theorem mw_mo_reg : MwV y_mo_reg bc_mo_reg 2 (some .int) 1 := ⟨⟨cw_i 94 (by decide +kernel) rfl, cw_i 765 (by decide +kernel) rfl, by decide, by decide, by decide +kernel⟩, cw_i 763 (by decide +kernel) rfl, cw_i 764 (by decide +kernel) rfl⟩
theorem mw_mo_put : MwV y_mo_put bc_mo_put 3 (some .boolean) 2 := ⟨⟨cw_i 94 (by decide +kernel) rfl, cw_i 769 (by decide +kernel) rfl, by decide, by decide, by decide +kernel⟩, cw_i 767 (by decide +kernel) rfl, cw_i 768 (by decide +kernel) rfl⟩
theorem mw_mo_waits : MwV y_mo_waits bc_mo_waits 1 (some .int) 0 := ⟨⟨cw_i 94 (by decide +kernel) rfl, cw_i 773 (by decide +kernel) rfl, by decide, by decide, by decide +kernel⟩, cw_i 771 (by decide +kernel) rfl, cw_i 772 (by decide +kernel) rfl⟩
theorem mw_mo_lines : MwV y_mo_lines bc_mo_lines 1 (some .int) 0 := ⟨⟨cw_i 94 (by decide +kernel) rfl, cw_i 777 (by decide +kernel) rfl, by decide, by decide, by decide +kernel⟩, cw_i 775 (by decide +kernel) rfl, cw_i 776 (by decide +kernel) rfl⟩
theorem lk_tc_ar_add : Cond.methodLink R_chip 238 y_ar_add ∈ CW := cw_i 431 (by decide +kernel) rfl
theorem lk_tc_ar_adjustDecimal : Cond.methodLink R_chip 167 y_ar_adjustDecimal ∈ CW := cw_i 287 (by decide +kernel) rfl
theorem lk_tc_ar_alter : Cond.methodLink R_chip 152 y_ar_alter ∈ CW := cw_i 382 (by decide +kernel) rfl
theorem lk_tc_ar_combine : Cond.methodLink R_chip 226 y_ar_combine ∈ CW := cw_i 440 (by decide +kernel) rfl
theorem lk_tc_ar_extendSign : Cond.methodLink R_chip 170 y_ar_extendSign ∈ CW := cw_i 299 (by decide +kernel) rfl
theorem lk_tc_ar_multiply : Cond.methodLink R_chip 197 y_ar_multiply ∈ CW := cw_i 372 (by decide +kernel) rfl
theorem lk_tc_ar_pass : Cond.methodLink R_chip 223 y_ar_pass ∈ CW := cw_i 430 (by decide +kernel) rfl
theorem lk_tc_ar_subtract : Cond.methodLink R_chip 242 y_ar_subtract ∈ CW := cw_i 435 (by decide +kernel) rfl
theorem lk_tc_me_byteAt : Cond.methodLink R_chip 67 y_me_byteAt ∈ CW := cw_i 193 (by decide +kernel) rfl
theorem lk_tc_me_has : Cond.methodLink R_chip 60 y_me_has ∈ CW := cw_i 178 (by decide +kernel) rfl
theorem lk_tc_me_setByte : Cond.methodLink R_chip 64 y_me_setByte ∈ CW := cw_i 181 (by decide +kernel) rfl
theorem lk_tc_me_setWord : Cond.methodLink R_chip 235 y_me_setWord ∈ CW := cw_i 225 (by decide +kernel) rfl
theorem lk_tc_me_wordAt : Cond.methodLink R_chip 56 y_me_wordAt ∈ CW := cw_i 170 (by decide +kernel) rfl
theorem lk_tc_re_get : Cond.methodLink R_chip 82 y_re_get ∈ CW := cw_i 217 (by decide +kernel) rfl
theorem lk_tc_re_has : Cond.methodLink R_chip 103 y_re_has ∈ CW := cw_i 205 (by decide +kernel) rfl
theorem lk_tc_re_meets : Cond.methodLink R_chip 206 y_re_meets ∈ CW := cw_i 324 (by decide +kernel) rfl
theorem lk_tc_re_set : Cond.methodLink R_chip 36 y_re_set ∈ CW := cw_i 160 (by decide +kernel) rfl
theorem lk_tc_re_turn : Cond.methodLink R_chip 40 y_re_turn ∈ CW := cw_i 165 (by decide +kernel) rfl
theorem lk_tc_tc_addressByKind : Cond.methodLink R_chip 139 y_tc_addressByKind ∈ CW := cw_i 344 (by decide +kernel) rfl
theorem lk_tc_tc_alterMemory : Cond.methodLink R_chip 158 y_tc_alterMemory ∈ CW := cw_i 410 (by decide +kernel) rfl
theorem lk_tc_tc_become : Cond.methodLink R_chip 203 y_tc_become ∈ CW := cw_i 312 (by decide +kernel) rfl
theorem lk_tc_tc_branch : Cond.methodLink R_chip 146 y_tc_branch ∈ CW := cw_i 320 (by decide +kernel) rfl
theorem lk_tc_tc_call : Cond.methodLink R_chip 212 y_tc_call ∈ CW := cw_i 418 (by decide +kernel) rfl
theorem lk_tc_tc_callRelative : Cond.methodLink R_chip 164 y_tc_callRelative ∈ CW := cw_i 283 (by decide +kernel) rfl
theorem lk_tc_tc_exchange : Cond.methodLink R_chip 173 y_tc_exchange ∈ CW := cw_i 308 (by decide +kernel) rfl
theorem lk_tc_tc_executeLowerHalf : Cond.methodLink R_chip 91 y_tc_executeLowerHalf ∈ CW := cw_i 267 (by decide +kernel) rfl
theorem lk_tc_tc_executeRowOne : Cond.methodLink R_chip 143 y_tc_executeRowOne ∈ CW := cw_i 271 (by decide +kernel) rfl
theorem lk_tc_tc_executeRowThree : Cond.methodLink R_chip 149 y_tc_executeRowThree ∈ CW := cw_i 333 (by decide +kernel) rfl
theorem lk_tc_tc_executeUpperHalf : Cond.methodLink R_chip 94 y_tc_executeUpperHalf ∈ CW := cw_i 414 (by decide +kernel) rfl
theorem lk_tc_tc_fetchByte : Cond.methodLink R_chip 113 y_tc_fetchByte ∈ CW := cw_i 246 (by decide +kernel) rfl
theorem lk_tc_tc_fetchCode : Cond.methodLink R_chip 85 y_tc_fetchCode ∈ CW := cw_i 242 (by decide +kernel) rfl
theorem lk_tc_tc_fetchWord : Cond.methodLink R_chip 135 y_tc_fetchWord ∈ CW := cw_i 275 (by decide +kernel) rfl
theorem lk_tc_tc_goOn : Cond.methodLink R_chip 161 y_tc_goOn ∈ CW := cw_i 279 (by decide +kernel) rfl
theorem lk_tc_tc_indexedAddress : Cond.methodLink R_chip 132 y_tc_indexedAddress ∈ CW := cw_i 339 (by decide +kernel) rfl
theorem lk_tc_tc_isDefined : Cond.methodLink R_chip 88 y_tc_isDefined ∈ CW := cw_i 250 (by decide +kernel) rfl
theorem lk_tc_tc_isDefinedPair : Cond.methodLink R_chip 125 y_tc_isDefinedPair ∈ CW := cw_i 262 (by decide +kernel) rfl
theorem lk_tc_tc_isDefinedPostbyte : Cond.methodLink R_chip 122 y_tc_isDefinedPostbyte ∈ CW := cw_i 259 (by decide +kernel) rfl
theorem lk_tc_tc_isFaceRegister : Cond.methodLink R_chip 100 y_tc_isFaceRegister ∈ CW := cw_i 462 (by decide +kernel) rfl
theorem lk_tc_tc_isIndexed : Cond.methodLink R_chip 119 y_tc_isIndexed ∈ CW := cw_i 256 (by decide +kernel) rfl
theorem lk_tc_tc_lineToServe : Cond.methodLink R_chip 70 y_tc_lineToServe ∈ CW := cw_i 201 (by decide +kernel) rfl
theorem lk_tc_tc_operandAddress : Cond.methodLink R_chip 155 y_tc_operandAddress ∈ CW := cw_i 406 (by decide +kernel) rfl
theorem lk_tc_tc_operateOnByte : Cond.methodLink R_chip 219 y_tc_operateOnByte ∈ CW := cw_i 436 (by decide +kernel) rfl
theorem lk_tc_tc_operateOnWord : Cond.methodLink R_chip 215 y_tc_operateOnWord ∈ CW := cw_i 422 (by decide +kernel) rfl
theorem lk_tc_tc_otherStack : Cond.methodLink R_chip 245 y_tc_otherStack ∈ CW := cw_i 229 (by decide +kernel) rfl
theorem lk_tc_tc_pullByte : Cond.methodLink R_chip 251 y_tc_pullByte ∈ CW := cw_i 356 (by decide +kernel) rfl
theorem lk_tc_tc_pullRegisters : Cond.methodLink R_chip 185 y_tc_pullRegisters ∈ CW := cw_i 352 (by decide +kernel) rfl
theorem lk_tc_tc_pullWord : Cond.methodLink R_chip 188 y_tc_pullWord ∈ CW := cw_i 360 (by decide +kernel) rfl
theorem lk_tc_tc_pushByte : Cond.methodLink R_chip 248 y_tc_pushByte ∈ CW := cw_i 232 (by decide +kernel) rfl
theorem lk_tc_tc_pushRegisters : Cond.methodLink R_chip 104 y_tc_pushRegisters ∈ CW := cw_i 213 (by decide +kernel) rfl
theorem lk_tc_tc_pushWord : Cond.methodLink R_chip 209 y_tc_pushWord ∈ CW := cw_i 221 (by decide +kernel) rfl
theorem lk_tc_tc_returnFromInterrupt : Cond.methodLink R_chip 191 y_tc_returnFromInterrupt ∈ CW := cw_i 364 (by decide +kernel) rfl
theorem lk_tc_tc_serve : Cond.methodLink R_chip 74 y_tc_serve ∈ CW := cw_i 209 (by decide +kernel) rfl
theorem lk_tc_tc_softwareInterrupt : Cond.methodLink R_chip 200 y_tc_softwareInterrupt ∈ CW := cw_i 376 (by decide +kernel) rfl
theorem lk_tc_tc_staysWaiting : Cond.methodLink R_chip 78 y_tc_staysWaiting ∈ CW := cw_i 238 (by decide +kernel) rfl
theorem lk_tc_tc_step : Cond.methodLink R_chip 97 y_tc_step ∈ CW := cw_i 453 (by decide +kernel) rfl
theorem lk_tc_tc_takeAddress : Cond.methodLink R_chip 182 y_tc_takeAddress ∈ CW := cw_i 348 (by decide +kernel) rfl
theorem lk_tc_tc_transfer : Cond.methodLink R_chip 176 y_tc_transfer ∈ CW := cw_i 316 (by decide +kernel) rfl
theorem lk_tc_tc_waitForInterrupt : Cond.methodLink R_chip 194 y_tc_waitForInterrupt ∈ CW := cw_i 368 (by decide +kernel) rfl
theorem lk_tc_tc_wordRegister : Cond.methodLink R_chip 230 y_tc_wordRegister ∈ CW := cw_i 426 (by decide +kernel) rfl
theorem lk_ar_ar_add : Cond.methodLink R_ari 41 y_ar_add ∈ CW := cw_i 448 (by decide +kernel) rfl
theorem lk_ar_ar_addByte : Cond.methodLink R_ari 37 y_ar_addByte ∈ CW := cw_i 444 (by decide +kernel) rfl
theorem lk_ar_ar_count : Cond.methodLink R_ari 50 y_ar_count ∈ CW := cw_i 402 (by decide +kernel) rfl
theorem lk_ar_ar_pass : Cond.methodLink R_ari 33 y_ar_pass ∈ CW := cw_i 304 (by decide +kernel) rfl
theorem lk_ar_ar_shiftDown : Cond.methodLink R_ari 44 y_ar_shiftDown ∈ CW := cw_i 390 (by decide +kernel) rfl
theorem lk_ar_ar_shiftUp : Cond.methodLink R_ari 47 y_ar_shiftUp ∈ CW := cw_i 398 (by decide +kernel) rfl
theorem lk_ar_ar_subtract : Cond.methodLink R_ari 25 y_ar_subtract ∈ CW := cw_i 386 (by decide +kernel) rfl
theorem lk_ar_re_carry : Cond.methodLink R_ari 29 y_re_carry ∈ CW := cw_i 394 (by decide +kernel) rfl
theorem lk_ar_re_get : Cond.methodLink R_ari 54 y_re_get ∈ CW := cw_i 291 (by decide +kernel) rfl
theorem lk_ar_re_has : Cond.methodLink R_ari 58 y_re_has ∈ CW := cw_i 292 (by decide +kernel) rfl
theorem lk_ar_re_set : Cond.methodLink R_ari 62 y_re_set ∈ CW := cw_i 294 (by decide +kernel) rfl
theorem lk_ar_re_setSign : Cond.methodLink R_ari 21 y_re_setSign ∈ CW := cw_i 295 (by decide +kernel) rfl
theorem lk_ar_re_turn : Cond.methodLink R_ari 15 y_re_turn ∈ CW := cw_i 293 (by decide +kernel) rfl
theorem lk_re_re_has : Cond.methodLink R_reg 20 y_re_has ∈ CW := cw_i 332 (by decide +kernel) rfl
theorem lk_re_re_meetsEven : Cond.methodLink R_reg 16 y_re_meetsEven ∈ CW := cw_i 328 (by decide +kernel) rfl
theorem lk_mo_mo_accumulate : Cond.methodLink R_mod 124 y_mo_accumulate ∈ CW := cw_i 656 (by decide +kernel) rfl
theorem lk_mo_mo_addWord : Cond.methodLink R_mod 127 y_mo_addWord ∈ CW := cw_i 668 (by decide +kernel) rfl
theorem lk_mo_mo_address : Cond.methodLink R_mod 75 y_mo_address ∈ CW := cw_i 603 (by decide +kernel) rfl
theorem lk_mo_mo_adjust : Cond.methodLink R_mod 171 y_mo_adjust ∈ CW := cw_i 688 (by decide +kernel) rfl
theorem lk_mo_mo_asSigned : Cond.methodLink R_mod 48 y_mo_asSigned ∈ CW := cw_i 615 (by decide +kernel) rfl
theorem lk_mo_mo_back : Cond.methodLink R_mod 184 y_mo_back ∈ CW := cw_i 727 (by decide +kernel) rfl
theorem lk_mo_mo_behindEleven : Cond.methodLink R_mod 199 y_mo_behindEleven ∈ CW := cw_i 647 (by decide +kernel) rfl
theorem lk_mo_mo_behindTen : Cond.methodLink R_mod 196 y_mo_behindTen ∈ CW := cw_i 564 (by decide +kernel) rfl
theorem lk_mo_mo_branch : Cond.methodLink R_mod 168 y_mo_branch ∈ CW := cw_i 571 (by decide +kernel) rfl
theorem lk_mo_mo_byPostbyte : Cond.methodLink R_mod 72 y_mo_byPostbyte ∈ CW := cw_i 607 (by decide +kernel) rfl
theorem lk_mo_mo_call : Cond.methodLink R_mod 140 y_mo_call ∈ CW := cw_i 672 (by decide +kernel) rfl
theorem lk_mo_mo_compare : Cond.methodLink R_mod 133 y_mo_compare ∈ CW := cw_i 595 (by decide +kernel) rfl
theorem lk_mo_mo_d : Cond.methodLink R_mod 66 y_mo_d ∈ CW := cw_i 591 (by decide +kernel) rfl
theorem lk_mo_mo_exchange : Cond.methodLink R_mod 174 y_mo_exchange ∈ CW := cw_i 692 (by decide +kernel) rfl
theorem lk_mo_mo_flag : Cond.methodLink R_mod 36 y_mo_flag ∈ CW := cw_i 520 (by decide +kernel) rfl
theorem lk_mo_mo_get : Cond.methodLink R_mod 149 y_mo_get ∈ CW := cw_i 699 (by decide +kernel) rfl
theorem lk_mo_mo_hasRoom : Cond.methodLink R_mod 52 y_mo_hasRoom ∈ CW := cw_i 620 (by decide +kernel) rfl
theorem lk_mo_mo_holds : Cond.methodLink R_mod 143 y_mo_holds ∈ CW := cw_i 582 (by decide +kernel) rfl
theorem lk_mo_mo_in : Cond.methodLink R_mod 44 y_mo_in ∈ CW := cw_i 568 (by decide +kernel) rfl
theorem lk_mo_mo_instruct : Cond.methodLink R_mod 220 y_mo_instruct ∈ CW := cw_i 556 (by decide +kernel) rfl
theorem lk_mo_mo_interrupt : Cond.methodLink R_mod 217 y_mo_interrupt ∈ CW := cw_i 516 (by decide +kernel) rfl
theorem lk_mo_mo_is : Cond.methodLink R_mod 93 y_mo_is ∈ CW := cw_i 512 (by decide +kernel) rfl
theorem lk_mo_mo_last : Cond.methodLink R_mod 181 y_mo_last ∈ CW := cw_i 723 (by decide +kernel) rfl
theorem lk_mo_mo_lea : Cond.methodLink R_mod 178 y_mo_lea ∈ CW := cw_i 707 (by decide +kernel) rfl
theorem lk_mo_mo_less : Cond.methodLink R_mod 97 y_mo_less ∈ CW := cw_i 611 (by decide +kernel) rfl
theorem lk_mo_mo_loadWord : Cond.methodLink R_mod 130 y_mo_loadWord ∈ CW := cw_i 627 (by decide +kernel) rfl
theorem lk_mo_mo_middle : Cond.methodLink R_mod 208 y_mo_middle ∈ CW := cw_i 684 (by decide +kernel) rfl
theorem lk_mo_mo_moved : Cond.methodLink R_mod 105 y_mo_moved ∈ CW := cw_i 631 (by decide +kernel) rfl
theorem lk_mo_mo_multiply : Cond.methodLink R_mod 187 y_mo_multiply ∈ CW := cw_i 731 (by decide +kernel) rfl
theorem lk_mo_mo_named : Cond.methodLink R_mod 146 y_mo_named ∈ CW := cw_i 696 (by decide +kernel) rfl
theorem lk_mo_mo_next : Cond.methodLink R_mod 31 y_mo_next ∈ CW := cw_i 560 (by decide +kernel) rfl
theorem lk_mo_mo_nextWord : Cond.methodLink R_mod 63 y_mo_nextWord ∈ CW := cw_i 575 (by decide +kernel) rfl
theorem lk_mo_mo_onByte : Cond.methodLink R_mod 101 y_mo_onByte ∈ CW := cw_i 680 (by decide +kernel) rfl
theorem lk_mo_mo_oneByte : Cond.methodLink R_mod 205 y_mo_oneByte ∈ CW := cw_i 676 (by decide +kernel) rfl
theorem lk_mo_mo_operand : Cond.methodLink R_mod 108 y_mo_operand ∈ CW := cw_i 660 (by decide +kernel) rfl
theorem lk_mo_mo_plus : Cond.methodLink R_mod 111 y_mo_plus ∈ CW := cw_i 664 (by decide +kernel) rfl
theorem lk_mo_mo_pull : Cond.methodLink R_mod 81 y_mo_pull ∈ CW := cw_i 715 (by decide +kernel) rfl
theorem lk_mo_mo_pullAll : Cond.methodLink R_mod 161 y_mo_pullAll ∈ CW := cw_i 711 (by decide +kernel) rfl
theorem lk_mo_mo_pullWord : Cond.methodLink R_mod 87 y_mo_pullWord ∈ CW := cw_i 719 (by decide +kernel) rfl
theorem lk_mo_mo_push : Cond.methodLink R_mod 78 y_mo_push ∈ CW := cw_i 532 (by decide +kernel) rfl
theorem lk_mo_mo_pushAll : Cond.methodLink R_mod 155 y_mo_pushAll ∈ CW := cw_i 524 (by decide +kernel) rfl
theorem lk_mo_mo_pushState : Cond.methodLink R_mod 158 y_mo_pushState ∈ CW := cw_i 541 (by decide +kernel) rfl
theorem lk_mo_mo_pushWord : Cond.methodLink R_mod 84 y_mo_pushWord ∈ CW := cw_i 528 (by decide +kernel) rfl
theorem lk_mo_mo_read : Cond.methodLink R_mod 22 y_mo_read ∈ CW := cw_i 552 (by decide +kernel) rfl
theorem lk_mo_mo_readWord : Cond.methodLink R_mod 69 y_mo_readWord ∈ CW := cw_i 548 (by decide +kernel) rfl
theorem lk_mo_mo_set : Cond.methodLink R_mod 152 y_mo_set ∈ CW := cw_i 703 (by decide +kernel) rfl
theorem lk_mo_mo_setD : Cond.methodLink R_mod 117 y_mo_setD ∈ CW := cw_i 635 (by decide +kernel) rfl
theorem lk_mo_mo_shows : Cond.methodLink R_mod 40 y_mo_shows ∈ CW := cw_i 623 (by decide +kernel) rfl
theorem lk_mo_mo_signed : Cond.methodLink R_mod 60 y_mo_signed ∈ CW := cw_i 579 (by decide +kernel) rfl
theorem lk_mo_mo_step : Cond.methodLink R_mod 224 y_mo_step ∈ CW := cw_i 740 (by decide +kernel) rfl
theorem lk_mo_mo_storeWord : Cond.methodLink R_mod 137 y_mo_storeWord ∈ CW := cw_i 639 (by decide +kernel) rfl
theorem lk_mo_mo_trap : Cond.methodLink R_mod 191 y_mo_trap ∈ CW := cw_i 587 (by decide +kernel) rfl
theorem lk_mo_mo_upper : Cond.methodLink R_mod 202 y_mo_upper ∈ CW := cw_i 652 (by decide +kernel) rfl
theorem lk_mo_mo_wordOperand : Cond.methodLink R_mod 114 y_mo_wordOperand ∈ CW := cw_i 599 (by decide +kernel) rfl
theorem lk_mo_mo_write : Cond.methodLink R_mod 26 y_mo_write ∈ CW := cw_i 537 (by decide +kernel) rfl
theorem lk_mo_mo_writeWord : Cond.methodLink R_mod 121 y_mo_writeWord ∈ CW := cw_i 643 (by decide +kernel) rfl
theorem kf_tc_memory : Cond.fieldLink R_chip 10 R_chip (F_chip 0).2.1 (F_chip 0).2.2.1 ∈ CW := cw_i 134 (by decide +kernel) rfl
theorem kf_tc_registers : Cond.fieldLink R_chip 19 R_chip (F_chip 1).2.1 (F_chip 1).2.2.1 ∈ CW := cw_i 135 (by decide +kernel) rfl
theorem kf_tc_arithmetic : Cond.fieldLink R_chip 28 R_chip (F_chip 2).2.1 (F_chip 2).2.2.1 ∈ CW := cw_i 136 (by decide +kernel) rfl
theorem kf_tc_levels : Cond.fieldLink R_chip 32 R_chip (F_chip 3).2.1 (F_chip 3).2.2.1 ∈ CW := cw_i 137 (by decide +kernel) rfl
theorem kf_tc_nmiArmed : Cond.fieldLink R_chip 44 R_chip (F_chip 4).2.1 (F_chip 4).2.2.1 ∈ CW := cw_i 138 (by decide +kernel) rfl
theorem kf_tc_nmiDue : Cond.fieldLink R_chip 48 R_chip (F_chip 5).2.1 (F_chip 5).2.2.1 ∈ CW := cw_i 139 (by decide +kernel) rfl
theorem kf_tc_waiting : Cond.fieldLink R_chip 51 R_chip (F_chip 6).2.1 (F_chip 6).2.2.1 ∈ CW := cw_i 140 (by decide +kernel) rfl
theorem kf_me_bytes : Cond.fieldLink R_mem 9 R_mem (F_mem 0).2.1 (F_mem 0).2.2.1 ∈ CW := cw_i 109 (by decide +kernel) rfl
theorem kf_re_values : Cond.fieldLink R_reg 9 R_reg (F_reg 0).2.1 (F_reg 0).2.2.1 ∈ CW := cw_i 120 (by decide +kernel) rfl
theorem kf_ar_registers : Cond.fieldLink R_ari 9 R_ari (F_ari 0).2.1 (F_ari 0).2.2.1 ∈ CW := cw_i 130 (by decide +kernel) rfl
theorem kf_mo_memory : Cond.fieldLink R_mod 7 R_mod (F_mod 0).2.1 (F_mod 0).2.2.1 ∈ CW := cw_i 483 (by decide +kernel) rfl
theorem kf_mo_r : Cond.fieldLink R_mod 13 R_mod (F_mod 1).2.1 (F_mod 1).2.2.1 ∈ CW := cw_i 484 (by decide +kernel) rfl
theorem kf_mo_before : Cond.fieldLink R_mod 16 R_mod (F_mod 2).2.1 (F_mod 2).2.2.1 ∈ CW := cw_i 485 (by decide +kernel) rfl
theorem kf_mo_undefined : Cond.fieldLink R_mod 56 R_mod (F_mod 3).2.1 (F_mod 3).2.2.1 ∈ CW := cw_i 486 (by decide +kernel) rfl
theorem kf_mo_waits : Cond.fieldLink R_mod 164 R_mod (F_mod 4).2.1 (F_mod 4).2.2.1 ∈ CW := cw_i 487 (by decide +kernel) rfl
theorem kf_mo_armed : Cond.fieldLink R_mod 90 R_mod (F_mod 5).2.1 (F_mod 5).2.2.1 ∈ CW := cw_i 488 (by decide +kernel) rfl
theorem kf_mo_due : Cond.fieldLink R_mod 211 R_mod (F_mod 6).2.1 (F_mod 6).2.2.1 ∈ CW := cw_i 489 (by decide +kernel) rfl
theorem kf_mo_level : Cond.fieldLink R_mod 19 R_mod (F_mod 7).2.1 (F_mod 7).2.2.1 ∈ CW := cw_i 490 (by decide +kernel) rfl
end
section
-- pure combinators
def gd {α : Type} (b : Bool) (m : Option α) : Option α := if b = true then m else none
def bd {S β : Type} (m : Option (Int32 × S)) (k : Int32 → S → Option β) : Option β := match m with
  | some o => k o.1 o.2
  | none => none
def nm {β : Type} (x : Int32) (k : Int32 → β) : β := k x
def ns {S β : Type} (x : S) (k : S → β) : β := k x
def okI (i : Int32) (n : Nat) : Bool := !(decide (i < 0)) && decide (i.toNatClampNeg < n)
def isB (v : Int32) : Bool := decide (v = 0) || decide (v = 1)
def swi {α : Type} (x : Int32) : List (Int32 × Nat × α) → α → α
  | [], d => d
  | c :: r, d => if x = c.1 then c.2.2 else swi x r d
def swt {α : Type} (x : Int32) : List (Int32 × Nat × α) → Nat → Nat
  | [], d => d
  | c :: r, d => if x = c.1 then c.2.1 else swt x r d
theorem gd_some {α : Type} {b : Bool} {m : Option α} {o : α} (h : gd b m = some o) : b = true ∧ m = some o := by
  unfold gd at h
  by_cases hb : b = true
  · rw [if_pos hb] at h; exact ⟨hb, h⟩
  · rw [if_neg hb] at h; cases h
theorem bd_some {S β : Type} {m : Option (Int32 × S)} {k : Int32 → S → Option β} {o : β} (h : bd m k = some o) : ∃ z, m = some z ∧ k z.1 z.2 = some o := by
  cases m with
  | none => cases h
  | some z => exact ⟨z, rfl, h⟩
theorem okI_in {i : Int32} {n : Nat} (h : okI i n = true) : vp_in i n := by
  unfold okI at h
  simp only [Bool.and_eq_true, Bool.not_eq_true', decide_eq_false_iff_not, decide_eq_true_eq] at h
  intro q
  rcases q with q | q
  · exact h.1 q
  · omega
theorem isB_ok {v : Int32} (h : isB v = true) : narrow .boolean (.int v) = .int v ∧ fits .boolean (.int v) = true := by
  unfold isB at h
  simp only [Bool.or_eq_true, decide_eq_true_eq] at h
  rcases h with rfl | rfl
  · exact ⟨rfl, by decide +kernel⟩
  · exact ⟨rfl, by decide +kernel⟩
-- static tables
def Sts (A : Nat → Prop) (tb : Nat → Nat) (U : State) (H : Heap) : Prop := ∀ k, k < 5 → va_Z R_chip (tnm k) "[I" (.ref (tb k)) A U H ∧ va_T .int (tb k) (tln k) (fun j => .int (tvl k j)) A U H
theorem Sts.moved {A : Nat → Prop} {tb : Nat → Nat} {u U : State} {H : Heap} (hvm : u.vm.Alike U.vm) (h : Sts A tb u H) : Sts A tb U H := fun k hk => ⟨(h k hk).1.moved hvm, (h k hk).2.moved hvm⟩
theorem Sts.kept {A : Nat → Prop} {tb : Nat → Nat} {U : State} {H H1 : Heap} (h : Sts A tb U H) (hq : ∀ a : Nat, a < H.size → ¬ A a → H1[a]? = H[a]?) : Sts A tb U H1 := fun k hk => ⟨(h k hk).1.kept hq, (h k hk).2.kept hq⟩
theorem Sts.less {A B : Nat → Prop} {tb : Nat → Nat} {U : State} {H : Heap} (h : Sts A tb U H) (hq : ∀ a : Nat, B a → A a) : Sts B tb U H := fun k hk => ⟨(h k hk).1.narrow hq, (h k hk).2.narrow hq⟩
-- the context of a walk
abbrev Ev : Type := va_G × (Nat → Prop) × ClassId × (Nat → Nat) × (Nat → Nat)
abbrev eD (E : Ev) : va_G := E.1
abbrev eA (E : Ev) : Nat → Prop := E.2.1
abbrev eC (E : Ev) : ClassId := E.2.2.1
abbrev eT (E : Ev) : Nat → Nat := E.2.2.2.1
abbrev eO (E : Ev) : Nat → Nat := E.2.2.2.2
abbrev Cx : Type := (Program × Launch × Env × Room × State) × (MethodId × Array Value × List Frame × Method × Code) × Ev
abbrev xp (X : Cx) : Program := X.1.1
abbrev xl (X : Cx) : Launch := X.1.2.1
abbrev xe (X : Cx) : Env := X.1.2.2.1
abbrev xR (X : Cx) : Room := X.1.2.2.2.1
abbrev xs (X : Cx) : State := X.1.2.2.2.2
abbrev xm (X : Cx) : MethodId := X.2.1.1
abbrev xa (X : Cx) : Array Value := X.2.1.2.1
abbrev xb (X : Cx) : List Frame := X.2.1.2.2.1
abbrev xh (X : Cx) : Method := X.2.1.2.2.2.1
abbrev xc (X : Cx) : Code := X.2.1.2.2.2.2
abbrev xE (X : Cx) : Ev := X.2.2
def Gd (X : Cx) (b : ByteArray) (nL : Nat) (own : String) (ret : Option FieldType) (rm : Room) : Prop :=
  (xp X).tables.exec = Jvm.exec ∧ (xc X).code = b ∧ (xc X).maxLocals = nL ∧ (xs X).vm.findClass own = some (xm X).cls ∧ (∀ w ∈ CW, w.before (xa X) (xs X) = true) ∧ (xh X).locks = false ∧ (xh X).sig.returnType = ret ∧ xR X = rm ∧ va_K (eD (xE X)) vwCl [(eC (xE X), .int)] (xs X) ∧ Sts (eA (xE X)) (eT (xE X)) (xs X) (xs X).heap
section
variable {X : Cx} {b : ByteArray} {nL : Nat} {own : String} {ret : Option FieldType} {rm : Room}
theorem Gd.x (G : Gd X b nL own ret rm) : (xp X).tables.exec = Jvm.exec := G.1
theorem Gd.c (G : Gd X b nL own ret rm) : (xc X).code = b := G.2.1
theorem Gd.n (G : Gd X b nL own ret rm) : (xc X).maxLocals = nL := G.2.2.1
theorem Gd.o (G : Gd X b nL own ret rm) : (xs X).vm.findClass own = some (xm X).cls := G.2.2.2.1
theorem Gd.t (G : Gd X b nL own ret rm) : ∀ w ∈ CW, w.before (xa X) (xs X) = true := G.2.2.2.2.1
theorem Gd.k (G : Gd X b nL own ret rm) : (xh X).locks = false := G.2.2.2.2.2.1
theorem Gd.r (G : Gd X b nL own ret rm) : (xh X).sig.returnType = ret := G.2.2.2.2.2.2.1
theorem Gd.R (G : Gd X b nL own ret rm) : xR X = rm := G.2.2.2.2.2.2.2.1
theorem Gd.K (G : Gd X b nL own ret rm) : va_K (eD (xE X)) vwCl [(eC (xE X), .int)] (xs X) := G.2.2.2.2.2.2.2.2.1
theorem Gd.S (G : Gd X b nL own ret rm) : Sts (eA (xE X)) (eT (xE X)) (xs X) (xs X).heap := G.2.2.2.2.2.2.2.2.2
end
abbrev WD (S : Type) : Type := (Nat → Nat) → ClassId → S → va_W
def J {S : Type} (wd : WD S) (X : Cx) (Q : Int32 × S → State → Prop) (nL pc : Nat) (L : List (Nat × Value)) (st : List Value) (σ : S) (mm : Option (Int32 × S)) : Prop :=
  ∀ o, mm = some o → ∀ (H : Heap) (locs : List Loc) (ls : Array Slot), va_P (eD (xE X)) vwCl (wd (eO (xE X)) (eC (xE X)) σ) H → va_D (eA (xE X)) (wd (eO (xE X)) (eC (xE X)) σ) → va_S (eA (xE X)) (xs X).heap H locs → lv_has ls nL L →
    W (xp X) (xl X) (xe X) (xR X) (xs X) (xm X) (xa X) (xb X) (xh X) (xc X) H locs 0 0 (Q o) (F0 (xm X) pc ls st)
def Okw {S : Type} (wd : WD S) (E : Ev) (σ : S) (U : State) : Prop := va_P (eD E) vwCl (wd (eO E) (eC E) σ) U.heap ∧ va_K (eD E) vwCl [(eC E, .int)] U ∧ va_D (eA E) (wd (eO E) (eC E) σ) ∧ Sts (eA E) (eT E) U U.heap
def QI {S : Type} (wd : WD S) (X : Cx) (o : Int32 × S) : State → Prop := MQ (xb X) (va_Qi (fun (r : Int32) (u : S) => r = o.1 ∧ u = o.2) (fun u t => Okw wd (xE X) u t) (eA (xE X))) (xa X) (xs X) 0 0 (eA (xE X))
def QV {S : Type} (wd : WD S) (X : Cx) (o : Int32 × S) : State → Prop := MQ (xb X) (va_Qv (fun (u : S) => u = o.2) (fun u t => Okw wd (xE X) u t) (eA (xE X))) (xa X) (xs X) 0 0 (eA (xE X))
def CtI {S : Type} (wd : WD S) (l : Launch) (E : Ev) (y : MethodName) (b : ByteArray) (n : Nat) (ret : Option FieldType) (rm : Room) (av : List Value) (σ : S) (mm : Option (Int32 × S)) : Prop := ∀ o, mm = some o → Met l y (Cond.code y b n ret :: CW) rm (va_Pc av (fun U => Okw wd E σ U)) (va_Qi (fun (r : Int32) (u : S) => r = o.1 ∧ u = o.2) (fun u t => Okw wd E u t) (eA E)) 0 0 (eA E)
def CtV {S : Type} (wd : WD S) (l : Launch) (E : Ev) (y : MethodName) (b : ByteArray) (n : Nat) (ret : Option FieldType) (rm : Room) (av : List Value) (σ : S) (mm : Option (Int32 × S)) : Prop := ∀ o, mm = some o → Met l y (Cond.code y b n ret :: CW) rm (va_Pc av (fun U => Okw wd E σ U)) (va_Qv (fun (u : S) => u = o.2) (fun u t => Okw wd E u t) (eA E)) 0 0 (eA E)
def rmm (f n : Nat) : Room := { frames := f, cells := 0, slots := 0, locals := n }
def rok (yf yl yn f n : Nat) : Bool := Nat.ble (yf + 1) f && Nat.ble (8 + (yn + 11) + yl) n
theorem rok_1 {yf yl yn f n : Nat} (h : rok yf yl yn f n = true) : (rmm yf yl).frames + 1 ≤ (rmm f n).frames ∧ 8 + (yn + 11) + (rmm yf yl).locals ≤ (rmm f n).locals := by
  unfold rok at h
  simp only [Bool.and_eq_true] at h
  exact ⟨Nat.le_of_ble_eq_true h.1, Nat.le_of_ble_eq_true h.2⟩
def Rcv {S : Type} (wd : WD S) (E : Ev) (a : Nat) (C : String) : Prop := ∀ σ : S, ∃ (q0 ci : Nat) (fs : List Value) (T : u_T) (N : Nat), (wd (eO E) (eC E) σ)[q0]? = some (a, .inr (ci, fs)) ∧ vwCl[ci]? = some (C, T, N)
theorem Okw.blind {S : Type} {wd : WD S} {E : Ev} {σ : S} {av : List Value} : FrameBlind (va_Pc av (fun U => Okw wd E σ U)) := fun a U g mk q => by
  obtain ⟨q0, qP, qK, qD, qS⟩ := q
  exact ⟨q0, qP, va_K.moved (u := U) (U := U.calling g mk a) (Vm.Alike.refl U.vm) qK, qD, Sts.moved (u := U) (U := U.calling g mk a) (Vm.Alike.refl U.vm) qS⟩
section
variable {S : Type} {wd : WD S} {X : Cx} {b : ByteArray} {nL pc : Nat} {own : String} {ret : Option FieldType} {rm : Room} {Q : Int32 × S → State → Prop} {L : List (Nat × Value)} {st : List Value} {σ : S} {mm m1 m2 : Option (Int32 × S)}
theorem okw_of (G : Gd X b nL own ret rm) {H : Heap} {locs : List Loc} (hP : va_P (eD (xE X)) vwCl (wd (eO (xE X)) (eC (xE X)) σ) H) (hD : va_D (eA (xE X)) (wd (eO (xE X)) (eC (xE X)) σ)) (hS : va_S (eA (xE X)) (xs X).heap H locs) {t : State} (ht : t.heap = H) (hA : (xs X).vm.Alike t.vm) : Okw wd (xE X) σ t :=
  ⟨by rw [ht]; exact hP, va_K.moved hA G.K, hD, by rw [ht]; exact Sts.moved hA (Sts.kept G.S hS.2.1)⟩
theorem j_iadd {x y : Int32} (G : Gd X b nL own ret rm) (hd : decode b pc = .ok (.iadd, 1)) (k : J wd X Q nL (pc + 1) L (.int (x + y) :: st) σ mm) : J wd X Q nL pc L (.int y :: .int x :: st) σ mm := fun o ho H locs ls hP hD hS hl => lv_iadd G.x G.c hd (k o ho H locs ls hP hD hS hl)
theorem j_isub {x y : Int32} (G : Gd X b nL own ret rm) (hd : decode b pc = .ok (.isub, 1)) (k : J wd X Q nL (pc + 1) L (.int (x - y) :: st) σ mm) : J wd X Q nL pc L (.int y :: .int x :: st) σ mm := fun o ho H locs ls hP hD hS hl => lv_isub G.x G.c hd (k o ho H locs ls hP hD hS hl)
theorem j_imul {x y : Int32} (G : Gd X b nL own ret rm) (hd : decode b pc = .ok (.imul, 1)) (k : J wd X Q nL (pc + 1) L (.int (x * y) :: st) σ mm) : J wd X Q nL pc L (.int y :: .int x :: st) σ mm := fun o ho H locs ls hP hD hS hl => lv_imul G.x G.c hd (k o ho H locs ls hP hD hS hl)
theorem j_iand {x y : Int32} (G : Gd X b nL own ret rm) (hd : decode b pc = .ok (.iand, 1)) (k : J wd X Q nL (pc + 1) L (.int (x &&& y) :: st) σ mm) : J wd X Q nL pc L (.int y :: .int x :: st) σ mm := fun o ho H locs ls hP hD hS hl => lv_iand G.x G.c hd (k o ho H locs ls hP hD hS hl)
theorem j_ior {x y : Int32} (G : Gd X b nL own ret rm) (hd : decode b pc = .ok (.ior, 1)) (k : J wd X Q nL (pc + 1) L (.int (x ||| y) :: st) σ mm) : J wd X Q nL pc L (.int y :: .int x :: st) σ mm := fun o ho H locs ls hP hD hS hl => lv_ior G.x G.c hd (k o ho H locs ls hP hD hS hl)
theorem j_ixor {x y : Int32} (G : Gd X b nL own ret rm) (hd : decode b pc = .ok (.ixor, 1)) (k : J wd X Q nL (pc + 1) L (.int (x ^^^ y) :: st) σ mm) : J wd X Q nL pc L (.int y :: .int x :: st) σ mm := fun o ho H locs ls hP hD hS hl => lv_ixor G.x G.c hd (k o ho H locs ls hP hD hS hl)
theorem j_ishl {x y : Int32} (G : Gd X b nL own ret rm) (hd : decode b pc = .ok (.ishl, 1)) (k : J wd X Q nL (pc + 1) L (.int (x <<< (y &&& 31)) :: st) σ mm) : J wd X Q nL pc L (.int y :: .int x :: st) σ mm := fun o ho H locs ls hP hD hS hl => lv_ishl G.x G.c hd (k o ho H locs ls hP hD hS hl)
theorem j_ishr {x y : Int32} (G : Gd X b nL own ret rm) (hd : decode b pc = .ok (.ishr, 1)) (k : J wd X Q nL (pc + 1) L (.int (x >>> (y &&& 31)) :: st) σ mm) : J wd X Q nL pc L (.int y :: .int x :: st) σ mm := fun o ho H locs ls hP hD hS hl => lv_ishr G.x G.c hd (k o ho H locs ls hP hD hS hl)
theorem j_irem {x y : Int32} (G : Gd X b nL own ret rm) (hd : decode b pc = .ok (.irem, 1)) (hy : ¬ y = 0) (k : J wd X Q nL (pc + 1) L (.int (x - x / y * y) :: st) σ mm) : J wd X Q nL pc L (.int y :: .int x :: st) σ mm := fun o ho H locs ls hP hD hS hl => lv_irem G.x G.c hd hy (k o ho H locs ls hP hD hS hl)
theorem j_i2b {x : Int32} (G : Gd X b nL own ret rm) (hd : decode b pc = .ok (.i2b, 1)) (k : J wd X Q nL (pc + 1) L (.int (x.toInt8.toInt32) :: st) σ mm) : J wd X Q nL pc L (.int x :: st) σ mm := fun o ho H locs ls hP hD hS hl => lv_i2b G.x G.c hd rfl (k o ho H locs ls hP hD hS hl)
theorem j_iconst {n : Int} {v : Int32} (G : Gd X b nL own ret rm) (hd : decode b pc = .ok (.iconst n, 1)) (hv : Int32.ofInt n = v) (k : J wd X Q nL (pc + 1) L (.int v :: st) σ mm) : J wd X Q nL pc L st σ mm := fun o ho H locs ls hP hD hS hl => lv_iconst G.x G.c hd hv (k o ho H locs ls hP hD hS hl)
theorem j_bipush {n : Int} {v : Int32} (G : Gd X b nL own ret rm) (hd : decode b pc = .ok (.bipush n, 2)) (hv : (Int8.ofInt n).toInt32 = v) (k : J wd X Q nL (pc + 2) L (.int v :: st) σ mm) : J wd X Q nL pc L st σ mm := fun o ho H locs ls hP hD hS hl => lv_bipush G.x G.c hd hv (k o ho H locs ls hP hD hS hl)
theorem j_sipush {n : Int} {v : Int32} (G : Gd X b nL own ret rm) (hd : decode b pc = .ok (.sipush n, 3)) (hv : (Int16.ofInt n).toInt32 = v) (k : J wd X Q nL (pc + 3) L (.int v :: st) σ mm) : J wd X Q nL pc L st σ mm := fun o ho H locs ls hP hD hS hl => lv_sipush G.x G.c hd hv (k o ho H locs ls hP hD hS hl)
theorem j_ldc {i : Nat} {v : Int32} (G : Gd X b nL own ret rm) (hd : decode b pc = .ok (.ldc i, 2)) (hw : Cond.constant own i v ∈ CW) (k : J wd X Q nL (pc + 2) L (.int v :: st) σ mm) : J wd X Q nL pc L st σ mm := fun o ho H locs ls hP hD hS hl => lv_ldc G.x G.c G.o (G.t _ hw) hd (k o ho H locs ls hP hD hS hl)
theorem j_ldc_w {i : Nat} {v : Int32} (G : Gd X b nL own ret rm) (hd : decode b pc = .ok (.ldc_w i, 3)) (hw : Cond.constant own i v ∈ CW) (k : J wd X Q nL (pc + 3) L (.int v :: st) σ mm) : J wd X Q nL pc L st σ mm := fun o ho H locs ls hP hD hS hl => lv_ldcw G.x G.c G.o (G.t _ hw) hd (k o ho H locs ls hP hD hS hl)
theorem j_dup {v : Value} (G : Gd X b nL own ret rm) (hd : decode b pc = .ok (.dup, 1)) (hv : v.category = 1) (k : J wd X Q nL (pc + 1) L (v :: v :: st) σ mm) : J wd X Q nL pc L (v :: st) σ mm := fun o ho H locs ls hP hD hS hl => lv_dup G.x G.c hd hv (k o ho H locs ls hP hD hS hl)
theorem j_pop {v : Value} (G : Gd X b nL own ret rm) (hd : decode b pc = .ok (.pop, 1)) (hv : v.category = 1) (k : J wd X Q nL (pc + 1) L st σ mm) : J wd X Q nL pc L (v :: st) σ mm := fun o ho H locs ls hP hD hS hl => lv_pop G.x G.c hd hv (k o ho H locs ls hP hD hS hl)
theorem j_goto {off : Int} {tgt : Nat} (G : Gd X b nL own ret rm) (hd : decode b pc = .ok (.goto off, 3)) (ht : (pc : Int) + off = (tgt : Int)) (k : J wd X Q nL tgt L st σ mm) : J wd X Q nL pc L st σ mm := fun o ho H locs ls hP hD hS hl => lv_goto G.x G.c hd ht (k o ho H locs ls hP hD hS hl)
theorem j_ifeq {x : Int32} {off : Int} {tgt : Nat} {mt mf : Option (Int32 × S)} (G : Gd X b nL own ret rm) (hd : decode b pc = .ok (.ifCond .eq off, 3)) (ht : (pc : Int) + off = (tgt : Int)) (kt : J wd X Q nL tgt L st σ mt) (kf : J wd X Q nL (pc + 3) L st σ mf) : J wd X Q nL pc L (.int x :: st) σ (if x = 0 then mt else mf) := fun o ho H locs ls hP hD hS hl => lv_if_eq G.x G.c hd ht (fun h => kt o (by rw [if_pos h] at ho; exact ho) H locs ls hP hD hS hl) (fun h => kf o (by rw [if_neg h] at ho; exact ho) H locs ls hP hD hS hl)
theorem j_ifne {x : Int32} {off : Int} {tgt : Nat} {mt mf : Option (Int32 × S)} (G : Gd X b nL own ret rm) (hd : decode b pc = .ok (.ifCond .ne off, 3)) (ht : (pc : Int) + off = (tgt : Int)) (kt : J wd X Q nL tgt L st σ mt) (kf : J wd X Q nL (pc + 3) L st σ mf) : J wd X Q nL pc L (.int x :: st) σ (if x = 0 then mf else mt) := fun o ho H locs ls hP hD hS hl => lv_if_ne G.x G.c hd ht (fun h => kt o (by rw [if_neg h] at ho; exact ho) H locs ls hP hD hS hl) (fun h => kf o (by rw [if_pos h] at ho; exact ho) H locs ls hP hD hS hl)
theorem j_iflt {x : Int32} {off : Int} {tgt : Nat} {mt mf : Option (Int32 × S)} (G : Gd X b nL own ret rm) (hd : decode b pc = .ok (.ifCond .lt off, 3)) (ht : (pc : Int) + off = (tgt : Int)) (kt : J wd X Q nL tgt L st σ mt) (kf : J wd X Q nL (pc + 3) L st σ mf) : J wd X Q nL pc L (.int x :: st) σ (if x < 0 then mt else mf) := fun o ho H locs ls hP hD hS hl => lv_if_lt G.x G.c hd ht (fun h => kt o (by rw [if_pos h] at ho; exact ho) H locs ls hP hD hS hl) (fun h => kf o (by rw [if_neg h] at ho; exact ho) H locs ls hP hD hS hl)
theorem j_ifge {x : Int32} {off : Int} {tgt : Nat} {mt mf : Option (Int32 × S)} (G : Gd X b nL own ret rm) (hd : decode b pc = .ok (.ifCond .ge off, 3)) (ht : (pc : Int) + off = (tgt : Int)) (kt : J wd X Q nL tgt L st σ mt) (kf : J wd X Q nL (pc + 3) L st σ mf) : J wd X Q nL pc L (.int x :: st) σ (if 0 ≤ x then mt else mf) := fun o ho H locs ls hP hD hS hl => lv_if_ge G.x G.c hd ht (fun h => kt o (by rw [if_pos h] at ho; exact ho) H locs ls hP hD hS hl) (fun h => kf o (by rw [if_neg h] at ho; exact ho) H locs ls hP hD hS hl)
theorem j_ifgt {x : Int32} {off : Int} {tgt : Nat} {mt mf : Option (Int32 × S)} (G : Gd X b nL own ret rm) (hd : decode b pc = .ok (.ifCond .gt off, 3)) (ht : (pc : Int) + off = (tgt : Int)) (kt : J wd X Q nL tgt L st σ mt) (kf : J wd X Q nL (pc + 3) L st σ mf) : J wd X Q nL pc L (.int x :: st) σ (if 0 < x then mt else mf) := fun o ho H locs ls hP hD hS hl => lv_if_gt G.x G.c hd ht (fun h => kt o (by rw [if_pos h] at ho; exact ho) H locs ls hP hD hS hl) (fun h => kf o (by rw [if_neg h] at ho; exact ho) H locs ls hP hD hS hl)
theorem j_ifle {x : Int32} {off : Int} {tgt : Nat} {mt mf : Option (Int32 × S)} (G : Gd X b nL own ret rm) (hd : decode b pc = .ok (.ifCond .le off, 3)) (ht : (pc : Int) + off = (tgt : Int)) (kt : J wd X Q nL tgt L st σ mt) (kf : J wd X Q nL (pc + 3) L st σ mf) : J wd X Q nL pc L (.int x :: st) σ (if x ≤ 0 then mt else mf) := fun o ho H locs ls hP hD hS hl => lv_if_le G.x G.c hd ht (fun h => kt o (by rw [if_pos h] at ho; exact ho) H locs ls hP hD hS hl) (fun h => kf o (by rw [if_neg h] at ho; exact ho) H locs ls hP hD hS hl)
theorem j_iceq {x y : Int32} {off : Int} {tgt : Nat} {mt mf : Option (Int32 × S)} (G : Gd X b nL own ret rm) (hd : decode b pc = .ok (.if_icmp .eq off, 3)) (ht : (pc : Int) + off = (tgt : Int)) (kt : J wd X Q nL tgt L st σ mt) (kf : J wd X Q nL (pc + 3) L st σ mf) : J wd X Q nL pc L (.int y :: .int x :: st) σ (if x = y then mt else mf) := fun o ho H locs ls hP hD hS hl => lv_icmp_eq G.x G.c hd ht (fun h => kt o (by rw [if_pos h] at ho; exact ho) H locs ls hP hD hS hl) (fun h => kf o (by rw [if_neg h] at ho; exact ho) H locs ls hP hD hS hl)
theorem j_icne {x y : Int32} {off : Int} {tgt : Nat} {mt mf : Option (Int32 × S)} (G : Gd X b nL own ret rm) (hd : decode b pc = .ok (.if_icmp .ne off, 3)) (ht : (pc : Int) + off = (tgt : Int)) (kt : J wd X Q nL tgt L st σ mt) (kf : J wd X Q nL (pc + 3) L st σ mf) : J wd X Q nL pc L (.int y :: .int x :: st) σ (if x = y then mf else mt) := fun o ho H locs ls hP hD hS hl => lv_icmp_ne G.x G.c hd ht (fun h => kt o (by rw [if_neg h] at ho; exact ho) H locs ls hP hD hS hl) (fun h => kf o (by rw [if_pos h] at ho; exact ho) H locs ls hP hD hS hl)
theorem j_iclt {x y : Int32} {off : Int} {tgt : Nat} {mt mf : Option (Int32 × S)} (G : Gd X b nL own ret rm) (hd : decode b pc = .ok (.if_icmp .lt off, 3)) (ht : (pc : Int) + off = (tgt : Int)) (kt : J wd X Q nL tgt L st σ mt) (kf : J wd X Q nL (pc + 3) L st σ mf) : J wd X Q nL pc L (.int y :: .int x :: st) σ (if x < y then mt else mf) := fun o ho H locs ls hP hD hS hl => lv_icmp_lt G.x G.c hd ht (fun h => kt o (by rw [if_pos h] at ho; exact ho) H locs ls hP hD hS hl) (fun h => kf o (by rw [if_neg h] at ho; exact ho) H locs ls hP hD hS hl)
theorem j_icge {x y : Int32} {off : Int} {tgt : Nat} {mt mf : Option (Int32 × S)} (G : Gd X b nL own ret rm) (hd : decode b pc = .ok (.if_icmp .ge off, 3)) (ht : (pc : Int) + off = (tgt : Int)) (kt : J wd X Q nL tgt L st σ mt) (kf : J wd X Q nL (pc + 3) L st σ mf) : J wd X Q nL pc L (.int y :: .int x :: st) σ (if y ≤ x then mt else mf) := fun o ho H locs ls hP hD hS hl => lv_icmp_ge G.x G.c hd ht (fun h => kt o (by rw [if_pos h] at ho; exact ho) H locs ls hP hD hS hl) (fun h => kf o (by rw [if_neg h] at ho; exact ho) H locs ls hP hD hS hl)
theorem j_icgt {x y : Int32} {off : Int} {tgt : Nat} {mt mf : Option (Int32 × S)} (G : Gd X b nL own ret rm) (hd : decode b pc = .ok (.if_icmp .gt off, 3)) (ht : (pc : Int) + off = (tgt : Int)) (kt : J wd X Q nL tgt L st σ mt) (kf : J wd X Q nL (pc + 3) L st σ mf) : J wd X Q nL pc L (.int y :: .int x :: st) σ (if y < x then mt else mf) := fun o ho H locs ls hP hD hS hl => lv_icmp_gt G.x G.c hd ht (fun h => kt o (by rw [if_pos h] at ho; exact ho) H locs ls hP hD hS hl) (fun h => kf o (by rw [if_neg h] at ho; exact ho) H locs ls hP hD hS hl)
theorem j_icle {x y : Int32} {off : Int} {tgt : Nat} {mt mf : Option (Int32 × S)} (G : Gd X b nL own ret rm) (hd : decode b pc = .ok (.if_icmp .le off, 3)) (ht : (pc : Int) + off = (tgt : Int)) (kt : J wd X Q nL tgt L st σ mt) (kf : J wd X Q nL (pc + 3) L st σ mf) : J wd X Q nL pc L (.int y :: .int x :: st) σ (if x ≤ y then mt else mf) := fun o ho H locs ls hP hD hS hl => lv_icmp_le G.x G.c hd ht (fun h => kt o (by rw [if_pos h] at ho; exact ho) H locs ls hP hD hS hl) (fun h => kf o (by rw [if_neg h] at ho; exact ho) H locs ls hP hD hS hl)
theorem j_iload_n {n : Fin 4} {i : Nat} {x : Int32} (k : Nat) (G : Gd X b nL own ret rm) (hd : decode b pc = .ok (.iload_n n, 1)) (hi : (n : Nat) = i) (hk : L[k]? = some (i, .int x)) (kj : J wd X Q nL (pc + 1) L (.int x :: st) σ mm) : J wd X Q nL pc L st σ mm := fun o ho H locs ls hP hD hS hl => lv_iload_n G.x G.c hd hi (lv_at hl k hk) (kj o ho H locs ls hP hD hS hl)
theorem j_iload {i : Nat} {x : Int32} (k : Nat) (G : Gd X b nL own ret rm) (hd : decode b pc = .ok (.iload i, 2)) (hk : L[k]? = some (i, .int x)) (kj : J wd X Q nL (pc + 2) L (.int x :: st) σ mm) : J wd X Q nL pc L st σ mm := fun o ho H locs ls hP hD hS hl => lv_iload G.x G.c hd (lv_at hl k hk) (kj o ho H locs ls hP hD hS hl)
theorem j_aload_n {n : Fin 4} {i : Nat} {x : Nat} (k : Nat) (G : Gd X b nL own ret rm) (hd : decode b pc = .ok (.aload_n n, 1)) (hi : (n : Nat) = i) (hk : L[k]? = some (i, .ref x)) (kj : J wd X Q nL (pc + 1) L (.ref x :: st) σ mm) : J wd X Q nL pc L st σ mm := fun o ho H locs ls hP hD hS hl => lv_aload_n G.x G.c hd hi (lv_at hl k hk) (kj o ho H locs ls hP hD hS hl)
def lsto (i : Nat) (v : Value) (L : List (Nat × Value)) : List (Nat × Value) := (i, v) :: L.filter (fun q => !(q.1 == i) && !(q.1 + 1 == i && q.2.category == 2))
theorem j_istore_n {n : Fin 4} {i : Nat} {x : Int32} {L1 : List (Nat × Value)} (ks : List Nat) (G : Gd X b nL own ret rm) (hd : decode b pc = .ok (.istore_n n, 1)) (hi : (n : Nat) = i) (hn : i < nL) (hL : lv_pick (lsto i (.int x) L) ks = L1) (kj : J wd X Q nL (pc + 1) L1 st σ mm) : J wd X Q nL pc L (.int x :: st) σ mm := fun o ho H locs ls hP hD hS hl => lv_istore_n G.x G.c hd hi hl hn rfl (fun ls1 hl1 => kj o ho H locs ls1 hP hD hS (lv_sub hl1 ks hL))
theorem j_istore {i : Nat} {x : Int32} {L1 : List (Nat × Value)} (ks : List Nat) (G : Gd X b nL own ret rm) (hd : decode b pc = .ok (.istore i, 2)) (hn : i < nL) (hL : lv_pick (lsto i (.int x) L) ks = L1) (kj : J wd X Q nL (pc + 2) L1 st σ mm) : J wd X Q nL pc L (.int x :: st) σ mm := fun o ho H locs ls hP hD hS hl => lv_istore G.x G.c hd hl hn rfl (fun ls1 hl1 => kj o ho H locs ls1 hP hD hS (lv_sub hl1 ks hL))
theorem j_iinc {i : Nat} {n : Int} {x v : Int32} {L1 : List (Nat × Value)} (k : Nat) (ks : List Nat) (G : Gd X b nL own ret rm) (hd : decode b pc = .ok (.iinc i n, 3)) (hk : L[k]? = some (i, .int x)) (hv : x + Int32.ofInt n = v) (hn : i < nL) (hL : lv_pick (lsto i (.int v) L) ks = L1) (kj : J wd X Q nL (pc + 3) L1 st σ mm) : J wd X Q nL pc L st σ mm := fun o ho H locs ls hP hD hS hl => lv_iinc G.x G.c hd hl hk hv hn rfl (fun ls1 hl1 => kj o ho H locs ls1 hP hD hS (lv_sub hl1 ks hL))
theorem j_sub {L1 : List (Nat × Value)} (ks : List Nat) (hL : lv_pick L ks = L1) (kj : J wd X Q nL pc L1 st σ mm) : J wd X Q nL pc L st σ mm := fun o ho H locs ls hP hD hS hl => kj o ho H locs ls hP hD hS (lv_sub hl ks hL)
theorem j_nm {x : Int32} {kk : Int32 → Option (Int32 × S)} (k : ∀ v : Int32, J wd X Q nL pc L (.int v :: st) σ (kk v)) : J wd X Q nL pc L (.int x :: st) σ (nm x kk) := k x
theorem j_ns {τ : S} {kk : S → Option (Int32 × S)} (k : ∀ v : S, J wd X Q nL pc L st v (kk v)) : J wd X Q nL pc L st τ (ns τ kk) := k τ
theorem j_iret {v : Int32} (G : Gd X b nL own (some .int) rm) (hd : decode b pc = .ok (.ireturn, 1)) : J wd X (QI wd X) nL pc L [.int v] σ (some (v, σ)) := fun o ho H locs ls hP hD hS hl => by
  cases ho
  exact W.iret (hlocks := G.k) G.x G.c G.r (fun t ht hW => ⟨⟨v, σ, rfl, ⟨rfl, rfl⟩, okw_of G hP hD hS ht hW.alike⟩, hS.F ht⟩) hS.2.2 hd
theorem j_zret {v : Int32} (G : Gd X b nL own (some .boolean) rm) (hd : decode b pc = .ok (.ireturn, 1)) : J wd X (QI wd X) nL pc L [.int v] σ (gd (isB v) (some (v, σ))) := fun o ho H locs ls hP hD hS hl => by
  obtain ⟨hv, ho⟩ := gd_some ho
  cases ho
  exact W.zret (hlocks := G.k) G.x G.c G.r (isB_ok hv).1 (fun t ht hW => ⟨⟨v, σ, rfl, ⟨rfl, rfl⟩, okw_of G hP hD hS ht hW.alike⟩, hS.F ht⟩) hS.2.2 hd
theorem j_zretc {v : Int32} (hv : isB v = true) (G : Gd X b nL own (some .boolean) rm) (hd : decode b pc = .ok (.ireturn, 1)) : J wd X (QI wd X) nL pc L [.int v] σ (some (v, σ)) := fun o ho H locs ls hP hD hS hl => by
  cases ho
  exact W.zret (hlocks := G.k) G.x G.c G.r (isB_ok hv).1 (fun t ht hW => ⟨⟨v, σ, rfl, ⟨rfl, rfl⟩, okw_of G hP hD hS ht hW.alike⟩, hS.F ht⟩) hS.2.2 hd
theorem j_vret (G : Gd X b nL own none rm) (hd : decode b pc = .ok (.return_, 1)) : J wd X (QV wd X) nL pc L [] σ (some (0, σ)) := fun o ho H locs ls hP hD hS hl => by
  cases ho
  exact W.vret (hlocks := G.k) G.x G.c G.r (fun t ht hW => ⟨⟨σ, rfl, rfl, okw_of G hP hD hS ht hW.alike⟩, hS.F ht⟩) hS.2.2 hd
theorem j_callVi {y : MethodName} {yb : ByteArray} {yn n f fl yf yl idx : Nat} {yret : Option FieldType} {a : Nat} {As rest st0 : List Value} {kk : Int32 → S → Option (Int32 × S)}
    (G : Gd X b nL own ret (rmm f fl)) (hM : CtI wd (xl X) (xE X) y yb yn yret (rmm yf yl) (.ref a :: As) σ m1) (hm : MwV y yb yn yret n) (hlk : Cond.methodLink own idx y ∈ CW) (hr : Rcv wd (xE X) a y.cls) (hn : As.length = n) (hst : st0 = As.reverse ++ .ref a :: rest) (hc : (rest.map fun v => v.category).sum ≤ 8) (hrm : rok yf yl yn f fl = true) (hd : decode b pc = .ok (.invokevirtual idx, 3)) (kj : ∀ (r : Int32) (u : S), J wd X Q nL (pc + 3) L (.int r :: rest) u (kk r u)) : J wd X Q nL pc L st0 σ (bd m1 kk) := fun o ho H locs ls hP hD hS hl => by
  obtain ⟨z, hz1, hz2⟩ := bd_some ho
  have hB : CallB (xR X) (xs X) (xa X) own idx y yb yn yret (Cond.code y yb yn yret :: CW) (rmm yf yl) 0 0 n := callB_of n G.t (cw_in (fun w hw => by
    rcases List.mem_cons.mp hw with rfl | h
    · exact hm.1.2.1
    · exact h)) rfl rfl rfl (G.t _ hm.1.1) (G.t _ hlk) hm.1.2.2 (by rw [G.R]; exact rok_1 hrm)
  obtain ⟨q0, ci, fs, T, N, hr1, hr2⟩ := hr σ
  refine va_calli (va_runV (Ts := CW) (C := y.cls) (b := a) (As := As) (rest := rest) ⟨G.x, G.c, G.n, G.o, G.t⟩ (hM z hz1) ⟨hB, G.t _ hm.2.1, G.t _ hm.2.2⟩ ⟨Okw.blind, va_recv G.K hP hr2 hr1, fun U hU hW => ⟨rfl, okw_of G hP hD hS hU hW.alike⟩⟩ rfl hn hl.1 hst (lv_room hc) hd ⟨Nat.zero_le _, Nat.zero_le _⟩) hS (fun q _ h => h) (fun q h => h) ?_
  intro r u t H1 locs1 ht hvm hpost hB1 hz hk hS1
  obtain ⟨h1, h2⟩ := hpost
  subst h1; subst h2
  obtain ⟨hP1, -, hD1, -⟩ := hB1
  rw [ht] at hP1
  exact kj z.1 z.2 o hz2 H1 locs1 ls hP1 hD1 hS1 hl
theorem j_callVv {y : MethodName} {yb : ByteArray} {yn n f fl yf yl idx : Nat} {yret : Option FieldType} {a : Nat} {As rest st0 : List Value} {kk : Int32 → S → Option (Int32 × S)}
    (G : Gd X b nL own ret (rmm f fl)) (hM : CtV wd (xl X) (xE X) y yb yn yret (rmm yf yl) (.ref a :: As) σ m1) (hm : MwV y yb yn yret n) (hlk : Cond.methodLink own idx y ∈ CW) (hr : Rcv wd (xE X) a y.cls) (hn : As.length = n) (hst : st0 = As.reverse ++ .ref a :: rest) (hc : (rest.map fun v => v.category).sum ≤ 8) (hrm : rok yf yl yn f fl = true) (hd : decode b pc = .ok (.invokevirtual idx, 3)) (kj : ∀ (z : Int32) (u : S), J wd X Q nL (pc + 3) L rest u (kk z u)) : J wd X Q nL pc L st0 σ (bd m1 kk) := fun o ho H locs ls hP hD hS hl => by
  obtain ⟨z, hz1, hz2⟩ := bd_some ho
  have hB : CallB (xR X) (xs X) (xa X) own idx y yb yn yret (Cond.code y yb yn yret :: CW) (rmm yf yl) 0 0 n := callB_of n G.t (cw_in (fun w hw => by
    rcases List.mem_cons.mp hw with rfl | h
    · exact hm.1.2.1
    · exact h)) rfl rfl rfl (G.t _ hm.1.1) (G.t _ hlk) hm.1.2.2 (by rw [G.R]; exact rok_1 hrm)
  obtain ⟨q0, ci, fs, T, N, hr1, hr2⟩ := hr σ
  refine va_callv (va_runV (Ts := CW) (C := y.cls) (b := a) (As := As) (rest := rest) ⟨G.x, G.c, G.n, G.o, G.t⟩ (hM z hz1) ⟨hB, G.t _ hm.2.1, G.t _ hm.2.2⟩ ⟨Okw.blind, va_recv G.K hP hr2 hr1, fun U hU hW => ⟨rfl, okw_of G hP hD hS hU hW.alike⟩⟩ rfl hn hl.1 hst (lv_room hc) hd ⟨Nat.zero_le _, Nat.zero_le _⟩) hS (fun q _ h => h) (fun q h => h) ?_
  intro u t H1 locs1 ht hvm hpost hB1 hz hk hS1
  subst hpost
  obtain ⟨hP1, -, hD1, -⟩ := hB1
  rw [ht] at hP1
  exact kj z.1 z.2 o hz2 H1 locs1 ls hP1 hD1 hS1 hl
theorem j_callSi {y : MethodName} {yb : ByteArray} {yn n f fl yf yl idx : Nat} {yret : Option FieldType} {As rest st0 : List Value} {kk : Int32 → S → Option (Int32 × S)}
    (G : Gd X b nL own ret (rmm f fl)) (hM : CtI wd (xl X) (xE X) y yb yn yret (rmm yf yl) (As) σ m1) (hm : MwS y yb yn yret n) (hlk : Cond.methodLink own idx y ∈ CW) (hn : As.length = n) (hst : st0 = As.reverse ++ rest) (hc : (rest.map fun v => v.category).sum ≤ 8) (hrm : rok yf yl yn f fl = true) (hd : decode b pc = .ok (.invokestatic idx, 3)) (kj : ∀ (r : Int32) (u : S), J wd X Q nL (pc + 3) L (.int r :: rest) u (kk r u)) : J wd X Q nL pc L st0 σ (bd m1 kk) := fun o ho H locs ls hP hD hS hl => by
  obtain ⟨z, hz1, hz2⟩ := bd_some ho
  have hB : CallB (xR X) (xs X) (xa X) own idx y yb yn yret (Cond.code y yb yn yret :: CW) (rmm yf yl) 0 0 n := callB_of n G.t (cw_in (fun w hw => by
    rcases List.mem_cons.mp hw with rfl | h
    · exact hm.1.2.1
    · exact h)) rfl rfl rfl (G.t _ hm.1.1) (G.t _ hlk) hm.1.2.2 (by rw [G.R]; exact rok_1 hrm)
  refine va_calli (va_runS (Ts := CW) (As := As) (rest := rest) ⟨G.x, G.c, G.n, G.o, G.t⟩ (hM z hz1) ⟨hB, G.t _ hm.2⟩ ⟨Okw.blind, fun U hU hW => ⟨rfl, okw_of G hP hD hS hU hW.alike⟩⟩ rfl hn hl.1 hst (lv_room hc) hd ⟨Nat.zero_le _, Nat.zero_le _⟩) hS (fun q _ h => h) (fun q h => h) ?_
  intro r u t H1 locs1 ht hvm hpost hB1 hz hk hS1
  obtain ⟨h1, h2⟩ := hpost
  subst h1; subst h2
  obtain ⟨hP1, -, hD1, -⟩ := hB1
  rw [ht] at hP1
  exact kj z.1 z.2 o hz2 H1 locs1 ls hP1 hD1 hS1 hl
theorem j_callSv {y : MethodName} {yb : ByteArray} {yn n f fl yf yl idx : Nat} {yret : Option FieldType} {As rest st0 : List Value} {kk : Int32 → S → Option (Int32 × S)}
    (G : Gd X b nL own ret (rmm f fl)) (hM : CtV wd (xl X) (xE X) y yb yn yret (rmm yf yl) (As) σ m1) (hm : MwS y yb yn yret n) (hlk : Cond.methodLink own idx y ∈ CW) (hn : As.length = n) (hst : st0 = As.reverse ++ rest) (hc : (rest.map fun v => v.category).sum ≤ 8) (hrm : rok yf yl yn f fl = true) (hd : decode b pc = .ok (.invokestatic idx, 3)) (kj : ∀ (z : Int32) (u : S), J wd X Q nL (pc + 3) L rest u (kk z u)) : J wd X Q nL pc L st0 σ (bd m1 kk) := fun o ho H locs ls hP hD hS hl => by
  obtain ⟨z, hz1, hz2⟩ := bd_some ho
  have hB : CallB (xR X) (xs X) (xa X) own idx y yb yn yret (Cond.code y yb yn yret :: CW) (rmm yf yl) 0 0 n := callB_of n G.t (cw_in (fun w hw => by
    rcases List.mem_cons.mp hw with rfl | h
    · exact hm.1.2.1
    · exact h)) rfl rfl rfl (G.t _ hm.1.1) (G.t _ hlk) hm.1.2.2 (by rw [G.R]; exact rok_1 hrm)
  refine va_callv (va_runS (Ts := CW) (As := As) (rest := rest) ⟨G.x, G.c, G.n, G.o, G.t⟩ (hM z hz1) ⟨hB, G.t _ hm.2⟩ ⟨Okw.blind, fun U hU hW => ⟨rfl, okw_of G hP hD hS hU hW.alike⟩⟩ rfl hn hl.1 hst (lv_room hc) hd ⟨Nat.zero_le _, Nat.zero_le _⟩) hS (fun q _ h => h) (fun q h => h) ?_
  intro u t H1 locs1 ht hvm hpost hB1 hz hk hS1
  subst hpost
  obtain ⟨hP1, -, hD1, -⟩ := hB1
  rw [ht] at hP1
  exact kj z.1 z.2 o hz2 H1 locs1 ls hP1 hD1 hS1 hl
theorem j_Vi0 {y : MethodName} {yb : ByteArray} {yn f fl yf yl idx : Nat} {yret : Option FieldType} {a : Nat} {rest : List Value} {kk : Int32 → S → Option (Int32 × S)} (G : Gd X b nL own ret (rmm f fl)) (hM : CtI wd (xl X) (xE X) y yb yn yret (rmm yf yl) (.ref a :: []) σ m1) (hm : MwV y yb yn yret 0) (hlk : Cond.methodLink own idx y ∈ CW) (hr : Rcv wd (xE X) a y.cls) (hd : decode b pc = .ok (.invokevirtual idx, 3)) (hrm : rok yf yl yn f fl = true) (hc : (rest.map fun v => v.category).sum ≤ 8) (kj : ∀ (r : Int32) (u : S), J wd X Q nL (pc + 3) L (.int r :: rest) u (kk r u)) : J wd X Q nL pc L (.ref a :: rest) σ (bd m1 kk) := j_callVi (As := []) G hM hm hlk hr rfl rfl hc hrm hd kj
theorem j_Vi1 {y : MethodName} {yb : ByteArray} {yn f fl yf yl idx : Nat} {yret : Option FieldType} {a : Nat} {a1 : Int32} {rest : List Value} {kk : Int32 → S → Option (Int32 × S)} (G : Gd X b nL own ret (rmm f fl)) (hM : CtI wd (xl X) (xE X) y yb yn yret (rmm yf yl) (.ref a :: [.int a1]) σ m1) (hm : MwV y yb yn yret 1) (hlk : Cond.methodLink own idx y ∈ CW) (hr : Rcv wd (xE X) a y.cls) (hd : decode b pc = .ok (.invokevirtual idx, 3)) (hrm : rok yf yl yn f fl = true) (hc : (rest.map fun v => v.category).sum ≤ 8) (kj : ∀ (r : Int32) (u : S), J wd X Q nL (pc + 3) L (.int r :: rest) u (kk r u)) : J wd X Q nL pc L (.int a1 :: .ref a :: rest) σ (bd m1 kk) := j_callVi (As := [.int a1]) G hM hm hlk hr rfl rfl hc hrm hd kj
theorem j_Vi2 {y : MethodName} {yb : ByteArray} {yn f fl yf yl idx : Nat} {yret : Option FieldType} {a : Nat} {a1 a2 : Int32} {rest : List Value} {kk : Int32 → S → Option (Int32 × S)} (G : Gd X b nL own ret (rmm f fl)) (hM : CtI wd (xl X) (xE X) y yb yn yret (rmm yf yl) (.ref a :: [.int a1, .int a2]) σ m1) (hm : MwV y yb yn yret 2) (hlk : Cond.methodLink own idx y ∈ CW) (hr : Rcv wd (xE X) a y.cls) (hd : decode b pc = .ok (.invokevirtual idx, 3)) (hrm : rok yf yl yn f fl = true) (hc : (rest.map fun v => v.category).sum ≤ 8) (kj : ∀ (r : Int32) (u : S), J wd X Q nL (pc + 3) L (.int r :: rest) u (kk r u)) : J wd X Q nL pc L (.int a2 :: .int a1 :: .ref a :: rest) σ (bd m1 kk) := j_callVi (As := [.int a1, .int a2]) G hM hm hlk hr rfl rfl hc hrm hd kj
theorem j_Vi3 {y : MethodName} {yb : ByteArray} {yn f fl yf yl idx : Nat} {yret : Option FieldType} {a : Nat} {a1 a2 a3 : Int32} {rest : List Value} {kk : Int32 → S → Option (Int32 × S)} (G : Gd X b nL own ret (rmm f fl)) (hM : CtI wd (xl X) (xE X) y yb yn yret (rmm yf yl) (.ref a :: [.int a1, .int a2, .int a3]) σ m1) (hm : MwV y yb yn yret 3) (hlk : Cond.methodLink own idx y ∈ CW) (hr : Rcv wd (xE X) a y.cls) (hd : decode b pc = .ok (.invokevirtual idx, 3)) (hrm : rok yf yl yn f fl = true) (hc : (rest.map fun v => v.category).sum ≤ 8) (kj : ∀ (r : Int32) (u : S), J wd X Q nL (pc + 3) L (.int r :: rest) u (kk r u)) : J wd X Q nL pc L (.int a3 :: .int a2 :: .int a1 :: .ref a :: rest) σ (bd m1 kk) := j_callVi (As := [.int a1, .int a2, .int a3]) G hM hm hlk hr rfl rfl hc hrm hd kj
theorem j_Vi4 {y : MethodName} {yb : ByteArray} {yn f fl yf yl idx : Nat} {yret : Option FieldType} {a : Nat} {a1 a2 a3 a4 : Int32} {rest : List Value} {kk : Int32 → S → Option (Int32 × S)} (G : Gd X b nL own ret (rmm f fl)) (hM : CtI wd (xl X) (xE X) y yb yn yret (rmm yf yl) (.ref a :: [.int a1, .int a2, .int a3, .int a4]) σ m1) (hm : MwV y yb yn yret 4) (hlk : Cond.methodLink own idx y ∈ CW) (hr : Rcv wd (xE X) a y.cls) (hd : decode b pc = .ok (.invokevirtual idx, 3)) (hrm : rok yf yl yn f fl = true) (hc : (rest.map fun v => v.category).sum ≤ 8) (kj : ∀ (r : Int32) (u : S), J wd X Q nL (pc + 3) L (.int r :: rest) u (kk r u)) : J wd X Q nL pc L (.int a4 :: .int a3 :: .int a2 :: .int a1 :: .ref a :: rest) σ (bd m1 kk) := j_callVi (As := [.int a1, .int a2, .int a3, .int a4]) G hM hm hlk hr rfl rfl hc hrm hd kj
theorem j_Vv0 {y : MethodName} {yb : ByteArray} {yn f fl yf yl idx : Nat} {yret : Option FieldType} {a : Nat} {rest : List Value} {kk : Int32 → S → Option (Int32 × S)} (G : Gd X b nL own ret (rmm f fl)) (hM : CtV wd (xl X) (xE X) y yb yn yret (rmm yf yl) (.ref a :: []) σ m1) (hm : MwV y yb yn yret 0) (hlk : Cond.methodLink own idx y ∈ CW) (hr : Rcv wd (xE X) a y.cls) (hd : decode b pc = .ok (.invokevirtual idx, 3)) (hrm : rok yf yl yn f fl = true) (hc : (rest.map fun v => v.category).sum ≤ 8) (kj : ∀ (z : Int32) (u : S), J wd X Q nL (pc + 3) L rest u (kk z u)) : J wd X Q nL pc L (.ref a :: rest) σ (bd m1 kk) := j_callVv (As := []) G hM hm hlk hr rfl rfl hc hrm hd kj
theorem j_Vv1 {y : MethodName} {yb : ByteArray} {yn f fl yf yl idx : Nat} {yret : Option FieldType} {a : Nat} {a1 : Int32} {rest : List Value} {kk : Int32 → S → Option (Int32 × S)} (G : Gd X b nL own ret (rmm f fl)) (hM : CtV wd (xl X) (xE X) y yb yn yret (rmm yf yl) (.ref a :: [.int a1]) σ m1) (hm : MwV y yb yn yret 1) (hlk : Cond.methodLink own idx y ∈ CW) (hr : Rcv wd (xE X) a y.cls) (hd : decode b pc = .ok (.invokevirtual idx, 3)) (hrm : rok yf yl yn f fl = true) (hc : (rest.map fun v => v.category).sum ≤ 8) (kj : ∀ (z : Int32) (u : S), J wd X Q nL (pc + 3) L rest u (kk z u)) : J wd X Q nL pc L (.int a1 :: .ref a :: rest) σ (bd m1 kk) := j_callVv (As := [.int a1]) G hM hm hlk hr rfl rfl hc hrm hd kj
theorem j_Vv2 {y : MethodName} {yb : ByteArray} {yn f fl yf yl idx : Nat} {yret : Option FieldType} {a : Nat} {a1 a2 : Int32} {rest : List Value} {kk : Int32 → S → Option (Int32 × S)} (G : Gd X b nL own ret (rmm f fl)) (hM : CtV wd (xl X) (xE X) y yb yn yret (rmm yf yl) (.ref a :: [.int a1, .int a2]) σ m1) (hm : MwV y yb yn yret 2) (hlk : Cond.methodLink own idx y ∈ CW) (hr : Rcv wd (xE X) a y.cls) (hd : decode b pc = .ok (.invokevirtual idx, 3)) (hrm : rok yf yl yn f fl = true) (hc : (rest.map fun v => v.category).sum ≤ 8) (kj : ∀ (z : Int32) (u : S), J wd X Q nL (pc + 3) L rest u (kk z u)) : J wd X Q nL pc L (.int a2 :: .int a1 :: .ref a :: rest) σ (bd m1 kk) := j_callVv (As := [.int a1, .int a2]) G hM hm hlk hr rfl rfl hc hrm hd kj
theorem j_Vv3 {y : MethodName} {yb : ByteArray} {yn f fl yf yl idx : Nat} {yret : Option FieldType} {a : Nat} {a1 a2 a3 : Int32} {rest : List Value} {kk : Int32 → S → Option (Int32 × S)} (G : Gd X b nL own ret (rmm f fl)) (hM : CtV wd (xl X) (xE X) y yb yn yret (rmm yf yl) (.ref a :: [.int a1, .int a2, .int a3]) σ m1) (hm : MwV y yb yn yret 3) (hlk : Cond.methodLink own idx y ∈ CW) (hr : Rcv wd (xE X) a y.cls) (hd : decode b pc = .ok (.invokevirtual idx, 3)) (hrm : rok yf yl yn f fl = true) (hc : (rest.map fun v => v.category).sum ≤ 8) (kj : ∀ (z : Int32) (u : S), J wd X Q nL (pc + 3) L rest u (kk z u)) : J wd X Q nL pc L (.int a3 :: .int a2 :: .int a1 :: .ref a :: rest) σ (bd m1 kk) := j_callVv (As := [.int a1, .int a2, .int a3]) G hM hm hlk hr rfl rfl hc hrm hd kj
theorem j_Vv4 {y : MethodName} {yb : ByteArray} {yn f fl yf yl idx : Nat} {yret : Option FieldType} {a : Nat} {a1 a2 a3 a4 : Int32} {rest : List Value} {kk : Int32 → S → Option (Int32 × S)} (G : Gd X b nL own ret (rmm f fl)) (hM : CtV wd (xl X) (xE X) y yb yn yret (rmm yf yl) (.ref a :: [.int a1, .int a2, .int a3, .int a4]) σ m1) (hm : MwV y yb yn yret 4) (hlk : Cond.methodLink own idx y ∈ CW) (hr : Rcv wd (xE X) a y.cls) (hd : decode b pc = .ok (.invokevirtual idx, 3)) (hrm : rok yf yl yn f fl = true) (hc : (rest.map fun v => v.category).sum ≤ 8) (kj : ∀ (z : Int32) (u : S), J wd X Q nL (pc + 3) L rest u (kk z u)) : J wd X Q nL pc L (.int a4 :: .int a3 :: .int a2 :: .int a1 :: .ref a :: rest) σ (bd m1 kk) := j_callVv (As := [.int a1, .int a2, .int a3, .int a4]) G hM hm hlk hr rfl rfl hc hrm hd kj
theorem j_Si1 {y : MethodName} {yb : ByteArray} {yn f fl yf yl idx : Nat} {yret : Option FieldType} {a1 : Int32} {rest : List Value} {kk : Int32 → S → Option (Int32 × S)} (G : Gd X b nL own ret (rmm f fl)) (hM : CtI wd (xl X) (xE X) y yb yn yret (rmm yf yl) ([.int a1]) σ m1) (hm : MwS y yb yn yret 1) (hlk : Cond.methodLink own idx y ∈ CW) (hd : decode b pc = .ok (.invokestatic idx, 3)) (hrm : rok yf yl yn f fl = true) (hc : (rest.map fun v => v.category).sum ≤ 8) (kj : ∀ (r : Int32) (u : S), J wd X Q nL (pc + 3) L (.int r :: rest) u (kk r u)) : J wd X Q nL pc L (.int a1 :: rest) σ (bd m1 kk) := j_callSi (As := [.int a1]) G hM hm hlk rfl rfl hc hrm hd kj
theorem j_Si2 {y : MethodName} {yb : ByteArray} {yn f fl yf yl idx : Nat} {yret : Option FieldType} {a1 a2 : Int32} {rest : List Value} {kk : Int32 → S → Option (Int32 × S)} (G : Gd X b nL own ret (rmm f fl)) (hM : CtI wd (xl X) (xE X) y yb yn yret (rmm yf yl) ([.int a1, .int a2]) σ m1) (hm : MwS y yb yn yret 2) (hlk : Cond.methodLink own idx y ∈ CW) (hd : decode b pc = .ok (.invokestatic idx, 3)) (hrm : rok yf yl yn f fl = true) (hc : (rest.map fun v => v.category).sum ≤ 8) (kj : ∀ (r : Int32) (u : S), J wd X Q nL (pc + 3) L (.int r :: rest) u (kk r u)) : J wd X Q nL pc L (.int a2 :: .int a1 :: rest) σ (bd m1 kk) := j_callSi (As := [.int a1, .int a2]) G hM hm hlk rfl rfl hc hrm hd kj
theorem j_Si3 {y : MethodName} {yb : ByteArray} {yn f fl yf yl idx : Nat} {yret : Option FieldType} {a1 a2 a3 : Int32} {rest : List Value} {kk : Int32 → S → Option (Int32 × S)} (G : Gd X b nL own ret (rmm f fl)) (hM : CtI wd (xl X) (xE X) y yb yn yret (rmm yf yl) ([.int a1, .int a2, .int a3]) σ m1) (hm : MwS y yb yn yret 3) (hlk : Cond.methodLink own idx y ∈ CW) (hd : decode b pc = .ok (.invokestatic idx, 3)) (hrm : rok yf yl yn f fl = true) (hc : (rest.map fun v => v.category).sum ≤ 8) (kj : ∀ (r : Int32) (u : S), J wd X Q nL (pc + 3) L (.int r :: rest) u (kk r u)) : J wd X Q nL pc L (.int a3 :: .int a2 :: .int a1 :: rest) σ (bd m1 kk) := j_callSi (As := [.int a1, .int a2, .int a3]) G hM hm hlk rfl rfl hc hrm hd kj
theorem j_Si4 {y : MethodName} {yb : ByteArray} {yn f fl yf yl idx : Nat} {yret : Option FieldType} {a1 a2 a3 a4 : Int32} {rest : List Value} {kk : Int32 → S → Option (Int32 × S)} (G : Gd X b nL own ret (rmm f fl)) (hM : CtI wd (xl X) (xE X) y yb yn yret (rmm yf yl) ([.int a1, .int a2, .int a3, .int a4]) σ m1) (hm : MwS y yb yn yret 4) (hlk : Cond.methodLink own idx y ∈ CW) (hd : decode b pc = .ok (.invokestatic idx, 3)) (hrm : rok yf yl yn f fl = true) (hc : (rest.map fun v => v.category).sum ≤ 8) (kj : ∀ (r : Int32) (u : S), J wd X Q nL (pc + 3) L (.int r :: rest) u (kk r u)) : J wd X Q nL pc L (.int a4 :: .int a3 :: .int a2 :: .int a1 :: rest) σ (bd m1 kk) := j_callSi (As := [.int a1, .int a2, .int a3, .int a4]) G hM hm hlk rfl rfl hc hrm hd kj
theorem j_Sv1 {y : MethodName} {yb : ByteArray} {yn f fl yf yl idx : Nat} {yret : Option FieldType} {a1 : Int32} {rest : List Value} {kk : Int32 → S → Option (Int32 × S)} (G : Gd X b nL own ret (rmm f fl)) (hM : CtV wd (xl X) (xE X) y yb yn yret (rmm yf yl) ([.int a1]) σ m1) (hm : MwS y yb yn yret 1) (hlk : Cond.methodLink own idx y ∈ CW) (hd : decode b pc = .ok (.invokestatic idx, 3)) (hrm : rok yf yl yn f fl = true) (hc : (rest.map fun v => v.category).sum ≤ 8) (kj : ∀ (z : Int32) (u : S), J wd X Q nL (pc + 3) L rest u (kk z u)) : J wd X Q nL pc L (.int a1 :: rest) σ (bd m1 kk) := j_callSv (As := [.int a1]) G hM hm hlk rfl rfl hc hrm hd kj
theorem j_Sv2 {y : MethodName} {yb : ByteArray} {yn f fl yf yl idx : Nat} {yret : Option FieldType} {a1 a2 : Int32} {rest : List Value} {kk : Int32 → S → Option (Int32 × S)} (G : Gd X b nL own ret (rmm f fl)) (hM : CtV wd (xl X) (xE X) y yb yn yret (rmm yf yl) ([.int a1, .int a2]) σ m1) (hm : MwS y yb yn yret 2) (hlk : Cond.methodLink own idx y ∈ CW) (hd : decode b pc = .ok (.invokestatic idx, 3)) (hrm : rok yf yl yn f fl = true) (hc : (rest.map fun v => v.category).sum ≤ 8) (kj : ∀ (z : Int32) (u : S), J wd X Q nL (pc + 3) L rest u (kk z u)) : J wd X Q nL pc L (.int a2 :: .int a1 :: rest) σ (bd m1 kk) := j_callSv (As := [.int a1, .int a2]) G hM hm hlk rfl rfl hc hrm hd kj
theorem j_Sv3 {y : MethodName} {yb : ByteArray} {yn f fl yf yl idx : Nat} {yret : Option FieldType} {a1 a2 a3 : Int32} {rest : List Value} {kk : Int32 → S → Option (Int32 × S)} (G : Gd X b nL own ret (rmm f fl)) (hM : CtV wd (xl X) (xE X) y yb yn yret (rmm yf yl) ([.int a1, .int a2, .int a3]) σ m1) (hm : MwS y yb yn yret 3) (hlk : Cond.methodLink own idx y ∈ CW) (hd : decode b pc = .ok (.invokestatic idx, 3)) (hrm : rok yf yl yn f fl = true) (hc : (rest.map fun v => v.category).sum ≤ 8) (kj : ∀ (z : Int32) (u : S), J wd X Q nL (pc + 3) L rest u (kk z u)) : J wd X Q nL pc L (.int a3 :: .int a2 :: .int a1 :: rest) σ (bd m1 kk) := j_callSv (As := [.int a1, .int a2, .int a3]) G hM hm hlk rfl rfl hc hrm hd kj
theorem j_Sv4 {y : MethodName} {yb : ByteArray} {yn f fl yf yl idx : Nat} {yret : Option FieldType} {a1 a2 a3 a4 : Int32} {rest : List Value} {kk : Int32 → S → Option (Int32 × S)} (G : Gd X b nL own ret (rmm f fl)) (hM : CtV wd (xl X) (xE X) y yb yn yret (rmm yf yl) ([.int a1, .int a2, .int a3, .int a4]) σ m1) (hm : MwS y yb yn yret 4) (hlk : Cond.methodLink own idx y ∈ CW) (hd : decode b pc = .ok (.invokestatic idx, 3)) (hrm : rok yf yl yn f fl = true) (hc : (rest.map fun v => v.category).sum ≤ 8) (kj : ∀ (z : Int32) (u : S), J wd X Q nL (pc + 3) L rest u (kk z u)) : J wd X Q nL pc L (.int a4 :: .int a3 :: .int a2 :: .int a1 :: rest) σ (bd m1 kk) := j_callSv (As := [.int a1, .int a2, .int a3, .int a4]) G hM hm hlk rfl rfl hc hrm hd kj
theorem j_get (q0 : Nat) {a ci idx : Nat} {fs : List Value} {C : String} {T : u_T} {N : Nat} {v : Value} (k : Nat) (he : (wd (eO (xE X)) (eC (xE X)) σ)[q0]? = some (a, .inr (ci, fs))) (hc : vwCl[ci]? = some (C, T, N)) (hin : ∀ w ∈ u_ws C T N, w ∈ CW) (hk : k < N) (hlk : Cond.fieldLink own idx C (T k).2.1 (T k).2.2.1 ∈ CW) (hdecl : (T k).1 = C) (hv : fs[k]? = some v) (G : Gd X b nL own ret rm) (hd : decode b pc = .ok (.getfield idx, 3)) (kj : J wd X Q nL (pc + 3) L (v :: st) σ mm) : J wd X Q nL pc L (.ref a :: st) σ mm := fun o ho H locs ls hP hD hS hl =>
  va_get (D := eD (xE X)) (ci := ci) (v := v) (C := C) (T := T) (N := N) G.x G.c G.t hin G.o G.K hP q0 he hc k hk (G.t _ hlk) (fun x9 h9 => by rw [hdecl] at h9; exact h9) hv hd (kj o ho H locs ls hP hD hS hl)
theorem j_put (q0 : Nat) {a ci idx : Nat} {fs : List Value} {C : String} {T : u_T} {N : Nat} {v : Value} {ty : FieldType} (k : Nat) (ty0 : Nat → FieldType) (he : (wd (eO (xE X)) (eC (xE X)) σ)[q0]? = some (a, .inr (ci, fs))) (hc : vwCl[ci]? = some (C, T, N)) (hin : ∀ w ∈ u_ws C T N, w ∈ CW) (hty : ∀ k, k < N → parseFieldDescriptor (T k).2.2.1 = some (ty0 k)) (hnm : ∀ a, a < N → ∀ b, b < N → a ≠ b → (T a).2.1 ≠ (T b).2.1) (hk : k < N) (hlk : Cond.fieldLink own idx C (T k).2.1 (T k).2.2.1 ∈ CW) (hdecl : (T k).1 = C) (hfin : (T k).2.2.2 = false) (hd0 : parseFieldDescriptor (T k).2.2.1 = some ty) (hn : narrow ty v = v) (hfit : fits ty v = true) (hl0 : k < fs.length) (σ1 : S) (hσ : (wd (eO (xE X)) (eC (xE X)) σ).set q0 (a, .inr (ci, fs.set k v)) = wd (eO (xE X)) (eC (xE X)) σ1) (G : Gd X b nL own ret rm) (hd : decode b pc = .ok (.putfield idx, 3)) (kj : J wd X Q nL (pc + 3) L st σ1 mm) : J wd X Q nL pc L (v :: .ref a :: st) σ mm := fun o ho H locs ls hP hD hS hl =>
  va_put (D := eD (xE X)) (ci := ci) (v := v) (ty := ty) (C := C) (T := T) (N := N) G.x G.c G.t hin ty0 hty hnm G.o G.K hP hD hS q0 he hc k hk (G.t _ hlk) (fun x9 h9 => by rw [hdecl] at h9; exact h9) hfin hd0 hn hfit hl0 hd (fun H1 locs1 hP1 hD1 hS1 => kj o ho H1 locs1 ls (hσ ▸ hP1) (hσ ▸ hD1) hS1 hl)
theorem j_ald (q0 : Nat) {a n : Nat} {f : Nat → Int32} {i : Int32} (ha : (wd (eO (xE X)) (eC (xE X)) σ)[q0]? = some (a, .inl (eC (xE X), n, .inl f))) (G : Gd X b nL own ret rm) (hd : decode b pc = .ok (.iaload, 1)) (kj : J wd X Q nL (pc + 1) L (.int (f i.toNatClampNeg) :: st) σ mm) : J wd X Q nL pc L (.int i :: .ref a :: st) σ (gd (okI i n) mm) := fun o ho H locs ls hP hD hS hl => by
  obtain ⟨hi, ho⟩ := gd_some ho
  exact va_iald G.x G.c G.K hP q0 0 ha rfl (okI_in hi) hd (kj o ho H locs ls hP hD hS hl)
theorem j_aldc (q0 : Nat) {a n j : Nat} {f : Nat → Int32} {i : Int32} (ha : (wd (eO (xE X)) (eC (xE X)) σ)[q0]? = some (a, .inl (eC (xE X), n, .inl f))) (hi : okI i n = true) (hj : i.toNatClampNeg = j) (G : Gd X b nL own ret rm) (hd : decode b pc = .ok (.iaload, 1)) (kj : J wd X Q nL (pc + 1) L (.int (f j) :: st) σ mm) : J wd X Q nL pc L (.int i :: .ref a :: st) σ mm := fun o ho H locs ls hP hD hS hl => by
  subst hj
  exact va_iald G.x G.c G.K hP q0 0 ha rfl (okI_in hi) hd (kj o ho H locs ls hP hD hS hl)
theorem j_ast (q0 : Nat) {a n : Nat} {f : Nat → Int32} {i x : Int32} (ha : (wd (eO (xE X)) (eC (xE X)) σ)[q0]? = some (a, .inl (eC (xE X), n, .inl f))) (σ1 : S) (hσ : (wd (eO (xE X)) (eC (xE X)) σ).set q0 (a, .inl (eC (xE X), n, .inl (upd f i.toNatClampNeg x))) = wd (eO (xE X)) (eC (xE X)) σ1) (G : Gd X b nL own ret rm) (hd : decode b pc = .ok (.iastore, 1)) (kj : J wd X Q nL (pc + 1) L st σ1 mm) : J wd X Q nL pc L (.int x :: .int i :: .ref a :: st) σ (gd (okI i n) mm) := fun o ho H locs ls hP hD hS hl => by
  obtain ⟨hi, ho⟩ := gd_some ho
  exact va_iast G.x G.c G.K hP hD hS q0 0 ha rfl (okI_in hi) hd (fun H1 locs1 hP1 hD1 hS1 => kj o ho H1 locs1 ls (hσ ▸ hP1) (hσ ▸ hD1) hS1 hl)
theorem j_astc (q0 : Nat) {a n j : Nat} {f : Nat → Int32} {i x : Int32} (ha : (wd (eO (xE X)) (eC (xE X)) σ)[q0]? = some (a, .inl (eC (xE X), n, .inl f))) (σ1 : S) (hi : okI i n = true) (hj : i.toNatClampNeg = j) (hσ : (wd (eO (xE X)) (eC (xE X)) σ).set q0 (a, .inl (eC (xE X), n, .inl (upd f j x))) = wd (eO (xE X)) (eC (xE X)) σ1) (G : Gd X b nL own ret rm) (hd : decode b pc = .ok (.iastore, 1)) (kj : J wd X Q nL (pc + 1) L st σ1 mm) : J wd X Q nL pc L (.int x :: .int i :: .ref a :: st) σ mm := fun o ho H locs ls hP hD hS hl => by
  subst hj
  exact va_iast G.x G.c G.K hP hD hS q0 0 ha rfl (okI_in hi) hd (fun H1 locs1 hP1 hD1 hS1 => kj o ho H1 locs1 ls (hσ ▸ hP1) (hσ ▸ hD1) hS1 hl)
theorem j_gets (k : Nat) {idx : Nat} (hk : k < 5) (hlk : Cond.fieldLink own idx R_chip (tnm k) "[I" ∈ CW) (G : Gd X b nL own ret rm) (hd : decode b pc = .ok (.getstatic idx, 3)) (kj : J wd X Q nL (pc + 3) L (.ref (eT (xE X) k) :: st) σ mm) : J wd X Q nL pc L st σ mm := fun o ho H locs ls hP hD hS hl =>
  va_gets G.x G.c (G.S k hk).1 hS G.o (G.t _ hlk) (fun _ h => h) hd (kj o ho H locs ls hP hD hS hl)
theorem j_tald (k : Nat) {i : Int32} (hk : k < 5) (G : Gd X b nL own ret rm) (hd : decode b pc = .ok (.iaload, 1)) (kj : J wd X Q nL (pc + 1) L (.int (tvl k i.toNatClampNeg) :: st) σ mm) : J wd X Q nL pc L (.int i :: .ref (eT (xE X) k) :: st) σ (gd (okI i (tln k)) mm) := fun o ho H locs ls hP hD hS hl => by
  obtain ⟨hi, ho⟩ := gd_some ho
  exact va_ti G.x G.c (G.S k hk).2 hS (okI_in hi) rfl hd (kj o ho H locs ls hP hD hS hl)
-- switches
def JA (wd : WD S) (X : Cx) (Q : Int32 × S → State → Prop) (nL : Nat) (L : List (Nat × Value)) (st : List Value) (σ : S) : List (Int32 × Nat × Option (Int32 × S)) → Prop
  | [] => True
  | (_, t, m) :: r => J wd X Q nL t L st σ m ∧ JA wd X Q nL L st σ r
theorem ja_at {dt : Nat} {md : Option (Int32 × S)} (hd : J wd X Q nL dt L st σ md) (x : Int32) : ∀ cs : List (Int32 × Nat × Option (Int32 × S)), JA wd X Q nL L st σ cs → J wd X Q nL (swt x cs dt) L st σ (swi x cs md)
  | [], _ => hd
  | c :: r, h => by
    by_cases hx : x = c.1
    · rw [swt, swi, if_pos hx, if_pos hx]; exact h.1
    · rw [swt, swi, if_neg hx, if_neg hx]; exact ja_at hd x r h.2
def swz (z : Int) : List (Int32 × Nat) → Nat → Nat
  | [], d => d
  | c :: r, d => if z = c.1.toInt then c.2 else swz z r d
def tck (pc : Nat) (dflt lo hi : Int) (offs : Array Int) (ks : List (Int32 × Nat)) (dt : Nat) : Bool :=
  decide ((pc : Int) + dflt = (dt : Int)) && ks.all (fun q => decide (lo ≤ q.1.toInt) && decide (q.1.toInt ≤ hi)) && (List.range (hi - lo + 1).toNat).all (fun j => decide (offs[j]? = some ((swz (lo + (j : Int)) ks dt : Int) - (pc : Int))))
theorem swz_swt {α : Type} (x : Int32) (dt : Nat) : ∀ cs : List (Int32 × Nat × α), swz x.toInt (cs.map (fun c => (c.1, c.2.1))) dt = swt x cs dt
  | [] => rfl
  | c :: r => by
    by_cases hx : x = c.1
    · rw [swt, if_pos hx, List.map_cons, swz, if_pos (by rw [hx])]
    · rw [swt, if_neg hx, List.map_cons, swz, if_neg (fun h => hx (Int32.toInt_inj.mp h))]
      exact swz_swt x dt r
theorem swt_out {α : Type} {x : Int32} {dt : Nat} : ∀ cs : List (Int32 × Nat × α), (∀ c ∈ cs, x ≠ c.1) → swt x cs dt = dt
  | [], _ => rfl
  | c :: r, h => by
    rw [swt, if_neg (h c List.mem_cons_self)]
    exact swt_out r (fun d hd => h d (List.mem_cons_of_mem _ hd))
theorem j_ts {x : Int32} {dflt lo hi : Int} {offs : Array Int} {len dt : Nat} {cs : List (Int32 × Nat × Option (Int32 × S))} {md : Option (Int32 × S)} (ks : List (Int32 × Nat)) (G : Gd X b nL own ret rm) (hd : decode b pc = .ok (.tableswitch dflt lo hi offs, len)) (hks : cs.map (fun c => (c.1, c.2.1)) = ks) (hck : tck pc dflt lo hi offs ks dt = true) (hcs : JA wd X Q nL L st σ cs) (hdf : J wd X Q nL dt L st σ md) : J wd X Q nL pc L (.int x :: st) σ (swi x cs md) := fun o ho H locs ls hP hD hS hl => by
  have key := ja_at hdf x cs hcs o ho H locs ls hP hD hS hl
  subst hks
  unfold tck at hck
  simp only [Bool.and_eq_true, decide_eq_true_eq, List.all_eq_true] at hck
  obtain ⟨⟨h1, h2⟩, h3⟩ := hck
  by_cases hr : x.toInt < lo ∨ hi < x.toInt
  · refine lv_tableOut G.x G.c hd hr (tgt := swt x cs dt) ?_ key
    rw [swt_out cs (fun c hc he => ?_)]
    · exact h1
    · have h4 := h2 (c.1, c.2.1) (List.mem_map.mpr ⟨c, hc, rfl⟩)
      subst he
      dsimp only at h4
      omega
  · have hlo : ¬ x.toInt < lo := fun h => hr (Or.inl h)
    have hhi : ¬ hi < x.toInt := fun h => hr (Or.inr h)
    have h5 := h3 (x.toInt - lo).toNat (List.mem_range.mpr (by omega))
    have h6 : lo + ((x.toInt - lo).toNat : Int) = x.toInt := by omega
    rw [h6, swz_swt] at h5
    refine lv_tableIn G.x G.c hd hlo hhi h5 (tgt := swt x cs dt) (by omega) key
end
theorem ct_i {S : Type} {wd : WD S} {l : Launch} {E : Ev} {y : MethodName} {b : ByteArray} {n f fl : Nat} {ret : Option FieldType} {av : List Value} {σ : S} {mm : Option (Int32 × S)} (hy : plainName y.cls = true) (hn : (lg_sl av).length ≤ n) (body : ∀ X : Cx, xE X = E → xl X = l → Gd X b n y.cls ret (rmm f fl) → J wd X (QI wd X) n 0 (lv_args 0 av) [] σ mm) : CtI wd l E y b n ret (rmm f fl) av σ mm := by
  intro o ho
  refine Met.ofW (cc := b) (maxL := n) (ret := ret) hy rfl ?_
  intro p e s m args below meth c s₁ B hml hv
  obtain ⟨rfl, hP, hK, hD, hS⟩ := hv
  have hl := lv_entry av (n := n) hn
  rw [lg_entry_eq]
  exact body ((p, l, e, rmm f fl, s), (m, av.toArray, below, meth, c), E) rfl rfl ⟨B.exec, B.bytes, hml, findClass_of_methodNamed B.named, fun w hw => atoms_spec (ws := Cond.code y b n ret :: CW) B.pre w (List.mem_cons_of_mem _ hw), B.notSynchronized, B.returns, rfl, hK, hS⟩ o ho s.heap [] _ hP hD va_S.rf hl
theorem ct_v {S : Type} {wd : WD S} {l : Launch} {E : Ev} {y : MethodName} {b : ByteArray} {n f fl : Nat} {ret : Option FieldType} {av : List Value} {σ : S} {mm : Option (Int32 × S)} (hy : plainName y.cls = true) (hn : (lg_sl av).length ≤ n) (body : ∀ X : Cx, xE X = E → xl X = l → Gd X b n y.cls ret (rmm f fl) → J wd X (QV wd X) n 0 (lv_args 0 av) [] σ mm) : CtV wd l E y b n ret (rmm f fl) av σ mm := by
  intro o ho
  refine Met.ofW (cc := b) (maxL := n) (ret := ret) hy rfl ?_
  intro p e s m args below meth c s₁ B hml hv
  obtain ⟨rfl, hP, hK, hD, hS⟩ := hv
  have hl := lv_entry av (n := n) hn
  rw [lg_entry_eq]
  exact body ((p, l, e, rmm f fl, s), (m, av.toArray, below, meth, c), E) rfl rfl ⟨B.exec, B.bytes, hml, findClass_of_methodNamed B.named, fun w hw => atoms_spec (ws := Cond.code y b n ret :: CW) B.pre w (List.mem_cons_of_mem _ hw), B.notSynchronized, B.returns, rfl, hK, hS⟩ o ho s.heap [] _ hP hD va_S.rf hl
end
section
theorem rc_chip {E : Ev} : Rcv wdC E (eO E 0) R_chip := fun _ => ⟨0, 0, _, _, _, rfl, rfl⟩
theorem rc_mem {E : Ev} : Rcv wdC E (eO E 1) R_mem := fun _ => ⟨1, 1, _, _, _, rfl, rfl⟩
theorem rc_reg {E : Ev} : Rcv wdC E (eO E 3) R_reg := fun _ => ⟨3, 2, _, _, _, rfl, rfl⟩
theorem rc_ari {E : Ev} : Rcv wdC E (eO E 5) R_ari := fun _ => ⟨5, 3, _, _, _, rfl, rfl⟩
theorem rc_mod {E : Ev} : Rcv wdM E (eO E 0) R_mod := fun _ => ⟨0, 4, _, _, _, rfl, rfl⟩
section
variable {X : Cx} {b : ByteArray} {nL pc : Nat} {ret : Option FieldType} {rm : Room} {L : List (Nat × Value)} {st : List Value}
theorem g_tc_memory {Q : Int32 × CS → State → Prop} {σ : CS} {mm : Option (Int32 × CS)} (G : Gd X b nL R_chip ret rm) (hd : decode b pc = .ok (.getfield 10, 3)) (kj : J wdC X Q nL (pc + 3) L (.ref (eO (xE X) 1) :: st) σ mm) : J wdC X Q nL pc L (.ref (eO (xE X) 0) :: st) σ mm := j_get 0 0 rfl rfl u_chip (by decide) kf_tc_memory rfl rfl G hd kj
theorem g_tc_registers {Q : Int32 × CS → State → Prop} {σ : CS} {mm : Option (Int32 × CS)} (G : Gd X b nL R_chip ret rm) (hd : decode b pc = .ok (.getfield 19, 3)) (kj : J wdC X Q nL (pc + 3) L (.ref (eO (xE X) 3) :: st) σ mm) : J wdC X Q nL pc L (.ref (eO (xE X) 0) :: st) σ mm := j_get 0 1 rfl rfl u_chip (by decide) kf_tc_registers rfl rfl G hd kj
theorem g_tc_arithmetic {Q : Int32 × CS → State → Prop} {σ : CS} {mm : Option (Int32 × CS)} (G : Gd X b nL R_chip ret rm) (hd : decode b pc = .ok (.getfield 28, 3)) (kj : J wdC X Q nL (pc + 3) L (.ref (eO (xE X) 5) :: st) σ mm) : J wdC X Q nL pc L (.ref (eO (xE X) 0) :: st) σ mm := j_get 0 2 rfl rfl u_chip (by decide) kf_tc_arithmetic rfl rfl G hd kj
theorem g_tc_levels {Q : Int32 × CS → State → Prop} {σ : CS} {mm : Option (Int32 × CS)} (G : Gd X b nL R_chip ret rm) (hd : decode b pc = .ok (.getfield 32, 3)) (kj : J wdC X Q nL (pc + 3) L (.ref (eO (xE X) 6) :: st) σ mm) : J wdC X Q nL pc L (.ref (eO (xE X) 0) :: st) σ mm := j_get 0 3 rfl rfl u_chip (by decide) kf_tc_levels rfl rfl G hd kj
theorem g_tc_nmiArmed {Q : Int32 × CS → State → Prop} {σ : CS} {mm : Option (Int32 × CS)} (G : Gd X b nL R_chip ret rm) (hd : decode b pc = .ok (.getfield 44, 3)) (kj : J wdC X Q nL (pc + 3) L (.int (cx_arm σ) :: st) σ mm) : J wdC X Q nL pc L (.ref (eO (xE X) 0) :: st) σ mm := j_get 0 4 rfl rfl u_chip (by decide) kf_tc_nmiArmed rfl rfl G hd kj
theorem pc_tc_nmiArmed {Q : Int32 × CS → State → Prop} {σ : CS} {mm : Option (Int32 × CS)} {v : Int32} (hv : isB v = true) (G : Gd X b nL R_chip ret rm) (hd : decode b pc = .ok (.putfield 44, 3)) (kj : J wdC X Q nL (pc + 3) L st (cy_arm σ v) mm) : J wdC X Q nL pc L (.int v :: .ref (eO (xE X) 0) :: st) σ mm := j_put 0 4 t_chip rfl rfl u_chip t_chip_ok n_chip (by decide) kf_tc_nmiArmed rfl rfl (ty := .boolean) (by decide +kernel) (isB_ok hv).1 (isB_ok hv).2 (Nat.le_of_ble_eq_true rfl) (cy_arm σ v) rfl G hd kj
theorem p_tc_nmiArmed {Q : Int32 × CS → State → Prop} {σ : CS} {mm : Option (Int32 × CS)} {v : Int32} (G : Gd X b nL R_chip ret rm) (hd : decode b pc = .ok (.putfield 44, 3)) (kj : J wdC X Q nL (pc + 3) L st (cy_arm σ v) mm) : J wdC X Q nL pc L (.int v :: .ref (eO (xE X) 0) :: st) σ (gd (isB v) mm) := fun o ho H locs ls hP hD hS hl => pc_tc_nmiArmed (gd_some ho).1 G hd kj o (gd_some ho).2 H locs ls hP hD hS hl
theorem g_tc_nmiDue {Q : Int32 × CS → State → Prop} {σ : CS} {mm : Option (Int32 × CS)} (G : Gd X b nL R_chip ret rm) (hd : decode b pc = .ok (.getfield 48, 3)) (kj : J wdC X Q nL (pc + 3) L (.int (cx_due σ) :: st) σ mm) : J wdC X Q nL pc L (.ref (eO (xE X) 0) :: st) σ mm := j_get 0 5 rfl rfl u_chip (by decide) kf_tc_nmiDue rfl rfl G hd kj
theorem pc_tc_nmiDue {Q : Int32 × CS → State → Prop} {σ : CS} {mm : Option (Int32 × CS)} {v : Int32} (hv : isB v = true) (G : Gd X b nL R_chip ret rm) (hd : decode b pc = .ok (.putfield 48, 3)) (kj : J wdC X Q nL (pc + 3) L st (cy_due σ v) mm) : J wdC X Q nL pc L (.int v :: .ref (eO (xE X) 0) :: st) σ mm := j_put 0 5 t_chip rfl rfl u_chip t_chip_ok n_chip (by decide) kf_tc_nmiDue rfl rfl (ty := .boolean) (by decide +kernel) (isB_ok hv).1 (isB_ok hv).2 (Nat.le_of_ble_eq_true rfl) (cy_due σ v) rfl G hd kj
theorem p_tc_nmiDue {Q : Int32 × CS → State → Prop} {σ : CS} {mm : Option (Int32 × CS)} {v : Int32} (G : Gd X b nL R_chip ret rm) (hd : decode b pc = .ok (.putfield 48, 3)) (kj : J wdC X Q nL (pc + 3) L st (cy_due σ v) mm) : J wdC X Q nL pc L (.int v :: .ref (eO (xE X) 0) :: st) σ (gd (isB v) mm) := fun o ho H locs ls hP hD hS hl => pc_tc_nmiDue (gd_some ho).1 G hd kj o (gd_some ho).2 H locs ls hP hD hS hl
theorem g_tc_waiting {Q : Int32 × CS → State → Prop} {σ : CS} {mm : Option (Int32 × CS)} (G : Gd X b nL R_chip ret rm) (hd : decode b pc = .ok (.getfield 51, 3)) (kj : J wdC X Q nL (pc + 3) L (.int (cx_wai σ) :: st) σ mm) : J wdC X Q nL pc L (.ref (eO (xE X) 0) :: st) σ mm := j_get 0 6 rfl rfl u_chip (by decide) kf_tc_waiting rfl rfl G hd kj
theorem p_tc_waiting {Q : Int32 × CS → State → Prop} {σ : CS} {mm : Option (Int32 × CS)} {v : Int32} (G : Gd X b nL R_chip ret rm) (hd : decode b pc = .ok (.putfield 51, 3)) (kj : J wdC X Q nL (pc + 3) L st (cy_wai σ v) mm) : J wdC X Q nL pc L (.int v :: .ref (eO (xE X) 0) :: st) σ mm := j_put 0 6 t_chip rfl rfl u_chip t_chip_ok n_chip (by decide) kf_tc_waiting rfl rfl (ty := .int) (by decide +kernel) rfl rfl (Nat.le_of_ble_eq_true rfl) (cy_wai σ v) rfl G hd kj
theorem g_me_bytes {Q : Int32 × CS → State → Prop} {σ : CS} {mm : Option (Int32 × CS)} (G : Gd X b nL R_mem ret rm) (hd : decode b pc = .ok (.getfield 9, 3)) (kj : J wdC X Q nL (pc + 3) L (.ref (eO (xE X) 2) :: st) σ mm) : J wdC X Q nL pc L (.ref (eO (xE X) 1) :: st) σ mm := j_get 1 0 rfl rfl u_mem (by decide) kf_me_bytes rfl rfl G hd kj
theorem g_re_values {Q : Int32 × CS → State → Prop} {σ : CS} {mm : Option (Int32 × CS)} (G : Gd X b nL R_reg ret rm) (hd : decode b pc = .ok (.getfield 9, 3)) (kj : J wdC X Q nL (pc + 3) L (.ref (eO (xE X) 4) :: st) σ mm) : J wdC X Q nL pc L (.ref (eO (xE X) 3) :: st) σ mm := j_get 3 0 rfl rfl u_reg (by decide) kf_re_values rfl rfl G hd kj
theorem g_ar_registers {Q : Int32 × CS → State → Prop} {σ : CS} {mm : Option (Int32 × CS)} (G : Gd X b nL R_ari ret rm) (hd : decode b pc = .ok (.getfield 9, 3)) (kj : J wdC X Q nL (pc + 3) L (.ref (eO (xE X) 3) :: st) σ mm) : J wdC X Q nL pc L (.ref (eO (xE X) 5) :: st) σ mm := j_get 5 0 rfl rfl u_ari (by decide) kf_ar_registers rfl rfl G hd kj
theorem g_mo_memory {Q : Int32 × MS → State → Prop} {σ : MS} {mm : Option (Int32 × MS)} (G : Gd X b nL R_mod ret rm) (hd : decode b pc = .ok (.getfield 7, 3)) (kj : J wdM X Q nL (pc + 3) L (.ref (eO (xE X) 1) :: st) σ mm) : J wdM X Q nL pc L (.ref (eO (xE X) 0) :: st) σ mm := j_get 0 0 rfl rfl u_mod (by decide) kf_mo_memory rfl rfl G hd kj
theorem g_mo_r {Q : Int32 × MS → State → Prop} {σ : MS} {mm : Option (Int32 × MS)} (G : Gd X b nL R_mod ret rm) (hd : decode b pc = .ok (.getfield 13, 3)) (kj : J wdM X Q nL (pc + 3) L (.ref (eO (xE X) 2) :: st) σ mm) : J wdM X Q nL pc L (.ref (eO (xE X) 0) :: st) σ mm := j_get 0 1 rfl rfl u_mod (by decide) kf_mo_r rfl rfl G hd kj
theorem g_mo_before {Q : Int32 × MS → State → Prop} {σ : MS} {mm : Option (Int32 × MS)} (G : Gd X b nL R_mod ret rm) (hd : decode b pc = .ok (.getfield 16, 3)) (kj : J wdM X Q nL (pc + 3) L (.ref (eO (xE X) 3) :: st) σ mm) : J wdM X Q nL pc L (.ref (eO (xE X) 0) :: st) σ mm := j_get 0 2 rfl rfl u_mod (by decide) kf_mo_before rfl rfl G hd kj
theorem g_mo_undefined {Q : Int32 × MS → State → Prop} {σ : MS} {mm : Option (Int32 × MS)} (G : Gd X b nL R_mod ret rm) (hd : decode b pc = .ok (.getfield 56, 3)) (kj : J wdM X Q nL (pc + 3) L (.int (mx_und σ) :: st) σ mm) : J wdM X Q nL pc L (.ref (eO (xE X) 0) :: st) σ mm := j_get 0 3 rfl rfl u_mod (by decide) kf_mo_undefined rfl rfl G hd kj
theorem pc_mo_undefined {Q : Int32 × MS → State → Prop} {σ : MS} {mm : Option (Int32 × MS)} {v : Int32} (hv : isB v = true) (G : Gd X b nL R_mod ret rm) (hd : decode b pc = .ok (.putfield 56, 3)) (kj : J wdM X Q nL (pc + 3) L st (my_und σ v) mm) : J wdM X Q nL pc L (.int v :: .ref (eO (xE X) 0) :: st) σ mm := j_put 0 3 t_mod rfl rfl u_mod t_mod_ok n_mod (by decide) kf_mo_undefined rfl rfl (ty := .boolean) (by decide +kernel) (isB_ok hv).1 (isB_ok hv).2 (Nat.le_of_ble_eq_true rfl) (my_und σ v) rfl G hd kj
theorem p_mo_undefined {Q : Int32 × MS → State → Prop} {σ : MS} {mm : Option (Int32 × MS)} {v : Int32} (G : Gd X b nL R_mod ret rm) (hd : decode b pc = .ok (.putfield 56, 3)) (kj : J wdM X Q nL (pc + 3) L st (my_und σ v) mm) : J wdM X Q nL pc L (.int v :: .ref (eO (xE X) 0) :: st) σ (gd (isB v) mm) := fun o ho H locs ls hP hD hS hl => pc_mo_undefined (gd_some ho).1 G hd kj o (gd_some ho).2 H locs ls hP hD hS hl
theorem g_mo_waits {Q : Int32 × MS → State → Prop} {σ : MS} {mm : Option (Int32 × MS)} (G : Gd X b nL R_mod ret rm) (hd : decode b pc = .ok (.getfield 164, 3)) (kj : J wdM X Q nL (pc + 3) L (.int (mx_wai σ) :: st) σ mm) : J wdM X Q nL pc L (.ref (eO (xE X) 0) :: st) σ mm := j_get 0 4 rfl rfl u_mod (by decide) kf_mo_waits rfl rfl G hd kj
theorem p_mo_waits {Q : Int32 × MS → State → Prop} {σ : MS} {mm : Option (Int32 × MS)} {v : Int32} (G : Gd X b nL R_mod ret rm) (hd : decode b pc = .ok (.putfield 164, 3)) (kj : J wdM X Q nL (pc + 3) L st (my_wai σ v) mm) : J wdM X Q nL pc L (.int v :: .ref (eO (xE X) 0) :: st) σ mm := j_put 0 4 t_mod rfl rfl u_mod t_mod_ok n_mod (by decide) kf_mo_waits rfl rfl (ty := .int) (by decide +kernel) rfl rfl (Nat.le_of_ble_eq_true rfl) (my_wai σ v) rfl G hd kj
theorem g_mo_armed {Q : Int32 × MS → State → Prop} {σ : MS} {mm : Option (Int32 × MS)} (G : Gd X b nL R_mod ret rm) (hd : decode b pc = .ok (.getfield 90, 3)) (kj : J wdM X Q nL (pc + 3) L (.int (mx_arm σ) :: st) σ mm) : J wdM X Q nL pc L (.ref (eO (xE X) 0) :: st) σ mm := j_get 0 5 rfl rfl u_mod (by decide) kf_mo_armed rfl rfl G hd kj
theorem pc_mo_armed {Q : Int32 × MS → State → Prop} {σ : MS} {mm : Option (Int32 × MS)} {v : Int32} (hv : isB v = true) (G : Gd X b nL R_mod ret rm) (hd : decode b pc = .ok (.putfield 90, 3)) (kj : J wdM X Q nL (pc + 3) L st (my_arm σ v) mm) : J wdM X Q nL pc L (.int v :: .ref (eO (xE X) 0) :: st) σ mm := j_put 0 5 t_mod rfl rfl u_mod t_mod_ok n_mod (by decide) kf_mo_armed rfl rfl (ty := .boolean) (by decide +kernel) (isB_ok hv).1 (isB_ok hv).2 (Nat.le_of_ble_eq_true rfl) (my_arm σ v) rfl G hd kj
theorem p_mo_armed {Q : Int32 × MS → State → Prop} {σ : MS} {mm : Option (Int32 × MS)} {v : Int32} (G : Gd X b nL R_mod ret rm) (hd : decode b pc = .ok (.putfield 90, 3)) (kj : J wdM X Q nL (pc + 3) L st (my_arm σ v) mm) : J wdM X Q nL pc L (.int v :: .ref (eO (xE X) 0) :: st) σ (gd (isB v) mm) := fun o ho H locs ls hP hD hS hl => pc_mo_armed (gd_some ho).1 G hd kj o (gd_some ho).2 H locs ls hP hD hS hl
theorem g_mo_due {Q : Int32 × MS → State → Prop} {σ : MS} {mm : Option (Int32 × MS)} (G : Gd X b nL R_mod ret rm) (hd : decode b pc = .ok (.getfield 211, 3)) (kj : J wdM X Q nL (pc + 3) L (.int (mx_due σ) :: st) σ mm) : J wdM X Q nL pc L (.ref (eO (xE X) 0) :: st) σ mm := j_get 0 6 rfl rfl u_mod (by decide) kf_mo_due rfl rfl G hd kj
theorem pc_mo_due {Q : Int32 × MS → State → Prop} {σ : MS} {mm : Option (Int32 × MS)} {v : Int32} (hv : isB v = true) (G : Gd X b nL R_mod ret rm) (hd : decode b pc = .ok (.putfield 211, 3)) (kj : J wdM X Q nL (pc + 3) L st (my_due σ v) mm) : J wdM X Q nL pc L (.int v :: .ref (eO (xE X) 0) :: st) σ mm := j_put 0 6 t_mod rfl rfl u_mod t_mod_ok n_mod (by decide) kf_mo_due rfl rfl (ty := .boolean) (by decide +kernel) (isB_ok hv).1 (isB_ok hv).2 (Nat.le_of_ble_eq_true rfl) (my_due σ v) rfl G hd kj
theorem p_mo_due {Q : Int32 × MS → State → Prop} {σ : MS} {mm : Option (Int32 × MS)} {v : Int32} (G : Gd X b nL R_mod ret rm) (hd : decode b pc = .ok (.putfield 211, 3)) (kj : J wdM X Q nL (pc + 3) L st (my_due σ v) mm) : J wdM X Q nL pc L (.int v :: .ref (eO (xE X) 0) :: st) σ (gd (isB v) mm) := fun o ho H locs ls hP hD hS hl => pc_mo_due (gd_some ho).1 G hd kj o (gd_some ho).2 H locs ls hP hD hS hl
theorem g_mo_level {Q : Int32 × MS → State → Prop} {σ : MS} {mm : Option (Int32 × MS)} (G : Gd X b nL R_mod ret rm) (hd : decode b pc = .ok (.getfield 19, 3)) (kj : J wdM X Q nL (pc + 3) L (.ref (eO (xE X) 4) :: st) σ mm) : J wdM X Q nL pc L (.ref (eO (xE X) 0) :: st) σ mm := j_get 0 7 rfl rfl u_mod (by decide) kf_mo_level rfl rfl G hd kj
theorem al_Cmem {own : String} {Q : Int32 × CS → State → Prop} {σ : CS} {mm : Option (Int32 × CS)} {i : Int32} (G : Gd X b nL own ret rm) (hd : decode b pc = .ok (.iaload, 1)) (kj : J wdC X Q nL (pc + 1) L (.int (cx_mem σ i.toNatClampNeg) :: st) σ mm) : J wdC X Q nL pc L (.int i :: .ref (eO (xE X) 2) :: st) σ (gd (okI i 4096) mm) := j_ald 2 rfl G hd kj
theorem alc_Cmem {own : String} {Q : Int32 × CS → State → Prop} {σ : CS} {mm : Option (Int32 × CS)} {i : Int32} {j : Nat} (hi : okI i 4096 = true) (hj : i.toNatClampNeg = j) (G : Gd X b nL own ret rm) (hd : decode b pc = .ok (.iaload, 1)) (kj : J wdC X Q nL (pc + 1) L (.int (cx_mem σ j) :: st) σ mm) : J wdC X Q nL pc L (.int i :: .ref (eO (xE X) 2) :: st) σ mm := j_aldc 2 rfl hi hj G hd kj
theorem as_Cmem {own : String} {Q : Int32 × CS → State → Prop} {σ : CS} {mm : Option (Int32 × CS)} {i : Int32} {x : Int32} (G : Gd X b nL own ret rm) (hd : decode b pc = .ok (.iastore, 1)) (kj : J wdC X Q nL (pc + 1) L st (cy_mem σ (upd (cx_mem σ) i.toNatClampNeg x)) mm) : J wdC X Q nL pc L (.int x :: .int i :: .ref (eO (xE X) 2) :: st) σ (gd (okI i 4096) mm) := j_ast 2 rfl (cy_mem σ (upd (cx_mem σ) i.toNatClampNeg x)) rfl G hd kj
theorem asc_Cmem {own : String} {Q : Int32 × CS → State → Prop} {σ : CS} {mm : Option (Int32 × CS)} {i : Int32} {x : Int32} {j : Nat} (hi : okI i 4096 = true) (hj : i.toNatClampNeg = j) (G : Gd X b nL own ret rm) (hd : decode b pc = .ok (.iastore, 1)) (kj : J wdC X Q nL (pc + 1) L st (cy_mem σ (upd (cx_mem σ) j x)) mm) : J wdC X Q nL pc L (.int x :: .int i :: .ref (eO (xE X) 2) :: st) σ mm := j_astc 2 rfl (cy_mem σ (upd (cx_mem σ) j x)) hi hj rfl G hd kj
theorem al_Creg {own : String} {Q : Int32 × CS → State → Prop} {σ : CS} {mm : Option (Int32 × CS)} {i : Int32} (G : Gd X b nL own ret rm) (hd : decode b pc = .ok (.iaload, 1)) (kj : J wdC X Q nL (pc + 1) L (.int (cx_reg σ i.toNatClampNeg) :: st) σ mm) : J wdC X Q nL pc L (.int i :: .ref (eO (xE X) 4) :: st) σ (gd (okI i 9) mm) := j_ald 4 rfl G hd kj
theorem alc_Creg {own : String} {Q : Int32 × CS → State → Prop} {σ : CS} {mm : Option (Int32 × CS)} {i : Int32} {j : Nat} (hi : okI i 9 = true) (hj : i.toNatClampNeg = j) (G : Gd X b nL own ret rm) (hd : decode b pc = .ok (.iaload, 1)) (kj : J wdC X Q nL (pc + 1) L (.int (cx_reg σ j) :: st) σ mm) : J wdC X Q nL pc L (.int i :: .ref (eO (xE X) 4) :: st) σ mm := j_aldc 4 rfl hi hj G hd kj
theorem as_Creg {own : String} {Q : Int32 × CS → State → Prop} {σ : CS} {mm : Option (Int32 × CS)} {i : Int32} {x : Int32} (G : Gd X b nL own ret rm) (hd : decode b pc = .ok (.iastore, 1)) (kj : J wdC X Q nL (pc + 1) L st (cy_reg σ (upd (cx_reg σ) i.toNatClampNeg x)) mm) : J wdC X Q nL pc L (.int x :: .int i :: .ref (eO (xE X) 4) :: st) σ (gd (okI i 9) mm) := j_ast 4 rfl (cy_reg σ (upd (cx_reg σ) i.toNatClampNeg x)) rfl G hd kj
theorem asc_Creg {own : String} {Q : Int32 × CS → State → Prop} {σ : CS} {mm : Option (Int32 × CS)} {i : Int32} {x : Int32} {j : Nat} (hi : okI i 9 = true) (hj : i.toNatClampNeg = j) (G : Gd X b nL own ret rm) (hd : decode b pc = .ok (.iastore, 1)) (kj : J wdC X Q nL (pc + 1) L st (cy_reg σ (upd (cx_reg σ) j x)) mm) : J wdC X Q nL pc L (.int x :: .int i :: .ref (eO (xE X) 4) :: st) σ mm := j_astc 4 rfl (cy_reg σ (upd (cx_reg σ) j x)) hi hj rfl G hd kj
theorem al_Clev {own : String} {Q : Int32 × CS → State → Prop} {σ : CS} {mm : Option (Int32 × CS)} {i : Int32} (G : Gd X b nL own ret rm) (hd : decode b pc = .ok (.iaload, 1)) (kj : J wdC X Q nL (pc + 1) L (.int (cx_lev σ i.toNatClampNeg) :: st) σ mm) : J wdC X Q nL pc L (.int i :: .ref (eO (xE X) 6) :: st) σ (gd (okI i 3) mm) := j_ald 6 rfl G hd kj
theorem alc_Clev {own : String} {Q : Int32 × CS → State → Prop} {σ : CS} {mm : Option (Int32 × CS)} {i : Int32} {j : Nat} (hi : okI i 3 = true) (hj : i.toNatClampNeg = j) (G : Gd X b nL own ret rm) (hd : decode b pc = .ok (.iaload, 1)) (kj : J wdC X Q nL (pc + 1) L (.int (cx_lev σ j) :: st) σ mm) : J wdC X Q nL pc L (.int i :: .ref (eO (xE X) 6) :: st) σ mm := j_aldc 6 rfl hi hj G hd kj
theorem as_Clev {own : String} {Q : Int32 × CS → State → Prop} {σ : CS} {mm : Option (Int32 × CS)} {i : Int32} {x : Int32} (G : Gd X b nL own ret rm) (hd : decode b pc = .ok (.iastore, 1)) (kj : J wdC X Q nL (pc + 1) L st (cy_lev σ (upd (cx_lev σ) i.toNatClampNeg x)) mm) : J wdC X Q nL pc L (.int x :: .int i :: .ref (eO (xE X) 6) :: st) σ (gd (okI i 3) mm) := j_ast 6 rfl (cy_lev σ (upd (cx_lev σ) i.toNatClampNeg x)) rfl G hd kj
theorem asc_Clev {own : String} {Q : Int32 × CS → State → Prop} {σ : CS} {mm : Option (Int32 × CS)} {i : Int32} {x : Int32} {j : Nat} (hi : okI i 3 = true) (hj : i.toNatClampNeg = j) (G : Gd X b nL own ret rm) (hd : decode b pc = .ok (.iastore, 1)) (kj : J wdC X Q nL (pc + 1) L st (cy_lev σ (upd (cx_lev σ) j x)) mm) : J wdC X Q nL pc L (.int x :: .int i :: .ref (eO (xE X) 6) :: st) σ mm := j_astc 6 rfl (cy_lev σ (upd (cx_lev σ) j x)) hi hj rfl G hd kj
theorem al_Mmem {own : String} {Q : Int32 × MS → State → Prop} {σ : MS} {mm : Option (Int32 × MS)} {i : Int32} (G : Gd X b nL own ret rm) (hd : decode b pc = .ok (.iaload, 1)) (kj : J wdM X Q nL (pc + 1) L (.int (mx_mem σ i.toNatClampNeg) :: st) σ mm) : J wdM X Q nL pc L (.int i :: .ref (eO (xE X) 1) :: st) σ (gd (okI i 4096) mm) := j_ald 1 rfl G hd kj
theorem alc_Mmem {own : String} {Q : Int32 × MS → State → Prop} {σ : MS} {mm : Option (Int32 × MS)} {i : Int32} {j : Nat} (hi : okI i 4096 = true) (hj : i.toNatClampNeg = j) (G : Gd X b nL own ret rm) (hd : decode b pc = .ok (.iaload, 1)) (kj : J wdM X Q nL (pc + 1) L (.int (mx_mem σ j) :: st) σ mm) : J wdM X Q nL pc L (.int i :: .ref (eO (xE X) 1) :: st) σ mm := j_aldc 1 rfl hi hj G hd kj
theorem as_Mmem {own : String} {Q : Int32 × MS → State → Prop} {σ : MS} {mm : Option (Int32 × MS)} {i : Int32} {x : Int32} (G : Gd X b nL own ret rm) (hd : decode b pc = .ok (.iastore, 1)) (kj : J wdM X Q nL (pc + 1) L st (my_mem σ (upd (mx_mem σ) i.toNatClampNeg x)) mm) : J wdM X Q nL pc L (.int x :: .int i :: .ref (eO (xE X) 1) :: st) σ (gd (okI i 4096) mm) := j_ast 1 rfl (my_mem σ (upd (mx_mem σ) i.toNatClampNeg x)) rfl G hd kj
theorem asc_Mmem {own : String} {Q : Int32 × MS → State → Prop} {σ : MS} {mm : Option (Int32 × MS)} {i : Int32} {x : Int32} {j : Nat} (hi : okI i 4096 = true) (hj : i.toNatClampNeg = j) (G : Gd X b nL own ret rm) (hd : decode b pc = .ok (.iastore, 1)) (kj : J wdM X Q nL (pc + 1) L st (my_mem σ (upd (mx_mem σ) j x)) mm) : J wdM X Q nL pc L (.int x :: .int i :: .ref (eO (xE X) 1) :: st) σ mm := j_astc 1 rfl (my_mem σ (upd (mx_mem σ) j x)) hi hj rfl G hd kj
theorem al_Mreg {own : String} {Q : Int32 × MS → State → Prop} {σ : MS} {mm : Option (Int32 × MS)} {i : Int32} (G : Gd X b nL own ret rm) (hd : decode b pc = .ok (.iaload, 1)) (kj : J wdM X Q nL (pc + 1) L (.int (mx_reg σ i.toNatClampNeg) :: st) σ mm) : J wdM X Q nL pc L (.int i :: .ref (eO (xE X) 2) :: st) σ (gd (okI i 9) mm) := j_ald 2 rfl G hd kj
theorem alc_Mreg {own : String} {Q : Int32 × MS → State → Prop} {σ : MS} {mm : Option (Int32 × MS)} {i : Int32} {j : Nat} (hi : okI i 9 = true) (hj : i.toNatClampNeg = j) (G : Gd X b nL own ret rm) (hd : decode b pc = .ok (.iaload, 1)) (kj : J wdM X Q nL (pc + 1) L (.int (mx_reg σ j) :: st) σ mm) : J wdM X Q nL pc L (.int i :: .ref (eO (xE X) 2) :: st) σ mm := j_aldc 2 rfl hi hj G hd kj
theorem as_Mreg {own : String} {Q : Int32 × MS → State → Prop} {σ : MS} {mm : Option (Int32 × MS)} {i : Int32} {x : Int32} (G : Gd X b nL own ret rm) (hd : decode b pc = .ok (.iastore, 1)) (kj : J wdM X Q nL (pc + 1) L st (my_reg σ (upd (mx_reg σ) i.toNatClampNeg x)) mm) : J wdM X Q nL pc L (.int x :: .int i :: .ref (eO (xE X) 2) :: st) σ (gd (okI i 9) mm) := j_ast 2 rfl (my_reg σ (upd (mx_reg σ) i.toNatClampNeg x)) rfl G hd kj
theorem asc_Mreg {own : String} {Q : Int32 × MS → State → Prop} {σ : MS} {mm : Option (Int32 × MS)} {i : Int32} {x : Int32} {j : Nat} (hi : okI i 9 = true) (hj : i.toNatClampNeg = j) (G : Gd X b nL own ret rm) (hd : decode b pc = .ok (.iastore, 1)) (kj : J wdM X Q nL (pc + 1) L st (my_reg σ (upd (mx_reg σ) j x)) mm) : J wdM X Q nL pc L (.int x :: .int i :: .ref (eO (xE X) 2) :: st) σ mm := j_astc 2 rfl (my_reg σ (upd (mx_reg σ) j x)) hi hj rfl G hd kj
theorem al_Mbef {own : String} {Q : Int32 × MS → State → Prop} {σ : MS} {mm : Option (Int32 × MS)} {i : Int32} (G : Gd X b nL own ret rm) (hd : decode b pc = .ok (.iaload, 1)) (kj : J wdM X Q nL (pc + 1) L (.int (mx_bef σ i.toNatClampNeg) :: st) σ mm) : J wdM X Q nL pc L (.int i :: .ref (eO (xE X) 3) :: st) σ (gd (okI i 9) mm) := j_ald 3 rfl G hd kj
theorem alc_Mbef {own : String} {Q : Int32 × MS → State → Prop} {σ : MS} {mm : Option (Int32 × MS)} {i : Int32} {j : Nat} (hi : okI i 9 = true) (hj : i.toNatClampNeg = j) (G : Gd X b nL own ret rm) (hd : decode b pc = .ok (.iaload, 1)) (kj : J wdM X Q nL (pc + 1) L (.int (mx_bef σ j) :: st) σ mm) : J wdM X Q nL pc L (.int i :: .ref (eO (xE X) 3) :: st) σ mm := j_aldc 3 rfl hi hj G hd kj
theorem as_Mbef {own : String} {Q : Int32 × MS → State → Prop} {σ : MS} {mm : Option (Int32 × MS)} {i : Int32} {x : Int32} (G : Gd X b nL own ret rm) (hd : decode b pc = .ok (.iastore, 1)) (kj : J wdM X Q nL (pc + 1) L st (my_bef σ (upd (mx_bef σ) i.toNatClampNeg x)) mm) : J wdM X Q nL pc L (.int x :: .int i :: .ref (eO (xE X) 3) :: st) σ (gd (okI i 9) mm) := j_ast 3 rfl (my_bef σ (upd (mx_bef σ) i.toNatClampNeg x)) rfl G hd kj
theorem asc_Mbef {own : String} {Q : Int32 × MS → State → Prop} {σ : MS} {mm : Option (Int32 × MS)} {i : Int32} {x : Int32} {j : Nat} (hi : okI i 9 = true) (hj : i.toNatClampNeg = j) (G : Gd X b nL own ret rm) (hd : decode b pc = .ok (.iastore, 1)) (kj : J wdM X Q nL (pc + 1) L st (my_bef σ (upd (mx_bef σ) j x)) mm) : J wdM X Q nL pc L (.int x :: .int i :: .ref (eO (xE X) 3) :: st) σ mm := j_astc 3 rfl (my_bef σ (upd (mx_bef σ) j x)) hi hj rfl G hd kj
theorem al_Mlev {own : String} {Q : Int32 × MS → State → Prop} {σ : MS} {mm : Option (Int32 × MS)} {i : Int32} (G : Gd X b nL own ret rm) (hd : decode b pc = .ok (.iaload, 1)) (kj : J wdM X Q nL (pc + 1) L (.int (mx_lev σ i.toNatClampNeg) :: st) σ mm) : J wdM X Q nL pc L (.int i :: .ref (eO (xE X) 4) :: st) σ (gd (okI i 3) mm) := j_ald 4 rfl G hd kj
theorem alc_Mlev {own : String} {Q : Int32 × MS → State → Prop} {σ : MS} {mm : Option (Int32 × MS)} {i : Int32} {j : Nat} (hi : okI i 3 = true) (hj : i.toNatClampNeg = j) (G : Gd X b nL own ret rm) (hd : decode b pc = .ok (.iaload, 1)) (kj : J wdM X Q nL (pc + 1) L (.int (mx_lev σ j) :: st) σ mm) : J wdM X Q nL pc L (.int i :: .ref (eO (xE X) 4) :: st) σ mm := j_aldc 4 rfl hi hj G hd kj
theorem as_Mlev {own : String} {Q : Int32 × MS → State → Prop} {σ : MS} {mm : Option (Int32 × MS)} {i : Int32} {x : Int32} (G : Gd X b nL own ret rm) (hd : decode b pc = .ok (.iastore, 1)) (kj : J wdM X Q nL (pc + 1) L st (my_lev σ (upd (mx_lev σ) i.toNatClampNeg x)) mm) : J wdM X Q nL pc L (.int x :: .int i :: .ref (eO (xE X) 4) :: st) σ (gd (okI i 3) mm) := j_ast 4 rfl (my_lev σ (upd (mx_lev σ) i.toNatClampNeg x)) rfl G hd kj
theorem asc_Mlev {own : String} {Q : Int32 × MS → State → Prop} {σ : MS} {mm : Option (Int32 × MS)} {i : Int32} {x : Int32} {j : Nat} (hi : okI i 3 = true) (hj : i.toNatClampNeg = j) (G : Gd X b nL own ret rm) (hd : decode b pc = .ok (.iastore, 1)) (kj : J wdM X Q nL (pc + 1) L st (my_lev σ (upd (mx_lev σ) j x)) mm) : J wdM X Q nL pc L (.int x :: .int i :: .ref (eO (xE X) 4) :: st) σ mm := j_astc 4 rfl (my_lev σ (upd (mx_lev σ) j x)) hi hj rfl G hd kj
end
end
section
def me_has_16 (σ : CS) (t0 : Int32) : Option (Int32 × CS) :=
gd (isB t0) (some (t0, σ))
def me_has_15 (σ : CS) : Option (Int32 × CS) :=
me_has_16 σ (0 : Int32)
def me_has (σ : CS) (a1 : Int32) : Option (Int32 × CS) :=
if a1 < 0 then (me_has_15 σ) else (if (4096 : Int32) ≤ a1 then (me_has_15 σ) else (me_has_16 σ (1 : Int32)))
set_option maxHeartbeats 4000000 in
set_option maxRecDepth 100000 in
theorem b_me_has_16 {X : Cx} (G : Gd X bc_me_has 1 R_mem (some .boolean) (rmm 0 0)) (σ : CS) (t0 : Int32) : J wdC X (QI wdC X) 1 16 [] [.int t0] σ (me_has_16 σ t0) := by
  unfold me_has_16
  exact j_zret G d_me_has_16
set_option maxHeartbeats 4000000 in
set_option maxRecDepth 100000 in
theorem b_me_has_15 {X : Cx} (G : Gd X bc_me_has 1 R_mem (some .boolean) (rmm 0 0)) (σ : CS) : J wdC X (QI wdC X) 1 15 [] [] σ (me_has_15 σ ) := by
  unfold me_has_15
  refine j_iconst G d_me_has_15 ci_0 ?_
  exact b_me_has_16 G σ (0 : Int32)
set_option maxHeartbeats 4000000 in
set_option maxRecDepth 100000 in
theorem b_me_has {X : Cx} (G : Gd X bc_me_has 1 R_mem (some .boolean) (rmm 0 0)) (σ : CS) (a1 : Int32) : J wdC X (QI wdC X) 1 0 [(0, .int a1)] [] σ (me_has σ a1) := by
  unfold me_has
  refine j_iload_n 0 G d_me_has_0 rfl rfl ?_
  refine j_iflt G d_me_has_1 (tgt := 15) rfl ?_ ?_
  · refine j_sub [] (L1 := []) rfl ?_
    exact b_me_has_15 G σ
  · refine j_iload_n 0 G d_me_has_4 rfl rfl ?_
    refine j_sipush G d_me_has_5 cs_4096 ?_
    refine j_icge G d_me_has_8 (tgt := 15) rfl ?_ ?_
    · refine j_sub [] (L1 := []) rfl ?_
      exact b_me_has_15 G σ
    · refine j_iconst G d_me_has_11 ci_1 ?_
      refine j_goto G d_me_has_12 (tgt := 16) rfl ?_
      refine j_sub [] (L1 := []) rfl ?_
      exact b_me_has_16 G σ (1 : Int32)
set_option maxHeartbeats 4000000 in
set_option maxRecDepth 100000 in
theorem k_me_has {l : Launch} {E : Ev} {σ : CS} {a1 : Int32} : CtI wdC l E y_me_has bc_me_has 1 (some .boolean) (rmm 0 0) [.int a1] σ (me_has σ a1) := ct_i (by decide) (Nat.le_of_ble_eq_true rfl) (fun X hE _ G => by subst hE; exact b_me_has G σ a1)
def me_byteAt (σ : CS) (a1 : Int32) : Option (Int32 × CS) :=
gd (okI (a1 &&& (4095 : Int32)) 4096) (
nm (cx_mem σ (a1 &&& (4095 : Int32)).toNatClampNeg) fun v1 =>
some (v1, σ))
set_option maxHeartbeats 4000000 in
set_option maxRecDepth 100000 in
theorem b_me_byteAt {X : Cx} (G : Gd X bc_me_byteAt 2 R_mem (some .int) (rmm 0 0)) (σ : CS) (a1 : Int32) : J wdC X (QI wdC X) 2 0 [(0, .ref (eO (xE X) 1)), (1, .int a1)] [] σ (me_byteAt σ a1) := by
  unfold me_byteAt
  refine j_aload_n 0 G d_me_byteAt_0 rfl rfl ?_
  refine g_me_bytes G d_me_byteAt_1 ?_
  refine j_iload_n 1 G d_me_byteAt_4 rfl rfl ?_
  refine j_sipush G d_me_byteAt_5 cs_4095 ?_
  refine j_iand G d_me_byteAt_8 ?_
  refine al_Cmem G d_me_byteAt_9 ?_
  refine j_nm (fun v1 => ?_)
  exact j_iret G d_me_byteAt_10
set_option maxHeartbeats 4000000 in
set_option maxRecDepth 100000 in
theorem k_me_byteAt {l : Launch} {E : Ev} {σ : CS} {a1 : Int32} : CtI wdC l E y_me_byteAt bc_me_byteAt 2 (some .int) (rmm 0 0) [.ref (eO E 1), .int a1] σ (me_byteAt σ a1) := ct_i (by decide) (Nat.le_of_ble_eq_true rfl) (fun X hE _ G => by subst hE; exact b_me_byteAt G σ a1)
def me_setByte (σ : CS) (a1 a2 : Int32) : Option (Int32 × CS) :=
nm (a2 &&& (255 : Int32)) fun v1 =>
gd (okI (a1 &&& (4095 : Int32)) 4096) (
ns (cy_mem σ (upd (cx_mem σ) (a1 &&& (4095 : Int32)).toNatClampNeg v1)) fun s1 =>
some ((0 : Int32), s1))
set_option maxHeartbeats 4000000 in
set_option maxRecDepth 100000 in
theorem b_me_setByte {X : Cx} (G : Gd X bc_me_setByte 3 R_mem none (rmm 0 0)) (σ : CS) (a1 a2 : Int32) : J wdC X (QV wdC X) 3 0 [(0, .ref (eO (xE X) 1)), (1, .int a1), (2, .int a2)] [] σ (me_setByte σ a1 a2) := by
  unfold me_setByte
  refine j_aload_n 0 G d_me_setByte_0 rfl rfl ?_
  refine g_me_bytes G d_me_setByte_1 ?_
  refine j_iload_n 1 G d_me_setByte_4 rfl rfl ?_
  refine j_sipush G d_me_setByte_5 cs_4095 ?_
  refine j_iand G d_me_setByte_8 ?_
  refine j_iload_n 2 G d_me_setByte_9 rfl rfl ?_
  refine j_sipush G d_me_setByte_10 cs_255 ?_
  refine j_iand G d_me_setByte_13 ?_
  refine j_nm (fun v1 => ?_)
  refine as_Cmem G d_me_setByte_14 ?_
  refine j_ns (fun s1 => ?_)
  exact j_vret G d_me_setByte_15
set_option maxHeartbeats 4000000 in
set_option maxRecDepth 100000 in
theorem k_me_setByte {l : Launch} {E : Ev} {σ : CS} {a1 a2 : Int32} : CtV wdC l E y_me_setByte bc_me_setByte 3 none (rmm 0 0) [.ref (eO E 1), .int a1, .int a2] σ (me_setByte σ a1 a2) := ct_v (by decide) (Nat.le_of_ble_eq_true rfl) (fun X hE _ G => by subst hE; exact b_me_setByte G σ a1 a2)
def me_wordAt (σ : CS) (a1 : Int32) : Option (Int32 × CS) :=
gd (okI (a1 &&& (4095 : Int32)) 4096) (
nm (cx_mem σ (a1 &&& (4095 : Int32)).toNatClampNeg) fun v1 =>
gd (okI ((a1 + (1 : Int32)) &&& (4095 : Int32)) 4096) (
nm (cx_mem σ ((a1 + (1 : Int32)) &&& (4095 : Int32)).toNatClampNeg) fun v2 =>
some (((v1 <<< ((8 : Int32) &&& 31)) ||| v2), σ)))
set_option maxHeartbeats 4000000 in
set_option maxRecDepth 100000 in
theorem b_me_wordAt {X : Cx} (G : Gd X bc_me_wordAt 2 R_mem (some .int) (rmm 0 0)) (σ : CS) (a1 : Int32) : J wdC X (QI wdC X) 2 0 [(0, .ref (eO (xE X) 1)), (1, .int a1)] [] σ (me_wordAt σ a1) := by
  unfold me_wordAt
  refine j_aload_n 0 G d_me_wordAt_0 rfl rfl ?_
  refine g_me_bytes G d_me_wordAt_1 ?_
  refine j_iload_n 1 G d_me_wordAt_4 rfl rfl ?_
  refine j_sipush G d_me_wordAt_5 cs_4095 ?_
  refine j_iand G d_me_wordAt_8 ?_
  refine al_Cmem G d_me_wordAt_9 ?_
  refine j_nm (fun v1 => ?_)
  refine j_bipush G d_me_wordAt_10 cb_8 ?_
  refine j_ishl G d_me_wordAt_12 ?_
  refine j_aload_n 0 G d_me_wordAt_13 rfl rfl ?_
  refine g_me_bytes G d_me_wordAt_14 ?_
  refine j_iload_n 1 G d_me_wordAt_17 rfl rfl ?_
  refine j_iconst G d_me_wordAt_18 ci_1 ?_
  refine j_iadd G d_me_wordAt_19 ?_
  refine j_sipush G d_me_wordAt_20 cs_4095 ?_
  refine j_iand G d_me_wordAt_23 ?_
  refine al_Cmem G d_me_wordAt_24 ?_
  refine j_nm (fun v2 => ?_)
  refine j_ior G d_me_wordAt_25 ?_
  exact j_iret G d_me_wordAt_26
set_option maxHeartbeats 4000000 in
set_option maxRecDepth 100000 in
theorem k_me_wordAt {l : Launch} {E : Ev} {σ : CS} {a1 : Int32} : CtI wdC l E y_me_wordAt bc_me_wordAt 2 (some .int) (rmm 0 0) [.ref (eO E 1), .int a1] σ (me_wordAt σ a1) := ct_i (by decide) (Nat.le_of_ble_eq_true rfl) (fun X hE _ G => by subst hE; exact b_me_wordAt G σ a1)
def me_setWord (σ : CS) (a1 a2 : Int32) : Option (Int32 × CS) :=
nm ((a2 >>> ((8 : Int32) &&& 31)) &&& (255 : Int32)) fun v1 =>
gd (okI (a1 &&& (4095 : Int32)) 4096) (
ns (cy_mem σ (upd (cx_mem σ) (a1 &&& (4095 : Int32)).toNatClampNeg v1)) fun s1 =>
nm (a2 &&& (255 : Int32)) fun v2 =>
gd (okI ((a1 + (1 : Int32)) &&& (4095 : Int32)) 4096) (
ns (cy_mem s1 (upd (cx_mem s1) ((a1 + (1 : Int32)) &&& (4095 : Int32)).toNatClampNeg v2)) fun s2 =>
some ((0 : Int32), s2)))
set_option maxHeartbeats 4000000 in
set_option maxRecDepth 100000 in
theorem b_me_setWord {X : Cx} (G : Gd X bc_me_setWord 3 R_mem none (rmm 0 0)) (σ : CS) (a1 a2 : Int32) : J wdC X (QV wdC X) 3 0 [(0, .ref (eO (xE X) 1)), (1, .int a1), (2, .int a2)] [] σ (me_setWord σ a1 a2) := by
  unfold me_setWord
  refine j_aload_n 0 G d_me_setWord_0 rfl rfl ?_
  refine g_me_bytes G d_me_setWord_1 ?_
  refine j_iload_n 1 G d_me_setWord_4 rfl rfl ?_
  refine j_sipush G d_me_setWord_5 cs_4095 ?_
  refine j_iand G d_me_setWord_8 ?_
  refine j_iload_n 2 G d_me_setWord_9 rfl rfl ?_
  refine j_bipush G d_me_setWord_10 cb_8 ?_
  refine j_ishr G d_me_setWord_12 ?_
  refine j_sipush G d_me_setWord_13 cs_255 ?_
  refine j_iand G d_me_setWord_16 ?_
  refine j_nm (fun v1 => ?_)
  refine as_Cmem G d_me_setWord_17 ?_
  refine j_ns (fun s1 => ?_)
  refine j_aload_n 0 G d_me_setWord_18 rfl rfl ?_
  refine g_me_bytes G d_me_setWord_19 ?_
  refine j_iload_n 1 G d_me_setWord_22 rfl rfl ?_
  refine j_iconst G d_me_setWord_23 ci_1 ?_
  refine j_iadd G d_me_setWord_24 ?_
  refine j_sipush G d_me_setWord_25 cs_4095 ?_
  refine j_iand G d_me_setWord_28 ?_
  refine j_iload_n 2 G d_me_setWord_29 rfl rfl ?_
  refine j_sipush G d_me_setWord_30 cs_255 ?_
  refine j_iand G d_me_setWord_33 ?_
  refine j_nm (fun v2 => ?_)
  refine as_Cmem G d_me_setWord_34 ?_
  refine j_ns (fun s2 => ?_)
  exact j_vret G d_me_setWord_35
set_option maxHeartbeats 4000000 in
set_option maxRecDepth 100000 in
theorem k_me_setWord {l : Launch} {E : Ev} {σ : CS} {a1 a2 : Int32} : CtV wdC l E y_me_setWord bc_me_setWord 3 none (rmm 0 0) [.ref (eO E 1), .int a1, .int a2] σ (me_setWord σ a1 a2) := ct_v (by decide) (Nat.le_of_ble_eq_true rfl) (fun X hE _ G => by subst hE; exact b_me_setWord G σ a1 a2)
def re_get_31 (σ : CS) (t0 : Int32) : Option (Int32 × CS) :=
some (t0, σ)
def re_get (σ : CS) (a1 : Int32) : Option (Int32 × CS) :=
if a1 = (9 : Int32) then (re_get_31 σ (((cx_reg σ 0) <<< ((8 : Int32) &&& 31)) ||| (cx_reg σ 1))) else (gd (okI a1 9) (
nm (cx_reg σ a1.toNatClampNeg) fun v1 =>
re_get_31 σ v1))
set_option maxHeartbeats 4000000 in
set_option maxRecDepth 100000 in
theorem b_re_get_31 {X : Cx} (G : Gd X bc_re_get 2 R_reg (some .int) (rmm 0 0)) (σ : CS) (t0 : Int32) : J wdC X (QI wdC X) 2 31 [(0, .ref (eO (xE X) 3))] [.int t0] σ (re_get_31 σ t0) := by
  unfold re_get_31
  exact j_iret G d_re_get_31
set_option maxHeartbeats 4000000 in
set_option maxRecDepth 100000 in
theorem b_re_get {X : Cx} (G : Gd X bc_re_get 2 R_reg (some .int) (rmm 0 0)) (σ : CS) (a1 : Int32) : J wdC X (QI wdC X) 2 0 [(0, .ref (eO (xE X) 3)), (1, .int a1)] [] σ (re_get σ a1) := by
  unfold re_get
  refine j_iload_n 1 G d_re_get_0 rfl rfl ?_
  refine j_bipush G d_re_get_1 cb_9 ?_
  refine j_icne G d_re_get_3 (tgt := 25) rfl ?_ ?_
  · refine j_aload_n 0 G d_re_get_25 rfl rfl ?_
    refine g_re_values G d_re_get_26 ?_
    refine j_iload_n 1 G d_re_get_29 rfl rfl ?_
    refine al_Creg G d_re_get_30 ?_
    refine j_nm (fun v1 => ?_)
    refine j_sub [0] (L1 := [(0, .ref (eO (xE X) 3))]) rfl ?_
    exact b_re_get_31 G σ v1
  · refine j_aload_n 0 G d_re_get_6 rfl rfl ?_
    refine g_re_values G d_re_get_7 ?_
    refine j_iconst G d_re_get_10 ci_0 ?_
    refine alc_Creg (j := 0) rfl rfl G d_re_get_11 ?_
    refine j_bipush G d_re_get_12 cb_8 ?_
    refine j_ishl G d_re_get_14 ?_
    refine j_aload_n 0 G d_re_get_15 rfl rfl ?_
    refine g_re_values G d_re_get_16 ?_
    refine j_iconst G d_re_get_19 ci_1 ?_
    refine alc_Creg (j := 1) rfl rfl G d_re_get_20 ?_
    refine j_ior G d_re_get_21 ?_
    refine j_goto G d_re_get_22 (tgt := 31) rfl ?_
    refine j_sub [0] (L1 := [(0, .ref (eO (xE X) 3))]) rfl ?_
    exact b_re_get_31 G σ (((cx_reg σ 0) <<< ((8 : Int32) &&& 31)) ||| (cx_reg σ 1))
set_option maxHeartbeats 4000000 in
set_option maxRecDepth 100000 in
theorem k_re_get {l : Launch} {E : Ev} {σ : CS} {a1 : Int32} : CtI wdC l E y_re_get bc_re_get 2 (some .int) (rmm 0 0) [.ref (eO E 3), .int a1] σ (re_get σ a1) := ct_i (by decide) (Nat.le_of_ble_eq_true rfl) (fun X hE _ G => by subst hE; exact b_re_get G σ a1)
def re_set_73 (σ : CS) : Option (Int32 × CS) :=
some ((0 : Int32), σ)
def re_set_72 (σ : CS) (t0 t1 : Int32) : Option (Int32 × CS) :=
gd (okI t1 9) (
ns (cy_reg σ (upd (cx_reg σ) t1.toNatClampNeg t0)) fun s1 =>
re_set_73 s1)
def re_set_50 (σ : CS) (l1 l2 t0 : Int32) : Option (Int32 × CS) :=
if t0 = 0 then (re_set_72 σ (l2 &&& (255 : Int32)) l1) else (re_set_72 σ (l2 &&& (65535 : Int32)) l1)
def re_set_49 (σ : CS) (l1 l2 : Int32) : Option (Int32 × CS) :=
re_set_50 σ l1 l2 (0 : Int32)
def re_set (σ : CS) (a1 a2 : Int32) : Option (Int32 × CS) :=
if a1 = (9 : Int32) then (nm ((a2 >>> ((8 : Int32) &&& 31)) &&& (255 : Int32)) fun v1 =>
ns (cy_reg σ (upd (cx_reg σ) 0 v1)) fun s1 =>
nm (a2 &&& (255 : Int32)) fun v2 =>
ns (cy_reg s1 (upd (cx_reg s1) 1 v2)) fun s2 =>
re_set_73 s2) else (if a1 < (2 : Int32) then (re_set_49 σ a1 a2) else (if (6 : Int32) < a1 then (re_set_49 σ a1 a2) else (re_set_50 σ a1 a2 (1 : Int32))))
set_option maxHeartbeats 4000000 in
set_option maxRecDepth 100000 in
theorem b_re_set_73 {X : Cx} (G : Gd X bc_re_set 4 R_reg none (rmm 0 0)) (σ : CS) : J wdC X (QV wdC X) 4 73 [(0, .ref (eO (xE X) 3))] [] σ (re_set_73 σ ) := by
  unfold re_set_73
  exact j_vret G d_re_set_73
set_option maxHeartbeats 4000000 in
set_option maxRecDepth 100000 in
theorem b_re_set_72 {X : Cx} (G : Gd X bc_re_set 4 R_reg none (rmm 0 0)) (σ : CS) (t0 t1 : Int32) : J wdC X (QV wdC X) 4 72 [(0, .ref (eO (xE X) 3))] [.int t0, .int t1, .ref (eO (xE X) 4)] σ (re_set_72 σ t0 t1) := by
  unfold re_set_72
  refine as_Creg G d_re_set_72 ?_
  refine j_ns (fun s1 => ?_)
  exact b_re_set_73 G s1
set_option maxHeartbeats 4000000 in
set_option maxRecDepth 100000 in
theorem b_re_set_50 {X : Cx} (G : Gd X bc_re_set 4 R_reg none (rmm 0 0)) (σ : CS) (l1 l2 t0 : Int32) : J wdC X (QV wdC X) 4 50 [(0, .ref (eO (xE X) 3)), (1, .int l1), (2, .int l2)] [.int t0] σ (re_set_50 σ l1 l2 t0) := by
  unfold re_set_50
  refine j_istore_n [1, 2, 3, 0] (L1 := [(0, .ref (eO (xE X) 3)), (1, .int l1), (2, .int l2), (3, .int t0)]) G d_re_set_50 rfl (by decide) rfl ?_
  refine j_aload_n 0 G d_re_set_51 rfl rfl ?_
  refine g_re_values G d_re_set_52 ?_
  refine j_iload_n 1 G d_re_set_55 rfl rfl ?_
  refine j_iload_n 3 G d_re_set_56 rfl rfl ?_
  refine j_ifeq G d_re_set_57 (tgt := 67) rfl ?_ ?_
  · refine j_iload_n 2 G d_re_set_67 rfl rfl ?_
    refine j_sipush G d_re_set_68 cs_255 ?_
    refine j_iand G d_re_set_71 ?_
    refine j_sub [0] (L1 := [(0, .ref (eO (xE X) 3))]) rfl ?_
    exact b_re_set_72 G σ (l2 &&& (255 : Int32)) l1
  · refine j_iload_n 2 G d_re_set_60 rfl rfl ?_
    refine j_ldc G d_re_set_61 kc_re_15 ?_
    refine j_iand G d_re_set_63 ?_
    refine j_goto G d_re_set_64 (tgt := 72) rfl ?_
    refine j_sub [0] (L1 := [(0, .ref (eO (xE X) 3))]) rfl ?_
    exact b_re_set_72 G σ (l2 &&& (65535 : Int32)) l1
set_option maxHeartbeats 4000000 in
set_option maxRecDepth 100000 in
theorem b_re_set_49 {X : Cx} (G : Gd X bc_re_set 4 R_reg none (rmm 0 0)) (σ : CS) (l1 l2 : Int32) : J wdC X (QV wdC X) 4 49 [(0, .ref (eO (xE X) 3)), (1, .int l1), (2, .int l2)] [] σ (re_set_49 σ l1 l2) := by
  unfold re_set_49
  refine j_iconst G d_re_set_49 ci_0 ?_
  exact b_re_set_50 G σ l1 l2 (0 : Int32)
set_option maxHeartbeats 4000000 in
set_option maxRecDepth 100000 in
theorem b_re_set {X : Cx} (G : Gd X bc_re_set 4 R_reg none (rmm 0 0)) (σ : CS) (a1 a2 : Int32) : J wdC X (QV wdC X) 4 0 [(0, .ref (eO (xE X) 3)), (1, .int a1), (2, .int a2)] [] σ (re_set σ a1 a2) := by
  unfold re_set
  refine j_iload_n 1 G d_re_set_0 rfl rfl ?_
  refine j_bipush G d_re_set_1 cb_9 ?_
  refine j_icne G d_re_set_3 (tgt := 34) rfl ?_ ?_
  · refine j_iload_n 1 G d_re_set_34 rfl rfl ?_
    refine j_iconst G d_re_set_35 ci_2 ?_
    refine j_iclt G d_re_set_36 (tgt := 49) rfl ?_ ?_
    · exact b_re_set_49 G σ a1 a2
    · refine j_iload_n 1 G d_re_set_39 rfl rfl ?_
      refine j_bipush G d_re_set_40 cb_6 ?_
      refine j_icgt G d_re_set_42 (tgt := 49) rfl ?_ ?_
      · exact b_re_set_49 G σ a1 a2
      · refine j_iconst G d_re_set_45 ci_1 ?_
        refine j_goto G d_re_set_46 (tgt := 50) rfl ?_
        exact b_re_set_50 G σ a1 a2 (1 : Int32)
  · refine j_aload_n 0 G d_re_set_6 rfl rfl ?_
    refine g_re_values G d_re_set_7 ?_
    refine j_iconst G d_re_set_10 ci_0 ?_
    refine j_iload_n 2 G d_re_set_11 rfl rfl ?_
    refine j_bipush G d_re_set_12 cb_8 ?_
    refine j_ishr G d_re_set_14 ?_
    refine j_sipush G d_re_set_15 cs_255 ?_
    refine j_iand G d_re_set_18 ?_
    refine j_nm (fun v1 => ?_)
    refine asc_Creg (j := 0) rfl rfl G d_re_set_19 ?_
    refine j_ns (fun s1 => ?_)
    refine j_aload_n 0 G d_re_set_20 rfl rfl ?_
    refine g_re_values G d_re_set_21 ?_
    refine j_iconst G d_re_set_24 ci_1 ?_
    refine j_iload_n 2 G d_re_set_25 rfl rfl ?_
    refine j_sipush G d_re_set_26 cs_255 ?_
    refine j_iand G d_re_set_29 ?_
    refine j_nm (fun v2 => ?_)
    refine asc_Creg (j := 1) rfl rfl G d_re_set_30 ?_
    refine j_ns (fun s2 => ?_)
    refine j_goto G d_re_set_31 (tgt := 73) rfl ?_
    refine j_sub [0] (L1 := [(0, .ref (eO (xE X) 3))]) rfl ?_
    exact b_re_set_73 G s2
set_option maxHeartbeats 4000000 in
set_option maxRecDepth 100000 in
theorem k_re_set {l : Launch} {E : Ev} {σ : CS} {a1 a2 : Int32} : CtV wdC l E y_re_set bc_re_set 4 none (rmm 0 0) [.ref (eO E 3), .int a1, .int a2] σ (re_set σ a1 a2) := ct_v (by decide) (Nat.le_of_ble_eq_true rfl) (fun X hE _ G => by subst hE; exact b_re_set G σ a1 a2)
def re_has_17 (σ : CS) (t0 : Int32) : Option (Int32 × CS) :=
gd (isB t0) (some (t0, σ))
def re_has (σ : CS) (a1 : Int32) : Option (Int32 × CS) :=
if ((cx_reg σ 8) &&& a1) = 0 then (re_has_17 σ (0 : Int32)) else (re_has_17 σ (1 : Int32))
set_option maxHeartbeats 4000000 in
set_option maxRecDepth 100000 in
theorem b_re_has_17 {X : Cx} (G : Gd X bc_re_has 2 R_reg (some .boolean) (rmm 0 0)) (σ : CS) (t0 : Int32) : J wdC X (QI wdC X) 2 17 [(0, .ref (eO (xE X) 3))] [.int t0] σ (re_has_17 σ t0) := by
  unfold re_has_17
  exact j_zret G d_re_has_17
set_option maxHeartbeats 4000000 in
set_option maxRecDepth 100000 in
theorem b_re_has {X : Cx} (G : Gd X bc_re_has 2 R_reg (some .boolean) (rmm 0 0)) (σ : CS) (a1 : Int32) : J wdC X (QI wdC X) 2 0 [(0, .ref (eO (xE X) 3)), (1, .int a1)] [] σ (re_has σ a1) := by
  unfold re_has
  refine j_aload_n 0 G d_re_has_0 rfl rfl ?_
  refine g_re_values G d_re_has_1 ?_
  refine j_bipush G d_re_has_4 cb_8 ?_
  refine alc_Creg (j := 8) rfl rfl G d_re_has_6 ?_
  refine j_iload_n 1 G d_re_has_7 rfl rfl ?_
  refine j_iand G d_re_has_8 ?_
  refine j_ifeq G d_re_has_9 (tgt := 16) rfl ?_ ?_
  · refine j_iconst G d_re_has_16 ci_0 ?_
    refine j_sub [0] (L1 := [(0, .ref (eO (xE X) 3))]) rfl ?_
    exact b_re_has_17 G σ (0 : Int32)
  · refine j_iconst G d_re_has_12 ci_1 ?_
    refine j_goto G d_re_has_13 (tgt := 17) rfl ?_
    refine j_sub [0] (L1 := [(0, .ref (eO (xE X) 3))]) rfl ?_
    exact b_re_has_17 G σ (1 : Int32)
set_option maxHeartbeats 4000000 in
set_option maxRecDepth 100000 in
theorem k_re_has {l : Launch} {E : Ev} {σ : CS} {a1 : Int32} : CtI wdC l E y_re_has bc_re_has 2 (some .boolean) (rmm 0 0) [.ref (eO E 3), .int a1] σ (re_has σ a1) := ct_i (by decide) (Nat.le_of_ble_eq_true rfl) (fun X hE _ G => by subst hE; exact b_re_has G σ a1)
def re_turn_33 (σ : CS) (t0 t1 : Int32) : Option (Int32 × CS) :=
gd (okI t1 9) (
ns (cy_reg σ (upd (cx_reg σ) t1.toNatClampNeg t0)) fun s1 =>
some ((0 : Int32), s1))
def re_turn (σ : CS) (a1 a2 : Int32) : Option (Int32 × CS) :=
if a2 = 0 then (re_turn_33 σ ((cx_reg σ 8) &&& (a1 ^^^ (-1 : Int32))) (8 : Int32)) else (re_turn_33 σ ((cx_reg σ 8) ||| a1) (8 : Int32))
set_option maxHeartbeats 4000000 in
set_option maxRecDepth 100000 in
theorem b_re_turn_33 {X : Cx} (G : Gd X bc_re_turn 3 R_reg none (rmm 0 0)) (σ : CS) (t0 t1 : Int32) : J wdC X (QV wdC X) 3 33 [(0, .ref (eO (xE X) 3))] [.int t0, .int t1, .ref (eO (xE X) 4)] σ (re_turn_33 σ t0 t1) := by
  unfold re_turn_33
  refine as_Creg G d_re_turn_33 ?_
  refine j_ns (fun s1 => ?_)
  exact j_vret G d_re_turn_34
set_option maxHeartbeats 4000000 in
set_option maxRecDepth 100000 in
theorem b_re_turn {X : Cx} (G : Gd X bc_re_turn 3 R_reg none (rmm 0 0)) (σ : CS) (a1 a2 : Int32) : J wdC X (QV wdC X) 3 0 [(0, .ref (eO (xE X) 3)), (1, .int a1), (2, .int a2)] [] σ (re_turn σ a1 a2) := by
  unfold re_turn
  refine j_aload_n 0 G d_re_turn_0 rfl rfl ?_
  refine g_re_values G d_re_turn_1 ?_
  refine j_bipush G d_re_turn_4 cb_8 ?_
  refine j_iload_n 2 G d_re_turn_6 rfl rfl ?_
  refine j_ifeq G d_re_turn_7 (tgt := 22) rfl ?_ ?_
  · refine j_aload_n 0 G d_re_turn_22 rfl rfl ?_
    refine g_re_values G d_re_turn_23 ?_
    refine j_bipush G d_re_turn_26 cb_8 ?_
    refine alc_Creg (j := 8) rfl rfl G d_re_turn_28 ?_
    refine j_iload_n 1 G d_re_turn_29 rfl rfl ?_
    refine j_iconst G d_re_turn_30 ci_m1 ?_
    refine j_ixor G d_re_turn_31 ?_
    refine j_iand G d_re_turn_32 ?_
    refine j_sub [0] (L1 := [(0, .ref (eO (xE X) 3))]) rfl ?_
    exact b_re_turn_33 G σ ((cx_reg σ 8) &&& (a1 ^^^ (-1 : Int32))) (8 : Int32)
  · refine j_aload_n 0 G d_re_turn_10 rfl rfl ?_
    refine g_re_values G d_re_turn_11 ?_
    refine j_bipush G d_re_turn_14 cb_8 ?_
    refine alc_Creg (j := 8) rfl rfl G d_re_turn_16 ?_
    refine j_iload_n 1 G d_re_turn_17 rfl rfl ?_
    refine j_ior G d_re_turn_18 ?_
    refine j_goto G d_re_turn_19 (tgt := 33) rfl ?_
    refine j_sub [0] (L1 := [(0, .ref (eO (xE X) 3))]) rfl ?_
    exact b_re_turn_33 G σ ((cx_reg σ 8) ||| a1) (8 : Int32)
set_option maxHeartbeats 4000000 in
set_option maxRecDepth 100000 in
theorem k_re_turn {l : Launch} {E : Ev} {σ : CS} {a1 a2 : Int32} : CtV wdC l E y_re_turn bc_re_turn 3 none (rmm 0 0) [.ref (eO E 3), .int a1, .int a2] σ (re_turn σ a1 a2) := ct_v (by decide) (Nat.le_of_ble_eq_true rfl) (fun X hE _ G => by subst hE; exact b_re_turn G σ a1 a2)
def re_carry (σ : CS) : Option (Int32 × CS) :=
some (((cx_reg σ 8) &&& (1 : Int32)), σ)
set_option maxHeartbeats 4000000 in
set_option maxRecDepth 100000 in
theorem b_re_carry {X : Cx} (G : Gd X bc_re_carry 1 R_reg (some .int) (rmm 0 0)) (σ : CS) : J wdC X (QI wdC X) 1 0 [(0, .ref (eO (xE X) 3))] [] σ (re_carry σ ) := by
  unfold re_carry
  refine j_aload_n 0 G d_re_carry_0 rfl rfl ?_
  refine g_re_values G d_re_carry_1 ?_
  refine j_bipush G d_re_carry_4 cb_8 ?_
  refine alc_Creg (j := 8) rfl rfl G d_re_carry_6 ?_
  refine j_iconst G d_re_carry_7 ci_1 ?_
  refine j_iand G d_re_carry_8 ?_
  exact j_iret G d_re_carry_9
set_option maxHeartbeats 4000000 in
set_option maxRecDepth 100000 in
theorem k_re_carry {l : Launch} {E : Ev} {σ : CS} : CtI wdC l E y_re_carry bc_re_carry 1 (some .int) (rmm 0 0) [.ref (eO E 3)] σ (re_carry σ ) := ct_i (by decide) (Nat.le_of_ble_eq_true rfl) (fun X hE _ G => by subst hE; exact b_re_carry G σ )
def re_setSign_22 (σ : CS) (l3 t0 : Int32) : Option (Int32 × CS) :=
nm ((((cx_reg σ 8) &&& (-13 : Int32)) ||| l3) ||| t0) fun v1 =>
ns (cy_reg σ (upd (cx_reg σ) 8 v1)) fun s1 =>
some ((0 : Int32), s1)
def re_setSign_9 (σ : CS) (l1 l2 t0 : Int32) : Option (Int32 × CS) :=
if (l1 &&& l2) = 0 then (re_setSign_22 σ t0 (0 : Int32)) else (re_setSign_22 σ t0 (8 : Int32))
def re_setSign (σ : CS) (a1 a2 : Int32) : Option (Int32 × CS) :=
if a1 = 0 then (re_setSign_9 σ a1 a2 (4 : Int32)) else (re_setSign_9 σ a1 a2 (0 : Int32))
set_option maxHeartbeats 4000000 in
set_option maxRecDepth 100000 in
theorem b_re_setSign_22 {X : Cx} (G : Gd X bc_re_setSign 5 R_reg none (rmm 0 0)) (σ : CS) (l3 t0 : Int32) : J wdC X (QV wdC X) 5 22 [(0, .ref (eO (xE X) 3)), (3, .int l3)] [.int t0] σ (re_setSign_22 σ l3 t0) := by
  unfold re_setSign_22
  refine j_istore [1, 2, 0] (L1 := [(0, .ref (eO (xE X) 3)), (3, .int l3), (4, .int t0)]) G d_re_setSign_22 (by decide) rfl ?_
  refine j_aload_n 0 G d_re_setSign_24 rfl rfl ?_
  refine g_re_values G d_re_setSign_25 ?_
  refine j_bipush G d_re_setSign_28 cb_8 ?_
  refine j_aload_n 0 G d_re_setSign_30 rfl rfl ?_
  refine g_re_values G d_re_setSign_31 ?_
  refine j_bipush G d_re_setSign_34 cb_8 ?_
  refine alc_Creg (j := 8) rfl rfl G d_re_setSign_36 ?_
  refine j_bipush G d_re_setSign_37 cb_m13 ?_
  refine j_iand G d_re_setSign_39 ?_
  refine j_iload_n 1 G d_re_setSign_40 rfl rfl ?_
  refine j_ior G d_re_setSign_41 ?_
  refine j_iload 2 G d_re_setSign_42 rfl ?_
  refine j_ior G d_re_setSign_44 ?_
  refine j_nm (fun v1 => ?_)
  refine asc_Creg (j := 8) rfl rfl G d_re_setSign_45 ?_
  refine j_ns (fun s1 => ?_)
  exact j_vret G d_re_setSign_46
set_option maxHeartbeats 4000000 in
set_option maxRecDepth 100000 in
theorem b_re_setSign_9 {X : Cx} (G : Gd X bc_re_setSign 5 R_reg none (rmm 0 0)) (σ : CS) (l1 l2 t0 : Int32) : J wdC X (QV wdC X) 5 9 [(0, .ref (eO (xE X) 3)), (1, .int l1), (2, .int l2)] [.int t0] σ (re_setSign_9 σ l1 l2 t0) := by
  unfold re_setSign_9
  refine j_istore_n [1, 2, 3, 0] (L1 := [(0, .ref (eO (xE X) 3)), (1, .int l1), (2, .int l2), (3, .int t0)]) G d_re_setSign_9 rfl (by decide) rfl ?_
  refine j_iload_n 1 G d_re_setSign_10 rfl rfl ?_
  refine j_iload_n 2 G d_re_setSign_11 rfl rfl ?_
  refine j_iand G d_re_setSign_12 ?_
  refine j_ifeq G d_re_setSign_13 (tgt := 21) rfl ?_ ?_
  · refine j_iconst G d_re_setSign_21 ci_0 ?_
    refine j_sub [0, 3] (L1 := [(0, .ref (eO (xE X) 3)), (3, .int t0)]) rfl ?_
    exact b_re_setSign_22 G σ t0 (0 : Int32)
  · refine j_bipush G d_re_setSign_16 cb_8 ?_
    refine j_goto G d_re_setSign_18 (tgt := 22) rfl ?_
    refine j_sub [0, 3] (L1 := [(0, .ref (eO (xE X) 3)), (3, .int t0)]) rfl ?_
    exact b_re_setSign_22 G σ t0 (8 : Int32)
set_option maxHeartbeats 4000000 in
set_option maxRecDepth 100000 in
theorem b_re_setSign {X : Cx} (G : Gd X bc_re_setSign 5 R_reg none (rmm 0 0)) (σ : CS) (a1 a2 : Int32) : J wdC X (QV wdC X) 5 0 [(0, .ref (eO (xE X) 3)), (1, .int a1), (2, .int a2)] [] σ (re_setSign σ a1 a2) := by
  unfold re_setSign
  refine j_iload_n 1 G d_re_setSign_0 rfl rfl ?_
  refine j_ifne G d_re_setSign_1 (tgt := 8) rfl ?_ ?_
  · refine j_iconst G d_re_setSign_8 ci_0 ?_
    exact b_re_setSign_9 G σ a1 a2 (0 : Int32)
  · refine j_iconst G d_re_setSign_4 ci_4 ?_
    refine j_goto G d_re_setSign_5 (tgt := 9) rfl ?_
    exact b_re_setSign_9 G σ a1 a2 (4 : Int32)
set_option maxHeartbeats 4000000 in
set_option maxRecDepth 100000 in
theorem k_re_setSign {l : Launch} {E : Ev} {σ : CS} {a1 a2 : Int32} : CtV wdC l E y_re_setSign bc_re_setSign 5 none (rmm 0 0) [.ref (eO E 3), .int a1, .int a2] σ (re_setSign σ a1 a2) := ct_v (by decide) (Nat.le_of_ble_eq_true rfl) (fun X hE _ G => by subst hE; exact b_re_setSign G σ a1 a2)
def re_meetsEven_136 (σ : CS) (t0 : Int32) : Option (Int32 × CS) :=
gd (isB t0) (some (t0, σ))
def re_meetsEven_107 (σ : CS) (t0 : Int32) : Option (Int32 × CS) :=
gd (isB t0) (some (t0, σ))
def re_meetsEven_79 (σ : CS) (t0 : Int32) : Option (Int32 × CS) :=
gd (isB t0) (some (t0, σ))
def re_meetsEven_121 (σ : CS) (t0 : Int32) : Option (Int32 × CS) :=
gd (isB t0) (some (t0, σ))
def re_meetsEven_156 (σ : CS) (t0 : Int32) : Option (Int32 × CS) :=
gd (isB t0) (some (t0, σ))
def re_meetsEven_155 (σ : CS) : Option (Int32 × CS) :=
re_meetsEven_156 σ (0 : Int32)
def re_meetsEven_93 (σ : CS) (t0 : Int32) : Option (Int32 × CS) :=
gd (isB t0) (some (t0, σ))
def re_meetsEven_19 (σ : CS) (l1 t0 : Int32) : Option (Int32 × CS) :=
swi l1 [((0 : Int32), 64, some ((1 : Int32), σ)),
 ((1 : Int32), 66, bd (re_has σ (5 : Int32)) fun v1 s1 =>
if v1 = 0 then (re_meetsEven_79 s1 (1 : Int32)) else (re_meetsEven_79 s1 (0 : Int32))),
 ((2 : Int32), 80, bd (re_has σ (1 : Int32)) fun v2 s2 =>
if v2 = 0 then (re_meetsEven_93 s2 (1 : Int32)) else (re_meetsEven_93 s2 (0 : Int32))),
 ((3 : Int32), 94, bd (re_has σ (4 : Int32)) fun v3 s3 =>
if v3 = 0 then (re_meetsEven_107 s3 (1 : Int32)) else (re_meetsEven_107 s3 (0 : Int32))),
 ((4 : Int32), 108, bd (re_has σ (2 : Int32)) fun v4 s4 =>
if v4 = 0 then (re_meetsEven_121 s4 (1 : Int32)) else (re_meetsEven_121 s4 (0 : Int32))),
 ((5 : Int32), 122, bd (re_has σ (8 : Int32)) fun v5 s5 =>
if v5 = 0 then (re_meetsEven_136 s5 (1 : Int32)) else (re_meetsEven_136 s5 (0 : Int32))),
 ((6 : Int32), 137, gd (isB t0) (some (t0, σ)))] (if t0 = 0 then (re_meetsEven_155 σ) else (bd (re_has σ (4 : Int32)) fun v6 s6 =>
if v6 = 0 then (re_meetsEven_156 s6 (1 : Int32)) else (re_meetsEven_155 s6)))
def re_meetsEven (σ : CS) (a1 : Int32) : Option (Int32 × CS) :=
bd (re_has σ (8 : Int32)) fun v1 s1 =>
bd (re_has s1 (2 : Int32)) fun v2 s2 =>
if v1 = v2 then (re_meetsEven_19 s2 a1 (1 : Int32)) else (re_meetsEven_19 s2 a1 (0 : Int32))
set_option maxHeartbeats 4000000 in
set_option maxRecDepth 100000 in
theorem b_re_meetsEven_136 {X : Cx} (G : Gd X bc_re_meetsEven 3 R_reg (some .boolean) (rmm 1 21)) (σ : CS) (t0 : Int32) : J wdC X (QI wdC X) 3 136 [(0, .ref (eO (xE X) 3))] [.int t0] σ (re_meetsEven_136 σ t0) := by
  unfold re_meetsEven_136
  exact j_zret G d_re_meetsEven_136
set_option maxHeartbeats 4000000 in
set_option maxRecDepth 100000 in
theorem b_re_meetsEven_107 {X : Cx} (G : Gd X bc_re_meetsEven 3 R_reg (some .boolean) (rmm 1 21)) (σ : CS) (t0 : Int32) : J wdC X (QI wdC X) 3 107 [(0, .ref (eO (xE X) 3))] [.int t0] σ (re_meetsEven_107 σ t0) := by
  unfold re_meetsEven_107
  exact j_zret G d_re_meetsEven_107
set_option maxHeartbeats 4000000 in
set_option maxRecDepth 100000 in
theorem b_re_meetsEven_79 {X : Cx} (G : Gd X bc_re_meetsEven 3 R_reg (some .boolean) (rmm 1 21)) (σ : CS) (t0 : Int32) : J wdC X (QI wdC X) 3 79 [(0, .ref (eO (xE X) 3))] [.int t0] σ (re_meetsEven_79 σ t0) := by
  unfold re_meetsEven_79
  exact j_zret G d_re_meetsEven_79
set_option maxHeartbeats 4000000 in
set_option maxRecDepth 100000 in
theorem b_re_meetsEven_121 {X : Cx} (G : Gd X bc_re_meetsEven 3 R_reg (some .boolean) (rmm 1 21)) (σ : CS) (t0 : Int32) : J wdC X (QI wdC X) 3 121 [(0, .ref (eO (xE X) 3))] [.int t0] σ (re_meetsEven_121 σ t0) := by
  unfold re_meetsEven_121
  exact j_zret G d_re_meetsEven_121
set_option maxHeartbeats 4000000 in
set_option maxRecDepth 100000 in
theorem b_re_meetsEven_156 {X : Cx} (G : Gd X bc_re_meetsEven 3 R_reg (some .boolean) (rmm 1 21)) (σ : CS) (t0 : Int32) : J wdC X (QI wdC X) 3 156 [(0, .ref (eO (xE X) 3))] [.int t0] σ (re_meetsEven_156 σ t0) := by
  unfold re_meetsEven_156
  exact j_zret G d_re_meetsEven_156
set_option maxHeartbeats 4000000 in
set_option maxRecDepth 100000 in
theorem b_re_meetsEven_155 {X : Cx} (G : Gd X bc_re_meetsEven 3 R_reg (some .boolean) (rmm 1 21)) (σ : CS) : J wdC X (QI wdC X) 3 155 [(0, .ref (eO (xE X) 3))] [] σ (re_meetsEven_155 σ ) := by
  unfold re_meetsEven_155
  refine j_iconst G d_re_meetsEven_155 ci_0 ?_
  exact b_re_meetsEven_156 G σ (0 : Int32)
set_option maxHeartbeats 4000000 in
set_option maxRecDepth 100000 in
theorem b_re_meetsEven_93 {X : Cx} (G : Gd X bc_re_meetsEven 3 R_reg (some .boolean) (rmm 1 21)) (σ : CS) (t0 : Int32) : J wdC X (QI wdC X) 3 93 [(0, .ref (eO (xE X) 3))] [.int t0] σ (re_meetsEven_93 σ t0) := by
  unfold re_meetsEven_93
  exact j_zret G d_re_meetsEven_93
set_option maxHeartbeats 4000000 in
set_option maxRecDepth 100000 in
theorem b_re_meetsEven_19 {X : Cx} (G : Gd X bc_re_meetsEven 3 R_reg (some .boolean) (rmm 1 21)) (σ : CS) (l1 t0 : Int32) : J wdC X (QI wdC X) 3 19 [(0, .ref (eO (xE X) 3)), (1, .int l1)] [.int t0] σ (re_meetsEven_19 σ l1 t0) := by
  unfold re_meetsEven_19
  refine j_istore_n [1, 2, 0] (L1 := [(0, .ref (eO (xE X) 3)), (1, .int l1), (2, .int t0)]) G d_re_meetsEven_19 rfl (by decide) rfl ?_
  refine j_iload_n 1 G d_re_meetsEven_20 rfl rfl ?_
  refine j_ts [(0, 64), (1, 66), (2, 80), (3, 94), (4, 108), (5, 122), (6, 137)] G d_re_meetsEven_21 (dt := 139) rfl (by decide +kernel) ⟨?_, ?_, ?_, ?_, ?_, ?_, ?_, trivial⟩ ?_
  · refine j_iconst G d_re_meetsEven_64 ci_1 ?_
    exact j_zretc (by decide) G d_re_meetsEven_65
  · refine j_aload_n 0 G d_re_meetsEven_66 rfl rfl ?_
    refine j_iconst G d_re_meetsEven_67 ci_5 ?_
    refine j_Vi1 G k_re_has mw_re_has lk_re_re_has rc_reg d_re_meetsEven_68 rfl (Nat.le_of_ble_eq_true rfl) (fun v1 s1 => ?_)
    refine j_ifne G d_re_meetsEven_71 (tgt := 78) rfl ?_ ?_
    · refine j_iconst G d_re_meetsEven_78 ci_0 ?_
      refine j_sub [0] (L1 := [(0, .ref (eO (xE X) 3))]) rfl ?_
      exact b_re_meetsEven_79 G s1 (0 : Int32)
    · refine j_iconst G d_re_meetsEven_74 ci_1 ?_
      refine j_goto G d_re_meetsEven_75 (tgt := 79) rfl ?_
      refine j_sub [0] (L1 := [(0, .ref (eO (xE X) 3))]) rfl ?_
      exact b_re_meetsEven_79 G s1 (1 : Int32)
  · refine j_aload_n 0 G d_re_meetsEven_80 rfl rfl ?_
    refine j_iconst G d_re_meetsEven_81 ci_1 ?_
    refine j_Vi1 G k_re_has mw_re_has lk_re_re_has rc_reg d_re_meetsEven_82 rfl (Nat.le_of_ble_eq_true rfl) (fun v2 s2 => ?_)
    refine j_ifne G d_re_meetsEven_85 (tgt := 92) rfl ?_ ?_
    · refine j_iconst G d_re_meetsEven_92 ci_0 ?_
      refine j_sub [0] (L1 := [(0, .ref (eO (xE X) 3))]) rfl ?_
      exact b_re_meetsEven_93 G s2 (0 : Int32)
    · refine j_iconst G d_re_meetsEven_88 ci_1 ?_
      refine j_goto G d_re_meetsEven_89 (tgt := 93) rfl ?_
      refine j_sub [0] (L1 := [(0, .ref (eO (xE X) 3))]) rfl ?_
      exact b_re_meetsEven_93 G s2 (1 : Int32)
  · refine j_aload_n 0 G d_re_meetsEven_94 rfl rfl ?_
    refine j_iconst G d_re_meetsEven_95 ci_4 ?_
    refine j_Vi1 G k_re_has mw_re_has lk_re_re_has rc_reg d_re_meetsEven_96 rfl (Nat.le_of_ble_eq_true rfl) (fun v3 s3 => ?_)
    refine j_ifne G d_re_meetsEven_99 (tgt := 106) rfl ?_ ?_
    · refine j_iconst G d_re_meetsEven_106 ci_0 ?_
      refine j_sub [0] (L1 := [(0, .ref (eO (xE X) 3))]) rfl ?_
      exact b_re_meetsEven_107 G s3 (0 : Int32)
    · refine j_iconst G d_re_meetsEven_102 ci_1 ?_
      refine j_goto G d_re_meetsEven_103 (tgt := 107) rfl ?_
      refine j_sub [0] (L1 := [(0, .ref (eO (xE X) 3))]) rfl ?_
      exact b_re_meetsEven_107 G s3 (1 : Int32)
  · refine j_aload_n 0 G d_re_meetsEven_108 rfl rfl ?_
    refine j_iconst G d_re_meetsEven_109 ci_2 ?_
    refine j_Vi1 G k_re_has mw_re_has lk_re_re_has rc_reg d_re_meetsEven_110 rfl (Nat.le_of_ble_eq_true rfl) (fun v4 s4 => ?_)
    refine j_ifne G d_re_meetsEven_113 (tgt := 120) rfl ?_ ?_
    · refine j_iconst G d_re_meetsEven_120 ci_0 ?_
      refine j_sub [0] (L1 := [(0, .ref (eO (xE X) 3))]) rfl ?_
      exact b_re_meetsEven_121 G s4 (0 : Int32)
    · refine j_iconst G d_re_meetsEven_116 ci_1 ?_
      refine j_goto G d_re_meetsEven_117 (tgt := 121) rfl ?_
      refine j_sub [0] (L1 := [(0, .ref (eO (xE X) 3))]) rfl ?_
      exact b_re_meetsEven_121 G s4 (1 : Int32)
  · refine j_aload_n 0 G d_re_meetsEven_122 rfl rfl ?_
    refine j_bipush G d_re_meetsEven_123 cb_8 ?_
    refine j_Vi1 G k_re_has mw_re_has lk_re_re_has rc_reg d_re_meetsEven_125 rfl (Nat.le_of_ble_eq_true rfl) (fun v5 s5 => ?_)
    refine j_ifne G d_re_meetsEven_128 (tgt := 135) rfl ?_ ?_
    · refine j_iconst G d_re_meetsEven_135 ci_0 ?_
      refine j_sub [0] (L1 := [(0, .ref (eO (xE X) 3))]) rfl ?_
      exact b_re_meetsEven_136 G s5 (0 : Int32)
    · refine j_iconst G d_re_meetsEven_131 ci_1 ?_
      refine j_goto G d_re_meetsEven_132 (tgt := 136) rfl ?_
      refine j_sub [0] (L1 := [(0, .ref (eO (xE X) 3))]) rfl ?_
      exact b_re_meetsEven_136 G s5 (1 : Int32)
  · refine j_iload_n 2 G d_re_meetsEven_137 rfl rfl ?_
    exact j_zret G d_re_meetsEven_138
  · refine j_iload_n 2 G d_re_meetsEven_139 rfl rfl ?_
    refine j_ifeq G d_re_meetsEven_140 (tgt := 155) rfl ?_ ?_
    · refine j_sub [0] (L1 := [(0, .ref (eO (xE X) 3))]) rfl ?_
      exact b_re_meetsEven_155 G σ
    · refine j_aload_n 0 G d_re_meetsEven_143 rfl rfl ?_
      refine j_iconst G d_re_meetsEven_144 ci_4 ?_
      refine j_Vi1 G k_re_has mw_re_has lk_re_re_has rc_reg d_re_meetsEven_145 rfl (Nat.le_of_ble_eq_true rfl) (fun v6 s6 => ?_)
      refine j_ifne G d_re_meetsEven_148 (tgt := 155) rfl ?_ ?_
      · refine j_sub [0] (L1 := [(0, .ref (eO (xE X) 3))]) rfl ?_
        exact b_re_meetsEven_155 G s6
      · refine j_iconst G d_re_meetsEven_151 ci_1 ?_
        refine j_goto G d_re_meetsEven_152 (tgt := 156) rfl ?_
        refine j_sub [0] (L1 := [(0, .ref (eO (xE X) 3))]) rfl ?_
        exact b_re_meetsEven_156 G s6 (1 : Int32)
set_option maxHeartbeats 4000000 in
set_option maxRecDepth 100000 in
theorem b_re_meetsEven {X : Cx} (G : Gd X bc_re_meetsEven 3 R_reg (some .boolean) (rmm 1 21)) (σ : CS) (a1 : Int32) : J wdC X (QI wdC X) 3 0 [(0, .ref (eO (xE X) 3)), (1, .int a1)] [] σ (re_meetsEven σ a1) := by
  unfold re_meetsEven
  refine j_aload_n 0 G d_re_meetsEven_0 rfl rfl ?_
  refine j_bipush G d_re_meetsEven_1 cb_8 ?_
  refine j_Vi1 G k_re_has mw_re_has lk_re_re_has rc_reg d_re_meetsEven_3 rfl (Nat.le_of_ble_eq_true rfl) (fun v1 s1 => ?_)
  refine j_aload_n 0 G d_re_meetsEven_6 rfl rfl ?_
  refine j_iconst G d_re_meetsEven_7 ci_2 ?_
  refine j_Vi1 G k_re_has mw_re_has lk_re_re_has rc_reg d_re_meetsEven_8 rfl (Nat.le_of_ble_eq_true rfl) (fun v2 s2 => ?_)
  refine j_icne G d_re_meetsEven_11 (tgt := 18) rfl ?_ ?_
  · refine j_iconst G d_re_meetsEven_18 ci_0 ?_
    exact b_re_meetsEven_19 G s2 a1 (0 : Int32)
  · refine j_iconst G d_re_meetsEven_14 ci_1 ?_
    refine j_goto G d_re_meetsEven_15 (tgt := 19) rfl ?_
    exact b_re_meetsEven_19 G s2 a1 (1 : Int32)
set_option maxHeartbeats 4000000 in
set_option maxRecDepth 100000 in
theorem k_re_meetsEven {l : Launch} {E : Ev} {σ : CS} {a1 : Int32} : CtI wdC l E y_re_meetsEven bc_re_meetsEven 3 (some .boolean) (rmm 1 21) [.ref (eO E 3), .int a1] σ (re_meetsEven σ a1) := ct_i (by decide) (Nat.le_of_ble_eq_true rfl) (fun X hE _ G => by subst hE; exact b_re_meetsEven G σ a1)
def re_meets_28 (σ : CS) (t0 : Int32) : Option (Int32 × CS) :=
gd (isB t0) (some (t0, σ))
def re_meets_11 (σ : CS) (l1 t0 : Int32) : Option (Int32 × CS) :=
bd (re_meetsEven σ (l1 >>> ((1 : Int32) &&& 31))) fun v1 s1 =>
if t0 = v1 then (re_meets_28 s1 (0 : Int32)) else (re_meets_28 s1 (1 : Int32))
def re_meets (σ : CS) (a1 : Int32) : Option (Int32 × CS) :=
if (a1 &&& (1 : Int32)) = 0 then (re_meets_11 σ a1 (0 : Int32)) else (re_meets_11 σ a1 (1 : Int32))
set_option maxHeartbeats 4000000 in
set_option maxRecDepth 100000 in
theorem b_re_meets_28 {X : Cx} (G : Gd X bc_re_meets 3 R_reg (some .boolean) (rmm 2 43)) (σ : CS) (t0 : Int32) : J wdC X (QI wdC X) 3 28 [(0, .ref (eO (xE X) 3))] [.int t0] σ (re_meets_28 σ t0) := by
  unfold re_meets_28
  exact j_zret G d_re_meets_28
set_option maxHeartbeats 4000000 in
set_option maxRecDepth 100000 in
theorem b_re_meets_11 {X : Cx} (G : Gd X bc_re_meets 3 R_reg (some .boolean) (rmm 2 43)) (σ : CS) (l1 t0 : Int32) : J wdC X (QI wdC X) 3 11 [(0, .ref (eO (xE X) 3)), (1, .int l1)] [.int t0] σ (re_meets_11 σ l1 t0) := by
  unfold re_meets_11
  refine j_istore_n [1, 2, 0] (L1 := [(0, .ref (eO (xE X) 3)), (1, .int l1), (2, .int t0)]) G d_re_meets_11 rfl (by decide) rfl ?_
  refine j_iload_n 2 G d_re_meets_12 rfl rfl ?_
  refine j_aload_n 0 G d_re_meets_13 rfl rfl ?_
  refine j_iload_n 1 G d_re_meets_14 rfl rfl ?_
  refine j_iconst G d_re_meets_15 ci_1 ?_
  refine j_ishr G d_re_meets_16 ?_
  refine j_Vi1 G k_re_meetsEven mw_re_meetsEven lk_re_re_meetsEven rc_reg d_re_meets_17 rfl (Nat.le_of_ble_eq_true rfl) (fun v1 s1 => ?_)
  refine j_iceq G d_re_meets_20 (tgt := 27) rfl ?_ ?_
  · refine j_iconst G d_re_meets_27 ci_0 ?_
    refine j_sub [0] (L1 := [(0, .ref (eO (xE X) 3))]) rfl ?_
    exact b_re_meets_28 G s1 (0 : Int32)
  · refine j_iconst G d_re_meets_23 ci_1 ?_
    refine j_goto G d_re_meets_24 (tgt := 28) rfl ?_
    refine j_sub [0] (L1 := [(0, .ref (eO (xE X) 3))]) rfl ?_
    exact b_re_meets_28 G s1 (1 : Int32)
set_option maxHeartbeats 4000000 in
set_option maxRecDepth 100000 in
theorem b_re_meets {X : Cx} (G : Gd X bc_re_meets 3 R_reg (some .boolean) (rmm 2 43)) (σ : CS) (a1 : Int32) : J wdC X (QI wdC X) 3 0 [(0, .ref (eO (xE X) 3)), (1, .int a1)] [] σ (re_meets σ a1) := by
  unfold re_meets
  refine j_iload_n 1 G d_re_meets_0 rfl rfl ?_
  refine j_iconst G d_re_meets_1 ci_1 ?_
  refine j_iand G d_re_meets_2 ?_
  refine j_ifeq G d_re_meets_3 (tgt := 10) rfl ?_ ?_
  · refine j_iconst G d_re_meets_10 ci_0 ?_
    exact b_re_meets_11 G σ a1 (0 : Int32)
  · refine j_iconst G d_re_meets_6 ci_1 ?_
    refine j_goto G d_re_meets_7 (tgt := 11) rfl ?_
    exact b_re_meets_11 G σ a1 (1 : Int32)
set_option maxHeartbeats 4000000 in
set_option maxRecDepth 100000 in
theorem k_re_meets {l : Launch} {E : Ev} {σ : CS} {a1 : Int32} : CtI wdC l E y_re_meets bc_re_meets 3 (some .boolean) (rmm 2 43) [.ref (eO E 3), .int a1] σ (re_meets σ a1) := ct_i (by decide) (Nat.le_of_ble_eq_true rfl) (fun X hE _ G => by subst hE; exact b_re_meets G σ a1)
def ar_pass (σ : CS) (a1 a2 : Int32) : Option (Int32 × CS) :=
bd (re_turn σ (2 : Int32) (0 : Int32)) fun _ s1 =>
bd (re_setSign s1 a1 a2) fun _ s2 =>
some (a1, s2)
set_option maxHeartbeats 4000000 in
set_option maxRecDepth 100000 in
theorem b_ar_pass {X : Cx} (G : Gd X bc_ar_pass 3 R_ari (some .int) (rmm 1 24)) (σ : CS) (a1 a2 : Int32) : J wdC X (QI wdC X) 3 0 [(0, .ref (eO (xE X) 5)), (1, .int a1), (2, .int a2)] [] σ (ar_pass σ a1 a2) := by
  unfold ar_pass
  refine j_aload_n 0 G d_ar_pass_0 rfl rfl ?_
  refine g_ar_registers G d_ar_pass_1 ?_
  refine j_iconst G d_ar_pass_4 ci_2 ?_
  refine j_iconst G d_ar_pass_5 ci_0 ?_
  refine j_Vv2 G k_re_turn mw_re_turn lk_ar_re_turn rc_reg d_ar_pass_6 rfl (Nat.le_of_ble_eq_true rfl) (fun _ s1 => ?_)
  refine j_aload_n 0 G d_ar_pass_9 rfl rfl ?_
  refine g_ar_registers G d_ar_pass_10 ?_
  refine j_iload_n 1 G d_ar_pass_13 rfl rfl ?_
  refine j_iload_n 2 G d_ar_pass_14 rfl rfl ?_
  refine j_Vv2 G k_re_setSign mw_re_setSign lk_ar_re_setSign rc_reg d_ar_pass_15 rfl (Nat.le_of_ble_eq_true rfl) (fun _ s2 => ?_)
  refine j_iload_n 1 G d_ar_pass_18 rfl rfl ?_
  exact j_iret G d_ar_pass_19
set_option maxHeartbeats 4000000 in
set_option maxRecDepth 100000 in
theorem k_ar_pass {l : Launch} {E : Ev} {σ : CS} {a1 a2 : Int32} : CtI wdC l E y_ar_pass bc_ar_pass 3 (some .int) (rmm 1 24) [.ref (eO E 5), .int a1, .int a2] σ (ar_pass σ a1 a2) := ct_i (by decide) (Nat.le_of_ble_eq_true rfl) (fun X hE _ G => by subst hE; exact b_ar_pass G σ a1 a2)
def ar_add_63 (σ : CS) (l4 l6 t0 t1 : Int32) : Option (Int32 × CS) :=
bd (re_turn σ t1 t0) fun _ s1 =>
bd (re_setSign s1 l6 l4) fun _ s2 =>
some (l6, s2)
def ar_add_43 (σ : CS) (l4 l5 l6 t0 t1 : Int32) : Option (Int32 × CS) :=
bd (re_turn σ t1 t0) fun _ s1 =>
if l5 = l6 then (ar_add_63 s1 l4 l6 (0 : Int32) (1 : Int32)) else (ar_add_63 s1 l4 l6 (1 : Int32) (1 : Int32))
def ar_add (σ : CS) (a1 a2 a3 a4 : Int32) : Option (Int32 × CS) :=
nm ((a1 + a2) + a3) fun v1 =>
nm (v1 &&& (((2 : Int32) * a4) - (1 : Int32))) fun v2 =>
if (((a1 ^^^ v2) &&& (a2 ^^^ v2)) &&& a4) = 0 then (ar_add_43 σ a4 v1 v2 (0 : Int32) (2 : Int32)) else (ar_add_43 σ a4 v1 v2 (1 : Int32) (2 : Int32))
set_option maxHeartbeats 4000000 in
set_option maxRecDepth 100000 in
theorem b_ar_add_63 {X : Cx} (G : Gd X bc_ar_add 7 R_ari (some .int) (rmm 1 24)) (σ : CS) (l4 l6 t0 t1 : Int32) : J wdC X (QI wdC X) 7 63 [(0, .ref (eO (xE X) 5)), (4, .int l4), (6, .int l6)] [.int t0, .int t1, .ref (eO (xE X) 3)] σ (ar_add_63 σ l4 l6 t0 t1) := by
  unfold ar_add_63
  refine j_Vv2 G k_re_turn mw_re_turn lk_ar_re_turn rc_reg d_ar_add_63 rfl (Nat.le_of_ble_eq_true rfl) (fun _ s1 => ?_)
  refine j_aload_n 0 G d_ar_add_66 rfl rfl ?_
  refine g_ar_registers G d_ar_add_67 ?_
  refine j_iload 2 G d_ar_add_70 rfl ?_
  refine j_iload 1 G d_ar_add_72 rfl ?_
  refine j_Vv2 G k_re_setSign mw_re_setSign lk_ar_re_setSign rc_reg d_ar_add_74 rfl (Nat.le_of_ble_eq_true rfl) (fun _ s2 => ?_)
  refine j_iload 2 G d_ar_add_77 rfl ?_
  exact j_iret G d_ar_add_79
set_option maxHeartbeats 4000000 in
set_option maxRecDepth 100000 in
theorem b_ar_add_43 {X : Cx} (G : Gd X bc_ar_add 7 R_ari (some .int) (rmm 1 24)) (σ : CS) (l4 l5 l6 t0 t1 : Int32) : J wdC X (QI wdC X) 7 43 [(0, .ref (eO (xE X) 5)), (4, .int l4), (5, .int l5), (6, .int l6)] [.int t0, .int t1, .ref (eO (xE X) 3)] σ (ar_add_43 σ l4 l5 l6 t0 t1) := by
  unfold ar_add_43
  refine j_Vv2 G k_re_turn mw_re_turn lk_ar_re_turn rc_reg d_ar_add_43 rfl (Nat.le_of_ble_eq_true rfl) (fun _ s1 => ?_)
  refine j_aload_n 0 G d_ar_add_46 rfl rfl ?_
  refine g_ar_registers G d_ar_add_47 ?_
  refine j_iconst G d_ar_add_50 ci_1 ?_
  refine j_iload 2 G d_ar_add_51 rfl ?_
  refine j_iload 3 G d_ar_add_53 rfl ?_
  refine j_iceq G d_ar_add_55 (tgt := 62) rfl ?_ ?_
  · refine j_iconst G d_ar_add_62 ci_0 ?_
    refine j_sub [0, 1, 3] (L1 := [(0, .ref (eO (xE X) 5)), (4, .int l4), (6, .int l6)]) rfl ?_
    exact b_ar_add_63 G s1 l4 l6 (0 : Int32) (1 : Int32)
  · refine j_iconst G d_ar_add_58 ci_1 ?_
    refine j_goto G d_ar_add_59 (tgt := 63) rfl ?_
    refine j_sub [0, 1, 3] (L1 := [(0, .ref (eO (xE X) 5)), (4, .int l4), (6, .int l6)]) rfl ?_
    exact b_ar_add_63 G s1 l4 l6 (1 : Int32) (1 : Int32)
set_option maxHeartbeats 4000000 in
set_option maxRecDepth 100000 in
theorem b_ar_add {X : Cx} (G : Gd X bc_ar_add 7 R_ari (some .int) (rmm 1 24)) (σ : CS) (a1 a2 a3 a4 : Int32) : J wdC X (QI wdC X) 7 0 [(0, .ref (eO (xE X) 5)), (1, .int a1), (2, .int a2), (3, .int a3), (4, .int a4)] [] σ (ar_add σ a1 a2 a3 a4) := by
  unfold ar_add
  refine j_iload_n 1 G d_ar_add_0 rfl rfl ?_
  refine j_iload_n 2 G d_ar_add_1 rfl rfl ?_
  refine j_iadd G d_ar_add_2 ?_
  refine j_iload_n 3 G d_ar_add_3 rfl rfl ?_
  refine j_iadd G d_ar_add_4 ?_
  refine j_nm (fun v1 => ?_)
  refine j_istore [1, 2, 3, 5, 0] (L1 := [(0, .ref (eO (xE X) 5)), (1, .int a1), (2, .int a2), (4, .int a4), (5, .int v1)]) G d_ar_add_5 (by decide) rfl ?_
  refine j_iload 4 G d_ar_add_7 rfl ?_
  refine j_iconst G d_ar_add_9 ci_2 ?_
  refine j_iload 3 G d_ar_add_10 rfl ?_
  refine j_imul G d_ar_add_12 ?_
  refine j_iconst G d_ar_add_13 ci_1 ?_
  refine j_isub G d_ar_add_14 ?_
  refine j_iand G d_ar_add_15 ?_
  refine j_nm (fun v2 => ?_)
  refine j_istore [1, 2, 3, 4, 5, 0] (L1 := [(0, .ref (eO (xE X) 5)), (1, .int a1), (2, .int a2), (4, .int a4), (5, .int v1), (6, .int v2)]) G d_ar_add_16 (by decide) rfl ?_
  refine j_aload_n 0 G d_ar_add_18 rfl rfl ?_
  refine g_ar_registers G d_ar_add_19 ?_
  refine j_iconst G d_ar_add_22 ci_2 ?_
  refine j_iload_n 1 G d_ar_add_23 rfl rfl ?_
  refine j_iload 5 G d_ar_add_24 rfl ?_
  refine j_ixor G d_ar_add_26 ?_
  refine j_iload_n 2 G d_ar_add_27 rfl rfl ?_
  refine j_iload 5 G d_ar_add_28 rfl ?_
  refine j_ixor G d_ar_add_30 ?_
  refine j_iand G d_ar_add_31 ?_
  refine j_iload 3 G d_ar_add_32 rfl ?_
  refine j_iand G d_ar_add_34 ?_
  refine j_ifeq G d_ar_add_35 (tgt := 42) rfl ?_ ?_
  · refine j_iconst G d_ar_add_42 ci_0 ?_
    refine j_sub [0, 3, 4, 5] (L1 := [(0, .ref (eO (xE X) 5)), (4, .int a4), (5, .int v1), (6, .int v2)]) rfl ?_
    exact b_ar_add_43 G σ a4 v1 v2 (0 : Int32) (2 : Int32)
  · refine j_iconst G d_ar_add_38 ci_1 ?_
    refine j_goto G d_ar_add_39 (tgt := 43) rfl ?_
    refine j_sub [0, 3, 4, 5] (L1 := [(0, .ref (eO (xE X) 5)), (4, .int a4), (5, .int v1), (6, .int v2)]) rfl ?_
    exact b_ar_add_43 G σ a4 v1 v2 (1 : Int32) (2 : Int32)
set_option maxHeartbeats 4000000 in
set_option maxRecDepth 100000 in
theorem k_ar_add {l : Launch} {E : Ev} {σ : CS} {a1 a2 a3 a4 : Int32} : CtI wdC l E y_ar_add bc_ar_add 7 (some .int) (rmm 1 24) [.ref (eO E 5), .int a1, .int a2, .int a3, .int a4] σ (ar_add σ a1 a2 a3 a4) := ct_i (by decide) (Nat.le_of_ble_eq_true rfl) (fun X hE _ G => by subst hE; exact b_ar_add G σ a1 a2 a3 a4)
def ar_subtract_60 (σ : CS) (l4 l6 t0 t1 : Int32) : Option (Int32 × CS) :=
bd (re_turn σ t1 t0) fun _ s1 =>
bd (re_setSign s1 l6 l4) fun _ s2 =>
some (l6, s2)
def ar_subtract_42 (σ : CS) (l4 l5 l6 t0 t1 : Int32) : Option (Int32 × CS) :=
bd (re_turn σ t1 t0) fun _ s1 =>
if 0 ≤ l5 then (ar_subtract_60 s1 l4 l6 (0 : Int32) (1 : Int32)) else (ar_subtract_60 s1 l4 l6 (1 : Int32) (1 : Int32))
def ar_subtract (σ : CS) (a1 a2 a3 a4 : Int32) : Option (Int32 × CS) :=
nm ((a1 - a2) - a3) fun v1 =>
nm (v1 &&& (((2 : Int32) * a4) - (1 : Int32))) fun v2 =>
if (((a1 ^^^ a2) &&& (a1 ^^^ v2)) &&& a4) = 0 then (ar_subtract_42 σ a4 v1 v2 (0 : Int32) (2 : Int32)) else (ar_subtract_42 σ a4 v1 v2 (1 : Int32) (2 : Int32))
set_option maxHeartbeats 4000000 in
set_option maxRecDepth 100000 in
theorem b_ar_subtract_60 {X : Cx} (G : Gd X bc_ar_subtract 7 R_ari (some .int) (rmm 1 24)) (σ : CS) (l4 l6 t0 t1 : Int32) : J wdC X (QI wdC X) 7 60 [(0, .ref (eO (xE X) 5)), (4, .int l4), (6, .int l6)] [.int t0, .int t1, .ref (eO (xE X) 3)] σ (ar_subtract_60 σ l4 l6 t0 t1) := by
  unfold ar_subtract_60
  refine j_Vv2 G k_re_turn mw_re_turn lk_ar_re_turn rc_reg d_ar_subtract_60 rfl (Nat.le_of_ble_eq_true rfl) (fun _ s1 => ?_)
  refine j_aload_n 0 G d_ar_subtract_63 rfl rfl ?_
  refine g_ar_registers G d_ar_subtract_64 ?_
  refine j_iload 2 G d_ar_subtract_67 rfl ?_
  refine j_iload 1 G d_ar_subtract_69 rfl ?_
  refine j_Vv2 G k_re_setSign mw_re_setSign lk_ar_re_setSign rc_reg d_ar_subtract_71 rfl (Nat.le_of_ble_eq_true rfl) (fun _ s2 => ?_)
  refine j_iload 2 G d_ar_subtract_74 rfl ?_
  exact j_iret G d_ar_subtract_76
set_option maxHeartbeats 4000000 in
set_option maxRecDepth 100000 in
theorem b_ar_subtract_42 {X : Cx} (G : Gd X bc_ar_subtract 7 R_ari (some .int) (rmm 1 24)) (σ : CS) (l4 l5 l6 t0 t1 : Int32) : J wdC X (QI wdC X) 7 42 [(0, .ref (eO (xE X) 5)), (4, .int l4), (5, .int l5), (6, .int l6)] [.int t0, .int t1, .ref (eO (xE X) 3)] σ (ar_subtract_42 σ l4 l5 l6 t0 t1) := by
  unfold ar_subtract_42
  refine j_Vv2 G k_re_turn mw_re_turn lk_ar_re_turn rc_reg d_ar_subtract_42 rfl (Nat.le_of_ble_eq_true rfl) (fun _ s1 => ?_)
  refine j_aload_n 0 G d_ar_subtract_45 rfl rfl ?_
  refine g_ar_registers G d_ar_subtract_46 ?_
  refine j_iconst G d_ar_subtract_49 ci_1 ?_
  refine j_iload 2 G d_ar_subtract_50 rfl ?_
  refine j_ifge G d_ar_subtract_52 (tgt := 59) rfl ?_ ?_
  · refine j_iconst G d_ar_subtract_59 ci_0 ?_
    refine j_sub [0, 1, 3] (L1 := [(0, .ref (eO (xE X) 5)), (4, .int l4), (6, .int l6)]) rfl ?_
    exact b_ar_subtract_60 G s1 l4 l6 (0 : Int32) (1 : Int32)
  · refine j_iconst G d_ar_subtract_55 ci_1 ?_
    refine j_goto G d_ar_subtract_56 (tgt := 60) rfl ?_
    refine j_sub [0, 1, 3] (L1 := [(0, .ref (eO (xE X) 5)), (4, .int l4), (6, .int l6)]) rfl ?_
    exact b_ar_subtract_60 G s1 l4 l6 (1 : Int32) (1 : Int32)
set_option maxHeartbeats 4000000 in
set_option maxRecDepth 100000 in
theorem b_ar_subtract {X : Cx} (G : Gd X bc_ar_subtract 7 R_ari (some .int) (rmm 1 24)) (σ : CS) (a1 a2 a3 a4 : Int32) : J wdC X (QI wdC X) 7 0 [(0, .ref (eO (xE X) 5)), (1, .int a1), (2, .int a2), (3, .int a3), (4, .int a4)] [] σ (ar_subtract σ a1 a2 a3 a4) := by
  unfold ar_subtract
  refine j_iload_n 1 G d_ar_subtract_0 rfl rfl ?_
  refine j_iload_n 2 G d_ar_subtract_1 rfl rfl ?_
  refine j_isub G d_ar_subtract_2 ?_
  refine j_iload_n 3 G d_ar_subtract_3 rfl rfl ?_
  refine j_isub G d_ar_subtract_4 ?_
  refine j_nm (fun v1 => ?_)
  refine j_istore [1, 2, 3, 5, 0] (L1 := [(0, .ref (eO (xE X) 5)), (1, .int a1), (2, .int a2), (4, .int a4), (5, .int v1)]) G d_ar_subtract_5 (by decide) rfl ?_
  refine j_iload 4 G d_ar_subtract_7 rfl ?_
  refine j_iconst G d_ar_subtract_9 ci_2 ?_
  refine j_iload 3 G d_ar_subtract_10 rfl ?_
  refine j_imul G d_ar_subtract_12 ?_
  refine j_iconst G d_ar_subtract_13 ci_1 ?_
  refine j_isub G d_ar_subtract_14 ?_
  refine j_iand G d_ar_subtract_15 ?_
  refine j_nm (fun v2 => ?_)
  refine j_istore [1, 2, 3, 4, 5, 0] (L1 := [(0, .ref (eO (xE X) 5)), (1, .int a1), (2, .int a2), (4, .int a4), (5, .int v1), (6, .int v2)]) G d_ar_subtract_16 (by decide) rfl ?_
  refine j_aload_n 0 G d_ar_subtract_18 rfl rfl ?_
  refine g_ar_registers G d_ar_subtract_19 ?_
  refine j_iconst G d_ar_subtract_22 ci_2 ?_
  refine j_iload_n 1 G d_ar_subtract_23 rfl rfl ?_
  refine j_iload_n 2 G d_ar_subtract_24 rfl rfl ?_
  refine j_ixor G d_ar_subtract_25 ?_
  refine j_iload_n 1 G d_ar_subtract_26 rfl rfl ?_
  refine j_iload 5 G d_ar_subtract_27 rfl ?_
  refine j_ixor G d_ar_subtract_29 ?_
  refine j_iand G d_ar_subtract_30 ?_
  refine j_iload 3 G d_ar_subtract_31 rfl ?_
  refine j_iand G d_ar_subtract_33 ?_
  refine j_ifeq G d_ar_subtract_34 (tgt := 41) rfl ?_ ?_
  · refine j_iconst G d_ar_subtract_41 ci_0 ?_
    refine j_sub [0, 3, 4, 5] (L1 := [(0, .ref (eO (xE X) 5)), (4, .int a4), (5, .int v1), (6, .int v2)]) rfl ?_
    exact b_ar_subtract_42 G σ a4 v1 v2 (0 : Int32) (2 : Int32)
  · refine j_iconst G d_ar_subtract_37 ci_1 ?_
    refine j_goto G d_ar_subtract_38 (tgt := 42) rfl ?_
    refine j_sub [0, 3, 4, 5] (L1 := [(0, .ref (eO (xE X) 5)), (4, .int a4), (5, .int v1), (6, .int v2)]) rfl ?_
    exact b_ar_subtract_42 G σ a4 v1 v2 (1 : Int32) (2 : Int32)
set_option maxHeartbeats 4000000 in
set_option maxRecDepth 100000 in
theorem k_ar_subtract {l : Launch} {E : Ev} {σ : CS} {a1 a2 a3 a4 : Int32} : CtI wdC l E y_ar_subtract bc_ar_subtract 7 (some .int) (rmm 1 24) [.ref (eO E 5), .int a1, .int a2, .int a3, .int a4] σ (ar_subtract σ a1 a2 a3 a4) := ct_i (by decide) (Nat.le_of_ble_eq_true rfl) (fun X hE _ G => by subst hE; exact b_ar_subtract G σ a1 a2 a3 a4)
def ar_addByte_27 (σ : CS) (l1 l2 l3 t0 t1 : Int32) : Option (Int32 × CS) :=
bd (re_turn σ t1 t0) fun _ s1 =>
bd (ar_add s1 l1 l2 l3 (128 : Int32)) fun v1 s2 =>
some (v1, s2)
def ar_addByte (σ : CS) (a1 a2 a3 : Int32) : Option (Int32 × CS) :=
if (((a1 &&& (15 : Int32)) + (a2 &&& (15 : Int32))) + a3) ≤ (15 : Int32) then (ar_addByte_27 σ a1 a2 a3 (0 : Int32) (32 : Int32)) else (ar_addByte_27 σ a1 a2 a3 (1 : Int32) (32 : Int32))
set_option maxHeartbeats 4000000 in
set_option maxRecDepth 100000 in
theorem b_ar_addByte_27 {X : Cx} (G : Gd X bc_ar_addByte 4 R_ari (some .int) (rmm 2 50)) (σ : CS) (l1 l2 l3 t0 t1 : Int32) : J wdC X (QI wdC X) 4 27 [(0, .ref (eO (xE X) 5)), (1, .int l1), (2, .int l2), (3, .int l3)] [.int t0, .int t1, .ref (eO (xE X) 3)] σ (ar_addByte_27 σ l1 l2 l3 t0 t1) := by
  unfold ar_addByte_27
  refine j_Vv2 G k_re_turn mw_re_turn lk_ar_re_turn rc_reg d_ar_addByte_27 rfl (Nat.le_of_ble_eq_true rfl) (fun _ s1 => ?_)
  refine j_aload_n 0 G d_ar_addByte_30 rfl rfl ?_
  refine j_iload_n 1 G d_ar_addByte_31 rfl rfl ?_
  refine j_iload_n 2 G d_ar_addByte_32 rfl rfl ?_
  refine j_iload_n 3 G d_ar_addByte_33 rfl rfl ?_
  refine j_sipush G d_ar_addByte_34 cs_128 ?_
  refine j_Vi4 G k_ar_add mw_ar_add lk_ar_ar_add rc_ari d_ar_addByte_37 rfl (Nat.le_of_ble_eq_true rfl) (fun v1 s2 => ?_)
  exact j_iret G d_ar_addByte_40
set_option maxHeartbeats 4000000 in
set_option maxRecDepth 100000 in
theorem b_ar_addByte {X : Cx} (G : Gd X bc_ar_addByte 4 R_ari (some .int) (rmm 2 50)) (σ : CS) (a1 a2 a3 : Int32) : J wdC X (QI wdC X) 4 0 [(0, .ref (eO (xE X) 5)), (1, .int a1), (2, .int a2), (3, .int a3)] [] σ (ar_addByte σ a1 a2 a3) := by
  unfold ar_addByte
  refine j_aload_n 0 G d_ar_addByte_0 rfl rfl ?_
  refine g_ar_registers G d_ar_addByte_1 ?_
  refine j_bipush G d_ar_addByte_4 cb_32 ?_
  refine j_iload_n 1 G d_ar_addByte_6 rfl rfl ?_
  refine j_bipush G d_ar_addByte_7 cb_15 ?_
  refine j_iand G d_ar_addByte_9 ?_
  refine j_iload_n 2 G d_ar_addByte_10 rfl rfl ?_
  refine j_bipush G d_ar_addByte_11 cb_15 ?_
  refine j_iand G d_ar_addByte_13 ?_
  refine j_iadd G d_ar_addByte_14 ?_
  refine j_iload_n 3 G d_ar_addByte_15 rfl rfl ?_
  refine j_iadd G d_ar_addByte_16 ?_
  refine j_bipush G d_ar_addByte_17 cb_15 ?_
  refine j_icle G d_ar_addByte_19 (tgt := 26) rfl ?_ ?_
  · refine j_iconst G d_ar_addByte_26 ci_0 ?_
    exact b_ar_addByte_27 G σ a1 a2 a3 (0 : Int32) (32 : Int32)
  · refine j_iconst G d_ar_addByte_22 ci_1 ?_
    refine j_goto G d_ar_addByte_23 (tgt := 27) rfl ?_
    exact b_ar_addByte_27 G σ a1 a2 a3 (1 : Int32) (32 : Int32)
set_option maxHeartbeats 4000000 in
set_option maxRecDepth 100000 in
theorem k_ar_addByte {l : Launch} {E : Ev} {σ : CS} {a1 a2 a3 : Int32} : CtI wdC l E y_ar_addByte bc_ar_addByte 4 (some .int) (rmm 2 50) [.ref (eO E 5), .int a1, .int a2, .int a3] σ (ar_addByte σ a1 a2 a3) := ct_i (by decide) (Nat.le_of_ble_eq_true rfl) (fun X hE _ G => by subst hE; exact b_ar_addByte G σ a1 a2 a3)
def ar_combine_144 (σ : CS) (l2 l3 : Int32) : Option (Int32 × CS) :=
bd (ar_addByte σ l2 l3 (0 : Int32)) fun v1 s1 =>
some (v1, s1)
def ar_combine_88 (σ : CS) (l2 l3 : Int32) : Option (Int32 × CS) :=
bd (ar_pass σ (l2 &&& l3) (128 : Int32)) fun v1 s1 =>
some (v1, s1)
def ar_combine_60 (σ : CS) (l2 l3 : Int32) : Option (Int32 × CS) :=
bd (ar_subtract σ l2 l3 (0 : Int32) (128 : Int32)) fun v1 s1 =>
some (v1, s1)
def ar_combine (σ : CS) (a1 a2 a3 : Int32) : Option (Int32 × CS) :=
swi a1 [((0 : Int32), 60, ar_combine_60 σ a2 a3),
 ((1 : Int32), 60, ar_combine_60 σ a2 a3),
 ((2 : Int32), 71, bd (re_carry σ) fun v1 s1 =>
bd (ar_subtract s1 a2 a3 v1 (128 : Int32)) fun v2 s2 =>
some (v2, s2)),
 ((4 : Int32), 88, ar_combine_88 σ a2 a3),
 ((5 : Int32), 88, ar_combine_88 σ a2 a3),
 ((6 : Int32), 99, bd (ar_pass σ a3 (128 : Int32)) fun v3 s3 =>
some (v3, s3)),
 ((8 : Int32), 108, bd (ar_pass σ (a2 ^^^ a3) (128 : Int32)) fun v4 s4 =>
some (v4, s4)),
 ((9 : Int32), 119, bd (re_carry σ) fun v5 s5 =>
bd (ar_addByte s5 a2 a3 v5) fun v6 s6 =>
some (v6, s6)),
 ((10 : Int32), 133, bd (ar_pass σ (a2 ||| a3) (128 : Int32)) fun v7 s7 =>
some (v7, s7))] (ar_combine_144 σ a2 a3)
set_option maxHeartbeats 4000000 in
set_option maxRecDepth 100000 in
theorem b_ar_combine_144 {X : Cx} (G : Gd X bc_ar_combine 4 R_ari (some .int) (rmm 3 73)) (σ : CS) (l2 l3 : Int32) : J wdC X (QI wdC X) 4 144 [(0, .ref (eO (xE X) 5)), (2, .int l2), (3, .int l3)] [] σ (ar_combine_144 σ l2 l3) := by
  unfold ar_combine_144
  refine j_aload_n 0 G d_ar_combine_144 rfl rfl ?_
  refine j_iload_n 1 G d_ar_combine_145 rfl rfl ?_
  refine j_iload_n 2 G d_ar_combine_146 rfl rfl ?_
  refine j_iconst G d_ar_combine_147 ci_0 ?_
  refine j_Vi3 G k_ar_addByte mw_ar_addByte lk_ar_ar_addByte rc_ari d_ar_combine_148 rfl (Nat.le_of_ble_eq_true rfl) (fun v1 s1 => ?_)
  exact j_iret G d_ar_combine_151
set_option maxHeartbeats 4000000 in
set_option maxRecDepth 100000 in
theorem b_ar_combine_88 {X : Cx} (G : Gd X bc_ar_combine 4 R_ari (some .int) (rmm 3 73)) (σ : CS) (l2 l3 : Int32) : J wdC X (QI wdC X) 4 88 [(0, .ref (eO (xE X) 5)), (2, .int l2), (3, .int l3)] [] σ (ar_combine_88 σ l2 l3) := by
  unfold ar_combine_88
  refine j_aload_n 0 G d_ar_combine_88 rfl rfl ?_
  refine j_iload_n 1 G d_ar_combine_89 rfl rfl ?_
  refine j_iload_n 2 G d_ar_combine_90 rfl rfl ?_
  refine j_iand G d_ar_combine_91 ?_
  refine j_sipush G d_ar_combine_92 cs_128 ?_
  refine j_Vi2 G k_ar_pass mw_ar_pass lk_ar_ar_pass rc_ari d_ar_combine_95 rfl (Nat.le_of_ble_eq_true rfl) (fun v1 s1 => ?_)
  exact j_iret G d_ar_combine_98
set_option maxHeartbeats 4000000 in
set_option maxRecDepth 100000 in
theorem b_ar_combine_60 {X : Cx} (G : Gd X bc_ar_combine 4 R_ari (some .int) (rmm 3 73)) (σ : CS) (l2 l3 : Int32) : J wdC X (QI wdC X) 4 60 [(0, .ref (eO (xE X) 5)), (2, .int l2), (3, .int l3)] [] σ (ar_combine_60 σ l2 l3) := by
  unfold ar_combine_60
  refine j_aload_n 0 G d_ar_combine_60 rfl rfl ?_
  refine j_iload_n 1 G d_ar_combine_61 rfl rfl ?_
  refine j_iload_n 2 G d_ar_combine_62 rfl rfl ?_
  refine j_iconst G d_ar_combine_63 ci_0 ?_
  refine j_sipush G d_ar_combine_64 cs_128 ?_
  refine j_Vi4 G k_ar_subtract mw_ar_subtract lk_ar_ar_subtract rc_ari d_ar_combine_67 rfl (Nat.le_of_ble_eq_true rfl) (fun v1 s1 => ?_)
  exact j_iret G d_ar_combine_70
set_option maxHeartbeats 4000000 in
set_option maxRecDepth 100000 in
theorem b_ar_combine {X : Cx} (G : Gd X bc_ar_combine 4 R_ari (some .int) (rmm 3 73)) (σ : CS) (a1 a2 a3 : Int32) : J wdC X (QI wdC X) 4 0 [(0, .ref (eO (xE X) 5)), (1, .int a1), (2, .int a2), (3, .int a3)] [] σ (ar_combine σ a1 a2 a3) := by
  unfold ar_combine
  refine j_iload_n 1 G d_ar_combine_0 rfl rfl ?_
  refine j_ts [(0, 60), (1, 60), (2, 71), (4, 88), (5, 88), (6, 99), (8, 108), (9, 119), (10, 133)] G d_ar_combine_1 (dt := 144) rfl (by decide +kernel) ⟨?_, ?_, ?_, ?_, ?_, ?_, ?_, ?_, ?_, trivial⟩ ?_
  · refine j_sub [0, 2, 3] (L1 := [(0, .ref (eO (xE X) 5)), (2, .int a2), (3, .int a3)]) rfl ?_
    exact b_ar_combine_60 G σ a2 a3
  · refine j_sub [0, 2, 3] (L1 := [(0, .ref (eO (xE X) 5)), (2, .int a2), (3, .int a3)]) rfl ?_
    exact b_ar_combine_60 G σ a2 a3
  · refine j_aload_n 0 G d_ar_combine_71 rfl rfl ?_
    refine j_iload_n 2 G d_ar_combine_72 rfl rfl ?_
    refine j_iload_n 3 G d_ar_combine_73 rfl rfl ?_
    refine j_aload_n 0 G d_ar_combine_74 rfl rfl ?_
    refine g_ar_registers G d_ar_combine_75 ?_
    refine j_Vi0 G k_re_carry mw_re_carry lk_ar_re_carry rc_reg d_ar_combine_78 rfl (Nat.le_of_ble_eq_true rfl) (fun v1 s1 => ?_)
    refine j_sipush G d_ar_combine_81 cs_128 ?_
    refine j_Vi4 G k_ar_subtract mw_ar_subtract lk_ar_ar_subtract rc_ari d_ar_combine_84 rfl (Nat.le_of_ble_eq_true rfl) (fun v2 s2 => ?_)
    exact j_iret G d_ar_combine_87
  · refine j_sub [0, 2, 3] (L1 := [(0, .ref (eO (xE X) 5)), (2, .int a2), (3, .int a3)]) rfl ?_
    exact b_ar_combine_88 G σ a2 a3
  · refine j_sub [0, 2, 3] (L1 := [(0, .ref (eO (xE X) 5)), (2, .int a2), (3, .int a3)]) rfl ?_
    exact b_ar_combine_88 G σ a2 a3
  · refine j_aload_n 0 G d_ar_combine_99 rfl rfl ?_
    refine j_iload_n 3 G d_ar_combine_100 rfl rfl ?_
    refine j_sipush G d_ar_combine_101 cs_128 ?_
    refine j_Vi2 G k_ar_pass mw_ar_pass lk_ar_ar_pass rc_ari d_ar_combine_104 rfl (Nat.le_of_ble_eq_true rfl) (fun v3 s3 => ?_)
    exact j_iret G d_ar_combine_107
  · refine j_aload_n 0 G d_ar_combine_108 rfl rfl ?_
    refine j_iload_n 2 G d_ar_combine_109 rfl rfl ?_
    refine j_iload_n 3 G d_ar_combine_110 rfl rfl ?_
    refine j_ixor G d_ar_combine_111 ?_
    refine j_sipush G d_ar_combine_112 cs_128 ?_
    refine j_Vi2 G k_ar_pass mw_ar_pass lk_ar_ar_pass rc_ari d_ar_combine_115 rfl (Nat.le_of_ble_eq_true rfl) (fun v4 s4 => ?_)
    exact j_iret G d_ar_combine_118
  · refine j_aload_n 0 G d_ar_combine_119 rfl rfl ?_
    refine j_iload_n 2 G d_ar_combine_120 rfl rfl ?_
    refine j_iload_n 3 G d_ar_combine_121 rfl rfl ?_
    refine j_aload_n 0 G d_ar_combine_122 rfl rfl ?_
    refine g_ar_registers G d_ar_combine_123 ?_
    refine j_Vi0 G k_re_carry mw_re_carry lk_ar_re_carry rc_reg d_ar_combine_126 rfl (Nat.le_of_ble_eq_true rfl) (fun v5 s5 => ?_)
    refine j_Vi3 G k_ar_addByte mw_ar_addByte lk_ar_ar_addByte rc_ari d_ar_combine_129 rfl (Nat.le_of_ble_eq_true rfl) (fun v6 s6 => ?_)
    exact j_iret G d_ar_combine_132
  · refine j_aload_n 0 G d_ar_combine_133 rfl rfl ?_
    refine j_iload_n 2 G d_ar_combine_134 rfl rfl ?_
    refine j_iload_n 3 G d_ar_combine_135 rfl rfl ?_
    refine j_ior G d_ar_combine_136 ?_
    refine j_sipush G d_ar_combine_137 cs_128 ?_
    refine j_Vi2 G k_ar_pass mw_ar_pass lk_ar_ar_pass rc_ari d_ar_combine_140 rfl (Nat.le_of_ble_eq_true rfl) (fun v7 s7 => ?_)
    exact j_iret G d_ar_combine_143
  · refine j_sub [0, 2, 3] (L1 := [(0, .ref (eO (xE X) 5)), (2, .int a2), (3, .int a3)]) rfl ?_
    exact b_ar_combine_144 G σ a2 a3
set_option maxHeartbeats 4000000 in
set_option maxRecDepth 100000 in
theorem k_ar_combine {l : Launch} {E : Ev} {σ : CS} {a1 a2 a3 : Int32} : CtI wdC l E y_ar_combine bc_ar_combine 4 (some .int) (rmm 3 73) [.ref (eO E 5), .int a1, .int a2, .int a3] σ (ar_combine σ a1 a2 a3) := ct_i (by decide) (Nat.le_of_ble_eq_true rfl) (fun X hE _ G => by subst hE; exact b_ar_combine G σ a1 a2 a3)
def ar_shiftDown_22 (σ : CS) (l3 t0 t1 : Int32) : Option (Int32 × CS) :=
bd (re_turn σ t1 t0) fun _ s1 =>
bd (re_setSign s1 l3 (128 : Int32)) fun _ s2 =>
some (l3, s2)
def ar_shiftDown (σ : CS) (a1 a2 : Int32) : Option (Int32 × CS) :=
nm ((a1 >>> ((1 : Int32) &&& 31)) ||| a2) fun v1 =>
if (a1 &&& (1 : Int32)) = 0 then (ar_shiftDown_22 σ v1 (0 : Int32) (1 : Int32)) else (ar_shiftDown_22 σ v1 (1 : Int32) (1 : Int32))
set_option maxHeartbeats 4000000 in
set_option maxRecDepth 100000 in
theorem b_ar_shiftDown_22 {X : Cx} (G : Gd X bc_ar_shiftDown 4 R_ari (some .int) (rmm 1 24)) (σ : CS) (l3 t0 t1 : Int32) : J wdC X (QI wdC X) 4 22 [(0, .ref (eO (xE X) 5)), (3, .int l3)] [.int t0, .int t1, .ref (eO (xE X) 3)] σ (ar_shiftDown_22 σ l3 t0 t1) := by
  unfold ar_shiftDown_22
  refine j_Vv2 G k_re_turn mw_re_turn lk_ar_re_turn rc_reg d_ar_shiftDown_22 rfl (Nat.le_of_ble_eq_true rfl) (fun _ s1 => ?_)
  refine j_aload_n 0 G d_ar_shiftDown_25 rfl rfl ?_
  refine g_ar_registers G d_ar_shiftDown_26 ?_
  refine j_iload_n 1 G d_ar_shiftDown_29 rfl rfl ?_
  refine j_sipush G d_ar_shiftDown_30 cs_128 ?_
  refine j_Vv2 G k_re_setSign mw_re_setSign lk_ar_re_setSign rc_reg d_ar_shiftDown_33 rfl (Nat.le_of_ble_eq_true rfl) (fun _ s2 => ?_)
  refine j_iload_n 1 G d_ar_shiftDown_36 rfl rfl ?_
  exact j_iret G d_ar_shiftDown_37
set_option maxHeartbeats 4000000 in
set_option maxRecDepth 100000 in
theorem b_ar_shiftDown {X : Cx} (G : Gd X bc_ar_shiftDown 4 R_ari (some .int) (rmm 1 24)) (σ : CS) (a1 a2 : Int32) : J wdC X (QI wdC X) 4 0 [(0, .ref (eO (xE X) 5)), (1, .int a1), (2, .int a2)] [] σ (ar_shiftDown σ a1 a2) := by
  unfold ar_shiftDown
  refine j_iload_n 1 G d_ar_shiftDown_0 rfl rfl ?_
  refine j_iconst G d_ar_shiftDown_1 ci_1 ?_
  refine j_ishr G d_ar_shiftDown_2 ?_
  refine j_iload_n 2 G d_ar_shiftDown_3 rfl rfl ?_
  refine j_ior G d_ar_shiftDown_4 ?_
  refine j_nm (fun v1 => ?_)
  refine j_istore_n [1, 2, 0] (L1 := [(0, .ref (eO (xE X) 5)), (1, .int a1), (3, .int v1)]) G d_ar_shiftDown_5 rfl (by decide) rfl ?_
  refine j_aload_n 0 G d_ar_shiftDown_6 rfl rfl ?_
  refine g_ar_registers G d_ar_shiftDown_7 ?_
  refine j_iconst G d_ar_shiftDown_10 ci_1 ?_
  refine j_iload_n 1 G d_ar_shiftDown_11 rfl rfl ?_
  refine j_iconst G d_ar_shiftDown_12 ci_1 ?_
  refine j_iand G d_ar_shiftDown_13 ?_
  refine j_ifeq G d_ar_shiftDown_14 (tgt := 21) rfl ?_ ?_
  · refine j_iconst G d_ar_shiftDown_21 ci_0 ?_
    refine j_sub [0, 2] (L1 := [(0, .ref (eO (xE X) 5)), (3, .int v1)]) rfl ?_
    exact b_ar_shiftDown_22 G σ v1 (0 : Int32) (1 : Int32)
  · refine j_iconst G d_ar_shiftDown_17 ci_1 ?_
    refine j_goto G d_ar_shiftDown_18 (tgt := 22) rfl ?_
    refine j_sub [0, 2] (L1 := [(0, .ref (eO (xE X) 5)), (3, .int v1)]) rfl ?_
    exact b_ar_shiftDown_22 G σ v1 (1 : Int32) (1 : Int32)
set_option maxHeartbeats 4000000 in
set_option maxRecDepth 100000 in
theorem k_ar_shiftDown {l : Launch} {E : Ev} {σ : CS} {a1 a2 : Int32} : CtI wdC l E y_ar_shiftDown bc_ar_shiftDown 4 (some .int) (rmm 1 24) [.ref (eO E 5), .int a1, .int a2] σ (ar_shiftDown σ a1 a2) := ct_i (by decide) (Nat.le_of_ble_eq_true rfl) (fun X hE _ G => by subst hE; exact b_ar_shiftDown G σ a1 a2)
def ar_shiftUp_53 (σ : CS) (l3 t0 t1 : Int32) : Option (Int32 × CS) :=
bd (re_turn σ t1 t0) fun _ s1 =>
bd (re_setSign s1 l3 (128 : Int32)) fun _ s2 =>
some (l3, s2)
def ar_shiftUp_28 (σ : CS) (l1 l3 t0 t1 : Int32) : Option (Int32 × CS) :=
bd (re_turn σ t1 t0) fun _ s1 =>
if ((l1 ^^^ (l1 <<< ((1 : Int32) &&& 31))) &&& (128 : Int32)) = 0 then (ar_shiftUp_53 s1 l3 (0 : Int32) (2 : Int32)) else (ar_shiftUp_53 s1 l3 (1 : Int32) (2 : Int32))
def ar_shiftUp (σ : CS) (a1 a2 : Int32) : Option (Int32 × CS) :=
nm (((a1 <<< ((1 : Int32) &&& 31)) &&& (255 : Int32)) ||| a2) fun v1 =>
if (a1 &&& (128 : Int32)) = 0 then (ar_shiftUp_28 σ a1 v1 (0 : Int32) (1 : Int32)) else (ar_shiftUp_28 σ a1 v1 (1 : Int32) (1 : Int32))
set_option maxHeartbeats 4000000 in
set_option maxRecDepth 100000 in
theorem b_ar_shiftUp_53 {X : Cx} (G : Gd X bc_ar_shiftUp 4 R_ari (some .int) (rmm 1 24)) (σ : CS) (l3 t0 t1 : Int32) : J wdC X (QI wdC X) 4 53 [(0, .ref (eO (xE X) 5)), (3, .int l3)] [.int t0, .int t1, .ref (eO (xE X) 3)] σ (ar_shiftUp_53 σ l3 t0 t1) := by
  unfold ar_shiftUp_53
  refine j_Vv2 G k_re_turn mw_re_turn lk_ar_re_turn rc_reg d_ar_shiftUp_53 rfl (Nat.le_of_ble_eq_true rfl) (fun _ s1 => ?_)
  refine j_aload_n 0 G d_ar_shiftUp_56 rfl rfl ?_
  refine g_ar_registers G d_ar_shiftUp_57 ?_
  refine j_iload_n 1 G d_ar_shiftUp_60 rfl rfl ?_
  refine j_sipush G d_ar_shiftUp_61 cs_128 ?_
  refine j_Vv2 G k_re_setSign mw_re_setSign lk_ar_re_setSign rc_reg d_ar_shiftUp_64 rfl (Nat.le_of_ble_eq_true rfl) (fun _ s2 => ?_)
  refine j_iload_n 1 G d_ar_shiftUp_67 rfl rfl ?_
  exact j_iret G d_ar_shiftUp_68
set_option maxHeartbeats 4000000 in
set_option maxRecDepth 100000 in
theorem b_ar_shiftUp_28 {X : Cx} (G : Gd X bc_ar_shiftUp 4 R_ari (some .int) (rmm 1 24)) (σ : CS) (l1 l3 t0 t1 : Int32) : J wdC X (QI wdC X) 4 28 [(0, .ref (eO (xE X) 5)), (1, .int l1), (3, .int l3)] [.int t0, .int t1, .ref (eO (xE X) 3)] σ (ar_shiftUp_28 σ l1 l3 t0 t1) := by
  unfold ar_shiftUp_28
  refine j_Vv2 G k_re_turn mw_re_turn lk_ar_re_turn rc_reg d_ar_shiftUp_28 rfl (Nat.le_of_ble_eq_true rfl) (fun _ s1 => ?_)
  refine j_aload_n 0 G d_ar_shiftUp_31 rfl rfl ?_
  refine g_ar_registers G d_ar_shiftUp_32 ?_
  refine j_iconst G d_ar_shiftUp_35 ci_2 ?_
  refine j_iload_n 1 G d_ar_shiftUp_36 rfl rfl ?_
  refine j_iload_n 1 G d_ar_shiftUp_37 rfl rfl ?_
  refine j_iconst G d_ar_shiftUp_38 ci_1 ?_
  refine j_ishl G d_ar_shiftUp_39 ?_
  refine j_ixor G d_ar_shiftUp_40 ?_
  refine j_sipush G d_ar_shiftUp_41 cs_128 ?_
  refine j_iand G d_ar_shiftUp_44 ?_
  refine j_ifeq G d_ar_shiftUp_45 (tgt := 52) rfl ?_ ?_
  · refine j_iconst G d_ar_shiftUp_52 ci_0 ?_
    refine j_sub [0, 2] (L1 := [(0, .ref (eO (xE X) 5)), (3, .int l3)]) rfl ?_
    exact b_ar_shiftUp_53 G s1 l3 (0 : Int32) (2 : Int32)
  · refine j_iconst G d_ar_shiftUp_48 ci_1 ?_
    refine j_goto G d_ar_shiftUp_49 (tgt := 53) rfl ?_
    refine j_sub [0, 2] (L1 := [(0, .ref (eO (xE X) 5)), (3, .int l3)]) rfl ?_
    exact b_ar_shiftUp_53 G s1 l3 (1 : Int32) (2 : Int32)
set_option maxHeartbeats 4000000 in
set_option maxRecDepth 100000 in
theorem b_ar_shiftUp {X : Cx} (G : Gd X bc_ar_shiftUp 4 R_ari (some .int) (rmm 1 24)) (σ : CS) (a1 a2 : Int32) : J wdC X (QI wdC X) 4 0 [(0, .ref (eO (xE X) 5)), (1, .int a1), (2, .int a2)] [] σ (ar_shiftUp σ a1 a2) := by
  unfold ar_shiftUp
  refine j_iload_n 1 G d_ar_shiftUp_0 rfl rfl ?_
  refine j_iconst G d_ar_shiftUp_1 ci_1 ?_
  refine j_ishl G d_ar_shiftUp_2 ?_
  refine j_sipush G d_ar_shiftUp_3 cs_255 ?_
  refine j_iand G d_ar_shiftUp_6 ?_
  refine j_iload_n 2 G d_ar_shiftUp_7 rfl rfl ?_
  refine j_ior G d_ar_shiftUp_8 ?_
  refine j_nm (fun v1 => ?_)
  refine j_istore_n [1, 2, 0] (L1 := [(0, .ref (eO (xE X) 5)), (1, .int a1), (3, .int v1)]) G d_ar_shiftUp_9 rfl (by decide) rfl ?_
  refine j_aload_n 0 G d_ar_shiftUp_10 rfl rfl ?_
  refine g_ar_registers G d_ar_shiftUp_11 ?_
  refine j_iconst G d_ar_shiftUp_14 ci_1 ?_
  refine j_iload_n 1 G d_ar_shiftUp_15 rfl rfl ?_
  refine j_sipush G d_ar_shiftUp_16 cs_128 ?_
  refine j_iand G d_ar_shiftUp_19 ?_
  refine j_ifeq G d_ar_shiftUp_20 (tgt := 27) rfl ?_ ?_
  · refine j_iconst G d_ar_shiftUp_27 ci_0 ?_
    exact b_ar_shiftUp_28 G σ a1 v1 (0 : Int32) (1 : Int32)
  · refine j_iconst G d_ar_shiftUp_23 ci_1 ?_
    refine j_goto G d_ar_shiftUp_24 (tgt := 28) rfl ?_
    exact b_ar_shiftUp_28 G σ a1 v1 (1 : Int32) (1 : Int32)
set_option maxHeartbeats 4000000 in
set_option maxRecDepth 100000 in
theorem k_ar_shiftUp {l : Launch} {E : Ev} {σ : CS} {a1 a2 : Int32} : CtI wdC l E y_ar_shiftUp bc_ar_shiftUp 4 (some .int) (rmm 1 24) [.ref (eO E 5), .int a1, .int a2] σ (ar_shiftUp σ a1 a2) := ct_i (by decide) (Nat.le_of_ble_eq_true rfl) (fun X hE _ G => by subst hE; exact b_ar_shiftUp G σ a1 a2)
def ar_count (σ : CS) (a1 a2 : Int32) : Option (Int32 × CS) :=
bd (re_turn σ (2 : Int32) a2) fun _ s1 =>
bd (re_setSign s1 a1 (128 : Int32)) fun _ s2 =>
some (a1, s2)
set_option maxHeartbeats 4000000 in
set_option maxRecDepth 100000 in
theorem b_ar_count {X : Cx} (G : Gd X bc_ar_count 3 R_ari (some .int) (rmm 1 24)) (σ : CS) (a1 a2 : Int32) : J wdC X (QI wdC X) 3 0 [(0, .ref (eO (xE X) 5)), (1, .int a1), (2, .int a2)] [] σ (ar_count σ a1 a2) := by
  unfold ar_count
  refine j_aload_n 0 G d_ar_count_0 rfl rfl ?_
  refine g_ar_registers G d_ar_count_1 ?_
  refine j_iconst G d_ar_count_4 ci_2 ?_
  refine j_iload_n 2 G d_ar_count_5 rfl rfl ?_
  refine j_Vv2 G k_re_turn mw_re_turn lk_ar_re_turn rc_reg d_ar_count_6 rfl (Nat.le_of_ble_eq_true rfl) (fun _ s1 => ?_)
  refine j_aload_n 0 G d_ar_count_9 rfl rfl ?_
  refine g_ar_registers G d_ar_count_10 ?_
  refine j_iload_n 1 G d_ar_count_13 rfl rfl ?_
  refine j_sipush G d_ar_count_14 cs_128 ?_
  refine j_Vv2 G k_re_setSign mw_re_setSign lk_ar_re_setSign rc_reg d_ar_count_17 rfl (Nat.le_of_ble_eq_true rfl) (fun _ s2 => ?_)
  refine j_iload_n 1 G d_ar_count_20 rfl rfl ?_
  exact j_iret G d_ar_count_21
set_option maxHeartbeats 4000000 in
set_option maxRecDepth 100000 in
theorem k_ar_count {l : Launch} {E : Ev} {σ : CS} {a1 a2 : Int32} : CtI wdC l E y_ar_count bc_ar_count 3 (some .int) (rmm 1 24) [.ref (eO E 5), .int a1, .int a2] σ (ar_count σ a1 a2) := ct_i (by decide) (Nat.le_of_ble_eq_true rfl) (fun X hE _ G => by subst hE; exact b_ar_count G σ a1 a2)
def ar_alter_217 (σ : CS) : Option (Int32 × CS) :=
bd (re_turn σ (1 : Int32) (0 : Int32)) fun _ s1 =>
bd (ar_pass s1 (0 : Int32) (128 : Int32)) fun v1 s2 =>
some (v1, s2)
def ar_alter_204 (σ : CS) (t0 t1 : Int32) : Option (Int32 × CS) :=
bd (ar_count σ t1 t0) fun v1 s1 =>
some (v1, s1)
def ar_alter_181 (σ : CS) (t0 t1 : Int32) : Option (Int32 × CS) :=
bd (ar_count σ t1 t0) fun v1 s1 =>
some (v1, s1)
def ar_alter (σ : CS) (a1 a2 : Int32) : Option (Int32 × CS) :=
swi a1 [((0 : Int32), 72, bd (ar_subtract σ (0 : Int32) a2 (0 : Int32) (128 : Int32)) fun v1 s1 =>
some (v1, s1)),
 ((3 : Int32), 83, bd (re_turn σ (1 : Int32) (1 : Int32)) fun _ s2 =>
bd (ar_pass s2 ((a2 ^^^ (-1 : Int32)) &&& (255 : Int32)) (128 : Int32)) fun v2 s3 =>
some (v2, s3)),
 ((4 : Int32), 107, bd (ar_shiftDown σ a2 (0 : Int32)) fun v3 s4 =>
some (v3, s4)),
 ((6 : Int32), 114, bd (re_carry σ) fun v4 s5 =>
bd (ar_shiftDown s5 a2 (v4 <<< ((7 : Int32) &&& 31))) fun v5 s6 =>
some (v5, s6)),
 ((7 : Int32), 130, bd (ar_shiftDown σ a2 (a2 &&& (128 : Int32))) fun v6 s7 =>
some (v6, s7)),
 ((8 : Int32), 141, bd (ar_shiftUp σ a2 (0 : Int32)) fun v7 s8 =>
some (v7, s8)),
 ((9 : Int32), 148, bd (re_carry σ) fun v8 s9 =>
bd (ar_shiftUp s9 a2 v8) fun v9 s10 =>
some (v9, s10)),
 ((10 : Int32), 161, if a2 = (128 : Int32) then (ar_alter_181 σ (1 : Int32) ((a2 - (1 : Int32)) &&& (255 : Int32))) else (ar_alter_181 σ (0 : Int32) ((a2 - (1 : Int32)) &&& (255 : Int32)))),
 ((12 : Int32), 185, if a2 = (127 : Int32) then (ar_alter_204 σ (1 : Int32) ((a2 + (1 : Int32)) &&& (255 : Int32))) else (ar_alter_204 σ (0 : Int32) ((a2 + (1 : Int32)) &&& (255 : Int32)))),
 ((13 : Int32), 208, bd (ar_pass σ a2 (128 : Int32)) fun v10 s11 =>
some (v10, s11))] (ar_alter_217 σ)
set_option maxHeartbeats 4000000 in
set_option maxRecDepth 100000 in
theorem b_ar_alter_217 {X : Cx} (G : Gd X bc_ar_alter 3 R_ari (some .int) (rmm 2 50)) (σ : CS) : J wdC X (QI wdC X) 3 217 [(0, .ref (eO (xE X) 5))] [] σ (ar_alter_217 σ ) := by
  unfold ar_alter_217
  refine j_aload_n 0 G d_ar_alter_217 rfl rfl ?_
  refine g_ar_registers G d_ar_alter_218 ?_
  refine j_iconst G d_ar_alter_221 ci_1 ?_
  refine j_iconst G d_ar_alter_222 ci_0 ?_
  refine j_Vv2 G k_re_turn mw_re_turn lk_ar_re_turn rc_reg d_ar_alter_223 rfl (Nat.le_of_ble_eq_true rfl) (fun _ s1 => ?_)
  refine j_aload_n 0 G d_ar_alter_226 rfl rfl ?_
  refine j_iconst G d_ar_alter_227 ci_0 ?_
  refine j_sipush G d_ar_alter_228 cs_128 ?_
  refine j_Vi2 G k_ar_pass mw_ar_pass lk_ar_ar_pass rc_ari d_ar_alter_231 rfl (Nat.le_of_ble_eq_true rfl) (fun v1 s2 => ?_)
  exact j_iret G d_ar_alter_234
set_option maxHeartbeats 4000000 in
set_option maxRecDepth 100000 in
theorem b_ar_alter_204 {X : Cx} (G : Gd X bc_ar_alter 3 R_ari (some .int) (rmm 2 50)) (σ : CS) (t0 t1 : Int32) : J wdC X (QI wdC X) 3 204 [(0, .ref (eO (xE X) 5))] [.int t0, .int t1, .ref (eO (xE X) 5)] σ (ar_alter_204 σ t0 t1) := by
  unfold ar_alter_204
  refine j_Vi2 G k_ar_count mw_ar_count lk_ar_ar_count rc_ari d_ar_alter_204 rfl (Nat.le_of_ble_eq_true rfl) (fun v1 s1 => ?_)
  exact j_iret G d_ar_alter_207
set_option maxHeartbeats 4000000 in
set_option maxRecDepth 100000 in
theorem b_ar_alter_181 {X : Cx} (G : Gd X bc_ar_alter 3 R_ari (some .int) (rmm 2 50)) (σ : CS) (t0 t1 : Int32) : J wdC X (QI wdC X) 3 181 [(0, .ref (eO (xE X) 5))] [.int t0, .int t1, .ref (eO (xE X) 5)] σ (ar_alter_181 σ t0 t1) := by
  unfold ar_alter_181
  refine j_Vi2 G k_ar_count mw_ar_count lk_ar_ar_count rc_ari d_ar_alter_181 rfl (Nat.le_of_ble_eq_true rfl) (fun v1 s1 => ?_)
  exact j_iret G d_ar_alter_184
set_option maxHeartbeats 4000000 in
set_option maxRecDepth 100000 in
theorem b_ar_alter {X : Cx} (G : Gd X bc_ar_alter 3 R_ari (some .int) (rmm 2 50)) (σ : CS) (a1 a2 : Int32) : J wdC X (QI wdC X) 3 0 [(0, .ref (eO (xE X) 5)), (1, .int a1), (2, .int a2)] [] σ (ar_alter σ a1 a2) := by
  unfold ar_alter
  refine j_iload_n 1 G d_ar_alter_0 rfl rfl ?_
  refine j_ts [(0, 72), (3, 83), (4, 107), (6, 114), (7, 130), (8, 141), (9, 148), (10, 161), (12, 185), (13, 208)] G d_ar_alter_1 (dt := 217) rfl (by decide +kernel) ⟨?_, ?_, ?_, ?_, ?_, ?_, ?_, ?_, ?_, ?_, trivial⟩ ?_
  · refine j_aload_n 0 G d_ar_alter_72 rfl rfl ?_
    refine j_iconst G d_ar_alter_73 ci_0 ?_
    refine j_iload_n 2 G d_ar_alter_74 rfl rfl ?_
    refine j_iconst G d_ar_alter_75 ci_0 ?_
    refine j_sipush G d_ar_alter_76 cs_128 ?_
    refine j_Vi4 G k_ar_subtract mw_ar_subtract lk_ar_ar_subtract rc_ari d_ar_alter_79 rfl (Nat.le_of_ble_eq_true rfl) (fun v1 s1 => ?_)
    exact j_iret G d_ar_alter_82
  · refine j_aload_n 0 G d_ar_alter_83 rfl rfl ?_
    refine g_ar_registers G d_ar_alter_84 ?_
    refine j_iconst G d_ar_alter_87 ci_1 ?_
    refine j_iconst G d_ar_alter_88 ci_1 ?_
    refine j_Vv2 G k_re_turn mw_re_turn lk_ar_re_turn rc_reg d_ar_alter_89 rfl (Nat.le_of_ble_eq_true rfl) (fun _ s2 => ?_)
    refine j_aload_n 0 G d_ar_alter_92 rfl rfl ?_
    refine j_iload_n 2 G d_ar_alter_93 rfl rfl ?_
    refine j_iconst G d_ar_alter_94 ci_m1 ?_
    refine j_ixor G d_ar_alter_95 ?_
    refine j_sipush G d_ar_alter_96 cs_255 ?_
    refine j_iand G d_ar_alter_99 ?_
    refine j_sipush G d_ar_alter_100 cs_128 ?_
    refine j_Vi2 G k_ar_pass mw_ar_pass lk_ar_ar_pass rc_ari d_ar_alter_103 rfl (Nat.le_of_ble_eq_true rfl) (fun v2 s3 => ?_)
    exact j_iret G d_ar_alter_106
  · refine j_aload_n 0 G d_ar_alter_107 rfl rfl ?_
    refine j_iload_n 2 G d_ar_alter_108 rfl rfl ?_
    refine j_iconst G d_ar_alter_109 ci_0 ?_
    refine j_Vi2 G k_ar_shiftDown mw_ar_shiftDown lk_ar_ar_shiftDown rc_ari d_ar_alter_110 rfl (Nat.le_of_ble_eq_true rfl) (fun v3 s4 => ?_)
    exact j_iret G d_ar_alter_113
  · refine j_aload_n 0 G d_ar_alter_114 rfl rfl ?_
    refine j_iload_n 2 G d_ar_alter_115 rfl rfl ?_
    refine j_aload_n 0 G d_ar_alter_116 rfl rfl ?_
    refine g_ar_registers G d_ar_alter_117 ?_
    refine j_Vi0 G k_re_carry mw_re_carry lk_ar_re_carry rc_reg d_ar_alter_120 rfl (Nat.le_of_ble_eq_true rfl) (fun v4 s5 => ?_)
    refine j_bipush G d_ar_alter_123 cb_7 ?_
    refine j_ishl G d_ar_alter_125 ?_
    refine j_Vi2 G k_ar_shiftDown mw_ar_shiftDown lk_ar_ar_shiftDown rc_ari d_ar_alter_126 rfl (Nat.le_of_ble_eq_true rfl) (fun v5 s6 => ?_)
    exact j_iret G d_ar_alter_129
  · refine j_aload_n 0 G d_ar_alter_130 rfl rfl ?_
    refine j_iload_n 2 G d_ar_alter_131 rfl rfl ?_
    refine j_iload_n 2 G d_ar_alter_132 rfl rfl ?_
    refine j_sipush G d_ar_alter_133 cs_128 ?_
    refine j_iand G d_ar_alter_136 ?_
    refine j_Vi2 G k_ar_shiftDown mw_ar_shiftDown lk_ar_ar_shiftDown rc_ari d_ar_alter_137 rfl (Nat.le_of_ble_eq_true rfl) (fun v6 s7 => ?_)
    exact j_iret G d_ar_alter_140
  · refine j_aload_n 0 G d_ar_alter_141 rfl rfl ?_
    refine j_iload_n 2 G d_ar_alter_142 rfl rfl ?_
    refine j_iconst G d_ar_alter_143 ci_0 ?_
    refine j_Vi2 G k_ar_shiftUp mw_ar_shiftUp lk_ar_ar_shiftUp rc_ari d_ar_alter_144 rfl (Nat.le_of_ble_eq_true rfl) (fun v7 s8 => ?_)
    exact j_iret G d_ar_alter_147
  · refine j_aload_n 0 G d_ar_alter_148 rfl rfl ?_
    refine j_iload_n 2 G d_ar_alter_149 rfl rfl ?_
    refine j_aload_n 0 G d_ar_alter_150 rfl rfl ?_
    refine g_ar_registers G d_ar_alter_151 ?_
    refine j_Vi0 G k_re_carry mw_re_carry lk_ar_re_carry rc_reg d_ar_alter_154 rfl (Nat.le_of_ble_eq_true rfl) (fun v8 s9 => ?_)
    refine j_Vi2 G k_ar_shiftUp mw_ar_shiftUp lk_ar_ar_shiftUp rc_ari d_ar_alter_157 rfl (Nat.le_of_ble_eq_true rfl) (fun v9 s10 => ?_)
    exact j_iret G d_ar_alter_160
  · refine j_aload_n 0 G d_ar_alter_161 rfl rfl ?_
    refine j_iload_n 2 G d_ar_alter_162 rfl rfl ?_
    refine j_iconst G d_ar_alter_163 ci_1 ?_
    refine j_isub G d_ar_alter_164 ?_
    refine j_sipush G d_ar_alter_165 cs_255 ?_
    refine j_iand G d_ar_alter_168 ?_
    refine j_iload_n 2 G d_ar_alter_169 rfl rfl ?_
    refine j_sipush G d_ar_alter_170 cs_128 ?_
    refine j_icne G d_ar_alter_173 (tgt := 180) rfl ?_ ?_
    · refine j_iconst G d_ar_alter_180 ci_0 ?_
      refine j_sub [0] (L1 := [(0, .ref (eO (xE X) 5))]) rfl ?_
      exact b_ar_alter_181 G σ (0 : Int32) ((a2 - (1 : Int32)) &&& (255 : Int32))
    · refine j_iconst G d_ar_alter_176 ci_1 ?_
      refine j_goto G d_ar_alter_177 (tgt := 181) rfl ?_
      refine j_sub [0] (L1 := [(0, .ref (eO (xE X) 5))]) rfl ?_
      exact b_ar_alter_181 G σ (1 : Int32) ((a2 - (1 : Int32)) &&& (255 : Int32))
  · refine j_aload_n 0 G d_ar_alter_185 rfl rfl ?_
    refine j_iload_n 2 G d_ar_alter_186 rfl rfl ?_
    refine j_iconst G d_ar_alter_187 ci_1 ?_
    refine j_iadd G d_ar_alter_188 ?_
    refine j_sipush G d_ar_alter_189 cs_255 ?_
    refine j_iand G d_ar_alter_192 ?_
    refine j_iload_n 2 G d_ar_alter_193 rfl rfl ?_
    refine j_bipush G d_ar_alter_194 cb_127 ?_
    refine j_icne G d_ar_alter_196 (tgt := 203) rfl ?_ ?_
    · refine j_iconst G d_ar_alter_203 ci_0 ?_
      refine j_sub [0] (L1 := [(0, .ref (eO (xE X) 5))]) rfl ?_
      exact b_ar_alter_204 G σ (0 : Int32) ((a2 + (1 : Int32)) &&& (255 : Int32))
    · refine j_iconst G d_ar_alter_199 ci_1 ?_
      refine j_goto G d_ar_alter_200 (tgt := 204) rfl ?_
      refine j_sub [0] (L1 := [(0, .ref (eO (xE X) 5))]) rfl ?_
      exact b_ar_alter_204 G σ (1 : Int32) ((a2 + (1 : Int32)) &&& (255 : Int32))
  · refine j_aload_n 0 G d_ar_alter_208 rfl rfl ?_
    refine j_iload_n 2 G d_ar_alter_209 rfl rfl ?_
    refine j_sipush G d_ar_alter_210 cs_128 ?_
    refine j_Vi2 G k_ar_pass mw_ar_pass lk_ar_ar_pass rc_ari d_ar_alter_213 rfl (Nat.le_of_ble_eq_true rfl) (fun v10 s11 => ?_)
    exact j_iret G d_ar_alter_216
  · refine j_sub [0] (L1 := [(0, .ref (eO (xE X) 5))]) rfl ?_
    exact b_ar_alter_217 G σ
set_option maxHeartbeats 4000000 in
set_option maxRecDepth 100000 in
theorem k_ar_alter {l : Launch} {E : Ev} {σ : CS} {a1 a2 : Int32} : CtI wdC l E y_ar_alter bc_ar_alter 3 (some .int) (rmm 2 50) [.ref (eO E 5), .int a1, .int a2] σ (ar_alter σ a1 a2) := ct_i (by decide) (Nat.le_of_ble_eq_true rfl) (fun X hE _ G => by subst hE; exact b_ar_alter G σ a1 a2)
def ar_adjustDecimal_97 (σ : CS) (l4 : Int32) : Option (Int32 × CS) :=
bd (re_set σ (0 : Int32) l4) fun _ s1 =>
bd (re_setSign s1 (l4 &&& (255 : Int32)) (128 : Int32)) fun _ s2 =>
some ((0 : Int32), s2)
def ar_adjustDecimal_80 (σ : CS) (l4 : Int32) : Option (Int32 × CS) :=
if l4 ≤ (255 : Int32) then (ar_adjustDecimal_97 σ l4) else (bd (re_turn σ (1 : Int32) (1 : Int32)) fun _ s1 =>
ar_adjustDecimal_97 s1 l4)
def ar_adjustDecimal_77 (σ : CS) (l4 : Int32) : Option (Int32 × CS) :=
ar_adjustDecimal_80 σ (l4 + Int32.ofInt 96)
def ar_adjustDecimal_50 (σ : CS) (l2 l3 l4 : Int32) : Option (Int32 × CS) :=
bd (re_has σ (1 : Int32)) fun v1 s1 =>
if v1 = 0 then (if (9 : Int32) < l2 then (ar_adjustDecimal_77 s1 l4) else (if l2 ≤ (8 : Int32) then (ar_adjustDecimal_80 s1 l4) else (if l3 = 0 then (ar_adjustDecimal_80 s1 l4) else (ar_adjustDecimal_77 s1 l4)))) else (ar_adjustDecimal_77 s1 l4)
def ar_adjustDecimal_47 (σ : CS) (l2 l3 l4 : Int32) : Option (Int32 × CS) :=
ar_adjustDecimal_50 σ l2 l3 (l4 + Int32.ofInt 6)
def ar_adjustDecimal_27 (σ : CS) (l1 l2 t0 : Int32) : Option (Int32 × CS) :=
bd (re_has σ (32 : Int32)) fun v1 s1 =>
if v1 = 0 then (if t0 = 0 then (ar_adjustDecimal_50 s1 l2 t0 l1) else (ar_adjustDecimal_47 s1 l2 t0 l1)) else (ar_adjustDecimal_47 s1 l2 t0 l1)
def ar_adjustDecimal (σ : CS) : Option (Int32 × CS) :=
bd (re_get σ (0 : Int32)) fun v1 s1 =>
nm (v1 >>> ((4 : Int32) &&& 31)) fun v2 =>
if (v1 &&& (15 : Int32)) ≤ (9 : Int32) then (ar_adjustDecimal_27 s1 v1 v2 (0 : Int32)) else (ar_adjustDecimal_27 s1 v1 v2 (1 : Int32))
set_option maxHeartbeats 4000000 in
set_option maxRecDepth 100000 in
theorem b_ar_adjustDecimal_97 {X : Cx} (G : Gd X bc_ar_adjustDecimal 5 R_ari none (rmm 1 24)) (σ : CS) (l4 : Int32) : J wdC X (QV wdC X) 5 97 [(0, .ref (eO (xE X) 5)), (4, .int l4)] [] σ (ar_adjustDecimal_97 σ l4) := by
  unfold ar_adjustDecimal_97
  refine j_aload_n 0 G d_ar_adjustDecimal_97 rfl rfl ?_
  refine g_ar_registers G d_ar_adjustDecimal_98 ?_
  refine j_iconst G d_ar_adjustDecimal_101 ci_0 ?_
  refine j_iload 1 G d_ar_adjustDecimal_102 rfl ?_
  refine j_Vv2 G k_re_set mw_re_set lk_ar_re_set rc_reg d_ar_adjustDecimal_104 rfl (Nat.le_of_ble_eq_true rfl) (fun _ s1 => ?_)
  refine j_aload_n 0 G d_ar_adjustDecimal_107 rfl rfl ?_
  refine g_ar_registers G d_ar_adjustDecimal_108 ?_
  refine j_iload 1 G d_ar_adjustDecimal_111 rfl ?_
  refine j_sipush G d_ar_adjustDecimal_113 cs_255 ?_
  refine j_iand G d_ar_adjustDecimal_116 ?_
  refine j_sipush G d_ar_adjustDecimal_117 cs_128 ?_
  refine j_Vv2 G k_re_setSign mw_re_setSign lk_ar_re_setSign rc_reg d_ar_adjustDecimal_120 rfl (Nat.le_of_ble_eq_true rfl) (fun _ s2 => ?_)
  exact j_vret G d_ar_adjustDecimal_123
set_option maxHeartbeats 4000000 in
set_option maxRecDepth 100000 in
theorem b_ar_adjustDecimal_80 {X : Cx} (G : Gd X bc_ar_adjustDecimal 5 R_ari none (rmm 1 24)) (σ : CS) (l4 : Int32) : J wdC X (QV wdC X) 5 80 [(0, .ref (eO (xE X) 5)), (4, .int l4)] [] σ (ar_adjustDecimal_80 σ l4) := by
  unfold ar_adjustDecimal_80
  refine j_iload 1 G d_ar_adjustDecimal_80 rfl ?_
  refine j_sipush G d_ar_adjustDecimal_82 cs_255 ?_
  refine j_icle G d_ar_adjustDecimal_85 (tgt := 97) rfl ?_ ?_
  · exact b_ar_adjustDecimal_97 G σ l4
  · refine j_aload_n 0 G d_ar_adjustDecimal_88 rfl rfl ?_
    refine g_ar_registers G d_ar_adjustDecimal_89 ?_
    refine j_iconst G d_ar_adjustDecimal_92 ci_1 ?_
    refine j_iconst G d_ar_adjustDecimal_93 ci_1 ?_
    refine j_Vv2 G k_re_turn mw_re_turn lk_ar_re_turn rc_reg d_ar_adjustDecimal_94 rfl (Nat.le_of_ble_eq_true rfl) (fun _ s1 => ?_)
    exact b_ar_adjustDecimal_97 G s1 l4
set_option maxHeartbeats 4000000 in
set_option maxRecDepth 100000 in
theorem b_ar_adjustDecimal_77 {X : Cx} (G : Gd X bc_ar_adjustDecimal 5 R_ari none (rmm 1 24)) (σ : CS) (l4 : Int32) : J wdC X (QV wdC X) 5 77 [(0, .ref (eO (xE X) 5)), (4, .int l4)] [] σ (ar_adjustDecimal_77 σ l4) := by
  unfold ar_adjustDecimal_77
  refine j_iinc 1 [1, 0] (L1 := [(0, .ref (eO (xE X) 5)), (4, .int (l4 + Int32.ofInt 96))]) G d_ar_adjustDecimal_77 rfl rfl (by decide) rfl ?_
  exact b_ar_adjustDecimal_80 G σ (l4 + Int32.ofInt 96)
set_option maxHeartbeats 4000000 in
set_option maxRecDepth 100000 in
theorem b_ar_adjustDecimal_50 {X : Cx} (G : Gd X bc_ar_adjustDecimal 5 R_ari none (rmm 1 24)) (σ : CS) (l2 l3 l4 : Int32) : J wdC X (QV wdC X) 5 50 [(0, .ref (eO (xE X) 5)), (2, .int l2), (3, .int l3), (4, .int l4)] [] σ (ar_adjustDecimal_50 σ l2 l3 l4) := by
  unfold ar_adjustDecimal_50
  refine j_aload_n 0 G d_ar_adjustDecimal_50 rfl rfl ?_
  refine g_ar_registers G d_ar_adjustDecimal_51 ?_
  refine j_iconst G d_ar_adjustDecimal_54 ci_1 ?_
  refine j_Vi1 G k_re_has mw_re_has lk_ar_re_has rc_reg d_ar_adjustDecimal_55 rfl (Nat.le_of_ble_eq_true rfl) (fun v1 s1 => ?_)
  refine j_ifne G d_ar_adjustDecimal_58 (tgt := 77) rfl ?_ ?_
  · refine j_sub [0, 3] (L1 := [(0, .ref (eO (xE X) 5)), (4, .int l4)]) rfl ?_
    exact b_ar_adjustDecimal_77 G s1 l4
  · refine j_iload_n 1 G d_ar_adjustDecimal_61 rfl rfl ?_
    refine j_bipush G d_ar_adjustDecimal_62 cb_9 ?_
    refine j_icgt G d_ar_adjustDecimal_64 (tgt := 77) rfl ?_ ?_
    · refine j_sub [0, 3] (L1 := [(0, .ref (eO (xE X) 5)), (4, .int l4)]) rfl ?_
      exact b_ar_adjustDecimal_77 G s1 l4
    · refine j_iload_n 1 G d_ar_adjustDecimal_67 rfl rfl ?_
      refine j_bipush G d_ar_adjustDecimal_68 cb_8 ?_
      refine j_icle G d_ar_adjustDecimal_70 (tgt := 80) rfl ?_ ?_
      · refine j_sub [0, 3] (L1 := [(0, .ref (eO (xE X) 5)), (4, .int l4)]) rfl ?_
        exact b_ar_adjustDecimal_80 G s1 l4
      · refine j_iload_n 2 G d_ar_adjustDecimal_73 rfl rfl ?_
        refine j_ifeq G d_ar_adjustDecimal_74 (tgt := 80) rfl ?_ ?_
        · refine j_sub [0, 3] (L1 := [(0, .ref (eO (xE X) 5)), (4, .int l4)]) rfl ?_
          exact b_ar_adjustDecimal_80 G s1 l4
        · refine j_sub [0, 3] (L1 := [(0, .ref (eO (xE X) 5)), (4, .int l4)]) rfl ?_
          exact b_ar_adjustDecimal_77 G s1 l4
set_option maxHeartbeats 4000000 in
set_option maxRecDepth 100000 in
theorem b_ar_adjustDecimal_47 {X : Cx} (G : Gd X bc_ar_adjustDecimal 5 R_ari none (rmm 1 24)) (σ : CS) (l2 l3 l4 : Int32) : J wdC X (QV wdC X) 5 47 [(0, .ref (eO (xE X) 5)), (2, .int l2), (3, .int l3), (4, .int l4)] [] σ (ar_adjustDecimal_47 σ l2 l3 l4) := by
  unfold ar_adjustDecimal_47
  refine j_iinc 3 [1, 2, 3, 0] (L1 := [(0, .ref (eO (xE X) 5)), (2, .int l2), (3, .int l3), (4, .int (l4 + Int32.ofInt 6))]) G d_ar_adjustDecimal_47 rfl rfl (by decide) rfl ?_
  exact b_ar_adjustDecimal_50 G σ l2 l3 (l4 + Int32.ofInt 6)
set_option maxHeartbeats 4000000 in
set_option maxRecDepth 100000 in
theorem b_ar_adjustDecimal_27 {X : Cx} (G : Gd X bc_ar_adjustDecimal 5 R_ari none (rmm 1 24)) (σ : CS) (l1 l2 t0 : Int32) : J wdC X (QV wdC X) 5 27 [(0, .ref (eO (xE X) 5)), (1, .int l1), (2, .int l2)] [.int t0] σ (ar_adjustDecimal_27 σ l1 l2 t0) := by
  unfold ar_adjustDecimal_27
  refine j_istore_n [1, 2, 3, 0] (L1 := [(0, .ref (eO (xE X) 5)), (1, .int l1), (2, .int l2), (3, .int t0)]) G d_ar_adjustDecimal_27 rfl (by decide) rfl ?_
  refine j_iload_n 1 G d_ar_adjustDecimal_28 rfl rfl ?_
  refine j_istore [1, 3, 4, 0] (L1 := [(0, .ref (eO (xE X) 5)), (2, .int l2), (3, .int t0), (4, .int l1)]) G d_ar_adjustDecimal_29 (by decide) rfl ?_
  refine j_aload_n 0 G d_ar_adjustDecimal_31 rfl rfl ?_
  refine g_ar_registers G d_ar_adjustDecimal_32 ?_
  refine j_bipush G d_ar_adjustDecimal_35 cb_32 ?_
  refine j_Vi1 G k_re_has mw_re_has lk_ar_re_has rc_reg d_ar_adjustDecimal_37 rfl (Nat.le_of_ble_eq_true rfl) (fun v1 s1 => ?_)
  refine j_ifne G d_ar_adjustDecimal_40 (tgt := 47) rfl ?_ ?_
  · exact b_ar_adjustDecimal_47 G s1 l2 t0 l1
  · refine j_iload_n 2 G d_ar_adjustDecimal_43 rfl rfl ?_
    refine j_ifeq G d_ar_adjustDecimal_44 (tgt := 50) rfl ?_ ?_
    · exact b_ar_adjustDecimal_50 G s1 l2 t0 l1
    · exact b_ar_adjustDecimal_47 G s1 l2 t0 l1
set_option maxHeartbeats 4000000 in
set_option maxRecDepth 100000 in
theorem b_ar_adjustDecimal {X : Cx} (G : Gd X bc_ar_adjustDecimal 5 R_ari none (rmm 1 24)) (σ : CS) : J wdC X (QV wdC X) 5 0 [(0, .ref (eO (xE X) 5))] [] σ (ar_adjustDecimal σ ) := by
  unfold ar_adjustDecimal
  refine j_aload_n 0 G d_ar_adjustDecimal_0 rfl rfl ?_
  refine g_ar_registers G d_ar_adjustDecimal_1 ?_
  refine j_iconst G d_ar_adjustDecimal_4 ci_0 ?_
  refine j_Vi1 G k_re_get mw_re_get lk_ar_re_get rc_reg d_ar_adjustDecimal_5 rfl (Nat.le_of_ble_eq_true rfl) (fun v1 s1 => ?_)
  refine j_istore_n [1, 0] (L1 := [(0, .ref (eO (xE X) 5)), (1, .int v1)]) G d_ar_adjustDecimal_8 rfl (by decide) rfl ?_
  refine j_iload_n 1 G d_ar_adjustDecimal_9 rfl rfl ?_
  refine j_iconst G d_ar_adjustDecimal_10 ci_4 ?_
  refine j_ishr G d_ar_adjustDecimal_11 ?_
  refine j_nm (fun v2 => ?_)
  refine j_istore_n [1, 2, 0] (L1 := [(0, .ref (eO (xE X) 5)), (1, .int v1), (2, .int v2)]) G d_ar_adjustDecimal_12 rfl (by decide) rfl ?_
  refine j_iload_n 1 G d_ar_adjustDecimal_13 rfl rfl ?_
  refine j_bipush G d_ar_adjustDecimal_14 cb_15 ?_
  refine j_iand G d_ar_adjustDecimal_16 ?_
  refine j_bipush G d_ar_adjustDecimal_17 cb_9 ?_
  refine j_icle G d_ar_adjustDecimal_19 (tgt := 26) rfl ?_ ?_
  · refine j_iconst G d_ar_adjustDecimal_26 ci_0 ?_
    exact b_ar_adjustDecimal_27 G s1 v1 v2 (0 : Int32)
  · refine j_iconst G d_ar_adjustDecimal_22 ci_1 ?_
    refine j_goto G d_ar_adjustDecimal_23 (tgt := 27) rfl ?_
    exact b_ar_adjustDecimal_27 G s1 v1 v2 (1 : Int32)
set_option maxHeartbeats 4000000 in
set_option maxRecDepth 100000 in
theorem k_ar_adjustDecimal {l : Launch} {E : Ev} {σ : CS} : CtV wdC l E y_ar_adjustDecimal bc_ar_adjustDecimal 5 none (rmm 1 24) [.ref (eO E 5)] σ (ar_adjustDecimal σ ) := ct_v (by decide) (Nat.le_of_ble_eq_true rfl) (fun X hE _ G => by subst hE; exact b_ar_adjustDecimal G σ )
def ar_extendSign_27 (σ : CS) (t0 t1 : Int32) : Option (Int32 × CS) :=
bd (re_set σ t1 t0) fun _ s1 =>
bd (re_get s1 (9 : Int32)) fun v1 s2 =>
bd (ar_pass s2 v1 (32768 : Int32)) fun v2 s3 =>
some ((0 : Int32), s3)
def ar_extendSign (σ : CS) : Option (Int32 × CS) :=
bd (re_get σ (1 : Int32)) fun v1 s1 =>
if (v1 &&& (128 : Int32)) = 0 then (ar_extendSign_27 s1 (0 : Int32) (0 : Int32)) else (ar_extendSign_27 s1 (255 : Int32) (0 : Int32))
set_option maxHeartbeats 4000000 in
set_option maxRecDepth 100000 in
theorem b_ar_extendSign_27 {X : Cx} (G : Gd X bc_ar_extendSign 1 R_ari none (rmm 2 46)) (σ : CS) (t0 t1 : Int32) : J wdC X (QV wdC X) 1 27 [(0, .ref (eO (xE X) 5))] [.int t0, .int t1, .ref (eO (xE X) 3)] σ (ar_extendSign_27 σ t0 t1) := by
  unfold ar_extendSign_27
  refine j_Vv2 G k_re_set mw_re_set lk_ar_re_set rc_reg d_ar_extendSign_27 rfl (Nat.le_of_ble_eq_true rfl) (fun _ s1 => ?_)
  refine j_aload_n 0 G d_ar_extendSign_30 rfl rfl ?_
  refine j_aload_n 0 G d_ar_extendSign_31 rfl rfl ?_
  refine g_ar_registers G d_ar_extendSign_32 ?_
  refine j_bipush G d_ar_extendSign_35 cb_9 ?_
  refine j_Vi1 G k_re_get mw_re_get lk_ar_re_get rc_reg d_ar_extendSign_37 rfl (Nat.le_of_ble_eq_true rfl) (fun v1 s2 => ?_)
  refine j_ldc G d_ar_extendSign_40 kc_ar_65 ?_
  refine j_Vi2 G k_ar_pass mw_ar_pass lk_ar_ar_pass rc_ari d_ar_extendSign_42 rfl (Nat.le_of_ble_eq_true rfl) (fun v2 s3 => ?_)
  refine j_pop G d_ar_extendSign_45 rfl ?_
  exact j_vret G d_ar_extendSign_46
set_option maxHeartbeats 4000000 in
set_option maxRecDepth 100000 in
theorem b_ar_extendSign {X : Cx} (G : Gd X bc_ar_extendSign 1 R_ari none (rmm 2 46)) (σ : CS) : J wdC X (QV wdC X) 1 0 [(0, .ref (eO (xE X) 5))] [] σ (ar_extendSign σ ) := by
  unfold ar_extendSign
  refine j_aload_n 0 G d_ar_extendSign_0 rfl rfl ?_
  refine g_ar_registers G d_ar_extendSign_1 ?_
  refine j_iconst G d_ar_extendSign_4 ci_0 ?_
  refine j_aload_n 0 G d_ar_extendSign_5 rfl rfl ?_
  refine g_ar_registers G d_ar_extendSign_6 ?_
  refine j_iconst G d_ar_extendSign_9 ci_1 ?_
  refine j_Vi1 G k_re_get mw_re_get lk_ar_re_get rc_reg d_ar_extendSign_10 rfl (Nat.le_of_ble_eq_true rfl) (fun v1 s1 => ?_)
  refine j_sipush G d_ar_extendSign_13 cs_128 ?_
  refine j_iand G d_ar_extendSign_16 ?_
  refine j_ifeq G d_ar_extendSign_17 (tgt := 26) rfl ?_ ?_
  · refine j_iconst G d_ar_extendSign_26 ci_0 ?_
    exact b_ar_extendSign_27 G s1 (0 : Int32) (0 : Int32)
  · refine j_sipush G d_ar_extendSign_20 cs_255 ?_
    refine j_goto G d_ar_extendSign_23 (tgt := 27) rfl ?_
    exact b_ar_extendSign_27 G s1 (255 : Int32) (0 : Int32)
set_option maxHeartbeats 4000000 in
set_option maxRecDepth 100000 in
theorem k_ar_extendSign {l : Launch} {E : Ev} {σ : CS} : CtV wdC l E y_ar_extendSign bc_ar_extendSign 1 none (rmm 2 46) [.ref (eO E 5)] σ (ar_extendSign σ ) := ct_v (by decide) (Nat.le_of_ble_eq_true rfl) (fun X hE _ G => by subst hE; exact b_ar_extendSign G σ )
def ar_multiply_63 (σ : CS) (t0 t1 : Int32) : Option (Int32 × CS) :=
bd (re_turn σ t1 t0) fun _ s1 =>
some ((0 : Int32), s1)
def ar_multiply_42 (σ : CS) (l1 t0 t1 : Int32) : Option (Int32 × CS) :=
bd (re_turn σ t1 t0) fun _ s1 =>
if (l1 &&& (128 : Int32)) = 0 then (ar_multiply_63 s1 (0 : Int32) (1 : Int32)) else (ar_multiply_63 s1 (1 : Int32) (1 : Int32))
def ar_multiply (σ : CS) : Option (Int32 × CS) :=
bd (re_get σ (0 : Int32)) fun v1 s1 =>
bd (re_get s1 (1 : Int32)) fun v2 s2 =>
nm (v1 * v2) fun v3 =>
bd (re_set s2 (9 : Int32) v3) fun _ s3 =>
if v3 = 0 then (ar_multiply_42 s3 v3 (1 : Int32) (4 : Int32)) else (ar_multiply_42 s3 v3 (0 : Int32) (4 : Int32))
set_option maxHeartbeats 4000000 in
set_option maxRecDepth 100000 in
theorem b_ar_multiply_63 {X : Cx} (G : Gd X bc_ar_multiply 2 R_ari none (rmm 1 23)) (σ : CS) (t0 t1 : Int32) : J wdC X (QV wdC X) 2 63 [(0, .ref (eO (xE X) 5))] [.int t0, .int t1, .ref (eO (xE X) 3)] σ (ar_multiply_63 σ t0 t1) := by
  unfold ar_multiply_63
  refine j_Vv2 G k_re_turn mw_re_turn lk_ar_re_turn rc_reg d_ar_multiply_63 rfl (Nat.le_of_ble_eq_true rfl) (fun _ s1 => ?_)
  exact j_vret G d_ar_multiply_66
set_option maxHeartbeats 4000000 in
set_option maxRecDepth 100000 in
theorem b_ar_multiply_42 {X : Cx} (G : Gd X bc_ar_multiply 2 R_ari none (rmm 1 23)) (σ : CS) (l1 t0 t1 : Int32) : J wdC X (QV wdC X) 2 42 [(0, .ref (eO (xE X) 5)), (1, .int l1)] [.int t0, .int t1, .ref (eO (xE X) 3)] σ (ar_multiply_42 σ l1 t0 t1) := by
  unfold ar_multiply_42
  refine j_Vv2 G k_re_turn mw_re_turn lk_ar_re_turn rc_reg d_ar_multiply_42 rfl (Nat.le_of_ble_eq_true rfl) (fun _ s1 => ?_)
  refine j_aload_n 0 G d_ar_multiply_45 rfl rfl ?_
  refine g_ar_registers G d_ar_multiply_46 ?_
  refine j_iconst G d_ar_multiply_49 ci_1 ?_
  refine j_iload_n 1 G d_ar_multiply_50 rfl rfl ?_
  refine j_sipush G d_ar_multiply_51 cs_128 ?_
  refine j_iand G d_ar_multiply_54 ?_
  refine j_ifeq G d_ar_multiply_55 (tgt := 62) rfl ?_ ?_
  · refine j_iconst G d_ar_multiply_62 ci_0 ?_
    refine j_sub [0] (L1 := [(0, .ref (eO (xE X) 5))]) rfl ?_
    exact b_ar_multiply_63 G s1 (0 : Int32) (1 : Int32)
  · refine j_iconst G d_ar_multiply_58 ci_1 ?_
    refine j_goto G d_ar_multiply_59 (tgt := 63) rfl ?_
    refine j_sub [0] (L1 := [(0, .ref (eO (xE X) 5))]) rfl ?_
    exact b_ar_multiply_63 G s1 (1 : Int32) (1 : Int32)
set_option maxHeartbeats 4000000 in
set_option maxRecDepth 100000 in
theorem b_ar_multiply {X : Cx} (G : Gd X bc_ar_multiply 2 R_ari none (rmm 1 23)) (σ : CS) : J wdC X (QV wdC X) 2 0 [(0, .ref (eO (xE X) 5))] [] σ (ar_multiply σ ) := by
  unfold ar_multiply
  refine j_aload_n 0 G d_ar_multiply_0 rfl rfl ?_
  refine g_ar_registers G d_ar_multiply_1 ?_
  refine j_iconst G d_ar_multiply_4 ci_0 ?_
  refine j_Vi1 G k_re_get mw_re_get lk_ar_re_get rc_reg d_ar_multiply_5 rfl (Nat.le_of_ble_eq_true rfl) (fun v1 s1 => ?_)
  refine j_aload_n 0 G d_ar_multiply_8 rfl rfl ?_
  refine g_ar_registers G d_ar_multiply_9 ?_
  refine j_iconst G d_ar_multiply_12 ci_1 ?_
  refine j_Vi1 G k_re_get mw_re_get lk_ar_re_get rc_reg d_ar_multiply_13 rfl (Nat.le_of_ble_eq_true rfl) (fun v2 s2 => ?_)
  refine j_imul G d_ar_multiply_16 ?_
  refine j_nm (fun v3 => ?_)
  refine j_istore_n [1, 0] (L1 := [(0, .ref (eO (xE X) 5)), (1, .int v3)]) G d_ar_multiply_17 rfl (by decide) rfl ?_
  refine j_aload_n 0 G d_ar_multiply_18 rfl rfl ?_
  refine g_ar_registers G d_ar_multiply_19 ?_
  refine j_bipush G d_ar_multiply_22 cb_9 ?_
  refine j_iload_n 1 G d_ar_multiply_24 rfl rfl ?_
  refine j_Vv2 G k_re_set mw_re_set lk_ar_re_set rc_reg d_ar_multiply_25 rfl (Nat.le_of_ble_eq_true rfl) (fun _ s3 => ?_)
  refine j_aload_n 0 G d_ar_multiply_28 rfl rfl ?_
  refine g_ar_registers G d_ar_multiply_29 ?_
  refine j_iconst G d_ar_multiply_32 ci_4 ?_
  refine j_iload_n 1 G d_ar_multiply_33 rfl rfl ?_
  refine j_ifne G d_ar_multiply_34 (tgt := 41) rfl ?_ ?_
  · refine j_iconst G d_ar_multiply_41 ci_0 ?_
    exact b_ar_multiply_42 G s3 v3 (0 : Int32) (4 : Int32)
  · refine j_iconst G d_ar_multiply_37 ci_1 ?_
    refine j_goto G d_ar_multiply_38 (tgt := 42) rfl ?_
    exact b_ar_multiply_42 G s3 v3 (1 : Int32) (4 : Int32)
set_option maxHeartbeats 4000000 in
set_option maxRecDepth 100000 in
theorem k_ar_multiply {l : Launch} {E : Ev} {σ : CS} : CtV wdC l E y_ar_multiply bc_ar_multiply 2 none (rmm 1 23) [.ref (eO E 5)] σ (ar_multiply σ ) := ct_v (by decide) (Nat.le_of_ble_eq_true rfl) (fun X hE _ G => by subst hE; exact b_ar_multiply G σ )
def tc_reset (σ : CS) : Option (Int32 × CS) :=
bd (re_set σ (7 : Int32) (0 : Int32)) fun _ s1 =>
bd (re_turn s1 (80 : Int32) (1 : Int32)) fun _ s2 =>
ns (cy_arm s2 (0 : Int32)) fun s3 =>
ns (cy_due s3 (0 : Int32)) fun s4 =>
ns (cy_wai s4 (0 : Int32)) fun s5 =>
bd (me_wordAt s5 (65534 : Int32)) fun v1 s6 =>
bd (re_set s6 (6 : Int32) v1) fun _ s7 =>
some ((0 : Int32), s7)
set_option maxHeartbeats 4000000 in
set_option maxRecDepth 100000 in
theorem b_tc_reset {X : Cx} (G : Gd X bc_tc_reset 1 R_chip none (rmm 1 23)) (σ : CS) : J wdC X (QV wdC X) 1 0 [(0, .ref (eO (xE X) 0))] [] σ (tc_reset σ ) := by
  unfold tc_reset
  refine j_aload_n 0 G d_tc_reset_0 rfl rfl ?_
  refine g_tc_registers G d_tc_reset_1 ?_
  refine j_bipush G d_tc_reset_4 cb_7 ?_
  refine j_iconst G d_tc_reset_6 ci_0 ?_
  refine j_Vv2 G k_re_set mw_re_set lk_tc_re_set rc_reg d_tc_reset_7 rfl (Nat.le_of_ble_eq_true rfl) (fun _ s1 => ?_)
  refine j_aload_n 0 G d_tc_reset_10 rfl rfl ?_
  refine g_tc_registers G d_tc_reset_11 ?_
  refine j_bipush G d_tc_reset_14 cb_80 ?_
  refine j_iconst G d_tc_reset_16 ci_1 ?_
  refine j_Vv2 G k_re_turn mw_re_turn lk_tc_re_turn rc_reg d_tc_reset_17 rfl (Nat.le_of_ble_eq_true rfl) (fun _ s2 => ?_)
  refine j_aload_n 0 G d_tc_reset_20 rfl rfl ?_
  refine j_iconst G d_tc_reset_21 ci_0 ?_
  refine pc_tc_nmiArmed (by decide) G d_tc_reset_22 ?_
  refine j_ns (fun s3 => ?_)
  refine j_aload_n 0 G d_tc_reset_25 rfl rfl ?_
  refine j_iconst G d_tc_reset_26 ci_0 ?_
  refine pc_tc_nmiDue (by decide) G d_tc_reset_27 ?_
  refine j_ns (fun s4 => ?_)
  refine j_aload_n 0 G d_tc_reset_30 rfl rfl ?_
  refine j_iconst G d_tc_reset_31 ci_0 ?_
  refine p_tc_waiting G d_tc_reset_32 ?_
  refine j_ns (fun s5 => ?_)
  refine j_aload_n 0 G d_tc_reset_35 rfl rfl ?_
  refine g_tc_registers G d_tc_reset_36 ?_
  refine j_bipush G d_tc_reset_39 cb_6 ?_
  refine j_aload_n 0 G d_tc_reset_41 rfl rfl ?_
  refine g_tc_memory G d_tc_reset_42 ?_
  refine j_ldc G d_tc_reset_45 kc_tc_55 ?_
  refine j_Vi1 G k_me_wordAt mw_me_wordAt lk_tc_me_wordAt rc_mem d_tc_reset_47 rfl (Nat.le_of_ble_eq_true rfl) (fun v1 s6 => ?_)
  refine j_Vv2 G k_re_set mw_re_set lk_tc_re_set rc_reg d_tc_reset_50 rfl (Nat.le_of_ble_eq_true rfl) (fun _ s7 => ?_)
  exact j_vret G d_tc_reset_53
set_option maxHeartbeats 4000000 in
set_option maxRecDepth 100000 in
theorem k_tc_reset {l : Launch} {E : Ev} {σ : CS} : CtV wdC l E y_tc_reset bc_tc_reset 1 none (rmm 1 23) [.ref (eO E 0)] σ (tc_reset σ ) := ct_v (by decide) (Nat.le_of_ble_eq_true rfl) (fun X hE _ G => by subst hE; exact b_tc_reset G σ )
def tc_poke_18 (σ : CS) : Option (Int32 × CS) :=
some ((0 : Int32), σ)
def tc_poke (σ : CS) (a1 a2 : Int32) : Option (Int32 × CS) :=
bd (me_has σ a1) fun v1 s1 =>
if v1 = 0 then (tc_poke_18 s1) else (if a2 < 0 then (tc_poke_18 s1) else (if a2 ≤ (255 : Int32) then (bd (me_setByte s1 a1 a2) fun _ s2 =>
some ((1 : Int32), s2)) else (tc_poke_18 s1)))
set_option maxHeartbeats 4000000 in
set_option maxRecDepth 100000 in
theorem b_tc_poke_18 {X : Cx} (G : Gd X bc_tc_poke 3 R_chip (some .boolean) (rmm 1 22)) (σ : CS) : J wdC X (QI wdC X) 3 18 [(0, .ref (eO (xE X) 0))] [] σ (tc_poke_18 σ ) := by
  unfold tc_poke_18
  refine j_iconst G d_tc_poke_18 ci_0 ?_
  exact j_zretc (by decide) G d_tc_poke_19
set_option maxHeartbeats 4000000 in
set_option maxRecDepth 100000 in
theorem b_tc_poke {X : Cx} (G : Gd X bc_tc_poke 3 R_chip (some .boolean) (rmm 1 22)) (σ : CS) (a1 a2 : Int32) : J wdC X (QI wdC X) 3 0 [(0, .ref (eO (xE X) 0)), (1, .int a1), (2, .int a2)] [] σ (tc_poke σ a1 a2) := by
  unfold tc_poke
  refine j_iload_n 1 G d_tc_poke_0 rfl rfl ?_
  refine j_Si1 G k_me_has mw_me_has lk_tc_me_has d_tc_poke_1 rfl (Nat.le_of_ble_eq_true rfl) (fun v1 s1 => ?_)
  refine j_ifeq G d_tc_poke_4 (tgt := 18) rfl ?_ ?_
  · refine j_sub [0] (L1 := [(0, .ref (eO (xE X) 0))]) rfl ?_
    exact b_tc_poke_18 G s1
  · refine j_iload_n 2 G d_tc_poke_7 rfl rfl ?_
    refine j_iflt G d_tc_poke_8 (tgt := 18) rfl ?_ ?_
    · refine j_sub [0] (L1 := [(0, .ref (eO (xE X) 0))]) rfl ?_
      exact b_tc_poke_18 G s1
    · refine j_iload_n 2 G d_tc_poke_11 rfl rfl ?_
      refine j_sipush G d_tc_poke_12 cs_255 ?_
      refine j_icle G d_tc_poke_15 (tgt := 20) rfl ?_ ?_
      · refine j_aload_n 0 G d_tc_poke_20 rfl rfl ?_
        refine g_tc_memory G d_tc_poke_21 ?_
        refine j_iload_n 1 G d_tc_poke_24 rfl rfl ?_
        refine j_iload_n 2 G d_tc_poke_25 rfl rfl ?_
        refine j_Vv2 G k_me_setByte mw_me_setByte lk_tc_me_setByte rc_mem d_tc_poke_26 rfl (Nat.le_of_ble_eq_true rfl) (fun _ s2 => ?_)
        refine j_iconst G d_tc_poke_29 ci_1 ?_
        exact j_zretc (by decide) G d_tc_poke_30
      · refine j_sub [0] (L1 := [(0, .ref (eO (xE X) 0))]) rfl ?_
        exact b_tc_poke_18 G s1
set_option maxHeartbeats 4000000 in
set_option maxRecDepth 100000 in
theorem k_tc_poke {l : Launch} {E : Ev} {σ : CS} {a1 a2 : Int32} : CtI wdC l E y_tc_poke bc_tc_poke 3 (some .boolean) (rmm 1 22) [.ref (eO E 0), .int a1, .int a2] σ (tc_poke σ a1 a2) := ct_i (by decide) (Nat.le_of_ble_eq_true rfl) (fun X hE _ G => by subst hE; exact b_tc_poke G σ a1 a2)
def tc_load_10 (σ : CS) : Option (Int32 × CS) :=
some ((0 : Int32), σ)
def tc_load_35 : Nat → CS → Int32 → Int32 → Int32 → Int32 → Option (Int32 × CS)
  | 0, _, _, _, _, _ => none
  | fu + 1, σ, l1, l2, l3, l4 =>
if l3 ≤ l4 then (some ((1 : Int32), σ)) else (bd (me_setByte σ (l1 + l4) (l2 >>> (((8 : Int32) * ((l3 - (1 : Int32)) - l4)) &&& 31))) fun _ s1 =>
tc_load_35 fu s1 l1 l2 l3 (l4 + Int32.ofInt 1))
def tc_load_30 (σ : CS) : Option (Int32 × CS) :=
some ((0 : Int32), σ)
def tc_load (σ : CS) (a1 a2 a3 : Int32) : Option (Int32 × CS) :=
if a3 < (1 : Int32) then (tc_load_10 σ) else (if a3 ≤ (4 : Int32) then (bd (me_has σ a1) fun v1 s1 =>
if v1 = 0 then (tc_load_30 s1) else (bd (me_has s1 ((a1 + a3) - (1 : Int32))) fun v2 s2 =>
if v2 = 0 then (tc_load_30 s2) else (tc_load_35 5 s2 a1 a2 a3 (0 : Int32)))) else (tc_load_10 σ))
set_option maxHeartbeats 4000000 in
set_option maxRecDepth 100000 in
theorem b_tc_load_10 {X : Cx} (G : Gd X bc_tc_load 5 R_chip (some .boolean) (rmm 1 22)) (σ : CS) : J wdC X (QI wdC X) 5 10 [(0, .ref (eO (xE X) 0))] [] σ (tc_load_10 σ ) := by
  unfold tc_load_10
  refine j_iconst G d_tc_load_10 ci_0 ?_
  exact j_zretc (by decide) G d_tc_load_11
set_option maxHeartbeats 4000000 in
set_option maxRecDepth 100000 in
theorem b_tc_load_35 {X : Cx} (G : Gd X bc_tc_load 5 R_chip (some .boolean) (rmm 1 22)) : ∀ (fu : Nat) (σ : CS) (l1 l2 l3 l4 : Int32), J wdC X (QI wdC X) 5 35 [(0, .ref (eO (xE X) 0)), (1, .int l1), (2, .int l2), (3, .int l3), (4, .int l4)] [] σ (tc_load_35 fu σ l1 l2 l3 l4) := by
  intro fu
  induction fu with
  | zero => intro σ l1 l2 l3 l4 o ho; cases ho
  | succ fu ih =>
    intro σ l1 l2 l3 l4
    unfold tc_load_35
    refine j_iload 4 G d_tc_load_35 rfl ?_
    refine j_iload_n 3 G d_tc_load_37 rfl rfl ?_
    refine j_icge G d_tc_load_38 (tgt := 69) rfl ?_ ?_
    · refine j_iconst G d_tc_load_69 ci_1 ?_
      exact j_zretc (by decide) G d_tc_load_70
    · refine j_aload_n 0 G d_tc_load_41 rfl rfl ?_
      refine g_tc_memory G d_tc_load_42 ?_
      refine j_iload_n 1 G d_tc_load_45 rfl rfl ?_
      refine j_iload 4 G d_tc_load_46 rfl ?_
      refine j_iadd G d_tc_load_48 ?_
      refine j_iload_n 2 G d_tc_load_49 rfl rfl ?_
      refine j_bipush G d_tc_load_50 cb_8 ?_
      refine j_iload_n 3 G d_tc_load_52 rfl rfl ?_
      refine j_iconst G d_tc_load_53 ci_1 ?_
      refine j_isub G d_tc_load_54 ?_
      refine j_iload 4 G d_tc_load_55 rfl ?_
      refine j_isub G d_tc_load_57 ?_
      refine j_imul G d_tc_load_58 ?_
      refine j_ishr G d_tc_load_59 ?_
      refine j_Vv2 G k_me_setByte mw_me_setByte lk_tc_me_setByte rc_mem d_tc_load_60 rfl (Nat.le_of_ble_eq_true rfl) (fun _ s1 => ?_)
      refine j_iinc 4 [1, 2, 3, 4, 0] (L1 := [(0, .ref (eO (xE X) 0)), (1, .int l1), (2, .int l2), (3, .int l3), (4, .int (l4 + Int32.ofInt 1))]) G d_tc_load_63 rfl rfl (by decide) rfl ?_
      refine j_goto G d_tc_load_66 (tgt := 35) rfl ?_
      exact ih s1 l1 l2 l3 (l4 + Int32.ofInt 1)
set_option maxHeartbeats 4000000 in
set_option maxRecDepth 100000 in
theorem b_tc_load_30 {X : Cx} (G : Gd X bc_tc_load 5 R_chip (some .boolean) (rmm 1 22)) (σ : CS) : J wdC X (QI wdC X) 5 30 [(0, .ref (eO (xE X) 0))] [] σ (tc_load_30 σ ) := by
  unfold tc_load_30
  refine j_iconst G d_tc_load_30 ci_0 ?_
  exact j_zretc (by decide) G d_tc_load_31
set_option maxHeartbeats 4000000 in
set_option maxRecDepth 100000 in
theorem b_tc_load {X : Cx} (G : Gd X bc_tc_load 5 R_chip (some .boolean) (rmm 1 22)) (σ : CS) (a1 a2 a3 : Int32) : J wdC X (QI wdC X) 5 0 [(0, .ref (eO (xE X) 0)), (1, .int a1), (2, .int a2), (3, .int a3)] [] σ (tc_load σ a1 a2 a3) := by
  unfold tc_load
  refine j_iload_n 3 G d_tc_load_0 rfl rfl ?_
  refine j_iconst G d_tc_load_1 ci_1 ?_
  refine j_iclt G d_tc_load_2 (tgt := 10) rfl ?_ ?_
  · refine j_sub [0] (L1 := [(0, .ref (eO (xE X) 0))]) rfl ?_
    exact b_tc_load_10 G σ
  · refine j_iload_n 3 G d_tc_load_5 rfl rfl ?_
    refine j_iconst G d_tc_load_6 ci_4 ?_
    refine j_icle G d_tc_load_7 (tgt := 12) rfl ?_ ?_
    · refine j_iload_n 1 G d_tc_load_12 rfl rfl ?_
      refine j_Si1 G k_me_has mw_me_has lk_tc_me_has d_tc_load_13 rfl (Nat.le_of_ble_eq_true rfl) (fun v1 s1 => ?_)
      refine j_ifeq G d_tc_load_16 (tgt := 30) rfl ?_ ?_
      · refine j_sub [0] (L1 := [(0, .ref (eO (xE X) 0))]) rfl ?_
        exact b_tc_load_30 G s1
      · refine j_iload_n 1 G d_tc_load_19 rfl rfl ?_
        refine j_iload_n 3 G d_tc_load_20 rfl rfl ?_
        refine j_iadd G d_tc_load_21 ?_
        refine j_iconst G d_tc_load_22 ci_1 ?_
        refine j_isub G d_tc_load_23 ?_
        refine j_Si1 G k_me_has mw_me_has lk_tc_me_has d_tc_load_24 rfl (Nat.le_of_ble_eq_true rfl) (fun v2 s2 => ?_)
        refine j_ifne G d_tc_load_27 (tgt := 32) rfl ?_ ?_
        · refine j_iconst G d_tc_load_32 ci_0 ?_
          refine j_istore [1, 2, 3, 4, 0] (L1 := [(0, .ref (eO (xE X) 0)), (1, .int a1), (2, .int a2), (3, .int a3), (4, .int (0 : Int32))]) G d_tc_load_33 (by decide) rfl ?_
          exact b_tc_load_35 G 5 s2 a1 a2 a3 (0 : Int32)
        · refine j_sub [0] (L1 := [(0, .ref (eO (xE X) 0))]) rfl ?_
          exact b_tc_load_30 G s2
    · refine j_sub [0] (L1 := [(0, .ref (eO (xE X) 0))]) rfl ?_
      exact b_tc_load_10 G σ
set_option maxHeartbeats 4000000 in
set_option maxRecDepth 100000 in
theorem k_tc_load {l : Launch} {E : Ev} {σ : CS} {a1 a2 a3 : Int32} : CtI wdC l E y_tc_load bc_tc_load 5 (some .boolean) (rmm 1 22) [.ref (eO E 0), .int a1, .int a2, .int a3] σ (tc_load σ a1 a2 a3) := ct_i (by decide) (Nat.le_of_ble_eq_true rfl) (fun X hE _ G => by subst hE; exact b_tc_load G σ a1 a2 a3)
def tc_peek_19 (σ : CS) (t0 : Int32) : Option (Int32 × CS) :=
some (t0, σ)
def tc_peek (σ : CS) (a1 : Int32) : Option (Int32 × CS) :=
bd (me_has σ a1) fun v1 s1 =>
if v1 = 0 then (tc_peek_19 s1 (-1 : Int32)) else (bd (me_byteAt s1 a1) fun v2 s2 =>
tc_peek_19 s2 v2)
set_option maxHeartbeats 4000000 in
set_option maxRecDepth 100000 in
theorem b_tc_peek_19 {X : Cx} (G : Gd X bc_tc_peek 2 R_chip (some .int) (rmm 1 21)) (σ : CS) (t0 : Int32) : J wdC X (QI wdC X) 2 19 [(0, .ref (eO (xE X) 0))] [.int t0] σ (tc_peek_19 σ t0) := by
  unfold tc_peek_19
  exact j_iret G d_tc_peek_19
set_option maxHeartbeats 4000000 in
set_option maxRecDepth 100000 in
theorem b_tc_peek {X : Cx} (G : Gd X bc_tc_peek 2 R_chip (some .int) (rmm 1 21)) (σ : CS) (a1 : Int32) : J wdC X (QI wdC X) 2 0 [(0, .ref (eO (xE X) 0)), (1, .int a1)] [] σ (tc_peek σ a1) := by
  unfold tc_peek
  refine j_iload_n 1 G d_tc_peek_0 rfl rfl ?_
  refine j_Si1 G k_me_has mw_me_has lk_tc_me_has d_tc_peek_1 rfl (Nat.le_of_ble_eq_true rfl) (fun v1 s1 => ?_)
  refine j_ifeq G d_tc_peek_4 (tgt := 18) rfl ?_ ?_
  · refine j_iconst G d_tc_peek_18 ci_m1 ?_
    refine j_sub [0] (L1 := [(0, .ref (eO (xE X) 0))]) rfl ?_
    exact b_tc_peek_19 G s1 (-1 : Int32)
  · refine j_aload_n 0 G d_tc_peek_7 rfl rfl ?_
    refine g_tc_memory G d_tc_peek_8 ?_
    refine j_iload_n 1 G d_tc_peek_11 rfl rfl ?_
    refine j_Vi1 G k_me_byteAt mw_me_byteAt lk_tc_me_byteAt rc_mem d_tc_peek_12 rfl (Nat.le_of_ble_eq_true rfl) (fun v2 s2 => ?_)
    refine j_goto G d_tc_peek_15 (tgt := 19) rfl ?_
    refine j_sub [0] (L1 := [(0, .ref (eO (xE X) 0))]) rfl ?_
    exact b_tc_peek_19 G s2 v2
set_option maxHeartbeats 4000000 in
set_option maxRecDepth 100000 in
theorem k_tc_peek {l : Launch} {E : Ev} {σ : CS} {a1 : Int32} : CtI wdC l E y_tc_peek bc_tc_peek 2 (some .int) (rmm 1 21) [.ref (eO E 0), .int a1] σ (tc_peek σ a1) := ct_i (by decide) (Nat.le_of_ble_eq_true rfl) (fun X hE _ G => by subst hE; exact b_tc_peek G σ a1)
end
