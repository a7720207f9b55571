def R_chip : String := "TwinStackChip"
def R_mem : String := "TwinStackChip$Memory"
def R_reg : String := "TwinStackChip$Registers"
def R_ari : String := "TwinStackChip$Arithmetic"
def R_mod : String := "TwinStackChipModel"
def F_chip : u_T := fun k => match k with
  | 0 => ("TwinStackChip", "memory", "LTwinStackChip$Memory;", true)
  | 1 => ("TwinStackChip", "registers", "LTwinStackChip$Registers;", true)
  | 2 => ("TwinStackChip", "arithmetic", "LTwinStackChip$Arithmetic;", true)
  | 3 => ("TwinStackChip", "levels", "[I", true)
  | 4 => ("TwinStackChip", "nmiArmed", "Z", false)
  | 5 => ("TwinStackChip", "nmiDue", "Z", false)
  | _ => ("TwinStackChip", "waiting", "I", false)
def t_chip : Nat → FieldType := fun k => match k with
  | 0 => .object "TwinStackChip$Memory"
  | 1 => .object "TwinStackChip$Registers"
  | 2 => .object "TwinStackChip$Arithmetic"
  | 3 => .array .int
  | 4 => .boolean
  | 5 => .boolean
  | _ => .int
def F_mem : u_T := fun k => match k with
  | _ => ("TwinStackChip$Memory", "bytes", "[I", true)
def t_mem : Nat → FieldType := fun k => match k with
  | _ => .array .int
def F_reg : u_T := fun k => match k with
  | _ => ("TwinStackChip$Registers", "values", "[I", true)
def t_reg : Nat → FieldType := fun k => match k with
  | _ => .array .int
def F_ari : u_T := fun k => match k with
  | _ => ("TwinStackChip$Arithmetic", "registers", "LTwinStackChip$Registers;", true)
def t_ari : Nat → FieldType := fun k => match k with
  | _ => .object "TwinStackChip$Registers"
def F_mod : u_T := fun k => match k with
  | 0 => ("TwinStackChipModel", "memory", "[I", false)
  | 1 => ("TwinStackChipModel", "\x72", "[I", false)
  | 2 => ("TwinStackChipModel", "before", "[I", false)
  | 3 => ("TwinStackChipModel", "undefined", "Z", false)
  | 4 => ("TwinStackChipModel", "waits", "I", false)
  | 5 => ("TwinStackChipModel", "armed", "Z", false)
  | 6 => ("TwinStackChipModel", "due", "Z", false)
  | _ => ("TwinStackChipModel", "level", "[I", false)
def t_mod : Nat → FieldType := fun k => match k with
  | 0 => .array .int
  | 1 => .array .int
  | 2 => .array .int
  | 3 => .boolean
  | 4 => .int
  | 5 => .boolean
  | 6 => .boolean
  | _ => .array .int
abbrev vwCl : List vw_C := [(R_chip, F_chip, 7), (R_mem, F_mem, 1), (R_reg, F_reg, 1), (R_ari, F_ari, 1), (R_mod, F_mod, 8)]
theorem n_chip : ∀ a, a < 7 → ∀ b, b < 7 → a ≠ b → (F_chip a).2.1 ≠ (F_chip b).2.1 := by decide +kernel
theorem t_chip_ok : ∀ k, k < 7 → parseFieldDescriptor (F_chip k).2.2.1 = some (t_chip k) := by decide +kernel
theorem n_mem : ∀ a, a < 1 → ∀ b, b < 1 → a ≠ b → (F_mem a).2.1 ≠ (F_mem b).2.1 := by decide +kernel
theorem t_mem_ok : ∀ k, k < 1 → parseFieldDescriptor (F_mem k).2.2.1 = some (t_mem k) := by decide +kernel
theorem n_reg : ∀ a, a < 1 → ∀ b, b < 1 → a ≠ b → (F_reg a).2.1 ≠ (F_reg b).2.1 := by decide +kernel
theorem t_reg_ok : ∀ k, k < 1 → parseFieldDescriptor (F_reg k).2.2.1 = some (t_reg k) := by decide +kernel
theorem n_ari : ∀ a, a < 1 → ∀ b, b < 1 → a ≠ b → (F_ari a).2.1 ≠ (F_ari b).2.1 := by decide +kernel
theorem t_ari_ok : ∀ k, k < 1 → parseFieldDescriptor (F_ari k).2.2.1 = some (t_ari k) := by decide +kernel
theorem n_mod : ∀ a, a < 8 → ∀ b, b < 8 → a ≠ b → (F_mod a).2.1 ≠ (F_mod b).2.1 := by decide +kernel
theorem t_mod_ok : ∀ k, k < 8 → parseFieldDescriptor (F_mod k).2.2.1 = some (t_mod k) := by decide +kernel
def tnm (k : Nat) : String := match k with
  | 0 => "LINE_VECTORS"
  | 1 => "SOFTWARE_VECTORS"
  | 2 => "DEFINED_COLUMNS"
  | 3 => "TRANSFER_REGISTERS"
  | _ => "ADDRESS_REGISTERS"
def tln (k : Nat) : Nat := match k with
  | 0 => 3
  | 1 => 3
  | 2 => 48
  | 3 => 16
  | _ => 4
def tvs (k : Nat) : List Int32 := match k with
  | 0 => [65532, 65526, 65528]
  | 1 => [65530, 65524, 65522]
  | 2 => [63449, 63180, 65535, 48895, 47065, 47065, 63449, 63449, 32639, 65535, 65535, 65535, 24447, 65535, 65535, 65535, 0, 0, 65534, 32768, 0, 0, 0, 0, 20488, 53256, 53256, 53256, 16384, 49152, 49152, 49152, 0, 0, 0, 32768, 0, 0, 0, 0, 4104, 4104, 4104, 4104, 0, 0, 0, 0]
  | 3 => [9, 2, 3, 4, 5, 6, -1, -1, 0, 1, 8, 7, -1, -1, -1, -1]
  | _ => [2, 3, 5, 4]
def tvl (k j : Nat) : Int32 := (tvs k).getD j 0
abbrev CS : Type := (Nat → Int32) × (Nat → Int32) × (Nat → Int32) × Int32 × Int32 × Int32
abbrev MS : Type := (Nat → Int32) × (Nat → Int32) × (Nat → Int32) × (Nat → Int32) × Int32 × Int32 × Int32 × Int32
def cx_mem (σ : CS) : Nat → Int32 := σ.1
def cy_mem (σ : CS) (v : Nat → Int32) : CS := (v, σ.2)
def cx_reg (σ : CS) : Nat → Int32 := σ.2.1
def cy_reg (σ : CS) (v : Nat → Int32) : CS := (σ.1, v, σ.2.2)
def cx_lev (σ : CS) : Nat → Int32 := σ.2.2.1
def cy_lev (σ : CS) (v : Nat → Int32) : CS := (σ.1, σ.2.1, v, σ.2.2.2)
def cx_arm (σ : CS) : Int32 := σ.2.2.2.1
def cy_arm (σ : CS) (v : Int32) : CS := (σ.1, σ.2.1, σ.2.2.1, v, σ.2.2.2.2)
def cx_due (σ : CS) : Int32 := σ.2.2.2.2.1
def cy_due (σ : CS) (v : Int32) : CS := (σ.1, σ.2.1, σ.2.2.1, σ.2.2.2.1, v, σ.2.2.2.2.2)
def cx_wai (σ : CS) : Int32 := σ.2.2.2.2.2
def cy_wai (σ : CS) (v : Int32) : CS := (σ.1, σ.2.1, σ.2.2.1, σ.2.2.2.1, σ.2.2.2.2.1, v)
def mx_mem (σ : MS) : Nat → Int32 := σ.1
def my_mem (σ : MS) (v : Nat → Int32) : MS := (v, σ.2)
def mx_reg (σ : MS) : Nat → Int32 := σ.2.1
def my_reg (σ : MS) (v : Nat → Int32) : MS := (σ.1, v, σ.2.2)
def mx_bef (σ : MS) : Nat → Int32 := σ.2.2.1
def my_bef (σ : MS) (v : Nat → Int32) : MS := (σ.1, σ.2.1, v, σ.2.2.2)
def mx_lev (σ : MS) : Nat → Int32 := σ.2.2.2.1
def my_lev (σ : MS) (v : Nat → Int32) : MS := (σ.1, σ.2.1, σ.2.2.1, v, σ.2.2.2.2)
def mx_und (σ : MS) : Int32 := σ.2.2.2.2.1
def my_und (σ : MS) (v : Int32) : MS := (σ.1, σ.2.1, σ.2.2.1, σ.2.2.2.1, v, σ.2.2.2.2.2)
def mx_wai (σ : MS) : Int32 := σ.2.2.2.2.2.1
def my_wai (σ : MS) (v : Int32) : MS := (σ.1, σ.2.1, σ.2.2.1, σ.2.2.2.1, σ.2.2.2.2.1, v, σ.2.2.2.2.2.2)
def mx_arm (σ : MS) : Int32 := σ.2.2.2.2.2.2.1
def my_arm (σ : MS) (v : Int32) : MS := (σ.1, σ.2.1, σ.2.2.1, σ.2.2.2.1, σ.2.2.2.2.1, σ.2.2.2.2.2.1, v, σ.2.2.2.2.2.2.2)
def mx_due (σ : MS) : Int32 := σ.2.2.2.2.2.2.2
def my_due (σ : MS) (v : Int32) : MS := (σ.1, σ.2.1, σ.2.2.1, σ.2.2.2.1, σ.2.2.2.2.1, σ.2.2.2.2.2.1, σ.2.2.2.2.2.2.1, v)
def wdC (ad : Nat → Nat) (cA : ClassId) (σ : CS) : va_W := [(ad 0, .inr (0, [.ref (ad 1), .ref (ad 3), .ref (ad 5), .ref (ad 6), .int (cx_arm σ), .int (cx_due σ), .int (cx_wai σ)])), (ad 1, .inr (1, [.ref (ad 2)])), (ad 2, .inl (cA, 4096, .inl (cx_mem σ))), (ad 3, .inr (2, [.ref (ad 4)])), (ad 4, .inl (cA, 9, .inl (cx_reg σ))), (ad 5, .inr (3, [.ref (ad 3)])), (ad 6, .inl (cA, 3, .inl (cx_lev σ)))]
def wdM (ad : Nat → Nat) (cA : ClassId) (σ : MS) : va_W := [(ad 0, .inr (4, [.ref (ad 1), .ref (ad 2), .ref (ad 3), .int (mx_und σ), .int (mx_wai σ), .int (mx_arm σ), .int (mx_due σ), .ref (ad 4)])), (ad 1, .inl (cA, 4096, .inl (mx_mem σ))), (ad 2, .inl (cA, 9, .inl (mx_reg σ))), (ad 3, .inl (cA, 9, .inl (mx_bef σ))), (ad 4, .inl (cA, 3, .inl (mx_lev σ)))]
abbrev bc_me_has : ByteArray := prog_3_method_2_code
def y_me_has : MethodName := ⟨R_mem, "has", "(I)Z"⟩
abbrev bc_me_byteAt : ByteArray := prog_3_method_3_code
def y_me_byteAt : MethodName := ⟨R_mem, "byteAt", "(I)I"⟩
abbrev bc_me_setByte : ByteArray := prog_3_method_4_code
def y_me_setByte : MethodName := ⟨R_mem, "setByte", "(II)V"⟩
abbrev bc_me_wordAt : ByteArray := prog_3_method_5_code
def y_me_wordAt : MethodName := ⟨R_mem, "wordAt", "(I)I"⟩
abbrev bc_me_setWord : ByteArray := prog_3_method_6_code
def y_me_setWord : MethodName := ⟨R_mem, "setWord", "(II)V"⟩
abbrev bc_re_get : ByteArray := prog_4_method_2_code
def y_re_get : MethodName := ⟨R_reg, "get", "(I)I"⟩
abbrev bc_re_set : ByteArray := prog_4_method_3_code
def y_re_set : MethodName := ⟨R_reg, "set", "(II)V"⟩
abbrev bc_re_has : ByteArray := prog_4_method_4_code
def y_re_has : MethodName := ⟨R_reg, "has", "(I)Z"⟩
abbrev bc_re_turn : ByteArray := prog_4_method_5_code
def y_re_turn : MethodName := ⟨R_reg, "turn", "(IZ)V"⟩
abbrev bc_re_carry : ByteArray := prog_4_method_6_code
def y_re_carry : MethodName := ⟨R_reg, "carry", "()I"⟩
abbrev bc_re_setSign : ByteArray := prog_4_method_7_code
def y_re_setSign : MethodName := ⟨R_reg, "setSign", "(II)V"⟩
abbrev bc_re_meetsEven : ByteArray := prog_4_method_9_code
def y_re_meetsEven : MethodName := ⟨R_reg, "meetsEven", "(I)Z"⟩
abbrev bc_re_meets : ByteArray := prog_4_method_8_code
def y_re_meets : MethodName := ⟨R_reg, "meets", "(I)Z"⟩
abbrev bc_ar_pass : ByteArray := prog_2_method_2_code
def y_ar_pass : MethodName := ⟨R_ari, "pass", "(II)I"⟩
abbrev bc_ar_add : ByteArray := prog_2_method_3_code
def y_ar_add : MethodName := ⟨R_ari, "add", "(IIII)I"⟩
abbrev bc_ar_subtract : ByteArray := prog_2_method_4_code
def y_ar_subtract : MethodName := ⟨R_ari, "subtract", "(IIII)I"⟩
abbrev bc_ar_addByte : ByteArray := prog_2_method_6_code
def y_ar_addByte : MethodName := ⟨R_ari, "addByte", "(III)I"⟩
abbrev bc_ar_combine : ByteArray := prog_2_method_5_code
def y_ar_combine : MethodName := ⟨R_ari, "combine", "(III)I"⟩
abbrev bc_ar_shiftDown : ByteArray := prog_2_method_8_code
def y_ar_shiftDown : MethodName := ⟨R_ari, "shiftDown", "(II)I"⟩
abbrev bc_ar_shiftUp : ByteArray := prog_2_method_9_code
def y_ar_shiftUp : MethodName := ⟨R_ari, "shiftUp", "(II)I"⟩
abbrev bc_ar_count : ByteArray := prog_2_method_10_code
def y_ar_count : MethodName := ⟨R_ari, "count", "(IZ)I"⟩
abbrev bc_ar_alter : ByteArray := prog_2_method_7_code
def y_ar_alter : MethodName := ⟨R_ari, "alter", "(II)I"⟩
abbrev bc_ar_adjustDecimal : ByteArray := prog_2_method_11_code
def y_ar_adjustDecimal : MethodName := ⟨R_ari, "adjustDecimal", "()V"⟩
abbrev bc_ar_extendSign : ByteArray := prog_2_method_12_code
def y_ar_extendSign : MethodName := ⟨R_ari, "extendSign", "()V"⟩
abbrev bc_ar_multiply : ByteArray := prog_2_method_13_code
def y_ar_multiply : MethodName := ⟨R_ari, "multiply", "()V"⟩
abbrev bc_tc_reset : ByteArray := prog_1_method_2_code
def y_tc_reset : MethodName := ⟨R_chip, "reset", "()V"⟩
abbrev bc_tc_poke : ByteArray := prog_1_method_3_code
def y_tc_poke : MethodName := ⟨R_chip, "poke", "(II)Z"⟩
abbrev bc_tc_load : ByteArray := prog_1_method_4_code
def y_tc_load : MethodName := ⟨R_chip, "load", "(III)Z"⟩
abbrev bc_tc_peek : ByteArray := prog_1_method_5_code
def y_tc_peek : MethodName := ⟨R_chip, "peek", "(I)I"⟩
abbrev bc_tc_lineToServe : ByteArray := prog_1_method_14_code
def y_tc_lineToServe : MethodName := ⟨R_chip, "lineToServe", "()I"⟩
abbrev bc_tc_pushWord : ByteArray := prog_1_method_46_code
def y_tc_pushWord : MethodName := ⟨R_chip, "pushWord", "(II)V"⟩
abbrev bc_tc_otherStack : ByteArray := prog_1_method_51_code
def y_tc_otherStack : MethodName := ⟨R_chip, "otherStack", "(I)I"⟩
abbrev bc_tc_pushByte : ByteArray := prog_1_method_45_code
def y_tc_pushByte : MethodName := ⟨R_chip, "pushByte", "(II)V"⟩
abbrev bc_tc_pushRegisters : ByteArray := prog_1_method_49_code
def y_tc_pushRegisters : MethodName := ⟨R_chip, "pushRegisters", "(II)V"⟩
abbrev bc_tc_serve : ByteArray := prog_1_method_15_code
def y_tc_serve : MethodName := ⟨R_chip, "serve", "(I)V"⟩
abbrev bc_tc_staysWaiting : ByteArray := prog_1_method_16_code
def y_tc_staysWaiting : MethodName := ⟨R_chip, "staysWaiting", "()Z"⟩
abbrev bc_tc_fetchByte : ByteArray := prog_1_method_19_code
def y_tc_fetchByte : MethodName := ⟨R_chip, "fetchByte", "()I"⟩
abbrev bc_tc_fetchCode : ByteArray := prog_1_method_21_code
def y_tc_fetchCode : MethodName := ⟨R_chip, "fetchCode", "()I"⟩
abbrev bc_tc_isIndexed : ByteArray := prog_1_method_23_code
def y_tc_isIndexed : MethodName := ⟨R_chip, "isIndexed", "(I)Z"⟩
abbrev bc_tc_isDefinedPostbyte : ByteArray := prog_1_method_24_code
def y_tc_isDefinedPostbyte : MethodName := ⟨R_chip, "isDefinedPostbyte", "(I)Z"⟩
abbrev bc_tc_isDefinedPair : ByteArray := prog_1_method_25_code
def y_tc_isDefinedPair : MethodName := ⟨R_chip, "isDefinedPair", "(II)Z"⟩
abbrev bc_tc_isDefined : ByteArray := prog_1_method_22_code
def y_tc_isDefined : MethodName := ⟨R_chip, "isDefined", "(I)Z"⟩
abbrev bc_tc_fetchWord : ByteArray := prog_1_method_20_code
def y_tc_fetchWord : MethodName := ⟨R_chip, "fetchWord", "()I"⟩
abbrev bc_tc_goOn : ByteArray := prog_1_method_35_code
def y_tc_goOn : MethodName := ⟨R_chip, "goOn", "(I)V"⟩
abbrev bc_tc_callRelative : ByteArray := prog_1_method_36_code
def y_tc_callRelative : MethodName := ⟨R_chip, "callRelative", "(I)V"⟩
abbrev bc_tc_become : ByteArray := prog_1_method_42_code
def y_tc_become : MethodName := ⟨R_chip, "become", "(II)V"⟩
abbrev bc_tc_exchange : ByteArray := prog_1_method_43_code
def y_tc_exchange : MethodName := ⟨R_chip, "exchange", "(I)V"⟩
abbrev bc_tc_transfer : ByteArray := prog_1_method_44_code
def y_tc_transfer : MethodName := ⟨R_chip, "transfer", "(I)V"⟩
abbrev bc_tc_executeRowOne : ByteArray := prog_1_method_30_code
def y_tc_executeRowOne : MethodName := ⟨R_chip, "executeRowOne", "(I)V"⟩
abbrev bc_tc_branch : ByteArray := prog_1_method_34_code
def y_tc_branch : MethodName := ⟨R_chip, "branch", "(II)V"⟩
abbrev bc_tc_addressByKind : ByteArray := prog_1_method_28_code
def y_tc_addressByKind : MethodName := ⟨R_chip, "addressByKind", "(II)I"⟩
abbrev bc_tc_indexedAddress : ByteArray := prog_1_method_27_code
def y_tc_indexedAddress : MethodName := ⟨R_chip, "indexedAddress", "()I"⟩
abbrev bc_tc_takeAddress : ByteArray := prog_1_method_32_code
def y_tc_takeAddress : MethodName := ⟨R_chip, "takeAddress", "(II)V"⟩
abbrev bc_tc_pullByte : ByteArray := prog_1_method_47_code
def y_tc_pullByte : MethodName := ⟨R_chip, "pullByte", "(I)I"⟩
abbrev bc_tc_pullWord : ByteArray := prog_1_method_48_code
def y_tc_pullWord : MethodName := ⟨R_chip, "pullWord", "(I)I"⟩
abbrev bc_tc_pullRegisters : ByteArray := prog_1_method_50_code
def y_tc_pullRegisters : MethodName := ⟨R_chip, "pullRegisters", "(II)V"⟩
abbrev bc_tc_returnFromInterrupt : ByteArray := prog_1_method_52_code
def y_tc_returnFromInterrupt : MethodName := ⟨R_chip, "returnFromInterrupt", "()V"⟩
abbrev bc_tc_waitForInterrupt : ByteArray := prog_1_method_18_code
def y_tc_waitForInterrupt : MethodName := ⟨R_chip, "waitForInterrupt", "(I)V"⟩
abbrev bc_tc_softwareInterrupt : ByteArray := prog_1_method_17_code
def y_tc_softwareInterrupt : MethodName := ⟨R_chip, "softwareInterrupt", "(I)V"⟩
abbrev bc_tc_executeRowThree : ByteArray := prog_1_method_31_code
def y_tc_executeRowThree : MethodName := ⟨R_chip, "executeRowThree", "(II)V"⟩
abbrev bc_tc_operandAddress : ByteArray := prog_1_method_26_code
def y_tc_operandAddress : MethodName := ⟨R_chip, "operandAddress", "(II)I"⟩
abbrev bc_tc_alterMemory : ByteArray := prog_1_method_33_code
def y_tc_alterMemory : MethodName := ⟨R_chip, "alterMemory", "(II)V"⟩
abbrev bc_tc_executeLowerHalf : ByteArray := prog_1_method_29_code
def y_tc_executeLowerHalf : MethodName := ⟨R_chip, "executeLowerHalf", "(I)V"⟩
abbrev bc_tc_call : ByteArray := prog_1_method_37_code
def y_tc_call : MethodName := ⟨R_chip, "call", "(I)V"⟩
abbrev bc_tc_wordRegister : ByteArray := prog_1_method_41_code
def y_tc_wordRegister : MethodName := ⟨R_chip, "wordRegister", "(IIZ)I"⟩
abbrev bc_tc_operateOnWord : ByteArray := prog_1_method_40_code
def y_tc_operateOnWord : MethodName := ⟨R_chip, "operateOnWord", "(IIZI)V"⟩
abbrev bc_tc_operateOnByte : ByteArray := prog_1_method_39_code
def y_tc_operateOnByte : MethodName := ⟨R_chip, "operateOnByte", "(III)V"⟩
abbrev bc_tc_executeUpperHalf : ByteArray := prog_1_method_38_code
def y_tc_executeUpperHalf : MethodName := ⟨R_chip, "executeUpperHalf", "(I)V"⟩
abbrev bc_tc_step : ByteArray := prog_1_method_6_code
def y_tc_step : MethodName := ⟨R_chip, "step", "()I"⟩
abbrev bc_tc_run : ByteArray := prog_1_method_7_code
def y_tc_run : MethodName := ⟨R_chip, "run", "(I)I"⟩
abbrev bc_tc_setLine : ByteArray := prog_1_method_8_code
def y_tc_setLine : MethodName := ⟨R_chip, "setLine", "(II)Z"⟩
abbrev bc_tc_isFaceRegister : ByteArray := prog_1_method_13_code
def y_tc_isFaceRegister : MethodName := ⟨R_chip, "isFaceRegister", "(I)Z"⟩
abbrev bc_tc_reg : ByteArray := prog_1_method_9_code
def y_tc_reg : MethodName := ⟨R_chip, "reg", "(I)I"⟩
abbrev bc_tc_put : ByteArray := prog_1_method_10_code
def y_tc_put : MethodName := ⟨R_chip, "put", "(II)Z"⟩
abbrev bc_tc_waits : ByteArray := prog_1_method_11_code
def y_tc_waits : MethodName := ⟨R_chip, "waits", "()I"⟩
abbrev bc_tc_lines : ByteArray := prog_1_method_12_code
def y_tc_lines : MethodName := ⟨R_chip, "lines", "()I"⟩
abbrev bc_mo_in : ByteArray := prog_6_method_2_code
def y_mo_in : MethodName := ⟨R_mod, "in", "(III)Z"⟩
abbrev bc_mo_read : ByteArray := prog_6_method_3_code
def y_mo_read : MethodName := ⟨R_mod, "read", "(I)I"⟩
abbrev bc_mo_readWord : ByteArray := prog_6_method_4_code
def y_mo_readWord : MethodName := ⟨R_mod, "readWord", "(I)I"⟩
abbrev bc_mo_write : ByteArray := prog_6_method_5_code
def y_mo_write : MethodName := ⟨R_mod, "write", "(II)V"⟩
abbrev bc_mo_writeWord : ByteArray := prog_6_method_6_code
def y_mo_writeWord : MethodName := ⟨R_mod, "writeWord", "(II)V"⟩
abbrev bc_mo_next : ByteArray := prog_6_method_7_code
def y_mo_next : MethodName := ⟨R_mod, "next", "()I"⟩
abbrev bc_mo_nextWord : ByteArray := prog_6_method_8_code
def y_mo_nextWord : MethodName := ⟨R_mod, "nextWord", "()I"⟩
abbrev bc_mo_signed : ByteArray := prog_6_method_9_code
def y_mo_signed : MethodName := ⟨R_mod, "signed", "(I)I"⟩
abbrev bc_mo_d : ByteArray := prog_6_method_10_code
def y_mo_d : MethodName := ⟨R_mod, "d", "()I"⟩
abbrev bc_mo_setD : ByteArray := prog_6_method_11_code
def y_mo_setD : MethodName := ⟨R_mod, "setD", "(I)V"⟩
abbrev bc_mo_flag : ByteArray := prog_6_method_12_code
def y_mo_flag : MethodName := ⟨R_mod, "flag", "(IZ)V"⟩
abbrev bc_mo_is : ByteArray := prog_6_method_13_code
def y_mo_is : MethodName := ⟨R_mod, "is", "(I)Z"⟩
abbrev bc_mo_shows : ByteArray := prog_6_method_14_code
def y_mo_shows : MethodName := ⟨R_mod, "shows", "(IZ)V"⟩
abbrev bc_mo_moved : ByteArray := prog_6_method_15_code
def y_mo_moved : MethodName := ⟨R_mod, "moved", "(IZ)I"⟩
abbrev bc_mo_asSigned : ByteArray := prog_6_method_16_code
def y_mo_asSigned : MethodName := ⟨R_mod, "asSigned", "(IZ)I"⟩
abbrev bc_mo_hasRoom : ByteArray := prog_6_method_17_code
def y_mo_hasRoom : MethodName := ⟨R_mod, "hasRoom", "(IZ)Z"⟩
abbrev bc_mo_plus : ByteArray := prog_6_method_18_code
def y_mo_plus : MethodName := ⟨R_mod, "plus", "(IIIZ)I"⟩
abbrev bc_mo_less : ByteArray := prog_6_method_19_code
def y_mo_less : MethodName := ⟨R_mod, "less", "(IIIZ)I"⟩
abbrev bc_mo_byPostbyte : ByteArray := prog_6_method_20_code
def y_mo_byPostbyte : MethodName := ⟨R_mod, "byPostbyte", "()I"⟩
abbrev bc_mo_address : ByteArray := prog_6_method_21_code
def y_mo_address : MethodName := ⟨R_mod, "address", "(I)I"⟩
abbrev bc_mo_operand : ByteArray := prog_6_method_22_code
def y_mo_operand : MethodName := ⟨R_mod, "operand", "(I)I"⟩
abbrev bc_mo_wordOperand : ByteArray := prog_6_method_23_code
def y_mo_wordOperand : MethodName := ⟨R_mod, "wordOperand", "(I)I"⟩
abbrev bc_mo_push : ByteArray := prog_6_method_24_code
def y_mo_push : MethodName := ⟨R_mod, "push", "(II)V"⟩
abbrev bc_mo_pushWord : ByteArray := prog_6_method_25_code
def y_mo_pushWord : MethodName := ⟨R_mod, "pushWord", "(II)V"⟩
abbrev bc_mo_pull : ByteArray := prog_6_method_26_code
def y_mo_pull : MethodName := ⟨R_mod, "pull", "(I)I"⟩
abbrev bc_mo_pullWord : ByteArray := prog_6_method_27_code
def y_mo_pullWord : MethodName := ⟨R_mod, "pullWord", "(I)I"⟩
abbrev bc_mo_pushAll : ByteArray := prog_6_method_28_code
def y_mo_pushAll : MethodName := ⟨R_mod, "pushAll", "(II)V"⟩
abbrev bc_mo_pullAll : ByteArray := prog_6_method_29_code
def y_mo_pullAll : MethodName := ⟨R_mod, "pullAll", "(II)V"⟩
abbrev bc_mo_onByte : ByteArray := prog_6_method_30_code
def y_mo_onByte : MethodName := ⟨R_mod, "onByte", "(II)I"⟩
abbrev bc_mo_oneByte : ByteArray := prog_6_method_31_code
def y_mo_oneByte : MethodName := ⟨R_mod, "oneByte", "(I)V"⟩
abbrev bc_mo_accumulate : ByteArray := prog_6_method_32_code
def y_mo_accumulate : MethodName := ⟨R_mod, "accumulate", "(II)V"⟩
abbrev bc_mo_compare : ByteArray := prog_6_method_33_code
def y_mo_compare : MethodName := ⟨R_mod, "compare", "(III)V"⟩
abbrev bc_mo_loadWord : ByteArray := prog_6_method_34_code
def y_mo_loadWord : MethodName := ⟨R_mod, "loadWord", "(II)V"⟩
abbrev bc_mo_storeWord : ByteArray := prog_6_method_35_code
def y_mo_storeWord : MethodName := ⟨R_mod, "storeWord", "(II)V"⟩
abbrev bc_mo_addWord : ByteArray := prog_6_method_36_code
def y_mo_addWord : MethodName := ⟨R_mod, "addWord", "(IZ)V"⟩
abbrev bc_mo_call : ByteArray := prog_6_method_37_code
def y_mo_call : MethodName := ⟨R_mod, "call", "(I)V"⟩
abbrev bc_mo_upper : ByteArray := prog_6_method_38_code
def y_mo_upper : MethodName := ⟨R_mod, "upper", "(I)V"⟩
abbrev bc_mo_holds : ByteArray := prog_6_method_39_code
def y_mo_holds : MethodName := ⟨R_mod, "holds", "(I)Z"⟩
abbrev bc_mo_branch : ByteArray := prog_6_method_40_code
def y_mo_branch : MethodName := ⟨R_mod, "branch", "(IZ)V"⟩
abbrev bc_mo_adjust : ByteArray := prog_6_method_41_code
def y_mo_adjust : MethodName := ⟨R_mod, "adjust", "()V"⟩
abbrev bc_mo_named : ByteArray := prog_6_method_42_code
def y_mo_named : MethodName := ⟨R_mod, "named", "(I)I"⟩
abbrev bc_mo_get : ByteArray := prog_6_method_43_code
def y_mo_get : MethodName := ⟨R_mod, "get", "(I)I"⟩
abbrev bc_mo_set : ByteArray := prog_6_method_44_code
def y_mo_set : MethodName := ⟨R_mod, "set", "(II)V"⟩
abbrev bc_mo_exchange : ByteArray := prog_6_method_45_code
def y_mo_exchange : MethodName := ⟨R_mod, "exchange", "(Z)V"⟩
abbrev bc_mo_lea : ByteArray := prog_6_method_46_code
def y_mo_lea : MethodName := ⟨R_mod, "lea", "(I)V"⟩
abbrev bc_mo_pushState : ByteArray := prog_6_method_47_code
def y_mo_pushState : MethodName := ⟨R_mod, "pushState", "()V"⟩
abbrev bc_mo_trap : ByteArray := prog_6_method_48_code
def y_mo_trap : MethodName := ⟨R_mod, "trap", "(IZ)V"⟩
abbrev bc_mo_multiply : ByteArray := prog_6_method_49_code
def y_mo_multiply : MethodName := ⟨R_mod, "multiply", "()V"⟩
abbrev bc_mo_back : ByteArray := prog_6_method_50_code
def y_mo_back : MethodName := ⟨R_mod, "back", "()V"⟩
abbrev bc_mo_last : ByteArray := prog_6_method_52_code
def y_mo_last : MethodName := ⟨R_mod, "last", "(I)V"⟩
abbrev bc_mo_middle : ByteArray := prog_6_method_51_code
def y_mo_middle : MethodName := ⟨R_mod, "middle", "(I)V"⟩
abbrev bc_mo_behindTen : ByteArray := prog_6_method_53_code
def y_mo_behindTen : MethodName := ⟨R_mod, "behindTen", "(I)V"⟩
abbrev bc_mo_behindEleven : ByteArray := prog_6_method_54_code
def y_mo_behindEleven : MethodName := ⟨R_mod, "behindEleven", "(I)V"⟩
abbrev bc_mo_instruct : ByteArray := prog_6_method_55_code
def y_mo_instruct : MethodName := ⟨R_mod, "instruct", "()Z"⟩
abbrev bc_mo_interrupt : ByteArray := prog_6_method_56_code
def y_mo_interrupt : MethodName := ⟨R_mod, "interrupt", "(I)V"⟩
abbrev bc_mo_step : ByteArray := prog_6_method_57_code
def y_mo_step : MethodName := ⟨R_mod, "step", "()I"⟩
abbrev bc_mo_run : ByteArray := prog_6_method_58_code
def y_mo_run : MethodName := ⟨R_mod, "run", "(I)I"⟩
abbrev bc_mo_reset : ByteArray := prog_6_method_59_code
def y_mo_reset : MethodName := ⟨R_mod, "reset", "()V"⟩
abbrev bc_mo_poke : ByteArray := prog_6_method_60_code
def y_mo_poke : MethodName := ⟨R_mod, "poke", "(II)Z"⟩
abbrev bc_mo_load : ByteArray := prog_6_method_61_code
def y_mo_load : MethodName := ⟨R_mod, "load", "(III)Z"⟩
abbrev bc_mo_peek : ByteArray := prog_6_method_62_code
def y_mo_peek : MethodName := ⟨R_mod, "peek", "(I)I"⟩
abbrev bc_mo_setLine : ByteArray := prog_6_method_63_code
def y_mo_setLine : MethodName := ⟨R_mod, "setLine", "(II)Z"⟩
abbrev bc_mo_reg : ByteArray := prog_6_method_64_code
def y_mo_reg : MethodName := ⟨R_mod, "reg", "(I)I"⟩
abbrev bc_mo_put : ByteArray := prog_6_method_65_code
def y_mo_put : MethodName := ⟨R_mod, "put", "(II)Z"⟩
abbrev bc_mo_waits : ByteArray := prog_6_method_66_code
def y_mo_waits : MethodName := ⟨R_mod, "waits", "()I"⟩
abbrev bc_mo_lines : ByteArray := prog_6_method_67_code
def y_mo_lines : MethodName := ⟨R_mod, "lines", "()I"⟩
abbrev bc_me_init : ByteArray := prog_3_method_1_code
def y_me_init : MethodName := ⟨R_mem, "<init>", "()V"⟩
abbrev bc_re_init : ByteArray := prog_4_method_1_code
def y_re_init : MethodName := ⟨R_reg, "<init>", "()V"⟩
abbrev bc_ar_init : ByteArray := prog_2_method_1_code
def y_ar_init : MethodName := ⟨R_ari, "<init>", "(LTwinStackChip$Registers;)V"⟩
abbrev bc_tc_init : ByteArray := prog_1_method_1_code
def y_tc_init : MethodName := ⟨R_chip, "<init>", "()V"⟩
abbrev bc_mo_init : ByteArray := prog_6_method_1_code
def y_mo_init : MethodName := ⟨R_mod, "<init>", "()V"⟩
theorem cb_m128 : (Int8.ofInt (-128)).toInt32 = (-128 : Int32) := by decide
theorem cb_m13 : (Int8.ofInt (-13)).toInt32 = (-13 : Int32) := by decide
theorem cb_m2 : (Int8.ofInt (-2)).toInt32 = (-2 : Int32) := by decide
theorem cb_6 : (Int8.ofInt 6).toInt32 = (6 : Int32) := by decide
theorem cb_7 : (Int8.ofInt 7).toInt32 = (7 : Int32) := by decide
theorem cb_8 : (Int8.ofInt 8).toInt32 = (8 : Int32) := by decide
theorem cb_9 : (Int8.ofInt 9).toInt32 = (9 : Int32) := by decide
theorem cb_10 : (Int8.ofInt 10).toInt32 = (10 : Int32) := by decide
theorem cb_11 : (Int8.ofInt 11).toInt32 = (11 : Int32) := by decide
theorem cb_12 : (Int8.ofInt 12).toInt32 = (12 : Int32) := by decide
theorem cb_13 : (Int8.ofInt 13).toInt32 = (13 : Int32) := by decide
theorem cb_14 : (Int8.ofInt 14).toInt32 = (14 : Int32) := by decide
theorem cb_15 : (Int8.ofInt 15).toInt32 = (15 : Int32) := by decide
theorem cb_16 : (Int8.ofInt 16).toInt32 = (16 : Int32) := by decide
theorem cb_17 : (Int8.ofInt 17).toInt32 = (17 : Int32) := by decide
theorem cb_18 : (Int8.ofInt 18).toInt32 = (18 : Int32) := by decide
theorem cb_19 : (Int8.ofInt 19).toInt32 = (19 : Int32) := by decide
theorem cb_22 : (Int8.ofInt 22).toInt32 = (22 : Int32) := by decide
theorem cb_23 : (Int8.ofInt 23).toInt32 = (23 : Int32) := by decide
theorem cb_25 : (Int8.ofInt 25).toInt32 = (25 : Int32) := by decide
theorem cb_26 : (Int8.ofInt 26).toInt32 = (26 : Int32) := by decide
theorem cb_28 : (Int8.ofInt 28).toInt32 = (28 : Int32) := by decide
theorem cb_29 : (Int8.ofInt 29).toInt32 = (29 : Int32) := by decide
theorem cb_30 : (Int8.ofInt 30).toInt32 = (30 : Int32) := by decide
theorem cb_31 : (Int8.ofInt 31).toInt32 = (31 : Int32) := by decide
theorem cb_32 : (Int8.ofInt 32).toInt32 = (32 : Int32) := by decide
theorem cb_33 : (Int8.ofInt 33).toInt32 = (33 : Int32) := by decide
theorem cb_47 : (Int8.ofInt 47).toInt32 = (47 : Int32) := by decide
theorem cb_48 : (Int8.ofInt 48).toInt32 = (48 : Int32) := by decide
theorem cb_49 : (Int8.ofInt 49).toInt32 = (49 : Int32) := by decide
theorem cb_50 : (Int8.ofInt 50).toInt32 = (50 : Int32) := by decide
theorem cb_51 : (Int8.ofInt 51).toInt32 = (51 : Int32) := by decide
theorem cb_52 : (Int8.ofInt 52).toInt32 = (52 : Int32) := by decide
theorem cb_54 : (Int8.ofInt 54).toInt32 = (54 : Int32) := by decide
theorem cb_55 : (Int8.ofInt 55).toInt32 = (55 : Int32) := by decide
theorem cb_57 : (Int8.ofInt 57).toInt32 = (57 : Int32) := by decide
theorem cb_58 : (Int8.ofInt 58).toInt32 = (58 : Int32) := by decide
theorem cb_59 : (Int8.ofInt 59).toInt32 = (59 : Int32) := by decide
theorem cb_60 : (Int8.ofInt 60).toInt32 = (60 : Int32) := by decide
theorem cb_61 : (Int8.ofInt 61).toInt32 = (61 : Int32) := by decide
theorem cb_63 : (Int8.ofInt 63).toInt32 = (63 : Int32) := by decide
theorem cb_64 : (Int8.ofInt 64).toInt32 = (64 : Int32) := by decide
theorem cb_80 : (Int8.ofInt 80).toInt32 = (80 : Int32) := by decide
theorem cb_96 : (Int8.ofInt 96).toInt32 = (96 : Int32) := by decide
theorem cb_127 : (Int8.ofInt 127).toInt32 = (127 : Int32) := by decide
theorem ci_m1 : Int32.ofInt (-1) = (-1 : Int32) := by decide
theorem ci_0 : Int32.ofInt 0 = (0 : Int32) := by decide
theorem ci_1 : Int32.ofInt 1 = (1 : Int32) := by decide
theorem ci_2 : Int32.ofInt 2 = (2 : Int32) := by decide
theorem ci_3 : Int32.ofInt 3 = (3 : Int32) := by decide
theorem ci_4 : Int32.ofInt 4 = (4 : Int32) := by decide
theorem ci_5 : Int32.ofInt 5 = (5 : Int32) := by decide
theorem ci_6 : Int32.ofInt 6 = (6 : Int32) := by decide
theorem ci_96 : Int32.ofInt 96 = (96 : Int32) := by decide
theorem cs_m32768 : (Int16.ofInt (-32768)).toInt32 = (-32768 : Int32) := by decide
theorem cs_128 : (Int16.ofInt 128).toInt32 = (128 : Int32) := by decide
theorem cs_129 : (Int16.ofInt 129).toInt32 = (129 : Int32) := by decide
theorem cs_141 : (Int16.ofInt 141).toInt32 = (141 : Int32) := by decide
theorem cs_159 : (Int16.ofInt 159).toInt32 = (159 : Int32) := by decide
theorem cs_191 : (Int16.ofInt 191).toInt32 = (191 : Int32) := by decide
theorem cs_192 : (Int16.ofInt 192).toInt32 = (192 : Int32) := by decide
theorem cs_254 : (Int16.ofInt 254).toInt32 = (254 : Int32) := by decide
theorem cs_255 : (Int16.ofInt 255).toInt32 = (255 : Int32) := by decide
theorem cs_256 : (Int16.ofInt 256).toInt32 = (256 : Int32) := by decide
theorem cs_512 : (Int16.ofInt 512).toInt32 = (512 : Int32) := by decide
theorem cs_4095 : (Int16.ofInt 4095).toInt32 = (4095 : Int32) := by decide
theorem cs_4096 : (Int16.ofInt 4096).toInt32 = (4096 : Int32) := by decide
theorem cs_15226 : (Int16.ofInt 15226).toInt32 = (15226 : Int32) := by decide
theorem cs_15231 : (Int16.ofInt 15231).toInt32 = (15231 : Int32) := by decide
theorem cs_32767 : (Int16.ofInt 32767).toInt32 = (32767 : Int32) := by decide
