set_option maxRecDepth 20000 in
theorem u_chip : ∀ w ∈ u_ws R_chip F_chip 7, w ∈ CW := fun w hw => cw_mem ((show ∀ w ∈ u_ws R_chip F_chip 7, w ∈ lw_tbl by decide +kernel) w hw) ((show ∀ w ∈ u_ws R_chip F_chip 7, goodWord w = true by decide +kernel) w hw)
set_option maxRecDepth 20000 in
theorem u_mem : ∀ w ∈ u_ws R_mem F_mem 1, w ∈ CW := fun w hw => cw_mem ((show ∀ w ∈ u_ws R_mem F_mem 1, w ∈ lw_tbl by decide +kernel) w hw) ((show ∀ w ∈ u_ws R_mem F_mem 1, goodWord w = true by decide +kernel) w hw)
set_option maxRecDepth 20000 in
theorem u_reg : ∀ w ∈ u_ws R_reg F_reg 1, w ∈ CW := fun w hw => cw_mem ((show ∀ w ∈ u_ws R_reg F_reg 1, w ∈ lw_tbl by decide +kernel) w hw) ((show ∀ w ∈ u_ws R_reg F_reg 1, goodWord w = true by decide +kernel) w hw)
set_option maxRecDepth 20000 in
theorem u_ari : ∀ w ∈ u_ws R_ari F_ari 1, w ∈ CW := fun w hw => cw_mem ((show ∀ w ∈ u_ws R_ari F_ari 1, w ∈ lw_tbl by decide +kernel) w hw) ((show ∀ w ∈ u_ws R_ari F_ari 1, goodWord w = true by decide +kernel) w hw)
set_option maxRecDepth 20000 in
theorem u_mod : ∀ w ∈ u_ws R_mod F_mod 8, w ∈ CW := fun w hw => cw_mem ((show ∀ w ∈ u_ws R_mod F_mod 8, w ∈ lw_tbl by decide +kernel) w hw) ((show ∀ w ∈ u_ws R_mod F_mod 8, goodWord w = true by decide +kernel) w hw)
theorem kc_ar_65 : Cond.constant R_ari 65 (32768 : Int32) ∈ CW := cw_mem (by decide +kernel) rfl
theorem kc_mo_30 : Cond.constant R_mod 30 (65535 : Int32) ∈ CW := cw_mem (by decide +kernel) rfl
theorem kc_mo_35 : Cond.constant R_mod 35 (32768 : Int32) ∈ CW := cw_mem (by decide +kernel) rfl
theorem kc_mo_43 : Cond.constant R_mod 43 (65536 : Int32) ∈ CW := cw_mem (by decide +kernel) rfl
theorem kc_mo_190 : Cond.constant R_mod 190 (65530 : Int32) ∈ CW := cw_mem (by decide +kernel) rfl
theorem kc_mo_194 : Cond.constant R_mod 194 (65524 : Int32) ∈ CW := cw_mem (by decide +kernel) rfl
theorem kc_mo_195 : Cond.constant R_mod 195 (65522 : Int32) ∈ CW := cw_mem (by decide +kernel) rfl
theorem kc_mo_214 : Cond.constant R_mod 214 (65532 : Int32) ∈ CW := cw_mem (by decide +kernel) rfl
theorem kc_mo_215 : Cond.constant R_mod 215 (65526 : Int32) ∈ CW := cw_mem (by decide +kernel) rfl
theorem kc_mo_216 : Cond.constant R_mod 216 (65528 : Int32) ∈ CW := cw_mem (by decide +kernel) rfl
theorem kc_mo_227 : Cond.constant R_mod 227 (65534 : Int32) ∈ CW := cw_mem (by decide +kernel) rfl
theorem kc_re_15 : Cond.constant R_reg 15 (65535 : Int32) ∈ CW := cw_mem (by decide +kernel) rfl
theorem kc_tc_55 : Cond.constant R_chip 55 (65534 : Int32) ∈ CW := cw_mem (by decide +kernel) rfl
theorem kc_tc_138 : Cond.constant R_chip 138 (65535 : Int32) ∈ CW := cw_mem (by decide +kernel) rfl
theorem kc_tc_234 : Cond.constant R_chip 234 (32768 : Int32) ∈ CW := cw_mem (by decide +kernel) rfl
theorem ks_tc_107 : Cond.fieldLink R_chip 107 R_chip (tnm 0) "[I" ∈ CW := cw_mem (by decide +kernel) rfl
theorem ks_tc_110 : Cond.fieldLink R_chip 110 R_chip (tnm 1) "[I" ∈ CW := cw_mem (by decide +kernel) rfl
theorem ks_tc_116 : Cond.fieldLink R_chip 116 R_chip (tnm 2) "[I" ∈ CW := cw_mem (by decide +kernel) rfl
theorem ks_tc_129 : Cond.fieldLink R_chip 129 R_chip (tnm 3) "[I" ∈ CW := cw_mem (by decide +kernel) rfl
theorem ks_tc_179 : Cond.fieldLink R_chip 179 R_chip (tnm 4) "[I" ∈ CW := cw_mem (by decide +kernel) rfl
theorem mw_me_has : MwS y_me_has bc_me_has 1 (some .boolean) 1 := ⟨⟨cw_mem (by decide +kernel) rfl, cw_mem (by decide +kernel) rfl, by decide, by decide, by decide +kernel⟩, cw_mem (by decide +kernel) rfl⟩
theorem mw_me_byteAt : MwV y_me_byteAt bc_me_byteAt 2 (some .int) 1 := ⟨⟨cw_mem (by decide +kernel) rfl, cw_mem (by decide +kernel) rfl, by decide, by decide, by decide +kernel⟩, cw_mem (by decide +kernel) rfl, cw_mem (by decide +kernel) rfl⟩
theorem mw_me_setByte : MwV y_me_setByte bc_me_setByte 3 none 2 := ⟨⟨cw_mem (by decide +kernel) rfl, cw_mem (by decide +kernel) rfl, by decide, by decide, by decide +kernel⟩, cw_mem (by decide +kernel) rfl, cw_mem (by decide +kernel) rfl⟩
theorem mw_me_wordAt : MwV y_me_wordAt bc_me_wordAt 2 (some .int) 1 := ⟨⟨cw_mem (by decide +kernel) rfl, cw_mem (by decide +kernel) rfl, by decide, by decide, by decide +kernel⟩, cw_mem (by decide +kernel) rfl, cw_mem (by decide +kernel) rfl⟩
theorem mw_me_setWord : MwV y_me_setWord bc_me_setWord 3 none 2 := ⟨⟨cw_mem (by decide +kernel) rfl, cw_mem (by decide +kernel) rfl, by decide, by decide, by decide +kernel⟩, cw_mem (by decide +kernel) rfl, cw_mem (by decide +kernel) rfl⟩
theorem mw_re_get : MwV y_re_get bc_re_get 2 (some .int) 1 := ⟨⟨cw_mem (by decide +kernel) rfl, cw_mem (by decide +kernel) rfl, by decide, by decide, by decide +kernel⟩, cw_mem (by decide +kernel) rfl, cw_mem (by decide +kernel) rfl⟩
theorem mw_re_set : MwV y_re_set bc_re_set 4 none 2 := ⟨⟨cw_mem (by decide +kernel) rfl, cw_mem (by decide +kernel) rfl, by decide, by decide, by decide +kernel⟩, cw_mem (by decide +kernel) rfl, cw_mem (by decide +kernel) rfl⟩
theorem mw_re_has : MwV y_re_has bc_re_has 2 (some .boolean) 1 := ⟨⟨cw_mem (by decide +kernel) rfl, cw_mem (by decide +kernel) rfl, by decide, by decide, by decide +kernel⟩, cw_mem (by decide +kernel) rfl, cw_mem (by decide +kernel) rfl⟩
theorem mw_re_turn : MwV y_re_turn bc_re_turn 3 none 2 := ⟨⟨cw_mem (by decide +kernel) rfl, cw_mem (by decide +kernel) rfl, by decide, by decide, by decide +kernel⟩, cw_mem (by decide +kernel) rfl, cw_mem (by decide +kernel) rfl⟩
theorem mw_re_carry : MwV y_re_carry bc_re_carry 1 (some .int) 0 := ⟨⟨cw_mem (by decide +kernel) rfl, cw_mem (by decide +kernel) rfl, by decide, by decide, by decide +kernel⟩, cw_mem (by decide +kernel) rfl, cw_mem (by decide +kernel) rfl⟩
theorem mw_re_setSign : MwV y_re_setSign bc_re_setSign 5 none 2 := ⟨⟨cw_mem (by decide +kernel) rfl, cw_mem (by decide +kernel) rfl, by decide, by decide, by decide +kernel⟩, cw_mem (by decide +kernel) rfl, cw_mem (by decide +kernel) rfl⟩
theorem mw_re_meetsEven : MwV y_re_meetsEven bc_re_meetsEven 3 (some .boolean) 1 := ⟨⟨cw_mem (by decide +kernel) rfl, cw_mem (by decide +kernel) rfl, by decide, by decide, by decide +kernel⟩, cw_mem (by decide +kernel) rfl, cw_mem (by decide +kernel) rfl⟩
theorem mw_re_meets : MwV y_re_meets bc_re_meets 3 (some .boolean) 1 := ⟨⟨cw_mem (by decide +kernel) rfl, cw_mem (by decide +kernel) rfl, by decide, by decide, by decide +kernel⟩, cw_mem (by decide +kernel) rfl, cw_mem (by decide +kernel) rfl⟩
theorem mw_ar_pass : MwV y_ar_pass bc_ar_pass 3 (some .int) 2 := ⟨⟨cw_mem (by decide +kernel) rfl, cw_mem (by decide +kernel) rfl, by decide, by decide, by decide +kernel⟩, cw_mem (by decide +kernel) rfl, cw_mem (by decide +kernel) rfl⟩
theorem mw_ar_add : MwV y_ar_add bc_ar_add 7 (some .int) 4 := ⟨⟨cw_mem (by decide +kernel) rfl, cw_mem (by decide +kernel) rfl, by decide, by decide, by decide +kernel⟩, cw_mem (by decide +kernel) rfl, cw_mem (by decide +kernel) rfl⟩
theorem mw_ar_subtract : MwV y_ar_subtract bc_ar_subtract 7 (some .int) 4 := ⟨⟨cw_mem (by decide +kernel) rfl, cw_mem (by decide +kernel) rfl, by decide, by decide, by decide +kernel⟩, cw_mem (by decide +kernel) rfl, cw_mem (by decide +kernel) rfl⟩
theorem mw_ar_addByte : MwV y_ar_addByte bc_ar_addByte 4 (some .int) 3 := ⟨⟨cw_mem (by decide +kernel) rfl, cw_mem (by decide +kernel) rfl, by decide, by decide, by decide +kernel⟩, cw_mem (by decide +kernel) rfl, cw_mem (by decide +kernel) rfl⟩
theorem mw_ar_combine : MwV y_ar_combine bc_ar_combine 4 (some .int) 3 := ⟨⟨cw_mem (by decide +kernel) rfl, cw_mem (by decide +kernel) rfl, by decide, by decide, by decide +kernel⟩, cw_mem (by decide +kernel) rfl, cw_mem (by decide +kernel) rfl⟩
theorem mw_ar_shiftDown : MwV y_ar_shiftDown bc_ar_shiftDown 4 (some .int) 2 := ⟨⟨cw_mem (by decide +kernel) rfl, cw_mem (by decide +kernel) rfl, by decide, by decide, by decide +kernel⟩, cw_mem (by decide +kernel) rfl, cw_mem (by decide +kernel) rfl⟩
theorem mw_ar_shiftUp : MwV y_ar_shiftUp bc_ar_shiftUp 4 (some .int) 2 := ⟨⟨cw_mem (by decide +kernel) rfl, cw_mem (by decide +kernel) rfl, by decide, by decide, by decide +kernel⟩, cw_mem (by decide +kernel) rfl, cw_mem (by decide +kernel) rfl⟩
theorem mw_ar_count : MwV y_ar_count bc_ar_count 3 (some .int) 2 := ⟨⟨cw_mem (by decide +kernel) rfl, cw_mem (by decide +kernel) rfl, by decide, by decide, by decide +kernel⟩, cw_mem (by decide +kernel) rfl, cw_mem (by decide +kernel) rfl⟩
theorem mw_ar_alter : MwV y_ar_alter bc_ar_alter 3 (some .int) 2 := ⟨⟨cw_mem (by decide +kernel) rfl, cw_mem (by decide +kernel) rfl, by decide, by decide, by decide +kernel⟩, cw_mem (by decide +kernel) rfl, cw_mem (by decide +kernel) rfl⟩
theorem mw_ar_adjustDecimal : MwV y_ar_adjustDecimal bc_ar_adjustDecimal 5 none 0 := ⟨⟨cw_mem (by decide +kernel) rfl, cw_mem (by decide +kernel) rfl, by decide, by decide, by decide +kernel⟩, cw_mem (by decide +kernel) rfl, cw_mem (by decide +kernel) rfl⟩
theorem mw_ar_extendSign : MwV y_ar_extendSign bc_ar_extendSign 1 none 0 := ⟨⟨cw_mem (by decide +kernel) rfl, cw_mem (by decide +kernel) rfl, by decide, by decide, by decide +kernel⟩, cw_mem (by decide +kernel) rfl, cw_mem (by decide +kernel) rfl⟩
theorem mw_ar_multiply : MwV y_ar_multiply bc_ar_multiply 2 none 0 := ⟨⟨cw_mem (by decide +kernel) rfl, cw_mem (by decide +kernel) rfl, by decide, by decide, by decide +kernel⟩, cw_mem (by decide +kernel) rfl, cw_mem (by decide +kernel) rfl⟩
theorem mw_tc_reset : MwV y_tc_reset bc_tc_reset 1 none 0 := ⟨⟨cw_mem (by decide +kernel) rfl, cw_mem (by decide +kernel) rfl, by decide, by decide, by decide +kernel⟩, cw_mem (by decide +kernel) rfl, cw_mem (by decide +kernel) rfl⟩
theorem mw_tc_poke : MwV y_tc_poke bc_tc_poke 3 (some .boolean) 2 := ⟨⟨cw_mem (by decide +kernel) rfl, cw_mem (by decide +kernel) rfl, by decide, by decide, by decide +kernel⟩, cw_mem (by decide +kernel) rfl, cw_mem (by decide +kernel) rfl⟩
theorem mw_tc_load : MwV y_tc_load bc_tc_load 5 (some .boolean) 3 := ⟨⟨cw_mem (by decide +kernel) rfl, cw_mem (by decide +kernel) rfl, by decide, by decide, by decide +kernel⟩, cw_mem (by decide +kernel) rfl, cw_mem (by decide +kernel) rfl⟩
theorem mw_tc_peek : MwV y_tc_peek bc_tc_peek 2 (some .int) 1 := ⟨⟨cw_mem (by decide +kernel) rfl, cw_mem (by decide +kernel) rfl, by decide, by decide, by decide +kernel⟩, cw_mem (by decide +kernel) rfl, cw_mem (by decide +kernel) rfl⟩
theorem mw_tc_lineToServe : MwV y_tc_lineToServe bc_tc_lineToServe 1 (some .int) 0 := ⟨⟨cw_mem (by decide +kernel) rfl, cw_mem (by decide +kernel) rfl, by decide, by decide, by decide +kernel⟩, cw_mem (by decide +kernel) rfl, cw_mem (by decide +kernel) rfl⟩
theorem mw_tc_pushWord : MwV y_tc_pushWord bc_tc_pushWord 3 none 2 := ⟨⟨cw_mem (by decide +kernel) rfl, cw_mem (by decide +kernel) rfl, by decide, by decide, by decide +kernel⟩, cw_mem (by decide +kernel) rfl, cw_mem (by decide +kernel) rfl⟩
theorem mw_tc_otherStack : MwS y_tc_otherStack bc_tc_otherStack 1 (some .int) 1 := ⟨⟨cw_mem (by decide +kernel) rfl, cw_mem (by decide +kernel) rfl, by decide, by decide, by decide +kernel⟩, cw_mem (by decide +kernel) rfl⟩
theorem mw_tc_pushByte : MwV y_tc_pushByte bc_tc_pushByte 3 none 2 := ⟨⟨cw_mem (by decide +kernel) rfl, cw_mem (by decide +kernel) rfl, by decide, by decide, by decide +kernel⟩, cw_mem (by decide +kernel) rfl, cw_mem (by decide +kernel) rfl⟩
theorem mw_tc_pushRegisters : MwV y_tc_pushRegisters bc_tc_pushRegisters 3 none 2 := ⟨⟨cw_mem (by decide +kernel) rfl, cw_mem (by decide +kernel) rfl, by decide, by decide, by decide +kernel⟩, cw_mem (by decide +kernel) rfl, cw_mem (by decide +kernel) rfl⟩
theorem mw_tc_serve : MwV y_tc_serve bc_tc_serve 2 none 1 := ⟨⟨cw_mem (by decide +kernel) rfl, cw_mem (by decide +kernel) rfl, by decide, by decide, by decide +kernel⟩, cw_mem (by decide +kernel) rfl, cw_mem (by decide +kernel) rfl⟩
theorem mw_tc_staysWaiting : MwV y_tc_staysWaiting bc_tc_staysWaiting 1 (some .boolean) 0 := ⟨⟨cw_mem (by decide +kernel) rfl, cw_mem (by decide +kernel) rfl, by decide, by decide, by decide +kernel⟩, cw_mem (by decide +kernel) rfl, cw_mem (by decide +kernel) rfl⟩
theorem mw_tc_fetchByte : MwV y_tc_fetchByte bc_tc_fetchByte 2 (some .int) 0 := ⟨⟨cw_mem (by decide +kernel) rfl, cw_mem (by decide +kernel) rfl, by decide, by decide, by decide +kernel⟩, cw_mem (by decide +kernel) rfl, cw_mem (by decide +kernel) rfl⟩
theorem mw_tc_fetchCode : MwV y_tc_fetchCode bc_tc_fetchCode 2 (some .int) 0 := ⟨⟨cw_mem (by decide +kernel) rfl, cw_mem (by decide +kernel) rfl, by decide, by decide, by decide +kernel⟩, cw_mem (by decide +kernel) rfl, cw_mem (by decide +kernel) rfl⟩
theorem mw_tc_isIndexed : MwS y_tc_isIndexed bc_tc_isIndexed 2 (some .boolean) 1 := ⟨⟨cw_mem (by decide +kernel) rfl, cw_mem (by decide +kernel) rfl, by decide, by decide, by decide +kernel⟩, cw_mem (by decide +kernel) rfl⟩
theorem mw_tc_isDefinedPostbyte : MwS y_tc_isDefinedPostbyte bc_tc_isDefinedPostbyte 2 (some .boolean) 1 := ⟨⟨cw_mem (by decide +kernel) rfl, cw_mem (by decide +kernel) rfl, by decide, by decide, by decide +kernel⟩, cw_mem (by decide +kernel) rfl⟩
theorem mw_tc_isDefinedPair : MwS y_tc_isDefinedPair bc_tc_isDefinedPair 3 (some .boolean) 2 := ⟨⟨cw_mem (by decide +kernel) rfl, cw_mem (by decide +kernel) rfl, by decide, by decide, by decide +kernel⟩, cw_mem (by decide +kernel) rfl⟩
theorem mw_tc_isDefined : MwV y_tc_isDefined bc_tc_isDefined 3 (some .boolean) 1 := ⟨⟨cw_mem (by decide +kernel) rfl, cw_mem (by decide +kernel) rfl, by decide, by decide, by decide +kernel⟩, cw_mem (by decide +kernel) rfl, cw_mem (by decide +kernel) rfl⟩
theorem mw_tc_fetchWord : MwV y_tc_fetchWord bc_tc_fetchWord 2 (some .int) 0 := ⟨⟨cw_mem (by decide +kernel) rfl, cw_mem (by decide +kernel) rfl, by decide, by decide, by decide +kernel⟩, cw_mem (by decide +kernel) rfl, cw_mem (by decide +kernel) rfl⟩
theorem mw_tc_goOn : MwV y_tc_goOn bc_tc_goOn 2 none 1 := ⟨⟨cw_mem (by decide +kernel) rfl, cw_mem (by decide +kernel) rfl, by decide, by decide, by decide +kernel⟩, cw_mem (by decide +kernel) rfl, cw_mem (by decide +kernel) rfl⟩
theorem mw_tc_callRelative : MwV y_tc_callRelative bc_tc_callRelative 2 none 1 := ⟨⟨cw_mem (by decide +kernel) rfl, cw_mem (by decide +kernel) rfl, by decide, by decide, by decide +kernel⟩, cw_mem (by decide +kernel) rfl, cw_mem (by decide +kernel) rfl⟩
theorem mw_tc_become : MwV y_tc_become bc_tc_become 3 none 2 := ⟨⟨cw_mem (by decide +kernel) rfl, cw_mem (by decide +kernel) rfl, by decide, by decide, by decide +kernel⟩, cw_mem (by decide +kernel) rfl, cw_mem (by decide +kernel) rfl⟩
theorem mw_tc_exchange : MwV y_tc_exchange bc_tc_exchange 5 none 1 := ⟨⟨cw_mem (by decide +kernel) rfl, cw_mem (by decide +kernel) rfl, by decide, by decide, by decide +kernel⟩, cw_mem (by decide +kernel) rfl, cw_mem (by decide +kernel) rfl⟩
theorem mw_tc_transfer : MwV y_tc_transfer bc_tc_transfer 2 none 1 := ⟨⟨cw_mem (by decide +kernel) rfl, cw_mem (by decide +kernel) rfl, by decide, by decide, by decide +kernel⟩, cw_mem (by decide +kernel) rfl, cw_mem (by decide +kernel) rfl⟩
theorem mw_tc_executeRowOne : MwV y_tc_executeRowOne bc_tc_executeRowOne 2 none 1 := ⟨⟨cw_mem (by decide +kernel) rfl, cw_mem (by decide +kernel) rfl, by decide, by decide, by decide +kernel⟩, cw_mem (by decide +kernel) rfl, cw_mem (by decide +kernel) rfl⟩
theorem mw_tc_branch : MwV y_tc_branch bc_tc_branch 3 none 2 := ⟨⟨cw_mem (by decide +kernel) rfl, cw_mem (by decide +kernel) rfl, by decide, by decide, by decide +kernel⟩, cw_mem (by decide +kernel) rfl, cw_mem (by decide +kernel) rfl⟩
theorem mw_tc_addressByKind : MwV y_tc_addressByKind bc_tc_addressByKind 5 (some .int) 2 := ⟨⟨cw_mem (by decide +kernel) rfl, cw_mem (by decide +kernel) rfl, by decide, by decide, by decide +kernel⟩, cw_mem (by decide +kernel) rfl, cw_mem (by decide +kernel) rfl⟩
theorem mw_tc_indexedAddress : MwV y_tc_indexedAddress bc_tc_indexedAddress 4 (some .int) 0 := ⟨⟨cw_mem (by decide +kernel) rfl, cw_mem (by decide +kernel) rfl, by decide, by decide, by decide +kernel⟩, cw_mem (by decide +kernel) rfl, cw_mem (by decide +kernel) rfl⟩
theorem mw_tc_takeAddress : MwV y_tc_takeAddress bc_tc_takeAddress 3 none 2 := ⟨⟨cw_mem (by decide +kernel) rfl, cw_mem (by decide +kernel) rfl, by decide, by decide, by decide +kernel⟩, cw_mem (by decide +kernel) rfl, cw_mem (by decide +kernel) rfl⟩
theorem mw_tc_pullByte : MwV y_tc_pullByte bc_tc_pullByte 3 (some .int) 1 := ⟨⟨cw_mem (by decide +kernel) rfl, cw_mem (by decide +kernel) rfl, by decide, by decide, by decide +kernel⟩, cw_mem (by decide +kernel) rfl, cw_mem (by decide +kernel) rfl⟩
theorem mw_tc_pullWord : MwV y_tc_pullWord bc_tc_pullWord 3 (some .int) 1 := ⟨⟨cw_mem (by decide +kernel) rfl, cw_mem (by decide +kernel) rfl, by decide, by decide, by decide +kernel⟩, cw_mem (by decide +kernel) rfl, cw_mem (by decide +kernel) rfl⟩
theorem mw_tc_pullRegisters : MwV y_tc_pullRegisters bc_tc_pullRegisters 3 none 2 := ⟨⟨cw_mem (by decide +kernel) rfl, cw_mem (by decide +kernel) rfl, by decide, by decide, by decide +kernel⟩, cw_mem (by decide +kernel) rfl, cw_mem (by decide +kernel) rfl⟩
theorem mw_tc_returnFromInterrupt : MwV y_tc_returnFromInterrupt bc_tc_returnFromInterrupt 1 none 0 := ⟨⟨cw_mem (by decide +kernel) rfl, cw_mem (by decide +kernel) rfl, by decide, by decide, by decide +kernel⟩, cw_mem (by decide +kernel) rfl, cw_mem (by decide +kernel) rfl⟩
theorem mw_tc_waitForInterrupt : MwV y_tc_waitForInterrupt bc_tc_waitForInterrupt 2 none 1 := ⟨⟨cw_mem (by decide +kernel) rfl, cw_mem (by decide +kernel) rfl, by decide, by decide, by decide +kernel⟩, cw_mem (by decide +kernel) rfl, cw_mem (by decide +kernel) rfl⟩
theorem mw_tc_softwareInterrupt : MwV y_tc_softwareInterrupt bc_tc_softwareInterrupt 2 none 1 := ⟨⟨cw_mem (by decide +kernel) rfl, cw_mem (by decide +kernel) rfl, by decide, by decide, by decide +kernel⟩, cw_mem (by decide +kernel) rfl, cw_mem (by decide +kernel) rfl⟩
theorem mw_tc_executeRowThree : MwV y_tc_executeRowThree bc_tc_executeRowThree 3 none 2 := ⟨⟨cw_mem (by decide +kernel) rfl, cw_mem (by decide +kernel) rfl, by decide, by decide, by decide +kernel⟩, cw_mem (by decide +kernel) rfl, cw_mem (by decide +kernel) rfl⟩
theorem mw_tc_operandAddress : MwV y_tc_operandAddress bc_tc_operandAddress 4 (some .int) 2 := ⟨⟨cw_mem (by decide +kernel) rfl, cw_mem (by decide +kernel) rfl, by decide, by decide, by decide +kernel⟩, cw_mem (by decide +kernel) rfl, cw_mem (by decide +kernel) rfl⟩
theorem mw_tc_alterMemory : MwV y_tc_alterMemory bc_tc_alterMemory 3 none 2 := ⟨⟨cw_mem (by decide +kernel) rfl, cw_mem (by decide +kernel) rfl, by decide, by decide, by decide +kernel⟩, cw_mem (by decide +kernel) rfl, cw_mem (by decide +kernel) rfl⟩
theorem mw_tc_executeLowerHalf : MwV y_tc_executeLowerHalf bc_tc_executeLowerHalf 5 none 1 := ⟨⟨cw_mem (by decide +kernel) rfl, cw_mem (by decide +kernel) rfl, by decide, by decide, by decide +kernel⟩, cw_mem (by decide +kernel) rfl, cw_mem (by decide +kernel) rfl⟩
theorem mw_tc_call : MwV y_tc_call bc_tc_call 2 none 1 := ⟨⟨cw_mem (by decide +kernel) rfl, cw_mem (by decide +kernel) rfl, by decide, by decide, by decide +kernel⟩, cw_mem (by decide +kernel) rfl, cw_mem (by decide +kernel) rfl⟩
theorem mw_tc_wordRegister : MwS y_tc_wordRegister bc_tc_wordRegister 3 (some .int) 3 := ⟨⟨cw_mem (by decide +kernel) rfl, cw_mem (by decide +kernel) rfl, by decide, by decide, by decide +kernel⟩, cw_mem (by decide +kernel) rfl⟩
theorem mw_tc_operateOnWord : MwV y_tc_operateOnWord bc_tc_operateOnWord 10 none 4 := ⟨⟨cw_mem (by decide +kernel) rfl, cw_mem (by decide +kernel) rfl, by decide, by decide, by decide +kernel⟩, cw_mem (by decide +kernel) rfl, cw_mem (by decide +kernel) rfl⟩
theorem mw_tc_operateOnByte : MwV y_tc_operateOnByte bc_tc_operateOnByte 7 none 3 := ⟨⟨cw_mem (by decide +kernel) rfl, cw_mem (by decide +kernel) rfl, by decide, by decide, by decide +kernel⟩, cw_mem (by decide +kernel) rfl, cw_mem (by decide +kernel) rfl⟩
theorem mw_tc_executeUpperHalf : MwV y_tc_executeUpperHalf bc_tc_executeUpperHalf 7 none 1 := ⟨⟨cw_mem (by decide +kernel) rfl, cw_mem (by decide +kernel) rfl, by decide, by decide, by decide +kernel⟩, cw_mem (by decide +kernel) rfl, cw_mem (by decide +kernel) rfl⟩
theorem mw_tc_step : MwV y_tc_step bc_tc_step 4 (some .int) 0 := ⟨⟨cw_mem (by decide +kernel) rfl, cw_mem (by decide +kernel) rfl, by decide, by decide, by decide +kernel⟩, cw_mem (by decide +kernel) rfl, cw_mem (by decide +kernel) rfl⟩
theorem mw_tc_run : MwV y_tc_run bc_tc_run 3 (some .int) 1 := ⟨⟨cw_mem (by decide +kernel) rfl, cw_mem (by decide +kernel) rfl, by decide, by decide, by decide +kernel⟩, cw_mem (by decide +kernel) rfl, cw_mem (by decide +kernel) rfl⟩
theorem mw_tc_setLine : MwV y_tc_setLine bc_tc_setLine 3 (some .boolean) 2 := ⟨⟨cw_mem (by decide +kernel) rfl, cw_mem (by decide +kernel) rfl, by decide, by decide, by decide +kernel⟩, cw_mem (by decide +kernel) rfl, cw_mem (by decide +kernel) rfl⟩
theorem mw_tc_isFaceRegister : MwS y_tc_isFaceRegister bc_tc_isFaceRegister 1 (some .boolean) 1 := ⟨⟨cw_mem (by decide +kernel) rfl, cw_mem (by decide +kernel) rfl, by decide, by decide, by decide +kernel⟩, cw_mem (by decide +kernel) rfl⟩
theorem mw_tc_reg : MwV y_tc_reg bc_tc_reg 2 (some .int) 1 := ⟨⟨cw_mem (by decide +kernel) rfl, cw_mem (by decide +kernel) rfl, by decide, by decide, by decide +kernel⟩, cw_mem (by decide +kernel) rfl, cw_mem (by decide +kernel) rfl⟩
theorem mw_tc_put : MwV y_tc_put bc_tc_put 3 (some .boolean) 2 := ⟨⟨cw_mem (by decide +kernel) rfl, cw_mem (by decide +kernel) rfl, by decide, by decide, by decide +kernel⟩, cw_mem (by decide +kernel) rfl, cw_mem (by decide +kernel) rfl⟩
theorem mw_tc_waits : MwV y_tc_waits bc_tc_waits 1 (some .int) 0 := ⟨⟨cw_mem (by decide +kernel) rfl, cw_mem (by decide +kernel) rfl, by decide, by decide, by decide +kernel⟩, cw_mem (by decide +kernel) rfl, cw_mem (by decide +kernel) rfl⟩
theorem mw_tc_lines : MwV y_tc_lines bc_tc_lines 3 (some .int) 0 := ⟨⟨cw_mem (by decide +kernel) rfl, cw_mem (by decide +kernel) rfl, by decide, by decide, by decide +kernel⟩, cw_mem (by decide +kernel) rfl, cw_mem (by decide +kernel) rfl⟩
theorem mw_mo_in : MwS y_mo_in bc_mo_in 3 (some .boolean) 3 := ⟨⟨cw_mem (by decide +kernel) rfl, cw_mem (by decide +kernel) rfl, by decide, by decide, by decide +kernel⟩, cw_mem (by decide +kernel) rfl⟩
theorem mw_mo_read : MwV y_mo_read bc_mo_read 2 (some .int) 1 := ⟨⟨cw_mem (by decide +kernel) rfl, cw_mem (by decide +kernel) rfl, by decide, by decide, by decide +kernel⟩, cw_mem (by decide +kernel) rfl, cw_mem (by decide +kernel) rfl⟩
theorem mw_mo_readWord : MwV y_mo_readWord bc_mo_readWord 2 (some .int) 1 := ⟨⟨cw_mem (by decide +kernel) rfl, cw_mem (by decide +kernel) rfl, by decide, by decide, by decide +kernel⟩, cw_mem (by decide +kernel) rfl, cw_mem (by decide +kernel) rfl⟩
theorem mw_mo_write : MwV y_mo_write bc_mo_write 3 none 2 := ⟨⟨cw_mem (by decide +kernel) rfl, cw_mem (by decide +kernel) rfl, by decide, by decide, by decide +kernel⟩, cw_mem (by decide +kernel) rfl, cw_mem (by decide +kernel) rfl⟩
theorem mw_mo_writeWord : MwV y_mo_writeWord bc_mo_writeWord 3 none 2 := ⟨⟨cw_mem (by decide +kernel) rfl, cw_mem (by decide +kernel) rfl, by decide, by decide, by decide +kernel⟩, cw_mem (by decide +kernel) rfl, cw_mem (by decide +kernel) rfl⟩
theorem mw_mo_next : MwV y_mo_next bc_mo_next 2 (some .int) 0 := ⟨⟨cw_mem (by decide +kernel) rfl, cw_mem (by decide +kernel) rfl, by decide, by decide, by decide +kernel⟩, cw_mem (by decide +kernel) rfl, cw_mem (by decide +kernel) rfl⟩
theorem mw_mo_nextWord : MwV y_mo_nextWord bc_mo_nextWord 2 (some .int) 0 := ⟨⟨cw_mem (by decide +kernel) rfl, cw_mem (by decide +kernel) rfl, by decide, by decide, by decide +kernel⟩, cw_mem (by decide +kernel) rfl, cw_mem (by decide +kernel) rfl⟩
theorem mw_mo_signed : MwS y_mo_signed bc_mo_signed 1 (some .int) 1 := ⟨⟨cw_mem (by decide +kernel) rfl, cw_mem (by decide +kernel) rfl, by decide, by decide, by decide +kernel⟩, cw_mem (by decide +kernel) rfl⟩
theorem mw_mo_d : MwV y_mo_d bc_mo_d 1 (some .int) 0 := ⟨⟨cw_mem (by decide +kernel) rfl, cw_mem (by decide +kernel) rfl, by decide, by decide, by decide +kernel⟩, cw_mem (by decide +kernel) rfl, cw_mem (by decide +kernel) rfl⟩
theorem mw_mo_setD : MwV y_mo_setD bc_mo_setD 2 none 1 := ⟨⟨cw_mem (by decide +kernel) rfl, cw_mem (by decide +kernel) rfl, by decide, by decide, by decide +kernel⟩, cw_mem (by decide +kernel) rfl, cw_mem (by decide +kernel) rfl⟩
theorem mw_mo_flag : MwV y_mo_flag bc_mo_flag 3 none 2 := ⟨⟨cw_mem (by decide +kernel) rfl, cw_mem (by decide +kernel) rfl, by decide, by decide, by decide +kernel⟩, cw_mem (by decide +kernel) rfl, cw_mem (by decide +kernel) rfl⟩
theorem mw_mo_is : MwV y_mo_is bc_mo_is 2 (some .boolean) 1 := ⟨⟨cw_mem (by decide +kernel) rfl, cw_mem (by decide +kernel) rfl, by decide, by decide, by decide +kernel⟩, cw_mem (by decide +kernel) rfl, cw_mem (by decide +kernel) rfl⟩
theorem mw_mo_shows : MwV y_mo_shows bc_mo_shows 3 none 2 := ⟨⟨cw_mem (by decide +kernel) rfl, cw_mem (by decide +kernel) rfl, by decide, by decide, by decide +kernel⟩, cw_mem (by decide +kernel) rfl, cw_mem (by decide +kernel) rfl⟩
theorem mw_mo_moved : MwV y_mo_moved bc_mo_moved 3 (some .int) 2 := ⟨⟨cw_mem (by decide +kernel) rfl, cw_mem (by decide +kernel) rfl, by decide, by decide, by decide +kernel⟩, cw_mem (by decide +kernel) rfl, cw_mem (by decide +kernel) rfl⟩
theorem mw_mo_asSigned : MwS y_mo_asSigned bc_mo_asSigned 2 (some .int) 2 := ⟨⟨cw_mem (by decide +kernel) rfl, cw_mem (by decide +kernel) rfl, by decide, by decide, by decide +kernel⟩, cw_mem (by decide +kernel) rfl⟩
theorem mw_mo_hasRoom : MwS y_mo_hasRoom bc_mo_hasRoom 2 (some .boolean) 2 := ⟨⟨cw_mem (by decide +kernel) rfl, cw_mem (by decide +kernel) rfl, by decide, by decide, by decide +kernel⟩, cw_mem (by decide +kernel) rfl⟩
theorem mw_mo_plus : MwV y_mo_plus bc_mo_plus 6 (some .int) 4 := ⟨⟨cw_mem (by decide +kernel) rfl, cw_mem (by decide +kernel) rfl, by decide, by decide, by decide +kernel⟩, cw_mem (by decide +kernel) rfl, cw_mem (by decide +kernel) rfl⟩
theorem mw_mo_less : MwV y_mo_less bc_mo_less 6 (some .int) 4 := ⟨⟨cw_mem (by decide +kernel) rfl, cw_mem (by decide +kernel) rfl, by decide, by decide, by decide +kernel⟩, cw_mem (by decide +kernel) rfl, cw_mem (by decide +kernel) rfl⟩
theorem mw_mo_byPostbyte : MwV y_mo_byPostbyte bc_mo_byPostbyte 7 (some .int) 0 := ⟨⟨cw_mem (by decide +kernel) rfl, cw_mem (by decide +kernel) rfl, by decide, by decide, by decide +kernel⟩, cw_mem (by decide +kernel) rfl, cw_mem (by decide +kernel) rfl⟩
theorem mw_mo_address : MwV y_mo_address bc_mo_address 2 (some .int) 1 := ⟨⟨cw_mem (by decide +kernel) rfl, cw_mem (by decide +kernel) rfl, by decide, by decide, by decide +kernel⟩, cw_mem (by decide +kernel) rfl, cw_mem (by decide +kernel) rfl⟩
theorem mw_mo_operand : MwV y_mo_operand bc_mo_operand 2 (some .int) 1 := ⟨⟨cw_mem (by decide +kernel) rfl, cw_mem (by decide +kernel) rfl, by decide, by decide, by decide +kernel⟩, cw_mem (by decide +kernel) rfl, cw_mem (by decide +kernel) rfl⟩
theorem mw_mo_wordOperand : MwV y_mo_wordOperand bc_mo_wordOperand 2 (some .int) 1 := ⟨⟨cw_mem (by decide +kernel) rfl, cw_mem (by decide +kernel) rfl, by decide, by decide, by decide +kernel⟩, cw_mem (by decide +kernel) rfl, cw_mem (by decide +kernel) rfl⟩
theorem mw_mo_push : MwV y_mo_push bc_mo_push 3 none 2 := ⟨⟨cw_mem (by decide +kernel) rfl, cw_mem (by decide +kernel) rfl, by decide, by decide, by decide +kernel⟩, cw_mem (by decide +kernel) rfl, cw_mem (by decide +kernel) rfl⟩
theorem mw_mo_pushWord : MwV y_mo_pushWord bc_mo_pushWord 3 none 2 := ⟨⟨cw_mem (by decide +kernel) rfl, cw_mem (by decide +kernel) rfl, by decide, by decide, by decide +kernel⟩, cw_mem (by decide +kernel) rfl, cw_mem (by decide +kernel) rfl⟩
theorem mw_mo_pull : MwV y_mo_pull bc_mo_pull 3 (some .int) 1 := ⟨⟨cw_mem (by decide +kernel) rfl, cw_mem (by decide +kernel) rfl, by decide, by decide, by decide +kernel⟩, cw_mem (by decide +kernel) rfl, cw_mem (by decide +kernel) rfl⟩
theorem mw_mo_pullWord : MwV y_mo_pullWord bc_mo_pullWord 3 (some .int) 1 := ⟨⟨cw_mem (by decide +kernel) rfl, cw_mem (by decide +kernel) rfl, by decide, by decide, by decide +kernel⟩, cw_mem (by decide +kernel) rfl, cw_mem (by decide +kernel) rfl⟩
theorem mw_mo_pushAll : MwV y_mo_pushAll bc_mo_pushAll 3 none 2 := ⟨⟨cw_mem (by decide +kernel) rfl, cw_mem (by decide +kernel) rfl, by decide, by decide, by decide +kernel⟩, cw_mem (by decide +kernel) rfl, cw_mem (by decide +kernel) rfl⟩
theorem mw_mo_pullAll : MwV y_mo_pullAll bc_mo_pullAll 4 none 2 := ⟨⟨cw_mem (by decide +kernel) rfl, cw_mem (by decide +kernel) rfl, by decide, by decide, by decide +kernel⟩, cw_mem (by decide +kernel) rfl, cw_mem (by decide +kernel) rfl⟩
theorem mw_mo_onByte : MwV y_mo_onByte bc_mo_onByte 5 (some .int) 2 := ⟨⟨cw_mem (by decide +kernel) rfl, cw_mem (by decide +kernel) rfl, by decide, by decide, by decide +kernel⟩, cw_mem (by decide +kernel) rfl, cw_mem (by decide +kernel) rfl⟩
theorem mw_mo_oneByte : MwV y_mo_oneByte bc_mo_oneByte 7 none 1 := ⟨⟨cw_mem (by decide +kernel) rfl, cw_mem (by decide +kernel) rfl, by decide, by decide, by decide +kernel⟩, cw_mem (by decide +kernel) rfl, cw_mem (by decide +kernel) rfl⟩
theorem mw_mo_accumulate : MwV y_mo_accumulate bc_mo_accumulate 8 none 2 := ⟨⟨cw_mem (by decide +kernel) rfl, cw_mem (by decide +kernel) rfl, by decide, by decide, by decide +kernel⟩, cw_mem (by decide +kernel) rfl, cw_mem (by decide +kernel) rfl⟩
theorem mw_mo_compare : MwV y_mo_compare bc_mo_compare 5 none 3 := ⟨⟨cw_mem (by decide +kernel) rfl, cw_mem (by decide +kernel) rfl, by decide, by decide, by decide +kernel⟩, cw_mem (by decide +kernel) rfl, cw_mem (by decide +kernel) rfl⟩
theorem mw_mo_loadWord : MwV y_mo_loadWord bc_mo_loadWord 4 none 2 := ⟨⟨cw_mem (by decide +kernel) rfl, cw_mem (by decide +kernel) rfl, by decide, by decide, by decide +kernel⟩, cw_mem (by decide +kernel) rfl, cw_mem (by decide +kernel) rfl⟩
theorem mw_mo_storeWord : MwV y_mo_storeWord bc_mo_storeWord 5 none 2 := ⟨⟨cw_mem (by decide +kernel) rfl, cw_mem (by decide +kernel) rfl, by decide, by decide, by decide +kernel⟩, cw_mem (by decide +kernel) rfl, cw_mem (by decide +kernel) rfl⟩
theorem mw_mo_addWord : MwV y_mo_addWord bc_mo_addWord 5 none 2 := ⟨⟨cw_mem (by decide +kernel) rfl, cw_mem (by decide +kernel) rfl, by decide, by decide, by decide +kernel⟩, cw_mem (by decide +kernel) rfl, cw_mem (by decide +kernel) rfl⟩
theorem mw_mo_call : MwV y_mo_call bc_mo_call 4 none 1 := ⟨⟨cw_mem (by decide +kernel) rfl, cw_mem (by decide +kernel) rfl, by decide, by decide, by decide +kernel⟩, cw_mem (by decide +kernel) rfl, cw_mem (by decide +kernel) rfl⟩
theorem mw_mo_upper : MwV y_mo_upper bc_mo_upper 5 none 1 := ⟨⟨cw_mem (by decide +kernel) rfl, cw_mem (by decide +kernel) rfl, by decide, by decide, by decide +kernel⟩, cw_mem (by decide +kernel) rfl, cw_mem (by decide +kernel) rfl⟩
theorem mw_mo_holds : MwV y_mo_holds bc_mo_holds 5 (some .boolean) 1 := ⟨⟨cw_mem (by decide +kernel) rfl, cw_mem (by decide +kernel) rfl, by decide, by decide, by decide +kernel⟩, cw_mem (by decide +kernel) rfl, cw_mem (by decide +kernel) rfl⟩
theorem mw_mo_branch : MwV y_mo_branch bc_mo_branch 4 none 2 := ⟨⟨cw_mem (by decide +kernel) rfl, cw_mem (by decide +kernel) rfl, by decide, by decide, by decide +kernel⟩, cw_mem (by decide +kernel) rfl, cw_mem (by decide +kernel) rfl⟩
theorem mw_mo_adjust : MwV y_mo_adjust bc_mo_adjust 5 none 0 := ⟨⟨cw_mem (by decide +kernel) rfl, cw_mem (by decide +kernel) rfl, by decide, by decide, by decide +kernel⟩, cw_mem (by decide +kernel) rfl, cw_mem (by decide +kernel) rfl⟩
theorem mw_mo_named : MwS y_mo_named bc_mo_named 1 (some .int) 1 := ⟨⟨cw_mem (by decide +kernel) rfl, cw_mem (by decide +kernel) rfl, by decide, by decide, by decide +kernel⟩, cw_mem (by decide +kernel) rfl⟩
theorem mw_mo_get : MwV y_mo_get bc_mo_get 2 (some .int) 1 := ⟨⟨cw_mem (by decide +kernel) rfl, cw_mem (by decide +kernel) rfl, by decide, by decide, by decide +kernel⟩, cw_mem (by decide +kernel) rfl, cw_mem (by decide +kernel) rfl⟩
theorem mw_mo_set : MwV y_mo_set bc_mo_set 3 none 2 := ⟨⟨cw_mem (by decide +kernel) rfl, cw_mem (by decide +kernel) rfl, by decide, by decide, by decide +kernel⟩, cw_mem (by decide +kernel) rfl, cw_mem (by decide +kernel) rfl⟩
theorem mw_mo_exchange : MwV y_mo_exchange bc_mo_exchange 9 none 1 := ⟨⟨cw_mem (by decide +kernel) rfl, cw_mem (by decide +kernel) rfl, by decide, by decide, by decide +kernel⟩, cw_mem (by decide +kernel) rfl, cw_mem (by decide +kernel) rfl⟩
theorem mw_mo_lea : MwV y_mo_lea bc_mo_lea 3 none 1 := ⟨⟨cw_mem (by decide +kernel) rfl, cw_mem (by decide +kernel) rfl, by decide, by decide, by decide +kernel⟩, cw_mem (by decide +kernel) rfl, cw_mem (by decide +kernel) rfl⟩
theorem mw_mo_pushState : MwV y_mo_pushState bc_mo_pushState 1 none 0 := ⟨⟨cw_mem (by decide +kernel) rfl, cw_mem (by decide +kernel) rfl, by decide, by decide, by decide +kernel⟩, cw_mem (by decide +kernel) rfl, cw_mem (by decide +kernel) rfl⟩
theorem mw_mo_trap : MwV y_mo_trap bc_mo_trap 3 none 2 := ⟨⟨cw_mem (by decide +kernel) rfl, cw_mem (by decide +kernel) rfl, by decide, by decide, by decide +kernel⟩, cw_mem (by decide +kernel) rfl, cw_mem (by decide +kernel) rfl⟩
theorem mw_mo_multiply : MwV y_mo_multiply bc_mo_multiply 2 none 0 := ⟨⟨cw_mem (by decide +kernel) rfl, cw_mem (by decide +kernel) rfl, by decide, by decide, by decide +kernel⟩, cw_mem (by decide +kernel) rfl, cw_mem (by decide +kernel) rfl⟩
theorem mw_mo_back : MwV y_mo_back bc_mo_back 1 none 0 := ⟨⟨cw_mem (by decide +kernel) rfl, cw_mem (by decide +kernel) rfl, by decide, by decide, by decide +kernel⟩, cw_mem (by decide +kernel) rfl, cw_mem (by decide +kernel) rfl⟩
theorem mw_mo_last : MwV y_mo_last bc_mo_last 2 none 1 := ⟨⟨cw_mem (by decide +kernel) rfl, cw_mem (by decide +kernel) rfl, by decide, by decide, by decide +kernel⟩, cw_mem (by decide +kernel) rfl, cw_mem (by decide +kernel) rfl⟩
theorem mw_mo_middle : MwV y_mo_middle bc_mo_middle 4 none 1 := ⟨⟨cw_mem (by decide +kernel) rfl, cw_mem (by decide +kernel) rfl, by decide, by decide, by decide +kernel⟩, cw_mem (by decide +kernel) rfl, cw_mem (by decide +kernel) rfl⟩
theorem mw_mo_behindTen : MwV y_mo_behindTen bc_mo_behindTen 4 none 1 := ⟨⟨cw_mem (by decide +kernel) rfl, cw_mem (by decide +kernel) rfl, by decide, by decide, by decide +kernel⟩, cw_mem (by decide +kernel) rfl, cw_mem (by decide +kernel) rfl⟩
theorem mw_mo_behindEleven : MwV y_mo_behindEleven bc_mo_behindEleven 4 none 1 := ⟨⟨cw_mem (by decide +kernel) rfl, cw_mem (by decide +kernel) rfl, by decide, by decide, by decide +kernel⟩, cw_mem (by decide +kernel) rfl, cw_mem (by decide +kernel) rfl⟩
theorem mw_mo_instruct : MwV y_mo_instruct bc_mo_instruct 3 (some .boolean) 0 := ⟨⟨cw_mem (by decide +kernel) rfl, cw_mem (by decide +kernel) rfl, by decide, by decide, by decide +kernel⟩, cw_mem (by decide +kernel) rfl, cw_mem (by decide +kernel) rfl⟩
theorem mw_mo_interrupt : MwV y_mo_interrupt bc_mo_interrupt 2 none 1 := ⟨⟨cw_mem (by decide +kernel) rfl, cw_mem (by decide +kernel) rfl, by decide, by decide, by decide +kernel⟩, cw_mem (by decide +kernel) rfl, cw_mem (by decide +kernel) rfl⟩
theorem mw_mo_step : MwV y_mo_step bc_mo_step 2 (some .int) 0 := ⟨⟨cw_mem (by decide +kernel) rfl, cw_mem (by decide +kernel) rfl, by decide, by decide, by decide +kernel⟩, cw_mem (by decide +kernel) rfl, cw_mem (by decide +kernel) rfl⟩
theorem mw_mo_run : MwV y_mo_run bc_mo_run 4 (some .int) 1 := ⟨⟨cw_mem (by decide +kernel) rfl, cw_mem (by decide +kernel) rfl, by decide, by decide, by decide +kernel⟩, cw_mem (by decide +kernel) rfl, cw_mem (by decide +kernel) rfl⟩
theorem mw_mo_reset : MwV y_mo_reset bc_mo_reset 1 none 0 := ⟨⟨cw_mem (by decide +kernel) rfl, cw_mem (by decide +kernel) rfl, by decide, by decide, by decide +kernel⟩, cw_mem (by decide +kernel) rfl, cw_mem (by decide +kernel) rfl⟩
theorem mw_mo_poke : MwV y_mo_poke bc_mo_poke 3 (some .boolean) 2 := ⟨⟨cw_mem (by decide +kernel) rfl, cw_mem (by decide +kernel) rfl, by decide, by decide, by decide +kernel⟩, cw_mem (by decide +kernel) rfl, cw_mem (by decide +kernel) rfl⟩
theorem mw_mo_load : MwV y_mo_load bc_mo_load 5 (some .boolean) 3 := ⟨⟨cw_mem (by decide +kernel) rfl, cw_mem (by decide +kernel) rfl, by decide, by decide, by decide +kernel⟩, cw_mem (by decide +kernel) rfl, cw_mem (by decide +kernel) rfl⟩
theorem mw_mo_peek : MwV y_mo_peek bc_mo_peek 2 (some .int) 1 := ⟨⟨cw_mem (by decide +kernel) rfl, cw_mem (by decide +kernel) rfl, by decide, by decide, by decide +kernel⟩, cw_mem (by decide +kernel) rfl, cw_mem (by decide +kernel) rfl⟩
theorem mw_mo_setLine : MwV y_mo_setLine bc_mo_setLine 3 (some .boolean) 2 := ⟨⟨cw_mem (by decide +kernel) rfl, cw_mem (by decide +kernel) rfl, by decide, by decide, by decide +kernel⟩, cw_mem (by decide +kernel) rfl, cw_mem (by decide +kernel) rfl⟩
theorem mw_mo_reg : MwV y_mo_reg bc_mo_reg 2 (some .int) 1 := ⟨⟨cw_mem (by decide +kernel) rfl, cw_mem (by decide +kernel) rfl, by decide, by decide, by decide +kernel⟩, cw_mem (by decide +kernel) rfl, cw_mem (by decide +kernel) rfl⟩
theorem mw_mo_put : MwV y_mo_put bc_mo_put 3 (some .boolean) 2 := ⟨⟨cw_mem (by decide +kernel) rfl, cw_mem (by decide +kernel) rfl, by decide, by decide, by decide +kernel⟩, cw_mem (by decide +kernel) rfl, cw_mem (by decide +kernel) rfl⟩
theorem mw_mo_waits : MwV y_mo_waits bc_mo_waits 1 (some .int) 0 := ⟨⟨cw_mem (by decide +kernel) rfl, cw_mem (by decide +kernel) rfl, by decide, by decide, by decide +kernel⟩, cw_mem (by decide +kernel) rfl, cw_mem (by decide +kernel) rfl⟩
theorem mw_mo_lines : MwV y_mo_lines bc_mo_lines 1 (some .int) 0 := ⟨⟨cw_mem (by decide +kernel) rfl, cw_mem (by decide +kernel) rfl, by decide, by decide, by decide +kernel⟩, cw_mem (by decide +kernel) rfl, cw_mem (by decide +kernel) rfl⟩
theorem lk_tc_ar_add : Cond.methodLink R_chip 238 y_ar_add ∈ CW := cw_mem (by decide +kernel) rfl
theorem lk_tc_ar_adjustDecimal : Cond.methodLink R_chip 167 y_ar_adjustDecimal ∈ CW := cw_mem (by decide +kernel) rfl
theorem lk_tc_ar_alter : Cond.methodLink R_chip 152 y_ar_alter ∈ CW := cw_mem (by decide +kernel) rfl
theorem lk_tc_ar_combine : Cond.methodLink R_chip 226 y_ar_combine ∈ CW := cw_mem (by decide +kernel) rfl
theorem lk_tc_ar_extendSign : Cond.methodLink R_chip 170 y_ar_extendSign ∈ CW := cw_mem (by decide +kernel) rfl
theorem lk_tc_ar_multiply : Cond.methodLink R_chip 197 y_ar_multiply ∈ CW := cw_mem (by decide +kernel) rfl
theorem lk_tc_ar_pass : Cond.methodLink R_chip 223 y_ar_pass ∈ CW := cw_mem (by decide +kernel) rfl
theorem lk_tc_ar_subtract : Cond.methodLink R_chip 242 y_ar_subtract ∈ CW := cw_mem (by decide +kernel) rfl
theorem lk_tc_me_byteAt : Cond.methodLink R_chip 67 y_me_byteAt ∈ CW := cw_mem (by decide +kernel) rfl
theorem lk_tc_me_has : Cond.methodLink R_chip 60 y_me_has ∈ CW := cw_mem (by decide +kernel) rfl
theorem lk_tc_me_setByte : Cond.methodLink R_chip 64 y_me_setByte ∈ CW := cw_mem (by decide +kernel) rfl
theorem lk_tc_me_setWord : Cond.methodLink R_chip 235 y_me_setWord ∈ CW := cw_mem (by decide +kernel) rfl
theorem lk_tc_me_wordAt : Cond.methodLink R_chip 56 y_me_wordAt ∈ CW := cw_mem (by decide +kernel) rfl
theorem lk_tc_re_get : Cond.methodLink R_chip 82 y_re_get ∈ CW := cw_mem (by decide +kernel) rfl
theorem lk_tc_re_has : Cond.methodLink R_chip 103 y_re_has ∈ CW := cw_mem (by decide +kernel) rfl
theorem lk_tc_re_meets : Cond.methodLink R_chip 206 y_re_meets ∈ CW := cw_mem (by decide +kernel) rfl
theorem lk_tc_re_set : Cond.methodLink R_chip 36 y_re_set ∈ CW := cw_mem (by decide +kernel) rfl
theorem lk_tc_re_turn : Cond.methodLink R_chip 40 y_re_turn ∈ CW := cw_mem (by decide +kernel) rfl
theorem lk_tc_tc_addressByKind : Cond.methodLink R_chip 139 y_tc_addressByKind ∈ CW := cw_mem (by decide +kernel) rfl
theorem lk_tc_tc_alterMemory : Cond.methodLink R_chip 158 y_tc_alterMemory ∈ CW := cw_mem (by decide +kernel) rfl
theorem lk_tc_tc_become : Cond.methodLink R_chip 203 y_tc_become ∈ CW := cw_mem (by decide +kernel) rfl
theorem lk_tc_tc_branch : Cond.methodLink R_chip 146 y_tc_branch ∈ CW := cw_mem (by decide +kernel) rfl
theorem lk_tc_tc_call : Cond.methodLink R_chip 212 y_tc_call ∈ CW := cw_mem (by decide +kernel) rfl
theorem lk_tc_tc_callRelative : Cond.methodLink R_chip 164 y_tc_callRelative ∈ CW := cw_mem (by decide +kernel) rfl
theorem lk_tc_tc_exchange : Cond.methodLink R_chip 173 y_tc_exchange ∈ CW := cw_mem (by decide +kernel) rfl
theorem lk_tc_tc_executeLowerHalf : Cond.methodLink R_chip 91 y_tc_executeLowerHalf ∈ CW := cw_mem (by decide +kernel) rfl
theorem lk_tc_tc_executeRowOne : Cond.methodLink R_chip 143 y_tc_executeRowOne ∈ CW := cw_mem (by decide +kernel) rfl
theorem lk_tc_tc_executeRowThree : Cond.methodLink R_chip 149 y_tc_executeRowThree ∈ CW := cw_mem (by decide +kernel) rfl
theorem lk_tc_tc_executeUpperHalf : Cond.methodLink R_chip 94 y_tc_executeUpperHalf ∈ CW := cw_mem (by decide +kernel) rfl
theorem lk_tc_tc_fetchByte : Cond.methodLink R_chip 113 y_tc_fetchByte ∈ CW := cw_mem (by decide +kernel) rfl
theorem lk_tc_tc_fetchCode : Cond.methodLink R_chip 85 y_tc_fetchCode ∈ CW := cw_mem (by decide +kernel) rfl
theorem lk_tc_tc_fetchWord : Cond.methodLink R_chip 135 y_tc_fetchWord ∈ CW := cw_mem (by decide +kernel) rfl
theorem lk_tc_tc_goOn : Cond.methodLink R_chip 161 y_tc_goOn ∈ CW := cw_mem (by decide +kernel) rfl
theorem lk_tc_tc_indexedAddress : Cond.methodLink R_chip 132 y_tc_indexedAddress ∈ CW := cw_mem (by decide +kernel) rfl
theorem lk_tc_tc_isDefined : Cond.methodLink R_chip 88 y_tc_isDefined ∈ CW := cw_mem (by decide +kernel) rfl
theorem lk_tc_tc_isDefinedPair : Cond.methodLink R_chip 125 y_tc_isDefinedPair ∈ CW := cw_mem (by decide +kernel) rfl
theorem lk_tc_tc_isDefinedPostbyte : Cond.methodLink R_chip 122 y_tc_isDefinedPostbyte ∈ CW := cw_mem (by decide +kernel) rfl
theorem lk_tc_tc_isFaceRegister : Cond.methodLink R_chip 100 y_tc_isFaceRegister ∈ CW := cw_mem (by decide +kernel) rfl
theorem lk_tc_tc_isIndexed : Cond.methodLink R_chip 119 y_tc_isIndexed ∈ CW := cw_mem (by decide +kernel) rfl
theorem lk_tc_tc_lineToServe : Cond.methodLink R_chip 70 y_tc_lineToServe ∈ CW := cw_mem (by decide +kernel) rfl
theorem lk_tc_tc_operandAddress : Cond.methodLink R_chip 155 y_tc_operandAddress ∈ CW := cw_mem (by decide +kernel) rfl
theorem lk_tc_tc_operateOnByte : Cond.methodLink R_chip 219 y_tc_operateOnByte ∈ CW := cw_mem (by decide +kernel) rfl
theorem lk_tc_tc_operateOnWord : Cond.methodLink R_chip 215 y_tc_operateOnWord ∈ CW := cw_mem (by decide +kernel) rfl
theorem lk_tc_tc_otherStack : Cond.methodLink R_chip 245 y_tc_otherStack ∈ CW := cw_mem (by decide +kernel) rfl
theorem lk_tc_tc_pullByte : Cond.methodLink R_chip 251 y_tc_pullByte ∈ CW := cw_mem (by decide +kernel) rfl
theorem lk_tc_tc_pullRegisters : Cond.methodLink R_chip 185 y_tc_pullRegisters ∈ CW := cw_mem (by decide +kernel) rfl
theorem lk_tc_tc_pullWord : Cond.methodLink R_chip 188 y_tc_pullWord ∈ CW := cw_mem (by decide +kernel) rfl
theorem lk_tc_tc_pushByte : Cond.methodLink R_chip 248 y_tc_pushByte ∈ CW := cw_mem (by decide +kernel) rfl
theorem lk_tc_tc_pushRegisters : Cond.methodLink R_chip 104 y_tc_pushRegisters ∈ CW := cw_mem (by decide +kernel) rfl
theorem lk_tc_tc_pushWord : Cond.methodLink R_chip 209 y_tc_pushWord ∈ CW := cw_mem (by decide +kernel) rfl
theorem lk_tc_tc_returnFromInterrupt : Cond.methodLink R_chip 191 y_tc_returnFromInterrupt ∈ CW := cw_mem (by decide +kernel) rfl
theorem lk_tc_tc_serve : Cond.methodLink R_chip 74 y_tc_serve ∈ CW := cw_mem (by decide +kernel) rfl
theorem lk_tc_tc_softwareInterrupt : Cond.methodLink R_chip 200 y_tc_softwareInterrupt ∈ CW := cw_mem (by decide +kernel) rfl
theorem lk_tc_tc_staysWaiting : Cond.methodLink R_chip 78 y_tc_staysWaiting ∈ CW := cw_mem (by decide +kernel) rfl
theorem lk_tc_tc_step : Cond.methodLink R_chip 97 y_tc_step ∈ CW := cw_mem (by decide +kernel) rfl
theorem lk_tc_tc_takeAddress : Cond.methodLink R_chip 182 y_tc_takeAddress ∈ CW := cw_mem (by decide +kernel) rfl
theorem lk_tc_tc_transfer : Cond.methodLink R_chip 176 y_tc_transfer ∈ CW := cw_mem (by decide +kernel) rfl
theorem lk_tc_tc_waitForInterrupt : Cond.methodLink R_chip 194 y_tc_waitForInterrupt ∈ CW := cw_mem (by decide +kernel) rfl
theorem lk_tc_tc_wordRegister : Cond.methodLink R_chip 230 y_tc_wordRegister ∈ CW := cw_mem (by decide +kernel) rfl
theorem lk_ar_ar_add : Cond.methodLink R_ari 41 y_ar_add ∈ CW := cw_mem (by decide +kernel) rfl
theorem lk_ar_ar_addByte : Cond.methodLink R_ari 37 y_ar_addByte ∈ CW := cw_mem (by decide +kernel) rfl
theorem lk_ar_ar_count : Cond.methodLink R_ari 50 y_ar_count ∈ CW := cw_mem (by decide +kernel) rfl
theorem lk_ar_ar_pass : Cond.methodLink R_ari 33 y_ar_pass ∈ CW := cw_mem (by decide +kernel) rfl
theorem lk_ar_ar_shiftDown : Cond.methodLink R_ari 44 y_ar_shiftDown ∈ CW := cw_mem (by decide +kernel) rfl
theorem lk_ar_ar_shiftUp : Cond.methodLink R_ari 47 y_ar_shiftUp ∈ CW := cw_mem (by decide +kernel) rfl
theorem lk_ar_ar_subtract : Cond.methodLink R_ari 25 y_ar_subtract ∈ CW := cw_mem (by decide +kernel) rfl
theorem lk_ar_re_carry : Cond.methodLink R_ari 29 y_re_carry ∈ CW := cw_mem (by decide +kernel) rfl
theorem lk_ar_re_get : Cond.methodLink R_ari 54 y_re_get ∈ CW := cw_mem (by decide +kernel) rfl
theorem lk_ar_re_has : Cond.methodLink R_ari 58 y_re_has ∈ CW := cw_mem (by decide +kernel) rfl
theorem lk_ar_re_set : Cond.methodLink R_ari 62 y_re_set ∈ CW := cw_mem (by decide +kernel) rfl
theorem lk_ar_re_setSign : Cond.methodLink R_ari 21 y_re_setSign ∈ CW := cw_mem (by decide +kernel) rfl
theorem lk_ar_re_turn : Cond.methodLink R_ari 15 y_re_turn ∈ CW := cw_mem (by decide +kernel) rfl
theorem lk_re_re_has : Cond.methodLink R_reg 20 y_re_has ∈ CW := cw_mem (by decide +kernel) rfl
theorem lk_re_re_meetsEven : Cond.methodLink R_reg 16 y_re_meetsEven ∈ CW := cw_mem (by decide +kernel) rfl
theorem lk_mo_mo_accumulate : Cond.methodLink R_mod 124 y_mo_accumulate ∈ CW := cw_mem (by decide +kernel) rfl
theorem lk_mo_mo_addWord : Cond.methodLink R_mod 127 y_mo_addWord ∈ CW := cw_mem (by decide +kernel) rfl
theorem lk_mo_mo_address : Cond.methodLink R_mod 75 y_mo_address ∈ CW := cw_mem (by decide +kernel) rfl
theorem lk_mo_mo_adjust : Cond.methodLink R_mod 171 y_mo_adjust ∈ CW := cw_mem (by decide +kernel) rfl
theorem lk_mo_mo_asSigned : Cond.methodLink R_mod 48 y_mo_asSigned ∈ CW := cw_mem (by decide +kernel) rfl
theorem lk_mo_mo_back : Cond.methodLink R_mod 184 y_mo_back ∈ CW := cw_mem (by decide +kernel) rfl
theorem lk_mo_mo_behindEleven : Cond.methodLink R_mod 199 y_mo_behindEleven ∈ CW := cw_mem (by decide +kernel) rfl
theorem lk_mo_mo_behindTen : Cond.methodLink R_mod 196 y_mo_behindTen ∈ CW := cw_mem (by decide +kernel) rfl
theorem lk_mo_mo_branch : Cond.methodLink R_mod 168 y_mo_branch ∈ CW := cw_mem (by decide +kernel) rfl
theorem lk_mo_mo_byPostbyte : Cond.methodLink R_mod 72 y_mo_byPostbyte ∈ CW := cw_mem (by decide +kernel) rfl
theorem lk_mo_mo_call : Cond.methodLink R_mod 140 y_mo_call ∈ CW := cw_mem (by decide +kernel) rfl
theorem lk_mo_mo_compare : Cond.methodLink R_mod 133 y_mo_compare ∈ CW := cw_mem (by decide +kernel) rfl
theorem lk_mo_mo_d : Cond.methodLink R_mod 66 y_mo_d ∈ CW := cw_mem (by decide +kernel) rfl
theorem lk_mo_mo_exchange : Cond.methodLink R_mod 174 y_mo_exchange ∈ CW := cw_mem (by decide +kernel) rfl
theorem lk_mo_mo_flag : Cond.methodLink R_mod 36 y_mo_flag ∈ CW := cw_mem (by decide +kernel) rfl
theorem lk_mo_mo_get : Cond.methodLink R_mod 149 y_mo_get ∈ CW := cw_mem (by decide +kernel) rfl
theorem lk_mo_mo_hasRoom : Cond.methodLink R_mod 52 y_mo_hasRoom ∈ CW := cw_mem (by decide +kernel) rfl
theorem lk_mo_mo_holds : Cond.methodLink R_mod 143 y_mo_holds ∈ CW := cw_mem (by decide +kernel) rfl
theorem lk_mo_mo_in : Cond.methodLink R_mod 44 y_mo_in ∈ CW := cw_mem (by decide +kernel) rfl
theorem lk_mo_mo_instruct : Cond.methodLink R_mod 220 y_mo_instruct ∈ CW := cw_mem (by decide +kernel) rfl
theorem lk_mo_mo_interrupt : Cond.methodLink R_mod 217 y_mo_interrupt ∈ CW := cw_mem (by decide +kernel) rfl
theorem lk_mo_mo_is : Cond.methodLink R_mod 93 y_mo_is ∈ CW := cw_mem (by decide +kernel) rfl
theorem lk_mo_mo_last : Cond.methodLink R_mod 181 y_mo_last ∈ CW := cw_mem (by decide +kernel) rfl
theorem lk_mo_mo_lea : Cond.methodLink R_mod 178 y_mo_lea ∈ CW := cw_mem (by decide +kernel) rfl
theorem lk_mo_mo_less : Cond.methodLink R_mod 97 y_mo_less ∈ CW := cw_mem (by decide +kernel) rfl
theorem lk_mo_mo_loadWord : Cond.methodLink R_mod 130 y_mo_loadWord ∈ CW := cw_mem (by decide +kernel) rfl
theorem lk_mo_mo_middle : Cond.methodLink R_mod 208 y_mo_middle ∈ CW := cw_mem (by decide +kernel) rfl
theorem lk_mo_mo_moved : Cond.methodLink R_mod 105 y_mo_moved ∈ CW := cw_mem (by decide +kernel) rfl
theorem lk_mo_mo_multiply : Cond.methodLink R_mod 187 y_mo_multiply ∈ CW := cw_mem (by decide +kernel) rfl
theorem lk_mo_mo_named : Cond.methodLink R_mod 146 y_mo_named ∈ CW := cw_mem (by decide +kernel) rfl
theorem lk_mo_mo_next : Cond.methodLink R_mod 31 y_mo_next ∈ CW := cw_mem (by decide +kernel) rfl
theorem lk_mo_mo_nextWord : Cond.methodLink R_mod 63 y_mo_nextWord ∈ CW := cw_mem (by decide +kernel) rfl
theorem lk_mo_mo_onByte : Cond.methodLink R_mod 101 y_mo_onByte ∈ CW := cw_mem (by decide +kernel) rfl
theorem lk_mo_mo_oneByte : Cond.methodLink R_mod 205 y_mo_oneByte ∈ CW := cw_mem (by decide +kernel) rfl
theorem lk_mo_mo_operand : Cond.methodLink R_mod 108 y_mo_operand ∈ CW := cw_mem (by decide +kernel) rfl
theorem lk_mo_mo_plus : Cond.methodLink R_mod 111 y_mo_plus ∈ CW := cw_mem (by decide +kernel) rfl
theorem lk_mo_mo_pull : Cond.methodLink R_mod 81 y_mo_pull ∈ CW := cw_mem (by decide +kernel) rfl
theorem lk_mo_mo_pullAll : Cond.methodLink R_mod 161 y_mo_pullAll ∈ CW := cw_mem (by decide +kernel) rfl
theorem lk_mo_mo_pullWord : Cond.methodLink R_mod 87 y_mo_pullWord ∈ CW := cw_mem (by decide +kernel) rfl
theorem lk_mo_mo_push : Cond.methodLink R_mod 78 y_mo_push ∈ CW := cw_mem (by decide +kernel) rfl
theorem lk_mo_mo_pushAll : Cond.methodLink R_mod 155 y_mo_pushAll ∈ CW := cw_mem (by decide +kernel) rfl
theorem lk_mo_mo_pushState : Cond.methodLink R_mod 158 y_mo_pushState ∈ CW := cw_mem (by decide +kernel) rfl
theorem lk_mo_mo_pushWord : Cond.methodLink R_mod 84 y_mo_pushWord ∈ CW := cw_mem (by decide +kernel) rfl
theorem lk_mo_mo_read : Cond.methodLink R_mod 22 y_mo_read ∈ CW := cw_mem (by decide +kernel) rfl
theorem lk_mo_mo_readWord : Cond.methodLink R_mod 69 y_mo_readWord ∈ CW := cw_mem (by decide +kernel) rfl
theorem lk_mo_mo_set : Cond.methodLink R_mod 152 y_mo_set ∈ CW := cw_mem (by decide +kernel) rfl
theorem lk_mo_mo_setD : Cond.methodLink R_mod 117 y_mo_setD ∈ CW := cw_mem (by decide +kernel) rfl
theorem lk_mo_mo_shows : Cond.methodLink R_mod 40 y_mo_shows ∈ CW := cw_mem (by decide +kernel) rfl
theorem lk_mo_mo_signed : Cond.methodLink R_mod 60 y_mo_signed ∈ CW := cw_mem (by decide +kernel) rfl
theorem lk_mo_mo_step : Cond.methodLink R_mod 224 y_mo_step ∈ CW := cw_mem (by decide +kernel) rfl
theorem lk_mo_mo_storeWord : Cond.methodLink R_mod 137 y_mo_storeWord ∈ CW := cw_mem (by decide +kernel) rfl
theorem lk_mo_mo_trap : Cond.methodLink R_mod 191 y_mo_trap ∈ CW := cw_mem (by decide +kernel) rfl
theorem lk_mo_mo_upper : Cond.methodLink R_mod 202 y_mo_upper ∈ CW := cw_mem (by decide +kernel) rfl
theorem lk_mo_mo_wordOperand : Cond.methodLink R_mod 114 y_mo_wordOperand ∈ CW := cw_mem (by decide +kernel) rfl
theorem lk_mo_mo_write : Cond.methodLink R_mod 26 y_mo_write ∈ CW := cw_mem (by decide +kernel) rfl
theorem lk_mo_mo_writeWord : Cond.methodLink R_mod 121 y_mo_writeWord ∈ CW := cw_mem (by decide +kernel) rfl
theorem kf_tc_memory : Cond.fieldLink R_chip 10 R_chip (F_chip 0).2.1 (F_chip 0).2.2.1 ∈ CW := cw_mem (by decide +kernel) rfl
theorem kf_tc_registers : Cond.fieldLink R_chip 19 R_chip (F_chip 1).2.1 (F_chip 1).2.2.1 ∈ CW := cw_mem (by decide +kernel) rfl
theorem kf_tc_arithmetic : Cond.fieldLink R_chip 28 R_chip (F_chip 2).2.1 (F_chip 2).2.2.1 ∈ CW := cw_mem (by decide +kernel) rfl
theorem kf_tc_levels : Cond.fieldLink R_chip 32 R_chip (F_chip 3).2.1 (F_chip 3).2.2.1 ∈ CW := cw_mem (by decide +kernel) rfl
theorem kf_tc_nmiArmed : Cond.fieldLink R_chip 44 R_chip (F_chip 4).2.1 (F_chip 4).2.2.1 ∈ CW := cw_mem (by decide +kernel) rfl
theorem kf_tc_nmiDue : Cond.fieldLink R_chip 48 R_chip (F_chip 5).2.1 (F_chip 5).2.2.1 ∈ CW := cw_mem (by decide +kernel) rfl
theorem kf_tc_waiting : Cond.fieldLink R_chip 51 R_chip (F_chip 6).2.1 (F_chip 6).2.2.1 ∈ CW := cw_mem (by decide +kernel) rfl
theorem kf_me_bytes : Cond.fieldLink R_mem 9 R_mem (F_mem 0).2.1 (F_mem 0).2.2.1 ∈ CW := cw_mem (by decide +kernel) rfl
theorem kf_re_values : Cond.fieldLink R_reg 9 R_reg (F_reg 0).2.1 (F_reg 0).2.2.1 ∈ CW := cw_mem (by decide +kernel) rfl
theorem kf_ar_registers : Cond.fieldLink R_ari 9 R_ari (F_ari 0).2.1 (F_ari 0).2.2.1 ∈ CW := cw_mem (by decide +kernel) rfl
theorem kf_mo_memory : Cond.fieldLink R_mod 7 R_mod (F_mod 0).2.1 (F_mod 0).2.2.1 ∈ CW := cw_mem (by decide +kernel) rfl
theorem kf_mo_r : Cond.fieldLink R_mod 13 R_mod (F_mod 1).2.1 (F_mod 1).2.2.1 ∈ CW := cw_mem (by decide +kernel) rfl
theorem kf_mo_before : Cond.fieldLink R_mod 16 R_mod (F_mod 2).2.1 (F_mod 2).2.2.1 ∈ CW := cw_mem (by decide +kernel) rfl
theorem kf_mo_undefined : Cond.fieldLink R_mod 56 R_mod (F_mod 3).2.1 (F_mod 3).2.2.1 ∈ CW := cw_mem (by decide +kernel) rfl
theorem kf_mo_waits : Cond.fieldLink R_mod 164 R_mod (F_mod 4).2.1 (F_mod 4).2.2.1 ∈ CW := cw_mem (by decide +kernel) rfl
theorem kf_mo_armed : Cond.fieldLink R_mod 90 R_mod (F_mod 5).2.1 (F_mod 5).2.2.1 ∈ CW := cw_mem (by decide +kernel) rfl
theorem kf_mo_due : Cond.fieldLink R_mod 211 R_mod (F_mod 6).2.1 (F_mod 6).2.2.1 ∈ CW := cw_mem (by decide +kernel) rfl
theorem kf_mo_level : Cond.fieldLink R_mod 19 R_mod (F_mod 7).2.1 (F_mod 7).2.2.1 ∈ CW := cw_mem (by decide +kernel) rfl
theorem rc_chip {E : Ev} : Rcv wdC E (eO E 0) R_chip := fun _ => ⟨0, 0, _, _, _, rfl, rfl⟩
theorem rc_mem {E : Ev} : Rcv wdC E (eO E 1) R_mem := fun _ => ⟨1, 1, _, _, _, rfl, rfl⟩
theorem rc_reg {E : Ev} : Rcv wdC E (eO E 3) R_reg := fun _ => ⟨3, 2, _, _, _, rfl, rfl⟩
theorem rc_ari {E : Ev} : Rcv wdC E (eO E 5) R_ari := fun _ => ⟨5, 3, _, _, _, rfl, rfl⟩
theorem rc_mod {E : Ev} : Rcv wdM E (eO E 0) R_mod := fun _ => ⟨0, 4, _, _, _, rfl, rfl⟩
section
variable {X : Cx} {b : ByteArray} {nL pc : Nat} {ret : Option FieldType} {rm : Room} {L : List (Nat × Value)} {st : List Value}
theorem g_tc_memory {Q : Int32 × CS → State → Prop} {σ : CS} {mm : Option (Int32 × CS)} (G : Gd X b nL R_chip ret rm) (hd : decode b pc = .ok (.getfield 10, 3)) (kj : J wdC X Q nL (pc + 3) L (.ref (eO (xE X) 1) :: st) σ mm) : J wdC X Q nL pc L (.ref (eO (xE X) 0) :: st) σ mm := j_get 0 0 rfl rfl u_chip (by decide) kf_tc_memory rfl rfl G hd kj
theorem g_tc_registers {Q : Int32 × CS → State → Prop} {σ : CS} {mm : Option (Int32 × CS)} (G : Gd X b nL R_chip ret rm) (hd : decode b pc = .ok (.getfield 19, 3)) (kj : J wdC X Q nL (pc + 3) L (.ref (eO (xE X) 3) :: st) σ mm) : J wdC X Q nL pc L (.ref (eO (xE X) 0) :: st) σ mm := j_get 0 1 rfl rfl u_chip (by decide) kf_tc_registers rfl rfl G hd kj
theorem g_tc_arithmetic {Q : Int32 × CS → State → Prop} {σ : CS} {mm : Option (Int32 × CS)} (G : Gd X b nL R_chip ret rm) (hd : decode b pc = .ok (.getfield 28, 3)) (kj : J wdC X Q nL (pc + 3) L (.ref (eO (xE X) 5) :: st) σ mm) : J wdC X Q nL pc L (.ref (eO (xE X) 0) :: st) σ mm := j_get 0 2 rfl rfl u_chip (by decide) kf_tc_arithmetic rfl rfl G hd kj
theorem g_tc_levels {Q : Int32 × CS → State → Prop} {σ : CS} {mm : Option (Int32 × CS)} (G : Gd X b nL R_chip ret rm) (hd : decode b pc = .ok (.getfield 32, 3)) (kj : J wdC X Q nL (pc + 3) L (.ref (eO (xE X) 6) :: st) σ mm) : J wdC X Q nL pc L (.ref (eO (xE X) 0) :: st) σ mm := j_get 0 3 rfl rfl u_chip (by decide) kf_tc_levels rfl rfl G hd kj
theorem g_tc_nmiArmed {Q : Int32 × CS → State → Prop} {σ : CS} {mm : Option (Int32 × CS)} (G : Gd X b nL R_chip ret rm) (hd : decode b pc = .ok (.getfield 44, 3)) (kj : J wdC X Q nL (pc + 3) L (.int (cx_arm σ) :: st) σ mm) : J wdC X Q nL pc L (.ref (eO (xE X) 0) :: st) σ mm := j_get 0 4 rfl rfl u_chip (by decide) kf_tc_nmiArmed rfl rfl G hd kj
theorem pc_tc_nmiArmed {Q : Int32 × CS → State → Prop} {σ : CS} {mm : Option (Int32 × CS)} {v : Int32} (hv : isB v = true) (G : Gd X b nL R_chip ret rm) (hd : decode b pc = .ok (.putfield 44, 3)) (kj : J wdC X Q nL (pc + 3) L st (cy_arm σ v) mm) : J wdC X Q nL pc L (.int v :: .ref (eO (xE X) 0) :: st) σ mm := j_put 0 4 t_chip rfl rfl u_chip t_chip_ok n_chip (by decide) kf_tc_nmiArmed rfl rfl (ty := .boolean) (by decide +kernel) (isB_ok hv).1 (isB_ok hv).2 (by decide) (cy_arm σ v) rfl G hd kj
theorem p_tc_nmiArmed {Q : Int32 × CS → State → Prop} {σ : CS} {mm : Option (Int32 × CS)} {v : Int32} (G : Gd X b nL R_chip ret rm) (hd : decode b pc = .ok (.putfield 44, 3)) (kj : J wdC X Q nL (pc + 3) L st (cy_arm σ v) mm) : J wdC X Q nL pc L (.int v :: .ref (eO (xE X) 0) :: st) σ (gd (isB v) mm) := fun o ho H locs ls hP hD hS hl => pc_tc_nmiArmed (gd_some ho).1 G hd kj o (gd_some ho).2 H locs ls hP hD hS hl
theorem g_tc_nmiDue {Q : Int32 × CS → State → Prop} {σ : CS} {mm : Option (Int32 × CS)} (G : Gd X b nL R_chip ret rm) (hd : decode b pc = .ok (.getfield 48, 3)) (kj : J wdC X Q nL (pc + 3) L (.int (cx_due σ) :: st) σ mm) : J wdC X Q nL pc L (.ref (eO (xE X) 0) :: st) σ mm := j_get 0 5 rfl rfl u_chip (by decide) kf_tc_nmiDue rfl rfl G hd kj
theorem pc_tc_nmiDue {Q : Int32 × CS → State → Prop} {σ : CS} {mm : Option (Int32 × CS)} {v : Int32} (hv : isB v = true) (G : Gd X b nL R_chip ret rm) (hd : decode b pc = .ok (.putfield 48, 3)) (kj : J wdC X Q nL (pc + 3) L st (cy_due σ v) mm) : J wdC X Q nL pc L (.int v :: .ref (eO (xE X) 0) :: st) σ mm := j_put 0 5 t_chip rfl rfl u_chip t_chip_ok n_chip (by decide) kf_tc_nmiDue rfl rfl (ty := .boolean) (by decide +kernel) (isB_ok hv).1 (isB_ok hv).2 (by decide) (cy_due σ v) rfl G hd kj
theorem p_tc_nmiDue {Q : Int32 × CS → State → Prop} {σ : CS} {mm : Option (Int32 × CS)} {v : Int32} (G : Gd X b nL R_chip ret rm) (hd : decode b pc = .ok (.putfield 48, 3)) (kj : J wdC X Q nL (pc + 3) L st (cy_due σ v) mm) : J wdC X Q nL pc L (.int v :: .ref (eO (xE X) 0) :: st) σ (gd (isB v) mm) := fun o ho H locs ls hP hD hS hl => pc_tc_nmiDue (gd_some ho).1 G hd kj o (gd_some ho).2 H locs ls hP hD hS hl
theorem g_tc_waiting {Q : Int32 × CS → State → Prop} {σ : CS} {mm : Option (Int32 × CS)} (G : Gd X b nL R_chip ret rm) (hd : decode b pc = .ok (.getfield 51, 3)) (kj : J wdC X Q nL (pc + 3) L (.int (cx_wai σ) :: st) σ mm) : J wdC X Q nL pc L (.ref (eO (xE X) 0) :: st) σ mm := j_get 0 6 rfl rfl u_chip (by decide) kf_tc_waiting rfl rfl G hd kj
theorem p_tc_waiting {Q : Int32 × CS → State → Prop} {σ : CS} {mm : Option (Int32 × CS)} {v : Int32} (G : Gd X b nL R_chip ret rm) (hd : decode b pc = .ok (.putfield 51, 3)) (kj : J wdC X Q nL (pc + 3) L st (cy_wai σ v) mm) : J wdC X Q nL pc L (.int v :: .ref (eO (xE X) 0) :: st) σ mm := j_put 0 6 t_chip rfl rfl u_chip t_chip_ok n_chip (by decide) kf_tc_waiting rfl rfl (ty := .int) (by decide +kernel) rfl rfl (by decide) (cy_wai σ v) rfl G hd kj
theorem g_me_bytes {Q : Int32 × CS → State → Prop} {σ : CS} {mm : Option (Int32 × CS)} (G : Gd X b nL R_mem ret rm) (hd : decode b pc = .ok (.getfield 9, 3)) (kj : J wdC X Q nL (pc + 3) L (.ref (eO (xE X) 2) :: st) σ mm) : J wdC X Q nL pc L (.ref (eO (xE X) 1) :: st) σ mm := j_get 1 0 rfl rfl u_mem (by decide) kf_me_bytes rfl rfl G hd kj
theorem g_re_values {Q : Int32 × CS → State → Prop} {σ : CS} {mm : Option (Int32 × CS)} (G : Gd X b nL R_reg ret rm) (hd : decode b pc = .ok (.getfield 9, 3)) (kj : J wdC X Q nL (pc + 3) L (.ref (eO (xE X) 4) :: st) σ mm) : J wdC X Q nL pc L (.ref (eO (xE X) 3) :: st) σ mm := j_get 3 0 rfl rfl u_reg (by decide) kf_re_values rfl rfl G hd kj
theorem g_ar_registers {Q : Int32 × CS → State → Prop} {σ : CS} {mm : Option (Int32 × CS)} (G : Gd X b nL R_ari ret rm) (hd : decode b pc = .ok (.getfield 9, 3)) (kj : J wdC X Q nL (pc + 3) L (.ref (eO (xE X) 3) :: st) σ mm) : J wdC X Q nL pc L (.ref (eO (xE X) 5) :: st) σ mm := j_get 5 0 rfl rfl u_ari (by decide) kf_ar_registers rfl rfl G hd kj
theorem g_mo_memory {Q : Int32 × MS → State → Prop} {σ : MS} {mm : Option (Int32 × MS)} (G : Gd X b nL R_mod ret rm) (hd : decode b pc = .ok (.getfield 7, 3)) (kj : J wdM X Q nL (pc + 3) L (.ref (eO (xE X) 1) :: st) σ mm) : J wdM X Q nL pc L (.ref (eO (xE X) 0) :: st) σ mm := j_get 0 0 rfl rfl u_mod (by decide) kf_mo_memory rfl rfl G hd kj
theorem g_mo_r {Q : Int32 × MS → State → Prop} {σ : MS} {mm : Option (Int32 × MS)} (G : Gd X b nL R_mod ret rm) (hd : decode b pc = .ok (.getfield 13, 3)) (kj : J wdM X Q nL (pc + 3) L (.ref (eO (xE X) 2) :: st) σ mm) : J wdM X Q nL pc L (.ref (eO (xE X) 0) :: st) σ mm := j_get 0 1 rfl rfl u_mod (by decide) kf_mo_r rfl rfl G hd kj
theorem g_mo_before {Q : Int32 × MS → State → Prop} {σ : MS} {mm : Option (Int32 × MS)} (G : Gd X b nL R_mod ret rm) (hd : decode b pc = .ok (.getfield 16, 3)) (kj : J wdM X Q nL (pc + 3) L (.ref (eO (xE X) 3) :: st) σ mm) : J wdM X Q nL pc L (.ref (eO (xE X) 0) :: st) σ mm := j_get 0 2 rfl rfl u_mod (by decide) kf_mo_before rfl rfl G hd kj
theorem g_mo_undefined {Q : Int32 × MS → State → Prop} {σ : MS} {mm : Option (Int32 × MS)} (G : Gd X b nL R_mod ret rm) (hd : decode b pc = .ok (.getfield 56, 3)) (kj : J wdM X Q nL (pc + 3) L (.int (mx_und σ) :: st) σ mm) : J wdM X Q nL pc L (.ref (eO (xE X) 0) :: st) σ mm := j_get 0 3 rfl rfl u_mod (by decide) kf_mo_undefined rfl rfl G hd kj
theorem pc_mo_undefined {Q : Int32 × MS → State → Prop} {σ : MS} {mm : Option (Int32 × MS)} {v : Int32} (hv : isB v = true) (G : Gd X b nL R_mod ret rm) (hd : decode b pc = .ok (.putfield 56, 3)) (kj : J wdM X Q nL (pc + 3) L st (my_und σ v) mm) : J wdM X Q nL pc L (.int v :: .ref (eO (xE X) 0) :: st) σ mm := j_put 0 3 t_mod rfl rfl u_mod t_mod_ok n_mod (by decide) kf_mo_undefined rfl rfl (ty := .boolean) (by decide +kernel) (isB_ok hv).1 (isB_ok hv).2 (by decide) (my_und σ v) rfl G hd kj
theorem p_mo_undefined {Q : Int32 × MS → State → Prop} {σ : MS} {mm : Option (Int32 × MS)} {v : Int32} (G : Gd X b nL R_mod ret rm) (hd : decode b pc = .ok (.putfield 56, 3)) (kj : J wdM X Q nL (pc + 3) L st (my_und σ v) mm) : J wdM X Q nL pc L (.int v :: .ref (eO (xE X) 0) :: st) σ (gd (isB v) mm) := fun o ho H locs ls hP hD hS hl => pc_mo_undefined (gd_some ho).1 G hd kj o (gd_some ho).2 H locs ls hP hD hS hl
theorem g_mo_waits {Q : Int32 × MS → State → Prop} {σ : MS} {mm : Option (Int32 × MS)} (G : Gd X b nL R_mod ret rm) (hd : decode b pc = .ok (.getfield 164, 3)) (kj : J wdM X Q nL (pc + 3) L (.int (mx_wai σ) :: st) σ mm) : J wdM X Q nL pc L (.ref (eO (xE X) 0) :: st) σ mm := j_get 0 4 rfl rfl u_mod (by decide) kf_mo_waits rfl rfl G hd kj
theorem p_mo_waits {Q : Int32 × MS → State → Prop} {σ : MS} {mm : Option (Int32 × MS)} {v : Int32} (G : Gd X b nL R_mod ret rm) (hd : decode b pc = .ok (.putfield 164, 3)) (kj : J wdM X Q nL (pc + 3) L st (my_wai σ v) mm) : J wdM X Q nL pc L (.int v :: .ref (eO (xE X) 0) :: st) σ mm := j_put 0 4 t_mod rfl rfl u_mod t_mod_ok n_mod (by decide) kf_mo_waits rfl rfl (ty := .int) (by decide +kernel) rfl rfl (by decide) (my_wai σ v) rfl G hd kj
theorem g_mo_armed {Q : Int32 × MS → State → Prop} {σ : MS} {mm : Option (Int32 × MS)} (G : Gd X b nL R_mod ret rm) (hd : decode b pc = .ok (.getfield 90, 3)) (kj : J wdM X Q nL (pc + 3) L (.int (mx_arm σ) :: st) σ mm) : J wdM X Q nL pc L (.ref (eO (xE X) 0) :: st) σ mm := j_get 0 5 rfl rfl u_mod (by decide) kf_mo_armed rfl rfl G hd kj
theorem pc_mo_armed {Q : Int32 × MS → State → Prop} {σ : MS} {mm : Option (Int32 × MS)} {v : Int32} (hv : isB v = true) (G : Gd X b nL R_mod ret rm) (hd : decode b pc = .ok (.putfield 90, 3)) (kj : J wdM X Q nL (pc + 3) L st (my_arm σ v) mm) : J wdM X Q nL pc L (.int v :: .ref (eO (xE X) 0) :: st) σ mm := j_put 0 5 t_mod rfl rfl u_mod t_mod_ok n_mod (by decide) kf_mo_armed rfl rfl (ty := .boolean) (by decide +kernel) (isB_ok hv).1 (isB_ok hv).2 (by decide) (my_arm σ v) rfl G hd kj
theorem p_mo_armed {Q : Int32 × MS → State → Prop} {σ : MS} {mm : Option (Int32 × MS)} {v : Int32} (G : Gd X b nL R_mod ret rm) (hd : decode b pc = .ok (.putfield 90, 3)) (kj : J wdM X Q nL (pc + 3) L st (my_arm σ v) mm) : J wdM X Q nL pc L (.int v :: .ref (eO (xE X) 0) :: st) σ (gd (isB v) mm) := fun o ho H locs ls hP hD hS hl => pc_mo_armed (gd_some ho).1 G hd kj o (gd_some ho).2 H locs ls hP hD hS hl
theorem g_mo_due {Q : Int32 × MS → State → Prop} {σ : MS} {mm : Option (Int32 × MS)} (G : Gd X b nL R_mod ret rm) (hd : decode b pc = .ok (.getfield 211, 3)) (kj : J wdM X Q nL (pc + 3) L (.int (mx_due σ) :: st) σ mm) : J wdM X Q nL pc L (.ref (eO (xE X) 0) :: st) σ mm := j_get 0 6 rfl rfl u_mod (by decide) kf_mo_due rfl rfl G hd kj
theorem pc_mo_due {Q : Int32 × MS → State → Prop} {σ : MS} {mm : Option (Int32 × MS)} {v : Int32} (hv : isB v = true) (G : Gd X b nL R_mod ret rm) (hd : decode b pc = .ok (.putfield 211, 3)) (kj : J wdM X Q nL (pc + 3) L st (my_due σ v) mm) : J wdM X Q nL pc L (.int v :: .ref (eO (xE X) 0) :: st) σ mm := j_put 0 6 t_mod rfl rfl u_mod t_mod_ok n_mod (by decide) kf_mo_due rfl rfl (ty := .boolean) (by decide +kernel) (isB_ok hv).1 (isB_ok hv).2 (by decide) (my_due σ v) rfl G hd kj
theorem p_mo_due {Q : Int32 × MS → State → Prop} {σ : MS} {mm : Option (Int32 × MS)} {v : Int32} (G : Gd X b nL R_mod ret rm) (hd : decode b pc = .ok (.putfield 211, 3)) (kj : J wdM X Q nL (pc + 3) L st (my_due σ v) mm) : J wdM X Q nL pc L (.int v :: .ref (eO (xE X) 0) :: st) σ (gd (isB v) mm) := fun o ho H locs ls hP hD hS hl => pc_mo_due (gd_some ho).1 G hd kj o (gd_some ho).2 H locs ls hP hD hS hl
theorem g_mo_level {Q : Int32 × MS → State → Prop} {σ : MS} {mm : Option (Int32 × MS)} (G : Gd X b nL R_mod ret rm) (hd : decode b pc = .ok (.getfield 19, 3)) (kj : J wdM X Q nL (pc + 3) L (.ref (eO (xE X) 4) :: st) σ mm) : J wdM X Q nL pc L (.ref (eO (xE X) 0) :: st) σ mm := j_get 0 7 rfl rfl u_mod (by decide) kf_mo_level rfl rfl G hd kj
theorem al_Cmem {own : String} {Q : Int32 × CS → State → Prop} {σ : CS} {mm : Option (Int32 × CS)} {i : Int32} (G : Gd X b nL own ret rm) (hd : decode b pc = .ok (.iaload, 1)) (kj : J wdC X Q nL (pc + 1) L (.int (cx_mem σ i.toNatClampNeg) :: st) σ mm) : J wdC X Q nL pc L (.int i :: .ref (eO (xE X) 2) :: st) σ (gd (okI i 4096) mm) := j_ald 2 rfl G hd kj
theorem alc_Cmem {own : String} {Q : Int32 × CS → State → Prop} {σ : CS} {mm : Option (Int32 × CS)} {i : Int32} {j : Nat} (hi : okI i 4096 = true) (hj : i.toNatClampNeg = j) (G : Gd X b nL own ret rm) (hd : decode b pc = .ok (.iaload, 1)) (kj : J wdC X Q nL (pc + 1) L (.int (cx_mem σ j) :: st) σ mm) : J wdC X Q nL pc L (.int i :: .ref (eO (xE X) 2) :: st) σ mm := j_aldc 2 rfl hi hj G hd kj
theorem as_Cmem {own : String} {Q : Int32 × CS → State → Prop} {σ : CS} {mm : Option (Int32 × CS)} {i : Int32} {x : Int32} (G : Gd X b nL own ret rm) (hd : decode b pc = .ok (.iastore, 1)) (kj : J wdC X Q nL (pc + 1) L st (cy_mem σ (upd (cx_mem σ) i.toNatClampNeg x)) mm) : J wdC X Q nL pc L (.int x :: .int i :: .ref (eO (xE X) 2) :: st) σ (gd (okI i 4096) mm) := j_ast 2 rfl (cy_mem σ (upd (cx_mem σ) i.toNatClampNeg x)) rfl G hd kj
theorem asc_Cmem {own : String} {Q : Int32 × CS → State → Prop} {σ : CS} {mm : Option (Int32 × CS)} {i : Int32} {x : Int32} {j : Nat} (hi : okI i 4096 = true) (hj : i.toNatClampNeg = j) (G : Gd X b nL own ret rm) (hd : decode b pc = .ok (.iastore, 1)) (kj : J wdC X Q nL (pc + 1) L st (cy_mem σ (upd (cx_mem σ) j x)) mm) : J wdC X Q nL pc L (.int x :: .int i :: .ref (eO (xE X) 2) :: st) σ mm := j_astc 2 rfl (cy_mem σ (upd (cx_mem σ) j x)) hi hj rfl G hd kj
theorem al_Creg {own : String} {Q : Int32 × CS → State → Prop} {σ : CS} {mm : Option (Int32 × CS)} {i : Int32} (G : Gd X b nL own ret rm) (hd : decode b pc = .ok (.iaload, 1)) (kj : J wdC X Q nL (pc + 1) L (.int (cx_reg σ i.toNatClampNeg) :: st) σ mm) : J wdC X Q nL pc L (.int i :: .ref (eO (xE X) 4) :: st) σ (gd (okI i 9) mm) := j_ald 4 rfl G hd kj
theorem alc_Creg {own : String} {Q : Int32 × CS → State → Prop} {σ : CS} {mm : Option (Int32 × CS)} {i : Int32} {j : Nat} (hi : okI i 9 = true) (hj : i.toNatClampNeg = j) (G : Gd X b nL own ret rm) (hd : decode b pc = .ok (.iaload, 1)) (kj : J wdC X Q nL (pc + 1) L (.int (cx_reg σ j) :: st) σ mm) : J wdC X Q nL pc L (.int i :: .ref (eO (xE X) 4) :: st) σ mm := j_aldc 4 rfl hi hj G hd kj
theorem as_Creg {own : String} {Q : Int32 × CS → State → Prop} {σ : CS} {mm : Option (Int32 × CS)} {i : Int32} {x : Int32} (G : Gd X b nL own ret rm) (hd : decode b pc = .ok (.iastore, 1)) (kj : J wdC X Q nL (pc + 1) L st (cy_reg σ (upd (cx_reg σ) i.toNatClampNeg x)) mm) : J wdC X Q nL pc L (.int x :: .int i :: .ref (eO (xE X) 4) :: st) σ (gd (okI i 9) mm) := j_ast 4 rfl (cy_reg σ (upd (cx_reg σ) i.toNatClampNeg x)) rfl G hd kj
theorem asc_Creg {own : String} {Q : Int32 × CS → State → Prop} {σ : CS} {mm : Option (Int32 × CS)} {i : Int32} {x : Int32} {j : Nat} (hi : okI i 9 = true) (hj : i.toNatClampNeg = j) (G : Gd X b nL own ret rm) (hd : decode b pc = .ok (.iastore, 1)) (kj : J wdC X Q nL (pc + 1) L st (cy_reg σ (upd (cx_reg σ) j x)) mm) : J wdC X Q nL pc L (.int x :: .int i :: .ref (eO (xE X) 4) :: st) σ mm := j_astc 4 rfl (cy_reg σ (upd (cx_reg σ) j x)) hi hj rfl G hd kj
theorem al_Clev {own : String} {Q : Int32 × CS → State → Prop} {σ : CS} {mm : Option (Int32 × CS)} {i : Int32} (G : Gd X b nL own ret rm) (hd : decode b pc = .ok (.iaload, 1)) (kj : J wdC X Q nL (pc + 1) L (.int (cx_lev σ i.toNatClampNeg) :: st) σ mm) : J wdC X Q nL pc L (.int i :: .ref (eO (xE X) 6) :: st) σ (gd (okI i 3) mm) := j_ald 6 rfl G hd kj
theorem alc_Clev {own : String} {Q : Int32 × CS → State → Prop} {σ : CS} {mm : Option (Int32 × CS)} {i : Int32} {j : Nat} (hi : okI i 3 = true) (hj : i.toNatClampNeg = j) (G : Gd X b nL own ret rm) (hd : decode b pc = .ok (.iaload, 1)) (kj : J wdC X Q nL (pc + 1) L (.int (cx_lev σ j) :: st) σ mm) : J wdC X Q nL pc L (.int i :: .ref (eO (xE X) 6) :: st) σ mm := j_aldc 6 rfl hi hj G hd kj
theorem as_Clev {own : String} {Q : Int32 × CS → State → Prop} {σ : CS} {mm : Option (Int32 × CS)} {i : Int32} {x : Int32} (G : Gd X b nL own ret rm) (hd : decode b pc = .ok (.iastore, 1)) (kj : J wdC X Q nL (pc + 1) L st (cy_lev σ (upd (cx_lev σ) i.toNatClampNeg x)) mm) : J wdC X Q nL pc L (.int x :: .int i :: .ref (eO (xE X) 6) :: st) σ (gd (okI i 3) mm) := j_ast 6 rfl (cy_lev σ (upd (cx_lev σ) i.toNatClampNeg x)) rfl G hd kj
theorem asc_Clev {own : String} {Q : Int32 × CS → State → Prop} {σ : CS} {mm : Option (Int32 × CS)} {i : Int32} {x : Int32} {j : Nat} (hi : okI i 3 = true) (hj : i.toNatClampNeg = j) (G : Gd X b nL own ret rm) (hd : decode b pc = .ok (.iastore, 1)) (kj : J wdC X Q nL (pc + 1) L st (cy_lev σ (upd (cx_lev σ) j x)) mm) : J wdC X Q nL pc L (.int x :: .int i :: .ref (eO (xE X) 6) :: st) σ mm := j_astc 6 rfl (cy_lev σ (upd (cx_lev σ) j x)) hi hj rfl G hd kj
theorem al_Mmem {own : String} {Q : Int32 × MS → State → Prop} {σ : MS} {mm : Option (Int32 × MS)} {i : Int32} (G : Gd X b nL own ret rm) (hd : decode b pc = .ok (.iaload, 1)) (kj : J wdM X Q nL (pc + 1) L (.int (mx_mem σ i.toNatClampNeg) :: st) σ mm) : J wdM X Q nL pc L (.int i :: .ref (eO (xE X) 1) :: st) σ (gd (okI i 4096) mm) := j_ald 1 rfl G hd kj
theorem alc_Mmem {own : String} {Q : Int32 × MS → State → Prop} {σ : MS} {mm : Option (Int32 × MS)} {i : Int32} {j : Nat} (hi : okI i 4096 = true) (hj : i.toNatClampNeg = j) (G : Gd X b nL own ret rm) (hd : decode b pc = .ok (.iaload, 1)) (kj : J wdM X Q nL (pc + 1) L (.int (mx_mem σ j) :: st) σ mm) : J wdM X Q nL pc L (.int i :: .ref (eO (xE X) 1) :: st) σ mm := j_aldc 1 rfl hi hj G hd kj
theorem as_Mmem {own : String} {Q : Int32 × MS → State → Prop} {σ : MS} {mm : Option (Int32 × MS)} {i : Int32} {x : Int32} (G : Gd X b nL own ret rm) (hd : decode b pc = .ok (.iastore, 1)) (kj : J wdM X Q nL (pc + 1) L st (my_mem σ (upd (mx_mem σ) i.toNatClampNeg x)) mm) : J wdM X Q nL pc L (.int x :: .int i :: .ref (eO (xE X) 1) :: st) σ (gd (okI i 4096) mm) := j_ast 1 rfl (my_mem σ (upd (mx_mem σ) i.toNatClampNeg x)) rfl G hd kj
theorem asc_Mmem {own : String} {Q : Int32 × MS → State → Prop} {σ : MS} {mm : Option (Int32 × MS)} {i : Int32} {x : Int32} {j : Nat} (hi : okI i 4096 = true) (hj : i.toNatClampNeg = j) (G : Gd X b nL own ret rm) (hd : decode b pc = .ok (.iastore, 1)) (kj : J wdM X Q nL (pc + 1) L st (my_mem σ (upd (mx_mem σ) j x)) mm) : J wdM X Q nL pc L (.int x :: .int i :: .ref (eO (xE X) 1) :: st) σ mm := j_astc 1 rfl (my_mem σ (upd (mx_mem σ) j x)) hi hj rfl G hd kj
theorem al_Mreg {own : String} {Q : Int32 × MS → State → Prop} {σ : MS} {mm : Option (Int32 × MS)} {i : Int32} (G : Gd X b nL own ret rm) (hd : decode b pc = .ok (.iaload, 1)) (kj : J wdM X Q nL (pc + 1) L (.int (mx_reg σ i.toNatClampNeg) :: st) σ mm) : J wdM X Q nL pc L (.int i :: .ref (eO (xE X) 2) :: st) σ (gd (okI i 9) mm) := j_ald 2 rfl G hd kj
theorem alc_Mreg {own : String} {Q : Int32 × MS → State → Prop} {σ : MS} {mm : Option (Int32 × MS)} {i : Int32} {j : Nat} (hi : okI i 9 = true) (hj : i.toNatClampNeg = j) (G : Gd X b nL own ret rm) (hd : decode b pc = .ok (.iaload, 1)) (kj : J wdM X Q nL (pc + 1) L (.int (mx_reg σ j) :: st) σ mm) : J wdM X Q nL pc L (.int i :: .ref (eO (xE X) 2) :: st) σ mm := j_aldc 2 rfl hi hj G hd kj
theorem as_Mreg {own : String} {Q : Int32 × MS → State → Prop} {σ : MS} {mm : Option (Int32 × MS)} {i : Int32} {x : Int32} (G : Gd X b nL own ret rm) (hd : decode b pc = .ok (.iastore, 1)) (kj : J wdM X Q nL (pc + 1) L st (my_reg σ (upd (mx_reg σ) i.toNatClampNeg x)) mm) : J wdM X Q nL pc L (.int x :: .int i :: .ref (eO (xE X) 2) :: st) σ (gd (okI i 9) mm) := j_ast 2 rfl (my_reg σ (upd (mx_reg σ) i.toNatClampNeg x)) rfl G hd kj
theorem asc_Mreg {own : String} {Q : Int32 × MS → State → Prop} {σ : MS} {mm : Option (Int32 × MS)} {i : Int32} {x : Int32} {j : Nat} (hi : okI i 9 = true) (hj : i.toNatClampNeg = j) (G : Gd X b nL own ret rm) (hd : decode b pc = .ok (.iastore, 1)) (kj : J wdM X Q nL (pc + 1) L st (my_reg σ (upd (mx_reg σ) j x)) mm) : J wdM X Q nL pc L (.int x :: .int i :: .ref (eO (xE X) 2) :: st) σ mm := j_astc 2 rfl (my_reg σ (upd (mx_reg σ) j x)) hi hj rfl G hd kj
theorem al_Mbef {own : String} {Q : Int32 × MS → State → Prop} {σ : MS} {mm : Option (Int32 × MS)} {i : Int32} (G : Gd X b nL own ret rm) (hd : decode b pc = .ok (.iaload, 1)) (kj : J wdM X Q nL (pc + 1) L (.int (mx_bef σ i.toNatClampNeg) :: st) σ mm) : J wdM X Q nL pc L (.int i :: .ref (eO (xE X) 3) :: st) σ (gd (okI i 9) mm) := j_ald 3 rfl G hd kj
theorem alc_Mbef {own : String} {Q : Int32 × MS → State → Prop} {σ : MS} {mm : Option (Int32 × MS)} {i : Int32} {j : Nat} (hi : okI i 9 = true) (hj : i.toNatClampNeg = j) (G : Gd X b nL own ret rm) (hd : decode b pc = .ok (.iaload, 1)) (kj : J wdM X Q nL (pc + 1) L (.int (mx_bef σ j) :: st) σ mm) : J wdM X Q nL pc L (.int i :: .ref (eO (xE X) 3) :: st) σ mm := j_aldc 3 rfl hi hj G hd kj
theorem as_Mbef {own : String} {Q : Int32 × MS → State → Prop} {σ : MS} {mm : Option (Int32 × MS)} {i : Int32} {x : Int32} (G : Gd X b nL own ret rm) (hd : decode b pc = .ok (.iastore, 1)) (kj : J wdM X Q nL (pc + 1) L st (my_bef σ (upd (mx_bef σ) i.toNatClampNeg x)) mm) : J wdM X Q nL pc L (.int x :: .int i :: .ref (eO (xE X) 3) :: st) σ (gd (okI i 9) mm) := j_ast 3 rfl (my_bef σ (upd (mx_bef σ) i.toNatClampNeg x)) rfl G hd kj
theorem asc_Mbef {own : String} {Q : Int32 × MS → State → Prop} {σ : MS} {mm : Option (Int32 × MS)} {i : Int32} {x : Int32} {j : Nat} (hi : okI i 9 = true) (hj : i.toNatClampNeg = j) (G : Gd X b nL own ret rm) (hd : decode b pc = .ok (.iastore, 1)) (kj : J wdM X Q nL (pc + 1) L st (my_bef σ (upd (mx_bef σ) j x)) mm) : J wdM X Q nL pc L (.int x :: .int i :: .ref (eO (xE X) 3) :: st) σ mm := j_astc 3 rfl (my_bef σ (upd (mx_bef σ) j x)) hi hj rfl G hd kj
theorem al_Mlev {own : String} {Q : Int32 × MS → State → Prop} {σ : MS} {mm : Option (Int32 × MS)} {i : Int32} (G : Gd X b nL own ret rm) (hd : decode b pc = .ok (.iaload, 1)) (kj : J wdM X Q nL (pc + 1) L (.int (mx_lev σ i.toNatClampNeg) :: st) σ mm) : J wdM X Q nL pc L (.int i :: .ref (eO (xE X) 4) :: st) σ (gd (okI i 3) mm) := j_ald 4 rfl G hd kj
theorem alc_Mlev {own : String} {Q : Int32 × MS → State → Prop} {σ : MS} {mm : Option (Int32 × MS)} {i : Int32} {j : Nat} (hi : okI i 3 = true) (hj : i.toNatClampNeg = j) (G : Gd X b nL own ret rm) (hd : decode b pc = .ok (.iaload, 1)) (kj : J wdM X Q nL (pc + 1) L (.int (mx_lev σ j) :: st) σ mm) : J wdM X Q nL pc L (.int i :: .ref (eO (xE X) 4) :: st) σ mm := j_aldc 4 rfl hi hj G hd kj
theorem as_Mlev {own : String} {Q : Int32 × MS → State → Prop} {σ : MS} {mm : Option (Int32 × MS)} {i : Int32} {x : Int32} (G : Gd X b nL own ret rm) (hd : decode b pc = .ok (.iastore, 1)) (kj : J wdM X Q nL (pc + 1) L st (my_lev σ (upd (mx_lev σ) i.toNatClampNeg x)) mm) : J wdM X Q nL pc L (.int x :: .int i :: .ref (eO (xE X) 4) :: st) σ (gd (okI i 3) mm) := j_ast 4 rfl (my_lev σ (upd (mx_lev σ) i.toNatClampNeg x)) rfl G hd kj
theorem asc_Mlev {own : String} {Q : Int32 × MS → State → Prop} {σ : MS} {mm : Option (Int32 × MS)} {i : Int32} {x : Int32} {j : Nat} (hi : okI i 3 = true) (hj : i.toNatClampNeg = j) (G : Gd X b nL own ret rm) (hd : decode b pc = .ok (.iastore, 1)) (kj : J wdM X Q nL (pc + 1) L st (my_lev σ (upd (mx_lev σ) j x)) mm) : J wdM X Q nL pc L (.int x :: .int i :: .ref (eO (xE X) 4) :: st) σ mm := j_astc 4 rfl (my_lev σ (upd (mx_lev σ) j x)) hi hj rfl G hd kj
end
