theorem d_me_has_0 : decode bc_me_has 0 = .ok (.iload_n 0, 1) := by decide +kernel
theorem d_me_has_1 : decode bc_me_has 1 = .ok (.ifCond .lt 14, 3) := by decide +kernel
theorem d_me_has_4 : decode bc_me_has 4 = .ok (.iload_n 0, 1) := by decide +kernel
theorem d_me_has_5 : decode bc_me_has 5 = .ok (.sipush 4096, 3) := by decide +kernel
theorem d_me_has_8 : decode bc_me_has 8 = .ok (.if_icmp .ge 7, 3) := by decide +kernel
theorem d_me_has_11 : decode bc_me_has 11 = .ok (.iconst 1, 1) := by decide +kernel
theorem d_me_has_12 : decode bc_me_has 12 = .ok (.goto 4, 3) := by decide +kernel
theorem d_me_has_15 : decode bc_me_has 15 = .ok (.iconst 0, 1) := by decide +kernel
theorem d_me_has_16 : decode bc_me_has 16 = .ok (.ireturn, 1) := by decide +kernel
theorem d_me_byteAt_0 : decode bc_me_byteAt 0 = .ok (.aload_n 0, 1) := by decide +kernel
theorem d_me_byteAt_1 : decode bc_me_byteAt 1 = .ok (.getfield 9, 3) := by decide +kernel
theorem d_me_byteAt_4 : decode bc_me_byteAt 4 = .ok (.iload_n 1, 1) := by decide +kernel
theorem d_me_byteAt_5 : decode bc_me_byteAt 5 = .ok (.sipush 4095, 3) := by decide +kernel
theorem d_me_byteAt_8 : decode bc_me_byteAt 8 = .ok (.iand, 1) := by decide +kernel
theorem d_me_byteAt_9 : decode bc_me_byteAt 9 = .ok (.iaload, 1) := by decide +kernel
theorem d_me_byteAt_10 : decode bc_me_byteAt 10 = .ok (.ireturn, 1) := by decide +kernel
theorem d_me_setByte_0 : decode bc_me_setByte 0 = .ok (.aload_n 0, 1) := by decide +kernel
theorem d_me_setByte_1 : decode bc_me_setByte 1 = .ok (.getfield 9, 3) := by decide +kernel
theorem d_me_setByte_4 : decode bc_me_setByte 4 = .ok (.iload_n 1, 1) := by decide +kernel
theorem d_me_setByte_5 : decode bc_me_setByte 5 = .ok (.sipush 4095, 3) := by decide +kernel
theorem d_me_setByte_8 : decode bc_me_setByte 8 = .ok (.iand, 1) := by decide +kernel
theorem d_me_setByte_9 : decode bc_me_setByte 9 = .ok (.iload_n 2, 1) := by decide +kernel
theorem d_me_setByte_10 : decode bc_me_setByte 10 = .ok (.sipush 255, 3) := by decide +kernel
theorem d_me_setByte_13 : decode bc_me_setByte 13 = .ok (.iand, 1) := by decide +kernel
theorem d_me_setByte_14 : decode bc_me_setByte 14 = .ok (.iastore, 1) := by decide +kernel
theorem d_me_setByte_15 : decode bc_me_setByte 15 = .ok (.return_, 1) := by decide +kernel
theorem d_me_wordAt_0 : decode bc_me_wordAt 0 = .ok (.aload_n 0, 1) := by decide +kernel
theorem d_me_wordAt_1 : decode bc_me_wordAt 1 = .ok (.getfield 9, 3) := by decide +kernel
theorem d_me_wordAt_4 : decode bc_me_wordAt 4 = .ok (.iload_n 1, 1) := by decide +kernel
theorem d_me_wordAt_5 : decode bc_me_wordAt 5 = .ok (.sipush 4095, 3) := by decide +kernel
theorem d_me_wordAt_8 : decode bc_me_wordAt 8 = .ok (.iand, 1) := by decide +kernel
theorem d_me_wordAt_9 : decode bc_me_wordAt 9 = .ok (.iaload, 1) := by decide +kernel
theorem d_me_wordAt_10 : decode bc_me_wordAt 10 = .ok (.bipush 8, 2) := by decide +kernel
theorem d_me_wordAt_12 : decode bc_me_wordAt 12 = .ok (.ishl, 1) := by decide +kernel
theorem d_me_wordAt_13 : decode bc_me_wordAt 13 = .ok (.aload_n 0, 1) := by decide +kernel
theorem d_me_wordAt_14 : decode bc_me_wordAt 14 = .ok (.getfield 9, 3) := by decide +kernel
theorem d_me_wordAt_17 : decode bc_me_wordAt 17 = .ok (.iload_n 1, 1) := by decide +kernel
theorem d_me_wordAt_18 : decode bc_me_wordAt 18 = .ok (.iconst 1, 1) := by decide +kernel
theorem d_me_wordAt_19 : decode bc_me_wordAt 19 = .ok (.iadd, 1) := by decide +kernel
theorem d_me_wordAt_20 : decode bc_me_wordAt 20 = .ok (.sipush 4095, 3) := by decide +kernel
theorem d_me_wordAt_23 : decode bc_me_wordAt 23 = .ok (.iand, 1) := by decide +kernel
theorem d_me_wordAt_24 : decode bc_me_wordAt 24 = .ok (.iaload, 1) := by decide +kernel
theorem d_me_wordAt_25 : decode bc_me_wordAt 25 = .ok (.ior, 1) := by decide +kernel
theorem d_me_wordAt_26 : decode bc_me_wordAt 26 = .ok (.ireturn, 1) := by decide +kernel
theorem d_me_setWord_0 : decode bc_me_setWord 0 = .ok (.aload_n 0, 1) := by decide +kernel
theorem d_me_setWord_1 : decode bc_me_setWord 1 = .ok (.getfield 9, 3) := by decide +kernel
theorem d_me_setWord_4 : decode bc_me_setWord 4 = .ok (.iload_n 1, 1) := by decide +kernel
theorem d_me_setWord_5 : decode bc_me_setWord 5 = .ok (.sipush 4095, 3) := by decide +kernel
theorem d_me_setWord_8 : decode bc_me_setWord 8 = .ok (.iand, 1) := by decide +kernel
theorem d_me_setWord_9 : decode bc_me_setWord 9 = .ok (.iload_n 2, 1) := by decide +kernel
theorem d_me_setWord_10 : decode bc_me_setWord 10 = .ok (.bipush 8, 2) := by decide +kernel
theorem d_me_setWord_12 : decode bc_me_setWord 12 = .ok (.ishr, 1) := by decide +kernel
theorem d_me_setWord_13 : decode bc_me_setWord 13 = .ok (.sipush 255, 3) := by decide +kernel
theorem d_me_setWord_16 : decode bc_me_setWord 16 = .ok (.iand, 1) := by decide +kernel
theorem d_me_setWord_17 : decode bc_me_setWord 17 = .ok (.iastore, 1) := by decide +kernel
theorem d_me_setWord_18 : decode bc_me_setWord 18 = .ok (.aload_n 0, 1) := by decide +kernel
theorem d_me_setWord_19 : decode bc_me_setWord 19 = .ok (.getfield 9, 3) := by decide +kernel
theorem d_me_setWord_22 : decode bc_me_setWord 22 = .ok (.iload_n 1, 1) := by decide +kernel
theorem d_me_setWord_23 : decode bc_me_setWord 23 = .ok (.iconst 1, 1) := by decide +kernel
theorem d_me_setWord_24 : decode bc_me_setWord 24 = .ok (.iadd, 1) := by decide +kernel
theorem d_me_setWord_25 : decode bc_me_setWord 25 = .ok (.sipush 4095, 3) := by decide +kernel
theorem d_me_setWord_28 : decode bc_me_setWord 28 = .ok (.iand, 1) := by decide +kernel
theorem d_me_setWord_29 : decode bc_me_setWord 29 = .ok (.iload_n 2, 1) := by decide +kernel
theorem d_me_setWord_30 : decode bc_me_setWord 30 = .ok (.sipush 255, 3) := by decide +kernel
theorem d_me_setWord_33 : decode bc_me_setWord 33 = .ok (.iand, 1) := by decide +kernel
theorem d_me_setWord_34 : decode bc_me_setWord 34 = .ok (.iastore, 1) := by decide +kernel
theorem d_me_setWord_35 : decode bc_me_setWord 35 = .ok (.return_, 1) := by decide +kernel
theorem d_re_get_0 : decode bc_re_get 0 = .ok (.iload_n 1, 1) := by decide +kernel
theorem d_re_get_1 : decode bc_re_get 1 = .ok (.bipush 9, 2) := by decide +kernel
theorem d_re_get_3 : decode bc_re_get 3 = .ok (.if_icmp .ne 22, 3) := by decide +kernel
theorem d_re_get_6 : decode bc_re_get 6 = .ok (.aload_n 0, 1) := by decide +kernel
theorem d_re_get_7 : decode bc_re_get 7 = .ok (.getfield 9, 3) := by decide +kernel
theorem d_re_get_10 : decode bc_re_get 10 = .ok (.iconst 0, 1) := by decide +kernel
theorem d_re_get_11 : decode bc_re_get 11 = .ok (.iaload, 1) := by decide +kernel
theorem d_re_get_12 : decode bc_re_get 12 = .ok (.bipush 8, 2) := by decide +kernel
theorem d_re_get_14 : decode bc_re_get 14 = .ok (.ishl, 1) := by decide +kernel
theorem d_re_get_15 : decode bc_re_get 15 = .ok (.aload_n 0, 1) := by decide +kernel
theorem d_re_get_16 : decode bc_re_get 16 = .ok (.getfield 9, 3) := by decide +kernel
theorem d_re_get_19 : decode bc_re_get 19 = .ok (.iconst 1, 1) := by decide +kernel
theorem d_re_get_20 : decode bc_re_get 20 = .ok (.iaload, 1) := by decide +kernel
theorem d_re_get_21 : decode bc_re_get 21 = .ok (.ior, 1) := by decide +kernel
theorem d_re_get_22 : decode bc_re_get 22 = .ok (.goto 9, 3) := by decide +kernel
theorem d_re_get_25 : decode bc_re_get 25 = .ok (.aload_n 0, 1) := by decide +kernel
theorem d_re_get_26 : decode bc_re_get 26 = .ok (.getfield 9, 3) := by decide +kernel
theorem d_re_get_29 : decode bc_re_get 29 = .ok (.iload_n 1, 1) := by decide +kernel
theorem d_re_get_30 : decode bc_re_get 30 = .ok (.iaload, 1) := by decide +kernel
theorem d_re_get_31 : decode bc_re_get 31 = .ok (.ireturn, 1) := by decide +kernel
theorem d_re_set_0 : decode bc_re_set 0 = .ok (.iload_n 1, 1) := by decide +kernel
theorem d_re_set_1 : decode bc_re_set 1 = .ok (.bipush 9, 2) := by decide +kernel
theorem d_re_set_3 : decode bc_re_set 3 = .ok (.if_icmp .ne 31, 3) := by decide +kernel
theorem d_re_set_6 : decode bc_re_set 6 = .ok (.aload_n 0, 1) := by decide +kernel
theorem d_re_set_7 : decode bc_re_set 7 = .ok (.getfield 9, 3) := by decide +kernel
theorem d_re_set_10 : decode bc_re_set 10 = .ok (.iconst 0, 1) := by decide +kernel
theorem d_re_set_11 : decode bc_re_set 11 = .ok (.iload_n 2, 1) := by decide +kernel
theorem d_re_set_12 : decode bc_re_set 12 = .ok (.bipush 8, 2) := by decide +kernel
theorem d_re_set_14 : decode bc_re_set 14 = .ok (.ishr, 1) := by decide +kernel
theorem d_re_set_15 : decode bc_re_set 15 = .ok (.sipush 255, 3) := by decide +kernel
theorem d_re_set_18 : decode bc_re_set 18 = .ok (.iand, 1) := by decide +kernel
theorem d_re_set_19 : decode bc_re_set 19 = .ok (.iastore, 1) := by decide +kernel
theorem d_re_set_20 : decode bc_re_set 20 = .ok (.aload_n 0, 1) := by decide +kernel
theorem d_re_set_21 : decode bc_re_set 21 = .ok (.getfield 9, 3) := by decide +kernel
theorem d_re_set_24 : decode bc_re_set 24 = .ok (.iconst 1, 1) := by decide +kernel
theorem d_re_set_25 : decode bc_re_set 25 = .ok (.iload_n 2, 1) := by decide +kernel
theorem d_re_set_26 : decode bc_re_set 26 = .ok (.sipush 255, 3) := by decide +kernel
theorem d_re_set_29 : decode bc_re_set 29 = .ok (.iand, 1) := by decide +kernel
theorem d_re_set_30 : decode bc_re_set 30 = .ok (.iastore, 1) := by decide +kernel
theorem d_re_set_31 : decode bc_re_set 31 = .ok (.goto 42, 3) := by decide +kernel
theorem d_re_set_34 : decode bc_re_set 34 = .ok (.iload_n 1, 1) := by decide +kernel
theorem d_re_set_35 : decode bc_re_set 35 = .ok (.iconst 2, 1) := by decide +kernel
theorem d_re_set_36 : decode bc_re_set 36 = .ok (.if_icmp .lt 13, 3) := by decide +kernel
theorem d_re_set_39 : decode bc_re_set 39 = .ok (.iload_n 1, 1) := by decide +kernel
theorem d_re_set_40 : decode bc_re_set 40 = .ok (.bipush 6, 2) := by decide +kernel
theorem d_re_set_42 : decode bc_re_set 42 = .ok (.if_icmp .gt 7, 3) := by decide +kernel
theorem d_re_set_45 : decode bc_re_set 45 = .ok (.iconst 1, 1) := by decide +kernel
theorem d_re_set_46 : decode bc_re_set 46 = .ok (.goto 4, 3) := by decide +kernel
theorem d_re_set_49 : decode bc_re_set 49 = .ok (.iconst 0, 1) := by decide +kernel
theorem d_re_set_50 : decode bc_re_set 50 = .ok (.istore_n 3, 1) := by decide +kernel
theorem d_re_set_51 : decode bc_re_set 51 = .ok (.aload_n 0, 1) := by decide +kernel
theorem d_re_set_52 : decode bc_re_set 52 = .ok (.getfield 9, 3) := by decide +kernel
theorem d_re_set_55 : decode bc_re_set 55 = .ok (.iload_n 1, 1) := by decide +kernel
theorem d_re_set_56 : decode bc_re_set 56 = .ok (.iload_n 3, 1) := by decide +kernel
theorem d_re_set_57 : decode bc_re_set 57 = .ok (.ifCond .eq 10, 3) := by decide +kernel
theorem d_re_set_60 : decode bc_re_set 60 = .ok (.iload_n 2, 1) := by decide +kernel
theorem d_re_set_61 : decode bc_re_set 61 = .ok (.ldc 15, 2) := by decide +kernel
theorem d_re_set_63 : decode bc_re_set 63 = .ok (.iand, 1) := by decide +kernel
theorem d_re_set_64 : decode bc_re_set 64 = .ok (.goto 8, 3) := by decide +kernel
theorem d_re_set_67 : decode bc_re_set 67 = .ok (.iload_n 2, 1) := by decide +kernel
theorem d_re_set_68 : decode bc_re_set 68 = .ok (.sipush 255, 3) := by decide +kernel
theorem d_re_set_71 : decode bc_re_set 71 = .ok (.iand, 1) := by decide +kernel
theorem d_re_set_72 : decode bc_re_set 72 = .ok (.iastore, 1) := by decide +kernel
theorem d_re_set_73 : decode bc_re_set 73 = .ok (.return_, 1) := by decide +kernel
theorem d_re_has_0 : decode bc_re_has 0 = .ok (.aload_n 0, 1) := by decide +kernel
theorem d_re_has_1 : decode bc_re_has 1 = .ok (.getfield 9, 3) := by decide +kernel
theorem d_re_has_4 : decode bc_re_has 4 = .ok (.bipush 8, 2) := by decide +kernel
theorem d_re_has_6 : decode bc_re_has 6 = .ok (.iaload, 1) := by decide +kernel
theorem d_re_has_7 : decode bc_re_has 7 = .ok (.iload_n 1, 1) := by decide +kernel
theorem d_re_has_8 : decode bc_re_has 8 = .ok (.iand, 1) := by decide +kernel
theorem d_re_has_9 : decode bc_re_has 9 = .ok (.ifCond .eq 7, 3) := by decide +kernel
theorem d_re_has_12 : decode bc_re_has 12 = .ok (.iconst 1, 1) := by decide +kernel
theorem d_re_has_13 : decode bc_re_has 13 = .ok (.goto 4, 3) := by decide +kernel
theorem d_re_has_16 : decode bc_re_has 16 = .ok (.iconst 0, 1) := by decide +kernel
theorem d_re_has_17 : decode bc_re_has 17 = .ok (.ireturn, 1) := by decide +kernel
theorem d_re_turn_0 : decode bc_re_turn 0 = .ok (.aload_n 0, 1) := by decide +kernel
theorem d_re_turn_1 : decode bc_re_turn 1 = .ok (.getfield 9, 3) := by decide +kernel
theorem d_re_turn_4 : decode bc_re_turn 4 = .ok (.bipush 8, 2) := by decide +kernel
theorem d_re_turn_6 : decode bc_re_turn 6 = .ok (.iload_n 2, 1) := by decide +kernel
theorem d_re_turn_7 : decode bc_re_turn 7 = .ok (.ifCond .eq 15, 3) := by decide +kernel
theorem d_re_turn_10 : decode bc_re_turn 10 = .ok (.aload_n 0, 1) := by decide +kernel
theorem d_re_turn_11 : decode bc_re_turn 11 = .ok (.getfield 9, 3) := by decide +kernel
theorem d_re_turn_14 : decode bc_re_turn 14 = .ok (.bipush 8, 2) := by decide +kernel
theorem d_re_turn_16 : decode bc_re_turn 16 = .ok (.iaload, 1) := by decide +kernel
theorem d_re_turn_17 : decode bc_re_turn 17 = .ok (.iload_n 1, 1) := by decide +kernel
theorem d_re_turn_18 : decode bc_re_turn 18 = .ok (.ior, 1) := by decide +kernel
theorem d_re_turn_19 : decode bc_re_turn 19 = .ok (.goto 14, 3) := by decide +kernel
theorem d_re_turn_22 : decode bc_re_turn 22 = .ok (.aload_n 0, 1) := by decide +kernel
theorem d_re_turn_23 : decode bc_re_turn 23 = .ok (.getfield 9, 3) := by decide +kernel
theorem d_re_turn_26 : decode bc_re_turn 26 = .ok (.bipush 8, 2) := by decide +kernel
theorem d_re_turn_28 : decode bc_re_turn 28 = .ok (.iaload, 1) := by decide +kernel
theorem d_re_turn_29 : decode bc_re_turn 29 = .ok (.iload_n 1, 1) := by decide +kernel
theorem d_re_turn_30 : decode bc_re_turn 30 = .ok (.iconst (-1), 1) := by decide +kernel
theorem d_re_turn_31 : decode bc_re_turn 31 = .ok (.ixor, 1) := by decide +kernel
theorem d_re_turn_32 : decode bc_re_turn 32 = .ok (.iand, 1) := by decide +kernel
theorem d_re_turn_33 : decode bc_re_turn 33 = .ok (.iastore, 1) := by decide +kernel
theorem d_re_turn_34 : decode bc_re_turn 34 = .ok (.return_, 1) := by decide +kernel
theorem d_re_carry_0 : decode bc_re_carry 0 = .ok (.aload_n 0, 1) := by decide +kernel
theorem d_re_carry_1 : decode bc_re_carry 1 = .ok (.getfield 9, 3) := by decide +kernel
theorem d_re_carry_4 : decode bc_re_carry 4 = .ok (.bipush 8, 2) := by decide +kernel
theorem d_re_carry_6 : decode bc_re_carry 6 = .ok (.iaload, 1) := by decide +kernel
theorem d_re_carry_7 : decode bc_re_carry 7 = .ok (.iconst 1, 1) := by decide +kernel
theorem d_re_carry_8 : decode bc_re_carry 8 = .ok (.iand, 1) := by decide +kernel
theorem d_re_carry_9 : decode bc_re_carry 9 = .ok (.ireturn, 1) := by decide +kernel
theorem d_re_setSign_0 : decode bc_re_setSign 0 = .ok (.iload_n 1, 1) := by decide +kernel
theorem d_re_setSign_1 : decode bc_re_setSign 1 = .ok (.ifCond .ne 7, 3) := by decide +kernel
theorem d_re_setSign_4 : decode bc_re_setSign 4 = .ok (.iconst 4, 1) := by decide +kernel
theorem d_re_setSign_5 : decode bc_re_setSign 5 = .ok (.goto 4, 3) := by decide +kernel
theorem d_re_setSign_8 : decode bc_re_setSign 8 = .ok (.iconst 0, 1) := by decide +kernel
theorem d_re_setSign_9 : decode bc_re_setSign 9 = .ok (.istore_n 3, 1) := by decide +kernel
theorem d_re_setSign_10 : decode bc_re_setSign 10 = .ok (.iload_n 1, 1) := by decide +kernel
theorem d_re_setSign_11 : decode bc_re_setSign 11 = .ok (.iload_n 2, 1) := by decide +kernel
theorem d_re_setSign_12 : decode bc_re_setSign 12 = .ok (.iand, 1) := by decide +kernel
theorem d_re_setSign_13 : decode bc_re_setSign 13 = .ok (.ifCond .eq 8, 3) := by decide +kernel
theorem d_re_setSign_16 : decode bc_re_setSign 16 = .ok (.bipush 8, 2) := by decide +kernel
theorem d_re_setSign_18 : decode bc_re_setSign 18 = .ok (.goto 4, 3) := by decide +kernel
theorem d_re_setSign_21 : decode bc_re_setSign 21 = .ok (.iconst 0, 1) := by decide +kernel
theorem d_re_setSign_22 : decode bc_re_setSign 22 = .ok (.istore 4, 2) := by decide +kernel
theorem d_re_setSign_24 : decode bc_re_setSign 24 = .ok (.aload_n 0, 1) := by decide +kernel
theorem d_re_setSign_25 : decode bc_re_setSign 25 = .ok (.getfield 9, 3) := by decide +kernel
theorem d_re_setSign_28 : decode bc_re_setSign 28 = .ok (.bipush 8, 2) := by decide +kernel
theorem d_re_setSign_30 : decode bc_re_setSign 30 = .ok (.aload_n 0, 1) := by decide +kernel
theorem d_re_setSign_31 : decode bc_re_setSign 31 = .ok (.getfield 9, 3) := by decide +kernel
theorem d_re_setSign_34 : decode bc_re_setSign 34 = .ok (.bipush 8, 2) := by decide +kernel
theorem d_re_setSign_36 : decode bc_re_setSign 36 = .ok (.iaload, 1) := by decide +kernel
theorem d_re_setSign_37 : decode bc_re_setSign 37 = .ok (.bipush (-13), 2) := by decide +kernel
theorem d_re_setSign_39 : decode bc_re_setSign 39 = .ok (.iand, 1) := by decide +kernel
theorem d_re_setSign_40 : decode bc_re_setSign 40 = .ok (.iload_n 3, 1) := by decide +kernel
theorem d_re_setSign_41 : decode bc_re_setSign 41 = .ok (.ior, 1) := by decide +kernel
theorem d_re_setSign_42 : decode bc_re_setSign 42 = .ok (.iload 4, 2) := by decide +kernel
theorem d_re_setSign_44 : decode bc_re_setSign 44 = .ok (.ior, 1) := by decide +kernel
theorem d_re_setSign_45 : decode bc_re_setSign 45 = .ok (.iastore, 1) := by decide +kernel
theorem d_re_setSign_46 : decode bc_re_setSign 46 = .ok (.return_, 1) := by decide +kernel
theorem d_re_meetsEven_0 : decode bc_re_meetsEven 0 = .ok (.aload_n 0, 1) := by decide +kernel
theorem d_re_meetsEven_1 : decode bc_re_meetsEven 1 = .ok (.bipush 8, 2) := by decide +kernel
theorem d_re_meetsEven_3 : decode bc_re_meetsEven 3 = .ok (.invokevirtual 20, 3) := by decide +kernel
theorem d_re_meetsEven_6 : decode bc_re_meetsEven 6 = .ok (.aload_n 0, 1) := by decide +kernel
theorem d_re_meetsEven_7 : decode bc_re_meetsEven 7 = .ok (.iconst 2, 1) := by decide +kernel
theorem d_re_meetsEven_8 : decode bc_re_meetsEven 8 = .ok (.invokevirtual 20, 3) := by decide +kernel
theorem d_re_meetsEven_11 : decode bc_re_meetsEven 11 = .ok (.if_icmp .ne 7, 3) := by decide +kernel
theorem d_re_meetsEven_14 : decode bc_re_meetsEven 14 = .ok (.iconst 1, 1) := by decide +kernel
theorem d_re_meetsEven_15 : decode bc_re_meetsEven 15 = .ok (.goto 4, 3) := by decide +kernel
theorem d_re_meetsEven_18 : decode bc_re_meetsEven 18 = .ok (.iconst 0, 1) := by decide +kernel
theorem d_re_meetsEven_19 : decode bc_re_meetsEven 19 = .ok (.istore_n 2, 1) := by decide +kernel
theorem d_re_meetsEven_20 : decode bc_re_meetsEven 20 = .ok (.iload_n 1, 1) := by decide +kernel
theorem d_re_meetsEven_21 : decode bc_re_meetsEven 21 = .ok (.tableswitch 118 0 6 #[43, 45, 59, 73, 87, 101, 116], 43) := by decide +kernel
theorem d_re_meetsEven_64 : decode bc_re_meetsEven 64 = .ok (.iconst 1, 1) := by decide +kernel
theorem d_re_meetsEven_65 : decode bc_re_meetsEven 65 = .ok (.ireturn, 1) := by decide +kernel
theorem d_re_meetsEven_66 : decode bc_re_meetsEven 66 = .ok (.aload_n 0, 1) := by decide +kernel
theorem d_re_meetsEven_67 : decode bc_re_meetsEven 67 = .ok (.iconst 5, 1) := by decide +kernel
theorem d_re_meetsEven_68 : decode bc_re_meetsEven 68 = .ok (.invokevirtual 20, 3) := by decide +kernel
theorem d_re_meetsEven_71 : decode bc_re_meetsEven 71 = .ok (.ifCond .ne 7, 3) := by decide +kernel
theorem d_re_meetsEven_74 : decode bc_re_meetsEven 74 = .ok (.iconst 1, 1) := by decide +kernel
theorem d_re_meetsEven_75 : decode bc_re_meetsEven 75 = .ok (.goto 4, 3) := by decide +kernel
theorem d_re_meetsEven_78 : decode bc_re_meetsEven 78 = .ok (.iconst 0, 1) := by decide +kernel
theorem d_re_meetsEven_79 : decode bc_re_meetsEven 79 = .ok (.ireturn, 1) := by decide +kernel
theorem d_re_meetsEven_80 : decode bc_re_meetsEven 80 = .ok (.aload_n 0, 1) := by decide +kernel
theorem d_re_meetsEven_81 : decode bc_re_meetsEven 81 = .ok (.iconst 1, 1) := by decide +kernel
theorem d_re_meetsEven_82 : decode bc_re_meetsEven 82 = .ok (.invokevirtual 20, 3) := by decide +kernel
theorem d_re_meetsEven_85 : decode bc_re_meetsEven 85 = .ok (.ifCond .ne 7, 3) := by decide +kernel
theorem d_re_meetsEven_88 : decode bc_re_meetsEven 88 = .ok (.iconst 1, 1) := by decide +kernel
theorem d_re_meetsEven_89 : decode bc_re_meetsEven 89 = .ok (.goto 4, 3) := by decide +kernel
theorem d_re_meetsEven_92 : decode bc_re_meetsEven 92 = .ok (.iconst 0, 1) := by decide +kernel
theorem d_re_meetsEven_93 : decode bc_re_meetsEven 93 = .ok (.ireturn, 1) := by decide +kernel
theorem d_re_meetsEven_94 : decode bc_re_meetsEven 94 = .ok (.aload_n 0, 1) := by decide +kernel
theorem d_re_meetsEven_95 : decode bc_re_meetsEven 95 = .ok (.iconst 4, 1) := by decide +kernel
theorem d_re_meetsEven_96 : decode bc_re_meetsEven 96 = .ok (.invokevirtual 20, 3) := by decide +kernel
theorem d_re_meetsEven_99 : decode bc_re_meetsEven 99 = .ok (.ifCond .ne 7, 3) := by decide +kernel
theorem d_re_meetsEven_102 : decode bc_re_meetsEven 102 = .ok (.iconst 1, 1) := by decide +kernel
theorem d_re_meetsEven_103 : decode bc_re_meetsEven 103 = .ok (.goto 4, 3) := by decide +kernel
theorem d_re_meetsEven_106 : decode bc_re_meetsEven 106 = .ok (.iconst 0, 1) := by decide +kernel
theorem d_re_meetsEven_107 : decode bc_re_meetsEven 107 = .ok (.ireturn, 1) := by decide +kernel
theorem d_re_meetsEven_108 : decode bc_re_meetsEven 108 = .ok (.aload_n 0, 1) := by decide +kernel
theorem d_re_meetsEven_109 : decode bc_re_meetsEven 109 = .ok (.iconst 2, 1) := by decide +kernel
theorem d_re_meetsEven_110 : decode bc_re_meetsEven 110 = .ok (.invokevirtual 20, 3) := by decide +kernel
theorem d_re_meetsEven_113 : decode bc_re_meetsEven 113 = .ok (.ifCond .ne 7, 3) := by decide +kernel
theorem d_re_meetsEven_116 : decode bc_re_meetsEven 116 = .ok (.iconst 1, 1) := by decide +kernel
theorem d_re_meetsEven_117 : decode bc_re_meetsEven 117 = .ok (.goto 4, 3) := by decide +kernel
theorem d_re_meetsEven_120 : decode bc_re_meetsEven 120 = .ok (.iconst 0, 1) := by decide +kernel
theorem d_re_meetsEven_121 : decode bc_re_meetsEven 121 = .ok (.ireturn, 1) := by decide +kernel
theorem d_re_meetsEven_122 : decode bc_re_meetsEven 122 = .ok (.aload_n 0, 1) := by decide +kernel
theorem d_re_meetsEven_123 : decode bc_re_meetsEven 123 = .ok (.bipush 8, 2) := by decide +kernel
theorem d_re_meetsEven_125 : decode bc_re_meetsEven 125 = .ok (.invokevirtual 20, 3) := by decide +kernel
theorem d_re_meetsEven_128 : decode bc_re_meetsEven 128 = .ok (.ifCond .ne 7, 3) := by decide +kernel
theorem d_re_meetsEven_131 : decode bc_re_meetsEven 131 = .ok (.iconst 1, 1) := by decide +kernel
theorem d_re_meetsEven_132 : decode bc_re_meetsEven 132 = .ok (.goto 4, 3) := by decide +kernel
theorem d_re_meetsEven_135 : decode bc_re_meetsEven 135 = .ok (.iconst 0, 1) := by decide +kernel
theorem d_re_meetsEven_136 : decode bc_re_meetsEven 136 = .ok (.ireturn, 1) := by decide +kernel
theorem d_re_meetsEven_137 : decode bc_re_meetsEven 137 = .ok (.iload_n 2, 1) := by decide +kernel
theorem d_re_meetsEven_138 : decode bc_re_meetsEven 138 = .ok (.ireturn, 1) := by decide +kernel
theorem d_re_meetsEven_139 : decode bc_re_meetsEven 139 = .ok (.iload_n 2, 1) := by decide +kernel
theorem d_re_meetsEven_140 : decode bc_re_meetsEven 140 = .ok (.ifCond .eq 15, 3) := by decide +kernel
theorem d_re_meetsEven_143 : decode bc_re_meetsEven 143 = .ok (.aload_n 0, 1) := by decide +kernel
theorem d_re_meetsEven_144 : decode bc_re_meetsEven 144 = .ok (.iconst 4, 1) := by decide +kernel
theorem d_re_meetsEven_145 : decode bc_re_meetsEven 145 = .ok (.invokevirtual 20, 3) := by decide +kernel
theorem d_re_meetsEven_148 : decode bc_re_meetsEven 148 = .ok (.ifCond .ne 7, 3) := by decide +kernel
theorem d_re_meetsEven_151 : decode bc_re_meetsEven 151 = .ok (.iconst 1, 1) := by decide +kernel
theorem d_re_meetsEven_152 : decode bc_re_meetsEven 152 = .ok (.goto 4, 3) := by decide +kernel
theorem d_re_meetsEven_155 : decode bc_re_meetsEven 155 = .ok (.iconst 0, 1) := by decide +kernel
theorem d_re_meetsEven_156 : decode bc_re_meetsEven 156 = .ok (.ireturn, 1) := by decide +kernel
theorem d_re_meets_0 : decode bc_re_meets 0 = .ok (.iload_n 1, 1) := by decide +kernel
theorem d_re_meets_1 : decode bc_re_meets 1 = .ok (.iconst 1, 1) := by decide +kernel
theorem d_re_meets_2 : decode bc_re_meets 2 = .ok (.iand, 1) := by decide +kernel
theorem d_re_meets_3 : decode bc_re_meets 3 = .ok (.ifCond .eq 7, 3) := by decide +kernel
theorem d_re_meets_6 : decode bc_re_meets 6 = .ok (.iconst 1, 1) := by decide +kernel
theorem d_re_meets_7 : decode bc_re_meets 7 = .ok (.goto 4, 3) := by decide +kernel
theorem d_re_meets_10 : decode bc_re_meets 10 = .ok (.iconst 0, 1) := by decide +kernel
theorem d_re_meets_11 : decode bc_re_meets 11 = .ok (.istore_n 2, 1) := by decide +kernel
theorem d_re_meets_12 : decode bc_re_meets 12 = .ok (.iload_n 2, 1) := by decide +kernel
theorem d_re_meets_13 : decode bc_re_meets 13 = .ok (.aload_n 0, 1) := by decide +kernel
theorem d_re_meets_14 : decode bc_re_meets 14 = .ok (.iload_n 1, 1) := by decide +kernel
theorem d_re_meets_15 : decode bc_re_meets 15 = .ok (.iconst 1, 1) := by decide +kernel
theorem d_re_meets_16 : decode bc_re_meets 16 = .ok (.ishr, 1) := by decide +kernel
theorem d_re_meets_17 : decode bc_re_meets 17 = .ok (.invokevirtual 16, 3) := by decide +kernel
theorem d_re_meets_20 : decode bc_re_meets 20 = .ok (.if_icmp .eq 7, 3) := by decide +kernel
theorem d_re_meets_23 : decode bc_re_meets 23 = .ok (.iconst 1, 1) := by decide +kernel
theorem d_re_meets_24 : decode bc_re_meets 24 = .ok (.goto 4, 3) := by decide +kernel
theorem d_re_meets_27 : decode bc_re_meets 27 = .ok (.iconst 0, 1) := by decide +kernel
theorem d_re_meets_28 : decode bc_re_meets 28 = .ok (.ireturn, 1) := by decide +kernel
theorem d_ar_pass_0 : decode bc_ar_pass 0 = .ok (.aload_n 0, 1) := by decide +kernel
theorem d_ar_pass_1 : decode bc_ar_pass 1 = .ok (.getfield 9, 3) := by decide +kernel
theorem d_ar_pass_4 : decode bc_ar_pass 4 = .ok (.iconst 2, 1) := by decide +kernel
theorem d_ar_pass_5 : decode bc_ar_pass 5 = .ok (.iconst 0, 1) := by decide +kernel
theorem d_ar_pass_6 : decode bc_ar_pass 6 = .ok (.invokevirtual 15, 3) := by decide +kernel
theorem d_ar_pass_9 : decode bc_ar_pass 9 = .ok (.aload_n 0, 1) := by decide +kernel
theorem d_ar_pass_10 : decode bc_ar_pass 10 = .ok (.getfield 9, 3) := by decide +kernel
theorem d_ar_pass_13 : decode bc_ar_pass 13 = .ok (.iload_n 1, 1) := by decide +kernel
theorem d_ar_pass_14 : decode bc_ar_pass 14 = .ok (.iload_n 2, 1) := by decide +kernel
theorem d_ar_pass_15 : decode bc_ar_pass 15 = .ok (.invokevirtual 21, 3) := by decide +kernel
theorem d_ar_pass_18 : decode bc_ar_pass 18 = .ok (.iload_n 1, 1) := by decide +kernel
theorem d_ar_pass_19 : decode bc_ar_pass 19 = .ok (.ireturn, 1) := by decide +kernel
theorem d_ar_add_0 : decode bc_ar_add 0 = .ok (.iload_n 1, 1) := by decide +kernel
theorem d_ar_add_1 : decode bc_ar_add 1 = .ok (.iload_n 2, 1) := by decide +kernel
theorem d_ar_add_2 : decode bc_ar_add 2 = .ok (.iadd, 1) := by decide +kernel
theorem d_ar_add_3 : decode bc_ar_add 3 = .ok (.iload_n 3, 1) := by decide +kernel
theorem d_ar_add_4 : decode bc_ar_add 4 = .ok (.iadd, 1) := by decide +kernel
theorem d_ar_add_5 : decode bc_ar_add 5 = .ok (.istore 5, 2) := by decide +kernel
theorem d_ar_add_7 : decode bc_ar_add 7 = .ok (.iload 5, 2) := by decide +kernel
theorem d_ar_add_9 : decode bc_ar_add 9 = .ok (.iconst 2, 1) := by decide +kernel
theorem d_ar_add_10 : decode bc_ar_add 10 = .ok (.iload 4, 2) := by decide +kernel
theorem d_ar_add_12 : decode bc_ar_add 12 = .ok (.imul, 1) := by decide +kernel
theorem d_ar_add_13 : decode bc_ar_add 13 = .ok (.iconst 1, 1) := by decide +kernel
theorem d_ar_add_14 : decode bc_ar_add 14 = .ok (.isub, 1) := by decide +kernel
theorem d_ar_add_15 : decode bc_ar_add 15 = .ok (.iand, 1) := by decide +kernel
theorem d_ar_add_16 : decode bc_ar_add 16 = .ok (.istore 6, 2) := by decide +kernel
theorem d_ar_add_18 : decode bc_ar_add 18 = .ok (.aload_n 0, 1) := by decide +kernel
theorem d_ar_add_19 : decode bc_ar_add 19 = .ok (.getfield 9, 3) := by decide +kernel
theorem d_ar_add_22 : decode bc_ar_add 22 = .ok (.iconst 2, 1) := by decide +kernel
theorem d_ar_add_23 : decode bc_ar_add 23 = .ok (.iload_n 1, 1) := by decide +kernel
theorem d_ar_add_24 : decode bc_ar_add 24 = .ok (.iload 6, 2) := by decide +kernel
theorem d_ar_add_26 : decode bc_ar_add 26 = .ok (.ixor, 1) := by decide +kernel
theorem d_ar_add_27 : decode bc_ar_add 27 = .ok (.iload_n 2, 1) := by decide +kernel
theorem d_ar_add_28 : decode bc_ar_add 28 = .ok (.iload 6, 2) := by decide +kernel
theorem d_ar_add_30 : decode bc_ar_add 30 = .ok (.ixor, 1) := by decide +kernel
theorem d_ar_add_31 : decode bc_ar_add 31 = .ok (.iand, 1) := by decide +kernel
theorem d_ar_add_32 : decode bc_ar_add 32 = .ok (.iload 4, 2) := by decide +kernel
theorem d_ar_add_34 : decode bc_ar_add 34 = .ok (.iand, 1) := by decide +kernel
theorem d_ar_add_35 : decode bc_ar_add 35 = .ok (.ifCond .eq 7, 3) := by decide +kernel
theorem d_ar_add_38 : decode bc_ar_add 38 = .ok (.iconst 1, 1) := by decide +kernel
theorem d_ar_add_39 : decode bc_ar_add 39 = .ok (.goto 4, 3) := by decide +kernel
theorem d_ar_add_42 : decode bc_ar_add 42 = .ok (.iconst 0, 1) := by decide +kernel
theorem d_ar_add_43 : decode bc_ar_add 43 = .ok (.invokevirtual 15, 3) := by decide +kernel
theorem d_ar_add_46 : decode bc_ar_add 46 = .ok (.aload_n 0, 1) := by decide +kernel
theorem d_ar_add_47 : decode bc_ar_add 47 = .ok (.getfield 9, 3) := by decide +kernel
theorem d_ar_add_50 : decode bc_ar_add 50 = .ok (.iconst 1, 1) := by decide +kernel
theorem d_ar_add_51 : decode bc_ar_add 51 = .ok (.iload 5, 2) := by decide +kernel
theorem d_ar_add_53 : decode bc_ar_add 53 = .ok (.iload 6, 2) := by decide +kernel
theorem d_ar_add_55 : decode bc_ar_add 55 = .ok (.if_icmp .eq 7, 3) := by decide +kernel
theorem d_ar_add_58 : decode bc_ar_add 58 = .ok (.iconst 1, 1) := by decide +kernel
theorem d_ar_add_59 : decode bc_ar_add 59 = .ok (.goto 4, 3) := by decide +kernel
theorem d_ar_add_62 : decode bc_ar_add 62 = .ok (.iconst 0, 1) := by decide +kernel
theorem d_ar_add_63 : decode bc_ar_add 63 = .ok (.invokevirtual 15, 3) := by decide +kernel
theorem d_ar_add_66 : decode bc_ar_add 66 = .ok (.aload_n 0, 1) := by decide +kernel
theorem d_ar_add_67 : decode bc_ar_add 67 = .ok (.getfield 9, 3) := by decide +kernel
theorem d_ar_add_70 : decode bc_ar_add 70 = .ok (.iload 6, 2) := by decide +kernel
theorem d_ar_add_72 : decode bc_ar_add 72 = .ok (.iload 4, 2) := by decide +kernel
theorem d_ar_add_74 : decode bc_ar_add 74 = .ok (.invokevirtual 21, 3) := by decide +kernel
theorem d_ar_add_77 : decode bc_ar_add 77 = .ok (.iload 6, 2) := by decide +kernel
theorem d_ar_add_79 : decode bc_ar_add 79 = .ok (.ireturn, 1) := by decide +kernel
theorem d_ar_subtract_0 : decode bc_ar_subtract 0 = .ok (.iload_n 1, 1) := by decide +kernel
theorem d_ar_subtract_1 : decode bc_ar_subtract 1 = .ok (.iload_n 2, 1) := by decide +kernel
theorem d_ar_subtract_2 : decode bc_ar_subtract 2 = .ok (.isub, 1) := by decide +kernel
theorem d_ar_subtract_3 : decode bc_ar_subtract 3 = .ok (.iload_n 3, 1) := by decide +kernel
theorem d_ar_subtract_4 : decode bc_ar_subtract 4 = .ok (.isub, 1) := by decide +kernel
theorem d_ar_subtract_5 : decode bc_ar_subtract 5 = .ok (.istore 5, 2) := by decide +kernel
theorem d_ar_subtract_7 : decode bc_ar_subtract 7 = .ok (.iload 5, 2) := by decide +kernel
theorem d_ar_subtract_9 : decode bc_ar_subtract 9 = .ok (.iconst 2, 1) := by decide +kernel
theorem d_ar_subtract_10 : decode bc_ar_subtract 10 = .ok (.iload 4, 2) := by decide +kernel
theorem d_ar_subtract_12 : decode bc_ar_subtract 12 = .ok (.imul, 1) := by decide +kernel
theorem d_ar_subtract_13 : decode bc_ar_subtract 13 = .ok (.iconst 1, 1) := by decide +kernel
theorem d_ar_subtract_14 : decode bc_ar_subtract 14 = .ok (.isub, 1) := by decide +kernel
theorem d_ar_subtract_15 : decode bc_ar_subtract 15 = .ok (.iand, 1) := by decide +kernel
theorem d_ar_subtract_16 : decode bc_ar_subtract 16 = .ok (.istore 6, 2) := by decide +kernel
theorem d_ar_subtract_18 : decode bc_ar_subtract 18 = .ok (.aload_n 0, 1) := by decide +kernel
theorem d_ar_subtract_19 : decode bc_ar_subtract 19 = .ok (.getfield 9, 3) := by decide +kernel
theorem d_ar_subtract_22 : decode bc_ar_subtract 22 = .ok (.iconst 2, 1) := by decide +kernel
theorem d_ar_subtract_23 : decode bc_ar_subtract 23 = .ok (.iload_n 1, 1) := by decide +kernel
theorem d_ar_subtract_24 : decode bc_ar_subtract 24 = .ok (.iload_n 2, 1) := by decide +kernel
theorem d_ar_subtract_25 : decode bc_ar_subtract 25 = .ok (.ixor, 1) := by decide +kernel
theorem d_ar_subtract_26 : decode bc_ar_subtract 26 = .ok (.iload_n 1, 1) := by decide +kernel
theorem d_ar_subtract_27 : decode bc_ar_subtract 27 = .ok (.iload 6, 2) := by decide +kernel
theorem d_ar_subtract_29 : decode bc_ar_subtract 29 = .ok (.ixor, 1) := by decide +kernel
theorem d_ar_subtract_30 : decode bc_ar_subtract 30 = .ok (.iand, 1) := by decide +kernel
theorem d_ar_subtract_31 : decode bc_ar_subtract 31 = .ok (.iload 4, 2) := by decide +kernel
theorem d_ar_subtract_33 : decode bc_ar_subtract 33 = .ok (.iand, 1) := by decide +kernel
theorem d_ar_subtract_34 : decode bc_ar_subtract 34 = .ok (.ifCond .eq 7, 3) := by decide +kernel
theorem d_ar_subtract_37 : decode bc_ar_subtract 37 = .ok (.iconst 1, 1) := by decide +kernel
theorem d_ar_subtract_38 : decode bc_ar_subtract 38 = .ok (.goto 4, 3) := by decide +kernel
theorem d_ar_subtract_41 : decode bc_ar_subtract 41 = .ok (.iconst 0, 1) := by decide +kernel
theorem d_ar_subtract_42 : decode bc_ar_subtract 42 = .ok (.invokevirtual 15, 3) := by decide +kernel
theorem d_ar_subtract_45 : decode bc_ar_subtract 45 = .ok (.aload_n 0, 1) := by decide +kernel
theorem d_ar_subtract_46 : decode bc_ar_subtract 46 = .ok (.getfield 9, 3) := by decide +kernel
theorem d_ar_subtract_49 : decode bc_ar_subtract 49 = .ok (.iconst 1, 1) := by decide +kernel
theorem d_ar_subtract_50 : decode bc_ar_subtract 50 = .ok (.iload 5, 2) := by decide +kernel
theorem d_ar_subtract_52 : decode bc_ar_subtract 52 = .ok (.ifCond .ge 7, 3) := by decide +kernel
theorem d_ar_subtract_55 : decode bc_ar_subtract 55 = .ok (.iconst 1, 1) := by decide +kernel
theorem d_ar_subtract_56 : decode bc_ar_subtract 56 = .ok (.goto 4, 3) := by decide +kernel
theorem d_ar_subtract_59 : decode bc_ar_subtract 59 = .ok (.iconst 0, 1) := by decide +kernel
theorem d_ar_subtract_60 : decode bc_ar_subtract 60 = .ok (.invokevirtual 15, 3) := by decide +kernel
theorem d_ar_subtract_63 : decode bc_ar_subtract 63 = .ok (.aload_n 0, 1) := by decide +kernel
theorem d_ar_subtract_64 : decode bc_ar_subtract 64 = .ok (.getfield 9, 3) := by decide +kernel
theorem d_ar_subtract_67 : decode bc_ar_subtract 67 = .ok (.iload 6, 2) := by decide +kernel
theorem d_ar_subtract_69 : decode bc_ar_subtract 69 = .ok (.iload 4, 2) := by decide +kernel
theorem d_ar_subtract_71 : decode bc_ar_subtract 71 = .ok (.invokevirtual 21, 3) := by decide +kernel
theorem d_ar_subtract_74 : decode bc_ar_subtract 74 = .ok (.iload 6, 2) := by decide +kernel
theorem d_ar_subtract_76 : decode bc_ar_subtract 76 = .ok (.ireturn, 1) := by decide +kernel
theorem d_ar_addByte_0 : decode bc_ar_addByte 0 = .ok (.aload_n 0, 1) := by decide +kernel
theorem d_ar_addByte_1 : decode bc_ar_addByte 1 = .ok (.getfield 9, 3) := by decide +kernel
theorem d_ar_addByte_4 : decode bc_ar_addByte 4 = .ok (.bipush 32, 2) := by decide +kernel
theorem d_ar_addByte_6 : decode bc_ar_addByte 6 = .ok (.iload_n 1, 1) := by decide +kernel
theorem d_ar_addByte_7 : decode bc_ar_addByte 7 = .ok (.bipush 15, 2) := by decide +kernel
theorem d_ar_addByte_9 : decode bc_ar_addByte 9 = .ok (.iand, 1) := by decide +kernel
theorem d_ar_addByte_10 : decode bc_ar_addByte 10 = .ok (.iload_n 2, 1) := by decide +kernel
theorem d_ar_addByte_11 : decode bc_ar_addByte 11 = .ok (.bipush 15, 2) := by decide +kernel
theorem d_ar_addByte_13 : decode bc_ar_addByte 13 = .ok (.iand, 1) := by decide +kernel
theorem d_ar_addByte_14 : decode bc_ar_addByte 14 = .ok (.iadd, 1) := by decide +kernel
theorem d_ar_addByte_15 : decode bc_ar_addByte 15 = .ok (.iload_n 3, 1) := by decide +kernel
theorem d_ar_addByte_16 : decode bc_ar_addByte 16 = .ok (.iadd, 1) := by decide +kernel
theorem d_ar_addByte_17 : decode bc_ar_addByte 17 = .ok (.bipush 15, 2) := by decide +kernel
theorem d_ar_addByte_19 : decode bc_ar_addByte 19 = .ok (.if_icmp .le 7, 3) := by decide +kernel
theorem d_ar_addByte_22 : decode bc_ar_addByte 22 = .ok (.iconst 1, 1) := by decide +kernel
theorem d_ar_addByte_23 : decode bc_ar_addByte 23 = .ok (.goto 4, 3) := by decide +kernel
theorem d_ar_addByte_26 : decode bc_ar_addByte 26 = .ok (.iconst 0, 1) := by decide +kernel
theorem d_ar_addByte_27 : decode bc_ar_addByte 27 = .ok (.invokevirtual 15, 3) := by decide +kernel
theorem d_ar_addByte_30 : decode bc_ar_addByte 30 = .ok (.aload_n 0, 1) := by decide +kernel
theorem d_ar_addByte_31 : decode bc_ar_addByte 31 = .ok (.iload_n 1, 1) := by decide +kernel
theorem d_ar_addByte_32 : decode bc_ar_addByte 32 = .ok (.iload_n 2, 1) := by decide +kernel
theorem d_ar_addByte_33 : decode bc_ar_addByte 33 = .ok (.iload_n 3, 1) := by decide +kernel
theorem d_ar_addByte_34 : decode bc_ar_addByte 34 = .ok (.sipush 128, 3) := by decide +kernel
theorem d_ar_addByte_37 : decode bc_ar_addByte 37 = .ok (.invokevirtual 41, 3) := by decide +kernel
theorem d_ar_addByte_40 : decode bc_ar_addByte 40 = .ok (.ireturn, 1) := by decide +kernel
theorem d_ar_combine_0 : decode bc_ar_combine 0 = .ok (.iload_n 1, 1) := by decide +kernel
theorem d_ar_combine_1 : decode bc_ar_combine 1 = .ok (.tableswitch 143 0 10 #[59, 59, 70, 143, 87, 87, 98, 143, 107, 118, 132], 59) := by decide +kernel
theorem d_ar_combine_60 : decode bc_ar_combine 60 = .ok (.aload_n 0, 1) := by decide +kernel
theorem d_ar_combine_61 : decode bc_ar_combine 61 = .ok (.iload_n 2, 1) := by decide +kernel
theorem d_ar_combine_62 : decode bc_ar_combine 62 = .ok (.iload_n 3, 1) := by decide +kernel
theorem d_ar_combine_63 : decode bc_ar_combine 63 = .ok (.iconst 0, 1) := by decide +kernel
theorem d_ar_combine_64 : decode bc_ar_combine 64 = .ok (.sipush 128, 3) := by decide +kernel
theorem d_ar_combine_67 : decode bc_ar_combine 67 = .ok (.invokevirtual 25, 3) := by decide +kernel
theorem d_ar_combine_70 : decode bc_ar_combine 70 = .ok (.ireturn, 1) := by decide +kernel
theorem d_ar_combine_71 : decode bc_ar_combine 71 = .ok (.aload_n 0, 1) := by decide +kernel
theorem d_ar_combine_72 : decode bc_ar_combine 72 = .ok (.iload_n 2, 1) := by decide +kernel
theorem d_ar_combine_73 : decode bc_ar_combine 73 = .ok (.iload_n 3, 1) := by decide +kernel
theorem d_ar_combine_74 : decode bc_ar_combine 74 = .ok (.aload_n 0, 1) := by decide +kernel
theorem d_ar_combine_75 : decode bc_ar_combine 75 = .ok (.getfield 9, 3) := by decide +kernel
theorem d_ar_combine_78 : decode bc_ar_combine 78 = .ok (.invokevirtual 29, 3) := by decide +kernel
theorem d_ar_combine_81 : decode bc_ar_combine 81 = .ok (.sipush 128, 3) := by decide +kernel
theorem d_ar_combine_84 : decode bc_ar_combine 84 = .ok (.invokevirtual 25, 3) := by decide +kernel
theorem d_ar_combine_87 : decode bc_ar_combine 87 = .ok (.ireturn, 1) := by decide +kernel
theorem d_ar_combine_88 : decode bc_ar_combine 88 = .ok (.aload_n 0, 1) := by decide +kernel
theorem d_ar_combine_89 : decode bc_ar_combine 89 = .ok (.iload_n 2, 1) := by decide +kernel
theorem d_ar_combine_90 : decode bc_ar_combine 90 = .ok (.iload_n 3, 1) := by decide +kernel
theorem d_ar_combine_91 : decode bc_ar_combine 91 = .ok (.iand, 1) := by decide +kernel
theorem d_ar_combine_92 : decode bc_ar_combine 92 = .ok (.sipush 128, 3) := by decide +kernel
theorem d_ar_combine_95 : decode bc_ar_combine 95 = .ok (.invokevirtual 33, 3) := by decide +kernel
theorem d_ar_combine_98 : decode bc_ar_combine 98 = .ok (.ireturn, 1) := by decide +kernel
theorem d_ar_combine_99 : decode bc_ar_combine 99 = .ok (.aload_n 0, 1) := by decide +kernel
theorem d_ar_combine_100 : decode bc_ar_combine 100 = .ok (.iload_n 3, 1) := by decide +kernel
theorem d_ar_combine_101 : decode bc_ar_combine 101 = .ok (.sipush 128, 3) := by decide +kernel
theorem d_ar_combine_104 : decode bc_ar_combine 104 = .ok (.invokevirtual 33, 3) := by decide +kernel
theorem d_ar_combine_107 : decode bc_ar_combine 107 = .ok (.ireturn, 1) := by decide +kernel
theorem d_ar_combine_108 : decode bc_ar_combine 108 = .ok (.aload_n 0, 1) := by decide +kernel
theorem d_ar_combine_109 : decode bc_ar_combine 109 = .ok (.iload_n 2, 1) := by decide +kernel
theorem d_ar_combine_110 : decode bc_ar_combine 110 = .ok (.iload_n 3, 1) := by decide +kernel
theorem d_ar_combine_111 : decode bc_ar_combine 111 = .ok (.ixor, 1) := by decide +kernel
theorem d_ar_combine_112 : decode bc_ar_combine 112 = .ok (.sipush 128, 3) := by decide +kernel
theorem d_ar_combine_115 : decode bc_ar_combine 115 = .ok (.invokevirtual 33, 3) := by decide +kernel
theorem d_ar_combine_118 : decode bc_ar_combine 118 = .ok (.ireturn, 1) := by decide +kernel
theorem d_ar_combine_119 : decode bc_ar_combine 119 = .ok (.aload_n 0, 1) := by decide +kernel
theorem d_ar_combine_120 : decode bc_ar_combine 120 = .ok (.iload_n 2, 1) := by decide +kernel
theorem d_ar_combine_121 : decode bc_ar_combine 121 = .ok (.iload_n 3, 1) := by decide +kernel
theorem d_ar_combine_122 : decode bc_ar_combine 122 = .ok (.aload_n 0, 1) := by decide +kernel
theorem d_ar_combine_123 : decode bc_ar_combine 123 = .ok (.getfield 9, 3) := by decide +kernel
theorem d_ar_combine_126 : decode bc_ar_combine 126 = .ok (.invokevirtual 29, 3) := by decide +kernel
theorem d_ar_combine_129 : decode bc_ar_combine 129 = .ok (.invokevirtual 37, 3) := by decide +kernel
theorem d_ar_combine_132 : decode bc_ar_combine 132 = .ok (.ireturn, 1) := by decide +kernel
theorem d_ar_combine_133 : decode bc_ar_combine 133 = .ok (.aload_n 0, 1) := by decide +kernel
theorem d_ar_combine_134 : decode bc_ar_combine 134 = .ok (.iload_n 2, 1) := by decide +kernel
theorem d_ar_combine_135 : decode bc_ar_combine 135 = .ok (.iload_n 3, 1) := by decide +kernel
theorem d_ar_combine_136 : decode bc_ar_combine 136 = .ok (.ior, 1) := by decide +kernel
theorem d_ar_combine_137 : decode bc_ar_combine 137 = .ok (.sipush 128, 3) := by decide +kernel
theorem d_ar_combine_140 : decode bc_ar_combine 140 = .ok (.invokevirtual 33, 3) := by decide +kernel
theorem d_ar_combine_143 : decode bc_ar_combine 143 = .ok (.ireturn, 1) := by decide +kernel
theorem d_ar_combine_144 : decode bc_ar_combine 144 = .ok (.aload_n 0, 1) := by decide +kernel
theorem d_ar_combine_145 : decode bc_ar_combine 145 = .ok (.iload_n 2, 1) := by decide +kernel
theorem d_ar_combine_146 : decode bc_ar_combine 146 = .ok (.iload_n 3, 1) := by decide +kernel
theorem d_ar_combine_147 : decode bc_ar_combine 147 = .ok (.iconst 0, 1) := by decide +kernel
theorem d_ar_combine_148 : decode bc_ar_combine 148 = .ok (.invokevirtual 37, 3) := by decide +kernel
theorem d_ar_combine_151 : decode bc_ar_combine 151 = .ok (.ireturn, 1) := by decide +kernel
theorem d_ar_shiftDown_0 : decode bc_ar_shiftDown 0 = .ok (.iload_n 1, 1) := by decide +kernel
theorem d_ar_shiftDown_1 : decode bc_ar_shiftDown 1 = .ok (.iconst 1, 1) := by decide +kernel
theorem d_ar_shiftDown_2 : decode bc_ar_shiftDown 2 = .ok (.ishr, 1) := by decide +kernel
theorem d_ar_shiftDown_3 : decode bc_ar_shiftDown 3 = .ok (.iload_n 2, 1) := by decide +kernel
theorem d_ar_shiftDown_4 : decode bc_ar_shiftDown 4 = .ok (.ior, 1) := by decide +kernel
theorem d_ar_shiftDown_5 : decode bc_ar_shiftDown 5 = .ok (.istore_n 3, 1) := by decide +kernel
theorem d_ar_shiftDown_6 : decode bc_ar_shiftDown 6 = .ok (.aload_n 0, 1) := by decide +kernel
theorem d_ar_shiftDown_7 : decode bc_ar_shiftDown 7 = .ok (.getfield 9, 3) := by decide +kernel
theorem d_ar_shiftDown_10 : decode bc_ar_shiftDown 10 = .ok (.iconst 1, 1) := by decide +kernel
theorem d_ar_shiftDown_11 : decode bc_ar_shiftDown 11 = .ok (.iload_n 1, 1) := by decide +kernel
theorem d_ar_shiftDown_12 : decode bc_ar_shiftDown 12 = .ok (.iconst 1, 1) := by decide +kernel
theorem d_ar_shiftDown_13 : decode bc_ar_shiftDown 13 = .ok (.iand, 1) := by decide +kernel
theorem d_ar_shiftDown_14 : decode bc_ar_shiftDown 14 = .ok (.ifCond .eq 7, 3) := by decide +kernel
theorem d_ar_shiftDown_17 : decode bc_ar_shiftDown 17 = .ok (.iconst 1, 1) := by decide +kernel
theorem d_ar_shiftDown_18 : decode bc_ar_shiftDown 18 = .ok (.goto 4, 3) := by decide +kernel
theorem d_ar_shiftDown_21 : decode bc_ar_shiftDown 21 = .ok (.iconst 0, 1) := by decide +kernel
theorem d_ar_shiftDown_22 : decode bc_ar_shiftDown 22 = .ok (.invokevirtual 15, 3) := by decide +kernel
theorem d_ar_shiftDown_25 : decode bc_ar_shiftDown 25 = .ok (.aload_n 0, 1) := by decide +kernel
theorem d_ar_shiftDown_26 : decode bc_ar_shiftDown 26 = .ok (.getfield 9, 3) := by decide +kernel
theorem d_ar_shiftDown_29 : decode bc_ar_shiftDown 29 = .ok (.iload_n 3, 1) := by decide +kernel
theorem d_ar_shiftDown_30 : decode bc_ar_shiftDown 30 = .ok (.sipush 128, 3) := by decide +kernel
theorem d_ar_shiftDown_33 : decode bc_ar_shiftDown 33 = .ok (.invokevirtual 21, 3) := by decide +kernel
theorem d_ar_shiftDown_36 : decode bc_ar_shiftDown 36 = .ok (.iload_n 3, 1) := by decide +kernel
theorem d_ar_shiftDown_37 : decode bc_ar_shiftDown 37 = .ok (.ireturn, 1) := by decide +kernel
theorem d_ar_shiftUp_0 : decode bc_ar_shiftUp 0 = .ok (.iload_n 1, 1) := by decide +kernel
theorem d_ar_shiftUp_1 : decode bc_ar_shiftUp 1 = .ok (.iconst 1, 1) := by decide +kernel
theorem d_ar_shiftUp_2 : decode bc_ar_shiftUp 2 = .ok (.ishl, 1) := by decide +kernel
theorem d_ar_shiftUp_3 : decode bc_ar_shiftUp 3 = .ok (.sipush 255, 3) := by decide +kernel
theorem d_ar_shiftUp_6 : decode bc_ar_shiftUp 6 = .ok (.iand, 1) := by decide +kernel
theorem d_ar_shiftUp_7 : decode bc_ar_shiftUp 7 = .ok (.iload_n 2, 1) := by decide +kernel
theorem d_ar_shiftUp_8 : decode bc_ar_shiftUp 8 = .ok (.ior, 1) := by decide +kernel
theorem d_ar_shiftUp_9 : decode bc_ar_shiftUp 9 = .ok (.istore_n 3, 1) := by decide +kernel
theorem d_ar_shiftUp_10 : decode bc_ar_shiftUp 10 = .ok (.aload_n 0, 1) := by decide +kernel
theorem d_ar_shiftUp_11 : decode bc_ar_shiftUp 11 = .ok (.getfield 9, 3) := by decide +kernel
theorem d_ar_shiftUp_14 : decode bc_ar_shiftUp 14 = .ok (.iconst 1, 1) := by decide +kernel
theorem d_ar_shiftUp_15 : decode bc_ar_shiftUp 15 = .ok (.iload_n 1, 1) := by decide +kernel
theorem d_ar_shiftUp_16 : decode bc_ar_shiftUp 16 = .ok (.sipush 128, 3) := by decide +kernel
theorem d_ar_shiftUp_19 : decode bc_ar_shiftUp 19 = .ok (.iand, 1) := by decide +kernel
theorem d_ar_shiftUp_20 : decode bc_ar_shiftUp 20 = .ok (.ifCond .eq 7, 3) := by decide +kernel
theorem d_ar_shiftUp_23 : decode bc_ar_shiftUp 23 = .ok (.iconst 1, 1) := by decide +kernel
theorem d_ar_shiftUp_24 : decode bc_ar_shiftUp 24 = .ok (.goto 4, 3) := by decide +kernel
theorem d_ar_shiftUp_27 : decode bc_ar_shiftUp 27 = .ok (.iconst 0, 1) := by decide +kernel
theorem d_ar_shiftUp_28 : decode bc_ar_shiftUp 28 = .ok (.invokevirtual 15, 3) := by decide +kernel
theorem d_ar_shiftUp_31 : decode bc_ar_shiftUp 31 = .ok (.aload_n 0, 1) := by decide +kernel
theorem d_ar_shiftUp_32 : decode bc_ar_shiftUp 32 = .ok (.getfield 9, 3) := by decide +kernel
theorem d_ar_shiftUp_35 : decode bc_ar_shiftUp 35 = .ok (.iconst 2, 1) := by decide +kernel
theorem d_ar_shiftUp_36 : decode bc_ar_shiftUp 36 = .ok (.iload_n 1, 1) := by decide +kernel
theorem d_ar_shiftUp_37 : decode bc_ar_shiftUp 37 = .ok (.iload_n 1, 1) := by decide +kernel
theorem d_ar_shiftUp_38 : decode bc_ar_shiftUp 38 = .ok (.iconst 1, 1) := by decide +kernel
theorem d_ar_shiftUp_39 : decode bc_ar_shiftUp 39 = .ok (.ishl, 1) := by decide +kernel
theorem d_ar_shiftUp_40 : decode bc_ar_shiftUp 40 = .ok (.ixor, 1) := by decide +kernel
theorem d_ar_shiftUp_41 : decode bc_ar_shiftUp 41 = .ok (.sipush 128, 3) := by decide +kernel
theorem d_ar_shiftUp_44 : decode bc_ar_shiftUp 44 = .ok (.iand, 1) := by decide +kernel
theorem d_ar_shiftUp_45 : decode bc_ar_shiftUp 45 = .ok (.ifCond .eq 7, 3) := by decide +kernel
theorem d_ar_shiftUp_48 : decode bc_ar_shiftUp 48 = .ok (.iconst 1, 1) := by decide +kernel
theorem d_ar_shiftUp_49 : decode bc_ar_shiftUp 49 = .ok (.goto 4, 3) := by decide +kernel
theorem d_ar_shiftUp_52 : decode bc_ar_shiftUp 52 = .ok (.iconst 0, 1) := by decide +kernel
theorem d_ar_shiftUp_53 : decode bc_ar_shiftUp 53 = .ok (.invokevirtual 15, 3) := by decide +kernel
theorem d_ar_shiftUp_56 : decode bc_ar_shiftUp 56 = .ok (.aload_n 0, 1) := by decide +kernel
theorem d_ar_shiftUp_57 : decode bc_ar_shiftUp 57 = .ok (.getfield 9, 3) := by decide +kernel
theorem d_ar_shiftUp_60 : decode bc_ar_shiftUp 60 = .ok (.iload_n 3, 1) := by decide +kernel
theorem d_ar_shiftUp_61 : decode bc_ar_shiftUp 61 = .ok (.sipush 128, 3) := by decide +kernel
theorem d_ar_shiftUp_64 : decode bc_ar_shiftUp 64 = .ok (.invokevirtual 21, 3) := by decide +kernel
theorem d_ar_shiftUp_67 : decode bc_ar_shiftUp 67 = .ok (.iload_n 3, 1) := by decide +kernel
theorem d_ar_shiftUp_68 : decode bc_ar_shiftUp 68 = .ok (.ireturn, 1) := by decide +kernel
theorem d_ar_count_0 : decode bc_ar_count 0 = .ok (.aload_n 0, 1) := by decide +kernel
theorem d_ar_count_1 : decode bc_ar_count 1 = .ok (.getfield 9, 3) := by decide +kernel
theorem d_ar_count_4 : decode bc_ar_count 4 = .ok (.iconst 2, 1) := by decide +kernel
theorem d_ar_count_5 : decode bc_ar_count 5 = .ok (.iload_n 2, 1) := by decide +kernel
theorem d_ar_count_6 : decode bc_ar_count 6 = .ok (.invokevirtual 15, 3) := by decide +kernel
theorem d_ar_count_9 : decode bc_ar_count 9 = .ok (.aload_n 0, 1) := by decide +kernel
theorem d_ar_count_10 : decode bc_ar_count 10 = .ok (.getfield 9, 3) := by decide +kernel
theorem d_ar_count_13 : decode bc_ar_count 13 = .ok (.iload_n 1, 1) := by decide +kernel
theorem d_ar_count_14 : decode bc_ar_count 14 = .ok (.sipush 128, 3) := by decide +kernel
theorem d_ar_count_17 : decode bc_ar_count 17 = .ok (.invokevirtual 21, 3) := by decide +kernel
theorem d_ar_count_20 : decode bc_ar_count 20 = .ok (.iload_n 1, 1) := by decide +kernel
theorem d_ar_count_21 : decode bc_ar_count 21 = .ok (.ireturn, 1) := by decide +kernel
theorem d_ar_alter_0 : decode bc_ar_alter 0 = .ok (.iload_n 1, 1) := by decide +kernel
theorem d_ar_alter_1 : decode bc_ar_alter 1 = .ok (.tableswitch 216 0 13 #[71, 216, 216, 82, 106, 216, 113, 129, 140, 147, 160, 216, 184, 207], 71) := by decide +kernel
theorem d_ar_alter_72 : decode bc_ar_alter 72 = .ok (.aload_n 0, 1) := by decide +kernel
theorem d_ar_alter_73 : decode bc_ar_alter 73 = .ok (.iconst 0, 1) := by decide +kernel
theorem d_ar_alter_74 : decode bc_ar_alter 74 = .ok (.iload_n 2, 1) := by decide +kernel
theorem d_ar_alter_75 : decode bc_ar_alter 75 = .ok (.iconst 0, 1) := by decide +kernel
theorem d_ar_alter_76 : decode bc_ar_alter 76 = .ok (.sipush 128, 3) := by decide +kernel
theorem d_ar_alter_79 : decode bc_ar_alter 79 = .ok (.invokevirtual 25, 3) := by decide +kernel
theorem d_ar_alter_82 : decode bc_ar_alter 82 = .ok (.ireturn, 1) := by decide +kernel
theorem d_ar_alter_83 : decode bc_ar_alter 83 = .ok (.aload_n 0, 1) := by decide +kernel
theorem d_ar_alter_84 : decode bc_ar_alter 84 = .ok (.getfield 9, 3) := by decide +kernel
theorem d_ar_alter_87 : decode bc_ar_alter 87 = .ok (.iconst 1, 1) := by decide +kernel
theorem d_ar_alter_88 : decode bc_ar_alter 88 = .ok (.iconst 1, 1) := by decide +kernel
theorem d_ar_alter_89 : decode bc_ar_alter 89 = .ok (.invokevirtual 15, 3) := by decide +kernel
theorem d_ar_alter_92 : decode bc_ar_alter 92 = .ok (.aload_n 0, 1) := by decide +kernel
theorem d_ar_alter_93 : decode bc_ar_alter 93 = .ok (.iload_n 2, 1) := by decide +kernel
theorem d_ar_alter_94 : decode bc_ar_alter 94 = .ok (.iconst (-1), 1) := by decide +kernel
theorem d_ar_alter_95 : decode bc_ar_alter 95 = .ok (.ixor, 1) := by decide +kernel
theorem d_ar_alter_96 : decode bc_ar_alter 96 = .ok (.sipush 255, 3) := by decide +kernel
theorem d_ar_alter_99 : decode bc_ar_alter 99 = .ok (.iand, 1) := by decide +kernel
theorem d_ar_alter_100 : decode bc_ar_alter 100 = .ok (.sipush 128, 3) := by decide +kernel
theorem d_ar_alter_103 : decode bc_ar_alter 103 = .ok (.invokevirtual 33, 3) := by decide +kernel
theorem d_ar_alter_106 : decode bc_ar_alter 106 = .ok (.ireturn, 1) := by decide +kernel
theorem d_ar_alter_107 : decode bc_ar_alter 107 = .ok (.aload_n 0, 1) := by decide +kernel
theorem d_ar_alter_108 : decode bc_ar_alter 108 = .ok (.iload_n 2, 1) := by decide +kernel
theorem d_ar_alter_109 : decode bc_ar_alter 109 = .ok (.iconst 0, 1) := by decide +kernel
theorem d_ar_alter_110 : decode bc_ar_alter 110 = .ok (.invokevirtual 44, 3) := by decide +kernel
theorem d_ar_alter_113 : decode bc_ar_alter 113 = .ok (.ireturn, 1) := by decide +kernel
theorem d_ar_alter_114 : decode bc_ar_alter 114 = .ok (.aload_n 0, 1) := by decide +kernel
theorem d_ar_alter_115 : decode bc_ar_alter 115 = .ok (.iload_n 2, 1) := by decide +kernel
theorem d_ar_alter_116 : decode bc_ar_alter 116 = .ok (.aload_n 0, 1) := by decide +kernel
theorem d_ar_alter_117 : decode bc_ar_alter 117 = .ok (.getfield 9, 3) := by decide +kernel
theorem d_ar_alter_120 : decode bc_ar_alter 120 = .ok (.invokevirtual 29, 3) := by decide +kernel
theorem d_ar_alter_123 : decode bc_ar_alter 123 = .ok (.bipush 7, 2) := by decide +kernel
theorem d_ar_alter_125 : decode bc_ar_alter 125 = .ok (.ishl, 1) := by decide +kernel
theorem d_ar_alter_126 : decode bc_ar_alter 126 = .ok (.invokevirtual 44, 3) := by decide +kernel
theorem d_ar_alter_129 : decode bc_ar_alter 129 = .ok (.ireturn, 1) := by decide +kernel
theorem d_ar_alter_130 : decode bc_ar_alter 130 = .ok (.aload_n 0, 1) := by decide +kernel
theorem d_ar_alter_131 : decode bc_ar_alter 131 = .ok (.iload_n 2, 1) := by decide +kernel
theorem d_ar_alter_132 : decode bc_ar_alter 132 = .ok (.iload_n 2, 1) := by decide +kernel
theorem d_ar_alter_133 : decode bc_ar_alter 133 = .ok (.sipush 128, 3) := by decide +kernel
theorem d_ar_alter_136 : decode bc_ar_alter 136 = .ok (.iand, 1) := by decide +kernel
theorem d_ar_alter_137 : decode bc_ar_alter 137 = .ok (.invokevirtual 44, 3) := by decide +kernel
theorem d_ar_alter_140 : decode bc_ar_alter 140 = .ok (.ireturn, 1) := by decide +kernel
theorem d_ar_alter_141 : decode bc_ar_alter 141 = .ok (.aload_n 0, 1) := by decide +kernel
theorem d_ar_alter_142 : decode bc_ar_alter 142 = .ok (.iload_n 2, 1) := by decide +kernel
theorem d_ar_alter_143 : decode bc_ar_alter 143 = .ok (.iconst 0, 1) := by decide +kernel
theorem d_ar_alter_144 : decode bc_ar_alter 144 = .ok (.invokevirtual 47, 3) := by decide +kernel
theorem d_ar_alter_147 : decode bc_ar_alter 147 = .ok (.ireturn, 1) := by decide +kernel
theorem d_ar_alter_148 : decode bc_ar_alter 148 = .ok (.aload_n 0, 1) := by decide +kernel
theorem d_ar_alter_149 : decode bc_ar_alter 149 = .ok (.iload_n 2, 1) := by decide +kernel
theorem d_ar_alter_150 : decode bc_ar_alter 150 = .ok (.aload_n 0, 1) := by decide +kernel
theorem d_ar_alter_151 : decode bc_ar_alter 151 = .ok (.getfield 9, 3) := by decide +kernel
theorem d_ar_alter_154 : decode bc_ar_alter 154 = .ok (.invokevirtual 29, 3) := by decide +kernel
theorem d_ar_alter_157 : decode bc_ar_alter 157 = .ok (.invokevirtual 47, 3) := by decide +kernel
theorem d_ar_alter_160 : decode bc_ar_alter 160 = .ok (.ireturn, 1) := by decide +kernel
theorem d_ar_alter_161 : decode bc_ar_alter 161 = .ok (.aload_n 0, 1) := by decide +kernel
theorem d_ar_alter_162 : decode bc_ar_alter 162 = .ok (.iload_n 2, 1) := by decide +kernel
theorem d_ar_alter_163 : decode bc_ar_alter 163 = .ok (.iconst 1, 1) := by decide +kernel
theorem d_ar_alter_164 : decode bc_ar_alter 164 = .ok (.isub, 1) := by decide +kernel
theorem d_ar_alter_165 : decode bc_ar_alter 165 = .ok (.sipush 255, 3) := by decide +kernel
theorem d_ar_alter_168 : decode bc_ar_alter 168 = .ok (.iand, 1) := by decide +kernel
theorem d_ar_alter_169 : decode bc_ar_alter 169 = .ok (.iload_n 2, 1) := by decide +kernel
theorem d_ar_alter_170 : decode bc_ar_alter 170 = .ok (.sipush 128, 3) := by decide +kernel
theorem d_ar_alter_173 : decode bc_ar_alter 173 = .ok (.if_icmp .ne 7, 3) := by decide +kernel
theorem d_ar_alter_176 : decode bc_ar_alter 176 = .ok (.iconst 1, 1) := by decide +kernel
theorem d_ar_alter_177 : decode bc_ar_alter 177 = .ok (.goto 4, 3) := by decide +kernel
theorem d_ar_alter_180 : decode bc_ar_alter 180 = .ok (.iconst 0, 1) := by decide +kernel
theorem d_ar_alter_181 : decode bc_ar_alter 181 = .ok (.invokevirtual 50, 3) := by decide +kernel
theorem d_ar_alter_184 : decode bc_ar_alter 184 = .ok (.ireturn, 1) := by decide +kernel
theorem d_ar_alter_185 : decode bc_ar_alter 185 = .ok (.aload_n 0, 1) := by decide +kernel
theorem d_ar_alter_186 : decode bc_ar_alter 186 = .ok (.iload_n 2, 1) := by decide +kernel
theorem d_ar_alter_187 : decode bc_ar_alter 187 = .ok (.iconst 1, 1) := by decide +kernel
theorem d_ar_alter_188 : decode bc_ar_alter 188 = .ok (.iadd, 1) := by decide +kernel
theorem d_ar_alter_189 : decode bc_ar_alter 189 = .ok (.sipush 255, 3) := by decide +kernel
theorem d_ar_alter_192 : decode bc_ar_alter 192 = .ok (.iand, 1) := by decide +kernel
theorem d_ar_alter_193 : decode bc_ar_alter 193 = .ok (.iload_n 2, 1) := by decide +kernel
theorem d_ar_alter_194 : decode bc_ar_alter 194 = .ok (.bipush 127, 2) := by decide +kernel
theorem d_ar_alter_196 : decode bc_ar_alter 196 = .ok (.if_icmp .ne 7, 3) := by decide +kernel
theorem d_ar_alter_199 : decode bc_ar_alter 199 = .ok (.iconst 1, 1) := by decide +kernel
theorem d_ar_alter_200 : decode bc_ar_alter 200 = .ok (.goto 4, 3) := by decide +kernel
theorem d_ar_alter_203 : decode bc_ar_alter 203 = .ok (.iconst 0, 1) := by decide +kernel
theorem d_ar_alter_204 : decode bc_ar_alter 204 = .ok (.invokevirtual 50, 3) := by decide +kernel
theorem d_ar_alter_207 : decode bc_ar_alter 207 = .ok (.ireturn, 1) := by decide +kernel
theorem d_ar_alter_208 : decode bc_ar_alter 208 = .ok (.aload_n 0, 1) := by decide +kernel
theorem d_ar_alter_209 : decode bc_ar_alter 209 = .ok (.iload_n 2, 1) := by decide +kernel
theorem d_ar_alter_210 : decode bc_ar_alter 210 = .ok (.sipush 128, 3) := by decide +kernel
theorem d_ar_alter_213 : decode bc_ar_alter 213 = .ok (.invokevirtual 33, 3) := by decide +kernel
theorem d_ar_alter_216 : decode bc_ar_alter 216 = .ok (.ireturn, 1) := by decide +kernel
theorem d_ar_alter_217 : decode bc_ar_alter 217 = .ok (.aload_n 0, 1) := by decide +kernel
theorem d_ar_alter_218 : decode bc_ar_alter 218 = .ok (.getfield 9, 3) := by decide +kernel
theorem d_ar_alter_221 : decode bc_ar_alter 221 = .ok (.iconst 1, 1) := by decide +kernel
theorem d_ar_alter_222 : decode bc_ar_alter 222 = .ok (.iconst 0, 1) := by decide +kernel
theorem d_ar_alter_223 : decode bc_ar_alter 223 = .ok (.invokevirtual 15, 3) := by decide +kernel
theorem d_ar_alter_226 : decode bc_ar_alter 226 = .ok (.aload_n 0, 1) := by decide +kernel
theorem d_ar_alter_227 : decode bc_ar_alter 227 = .ok (.iconst 0, 1) := by decide +kernel
theorem d_ar_alter_228 : decode bc_ar_alter 228 = .ok (.sipush 128, 3) := by decide +kernel
theorem d_ar_alter_231 : decode bc_ar_alter 231 = .ok (.invokevirtual 33, 3) := by decide +kernel
theorem d_ar_alter_234 : decode bc_ar_alter 234 = .ok (.ireturn, 1) := by decide +kernel
theorem d_ar_adjustDecimal_0 : decode bc_ar_adjustDecimal 0 = .ok (.aload_n 0, 1) := by decide +kernel
theorem d_ar_adjustDecimal_1 : decode bc_ar_adjustDecimal 1 = .ok (.getfield 9, 3) := by decide +kernel
theorem d_ar_adjustDecimal_4 : decode bc_ar_adjustDecimal 4 = .ok (.iconst 0, 1) := by decide +kernel
theorem d_ar_adjustDecimal_5 : decode bc_ar_adjustDecimal 5 = .ok (.invokevirtual 54, 3) := by decide +kernel
theorem d_ar_adjustDecimal_8 : decode bc_ar_adjustDecimal 8 = .ok (.istore_n 1, 1) := by decide +kernel
theorem d_ar_adjustDecimal_9 : decode bc_ar_adjustDecimal 9 = .ok (.iload_n 1, 1) := by decide +kernel
theorem d_ar_adjustDecimal_10 : decode bc_ar_adjustDecimal 10 = .ok (.iconst 4, 1) := by decide +kernel
theorem d_ar_adjustDecimal_11 : decode bc_ar_adjustDecimal 11 = .ok (.ishr, 1) := by decide +kernel
theorem d_ar_adjustDecimal_12 : decode bc_ar_adjustDecimal 12 = .ok (.istore_n 2, 1) := by decide +kernel
theorem d_ar_adjustDecimal_13 : decode bc_ar_adjustDecimal 13 = .ok (.iload_n 1, 1) := by decide +kernel
theorem d_ar_adjustDecimal_14 : decode bc_ar_adjustDecimal 14 = .ok (.bipush 15, 2) := by decide +kernel
theorem d_ar_adjustDecimal_16 : decode bc_ar_adjustDecimal 16 = .ok (.iand, 1) := by decide +kernel
theorem d_ar_adjustDecimal_17 : decode bc_ar_adjustDecimal 17 = .ok (.bipush 9, 2) := by decide +kernel
theorem d_ar_adjustDecimal_19 : decode bc_ar_adjustDecimal 19 = .ok (.if_icmp .le 7, 3) := by decide +kernel
theorem d_ar_adjustDecimal_22 : decode bc_ar_adjustDecimal 22 = .ok (.iconst 1, 1) := by decide +kernel
theorem d_ar_adjustDecimal_23 : decode bc_ar_adjustDecimal 23 = .ok (.goto 4, 3) := by decide +kernel
theorem d_ar_adjustDecimal_26 : decode bc_ar_adjustDecimal 26 = .ok (.iconst 0, 1) := by decide +kernel
theorem d_ar_adjustDecimal_27 : decode bc_ar_adjustDecimal 27 = .ok (.istore_n 3, 1) := by decide +kernel
theorem d_ar_adjustDecimal_28 : decode bc_ar_adjustDecimal 28 = .ok (.iload_n 1, 1) := by decide +kernel
theorem d_ar_adjustDecimal_29 : decode bc_ar_adjustDecimal 29 = .ok (.istore 4, 2) := by decide +kernel
theorem d_ar_adjustDecimal_31 : decode bc_ar_adjustDecimal 31 = .ok (.aload_n 0, 1) := by decide +kernel
theorem d_ar_adjustDecimal_32 : decode bc_ar_adjustDecimal 32 = .ok (.getfield 9, 3) := by decide +kernel
theorem d_ar_adjustDecimal_35 : decode bc_ar_adjustDecimal 35 = .ok (.bipush 32, 2) := by decide +kernel
theorem d_ar_adjustDecimal_37 : decode bc_ar_adjustDecimal 37 = .ok (.invokevirtual 58, 3) := by decide +kernel
theorem d_ar_adjustDecimal_40 : decode bc_ar_adjustDecimal 40 = .ok (.ifCond .ne 7, 3) := by decide +kernel
theorem d_ar_adjustDecimal_43 : decode bc_ar_adjustDecimal 43 = .ok (.iload_n 3, 1) := by decide +kernel
theorem d_ar_adjustDecimal_44 : decode bc_ar_adjustDecimal 44 = .ok (.ifCond .eq 6, 3) := by decide +kernel
theorem d_ar_adjustDecimal_47 : decode bc_ar_adjustDecimal 47 = .ok (.iinc 4 6, 3) := by decide +kernel
theorem d_ar_adjustDecimal_50 : decode bc_ar_adjustDecimal 50 = .ok (.aload_n 0, 1) := by decide +kernel
theorem d_ar_adjustDecimal_51 : decode bc_ar_adjustDecimal 51 = .ok (.getfield 9, 3) := by decide +kernel
theorem d_ar_adjustDecimal_54 : decode bc_ar_adjustDecimal 54 = .ok (.iconst 1, 1) := by decide +kernel
theorem d_ar_adjustDecimal_55 : decode bc_ar_adjustDecimal 55 = .ok (.invokevirtual 58, 3) := by decide +kernel
theorem d_ar_adjustDecimal_58 : decode bc_ar_adjustDecimal 58 = .ok (.ifCond .ne 19, 3) := by decide +kernel
theorem d_ar_adjustDecimal_61 : decode bc_ar_adjustDecimal 61 = .ok (.iload_n 2, 1) := by decide +kernel
theorem d_ar_adjustDecimal_62 : decode bc_ar_adjustDecimal 62 = .ok (.bipush 9, 2) := by decide +kernel
theorem d_ar_adjustDecimal_64 : decode bc_ar_adjustDecimal 64 = .ok (.if_icmp .gt 13, 3) := by decide +kernel
theorem d_ar_adjustDecimal_67 : decode bc_ar_adjustDecimal 67 = .ok (.iload_n 2, 1) := by decide +kernel
theorem d_ar_adjustDecimal_68 : decode bc_ar_adjustDecimal 68 = .ok (.bipush 8, 2) := by decide +kernel
theorem d_ar_adjustDecimal_70 : decode bc_ar_adjustDecimal 70 = .ok (.if_icmp .le 10, 3) := by decide +kernel
theorem d_ar_adjustDecimal_73 : decode bc_ar_adjustDecimal 73 = .ok (.iload_n 3, 1) := by decide +kernel
theorem d_ar_adjustDecimal_74 : decode bc_ar_adjustDecimal 74 = .ok (.ifCond .eq 6, 3) := by decide +kernel
theorem d_ar_adjustDecimal_77 : decode bc_ar_adjustDecimal 77 = .ok (.iinc 4 96, 3) := by decide +kernel
theorem d_ar_adjustDecimal_80 : decode bc_ar_adjustDecimal 80 = .ok (.iload 4, 2) := by decide +kernel
theorem d_ar_adjustDecimal_82 : decode bc_ar_adjustDecimal 82 = .ok (.sipush 255, 3) := by decide +kernel
theorem d_ar_adjustDecimal_85 : decode bc_ar_adjustDecimal 85 = .ok (.if_icmp .le 12, 3) := by decide +kernel
theorem d_ar_adjustDecimal_88 : decode bc_ar_adjustDecimal 88 = .ok (.aload_n 0, 1) := by decide +kernel
theorem d_ar_adjustDecimal_89 : decode bc_ar_adjustDecimal 89 = .ok (.getfield 9, 3) := by decide +kernel
theorem d_ar_adjustDecimal_92 : decode bc_ar_adjustDecimal 92 = .ok (.iconst 1, 1) := by decide +kernel
