theorem d_ar_adjustDecimal_93 : decode bc_ar_adjustDecimal 93 = .ok (.iconst 1, 1) := by decide +kernel
theorem d_ar_adjustDecimal_94 : decode bc_ar_adjustDecimal 94 = .ok (.invokevirtual 15, 3) := by decide +kernel
theorem d_ar_adjustDecimal_97 : decode bc_ar_adjustDecimal 97 = .ok (.aload_n 0, 1) := by decide +kernel
theorem d_ar_adjustDecimal_98 : decode bc_ar_adjustDecimal 98 = .ok (.getfield 9, 3) := by decide +kernel
theorem d_ar_adjustDecimal_101 : decode bc_ar_adjustDecimal 101 = .ok (.iconst 0, 1) := by decide +kernel
theorem d_ar_adjustDecimal_102 : decode bc_ar_adjustDecimal 102 = .ok (.iload 4, 2) := by decide +kernel
theorem d_ar_adjustDecimal_104 : decode bc_ar_adjustDecimal 104 = .ok (.invokevirtual 62, 3) := by decide +kernel
theorem d_ar_adjustDecimal_107 : decode bc_ar_adjustDecimal 107 = .ok (.aload_n 0, 1) := by decide +kernel
theorem d_ar_adjustDecimal_108 : decode bc_ar_adjustDecimal 108 = .ok (.getfield 9, 3) := by decide +kernel
theorem d_ar_adjustDecimal_111 : decode bc_ar_adjustDecimal 111 = .ok (.iload 4, 2) := by decide +kernel
theorem d_ar_adjustDecimal_113 : decode bc_ar_adjustDecimal 113 = .ok (.sipush 255, 3) := by decide +kernel
theorem d_ar_adjustDecimal_116 : decode bc_ar_adjustDecimal 116 = .ok (.iand, 1) := by decide +kernel
theorem d_ar_adjustDecimal_117 : decode bc_ar_adjustDecimal 117 = .ok (.sipush 128, 3) := by decide +kernel
theorem d_ar_adjustDecimal_120 : decode bc_ar_adjustDecimal 120 = .ok (.invokevirtual 21, 3) := by decide +kernel
theorem d_ar_adjustDecimal_123 : decode bc_ar_adjustDecimal 123 = .ok (.return_, 1) := by decide +kernel
theorem d_ar_extendSign_0 : decode bc_ar_extendSign 0 = .ok (.aload_n 0, 1) := by decide +kernel
theorem d_ar_extendSign_1 : decode bc_ar_extendSign 1 = .ok (.getfield 9, 3) := by decide +kernel
theorem d_ar_extendSign_4 : decode bc_ar_extendSign 4 = .ok (.iconst 0, 1) := by decide +kernel
theorem d_ar_extendSign_5 : decode bc_ar_extendSign 5 = .ok (.aload_n 0, 1) := by decide +kernel
theorem d_ar_extendSign_6 : decode bc_ar_extendSign 6 = .ok (.getfield 9, 3) := by decide +kernel
theorem d_ar_extendSign_9 : decode bc_ar_extendSign 9 = .ok (.iconst 1, 1) := by decide +kernel
theorem d_ar_extendSign_10 : decode bc_ar_extendSign 10 = .ok (.invokevirtual 54, 3) := by decide +kernel
theorem d_ar_extendSign_13 : decode bc_ar_extendSign 13 = .ok (.sipush 128, 3) := by decide +kernel
theorem d_ar_extendSign_16 : decode bc_ar_extendSign 16 = .ok (.iand, 1) := by decide +kernel
theorem d_ar_extendSign_17 : decode bc_ar_extendSign 17 = .ok (.ifCond .eq 9, 3) := by decide +kernel
theorem d_ar_extendSign_20 : decode bc_ar_extendSign 20 = .ok (.sipush 255, 3) := by decide +kernel
theorem d_ar_extendSign_23 : decode bc_ar_extendSign 23 = .ok (.goto 4, 3) := by decide +kernel
theorem d_ar_extendSign_26 : decode bc_ar_extendSign 26 = .ok (.iconst 0, 1) := by decide +kernel
theorem d_ar_extendSign_27 : decode bc_ar_extendSign 27 = .ok (.invokevirtual 62, 3) := by decide +kernel
theorem d_ar_extendSign_30 : decode bc_ar_extendSign 30 = .ok (.aload_n 0, 1) := by decide +kernel
theorem d_ar_extendSign_31 : decode bc_ar_extendSign 31 = .ok (.aload_n 0, 1) := by decide +kernel
theorem d_ar_extendSign_32 : decode bc_ar_extendSign 32 = .ok (.getfield 9, 3) := by decide +kernel
theorem d_ar_extendSign_35 : decode bc_ar_extendSign 35 = .ok (.bipush 9, 2) := by decide +kernel
theorem d_ar_extendSign_37 : decode bc_ar_extendSign 37 = .ok (.invokevirtual 54, 3) := by decide +kernel
theorem d_ar_extendSign_40 : decode bc_ar_extendSign 40 = .ok (.ldc 65, 2) := by decide +kernel
theorem d_ar_extendSign_42 : decode bc_ar_extendSign 42 = .ok (.invokevirtual 33, 3) := by decide +kernel
theorem d_ar_extendSign_45 : decode bc_ar_extendSign 45 = .ok (.pop, 1) := by decide +kernel
theorem d_ar_extendSign_46 : decode bc_ar_extendSign 46 = .ok (.return_, 1) := by decide +kernel
theorem d_ar_multiply_0 : decode bc_ar_multiply 0 = .ok (.aload_n 0, 1) := by decide +kernel
theorem d_ar_multiply_1 : decode bc_ar_multiply 1 = .ok (.getfield 9, 3) := by decide +kernel
theorem d_ar_multiply_4 : decode bc_ar_multiply 4 = .ok (.iconst 0, 1) := by decide +kernel
theorem d_ar_multiply_5 : decode bc_ar_multiply 5 = .ok (.invokevirtual 54, 3) := by decide +kernel
theorem d_ar_multiply_8 : decode bc_ar_multiply 8 = .ok (.aload_n 0, 1) := by decide +kernel
theorem d_ar_multiply_9 : decode bc_ar_multiply 9 = .ok (.getfield 9, 3) := by decide +kernel
theorem d_ar_multiply_12 : decode bc_ar_multiply 12 = .ok (.iconst 1, 1) := by decide +kernel
theorem d_ar_multiply_13 : decode bc_ar_multiply 13 = .ok (.invokevirtual 54, 3) := by decide +kernel
theorem d_ar_multiply_16 : decode bc_ar_multiply 16 = .ok (.imul, 1) := by decide +kernel
theorem d_ar_multiply_17 : decode bc_ar_multiply 17 = .ok (.istore_n 1, 1) := by decide +kernel
theorem d_ar_multiply_18 : decode bc_ar_multiply 18 = .ok (.aload_n 0, 1) := by decide +kernel
theorem d_ar_multiply_19 : decode bc_ar_multiply 19 = .ok (.getfield 9, 3) := by decide +kernel
theorem d_ar_multiply_22 : decode bc_ar_multiply 22 = .ok (.bipush 9, 2) := by decide +kernel
theorem d_ar_multiply_24 : decode bc_ar_multiply 24 = .ok (.iload_n 1, 1) := by decide +kernel
theorem d_ar_multiply_25 : decode bc_ar_multiply 25 = .ok (.invokevirtual 62, 3) := by decide +kernel
theorem d_ar_multiply_28 : decode bc_ar_multiply 28 = .ok (.aload_n 0, 1) := by decide +kernel
theorem d_ar_multiply_29 : decode bc_ar_multiply 29 = .ok (.getfield 9, 3) := by decide +kernel
theorem d_ar_multiply_32 : decode bc_ar_multiply 32 = .ok (.iconst 4, 1) := by decide +kernel
theorem d_ar_multiply_33 : decode bc_ar_multiply 33 = .ok (.iload_n 1, 1) := by decide +kernel
theorem d_ar_multiply_34 : decode bc_ar_multiply 34 = .ok (.ifCond .ne 7, 3) := by decide +kernel
theorem d_ar_multiply_37 : decode bc_ar_multiply 37 = .ok (.iconst 1, 1) := by decide +kernel
theorem d_ar_multiply_38 : decode bc_ar_multiply 38 = .ok (.goto 4, 3) := by decide +kernel
theorem d_ar_multiply_41 : decode bc_ar_multiply 41 = .ok (.iconst 0, 1) := by decide +kernel
theorem d_ar_multiply_42 : decode bc_ar_multiply 42 = .ok (.invokevirtual 15, 3) := by decide +kernel
theorem d_ar_multiply_45 : decode bc_ar_multiply 45 = .ok (.aload_n 0, 1) := by decide +kernel
theorem d_ar_multiply_46 : decode bc_ar_multiply 46 = .ok (.getfield 9, 3) := by decide +kernel
theorem d_ar_multiply_49 : decode bc_ar_multiply 49 = .ok (.iconst 1, 1) := by decide +kernel
theorem d_ar_multiply_50 : decode bc_ar_multiply 50 = .ok (.iload_n 1, 1) := by decide +kernel
theorem d_ar_multiply_51 : decode bc_ar_multiply 51 = .ok (.sipush 128, 3) := by decide +kernel
theorem d_ar_multiply_54 : decode bc_ar_multiply 54 = .ok (.iand, 1) := by decide +kernel
theorem d_ar_multiply_55 : decode bc_ar_multiply 55 = .ok (.ifCond .eq 7, 3) := by decide +kernel
theorem d_ar_multiply_58 : decode bc_ar_multiply 58 = .ok (.iconst 1, 1) := by decide +kernel
theorem d_ar_multiply_59 : decode bc_ar_multiply 59 = .ok (.goto 4, 3) := by decide +kernel
theorem d_ar_multiply_62 : decode bc_ar_multiply 62 = .ok (.iconst 0, 1) := by decide +kernel
theorem d_ar_multiply_63 : decode bc_ar_multiply 63 = .ok (.invokevirtual 15, 3) := by decide +kernel
theorem d_ar_multiply_66 : decode bc_ar_multiply 66 = .ok (.return_, 1) := by decide +kernel
theorem d_tc_reset_0 : decode bc_tc_reset 0 = .ok (.aload_n 0, 1) := by decide +kernel
theorem d_tc_reset_1 : decode bc_tc_reset 1 = .ok (.getfield 19, 3) := by decide +kernel
theorem d_tc_reset_4 : decode bc_tc_reset 4 = .ok (.bipush 7, 2) := by decide +kernel
theorem d_tc_reset_6 : decode bc_tc_reset 6 = .ok (.iconst 0, 1) := by decide +kernel
theorem d_tc_reset_7 : decode bc_tc_reset 7 = .ok (.invokevirtual 36, 3) := by decide +kernel
theorem d_tc_reset_10 : decode bc_tc_reset 10 = .ok (.aload_n 0, 1) := by decide +kernel
theorem d_tc_reset_11 : decode bc_tc_reset 11 = .ok (.getfield 19, 3) := by decide +kernel
theorem d_tc_reset_14 : decode bc_tc_reset 14 = .ok (.bipush 80, 2) := by decide +kernel
theorem d_tc_reset_16 : decode bc_tc_reset 16 = .ok (.iconst 1, 1) := by decide +kernel
theorem d_tc_reset_17 : decode bc_tc_reset 17 = .ok (.invokevirtual 40, 3) := by decide +kernel
theorem d_tc_reset_20 : decode bc_tc_reset 20 = .ok (.aload_n 0, 1) := by decide +kernel
theorem d_tc_reset_21 : decode bc_tc_reset 21 = .ok (.iconst 0, 1) := by decide +kernel
theorem d_tc_reset_22 : decode bc_tc_reset 22 = .ok (.putfield 44, 3) := by decide +kernel
theorem d_tc_reset_25 : decode bc_tc_reset 25 = .ok (.aload_n 0, 1) := by decide +kernel
theorem d_tc_reset_26 : decode bc_tc_reset 26 = .ok (.iconst 0, 1) := by decide +kernel
theorem d_tc_reset_27 : decode bc_tc_reset 27 = .ok (.putfield 48, 3) := by decide +kernel
theorem d_tc_reset_30 : decode bc_tc_reset 30 = .ok (.aload_n 0, 1) := by decide +kernel
theorem d_tc_reset_31 : decode bc_tc_reset 31 = .ok (.iconst 0, 1) := by decide +kernel
theorem d_tc_reset_32 : decode bc_tc_reset 32 = .ok (.putfield 51, 3) := by decide +kernel
theorem d_tc_reset_35 : decode bc_tc_reset 35 = .ok (.aload_n 0, 1) := by decide +kernel
theorem d_tc_reset_36 : decode bc_tc_reset 36 = .ok (.getfield 19, 3) := by decide +kernel
theorem d_tc_reset_39 : decode bc_tc_reset 39 = .ok (.bipush 6, 2) := by decide +kernel
theorem d_tc_reset_41 : decode bc_tc_reset 41 = .ok (.aload_n 0, 1) := by decide +kernel
theorem d_tc_reset_42 : decode bc_tc_reset 42 = .ok (.getfield 10, 3) := by decide +kernel
theorem d_tc_reset_45 : decode bc_tc_reset 45 = .ok (.ldc 55, 2) := by decide +kernel
theorem d_tc_reset_47 : decode bc_tc_reset 47 = .ok (.invokevirtual 56, 3) := by decide +kernel
theorem d_tc_reset_50 : decode bc_tc_reset 50 = .ok (.invokevirtual 36, 3) := by decide +kernel
theorem d_tc_reset_53 : decode bc_tc_reset 53 = .ok (.return_, 1) := by decide +kernel
theorem d_tc_poke_0 : decode bc_tc_poke 0 = .ok (.iload_n 1, 1) := by decide +kernel
theorem d_tc_poke_1 : decode bc_tc_poke 1 = .ok (.invokestatic 60, 3) := by decide +kernel
theorem d_tc_poke_4 : decode bc_tc_poke 4 = .ok (.ifCond .eq 14, 3) := by decide +kernel
theorem d_tc_poke_7 : decode bc_tc_poke 7 = .ok (.iload_n 2, 1) := by decide +kernel
theorem d_tc_poke_8 : decode bc_tc_poke 8 = .ok (.ifCond .lt 10, 3) := by decide +kernel
theorem d_tc_poke_11 : decode bc_tc_poke 11 = .ok (.iload_n 2, 1) := by decide +kernel
theorem d_tc_poke_12 : decode bc_tc_poke 12 = .ok (.sipush 255, 3) := by decide +kernel
theorem d_tc_poke_15 : decode bc_tc_poke 15 = .ok (.if_icmp .le 5, 3) := by decide +kernel
theorem d_tc_poke_18 : decode bc_tc_poke 18 = .ok (.iconst 0, 1) := by decide +kernel
theorem d_tc_poke_19 : decode bc_tc_poke 19 = .ok (.ireturn, 1) := by decide +kernel
theorem d_tc_poke_20 : decode bc_tc_poke 20 = .ok (.aload_n 0, 1) := by decide +kernel
theorem d_tc_poke_21 : decode bc_tc_poke 21 = .ok (.getfield 10, 3) := by decide +kernel
theorem d_tc_poke_24 : decode bc_tc_poke 24 = .ok (.iload_n 1, 1) := by decide +kernel
theorem d_tc_poke_25 : decode bc_tc_poke 25 = .ok (.iload_n 2, 1) := by decide +kernel
theorem d_tc_poke_26 : decode bc_tc_poke 26 = .ok (.invokevirtual 64, 3) := by decide +kernel
theorem d_tc_poke_29 : decode bc_tc_poke 29 = .ok (.iconst 1, 1) := by decide +kernel
theorem d_tc_poke_30 : decode bc_tc_poke 30 = .ok (.ireturn, 1) := by decide +kernel
theorem d_tc_load_0 : decode bc_tc_load 0 = .ok (.iload_n 3, 1) := by decide +kernel
theorem d_tc_load_1 : decode bc_tc_load 1 = .ok (.iconst 1, 1) := by decide +kernel
theorem d_tc_load_2 : decode bc_tc_load 2 = .ok (.if_icmp .lt 8, 3) := by decide +kernel
theorem d_tc_load_5 : decode bc_tc_load 5 = .ok (.iload_n 3, 1) := by decide +kernel
theorem d_tc_load_6 : decode bc_tc_load 6 = .ok (.iconst 4, 1) := by decide +kernel
theorem d_tc_load_7 : decode bc_tc_load 7 = .ok (.if_icmp .le 5, 3) := by decide +kernel
theorem d_tc_load_10 : decode bc_tc_load 10 = .ok (.iconst 0, 1) := by decide +kernel
theorem d_tc_load_11 : decode bc_tc_load 11 = .ok (.ireturn, 1) := by decide +kernel
theorem d_tc_load_12 : decode bc_tc_load 12 = .ok (.iload_n 1, 1) := by decide +kernel
theorem d_tc_load_13 : decode bc_tc_load 13 = .ok (.invokestatic 60, 3) := by decide +kernel
theorem d_tc_load_16 : decode bc_tc_load 16 = .ok (.ifCond .eq 14, 3) := by decide +kernel
theorem d_tc_load_19 : decode bc_tc_load 19 = .ok (.iload_n 1, 1) := by decide +kernel
theorem d_tc_load_20 : decode bc_tc_load 20 = .ok (.iload_n 3, 1) := by decide +kernel
theorem d_tc_load_21 : decode bc_tc_load 21 = .ok (.iadd, 1) := by decide +kernel
theorem d_tc_load_22 : decode bc_tc_load 22 = .ok (.iconst 1, 1) := by decide +kernel
theorem d_tc_load_23 : decode bc_tc_load 23 = .ok (.isub, 1) := by decide +kernel
theorem d_tc_load_24 : decode bc_tc_load 24 = .ok (.invokestatic 60, 3) := by decide +kernel
theorem d_tc_load_27 : decode bc_tc_load 27 = .ok (.ifCond .ne 5, 3) := by decide +kernel
theorem d_tc_load_30 : decode bc_tc_load 30 = .ok (.iconst 0, 1) := by decide +kernel
theorem d_tc_load_31 : decode bc_tc_load 31 = .ok (.ireturn, 1) := by decide +kernel
theorem d_tc_load_32 : decode bc_tc_load 32 = .ok (.iconst 0, 1) := by decide +kernel
theorem d_tc_load_33 : decode bc_tc_load 33 = .ok (.istore 4, 2) := by decide +kernel
theorem d_tc_load_35 : decode bc_tc_load 35 = .ok (.iload 4, 2) := by decide +kernel
theorem d_tc_load_37 : decode bc_tc_load 37 = .ok (.iload_n 3, 1) := by decide +kernel
theorem d_tc_load_38 : decode bc_tc_load 38 = .ok (.if_icmp .ge 31, 3) := by decide +kernel
theorem d_tc_load_41 : decode bc_tc_load 41 = .ok (.aload_n 0, 1) := by decide +kernel
theorem d_tc_load_42 : decode bc_tc_load 42 = .ok (.getfield 10, 3) := by decide +kernel
theorem d_tc_load_45 : decode bc_tc_load 45 = .ok (.iload_n 1, 1) := by decide +kernel
theorem d_tc_load_46 : decode bc_tc_load 46 = .ok (.iload 4, 2) := by decide +kernel
theorem d_tc_load_48 : decode bc_tc_load 48 = .ok (.iadd, 1) := by decide +kernel
theorem d_tc_load_49 : decode bc_tc_load 49 = .ok (.iload_n 2, 1) := by decide +kernel
theorem d_tc_load_50 : decode bc_tc_load 50 = .ok (.bipush 8, 2) := by decide +kernel
theorem d_tc_load_52 : decode bc_tc_load 52 = .ok (.iload_n 3, 1) := by decide +kernel
theorem d_tc_load_53 : decode bc_tc_load 53 = .ok (.iconst 1, 1) := by decide +kernel
theorem d_tc_load_54 : decode bc_tc_load 54 = .ok (.isub, 1) := by decide +kernel
theorem d_tc_load_55 : decode bc_tc_load 55 = .ok (.iload 4, 2) := by decide +kernel
theorem d_tc_load_57 : decode bc_tc_load 57 = .ok (.isub, 1) := by decide +kernel
theorem d_tc_load_58 : decode bc_tc_load 58 = .ok (.imul, 1) := by decide +kernel
theorem d_tc_load_59 : decode bc_tc_load 59 = .ok (.ishr, 1) := by decide +kernel
theorem d_tc_load_60 : decode bc_tc_load 60 = .ok (.invokevirtual 64, 3) := by decide +kernel
theorem d_tc_load_63 : decode bc_tc_load 63 = .ok (.iinc 4 1, 3) := by decide +kernel
theorem d_tc_load_66 : decode bc_tc_load 66 = .ok (.goto (-31), 3) := by decide +kernel
theorem d_tc_load_69 : decode bc_tc_load 69 = .ok (.iconst 1, 1) := by decide +kernel
theorem d_tc_load_70 : decode bc_tc_load 70 = .ok (.ireturn, 1) := by decide +kernel
theorem d_tc_peek_0 : decode bc_tc_peek 0 = .ok (.iload_n 1, 1) := by decide +kernel
theorem d_tc_peek_1 : decode bc_tc_peek 1 = .ok (.invokestatic 60, 3) := by decide +kernel
theorem d_tc_peek_4 : decode bc_tc_peek 4 = .ok (.ifCond .eq 14, 3) := by decide +kernel
theorem d_tc_peek_7 : decode bc_tc_peek 7 = .ok (.aload_n 0, 1) := by decide +kernel
theorem d_tc_peek_8 : decode bc_tc_peek 8 = .ok (.getfield 10, 3) := by decide +kernel
theorem d_tc_peek_11 : decode bc_tc_peek 11 = .ok (.iload_n 1, 1) := by decide +kernel
theorem d_tc_peek_12 : decode bc_tc_peek 12 = .ok (.invokevirtual 67, 3) := by decide +kernel
theorem d_tc_peek_15 : decode bc_tc_peek 15 = .ok (.goto 4, 3) := by decide +kernel
theorem d_tc_peek_18 : decode bc_tc_peek 18 = .ok (.iconst (-1), 1) := by decide +kernel
theorem d_tc_peek_19 : decode bc_tc_peek 19 = .ok (.ireturn, 1) := by decide +kernel
theorem d_tc_lineToServe_0 : decode bc_tc_lineToServe 0 = .ok (.aload_n 0, 1) := by decide +kernel
theorem d_tc_lineToServe_1 : decode bc_tc_lineToServe 1 = .ok (.getfield 48, 3) := by decide +kernel
theorem d_tc_lineToServe_4 : decode bc_tc_lineToServe 4 = .ok (.ifCond .eq 5, 3) := by decide +kernel
theorem d_tc_lineToServe_7 : decode bc_tc_lineToServe 7 = .ok (.iconst 0, 1) := by decide +kernel
theorem d_tc_lineToServe_8 : decode bc_tc_lineToServe 8 = .ok (.ireturn, 1) := by decide +kernel
theorem d_tc_lineToServe_9 : decode bc_tc_lineToServe 9 = .ok (.aload_n 0, 1) := by decide +kernel
theorem d_tc_lineToServe_10 : decode bc_tc_lineToServe 10 = .ok (.getfield 32, 3) := by decide +kernel
theorem d_tc_lineToServe_13 : decode bc_tc_lineToServe 13 = .ok (.iconst 1, 1) := by decide +kernel
theorem d_tc_lineToServe_14 : decode bc_tc_lineToServe 14 = .ok (.iaload, 1) := by decide +kernel
theorem d_tc_lineToServe_15 : decode bc_tc_lineToServe 15 = .ok (.iconst 1, 1) := by decide +kernel
theorem d_tc_lineToServe_16 : decode bc_tc_lineToServe 16 = .ok (.if_icmp .ne 17, 3) := by decide +kernel
theorem d_tc_lineToServe_19 : decode bc_tc_lineToServe 19 = .ok (.aload_n 0, 1) := by decide +kernel
theorem d_tc_lineToServe_20 : decode bc_tc_lineToServe 20 = .ok (.getfield 19, 3) := by decide +kernel
theorem d_tc_lineToServe_23 : decode bc_tc_lineToServe 23 = .ok (.bipush 64, 2) := by decide +kernel
theorem d_tc_lineToServe_25 : decode bc_tc_lineToServe 25 = .ok (.invokevirtual 103, 3) := by decide +kernel
theorem d_tc_lineToServe_28 : decode bc_tc_lineToServe 28 = .ok (.ifCond .ne 5, 3) := by decide +kernel
theorem d_tc_lineToServe_31 : decode bc_tc_lineToServe 31 = .ok (.iconst 1, 1) := by decide +kernel
theorem d_tc_lineToServe_32 : decode bc_tc_lineToServe 32 = .ok (.ireturn, 1) := by decide +kernel
theorem d_tc_lineToServe_33 : decode bc_tc_lineToServe 33 = .ok (.aload_n 0, 1) := by decide +kernel
theorem d_tc_lineToServe_34 : decode bc_tc_lineToServe 34 = .ok (.getfield 32, 3) := by decide +kernel
theorem d_tc_lineToServe_37 : decode bc_tc_lineToServe 37 = .ok (.iconst 2, 1) := by decide +kernel
theorem d_tc_lineToServe_38 : decode bc_tc_lineToServe 38 = .ok (.iaload, 1) := by decide +kernel
theorem d_tc_lineToServe_39 : decode bc_tc_lineToServe 39 = .ok (.iconst 1, 1) := by decide +kernel
theorem d_tc_lineToServe_40 : decode bc_tc_lineToServe 40 = .ok (.if_icmp .ne 17, 3) := by decide +kernel
theorem d_tc_lineToServe_43 : decode bc_tc_lineToServe 43 = .ok (.aload_n 0, 1) := by decide +kernel
theorem d_tc_lineToServe_44 : decode bc_tc_lineToServe 44 = .ok (.getfield 19, 3) := by decide +kernel
theorem d_tc_lineToServe_47 : decode bc_tc_lineToServe 47 = .ok (.bipush 16, 2) := by decide +kernel
theorem d_tc_lineToServe_49 : decode bc_tc_lineToServe 49 = .ok (.invokevirtual 103, 3) := by decide +kernel
theorem d_tc_lineToServe_52 : decode bc_tc_lineToServe 52 = .ok (.ifCond .ne 5, 3) := by decide +kernel
theorem d_tc_lineToServe_55 : decode bc_tc_lineToServe 55 = .ok (.iconst 2, 1) := by decide +kernel
theorem d_tc_lineToServe_56 : decode bc_tc_lineToServe 56 = .ok (.ireturn, 1) := by decide +kernel
theorem d_tc_lineToServe_57 : decode bc_tc_lineToServe 57 = .ok (.iconst (-1), 1) := by decide +kernel
theorem d_tc_lineToServe_58 : decode bc_tc_lineToServe 58 = .ok (.ireturn, 1) := by decide +kernel
theorem d_tc_pushWord_0 : decode bc_tc_pushWord 0 = .ok (.aload_n 0, 1) := by decide +kernel
theorem d_tc_pushWord_1 : decode bc_tc_pushWord 1 = .ok (.getfield 19, 3) := by decide +kernel
theorem d_tc_pushWord_4 : decode bc_tc_pushWord 4 = .ok (.iload_n 1, 1) := by decide +kernel
theorem d_tc_pushWord_5 : decode bc_tc_pushWord 5 = .ok (.aload_n 0, 1) := by decide +kernel
theorem d_tc_pushWord_6 : decode bc_tc_pushWord 6 = .ok (.getfield 19, 3) := by decide +kernel
theorem d_tc_pushWord_9 : decode bc_tc_pushWord 9 = .ok (.iload_n 1, 1) := by decide +kernel
theorem d_tc_pushWord_10 : decode bc_tc_pushWord 10 = .ok (.invokevirtual 82, 3) := by decide +kernel
theorem d_tc_pushWord_13 : decode bc_tc_pushWord 13 = .ok (.iconst 2, 1) := by decide +kernel
theorem d_tc_pushWord_14 : decode bc_tc_pushWord 14 = .ok (.isub, 1) := by decide +kernel
theorem d_tc_pushWord_15 : decode bc_tc_pushWord 15 = .ok (.invokevirtual 36, 3) := by decide +kernel
theorem d_tc_pushWord_18 : decode bc_tc_pushWord 18 = .ok (.aload_n 0, 1) := by decide +kernel
theorem d_tc_pushWord_19 : decode bc_tc_pushWord 19 = .ok (.getfield 10, 3) := by decide +kernel
theorem d_tc_pushWord_22 : decode bc_tc_pushWord 22 = .ok (.aload_n 0, 1) := by decide +kernel
theorem d_tc_pushWord_23 : decode bc_tc_pushWord 23 = .ok (.getfield 19, 3) := by decide +kernel
theorem d_tc_pushWord_26 : decode bc_tc_pushWord 26 = .ok (.iload_n 1, 1) := by decide +kernel
theorem d_tc_pushWord_27 : decode bc_tc_pushWord 27 = .ok (.invokevirtual 82, 3) := by decide +kernel
theorem d_tc_pushWord_30 : decode bc_tc_pushWord 30 = .ok (.iload_n 2, 1) := by decide +kernel
theorem d_tc_pushWord_31 : decode bc_tc_pushWord 31 = .ok (.invokevirtual 235, 3) := by decide +kernel
theorem d_tc_pushWord_34 : decode bc_tc_pushWord 34 = .ok (.return_, 1) := by decide +kernel
theorem d_tc_otherStack_0 : decode bc_tc_otherStack 0 = .ok (.iload_n 0, 1) := by decide +kernel
theorem d_tc_otherStack_1 : decode bc_tc_otherStack 1 = .ok (.iconst 5, 1) := by decide +kernel
theorem d_tc_otherStack_2 : decode bc_tc_otherStack 2 = .ok (.if_icmp .ne 7, 3) := by decide +kernel
theorem d_tc_otherStack_5 : decode bc_tc_otherStack 5 = .ok (.iconst 4, 1) := by decide +kernel
theorem d_tc_otherStack_6 : decode bc_tc_otherStack 6 = .ok (.goto 4, 3) := by decide +kernel
theorem d_tc_otherStack_9 : decode bc_tc_otherStack 9 = .ok (.iconst 5, 1) := by decide +kernel
theorem d_tc_otherStack_10 : decode bc_tc_otherStack 10 = .ok (.ireturn, 1) := by decide +kernel
theorem d_tc_pushByte_0 : decode bc_tc_pushByte 0 = .ok (.aload_n 0, 1) := by decide +kernel
theorem d_tc_pushByte_1 : decode bc_tc_pushByte 1 = .ok (.getfield 19, 3) := by decide +kernel
theorem d_tc_pushByte_4 : decode bc_tc_pushByte 4 = .ok (.iload_n 1, 1) := by decide +kernel
theorem d_tc_pushByte_5 : decode bc_tc_pushByte 5 = .ok (.aload_n 0, 1) := by decide +kernel
theorem d_tc_pushByte_6 : decode bc_tc_pushByte 6 = .ok (.getfield 19, 3) := by decide +kernel
theorem d_tc_pushByte_9 : decode bc_tc_pushByte 9 = .ok (.iload_n 1, 1) := by decide +kernel
theorem d_tc_pushByte_10 : decode bc_tc_pushByte 10 = .ok (.invokevirtual 82, 3) := by decide +kernel
theorem d_tc_pushByte_13 : decode bc_tc_pushByte 13 = .ok (.iconst 1, 1) := by decide +kernel
theorem d_tc_pushByte_14 : decode bc_tc_pushByte 14 = .ok (.isub, 1) := by decide +kernel
theorem d_tc_pushByte_15 : decode bc_tc_pushByte 15 = .ok (.invokevirtual 36, 3) := by decide +kernel
theorem d_tc_pushByte_18 : decode bc_tc_pushByte 18 = .ok (.aload_n 0, 1) := by decide +kernel
theorem d_tc_pushByte_19 : decode bc_tc_pushByte 19 = .ok (.getfield 10, 3) := by decide +kernel
theorem d_tc_pushByte_22 : decode bc_tc_pushByte 22 = .ok (.aload_n 0, 1) := by decide +kernel
theorem d_tc_pushByte_23 : decode bc_tc_pushByte 23 = .ok (.getfield 19, 3) := by decide +kernel
theorem d_tc_pushByte_26 : decode bc_tc_pushByte 26 = .ok (.iload_n 1, 1) := by decide +kernel
theorem d_tc_pushByte_27 : decode bc_tc_pushByte 27 = .ok (.invokevirtual 82, 3) := by decide +kernel
theorem d_tc_pushByte_30 : decode bc_tc_pushByte 30 = .ok (.iload_n 2, 1) := by decide +kernel
theorem d_tc_pushByte_31 : decode bc_tc_pushByte 31 = .ok (.invokevirtual 64, 3) := by decide +kernel
theorem d_tc_pushByte_34 : decode bc_tc_pushByte 34 = .ok (.return_, 1) := by decide +kernel
theorem d_tc_pushRegisters_0 : decode bc_tc_pushRegisters 0 = .ok (.iload_n 2, 1) := by decide +kernel
theorem d_tc_pushRegisters_1 : decode bc_tc_pushRegisters 1 = .ok (.sipush 128, 3) := by decide +kernel
theorem d_tc_pushRegisters_4 : decode bc_tc_pushRegisters 4 = .ok (.iand, 1) := by decide +kernel
theorem d_tc_pushRegisters_5 : decode bc_tc_pushRegisters 5 = .ok (.ifCond .eq 17, 3) := by decide +kernel
theorem d_tc_pushRegisters_8 : decode bc_tc_pushRegisters 8 = .ok (.aload_n 0, 1) := by decide +kernel
theorem d_tc_pushRegisters_9 : decode bc_tc_pushRegisters 9 = .ok (.iload_n 1, 1) := by decide +kernel
theorem d_tc_pushRegisters_10 : decode bc_tc_pushRegisters 10 = .ok (.aload_n 0, 1) := by decide +kernel
theorem d_tc_pushRegisters_11 : decode bc_tc_pushRegisters 11 = .ok (.getfield 19, 3) := by decide +kernel
theorem d_tc_pushRegisters_14 : decode bc_tc_pushRegisters 14 = .ok (.bipush 6, 2) := by decide +kernel
theorem d_tc_pushRegisters_16 : decode bc_tc_pushRegisters 16 = .ok (.invokevirtual 82, 3) := by decide +kernel
theorem d_tc_pushRegisters_19 : decode bc_tc_pushRegisters 19 = .ok (.invokevirtual 209, 3) := by decide +kernel
theorem d_tc_pushRegisters_22 : decode bc_tc_pushRegisters 22 = .ok (.iload_n 2, 1) := by decide +kernel
theorem d_tc_pushRegisters_23 : decode bc_tc_pushRegisters 23 = .ok (.bipush 64, 2) := by decide +kernel
theorem d_tc_pushRegisters_25 : decode bc_tc_pushRegisters 25 = .ok (.iand, 1) := by decide +kernel
theorem d_tc_pushRegisters_26 : decode bc_tc_pushRegisters 26 = .ok (.ifCond .eq 19, 3) := by decide +kernel
theorem d_tc_pushRegisters_29 : decode bc_tc_pushRegisters 29 = .ok (.aload_n 0, 1) := by decide +kernel
theorem d_tc_pushRegisters_30 : decode bc_tc_pushRegisters 30 = .ok (.iload_n 1, 1) := by decide +kernel
theorem d_tc_pushRegisters_31 : decode bc_tc_pushRegisters 31 = .ok (.aload_n 0, 1) := by decide +kernel
theorem d_tc_pushRegisters_32 : decode bc_tc_pushRegisters 32 = .ok (.getfield 19, 3) := by decide +kernel
theorem d_tc_pushRegisters_35 : decode bc_tc_pushRegisters 35 = .ok (.iload_n 1, 1) := by decide +kernel
theorem d_tc_pushRegisters_36 : decode bc_tc_pushRegisters 36 = .ok (.invokestatic 245, 3) := by decide +kernel
theorem d_tc_pushRegisters_39 : decode bc_tc_pushRegisters 39 = .ok (.invokevirtual 82, 3) := by decide +kernel
theorem d_tc_pushRegisters_42 : decode bc_tc_pushRegisters 42 = .ok (.invokevirtual 209, 3) := by decide +kernel
theorem d_tc_pushRegisters_45 : decode bc_tc_pushRegisters 45 = .ok (.iload_n 2, 1) := by decide +kernel
theorem d_tc_pushRegisters_46 : decode bc_tc_pushRegisters 46 = .ok (.bipush 32, 2) := by decide +kernel
theorem d_tc_pushRegisters_48 : decode bc_tc_pushRegisters 48 = .ok (.iand, 1) := by decide +kernel
theorem d_tc_pushRegisters_49 : decode bc_tc_pushRegisters 49 = .ok (.ifCond .eq 16, 3) := by decide +kernel
theorem d_tc_pushRegisters_52 : decode bc_tc_pushRegisters 52 = .ok (.aload_n 0, 1) := by decide +kernel
theorem d_tc_pushRegisters_53 : decode bc_tc_pushRegisters 53 = .ok (.iload_n 1, 1) := by decide +kernel
theorem d_tc_pushRegisters_54 : decode bc_tc_pushRegisters 54 = .ok (.aload_n 0, 1) := by decide +kernel
theorem d_tc_pushRegisters_55 : decode bc_tc_pushRegisters 55 = .ok (.getfield 19, 3) := by decide +kernel
theorem d_tc_pushRegisters_58 : decode bc_tc_pushRegisters 58 = .ok (.iconst 3, 1) := by decide +kernel
theorem d_tc_pushRegisters_59 : decode bc_tc_pushRegisters 59 = .ok (.invokevirtual 82, 3) := by decide +kernel
theorem d_tc_pushRegisters_62 : decode bc_tc_pushRegisters 62 = .ok (.invokevirtual 209, 3) := by decide +kernel
theorem d_tc_pushRegisters_65 : decode bc_tc_pushRegisters 65 = .ok (.iload_n 2, 1) := by decide +kernel
theorem d_tc_pushRegisters_66 : decode bc_tc_pushRegisters 66 = .ok (.bipush 16, 2) := by decide +kernel
theorem d_tc_pushRegisters_68 : decode bc_tc_pushRegisters 68 = .ok (.iand, 1) := by decide +kernel
theorem d_tc_pushRegisters_69 : decode bc_tc_pushRegisters 69 = .ok (.ifCond .eq 16, 3) := by decide +kernel
theorem d_tc_pushRegisters_72 : decode bc_tc_pushRegisters 72 = .ok (.aload_n 0, 1) := by decide +kernel
theorem d_tc_pushRegisters_73 : decode bc_tc_pushRegisters 73 = .ok (.iload_n 1, 1) := by decide +kernel
theorem d_tc_pushRegisters_74 : decode bc_tc_pushRegisters 74 = .ok (.aload_n 0, 1) := by decide +kernel
theorem d_tc_pushRegisters_75 : decode bc_tc_pushRegisters 75 = .ok (.getfield 19, 3) := by decide +kernel
theorem d_tc_pushRegisters_78 : decode bc_tc_pushRegisters 78 = .ok (.iconst 2, 1) := by decide +kernel
theorem d_tc_pushRegisters_79 : decode bc_tc_pushRegisters 79 = .ok (.invokevirtual 82, 3) := by decide +kernel
theorem d_tc_pushRegisters_82 : decode bc_tc_pushRegisters 82 = .ok (.invokevirtual 209, 3) := by decide +kernel
theorem d_tc_pushRegisters_85 : decode bc_tc_pushRegisters 85 = .ok (.iload_n 2, 1) := by decide +kernel
theorem d_tc_pushRegisters_86 : decode bc_tc_pushRegisters 86 = .ok (.bipush 8, 2) := by decide +kernel
theorem d_tc_pushRegisters_88 : decode bc_tc_pushRegisters 88 = .ok (.iand, 1) := by decide +kernel
theorem d_tc_pushRegisters_89 : decode bc_tc_pushRegisters 89 = .ok (.ifCond .eq 17, 3) := by decide +kernel
theorem d_tc_pushRegisters_92 : decode bc_tc_pushRegisters 92 = .ok (.aload_n 0, 1) := by decide +kernel
theorem d_tc_pushRegisters_93 : decode bc_tc_pushRegisters 93 = .ok (.iload_n 1, 1) := by decide +kernel
theorem d_tc_pushRegisters_94 : decode bc_tc_pushRegisters 94 = .ok (.aload_n 0, 1) := by decide +kernel
theorem d_tc_pushRegisters_95 : decode bc_tc_pushRegisters 95 = .ok (.getfield 19, 3) := by decide +kernel
theorem d_tc_pushRegisters_98 : decode bc_tc_pushRegisters 98 = .ok (.bipush 7, 2) := by decide +kernel
theorem d_tc_pushRegisters_100 : decode bc_tc_pushRegisters 100 = .ok (.invokevirtual 82, 3) := by decide +kernel
theorem d_tc_pushRegisters_103 : decode bc_tc_pushRegisters 103 = .ok (.invokevirtual 248, 3) := by decide +kernel
theorem d_tc_pushRegisters_106 : decode bc_tc_pushRegisters 106 = .ok (.iload_n 2, 1) := by decide +kernel
theorem d_tc_pushRegisters_107 : decode bc_tc_pushRegisters 107 = .ok (.iconst 4, 1) := by decide +kernel
theorem d_tc_pushRegisters_108 : decode bc_tc_pushRegisters 108 = .ok (.iand, 1) := by decide +kernel
theorem d_tc_pushRegisters_109 : decode bc_tc_pushRegisters 109 = .ok (.ifCond .eq 16, 3) := by decide +kernel
theorem d_tc_pushRegisters_112 : decode bc_tc_pushRegisters 112 = .ok (.aload_n 0, 1) := by decide +kernel
theorem d_tc_pushRegisters_113 : decode bc_tc_pushRegisters 113 = .ok (.iload_n 1, 1) := by decide +kernel
theorem d_tc_pushRegisters_114 : decode bc_tc_pushRegisters 114 = .ok (.aload_n 0, 1) := by decide +kernel
theorem d_tc_pushRegisters_115 : decode bc_tc_pushRegisters 115 = .ok (.getfield 19, 3) := by decide +kernel
theorem d_tc_pushRegisters_118 : decode bc_tc_pushRegisters 118 = .ok (.iconst 1, 1) := by decide +kernel
theorem d_tc_pushRegisters_119 : decode bc_tc_pushRegisters 119 = .ok (.invokevirtual 82, 3) := by decide +kernel
theorem d_tc_pushRegisters_122 : decode bc_tc_pushRegisters 122 = .ok (.invokevirtual 248, 3) := by decide +kernel
theorem d_tc_pushRegisters_125 : decode bc_tc_pushRegisters 125 = .ok (.iload_n 2, 1) := by decide +kernel
theorem d_tc_pushRegisters_126 : decode bc_tc_pushRegisters 126 = .ok (.iconst 2, 1) := by decide +kernel
theorem d_tc_pushRegisters_127 : decode bc_tc_pushRegisters 127 = .ok (.iand, 1) := by decide +kernel
theorem d_tc_pushRegisters_128 : decode bc_tc_pushRegisters 128 = .ok (.ifCond .eq 16, 3) := by decide +kernel
theorem d_tc_pushRegisters_131 : decode bc_tc_pushRegisters 131 = .ok (.aload_n 0, 1) := by decide +kernel
theorem d_tc_pushRegisters_132 : decode bc_tc_pushRegisters 132 = .ok (.iload_n 1, 1) := by decide +kernel
theorem d_tc_pushRegisters_133 : decode bc_tc_pushRegisters 133 = .ok (.aload_n 0, 1) := by decide +kernel
theorem d_tc_pushRegisters_134 : decode bc_tc_pushRegisters 134 = .ok (.getfield 19, 3) := by decide +kernel
theorem d_tc_pushRegisters_137 : decode bc_tc_pushRegisters 137 = .ok (.iconst 0, 1) := by decide +kernel
theorem d_tc_pushRegisters_138 : decode bc_tc_pushRegisters 138 = .ok (.invokevirtual 82, 3) := by decide +kernel
theorem d_tc_pushRegisters_141 : decode bc_tc_pushRegisters 141 = .ok (.invokevirtual 248, 3) := by decide +kernel
theorem d_tc_pushRegisters_144 : decode bc_tc_pushRegisters 144 = .ok (.iload_n 2, 1) := by decide +kernel
theorem d_tc_pushRegisters_145 : decode bc_tc_pushRegisters 145 = .ok (.iconst 1, 1) := by decide +kernel
theorem d_tc_pushRegisters_146 : decode bc_tc_pushRegisters 146 = .ok (.iand, 1) := by decide +kernel
theorem d_tc_pushRegisters_147 : decode bc_tc_pushRegisters 147 = .ok (.ifCond .eq 17, 3) := by decide +kernel
theorem d_tc_pushRegisters_150 : decode bc_tc_pushRegisters 150 = .ok (.aload_n 0, 1) := by decide +kernel
theorem d_tc_pushRegisters_151 : decode bc_tc_pushRegisters 151 = .ok (.iload_n 1, 1) := by decide +kernel
theorem d_tc_pushRegisters_152 : decode bc_tc_pushRegisters 152 = .ok (.aload_n 0, 1) := by decide +kernel
theorem d_tc_pushRegisters_153 : decode bc_tc_pushRegisters 153 = .ok (.getfield 19, 3) := by decide +kernel
theorem d_tc_pushRegisters_156 : decode bc_tc_pushRegisters 156 = .ok (.bipush 8, 2) := by decide +kernel
theorem d_tc_pushRegisters_158 : decode bc_tc_pushRegisters 158 = .ok (.invokevirtual 82, 3) := by decide +kernel
theorem d_tc_pushRegisters_161 : decode bc_tc_pushRegisters 161 = .ok (.invokevirtual 248, 3) := by decide +kernel
theorem d_tc_pushRegisters_164 : decode bc_tc_pushRegisters 164 = .ok (.return_, 1) := by decide +kernel
theorem d_tc_serve_0 : decode bc_tc_serve 0 = .ok (.aload_n 0, 1) := by decide +kernel
theorem d_tc_serve_1 : decode bc_tc_serve 1 = .ok (.iconst 0, 1) := by decide +kernel
theorem d_tc_serve_2 : decode bc_tc_serve 2 = .ok (.putfield 48, 3) := by decide +kernel
theorem d_tc_serve_5 : decode bc_tc_serve 5 = .ok (.aload_n 0, 1) := by decide +kernel
theorem d_tc_serve_6 : decode bc_tc_serve 6 = .ok (.getfield 51, 3) := by decide +kernel
theorem d_tc_serve_9 : decode bc_tc_serve 9 = .ok (.iconst 2, 1) := by decide +kernel
theorem d_tc_serve_10 : decode bc_tc_serve 10 = .ok (.if_icmp .eq 42, 3) := by decide +kernel
theorem d_tc_serve_13 : decode bc_tc_serve 13 = .ok (.aload_n 0, 1) := by decide +kernel
theorem d_tc_serve_14 : decode bc_tc_serve 14 = .ok (.getfield 19, 3) := by decide +kernel
theorem d_tc_serve_17 : decode bc_tc_serve 17 = .ok (.sipush 128, 3) := by decide +kernel
theorem d_tc_serve_20 : decode bc_tc_serve 20 = .ok (.iload_n 1, 1) := by decide +kernel
theorem d_tc_serve_21 : decode bc_tc_serve 21 = .ok (.iconst 1, 1) := by decide +kernel
theorem d_tc_serve_22 : decode bc_tc_serve 22 = .ok (.if_icmp .eq 7, 3) := by decide +kernel
theorem d_tc_serve_25 : decode bc_tc_serve 25 = .ok (.iconst 1, 1) := by decide +kernel
theorem d_tc_serve_26 : decode bc_tc_serve 26 = .ok (.goto 4, 3) := by decide +kernel
theorem d_tc_serve_29 : decode bc_tc_serve 29 = .ok (.iconst 0, 1) := by decide +kernel
theorem d_tc_serve_30 : decode bc_tc_serve 30 = .ok (.invokevirtual 40, 3) := by decide +kernel
theorem d_tc_serve_33 : decode bc_tc_serve 33 = .ok (.aload_n 0, 1) := by decide +kernel
theorem d_tc_serve_34 : decode bc_tc_serve 34 = .ok (.iconst 5, 1) := by decide +kernel
theorem d_tc_serve_35 : decode bc_tc_serve 35 = .ok (.iload_n 1, 1) := by decide +kernel
theorem d_tc_serve_36 : decode bc_tc_serve 36 = .ok (.iconst 1, 1) := by decide +kernel
theorem d_tc_serve_37 : decode bc_tc_serve 37 = .ok (.if_icmp .ne 9, 3) := by decide +kernel
theorem d_tc_serve_40 : decode bc_tc_serve 40 = .ok (.sipush 129, 3) := by decide +kernel
theorem d_tc_serve_43 : decode bc_tc_serve 43 = .ok (.goto 6, 3) := by decide +kernel
theorem d_tc_serve_46 : decode bc_tc_serve 46 = .ok (.sipush 255, 3) := by decide +kernel
theorem d_tc_serve_49 : decode bc_tc_serve 49 = .ok (.invokevirtual 104, 3) := by decide +kernel
theorem d_tc_serve_52 : decode bc_tc_serve 52 = .ok (.aload_n 0, 1) := by decide +kernel
theorem d_tc_serve_53 : decode bc_tc_serve 53 = .ok (.getfield 19, 3) := by decide +kernel
theorem d_tc_serve_56 : decode bc_tc_serve 56 = .ok (.iload_n 1, 1) := by decide +kernel
theorem d_tc_serve_57 : decode bc_tc_serve 57 = .ok (.iconst 2, 1) := by decide +kernel
theorem d_tc_serve_58 : decode bc_tc_serve 58 = .ok (.if_icmp .ne 8, 3) := by decide +kernel
theorem d_tc_serve_61 : decode bc_tc_serve 61 = .ok (.bipush 16, 2) := by decide +kernel
theorem d_tc_serve_63 : decode bc_tc_serve 63 = .ok (.goto 5, 3) := by decide +kernel
theorem d_tc_serve_66 : decode bc_tc_serve 66 = .ok (.bipush 80, 2) := by decide +kernel
theorem d_tc_serve_68 : decode bc_tc_serve 68 = .ok (.iconst 1, 1) := by decide +kernel
theorem d_tc_serve_69 : decode bc_tc_serve 69 = .ok (.invokevirtual 40, 3) := by decide +kernel
theorem d_tc_serve_72 : decode bc_tc_serve 72 = .ok (.aload_n 0, 1) := by decide +kernel
theorem d_tc_serve_73 : decode bc_tc_serve 73 = .ok (.getfield 19, 3) := by decide +kernel
theorem d_tc_serve_76 : decode bc_tc_serve 76 = .ok (.bipush 6, 2) := by decide +kernel
theorem d_tc_serve_78 : decode bc_tc_serve 78 = .ok (.aload_n 0, 1) := by decide +kernel
theorem d_tc_serve_79 : decode bc_tc_serve 79 = .ok (.getfield 10, 3) := by decide +kernel
theorem d_tc_serve_82 : decode bc_tc_serve 82 = .ok (.getstatic 107, 3) := by decide +kernel
theorem d_tc_serve_85 : decode bc_tc_serve 85 = .ok (.iload_n 1, 1) := by decide +kernel
theorem d_tc_serve_86 : decode bc_tc_serve 86 = .ok (.iaload, 1) := by decide +kernel
theorem d_tc_serve_87 : decode bc_tc_serve 87 = .ok (.invokevirtual 56, 3) := by decide +kernel
theorem d_tc_serve_90 : decode bc_tc_serve 90 = .ok (.invokevirtual 36, 3) := by decide +kernel
theorem d_tc_serve_93 : decode bc_tc_serve 93 = .ok (.aload_n 0, 1) := by decide +kernel
theorem d_tc_serve_94 : decode bc_tc_serve 94 = .ok (.iconst 0, 1) := by decide +kernel
theorem d_tc_serve_95 : decode bc_tc_serve 95 = .ok (.putfield 51, 3) := by decide +kernel
theorem d_tc_serve_98 : decode bc_tc_serve 98 = .ok (.return_, 1) := by decide +kernel
theorem d_tc_staysWaiting_0 : decode bc_tc_staysWaiting 0 = .ok (.aload_n 0, 1) := by decide +kernel
theorem d_tc_staysWaiting_1 : decode bc_tc_staysWaiting 1 = .ok (.getfield 51, 3) := by decide +kernel
theorem d_tc_staysWaiting_4 : decode bc_tc_staysWaiting 4 = .ok (.iconst 1, 1) := by decide +kernel
theorem d_tc_staysWaiting_5 : decode bc_tc_staysWaiting 5 = .ok (.if_icmp .ne 27, 3) := by decide +kernel
theorem d_tc_staysWaiting_8 : decode bc_tc_staysWaiting 8 = .ok (.aload_n 0, 1) := by decide +kernel
theorem d_tc_staysWaiting_9 : decode bc_tc_staysWaiting 9 = .ok (.getfield 32, 3) := by decide +kernel
theorem d_tc_staysWaiting_12 : decode bc_tc_staysWaiting 12 = .ok (.iconst 1, 1) := by decide +kernel
theorem d_tc_staysWaiting_13 : decode bc_tc_staysWaiting 13 = .ok (.iaload, 1) := by decide +kernel
theorem d_tc_staysWaiting_14 : decode bc_tc_staysWaiting 14 = .ok (.ifCond .ne 16, 3) := by decide +kernel
theorem d_tc_staysWaiting_17 : decode bc_tc_staysWaiting 17 = .ok (.aload_n 0, 1) := by decide +kernel
theorem d_tc_staysWaiting_18 : decode bc_tc_staysWaiting 18 = .ok (.getfield 32, 3) := by decide +kernel
theorem d_tc_staysWaiting_21 : decode bc_tc_staysWaiting 21 = .ok (.iconst 2, 1) := by decide +kernel
theorem d_tc_staysWaiting_22 : decode bc_tc_staysWaiting 22 = .ok (.iaload, 1) := by decide +kernel
theorem d_tc_staysWaiting_23 : decode bc_tc_staysWaiting 23 = .ok (.ifCond .ne 7, 3) := by decide +kernel
theorem d_tc_staysWaiting_26 : decode bc_tc_staysWaiting 26 = .ok (.iconst 1, 1) := by decide +kernel
theorem d_tc_staysWaiting_27 : decode bc_tc_staysWaiting 27 = .ok (.goto 4, 3) := by decide +kernel
theorem d_tc_staysWaiting_30 : decode bc_tc_staysWaiting 30 = .ok (.iconst 0, 1) := by decide +kernel
theorem d_tc_staysWaiting_31 : decode bc_tc_staysWaiting 31 = .ok (.ireturn, 1) := by decide +kernel
theorem d_tc_staysWaiting_32 : decode bc_tc_staysWaiting 32 = .ok (.aload_n 0, 1) := by decide +kernel
theorem d_tc_staysWaiting_33 : decode bc_tc_staysWaiting 33 = .ok (.getfield 51, 3) := by decide +kernel
theorem d_tc_staysWaiting_36 : decode bc_tc_staysWaiting 36 = .ok (.iconst 2, 1) := by decide +kernel
theorem d_tc_staysWaiting_37 : decode bc_tc_staysWaiting 37 = .ok (.if_icmp .ne 7, 3) := by decide +kernel
theorem d_tc_staysWaiting_40 : decode bc_tc_staysWaiting 40 = .ok (.iconst 1, 1) := by decide +kernel
theorem d_tc_staysWaiting_41 : decode bc_tc_staysWaiting 41 = .ok (.goto 4, 3) := by decide +kernel
theorem d_tc_staysWaiting_44 : decode bc_tc_staysWaiting 44 = .ok (.iconst 0, 1) := by decide +kernel
theorem d_tc_staysWaiting_45 : decode bc_tc_staysWaiting 45 = .ok (.ireturn, 1) := by decide +kernel
theorem d_tc_fetchByte_0 : decode bc_tc_fetchByte 0 = .ok (.aload_n 0, 1) := by decide +kernel
theorem d_tc_fetchByte_1 : decode bc_tc_fetchByte 1 = .ok (.getfield 19, 3) := by decide +kernel
theorem d_tc_fetchByte_4 : decode bc_tc_fetchByte 4 = .ok (.bipush 6, 2) := by decide +kernel
theorem d_tc_fetchByte_6 : decode bc_tc_fetchByte 6 = .ok (.invokevirtual 82, 3) := by decide +kernel
theorem d_tc_fetchByte_9 : decode bc_tc_fetchByte 9 = .ok (.istore_n 1, 1) := by decide +kernel
theorem d_tc_fetchByte_10 : decode bc_tc_fetchByte 10 = .ok (.aload_n 0, 1) := by decide +kernel
theorem d_tc_fetchByte_11 : decode bc_tc_fetchByte 11 = .ok (.getfield 19, 3) := by decide +kernel
theorem d_tc_fetchByte_14 : decode bc_tc_fetchByte 14 = .ok (.bipush 6, 2) := by decide +kernel
theorem d_tc_fetchByte_16 : decode bc_tc_fetchByte 16 = .ok (.iload_n 1, 1) := by decide +kernel
theorem d_tc_fetchByte_17 : decode bc_tc_fetchByte 17 = .ok (.iconst 1, 1) := by decide +kernel
theorem d_tc_fetchByte_18 : decode bc_tc_fetchByte 18 = .ok (.iadd, 1) := by decide +kernel
theorem d_tc_fetchByte_19 : decode bc_tc_fetchByte 19 = .ok (.invokevirtual 36, 3) := by decide +kernel
theorem d_tc_fetchByte_22 : decode bc_tc_fetchByte 22 = .ok (.aload_n 0, 1) := by decide +kernel
theorem d_tc_fetchByte_23 : decode bc_tc_fetchByte 23 = .ok (.getfield 10, 3) := by decide +kernel
theorem d_tc_fetchByte_26 : decode bc_tc_fetchByte 26 = .ok (.iload_n 1, 1) := by decide +kernel
theorem d_tc_fetchByte_27 : decode bc_tc_fetchByte 27 = .ok (.invokevirtual 67, 3) := by decide +kernel
theorem d_tc_fetchByte_30 : decode bc_tc_fetchByte 30 = .ok (.ireturn, 1) := by decide +kernel
theorem d_tc_fetchCode_0 : decode bc_tc_fetchCode 0 = .ok (.aload_n 0, 1) := by decide +kernel
theorem d_tc_fetchCode_1 : decode bc_tc_fetchCode 1 = .ok (.invokevirtual 113, 3) := by decide +kernel
theorem d_tc_fetchCode_4 : decode bc_tc_fetchCode 4 = .ok (.istore_n 1, 1) := by decide +kernel
theorem d_tc_fetchCode_5 : decode bc_tc_fetchCode 5 = .ok (.iload_n 1, 1) := by decide +kernel
theorem d_tc_fetchCode_6 : decode bc_tc_fetchCode 6 = .ok (.bipush 16, 2) := by decide +kernel
theorem d_tc_fetchCode_8 : decode bc_tc_fetchCode 8 = .ok (.if_icmp .ne 12, 3) := by decide +kernel
theorem d_tc_fetchCode_11 : decode bc_tc_fetchCode 11 = .ok (.sipush 256, 3) := by decide +kernel
theorem d_tc_fetchCode_14 : decode bc_tc_fetchCode 14 = .ok (.aload_n 0, 1) := by decide +kernel
theorem d_tc_fetchCode_15 : decode bc_tc_fetchCode 15 = .ok (.invokevirtual 113, 3) := by decide +kernel
theorem d_tc_fetchCode_18 : decode bc_tc_fetchCode 18 = .ok (.ior, 1) := by decide +kernel
theorem d_tc_fetchCode_19 : decode bc_tc_fetchCode 19 = .ok (.ireturn, 1) := by decide +kernel
theorem d_tc_fetchCode_20 : decode bc_tc_fetchCode 20 = .ok (.iload_n 1, 1) := by decide +kernel
theorem d_tc_fetchCode_21 : decode bc_tc_fetchCode 21 = .ok (.bipush 17, 2) := by decide +kernel
theorem d_tc_fetchCode_23 : decode bc_tc_fetchCode 23 = .ok (.if_icmp .ne 12, 3) := by decide +kernel
theorem d_tc_fetchCode_26 : decode bc_tc_fetchCode 26 = .ok (.sipush 512, 3) := by decide +kernel
theorem d_tc_fetchCode_29 : decode bc_tc_fetchCode 29 = .ok (.aload_n 0, 1) := by decide +kernel
theorem d_tc_fetchCode_30 : decode bc_tc_fetchCode 30 = .ok (.invokevirtual 113, 3) := by decide +kernel
theorem d_tc_fetchCode_33 : decode bc_tc_fetchCode 33 = .ok (.ior, 1) := by decide +kernel
theorem d_tc_fetchCode_34 : decode bc_tc_fetchCode 34 = .ok (.ireturn, 1) := by decide +kernel
theorem d_tc_fetchCode_35 : decode bc_tc_fetchCode 35 = .ok (.iload_n 1, 1) := by decide +kernel
theorem d_tc_fetchCode_36 : decode bc_tc_fetchCode 36 = .ok (.ireturn, 1) := by decide +kernel
theorem d_tc_isIndexed_0 : decode bc_tc_isIndexed 0 = .ok (.iload_n 0, 1) := by decide +kernel
theorem d_tc_isIndexed_1 : decode bc_tc_isIndexed 1 = .ok (.iconst 4, 1) := by decide +kernel
theorem d_tc_isIndexed_2 : decode bc_tc_isIndexed 2 = .ok (.ishr, 1) := by decide +kernel
theorem d_tc_isIndexed_3 : decode bc_tc_isIndexed 3 = .ok (.bipush 15, 2) := by decide +kernel
theorem d_tc_isIndexed_5 : decode bc_tc_isIndexed 5 = .ok (.iand, 1) := by decide +kernel
theorem d_tc_isIndexed_6 : decode bc_tc_isIndexed 6 = .ok (.istore_n 1, 1) := by decide +kernel
theorem d_tc_isIndexed_7 : decode bc_tc_isIndexed 7 = .ok (.iload_n 1, 1) := by decide +kernel
theorem d_tc_isIndexed_8 : decode bc_tc_isIndexed 8 = .ok (.bipush 6, 2) := by decide +kernel
theorem d_tc_isIndexed_10 : decode bc_tc_isIndexed 10 = .ok (.if_icmp .eq 27, 3) := by decide +kernel
theorem d_tc_isIndexed_13 : decode bc_tc_isIndexed 13 = .ok (.iload_n 1, 1) := by decide +kernel
theorem d_tc_isIndexed_14 : decode bc_tc_isIndexed 14 = .ok (.bipush 10, 2) := by decide +kernel
theorem d_tc_isIndexed_16 : decode bc_tc_isIndexed 16 = .ok (.if_icmp .eq 21, 3) := by decide +kernel
theorem d_tc_isIndexed_19 : decode bc_tc_isIndexed 19 = .ok (.iload_n 1, 1) := by decide +kernel
theorem d_tc_isIndexed_20 : decode bc_tc_isIndexed 20 = .ok (.bipush 14, 2) := by decide +kernel
theorem d_tc_isIndexed_22 : decode bc_tc_isIndexed 22 = .ok (.if_icmp .eq 15, 3) := by decide +kernel
theorem d_tc_isIndexed_25 : decode bc_tc_isIndexed 25 = .ok (.iload_n 0, 1) := by decide +kernel
theorem d_tc_isIndexed_26 : decode bc_tc_isIndexed 26 = .ok (.bipush 48, 2) := by decide +kernel
theorem d_tc_isIndexed_28 : decode bc_tc_isIndexed 28 = .ok (.if_icmp .lt 13, 3) := by decide +kernel
theorem d_tc_isIndexed_31 : decode bc_tc_isIndexed 31 = .ok (.iload_n 0, 1) := by decide +kernel
theorem d_tc_isIndexed_32 : decode bc_tc_isIndexed 32 = .ok (.bipush 51, 2) := by decide +kernel
theorem d_tc_isIndexed_34 : decode bc_tc_isIndexed 34 = .ok (.if_icmp .gt 7, 3) := by decide +kernel
theorem d_tc_isIndexed_37 : decode bc_tc_isIndexed 37 = .ok (.iconst 1, 1) := by decide +kernel
theorem d_tc_isIndexed_38 : decode bc_tc_isIndexed 38 = .ok (.goto 4, 3) := by decide +kernel
theorem d_tc_isIndexed_41 : decode bc_tc_isIndexed 41 = .ok (.iconst 0, 1) := by decide +kernel
theorem d_tc_isIndexed_42 : decode bc_tc_isIndexed 42 = .ok (.ireturn, 1) := by decide +kernel
theorem d_tc_isDefinedPostbyte_0 : decode bc_tc_isDefinedPostbyte 0 = .ok (.iload_n 0, 1) := by decide +kernel
theorem d_tc_isDefinedPostbyte_1 : decode bc_tc_isDefinedPostbyte 1 = .ok (.sipush 128, 3) := by decide +kernel
theorem d_tc_isDefinedPostbyte_4 : decode bc_tc_isDefinedPostbyte 4 = .ok (.if_icmp .lt 10, 3) := by decide +kernel
theorem d_tc_isDefinedPostbyte_7 : decode bc_tc_isDefinedPostbyte 7 = .ok (.iload_n 0, 1) := by decide +kernel
theorem d_tc_isDefinedPostbyte_8 : decode bc_tc_isDefinedPostbyte 8 = .ok (.sipush 159, 3) := by decide +kernel
theorem d_tc_isDefinedPostbyte_11 : decode bc_tc_isDefinedPostbyte 11 = .ok (.if_icmp .ne 5, 3) := by decide +kernel
theorem d_tc_isDefinedPostbyte_14 : decode bc_tc_isDefinedPostbyte 14 = .ok (.iconst 1, 1) := by decide +kernel
theorem d_tc_isDefinedPostbyte_15 : decode bc_tc_isDefinedPostbyte 15 = .ok (.ireturn, 1) := by decide +kernel
theorem d_tc_isDefinedPostbyte_16 : decode bc_tc_isDefinedPostbyte 16 = .ok (.iload_n 0, 1) := by decide +kernel
theorem d_tc_isDefinedPostbyte_17 : decode bc_tc_isDefinedPostbyte 17 = .ok (.bipush 16, 2) := by decide +kernel
theorem d_tc_isDefinedPostbyte_19 : decode bc_tc_isDefinedPostbyte 19 = .ok (.iand, 1) := by decide +kernel
theorem d_tc_isDefinedPostbyte_20 : decode bc_tc_isDefinedPostbyte 20 = .ok (.ifCond .ne 9, 3) := by decide +kernel
theorem d_tc_isDefinedPostbyte_23 : decode bc_tc_isDefinedPostbyte 23 = .ok (.sipush 15231, 3) := by decide +kernel
theorem d_tc_isDefinedPostbyte_26 : decode bc_tc_isDefinedPostbyte 26 = .ok (.goto 6, 3) := by decide +kernel
theorem d_tc_isDefinedPostbyte_29 : decode bc_tc_isDefinedPostbyte 29 = .ok (.sipush 15226, 3) := by decide +kernel
theorem d_tc_isDefinedPostbyte_32 : decode bc_tc_isDefinedPostbyte 32 = .ok (.istore_n 1, 1) := by decide +kernel
theorem d_tc_isDefinedPostbyte_33 : decode bc_tc_isDefinedPostbyte 33 = .ok (.iload_n 1, 1) := by decide +kernel
theorem d_tc_isDefinedPostbyte_34 : decode bc_tc_isDefinedPostbyte 34 = .ok (.iload_n 0, 1) := by decide +kernel
theorem d_tc_isDefinedPostbyte_35 : decode bc_tc_isDefinedPostbyte 35 = .ok (.bipush 15, 2) := by decide +kernel
theorem d_tc_isDefinedPostbyte_37 : decode bc_tc_isDefinedPostbyte 37 = .ok (.iand, 1) := by decide +kernel
theorem d_tc_isDefinedPostbyte_38 : decode bc_tc_isDefinedPostbyte 38 = .ok (.ishr, 1) := by decide +kernel
theorem d_tc_isDefinedPostbyte_39 : decode bc_tc_isDefinedPostbyte 39 = .ok (.iconst 1, 1) := by decide +kernel
theorem d_tc_isDefinedPostbyte_40 : decode bc_tc_isDefinedPostbyte 40 = .ok (.iand, 1) := by decide +kernel
theorem d_tc_isDefinedPostbyte_41 : decode bc_tc_isDefinedPostbyte 41 = .ok (.ifCond .eq 7, 3) := by decide +kernel
theorem d_tc_isDefinedPostbyte_44 : decode bc_tc_isDefinedPostbyte 44 = .ok (.iconst 1, 1) := by decide +kernel
theorem d_tc_isDefinedPostbyte_45 : decode bc_tc_isDefinedPostbyte 45 = .ok (.goto 4, 3) := by decide +kernel
theorem d_tc_isDefinedPostbyte_48 : decode bc_tc_isDefinedPostbyte 48 = .ok (.iconst 0, 1) := by decide +kernel
theorem d_tc_isDefinedPostbyte_49 : decode bc_tc_isDefinedPostbyte 49 = .ok (.ireturn, 1) := by decide +kernel
theorem d_tc_isDefinedPair_0 : decode bc_tc_isDefinedPair 0 = .ok (.iload_n 0, 1) := by decide +kernel
theorem d_tc_isDefinedPair_1 : decode bc_tc_isDefinedPair 1 = .ok (.bipush 8, 2) := by decide +kernel
theorem d_tc_isDefinedPair_3 : decode bc_tc_isDefinedPair 3 = .ok (.if_icmp .ge 7, 3) := by decide +kernel
theorem d_tc_isDefinedPair_6 : decode bc_tc_isDefinedPair 6 = .ok (.iconst 1, 1) := by decide +kernel
theorem d_tc_isDefinedPair_7 : decode bc_tc_isDefinedPair 7 = .ok (.goto 4, 3) := by decide +kernel
theorem d_tc_isDefinedPair_10 : decode bc_tc_isDefinedPair 10 = .ok (.iconst 0, 1) := by decide +kernel
theorem d_tc_isDefinedPair_11 : decode bc_tc_isDefinedPair 11 = .ok (.iload_n 1, 1) := by decide +kernel
theorem d_tc_isDefinedPair_12 : decode bc_tc_isDefinedPair 12 = .ok (.bipush 8, 2) := by decide +kernel
theorem d_tc_isDefinedPair_14 : decode bc_tc_isDefinedPair 14 = .ok (.if_icmp .ge 7, 3) := by decide +kernel
theorem d_tc_isDefinedPair_17 : decode bc_tc_isDefinedPair 17 = .ok (.iconst 1, 1) := by decide +kernel
theorem d_tc_isDefinedPair_18 : decode bc_tc_isDefinedPair 18 = .ok (.goto 4, 3) := by decide +kernel
theorem d_tc_isDefinedPair_21 : decode bc_tc_isDefinedPair 21 = .ok (.iconst 0, 1) := by decide +kernel
theorem d_tc_isDefinedPair_22 : decode bc_tc_isDefinedPair 22 = .ok (.if_icmp .ne 7, 3) := by decide +kernel
theorem d_tc_isDefinedPair_25 : decode bc_tc_isDefinedPair 25 = .ok (.iconst 1, 1) := by decide +kernel
theorem d_tc_isDefinedPair_26 : decode bc_tc_isDefinedPair 26 = .ok (.goto 4, 3) := by decide +kernel
theorem d_tc_isDefinedPair_29 : decode bc_tc_isDefinedPair 29 = .ok (.iconst 0, 1) := by decide +kernel
theorem d_tc_isDefinedPair_30 : decode bc_tc_isDefinedPair 30 = .ok (.istore_n 2, 1) := by decide +kernel
theorem d_tc_isDefinedPair_31 : decode bc_tc_isDefinedPair 31 = .ok (.iload_n 2, 1) := by decide +kernel
theorem d_tc_isDefinedPair_32 : decode bc_tc_isDefinedPair 32 = .ok (.ifCond .eq 25, 3) := by decide +kernel
theorem d_tc_isDefinedPair_35 : decode bc_tc_isDefinedPair 35 = .ok (.getstatic 129, 3) := by decide +kernel
theorem d_tc_isDefinedPair_38 : decode bc_tc_isDefinedPair 38 = .ok (.iload_n 0, 1) := by decide +kernel
theorem d_tc_isDefinedPair_39 : decode bc_tc_isDefinedPair 39 = .ok (.iaload, 1) := by decide +kernel
theorem d_tc_isDefinedPair_40 : decode bc_tc_isDefinedPair 40 = .ok (.iconst (-1), 1) := by decide +kernel
theorem d_tc_isDefinedPair_41 : decode bc_tc_isDefinedPair 41 = .ok (.if_icmp .eq 16, 3) := by decide +kernel
theorem d_tc_isDefinedPair_44 : decode bc_tc_isDefinedPair 44 = .ok (.getstatic 129, 3) := by decide +kernel
theorem d_tc_isDefinedPair_47 : decode bc_tc_isDefinedPair 47 = .ok (.iload_n 1, 1) := by decide +kernel
theorem d_tc_isDefinedPair_48 : decode bc_tc_isDefinedPair 48 = .ok (.iaload, 1) := by decide +kernel
theorem d_tc_isDefinedPair_49 : decode bc_tc_isDefinedPair 49 = .ok (.iconst (-1), 1) := by decide +kernel
theorem d_tc_isDefinedPair_50 : decode bc_tc_isDefinedPair 50 = .ok (.if_icmp .eq 7, 3) := by decide +kernel
theorem d_tc_isDefinedPair_53 : decode bc_tc_isDefinedPair 53 = .ok (.iconst 1, 1) := by decide +kernel
theorem d_tc_isDefinedPair_54 : decode bc_tc_isDefinedPair 54 = .ok (.goto 4, 3) := by decide +kernel
theorem d_tc_isDefinedPair_57 : decode bc_tc_isDefinedPair 57 = .ok (.iconst 0, 1) := by decide +kernel
theorem d_tc_isDefinedPair_58 : decode bc_tc_isDefinedPair 58 = .ok (.ireturn, 1) := by decide +kernel
theorem d_tc_isDefined_0 : decode bc_tc_isDefined 0 = .ok (.getstatic 116, 3) := by decide +kernel
theorem d_tc_isDefined_3 : decode bc_tc_isDefined 3 = .ok (.iload_n 1, 1) := by decide +kernel
theorem d_tc_isDefined_4 : decode bc_tc_isDefined 4 = .ok (.iconst 4, 1) := by decide +kernel
theorem d_tc_isDefined_5 : decode bc_tc_isDefined 5 = .ok (.ishr, 1) := by decide +kernel
theorem d_tc_isDefined_6 : decode bc_tc_isDefined 6 = .ok (.iaload, 1) := by decide +kernel
theorem d_tc_isDefined_7 : decode bc_tc_isDefined 7 = .ok (.iload_n 1, 1) := by decide +kernel
theorem d_tc_isDefined_8 : decode bc_tc_isDefined 8 = .ok (.bipush 15, 2) := by decide +kernel
theorem d_tc_isDefined_10 : decode bc_tc_isDefined 10 = .ok (.iand, 1) := by decide +kernel
theorem d_tc_isDefined_11 : decode bc_tc_isDefined 11 = .ok (.ishr, 1) := by decide +kernel
theorem d_tc_isDefined_12 : decode bc_tc_isDefined 12 = .ok (.iconst 1, 1) := by decide +kernel
theorem d_tc_isDefined_13 : decode bc_tc_isDefined 13 = .ok (.iand, 1) := by decide +kernel
theorem d_tc_isDefined_14 : decode bc_tc_isDefined 14 = .ok (.ifCond .ne 5, 3) := by decide +kernel
theorem d_tc_isDefined_17 : decode bc_tc_isDefined 17 = .ok (.iconst 0, 1) := by decide +kernel
theorem d_tc_isDefined_18 : decode bc_tc_isDefined 18 = .ok (.ireturn, 1) := by decide +kernel
theorem d_tc_isDefined_19 : decode bc_tc_isDefined 19 = .ok (.aload_n 0, 1) := by decide +kernel
theorem d_tc_isDefined_20 : decode bc_tc_isDefined 20 = .ok (.getfield 10, 3) := by decide +kernel
theorem d_tc_isDefined_23 : decode bc_tc_isDefined 23 = .ok (.aload_n 0, 1) := by decide +kernel
theorem d_tc_isDefined_24 : decode bc_tc_isDefined 24 = .ok (.getfield 19, 3) := by decide +kernel
theorem d_tc_isDefined_27 : decode bc_tc_isDefined 27 = .ok (.bipush 6, 2) := by decide +kernel
theorem d_tc_isDefined_29 : decode bc_tc_isDefined 29 = .ok (.invokevirtual 82, 3) := by decide +kernel
theorem d_tc_isDefined_32 : decode bc_tc_isDefined 32 = .ok (.invokevirtual 67, 3) := by decide +kernel
theorem d_tc_isDefined_35 : decode bc_tc_isDefined 35 = .ok (.istore_n 2, 1) := by decide +kernel
theorem d_tc_isDefined_36 : decode bc_tc_isDefined 36 = .ok (.iload_n 1, 1) := by decide +kernel
theorem d_tc_isDefined_37 : decode bc_tc_isDefined 37 = .ok (.invokestatic 119, 3) := by decide +kernel
theorem d_tc_isDefined_40 : decode bc_tc_isDefined 40 = .ok (.ifCond .eq 8, 3) := by decide +kernel
theorem d_tc_isDefined_43 : decode bc_tc_isDefined 43 = .ok (.iload_n 2, 1) := by decide +kernel
theorem d_tc_isDefined_44 : decode bc_tc_isDefined 44 = .ok (.invokestatic 122, 3) := by decide +kernel
theorem d_tc_isDefined_47 : decode bc_tc_isDefined 47 = .ok (.ireturn, 1) := by decide +kernel
theorem d_tc_isDefined_48 : decode bc_tc_isDefined 48 = .ok (.iload_n 1, 1) := by decide +kernel
theorem d_tc_isDefined_49 : decode bc_tc_isDefined 49 = .ok (.bipush 30, 2) := by decide +kernel
theorem d_tc_isDefined_51 : decode bc_tc_isDefined 51 = .ok (.if_icmp .eq 9, 3) := by decide +kernel
theorem d_tc_isDefined_54 : decode bc_tc_isDefined 54 = .ok (.iload_n 1, 1) := by decide +kernel
theorem d_tc_isDefined_55 : decode bc_tc_isDefined 55 = .ok (.bipush 31, 2) := by decide +kernel
theorem d_tc_isDefined_57 : decode bc_tc_isDefined 57 = .ok (.if_icmp .ne 14, 3) := by decide +kernel
theorem d_tc_isDefined_60 : decode bc_tc_isDefined 60 = .ok (.iload_n 2, 1) := by decide +kernel
theorem d_tc_isDefined_61 : decode bc_tc_isDefined 61 = .ok (.iconst 4, 1) := by decide +kernel
theorem d_tc_isDefined_62 : decode bc_tc_isDefined 62 = .ok (.ishr, 1) := by decide +kernel
theorem d_tc_isDefined_63 : decode bc_tc_isDefined 63 = .ok (.iload_n 2, 1) := by decide +kernel
theorem d_tc_isDefined_64 : decode bc_tc_isDefined 64 = .ok (.bipush 15, 2) := by decide +kernel
theorem d_tc_isDefined_66 : decode bc_tc_isDefined 66 = .ok (.iand, 1) := by decide +kernel
theorem d_tc_isDefined_67 : decode bc_tc_isDefined 67 = .ok (.invokestatic 125, 3) := by decide +kernel
theorem d_tc_isDefined_70 : decode bc_tc_isDefined 70 = .ok (.ireturn, 1) := by decide +kernel
theorem d_tc_isDefined_71 : decode bc_tc_isDefined 71 = .ok (.iconst 1, 1) := by decide +kernel
theorem d_tc_isDefined_72 : decode bc_tc_isDefined 72 = .ok (.ireturn, 1) := by decide +kernel
theorem d_tc_fetchWord_0 : decode bc_tc_fetchWord 0 = .ok (.aload_n 0, 1) := by decide +kernel
theorem d_tc_fetchWord_1 : decode bc_tc_fetchWord 1 = .ok (.getfield 19, 3) := by decide +kernel
theorem d_tc_fetchWord_4 : decode bc_tc_fetchWord 4 = .ok (.bipush 6, 2) := by decide +kernel
theorem d_tc_fetchWord_6 : decode bc_tc_fetchWord 6 = .ok (.invokevirtual 82, 3) := by decide +kernel
theorem d_tc_fetchWord_9 : decode bc_tc_fetchWord 9 = .ok (.istore_n 1, 1) := by decide +kernel
theorem d_tc_fetchWord_10 : decode bc_tc_fetchWord 10 = .ok (.aload_n 0, 1) := by decide +kernel
theorem d_tc_fetchWord_11 : decode bc_tc_fetchWord 11 = .ok (.getfield 19, 3) := by decide +kernel
theorem d_tc_fetchWord_14 : decode bc_tc_fetchWord 14 = .ok (.bipush 6, 2) := by decide +kernel
theorem d_tc_fetchWord_16 : decode bc_tc_fetchWord 16 = .ok (.iload_n 1, 1) := by decide +kernel
theorem d_tc_fetchWord_17 : decode bc_tc_fetchWord 17 = .ok (.iconst 2, 1) := by decide +kernel
theorem d_tc_fetchWord_18 : decode bc_tc_fetchWord 18 = .ok (.iadd, 1) := by decide +kernel
theorem d_tc_fetchWord_19 : decode bc_tc_fetchWord 19 = .ok (.invokevirtual 36, 3) := by decide +kernel
theorem d_tc_fetchWord_22 : decode bc_tc_fetchWord 22 = .ok (.aload_n 0, 1) := by decide +kernel
theorem d_tc_fetchWord_23 : decode bc_tc_fetchWord 23 = .ok (.getfield 10, 3) := by decide +kernel
theorem d_tc_fetchWord_26 : decode bc_tc_fetchWord 26 = .ok (.iload_n 1, 1) := by decide +kernel
theorem d_tc_fetchWord_27 : decode bc_tc_fetchWord 27 = .ok (.invokevirtual 56, 3) := by decide +kernel
theorem d_tc_fetchWord_30 : decode bc_tc_fetchWord 30 = .ok (.ireturn, 1) := by decide +kernel
theorem d_tc_goOn_0 : decode bc_tc_goOn 0 = .ok (.aload_n 0, 1) := by decide +kernel
theorem d_tc_goOn_1 : decode bc_tc_goOn 1 = .ok (.getfield 19, 3) := by decide +kernel
theorem d_tc_goOn_4 : decode bc_tc_goOn 4 = .ok (.bipush 6, 2) := by decide +kernel
theorem d_tc_goOn_6 : decode bc_tc_goOn 6 = .ok (.aload_n 0, 1) := by decide +kernel
theorem d_tc_goOn_7 : decode bc_tc_goOn 7 = .ok (.getfield 19, 3) := by decide +kernel
theorem d_tc_goOn_10 : decode bc_tc_goOn 10 = .ok (.bipush 6, 2) := by decide +kernel
theorem d_tc_goOn_12 : decode bc_tc_goOn 12 = .ok (.invokevirtual 82, 3) := by decide +kernel
theorem d_tc_goOn_15 : decode bc_tc_goOn 15 = .ok (.iload_n 1, 1) := by decide +kernel
theorem d_tc_goOn_16 : decode bc_tc_goOn 16 = .ok (.iadd, 1) := by decide +kernel
theorem d_tc_goOn_17 : decode bc_tc_goOn 17 = .ok (.invokevirtual 36, 3) := by decide +kernel
theorem d_tc_goOn_20 : decode bc_tc_goOn 20 = .ok (.return_, 1) := by decide +kernel
theorem d_tc_callRelative_0 : decode bc_tc_callRelative 0 = .ok (.aload_n 0, 1) := by decide +kernel
theorem d_tc_callRelative_1 : decode bc_tc_callRelative 1 = .ok (.iconst 5, 1) := by decide +kernel
theorem d_tc_callRelative_2 : decode bc_tc_callRelative 2 = .ok (.aload_n 0, 1) := by decide +kernel
theorem d_tc_callRelative_3 : decode bc_tc_callRelative 3 = .ok (.getfield 19, 3) := by decide +kernel
theorem d_tc_callRelative_6 : decode bc_tc_callRelative 6 = .ok (.bipush 6, 2) := by decide +kernel
theorem d_tc_callRelative_8 : decode bc_tc_callRelative 8 = .ok (.invokevirtual 82, 3) := by decide +kernel
theorem d_tc_callRelative_11 : decode bc_tc_callRelative 11 = .ok (.invokevirtual 209, 3) := by decide +kernel
theorem d_tc_callRelative_14 : decode bc_tc_callRelative 14 = .ok (.aload_n 0, 1) := by decide +kernel
theorem d_tc_callRelative_15 : decode bc_tc_callRelative 15 = .ok (.iload_n 1, 1) := by decide +kernel
theorem d_tc_callRelative_16 : decode bc_tc_callRelative 16 = .ok (.invokevirtual 161, 3) := by decide +kernel
theorem d_tc_callRelative_19 : decode bc_tc_callRelative 19 = .ok (.return_, 1) := by decide +kernel
theorem d_tc_become_0 : decode bc_tc_become 0 = .ok (.aload_n 0, 1) := by decide +kernel
theorem d_tc_become_1 : decode bc_tc_become 1 = .ok (.getfield 19, 3) := by decide +kernel
theorem d_tc_become_4 : decode bc_tc_become 4 = .ok (.iload_n 1, 1) := by decide +kernel
theorem d_tc_become_5 : decode bc_tc_become 5 = .ok (.iload_n 2, 1) := by decide +kernel
theorem d_tc_become_6 : decode bc_tc_become 6 = .ok (.invokevirtual 36, 3) := by decide +kernel
theorem d_tc_become_9 : decode bc_tc_become 9 = .ok (.iload_n 1, 1) := by decide +kernel
theorem d_tc_become_10 : decode bc_tc_become 10 = .ok (.iconst 5, 1) := by decide +kernel
theorem d_tc_become_11 : decode bc_tc_become 11 = .ok (.if_icmp .ne 8, 3) := by decide +kernel
theorem d_tc_become_14 : decode bc_tc_become 14 = .ok (.aload_n 0, 1) := by decide +kernel
theorem d_tc_become_15 : decode bc_tc_become 15 = .ok (.iconst 1, 1) := by decide +kernel
theorem d_tc_become_16 : decode bc_tc_become 16 = .ok (.putfield 44, 3) := by decide +kernel
theorem d_tc_become_19 : decode bc_tc_become 19 = .ok (.return_, 1) := by decide +kernel
theorem d_tc_exchange_0 : decode bc_tc_exchange 0 = .ok (.getstatic 129, 3) := by decide +kernel
theorem d_tc_exchange_3 : decode bc_tc_exchange 3 = .ok (.iload_n 1, 1) := by decide +kernel
theorem d_tc_exchange_4 : decode bc_tc_exchange 4 = .ok (.iconst 4, 1) := by decide +kernel
theorem d_tc_exchange_5 : decode bc_tc_exchange 5 = .ok (.ishr, 1) := by decide +kernel
theorem d_tc_exchange_6 : decode bc_tc_exchange 6 = .ok (.iaload, 1) := by decide +kernel
theorem d_tc_exchange_7 : decode bc_tc_exchange 7 = .ok (.istore_n 2, 1) := by decide +kernel
theorem d_tc_exchange_8 : decode bc_tc_exchange 8 = .ok (.getstatic 129, 3) := by decide +kernel
theorem d_tc_exchange_11 : decode bc_tc_exchange 11 = .ok (.iload_n 1, 1) := by decide +kernel
theorem d_tc_exchange_12 : decode bc_tc_exchange 12 = .ok (.bipush 15, 2) := by decide +kernel
theorem d_tc_exchange_14 : decode bc_tc_exchange 14 = .ok (.iand, 1) := by decide +kernel
theorem d_tc_exchange_15 : decode bc_tc_exchange 15 = .ok (.iaload, 1) := by decide +kernel
theorem d_tc_exchange_16 : decode bc_tc_exchange 16 = .ok (.istore_n 3, 1) := by decide +kernel
theorem d_tc_exchange_17 : decode bc_tc_exchange 17 = .ok (.aload_n 0, 1) := by decide +kernel
theorem d_tc_exchange_18 : decode bc_tc_exchange 18 = .ok (.getfield 19, 3) := by decide +kernel
theorem d_tc_exchange_21 : decode bc_tc_exchange 21 = .ok (.iload_n 2, 1) := by decide +kernel
theorem d_tc_exchange_22 : decode bc_tc_exchange 22 = .ok (.invokevirtual 82, 3) := by decide +kernel
theorem d_tc_exchange_25 : decode bc_tc_exchange 25 = .ok (.istore 4, 2) := by decide +kernel
theorem d_tc_exchange_27 : decode bc_tc_exchange 27 = .ok (.aload_n 0, 1) := by decide +kernel
theorem d_tc_exchange_28 : decode bc_tc_exchange 28 = .ok (.iload_n 2, 1) := by decide +kernel
theorem d_tc_exchange_29 : decode bc_tc_exchange 29 = .ok (.aload_n 0, 1) := by decide +kernel
theorem d_tc_exchange_30 : decode bc_tc_exchange 30 = .ok (.getfield 19, 3) := by decide +kernel
theorem d_tc_exchange_33 : decode bc_tc_exchange 33 = .ok (.iload_n 3, 1) := by decide +kernel
theorem d_tc_exchange_34 : decode bc_tc_exchange 34 = .ok (.invokevirtual 82, 3) := by decide +kernel
theorem d_tc_exchange_37 : decode bc_tc_exchange 37 = .ok (.invokevirtual 203, 3) := by decide +kernel
theorem d_tc_exchange_40 : decode bc_tc_exchange 40 = .ok (.aload_n 0, 1) := by decide +kernel
theorem d_tc_exchange_41 : decode bc_tc_exchange 41 = .ok (.iload_n 3, 1) := by decide +kernel
theorem d_tc_exchange_42 : decode bc_tc_exchange 42 = .ok (.iload 4, 2) := by decide +kernel
theorem d_tc_exchange_44 : decode bc_tc_exchange 44 = .ok (.invokevirtual 203, 3) := by decide +kernel
theorem d_tc_exchange_47 : decode bc_tc_exchange 47 = .ok (.return_, 1) := by decide +kernel
theorem d_tc_transfer_0 : decode bc_tc_transfer 0 = .ok (.aload_n 0, 1) := by decide +kernel
theorem d_tc_transfer_1 : decode bc_tc_transfer 1 = .ok (.getstatic 129, 3) := by decide +kernel
theorem d_tc_transfer_4 : decode bc_tc_transfer 4 = .ok (.iload_n 1, 1) := by decide +kernel
theorem d_tc_transfer_5 : decode bc_tc_transfer 5 = .ok (.bipush 15, 2) := by decide +kernel
theorem d_tc_transfer_7 : decode bc_tc_transfer 7 = .ok (.iand, 1) := by decide +kernel
theorem d_tc_transfer_8 : decode bc_tc_transfer 8 = .ok (.iaload, 1) := by decide +kernel
theorem d_tc_transfer_9 : decode bc_tc_transfer 9 = .ok (.aload_n 0, 1) := by decide +kernel
theorem d_tc_transfer_10 : decode bc_tc_transfer 10 = .ok (.getfield 19, 3) := by decide +kernel
theorem d_tc_transfer_13 : decode bc_tc_transfer 13 = .ok (.getstatic 129, 3) := by decide +kernel
theorem d_tc_transfer_16 : decode bc_tc_transfer 16 = .ok (.iload_n 1, 1) := by decide +kernel
theorem d_tc_transfer_17 : decode bc_tc_transfer 17 = .ok (.iconst 4, 1) := by decide +kernel
theorem d_tc_transfer_18 : decode bc_tc_transfer 18 = .ok (.ishr, 1) := by decide +kernel
theorem d_tc_transfer_19 : decode bc_tc_transfer 19 = .ok (.iaload, 1) := by decide +kernel
theorem d_tc_transfer_20 : decode bc_tc_transfer 20 = .ok (.invokevirtual 82, 3) := by decide +kernel
theorem d_tc_transfer_23 : decode bc_tc_transfer 23 = .ok (.invokevirtual 203, 3) := by decide +kernel
theorem d_tc_transfer_26 : decode bc_tc_transfer 26 = .ok (.return_, 1) := by decide +kernel
theorem d_tc_executeRowOne_0 : decode bc_tc_executeRowOne 0 = .ok (.iload_n 1, 1) := by decide +kernel
theorem d_tc_executeRowOne_1 : decode bc_tc_executeRowOne 1 = .ok (.tableswitch 191 3 15 #[67, 191, 191, 75, 86, 191, 97, 107, 191, 133, 159, 169, 180], 67) := by decide +kernel
theorem d_tc_executeRowOne_68 : decode bc_tc_executeRowOne 68 = .ok (.aload_n 0, 1) := by decide +kernel
theorem d_tc_executeRowOne_69 : decode bc_tc_executeRowOne 69 = .ok (.iconst 1, 1) := by decide +kernel
theorem d_tc_executeRowOne_70 : decode bc_tc_executeRowOne 70 = .ok (.putfield 51, 3) := by decide +kernel
theorem d_tc_executeRowOne_73 : decode bc_tc_executeRowOne 73 = .ok (.goto 119, 3) := by decide +kernel
theorem d_tc_executeRowOne_76 : decode bc_tc_executeRowOne 76 = .ok (.aload_n 0, 1) := by decide +kernel
theorem d_tc_executeRowOne_77 : decode bc_tc_executeRowOne 77 = .ok (.aload_n 0, 1) := by decide +kernel
theorem d_tc_executeRowOne_78 : decode bc_tc_executeRowOne 78 = .ok (.invokevirtual 135, 3) := by decide +kernel
theorem d_tc_executeRowOne_81 : decode bc_tc_executeRowOne 81 = .ok (.invokevirtual 161, 3) := by decide +kernel
theorem d_tc_executeRowOne_84 : decode bc_tc_executeRowOne 84 = .ok (.goto 108, 3) := by decide +kernel
theorem d_tc_executeRowOne_87 : decode bc_tc_executeRowOne 87 = .ok (.aload_n 0, 1) := by decide +kernel
theorem d_tc_executeRowOne_88 : decode bc_tc_executeRowOne 88 = .ok (.aload_n 0, 1) := by decide +kernel
theorem d_tc_executeRowOne_89 : decode bc_tc_executeRowOne 89 = .ok (.invokevirtual 135, 3) := by decide +kernel
theorem d_tc_executeRowOne_92 : decode bc_tc_executeRowOne 92 = .ok (.invokevirtual 164, 3) := by decide +kernel
theorem d_tc_executeRowOne_95 : decode bc_tc_executeRowOne 95 = .ok (.goto 97, 3) := by decide +kernel
theorem d_tc_executeRowOne_98 : decode bc_tc_executeRowOne 98 = .ok (.aload_n 0, 1) := by decide +kernel
theorem d_tc_executeRowOne_99 : decode bc_tc_executeRowOne 99 = .ok (.getfield 28, 3) := by decide +kernel
theorem d_tc_executeRowOne_102 : decode bc_tc_executeRowOne 102 = .ok (.invokevirtual 167, 3) := by decide +kernel
