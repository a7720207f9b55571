theorem d_mo_onByte_302 : decode bc_mo_onByte 302 = .ok (.iconst 1, 1) := by decide +kernel
theorem d_mo_onByte_303 : decode bc_mo_onByte 303 = .ok (.iand, 1) := by decide +kernel
theorem d_mo_onByte_304 : decode bc_mo_onByte 304 = .ok (.ifCond .eq 7, 3) := by decide +kernel
theorem d_mo_onByte_307 : decode bc_mo_onByte 307 = .ok (.iconst 1, 1) := by decide +kernel
theorem d_mo_onByte_308 : decode bc_mo_onByte 308 = .ok (.goto 4, 3) := by decide +kernel
theorem d_mo_onByte_311 : decode bc_mo_onByte 311 = .ok (.iconst 0, 1) := by decide +kernel
theorem d_mo_onByte_312 : decode bc_mo_onByte 312 = .ok (.invokevirtual 36, 3) := by decide +kernel
theorem d_mo_onByte_315 : decode bc_mo_onByte 315 = .ok (.iload_n 1, 1) := by decide +kernel
theorem d_mo_onByte_316 : decode bc_mo_onByte 316 = .ok (.bipush 8, 2) := by decide +kernel
theorem d_mo_onByte_318 : decode bc_mo_onByte 318 = .ok (.if_icmp .eq 9, 3) := by decide +kernel
theorem d_mo_onByte_321 : decode bc_mo_onByte 321 = .ok (.iload_n 1, 1) := by decide +kernel
theorem d_mo_onByte_322 : decode bc_mo_onByte 322 = .ok (.bipush 9, 2) := by decide +kernel
theorem d_mo_onByte_324 : decode bc_mo_onByte 324 = .ok (.if_icmp .ne 20, 3) := by decide +kernel
theorem d_mo_onByte_327 : decode bc_mo_onByte 327 = .ok (.aload_n 0, 1) := by decide +kernel
theorem d_mo_onByte_328 : decode bc_mo_onByte 328 = .ok (.iconst 1, 1) := by decide +kernel
theorem d_mo_onByte_329 : decode bc_mo_onByte 329 = .ok (.iload_n 2, 1) := by decide +kernel
theorem d_mo_onByte_330 : decode bc_mo_onByte 330 = .ok (.sipush 128, 3) := by decide +kernel
theorem d_mo_onByte_333 : decode bc_mo_onByte 333 = .ok (.if_icmp .lt 7, 3) := by decide +kernel
theorem d_mo_onByte_336 : decode bc_mo_onByte 336 = .ok (.iconst 1, 1) := by decide +kernel
theorem d_mo_onByte_337 : decode bc_mo_onByte 337 = .ok (.goto 4, 3) := by decide +kernel
theorem d_mo_onByte_340 : decode bc_mo_onByte 340 = .ok (.iconst 0, 1) := by decide +kernel
theorem d_mo_onByte_341 : decode bc_mo_onByte 341 = .ok (.invokevirtual 36, 3) := by decide +kernel
theorem d_mo_onByte_344 : decode bc_mo_onByte 344 = .ok (.iload 4, 2) := by decide +kernel
theorem d_mo_onByte_346 : decode bc_mo_onByte 346 = .ok (.ireturn, 1) := by decide +kernel
theorem d_mo_oneByte_0 : decode bc_mo_oneByte 0 = .ok (.iload_n 1, 1) := by decide +kernel
theorem d_mo_oneByte_1 : decode bc_mo_oneByte 1 = .ok (.bipush 15, 2) := by decide +kernel
theorem d_mo_oneByte_3 : decode bc_mo_oneByte 3 = .ok (.iand, 1) := by decide +kernel
theorem d_mo_oneByte_4 : decode bc_mo_oneByte 4 = .ok (.istore_n 2, 1) := by decide +kernel
theorem d_mo_oneByte_5 : decode bc_mo_oneByte 5 = .ok (.iload_n 1, 1) := by decide +kernel
theorem d_mo_oneByte_6 : decode bc_mo_oneByte 6 = .ok (.iconst 4, 1) := by decide +kernel
theorem d_mo_oneByte_7 : decode bc_mo_oneByte 7 = .ok (.ishr, 1) := by decide +kernel
theorem d_mo_oneByte_8 : decode bc_mo_oneByte 8 = .ok (.istore_n 3, 1) := by decide +kernel
theorem d_mo_oneByte_9 : decode bc_mo_oneByte 9 = .ok (.iload_n 3, 1) := by decide +kernel
theorem d_mo_oneByte_10 : decode bc_mo_oneByte 10 = .ok (.iconst 4, 1) := by decide +kernel
theorem d_mo_oneByte_11 : decode bc_mo_oneByte 11 = .ok (.if_icmp .eq 8, 3) := by decide +kernel
theorem d_mo_oneByte_14 : decode bc_mo_oneByte 14 = .ok (.iload_n 3, 1) := by decide +kernel
theorem d_mo_oneByte_15 : decode bc_mo_oneByte 15 = .ok (.iconst 5, 1) := by decide +kernel
theorem d_mo_oneByte_16 : decode bc_mo_oneByte 16 = .ok (.if_icmp .ne 7, 3) := by decide +kernel
theorem d_mo_oneByte_19 : decode bc_mo_oneByte 19 = .ok (.iconst 1, 1) := by decide +kernel
theorem d_mo_oneByte_20 : decode bc_mo_oneByte 20 = .ok (.goto 4, 3) := by decide +kernel
theorem d_mo_oneByte_23 : decode bc_mo_oneByte 23 = .ok (.iconst 0, 1) := by decide +kernel
theorem d_mo_oneByte_24 : decode bc_mo_oneByte 24 = .ok (.istore 4, 2) := by decide +kernel
theorem d_mo_oneByte_26 : decode bc_mo_oneByte 26 = .ok (.aload_n 0, 1) := by decide +kernel
theorem d_mo_oneByte_27 : decode bc_mo_oneByte 27 = .ok (.iload_n 2, 1) := by decide +kernel
theorem d_mo_oneByte_28 : decode bc_mo_oneByte 28 = .ok (.iconst 1, 1) := by decide +kernel
theorem d_mo_oneByte_29 : decode bc_mo_oneByte 29 = .ok (.if_icmp .eq 30, 3) := by decide +kernel
theorem d_mo_oneByte_32 : decode bc_mo_oneByte 32 = .ok (.iload_n 2, 1) := by decide +kernel
theorem d_mo_oneByte_33 : decode bc_mo_oneByte 33 = .ok (.iconst 2, 1) := by decide +kernel
theorem d_mo_oneByte_34 : decode bc_mo_oneByte 34 = .ok (.if_icmp .eq 25, 3) := by decide +kernel
theorem d_mo_oneByte_37 : decode bc_mo_oneByte 37 = .ok (.iload_n 2, 1) := by decide +kernel
theorem d_mo_oneByte_38 : decode bc_mo_oneByte 38 = .ok (.iconst 5, 1) := by decide +kernel
theorem d_mo_oneByte_39 : decode bc_mo_oneByte 39 = .ok (.if_icmp .eq 20, 3) := by decide +kernel
theorem d_mo_oneByte_42 : decode bc_mo_oneByte 42 = .ok (.iload_n 2, 1) := by decide +kernel
theorem d_mo_oneByte_43 : decode bc_mo_oneByte 43 = .ok (.bipush 11, 2) := by decide +kernel
theorem d_mo_oneByte_45 : decode bc_mo_oneByte 45 = .ok (.if_icmp .eq 14, 3) := by decide +kernel
theorem d_mo_oneByte_48 : decode bc_mo_oneByte 48 = .ok (.iload_n 2, 1) := by decide +kernel
theorem d_mo_oneByte_49 : decode bc_mo_oneByte 49 = .ok (.bipush 14, 2) := by decide +kernel
theorem d_mo_oneByte_51 : decode bc_mo_oneByte 51 = .ok (.if_icmp .ne 12, 3) := by decide +kernel
theorem d_mo_oneByte_54 : decode bc_mo_oneByte 54 = .ok (.iload 4, 2) := by decide +kernel
theorem d_mo_oneByte_56 : decode bc_mo_oneByte 56 = .ok (.ifCond .eq 7, 3) := by decide +kernel
theorem d_mo_oneByte_59 : decode bc_mo_oneByte 59 = .ok (.iconst 1, 1) := by decide +kernel
theorem d_mo_oneByte_60 : decode bc_mo_oneByte 60 = .ok (.goto 4, 3) := by decide +kernel
theorem d_mo_oneByte_63 : decode bc_mo_oneByte 63 = .ok (.iconst 0, 1) := by decide +kernel
theorem d_mo_oneByte_64 : decode bc_mo_oneByte 64 = .ok (.putfield 56, 3) := by decide +kernel
theorem d_mo_oneByte_67 : decode bc_mo_oneByte 67 = .ok (.aload_n 0, 1) := by decide +kernel
theorem d_mo_oneByte_68 : decode bc_mo_oneByte 68 = .ok (.getfield 56, 3) := by decide +kernel
theorem d_mo_oneByte_71 : decode bc_mo_oneByte 71 = .ok (.ifCond .eq 4, 3) := by decide +kernel
theorem d_mo_oneByte_74 : decode bc_mo_oneByte 74 = .ok (.return_, 1) := by decide +kernel
theorem d_mo_oneByte_75 : decode bc_mo_oneByte 75 = .ok (.iload 4, 2) := by decide +kernel
theorem d_mo_oneByte_77 : decode bc_mo_oneByte 77 = .ok (.ifCond .eq 25, 3) := by decide +kernel
theorem d_mo_oneByte_80 : decode bc_mo_oneByte 80 = .ok (.aload_n 0, 1) := by decide +kernel
theorem d_mo_oneByte_81 : decode bc_mo_oneByte 81 = .ok (.getfield 13, 3) := by decide +kernel
theorem d_mo_oneByte_84 : decode bc_mo_oneByte 84 = .ok (.iload_n 3, 1) := by decide +kernel
theorem d_mo_oneByte_85 : decode bc_mo_oneByte 85 = .ok (.iconst 4, 1) := by decide +kernel
theorem d_mo_oneByte_86 : decode bc_mo_oneByte 86 = .ok (.isub, 1) := by decide +kernel
theorem d_mo_oneByte_87 : decode bc_mo_oneByte 87 = .ok (.aload_n 0, 1) := by decide +kernel
theorem d_mo_oneByte_88 : decode bc_mo_oneByte 88 = .ok (.iload_n 2, 1) := by decide +kernel
theorem d_mo_oneByte_89 : decode bc_mo_oneByte 89 = .ok (.aload_n 0, 1) := by decide +kernel
theorem d_mo_oneByte_90 : decode bc_mo_oneByte 90 = .ok (.getfield 13, 3) := by decide +kernel
theorem d_mo_oneByte_93 : decode bc_mo_oneByte 93 = .ok (.iload_n 3, 1) := by decide +kernel
theorem d_mo_oneByte_94 : decode bc_mo_oneByte 94 = .ok (.iconst 4, 1) := by decide +kernel
theorem d_mo_oneByte_95 : decode bc_mo_oneByte 95 = .ok (.isub, 1) := by decide +kernel
theorem d_mo_oneByte_96 : decode bc_mo_oneByte 96 = .ok (.iaload, 1) := by decide +kernel
theorem d_mo_oneByte_97 : decode bc_mo_oneByte 97 = .ok (.invokevirtual 101, 3) := by decide +kernel
theorem d_mo_oneByte_100 : decode bc_mo_oneByte 100 = .ok (.iastore, 1) := by decide +kernel
theorem d_mo_oneByte_101 : decode bc_mo_oneByte 101 = .ok (.return_, 1) := by decide +kernel
theorem d_mo_oneByte_102 : decode bc_mo_oneByte 102 = .ok (.aload_n 0, 1) := by decide +kernel
theorem d_mo_oneByte_103 : decode bc_mo_oneByte 103 = .ok (.iload_n 3, 1) := by decide +kernel
theorem d_mo_oneByte_104 : decode bc_mo_oneByte 104 = .ok (.ifCond .ne 7, 3) := by decide +kernel
theorem d_mo_oneByte_107 : decode bc_mo_oneByte 107 = .ok (.iconst 1, 1) := by decide +kernel
theorem d_mo_oneByte_108 : decode bc_mo_oneByte 108 = .ok (.goto 6, 3) := by decide +kernel
theorem d_mo_oneByte_111 : decode bc_mo_oneByte 111 = .ok (.iload_n 3, 1) := by decide +kernel
theorem d_mo_oneByte_112 : decode bc_mo_oneByte 112 = .ok (.iconst 4, 1) := by decide +kernel
theorem d_mo_oneByte_113 : decode bc_mo_oneByte 113 = .ok (.isub, 1) := by decide +kernel
theorem d_mo_oneByte_114 : decode bc_mo_oneByte 114 = .ok (.invokevirtual 75, 3) := by decide +kernel
theorem d_mo_oneByte_117 : decode bc_mo_oneByte 117 = .ok (.istore 5, 2) := by decide +kernel
theorem d_mo_oneByte_119 : decode bc_mo_oneByte 119 = .ok (.aload_n 0, 1) := by decide +kernel
theorem d_mo_oneByte_120 : decode bc_mo_oneByte 120 = .ok (.getfield 56, 3) := by decide +kernel
theorem d_mo_oneByte_123 : decode bc_mo_oneByte 123 = .ok (.ifCond .eq 4, 3) := by decide +kernel
theorem d_mo_oneByte_126 : decode bc_mo_oneByte 126 = .ok (.return_, 1) := by decide +kernel
theorem d_mo_oneByte_127 : decode bc_mo_oneByte 127 = .ok (.iload_n 2, 1) := by decide +kernel
theorem d_mo_oneByte_128 : decode bc_mo_oneByte 128 = .ok (.bipush 14, 2) := by decide +kernel
theorem d_mo_oneByte_130 : decode bc_mo_oneByte 130 = .ok (.if_icmp .ne 13, 3) := by decide +kernel
theorem d_mo_oneByte_133 : decode bc_mo_oneByte 133 = .ok (.aload_n 0, 1) := by decide +kernel
theorem d_mo_oneByte_134 : decode bc_mo_oneByte 134 = .ok (.getfield 13, 3) := by decide +kernel
theorem d_mo_oneByte_137 : decode bc_mo_oneByte 137 = .ok (.bipush 6, 2) := by decide +kernel
theorem d_mo_oneByte_139 : decode bc_mo_oneByte 139 = .ok (.iload 5, 2) := by decide +kernel
theorem d_mo_oneByte_141 : decode bc_mo_oneByte 141 = .ok (.iastore, 1) := by decide +kernel
theorem d_mo_oneByte_142 : decode bc_mo_oneByte 142 = .ok (.return_, 1) := by decide +kernel
theorem d_mo_oneByte_143 : decode bc_mo_oneByte 143 = .ok (.aload_n 0, 1) := by decide +kernel
theorem d_mo_oneByte_144 : decode bc_mo_oneByte 144 = .ok (.iload_n 2, 1) := by decide +kernel
theorem d_mo_oneByte_145 : decode bc_mo_oneByte 145 = .ok (.aload_n 0, 1) := by decide +kernel
theorem d_mo_oneByte_146 : decode bc_mo_oneByte 146 = .ok (.iload 5, 2) := by decide +kernel
theorem d_mo_oneByte_148 : decode bc_mo_oneByte 148 = .ok (.invokevirtual 22, 3) := by decide +kernel
theorem d_mo_oneByte_151 : decode bc_mo_oneByte 151 = .ok (.invokevirtual 101, 3) := by decide +kernel
theorem d_mo_oneByte_154 : decode bc_mo_oneByte 154 = .ok (.istore 6, 2) := by decide +kernel
theorem d_mo_oneByte_156 : decode bc_mo_oneByte 156 = .ok (.iload_n 2, 1) := by decide +kernel
theorem d_mo_oneByte_157 : decode bc_mo_oneByte 157 = .ok (.bipush 13, 2) := by decide +kernel
theorem d_mo_oneByte_159 : decode bc_mo_oneByte 159 = .ok (.if_icmp .eq 11, 3) := by decide +kernel
theorem d_mo_oneByte_162 : decode bc_mo_oneByte 162 = .ok (.aload_n 0, 1) := by decide +kernel
theorem d_mo_oneByte_163 : decode bc_mo_oneByte 163 = .ok (.iload 5, 2) := by decide +kernel
theorem d_mo_oneByte_165 : decode bc_mo_oneByte 165 = .ok (.iload 6, 2) := by decide +kernel
theorem d_mo_oneByte_167 : decode bc_mo_oneByte 167 = .ok (.invokevirtual 26, 3) := by decide +kernel
theorem d_mo_oneByte_170 : decode bc_mo_oneByte 170 = .ok (.return_, 1) := by decide +kernel
theorem d_mo_accumulate_0 : decode bc_mo_accumulate 0 = .ok (.iload_n 1, 1) := by decide +kernel
theorem d_mo_accumulate_1 : decode bc_mo_accumulate 1 = .ok (.bipush 15, 2) := by decide +kernel
theorem d_mo_accumulate_3 : decode bc_mo_accumulate 3 = .ok (.iand, 1) := by decide +kernel
theorem d_mo_accumulate_4 : decode bc_mo_accumulate 4 = .ok (.istore_n 3, 1) := by decide +kernel
theorem d_mo_accumulate_5 : decode bc_mo_accumulate 5 = .ok (.iload_n 1, 1) := by decide +kernel
theorem d_mo_accumulate_6 : decode bc_mo_accumulate 6 = .ok (.iconst 4, 1) := by decide +kernel
theorem d_mo_accumulate_7 : decode bc_mo_accumulate 7 = .ok (.ishr, 1) := by decide +kernel
theorem d_mo_accumulate_8 : decode bc_mo_accumulate 8 = .ok (.iconst 3, 1) := by decide +kernel
theorem d_mo_accumulate_9 : decode bc_mo_accumulate 9 = .ok (.iand, 1) := by decide +kernel
theorem d_mo_accumulate_10 : decode bc_mo_accumulate 10 = .ok (.istore 4, 2) := by decide +kernel
theorem d_mo_accumulate_12 : decode bc_mo_accumulate 12 = .ok (.aload_n 0, 1) := by decide +kernel
theorem d_mo_accumulate_13 : decode bc_mo_accumulate 13 = .ok (.iconst 1, 1) := by decide +kernel
theorem d_mo_accumulate_14 : decode bc_mo_accumulate 14 = .ok (.invokevirtual 93, 3) := by decide +kernel
theorem d_mo_accumulate_17 : decode bc_mo_accumulate 17 = .ok (.ifCond .eq 7, 3) := by decide +kernel
theorem d_mo_accumulate_20 : decode bc_mo_accumulate 20 = .ok (.iconst 1, 1) := by decide +kernel
theorem d_mo_accumulate_21 : decode bc_mo_accumulate 21 = .ok (.goto 4, 3) := by decide +kernel
theorem d_mo_accumulate_24 : decode bc_mo_accumulate 24 = .ok (.iconst 0, 1) := by decide +kernel
theorem d_mo_accumulate_25 : decode bc_mo_accumulate 25 = .ok (.istore 5, 2) := by decide +kernel
theorem d_mo_accumulate_27 : decode bc_mo_accumulate 27 = .ok (.iload_n 3, 1) := by decide +kernel
theorem d_mo_accumulate_28 : decode bc_mo_accumulate 28 = .ok (.bipush 7, 2) := by decide +kernel
theorem d_mo_accumulate_30 : decode bc_mo_accumulate 30 = .ok (.if_icmp .ne 58, 3) := by decide +kernel
theorem d_mo_accumulate_33 : decode bc_mo_accumulate 33 = .ok (.aload_n 0, 1) := by decide +kernel
theorem d_mo_accumulate_34 : decode bc_mo_accumulate 34 = .ok (.iload 4, 2) := by decide +kernel
theorem d_mo_accumulate_36 : decode bc_mo_accumulate 36 = .ok (.ifCond .ne 7, 3) := by decide +kernel
theorem d_mo_accumulate_39 : decode bc_mo_accumulate 39 = .ok (.iconst 1, 1) := by decide +kernel
theorem d_mo_accumulate_40 : decode bc_mo_accumulate 40 = .ok (.goto 4, 3) := by decide +kernel
theorem d_mo_accumulate_43 : decode bc_mo_accumulate 43 = .ok (.iconst 0, 1) := by decide +kernel
theorem d_mo_accumulate_44 : decode bc_mo_accumulate 44 = .ok (.putfield 56, 3) := by decide +kernel
theorem d_mo_accumulate_47 : decode bc_mo_accumulate 47 = .ok (.aload_n 0, 1) := by decide +kernel
theorem d_mo_accumulate_48 : decode bc_mo_accumulate 48 = .ok (.getfield 56, 3) := by decide +kernel
theorem d_mo_accumulate_51 : decode bc_mo_accumulate 51 = .ok (.ifCond .eq 4, 3) := by decide +kernel
theorem d_mo_accumulate_54 : decode bc_mo_accumulate 54 = .ok (.return_, 1) := by decide +kernel
theorem d_mo_accumulate_55 : decode bc_mo_accumulate 55 = .ok (.aload_n 0, 1) := by decide +kernel
theorem d_mo_accumulate_56 : decode bc_mo_accumulate 56 = .ok (.iload 4, 2) := by decide +kernel
theorem d_mo_accumulate_58 : decode bc_mo_accumulate 58 = .ok (.invokevirtual 75, 3) := by decide +kernel
theorem d_mo_accumulate_61 : decode bc_mo_accumulate 61 = .ok (.istore 6, 2) := by decide +kernel
theorem d_mo_accumulate_63 : decode bc_mo_accumulate 63 = .ok (.aload_n 0, 1) := by decide +kernel
theorem d_mo_accumulate_64 : decode bc_mo_accumulate 64 = .ok (.getfield 56, 3) := by decide +kernel
theorem d_mo_accumulate_67 : decode bc_mo_accumulate 67 = .ok (.ifCond .ne 20, 3) := by decide +kernel
theorem d_mo_accumulate_70 : decode bc_mo_accumulate 70 = .ok (.aload_n 0, 1) := by decide +kernel
theorem d_mo_accumulate_71 : decode bc_mo_accumulate 71 = .ok (.iload 6, 2) := by decide +kernel
theorem d_mo_accumulate_73 : decode bc_mo_accumulate 73 = .ok (.aload_n 0, 1) := by decide +kernel
theorem d_mo_accumulate_74 : decode bc_mo_accumulate 74 = .ok (.aload_n 0, 1) := by decide +kernel
theorem d_mo_accumulate_75 : decode bc_mo_accumulate 75 = .ok (.getfield 13, 3) := by decide +kernel
theorem d_mo_accumulate_78 : decode bc_mo_accumulate 78 = .ok (.iload_n 2, 1) := by decide +kernel
theorem d_mo_accumulate_79 : decode bc_mo_accumulate 79 = .ok (.iaload, 1) := by decide +kernel
theorem d_mo_accumulate_80 : decode bc_mo_accumulate 80 = .ok (.iconst 0, 1) := by decide +kernel
theorem d_mo_accumulate_81 : decode bc_mo_accumulate 81 = .ok (.invokevirtual 105, 3) := by decide +kernel
theorem d_mo_accumulate_84 : decode bc_mo_accumulate 84 = .ok (.invokevirtual 26, 3) := by decide +kernel
theorem d_mo_accumulate_87 : decode bc_mo_accumulate 87 = .ok (.return_, 1) := by decide +kernel
theorem d_mo_accumulate_88 : decode bc_mo_accumulate 88 = .ok (.aload_n 0, 1) := by decide +kernel
theorem d_mo_accumulate_89 : decode bc_mo_accumulate 89 = .ok (.iload 4, 2) := by decide +kernel
theorem d_mo_accumulate_91 : decode bc_mo_accumulate 91 = .ok (.invokevirtual 108, 3) := by decide +kernel
theorem d_mo_accumulate_94 : decode bc_mo_accumulate 94 = .ok (.istore 6, 2) := by decide +kernel
theorem d_mo_accumulate_96 : decode bc_mo_accumulate 96 = .ok (.aload_n 0, 1) := by decide +kernel
theorem d_mo_accumulate_97 : decode bc_mo_accumulate 97 = .ok (.getfield 56, 3) := by decide +kernel
theorem d_mo_accumulate_100 : decode bc_mo_accumulate 100 = .ok (.ifCond .eq 4, 3) := by decide +kernel
theorem d_mo_accumulate_103 : decode bc_mo_accumulate 103 = .ok (.return_, 1) := by decide +kernel
theorem d_mo_accumulate_104 : decode bc_mo_accumulate 104 = .ok (.aload_n 0, 1) := by decide +kernel
theorem d_mo_accumulate_105 : decode bc_mo_accumulate 105 = .ok (.getfield 13, 3) := by decide +kernel
theorem d_mo_accumulate_108 : decode bc_mo_accumulate 108 = .ok (.iload_n 2, 1) := by decide +kernel
theorem d_mo_accumulate_109 : decode bc_mo_accumulate 109 = .ok (.iaload, 1) := by decide +kernel
theorem d_mo_accumulate_110 : decode bc_mo_accumulate 110 = .ok (.istore 7, 2) := by decide +kernel
theorem d_mo_accumulate_112 : decode bc_mo_accumulate 112 = .ok (.iload_n 3, 1) := by decide +kernel
theorem d_mo_accumulate_113 : decode bc_mo_accumulate 113 = .ok (.ifCond .eq 8, 3) := by decide +kernel
theorem d_mo_accumulate_116 : decode bc_mo_accumulate 116 = .ok (.iload_n 3, 1) := by decide +kernel
theorem d_mo_accumulate_117 : decode bc_mo_accumulate 117 = .ok (.iconst 1, 1) := by decide +kernel
theorem d_mo_accumulate_118 : decode bc_mo_accumulate 118 = .ok (.if_icmp .ne 15, 3) := by decide +kernel
theorem d_mo_accumulate_121 : decode bc_mo_accumulate 121 = .ok (.aload_n 0, 1) := by decide +kernel
theorem d_mo_accumulate_122 : decode bc_mo_accumulate 122 = .ok (.iload 7, 2) := by decide +kernel
theorem d_mo_accumulate_124 : decode bc_mo_accumulate 124 = .ok (.iload 6, 2) := by decide +kernel
theorem d_mo_accumulate_126 : decode bc_mo_accumulate 126 = .ok (.iconst 0, 1) := by decide +kernel
theorem d_mo_accumulate_127 : decode bc_mo_accumulate 127 = .ok (.iconst 0, 1) := by decide +kernel
theorem d_mo_accumulate_128 : decode bc_mo_accumulate 128 = .ok (.invokevirtual 97, 3) := by decide +kernel
theorem d_mo_accumulate_131 : decode bc_mo_accumulate 131 = .ok (.istore 7, 2) := by decide +kernel
theorem d_mo_accumulate_133 : decode bc_mo_accumulate 133 = .ok (.iload_n 3, 1) := by decide +kernel
theorem d_mo_accumulate_134 : decode bc_mo_accumulate 134 = .ok (.iconst 2, 1) := by decide +kernel
theorem d_mo_accumulate_135 : decode bc_mo_accumulate 135 = .ok (.if_icmp .ne 16, 3) := by decide +kernel
theorem d_mo_accumulate_138 : decode bc_mo_accumulate 138 = .ok (.aload_n 0, 1) := by decide +kernel
theorem d_mo_accumulate_139 : decode bc_mo_accumulate 139 = .ok (.iload 7, 2) := by decide +kernel
theorem d_mo_accumulate_141 : decode bc_mo_accumulate 141 = .ok (.iload 6, 2) := by decide +kernel
theorem d_mo_accumulate_143 : decode bc_mo_accumulate 143 = .ok (.iload 5, 2) := by decide +kernel
theorem d_mo_accumulate_145 : decode bc_mo_accumulate 145 = .ok (.iconst 0, 1) := by decide +kernel
theorem d_mo_accumulate_146 : decode bc_mo_accumulate 146 = .ok (.invokevirtual 97, 3) := by decide +kernel
theorem d_mo_accumulate_149 : decode bc_mo_accumulate 149 = .ok (.istore 7, 2) := by decide +kernel
theorem d_mo_accumulate_151 : decode bc_mo_accumulate 151 = .ok (.iload_n 3, 1) := by decide +kernel
theorem d_mo_accumulate_152 : decode bc_mo_accumulate 152 = .ok (.iconst 4, 1) := by decide +kernel
theorem d_mo_accumulate_153 : decode bc_mo_accumulate 153 = .ok (.if_icmp .eq 8, 3) := by decide +kernel
theorem d_mo_accumulate_156 : decode bc_mo_accumulate 156 = .ok (.iload_n 3, 1) := by decide +kernel
theorem d_mo_accumulate_157 : decode bc_mo_accumulate 157 = .ok (.iconst 5, 1) := by decide +kernel
theorem d_mo_accumulate_158 : decode bc_mo_accumulate 158 = .ok (.if_icmp .ne 15, 3) := by decide +kernel
theorem d_mo_accumulate_161 : decode bc_mo_accumulate 161 = .ok (.aload_n 0, 1) := by decide +kernel
theorem d_mo_accumulate_162 : decode bc_mo_accumulate 162 = .ok (.iload 7, 2) := by decide +kernel
theorem d_mo_accumulate_164 : decode bc_mo_accumulate 164 = .ok (.iload 6, 2) := by decide +kernel
theorem d_mo_accumulate_166 : decode bc_mo_accumulate 166 = .ok (.iand, 1) := by decide +kernel
theorem d_mo_accumulate_167 : decode bc_mo_accumulate 167 = .ok (.iconst 0, 1) := by decide +kernel
theorem d_mo_accumulate_168 : decode bc_mo_accumulate 168 = .ok (.invokevirtual 105, 3) := by decide +kernel
theorem d_mo_accumulate_171 : decode bc_mo_accumulate 171 = .ok (.istore 7, 2) := by decide +kernel
theorem d_mo_accumulate_173 : decode bc_mo_accumulate 173 = .ok (.iload_n 3, 1) := by decide +kernel
theorem d_mo_accumulate_174 : decode bc_mo_accumulate 174 = .ok (.bipush 6, 2) := by decide +kernel
theorem d_mo_accumulate_176 : decode bc_mo_accumulate 176 = .ok (.if_icmp .ne 12, 3) := by decide +kernel
theorem d_mo_accumulate_179 : decode bc_mo_accumulate 179 = .ok (.aload_n 0, 1) := by decide +kernel
theorem d_mo_accumulate_180 : decode bc_mo_accumulate 180 = .ok (.iload 6, 2) := by decide +kernel
theorem d_mo_accumulate_182 : decode bc_mo_accumulate 182 = .ok (.iconst 0, 1) := by decide +kernel
theorem d_mo_accumulate_183 : decode bc_mo_accumulate 183 = .ok (.invokevirtual 105, 3) := by decide +kernel
theorem d_mo_accumulate_186 : decode bc_mo_accumulate 186 = .ok (.istore 7, 2) := by decide +kernel
theorem d_mo_accumulate_188 : decode bc_mo_accumulate 188 = .ok (.iload_n 3, 1) := by decide +kernel
theorem d_mo_accumulate_189 : decode bc_mo_accumulate 189 = .ok (.bipush 8, 2) := by decide +kernel
theorem d_mo_accumulate_191 : decode bc_mo_accumulate 191 = .ok (.if_icmp .ne 15, 3) := by decide +kernel
theorem d_mo_accumulate_194 : decode bc_mo_accumulate 194 = .ok (.aload_n 0, 1) := by decide +kernel
theorem d_mo_accumulate_195 : decode bc_mo_accumulate 195 = .ok (.iload 7, 2) := by decide +kernel
theorem d_mo_accumulate_197 : decode bc_mo_accumulate 197 = .ok (.iload 6, 2) := by decide +kernel
theorem d_mo_accumulate_199 : decode bc_mo_accumulate 199 = .ok (.ixor, 1) := by decide +kernel
theorem d_mo_accumulate_200 : decode bc_mo_accumulate 200 = .ok (.iconst 0, 1) := by decide +kernel
theorem d_mo_accumulate_201 : decode bc_mo_accumulate 201 = .ok (.invokevirtual 105, 3) := by decide +kernel
theorem d_mo_accumulate_204 : decode bc_mo_accumulate 204 = .ok (.istore 7, 2) := by decide +kernel
theorem d_mo_accumulate_206 : decode bc_mo_accumulate 206 = .ok (.iload_n 3, 1) := by decide +kernel
theorem d_mo_accumulate_207 : decode bc_mo_accumulate 207 = .ok (.bipush 9, 2) := by decide +kernel
theorem d_mo_accumulate_209 : decode bc_mo_accumulate 209 = .ok (.if_icmp .ne 16, 3) := by decide +kernel
theorem d_mo_accumulate_212 : decode bc_mo_accumulate 212 = .ok (.aload_n 0, 1) := by decide +kernel
theorem d_mo_accumulate_213 : decode bc_mo_accumulate 213 = .ok (.iload 7, 2) := by decide +kernel
theorem d_mo_accumulate_215 : decode bc_mo_accumulate 215 = .ok (.iload 6, 2) := by decide +kernel
theorem d_mo_accumulate_217 : decode bc_mo_accumulate 217 = .ok (.iload 5, 2) := by decide +kernel
theorem d_mo_accumulate_219 : decode bc_mo_accumulate 219 = .ok (.iconst 0, 1) := by decide +kernel
theorem d_mo_accumulate_220 : decode bc_mo_accumulate 220 = .ok (.invokevirtual 111, 3) := by decide +kernel
theorem d_mo_accumulate_223 : decode bc_mo_accumulate 223 = .ok (.istore 7, 2) := by decide +kernel
theorem d_mo_accumulate_225 : decode bc_mo_accumulate 225 = .ok (.iload_n 3, 1) := by decide +kernel
theorem d_mo_accumulate_226 : decode bc_mo_accumulate 226 = .ok (.bipush 10, 2) := by decide +kernel
theorem d_mo_accumulate_228 : decode bc_mo_accumulate 228 = .ok (.if_icmp .ne 15, 3) := by decide +kernel
theorem d_mo_accumulate_231 : decode bc_mo_accumulate 231 = .ok (.aload_n 0, 1) := by decide +kernel
theorem d_mo_accumulate_232 : decode bc_mo_accumulate 232 = .ok (.iload 7, 2) := by decide +kernel
theorem d_mo_accumulate_234 : decode bc_mo_accumulate 234 = .ok (.iload 6, 2) := by decide +kernel
theorem d_mo_accumulate_236 : decode bc_mo_accumulate 236 = .ok (.ior, 1) := by decide +kernel
theorem d_mo_accumulate_237 : decode bc_mo_accumulate 237 = .ok (.iconst 0, 1) := by decide +kernel
theorem d_mo_accumulate_238 : decode bc_mo_accumulate 238 = .ok (.invokevirtual 105, 3) := by decide +kernel
theorem d_mo_accumulate_241 : decode bc_mo_accumulate 241 = .ok (.istore 7, 2) := by decide +kernel
theorem d_mo_accumulate_243 : decode bc_mo_accumulate 243 = .ok (.iload_n 3, 1) := by decide +kernel
theorem d_mo_accumulate_244 : decode bc_mo_accumulate 244 = .ok (.bipush 11, 2) := by decide +kernel
theorem d_mo_accumulate_246 : decode bc_mo_accumulate 246 = .ok (.if_icmp .ne 15, 3) := by decide +kernel
theorem d_mo_accumulate_249 : decode bc_mo_accumulate 249 = .ok (.aload_n 0, 1) := by decide +kernel
theorem d_mo_accumulate_250 : decode bc_mo_accumulate 250 = .ok (.iload 7, 2) := by decide +kernel
theorem d_mo_accumulate_252 : decode bc_mo_accumulate 252 = .ok (.iload 6, 2) := by decide +kernel
theorem d_mo_accumulate_254 : decode bc_mo_accumulate 254 = .ok (.iconst 0, 1) := by decide +kernel
theorem d_mo_accumulate_255 : decode bc_mo_accumulate 255 = .ok (.iconst 0, 1) := by decide +kernel
theorem d_mo_accumulate_256 : decode bc_mo_accumulate 256 = .ok (.invokevirtual 111, 3) := by decide +kernel
theorem d_mo_accumulate_259 : decode bc_mo_accumulate 259 = .ok (.istore 7, 2) := by decide +kernel
theorem d_mo_accumulate_261 : decode bc_mo_accumulate 261 = .ok (.iload_n 3, 1) := by decide +kernel
theorem d_mo_accumulate_262 : decode bc_mo_accumulate 262 = .ok (.iconst 1, 1) := by decide +kernel
theorem d_mo_accumulate_263 : decode bc_mo_accumulate 263 = .ok (.if_icmp .eq 16, 3) := by decide +kernel
theorem d_mo_accumulate_266 : decode bc_mo_accumulate 266 = .ok (.iload_n 3, 1) := by decide +kernel
theorem d_mo_accumulate_267 : decode bc_mo_accumulate 267 = .ok (.iconst 5, 1) := by decide +kernel
theorem d_mo_accumulate_268 : decode bc_mo_accumulate 268 = .ok (.if_icmp .eq 11, 3) := by decide +kernel
theorem d_mo_accumulate_271 : decode bc_mo_accumulate 271 = .ok (.aload_n 0, 1) := by decide +kernel
theorem d_mo_accumulate_272 : decode bc_mo_accumulate 272 = .ok (.getfield 13, 3) := by decide +kernel
theorem d_mo_accumulate_275 : decode bc_mo_accumulate 275 = .ok (.iload_n 2, 1) := by decide +kernel
theorem d_mo_accumulate_276 : decode bc_mo_accumulate 276 = .ok (.iload 7, 2) := by decide +kernel
theorem d_mo_accumulate_278 : decode bc_mo_accumulate 278 = .ok (.iastore, 1) := by decide +kernel
theorem d_mo_accumulate_279 : decode bc_mo_accumulate 279 = .ok (.return_, 1) := by decide +kernel
theorem d_mo_compare_0 : decode bc_mo_compare 0 = .ok (.aload_n 0, 1) := by decide +kernel
theorem d_mo_compare_1 : decode bc_mo_compare 1 = .ok (.iload_n 3, 1) := by decide +kernel
theorem d_mo_compare_2 : decode bc_mo_compare 2 = .ok (.invokevirtual 114, 3) := by decide +kernel
theorem d_mo_compare_5 : decode bc_mo_compare 5 = .ok (.istore 4, 2) := by decide +kernel
theorem d_mo_compare_7 : decode bc_mo_compare 7 = .ok (.aload_n 0, 1) := by decide +kernel
theorem d_mo_compare_8 : decode bc_mo_compare 8 = .ok (.getfield 56, 3) := by decide +kernel
theorem d_mo_compare_11 : decode bc_mo_compare 11 = .ok (.ifCond .eq 4, 3) := by decide +kernel
theorem d_mo_compare_14 : decode bc_mo_compare 14 = .ok (.return_, 1) := by decide +kernel
theorem d_mo_compare_15 : decode bc_mo_compare 15 = .ok (.aload_n 0, 1) := by decide +kernel
theorem d_mo_compare_16 : decode bc_mo_compare 16 = .ok (.iload_n 2, 1) := by decide +kernel
theorem d_mo_compare_17 : decode bc_mo_compare 17 = .ok (.ifCond .ge 7, 3) := by decide +kernel
theorem d_mo_compare_20 : decode bc_mo_compare 20 = .ok (.iload_n 1, 1) := by decide +kernel
theorem d_mo_compare_21 : decode bc_mo_compare 21 = .ok (.goto 9, 3) := by decide +kernel
theorem d_mo_compare_24 : decode bc_mo_compare 24 = .ok (.aload_n 0, 1) := by decide +kernel
theorem d_mo_compare_25 : decode bc_mo_compare 25 = .ok (.getfield 13, 3) := by decide +kernel
theorem d_mo_compare_28 : decode bc_mo_compare 28 = .ok (.iload_n 2, 1) := by decide +kernel
theorem d_mo_compare_29 : decode bc_mo_compare 29 = .ok (.iaload, 1) := by decide +kernel
theorem d_mo_compare_30 : decode bc_mo_compare 30 = .ok (.iload 4, 2) := by decide +kernel
theorem d_mo_compare_32 : decode bc_mo_compare 32 = .ok (.iconst 0, 1) := by decide +kernel
theorem d_mo_compare_33 : decode bc_mo_compare 33 = .ok (.iconst 1, 1) := by decide +kernel
theorem d_mo_compare_34 : decode bc_mo_compare 34 = .ok (.invokevirtual 97, 3) := by decide +kernel
theorem d_mo_compare_37 : decode bc_mo_compare 37 = .ok (.pop, 1) := by decide +kernel
theorem d_mo_compare_38 : decode bc_mo_compare 38 = .ok (.return_, 1) := by decide +kernel
theorem d_mo_loadWord_0 : decode bc_mo_loadWord 0 = .ok (.aload_n 0, 1) := by decide +kernel
theorem d_mo_loadWord_1 : decode bc_mo_loadWord 1 = .ok (.iload_n 2, 1) := by decide +kernel
theorem d_mo_loadWord_2 : decode bc_mo_loadWord 2 = .ok (.invokevirtual 114, 3) := by decide +kernel
theorem d_mo_loadWord_5 : decode bc_mo_loadWord 5 = .ok (.istore_n 3, 1) := by decide +kernel
theorem d_mo_loadWord_6 : decode bc_mo_loadWord 6 = .ok (.aload_n 0, 1) := by decide +kernel
theorem d_mo_loadWord_7 : decode bc_mo_loadWord 7 = .ok (.getfield 56, 3) := by decide +kernel
theorem d_mo_loadWord_10 : decode bc_mo_loadWord 10 = .ok (.ifCond .eq 4, 3) := by decide +kernel
theorem d_mo_loadWord_13 : decode bc_mo_loadWord 13 = .ok (.return_, 1) := by decide +kernel
theorem d_mo_loadWord_14 : decode bc_mo_loadWord 14 = .ok (.aload_n 0, 1) := by decide +kernel
theorem d_mo_loadWord_15 : decode bc_mo_loadWord 15 = .ok (.iload_n 3, 1) := by decide +kernel
theorem d_mo_loadWord_16 : decode bc_mo_loadWord 16 = .ok (.iconst 1, 1) := by decide +kernel
theorem d_mo_loadWord_17 : decode bc_mo_loadWord 17 = .ok (.invokevirtual 105, 3) := by decide +kernel
theorem d_mo_loadWord_20 : decode bc_mo_loadWord 20 = .ok (.pop, 1) := by decide +kernel
theorem d_mo_loadWord_21 : decode bc_mo_loadWord 21 = .ok (.iload_n 1, 1) := by decide +kernel
theorem d_mo_loadWord_22 : decode bc_mo_loadWord 22 = .ok (.ifCond .ge 11, 3) := by decide +kernel
theorem d_mo_loadWord_25 : decode bc_mo_loadWord 25 = .ok (.aload_n 0, 1) := by decide +kernel
theorem d_mo_loadWord_26 : decode bc_mo_loadWord 26 = .ok (.iload_n 3, 1) := by decide +kernel
theorem d_mo_loadWord_27 : decode bc_mo_loadWord 27 = .ok (.invokevirtual 117, 3) := by decide +kernel
theorem d_mo_loadWord_30 : decode bc_mo_loadWord 30 = .ok (.goto 10, 3) := by decide +kernel
theorem d_mo_loadWord_33 : decode bc_mo_loadWord 33 = .ok (.aload_n 0, 1) := by decide +kernel
theorem d_mo_loadWord_34 : decode bc_mo_loadWord 34 = .ok (.getfield 13, 3) := by decide +kernel
theorem d_mo_loadWord_37 : decode bc_mo_loadWord 37 = .ok (.iload_n 1, 1) := by decide +kernel
theorem d_mo_loadWord_38 : decode bc_mo_loadWord 38 = .ok (.iload_n 3, 1) := by decide +kernel
theorem d_mo_loadWord_39 : decode bc_mo_loadWord 39 = .ok (.iastore, 1) := by decide +kernel
theorem d_mo_loadWord_40 : decode bc_mo_loadWord 40 = .ok (.aload_n 0, 1) := by decide +kernel
theorem d_mo_loadWord_41 : decode bc_mo_loadWord 41 = .ok (.aload_n 0, 1) := by decide +kernel
theorem d_mo_loadWord_42 : decode bc_mo_loadWord 42 = .ok (.getfield 90, 3) := by decide +kernel
theorem d_mo_loadWord_45 : decode bc_mo_loadWord 45 = .ok (.ifCond .ne 8, 3) := by decide +kernel
theorem d_mo_loadWord_48 : decode bc_mo_loadWord 48 = .ok (.iload_n 1, 1) := by decide +kernel
theorem d_mo_loadWord_49 : decode bc_mo_loadWord 49 = .ok (.iconst 5, 1) := by decide +kernel
theorem d_mo_loadWord_50 : decode bc_mo_loadWord 50 = .ok (.if_icmp .ne 7, 3) := by decide +kernel
theorem d_mo_loadWord_53 : decode bc_mo_loadWord 53 = .ok (.iconst 1, 1) := by decide +kernel
theorem d_mo_loadWord_54 : decode bc_mo_loadWord 54 = .ok (.goto 4, 3) := by decide +kernel
theorem d_mo_loadWord_57 : decode bc_mo_loadWord 57 = .ok (.iconst 0, 1) := by decide +kernel
theorem d_mo_loadWord_58 : decode bc_mo_loadWord 58 = .ok (.putfield 90, 3) := by decide +kernel
theorem d_mo_loadWord_61 : decode bc_mo_loadWord 61 = .ok (.return_, 1) := by decide +kernel
theorem d_mo_storeWord_0 : decode bc_mo_storeWord 0 = .ok (.aload_n 0, 1) := by decide +kernel
theorem d_mo_storeWord_1 : decode bc_mo_storeWord 1 = .ok (.iload_n 2, 1) := by decide +kernel
theorem d_mo_storeWord_2 : decode bc_mo_storeWord 2 = .ok (.ifCond .ne 7, 3) := by decide +kernel
theorem d_mo_storeWord_5 : decode bc_mo_storeWord 5 = .ok (.iconst 1, 1) := by decide +kernel
theorem d_mo_storeWord_6 : decode bc_mo_storeWord 6 = .ok (.goto 4, 3) := by decide +kernel
theorem d_mo_storeWord_9 : decode bc_mo_storeWord 9 = .ok (.iconst 0, 1) := by decide +kernel
theorem d_mo_storeWord_10 : decode bc_mo_storeWord 10 = .ok (.putfield 56, 3) := by decide +kernel
theorem d_mo_storeWord_13 : decode bc_mo_storeWord 13 = .ok (.aload_n 0, 1) := by decide +kernel
theorem d_mo_storeWord_14 : decode bc_mo_storeWord 14 = .ok (.getfield 56, 3) := by decide +kernel
theorem d_mo_storeWord_17 : decode bc_mo_storeWord 17 = .ok (.ifCond .eq 4, 3) := by decide +kernel
theorem d_mo_storeWord_20 : decode bc_mo_storeWord 20 = .ok (.return_, 1) := by decide +kernel
theorem d_mo_storeWord_21 : decode bc_mo_storeWord 21 = .ok (.aload_n 0, 1) := by decide +kernel
theorem d_mo_storeWord_22 : decode bc_mo_storeWord 22 = .ok (.iload_n 2, 1) := by decide +kernel
theorem d_mo_storeWord_23 : decode bc_mo_storeWord 23 = .ok (.invokevirtual 75, 3) := by decide +kernel
theorem d_mo_storeWord_26 : decode bc_mo_storeWord 26 = .ok (.istore_n 3, 1) := by decide +kernel
theorem d_mo_storeWord_27 : decode bc_mo_storeWord 27 = .ok (.aload_n 0, 1) := by decide +kernel
theorem d_mo_storeWord_28 : decode bc_mo_storeWord 28 = .ok (.getfield 56, 3) := by decide +kernel
theorem d_mo_storeWord_31 : decode bc_mo_storeWord 31 = .ok (.ifCond .eq 4, 3) := by decide +kernel
theorem d_mo_storeWord_34 : decode bc_mo_storeWord 34 = .ok (.return_, 1) := by decide +kernel
theorem d_mo_storeWord_35 : decode bc_mo_storeWord 35 = .ok (.iload_n 1, 1) := by decide +kernel
theorem d_mo_storeWord_36 : decode bc_mo_storeWord 36 = .ok (.ifCond .ge 10, 3) := by decide +kernel
theorem d_mo_storeWord_39 : decode bc_mo_storeWord 39 = .ok (.aload_n 0, 1) := by decide +kernel
theorem d_mo_storeWord_40 : decode bc_mo_storeWord 40 = .ok (.invokevirtual 66, 3) := by decide +kernel
theorem d_mo_storeWord_43 : decode bc_mo_storeWord 43 = .ok (.goto 9, 3) := by decide +kernel
theorem d_mo_storeWord_46 : decode bc_mo_storeWord 46 = .ok (.aload_n 0, 1) := by decide +kernel
theorem d_mo_storeWord_47 : decode bc_mo_storeWord 47 = .ok (.getfield 13, 3) := by decide +kernel
theorem d_mo_storeWord_50 : decode bc_mo_storeWord 50 = .ok (.iload_n 1, 1) := by decide +kernel
theorem d_mo_storeWord_51 : decode bc_mo_storeWord 51 = .ok (.iaload, 1) := by decide +kernel
theorem d_mo_storeWord_52 : decode bc_mo_storeWord 52 = .ok (.istore 4, 2) := by decide +kernel
theorem d_mo_storeWord_54 : decode bc_mo_storeWord 54 = .ok (.aload_n 0, 1) := by decide +kernel
theorem d_mo_storeWord_55 : decode bc_mo_storeWord 55 = .ok (.iload 4, 2) := by decide +kernel
theorem d_mo_storeWord_57 : decode bc_mo_storeWord 57 = .ok (.iconst 1, 1) := by decide +kernel
theorem d_mo_storeWord_58 : decode bc_mo_storeWord 58 = .ok (.invokevirtual 105, 3) := by decide +kernel
theorem d_mo_storeWord_61 : decode bc_mo_storeWord 61 = .ok (.pop, 1) := by decide +kernel
theorem d_mo_storeWord_62 : decode bc_mo_storeWord 62 = .ok (.aload_n 0, 1) := by decide +kernel
theorem d_mo_storeWord_63 : decode bc_mo_storeWord 63 = .ok (.iload_n 3, 1) := by decide +kernel
theorem d_mo_storeWord_64 : decode bc_mo_storeWord 64 = .ok (.iload 4, 2) := by decide +kernel
theorem d_mo_storeWord_66 : decode bc_mo_storeWord 66 = .ok (.invokevirtual 121, 3) := by decide +kernel
theorem d_mo_storeWord_69 : decode bc_mo_storeWord 69 = .ok (.return_, 1) := by decide +kernel
theorem d_mo_addWord_0 : decode bc_mo_addWord 0 = .ok (.aload_n 0, 1) := by decide +kernel
theorem d_mo_addWord_1 : decode bc_mo_addWord 1 = .ok (.iload_n 1, 1) := by decide +kernel
theorem d_mo_addWord_2 : decode bc_mo_addWord 2 = .ok (.invokevirtual 114, 3) := by decide +kernel
theorem d_mo_addWord_5 : decode bc_mo_addWord 5 = .ok (.istore_n 3, 1) := by decide +kernel
theorem d_mo_addWord_6 : decode bc_mo_addWord 6 = .ok (.aload_n 0, 1) := by decide +kernel
theorem d_mo_addWord_7 : decode bc_mo_addWord 7 = .ok (.getfield 56, 3) := by decide +kernel
theorem d_mo_addWord_10 : decode bc_mo_addWord 10 = .ok (.ifCond .eq 4, 3) := by decide +kernel
theorem d_mo_addWord_13 : decode bc_mo_addWord 13 = .ok (.return_, 1) := by decide +kernel
theorem d_mo_addWord_14 : decode bc_mo_addWord 14 = .ok (.iload_n 2, 1) := by decide +kernel
theorem d_mo_addWord_15 : decode bc_mo_addWord 15 = .ok (.ifCond .eq 17, 3) := by decide +kernel
theorem d_mo_addWord_18 : decode bc_mo_addWord 18 = .ok (.aload_n 0, 1) := by decide +kernel
theorem d_mo_addWord_19 : decode bc_mo_addWord 19 = .ok (.aload_n 0, 1) := by decide +kernel
theorem d_mo_addWord_20 : decode bc_mo_addWord 20 = .ok (.invokevirtual 66, 3) := by decide +kernel
theorem d_mo_addWord_23 : decode bc_mo_addWord 23 = .ok (.iload_n 3, 1) := by decide +kernel
theorem d_mo_addWord_24 : decode bc_mo_addWord 24 = .ok (.iconst 0, 1) := by decide +kernel
theorem d_mo_addWord_25 : decode bc_mo_addWord 25 = .ok (.iconst 1, 1) := by decide +kernel
theorem d_mo_addWord_26 : decode bc_mo_addWord 26 = .ok (.invokevirtual 97, 3) := by decide +kernel
theorem d_mo_addWord_29 : decode bc_mo_addWord 29 = .ok (.goto 14, 3) := by decide +kernel
theorem d_mo_addWord_32 : decode bc_mo_addWord 32 = .ok (.aload_n 0, 1) := by decide +kernel
theorem d_mo_addWord_33 : decode bc_mo_addWord 33 = .ok (.aload_n 0, 1) := by decide +kernel
theorem d_mo_addWord_34 : decode bc_mo_addWord 34 = .ok (.invokevirtual 66, 3) := by decide +kernel
theorem d_mo_addWord_37 : decode bc_mo_addWord 37 = .ok (.iload_n 3, 1) := by decide +kernel
theorem d_mo_addWord_38 : decode bc_mo_addWord 38 = .ok (.iconst 0, 1) := by decide +kernel
theorem d_mo_addWord_39 : decode bc_mo_addWord 39 = .ok (.iconst 1, 1) := by decide +kernel
theorem d_mo_addWord_40 : decode bc_mo_addWord 40 = .ok (.invokevirtual 111, 3) := by decide +kernel
theorem d_mo_addWord_43 : decode bc_mo_addWord 43 = .ok (.istore 4, 2) := by decide +kernel
theorem d_mo_addWord_45 : decode bc_mo_addWord 45 = .ok (.aload_n 0, 1) := by decide +kernel
theorem d_mo_addWord_46 : decode bc_mo_addWord 46 = .ok (.iload 4, 2) := by decide +kernel
theorem d_mo_addWord_48 : decode bc_mo_addWord 48 = .ok (.invokevirtual 117, 3) := by decide +kernel
theorem d_mo_addWord_51 : decode bc_mo_addWord 51 = .ok (.return_, 1) := by decide +kernel
theorem d_mo_call_0 : decode bc_mo_call 0 = .ok (.iconst 0, 1) := by decide +kernel
theorem d_mo_call_1 : decode bc_mo_call 1 = .ok (.istore_n 2, 1) := by decide +kernel
theorem d_mo_call_2 : decode bc_mo_call 2 = .ok (.iload_n 1, 1) := by decide +kernel
theorem d_mo_call_3 : decode bc_mo_call 3 = .ok (.ifCond .ne 27, 3) := by decide +kernel
theorem d_mo_call_6 : decode bc_mo_call 6 = .ok (.aload_n 0, 1) := by decide +kernel
theorem d_mo_call_7 : decode bc_mo_call 7 = .ok (.invokevirtual 31, 3) := by decide +kernel
theorem d_mo_call_10 : decode bc_mo_call 10 = .ok (.invokestatic 60, 3) := by decide +kernel
theorem d_mo_call_13 : decode bc_mo_call 13 = .ok (.istore_n 3, 1) := by decide +kernel
theorem d_mo_call_14 : decode bc_mo_call 14 = .ok (.aload_n 0, 1) := by decide +kernel
theorem d_mo_call_15 : decode bc_mo_call 15 = .ok (.getfield 13, 3) := by decide +kernel
theorem d_mo_call_18 : decode bc_mo_call 18 = .ok (.bipush 6, 2) := by decide +kernel
theorem d_mo_call_20 : decode bc_mo_call 20 = .ok (.iaload, 1) := by decide +kernel
theorem d_mo_call_21 : decode bc_mo_call 21 = .ok (.iload_n 3, 1) := by decide +kernel
theorem d_mo_call_22 : decode bc_mo_call 22 = .ok (.iadd, 1) := by decide +kernel
theorem d_mo_call_23 : decode bc_mo_call 23 = .ok (.ldc 30, 2) := by decide +kernel
theorem d_mo_call_25 : decode bc_mo_call 25 = .ok (.iand, 1) := by decide +kernel
theorem d_mo_call_26 : decode bc_mo_call 26 = .ok (.istore_n 2, 1) := by decide +kernel
theorem d_mo_call_27 : decode bc_mo_call 27 = .ok (.goto 9, 3) := by decide +kernel
theorem d_mo_call_30 : decode bc_mo_call 30 = .ok (.aload_n 0, 1) := by decide +kernel
theorem d_mo_call_31 : decode bc_mo_call 31 = .ok (.iload_n 1, 1) := by decide +kernel
theorem d_mo_call_32 : decode bc_mo_call 32 = .ok (.invokevirtual 75, 3) := by decide +kernel
theorem d_mo_call_35 : decode bc_mo_call 35 = .ok (.istore_n 2, 1) := by decide +kernel
theorem d_mo_call_36 : decode bc_mo_call 36 = .ok (.aload_n 0, 1) := by decide +kernel
theorem d_mo_call_37 : decode bc_mo_call 37 = .ok (.getfield 56, 3) := by decide +kernel
theorem d_mo_call_40 : decode bc_mo_call 40 = .ok (.ifCond .eq 4, 3) := by decide +kernel
theorem d_mo_call_43 : decode bc_mo_call 43 = .ok (.return_, 1) := by decide +kernel
theorem d_mo_call_44 : decode bc_mo_call 44 = .ok (.aload_n 0, 1) := by decide +kernel
theorem d_mo_call_45 : decode bc_mo_call 45 = .ok (.iconst 5, 1) := by decide +kernel
theorem d_mo_call_46 : decode bc_mo_call 46 = .ok (.aload_n 0, 1) := by decide +kernel
theorem d_mo_call_47 : decode bc_mo_call 47 = .ok (.getfield 13, 3) := by decide +kernel
theorem d_mo_call_50 : decode bc_mo_call 50 = .ok (.bipush 6, 2) := by decide +kernel
theorem d_mo_call_52 : decode bc_mo_call 52 = .ok (.iaload, 1) := by decide +kernel
theorem d_mo_call_53 : decode bc_mo_call 53 = .ok (.invokevirtual 84, 3) := by decide +kernel
theorem d_mo_call_56 : decode bc_mo_call 56 = .ok (.aload_n 0, 1) := by decide +kernel
theorem d_mo_call_57 : decode bc_mo_call 57 = .ok (.getfield 13, 3) := by decide +kernel
theorem d_mo_call_60 : decode bc_mo_call 60 = .ok (.bipush 6, 2) := by decide +kernel
theorem d_mo_call_62 : decode bc_mo_call 62 = .ok (.iload_n 2, 1) := by decide +kernel
theorem d_mo_call_63 : decode bc_mo_call 63 = .ok (.iastore, 1) := by decide +kernel
theorem d_mo_call_64 : decode bc_mo_call 64 = .ok (.return_, 1) := by decide +kernel
theorem d_mo_upper_0 : decode bc_mo_upper 0 = .ok (.iload_n 1, 1) := by decide +kernel
theorem d_mo_upper_1 : decode bc_mo_upper 1 = .ok (.bipush 15, 2) := by decide +kernel
theorem d_mo_upper_3 : decode bc_mo_upper 3 = .ok (.iand, 1) := by decide +kernel
theorem d_mo_upper_4 : decode bc_mo_upper 4 = .ok (.istore_n 2, 1) := by decide +kernel
theorem d_mo_upper_5 : decode bc_mo_upper 5 = .ok (.iload_n 1, 1) := by decide +kernel
theorem d_mo_upper_6 : decode bc_mo_upper 6 = .ok (.iconst 4, 1) := by decide +kernel
theorem d_mo_upper_7 : decode bc_mo_upper 7 = .ok (.ishr, 1) := by decide +kernel
theorem d_mo_upper_8 : decode bc_mo_upper 8 = .ok (.iconst 3, 1) := by decide +kernel
theorem d_mo_upper_9 : decode bc_mo_upper 9 = .ok (.iand, 1) := by decide +kernel
theorem d_mo_upper_10 : decode bc_mo_upper 10 = .ok (.istore_n 3, 1) := by decide +kernel
theorem d_mo_upper_11 : decode bc_mo_upper 11 = .ok (.iload_n 1, 1) := by decide +kernel
theorem d_mo_upper_12 : decode bc_mo_upper 12 = .ok (.sipush 192, 3) := by decide +kernel
theorem d_mo_upper_15 : decode bc_mo_upper 15 = .ok (.if_icmp .lt 7, 3) := by decide +kernel
theorem d_mo_upper_18 : decode bc_mo_upper 18 = .ok (.iconst 1, 1) := by decide +kernel
theorem d_mo_upper_19 : decode bc_mo_upper 19 = .ok (.goto 4, 3) := by decide +kernel
theorem d_mo_upper_22 : decode bc_mo_upper 22 = .ok (.iconst 0, 1) := by decide +kernel
theorem d_mo_upper_23 : decode bc_mo_upper 23 = .ok (.istore 4, 2) := by decide +kernel
theorem d_mo_upper_25 : decode bc_mo_upper 25 = .ok (.iload_n 2, 1) := by decide +kernel
theorem d_mo_upper_26 : decode bc_mo_upper 26 = .ok (.bipush 12, 2) := by decide +kernel
theorem d_mo_upper_28 : decode bc_mo_upper 28 = .ok (.if_icmp .ge 23, 3) := by decide +kernel
theorem d_mo_upper_31 : decode bc_mo_upper 31 = .ok (.iload_n 2, 1) := by decide +kernel
theorem d_mo_upper_32 : decode bc_mo_upper 32 = .ok (.iconst 3, 1) := by decide +kernel
theorem d_mo_upper_33 : decode bc_mo_upper 33 = .ok (.if_icmp .eq 18, 3) := by decide +kernel
theorem d_mo_upper_36 : decode bc_mo_upper 36 = .ok (.aload_n 0, 1) := by decide +kernel
theorem d_mo_upper_37 : decode bc_mo_upper 37 = .ok (.iload_n 1, 1) := by decide +kernel
theorem d_mo_upper_38 : decode bc_mo_upper 38 = .ok (.iload 4, 2) := by decide +kernel
theorem d_mo_upper_40 : decode bc_mo_upper 40 = .ok (.ifCond .eq 7, 3) := by decide +kernel
theorem d_mo_upper_43 : decode bc_mo_upper 43 = .ok (.iconst 1, 1) := by decide +kernel
theorem d_mo_upper_44 : decode bc_mo_upper 44 = .ok (.goto 4, 3) := by decide +kernel
theorem d_mo_upper_47 : decode bc_mo_upper 47 = .ok (.iconst 0, 1) := by decide +kernel
theorem d_mo_upper_48 : decode bc_mo_upper 48 = .ok (.invokevirtual 124, 3) := by decide +kernel
theorem d_mo_upper_51 : decode bc_mo_upper 51 = .ok (.iload_n 2, 1) := by decide +kernel
theorem d_mo_upper_52 : decode bc_mo_upper 52 = .ok (.iconst 3, 1) := by decide +kernel
theorem d_mo_upper_53 : decode bc_mo_upper 53 = .ok (.if_icmp .ne 18, 3) := by decide +kernel
theorem d_mo_upper_56 : decode bc_mo_upper 56 = .ok (.aload_n 0, 1) := by decide +kernel
theorem d_mo_upper_57 : decode bc_mo_upper 57 = .ok (.iload_n 3, 1) := by decide +kernel
theorem d_mo_upper_58 : decode bc_mo_upper 58 = .ok (.iload 4, 2) := by decide +kernel
theorem d_mo_upper_60 : decode bc_mo_upper 60 = .ok (.ifCond .ne 7, 3) := by decide +kernel
theorem d_mo_upper_63 : decode bc_mo_upper 63 = .ok (.iconst 1, 1) := by decide +kernel
theorem d_mo_upper_64 : decode bc_mo_upper 64 = .ok (.goto 4, 3) := by decide +kernel
theorem d_mo_upper_67 : decode bc_mo_upper 67 = .ok (.iconst 0, 1) := by decide +kernel
theorem d_mo_upper_68 : decode bc_mo_upper 68 = .ok (.invokevirtual 127, 3) := by decide +kernel
theorem d_mo_upper_71 : decode bc_mo_upper 71 = .ok (.iload_n 2, 1) := by decide +kernel
theorem d_mo_upper_72 : decode bc_mo_upper 72 = .ok (.bipush 12, 2) := by decide +kernel
theorem d_mo_upper_74 : decode bc_mo_upper 74 = .ok (.if_icmp .ne 14, 3) := by decide +kernel
theorem d_mo_upper_77 : decode bc_mo_upper 77 = .ok (.iload 4, 2) := by decide +kernel
theorem d_mo_upper_79 : decode bc_mo_upper 79 = .ok (.ifCond .eq 9, 3) := by decide +kernel
theorem d_mo_upper_82 : decode bc_mo_upper 82 = .ok (.aload_n 0, 1) := by decide +kernel
theorem d_mo_upper_83 : decode bc_mo_upper 83 = .ok (.iconst (-1), 1) := by decide +kernel
theorem d_mo_upper_84 : decode bc_mo_upper 84 = .ok (.iload_n 3, 1) := by decide +kernel
theorem d_mo_upper_85 : decode bc_mo_upper 85 = .ok (.invokevirtual 130, 3) := by decide +kernel
theorem d_mo_upper_88 : decode bc_mo_upper 88 = .ok (.iload_n 2, 1) := by decide +kernel
theorem d_mo_upper_89 : decode bc_mo_upper 89 = .ok (.bipush 12, 2) := by decide +kernel
theorem d_mo_upper_91 : decode bc_mo_upper 91 = .ok (.if_icmp .ne 15, 3) := by decide +kernel
theorem d_mo_upper_94 : decode bc_mo_upper 94 = .ok (.iload 4, 2) := by decide +kernel
theorem d_mo_upper_96 : decode bc_mo_upper 96 = .ok (.ifCond .ne 10, 3) := by decide +kernel
theorem d_mo_upper_99 : decode bc_mo_upper 99 = .ok (.aload_n 0, 1) := by decide +kernel
theorem d_mo_upper_100 : decode bc_mo_upper 100 = .ok (.iconst 0, 1) := by decide +kernel
theorem d_mo_upper_101 : decode bc_mo_upper 101 = .ok (.iconst 2, 1) := by decide +kernel
theorem d_mo_upper_102 : decode bc_mo_upper 102 = .ok (.iload_n 3, 1) := by decide +kernel
theorem d_mo_upper_103 : decode bc_mo_upper 103 = .ok (.invokevirtual 133, 3) := by decide +kernel
theorem d_mo_upper_106 : decode bc_mo_upper 106 = .ok (.iload_n 2, 1) := by decide +kernel
theorem d_mo_upper_107 : decode bc_mo_upper 107 = .ok (.bipush 13, 2) := by decide +kernel
theorem d_mo_upper_109 : decode bc_mo_upper 109 = .ok (.if_icmp .ne 14, 3) := by decide +kernel
theorem d_mo_upper_112 : decode bc_mo_upper 112 = .ok (.iload 4, 2) := by decide +kernel
theorem d_mo_upper_114 : decode bc_mo_upper 114 = .ok (.ifCond .eq 9, 3) := by decide +kernel
theorem d_mo_upper_117 : decode bc_mo_upper 117 = .ok (.aload_n 0, 1) := by decide +kernel
theorem d_mo_upper_118 : decode bc_mo_upper 118 = .ok (.iconst (-1), 1) := by decide +kernel
theorem d_mo_upper_119 : decode bc_mo_upper 119 = .ok (.iload_n 3, 1) := by decide +kernel
theorem d_mo_upper_120 : decode bc_mo_upper 120 = .ok (.invokevirtual 137, 3) := by decide +kernel
theorem d_mo_upper_123 : decode bc_mo_upper 123 = .ok (.iload_n 2, 1) := by decide +kernel
theorem d_mo_upper_124 : decode bc_mo_upper 124 = .ok (.bipush 13, 2) := by decide +kernel
theorem d_mo_upper_126 : decode bc_mo_upper 126 = .ok (.if_icmp .ne 13, 3) := by decide +kernel
theorem d_mo_upper_129 : decode bc_mo_upper 129 = .ok (.iload 4, 2) := by decide +kernel
theorem d_mo_upper_131 : decode bc_mo_upper 131 = .ok (.ifCond .ne 8, 3) := by decide +kernel
theorem d_mo_upper_134 : decode bc_mo_upper 134 = .ok (.aload_n 0, 1) := by decide +kernel
theorem d_mo_upper_135 : decode bc_mo_upper 135 = .ok (.iload_n 3, 1) := by decide +kernel
theorem d_mo_upper_136 : decode bc_mo_upper 136 = .ok (.invokevirtual 140, 3) := by decide +kernel
theorem d_mo_upper_139 : decode bc_mo_upper 139 = .ok (.iload_n 2, 1) := by decide +kernel
theorem d_mo_upper_140 : decode bc_mo_upper 140 = .ok (.bipush 14, 2) := by decide +kernel
theorem d_mo_upper_142 : decode bc_mo_upper 142 = .ok (.if_icmp .ne 18, 3) := by decide +kernel
theorem d_mo_upper_145 : decode bc_mo_upper 145 = .ok (.aload_n 0, 1) := by decide +kernel
theorem d_mo_upper_146 : decode bc_mo_upper 146 = .ok (.iload 4, 2) := by decide +kernel
theorem d_mo_upper_148 : decode bc_mo_upper 148 = .ok (.ifCond .eq 7, 3) := by decide +kernel
theorem d_mo_upper_151 : decode bc_mo_upper 151 = .ok (.iconst 4, 1) := by decide +kernel
theorem d_mo_upper_152 : decode bc_mo_upper 152 = .ok (.goto 4, 3) := by decide +kernel
theorem d_mo_upper_155 : decode bc_mo_upper 155 = .ok (.iconst 2, 1) := by decide +kernel
theorem d_mo_upper_156 : decode bc_mo_upper 156 = .ok (.iload_n 3, 1) := by decide +kernel
theorem d_mo_upper_157 : decode bc_mo_upper 157 = .ok (.invokevirtual 130, 3) := by decide +kernel
theorem d_mo_upper_160 : decode bc_mo_upper 160 = .ok (.iload_n 2, 1) := by decide +kernel
theorem d_mo_upper_161 : decode bc_mo_upper 161 = .ok (.bipush 15, 2) := by decide +kernel
theorem d_mo_upper_163 : decode bc_mo_upper 163 = .ok (.if_icmp .ne 18, 3) := by decide +kernel
theorem d_mo_upper_166 : decode bc_mo_upper 166 = .ok (.aload_n 0, 1) := by decide +kernel
theorem d_mo_upper_167 : decode bc_mo_upper 167 = .ok (.iload 4, 2) := by decide +kernel
theorem d_mo_upper_169 : decode bc_mo_upper 169 = .ok (.ifCond .eq 7, 3) := by decide +kernel
theorem d_mo_upper_172 : decode bc_mo_upper 172 = .ok (.iconst 4, 1) := by decide +kernel
theorem d_mo_upper_173 : decode bc_mo_upper 173 = .ok (.goto 4, 3) := by decide +kernel
theorem d_mo_upper_176 : decode bc_mo_upper 176 = .ok (.iconst 2, 1) := by decide +kernel
theorem d_mo_upper_177 : decode bc_mo_upper 177 = .ok (.iload_n 3, 1) := by decide +kernel
theorem d_mo_upper_178 : decode bc_mo_upper 178 = .ok (.invokevirtual 137, 3) := by decide +kernel
theorem d_mo_upper_181 : decode bc_mo_upper 181 = .ok (.return_, 1) := by decide +kernel
theorem d_mo_holds_0 : decode bc_mo_holds 0 = .ok (.aload_n 0, 1) := by decide +kernel
theorem d_mo_holds_1 : decode bc_mo_holds 1 = .ok (.bipush 8, 2) := by decide +kernel
theorem d_mo_holds_3 : decode bc_mo_holds 3 = .ok (.invokevirtual 93, 3) := by decide +kernel
theorem d_mo_holds_6 : decode bc_mo_holds 6 = .ok (.aload_n 0, 1) := by decide +kernel
theorem d_mo_holds_7 : decode bc_mo_holds 7 = .ok (.iconst 2, 1) := by decide +kernel
theorem d_mo_holds_8 : decode bc_mo_holds 8 = .ok (.invokevirtual 93, 3) := by decide +kernel
theorem d_mo_holds_11 : decode bc_mo_holds 11 = .ok (.if_icmp .eq 7, 3) := by decide +kernel
theorem d_mo_holds_14 : decode bc_mo_holds 14 = .ok (.iconst 1, 1) := by decide +kernel
theorem d_mo_holds_15 : decode bc_mo_holds 15 = .ok (.goto 4, 3) := by decide +kernel
theorem d_mo_holds_18 : decode bc_mo_holds 18 = .ok (.iconst 0, 1) := by decide +kernel
theorem d_mo_holds_19 : decode bc_mo_holds 19 = .ok (.istore_n 2, 1) := by decide +kernel
theorem d_mo_holds_20 : decode bc_mo_holds 20 = .ok (.iload_n 1, 1) := by decide +kernel
theorem d_mo_holds_21 : decode bc_mo_holds 21 = .ok (.iconst 1, 1) := by decide +kernel
theorem d_mo_holds_22 : decode bc_mo_holds 22 = .ok (.ishr, 1) := by decide +kernel
theorem d_mo_holds_23 : decode bc_mo_holds 23 = .ok (.istore_n 3, 1) := by decide +kernel
theorem d_mo_holds_24 : decode bc_mo_holds 24 = .ok (.iload_n 3, 1) := by decide +kernel
theorem d_mo_holds_25 : decode bc_mo_holds 25 = .ok (.ifCond .ne 7, 3) := by decide +kernel
theorem d_mo_holds_28 : decode bc_mo_holds 28 = .ok (.iconst 0, 1) := by decide +kernel
theorem d_mo_holds_29 : decode bc_mo_holds 29 = .ok (.goto 112, 3) := by decide +kernel
theorem d_mo_holds_32 : decode bc_mo_holds 32 = .ok (.iload_n 3, 1) := by decide +kernel
theorem d_mo_holds_33 : decode bc_mo_holds 33 = .ok (.iconst 1, 1) := by decide +kernel
theorem d_mo_holds_34 : decode bc_mo_holds 34 = .ok (.if_icmp .ne 27, 3) := by decide +kernel
theorem d_mo_holds_37 : decode bc_mo_holds 37 = .ok (.aload_n 0, 1) := by decide +kernel
theorem d_mo_holds_38 : decode bc_mo_holds 38 = .ok (.iconst 1, 1) := by decide +kernel
theorem d_mo_holds_39 : decode bc_mo_holds 39 = .ok (.invokevirtual 93, 3) := by decide +kernel
theorem d_mo_holds_42 : decode bc_mo_holds 42 = .ok (.ifCond .ne 11, 3) := by decide +kernel
theorem d_mo_holds_45 : decode bc_mo_holds 45 = .ok (.aload_n 0, 1) := by decide +kernel
theorem d_mo_holds_46 : decode bc_mo_holds 46 = .ok (.iconst 4, 1) := by decide +kernel
theorem d_mo_holds_47 : decode bc_mo_holds 47 = .ok (.invokevirtual 93, 3) := by decide +kernel
theorem d_mo_holds_50 : decode bc_mo_holds 50 = .ok (.ifCond .eq 7, 3) := by decide +kernel
theorem d_mo_holds_53 : decode bc_mo_holds 53 = .ok (.iconst 1, 1) := by decide +kernel
theorem d_mo_holds_54 : decode bc_mo_holds 54 = .ok (.goto 87, 3) := by decide +kernel
theorem d_mo_holds_57 : decode bc_mo_holds 57 = .ok (.iconst 0, 1) := by decide +kernel
theorem d_mo_holds_58 : decode bc_mo_holds 58 = .ok (.goto 83, 3) := by decide +kernel
theorem d_mo_holds_61 : decode bc_mo_holds 61 = .ok (.iload_n 3, 1) := by decide +kernel
theorem d_mo_holds_62 : decode bc_mo_holds 62 = .ok (.iconst 2, 1) := by decide +kernel
theorem d_mo_holds_63 : decode bc_mo_holds 63 = .ok (.if_icmp .ne 11, 3) := by decide +kernel
theorem d_mo_holds_66 : decode bc_mo_holds 66 = .ok (.aload_n 0, 1) := by decide +kernel
theorem d_mo_holds_67 : decode bc_mo_holds 67 = .ok (.iconst 1, 1) := by decide +kernel
theorem d_mo_holds_68 : decode bc_mo_holds 68 = .ok (.invokevirtual 93, 3) := by decide +kernel
theorem d_mo_holds_71 : decode bc_mo_holds 71 = .ok (.goto 70, 3) := by decide +kernel
theorem d_mo_holds_74 : decode bc_mo_holds 74 = .ok (.iload_n 3, 1) := by decide +kernel
theorem d_mo_holds_75 : decode bc_mo_holds 75 = .ok (.iconst 3, 1) := by decide +kernel
theorem d_mo_holds_76 : decode bc_mo_holds 76 = .ok (.if_icmp .ne 11, 3) := by decide +kernel
theorem d_mo_holds_79 : decode bc_mo_holds 79 = .ok (.aload_n 0, 1) := by decide +kernel
theorem d_mo_holds_80 : decode bc_mo_holds 80 = .ok (.iconst 4, 1) := by decide +kernel
theorem d_mo_holds_81 : decode bc_mo_holds 81 = .ok (.invokevirtual 93, 3) := by decide +kernel
theorem d_mo_holds_84 : decode bc_mo_holds 84 = .ok (.goto 57, 3) := by decide +kernel
theorem d_mo_holds_87 : decode bc_mo_holds 87 = .ok (.iload_n 3, 1) := by decide +kernel
theorem d_mo_holds_88 : decode bc_mo_holds 88 = .ok (.iconst 4, 1) := by decide +kernel
theorem d_mo_holds_89 : decode bc_mo_holds 89 = .ok (.if_icmp .ne 11, 3) := by decide +kernel
theorem d_mo_holds_92 : decode bc_mo_holds 92 = .ok (.aload_n 0, 1) := by decide +kernel
theorem d_mo_holds_93 : decode bc_mo_holds 93 = .ok (.iconst 2, 1) := by decide +kernel
theorem d_mo_holds_94 : decode bc_mo_holds 94 = .ok (.invokevirtual 93, 3) := by decide +kernel
theorem d_mo_holds_97 : decode bc_mo_holds 97 = .ok (.goto 44, 3) := by decide +kernel
theorem d_mo_holds_100 : decode bc_mo_holds 100 = .ok (.iload_n 3, 1) := by decide +kernel
theorem d_mo_holds_101 : decode bc_mo_holds 101 = .ok (.iconst 5, 1) := by decide +kernel
theorem d_mo_holds_102 : decode bc_mo_holds 102 = .ok (.if_icmp .ne 12, 3) := by decide +kernel
theorem d_mo_holds_105 : decode bc_mo_holds 105 = .ok (.aload_n 0, 1) := by decide +kernel
theorem d_mo_holds_106 : decode bc_mo_holds 106 = .ok (.bipush 8, 2) := by decide +kernel
theorem d_mo_holds_108 : decode bc_mo_holds 108 = .ok (.invokevirtual 93, 3) := by decide +kernel
theorem d_mo_holds_111 : decode bc_mo_holds 111 = .ok (.goto 30, 3) := by decide +kernel
theorem d_mo_holds_114 : decode bc_mo_holds 114 = .ok (.iload_n 3, 1) := by decide +kernel
theorem d_mo_holds_115 : decode bc_mo_holds 115 = .ok (.bipush 6, 2) := by decide +kernel
theorem d_mo_holds_117 : decode bc_mo_holds 117 = .ok (.if_icmp .ne 7, 3) := by decide +kernel
theorem d_mo_holds_120 : decode bc_mo_holds 120 = .ok (.iload_n 2, 1) := by decide +kernel
theorem d_mo_holds_121 : decode bc_mo_holds 121 = .ok (.goto 20, 3) := by decide +kernel
theorem d_mo_holds_124 : decode bc_mo_holds 124 = .ok (.aload_n 0, 1) := by decide +kernel
theorem d_mo_holds_125 : decode bc_mo_holds 125 = .ok (.iconst 4, 1) := by decide +kernel
theorem d_mo_holds_126 : decode bc_mo_holds 126 = .ok (.invokevirtual 93, 3) := by decide +kernel
theorem d_mo_holds_129 : decode bc_mo_holds 129 = .ok (.ifCond .ne 7, 3) := by decide +kernel
theorem d_mo_holds_132 : decode bc_mo_holds 132 = .ok (.iload_n 2, 1) := by decide +kernel
theorem d_mo_holds_133 : decode bc_mo_holds 133 = .ok (.ifCond .eq 7, 3) := by decide +kernel
theorem d_mo_holds_136 : decode bc_mo_holds 136 = .ok (.iconst 1, 1) := by decide +kernel
theorem d_mo_holds_137 : decode bc_mo_holds 137 = .ok (.goto 4, 3) := by decide +kernel
theorem d_mo_holds_140 : decode bc_mo_holds 140 = .ok (.iconst 0, 1) := by decide +kernel
theorem d_mo_holds_141 : decode bc_mo_holds 141 = .ok (.istore 4, 2) := by decide +kernel
theorem d_mo_holds_143 : decode bc_mo_holds 143 = .ok (.iload 4, 2) := by decide +kernel
theorem d_mo_holds_145 : decode bc_mo_holds 145 = .ok (.iload_n 1, 1) := by decide +kernel
theorem d_mo_holds_146 : decode bc_mo_holds 146 = .ok (.iconst 1, 1) := by decide +kernel
theorem d_mo_holds_147 : decode bc_mo_holds 147 = .ok (.iand, 1) := by decide +kernel
theorem d_mo_holds_148 : decode bc_mo_holds 148 = .ok (.iconst 1, 1) := by decide +kernel
theorem d_mo_holds_149 : decode bc_mo_holds 149 = .ok (.if_icmp .ne 7, 3) := by decide +kernel
theorem d_mo_holds_152 : decode bc_mo_holds 152 = .ok (.iconst 1, 1) := by decide +kernel
theorem d_mo_holds_153 : decode bc_mo_holds 153 = .ok (.goto 4, 3) := by decide +kernel
theorem d_mo_holds_156 : decode bc_mo_holds 156 = .ok (.iconst 0, 1) := by decide +kernel
theorem d_mo_holds_157 : decode bc_mo_holds 157 = .ok (.if_icmp .ne 7, 3) := by decide +kernel
theorem d_mo_holds_160 : decode bc_mo_holds 160 = .ok (.iconst 1, 1) := by decide +kernel
theorem d_mo_holds_161 : decode bc_mo_holds 161 = .ok (.goto 4, 3) := by decide +kernel
theorem d_mo_holds_164 : decode bc_mo_holds 164 = .ok (.iconst 0, 1) := by decide +kernel
theorem d_mo_holds_165 : decode bc_mo_holds 165 = .ok (.ireturn, 1) := by decide +kernel
theorem d_mo_branch_0 : decode bc_mo_branch 0 = .ok (.iload_n 2, 1) := by decide +kernel
theorem d_mo_branch_1 : decode bc_mo_branch 1 = .ok (.ifCond .eq 10, 3) := by decide +kernel
theorem d_mo_branch_4 : decode bc_mo_branch 4 = .ok (.aload_n 0, 1) := by decide +kernel
theorem d_mo_branch_5 : decode bc_mo_branch 5 = .ok (.invokevirtual 63, 3) := by decide +kernel
theorem d_mo_branch_8 : decode bc_mo_branch 8 = .ok (.goto 10, 3) := by decide +kernel
theorem d_mo_branch_11 : decode bc_mo_branch 11 = .ok (.aload_n 0, 1) := by decide +kernel
theorem d_mo_branch_12 : decode bc_mo_branch 12 = .ok (.invokevirtual 31, 3) := by decide +kernel
theorem d_mo_branch_15 : decode bc_mo_branch 15 = .ok (.invokestatic 60, 3) := by decide +kernel
theorem d_mo_branch_18 : decode bc_mo_branch 18 = .ok (.istore_n 3, 1) := by decide +kernel
theorem d_mo_branch_19 : decode bc_mo_branch 19 = .ok (.iload_n 1, 1) := by decide +kernel
theorem d_mo_branch_20 : decode bc_mo_branch 20 = .ok (.ifCond .eq 16, 3) := by decide +kernel
theorem d_mo_branch_23 : decode bc_mo_branch 23 = .ok (.iload_n 1, 1) := by decide +kernel
theorem d_mo_branch_24 : decode bc_mo_branch 24 = .ok (.iconst 1, 1) := by decide +kernel
theorem d_mo_branch_25 : decode bc_mo_branch 25 = .ok (.if_icmp .le 30, 3) := by decide +kernel
theorem d_mo_branch_28 : decode bc_mo_branch 28 = .ok (.aload_n 0, 1) := by decide +kernel
theorem d_mo_branch_29 : decode bc_mo_branch 29 = .ok (.iload_n 1, 1) := by decide +kernel
theorem d_mo_branch_30 : decode bc_mo_branch 30 = .ok (.invokevirtual 143, 3) := by decide +kernel
theorem d_mo_branch_33 : decode bc_mo_branch 33 = .ok (.ifCond .eq 22, 3) := by decide +kernel
theorem d_mo_branch_36 : decode bc_mo_branch 36 = .ok (.aload_n 0, 1) := by decide +kernel
theorem d_mo_branch_37 : decode bc_mo_branch 37 = .ok (.getfield 13, 3) := by decide +kernel
theorem d_mo_branch_40 : decode bc_mo_branch 40 = .ok (.bipush 6, 2) := by decide +kernel
theorem d_mo_branch_42 : decode bc_mo_branch 42 = .ok (.aload_n 0, 1) := by decide +kernel
theorem d_mo_branch_43 : decode bc_mo_branch 43 = .ok (.getfield 13, 3) := by decide +kernel
theorem d_mo_branch_46 : decode bc_mo_branch 46 = .ok (.bipush 6, 2) := by decide +kernel
theorem d_mo_branch_48 : decode bc_mo_branch 48 = .ok (.iaload, 1) := by decide +kernel
theorem d_mo_branch_49 : decode bc_mo_branch 49 = .ok (.iload_n 3, 1) := by decide +kernel
theorem d_mo_branch_50 : decode bc_mo_branch 50 = .ok (.iadd, 1) := by decide +kernel
theorem d_mo_branch_51 : decode bc_mo_branch 51 = .ok (.ldc 30, 2) := by decide +kernel
theorem d_mo_branch_53 : decode bc_mo_branch 53 = .ok (.iand, 1) := by decide +kernel
theorem d_mo_branch_54 : decode bc_mo_branch 54 = .ok (.iastore, 1) := by decide +kernel
theorem d_mo_branch_55 : decode bc_mo_branch 55 = .ok (.return_, 1) := by decide +kernel
theorem d_mo_adjust_0 : decode bc_mo_adjust 0 = .ok (.aload_n 0, 1) := by decide +kernel
theorem d_mo_adjust_1 : decode bc_mo_adjust 1 = .ok (.getfield 13, 3) := by decide +kernel
theorem d_mo_adjust_4 : decode bc_mo_adjust 4 = .ok (.iconst 0, 1) := by decide +kernel
theorem d_mo_adjust_5 : decode bc_mo_adjust 5 = .ok (.iaload, 1) := by decide +kernel
theorem d_mo_adjust_6 : decode bc_mo_adjust 6 = .ok (.bipush 15, 2) := by decide +kernel
theorem d_mo_adjust_8 : decode bc_mo_adjust 8 = .ok (.iand, 1) := by decide +kernel
theorem d_mo_adjust_9 : decode bc_mo_adjust 9 = .ok (.istore_n 1, 1) := by decide +kernel
theorem d_mo_adjust_10 : decode bc_mo_adjust 10 = .ok (.aload_n 0, 1) := by decide +kernel
theorem d_mo_adjust_11 : decode bc_mo_adjust 11 = .ok (.getfield 13, 3) := by decide +kernel
theorem d_mo_adjust_14 : decode bc_mo_adjust 14 = .ok (.iconst 0, 1) := by decide +kernel
theorem d_mo_adjust_15 : decode bc_mo_adjust 15 = .ok (.iaload, 1) := by decide +kernel
theorem d_mo_adjust_16 : decode bc_mo_adjust 16 = .ok (.iconst 4, 1) := by decide +kernel
theorem d_mo_adjust_17 : decode bc_mo_adjust 17 = .ok (.ishr, 1) := by decide +kernel
theorem d_mo_adjust_18 : decode bc_mo_adjust 18 = .ok (.istore_n 2, 1) := by decide +kernel
theorem d_mo_adjust_19 : decode bc_mo_adjust 19 = .ok (.aload_n 0, 1) := by decide +kernel
theorem d_mo_adjust_20 : decode bc_mo_adjust 20 = .ok (.bipush 32, 2) := by decide +kernel
theorem d_mo_adjust_22 : decode bc_mo_adjust 22 = .ok (.invokevirtual 93, 3) := by decide +kernel
theorem d_mo_adjust_25 : decode bc_mo_adjust 25 = .ok (.ifCond .ne 9, 3) := by decide +kernel
theorem d_mo_adjust_28 : decode bc_mo_adjust 28 = .ok (.iload_n 1, 1) := by decide +kernel
theorem d_mo_adjust_29 : decode bc_mo_adjust 29 = .ok (.bipush 9, 2) := by decide +kernel
theorem d_mo_adjust_31 : decode bc_mo_adjust 31 = .ok (.if_icmp .le 8, 3) := by decide +kernel
theorem d_mo_adjust_34 : decode bc_mo_adjust 34 = .ok (.bipush 6, 2) := by decide +kernel
theorem d_mo_adjust_36 : decode bc_mo_adjust 36 = .ok (.goto 4, 3) := by decide +kernel
theorem d_mo_adjust_39 : decode bc_mo_adjust 39 = .ok (.iconst 0, 1) := by decide +kernel
theorem d_mo_adjust_40 : decode bc_mo_adjust 40 = .ok (.istore_n 3, 1) := by decide +kernel
theorem d_mo_adjust_41 : decode bc_mo_adjust 41 = .ok (.aload_n 0, 1) := by decide +kernel
theorem d_mo_adjust_42 : decode bc_mo_adjust 42 = .ok (.iconst 1, 1) := by decide +kernel
theorem d_mo_adjust_43 : decode bc_mo_adjust 43 = .ok (.invokevirtual 93, 3) := by decide +kernel
