theorem d_tc_operateOnWord_58 : decode bc_tc_operateOnWord 58 = .ok (.iload 4, 2) := by decide +kernel
theorem d_tc_operateOnWord_60 : decode bc_tc_operateOnWord 60 = .ok (.invokevirtual 56, 3) := by decide +kernel
theorem d_tc_operateOnWord_63 : decode bc_tc_operateOnWord 63 = .ok (.ldc 234, 2) := by decide +kernel
theorem d_tc_operateOnWord_65 : decode bc_tc_operateOnWord 65 = .ok (.invokevirtual 223, 3) := by decide +kernel
theorem d_tc_operateOnWord_68 : decode bc_tc_operateOnWord 68 = .ok (.invokevirtual 203, 3) := by decide +kernel
theorem d_tc_operateOnWord_71 : decode bc_tc_operateOnWord 71 = .ok (.goto 130, 3) := by decide +kernel
theorem d_tc_operateOnWord_74 : decode bc_tc_operateOnWord 74 = .ok (.iload_n 2, 1) := by decide +kernel
theorem d_tc_operateOnWord_75 : decode bc_tc_operateOnWord 75 = .ok (.bipush 13, 2) := by decide +kernel
theorem d_tc_operateOnWord_77 : decode bc_tc_operateOnWord 77 = .ok (.if_icmp .lt 26, 3) := by decide +kernel
theorem d_tc_operateOnWord_80 : decode bc_tc_operateOnWord 80 = .ok (.aload_n 0, 1) := by decide +kernel
theorem d_tc_operateOnWord_81 : decode bc_tc_operateOnWord 81 = .ok (.getfield 10, 3) := by decide +kernel
theorem d_tc_operateOnWord_84 : decode bc_tc_operateOnWord 84 = .ok (.iload 4, 2) := by decide +kernel
theorem d_tc_operateOnWord_86 : decode bc_tc_operateOnWord 86 = .ok (.aload_n 0, 1) := by decide +kernel
theorem d_tc_operateOnWord_87 : decode bc_tc_operateOnWord 87 = .ok (.getfield 28, 3) := by decide +kernel
theorem d_tc_operateOnWord_90 : decode bc_tc_operateOnWord 90 = .ok (.iload 6, 2) := by decide +kernel
theorem d_tc_operateOnWord_92 : decode bc_tc_operateOnWord 92 = .ok (.ldc 234, 2) := by decide +kernel
theorem d_tc_operateOnWord_94 : decode bc_tc_operateOnWord 94 = .ok (.invokevirtual 223, 3) := by decide +kernel
theorem d_tc_operateOnWord_97 : decode bc_tc_operateOnWord 97 = .ok (.invokevirtual 235, 3) := by decide +kernel
theorem d_tc_operateOnWord_100 : decode bc_tc_operateOnWord 100 = .ok (.goto 101, 3) := by decide +kernel
theorem d_tc_operateOnWord_103 : decode bc_tc_operateOnWord 103 = .ok (.iload_n 2, 1) := by decide +kernel
theorem d_tc_operateOnWord_104 : decode bc_tc_operateOnWord 104 = .ok (.iconst 3, 1) := by decide +kernel
theorem d_tc_operateOnWord_105 : decode bc_tc_operateOnWord 105 = .ok (.if_icmp .ne 40, 3) := by decide +kernel
theorem d_tc_operateOnWord_108 : decode bc_tc_operateOnWord 108 = .ok (.iload_n 3, 1) := by decide +kernel
theorem d_tc_operateOnWord_109 : decode bc_tc_operateOnWord 109 = .ok (.ifCond .eq 36, 3) := by decide +kernel
theorem d_tc_operateOnWord_112 : decode bc_tc_operateOnWord 112 = .ok (.aload_n 0, 1) := by decide +kernel
theorem d_tc_operateOnWord_113 : decode bc_tc_operateOnWord 113 = .ok (.getfield 19, 3) := by decide +kernel
theorem d_tc_operateOnWord_116 : decode bc_tc_operateOnWord 116 = .ok (.bipush 9, 2) := by decide +kernel
theorem d_tc_operateOnWord_118 : decode bc_tc_operateOnWord 118 = .ok (.aload_n 0, 1) := by decide +kernel
theorem d_tc_operateOnWord_119 : decode bc_tc_operateOnWord 119 = .ok (.getfield 28, 3) := by decide +kernel
theorem d_tc_operateOnWord_122 : decode bc_tc_operateOnWord 122 = .ok (.iload 6, 2) := by decide +kernel
theorem d_tc_operateOnWord_124 : decode bc_tc_operateOnWord 124 = .ok (.aload_n 0, 1) := by decide +kernel
theorem d_tc_operateOnWord_125 : decode bc_tc_operateOnWord 125 = .ok (.getfield 10, 3) := by decide +kernel
theorem d_tc_operateOnWord_128 : decode bc_tc_operateOnWord 128 = .ok (.iload 4, 2) := by decide +kernel
theorem d_tc_operateOnWord_130 : decode bc_tc_operateOnWord 130 = .ok (.invokevirtual 56, 3) := by decide +kernel
theorem d_tc_operateOnWord_133 : decode bc_tc_operateOnWord 133 = .ok (.iconst 0, 1) := by decide +kernel
theorem d_tc_operateOnWord_134 : decode bc_tc_operateOnWord 134 = .ok (.ldc 234, 2) := by decide +kernel
theorem d_tc_operateOnWord_136 : decode bc_tc_operateOnWord 136 = .ok (.invokevirtual 238, 3) := by decide +kernel
theorem d_tc_operateOnWord_139 : decode bc_tc_operateOnWord 139 = .ok (.invokevirtual 36, 3) := by decide +kernel
theorem d_tc_operateOnWord_142 : decode bc_tc_operateOnWord 142 = .ok (.goto 59, 3) := by decide +kernel
theorem d_tc_operateOnWord_145 : decode bc_tc_operateOnWord 145 = .ok (.aload_n 0, 1) := by decide +kernel
theorem d_tc_operateOnWord_146 : decode bc_tc_operateOnWord 146 = .ok (.getfield 28, 3) := by decide +kernel
theorem d_tc_operateOnWord_149 : decode bc_tc_operateOnWord 149 = .ok (.iload 6, 2) := by decide +kernel
theorem d_tc_operateOnWord_151 : decode bc_tc_operateOnWord 151 = .ok (.aload_n 0, 1) := by decide +kernel
theorem d_tc_operateOnWord_152 : decode bc_tc_operateOnWord 152 = .ok (.getfield 10, 3) := by decide +kernel
theorem d_tc_operateOnWord_155 : decode bc_tc_operateOnWord 155 = .ok (.iload 4, 2) := by decide +kernel
theorem d_tc_operateOnWord_157 : decode bc_tc_operateOnWord 157 = .ok (.invokevirtual 56, 3) := by decide +kernel
theorem d_tc_operateOnWord_160 : decode bc_tc_operateOnWord 160 = .ok (.iconst 0, 1) := by decide +kernel
theorem d_tc_operateOnWord_161 : decode bc_tc_operateOnWord 161 = .ok (.ldc 234, 2) := by decide +kernel
theorem d_tc_operateOnWord_163 : decode bc_tc_operateOnWord 163 = .ok (.invokevirtual 242, 3) := by decide +kernel
theorem d_tc_operateOnWord_166 : decode bc_tc_operateOnWord 166 = .ok (.istore 8, 2) := by decide +kernel
theorem d_tc_operateOnWord_168 : decode bc_tc_operateOnWord 168 = .ok (.iload_n 1, 1) := by decide +kernel
theorem d_tc_operateOnWord_169 : decode bc_tc_operateOnWord 169 = .ok (.ifCond .ne 9, 3) := by decide +kernel
theorem d_tc_operateOnWord_172 : decode bc_tc_operateOnWord 172 = .ok (.iload_n 2, 1) := by decide +kernel
theorem d_tc_operateOnWord_173 : decode bc_tc_operateOnWord 173 = .ok (.bipush 12, 2) := by decide +kernel
theorem d_tc_operateOnWord_175 : decode bc_tc_operateOnWord 175 = .ok (.if_icmp .ne 7, 3) := by decide +kernel
theorem d_tc_operateOnWord_178 : decode bc_tc_operateOnWord 178 = .ok (.iconst 1, 1) := by decide +kernel
theorem d_tc_operateOnWord_179 : decode bc_tc_operateOnWord 179 = .ok (.goto 4, 3) := by decide +kernel
theorem d_tc_operateOnWord_182 : decode bc_tc_operateOnWord 182 = .ok (.iconst 0, 1) := by decide +kernel
theorem d_tc_operateOnWord_183 : decode bc_tc_operateOnWord 183 = .ok (.istore 9, 2) := by decide +kernel
theorem d_tc_operateOnWord_185 : decode bc_tc_operateOnWord 185 = .ok (.iload 9, 2) := by decide +kernel
theorem d_tc_operateOnWord_187 : decode bc_tc_operateOnWord 187 = .ok (.ifCond .ne 14, 3) := by decide +kernel
theorem d_tc_operateOnWord_190 : decode bc_tc_operateOnWord 190 = .ok (.aload_n 0, 1) := by decide +kernel
theorem d_tc_operateOnWord_191 : decode bc_tc_operateOnWord 191 = .ok (.getfield 19, 3) := by decide +kernel
theorem d_tc_operateOnWord_194 : decode bc_tc_operateOnWord 194 = .ok (.bipush 9, 2) := by decide +kernel
theorem d_tc_operateOnWord_196 : decode bc_tc_operateOnWord 196 = .ok (.iload 8, 2) := by decide +kernel
theorem d_tc_operateOnWord_198 : decode bc_tc_operateOnWord 198 = .ok (.invokevirtual 36, 3) := by decide +kernel
theorem d_tc_operateOnWord_201 : decode bc_tc_operateOnWord 201 = .ok (.return_, 1) := by decide +kernel
theorem d_tc_operateOnByte_0 : decode bc_tc_operateOnByte 0 = .ok (.aload_n 0, 1) := by decide +kernel
theorem d_tc_operateOnByte_1 : decode bc_tc_operateOnByte 1 = .ok (.getfield 19, 3) := by decide +kernel
theorem d_tc_operateOnByte_4 : decode bc_tc_operateOnByte 4 = .ok (.iload_n 2, 1) := by decide +kernel
theorem d_tc_operateOnByte_5 : decode bc_tc_operateOnByte 5 = .ok (.invokevirtual 82, 3) := by decide +kernel
theorem d_tc_operateOnByte_8 : decode bc_tc_operateOnByte 8 = .ok (.istore 4, 2) := by decide +kernel
theorem d_tc_operateOnByte_10 : decode bc_tc_operateOnByte 10 = .ok (.iload_n 1, 1) := by decide +kernel
theorem d_tc_operateOnByte_11 : decode bc_tc_operateOnByte 11 = .ok (.bipush 7, 2) := by decide +kernel
theorem d_tc_operateOnByte_13 : decode bc_tc_operateOnByte 13 = .ok (.if_icmp .ne 24, 3) := by decide +kernel
theorem d_tc_operateOnByte_16 : decode bc_tc_operateOnByte 16 = .ok (.aload_n 0, 1) := by decide +kernel
theorem d_tc_operateOnByte_17 : decode bc_tc_operateOnByte 17 = .ok (.getfield 10, 3) := by decide +kernel
theorem d_tc_operateOnByte_20 : decode bc_tc_operateOnByte 20 = .ok (.iload_n 3, 1) := by decide +kernel
theorem d_tc_operateOnByte_21 : decode bc_tc_operateOnByte 21 = .ok (.aload_n 0, 1) := by decide +kernel
theorem d_tc_operateOnByte_22 : decode bc_tc_operateOnByte 22 = .ok (.getfield 28, 3) := by decide +kernel
theorem d_tc_operateOnByte_25 : decode bc_tc_operateOnByte 25 = .ok (.iload 4, 2) := by decide +kernel
theorem d_tc_operateOnByte_27 : decode bc_tc_operateOnByte 27 = .ok (.sipush 128, 3) := by decide +kernel
theorem d_tc_operateOnByte_30 : decode bc_tc_operateOnByte 30 = .ok (.invokevirtual 223, 3) := by decide +kernel
theorem d_tc_operateOnByte_33 : decode bc_tc_operateOnByte 33 = .ok (.invokevirtual 64, 3) := by decide +kernel
theorem d_tc_operateOnByte_36 : decode bc_tc_operateOnByte 36 = .ok (.return_, 1) := by decide +kernel
theorem d_tc_operateOnByte_37 : decode bc_tc_operateOnByte 37 = .ok (.aload_n 0, 1) := by decide +kernel
theorem d_tc_operateOnByte_38 : decode bc_tc_operateOnByte 38 = .ok (.getfield 28, 3) := by decide +kernel
theorem d_tc_operateOnByte_41 : decode bc_tc_operateOnByte 41 = .ok (.iload_n 1, 1) := by decide +kernel
theorem d_tc_operateOnByte_42 : decode bc_tc_operateOnByte 42 = .ok (.iload 4, 2) := by decide +kernel
theorem d_tc_operateOnByte_44 : decode bc_tc_operateOnByte 44 = .ok (.aload_n 0, 1) := by decide +kernel
theorem d_tc_operateOnByte_45 : decode bc_tc_operateOnByte 45 = .ok (.getfield 10, 3) := by decide +kernel
theorem d_tc_operateOnByte_48 : decode bc_tc_operateOnByte 48 = .ok (.iload_n 3, 1) := by decide +kernel
theorem d_tc_operateOnByte_49 : decode bc_tc_operateOnByte 49 = .ok (.invokevirtual 67, 3) := by decide +kernel
theorem d_tc_operateOnByte_52 : decode bc_tc_operateOnByte 52 = .ok (.invokevirtual 226, 3) := by decide +kernel
theorem d_tc_operateOnByte_55 : decode bc_tc_operateOnByte 55 = .ok (.istore 5, 2) := by decide +kernel
theorem d_tc_operateOnByte_57 : decode bc_tc_operateOnByte 57 = .ok (.iload_n 1, 1) := by decide +kernel
theorem d_tc_operateOnByte_58 : decode bc_tc_operateOnByte 58 = .ok (.iconst 1, 1) := by decide +kernel
theorem d_tc_operateOnByte_59 : decode bc_tc_operateOnByte 59 = .ok (.if_icmp .eq 8, 3) := by decide +kernel
theorem d_tc_operateOnByte_62 : decode bc_tc_operateOnByte 62 = .ok (.iload_n 1, 1) := by decide +kernel
theorem d_tc_operateOnByte_63 : decode bc_tc_operateOnByte 63 = .ok (.iconst 5, 1) := by decide +kernel
theorem d_tc_operateOnByte_64 : decode bc_tc_operateOnByte 64 = .ok (.if_icmp .ne 7, 3) := by decide +kernel
theorem d_tc_operateOnByte_67 : decode bc_tc_operateOnByte 67 = .ok (.iconst 1, 1) := by decide +kernel
theorem d_tc_operateOnByte_68 : decode bc_tc_operateOnByte 68 = .ok (.goto 4, 3) := by decide +kernel
theorem d_tc_operateOnByte_71 : decode bc_tc_operateOnByte 71 = .ok (.iconst 0, 1) := by decide +kernel
theorem d_tc_operateOnByte_72 : decode bc_tc_operateOnByte 72 = .ok (.istore 6, 2) := by decide +kernel
theorem d_tc_operateOnByte_74 : decode bc_tc_operateOnByte 74 = .ok (.iload 6, 2) := by decide +kernel
theorem d_tc_operateOnByte_76 : decode bc_tc_operateOnByte 76 = .ok (.ifCond .ne 13, 3) := by decide +kernel
theorem d_tc_operateOnByte_79 : decode bc_tc_operateOnByte 79 = .ok (.aload_n 0, 1) := by decide +kernel
theorem d_tc_operateOnByte_80 : decode bc_tc_operateOnByte 80 = .ok (.getfield 19, 3) := by decide +kernel
theorem d_tc_operateOnByte_83 : decode bc_tc_operateOnByte 83 = .ok (.iload_n 2, 1) := by decide +kernel
theorem d_tc_operateOnByte_84 : decode bc_tc_operateOnByte 84 = .ok (.iload 5, 2) := by decide +kernel
theorem d_tc_operateOnByte_86 : decode bc_tc_operateOnByte 86 = .ok (.invokevirtual 36, 3) := by decide +kernel
theorem d_tc_operateOnByte_89 : decode bc_tc_operateOnByte 89 = .ok (.return_, 1) := by decide +kernel
theorem d_tc_executeUpperHalf_0 : decode bc_tc_executeUpperHalf 0 = .ok (.iload_n 1, 1) := by decide +kernel
theorem d_tc_executeUpperHalf_1 : decode bc_tc_executeUpperHalf 1 = .ok (.sipush 141, 3) := by decide +kernel
theorem d_tc_executeUpperHalf_4 : decode bc_tc_executeUpperHalf 4 = .ok (.if_icmp .ne 13, 3) := by decide +kernel
theorem d_tc_executeUpperHalf_7 : decode bc_tc_executeUpperHalf 7 = .ok (.aload_n 0, 1) := by decide +kernel
theorem d_tc_executeUpperHalf_8 : decode bc_tc_executeUpperHalf 8 = .ok (.aload_n 0, 1) := by decide +kernel
theorem d_tc_executeUpperHalf_9 : decode bc_tc_executeUpperHalf 9 = .ok (.invokevirtual 113, 3) := by decide +kernel
theorem d_tc_executeUpperHalf_12 : decode bc_tc_executeUpperHalf 12 = .ok (.i2b, 1) := by decide +kernel
theorem d_tc_executeUpperHalf_13 : decode bc_tc_executeUpperHalf 13 = .ok (.invokevirtual 164, 3) := by decide +kernel
theorem d_tc_executeUpperHalf_16 : decode bc_tc_executeUpperHalf 16 = .ok (.return_, 1) := by decide +kernel
theorem d_tc_executeUpperHalf_17 : decode bc_tc_executeUpperHalf 17 = .ok (.iload_n 1, 1) := by decide +kernel
theorem d_tc_executeUpperHalf_18 : decode bc_tc_executeUpperHalf 18 = .ok (.bipush 8, 2) := by decide +kernel
theorem d_tc_executeUpperHalf_20 : decode bc_tc_executeUpperHalf 20 = .ok (.ishr, 1) := by decide +kernel
theorem d_tc_executeUpperHalf_21 : decode bc_tc_executeUpperHalf 21 = .ok (.istore_n 2, 1) := by decide +kernel
theorem d_tc_executeUpperHalf_22 : decode bc_tc_executeUpperHalf 22 = .ok (.iload_n 1, 1) := by decide +kernel
theorem d_tc_executeUpperHalf_23 : decode bc_tc_executeUpperHalf 23 = .ok (.bipush 15, 2) := by decide +kernel
theorem d_tc_executeUpperHalf_25 : decode bc_tc_executeUpperHalf 25 = .ok (.iand, 1) := by decide +kernel
theorem d_tc_executeUpperHalf_26 : decode bc_tc_executeUpperHalf 26 = .ok (.istore_n 3, 1) := by decide +kernel
theorem d_tc_executeUpperHalf_27 : decode bc_tc_executeUpperHalf 27 = .ok (.iload_n 1, 1) := by decide +kernel
theorem d_tc_executeUpperHalf_28 : decode bc_tc_executeUpperHalf 28 = .ok (.bipush 64, 2) := by decide +kernel
theorem d_tc_executeUpperHalf_30 : decode bc_tc_executeUpperHalf 30 = .ok (.iand, 1) := by decide +kernel
theorem d_tc_executeUpperHalf_31 : decode bc_tc_executeUpperHalf 31 = .ok (.ifCond .eq 7, 3) := by decide +kernel
theorem d_tc_executeUpperHalf_34 : decode bc_tc_executeUpperHalf 34 = .ok (.iconst 1, 1) := by decide +kernel
theorem d_tc_executeUpperHalf_35 : decode bc_tc_executeUpperHalf 35 = .ok (.goto 4, 3) := by decide +kernel
theorem d_tc_executeUpperHalf_38 : decode bc_tc_executeUpperHalf 38 = .ok (.iconst 0, 1) := by decide +kernel
theorem d_tc_executeUpperHalf_39 : decode bc_tc_executeUpperHalf 39 = .ok (.istore 4, 2) := by decide +kernel
theorem d_tc_executeUpperHalf_41 : decode bc_tc_executeUpperHalf 41 = .ok (.iload_n 3, 1) := by decide +kernel
theorem d_tc_executeUpperHalf_42 : decode bc_tc_executeUpperHalf 42 = .ok (.iconst 3, 1) := by decide +kernel
theorem d_tc_executeUpperHalf_43 : decode bc_tc_executeUpperHalf 43 = .ok (.if_icmp .eq 9, 3) := by decide +kernel
theorem d_tc_executeUpperHalf_46 : decode bc_tc_executeUpperHalf 46 = .ok (.iload_n 3, 1) := by decide +kernel
theorem d_tc_executeUpperHalf_47 : decode bc_tc_executeUpperHalf 47 = .ok (.bipush 12, 2) := by decide +kernel
theorem d_tc_executeUpperHalf_49 : decode bc_tc_executeUpperHalf 49 = .ok (.if_icmp .lt 7, 3) := by decide +kernel
theorem d_tc_executeUpperHalf_52 : decode bc_tc_executeUpperHalf 52 = .ok (.iconst 1, 1) := by decide +kernel
theorem d_tc_executeUpperHalf_53 : decode bc_tc_executeUpperHalf 53 = .ok (.goto 4, 3) := by decide +kernel
theorem d_tc_executeUpperHalf_56 : decode bc_tc_executeUpperHalf 56 = .ok (.iconst 0, 1) := by decide +kernel
theorem d_tc_executeUpperHalf_57 : decode bc_tc_executeUpperHalf 57 = .ok (.istore 5, 2) := by decide +kernel
theorem d_tc_executeUpperHalf_59 : decode bc_tc_executeUpperHalf 59 = .ok (.aload_n 0, 1) := by decide +kernel
theorem d_tc_executeUpperHalf_60 : decode bc_tc_executeUpperHalf 60 = .ok (.iload_n 1, 1) := by decide +kernel
theorem d_tc_executeUpperHalf_61 : decode bc_tc_executeUpperHalf 61 = .ok (.iconst 4, 1) := by decide +kernel
theorem d_tc_executeUpperHalf_62 : decode bc_tc_executeUpperHalf 62 = .ok (.ishr, 1) := by decide +kernel
theorem d_tc_executeUpperHalf_63 : decode bc_tc_executeUpperHalf 63 = .ok (.iconst 3, 1) := by decide +kernel
theorem d_tc_executeUpperHalf_64 : decode bc_tc_executeUpperHalf 64 = .ok (.iand, 1) := by decide +kernel
theorem d_tc_executeUpperHalf_65 : decode bc_tc_executeUpperHalf 65 = .ok (.iload 5, 2) := by decide +kernel
theorem d_tc_executeUpperHalf_67 : decode bc_tc_executeUpperHalf 67 = .ok (.ifCond .eq 7, 3) := by decide +kernel
theorem d_tc_executeUpperHalf_70 : decode bc_tc_executeUpperHalf 70 = .ok (.iconst 2, 1) := by decide +kernel
theorem d_tc_executeUpperHalf_71 : decode bc_tc_executeUpperHalf 71 = .ok (.goto 4, 3) := by decide +kernel
theorem d_tc_executeUpperHalf_74 : decode bc_tc_executeUpperHalf 74 = .ok (.iconst 1, 1) := by decide +kernel
theorem d_tc_executeUpperHalf_75 : decode bc_tc_executeUpperHalf 75 = .ok (.invokevirtual 155, 3) := by decide +kernel
theorem d_tc_executeUpperHalf_78 : decode bc_tc_executeUpperHalf 78 = .ok (.istore 6, 2) := by decide +kernel
theorem d_tc_executeUpperHalf_80 : decode bc_tc_executeUpperHalf 80 = .ok (.iload_n 3, 1) := by decide +kernel
theorem d_tc_executeUpperHalf_81 : decode bc_tc_executeUpperHalf 81 = .ok (.bipush 13, 2) := by decide +kernel
theorem d_tc_executeUpperHalf_83 : decode bc_tc_executeUpperHalf 83 = .ok (.if_icmp .ne 17, 3) := by decide +kernel
theorem d_tc_executeUpperHalf_86 : decode bc_tc_executeUpperHalf 86 = .ok (.iload 4, 2) := by decide +kernel
theorem d_tc_executeUpperHalf_88 : decode bc_tc_executeUpperHalf 88 = .ok (.ifCond .ne 12, 3) := by decide +kernel
theorem d_tc_executeUpperHalf_91 : decode bc_tc_executeUpperHalf 91 = .ok (.aload_n 0, 1) := by decide +kernel
theorem d_tc_executeUpperHalf_92 : decode bc_tc_executeUpperHalf 92 = .ok (.iload 6, 2) := by decide +kernel
theorem d_tc_executeUpperHalf_94 : decode bc_tc_executeUpperHalf 94 = .ok (.invokevirtual 212, 3) := by decide +kernel
theorem d_tc_executeUpperHalf_97 : decode bc_tc_executeUpperHalf 97 = .ok (.goto 38, 3) := by decide +kernel
theorem d_tc_executeUpperHalf_100 : decode bc_tc_executeUpperHalf 100 = .ok (.iload 5, 2) := by decide +kernel
theorem d_tc_executeUpperHalf_102 : decode bc_tc_executeUpperHalf 102 = .ok (.ifCond .eq 16, 3) := by decide +kernel
theorem d_tc_executeUpperHalf_105 : decode bc_tc_executeUpperHalf 105 = .ok (.aload_n 0, 1) := by decide +kernel
theorem d_tc_executeUpperHalf_106 : decode bc_tc_executeUpperHalf 106 = .ok (.iload_n 2, 1) := by decide +kernel
theorem d_tc_executeUpperHalf_107 : decode bc_tc_executeUpperHalf 107 = .ok (.iload_n 3, 1) := by decide +kernel
theorem d_tc_executeUpperHalf_108 : decode bc_tc_executeUpperHalf 108 = .ok (.iload 4, 2) := by decide +kernel
theorem d_tc_executeUpperHalf_110 : decode bc_tc_executeUpperHalf 110 = .ok (.iload 6, 2) := by decide +kernel
theorem d_tc_executeUpperHalf_112 : decode bc_tc_executeUpperHalf 112 = .ok (.invokevirtual 215, 3) := by decide +kernel
theorem d_tc_executeUpperHalf_115 : decode bc_tc_executeUpperHalf 115 = .ok (.goto 20, 3) := by decide +kernel
theorem d_tc_executeUpperHalf_118 : decode bc_tc_executeUpperHalf 118 = .ok (.aload_n 0, 1) := by decide +kernel
theorem d_tc_executeUpperHalf_119 : decode bc_tc_executeUpperHalf 119 = .ok (.iload_n 3, 1) := by decide +kernel
theorem d_tc_executeUpperHalf_120 : decode bc_tc_executeUpperHalf 120 = .ok (.iload 4, 2) := by decide +kernel
theorem d_tc_executeUpperHalf_122 : decode bc_tc_executeUpperHalf 122 = .ok (.ifCond .eq 7, 3) := by decide +kernel
theorem d_tc_executeUpperHalf_125 : decode bc_tc_executeUpperHalf 125 = .ok (.iconst 1, 1) := by decide +kernel
theorem d_tc_executeUpperHalf_126 : decode bc_tc_executeUpperHalf 126 = .ok (.goto 4, 3) := by decide +kernel
theorem d_tc_executeUpperHalf_129 : decode bc_tc_executeUpperHalf 129 = .ok (.iconst 0, 1) := by decide +kernel
theorem d_tc_executeUpperHalf_130 : decode bc_tc_executeUpperHalf 130 = .ok (.iload 6, 2) := by decide +kernel
theorem d_tc_executeUpperHalf_132 : decode bc_tc_executeUpperHalf 132 = .ok (.invokevirtual 219, 3) := by decide +kernel
theorem d_tc_executeUpperHalf_135 : decode bc_tc_executeUpperHalf 135 = .ok (.return_, 1) := by decide +kernel
theorem d_tc_step_0 : decode bc_tc_step 0 = .ok (.aload_n 0, 1) := by decide +kernel
theorem d_tc_step_1 : decode bc_tc_step 1 = .ok (.invokevirtual 70, 3) := by decide +kernel
theorem d_tc_step_4 : decode bc_tc_step 4 = .ok (.istore_n 1, 1) := by decide +kernel
theorem d_tc_step_5 : decode bc_tc_step 5 = .ok (.iload_n 1, 1) := by decide +kernel
theorem d_tc_step_6 : decode bc_tc_step 6 = .ok (.iconst (-1), 1) := by decide +kernel
theorem d_tc_step_7 : decode bc_tc_step 7 = .ok (.if_icmp .eq 10, 3) := by decide +kernel
theorem d_tc_step_10 : decode bc_tc_step 10 = .ok (.aload_n 0, 1) := by decide +kernel
theorem d_tc_step_11 : decode bc_tc_step 11 = .ok (.iload_n 1, 1) := by decide +kernel
theorem d_tc_step_12 : decode bc_tc_step 12 = .ok (.invokevirtual 74, 3) := by decide +kernel
theorem d_tc_step_15 : decode bc_tc_step 15 = .ok (.iconst 0, 1) := by decide +kernel
theorem d_tc_step_16 : decode bc_tc_step 16 = .ok (.ireturn, 1) := by decide +kernel
theorem d_tc_step_17 : decode bc_tc_step 17 = .ok (.aload_n 0, 1) := by decide +kernel
theorem d_tc_step_18 : decode bc_tc_step 18 = .ok (.invokevirtual 78, 3) := by decide +kernel
theorem d_tc_step_21 : decode bc_tc_step 21 = .ok (.ifCond .eq 5, 3) := by decide +kernel
theorem d_tc_step_24 : decode bc_tc_step 24 = .ok (.iconst 1, 1) := by decide +kernel
theorem d_tc_step_25 : decode bc_tc_step 25 = .ok (.ireturn, 1) := by decide +kernel
theorem d_tc_step_26 : decode bc_tc_step 26 = .ok (.aload_n 0, 1) := by decide +kernel
theorem d_tc_step_27 : decode bc_tc_step 27 = .ok (.iconst 0, 1) := by decide +kernel
theorem d_tc_step_28 : decode bc_tc_step 28 = .ok (.putfield 51, 3) := by decide +kernel
theorem d_tc_step_31 : decode bc_tc_step 31 = .ok (.aload_n 0, 1) := by decide +kernel
theorem d_tc_step_32 : decode bc_tc_step 32 = .ok (.getfield 19, 3) := by decide +kernel
theorem d_tc_step_35 : decode bc_tc_step 35 = .ok (.bipush 6, 2) := by decide +kernel
theorem d_tc_step_37 : decode bc_tc_step 37 = .ok (.invokevirtual 82, 3) := by decide +kernel
theorem d_tc_step_40 : decode bc_tc_step 40 = .ok (.istore_n 2, 1) := by decide +kernel
theorem d_tc_step_41 : decode bc_tc_step 41 = .ok (.aload_n 0, 1) := by decide +kernel
theorem d_tc_step_42 : decode bc_tc_step 42 = .ok (.invokevirtual 85, 3) := by decide +kernel
theorem d_tc_step_45 : decode bc_tc_step 45 = .ok (.istore_n 3, 1) := by decide +kernel
theorem d_tc_step_46 : decode bc_tc_step 46 = .ok (.aload_n 0, 1) := by decide +kernel
theorem d_tc_step_47 : decode bc_tc_step 47 = .ok (.iload_n 3, 1) := by decide +kernel
theorem d_tc_step_48 : decode bc_tc_step 48 = .ok (.invokevirtual 88, 3) := by decide +kernel
theorem d_tc_step_51 : decode bc_tc_step 51 = .ok (.ifCond .ne 15, 3) := by decide +kernel
theorem d_tc_step_54 : decode bc_tc_step 54 = .ok (.aload_n 0, 1) := by decide +kernel
theorem d_tc_step_55 : decode bc_tc_step 55 = .ok (.getfield 19, 3) := by decide +kernel
theorem d_tc_step_58 : decode bc_tc_step 58 = .ok (.bipush 6, 2) := by decide +kernel
theorem d_tc_step_60 : decode bc_tc_step 60 = .ok (.iload_n 2, 1) := by decide +kernel
theorem d_tc_step_61 : decode bc_tc_step 61 = .ok (.invokevirtual 36, 3) := by decide +kernel
theorem d_tc_step_64 : decode bc_tc_step 64 = .ok (.iconst 2, 1) := by decide +kernel
theorem d_tc_step_65 : decode bc_tc_step 65 = .ok (.ireturn, 1) := by decide +kernel
theorem d_tc_step_66 : decode bc_tc_step 66 = .ok (.iload_n 3, 1) := by decide +kernel
theorem d_tc_step_67 : decode bc_tc_step 67 = .ok (.sipush 128, 3) := by decide +kernel
theorem d_tc_step_70 : decode bc_tc_step 70 = .ok (.iand, 1) := by decide +kernel
theorem d_tc_step_71 : decode bc_tc_step 71 = .ok (.ifCond .ne 11, 3) := by decide +kernel
theorem d_tc_step_74 : decode bc_tc_step 74 = .ok (.aload_n 0, 1) := by decide +kernel
theorem d_tc_step_75 : decode bc_tc_step 75 = .ok (.iload_n 3, 1) := by decide +kernel
theorem d_tc_step_76 : decode bc_tc_step 76 = .ok (.invokevirtual 91, 3) := by decide +kernel
theorem d_tc_step_79 : decode bc_tc_step 79 = .ok (.goto 8, 3) := by decide +kernel
theorem d_tc_step_82 : decode bc_tc_step 82 = .ok (.aload_n 0, 1) := by decide +kernel
theorem d_tc_step_83 : decode bc_tc_step 83 = .ok (.iload_n 3, 1) := by decide +kernel
theorem d_tc_step_84 : decode bc_tc_step 84 = .ok (.invokevirtual 94, 3) := by decide +kernel
theorem d_tc_step_87 : decode bc_tc_step 87 = .ok (.iconst 0, 1) := by decide +kernel
theorem d_tc_step_88 : decode bc_tc_step 88 = .ok (.ireturn, 1) := by decide +kernel
theorem d_tc_run_0 : decode bc_tc_run 0 = .ok (.iload_n 1, 1) := by decide +kernel
theorem d_tc_run_1 : decode bc_tc_run 1 = .ok (.iconst 1, 1) := by decide +kernel
theorem d_tc_run_2 : decode bc_tc_run 2 = .ok (.if_icmp .lt 9, 3) := by decide +kernel
theorem d_tc_run_5 : decode bc_tc_run 5 = .ok (.iload_n 1, 1) := by decide +kernel
theorem d_tc_run_6 : decode bc_tc_run 6 = .ok (.bipush 50, 2) := by decide +kernel
theorem d_tc_run_8 : decode bc_tc_run 8 = .ok (.if_icmp .le 5, 3) := by decide +kernel
theorem d_tc_run_11 : decode bc_tc_run 11 = .ok (.iconst (-1), 1) := by decide +kernel
theorem d_tc_run_12 : decode bc_tc_run 12 = .ok (.ireturn, 1) := by decide +kernel
theorem d_tc_run_13 : decode bc_tc_run 13 = .ok (.iconst 1, 1) := by decide +kernel
theorem d_tc_run_14 : decode bc_tc_run 14 = .ok (.istore_n 2, 1) := by decide +kernel
theorem d_tc_run_15 : decode bc_tc_run 15 = .ok (.iload_n 2, 1) := by decide +kernel
theorem d_tc_run_16 : decode bc_tc_run 16 = .ok (.iload_n 1, 1) := by decide +kernel
theorem d_tc_run_17 : decode bc_tc_run 17 = .ok (.if_icmp .gt 18, 3) := by decide +kernel
theorem d_tc_run_20 : decode bc_tc_run 20 = .ok (.aload_n 0, 1) := by decide +kernel
theorem d_tc_run_21 : decode bc_tc_run 21 = .ok (.invokevirtual 97, 3) := by decide +kernel
theorem d_tc_run_24 : decode bc_tc_run 24 = .ok (.ifCond .eq 5, 3) := by decide +kernel
theorem d_tc_run_27 : decode bc_tc_run 27 = .ok (.iload_n 2, 1) := by decide +kernel
theorem d_tc_run_28 : decode bc_tc_run 28 = .ok (.ireturn, 1) := by decide +kernel
theorem d_tc_run_29 : decode bc_tc_run 29 = .ok (.iinc 2 1, 3) := by decide +kernel
theorem d_tc_run_32 : decode bc_tc_run 32 = .ok (.goto (-17), 3) := by decide +kernel
theorem d_tc_run_35 : decode bc_tc_run 35 = .ok (.iload_n 1, 1) := by decide +kernel
theorem d_tc_run_36 : decode bc_tc_run 36 = .ok (.ireturn, 1) := by decide +kernel
theorem d_tc_setLine_0 : decode bc_tc_setLine 0 = .ok (.iload_n 1, 1) := by decide +kernel
theorem d_tc_setLine_1 : decode bc_tc_setLine 1 = .ok (.ifCond .lt 17, 3) := by decide +kernel
theorem d_tc_setLine_4 : decode bc_tc_setLine 4 = .ok (.iload_n 1, 1) := by decide +kernel
theorem d_tc_setLine_5 : decode bc_tc_setLine 5 = .ok (.iconst 3, 1) := by decide +kernel
theorem d_tc_setLine_6 : decode bc_tc_setLine 6 = .ok (.if_icmp .ge 12, 3) := by decide +kernel
theorem d_tc_setLine_9 : decode bc_tc_setLine 9 = .ok (.iload_n 2, 1) := by decide +kernel
theorem d_tc_setLine_10 : decode bc_tc_setLine 10 = .ok (.ifCond .lt 8, 3) := by decide +kernel
theorem d_tc_setLine_13 : decode bc_tc_setLine 13 = .ok (.iload_n 2, 1) := by decide +kernel
theorem d_tc_setLine_14 : decode bc_tc_setLine 14 = .ok (.iconst 1, 1) := by decide +kernel
theorem d_tc_setLine_15 : decode bc_tc_setLine 15 = .ok (.if_icmp .le 5, 3) := by decide +kernel
theorem d_tc_setLine_18 : decode bc_tc_setLine 18 = .ok (.iconst 0, 1) := by decide +kernel
theorem d_tc_setLine_19 : decode bc_tc_setLine 19 = .ok (.ireturn, 1) := by decide +kernel
theorem d_tc_setLine_20 : decode bc_tc_setLine 20 = .ok (.iload_n 1, 1) := by decide +kernel
theorem d_tc_setLine_21 : decode bc_tc_setLine 21 = .ok (.ifCond .ne 25, 3) := by decide +kernel
theorem d_tc_setLine_24 : decode bc_tc_setLine 24 = .ok (.aload_n 0, 1) := by decide +kernel
theorem d_tc_setLine_25 : decode bc_tc_setLine 25 = .ok (.getfield 44, 3) := by decide +kernel
theorem d_tc_setLine_28 : decode bc_tc_setLine 28 = .ok (.ifCond .eq 18, 3) := by decide +kernel
theorem d_tc_setLine_31 : decode bc_tc_setLine 31 = .ok (.iload_n 2, 1) := by decide +kernel
theorem d_tc_setLine_32 : decode bc_tc_setLine 32 = .ok (.aload_n 0, 1) := by decide +kernel
theorem d_tc_setLine_33 : decode bc_tc_setLine 33 = .ok (.getfield 32, 3) := by decide +kernel
theorem d_tc_setLine_36 : decode bc_tc_setLine 36 = .ok (.iconst 0, 1) := by decide +kernel
theorem d_tc_setLine_37 : decode bc_tc_setLine 37 = .ok (.iaload, 1) := by decide +kernel
theorem d_tc_setLine_38 : decode bc_tc_setLine 38 = .ok (.if_icmp .le 8, 3) := by decide +kernel
theorem d_tc_setLine_41 : decode bc_tc_setLine 41 = .ok (.aload_n 0, 1) := by decide +kernel
theorem d_tc_setLine_42 : decode bc_tc_setLine 42 = .ok (.iconst 1, 1) := by decide +kernel
theorem d_tc_setLine_43 : decode bc_tc_setLine 43 = .ok (.putfield 48, 3) := by decide +kernel
theorem d_tc_setLine_46 : decode bc_tc_setLine 46 = .ok (.aload_n 0, 1) := by decide +kernel
theorem d_tc_setLine_47 : decode bc_tc_setLine 47 = .ok (.getfield 32, 3) := by decide +kernel
theorem d_tc_setLine_50 : decode bc_tc_setLine 50 = .ok (.iload_n 1, 1) := by decide +kernel
theorem d_tc_setLine_51 : decode bc_tc_setLine 51 = .ok (.iload_n 2, 1) := by decide +kernel
theorem d_tc_setLine_52 : decode bc_tc_setLine 52 = .ok (.iastore, 1) := by decide +kernel
theorem d_tc_setLine_53 : decode bc_tc_setLine 53 = .ok (.iconst 1, 1) := by decide +kernel
theorem d_tc_setLine_54 : decode bc_tc_setLine 54 = .ok (.ireturn, 1) := by decide +kernel
theorem d_tc_isFaceRegister_0 : decode bc_tc_isFaceRegister 0 = .ok (.iload_n 0, 1) := by decide +kernel
theorem d_tc_isFaceRegister_1 : decode bc_tc_isFaceRegister 1 = .ok (.ifCond .lt 13, 3) := by decide +kernel
theorem d_tc_isFaceRegister_4 : decode bc_tc_isFaceRegister 4 = .ok (.iload_n 0, 1) := by decide +kernel
theorem d_tc_isFaceRegister_5 : decode bc_tc_isFaceRegister 5 = .ok (.bipush 9, 2) := by decide +kernel
theorem d_tc_isFaceRegister_7 : decode bc_tc_isFaceRegister 7 = .ok (.if_icmp .ge 7, 3) := by decide +kernel
theorem d_tc_isFaceRegister_10 : decode bc_tc_isFaceRegister 10 = .ok (.iconst 1, 1) := by decide +kernel
theorem d_tc_isFaceRegister_11 : decode bc_tc_isFaceRegister 11 = .ok (.goto 4, 3) := by decide +kernel
theorem d_tc_isFaceRegister_14 : decode bc_tc_isFaceRegister 14 = .ok (.iconst 0, 1) := by decide +kernel
theorem d_tc_isFaceRegister_15 : decode bc_tc_isFaceRegister 15 = .ok (.ireturn, 1) := by decide +kernel
theorem d_tc_reg_0 : decode bc_tc_reg 0 = .ok (.iload_n 1, 1) := by decide +kernel
theorem d_tc_reg_1 : decode bc_tc_reg 1 = .ok (.invokestatic 100, 3) := by decide +kernel
theorem d_tc_reg_4 : decode bc_tc_reg 4 = .ok (.ifCond .eq 14, 3) := by decide +kernel
theorem d_tc_reg_7 : decode bc_tc_reg 7 = .ok (.aload_n 0, 1) := by decide +kernel
theorem d_tc_reg_8 : decode bc_tc_reg 8 = .ok (.getfield 19, 3) := by decide +kernel
theorem d_tc_reg_11 : decode bc_tc_reg 11 = .ok (.iload_n 1, 1) := by decide +kernel
theorem d_tc_reg_12 : decode bc_tc_reg 12 = .ok (.invokevirtual 82, 3) := by decide +kernel
theorem d_tc_reg_15 : decode bc_tc_reg 15 = .ok (.goto 4, 3) := by decide +kernel
theorem d_tc_reg_18 : decode bc_tc_reg 18 = .ok (.iconst (-1), 1) := by decide +kernel
theorem d_tc_reg_19 : decode bc_tc_reg 19 = .ok (.ireturn, 1) := by decide +kernel
theorem d_tc_put_0 : decode bc_tc_put 0 = .ok (.iload_n 1, 1) := by decide +kernel
theorem d_tc_put_1 : decode bc_tc_put 1 = .ok (.invokestatic 100, 3) := by decide +kernel
theorem d_tc_put_4 : decode bc_tc_put 4 = .ok (.ifCond .ne 5, 3) := by decide +kernel
theorem d_tc_put_7 : decode bc_tc_put 7 = .ok (.iconst 0, 1) := by decide +kernel
theorem d_tc_put_8 : decode bc_tc_put 8 = .ok (.ireturn, 1) := by decide +kernel
theorem d_tc_put_9 : decode bc_tc_put 9 = .ok (.aload_n 0, 1) := by decide +kernel
theorem d_tc_put_10 : decode bc_tc_put 10 = .ok (.getfield 19, 3) := by decide +kernel
theorem d_tc_put_13 : decode bc_tc_put 13 = .ok (.iload_n 1, 1) := by decide +kernel
theorem d_tc_put_14 : decode bc_tc_put 14 = .ok (.iload_n 2, 1) := by decide +kernel
theorem d_tc_put_15 : decode bc_tc_put 15 = .ok (.invokevirtual 36, 3) := by decide +kernel
theorem d_tc_put_18 : decode bc_tc_put 18 = .ok (.iconst 1, 1) := by decide +kernel
theorem d_tc_put_19 : decode bc_tc_put 19 = .ok (.ireturn, 1) := by decide +kernel
theorem d_tc_waits_0 : decode bc_tc_waits 0 = .ok (.aload_n 0, 1) := by decide +kernel
theorem d_tc_waits_1 : decode bc_tc_waits 1 = .ok (.getfield 51, 3) := by decide +kernel
theorem d_tc_waits_4 : decode bc_tc_waits 4 = .ok (.ireturn, 1) := by decide +kernel
theorem d_tc_lines_0 : decode bc_tc_lines 0 = .ok (.aload_n 0, 1) := by decide +kernel
theorem d_tc_lines_1 : decode bc_tc_lines 1 = .ok (.getfield 44, 3) := by decide +kernel
theorem d_tc_lines_4 : decode bc_tc_lines 4 = .ok (.ifCond .eq 7, 3) := by decide +kernel
theorem d_tc_lines_7 : decode bc_tc_lines 7 = .ok (.iconst 1, 1) := by decide +kernel
theorem d_tc_lines_8 : decode bc_tc_lines 8 = .ok (.goto 4, 3) := by decide +kernel
theorem d_tc_lines_11 : decode bc_tc_lines 11 = .ok (.iconst 0, 1) := by decide +kernel
theorem d_tc_lines_12 : decode bc_tc_lines 12 = .ok (.istore_n 1, 1) := by decide +kernel
theorem d_tc_lines_13 : decode bc_tc_lines 13 = .ok (.aload_n 0, 1) := by decide +kernel
theorem d_tc_lines_14 : decode bc_tc_lines 14 = .ok (.getfield 48, 3) := by decide +kernel
theorem d_tc_lines_17 : decode bc_tc_lines 17 = .ok (.ifCond .eq 7, 3) := by decide +kernel
theorem d_tc_lines_20 : decode bc_tc_lines 20 = .ok (.iconst 2, 1) := by decide +kernel
theorem d_tc_lines_21 : decode bc_tc_lines 21 = .ok (.goto 4, 3) := by decide +kernel
theorem d_tc_lines_24 : decode bc_tc_lines 24 = .ok (.iconst 0, 1) := by decide +kernel
theorem d_tc_lines_25 : decode bc_tc_lines 25 = .ok (.istore_n 2, 1) := by decide +kernel
theorem d_tc_lines_26 : decode bc_tc_lines 26 = .ok (.iload_n 1, 1) := by decide +kernel
theorem d_tc_lines_27 : decode bc_tc_lines 27 = .ok (.iload_n 2, 1) := by decide +kernel
theorem d_tc_lines_28 : decode bc_tc_lines 28 = .ok (.ior, 1) := by decide +kernel
theorem d_tc_lines_29 : decode bc_tc_lines 29 = .ok (.aload_n 0, 1) := by decide +kernel
theorem d_tc_lines_30 : decode bc_tc_lines 30 = .ok (.getfield 32, 3) := by decide +kernel
theorem d_tc_lines_33 : decode bc_tc_lines 33 = .ok (.iconst 0, 1) := by decide +kernel
theorem d_tc_lines_34 : decode bc_tc_lines 34 = .ok (.iaload, 1) := by decide +kernel
theorem d_tc_lines_35 : decode bc_tc_lines 35 = .ok (.iconst 2, 1) := by decide +kernel
theorem d_tc_lines_36 : decode bc_tc_lines 36 = .ok (.ishl, 1) := by decide +kernel
theorem d_tc_lines_37 : decode bc_tc_lines 37 = .ok (.ior, 1) := by decide +kernel
theorem d_tc_lines_38 : decode bc_tc_lines 38 = .ok (.aload_n 0, 1) := by decide +kernel
theorem d_tc_lines_39 : decode bc_tc_lines 39 = .ok (.getfield 32, 3) := by decide +kernel
theorem d_tc_lines_42 : decode bc_tc_lines 42 = .ok (.iconst 1, 1) := by decide +kernel
theorem d_tc_lines_43 : decode bc_tc_lines 43 = .ok (.iaload, 1) := by decide +kernel
theorem d_tc_lines_44 : decode bc_tc_lines 44 = .ok (.iconst 3, 1) := by decide +kernel
theorem d_tc_lines_45 : decode bc_tc_lines 45 = .ok (.ishl, 1) := by decide +kernel
theorem d_tc_lines_46 : decode bc_tc_lines 46 = .ok (.ior, 1) := by decide +kernel
theorem d_tc_lines_47 : decode bc_tc_lines 47 = .ok (.aload_n 0, 1) := by decide +kernel
theorem d_tc_lines_48 : decode bc_tc_lines 48 = .ok (.getfield 32, 3) := by decide +kernel
theorem d_tc_lines_51 : decode bc_tc_lines 51 = .ok (.iconst 2, 1) := by decide +kernel
theorem d_tc_lines_52 : decode bc_tc_lines 52 = .ok (.iaload, 1) := by decide +kernel
theorem d_tc_lines_53 : decode bc_tc_lines 53 = .ok (.iconst 4, 1) := by decide +kernel
theorem d_tc_lines_54 : decode bc_tc_lines 54 = .ok (.ishl, 1) := by decide +kernel
theorem d_tc_lines_55 : decode bc_tc_lines 55 = .ok (.ior, 1) := by decide +kernel
theorem d_tc_lines_56 : decode bc_tc_lines 56 = .ok (.ireturn, 1) := by decide +kernel
theorem d_mo_in_0 : decode bc_mo_in 0 = .ok (.iload_n 0, 1) := by decide +kernel
theorem d_mo_in_1 : decode bc_mo_in 1 = .ok (.iload_n 1, 1) := by decide +kernel
theorem d_mo_in_2 : decode bc_mo_in 2 = .ok (.if_icmp .lt 12, 3) := by decide +kernel
theorem d_mo_in_5 : decode bc_mo_in 5 = .ok (.iload_n 0, 1) := by decide +kernel
theorem d_mo_in_6 : decode bc_mo_in 6 = .ok (.iload_n 2, 1) := by decide +kernel
theorem d_mo_in_7 : decode bc_mo_in 7 = .ok (.if_icmp .gt 7, 3) := by decide +kernel
theorem d_mo_in_10 : decode bc_mo_in 10 = .ok (.iconst 1, 1) := by decide +kernel
theorem d_mo_in_11 : decode bc_mo_in 11 = .ok (.goto 4, 3) := by decide +kernel
theorem d_mo_in_14 : decode bc_mo_in 14 = .ok (.iconst 0, 1) := by decide +kernel
theorem d_mo_in_15 : decode bc_mo_in 15 = .ok (.ireturn, 1) := by decide +kernel
theorem d_mo_read_0 : decode bc_mo_read 0 = .ok (.aload_n 0, 1) := by decide +kernel
theorem d_mo_read_1 : decode bc_mo_read 1 = .ok (.getfield 7, 3) := by decide +kernel
theorem d_mo_read_4 : decode bc_mo_read 4 = .ok (.iload_n 1, 1) := by decide +kernel
theorem d_mo_read_5 : decode bc_mo_read 5 = .ok (.sipush 4095, 3) := by decide +kernel
theorem d_mo_read_8 : decode bc_mo_read 8 = .ok (.iand, 1) := by decide +kernel
theorem d_mo_read_9 : decode bc_mo_read 9 = .ok (.iaload, 1) := by decide +kernel
theorem d_mo_read_10 : decode bc_mo_read 10 = .ok (.ireturn, 1) := by decide +kernel
theorem d_mo_readWord_0 : decode bc_mo_readWord 0 = .ok (.sipush 256, 3) := by decide +kernel
theorem d_mo_readWord_3 : decode bc_mo_readWord 3 = .ok (.aload_n 0, 1) := by decide +kernel
theorem d_mo_readWord_4 : decode bc_mo_readWord 4 = .ok (.iload_n 1, 1) := by decide +kernel
theorem d_mo_readWord_5 : decode bc_mo_readWord 5 = .ok (.invokevirtual 22, 3) := by decide +kernel
theorem d_mo_readWord_8 : decode bc_mo_readWord 8 = .ok (.imul, 1) := by decide +kernel
theorem d_mo_readWord_9 : decode bc_mo_readWord 9 = .ok (.aload_n 0, 1) := by decide +kernel
theorem d_mo_readWord_10 : decode bc_mo_readWord 10 = .ok (.iload_n 1, 1) := by decide +kernel
theorem d_mo_readWord_11 : decode bc_mo_readWord 11 = .ok (.iconst 1, 1) := by decide +kernel
theorem d_mo_readWord_12 : decode bc_mo_readWord 12 = .ok (.iadd, 1) := by decide +kernel
theorem d_mo_readWord_13 : decode bc_mo_readWord 13 = .ok (.invokevirtual 22, 3) := by decide +kernel
theorem d_mo_readWord_16 : decode bc_mo_readWord 16 = .ok (.iadd, 1) := by decide +kernel
theorem d_mo_readWord_17 : decode bc_mo_readWord 17 = .ok (.ireturn, 1) := by decide +kernel
theorem d_mo_write_0 : decode bc_mo_write 0 = .ok (.aload_n 0, 1) := by decide +kernel
theorem d_mo_write_1 : decode bc_mo_write 1 = .ok (.getfield 7, 3) := by decide +kernel
theorem d_mo_write_4 : decode bc_mo_write 4 = .ok (.iload_n 1, 1) := by decide +kernel
theorem d_mo_write_5 : decode bc_mo_write 5 = .ok (.sipush 4095, 3) := by decide +kernel
theorem d_mo_write_8 : decode bc_mo_write 8 = .ok (.iand, 1) := by decide +kernel
theorem d_mo_write_9 : decode bc_mo_write 9 = .ok (.iload_n 2, 1) := by decide +kernel
theorem d_mo_write_10 : decode bc_mo_write 10 = .ok (.sipush 255, 3) := by decide +kernel
theorem d_mo_write_13 : decode bc_mo_write 13 = .ok (.iand, 1) := by decide +kernel
theorem d_mo_write_14 : decode bc_mo_write 14 = .ok (.iastore, 1) := by decide +kernel
theorem d_mo_write_15 : decode bc_mo_write 15 = .ok (.return_, 1) := by decide +kernel
theorem d_mo_writeWord_0 : decode bc_mo_writeWord 0 = .ok (.aload_n 0, 1) := by decide +kernel
theorem d_mo_writeWord_1 : decode bc_mo_writeWord 1 = .ok (.iload_n 1, 1) := by decide +kernel
theorem d_mo_writeWord_2 : decode bc_mo_writeWord 2 = .ok (.iload_n 2, 1) := by decide +kernel
theorem d_mo_writeWord_3 : decode bc_mo_writeWord 3 = .ok (.bipush 8, 2) := by decide +kernel
theorem d_mo_writeWord_5 : decode bc_mo_writeWord 5 = .ok (.ishr, 1) := by decide +kernel
theorem d_mo_writeWord_6 : decode bc_mo_writeWord 6 = .ok (.invokevirtual 26, 3) := by decide +kernel
theorem d_mo_writeWord_9 : decode bc_mo_writeWord 9 = .ok (.aload_n 0, 1) := by decide +kernel
theorem d_mo_writeWord_10 : decode bc_mo_writeWord 10 = .ok (.iload_n 1, 1) := by decide +kernel
theorem d_mo_writeWord_11 : decode bc_mo_writeWord 11 = .ok (.iconst 1, 1) := by decide +kernel
theorem d_mo_writeWord_12 : decode bc_mo_writeWord 12 = .ok (.iadd, 1) := by decide +kernel
theorem d_mo_writeWord_13 : decode bc_mo_writeWord 13 = .ok (.iload_n 2, 1) := by decide +kernel
theorem d_mo_writeWord_14 : decode bc_mo_writeWord 14 = .ok (.invokevirtual 26, 3) := by decide +kernel
theorem d_mo_writeWord_17 : decode bc_mo_writeWord 17 = .ok (.return_, 1) := by decide +kernel
theorem d_mo_next_0 : decode bc_mo_next 0 = .ok (.aload_n 0, 1) := by decide +kernel
theorem d_mo_next_1 : decode bc_mo_next 1 = .ok (.aload_n 0, 1) := by decide +kernel
theorem d_mo_next_2 : decode bc_mo_next 2 = .ok (.getfield 13, 3) := by decide +kernel
theorem d_mo_next_5 : decode bc_mo_next 5 = .ok (.bipush 6, 2) := by decide +kernel
theorem d_mo_next_7 : decode bc_mo_next 7 = .ok (.iaload, 1) := by decide +kernel
theorem d_mo_next_8 : decode bc_mo_next 8 = .ok (.invokevirtual 22, 3) := by decide +kernel
theorem d_mo_next_11 : decode bc_mo_next 11 = .ok (.istore_n 1, 1) := by decide +kernel
theorem d_mo_next_12 : decode bc_mo_next 12 = .ok (.aload_n 0, 1) := by decide +kernel
theorem d_mo_next_13 : decode bc_mo_next 13 = .ok (.getfield 13, 3) := by decide +kernel
theorem d_mo_next_16 : decode bc_mo_next 16 = .ok (.bipush 6, 2) := by decide +kernel
theorem d_mo_next_18 : decode bc_mo_next 18 = .ok (.aload_n 0, 1) := by decide +kernel
theorem d_mo_next_19 : decode bc_mo_next 19 = .ok (.getfield 13, 3) := by decide +kernel
theorem d_mo_next_22 : decode bc_mo_next 22 = .ok (.bipush 6, 2) := by decide +kernel
theorem d_mo_next_24 : decode bc_mo_next 24 = .ok (.iaload, 1) := by decide +kernel
theorem d_mo_next_25 : decode bc_mo_next 25 = .ok (.iconst 1, 1) := by decide +kernel
theorem d_mo_next_26 : decode bc_mo_next 26 = .ok (.iadd, 1) := by decide +kernel
theorem d_mo_next_27 : decode bc_mo_next 27 = .ok (.ldc 30, 2) := by decide +kernel
theorem d_mo_next_29 : decode bc_mo_next 29 = .ok (.iand, 1) := by decide +kernel
theorem d_mo_next_30 : decode bc_mo_next 30 = .ok (.iastore, 1) := by decide +kernel
theorem d_mo_next_31 : decode bc_mo_next 31 = .ok (.iload_n 1, 1) := by decide +kernel
theorem d_mo_next_32 : decode bc_mo_next 32 = .ok (.ireturn, 1) := by decide +kernel
theorem d_mo_nextWord_0 : decode bc_mo_nextWord 0 = .ok (.aload_n 0, 1) := by decide +kernel
theorem d_mo_nextWord_1 : decode bc_mo_nextWord 1 = .ok (.invokevirtual 31, 3) := by decide +kernel
theorem d_mo_nextWord_4 : decode bc_mo_nextWord 4 = .ok (.istore_n 1, 1) := by decide +kernel
theorem d_mo_nextWord_5 : decode bc_mo_nextWord 5 = .ok (.sipush 256, 3) := by decide +kernel
theorem d_mo_nextWord_8 : decode bc_mo_nextWord 8 = .ok (.iload_n 1, 1) := by decide +kernel
theorem d_mo_nextWord_9 : decode bc_mo_nextWord 9 = .ok (.imul, 1) := by decide +kernel
theorem d_mo_nextWord_10 : decode bc_mo_nextWord 10 = .ok (.aload_n 0, 1) := by decide +kernel
theorem d_mo_nextWord_11 : decode bc_mo_nextWord 11 = .ok (.invokevirtual 31, 3) := by decide +kernel
theorem d_mo_nextWord_14 : decode bc_mo_nextWord 14 = .ok (.iadd, 1) := by decide +kernel
theorem d_mo_nextWord_15 : decode bc_mo_nextWord 15 = .ok (.ireturn, 1) := by decide +kernel
theorem d_mo_signed_0 : decode bc_mo_signed 0 = .ok (.iload_n 0, 1) := by decide +kernel
theorem d_mo_signed_1 : decode bc_mo_signed 1 = .ok (.sipush 128, 3) := by decide +kernel
theorem d_mo_signed_4 : decode bc_mo_signed 4 = .ok (.if_icmp .lt 11, 3) := by decide +kernel
theorem d_mo_signed_7 : decode bc_mo_signed 7 = .ok (.iload_n 0, 1) := by decide +kernel
theorem d_mo_signed_8 : decode bc_mo_signed 8 = .ok (.sipush 256, 3) := by decide +kernel
theorem d_mo_signed_11 : decode bc_mo_signed 11 = .ok (.isub, 1) := by decide +kernel
theorem d_mo_signed_12 : decode bc_mo_signed 12 = .ok (.goto 4, 3) := by decide +kernel
theorem d_mo_signed_15 : decode bc_mo_signed 15 = .ok (.iload_n 0, 1) := by decide +kernel
theorem d_mo_signed_16 : decode bc_mo_signed 16 = .ok (.ireturn, 1) := by decide +kernel
theorem d_mo_d_0 : decode bc_mo_d 0 = .ok (.sipush 256, 3) := by decide +kernel
theorem d_mo_d_3 : decode bc_mo_d 3 = .ok (.aload_n 0, 1) := by decide +kernel
theorem d_mo_d_4 : decode bc_mo_d 4 = .ok (.getfield 13, 3) := by decide +kernel
theorem d_mo_d_7 : decode bc_mo_d 7 = .ok (.iconst 0, 1) := by decide +kernel
theorem d_mo_d_8 : decode bc_mo_d 8 = .ok (.iaload, 1) := by decide +kernel
theorem d_mo_d_9 : decode bc_mo_d 9 = .ok (.imul, 1) := by decide +kernel
theorem d_mo_d_10 : decode bc_mo_d 10 = .ok (.aload_n 0, 1) := by decide +kernel
theorem d_mo_d_11 : decode bc_mo_d 11 = .ok (.getfield 13, 3) := by decide +kernel
theorem d_mo_d_14 : decode bc_mo_d 14 = .ok (.iconst 1, 1) := by decide +kernel
theorem d_mo_d_15 : decode bc_mo_d 15 = .ok (.iaload, 1) := by decide +kernel
theorem d_mo_d_16 : decode bc_mo_d 16 = .ok (.iadd, 1) := by decide +kernel
theorem d_mo_d_17 : decode bc_mo_d 17 = .ok (.ireturn, 1) := by decide +kernel
theorem d_mo_setD_0 : decode bc_mo_setD 0 = .ok (.aload_n 0, 1) := by decide +kernel
theorem d_mo_setD_1 : decode bc_mo_setD 1 = .ok (.getfield 13, 3) := by decide +kernel
theorem d_mo_setD_4 : decode bc_mo_setD 4 = .ok (.iconst 0, 1) := by decide +kernel
theorem d_mo_setD_5 : decode bc_mo_setD 5 = .ok (.iload_n 1, 1) := by decide +kernel
theorem d_mo_setD_6 : decode bc_mo_setD 6 = .ok (.bipush 8, 2) := by decide +kernel
theorem d_mo_setD_8 : decode bc_mo_setD 8 = .ok (.ishr, 1) := by decide +kernel
theorem d_mo_setD_9 : decode bc_mo_setD 9 = .ok (.sipush 255, 3) := by decide +kernel
theorem d_mo_setD_12 : decode bc_mo_setD 12 = .ok (.iand, 1) := by decide +kernel
theorem d_mo_setD_13 : decode bc_mo_setD 13 = .ok (.iastore, 1) := by decide +kernel
theorem d_mo_setD_14 : decode bc_mo_setD 14 = .ok (.aload_n 0, 1) := by decide +kernel
theorem d_mo_setD_15 : decode bc_mo_setD 15 = .ok (.getfield 13, 3) := by decide +kernel
theorem d_mo_setD_18 : decode bc_mo_setD 18 = .ok (.iconst 1, 1) := by decide +kernel
theorem d_mo_setD_19 : decode bc_mo_setD 19 = .ok (.iload_n 1, 1) := by decide +kernel
theorem d_mo_setD_20 : decode bc_mo_setD 20 = .ok (.sipush 255, 3) := by decide +kernel
theorem d_mo_setD_23 : decode bc_mo_setD 23 = .ok (.iand, 1) := by decide +kernel
theorem d_mo_setD_24 : decode bc_mo_setD 24 = .ok (.iastore, 1) := by decide +kernel
theorem d_mo_setD_25 : decode bc_mo_setD 25 = .ok (.return_, 1) := by decide +kernel
theorem d_mo_flag_0 : decode bc_mo_flag 0 = .ok (.aload_n 0, 1) := by decide +kernel
theorem d_mo_flag_1 : decode bc_mo_flag 1 = .ok (.getfield 13, 3) := by decide +kernel
theorem d_mo_flag_4 : decode bc_mo_flag 4 = .ok (.bipush 8, 2) := by decide +kernel
theorem d_mo_flag_6 : decode bc_mo_flag 6 = .ok (.iload_n 2, 1) := by decide +kernel
theorem d_mo_flag_7 : decode bc_mo_flag 7 = .ok (.ifCond .eq 15, 3) := by decide +kernel
theorem d_mo_flag_10 : decode bc_mo_flag 10 = .ok (.aload_n 0, 1) := by decide +kernel
theorem d_mo_flag_11 : decode bc_mo_flag 11 = .ok (.getfield 13, 3) := by decide +kernel
theorem d_mo_flag_14 : decode bc_mo_flag 14 = .ok (.bipush 8, 2) := by decide +kernel
theorem d_mo_flag_16 : decode bc_mo_flag 16 = .ok (.iaload, 1) := by decide +kernel
theorem d_mo_flag_17 : decode bc_mo_flag 17 = .ok (.iload_n 1, 1) := by decide +kernel
theorem d_mo_flag_18 : decode bc_mo_flag 18 = .ok (.ior, 1) := by decide +kernel
theorem d_mo_flag_19 : decode bc_mo_flag 19 = .ok (.goto 14, 3) := by decide +kernel
theorem d_mo_flag_22 : decode bc_mo_flag 22 = .ok (.aload_n 0, 1) := by decide +kernel
theorem d_mo_flag_23 : decode bc_mo_flag 23 = .ok (.getfield 13, 3) := by decide +kernel
theorem d_mo_flag_26 : decode bc_mo_flag 26 = .ok (.bipush 8, 2) := by decide +kernel
theorem d_mo_flag_28 : decode bc_mo_flag 28 = .ok (.iaload, 1) := by decide +kernel
theorem d_mo_flag_29 : decode bc_mo_flag 29 = .ok (.iload_n 1, 1) := by decide +kernel
theorem d_mo_flag_30 : decode bc_mo_flag 30 = .ok (.iconst (-1), 1) := by decide +kernel
theorem d_mo_flag_31 : decode bc_mo_flag 31 = .ok (.ixor, 1) := by decide +kernel
theorem d_mo_flag_32 : decode bc_mo_flag 32 = .ok (.iand, 1) := by decide +kernel
theorem d_mo_flag_33 : decode bc_mo_flag 33 = .ok (.iastore, 1) := by decide +kernel
theorem d_mo_flag_34 : decode bc_mo_flag 34 = .ok (.return_, 1) := by decide +kernel
theorem d_mo_is_0 : decode bc_mo_is 0 = .ok (.aload_n 0, 1) := by decide +kernel
theorem d_mo_is_1 : decode bc_mo_is 1 = .ok (.getfield 13, 3) := by decide +kernel
theorem d_mo_is_4 : decode bc_mo_is 4 = .ok (.bipush 8, 2) := by decide +kernel
theorem d_mo_is_6 : decode bc_mo_is 6 = .ok (.iaload, 1) := by decide +kernel
theorem d_mo_is_7 : decode bc_mo_is 7 = .ok (.iload_n 1, 1) := by decide +kernel
theorem d_mo_is_8 : decode bc_mo_is 8 = .ok (.iand, 1) := by decide +kernel
theorem d_mo_is_9 : decode bc_mo_is 9 = .ok (.ifCond .eq 7, 3) := by decide +kernel
theorem d_mo_is_12 : decode bc_mo_is 12 = .ok (.iconst 1, 1) := by decide +kernel
theorem d_mo_is_13 : decode bc_mo_is 13 = .ok (.goto 4, 3) := by decide +kernel
theorem d_mo_is_16 : decode bc_mo_is 16 = .ok (.iconst 0, 1) := by decide +kernel
theorem d_mo_is_17 : decode bc_mo_is 17 = .ok (.ireturn, 1) := by decide +kernel
theorem d_mo_shows_0 : decode bc_mo_shows 0 = .ok (.aload_n 0, 1) := by decide +kernel
theorem d_mo_shows_1 : decode bc_mo_shows 1 = .ok (.bipush 8, 2) := by decide +kernel
theorem d_mo_shows_3 : decode bc_mo_shows 3 = .ok (.iload_n 1, 1) := by decide +kernel
theorem d_mo_shows_4 : decode bc_mo_shows 4 = .ok (.iload_n 2, 1) := by decide +kernel
theorem d_mo_shows_5 : decode bc_mo_shows 5 = .ok (.ifCond .eq 8, 3) := by decide +kernel
theorem d_mo_shows_8 : decode bc_mo_shows 8 = .ok (.ldc 35, 2) := by decide +kernel
theorem d_mo_shows_10 : decode bc_mo_shows 10 = .ok (.goto 6, 3) := by decide +kernel
theorem d_mo_shows_13 : decode bc_mo_shows 13 = .ok (.sipush 128, 3) := by decide +kernel
theorem d_mo_shows_16 : decode bc_mo_shows 16 = .ok (.iand, 1) := by decide +kernel
theorem d_mo_shows_17 : decode bc_mo_shows 17 = .ok (.ifCond .eq 7, 3) := by decide +kernel
theorem d_mo_shows_20 : decode bc_mo_shows 20 = .ok (.iconst 1, 1) := by decide +kernel
theorem d_mo_shows_21 : decode bc_mo_shows 21 = .ok (.goto 4, 3) := by decide +kernel
theorem d_mo_shows_24 : decode bc_mo_shows 24 = .ok (.iconst 0, 1) := by decide +kernel
theorem d_mo_shows_25 : decode bc_mo_shows 25 = .ok (.invokevirtual 36, 3) := by decide +kernel
theorem d_mo_shows_28 : decode bc_mo_shows 28 = .ok (.aload_n 0, 1) := by decide +kernel
theorem d_mo_shows_29 : decode bc_mo_shows 29 = .ok (.iconst 4, 1) := by decide +kernel
theorem d_mo_shows_30 : decode bc_mo_shows 30 = .ok (.iload_n 1, 1) := by decide +kernel
theorem d_mo_shows_31 : decode bc_mo_shows 31 = .ok (.iload_n 2, 1) := by decide +kernel
theorem d_mo_shows_32 : decode bc_mo_shows 32 = .ok (.ifCond .eq 8, 3) := by decide +kernel
theorem d_mo_shows_35 : decode bc_mo_shows 35 = .ok (.ldc 30, 2) := by decide +kernel
theorem d_mo_shows_37 : decode bc_mo_shows 37 = .ok (.goto 6, 3) := by decide +kernel
theorem d_mo_shows_40 : decode bc_mo_shows 40 = .ok (.sipush 255, 3) := by decide +kernel
theorem d_mo_shows_43 : decode bc_mo_shows 43 = .ok (.iand, 1) := by decide +kernel
theorem d_mo_shows_44 : decode bc_mo_shows 44 = .ok (.ifCond .ne 7, 3) := by decide +kernel
theorem d_mo_shows_47 : decode bc_mo_shows 47 = .ok (.iconst 1, 1) := by decide +kernel
theorem d_mo_shows_48 : decode bc_mo_shows 48 = .ok (.goto 4, 3) := by decide +kernel
theorem d_mo_shows_51 : decode bc_mo_shows 51 = .ok (.iconst 0, 1) := by decide +kernel
theorem d_mo_shows_52 : decode bc_mo_shows 52 = .ok (.invokevirtual 36, 3) := by decide +kernel
theorem d_mo_shows_55 : decode bc_mo_shows 55 = .ok (.return_, 1) := by decide +kernel
theorem d_mo_moved_0 : decode bc_mo_moved 0 = .ok (.aload_n 0, 1) := by decide +kernel
theorem d_mo_moved_1 : decode bc_mo_moved 1 = .ok (.iload_n 1, 1) := by decide +kernel
theorem d_mo_moved_2 : decode bc_mo_moved 2 = .ok (.iload_n 2, 1) := by decide +kernel
theorem d_mo_moved_3 : decode bc_mo_moved 3 = .ok (.invokevirtual 40, 3) := by decide +kernel
theorem d_mo_moved_6 : decode bc_mo_moved 6 = .ok (.aload_n 0, 1) := by decide +kernel
theorem d_mo_moved_7 : decode bc_mo_moved 7 = .ok (.iconst 2, 1) := by decide +kernel
theorem d_mo_moved_8 : decode bc_mo_moved 8 = .ok (.iconst 0, 1) := by decide +kernel
theorem d_mo_moved_9 : decode bc_mo_moved 9 = .ok (.invokevirtual 36, 3) := by decide +kernel
theorem d_mo_moved_12 : decode bc_mo_moved 12 = .ok (.iload_n 1, 1) := by decide +kernel
theorem d_mo_moved_13 : decode bc_mo_moved 13 = .ok (.ireturn, 1) := by decide +kernel
theorem d_mo_asSigned_0 : decode bc_mo_asSigned 0 = .ok (.iload_n 1, 1) := by decide +kernel
theorem d_mo_asSigned_1 : decode bc_mo_asSigned 1 = .ok (.ifCond .eq 20, 3) := by decide +kernel
theorem d_mo_asSigned_4 : decode bc_mo_asSigned 4 = .ok (.iload_n 0, 1) := by decide +kernel
theorem d_mo_asSigned_5 : decode bc_mo_asSigned 5 = .ok (.ldc 35, 2) := by decide +kernel
theorem d_mo_asSigned_7 : decode bc_mo_asSigned 7 = .ok (.if_icmp .lt 10, 3) := by decide +kernel
theorem d_mo_asSigned_10 : decode bc_mo_asSigned 10 = .ok (.iload_n 0, 1) := by decide +kernel
theorem d_mo_asSigned_11 : decode bc_mo_asSigned 11 = .ok (.ldc 43, 2) := by decide +kernel
theorem d_mo_asSigned_13 : decode bc_mo_asSigned 13 = .ok (.isub, 1) := by decide +kernel
theorem d_mo_asSigned_14 : decode bc_mo_asSigned 14 = .ok (.goto 23, 3) := by decide +kernel
theorem d_mo_asSigned_17 : decode bc_mo_asSigned 17 = .ok (.iload_n 0, 1) := by decide +kernel
theorem d_mo_asSigned_18 : decode bc_mo_asSigned 18 = .ok (.goto 19, 3) := by decide +kernel
theorem d_mo_asSigned_21 : decode bc_mo_asSigned 21 = .ok (.iload_n 0, 1) := by decide +kernel
theorem d_mo_asSigned_22 : decode bc_mo_asSigned 22 = .ok (.sipush 128, 3) := by decide +kernel
theorem d_mo_asSigned_25 : decode bc_mo_asSigned 25 = .ok (.if_icmp .lt 11, 3) := by decide +kernel
theorem d_mo_asSigned_28 : decode bc_mo_asSigned 28 = .ok (.iload_n 0, 1) := by decide +kernel
theorem d_mo_asSigned_29 : decode bc_mo_asSigned 29 = .ok (.sipush 256, 3) := by decide +kernel
theorem d_mo_asSigned_32 : decode bc_mo_asSigned 32 = .ok (.isub, 1) := by decide +kernel
theorem d_mo_asSigned_33 : decode bc_mo_asSigned 33 = .ok (.goto 4, 3) := by decide +kernel
theorem d_mo_asSigned_36 : decode bc_mo_asSigned 36 = .ok (.iload_n 0, 1) := by decide +kernel
theorem d_mo_asSigned_37 : decode bc_mo_asSigned 37 = .ok (.ireturn, 1) := by decide +kernel
theorem d_mo_hasRoom_0 : decode bc_mo_hasRoom 0 = .ok (.iload_n 1, 1) := by decide +kernel
theorem d_mo_hasRoom_1 : decode bc_mo_hasRoom 1 = .ok (.ifCond .eq 16, 3) := by decide +kernel
theorem d_mo_hasRoom_4 : decode bc_mo_hasRoom 4 = .ok (.iload_n 0, 1) := by decide +kernel
theorem d_mo_hasRoom_5 : decode bc_mo_hasRoom 5 = .ok (.sipush (-32768), 3) := by decide +kernel
theorem d_mo_hasRoom_8 : decode bc_mo_hasRoom 8 = .ok (.sipush 32767, 3) := by decide +kernel
theorem d_mo_hasRoom_11 : decode bc_mo_hasRoom 11 = .ok (.invokestatic 44, 3) := by decide +kernel
theorem d_mo_hasRoom_14 : decode bc_mo_hasRoom 14 = .ok (.goto 11, 3) := by decide +kernel
theorem d_mo_hasRoom_17 : decode bc_mo_hasRoom 17 = .ok (.iload_n 0, 1) := by decide +kernel
theorem d_mo_hasRoom_18 : decode bc_mo_hasRoom 18 = .ok (.bipush (-128), 2) := by decide +kernel
theorem d_mo_hasRoom_20 : decode bc_mo_hasRoom 20 = .ok (.bipush 127, 2) := by decide +kernel
theorem d_mo_hasRoom_22 : decode bc_mo_hasRoom 22 = .ok (.invokestatic 44, 3) := by decide +kernel
theorem d_mo_hasRoom_25 : decode bc_mo_hasRoom 25 = .ok (.ireturn, 1) := by decide +kernel
theorem d_mo_plus_0 : decode bc_mo_plus 0 = .ok (.iload_n 1, 1) := by decide +kernel
theorem d_mo_plus_1 : decode bc_mo_plus 1 = .ok (.iload_n 2, 1) := by decide +kernel
theorem d_mo_plus_2 : decode bc_mo_plus 2 = .ok (.iadd, 1) := by decide +kernel
theorem d_mo_plus_3 : decode bc_mo_plus 3 = .ok (.iload_n 3, 1) := by decide +kernel
theorem d_mo_plus_4 : decode bc_mo_plus 4 = .ok (.iadd, 1) := by decide +kernel
theorem d_mo_plus_5 : decode bc_mo_plus 5 = .ok (.istore 5, 2) := by decide +kernel
theorem d_mo_plus_7 : decode bc_mo_plus 7 = .ok (.iload 4, 2) := by decide +kernel
theorem d_mo_plus_9 : decode bc_mo_plus 9 = .ok (.ifCond .ne 30, 3) := by decide +kernel
theorem d_mo_plus_12 : decode bc_mo_plus 12 = .ok (.aload_n 0, 1) := by decide +kernel
theorem d_mo_plus_13 : decode bc_mo_plus 13 = .ok (.bipush 32, 2) := by decide +kernel
theorem d_mo_plus_15 : decode bc_mo_plus 15 = .ok (.iload_n 1, 1) := by decide +kernel
theorem d_mo_plus_16 : decode bc_mo_plus 16 = .ok (.bipush 15, 2) := by decide +kernel
theorem d_mo_plus_18 : decode bc_mo_plus 18 = .ok (.iand, 1) := by decide +kernel
theorem d_mo_plus_19 : decode bc_mo_plus 19 = .ok (.iload_n 2, 1) := by decide +kernel
theorem d_mo_plus_20 : decode bc_mo_plus 20 = .ok (.bipush 15, 2) := by decide +kernel
theorem d_mo_plus_22 : decode bc_mo_plus 22 = .ok (.iand, 1) := by decide +kernel
theorem d_mo_plus_23 : decode bc_mo_plus 23 = .ok (.iadd, 1) := by decide +kernel
theorem d_mo_plus_24 : decode bc_mo_plus 24 = .ok (.iload_n 3, 1) := by decide +kernel
theorem d_mo_plus_25 : decode bc_mo_plus 25 = .ok (.iadd, 1) := by decide +kernel
theorem d_mo_plus_26 : decode bc_mo_plus 26 = .ok (.bipush 15, 2) := by decide +kernel
theorem d_mo_plus_28 : decode bc_mo_plus 28 = .ok (.if_icmp .le 7, 3) := by decide +kernel
theorem d_mo_plus_31 : decode bc_mo_plus 31 = .ok (.iconst 1, 1) := by decide +kernel
theorem d_mo_plus_32 : decode bc_mo_plus 32 = .ok (.goto 4, 3) := by decide +kernel
theorem d_mo_plus_35 : decode bc_mo_plus 35 = .ok (.iconst 0, 1) := by decide +kernel
theorem d_mo_plus_36 : decode bc_mo_plus 36 = .ok (.invokevirtual 36, 3) := by decide +kernel
theorem d_mo_plus_39 : decode bc_mo_plus 39 = .ok (.aload_n 0, 1) := by decide +kernel
theorem d_mo_plus_40 : decode bc_mo_plus 40 = .ok (.iconst 1, 1) := by decide +kernel
theorem d_mo_plus_41 : decode bc_mo_plus 41 = .ok (.iload 5, 2) := by decide +kernel
theorem d_mo_plus_43 : decode bc_mo_plus 43 = .ok (.iload 4, 2) := by decide +kernel
theorem d_mo_plus_45 : decode bc_mo_plus 45 = .ok (.ifCond .eq 8, 3) := by decide +kernel
theorem d_mo_plus_48 : decode bc_mo_plus 48 = .ok (.ldc 30, 2) := by decide +kernel
theorem d_mo_plus_50 : decode bc_mo_plus 50 = .ok (.goto 6, 3) := by decide +kernel
theorem d_mo_plus_53 : decode bc_mo_plus 53 = .ok (.sipush 255, 3) := by decide +kernel
theorem d_mo_plus_56 : decode bc_mo_plus 56 = .ok (.if_icmp .le 7, 3) := by decide +kernel
theorem d_mo_plus_59 : decode bc_mo_plus 59 = .ok (.iconst 1, 1) := by decide +kernel
theorem d_mo_plus_60 : decode bc_mo_plus 60 = .ok (.goto 4, 3) := by decide +kernel
theorem d_mo_plus_63 : decode bc_mo_plus 63 = .ok (.iconst 0, 1) := by decide +kernel
theorem d_mo_plus_64 : decode bc_mo_plus 64 = .ok (.invokevirtual 36, 3) := by decide +kernel
theorem d_mo_plus_67 : decode bc_mo_plus 67 = .ok (.aload_n 0, 1) := by decide +kernel
theorem d_mo_plus_68 : decode bc_mo_plus 68 = .ok (.iconst 2, 1) := by decide +kernel
theorem d_mo_plus_69 : decode bc_mo_plus 69 = .ok (.iload_n 1, 1) := by decide +kernel
theorem d_mo_plus_70 : decode bc_mo_plus 70 = .ok (.iload 4, 2) := by decide +kernel
theorem d_mo_plus_72 : decode bc_mo_plus 72 = .ok (.invokestatic 48, 3) := by decide +kernel
theorem d_mo_plus_75 : decode bc_mo_plus 75 = .ok (.iload_n 2, 1) := by decide +kernel
theorem d_mo_plus_76 : decode bc_mo_plus 76 = .ok (.iload 4, 2) := by decide +kernel
theorem d_mo_plus_78 : decode bc_mo_plus 78 = .ok (.invokestatic 48, 3) := by decide +kernel
theorem d_mo_plus_81 : decode bc_mo_plus 81 = .ok (.iadd, 1) := by decide +kernel
theorem d_mo_plus_82 : decode bc_mo_plus 82 = .ok (.iload_n 3, 1) := by decide +kernel
theorem d_mo_plus_83 : decode bc_mo_plus 83 = .ok (.iadd, 1) := by decide +kernel
theorem d_mo_plus_84 : decode bc_mo_plus 84 = .ok (.iload 4, 2) := by decide +kernel
theorem d_mo_plus_86 : decode bc_mo_plus 86 = .ok (.invokestatic 52, 3) := by decide +kernel
theorem d_mo_plus_89 : decode bc_mo_plus 89 = .ok (.ifCond .ne 7, 3) := by decide +kernel
theorem d_mo_plus_92 : decode bc_mo_plus 92 = .ok (.iconst 1, 1) := by decide +kernel
theorem d_mo_plus_93 : decode bc_mo_plus 93 = .ok (.goto 4, 3) := by decide +kernel
theorem d_mo_plus_96 : decode bc_mo_plus 96 = .ok (.iconst 0, 1) := by decide +kernel
theorem d_mo_plus_97 : decode bc_mo_plus 97 = .ok (.invokevirtual 36, 3) := by decide +kernel
theorem d_mo_plus_100 : decode bc_mo_plus 100 = .ok (.aload_n 0, 1) := by decide +kernel
theorem d_mo_plus_101 : decode bc_mo_plus 101 = .ok (.iload 5, 2) := by decide +kernel
theorem d_mo_plus_103 : decode bc_mo_plus 103 = .ok (.iload 4, 2) := by decide +kernel
theorem d_mo_plus_105 : decode bc_mo_plus 105 = .ok (.invokevirtual 40, 3) := by decide +kernel
theorem d_mo_plus_108 : decode bc_mo_plus 108 = .ok (.iload 5, 2) := by decide +kernel
theorem d_mo_plus_110 : decode bc_mo_plus 110 = .ok (.iload 4, 2) := by decide +kernel
theorem d_mo_plus_112 : decode bc_mo_plus 112 = .ok (.ifCond .eq 8, 3) := by decide +kernel
theorem d_mo_plus_115 : decode bc_mo_plus 115 = .ok (.ldc 30, 2) := by decide +kernel
theorem d_mo_plus_117 : decode bc_mo_plus 117 = .ok (.goto 6, 3) := by decide +kernel
theorem d_mo_plus_120 : decode bc_mo_plus 120 = .ok (.sipush 255, 3) := by decide +kernel
theorem d_mo_plus_123 : decode bc_mo_plus 123 = .ok (.iand, 1) := by decide +kernel
theorem d_mo_plus_124 : decode bc_mo_plus 124 = .ok (.ireturn, 1) := by decide +kernel
theorem d_mo_less_0 : decode bc_mo_less 0 = .ok (.iload_n 1, 1) := by decide +kernel
theorem d_mo_less_1 : decode bc_mo_less 1 = .ok (.iload_n 2, 1) := by decide +kernel
theorem d_mo_less_2 : decode bc_mo_less 2 = .ok (.isub, 1) := by decide +kernel
theorem d_mo_less_3 : decode bc_mo_less 3 = .ok (.iload_n 3, 1) := by decide +kernel
theorem d_mo_less_4 : decode bc_mo_less 4 = .ok (.isub, 1) := by decide +kernel
theorem d_mo_less_5 : decode bc_mo_less 5 = .ok (.istore 5, 2) := by decide +kernel
theorem d_mo_less_7 : decode bc_mo_less 7 = .ok (.aload_n 0, 1) := by decide +kernel
theorem d_mo_less_8 : decode bc_mo_less 8 = .ok (.iconst 1, 1) := by decide +kernel
theorem d_mo_less_9 : decode bc_mo_less 9 = .ok (.iload 5, 2) := by decide +kernel
theorem d_mo_less_11 : decode bc_mo_less 11 = .ok (.ifCond .ge 7, 3) := by decide +kernel
theorem d_mo_less_14 : decode bc_mo_less 14 = .ok (.iconst 1, 1) := by decide +kernel
theorem d_mo_less_15 : decode bc_mo_less 15 = .ok (.goto 4, 3) := by decide +kernel
theorem d_mo_less_18 : decode bc_mo_less 18 = .ok (.iconst 0, 1) := by decide +kernel
theorem d_mo_less_19 : decode bc_mo_less 19 = .ok (.invokevirtual 36, 3) := by decide +kernel
theorem d_mo_less_22 : decode bc_mo_less 22 = .ok (.aload_n 0, 1) := by decide +kernel
theorem d_mo_less_23 : decode bc_mo_less 23 = .ok (.iconst 2, 1) := by decide +kernel
theorem d_mo_less_24 : decode bc_mo_less 24 = .ok (.iload_n 1, 1) := by decide +kernel
theorem d_mo_less_25 : decode bc_mo_less 25 = .ok (.iload 4, 2) := by decide +kernel
theorem d_mo_less_27 : decode bc_mo_less 27 = .ok (.invokestatic 48, 3) := by decide +kernel
theorem d_mo_less_30 : decode bc_mo_less 30 = .ok (.iload_n 2, 1) := by decide +kernel
theorem d_mo_less_31 : decode bc_mo_less 31 = .ok (.iload 4, 2) := by decide +kernel
theorem d_mo_less_33 : decode bc_mo_less 33 = .ok (.invokestatic 48, 3) := by decide +kernel
theorem d_mo_less_36 : decode bc_mo_less 36 = .ok (.isub, 1) := by decide +kernel
theorem d_mo_less_37 : decode bc_mo_less 37 = .ok (.iload_n 3, 1) := by decide +kernel
theorem d_mo_less_38 : decode bc_mo_less 38 = .ok (.isub, 1) := by decide +kernel
theorem d_mo_less_39 : decode bc_mo_less 39 = .ok (.iload 4, 2) := by decide +kernel
theorem d_mo_less_41 : decode bc_mo_less 41 = .ok (.invokestatic 52, 3) := by decide +kernel
theorem d_mo_less_44 : decode bc_mo_less 44 = .ok (.ifCond .ne 7, 3) := by decide +kernel
theorem d_mo_less_47 : decode bc_mo_less 47 = .ok (.iconst 1, 1) := by decide +kernel
theorem d_mo_less_48 : decode bc_mo_less 48 = .ok (.goto 4, 3) := by decide +kernel
theorem d_mo_less_51 : decode bc_mo_less 51 = .ok (.iconst 0, 1) := by decide +kernel
theorem d_mo_less_52 : decode bc_mo_less 52 = .ok (.invokevirtual 36, 3) := by decide +kernel
theorem d_mo_less_55 : decode bc_mo_less 55 = .ok (.aload_n 0, 1) := by decide +kernel
theorem d_mo_less_56 : decode bc_mo_less 56 = .ok (.iload 5, 2) := by decide +kernel
theorem d_mo_less_58 : decode bc_mo_less 58 = .ok (.iload 4, 2) := by decide +kernel
theorem d_mo_less_60 : decode bc_mo_less 60 = .ok (.invokevirtual 40, 3) := by decide +kernel
theorem d_mo_less_63 : decode bc_mo_less 63 = .ok (.iload 5, 2) := by decide +kernel
theorem d_mo_less_65 : decode bc_mo_less 65 = .ok (.iload 4, 2) := by decide +kernel
theorem d_mo_less_67 : decode bc_mo_less 67 = .ok (.ifCond .eq 8, 3) := by decide +kernel
