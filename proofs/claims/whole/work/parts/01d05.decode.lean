theorem d_mo_less_70 : decode bc_mo_less 70 = .ok (.ldc 30, 2) := by decide +kernel
theorem d_mo_less_72 : decode bc_mo_less 72 = .ok (.goto 6, 3) := by decide +kernel
theorem d_mo_less_75 : decode bc_mo_less 75 = .ok (.sipush 255, 3) := by decide +kernel
theorem d_mo_less_78 : decode bc_mo_less 78 = .ok (.iand, 1) := by decide +kernel
theorem d_mo_less_79 : decode bc_mo_less 79 = .ok (.ireturn, 1) := by decide +kernel
theorem d_mo_byPostbyte_0 : decode bc_mo_byPostbyte 0 = .ok (.aload_n 0, 1) := by decide +kernel
theorem d_mo_byPostbyte_1 : decode bc_mo_byPostbyte 1 = .ok (.invokevirtual 31, 3) := by decide +kernel
theorem d_mo_byPostbyte_4 : decode bc_mo_byPostbyte 4 = .ok (.istore_n 1, 1) := by decide +kernel
theorem d_mo_byPostbyte_5 : decode bc_mo_byPostbyte 5 = .ok (.iconst 2, 1) := by decide +kernel
theorem d_mo_byPostbyte_6 : decode bc_mo_byPostbyte 6 = .ok (.iload_n 1, 1) := by decide +kernel
theorem d_mo_byPostbyte_7 : decode bc_mo_byPostbyte 7 = .ok (.iconst 5, 1) := by decide +kernel
theorem d_mo_byPostbyte_8 : decode bc_mo_byPostbyte 8 = .ok (.ishr, 1) := by decide +kernel
theorem d_mo_byPostbyte_9 : decode bc_mo_byPostbyte 9 = .ok (.iconst 3, 1) := by decide +kernel
theorem d_mo_byPostbyte_10 : decode bc_mo_byPostbyte 10 = .ok (.iand, 1) := by decide +kernel
theorem d_mo_byPostbyte_11 : decode bc_mo_byPostbyte 11 = .ok (.iadd, 1) := by decide +kernel
theorem d_mo_byPostbyte_12 : decode bc_mo_byPostbyte 12 = .ok (.istore_n 2, 1) := by decide +kernel
theorem d_mo_byPostbyte_13 : decode bc_mo_byPostbyte 13 = .ok (.iload_n 1, 1) := by decide +kernel
theorem d_mo_byPostbyte_14 : decode bc_mo_byPostbyte 14 = .ok (.bipush 15, 2) := by decide +kernel
theorem d_mo_byPostbyte_16 : decode bc_mo_byPostbyte 16 = .ok (.iand, 1) := by decide +kernel
theorem d_mo_byPostbyte_17 : decode bc_mo_byPostbyte 17 = .ok (.istore_n 3, 1) := by decide +kernel
theorem d_mo_byPostbyte_18 : decode bc_mo_byPostbyte 18 = .ok (.aload_n 0, 1) := by decide +kernel
theorem d_mo_byPostbyte_19 : decode bc_mo_byPostbyte 19 = .ok (.getfield 13, 3) := by decide +kernel
theorem d_mo_byPostbyte_22 : decode bc_mo_byPostbyte 22 = .ok (.iload_n 2, 1) := by decide +kernel
theorem d_mo_byPostbyte_23 : decode bc_mo_byPostbyte 23 = .ok (.iaload, 1) := by decide +kernel
theorem d_mo_byPostbyte_24 : decode bc_mo_byPostbyte 24 = .ok (.istore 4, 2) := by decide +kernel
theorem d_mo_byPostbyte_26 : decode bc_mo_byPostbyte 26 = .ok (.iload_n 1, 1) := by decide +kernel
theorem d_mo_byPostbyte_27 : decode bc_mo_byPostbyte 27 = .ok (.sipush 128, 3) := by decide +kernel
theorem d_mo_byPostbyte_30 : decode bc_mo_byPostbyte 30 = .ok (.if_icmp .ge 21, 3) := by decide +kernel
theorem d_mo_byPostbyte_33 : decode bc_mo_byPostbyte 33 = .ok (.iload 4, 2) := by decide +kernel
theorem d_mo_byPostbyte_35 : decode bc_mo_byPostbyte 35 = .ok (.iload_n 1, 1) := by decide +kernel
theorem d_mo_byPostbyte_36 : decode bc_mo_byPostbyte 36 = .ok (.bipush 31, 2) := by decide +kernel
theorem d_mo_byPostbyte_38 : decode bc_mo_byPostbyte 38 = .ok (.iand, 1) := by decide +kernel
theorem d_mo_byPostbyte_39 : decode bc_mo_byPostbyte 39 = .ok (.iadd, 1) := by decide +kernel
theorem d_mo_byPostbyte_40 : decode bc_mo_byPostbyte 40 = .ok (.iconst 2, 1) := by decide +kernel
theorem d_mo_byPostbyte_41 : decode bc_mo_byPostbyte 41 = .ok (.iload_n 1, 1) := by decide +kernel
theorem d_mo_byPostbyte_42 : decode bc_mo_byPostbyte 42 = .ok (.bipush 16, 2) := by decide +kernel
theorem d_mo_byPostbyte_44 : decode bc_mo_byPostbyte 44 = .ok (.iand, 1) := by decide +kernel
theorem d_mo_byPostbyte_45 : decode bc_mo_byPostbyte 45 = .ok (.imul, 1) := by decide +kernel
theorem d_mo_byPostbyte_46 : decode bc_mo_byPostbyte 46 = .ok (.isub, 1) := by decide +kernel
theorem d_mo_byPostbyte_47 : decode bc_mo_byPostbyte 47 = .ok (.ldc 30, 2) := by decide +kernel
theorem d_mo_byPostbyte_49 : decode bc_mo_byPostbyte 49 = .ok (.iand, 1) := by decide +kernel
theorem d_mo_byPostbyte_50 : decode bc_mo_byPostbyte 50 = .ok (.ireturn, 1) := by decide +kernel
theorem d_mo_byPostbyte_51 : decode bc_mo_byPostbyte 51 = .ok (.iload_n 1, 1) := by decide +kernel
theorem d_mo_byPostbyte_52 : decode bc_mo_byPostbyte 52 = .ok (.bipush 16, 2) := by decide +kernel
theorem d_mo_byPostbyte_54 : decode bc_mo_byPostbyte 54 = .ok (.iand, 1) := by decide +kernel
theorem d_mo_byPostbyte_55 : decode bc_mo_byPostbyte 55 = .ok (.ifCond .eq 7, 3) := by decide +kernel
theorem d_mo_byPostbyte_58 : decode bc_mo_byPostbyte 58 = .ok (.iconst 1, 1) := by decide +kernel
theorem d_mo_byPostbyte_59 : decode bc_mo_byPostbyte 59 = .ok (.goto 4, 3) := by decide +kernel
theorem d_mo_byPostbyte_62 : decode bc_mo_byPostbyte 62 = .ok (.iconst 0, 1) := by decide +kernel
theorem d_mo_byPostbyte_63 : decode bc_mo_byPostbyte 63 = .ok (.istore 5, 2) := by decide +kernel
theorem d_mo_byPostbyte_65 : decode bc_mo_byPostbyte 65 = .ok (.aload_n 0, 1) := by decide +kernel
theorem d_mo_byPostbyte_66 : decode bc_mo_byPostbyte 66 = .ok (.iload_n 3, 1) := by decide +kernel
theorem d_mo_byPostbyte_67 : decode bc_mo_byPostbyte 67 = .ok (.bipush 7, 2) := by decide +kernel
theorem d_mo_byPostbyte_69 : decode bc_mo_byPostbyte 69 = .ok (.if_icmp .eq 42, 3) := by decide +kernel
theorem d_mo_byPostbyte_72 : decode bc_mo_byPostbyte 72 = .ok (.iload_n 3, 1) := by decide +kernel
theorem d_mo_byPostbyte_73 : decode bc_mo_byPostbyte 73 = .ok (.bipush 10, 2) := by decide +kernel
theorem d_mo_byPostbyte_75 : decode bc_mo_byPostbyte 75 = .ok (.if_icmp .eq 36, 3) := by decide +kernel
theorem d_mo_byPostbyte_78 : decode bc_mo_byPostbyte 78 = .ok (.iload_n 3, 1) := by decide +kernel
theorem d_mo_byPostbyte_79 : decode bc_mo_byPostbyte 79 = .ok (.bipush 14, 2) := by decide +kernel
theorem d_mo_byPostbyte_81 : decode bc_mo_byPostbyte 81 = .ok (.if_icmp .eq 30, 3) := by decide +kernel
theorem d_mo_byPostbyte_84 : decode bc_mo_byPostbyte 84 = .ok (.iload_n 3, 1) := by decide +kernel
theorem d_mo_byPostbyte_85 : decode bc_mo_byPostbyte 85 = .ok (.ifCond .eq 8, 3) := by decide +kernel
theorem d_mo_byPostbyte_88 : decode bc_mo_byPostbyte 88 = .ok (.iload_n 3, 1) := by decide +kernel
theorem d_mo_byPostbyte_89 : decode bc_mo_byPostbyte 89 = .ok (.iconst 2, 1) := by decide +kernel
theorem d_mo_byPostbyte_90 : decode bc_mo_byPostbyte 90 = .ok (.if_icmp .ne 8, 3) := by decide +kernel
theorem d_mo_byPostbyte_93 : decode bc_mo_byPostbyte 93 = .ok (.iload 5, 2) := by decide +kernel
theorem d_mo_byPostbyte_95 : decode bc_mo_byPostbyte 95 = .ok (.ifCond .ne 16, 3) := by decide +kernel
theorem d_mo_byPostbyte_98 : decode bc_mo_byPostbyte 98 = .ok (.iload_n 3, 1) := by decide +kernel
theorem d_mo_byPostbyte_99 : decode bc_mo_byPostbyte 99 = .ok (.bipush 15, 2) := by decide +kernel
theorem d_mo_byPostbyte_101 : decode bc_mo_byPostbyte 101 = .ok (.if_icmp .ne 14, 3) := by decide +kernel
theorem d_mo_byPostbyte_104 : decode bc_mo_byPostbyte 104 = .ok (.iload_n 1, 1) := by decide +kernel
theorem d_mo_byPostbyte_105 : decode bc_mo_byPostbyte 105 = .ok (.sipush 159, 3) := by decide +kernel
theorem d_mo_byPostbyte_108 : decode bc_mo_byPostbyte 108 = .ok (.if_icmp .eq 7, 3) := by decide +kernel
theorem d_mo_byPostbyte_111 : decode bc_mo_byPostbyte 111 = .ok (.iconst 1, 1) := by decide +kernel
theorem d_mo_byPostbyte_112 : decode bc_mo_byPostbyte 112 = .ok (.goto 4, 3) := by decide +kernel
theorem d_mo_byPostbyte_115 : decode bc_mo_byPostbyte 115 = .ok (.iconst 0, 1) := by decide +kernel
theorem d_mo_byPostbyte_116 : decode bc_mo_byPostbyte 116 = .ok (.putfield 56, 3) := by decide +kernel
theorem d_mo_byPostbyte_119 : decode bc_mo_byPostbyte 119 = .ok (.aload_n 0, 1) := by decide +kernel
theorem d_mo_byPostbyte_120 : decode bc_mo_byPostbyte 120 = .ok (.getfield 56, 3) := by decide +kernel
theorem d_mo_byPostbyte_123 : decode bc_mo_byPostbyte 123 = .ok (.ifCond .eq 5, 3) := by decide +kernel
theorem d_mo_byPostbyte_126 : decode bc_mo_byPostbyte 126 = .ok (.iconst 0, 1) := by decide +kernel
theorem d_mo_byPostbyte_127 : decode bc_mo_byPostbyte 127 = .ok (.ireturn, 1) := by decide +kernel
theorem d_mo_byPostbyte_128 : decode bc_mo_byPostbyte 128 = .ok (.iload_n 3, 1) := by decide +kernel
theorem d_mo_byPostbyte_129 : decode bc_mo_byPostbyte 129 = .ok (.iconst 2, 1) := by decide +kernel
theorem d_mo_byPostbyte_130 : decode bc_mo_byPostbyte 130 = .ok (.if_icmp .ge 18, 3) := by decide +kernel
theorem d_mo_byPostbyte_133 : decode bc_mo_byPostbyte 133 = .ok (.aload_n 0, 1) := by decide +kernel
theorem d_mo_byPostbyte_134 : decode bc_mo_byPostbyte 134 = .ok (.getfield 13, 3) := by decide +kernel
theorem d_mo_byPostbyte_137 : decode bc_mo_byPostbyte 137 = .ok (.iload_n 2, 1) := by decide +kernel
theorem d_mo_byPostbyte_138 : decode bc_mo_byPostbyte 138 = .ok (.iload 4, 2) := by decide +kernel
theorem d_mo_byPostbyte_140 : decode bc_mo_byPostbyte 140 = .ok (.iload_n 3, 1) := by decide +kernel
theorem d_mo_byPostbyte_141 : decode bc_mo_byPostbyte 141 = .ok (.iadd, 1) := by decide +kernel
theorem d_mo_byPostbyte_142 : decode bc_mo_byPostbyte 142 = .ok (.iconst 1, 1) := by decide +kernel
theorem d_mo_byPostbyte_143 : decode bc_mo_byPostbyte 143 = .ok (.iadd, 1) := by decide +kernel
theorem d_mo_byPostbyte_144 : decode bc_mo_byPostbyte 144 = .ok (.ldc 30, 2) := by decide +kernel
theorem d_mo_byPostbyte_146 : decode bc_mo_byPostbyte 146 = .ok (.iand, 1) := by decide +kernel
theorem d_mo_byPostbyte_147 : decode bc_mo_byPostbyte 147 = .ok (.iastore, 1) := by decide +kernel
theorem d_mo_byPostbyte_148 : decode bc_mo_byPostbyte 148 = .ok (.iload_n 3, 1) := by decide +kernel
theorem d_mo_byPostbyte_149 : decode bc_mo_byPostbyte 149 = .ok (.iconst 2, 1) := by decide +kernel
theorem d_mo_byPostbyte_150 : decode bc_mo_byPostbyte 150 = .ok (.if_icmp .eq 8, 3) := by decide +kernel
theorem d_mo_byPostbyte_153 : decode bc_mo_byPostbyte 153 = .ok (.iload_n 3, 1) := by decide +kernel
theorem d_mo_byPostbyte_154 : decode bc_mo_byPostbyte 154 = .ok (.iconst 3, 1) := by decide +kernel
theorem d_mo_byPostbyte_155 : decode bc_mo_byPostbyte 155 = .ok (.if_icmp .ne 22, 3) := by decide +kernel
theorem d_mo_byPostbyte_158 : decode bc_mo_byPostbyte 158 = .ok (.iload 4, 2) := by decide +kernel
theorem d_mo_byPostbyte_160 : decode bc_mo_byPostbyte 160 = .ok (.iload_n 3, 1) := by decide +kernel
theorem d_mo_byPostbyte_161 : decode bc_mo_byPostbyte 161 = .ok (.isub, 1) := by decide +kernel
theorem d_mo_byPostbyte_162 : decode bc_mo_byPostbyte 162 = .ok (.iconst 1, 1) := by decide +kernel
theorem d_mo_byPostbyte_163 : decode bc_mo_byPostbyte 163 = .ok (.iadd, 1) := by decide +kernel
theorem d_mo_byPostbyte_164 : decode bc_mo_byPostbyte 164 = .ok (.ldc 30, 2) := by decide +kernel
theorem d_mo_byPostbyte_166 : decode bc_mo_byPostbyte 166 = .ok (.iand, 1) := by decide +kernel
theorem d_mo_byPostbyte_167 : decode bc_mo_byPostbyte 167 = .ok (.istore 4, 2) := by decide +kernel
theorem d_mo_byPostbyte_169 : decode bc_mo_byPostbyte 169 = .ok (.aload_n 0, 1) := by decide +kernel
theorem d_mo_byPostbyte_170 : decode bc_mo_byPostbyte 170 = .ok (.getfield 13, 3) := by decide +kernel
theorem d_mo_byPostbyte_173 : decode bc_mo_byPostbyte 173 = .ok (.iload_n 2, 1) := by decide +kernel
theorem d_mo_byPostbyte_174 : decode bc_mo_byPostbyte 174 = .ok (.iload 4, 2) := by decide +kernel
theorem d_mo_byPostbyte_176 : decode bc_mo_byPostbyte 176 = .ok (.iastore, 1) := by decide +kernel
theorem d_mo_byPostbyte_177 : decode bc_mo_byPostbyte 177 = .ok (.iload_n 3, 1) := by decide +kernel
theorem d_mo_byPostbyte_178 : decode bc_mo_byPostbyte 178 = .ok (.iconst 5, 1) := by decide +kernel
theorem d_mo_byPostbyte_179 : decode bc_mo_byPostbyte 179 = .ok (.if_icmp .eq 9, 3) := by decide +kernel
theorem d_mo_byPostbyte_182 : decode bc_mo_byPostbyte 182 = .ok (.iload_n 3, 1) := by decide +kernel
theorem d_mo_byPostbyte_183 : decode bc_mo_byPostbyte 183 = .ok (.bipush 6, 2) := by decide +kernel
theorem d_mo_byPostbyte_185 : decode bc_mo_byPostbyte 185 = .ok (.if_icmp .ne 31, 3) := by decide +kernel
theorem d_mo_byPostbyte_188 : decode bc_mo_byPostbyte 188 = .ok (.iload 4, 2) := by decide +kernel
theorem d_mo_byPostbyte_190 : decode bc_mo_byPostbyte 190 = .ok (.iload_n 3, 1) := by decide +kernel
theorem d_mo_byPostbyte_191 : decode bc_mo_byPostbyte 191 = .ok (.iconst 5, 1) := by decide +kernel
theorem d_mo_byPostbyte_192 : decode bc_mo_byPostbyte 192 = .ok (.if_icmp .ne 12, 3) := by decide +kernel
theorem d_mo_byPostbyte_195 : decode bc_mo_byPostbyte 195 = .ok (.aload_n 0, 1) := by decide +kernel
theorem d_mo_byPostbyte_196 : decode bc_mo_byPostbyte 196 = .ok (.getfield 13, 3) := by decide +kernel
theorem d_mo_byPostbyte_199 : decode bc_mo_byPostbyte 199 = .ok (.iconst 1, 1) := by decide +kernel
theorem d_mo_byPostbyte_200 : decode bc_mo_byPostbyte 200 = .ok (.iaload, 1) := by decide +kernel
theorem d_mo_byPostbyte_201 : decode bc_mo_byPostbyte 201 = .ok (.goto 9, 3) := by decide +kernel
theorem d_mo_byPostbyte_204 : decode bc_mo_byPostbyte 204 = .ok (.aload_n 0, 1) := by decide +kernel
theorem d_mo_byPostbyte_205 : decode bc_mo_byPostbyte 205 = .ok (.getfield 13, 3) := by decide +kernel
theorem d_mo_byPostbyte_208 : decode bc_mo_byPostbyte 208 = .ok (.iconst 0, 1) := by decide +kernel
theorem d_mo_byPostbyte_209 : decode bc_mo_byPostbyte 209 = .ok (.iaload, 1) := by decide +kernel
theorem d_mo_byPostbyte_210 : decode bc_mo_byPostbyte 210 = .ok (.invokestatic 60, 3) := by decide +kernel
theorem d_mo_byPostbyte_213 : decode bc_mo_byPostbyte 213 = .ok (.iadd, 1) := by decide +kernel
theorem d_mo_byPostbyte_214 : decode bc_mo_byPostbyte 214 = .ok (.istore 4, 2) := by decide +kernel
theorem d_mo_byPostbyte_216 : decode bc_mo_byPostbyte 216 = .ok (.iload_n 3, 1) := by decide +kernel
theorem d_mo_byPostbyte_217 : decode bc_mo_byPostbyte 217 = .ok (.bipush 8, 2) := by decide +kernel
theorem d_mo_byPostbyte_219 : decode bc_mo_byPostbyte 219 = .ok (.if_icmp .ne 15, 3) := by decide +kernel
theorem d_mo_byPostbyte_222 : decode bc_mo_byPostbyte 222 = .ok (.iload 4, 2) := by decide +kernel
theorem d_mo_byPostbyte_224 : decode bc_mo_byPostbyte 224 = .ok (.aload_n 0, 1) := by decide +kernel
theorem d_mo_byPostbyte_225 : decode bc_mo_byPostbyte 225 = .ok (.invokevirtual 31, 3) := by decide +kernel
theorem d_mo_byPostbyte_228 : decode bc_mo_byPostbyte 228 = .ok (.invokestatic 60, 3) := by decide +kernel
theorem d_mo_byPostbyte_231 : decode bc_mo_byPostbyte 231 = .ok (.iadd, 1) := by decide +kernel
theorem d_mo_byPostbyte_232 : decode bc_mo_byPostbyte 232 = .ok (.istore 4, 2) := by decide +kernel
theorem d_mo_byPostbyte_234 : decode bc_mo_byPostbyte 234 = .ok (.iload_n 3, 1) := by decide +kernel
theorem d_mo_byPostbyte_235 : decode bc_mo_byPostbyte 235 = .ok (.bipush 9, 2) := by decide +kernel
theorem d_mo_byPostbyte_237 : decode bc_mo_byPostbyte 237 = .ok (.if_icmp .ne 12, 3) := by decide +kernel
theorem d_mo_byPostbyte_240 : decode bc_mo_byPostbyte 240 = .ok (.iload 4, 2) := by decide +kernel
theorem d_mo_byPostbyte_242 : decode bc_mo_byPostbyte 242 = .ok (.aload_n 0, 1) := by decide +kernel
theorem d_mo_byPostbyte_243 : decode bc_mo_byPostbyte 243 = .ok (.invokevirtual 63, 3) := by decide +kernel
theorem d_mo_byPostbyte_246 : decode bc_mo_byPostbyte 246 = .ok (.iadd, 1) := by decide +kernel
theorem d_mo_byPostbyte_247 : decode bc_mo_byPostbyte 247 = .ok (.istore 4, 2) := by decide +kernel
theorem d_mo_byPostbyte_249 : decode bc_mo_byPostbyte 249 = .ok (.iload_n 3, 1) := by decide +kernel
theorem d_mo_byPostbyte_250 : decode bc_mo_byPostbyte 250 = .ok (.bipush 11, 2) := by decide +kernel
theorem d_mo_byPostbyte_252 : decode bc_mo_byPostbyte 252 = .ok (.if_icmp .ne 12, 3) := by decide +kernel
theorem d_mo_byPostbyte_255 : decode bc_mo_byPostbyte 255 = .ok (.iload 4, 2) := by decide +kernel
theorem d_mo_byPostbyte_257 : decode bc_mo_byPostbyte 257 = .ok (.aload_n 0, 1) := by decide +kernel
theorem d_mo_byPostbyte_258 : decode bc_mo_byPostbyte 258 = .ok (.invokevirtual 66, 3) := by decide +kernel
theorem d_mo_byPostbyte_261 : decode bc_mo_byPostbyte 261 = .ok (.iadd, 1) := by decide +kernel
theorem d_mo_byPostbyte_262 : decode bc_mo_byPostbyte 262 = .ok (.istore 4, 2) := by decide +kernel
theorem d_mo_byPostbyte_264 : decode bc_mo_byPostbyte 264 = .ok (.iload_n 3, 1) := by decide +kernel
theorem d_mo_byPostbyte_265 : decode bc_mo_byPostbyte 265 = .ok (.bipush 12, 2) := by decide +kernel
theorem d_mo_byPostbyte_267 : decode bc_mo_byPostbyte 267 = .ok (.if_icmp .ne 24, 3) := by decide +kernel
theorem d_mo_byPostbyte_270 : decode bc_mo_byPostbyte 270 = .ok (.aload_n 0, 1) := by decide +kernel
theorem d_mo_byPostbyte_271 : decode bc_mo_byPostbyte 271 = .ok (.invokevirtual 31, 3) := by decide +kernel
theorem d_mo_byPostbyte_274 : decode bc_mo_byPostbyte 274 = .ok (.invokestatic 60, 3) := by decide +kernel
theorem d_mo_byPostbyte_277 : decode bc_mo_byPostbyte 277 = .ok (.istore 6, 2) := by decide +kernel
theorem d_mo_byPostbyte_279 : decode bc_mo_byPostbyte 279 = .ok (.aload_n 0, 1) := by decide +kernel
theorem d_mo_byPostbyte_280 : decode bc_mo_byPostbyte 280 = .ok (.getfield 13, 3) := by decide +kernel
theorem d_mo_byPostbyte_283 : decode bc_mo_byPostbyte 283 = .ok (.bipush 6, 2) := by decide +kernel
theorem d_mo_byPostbyte_285 : decode bc_mo_byPostbyte 285 = .ok (.iaload, 1) := by decide +kernel
theorem d_mo_byPostbyte_286 : decode bc_mo_byPostbyte 286 = .ok (.iload 6, 2) := by decide +kernel
theorem d_mo_byPostbyte_288 : decode bc_mo_byPostbyte 288 = .ok (.iadd, 1) := by decide +kernel
theorem d_mo_byPostbyte_289 : decode bc_mo_byPostbyte 289 = .ok (.istore 4, 2) := by decide +kernel
theorem d_mo_byPostbyte_291 : decode bc_mo_byPostbyte 291 = .ok (.iload_n 3, 1) := by decide +kernel
theorem d_mo_byPostbyte_292 : decode bc_mo_byPostbyte 292 = .ok (.bipush 13, 2) := by decide +kernel
theorem d_mo_byPostbyte_294 : decode bc_mo_byPostbyte 294 = .ok (.if_icmp .ne 21, 3) := by decide +kernel
theorem d_mo_byPostbyte_297 : decode bc_mo_byPostbyte 297 = .ok (.aload_n 0, 1) := by decide +kernel
theorem d_mo_byPostbyte_298 : decode bc_mo_byPostbyte 298 = .ok (.invokevirtual 63, 3) := by decide +kernel
theorem d_mo_byPostbyte_301 : decode bc_mo_byPostbyte 301 = .ok (.istore 6, 2) := by decide +kernel
theorem d_mo_byPostbyte_303 : decode bc_mo_byPostbyte 303 = .ok (.aload_n 0, 1) := by decide +kernel
theorem d_mo_byPostbyte_304 : decode bc_mo_byPostbyte 304 = .ok (.getfield 13, 3) := by decide +kernel
theorem d_mo_byPostbyte_307 : decode bc_mo_byPostbyte 307 = .ok (.bipush 6, 2) := by decide +kernel
theorem d_mo_byPostbyte_309 : decode bc_mo_byPostbyte 309 = .ok (.iaload, 1) := by decide +kernel
theorem d_mo_byPostbyte_310 : decode bc_mo_byPostbyte 310 = .ok (.iload 6, 2) := by decide +kernel
theorem d_mo_byPostbyte_312 : decode bc_mo_byPostbyte 312 = .ok (.iadd, 1) := by decide +kernel
theorem d_mo_byPostbyte_313 : decode bc_mo_byPostbyte 313 = .ok (.istore 4, 2) := by decide +kernel
theorem d_mo_byPostbyte_315 : decode bc_mo_byPostbyte 315 = .ok (.iload_n 3, 1) := by decide +kernel
theorem d_mo_byPostbyte_316 : decode bc_mo_byPostbyte 316 = .ok (.bipush 15, 2) := by decide +kernel
theorem d_mo_byPostbyte_318 : decode bc_mo_byPostbyte 318 = .ok (.if_icmp .ne 9, 3) := by decide +kernel
theorem d_mo_byPostbyte_321 : decode bc_mo_byPostbyte 321 = .ok (.aload_n 0, 1) := by decide +kernel
theorem d_mo_byPostbyte_322 : decode bc_mo_byPostbyte 322 = .ok (.invokevirtual 63, 3) := by decide +kernel
theorem d_mo_byPostbyte_325 : decode bc_mo_byPostbyte 325 = .ok (.istore 4, 2) := by decide +kernel
theorem d_mo_byPostbyte_327 : decode bc_mo_byPostbyte 327 = .ok (.iload 4, 2) := by decide +kernel
theorem d_mo_byPostbyte_329 : decode bc_mo_byPostbyte 329 = .ok (.ldc 30, 2) := by decide +kernel
theorem d_mo_byPostbyte_331 : decode bc_mo_byPostbyte 331 = .ok (.iand, 1) := by decide +kernel
theorem d_mo_byPostbyte_332 : decode bc_mo_byPostbyte 332 = .ok (.istore 4, 2) := by decide +kernel
theorem d_mo_byPostbyte_334 : decode bc_mo_byPostbyte 334 = .ok (.iload 5, 2) := by decide +kernel
theorem d_mo_byPostbyte_336 : decode bc_mo_byPostbyte 336 = .ok (.ifCond .eq 12, 3) := by decide +kernel
theorem d_mo_byPostbyte_339 : decode bc_mo_byPostbyte 339 = .ok (.aload_n 0, 1) := by decide +kernel
theorem d_mo_byPostbyte_340 : decode bc_mo_byPostbyte 340 = .ok (.iload 4, 2) := by decide +kernel
theorem d_mo_byPostbyte_342 : decode bc_mo_byPostbyte 342 = .ok (.invokevirtual 69, 3) := by decide +kernel
theorem d_mo_byPostbyte_345 : decode bc_mo_byPostbyte 345 = .ok (.goto 5, 3) := by decide +kernel
theorem d_mo_byPostbyte_348 : decode bc_mo_byPostbyte 348 = .ok (.iload 4, 2) := by decide +kernel
theorem d_mo_byPostbyte_350 : decode bc_mo_byPostbyte 350 = .ok (.ireturn, 1) := by decide +kernel
theorem d_mo_address_0 : decode bc_mo_address 0 = .ok (.iload_n 1, 1) := by decide +kernel
theorem d_mo_address_1 : decode bc_mo_address 1 = .ok (.iconst 2, 1) := by decide +kernel
theorem d_mo_address_2 : decode bc_mo_address 2 = .ok (.if_icmp .ne 8, 3) := by decide +kernel
theorem d_mo_address_5 : decode bc_mo_address 5 = .ok (.aload_n 0, 1) := by decide +kernel
theorem d_mo_address_6 : decode bc_mo_address 6 = .ok (.invokevirtual 72, 3) := by decide +kernel
theorem d_mo_address_9 : decode bc_mo_address 9 = .ok (.ireturn, 1) := by decide +kernel
theorem d_mo_address_10 : decode bc_mo_address 10 = .ok (.iload_n 1, 1) := by decide +kernel
theorem d_mo_address_11 : decode bc_mo_address 11 = .ok (.iconst 1, 1) := by decide +kernel
theorem d_mo_address_12 : decode bc_mo_address 12 = .ok (.if_icmp .ne 22, 3) := by decide +kernel
theorem d_mo_address_15 : decode bc_mo_address 15 = .ok (.sipush 256, 3) := by decide +kernel
theorem d_mo_address_18 : decode bc_mo_address 18 = .ok (.aload_n 0, 1) := by decide +kernel
theorem d_mo_address_19 : decode bc_mo_address 19 = .ok (.getfield 13, 3) := by decide +kernel
theorem d_mo_address_22 : decode bc_mo_address 22 = .ok (.bipush 7, 2) := by decide +kernel
theorem d_mo_address_24 : decode bc_mo_address 24 = .ok (.iaload, 1) := by decide +kernel
theorem d_mo_address_25 : decode bc_mo_address 25 = .ok (.imul, 1) := by decide +kernel
theorem d_mo_address_26 : decode bc_mo_address 26 = .ok (.aload_n 0, 1) := by decide +kernel
theorem d_mo_address_27 : decode bc_mo_address 27 = .ok (.invokevirtual 31, 3) := by decide +kernel
theorem d_mo_address_30 : decode bc_mo_address 30 = .ok (.iadd, 1) := by decide +kernel
theorem d_mo_address_31 : decode bc_mo_address 31 = .ok (.goto 7, 3) := by decide +kernel
theorem d_mo_address_34 : decode bc_mo_address 34 = .ok (.aload_n 0, 1) := by decide +kernel
theorem d_mo_address_35 : decode bc_mo_address 35 = .ok (.invokevirtual 63, 3) := by decide +kernel
theorem d_mo_address_38 : decode bc_mo_address 38 = .ok (.ireturn, 1) := by decide +kernel
theorem d_mo_operand_0 : decode bc_mo_operand 0 = .ok (.iload_n 1, 1) := by decide +kernel
theorem d_mo_operand_1 : decode bc_mo_operand 1 = .ok (.ifCond .ne 10, 3) := by decide +kernel
theorem d_mo_operand_4 : decode bc_mo_operand 4 = .ok (.aload_n 0, 1) := by decide +kernel
theorem d_mo_operand_5 : decode bc_mo_operand 5 = .ok (.invokevirtual 31, 3) := by decide +kernel
theorem d_mo_operand_8 : decode bc_mo_operand 8 = .ok (.goto 12, 3) := by decide +kernel
theorem d_mo_operand_11 : decode bc_mo_operand 11 = .ok (.aload_n 0, 1) := by decide +kernel
theorem d_mo_operand_12 : decode bc_mo_operand 12 = .ok (.aload_n 0, 1) := by decide +kernel
theorem d_mo_operand_13 : decode bc_mo_operand 13 = .ok (.iload_n 1, 1) := by decide +kernel
theorem d_mo_operand_14 : decode bc_mo_operand 14 = .ok (.invokevirtual 75, 3) := by decide +kernel
theorem d_mo_operand_17 : decode bc_mo_operand 17 = .ok (.invokevirtual 22, 3) := by decide +kernel
theorem d_mo_operand_20 : decode bc_mo_operand 20 = .ok (.ireturn, 1) := by decide +kernel
theorem d_mo_wordOperand_0 : decode bc_mo_wordOperand 0 = .ok (.iload_n 1, 1) := by decide +kernel
theorem d_mo_wordOperand_1 : decode bc_mo_wordOperand 1 = .ok (.ifCond .ne 10, 3) := by decide +kernel
theorem d_mo_wordOperand_4 : decode bc_mo_wordOperand 4 = .ok (.aload_n 0, 1) := by decide +kernel
theorem d_mo_wordOperand_5 : decode bc_mo_wordOperand 5 = .ok (.invokevirtual 63, 3) := by decide +kernel
theorem d_mo_wordOperand_8 : decode bc_mo_wordOperand 8 = .ok (.goto 12, 3) := by decide +kernel
theorem d_mo_wordOperand_11 : decode bc_mo_wordOperand 11 = .ok (.aload_n 0, 1) := by decide +kernel
theorem d_mo_wordOperand_12 : decode bc_mo_wordOperand 12 = .ok (.aload_n 0, 1) := by decide +kernel
theorem d_mo_wordOperand_13 : decode bc_mo_wordOperand 13 = .ok (.iload_n 1, 1) := by decide +kernel
theorem d_mo_wordOperand_14 : decode bc_mo_wordOperand 14 = .ok (.invokevirtual 75, 3) := by decide +kernel
theorem d_mo_wordOperand_17 : decode bc_mo_wordOperand 17 = .ok (.invokevirtual 69, 3) := by decide +kernel
theorem d_mo_wordOperand_20 : decode bc_mo_wordOperand 20 = .ok (.ireturn, 1) := by decide +kernel
theorem d_mo_push_0 : decode bc_mo_push 0 = .ok (.aload_n 0, 1) := by decide +kernel
theorem d_mo_push_1 : decode bc_mo_push 1 = .ok (.getfield 13, 3) := by decide +kernel
theorem d_mo_push_4 : decode bc_mo_push 4 = .ok (.iload_n 1, 1) := by decide +kernel
theorem d_mo_push_5 : decode bc_mo_push 5 = .ok (.aload_n 0, 1) := by decide +kernel
theorem d_mo_push_6 : decode bc_mo_push 6 = .ok (.getfield 13, 3) := by decide +kernel
theorem d_mo_push_9 : decode bc_mo_push 9 = .ok (.iload_n 1, 1) := by decide +kernel
theorem d_mo_push_10 : decode bc_mo_push 10 = .ok (.iaload, 1) := by decide +kernel
theorem d_mo_push_11 : decode bc_mo_push 11 = .ok (.iconst 1, 1) := by decide +kernel
theorem d_mo_push_12 : decode bc_mo_push 12 = .ok (.isub, 1) := by decide +kernel
theorem d_mo_push_13 : decode bc_mo_push 13 = .ok (.ldc 30, 2) := by decide +kernel
theorem d_mo_push_15 : decode bc_mo_push 15 = .ok (.iand, 1) := by decide +kernel
theorem d_mo_push_16 : decode bc_mo_push 16 = .ok (.iastore, 1) := by decide +kernel
theorem d_mo_push_17 : decode bc_mo_push 17 = .ok (.aload_n 0, 1) := by decide +kernel
theorem d_mo_push_18 : decode bc_mo_push 18 = .ok (.aload_n 0, 1) := by decide +kernel
theorem d_mo_push_19 : decode bc_mo_push 19 = .ok (.getfield 13, 3) := by decide +kernel
theorem d_mo_push_22 : decode bc_mo_push 22 = .ok (.iload_n 1, 1) := by decide +kernel
theorem d_mo_push_23 : decode bc_mo_push 23 = .ok (.iaload, 1) := by decide +kernel
theorem d_mo_push_24 : decode bc_mo_push 24 = .ok (.iload_n 2, 1) := by decide +kernel
theorem d_mo_push_25 : decode bc_mo_push 25 = .ok (.invokevirtual 26, 3) := by decide +kernel
theorem d_mo_push_28 : decode bc_mo_push 28 = .ok (.return_, 1) := by decide +kernel
theorem d_mo_pushWord_0 : decode bc_mo_pushWord 0 = .ok (.aload_n 0, 1) := by decide +kernel
theorem d_mo_pushWord_1 : decode bc_mo_pushWord 1 = .ok (.iload_n 1, 1) := by decide +kernel
theorem d_mo_pushWord_2 : decode bc_mo_pushWord 2 = .ok (.iload_n 2, 1) := by decide +kernel
theorem d_mo_pushWord_3 : decode bc_mo_pushWord 3 = .ok (.sipush 255, 3) := by decide +kernel
theorem d_mo_pushWord_6 : decode bc_mo_pushWord 6 = .ok (.iand, 1) := by decide +kernel
theorem d_mo_pushWord_7 : decode bc_mo_pushWord 7 = .ok (.invokevirtual 78, 3) := by decide +kernel
theorem d_mo_pushWord_10 : decode bc_mo_pushWord 10 = .ok (.aload_n 0, 1) := by decide +kernel
theorem d_mo_pushWord_11 : decode bc_mo_pushWord 11 = .ok (.iload_n 1, 1) := by decide +kernel
theorem d_mo_pushWord_12 : decode bc_mo_pushWord 12 = .ok (.iload_n 2, 1) := by decide +kernel
theorem d_mo_pushWord_13 : decode bc_mo_pushWord 13 = .ok (.bipush 8, 2) := by decide +kernel
theorem d_mo_pushWord_15 : decode bc_mo_pushWord 15 = .ok (.ishr, 1) := by decide +kernel
theorem d_mo_pushWord_16 : decode bc_mo_pushWord 16 = .ok (.invokevirtual 78, 3) := by decide +kernel
theorem d_mo_pushWord_19 : decode bc_mo_pushWord 19 = .ok (.return_, 1) := by decide +kernel
theorem d_mo_pull_0 : decode bc_mo_pull 0 = .ok (.aload_n 0, 1) := by decide +kernel
theorem d_mo_pull_1 : decode bc_mo_pull 1 = .ok (.aload_n 0, 1) := by decide +kernel
theorem d_mo_pull_2 : decode bc_mo_pull 2 = .ok (.getfield 13, 3) := by decide +kernel
theorem d_mo_pull_5 : decode bc_mo_pull 5 = .ok (.iload_n 1, 1) := by decide +kernel
theorem d_mo_pull_6 : decode bc_mo_pull 6 = .ok (.iaload, 1) := by decide +kernel
theorem d_mo_pull_7 : decode bc_mo_pull 7 = .ok (.invokevirtual 22, 3) := by decide +kernel
theorem d_mo_pull_10 : decode bc_mo_pull 10 = .ok (.istore_n 2, 1) := by decide +kernel
theorem d_mo_pull_11 : decode bc_mo_pull 11 = .ok (.aload_n 0, 1) := by decide +kernel
theorem d_mo_pull_12 : decode bc_mo_pull 12 = .ok (.getfield 13, 3) := by decide +kernel
theorem d_mo_pull_15 : decode bc_mo_pull 15 = .ok (.iload_n 1, 1) := by decide +kernel
theorem d_mo_pull_16 : decode bc_mo_pull 16 = .ok (.aload_n 0, 1) := by decide +kernel
theorem d_mo_pull_17 : decode bc_mo_pull 17 = .ok (.getfield 13, 3) := by decide +kernel
theorem d_mo_pull_20 : decode bc_mo_pull 20 = .ok (.iload_n 1, 1) := by decide +kernel
theorem d_mo_pull_21 : decode bc_mo_pull 21 = .ok (.iaload, 1) := by decide +kernel
theorem d_mo_pull_22 : decode bc_mo_pull 22 = .ok (.iconst 1, 1) := by decide +kernel
theorem d_mo_pull_23 : decode bc_mo_pull 23 = .ok (.iadd, 1) := by decide +kernel
theorem d_mo_pull_24 : decode bc_mo_pull 24 = .ok (.ldc 30, 2) := by decide +kernel
theorem d_mo_pull_26 : decode bc_mo_pull 26 = .ok (.iand, 1) := by decide +kernel
theorem d_mo_pull_27 : decode bc_mo_pull 27 = .ok (.iastore, 1) := by decide +kernel
theorem d_mo_pull_28 : decode bc_mo_pull 28 = .ok (.iload_n 2, 1) := by decide +kernel
theorem d_mo_pull_29 : decode bc_mo_pull 29 = .ok (.ireturn, 1) := by decide +kernel
theorem d_mo_pullWord_0 : decode bc_mo_pullWord 0 = .ok (.aload_n 0, 1) := by decide +kernel
theorem d_mo_pullWord_1 : decode bc_mo_pullWord 1 = .ok (.iload_n 1, 1) := by decide +kernel
theorem d_mo_pullWord_2 : decode bc_mo_pullWord 2 = .ok (.invokevirtual 81, 3) := by decide +kernel
theorem d_mo_pullWord_5 : decode bc_mo_pullWord 5 = .ok (.istore_n 2, 1) := by decide +kernel
theorem d_mo_pullWord_6 : decode bc_mo_pullWord 6 = .ok (.sipush 256, 3) := by decide +kernel
theorem d_mo_pullWord_9 : decode bc_mo_pullWord 9 = .ok (.iload_n 2, 1) := by decide +kernel
theorem d_mo_pullWord_10 : decode bc_mo_pullWord 10 = .ok (.imul, 1) := by decide +kernel
theorem d_mo_pullWord_11 : decode bc_mo_pullWord 11 = .ok (.aload_n 0, 1) := by decide +kernel
theorem d_mo_pullWord_12 : decode bc_mo_pullWord 12 = .ok (.iload_n 1, 1) := by decide +kernel
theorem d_mo_pullWord_13 : decode bc_mo_pullWord 13 = .ok (.invokevirtual 81, 3) := by decide +kernel
theorem d_mo_pullWord_16 : decode bc_mo_pullWord 16 = .ok (.iadd, 1) := by decide +kernel
theorem d_mo_pullWord_17 : decode bc_mo_pullWord 17 = .ok (.ireturn, 1) := by decide +kernel
theorem d_mo_pushAll_0 : decode bc_mo_pushAll 0 = .ok (.iload_n 2, 1) := by decide +kernel
theorem d_mo_pushAll_1 : decode bc_mo_pushAll 1 = .ok (.sipush 128, 3) := by decide +kernel
theorem d_mo_pushAll_4 : decode bc_mo_pushAll 4 = .ok (.iand, 1) := by decide +kernel
theorem d_mo_pushAll_5 : decode bc_mo_pushAll 5 = .ok (.ifCond .eq 15, 3) := by decide +kernel
theorem d_mo_pushAll_8 : decode bc_mo_pushAll 8 = .ok (.aload_n 0, 1) := by decide +kernel
theorem d_mo_pushAll_9 : decode bc_mo_pushAll 9 = .ok (.iload_n 1, 1) := by decide +kernel
theorem d_mo_pushAll_10 : decode bc_mo_pushAll 10 = .ok (.aload_n 0, 1) := by decide +kernel
theorem d_mo_pushAll_11 : decode bc_mo_pushAll 11 = .ok (.getfield 13, 3) := by decide +kernel
theorem d_mo_pushAll_14 : decode bc_mo_pushAll 14 = .ok (.bipush 6, 2) := by decide +kernel
theorem d_mo_pushAll_16 : decode bc_mo_pushAll 16 = .ok (.iaload, 1) := by decide +kernel
theorem d_mo_pushAll_17 : decode bc_mo_pushAll 17 = .ok (.invokevirtual 84, 3) := by decide +kernel
theorem d_mo_pushAll_20 : decode bc_mo_pushAll 20 = .ok (.iload_n 2, 1) := by decide +kernel
theorem d_mo_pushAll_21 : decode bc_mo_pushAll 21 = .ok (.bipush 64, 2) := by decide +kernel
theorem d_mo_pushAll_23 : decode bc_mo_pushAll 23 = .ok (.iand, 1) := by decide +kernel
theorem d_mo_pushAll_24 : decode bc_mo_pushAll 24 = .ok (.ifCond .eq 23, 3) := by decide +kernel
theorem d_mo_pushAll_27 : decode bc_mo_pushAll 27 = .ok (.aload_n 0, 1) := by decide +kernel
theorem d_mo_pushAll_28 : decode bc_mo_pushAll 28 = .ok (.iload_n 1, 1) := by decide +kernel
theorem d_mo_pushAll_29 : decode bc_mo_pushAll 29 = .ok (.aload_n 0, 1) := by decide +kernel
theorem d_mo_pushAll_30 : decode bc_mo_pushAll 30 = .ok (.getfield 13, 3) := by decide +kernel
theorem d_mo_pushAll_33 : decode bc_mo_pushAll 33 = .ok (.iload_n 1, 1) := by decide +kernel
theorem d_mo_pushAll_34 : decode bc_mo_pushAll 34 = .ok (.iconst 5, 1) := by decide +kernel
theorem d_mo_pushAll_35 : decode bc_mo_pushAll 35 = .ok (.if_icmp .ne 7, 3) := by decide +kernel
theorem d_mo_pushAll_38 : decode bc_mo_pushAll 38 = .ok (.iconst 4, 1) := by decide +kernel
theorem d_mo_pushAll_39 : decode bc_mo_pushAll 39 = .ok (.goto 4, 3) := by decide +kernel
theorem d_mo_pushAll_42 : decode bc_mo_pushAll 42 = .ok (.iconst 5, 1) := by decide +kernel
theorem d_mo_pushAll_43 : decode bc_mo_pushAll 43 = .ok (.iaload, 1) := by decide +kernel
theorem d_mo_pushAll_44 : decode bc_mo_pushAll 44 = .ok (.invokevirtual 84, 3) := by decide +kernel
theorem d_mo_pushAll_47 : decode bc_mo_pushAll 47 = .ok (.iload_n 2, 1) := by decide +kernel
theorem d_mo_pushAll_48 : decode bc_mo_pushAll 48 = .ok (.bipush 32, 2) := by decide +kernel
theorem d_mo_pushAll_50 : decode bc_mo_pushAll 50 = .ok (.iand, 1) := by decide +kernel
theorem d_mo_pushAll_51 : decode bc_mo_pushAll 51 = .ok (.ifCond .eq 14, 3) := by decide +kernel
theorem d_mo_pushAll_54 : decode bc_mo_pushAll 54 = .ok (.aload_n 0, 1) := by decide +kernel
theorem d_mo_pushAll_55 : decode bc_mo_pushAll 55 = .ok (.iload_n 1, 1) := by decide +kernel
theorem d_mo_pushAll_56 : decode bc_mo_pushAll 56 = .ok (.aload_n 0, 1) := by decide +kernel
theorem d_mo_pushAll_57 : decode bc_mo_pushAll 57 = .ok (.getfield 13, 3) := by decide +kernel
theorem d_mo_pushAll_60 : decode bc_mo_pushAll 60 = .ok (.iconst 3, 1) := by decide +kernel
theorem d_mo_pushAll_61 : decode bc_mo_pushAll 61 = .ok (.iaload, 1) := by decide +kernel
theorem d_mo_pushAll_62 : decode bc_mo_pushAll 62 = .ok (.invokevirtual 84, 3) := by decide +kernel
theorem d_mo_pushAll_65 : decode bc_mo_pushAll 65 = .ok (.iload_n 2, 1) := by decide +kernel
theorem d_mo_pushAll_66 : decode bc_mo_pushAll 66 = .ok (.bipush 16, 2) := by decide +kernel
theorem d_mo_pushAll_68 : decode bc_mo_pushAll 68 = .ok (.iand, 1) := by decide +kernel
theorem d_mo_pushAll_69 : decode bc_mo_pushAll 69 = .ok (.ifCond .eq 14, 3) := by decide +kernel
theorem d_mo_pushAll_72 : decode bc_mo_pushAll 72 = .ok (.aload_n 0, 1) := by decide +kernel
theorem d_mo_pushAll_73 : decode bc_mo_pushAll 73 = .ok (.iload_n 1, 1) := by decide +kernel
theorem d_mo_pushAll_74 : decode bc_mo_pushAll 74 = .ok (.aload_n 0, 1) := by decide +kernel
theorem d_mo_pushAll_75 : decode bc_mo_pushAll 75 = .ok (.getfield 13, 3) := by decide +kernel
theorem d_mo_pushAll_78 : decode bc_mo_pushAll 78 = .ok (.iconst 2, 1) := by decide +kernel
theorem d_mo_pushAll_79 : decode bc_mo_pushAll 79 = .ok (.iaload, 1) := by decide +kernel
theorem d_mo_pushAll_80 : decode bc_mo_pushAll 80 = .ok (.invokevirtual 84, 3) := by decide +kernel
theorem d_mo_pushAll_83 : decode bc_mo_pushAll 83 = .ok (.iload_n 2, 1) := by decide +kernel
theorem d_mo_pushAll_84 : decode bc_mo_pushAll 84 = .ok (.bipush 8, 2) := by decide +kernel
theorem d_mo_pushAll_86 : decode bc_mo_pushAll 86 = .ok (.iand, 1) := by decide +kernel
theorem d_mo_pushAll_87 : decode bc_mo_pushAll 87 = .ok (.ifCond .eq 15, 3) := by decide +kernel
theorem d_mo_pushAll_90 : decode bc_mo_pushAll 90 = .ok (.aload_n 0, 1) := by decide +kernel
theorem d_mo_pushAll_91 : decode bc_mo_pushAll 91 = .ok (.iload_n 1, 1) := by decide +kernel
theorem d_mo_pushAll_92 : decode bc_mo_pushAll 92 = .ok (.aload_n 0, 1) := by decide +kernel
theorem d_mo_pushAll_93 : decode bc_mo_pushAll 93 = .ok (.getfield 13, 3) := by decide +kernel
theorem d_mo_pushAll_96 : decode bc_mo_pushAll 96 = .ok (.bipush 7, 2) := by decide +kernel
theorem d_mo_pushAll_98 : decode bc_mo_pushAll 98 = .ok (.iaload, 1) := by decide +kernel
theorem d_mo_pushAll_99 : decode bc_mo_pushAll 99 = .ok (.invokevirtual 78, 3) := by decide +kernel
theorem d_mo_pushAll_102 : decode bc_mo_pushAll 102 = .ok (.iload_n 2, 1) := by decide +kernel
theorem d_mo_pushAll_103 : decode bc_mo_pushAll 103 = .ok (.iconst 4, 1) := by decide +kernel
theorem d_mo_pushAll_104 : decode bc_mo_pushAll 104 = .ok (.iand, 1) := by decide +kernel
theorem d_mo_pushAll_105 : decode bc_mo_pushAll 105 = .ok (.ifCond .eq 14, 3) := by decide +kernel
theorem d_mo_pushAll_108 : decode bc_mo_pushAll 108 = .ok (.aload_n 0, 1) := by decide +kernel
theorem d_mo_pushAll_109 : decode bc_mo_pushAll 109 = .ok (.iload_n 1, 1) := by decide +kernel
theorem d_mo_pushAll_110 : decode bc_mo_pushAll 110 = .ok (.aload_n 0, 1) := by decide +kernel
theorem d_mo_pushAll_111 : decode bc_mo_pushAll 111 = .ok (.getfield 13, 3) := by decide +kernel
theorem d_mo_pushAll_114 : decode bc_mo_pushAll 114 = .ok (.iconst 1, 1) := by decide +kernel
theorem d_mo_pushAll_115 : decode bc_mo_pushAll 115 = .ok (.iaload, 1) := by decide +kernel
theorem d_mo_pushAll_116 : decode bc_mo_pushAll 116 = .ok (.invokevirtual 78, 3) := by decide +kernel
theorem d_mo_pushAll_119 : decode bc_mo_pushAll 119 = .ok (.iload_n 2, 1) := by decide +kernel
theorem d_mo_pushAll_120 : decode bc_mo_pushAll 120 = .ok (.iconst 2, 1) := by decide +kernel
theorem d_mo_pushAll_121 : decode bc_mo_pushAll 121 = .ok (.iand, 1) := by decide +kernel
theorem d_mo_pushAll_122 : decode bc_mo_pushAll 122 = .ok (.ifCond .eq 14, 3) := by decide +kernel
theorem d_mo_pushAll_125 : decode bc_mo_pushAll 125 = .ok (.aload_n 0, 1) := by decide +kernel
theorem d_mo_pushAll_126 : decode bc_mo_pushAll 126 = .ok (.iload_n 1, 1) := by decide +kernel
theorem d_mo_pushAll_127 : decode bc_mo_pushAll 127 = .ok (.aload_n 0, 1) := by decide +kernel
theorem d_mo_pushAll_128 : decode bc_mo_pushAll 128 = .ok (.getfield 13, 3) := by decide +kernel
theorem d_mo_pushAll_131 : decode bc_mo_pushAll 131 = .ok (.iconst 0, 1) := by decide +kernel
theorem d_mo_pushAll_132 : decode bc_mo_pushAll 132 = .ok (.iaload, 1) := by decide +kernel
theorem d_mo_pushAll_133 : decode bc_mo_pushAll 133 = .ok (.invokevirtual 78, 3) := by decide +kernel
theorem d_mo_pushAll_136 : decode bc_mo_pushAll 136 = .ok (.iload_n 2, 1) := by decide +kernel
theorem d_mo_pushAll_137 : decode bc_mo_pushAll 137 = .ok (.iconst 1, 1) := by decide +kernel
theorem d_mo_pushAll_138 : decode bc_mo_pushAll 138 = .ok (.iand, 1) := by decide +kernel
theorem d_mo_pushAll_139 : decode bc_mo_pushAll 139 = .ok (.ifCond .eq 15, 3) := by decide +kernel
theorem d_mo_pushAll_142 : decode bc_mo_pushAll 142 = .ok (.aload_n 0, 1) := by decide +kernel
theorem d_mo_pushAll_143 : decode bc_mo_pushAll 143 = .ok (.iload_n 1, 1) := by decide +kernel
theorem d_mo_pushAll_144 : decode bc_mo_pushAll 144 = .ok (.aload_n 0, 1) := by decide +kernel
theorem d_mo_pushAll_145 : decode bc_mo_pushAll 145 = .ok (.getfield 13, 3) := by decide +kernel
theorem d_mo_pushAll_148 : decode bc_mo_pushAll 148 = .ok (.bipush 8, 2) := by decide +kernel
theorem d_mo_pushAll_150 : decode bc_mo_pushAll 150 = .ok (.iaload, 1) := by decide +kernel
theorem d_mo_pushAll_151 : decode bc_mo_pushAll 151 = .ok (.invokevirtual 78, 3) := by decide +kernel
theorem d_mo_pushAll_154 : decode bc_mo_pushAll 154 = .ok (.return_, 1) := by decide +kernel
theorem d_mo_pullAll_0 : decode bc_mo_pullAll 0 = .ok (.iload_n 2, 1) := by decide +kernel
theorem d_mo_pullAll_1 : decode bc_mo_pullAll 1 = .ok (.iconst 1, 1) := by decide +kernel
theorem d_mo_pullAll_2 : decode bc_mo_pullAll 2 = .ok (.iand, 1) := by decide +kernel
theorem d_mo_pullAll_3 : decode bc_mo_pullAll 3 = .ok (.ifCond .eq 15, 3) := by decide +kernel
theorem d_mo_pullAll_6 : decode bc_mo_pullAll 6 = .ok (.aload_n 0, 1) := by decide +kernel
theorem d_mo_pullAll_7 : decode bc_mo_pullAll 7 = .ok (.getfield 13, 3) := by decide +kernel
theorem d_mo_pullAll_10 : decode bc_mo_pullAll 10 = .ok (.bipush 8, 2) := by decide +kernel
theorem d_mo_pullAll_12 : decode bc_mo_pullAll 12 = .ok (.aload_n 0, 1) := by decide +kernel
theorem d_mo_pullAll_13 : decode bc_mo_pullAll 13 = .ok (.iload_n 1, 1) := by decide +kernel
theorem d_mo_pullAll_14 : decode bc_mo_pullAll 14 = .ok (.invokevirtual 81, 3) := by decide +kernel
theorem d_mo_pullAll_17 : decode bc_mo_pullAll 17 = .ok (.iastore, 1) := by decide +kernel
theorem d_mo_pullAll_18 : decode bc_mo_pullAll 18 = .ok (.iload_n 2, 1) := by decide +kernel
theorem d_mo_pullAll_19 : decode bc_mo_pullAll 19 = .ok (.iconst 2, 1) := by decide +kernel
theorem d_mo_pullAll_20 : decode bc_mo_pullAll 20 = .ok (.iand, 1) := by decide +kernel
theorem d_mo_pullAll_21 : decode bc_mo_pullAll 21 = .ok (.ifCond .eq 14, 3) := by decide +kernel
theorem d_mo_pullAll_24 : decode bc_mo_pullAll 24 = .ok (.aload_n 0, 1) := by decide +kernel
theorem d_mo_pullAll_25 : decode bc_mo_pullAll 25 = .ok (.getfield 13, 3) := by decide +kernel
theorem d_mo_pullAll_28 : decode bc_mo_pullAll 28 = .ok (.iconst 0, 1) := by decide +kernel
theorem d_mo_pullAll_29 : decode bc_mo_pullAll 29 = .ok (.aload_n 0, 1) := by decide +kernel
theorem d_mo_pullAll_30 : decode bc_mo_pullAll 30 = .ok (.iload_n 1, 1) := by decide +kernel
theorem d_mo_pullAll_31 : decode bc_mo_pullAll 31 = .ok (.invokevirtual 81, 3) := by decide +kernel
theorem d_mo_pullAll_34 : decode bc_mo_pullAll 34 = .ok (.iastore, 1) := by decide +kernel
theorem d_mo_pullAll_35 : decode bc_mo_pullAll 35 = .ok (.iload_n 2, 1) := by decide +kernel
theorem d_mo_pullAll_36 : decode bc_mo_pullAll 36 = .ok (.iconst 4, 1) := by decide +kernel
theorem d_mo_pullAll_37 : decode bc_mo_pullAll 37 = .ok (.iand, 1) := by decide +kernel
theorem d_mo_pullAll_38 : decode bc_mo_pullAll 38 = .ok (.ifCond .eq 14, 3) := by decide +kernel
theorem d_mo_pullAll_41 : decode bc_mo_pullAll 41 = .ok (.aload_n 0, 1) := by decide +kernel
theorem d_mo_pullAll_42 : decode bc_mo_pullAll 42 = .ok (.getfield 13, 3) := by decide +kernel
theorem d_mo_pullAll_45 : decode bc_mo_pullAll 45 = .ok (.iconst 1, 1) := by decide +kernel
theorem d_mo_pullAll_46 : decode bc_mo_pullAll 46 = .ok (.aload_n 0, 1) := by decide +kernel
theorem d_mo_pullAll_47 : decode bc_mo_pullAll 47 = .ok (.iload_n 1, 1) := by decide +kernel
theorem d_mo_pullAll_48 : decode bc_mo_pullAll 48 = .ok (.invokevirtual 81, 3) := by decide +kernel
theorem d_mo_pullAll_51 : decode bc_mo_pullAll 51 = .ok (.iastore, 1) := by decide +kernel
theorem d_mo_pullAll_52 : decode bc_mo_pullAll 52 = .ok (.iload_n 2, 1) := by decide +kernel
theorem d_mo_pullAll_53 : decode bc_mo_pullAll 53 = .ok (.bipush 8, 2) := by decide +kernel
theorem d_mo_pullAll_55 : decode bc_mo_pullAll 55 = .ok (.iand, 1) := by decide +kernel
theorem d_mo_pullAll_56 : decode bc_mo_pullAll 56 = .ok (.ifCond .eq 15, 3) := by decide +kernel
theorem d_mo_pullAll_59 : decode bc_mo_pullAll 59 = .ok (.aload_n 0, 1) := by decide +kernel
theorem d_mo_pullAll_60 : decode bc_mo_pullAll 60 = .ok (.getfield 13, 3) := by decide +kernel
theorem d_mo_pullAll_63 : decode bc_mo_pullAll 63 = .ok (.bipush 7, 2) := by decide +kernel
theorem d_mo_pullAll_65 : decode bc_mo_pullAll 65 = .ok (.aload_n 0, 1) := by decide +kernel
theorem d_mo_pullAll_66 : decode bc_mo_pullAll 66 = .ok (.iload_n 1, 1) := by decide +kernel
theorem d_mo_pullAll_67 : decode bc_mo_pullAll 67 = .ok (.invokevirtual 81, 3) := by decide +kernel
theorem d_mo_pullAll_70 : decode bc_mo_pullAll 70 = .ok (.iastore, 1) := by decide +kernel
theorem d_mo_pullAll_71 : decode bc_mo_pullAll 71 = .ok (.iload_n 2, 1) := by decide +kernel
theorem d_mo_pullAll_72 : decode bc_mo_pullAll 72 = .ok (.bipush 16, 2) := by decide +kernel
theorem d_mo_pullAll_74 : decode bc_mo_pullAll 74 = .ok (.iand, 1) := by decide +kernel
theorem d_mo_pullAll_75 : decode bc_mo_pullAll 75 = .ok (.ifCond .eq 14, 3) := by decide +kernel
theorem d_mo_pullAll_78 : decode bc_mo_pullAll 78 = .ok (.aload_n 0, 1) := by decide +kernel
theorem d_mo_pullAll_79 : decode bc_mo_pullAll 79 = .ok (.getfield 13, 3) := by decide +kernel
theorem d_mo_pullAll_82 : decode bc_mo_pullAll 82 = .ok (.iconst 2, 1) := by decide +kernel
theorem d_mo_pullAll_83 : decode bc_mo_pullAll 83 = .ok (.aload_n 0, 1) := by decide +kernel
theorem d_mo_pullAll_84 : decode bc_mo_pullAll 84 = .ok (.iload_n 1, 1) := by decide +kernel
theorem d_mo_pullAll_85 : decode bc_mo_pullAll 85 = .ok (.invokevirtual 87, 3) := by decide +kernel
theorem d_mo_pullAll_88 : decode bc_mo_pullAll 88 = .ok (.iastore, 1) := by decide +kernel
theorem d_mo_pullAll_89 : decode bc_mo_pullAll 89 = .ok (.iload_n 2, 1) := by decide +kernel
theorem d_mo_pullAll_90 : decode bc_mo_pullAll 90 = .ok (.bipush 32, 2) := by decide +kernel
theorem d_mo_pullAll_92 : decode bc_mo_pullAll 92 = .ok (.iand, 1) := by decide +kernel
theorem d_mo_pullAll_93 : decode bc_mo_pullAll 93 = .ok (.ifCond .eq 14, 3) := by decide +kernel
theorem d_mo_pullAll_96 : decode bc_mo_pullAll 96 = .ok (.aload_n 0, 1) := by decide +kernel
theorem d_mo_pullAll_97 : decode bc_mo_pullAll 97 = .ok (.getfield 13, 3) := by decide +kernel
theorem d_mo_pullAll_100 : decode bc_mo_pullAll 100 = .ok (.iconst 3, 1) := by decide +kernel
theorem d_mo_pullAll_101 : decode bc_mo_pullAll 101 = .ok (.aload_n 0, 1) := by decide +kernel
theorem d_mo_pullAll_102 : decode bc_mo_pullAll 102 = .ok (.iload_n 1, 1) := by decide +kernel
theorem d_mo_pullAll_103 : decode bc_mo_pullAll 103 = .ok (.invokevirtual 87, 3) := by decide +kernel
theorem d_mo_pullAll_106 : decode bc_mo_pullAll 106 = .ok (.iastore, 1) := by decide +kernel
theorem d_mo_pullAll_107 : decode bc_mo_pullAll 107 = .ok (.iload_n 2, 1) := by decide +kernel
theorem d_mo_pullAll_108 : decode bc_mo_pullAll 108 = .ok (.bipush 64, 2) := by decide +kernel
theorem d_mo_pullAll_110 : decode bc_mo_pullAll 110 = .ok (.iand, 1) := by decide +kernel
theorem d_mo_pullAll_111 : decode bc_mo_pullAll 111 = .ok (.ifCond .eq 46, 3) := by decide +kernel
theorem d_mo_pullAll_114 : decode bc_mo_pullAll 114 = .ok (.iload_n 1, 1) := by decide +kernel
theorem d_mo_pullAll_115 : decode bc_mo_pullAll 115 = .ok (.iconst 5, 1) := by decide +kernel
theorem d_mo_pullAll_116 : decode bc_mo_pullAll 116 = .ok (.if_icmp .ne 7, 3) := by decide +kernel
theorem d_mo_pullAll_119 : decode bc_mo_pullAll 119 = .ok (.iconst 4, 1) := by decide +kernel
theorem d_mo_pullAll_120 : decode bc_mo_pullAll 120 = .ok (.goto 4, 3) := by decide +kernel
theorem d_mo_pullAll_123 : decode bc_mo_pullAll 123 = .ok (.iconst 5, 1) := by decide +kernel
theorem d_mo_pullAll_124 : decode bc_mo_pullAll 124 = .ok (.istore_n 3, 1) := by decide +kernel
theorem d_mo_pullAll_125 : decode bc_mo_pullAll 125 = .ok (.aload_n 0, 1) := by decide +kernel
theorem d_mo_pullAll_126 : decode bc_mo_pullAll 126 = .ok (.getfield 13, 3) := by decide +kernel
theorem d_mo_pullAll_129 : decode bc_mo_pullAll 129 = .ok (.iload_n 3, 1) := by decide +kernel
theorem d_mo_pullAll_130 : decode bc_mo_pullAll 130 = .ok (.aload_n 0, 1) := by decide +kernel
theorem d_mo_pullAll_131 : decode bc_mo_pullAll 131 = .ok (.iload_n 1, 1) := by decide +kernel
theorem d_mo_pullAll_132 : decode bc_mo_pullAll 132 = .ok (.invokevirtual 87, 3) := by decide +kernel
theorem d_mo_pullAll_135 : decode bc_mo_pullAll 135 = .ok (.iastore, 1) := by decide +kernel
theorem d_mo_pullAll_136 : decode bc_mo_pullAll 136 = .ok (.aload_n 0, 1) := by decide +kernel
theorem d_mo_pullAll_137 : decode bc_mo_pullAll 137 = .ok (.aload_n 0, 1) := by decide +kernel
theorem d_mo_pullAll_138 : decode bc_mo_pullAll 138 = .ok (.getfield 90, 3) := by decide +kernel
theorem d_mo_pullAll_141 : decode bc_mo_pullAll 141 = .ok (.ifCond .ne 8, 3) := by decide +kernel
theorem d_mo_pullAll_144 : decode bc_mo_pullAll 144 = .ok (.iload_n 3, 1) := by decide +kernel
theorem d_mo_pullAll_145 : decode bc_mo_pullAll 145 = .ok (.iconst 5, 1) := by decide +kernel
theorem d_mo_pullAll_146 : decode bc_mo_pullAll 146 = .ok (.if_icmp .ne 7, 3) := by decide +kernel
theorem d_mo_pullAll_149 : decode bc_mo_pullAll 149 = .ok (.iconst 1, 1) := by decide +kernel
theorem d_mo_pullAll_150 : decode bc_mo_pullAll 150 = .ok (.goto 4, 3) := by decide +kernel
theorem d_mo_pullAll_153 : decode bc_mo_pullAll 153 = .ok (.iconst 0, 1) := by decide +kernel
theorem d_mo_pullAll_154 : decode bc_mo_pullAll 154 = .ok (.putfield 90, 3) := by decide +kernel
theorem d_mo_pullAll_157 : decode bc_mo_pullAll 157 = .ok (.iload_n 2, 1) := by decide +kernel
theorem d_mo_pullAll_158 : decode bc_mo_pullAll 158 = .ok (.sipush 128, 3) := by decide +kernel
theorem d_mo_pullAll_161 : decode bc_mo_pullAll 161 = .ok (.iand, 1) := by decide +kernel
theorem d_mo_pullAll_162 : decode bc_mo_pullAll 162 = .ok (.ifCond .eq 15, 3) := by decide +kernel
theorem d_mo_pullAll_165 : decode bc_mo_pullAll 165 = .ok (.aload_n 0, 1) := by decide +kernel
theorem d_mo_pullAll_166 : decode bc_mo_pullAll 166 = .ok (.getfield 13, 3) := by decide +kernel
theorem d_mo_pullAll_169 : decode bc_mo_pullAll 169 = .ok (.bipush 6, 2) := by decide +kernel
theorem d_mo_pullAll_171 : decode bc_mo_pullAll 171 = .ok (.aload_n 0, 1) := by decide +kernel
theorem d_mo_pullAll_172 : decode bc_mo_pullAll 172 = .ok (.iload_n 1, 1) := by decide +kernel
theorem d_mo_pullAll_173 : decode bc_mo_pullAll 173 = .ok (.invokevirtual 87, 3) := by decide +kernel
theorem d_mo_pullAll_176 : decode bc_mo_pullAll 176 = .ok (.iastore, 1) := by decide +kernel
theorem d_mo_pullAll_177 : decode bc_mo_pullAll 177 = .ok (.return_, 1) := by decide +kernel
theorem d_mo_onByte_0 : decode bc_mo_onByte 0 = .ok (.aload_n 0, 1) := by decide +kernel
theorem d_mo_onByte_1 : decode bc_mo_onByte 1 = .ok (.iconst 1, 1) := by decide +kernel
theorem d_mo_onByte_2 : decode bc_mo_onByte 2 = .ok (.invokevirtual 93, 3) := by decide +kernel
theorem d_mo_onByte_5 : decode bc_mo_onByte 5 = .ok (.ifCond .eq 7, 3) := by decide +kernel
theorem d_mo_onByte_8 : decode bc_mo_onByte 8 = .ok (.iconst 1, 1) := by decide +kernel
theorem d_mo_onByte_9 : decode bc_mo_onByte 9 = .ok (.goto 4, 3) := by decide +kernel
theorem d_mo_onByte_12 : decode bc_mo_onByte 12 = .ok (.iconst 0, 1) := by decide +kernel
theorem d_mo_onByte_13 : decode bc_mo_onByte 13 = .ok (.istore_n 3, 1) := by decide +kernel
theorem d_mo_onByte_14 : decode bc_mo_onByte 14 = .ok (.iload_n 2, 1) := by decide +kernel
theorem d_mo_onByte_15 : decode bc_mo_onByte 15 = .ok (.istore 4, 2) := by decide +kernel
theorem d_mo_onByte_17 : decode bc_mo_onByte 17 = .ok (.iload_n 1, 1) := by decide +kernel
theorem d_mo_onByte_18 : decode bc_mo_onByte 18 = .ok (.ifCond .ne 12, 3) := by decide +kernel
theorem d_mo_onByte_21 : decode bc_mo_onByte 21 = .ok (.aload_n 0, 1) := by decide +kernel
theorem d_mo_onByte_22 : decode bc_mo_onByte 22 = .ok (.iconst 0, 1) := by decide +kernel
theorem d_mo_onByte_23 : decode bc_mo_onByte 23 = .ok (.iload_n 2, 1) := by decide +kernel
theorem d_mo_onByte_24 : decode bc_mo_onByte 24 = .ok (.iconst 0, 1) := by decide +kernel
theorem d_mo_onByte_25 : decode bc_mo_onByte 25 = .ok (.iconst 0, 1) := by decide +kernel
theorem d_mo_onByte_26 : decode bc_mo_onByte 26 = .ok (.invokevirtual 97, 3) := by decide +kernel
theorem d_mo_onByte_29 : decode bc_mo_onByte 29 = .ok (.ireturn, 1) := by decide +kernel
theorem d_mo_onByte_30 : decode bc_mo_onByte 30 = .ok (.iload_n 1, 1) := by decide +kernel
theorem d_mo_onByte_31 : decode bc_mo_onByte 31 = .ok (.iconst 3, 1) := by decide +kernel
theorem d_mo_onByte_32 : decode bc_mo_onByte 32 = .ok (.if_icmp .ne 10, 3) := by decide +kernel
theorem d_mo_onByte_35 : decode bc_mo_onByte 35 = .ok (.sipush 255, 3) := by decide +kernel
theorem d_mo_onByte_38 : decode bc_mo_onByte 38 = .ok (.iload_n 2, 1) := by decide +kernel
theorem d_mo_onByte_39 : decode bc_mo_onByte 39 = .ok (.isub, 1) := by decide +kernel
theorem d_mo_onByte_40 : decode bc_mo_onByte 40 = .ok (.istore 4, 2) := by decide +kernel
theorem d_mo_onByte_42 : decode bc_mo_onByte 42 = .ok (.iload_n 1, 1) := by decide +kernel
theorem d_mo_onByte_43 : decode bc_mo_onByte 43 = .ok (.iconst 4, 1) := by decide +kernel
theorem d_mo_onByte_44 : decode bc_mo_onByte 44 = .ok (.if_icmp .ne 8, 3) := by decide +kernel
theorem d_mo_onByte_47 : decode bc_mo_onByte 47 = .ok (.iload_n 2, 1) := by decide +kernel
theorem d_mo_onByte_48 : decode bc_mo_onByte 48 = .ok (.iconst 1, 1) := by decide +kernel
theorem d_mo_onByte_49 : decode bc_mo_onByte 49 = .ok (.ishr, 1) := by decide +kernel
theorem d_mo_onByte_50 : decode bc_mo_onByte 50 = .ok (.istore 4, 2) := by decide +kernel
theorem d_mo_onByte_52 : decode bc_mo_onByte 52 = .ok (.iload_n 1, 1) := by decide +kernel
theorem d_mo_onByte_53 : decode bc_mo_onByte 53 = .ok (.bipush 6, 2) := by decide +kernel
theorem d_mo_onByte_55 : decode bc_mo_onByte 55 = .ok (.if_icmp .ne 13, 3) := by decide +kernel
theorem d_mo_onByte_58 : decode bc_mo_onByte 58 = .ok (.iload_n 2, 1) := by decide +kernel
theorem d_mo_onByte_59 : decode bc_mo_onByte 59 = .ok (.iconst 1, 1) := by decide +kernel
theorem d_mo_onByte_60 : decode bc_mo_onByte 60 = .ok (.ishr, 1) := by decide +kernel
theorem d_mo_onByte_61 : decode bc_mo_onByte 61 = .ok (.iload_n 3, 1) := by decide +kernel
theorem d_mo_onByte_62 : decode bc_mo_onByte 62 = .ok (.bipush 7, 2) := by decide +kernel
theorem d_mo_onByte_64 : decode bc_mo_onByte 64 = .ok (.ishl, 1) := by decide +kernel
theorem d_mo_onByte_65 : decode bc_mo_onByte 65 = .ok (.ior, 1) := by decide +kernel
theorem d_mo_onByte_66 : decode bc_mo_onByte 66 = .ok (.istore 4, 2) := by decide +kernel
theorem d_mo_onByte_68 : decode bc_mo_onByte 68 = .ok (.iload_n 1, 1) := by decide +kernel
theorem d_mo_onByte_69 : decode bc_mo_onByte 69 = .ok (.bipush 7, 2) := by decide +kernel
theorem d_mo_onByte_71 : decode bc_mo_onByte 71 = .ok (.if_icmp .ne 14, 3) := by decide +kernel
theorem d_mo_onByte_74 : decode bc_mo_onByte 74 = .ok (.iload_n 2, 1) := by decide +kernel
theorem d_mo_onByte_75 : decode bc_mo_onByte 75 = .ok (.iconst 1, 1) := by decide +kernel
theorem d_mo_onByte_76 : decode bc_mo_onByte 76 = .ok (.ishr, 1) := by decide +kernel
theorem d_mo_onByte_77 : decode bc_mo_onByte 77 = .ok (.iload_n 2, 1) := by decide +kernel
theorem d_mo_onByte_78 : decode bc_mo_onByte 78 = .ok (.sipush 128, 3) := by decide +kernel
theorem d_mo_onByte_81 : decode bc_mo_onByte 81 = .ok (.iand, 1) := by decide +kernel
theorem d_mo_onByte_82 : decode bc_mo_onByte 82 = .ok (.ior, 1) := by decide +kernel
theorem d_mo_onByte_83 : decode bc_mo_onByte 83 = .ok (.istore 4, 2) := by decide +kernel
theorem d_mo_onByte_85 : decode bc_mo_onByte 85 = .ok (.iload_n 1, 1) := by decide +kernel
theorem d_mo_onByte_86 : decode bc_mo_onByte 86 = .ok (.bipush 8, 2) := by decide +kernel
theorem d_mo_onByte_88 : decode bc_mo_onByte 88 = .ok (.if_icmp .ne 12, 3) := by decide +kernel
theorem d_mo_onByte_91 : decode bc_mo_onByte 91 = .ok (.iload_n 2, 1) := by decide +kernel
theorem d_mo_onByte_92 : decode bc_mo_onByte 92 = .ok (.iconst 1, 1) := by decide +kernel
theorem d_mo_onByte_93 : decode bc_mo_onByte 93 = .ok (.ishl, 1) := by decide +kernel
theorem d_mo_onByte_94 : decode bc_mo_onByte 94 = .ok (.sipush 255, 3) := by decide +kernel
theorem d_mo_onByte_97 : decode bc_mo_onByte 97 = .ok (.iand, 1) := by decide +kernel
theorem d_mo_onByte_98 : decode bc_mo_onByte 98 = .ok (.istore 4, 2) := by decide +kernel
theorem d_mo_onByte_100 : decode bc_mo_onByte 100 = .ok (.iload_n 1, 1) := by decide +kernel
theorem d_mo_onByte_101 : decode bc_mo_onByte 101 = .ok (.bipush 9, 2) := by decide +kernel
theorem d_mo_onByte_103 : decode bc_mo_onByte 103 = .ok (.if_icmp .ne 14, 3) := by decide +kernel
theorem d_mo_onByte_106 : decode bc_mo_onByte 106 = .ok (.iload_n 2, 1) := by decide +kernel
theorem d_mo_onByte_107 : decode bc_mo_onByte 107 = .ok (.iconst 1, 1) := by decide +kernel
theorem d_mo_onByte_108 : decode bc_mo_onByte 108 = .ok (.ishl, 1) := by decide +kernel
theorem d_mo_onByte_109 : decode bc_mo_onByte 109 = .ok (.sipush 255, 3) := by decide +kernel
theorem d_mo_onByte_112 : decode bc_mo_onByte 112 = .ok (.iand, 1) := by decide +kernel
theorem d_mo_onByte_113 : decode bc_mo_onByte 113 = .ok (.iload_n 3, 1) := by decide +kernel
theorem d_mo_onByte_114 : decode bc_mo_onByte 114 = .ok (.ior, 1) := by decide +kernel
theorem d_mo_onByte_115 : decode bc_mo_onByte 115 = .ok (.istore 4, 2) := by decide +kernel
theorem d_mo_onByte_117 : decode bc_mo_onByte 117 = .ok (.iload_n 1, 1) := by decide +kernel
theorem d_mo_onByte_118 : decode bc_mo_onByte 118 = .ok (.bipush 10, 2) := by decide +kernel
theorem d_mo_onByte_120 : decode bc_mo_onByte 120 = .ok (.if_icmp .ne 12, 3) := by decide +kernel
theorem d_mo_onByte_123 : decode bc_mo_onByte 123 = .ok (.iload_n 2, 1) := by decide +kernel
theorem d_mo_onByte_124 : decode bc_mo_onByte 124 = .ok (.iconst 1, 1) := by decide +kernel
theorem d_mo_onByte_125 : decode bc_mo_onByte 125 = .ok (.isub, 1) := by decide +kernel
theorem d_mo_onByte_126 : decode bc_mo_onByte 126 = .ok (.sipush 255, 3) := by decide +kernel
theorem d_mo_onByte_129 : decode bc_mo_onByte 129 = .ok (.iand, 1) := by decide +kernel
theorem d_mo_onByte_130 : decode bc_mo_onByte 130 = .ok (.istore 4, 2) := by decide +kernel
theorem d_mo_onByte_132 : decode bc_mo_onByte 132 = .ok (.iload_n 1, 1) := by decide +kernel
theorem d_mo_onByte_133 : decode bc_mo_onByte 133 = .ok (.bipush 12, 2) := by decide +kernel
theorem d_mo_onByte_135 : decode bc_mo_onByte 135 = .ok (.if_icmp .ne 12, 3) := by decide +kernel
theorem d_mo_onByte_138 : decode bc_mo_onByte 138 = .ok (.iload_n 2, 1) := by decide +kernel
theorem d_mo_onByte_139 : decode bc_mo_onByte 139 = .ok (.iconst 1, 1) := by decide +kernel
theorem d_mo_onByte_140 : decode bc_mo_onByte 140 = .ok (.iadd, 1) := by decide +kernel
theorem d_mo_onByte_141 : decode bc_mo_onByte 141 = .ok (.sipush 255, 3) := by decide +kernel
theorem d_mo_onByte_144 : decode bc_mo_onByte 144 = .ok (.iand, 1) := by decide +kernel
theorem d_mo_onByte_145 : decode bc_mo_onByte 145 = .ok (.istore 4, 2) := by decide +kernel
theorem d_mo_onByte_147 : decode bc_mo_onByte 147 = .ok (.iload_n 1, 1) := by decide +kernel
theorem d_mo_onByte_148 : decode bc_mo_onByte 148 = .ok (.bipush 15, 2) := by decide +kernel
theorem d_mo_onByte_150 : decode bc_mo_onByte 150 = .ok (.if_icmp .ne 6, 3) := by decide +kernel
theorem d_mo_onByte_153 : decode bc_mo_onByte 153 = .ok (.iconst 0, 1) := by decide +kernel
theorem d_mo_onByte_154 : decode bc_mo_onByte 154 = .ok (.istore 4, 2) := by decide +kernel
theorem d_mo_onByte_156 : decode bc_mo_onByte 156 = .ok (.aload_n 0, 1) := by decide +kernel
theorem d_mo_onByte_157 : decode bc_mo_onByte 157 = .ok (.iload 4, 2) := by decide +kernel
theorem d_mo_onByte_159 : decode bc_mo_onByte 159 = .ok (.iconst 0, 1) := by decide +kernel
theorem d_mo_onByte_160 : decode bc_mo_onByte 160 = .ok (.invokevirtual 40, 3) := by decide +kernel
theorem d_mo_onByte_163 : decode bc_mo_onByte 163 = .ok (.iload_n 1, 1) := by decide +kernel
theorem d_mo_onByte_164 : decode bc_mo_onByte 164 = .ok (.iconst 3, 1) := by decide +kernel
theorem d_mo_onByte_165 : decode bc_mo_onByte 165 = .ok (.if_icmp .eq 15, 3) := by decide +kernel
theorem d_mo_onByte_168 : decode bc_mo_onByte 168 = .ok (.iload_n 1, 1) := by decide +kernel
theorem d_mo_onByte_169 : decode bc_mo_onByte 169 = .ok (.bipush 13, 2) := by decide +kernel
theorem d_mo_onByte_171 : decode bc_mo_onByte 171 = .ok (.if_icmp .eq 9, 3) := by decide +kernel
theorem d_mo_onByte_174 : decode bc_mo_onByte 174 = .ok (.iload_n 1, 1) := by decide +kernel
theorem d_mo_onByte_175 : decode bc_mo_onByte 175 = .ok (.bipush 15, 2) := by decide +kernel
theorem d_mo_onByte_177 : decode bc_mo_onByte 177 = .ok (.if_icmp .ne 9, 3) := by decide +kernel
theorem d_mo_onByte_180 : decode bc_mo_onByte 180 = .ok (.aload_n 0, 1) := by decide +kernel
theorem d_mo_onByte_181 : decode bc_mo_onByte 181 = .ok (.iconst 2, 1) := by decide +kernel
theorem d_mo_onByte_182 : decode bc_mo_onByte 182 = .ok (.iconst 0, 1) := by decide +kernel
theorem d_mo_onByte_183 : decode bc_mo_onByte 183 = .ok (.invokevirtual 36, 3) := by decide +kernel
theorem d_mo_onByte_186 : decode bc_mo_onByte 186 = .ok (.iload_n 1, 1) := by decide +kernel
theorem d_mo_onByte_187 : decode bc_mo_onByte 187 = .ok (.bipush 8, 2) := by decide +kernel
theorem d_mo_onByte_189 : decode bc_mo_onByte 189 = .ok (.if_icmp .eq 9, 3) := by decide +kernel
theorem d_mo_onByte_192 : decode bc_mo_onByte 192 = .ok (.iload_n 1, 1) := by decide +kernel
theorem d_mo_onByte_193 : decode bc_mo_onByte 193 = .ok (.bipush 9, 2) := by decide +kernel
theorem d_mo_onByte_195 : decode bc_mo_onByte 195 = .ok (.if_icmp .ne 26, 3) := by decide +kernel
theorem d_mo_onByte_198 : decode bc_mo_onByte 198 = .ok (.aload_n 0, 1) := by decide +kernel
theorem d_mo_onByte_199 : decode bc_mo_onByte 199 = .ok (.iconst 2, 1) := by decide +kernel
theorem d_mo_onByte_200 : decode bc_mo_onByte 200 = .ok (.iload_n 2, 1) := by decide +kernel
theorem d_mo_onByte_201 : decode bc_mo_onByte 201 = .ok (.bipush 7, 2) := by decide +kernel
theorem d_mo_onByte_203 : decode bc_mo_onByte 203 = .ok (.ishr, 1) := by decide +kernel
theorem d_mo_onByte_204 : decode bc_mo_onByte 204 = .ok (.iload_n 2, 1) := by decide +kernel
theorem d_mo_onByte_205 : decode bc_mo_onByte 205 = .ok (.bipush 6, 2) := by decide +kernel
theorem d_mo_onByte_207 : decode bc_mo_onByte 207 = .ok (.ishr, 1) := by decide +kernel
theorem d_mo_onByte_208 : decode bc_mo_onByte 208 = .ok (.iconst 1, 1) := by decide +kernel
theorem d_mo_onByte_209 : decode bc_mo_onByte 209 = .ok (.iand, 1) := by decide +kernel
theorem d_mo_onByte_210 : decode bc_mo_onByte 210 = .ok (.if_icmp .eq 7, 3) := by decide +kernel
theorem d_mo_onByte_213 : decode bc_mo_onByte 213 = .ok (.iconst 1, 1) := by decide +kernel
theorem d_mo_onByte_214 : decode bc_mo_onByte 214 = .ok (.goto 4, 3) := by decide +kernel
theorem d_mo_onByte_217 : decode bc_mo_onByte 217 = .ok (.iconst 0, 1) := by decide +kernel
theorem d_mo_onByte_218 : decode bc_mo_onByte 218 = .ok (.invokevirtual 36, 3) := by decide +kernel
theorem d_mo_onByte_221 : decode bc_mo_onByte 221 = .ok (.iload_n 1, 1) := by decide +kernel
theorem d_mo_onByte_222 : decode bc_mo_onByte 222 = .ok (.bipush 10, 2) := by decide +kernel
theorem d_mo_onByte_224 : decode bc_mo_onByte 224 = .ok (.if_icmp .ne 20, 3) := by decide +kernel
theorem d_mo_onByte_227 : decode bc_mo_onByte 227 = .ok (.aload_n 0, 1) := by decide +kernel
theorem d_mo_onByte_228 : decode bc_mo_onByte 228 = .ok (.iconst 2, 1) := by decide +kernel
theorem d_mo_onByte_229 : decode bc_mo_onByte 229 = .ok (.iload_n 2, 1) := by decide +kernel
theorem d_mo_onByte_230 : decode bc_mo_onByte 230 = .ok (.sipush 128, 3) := by decide +kernel
theorem d_mo_onByte_233 : decode bc_mo_onByte 233 = .ok (.if_icmp .ne 7, 3) := by decide +kernel
theorem d_mo_onByte_236 : decode bc_mo_onByte 236 = .ok (.iconst 1, 1) := by decide +kernel
theorem d_mo_onByte_237 : decode bc_mo_onByte 237 = .ok (.goto 4, 3) := by decide +kernel
theorem d_mo_onByte_240 : decode bc_mo_onByte 240 = .ok (.iconst 0, 1) := by decide +kernel
theorem d_mo_onByte_241 : decode bc_mo_onByte 241 = .ok (.invokevirtual 36, 3) := by decide +kernel
theorem d_mo_onByte_244 : decode bc_mo_onByte 244 = .ok (.iload_n 1, 1) := by decide +kernel
theorem d_mo_onByte_245 : decode bc_mo_onByte 245 = .ok (.bipush 12, 2) := by decide +kernel
theorem d_mo_onByte_247 : decode bc_mo_onByte 247 = .ok (.if_icmp .ne 19, 3) := by decide +kernel
theorem d_mo_onByte_250 : decode bc_mo_onByte 250 = .ok (.aload_n 0, 1) := by decide +kernel
theorem d_mo_onByte_251 : decode bc_mo_onByte 251 = .ok (.iconst 2, 1) := by decide +kernel
theorem d_mo_onByte_252 : decode bc_mo_onByte 252 = .ok (.iload_n 2, 1) := by decide +kernel
theorem d_mo_onByte_253 : decode bc_mo_onByte 253 = .ok (.bipush 127, 2) := by decide +kernel
theorem d_mo_onByte_255 : decode bc_mo_onByte 255 = .ok (.if_icmp .ne 7, 3) := by decide +kernel
theorem d_mo_onByte_258 : decode bc_mo_onByte 258 = .ok (.iconst 1, 1) := by decide +kernel
theorem d_mo_onByte_259 : decode bc_mo_onByte 259 = .ok (.goto 4, 3) := by decide +kernel
theorem d_mo_onByte_262 : decode bc_mo_onByte 262 = .ok (.iconst 0, 1) := by decide +kernel
theorem d_mo_onByte_263 : decode bc_mo_onByte 263 = .ok (.invokevirtual 36, 3) := by decide +kernel
theorem d_mo_onByte_266 : decode bc_mo_onByte 266 = .ok (.iload_n 1, 1) := by decide +kernel
theorem d_mo_onByte_267 : decode bc_mo_onByte 267 = .ok (.iconst 3, 1) := by decide +kernel
theorem d_mo_onByte_268 : decode bc_mo_onByte 268 = .ok (.if_icmp .ne 9, 3) := by decide +kernel
theorem d_mo_onByte_271 : decode bc_mo_onByte 271 = .ok (.aload_n 0, 1) := by decide +kernel
theorem d_mo_onByte_272 : decode bc_mo_onByte 272 = .ok (.iconst 1, 1) := by decide +kernel
theorem d_mo_onByte_273 : decode bc_mo_onByte 273 = .ok (.iconst 1, 1) := by decide +kernel
theorem d_mo_onByte_274 : decode bc_mo_onByte 274 = .ok (.invokevirtual 36, 3) := by decide +kernel
theorem d_mo_onByte_277 : decode bc_mo_onByte 277 = .ok (.iload_n 1, 1) := by decide +kernel
theorem d_mo_onByte_278 : decode bc_mo_onByte 278 = .ok (.bipush 15, 2) := by decide +kernel
theorem d_mo_onByte_280 : decode bc_mo_onByte 280 = .ok (.if_icmp .ne 9, 3) := by decide +kernel
theorem d_mo_onByte_283 : decode bc_mo_onByte 283 = .ok (.aload_n 0, 1) := by decide +kernel
theorem d_mo_onByte_284 : decode bc_mo_onByte 284 = .ok (.iconst 1, 1) := by decide +kernel
theorem d_mo_onByte_285 : decode bc_mo_onByte 285 = .ok (.iconst 0, 1) := by decide +kernel
theorem d_mo_onByte_286 : decode bc_mo_onByte 286 = .ok (.invokevirtual 36, 3) := by decide +kernel
theorem d_mo_onByte_289 : decode bc_mo_onByte 289 = .ok (.iload_n 1, 1) := by decide +kernel
theorem d_mo_onByte_290 : decode bc_mo_onByte 290 = .ok (.iconst 4, 1) := by decide +kernel
theorem d_mo_onByte_291 : decode bc_mo_onByte 291 = .ok (.bipush 7, 2) := by decide +kernel
theorem d_mo_onByte_293 : decode bc_mo_onByte 293 = .ok (.invokestatic 44, 3) := by decide +kernel
theorem d_mo_onByte_296 : decode bc_mo_onByte 296 = .ok (.ifCond .eq 19, 3) := by decide +kernel
theorem d_mo_onByte_299 : decode bc_mo_onByte 299 = .ok (.aload_n 0, 1) := by decide +kernel
theorem d_mo_onByte_300 : decode bc_mo_onByte 300 = .ok (.iconst 1, 1) := by decide +kernel
theorem d_mo_onByte_301 : decode bc_mo_onByte 301 = .ok (.iload_n 2, 1) := by decide +kernel
