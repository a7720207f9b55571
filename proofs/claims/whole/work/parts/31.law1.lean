theorem dl_0 : decode code 0 = .ok (.new 7, 3) := by decide +kernel
theorem dl_3 : decode code 3 = .ok (.dup, 1) := by decide +kernel
theorem dl_4 : decode code 4 = .ok (.invokespecial 9, 3) := by decide +kernel
theorem dl_7 : decode code 7 = .ok (.astore_n 1, 1) := by decide +kernel
theorem dl_8 : decode code 8 = .ok (.new 10, 3) := by decide +kernel
theorem dl_11 : decode code 11 = .ok (.dup, 1) := by decide +kernel
theorem dl_12 : decode code 12 = .ok (.invokespecial 12, 3) := by decide +kernel
theorem dl_15 : decode code 15 = .ok (.astore_n 2, 1) := by decide +kernel
theorem dl_16 : decode code 16 = .ok (.iconst 0, 1) := by decide +kernel
theorem dl_17 : decode code 17 = .ok (.istore_n 3, 1) := by decide +kernel
theorem dl_18 : decode code 18 = .ok (.iload_n 3, 1) := by decide +kernel
theorem dl_19 : decode code 19 = .ok (.aload_n 0, 1) := by decide +kernel
theorem dl_20 : decode code 20 = .ok (.arraylength, 1) := by decide +kernel
theorem dl_21 : decode code 21 = .ok (.iconst 4, 1) := by decide +kernel
theorem dl_22 : decode code 22 = .ok (.isub, 1) := by decide +kernel
theorem dl_23 : decode code 23 = .ok (.if_icmp .gt 336, 3) := by decide +kernel
theorem dl_26 : decode code 26 = .ok (.aload_n 0, 1) := by decide +kernel
theorem dl_27 : decode code 27 = .ok (.iload_n 3, 1) := by decide +kernel
theorem dl_28 : decode code 28 = .ok (.iaload, 1) := by decide +kernel
theorem dl_29 : decode code 29 = .ok (.bipush 15, 2) := by decide +kernel
theorem dl_31 : decode code 31 = .ok (.iand, 1) := by decide +kernel
theorem dl_32 : decode code 32 = .ok (.tableswitch 321 0 10 #[60, 71, 104, 147, 170, 183, 206, 239, 262, 295, 308], 60) := by decide +kernel
theorem dl_92 : decode code 92 = .ok (.aload_n 1, 1) := by decide +kernel
theorem dl_93 : decode code 93 = .ok (.invokevirtual 13, 3) := by decide +kernel
theorem dl_96 : decode code 96 = .ok (.aload_n 2, 1) := by decide +kernel
theorem dl_97 : decode code 97 = .ok (.invokevirtual 16, 3) := by decide +kernel
theorem dl_100 : decode code 100 = .ok (.goto 253, 3) := by decide +kernel
theorem dl_103 : decode code 103 = .ok (.aload_n 1, 1) := by decide +kernel
theorem dl_104 : decode code 104 = .ok (.aload_n 0, 1) := by decide +kernel
theorem dl_105 : decode code 105 = .ok (.iload_n 3, 1) := by decide +kernel
theorem dl_106 : decode code 106 = .ok (.iconst 1, 1) := by decide +kernel
theorem dl_107 : decode code 107 = .ok (.iadd, 1) := by decide +kernel
theorem dl_108 : decode code 108 = .ok (.iaload, 1) := by decide +kernel
theorem dl_109 : decode code 109 = .ok (.aload_n 0, 1) := by decide +kernel
theorem dl_110 : decode code 110 = .ok (.iload_n 3, 1) := by decide +kernel
theorem dl_111 : decode code 111 = .ok (.iconst 2, 1) := by decide +kernel
theorem dl_112 : decode code 112 = .ok (.iadd, 1) := by decide +kernel
theorem dl_113 : decode code 113 = .ok (.iaload, 1) := by decide +kernel
theorem dl_114 : decode code 114 = .ok (.invokevirtual 17, 3) := by decide +kernel
theorem dl_117 : decode code 117 = .ok (.aload_n 2, 1) := by decide +kernel
theorem dl_118 : decode code 118 = .ok (.aload_n 0, 1) := by decide +kernel
theorem dl_119 : decode code 119 = .ok (.iload_n 3, 1) := by decide +kernel
theorem dl_120 : decode code 120 = .ok (.iconst 1, 1) := by decide +kernel
theorem dl_121 : decode code 121 = .ok (.iadd, 1) := by decide +kernel
theorem dl_122 : decode code 122 = .ok (.iaload, 1) := by decide +kernel
theorem dl_123 : decode code 123 = .ok (.aload_n 0, 1) := by decide +kernel
theorem dl_124 : decode code 124 = .ok (.iload_n 3, 1) := by decide +kernel
theorem dl_125 : decode code 125 = .ok (.iconst 2, 1) := by decide +kernel
theorem dl_126 : decode code 126 = .ok (.iadd, 1) := by decide +kernel
theorem dl_127 : decode code 127 = .ok (.iaload, 1) := by decide +kernel
theorem dl_128 : decode code 128 = .ok (.invokevirtual 21, 3) := by decide +kernel
theorem dl_131 : decode code 131 = .ok (.if_icmp .eq 222, 3) := by decide +kernel
theorem dl_134 : decode code 134 = .ok (.iconst 0, 1) := by decide +kernel
theorem dl_135 : decode code 135 = .ok (.ireturn, 1) := by decide +kernel
theorem dl_136 : decode code 136 = .ok (.aload_n 1, 1) := by decide +kernel
theorem dl_137 : decode code 137 = .ok (.aload_n 0, 1) := by decide +kernel
theorem dl_138 : decode code 138 = .ok (.iload_n 3, 1) := by decide +kernel
theorem dl_139 : decode code 139 = .ok (.iconst 1, 1) := by decide +kernel
theorem dl_140 : decode code 140 = .ok (.iadd, 1) := by decide +kernel
theorem dl_141 : decode code 141 = .ok (.iaload, 1) := by decide +kernel
theorem dl_142 : decode code 142 = .ok (.aload_n 0, 1) := by decide +kernel
theorem dl_143 : decode code 143 = .ok (.iload_n 3, 1) := by decide +kernel
theorem dl_144 : decode code 144 = .ok (.iconst 2, 1) := by decide +kernel
theorem dl_145 : decode code 145 = .ok (.iadd, 1) := by decide +kernel
theorem dl_146 : decode code 146 = .ok (.iaload, 1) := by decide +kernel
theorem dl_147 : decode code 147 = .ok (.aload_n 0, 1) := by decide +kernel
theorem dl_148 : decode code 148 = .ok (.iload_n 3, 1) := by decide +kernel
theorem dl_149 : decode code 149 = .ok (.iconst 3, 1) := by decide +kernel
theorem dl_150 : decode code 150 = .ok (.iadd, 1) := by decide +kernel
theorem dl_151 : decode code 151 = .ok (.iaload, 1) := by decide +kernel
theorem dl_152 : decode code 152 = .ok (.invokevirtual 22, 3) := by decide +kernel
theorem dl_155 : decode code 155 = .ok (.aload_n 2, 1) := by decide +kernel
theorem dl_156 : decode code 156 = .ok (.aload_n 0, 1) := by decide +kernel
theorem dl_157 : decode code 157 = .ok (.iload_n 3, 1) := by decide +kernel
theorem dl_158 : decode code 158 = .ok (.iconst 1, 1) := by decide +kernel
theorem dl_159 : decode code 159 = .ok (.iadd, 1) := by decide +kernel
theorem dl_160 : decode code 160 = .ok (.iaload, 1) := by decide +kernel
theorem dl_161 : decode code 161 = .ok (.aload_n 0, 1) := by decide +kernel
theorem dl_162 : decode code 162 = .ok (.iload_n 3, 1) := by decide +kernel
theorem dl_163 : decode code 163 = .ok (.iconst 2, 1) := by decide +kernel
theorem dl_164 : decode code 164 = .ok (.iadd, 1) := by decide +kernel
theorem dl_165 : decode code 165 = .ok (.iaload, 1) := by decide +kernel
theorem dl_166 : decode code 166 = .ok (.aload_n 0, 1) := by decide +kernel
theorem dl_167 : decode code 167 = .ok (.iload_n 3, 1) := by decide +kernel
theorem dl_168 : decode code 168 = .ok (.iconst 3, 1) := by decide +kernel
theorem dl_169 : decode code 169 = .ok (.iadd, 1) := by decide +kernel
theorem dl_170 : decode code 170 = .ok (.iaload, 1) := by decide +kernel
theorem dl_171 : decode code 171 = .ok (.invokevirtual 26, 3) := by decide +kernel
theorem dl_174 : decode code 174 = .ok (.if_icmp .eq 179, 3) := by decide +kernel
theorem dl_177 : decode code 177 = .ok (.iconst 0, 1) := by decide +kernel
theorem dl_178 : decode code 178 = .ok (.ireturn, 1) := by decide +kernel
theorem dl_179 : decode code 179 = .ok (.aload_n 1, 1) := by decide +kernel
theorem dl_180 : decode code 180 = .ok (.aload_n 0, 1) := by decide +kernel
theorem dl_181 : decode code 181 = .ok (.iload_n 3, 1) := by decide +kernel
theorem dl_182 : decode code 182 = .ok (.iconst 1, 1) := by decide +kernel
theorem dl_183 : decode code 183 = .ok (.iadd, 1) := by decide +kernel
theorem dl_184 : decode code 184 = .ok (.iaload, 1) := by decide +kernel
theorem dl_185 : decode code 185 = .ok (.invokevirtual 27, 3) := by decide +kernel
theorem dl_188 : decode code 188 = .ok (.aload_n 2, 1) := by decide +kernel
theorem dl_189 : decode code 189 = .ok (.aload_n 0, 1) := by decide +kernel
theorem dl_190 : decode code 190 = .ok (.iload_n 3, 1) := by decide +kernel
theorem dl_191 : decode code 191 = .ok (.iconst 1, 1) := by decide +kernel
theorem dl_192 : decode code 192 = .ok (.iadd, 1) := by decide +kernel
theorem dl_193 : decode code 193 = .ok (.iaload, 1) := by decide +kernel
theorem dl_194 : decode code 194 = .ok (.invokevirtual 31, 3) := by decide +kernel
theorem dl_197 : decode code 197 = .ok (.if_icmp .eq 156, 3) := by decide +kernel
theorem dl_200 : decode code 200 = .ok (.iconst 0, 1) := by decide +kernel
theorem dl_201 : decode code 201 = .ok (.ireturn, 1) := by decide +kernel
theorem dl_202 : decode code 202 = .ok (.aload_n 1, 1) := by decide +kernel
theorem dl_203 : decode code 203 = .ok (.invokevirtual 32, 3) := by decide +kernel
theorem dl_206 : decode code 206 = .ok (.aload_n 2, 1) := by decide +kernel
theorem dl_207 : decode code 207 = .ok (.invokevirtual 36, 3) := by decide +kernel
theorem dl_210 : decode code 210 = .ok (.if_icmp .eq 143, 3) := by decide +kernel
theorem dl_213 : decode code 213 = .ok (.iconst 0, 1) := by decide +kernel
theorem dl_214 : decode code 214 = .ok (.ireturn, 1) := by decide +kernel
theorem dl_215 : decode code 215 = .ok (.aload_n 1, 1) := by decide +kernel
theorem dl_216 : decode code 216 = .ok (.aload_n 0, 1) := by decide +kernel
theorem dl_217 : decode code 217 = .ok (.iload_n 3, 1) := by decide +kernel
theorem dl_218 : decode code 218 = .ok (.iconst 1, 1) := by decide +kernel
theorem dl_219 : decode code 219 = .ok (.iadd, 1) := by decide +kernel
theorem dl_220 : decode code 220 = .ok (.iaload, 1) := by decide +kernel
theorem dl_221 : decode code 221 = .ok (.invokevirtual 37, 3) := by decide +kernel
theorem dl_224 : decode code 224 = .ok (.aload_n 2, 1) := by decide +kernel
theorem dl_225 : decode code 225 = .ok (.aload_n 0, 1) := by decide +kernel
theorem dl_226 : decode code 226 = .ok (.iload_n 3, 1) := by decide +kernel
theorem dl_227 : decode code 227 = .ok (.iconst 1, 1) := by decide +kernel
theorem dl_228 : decode code 228 = .ok (.iadd, 1) := by decide +kernel
theorem dl_229 : decode code 229 = .ok (.iaload, 1) := by decide +kernel
theorem dl_230 : decode code 230 = .ok (.invokevirtual 40, 3) := by decide +kernel
theorem dl_233 : decode code 233 = .ok (.if_icmp .eq 120, 3) := by decide +kernel
theorem dl_236 : decode code 236 = .ok (.iconst 0, 1) := by decide +kernel
theorem dl_237 : decode code 237 = .ok (.ireturn, 1) := by decide +kernel
theorem dl_238 : decode code 238 = .ok (.aload_n 1, 1) := by decide +kernel
theorem dl_239 : decode code 239 = .ok (.aload_n 0, 1) := by decide +kernel
theorem dl_240 : decode code 240 = .ok (.iload_n 3, 1) := by decide +kernel
theorem dl_241 : decode code 241 = .ok (.iconst 1, 1) := by decide +kernel
theorem dl_242 : decode code 242 = .ok (.iadd, 1) := by decide +kernel
theorem dl_243 : decode code 243 = .ok (.iaload, 1) := by decide +kernel
theorem dl_244 : decode code 244 = .ok (.aload_n 0, 1) := by decide +kernel
theorem dl_245 : decode code 245 = .ok (.iload_n 3, 1) := by decide +kernel
theorem dl_246 : decode code 246 = .ok (.iconst 2, 1) := by decide +kernel
theorem dl_247 : decode code 247 = .ok (.iadd, 1) := by decide +kernel
theorem dl_248 : decode code 248 = .ok (.iaload, 1) := by decide +kernel
theorem dl_249 : decode code 249 = .ok (.invokevirtual 41, 3) := by decide +kernel
theorem dl_252 : decode code 252 = .ok (.aload_n 2, 1) := by decide +kernel
theorem dl_253 : decode code 253 = .ok (.aload_n 0, 1) := by decide +kernel
theorem dl_254 : decode code 254 = .ok (.iload_n 3, 1) := by decide +kernel
theorem dl_255 : decode code 255 = .ok (.iconst 1, 1) := by decide +kernel
theorem dl_256 : decode code 256 = .ok (.iadd, 1) := by decide +kernel
theorem dl_257 : decode code 257 = .ok (.iaload, 1) := by decide +kernel
theorem dl_258 : decode code 258 = .ok (.aload_n 0, 1) := by decide +kernel
theorem dl_259 : decode code 259 = .ok (.iload_n 3, 1) := by decide +kernel
theorem dl_260 : decode code 260 = .ok (.iconst 2, 1) := by decide +kernel
theorem dl_261 : decode code 261 = .ok (.iadd, 1) := by decide +kernel
theorem dl_262 : decode code 262 = .ok (.iaload, 1) := by decide +kernel
theorem dl_263 : decode code 263 = .ok (.invokevirtual 44, 3) := by decide +kernel
theorem dl_266 : decode code 266 = .ok (.if_icmp .eq 87, 3) := by decide +kernel
theorem dl_269 : decode code 269 = .ok (.iconst 0, 1) := by decide +kernel
theorem dl_270 : decode code 270 = .ok (.ireturn, 1) := by decide +kernel
theorem dl_271 : decode code 271 = .ok (.aload_n 1, 1) := by decide +kernel
theorem dl_272 : decode code 272 = .ok (.aload_n 0, 1) := by decide +kernel
theorem dl_273 : decode code 273 = .ok (.iload_n 3, 1) := by decide +kernel
theorem dl_274 : decode code 274 = .ok (.iconst 1, 1) := by decide +kernel
theorem dl_275 : decode code 275 = .ok (.iadd, 1) := by decide +kernel
theorem dl_276 : decode code 276 = .ok (.iaload, 1) := by decide +kernel
theorem dl_277 : decode code 277 = .ok (.invokevirtual 45, 3) := by decide +kernel
theorem dl_280 : decode code 280 = .ok (.aload_n 2, 1) := by decide +kernel
theorem dl_281 : decode code 281 = .ok (.aload_n 0, 1) := by decide +kernel
theorem dl_282 : decode code 282 = .ok (.iload_n 3, 1) := by decide +kernel
theorem dl_283 : decode code 283 = .ok (.iconst 1, 1) := by decide +kernel
theorem dl_284 : decode code 284 = .ok (.iadd, 1) := by decide +kernel
theorem dl_285 : decode code 285 = .ok (.iaload, 1) := by decide +kernel
theorem dl_286 : decode code 286 = .ok (.invokevirtual 48, 3) := by decide +kernel
theorem dl_289 : decode code 289 = .ok (.if_icmp .eq 64, 3) := by decide +kernel
theorem dl_292 : decode code 292 = .ok (.iconst 0, 1) := by decide +kernel
theorem dl_293 : decode code 293 = .ok (.ireturn, 1) := by decide +kernel
theorem dl_294 : decode code 294 = .ok (.aload_n 1, 1) := by decide +kernel
theorem dl_295 : decode code 295 = .ok (.aload_n 0, 1) := by decide +kernel
theorem dl_296 : decode code 296 = .ok (.iload_n 3, 1) := by decide +kernel
theorem dl_297 : decode code 297 = .ok (.iconst 1, 1) := by decide +kernel
theorem dl_298 : decode code 298 = .ok (.iadd, 1) := by decide +kernel
theorem dl_299 : decode code 299 = .ok (.iaload, 1) := by decide +kernel
theorem dl_300 : decode code 300 = .ok (.aload_n 0, 1) := by decide +kernel
theorem dl_301 : decode code 301 = .ok (.iload_n 3, 1) := by decide +kernel
theorem dl_302 : decode code 302 = .ok (.iconst 2, 1) := by decide +kernel
theorem dl_303 : decode code 303 = .ok (.iadd, 1) := by decide +kernel
theorem dl_304 : decode code 304 = .ok (.iaload, 1) := by decide +kernel
theorem dl_305 : decode code 305 = .ok (.invokevirtual 49, 3) := by decide +kernel
theorem dl_308 : decode code 308 = .ok (.aload_n 2, 1) := by decide +kernel
theorem dl_309 : decode code 309 = .ok (.aload_n 0, 1) := by decide +kernel
theorem dl_310 : decode code 310 = .ok (.iload_n 3, 1) := by decide +kernel
theorem dl_311 : decode code 311 = .ok (.iconst 1, 1) := by decide +kernel
theorem dl_312 : decode code 312 = .ok (.iadd, 1) := by decide +kernel
theorem dl_313 : decode code 313 = .ok (.iaload, 1) := by decide +kernel
theorem dl_314 : decode code 314 = .ok (.aload_n 0, 1) := by decide +kernel
theorem dl_315 : decode code 315 = .ok (.iload_n 3, 1) := by decide +kernel
theorem dl_316 : decode code 316 = .ok (.iconst 2, 1) := by decide +kernel
theorem dl_317 : decode code 317 = .ok (.iadd, 1) := by decide +kernel
theorem dl_318 : decode code 318 = .ok (.iaload, 1) := by decide +kernel
theorem dl_319 : decode code 319 = .ok (.invokevirtual 52, 3) := by decide +kernel
theorem dl_322 : decode code 322 = .ok (.if_icmp .eq 31, 3) := by decide +kernel
theorem dl_325 : decode code 325 = .ok (.iconst 0, 1) := by decide +kernel
theorem dl_326 : decode code 326 = .ok (.ireturn, 1) := by decide +kernel
theorem dl_327 : decode code 327 = .ok (.aload_n 1, 1) := by decide +kernel
theorem dl_328 : decode code 328 = .ok (.invokevirtual 53, 3) := by decide +kernel
theorem dl_331 : decode code 331 = .ok (.aload_n 2, 1) := by decide +kernel
theorem dl_332 : decode code 332 = .ok (.invokevirtual 56, 3) := by decide +kernel
theorem dl_335 : decode code 335 = .ok (.if_icmp .eq 18, 3) := by decide +kernel
theorem dl_338 : decode code 338 = .ok (.iconst 0, 1) := by decide +kernel
theorem dl_339 : decode code 339 = .ok (.ireturn, 1) := by decide +kernel
theorem dl_340 : decode code 340 = .ok (.aload_n 1, 1) := by decide +kernel
theorem dl_341 : decode code 341 = .ok (.invokevirtual 57, 3) := by decide +kernel
theorem dl_344 : decode code 344 = .ok (.aload_n 2, 1) := by decide +kernel
theorem dl_345 : decode code 345 = .ok (.invokevirtual 60, 3) := by decide +kernel
theorem dl_348 : decode code 348 = .ok (.if_icmp .eq 5, 3) := by decide +kernel
theorem dl_351 : decode code 351 = .ok (.iconst 0, 1) := by decide +kernel
theorem dl_352 : decode code 352 = .ok (.ireturn, 1) := by decide +kernel
theorem dl_353 : decode code 353 = .ok (.iinc 3 4, 3) := by decide +kernel
theorem dl_356 : decode code 356 = .ok (.goto (-338), 3) := by decide +kernel
theorem dl_359 : decode code 359 = .ok (.iconst 1, 1) := by decide +kernel
theorem dl_360 : decode code 360 = .ok (.ireturn, 1) := by decide +kernel
theorem ll_tc_reset : Cond.methodLink R_law 13 y_tc_reset ∈ CW := cw_mem (by decide +kernel) rfl
theorem ll_mo_reset : Cond.methodLink R_law 16 y_mo_reset ∈ CW := cw_mem (by decide +kernel) rfl
theorem ll_tc_poke : Cond.methodLink R_law 17 y_tc_poke ∈ CW := cw_mem (by decide +kernel) rfl
theorem ll_mo_poke : Cond.methodLink R_law 21 y_mo_poke ∈ CW := cw_mem (by decide +kernel) rfl
theorem ll_tc_load : Cond.methodLink R_law 22 y_tc_load ∈ CW := cw_mem (by decide +kernel) rfl
theorem ll_mo_load : Cond.methodLink R_law 26 y_mo_load ∈ CW := cw_mem (by decide +kernel) rfl
theorem ll_tc_peek : Cond.methodLink R_law 27 y_tc_peek ∈ CW := cw_mem (by decide +kernel) rfl
theorem ll_mo_peek : Cond.methodLink R_law 31 y_mo_peek ∈ CW := cw_mem (by decide +kernel) rfl
theorem ll_tc_step : Cond.methodLink R_law 32 y_tc_step ∈ CW := cw_mem (by decide +kernel) rfl
theorem ll_mo_step : Cond.methodLink R_law 36 y_mo_step ∈ CW := cw_mem (by decide +kernel) rfl
theorem ll_tc_run : Cond.methodLink R_law 37 y_tc_run ∈ CW := cw_mem (by decide +kernel) rfl
theorem ll_mo_run : Cond.methodLink R_law 40 y_mo_run ∈ CW := cw_mem (by decide +kernel) rfl
theorem ll_tc_setLine : Cond.methodLink R_law 41 y_tc_setLine ∈ CW := cw_mem (by decide +kernel) rfl
theorem ll_mo_setLine : Cond.methodLink R_law 44 y_mo_setLine ∈ CW := cw_mem (by decide +kernel) rfl
theorem ll_tc_reg : Cond.methodLink R_law 45 y_tc_reg ∈ CW := cw_mem (by decide +kernel) rfl
theorem ll_mo_reg : Cond.methodLink R_law 48 y_mo_reg ∈ CW := cw_mem (by decide +kernel) rfl
theorem ll_tc_put : Cond.methodLink R_law 49 y_tc_put ∈ CW := cw_mem (by decide +kernel) rfl
theorem ll_mo_put : Cond.methodLink R_law 52 y_mo_put ∈ CW := cw_mem (by decide +kernel) rfl
theorem ll_tc_waits : Cond.methodLink R_law 53 y_tc_waits ∈ CW := cw_mem (by decide +kernel) rfl
theorem ll_mo_waits : Cond.methodLink R_law 56 y_mo_waits ∈ CW := cw_mem (by decide +kernel) rfl
theorem ll_tc_lines : Cond.methodLink R_law 57 y_tc_lines ∈ CW := cw_mem (by decide +kernel) rfl
theorem ll_mo_lines : Cond.methodLink R_law 60 y_mo_lines ∈ CW := cw_mem (by decide +kernel) rfl
theorem ll_ci : Cond.methodLink R_law 9 y_tc_init ∈ CW := cw_mem (by decide +kernel) rfl
theorem ll_mi : Cond.methodLink R_law 12 y_mo_init ∈ CW := cw_mem (by decide +kernel) rfl
theorem lk_cc : Cond.classLink R_law 7 R_chip ∈ CW := cw_mem (by decide +kernel) rfl
theorem lk_cm : Cond.classLink R_law 10 R_mod ∈ CW := cw_mem (by decide +kernel) rfl
theorem li_c : Cond.instantiable R_chip 7 ∈ CW := cw_mem (by decide +kernel) rfl
theorem li_m : Cond.instantiable R_mod 8 ∈ CW := cw_mem (by decide +kernel) rfl
theorem lj_c : Cond.initialized R_chip ∈ CW := cw_mem (by decide +kernel) rfl
theorem lj_m : Cond.initialized R_mod ∈ CW := cw_mem (by decide +kernel) rfl
theorem lx_c : Cond.code y_tc_init bc_tc_init 1 none ∈ CW := cw_mem (by decide +kernel) rfl
theorem lx_m : Cond.code y_mo_init bc_mo_init 1 none ∈ CW := cw_mem (by decide +kernel) rfl
theorem lh_c : Cond.instanceMethod y_tc_init ∈ CW := cw_mem (by decide +kernel) rfl
theorem lh_m : Cond.instanceMethod y_mo_init ∈ CW := cw_mem (by decide +kernel) rfl
theorem kd_tc : y_tc_init.cls ≠ "java/lang/invoke/MethodHandle" ∧ y_tc_init.cls ≠ "java/lang/invoke/VarHandle" ∧ (parseMethodDescriptor y_tc_init.desc).map (fun d => d.parameters.length) = some 0 := ⟨by decide, by decide, by decide +kernel⟩
theorem kd_mo : y_mo_init.cls ≠ "java/lang/invoke/MethodHandle" ∧ y_mo_init.cls ≠ "java/lang/invoke/VarHandle" ∧ (parseMethodDescriptor y_mo_init.desc).map (fun d => d.parameters.length) = some 0 := ⟨by decide, by decide, by decide +kernel⟩
theorem ln_1 : Cond.methodLinkNest R_chip 9 y_me_init hostC ∈ lw_tbl := by decide +kernel
theorem ln_2 : Cond.methodLinkNest R_chip 18 y_re_init hostC ∈ lw_tbl := by decide +kernel
theorem sl_lay : ∀ k, k < 5 → Cond.laysStatic R_chip (tnm k) "[I" ∈ lw_tbl := by decide +kernel
theorem sl_arr : ∀ k, k < 5 → Cond.arrayOf (.static R_chip (tnm k) "[I") .int ∈ flatC (Jvm.Cond.and given_1 narrow_1) := by decide +kernel
theorem sl_len : ∀ k, k < 5 → Cond.eq (.length (.static R_chip (tnm k) "[I")) (.int (Int32.ofNat (tln k))) ∈ flatC (Jvm.Cond.and given_1 narrow_1) := by decide +kernel
theorem sl_el : ∀ k, k < 5 → ∀ j, j < tln k → Cond.eq (.elem (.static R_chip (tnm k) "[I") (.int (Int32.ofNat j))) (.int (tvl k j)) ∈ flatC (Jvm.Cond.and given_1 narrow_1) := by decide +kernel
theorem sl_n : ∀ k, k < 5 → tln k < 2 ^ 31 := by decide +kernel
