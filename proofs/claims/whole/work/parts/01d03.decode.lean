theorem d_tc_executeRowOne_105 : decode bc_tc_executeRowOne 105 = .ok (.goto 87, 3) := by decide +kernel
theorem d_tc_executeRowOne_108 : decode bc_tc_executeRowOne 108 = .ok (.aload_n 0, 1) := by decide +kernel
theorem d_tc_executeRowOne_109 : decode bc_tc_executeRowOne 109 = .ok (.getfield 19, 3) := by decide +kernel
theorem d_tc_executeRowOne_112 : decode bc_tc_executeRowOne 112 = .ok (.bipush 8, 2) := by decide +kernel
theorem d_tc_executeRowOne_114 : decode bc_tc_executeRowOne 114 = .ok (.aload_n 0, 1) := by decide +kernel
theorem d_tc_executeRowOne_115 : decode bc_tc_executeRowOne 115 = .ok (.getfield 19, 3) := by decide +kernel
theorem d_tc_executeRowOne_118 : decode bc_tc_executeRowOne 118 = .ok (.bipush 8, 2) := by decide +kernel
theorem d_tc_executeRowOne_120 : decode bc_tc_executeRowOne 120 = .ok (.invokevirtual 82, 3) := by decide +kernel
theorem d_tc_executeRowOne_123 : decode bc_tc_executeRowOne 123 = .ok (.aload_n 0, 1) := by decide +kernel
theorem d_tc_executeRowOne_124 : decode bc_tc_executeRowOne 124 = .ok (.invokevirtual 113, 3) := by decide +kernel
theorem d_tc_executeRowOne_127 : decode bc_tc_executeRowOne 127 = .ok (.ior, 1) := by decide +kernel
theorem d_tc_executeRowOne_128 : decode bc_tc_executeRowOne 128 = .ok (.invokevirtual 36, 3) := by decide +kernel
theorem d_tc_executeRowOne_131 : decode bc_tc_executeRowOne 131 = .ok (.goto 61, 3) := by decide +kernel
theorem d_tc_executeRowOne_134 : decode bc_tc_executeRowOne 134 = .ok (.aload_n 0, 1) := by decide +kernel
theorem d_tc_executeRowOne_135 : decode bc_tc_executeRowOne 135 = .ok (.getfield 19, 3) := by decide +kernel
theorem d_tc_executeRowOne_138 : decode bc_tc_executeRowOne 138 = .ok (.bipush 8, 2) := by decide +kernel
theorem d_tc_executeRowOne_140 : decode bc_tc_executeRowOne 140 = .ok (.aload_n 0, 1) := by decide +kernel
theorem d_tc_executeRowOne_141 : decode bc_tc_executeRowOne 141 = .ok (.getfield 19, 3) := by decide +kernel
theorem d_tc_executeRowOne_144 : decode bc_tc_executeRowOne 144 = .ok (.bipush 8, 2) := by decide +kernel
theorem d_tc_executeRowOne_146 : decode bc_tc_executeRowOne 146 = .ok (.invokevirtual 82, 3) := by decide +kernel
theorem d_tc_executeRowOne_149 : decode bc_tc_executeRowOne 149 = .ok (.aload_n 0, 1) := by decide +kernel
theorem d_tc_executeRowOne_150 : decode bc_tc_executeRowOne 150 = .ok (.invokevirtual 113, 3) := by decide +kernel
theorem d_tc_executeRowOne_153 : decode bc_tc_executeRowOne 153 = .ok (.iand, 1) := by decide +kernel
theorem d_tc_executeRowOne_154 : decode bc_tc_executeRowOne 154 = .ok (.invokevirtual 36, 3) := by decide +kernel
theorem d_tc_executeRowOne_157 : decode bc_tc_executeRowOne 157 = .ok (.goto 35, 3) := by decide +kernel
theorem d_tc_executeRowOne_160 : decode bc_tc_executeRowOne 160 = .ok (.aload_n 0, 1) := by decide +kernel
theorem d_tc_executeRowOne_161 : decode bc_tc_executeRowOne 161 = .ok (.getfield 28, 3) := by decide +kernel
theorem d_tc_executeRowOne_164 : decode bc_tc_executeRowOne 164 = .ok (.invokevirtual 170, 3) := by decide +kernel
theorem d_tc_executeRowOne_167 : decode bc_tc_executeRowOne 167 = .ok (.goto 25, 3) := by decide +kernel
theorem d_tc_executeRowOne_170 : decode bc_tc_executeRowOne 170 = .ok (.aload_n 0, 1) := by decide +kernel
theorem d_tc_executeRowOne_171 : decode bc_tc_executeRowOne 171 = .ok (.aload_n 0, 1) := by decide +kernel
theorem d_tc_executeRowOne_172 : decode bc_tc_executeRowOne 172 = .ok (.invokevirtual 113, 3) := by decide +kernel
theorem d_tc_executeRowOne_175 : decode bc_tc_executeRowOne 175 = .ok (.invokevirtual 173, 3) := by decide +kernel
theorem d_tc_executeRowOne_178 : decode bc_tc_executeRowOne 178 = .ok (.goto 14, 3) := by decide +kernel
theorem d_tc_executeRowOne_181 : decode bc_tc_executeRowOne 181 = .ok (.aload_n 0, 1) := by decide +kernel
theorem d_tc_executeRowOne_182 : decode bc_tc_executeRowOne 182 = .ok (.aload_n 0, 1) := by decide +kernel
theorem d_tc_executeRowOne_183 : decode bc_tc_executeRowOne 183 = .ok (.invokevirtual 113, 3) := by decide +kernel
theorem d_tc_executeRowOne_186 : decode bc_tc_executeRowOne 186 = .ok (.invokevirtual 176, 3) := by decide +kernel
theorem d_tc_executeRowOne_189 : decode bc_tc_executeRowOne 189 = .ok (.goto 3, 3) := by decide +kernel
theorem d_tc_executeRowOne_192 : decode bc_tc_executeRowOne 192 = .ok (.return_, 1) := by decide +kernel
theorem d_tc_branch_0 : decode bc_tc_branch 0 = .ok (.aload_n 0, 1) := by decide +kernel
theorem d_tc_branch_1 : decode bc_tc_branch 1 = .ok (.getfield 19, 3) := by decide +kernel
theorem d_tc_branch_4 : decode bc_tc_branch 4 = .ok (.iload_n 1, 1) := by decide +kernel
theorem d_tc_branch_5 : decode bc_tc_branch 5 = .ok (.invokevirtual 206, 3) := by decide +kernel
theorem d_tc_branch_8 : decode bc_tc_branch 8 = .ok (.ifCond .eq 8, 3) := by decide +kernel
theorem d_tc_branch_11 : decode bc_tc_branch 11 = .ok (.aload_n 0, 1) := by decide +kernel
theorem d_tc_branch_12 : decode bc_tc_branch 12 = .ok (.iload_n 2, 1) := by decide +kernel
theorem d_tc_branch_13 : decode bc_tc_branch 13 = .ok (.invokevirtual 161, 3) := by decide +kernel
theorem d_tc_branch_16 : decode bc_tc_branch 16 = .ok (.return_, 1) := by decide +kernel
theorem d_tc_addressByKind_0 : decode bc_tc_addressByKind 0 = .ok (.aload_n 0, 1) := by decide +kernel
theorem d_tc_addressByKind_1 : decode bc_tc_addressByKind 1 = .ok (.getfield 19, 3) := by decide +kernel
theorem d_tc_addressByKind_4 : decode bc_tc_addressByKind 4 = .ok (.iload_n 2, 1) := by decide +kernel
theorem d_tc_addressByKind_5 : decode bc_tc_addressByKind 5 = .ok (.invokevirtual 82, 3) := by decide +kernel
theorem d_tc_addressByKind_8 : decode bc_tc_addressByKind 8 = .ok (.istore_n 3, 1) := by decide +kernel
theorem d_tc_addressByKind_9 : decode bc_tc_addressByKind 9 = .ok (.iload_n 1, 1) := by decide +kernel
theorem d_tc_addressByKind_10 : decode bc_tc_addressByKind 10 = .ok (.tableswitch 218 0 13 #[70, 83, 96, 111, 126, 128, 140, 218, 152, 160, 218, 167, 179, 199], 70) := by decide +kernel
theorem d_tc_addressByKind_80 : decode bc_tc_addressByKind 80 = .ok (.aload_n 0, 1) := by decide +kernel
theorem d_tc_addressByKind_81 : decode bc_tc_addressByKind 81 = .ok (.getfield 19, 3) := by decide +kernel
theorem d_tc_addressByKind_84 : decode bc_tc_addressByKind 84 = .ok (.iload_n 2, 1) := by decide +kernel
theorem d_tc_addressByKind_85 : decode bc_tc_addressByKind 85 = .ok (.iload_n 3, 1) := by decide +kernel
theorem d_tc_addressByKind_86 : decode bc_tc_addressByKind 86 = .ok (.iconst 1, 1) := by decide +kernel
theorem d_tc_addressByKind_87 : decode bc_tc_addressByKind 87 = .ok (.iadd, 1) := by decide +kernel
theorem d_tc_addressByKind_88 : decode bc_tc_addressByKind 88 = .ok (.invokevirtual 36, 3) := by decide +kernel
theorem d_tc_addressByKind_91 : decode bc_tc_addressByKind 91 = .ok (.iload_n 3, 1) := by decide +kernel
theorem d_tc_addressByKind_92 : decode bc_tc_addressByKind 92 = .ok (.ireturn, 1) := by decide +kernel
theorem d_tc_addressByKind_93 : decode bc_tc_addressByKind 93 = .ok (.aload_n 0, 1) := by decide +kernel
theorem d_tc_addressByKind_94 : decode bc_tc_addressByKind 94 = .ok (.getfield 19, 3) := by decide +kernel
theorem d_tc_addressByKind_97 : decode bc_tc_addressByKind 97 = .ok (.iload_n 2, 1) := by decide +kernel
theorem d_tc_addressByKind_98 : decode bc_tc_addressByKind 98 = .ok (.iload_n 3, 1) := by decide +kernel
theorem d_tc_addressByKind_99 : decode bc_tc_addressByKind 99 = .ok (.iconst 2, 1) := by decide +kernel
theorem d_tc_addressByKind_100 : decode bc_tc_addressByKind 100 = .ok (.iadd, 1) := by decide +kernel
theorem d_tc_addressByKind_101 : decode bc_tc_addressByKind 101 = .ok (.invokevirtual 36, 3) := by decide +kernel
theorem d_tc_addressByKind_104 : decode bc_tc_addressByKind 104 = .ok (.iload_n 3, 1) := by decide +kernel
theorem d_tc_addressByKind_105 : decode bc_tc_addressByKind 105 = .ok (.ireturn, 1) := by decide +kernel
theorem d_tc_addressByKind_106 : decode bc_tc_addressByKind 106 = .ok (.aload_n 0, 1) := by decide +kernel
theorem d_tc_addressByKind_107 : decode bc_tc_addressByKind 107 = .ok (.getfield 19, 3) := by decide +kernel
theorem d_tc_addressByKind_110 : decode bc_tc_addressByKind 110 = .ok (.iload_n 2, 1) := by decide +kernel
theorem d_tc_addressByKind_111 : decode bc_tc_addressByKind 111 = .ok (.iload_n 3, 1) := by decide +kernel
theorem d_tc_addressByKind_112 : decode bc_tc_addressByKind 112 = .ok (.iconst 1, 1) := by decide +kernel
theorem d_tc_addressByKind_113 : decode bc_tc_addressByKind 113 = .ok (.isub, 1) := by decide +kernel
theorem d_tc_addressByKind_114 : decode bc_tc_addressByKind 114 = .ok (.invokevirtual 36, 3) := by decide +kernel
theorem d_tc_addressByKind_117 : decode bc_tc_addressByKind 117 = .ok (.iload_n 3, 1) := by decide +kernel
theorem d_tc_addressByKind_118 : decode bc_tc_addressByKind 118 = .ok (.iconst 1, 1) := by decide +kernel
theorem d_tc_addressByKind_119 : decode bc_tc_addressByKind 119 = .ok (.isub, 1) := by decide +kernel
theorem d_tc_addressByKind_120 : decode bc_tc_addressByKind 120 = .ok (.ireturn, 1) := by decide +kernel
theorem d_tc_addressByKind_121 : decode bc_tc_addressByKind 121 = .ok (.aload_n 0, 1) := by decide +kernel
theorem d_tc_addressByKind_122 : decode bc_tc_addressByKind 122 = .ok (.getfield 19, 3) := by decide +kernel
theorem d_tc_addressByKind_125 : decode bc_tc_addressByKind 125 = .ok (.iload_n 2, 1) := by decide +kernel
theorem d_tc_addressByKind_126 : decode bc_tc_addressByKind 126 = .ok (.iload_n 3, 1) := by decide +kernel
theorem d_tc_addressByKind_127 : decode bc_tc_addressByKind 127 = .ok (.iconst 2, 1) := by decide +kernel
theorem d_tc_addressByKind_128 : decode bc_tc_addressByKind 128 = .ok (.isub, 1) := by decide +kernel
theorem d_tc_addressByKind_129 : decode bc_tc_addressByKind 129 = .ok (.invokevirtual 36, 3) := by decide +kernel
theorem d_tc_addressByKind_132 : decode bc_tc_addressByKind 132 = .ok (.iload_n 3, 1) := by decide +kernel
theorem d_tc_addressByKind_133 : decode bc_tc_addressByKind 133 = .ok (.iconst 2, 1) := by decide +kernel
theorem d_tc_addressByKind_134 : decode bc_tc_addressByKind 134 = .ok (.isub, 1) := by decide +kernel
theorem d_tc_addressByKind_135 : decode bc_tc_addressByKind 135 = .ok (.ireturn, 1) := by decide +kernel
theorem d_tc_addressByKind_136 : decode bc_tc_addressByKind 136 = .ok (.iload_n 3, 1) := by decide +kernel
theorem d_tc_addressByKind_137 : decode bc_tc_addressByKind 137 = .ok (.ireturn, 1) := by decide +kernel
theorem d_tc_addressByKind_138 : decode bc_tc_addressByKind 138 = .ok (.iload_n 3, 1) := by decide +kernel
theorem d_tc_addressByKind_139 : decode bc_tc_addressByKind 139 = .ok (.aload_n 0, 1) := by decide +kernel
theorem d_tc_addressByKind_140 : decode bc_tc_addressByKind 140 = .ok (.getfield 19, 3) := by decide +kernel
theorem d_tc_addressByKind_143 : decode bc_tc_addressByKind 143 = .ok (.iconst 1, 1) := by decide +kernel
theorem d_tc_addressByKind_144 : decode bc_tc_addressByKind 144 = .ok (.invokevirtual 82, 3) := by decide +kernel
theorem d_tc_addressByKind_147 : decode bc_tc_addressByKind 147 = .ok (.i2b, 1) := by decide +kernel
theorem d_tc_addressByKind_148 : decode bc_tc_addressByKind 148 = .ok (.iadd, 1) := by decide +kernel
theorem d_tc_addressByKind_149 : decode bc_tc_addressByKind 149 = .ok (.ireturn, 1) := by decide +kernel
theorem d_tc_addressByKind_150 : decode bc_tc_addressByKind 150 = .ok (.iload_n 3, 1) := by decide +kernel
theorem d_tc_addressByKind_151 : decode bc_tc_addressByKind 151 = .ok (.aload_n 0, 1) := by decide +kernel
theorem d_tc_addressByKind_152 : decode bc_tc_addressByKind 152 = .ok (.getfield 19, 3) := by decide +kernel
theorem d_tc_addressByKind_155 : decode bc_tc_addressByKind 155 = .ok (.iconst 0, 1) := by decide +kernel
theorem d_tc_addressByKind_156 : decode bc_tc_addressByKind 156 = .ok (.invokevirtual 82, 3) := by decide +kernel
theorem d_tc_addressByKind_159 : decode bc_tc_addressByKind 159 = .ok (.i2b, 1) := by decide +kernel
theorem d_tc_addressByKind_160 : decode bc_tc_addressByKind 160 = .ok (.iadd, 1) := by decide +kernel
theorem d_tc_addressByKind_161 : decode bc_tc_addressByKind 161 = .ok (.ireturn, 1) := by decide +kernel
theorem d_tc_addressByKind_162 : decode bc_tc_addressByKind 162 = .ok (.iload_n 3, 1) := by decide +kernel
theorem d_tc_addressByKind_163 : decode bc_tc_addressByKind 163 = .ok (.aload_n 0, 1) := by decide +kernel
theorem d_tc_addressByKind_164 : decode bc_tc_addressByKind 164 = .ok (.invokevirtual 113, 3) := by decide +kernel
theorem d_tc_addressByKind_167 : decode bc_tc_addressByKind 167 = .ok (.i2b, 1) := by decide +kernel
theorem d_tc_addressByKind_168 : decode bc_tc_addressByKind 168 = .ok (.iadd, 1) := by decide +kernel
theorem d_tc_addressByKind_169 : decode bc_tc_addressByKind 169 = .ok (.ireturn, 1) := by decide +kernel
theorem d_tc_addressByKind_170 : decode bc_tc_addressByKind 170 = .ok (.iload_n 3, 1) := by decide +kernel
theorem d_tc_addressByKind_171 : decode bc_tc_addressByKind 171 = .ok (.aload_n 0, 1) := by decide +kernel
theorem d_tc_addressByKind_172 : decode bc_tc_addressByKind 172 = .ok (.invokevirtual 135, 3) := by decide +kernel
theorem d_tc_addressByKind_175 : decode bc_tc_addressByKind 175 = .ok (.iadd, 1) := by decide +kernel
theorem d_tc_addressByKind_176 : decode bc_tc_addressByKind 176 = .ok (.ireturn, 1) := by decide +kernel
theorem d_tc_addressByKind_177 : decode bc_tc_addressByKind 177 = .ok (.iload_n 3, 1) := by decide +kernel
theorem d_tc_addressByKind_178 : decode bc_tc_addressByKind 178 = .ok (.aload_n 0, 1) := by decide +kernel
theorem d_tc_addressByKind_179 : decode bc_tc_addressByKind 179 = .ok (.getfield 19, 3) := by decide +kernel
theorem d_tc_addressByKind_182 : decode bc_tc_addressByKind 182 = .ok (.bipush 9, 2) := by decide +kernel
theorem d_tc_addressByKind_184 : decode bc_tc_addressByKind 184 = .ok (.invokevirtual 82, 3) := by decide +kernel
theorem d_tc_addressByKind_187 : decode bc_tc_addressByKind 187 = .ok (.iadd, 1) := by decide +kernel
theorem d_tc_addressByKind_188 : decode bc_tc_addressByKind 188 = .ok (.ireturn, 1) := by decide +kernel
theorem d_tc_addressByKind_189 : decode bc_tc_addressByKind 189 = .ok (.aload_n 0, 1) := by decide +kernel
theorem d_tc_addressByKind_190 : decode bc_tc_addressByKind 190 = .ok (.invokevirtual 113, 3) := by decide +kernel
theorem d_tc_addressByKind_193 : decode bc_tc_addressByKind 193 = .ok (.i2b, 1) := by decide +kernel
theorem d_tc_addressByKind_194 : decode bc_tc_addressByKind 194 = .ok (.istore 4, 2) := by decide +kernel
theorem d_tc_addressByKind_196 : decode bc_tc_addressByKind 196 = .ok (.aload_n 0, 1) := by decide +kernel
theorem d_tc_addressByKind_197 : decode bc_tc_addressByKind 197 = .ok (.getfield 19, 3) := by decide +kernel
theorem d_tc_addressByKind_200 : decode bc_tc_addressByKind 200 = .ok (.bipush 6, 2) := by decide +kernel
theorem d_tc_addressByKind_202 : decode bc_tc_addressByKind 202 = .ok (.invokevirtual 82, 3) := by decide +kernel
theorem d_tc_addressByKind_205 : decode bc_tc_addressByKind 205 = .ok (.iload 4, 2) := by decide +kernel
theorem d_tc_addressByKind_207 : decode bc_tc_addressByKind 207 = .ok (.iadd, 1) := by decide +kernel
theorem d_tc_addressByKind_208 : decode bc_tc_addressByKind 208 = .ok (.ireturn, 1) := by decide +kernel
theorem d_tc_addressByKind_209 : decode bc_tc_addressByKind 209 = .ok (.aload_n 0, 1) := by decide +kernel
theorem d_tc_addressByKind_210 : decode bc_tc_addressByKind 210 = .ok (.invokevirtual 135, 3) := by decide +kernel
theorem d_tc_addressByKind_213 : decode bc_tc_addressByKind 213 = .ok (.istore 4, 2) := by decide +kernel
theorem d_tc_addressByKind_215 : decode bc_tc_addressByKind 215 = .ok (.aload_n 0, 1) := by decide +kernel
theorem d_tc_addressByKind_216 : decode bc_tc_addressByKind 216 = .ok (.getfield 19, 3) := by decide +kernel
theorem d_tc_addressByKind_219 : decode bc_tc_addressByKind 219 = .ok (.bipush 6, 2) := by decide +kernel
theorem d_tc_addressByKind_221 : decode bc_tc_addressByKind 221 = .ok (.invokevirtual 82, 3) := by decide +kernel
theorem d_tc_addressByKind_224 : decode bc_tc_addressByKind 224 = .ok (.iload 4, 2) := by decide +kernel
theorem d_tc_addressByKind_226 : decode bc_tc_addressByKind 226 = .ok (.iadd, 1) := by decide +kernel
theorem d_tc_addressByKind_227 : decode bc_tc_addressByKind 227 = .ok (.ireturn, 1) := by decide +kernel
theorem d_tc_addressByKind_228 : decode bc_tc_addressByKind 228 = .ok (.aload_n 0, 1) := by decide +kernel
theorem d_tc_addressByKind_229 : decode bc_tc_addressByKind 229 = .ok (.invokevirtual 135, 3) := by decide +kernel
theorem d_tc_addressByKind_232 : decode bc_tc_addressByKind 232 = .ok (.ireturn, 1) := by decide +kernel
theorem d_tc_indexedAddress_0 : decode bc_tc_indexedAddress 0 = .ok (.aload_n 0, 1) := by decide +kernel
theorem d_tc_indexedAddress_1 : decode bc_tc_indexedAddress 1 = .ok (.invokevirtual 113, 3) := by decide +kernel
theorem d_tc_indexedAddress_4 : decode bc_tc_indexedAddress 4 = .ok (.istore_n 1, 1) := by decide +kernel
theorem d_tc_indexedAddress_5 : decode bc_tc_indexedAddress 5 = .ok (.iconst 2, 1) := by decide +kernel
theorem d_tc_indexedAddress_6 : decode bc_tc_indexedAddress 6 = .ok (.iload_n 1, 1) := by decide +kernel
theorem d_tc_indexedAddress_7 : decode bc_tc_indexedAddress 7 = .ok (.iconst 5, 1) := by decide +kernel
theorem d_tc_indexedAddress_8 : decode bc_tc_indexedAddress 8 = .ok (.ishr, 1) := by decide +kernel
theorem d_tc_indexedAddress_9 : decode bc_tc_indexedAddress 9 = .ok (.iconst 3, 1) := by decide +kernel
theorem d_tc_indexedAddress_10 : decode bc_tc_indexedAddress 10 = .ok (.iand, 1) := by decide +kernel
theorem d_tc_indexedAddress_11 : decode bc_tc_indexedAddress 11 = .ok (.iadd, 1) := by decide +kernel
theorem d_tc_indexedAddress_12 : decode bc_tc_indexedAddress 12 = .ok (.istore_n 2, 1) := by decide +kernel
theorem d_tc_indexedAddress_13 : decode bc_tc_indexedAddress 13 = .ok (.iload_n 1, 1) := by decide +kernel
theorem d_tc_indexedAddress_14 : decode bc_tc_indexedAddress 14 = .ok (.sipush 128, 3) := by decide +kernel
theorem d_tc_indexedAddress_17 : decode bc_tc_indexedAddress 17 = .ok (.if_icmp .ge 28, 3) := by decide +kernel
theorem d_tc_indexedAddress_20 : decode bc_tc_indexedAddress 20 = .ok (.iload_n 1, 1) := by decide +kernel
theorem d_tc_indexedAddress_21 : decode bc_tc_indexedAddress 21 = .ok (.bipush 31, 2) := by decide +kernel
theorem d_tc_indexedAddress_23 : decode bc_tc_indexedAddress 23 = .ok (.iand, 1) := by decide +kernel
theorem d_tc_indexedAddress_24 : decode bc_tc_indexedAddress 24 = .ok (.bipush 16, 2) := by decide +kernel
theorem d_tc_indexedAddress_26 : decode bc_tc_indexedAddress 26 = .ok (.ixor, 1) := by decide +kernel
theorem d_tc_indexedAddress_27 : decode bc_tc_indexedAddress 27 = .ok (.bipush 16, 2) := by decide +kernel
theorem d_tc_indexedAddress_29 : decode bc_tc_indexedAddress 29 = .ok (.isub, 1) := by decide +kernel
theorem d_tc_indexedAddress_30 : decode bc_tc_indexedAddress 30 = .ok (.istore_n 3, 1) := by decide +kernel
theorem d_tc_indexedAddress_31 : decode bc_tc_indexedAddress 31 = .ok (.aload_n 0, 1) := by decide +kernel
theorem d_tc_indexedAddress_32 : decode bc_tc_indexedAddress 32 = .ok (.getfield 19, 3) := by decide +kernel
theorem d_tc_indexedAddress_35 : decode bc_tc_indexedAddress 35 = .ok (.iload_n 2, 1) := by decide +kernel
theorem d_tc_indexedAddress_36 : decode bc_tc_indexedAddress 36 = .ok (.invokevirtual 82, 3) := by decide +kernel
theorem d_tc_indexedAddress_39 : decode bc_tc_indexedAddress 39 = .ok (.iload_n 3, 1) := by decide +kernel
theorem d_tc_indexedAddress_40 : decode bc_tc_indexedAddress 40 = .ok (.iadd, 1) := by decide +kernel
theorem d_tc_indexedAddress_41 : decode bc_tc_indexedAddress 41 = .ok (.ldc 138, 2) := by decide +kernel
theorem d_tc_indexedAddress_43 : decode bc_tc_indexedAddress 43 = .ok (.iand, 1) := by decide +kernel
theorem d_tc_indexedAddress_44 : decode bc_tc_indexedAddress 44 = .ok (.ireturn, 1) := by decide +kernel
theorem d_tc_indexedAddress_45 : decode bc_tc_indexedAddress 45 = .ok (.aload_n 0, 1) := by decide +kernel
theorem d_tc_indexedAddress_46 : decode bc_tc_indexedAddress 46 = .ok (.iload_n 1, 1) := by decide +kernel
theorem d_tc_indexedAddress_47 : decode bc_tc_indexedAddress 47 = .ok (.bipush 15, 2) := by decide +kernel
theorem d_tc_indexedAddress_49 : decode bc_tc_indexedAddress 49 = .ok (.iand, 1) := by decide +kernel
theorem d_tc_indexedAddress_50 : decode bc_tc_indexedAddress 50 = .ok (.iload_n 2, 1) := by decide +kernel
theorem d_tc_indexedAddress_51 : decode bc_tc_indexedAddress 51 = .ok (.invokevirtual 139, 3) := by decide +kernel
theorem d_tc_indexedAddress_54 : decode bc_tc_indexedAddress 54 = .ok (.ldc 138, 2) := by decide +kernel
theorem d_tc_indexedAddress_56 : decode bc_tc_indexedAddress 56 = .ok (.iand, 1) := by decide +kernel
theorem d_tc_indexedAddress_57 : decode bc_tc_indexedAddress 57 = .ok (.istore_n 3, 1) := by decide +kernel
theorem d_tc_indexedAddress_58 : decode bc_tc_indexedAddress 58 = .ok (.iload_n 1, 1) := by decide +kernel
theorem d_tc_indexedAddress_59 : decode bc_tc_indexedAddress 59 = .ok (.bipush 16, 2) := by decide +kernel
theorem d_tc_indexedAddress_61 : decode bc_tc_indexedAddress 61 = .ok (.iand, 1) := by decide +kernel
theorem d_tc_indexedAddress_62 : decode bc_tc_indexedAddress 62 = .ok (.ifCond .ne 7, 3) := by decide +kernel
theorem d_tc_indexedAddress_65 : decode bc_tc_indexedAddress 65 = .ok (.iload_n 3, 1) := by decide +kernel
theorem d_tc_indexedAddress_66 : decode bc_tc_indexedAddress 66 = .ok (.goto 11, 3) := by decide +kernel
theorem d_tc_indexedAddress_69 : decode bc_tc_indexedAddress 69 = .ok (.aload_n 0, 1) := by decide +kernel
theorem d_tc_indexedAddress_70 : decode bc_tc_indexedAddress 70 = .ok (.getfield 10, 3) := by decide +kernel
theorem d_tc_indexedAddress_73 : decode bc_tc_indexedAddress 73 = .ok (.iload_n 3, 1) := by decide +kernel
theorem d_tc_indexedAddress_74 : decode bc_tc_indexedAddress 74 = .ok (.invokevirtual 56, 3) := by decide +kernel
theorem d_tc_indexedAddress_77 : decode bc_tc_indexedAddress 77 = .ok (.ireturn, 1) := by decide +kernel
theorem d_tc_takeAddress_0 : decode bc_tc_takeAddress 0 = .ok (.aload_n 0, 1) := by decide +kernel
theorem d_tc_takeAddress_1 : decode bc_tc_takeAddress 1 = .ok (.iload_n 1, 1) := by decide +kernel
theorem d_tc_takeAddress_2 : decode bc_tc_takeAddress 2 = .ok (.iload_n 2, 1) := by decide +kernel
theorem d_tc_takeAddress_3 : decode bc_tc_takeAddress 3 = .ok (.invokevirtual 203, 3) := by decide +kernel
theorem d_tc_takeAddress_6 : decode bc_tc_takeAddress 6 = .ok (.iload_n 1, 1) := by decide +kernel
theorem d_tc_takeAddress_7 : decode bc_tc_takeAddress 7 = .ok (.iconst 2, 1) := by decide +kernel
theorem d_tc_takeAddress_8 : decode bc_tc_takeAddress 8 = .ok (.if_icmp .eq 8, 3) := by decide +kernel
theorem d_tc_takeAddress_11 : decode bc_tc_takeAddress 11 = .ok (.iload_n 1, 1) := by decide +kernel
theorem d_tc_takeAddress_12 : decode bc_tc_takeAddress 12 = .ok (.iconst 3, 1) := by decide +kernel
theorem d_tc_takeAddress_13 : decode bc_tc_takeAddress 13 = .ok (.if_icmp .ne 20, 3) := by decide +kernel
theorem d_tc_takeAddress_16 : decode bc_tc_takeAddress 16 = .ok (.aload_n 0, 1) := by decide +kernel
theorem d_tc_takeAddress_17 : decode bc_tc_takeAddress 17 = .ok (.getfield 19, 3) := by decide +kernel
theorem d_tc_takeAddress_20 : decode bc_tc_takeAddress 20 = .ok (.iconst 4, 1) := by decide +kernel
theorem d_tc_takeAddress_21 : decode bc_tc_takeAddress 21 = .ok (.iload_n 2, 1) := by decide +kernel
theorem d_tc_takeAddress_22 : decode bc_tc_takeAddress 22 = .ok (.ifCond .ne 7, 3) := by decide +kernel
theorem d_tc_takeAddress_25 : decode bc_tc_takeAddress 25 = .ok (.iconst 1, 1) := by decide +kernel
theorem d_tc_takeAddress_26 : decode bc_tc_takeAddress 26 = .ok (.goto 4, 3) := by decide +kernel
theorem d_tc_takeAddress_29 : decode bc_tc_takeAddress 29 = .ok (.iconst 0, 1) := by decide +kernel
theorem d_tc_takeAddress_30 : decode bc_tc_takeAddress 30 = .ok (.invokevirtual 40, 3) := by decide +kernel
theorem d_tc_takeAddress_33 : decode bc_tc_takeAddress 33 = .ok (.return_, 1) := by decide +kernel
theorem d_tc_pullByte_0 : decode bc_tc_pullByte 0 = .ok (.aload_n 0, 1) := by decide +kernel
theorem d_tc_pullByte_1 : decode bc_tc_pullByte 1 = .ok (.getfield 19, 3) := by decide +kernel
theorem d_tc_pullByte_4 : decode bc_tc_pullByte 4 = .ok (.iload_n 1, 1) := by decide +kernel
theorem d_tc_pullByte_5 : decode bc_tc_pullByte 5 = .ok (.invokevirtual 82, 3) := by decide +kernel
theorem d_tc_pullByte_8 : decode bc_tc_pullByte 8 = .ok (.istore_n 2, 1) := by decide +kernel
theorem d_tc_pullByte_9 : decode bc_tc_pullByte 9 = .ok (.aload_n 0, 1) := by decide +kernel
theorem d_tc_pullByte_10 : decode bc_tc_pullByte 10 = .ok (.getfield 19, 3) := by decide +kernel
theorem d_tc_pullByte_13 : decode bc_tc_pullByte 13 = .ok (.iload_n 1, 1) := by decide +kernel
theorem d_tc_pullByte_14 : decode bc_tc_pullByte 14 = .ok (.iload_n 2, 1) := by decide +kernel
theorem d_tc_pullByte_15 : decode bc_tc_pullByte 15 = .ok (.iconst 1, 1) := by decide +kernel
theorem d_tc_pullByte_16 : decode bc_tc_pullByte 16 = .ok (.iadd, 1) := by decide +kernel
theorem d_tc_pullByte_17 : decode bc_tc_pullByte 17 = .ok (.invokevirtual 36, 3) := by decide +kernel
theorem d_tc_pullByte_20 : decode bc_tc_pullByte 20 = .ok (.aload_n 0, 1) := by decide +kernel
theorem d_tc_pullByte_21 : decode bc_tc_pullByte 21 = .ok (.getfield 10, 3) := by decide +kernel
theorem d_tc_pullByte_24 : decode bc_tc_pullByte 24 = .ok (.iload_n 2, 1) := by decide +kernel
theorem d_tc_pullByte_25 : decode bc_tc_pullByte 25 = .ok (.invokevirtual 67, 3) := by decide +kernel
theorem d_tc_pullByte_28 : decode bc_tc_pullByte 28 = .ok (.ireturn, 1) := by decide +kernel
theorem d_tc_pullWord_0 : decode bc_tc_pullWord 0 = .ok (.aload_n 0, 1) := by decide +kernel
theorem d_tc_pullWord_1 : decode bc_tc_pullWord 1 = .ok (.getfield 19, 3) := by decide +kernel
theorem d_tc_pullWord_4 : decode bc_tc_pullWord 4 = .ok (.iload_n 1, 1) := by decide +kernel
theorem d_tc_pullWord_5 : decode bc_tc_pullWord 5 = .ok (.invokevirtual 82, 3) := by decide +kernel
theorem d_tc_pullWord_8 : decode bc_tc_pullWord 8 = .ok (.istore_n 2, 1) := by decide +kernel
theorem d_tc_pullWord_9 : decode bc_tc_pullWord 9 = .ok (.aload_n 0, 1) := by decide +kernel
theorem d_tc_pullWord_10 : decode bc_tc_pullWord 10 = .ok (.getfield 19, 3) := by decide +kernel
theorem d_tc_pullWord_13 : decode bc_tc_pullWord 13 = .ok (.iload_n 1, 1) := by decide +kernel
theorem d_tc_pullWord_14 : decode bc_tc_pullWord 14 = .ok (.iload_n 2, 1) := by decide +kernel
theorem d_tc_pullWord_15 : decode bc_tc_pullWord 15 = .ok (.iconst 2, 1) := by decide +kernel
theorem d_tc_pullWord_16 : decode bc_tc_pullWord 16 = .ok (.iadd, 1) := by decide +kernel
theorem d_tc_pullWord_17 : decode bc_tc_pullWord 17 = .ok (.invokevirtual 36, 3) := by decide +kernel
theorem d_tc_pullWord_20 : decode bc_tc_pullWord 20 = .ok (.aload_n 0, 1) := by decide +kernel
theorem d_tc_pullWord_21 : decode bc_tc_pullWord 21 = .ok (.getfield 10, 3) := by decide +kernel
theorem d_tc_pullWord_24 : decode bc_tc_pullWord 24 = .ok (.iload_n 2, 1) := by decide +kernel
theorem d_tc_pullWord_25 : decode bc_tc_pullWord 25 = .ok (.invokevirtual 56, 3) := by decide +kernel
theorem d_tc_pullWord_28 : decode bc_tc_pullWord 28 = .ok (.ireturn, 1) := by decide +kernel
theorem d_tc_pullRegisters_0 : decode bc_tc_pullRegisters 0 = .ok (.iload_n 2, 1) := by decide +kernel
theorem d_tc_pullRegisters_1 : decode bc_tc_pullRegisters 1 = .ok (.iconst 1, 1) := by decide +kernel
theorem d_tc_pullRegisters_2 : decode bc_tc_pullRegisters 2 = .ok (.iand, 1) := by decide +kernel
theorem d_tc_pullRegisters_3 : decode bc_tc_pullRegisters 3 = .ok (.ifCond .eq 17, 3) := by decide +kernel
theorem d_tc_pullRegisters_6 : decode bc_tc_pullRegisters 6 = .ok (.aload_n 0, 1) := by decide +kernel
theorem d_tc_pullRegisters_7 : decode bc_tc_pullRegisters 7 = .ok (.getfield 19, 3) := by decide +kernel
theorem d_tc_pullRegisters_10 : decode bc_tc_pullRegisters 10 = .ok (.bipush 8, 2) := by decide +kernel
theorem d_tc_pullRegisters_12 : decode bc_tc_pullRegisters 12 = .ok (.aload_n 0, 1) := by decide +kernel
theorem d_tc_pullRegisters_13 : decode bc_tc_pullRegisters 13 = .ok (.iload_n 1, 1) := by decide +kernel
theorem d_tc_pullRegisters_14 : decode bc_tc_pullRegisters 14 = .ok (.invokevirtual 251, 3) := by decide +kernel
theorem d_tc_pullRegisters_17 : decode bc_tc_pullRegisters 17 = .ok (.invokevirtual 36, 3) := by decide +kernel
theorem d_tc_pullRegisters_20 : decode bc_tc_pullRegisters 20 = .ok (.iload_n 2, 1) := by decide +kernel
theorem d_tc_pullRegisters_21 : decode bc_tc_pullRegisters 21 = .ok (.iconst 2, 1) := by decide +kernel
theorem d_tc_pullRegisters_22 : decode bc_tc_pullRegisters 22 = .ok (.iand, 1) := by decide +kernel
theorem d_tc_pullRegisters_23 : decode bc_tc_pullRegisters 23 = .ok (.ifCond .eq 16, 3) := by decide +kernel
theorem d_tc_pullRegisters_26 : decode bc_tc_pullRegisters 26 = .ok (.aload_n 0, 1) := by decide +kernel
theorem d_tc_pullRegisters_27 : decode bc_tc_pullRegisters 27 = .ok (.getfield 19, 3) := by decide +kernel
theorem d_tc_pullRegisters_30 : decode bc_tc_pullRegisters 30 = .ok (.iconst 0, 1) := by decide +kernel
theorem d_tc_pullRegisters_31 : decode bc_tc_pullRegisters 31 = .ok (.aload_n 0, 1) := by decide +kernel
theorem d_tc_pullRegisters_32 : decode bc_tc_pullRegisters 32 = .ok (.iload_n 1, 1) := by decide +kernel
theorem d_tc_pullRegisters_33 : decode bc_tc_pullRegisters 33 = .ok (.invokevirtual 251, 3) := by decide +kernel
theorem d_tc_pullRegisters_36 : decode bc_tc_pullRegisters 36 = .ok (.invokevirtual 36, 3) := by decide +kernel
theorem d_tc_pullRegisters_39 : decode bc_tc_pullRegisters 39 = .ok (.iload_n 2, 1) := by decide +kernel
theorem d_tc_pullRegisters_40 : decode bc_tc_pullRegisters 40 = .ok (.iconst 4, 1) := by decide +kernel
theorem d_tc_pullRegisters_41 : decode bc_tc_pullRegisters 41 = .ok (.iand, 1) := by decide +kernel
theorem d_tc_pullRegisters_42 : decode bc_tc_pullRegisters 42 = .ok (.ifCond .eq 16, 3) := by decide +kernel
theorem d_tc_pullRegisters_45 : decode bc_tc_pullRegisters 45 = .ok (.aload_n 0, 1) := by decide +kernel
theorem d_tc_pullRegisters_46 : decode bc_tc_pullRegisters 46 = .ok (.getfield 19, 3) := by decide +kernel
theorem d_tc_pullRegisters_49 : decode bc_tc_pullRegisters 49 = .ok (.iconst 1, 1) := by decide +kernel
theorem d_tc_pullRegisters_50 : decode bc_tc_pullRegisters 50 = .ok (.aload_n 0, 1) := by decide +kernel
theorem d_tc_pullRegisters_51 : decode bc_tc_pullRegisters 51 = .ok (.iload_n 1, 1) := by decide +kernel
theorem d_tc_pullRegisters_52 : decode bc_tc_pullRegisters 52 = .ok (.invokevirtual 251, 3) := by decide +kernel
theorem d_tc_pullRegisters_55 : decode bc_tc_pullRegisters 55 = .ok (.invokevirtual 36, 3) := by decide +kernel
theorem d_tc_pullRegisters_58 : decode bc_tc_pullRegisters 58 = .ok (.iload_n 2, 1) := by decide +kernel
theorem d_tc_pullRegisters_59 : decode bc_tc_pullRegisters 59 = .ok (.bipush 8, 2) := by decide +kernel
theorem d_tc_pullRegisters_61 : decode bc_tc_pullRegisters 61 = .ok (.iand, 1) := by decide +kernel
theorem d_tc_pullRegisters_62 : decode bc_tc_pullRegisters 62 = .ok (.ifCond .eq 17, 3) := by decide +kernel
theorem d_tc_pullRegisters_65 : decode bc_tc_pullRegisters 65 = .ok (.aload_n 0, 1) := by decide +kernel
theorem d_tc_pullRegisters_66 : decode bc_tc_pullRegisters 66 = .ok (.getfield 19, 3) := by decide +kernel
theorem d_tc_pullRegisters_69 : decode bc_tc_pullRegisters 69 = .ok (.bipush 7, 2) := by decide +kernel
theorem d_tc_pullRegisters_71 : decode bc_tc_pullRegisters 71 = .ok (.aload_n 0, 1) := by decide +kernel
theorem d_tc_pullRegisters_72 : decode bc_tc_pullRegisters 72 = .ok (.iload_n 1, 1) := by decide +kernel
theorem d_tc_pullRegisters_73 : decode bc_tc_pullRegisters 73 = .ok (.invokevirtual 251, 3) := by decide +kernel
theorem d_tc_pullRegisters_76 : decode bc_tc_pullRegisters 76 = .ok (.invokevirtual 36, 3) := by decide +kernel
theorem d_tc_pullRegisters_79 : decode bc_tc_pullRegisters 79 = .ok (.iload_n 2, 1) := by decide +kernel
theorem d_tc_pullRegisters_80 : decode bc_tc_pullRegisters 80 = .ok (.bipush 16, 2) := by decide +kernel
theorem d_tc_pullRegisters_82 : decode bc_tc_pullRegisters 82 = .ok (.iand, 1) := by decide +kernel
theorem d_tc_pullRegisters_83 : decode bc_tc_pullRegisters 83 = .ok (.ifCond .eq 16, 3) := by decide +kernel
theorem d_tc_pullRegisters_86 : decode bc_tc_pullRegisters 86 = .ok (.aload_n 0, 1) := by decide +kernel
theorem d_tc_pullRegisters_87 : decode bc_tc_pullRegisters 87 = .ok (.getfield 19, 3) := by decide +kernel
theorem d_tc_pullRegisters_90 : decode bc_tc_pullRegisters 90 = .ok (.iconst 2, 1) := by decide +kernel
theorem d_tc_pullRegisters_91 : decode bc_tc_pullRegisters 91 = .ok (.aload_n 0, 1) := by decide +kernel
theorem d_tc_pullRegisters_92 : decode bc_tc_pullRegisters 92 = .ok (.iload_n 1, 1) := by decide +kernel
theorem d_tc_pullRegisters_93 : decode bc_tc_pullRegisters 93 = .ok (.invokevirtual 188, 3) := by decide +kernel
theorem d_tc_pullRegisters_96 : decode bc_tc_pullRegisters 96 = .ok (.invokevirtual 36, 3) := by decide +kernel
theorem d_tc_pullRegisters_99 : decode bc_tc_pullRegisters 99 = .ok (.iload_n 2, 1) := by decide +kernel
theorem d_tc_pullRegisters_100 : decode bc_tc_pullRegisters 100 = .ok (.bipush 32, 2) := by decide +kernel
theorem d_tc_pullRegisters_102 : decode bc_tc_pullRegisters 102 = .ok (.iand, 1) := by decide +kernel
theorem d_tc_pullRegisters_103 : decode bc_tc_pullRegisters 103 = .ok (.ifCond .eq 16, 3) := by decide +kernel
theorem d_tc_pullRegisters_106 : decode bc_tc_pullRegisters 106 = .ok (.aload_n 0, 1) := by decide +kernel
theorem d_tc_pullRegisters_107 : decode bc_tc_pullRegisters 107 = .ok (.getfield 19, 3) := by decide +kernel
theorem d_tc_pullRegisters_110 : decode bc_tc_pullRegisters 110 = .ok (.iconst 3, 1) := by decide +kernel
theorem d_tc_pullRegisters_111 : decode bc_tc_pullRegisters 111 = .ok (.aload_n 0, 1) := by decide +kernel
theorem d_tc_pullRegisters_112 : decode bc_tc_pullRegisters 112 = .ok (.iload_n 1, 1) := by decide +kernel
theorem d_tc_pullRegisters_113 : decode bc_tc_pullRegisters 113 = .ok (.invokevirtual 188, 3) := by decide +kernel
theorem d_tc_pullRegisters_116 : decode bc_tc_pullRegisters 116 = .ok (.invokevirtual 36, 3) := by decide +kernel
theorem d_tc_pullRegisters_119 : decode bc_tc_pullRegisters 119 = .ok (.iload_n 2, 1) := by decide +kernel
theorem d_tc_pullRegisters_120 : decode bc_tc_pullRegisters 120 = .ok (.bipush 64, 2) := by decide +kernel
theorem d_tc_pullRegisters_122 : decode bc_tc_pullRegisters 122 = .ok (.iand, 1) := by decide +kernel
theorem d_tc_pullRegisters_123 : decode bc_tc_pullRegisters 123 = .ok (.ifCond .eq 16, 3) := by decide +kernel
theorem d_tc_pullRegisters_126 : decode bc_tc_pullRegisters 126 = .ok (.aload_n 0, 1) := by decide +kernel
theorem d_tc_pullRegisters_127 : decode bc_tc_pullRegisters 127 = .ok (.iload_n 1, 1) := by decide +kernel
theorem d_tc_pullRegisters_128 : decode bc_tc_pullRegisters 128 = .ok (.invokestatic 245, 3) := by decide +kernel
theorem d_tc_pullRegisters_131 : decode bc_tc_pullRegisters 131 = .ok (.aload_n 0, 1) := by decide +kernel
theorem d_tc_pullRegisters_132 : decode bc_tc_pullRegisters 132 = .ok (.iload_n 1, 1) := by decide +kernel
theorem d_tc_pullRegisters_133 : decode bc_tc_pullRegisters 133 = .ok (.invokevirtual 188, 3) := by decide +kernel
theorem d_tc_pullRegisters_136 : decode bc_tc_pullRegisters 136 = .ok (.invokevirtual 203, 3) := by decide +kernel
theorem d_tc_pullRegisters_139 : decode bc_tc_pullRegisters 139 = .ok (.iload_n 2, 1) := by decide +kernel
theorem d_tc_pullRegisters_140 : decode bc_tc_pullRegisters 140 = .ok (.sipush 128, 3) := by decide +kernel
theorem d_tc_pullRegisters_143 : decode bc_tc_pullRegisters 143 = .ok (.iand, 1) := by decide +kernel
theorem d_tc_pullRegisters_144 : decode bc_tc_pullRegisters 144 = .ok (.ifCond .eq 17, 3) := by decide +kernel
theorem d_tc_pullRegisters_147 : decode bc_tc_pullRegisters 147 = .ok (.aload_n 0, 1) := by decide +kernel
theorem d_tc_pullRegisters_148 : decode bc_tc_pullRegisters 148 = .ok (.getfield 19, 3) := by decide +kernel
theorem d_tc_pullRegisters_151 : decode bc_tc_pullRegisters 151 = .ok (.bipush 6, 2) := by decide +kernel
theorem d_tc_pullRegisters_153 : decode bc_tc_pullRegisters 153 = .ok (.aload_n 0, 1) := by decide +kernel
theorem d_tc_pullRegisters_154 : decode bc_tc_pullRegisters 154 = .ok (.iload_n 1, 1) := by decide +kernel
theorem d_tc_pullRegisters_155 : decode bc_tc_pullRegisters 155 = .ok (.invokevirtual 188, 3) := by decide +kernel
theorem d_tc_pullRegisters_158 : decode bc_tc_pullRegisters 158 = .ok (.invokevirtual 36, 3) := by decide +kernel
theorem d_tc_pullRegisters_161 : decode bc_tc_pullRegisters 161 = .ok (.return_, 1) := by decide +kernel
theorem d_tc_returnFromInterrupt_0 : decode bc_tc_returnFromInterrupt 0 = .ok (.aload_n 0, 1) := by decide +kernel
theorem d_tc_returnFromInterrupt_1 : decode bc_tc_returnFromInterrupt 1 = .ok (.getfield 19, 3) := by decide +kernel
theorem d_tc_returnFromInterrupt_4 : decode bc_tc_returnFromInterrupt 4 = .ok (.bipush 8, 2) := by decide +kernel
theorem d_tc_returnFromInterrupt_6 : decode bc_tc_returnFromInterrupt 6 = .ok (.aload_n 0, 1) := by decide +kernel
theorem d_tc_returnFromInterrupt_7 : decode bc_tc_returnFromInterrupt 7 = .ok (.iconst 5, 1) := by decide +kernel
theorem d_tc_returnFromInterrupt_8 : decode bc_tc_returnFromInterrupt 8 = .ok (.invokevirtual 251, 3) := by decide +kernel
theorem d_tc_returnFromInterrupt_11 : decode bc_tc_returnFromInterrupt 11 = .ok (.invokevirtual 36, 3) := by decide +kernel
theorem d_tc_returnFromInterrupt_14 : decode bc_tc_returnFromInterrupt 14 = .ok (.aload_n 0, 1) := by decide +kernel
theorem d_tc_returnFromInterrupt_15 : decode bc_tc_returnFromInterrupt 15 = .ok (.iconst 5, 1) := by decide +kernel
theorem d_tc_returnFromInterrupt_16 : decode bc_tc_returnFromInterrupt 16 = .ok (.aload_n 0, 1) := by decide +kernel
theorem d_tc_returnFromInterrupt_17 : decode bc_tc_returnFromInterrupt 17 = .ok (.getfield 19, 3) := by decide +kernel
theorem d_tc_returnFromInterrupt_20 : decode bc_tc_returnFromInterrupt 20 = .ok (.sipush 128, 3) := by decide +kernel
theorem d_tc_returnFromInterrupt_23 : decode bc_tc_returnFromInterrupt 23 = .ok (.invokevirtual 103, 3) := by decide +kernel
theorem d_tc_returnFromInterrupt_26 : decode bc_tc_returnFromInterrupt 26 = .ok (.ifCond .eq 9, 3) := by decide +kernel
theorem d_tc_returnFromInterrupt_29 : decode bc_tc_returnFromInterrupt 29 = .ok (.sipush 254, 3) := by decide +kernel
theorem d_tc_returnFromInterrupt_32 : decode bc_tc_returnFromInterrupt 32 = .ok (.goto 6, 3) := by decide +kernel
theorem d_tc_returnFromInterrupt_35 : decode bc_tc_returnFromInterrupt 35 = .ok (.sipush 128, 3) := by decide +kernel
theorem d_tc_returnFromInterrupt_38 : decode bc_tc_returnFromInterrupt 38 = .ok (.invokevirtual 185, 3) := by decide +kernel
theorem d_tc_returnFromInterrupt_41 : decode bc_tc_returnFromInterrupt 41 = .ok (.return_, 1) := by decide +kernel
theorem d_tc_waitForInterrupt_0 : decode bc_tc_waitForInterrupt 0 = .ok (.aload_n 0, 1) := by decide +kernel
theorem d_tc_waitForInterrupt_1 : decode bc_tc_waitForInterrupt 1 = .ok (.getfield 19, 3) := by decide +kernel
theorem d_tc_waitForInterrupt_4 : decode bc_tc_waitForInterrupt 4 = .ok (.bipush 8, 2) := by decide +kernel
theorem d_tc_waitForInterrupt_6 : decode bc_tc_waitForInterrupt 6 = .ok (.aload_n 0, 1) := by decide +kernel
theorem d_tc_waitForInterrupt_7 : decode bc_tc_waitForInterrupt 7 = .ok (.getfield 19, 3) := by decide +kernel
theorem d_tc_waitForInterrupt_10 : decode bc_tc_waitForInterrupt 10 = .ok (.bipush 8, 2) := by decide +kernel
theorem d_tc_waitForInterrupt_12 : decode bc_tc_waitForInterrupt 12 = .ok (.invokevirtual 82, 3) := by decide +kernel
theorem d_tc_waitForInterrupt_15 : decode bc_tc_waitForInterrupt 15 = .ok (.iload_n 1, 1) := by decide +kernel
theorem d_tc_waitForInterrupt_16 : decode bc_tc_waitForInterrupt 16 = .ok (.iand, 1) := by decide +kernel
theorem d_tc_waitForInterrupt_17 : decode bc_tc_waitForInterrupt 17 = .ok (.sipush 128, 3) := by decide +kernel
theorem d_tc_waitForInterrupt_20 : decode bc_tc_waitForInterrupt 20 = .ok (.ior, 1) := by decide +kernel
theorem d_tc_waitForInterrupt_21 : decode bc_tc_waitForInterrupt 21 = .ok (.invokevirtual 36, 3) := by decide +kernel
theorem d_tc_waitForInterrupt_24 : decode bc_tc_waitForInterrupt 24 = .ok (.aload_n 0, 1) := by decide +kernel
theorem d_tc_waitForInterrupt_25 : decode bc_tc_waitForInterrupt 25 = .ok (.iconst 5, 1) := by decide +kernel
theorem d_tc_waitForInterrupt_26 : decode bc_tc_waitForInterrupt 26 = .ok (.sipush 255, 3) := by decide +kernel
theorem d_tc_waitForInterrupt_29 : decode bc_tc_waitForInterrupt 29 = .ok (.invokevirtual 104, 3) := by decide +kernel
theorem d_tc_waitForInterrupt_32 : decode bc_tc_waitForInterrupt 32 = .ok (.aload_n 0, 1) := by decide +kernel
theorem d_tc_waitForInterrupt_33 : decode bc_tc_waitForInterrupt 33 = .ok (.iconst 2, 1) := by decide +kernel
theorem d_tc_waitForInterrupt_34 : decode bc_tc_waitForInterrupt 34 = .ok (.putfield 51, 3) := by decide +kernel
theorem d_tc_waitForInterrupt_37 : decode bc_tc_waitForInterrupt 37 = .ok (.return_, 1) := by decide +kernel
theorem d_tc_softwareInterrupt_0 : decode bc_tc_softwareInterrupt 0 = .ok (.aload_n 0, 1) := by decide +kernel
theorem d_tc_softwareInterrupt_1 : decode bc_tc_softwareInterrupt 1 = .ok (.getfield 19, 3) := by decide +kernel
theorem d_tc_softwareInterrupt_4 : decode bc_tc_softwareInterrupt 4 = .ok (.sipush 128, 3) := by decide +kernel
theorem d_tc_softwareInterrupt_7 : decode bc_tc_softwareInterrupt 7 = .ok (.iconst 1, 1) := by decide +kernel
theorem d_tc_softwareInterrupt_8 : decode bc_tc_softwareInterrupt 8 = .ok (.invokevirtual 40, 3) := by decide +kernel
theorem d_tc_softwareInterrupt_11 : decode bc_tc_softwareInterrupt 11 = .ok (.aload_n 0, 1) := by decide +kernel
theorem d_tc_softwareInterrupt_12 : decode bc_tc_softwareInterrupt 12 = .ok (.iconst 5, 1) := by decide +kernel
theorem d_tc_softwareInterrupt_13 : decode bc_tc_softwareInterrupt 13 = .ok (.sipush 255, 3) := by decide +kernel
theorem d_tc_softwareInterrupt_16 : decode bc_tc_softwareInterrupt 16 = .ok (.invokevirtual 104, 3) := by decide +kernel
theorem d_tc_softwareInterrupt_19 : decode bc_tc_softwareInterrupt 19 = .ok (.iload_n 1, 1) := by decide +kernel
theorem d_tc_softwareInterrupt_20 : decode bc_tc_softwareInterrupt 20 = .ok (.ifCond .ne 13, 3) := by decide +kernel
theorem d_tc_softwareInterrupt_23 : decode bc_tc_softwareInterrupt 23 = .ok (.aload_n 0, 1) := by decide +kernel
theorem d_tc_softwareInterrupt_24 : decode bc_tc_softwareInterrupt 24 = .ok (.getfield 19, 3) := by decide +kernel
theorem d_tc_softwareInterrupt_27 : decode bc_tc_softwareInterrupt 27 = .ok (.bipush 80, 2) := by decide +kernel
theorem d_tc_softwareInterrupt_29 : decode bc_tc_softwareInterrupt 29 = .ok (.iconst 1, 1) := by decide +kernel
theorem d_tc_softwareInterrupt_30 : decode bc_tc_softwareInterrupt 30 = .ok (.invokevirtual 40, 3) := by decide +kernel
theorem d_tc_softwareInterrupt_33 : decode bc_tc_softwareInterrupt 33 = .ok (.aload_n 0, 1) := by decide +kernel
theorem d_tc_softwareInterrupt_34 : decode bc_tc_softwareInterrupt 34 = .ok (.getfield 19, 3) := by decide +kernel
theorem d_tc_softwareInterrupt_37 : decode bc_tc_softwareInterrupt 37 = .ok (.bipush 6, 2) := by decide +kernel
theorem d_tc_softwareInterrupt_39 : decode bc_tc_softwareInterrupt 39 = .ok (.aload_n 0, 1) := by decide +kernel
theorem d_tc_softwareInterrupt_40 : decode bc_tc_softwareInterrupt 40 = .ok (.getfield 10, 3) := by decide +kernel
theorem d_tc_softwareInterrupt_43 : decode bc_tc_softwareInterrupt 43 = .ok (.getstatic 110, 3) := by decide +kernel
theorem d_tc_softwareInterrupt_46 : decode bc_tc_softwareInterrupt 46 = .ok (.iload_n 1, 1) := by decide +kernel
theorem d_tc_softwareInterrupt_47 : decode bc_tc_softwareInterrupt 47 = .ok (.iaload, 1) := by decide +kernel
theorem d_tc_softwareInterrupt_48 : decode bc_tc_softwareInterrupt 48 = .ok (.invokevirtual 56, 3) := by decide +kernel
theorem d_tc_softwareInterrupt_51 : decode bc_tc_softwareInterrupt 51 = .ok (.invokevirtual 36, 3) := by decide +kernel
theorem d_tc_softwareInterrupt_54 : decode bc_tc_softwareInterrupt 54 = .ok (.return_, 1) := by decide +kernel
theorem d_tc_executeRowThree_0 : decode bc_tc_executeRowThree 0 = .ok (.iload_n 2, 1) := by decide +kernel
theorem d_tc_executeRowThree_1 : decode bc_tc_executeRowThree 1 = .ok (.tableswitch 208 0 13 #[71, 71, 71, 71, 87, 99, 111, 123, 208, 135, 152, 180, 187, 198], 71) := by decide +kernel
theorem d_tc_executeRowThree_72 : decode bc_tc_executeRowThree 72 = .ok (.aload_n 0, 1) := by decide +kernel
theorem d_tc_executeRowThree_73 : decode bc_tc_executeRowThree 73 = .ok (.getstatic 179, 3) := by decide +kernel
theorem d_tc_executeRowThree_76 : decode bc_tc_executeRowThree 76 = .ok (.iload_n 2, 1) := by decide +kernel
theorem d_tc_executeRowThree_77 : decode bc_tc_executeRowThree 77 = .ok (.iaload, 1) := by decide +kernel
theorem d_tc_executeRowThree_78 : decode bc_tc_executeRowThree 78 = .ok (.aload_n 0, 1) := by decide +kernel
theorem d_tc_executeRowThree_79 : decode bc_tc_executeRowThree 79 = .ok (.invokevirtual 132, 3) := by decide +kernel
theorem d_tc_executeRowThree_82 : decode bc_tc_executeRowThree 82 = .ok (.invokevirtual 182, 3) := by decide +kernel
theorem d_tc_executeRowThree_85 : decode bc_tc_executeRowThree 85 = .ok (.goto 129, 3) := by decide +kernel
theorem d_tc_executeRowThree_88 : decode bc_tc_executeRowThree 88 = .ok (.aload_n 0, 1) := by decide +kernel
theorem d_tc_executeRowThree_89 : decode bc_tc_executeRowThree 89 = .ok (.iconst 5, 1) := by decide +kernel
theorem d_tc_executeRowThree_90 : decode bc_tc_executeRowThree 90 = .ok (.aload_n 0, 1) := by decide +kernel
theorem d_tc_executeRowThree_91 : decode bc_tc_executeRowThree 91 = .ok (.invokevirtual 113, 3) := by decide +kernel
theorem d_tc_executeRowThree_94 : decode bc_tc_executeRowThree 94 = .ok (.invokevirtual 104, 3) := by decide +kernel
theorem d_tc_executeRowThree_97 : decode bc_tc_executeRowThree 97 = .ok (.goto 117, 3) := by decide +kernel
theorem d_tc_executeRowThree_100 : decode bc_tc_executeRowThree 100 = .ok (.aload_n 0, 1) := by decide +kernel
theorem d_tc_executeRowThree_101 : decode bc_tc_executeRowThree 101 = .ok (.iconst 5, 1) := by decide +kernel
theorem d_tc_executeRowThree_102 : decode bc_tc_executeRowThree 102 = .ok (.aload_n 0, 1) := by decide +kernel
theorem d_tc_executeRowThree_103 : decode bc_tc_executeRowThree 103 = .ok (.invokevirtual 113, 3) := by decide +kernel
theorem d_tc_executeRowThree_106 : decode bc_tc_executeRowThree 106 = .ok (.invokevirtual 185, 3) := by decide +kernel
theorem d_tc_executeRowThree_109 : decode bc_tc_executeRowThree 109 = .ok (.goto 105, 3) := by decide +kernel
theorem d_tc_executeRowThree_112 : decode bc_tc_executeRowThree 112 = .ok (.aload_n 0, 1) := by decide +kernel
theorem d_tc_executeRowThree_113 : decode bc_tc_executeRowThree 113 = .ok (.iconst 4, 1) := by decide +kernel
theorem d_tc_executeRowThree_114 : decode bc_tc_executeRowThree 114 = .ok (.aload_n 0, 1) := by decide +kernel
theorem d_tc_executeRowThree_115 : decode bc_tc_executeRowThree 115 = .ok (.invokevirtual 113, 3) := by decide +kernel
theorem d_tc_executeRowThree_118 : decode bc_tc_executeRowThree 118 = .ok (.invokevirtual 104, 3) := by decide +kernel
theorem d_tc_executeRowThree_121 : decode bc_tc_executeRowThree 121 = .ok (.goto 93, 3) := by decide +kernel
theorem d_tc_executeRowThree_124 : decode bc_tc_executeRowThree 124 = .ok (.aload_n 0, 1) := by decide +kernel
theorem d_tc_executeRowThree_125 : decode bc_tc_executeRowThree 125 = .ok (.iconst 4, 1) := by decide +kernel
theorem d_tc_executeRowThree_126 : decode bc_tc_executeRowThree 126 = .ok (.aload_n 0, 1) := by decide +kernel
theorem d_tc_executeRowThree_127 : decode bc_tc_executeRowThree 127 = .ok (.invokevirtual 113, 3) := by decide +kernel
theorem d_tc_executeRowThree_130 : decode bc_tc_executeRowThree 130 = .ok (.invokevirtual 185, 3) := by decide +kernel
theorem d_tc_executeRowThree_133 : decode bc_tc_executeRowThree 133 = .ok (.goto 81, 3) := by decide +kernel
theorem d_tc_executeRowThree_136 : decode bc_tc_executeRowThree 136 = .ok (.aload_n 0, 1) := by decide +kernel
theorem d_tc_executeRowThree_137 : decode bc_tc_executeRowThree 137 = .ok (.getfield 19, 3) := by decide +kernel
theorem d_tc_executeRowThree_140 : decode bc_tc_executeRowThree 140 = .ok (.bipush 6, 2) := by decide +kernel
theorem d_tc_executeRowThree_142 : decode bc_tc_executeRowThree 142 = .ok (.aload_n 0, 1) := by decide +kernel
theorem d_tc_executeRowThree_143 : decode bc_tc_executeRowThree 143 = .ok (.iconst 5, 1) := by decide +kernel
theorem d_tc_executeRowThree_144 : decode bc_tc_executeRowThree 144 = .ok (.invokevirtual 188, 3) := by decide +kernel
theorem d_tc_executeRowThree_147 : decode bc_tc_executeRowThree 147 = .ok (.invokevirtual 36, 3) := by decide +kernel
theorem d_tc_executeRowThree_150 : decode bc_tc_executeRowThree 150 = .ok (.goto 64, 3) := by decide +kernel
theorem d_tc_executeRowThree_153 : decode bc_tc_executeRowThree 153 = .ok (.aload_n 0, 1) := by decide +kernel
theorem d_tc_executeRowThree_154 : decode bc_tc_executeRowThree 154 = .ok (.getfield 19, 3) := by decide +kernel
theorem d_tc_executeRowThree_157 : decode bc_tc_executeRowThree 157 = .ok (.iconst 2, 1) := by decide +kernel
theorem d_tc_executeRowThree_158 : decode bc_tc_executeRowThree 158 = .ok (.aload_n 0, 1) := by decide +kernel
theorem d_tc_executeRowThree_159 : decode bc_tc_executeRowThree 159 = .ok (.getfield 19, 3) := by decide +kernel
theorem d_tc_executeRowThree_162 : decode bc_tc_executeRowThree 162 = .ok (.iconst 2, 1) := by decide +kernel
theorem d_tc_executeRowThree_163 : decode bc_tc_executeRowThree 163 = .ok (.invokevirtual 82, 3) := by decide +kernel
theorem d_tc_executeRowThree_166 : decode bc_tc_executeRowThree 166 = .ok (.aload_n 0, 1) := by decide +kernel
theorem d_tc_executeRowThree_167 : decode bc_tc_executeRowThree 167 = .ok (.getfield 19, 3) := by decide +kernel
theorem d_tc_executeRowThree_170 : decode bc_tc_executeRowThree 170 = .ok (.iconst 1, 1) := by decide +kernel
theorem d_tc_executeRowThree_171 : decode bc_tc_executeRowThree 171 = .ok (.invokevirtual 82, 3) := by decide +kernel
theorem d_tc_executeRowThree_174 : decode bc_tc_executeRowThree 174 = .ok (.iadd, 1) := by decide +kernel
theorem d_tc_executeRowThree_175 : decode bc_tc_executeRowThree 175 = .ok (.invokevirtual 36, 3) := by decide +kernel
theorem d_tc_executeRowThree_178 : decode bc_tc_executeRowThree 178 = .ok (.goto 36, 3) := by decide +kernel
theorem d_tc_executeRowThree_181 : decode bc_tc_executeRowThree 181 = .ok (.aload_n 0, 1) := by decide +kernel
theorem d_tc_executeRowThree_182 : decode bc_tc_executeRowThree 182 = .ok (.invokevirtual 191, 3) := by decide +kernel
theorem d_tc_executeRowThree_185 : decode bc_tc_executeRowThree 185 = .ok (.goto 29, 3) := by decide +kernel
theorem d_tc_executeRowThree_188 : decode bc_tc_executeRowThree 188 = .ok (.aload_n 0, 1) := by decide +kernel
theorem d_tc_executeRowThree_189 : decode bc_tc_executeRowThree 189 = .ok (.aload_n 0, 1) := by decide +kernel
theorem d_tc_executeRowThree_190 : decode bc_tc_executeRowThree 190 = .ok (.invokevirtual 113, 3) := by decide +kernel
theorem d_tc_executeRowThree_193 : decode bc_tc_executeRowThree 193 = .ok (.invokevirtual 194, 3) := by decide +kernel
theorem d_tc_executeRowThree_196 : decode bc_tc_executeRowThree 196 = .ok (.goto 18, 3) := by decide +kernel
theorem d_tc_executeRowThree_199 : decode bc_tc_executeRowThree 199 = .ok (.aload_n 0, 1) := by decide +kernel
theorem d_tc_executeRowThree_200 : decode bc_tc_executeRowThree 200 = .ok (.getfield 28, 3) := by decide +kernel
theorem d_tc_executeRowThree_203 : decode bc_tc_executeRowThree 203 = .ok (.invokevirtual 197, 3) := by decide +kernel
theorem d_tc_executeRowThree_206 : decode bc_tc_executeRowThree 206 = .ok (.goto 8, 3) := by decide +kernel
theorem d_tc_executeRowThree_209 : decode bc_tc_executeRowThree 209 = .ok (.aload_n 0, 1) := by decide +kernel
theorem d_tc_executeRowThree_210 : decode bc_tc_executeRowThree 210 = .ok (.iload_n 1, 1) := by decide +kernel
theorem d_tc_executeRowThree_211 : decode bc_tc_executeRowThree 211 = .ok (.invokevirtual 200, 3) := by decide +kernel
theorem d_tc_executeRowThree_214 : decode bc_tc_executeRowThree 214 = .ok (.return_, 1) := by decide +kernel
theorem d_tc_operandAddress_0 : decode bc_tc_operandAddress 0 = .ok (.iload_n 1, 1) := by decide +kernel
theorem d_tc_operandAddress_1 : decode bc_tc_operandAddress 1 = .ok (.tableswitch 74 0 2 #[27, 51, 69], 27) := by decide +kernel
theorem d_tc_operandAddress_28 : decode bc_tc_operandAddress 28 = .ok (.aload_n 0, 1) := by decide +kernel
theorem d_tc_operandAddress_29 : decode bc_tc_operandAddress 29 = .ok (.getfield 19, 3) := by decide +kernel
theorem d_tc_operandAddress_32 : decode bc_tc_operandAddress 32 = .ok (.bipush 6, 2) := by decide +kernel
theorem d_tc_operandAddress_34 : decode bc_tc_operandAddress 34 = .ok (.invokevirtual 82, 3) := by decide +kernel
theorem d_tc_operandAddress_37 : decode bc_tc_operandAddress 37 = .ok (.istore_n 3, 1) := by decide +kernel
theorem d_tc_operandAddress_38 : decode bc_tc_operandAddress 38 = .ok (.aload_n 0, 1) := by decide +kernel
theorem d_tc_operandAddress_39 : decode bc_tc_operandAddress 39 = .ok (.getfield 19, 3) := by decide +kernel
theorem d_tc_operandAddress_42 : decode bc_tc_operandAddress 42 = .ok (.bipush 6, 2) := by decide +kernel
theorem d_tc_operandAddress_44 : decode bc_tc_operandAddress 44 = .ok (.iload_n 3, 1) := by decide +kernel
theorem d_tc_operandAddress_45 : decode bc_tc_operandAddress 45 = .ok (.iload_n 2, 1) := by decide +kernel
theorem d_tc_operandAddress_46 : decode bc_tc_operandAddress 46 = .ok (.iadd, 1) := by decide +kernel
theorem d_tc_operandAddress_47 : decode bc_tc_operandAddress 47 = .ok (.invokevirtual 36, 3) := by decide +kernel
theorem d_tc_operandAddress_50 : decode bc_tc_operandAddress 50 = .ok (.iload_n 3, 1) := by decide +kernel
theorem d_tc_operandAddress_51 : decode bc_tc_operandAddress 51 = .ok (.ireturn, 1) := by decide +kernel
theorem d_tc_operandAddress_52 : decode bc_tc_operandAddress 52 = .ok (.aload_n 0, 1) := by decide +kernel
theorem d_tc_operandAddress_53 : decode bc_tc_operandAddress 53 = .ok (.getfield 19, 3) := by decide +kernel
theorem d_tc_operandAddress_56 : decode bc_tc_operandAddress 56 = .ok (.bipush 7, 2) := by decide +kernel
theorem d_tc_operandAddress_58 : decode bc_tc_operandAddress 58 = .ok (.invokevirtual 82, 3) := by decide +kernel
theorem d_tc_operandAddress_61 : decode bc_tc_operandAddress 61 = .ok (.bipush 8, 2) := by decide +kernel
theorem d_tc_operandAddress_63 : decode bc_tc_operandAddress 63 = .ok (.ishl, 1) := by decide +kernel
theorem d_tc_operandAddress_64 : decode bc_tc_operandAddress 64 = .ok (.aload_n 0, 1) := by decide +kernel
theorem d_tc_operandAddress_65 : decode bc_tc_operandAddress 65 = .ok (.invokevirtual 113, 3) := by decide +kernel
theorem d_tc_operandAddress_68 : decode bc_tc_operandAddress 68 = .ok (.ior, 1) := by decide +kernel
theorem d_tc_operandAddress_69 : decode bc_tc_operandAddress 69 = .ok (.ireturn, 1) := by decide +kernel
theorem d_tc_operandAddress_70 : decode bc_tc_operandAddress 70 = .ok (.aload_n 0, 1) := by decide +kernel
theorem d_tc_operandAddress_71 : decode bc_tc_operandAddress 71 = .ok (.invokevirtual 132, 3) := by decide +kernel
theorem d_tc_operandAddress_74 : decode bc_tc_operandAddress 74 = .ok (.ireturn, 1) := by decide +kernel
theorem d_tc_operandAddress_75 : decode bc_tc_operandAddress 75 = .ok (.aload_n 0, 1) := by decide +kernel
theorem d_tc_operandAddress_76 : decode bc_tc_operandAddress 76 = .ok (.invokevirtual 135, 3) := by decide +kernel
theorem d_tc_operandAddress_79 : decode bc_tc_operandAddress 79 = .ok (.ireturn, 1) := by decide +kernel
theorem d_tc_alterMemory_0 : decode bc_tc_alterMemory 0 = .ok (.iload_n 1, 1) := by decide +kernel
theorem d_tc_alterMemory_1 : decode bc_tc_alterMemory 1 = .ok (.bipush 14, 2) := by decide +kernel
theorem d_tc_alterMemory_3 : decode bc_tc_alterMemory 3 = .ok (.if_icmp .ne 16, 3) := by decide +kernel
theorem d_tc_alterMemory_6 : decode bc_tc_alterMemory 6 = .ok (.aload_n 0, 1) := by decide +kernel
theorem d_tc_alterMemory_7 : decode bc_tc_alterMemory 7 = .ok (.getfield 19, 3) := by decide +kernel
theorem d_tc_alterMemory_10 : decode bc_tc_alterMemory 10 = .ok (.bipush 6, 2) := by decide +kernel
theorem d_tc_alterMemory_12 : decode bc_tc_alterMemory 12 = .ok (.iload_n 2, 1) := by decide +kernel
theorem d_tc_alterMemory_13 : decode bc_tc_alterMemory 13 = .ok (.invokevirtual 36, 3) := by decide +kernel
theorem d_tc_alterMemory_16 : decode bc_tc_alterMemory 16 = .ok (.goto 27, 3) := by decide +kernel
theorem d_tc_alterMemory_19 : decode bc_tc_alterMemory 19 = .ok (.aload_n 0, 1) := by decide +kernel
theorem d_tc_alterMemory_20 : decode bc_tc_alterMemory 20 = .ok (.getfield 10, 3) := by decide +kernel
theorem d_tc_alterMemory_23 : decode bc_tc_alterMemory 23 = .ok (.iload_n 2, 1) := by decide +kernel
theorem d_tc_alterMemory_24 : decode bc_tc_alterMemory 24 = .ok (.aload_n 0, 1) := by decide +kernel
theorem d_tc_alterMemory_25 : decode bc_tc_alterMemory 25 = .ok (.getfield 28, 3) := by decide +kernel
theorem d_tc_alterMemory_28 : decode bc_tc_alterMemory 28 = .ok (.iload_n 1, 1) := by decide +kernel
theorem d_tc_alterMemory_29 : decode bc_tc_alterMemory 29 = .ok (.aload_n 0, 1) := by decide +kernel
theorem d_tc_alterMemory_30 : decode bc_tc_alterMemory 30 = .ok (.getfield 10, 3) := by decide +kernel
theorem d_tc_alterMemory_33 : decode bc_tc_alterMemory 33 = .ok (.iload_n 2, 1) := by decide +kernel
theorem d_tc_alterMemory_34 : decode bc_tc_alterMemory 34 = .ok (.invokevirtual 67, 3) := by decide +kernel
theorem d_tc_alterMemory_37 : decode bc_tc_alterMemory 37 = .ok (.invokevirtual 152, 3) := by decide +kernel
theorem d_tc_alterMemory_40 : decode bc_tc_alterMemory 40 = .ok (.invokevirtual 64, 3) := by decide +kernel
theorem d_tc_alterMemory_43 : decode bc_tc_alterMemory 43 = .ok (.return_, 1) := by decide +kernel
theorem d_tc_executeLowerHalf_0 : decode bc_tc_executeLowerHalf 0 = .ok (.iload_n 1, 1) := by decide +kernel
theorem d_tc_executeLowerHalf_1 : decode bc_tc_executeLowerHalf 1 = .ok (.bipush 8, 2) := by decide +kernel
theorem d_tc_executeLowerHalf_3 : decode bc_tc_executeLowerHalf 3 = .ok (.ishr, 1) := by decide +kernel
theorem d_tc_executeLowerHalf_4 : decode bc_tc_executeLowerHalf 4 = .ok (.istore_n 2, 1) := by decide +kernel
theorem d_tc_executeLowerHalf_5 : decode bc_tc_executeLowerHalf 5 = .ok (.iload_n 1, 1) := by decide +kernel
theorem d_tc_executeLowerHalf_6 : decode bc_tc_executeLowerHalf 6 = .ok (.iconst 4, 1) := by decide +kernel
theorem d_tc_executeLowerHalf_7 : decode bc_tc_executeLowerHalf 7 = .ok (.ishr, 1) := by decide +kernel
theorem d_tc_executeLowerHalf_8 : decode bc_tc_executeLowerHalf 8 = .ok (.bipush 7, 2) := by decide +kernel
theorem d_tc_executeLowerHalf_10 : decode bc_tc_executeLowerHalf 10 = .ok (.iand, 1) := by decide +kernel
theorem d_tc_executeLowerHalf_11 : decode bc_tc_executeLowerHalf 11 = .ok (.istore_n 3, 1) := by decide +kernel
theorem d_tc_executeLowerHalf_12 : decode bc_tc_executeLowerHalf 12 = .ok (.iload_n 1, 1) := by decide +kernel
theorem d_tc_executeLowerHalf_13 : decode bc_tc_executeLowerHalf 13 = .ok (.bipush 15, 2) := by decide +kernel
theorem d_tc_executeLowerHalf_15 : decode bc_tc_executeLowerHalf 15 = .ok (.iand, 1) := by decide +kernel
theorem d_tc_executeLowerHalf_16 : decode bc_tc_executeLowerHalf 16 = .ok (.istore 4, 2) := by decide +kernel
theorem d_tc_executeLowerHalf_18 : decode bc_tc_executeLowerHalf 18 = .ok (.iload_n 3, 1) := by decide +kernel
theorem d_tc_executeLowerHalf_19 : decode bc_tc_executeLowerHalf 19 = .ok (.tableswitch 133 1 5 #[33, 42, 67, 77, 105], 33) := by decide +kernel
theorem d_tc_executeLowerHalf_52 : decode bc_tc_executeLowerHalf 52 = .ok (.aload_n 0, 1) := by decide +kernel
theorem d_tc_executeLowerHalf_53 : decode bc_tc_executeLowerHalf 53 = .ok (.iload 4, 2) := by decide +kernel
theorem d_tc_executeLowerHalf_55 : decode bc_tc_executeLowerHalf 55 = .ok (.invokevirtual 143, 3) := by decide +kernel
theorem d_tc_executeLowerHalf_58 : decode bc_tc_executeLowerHalf 58 = .ok (.goto 116, 3) := by decide +kernel
theorem d_tc_executeLowerHalf_61 : decode bc_tc_executeLowerHalf 61 = .ok (.aload_n 0, 1) := by decide +kernel
theorem d_tc_executeLowerHalf_62 : decode bc_tc_executeLowerHalf 62 = .ok (.iload 4, 2) := by decide +kernel
theorem d_tc_executeLowerHalf_64 : decode bc_tc_executeLowerHalf 64 = .ok (.iload_n 2, 1) := by decide +kernel
theorem d_tc_executeLowerHalf_65 : decode bc_tc_executeLowerHalf 65 = .ok (.ifCond .ne 11, 3) := by decide +kernel
theorem d_tc_executeLowerHalf_68 : decode bc_tc_executeLowerHalf 68 = .ok (.aload_n 0, 1) := by decide +kernel
theorem d_tc_executeLowerHalf_69 : decode bc_tc_executeLowerHalf 69 = .ok (.invokevirtual 113, 3) := by decide +kernel
theorem d_tc_executeLowerHalf_72 : decode bc_tc_executeLowerHalf 72 = .ok (.i2b, 1) := by decide +kernel
theorem d_tc_executeLowerHalf_73 : decode bc_tc_executeLowerHalf 73 = .ok (.goto 7, 3) := by decide +kernel
theorem d_tc_executeLowerHalf_76 : decode bc_tc_executeLowerHalf 76 = .ok (.aload_n 0, 1) := by decide +kernel
theorem d_tc_executeLowerHalf_77 : decode bc_tc_executeLowerHalf 77 = .ok (.invokevirtual 135, 3) := by decide +kernel
theorem d_tc_executeLowerHalf_80 : decode bc_tc_executeLowerHalf 80 = .ok (.invokevirtual 146, 3) := by decide +kernel
theorem d_tc_executeLowerHalf_83 : decode bc_tc_executeLowerHalf 83 = .ok (.goto 91, 3) := by decide +kernel
theorem d_tc_executeLowerHalf_86 : decode bc_tc_executeLowerHalf 86 = .ok (.aload_n 0, 1) := by decide +kernel
theorem d_tc_executeLowerHalf_87 : decode bc_tc_executeLowerHalf 87 = .ok (.iload_n 2, 1) := by decide +kernel
theorem d_tc_executeLowerHalf_88 : decode bc_tc_executeLowerHalf 88 = .ok (.iload 4, 2) := by decide +kernel
theorem d_tc_executeLowerHalf_90 : decode bc_tc_executeLowerHalf 90 = .ok (.invokevirtual 149, 3) := by decide +kernel
theorem d_tc_executeLowerHalf_93 : decode bc_tc_executeLowerHalf 93 = .ok (.goto 81, 3) := by decide +kernel
theorem d_tc_executeLowerHalf_96 : decode bc_tc_executeLowerHalf 96 = .ok (.aload_n 0, 1) := by decide +kernel
theorem d_tc_executeLowerHalf_97 : decode bc_tc_executeLowerHalf 97 = .ok (.getfield 19, 3) := by decide +kernel
theorem d_tc_executeLowerHalf_100 : decode bc_tc_executeLowerHalf 100 = .ok (.iconst 0, 1) := by decide +kernel
theorem d_tc_executeLowerHalf_101 : decode bc_tc_executeLowerHalf 101 = .ok (.aload_n 0, 1) := by decide +kernel
theorem d_tc_executeLowerHalf_102 : decode bc_tc_executeLowerHalf 102 = .ok (.getfield 28, 3) := by decide +kernel
theorem d_tc_executeLowerHalf_105 : decode bc_tc_executeLowerHalf 105 = .ok (.iload 4, 2) := by decide +kernel
theorem d_tc_executeLowerHalf_107 : decode bc_tc_executeLowerHalf 107 = .ok (.aload_n 0, 1) := by decide +kernel
theorem d_tc_executeLowerHalf_108 : decode bc_tc_executeLowerHalf 108 = .ok (.getfield 19, 3) := by decide +kernel
theorem d_tc_executeLowerHalf_111 : decode bc_tc_executeLowerHalf 111 = .ok (.iconst 0, 1) := by decide +kernel
theorem d_tc_executeLowerHalf_112 : decode bc_tc_executeLowerHalf 112 = .ok (.invokevirtual 82, 3) := by decide +kernel
theorem d_tc_executeLowerHalf_115 : decode bc_tc_executeLowerHalf 115 = .ok (.invokevirtual 152, 3) := by decide +kernel
theorem d_tc_executeLowerHalf_118 : decode bc_tc_executeLowerHalf 118 = .ok (.invokevirtual 36, 3) := by decide +kernel
theorem d_tc_executeLowerHalf_121 : decode bc_tc_executeLowerHalf 121 = .ok (.goto 53, 3) := by decide +kernel
theorem d_tc_executeLowerHalf_124 : decode bc_tc_executeLowerHalf 124 = .ok (.aload_n 0, 1) := by decide +kernel
theorem d_tc_executeLowerHalf_125 : decode bc_tc_executeLowerHalf 125 = .ok (.getfield 19, 3) := by decide +kernel
theorem d_tc_executeLowerHalf_128 : decode bc_tc_executeLowerHalf 128 = .ok (.iconst 1, 1) := by decide +kernel
theorem d_tc_executeLowerHalf_129 : decode bc_tc_executeLowerHalf 129 = .ok (.aload_n 0, 1) := by decide +kernel
theorem d_tc_executeLowerHalf_130 : decode bc_tc_executeLowerHalf 130 = .ok (.getfield 28, 3) := by decide +kernel
theorem d_tc_executeLowerHalf_133 : decode bc_tc_executeLowerHalf 133 = .ok (.iload 4, 2) := by decide +kernel
theorem d_tc_executeLowerHalf_135 : decode bc_tc_executeLowerHalf 135 = .ok (.aload_n 0, 1) := by decide +kernel
theorem d_tc_executeLowerHalf_136 : decode bc_tc_executeLowerHalf 136 = .ok (.getfield 19, 3) := by decide +kernel
theorem d_tc_executeLowerHalf_139 : decode bc_tc_executeLowerHalf 139 = .ok (.iconst 1, 1) := by decide +kernel
theorem d_tc_executeLowerHalf_140 : decode bc_tc_executeLowerHalf 140 = .ok (.invokevirtual 82, 3) := by decide +kernel
theorem d_tc_executeLowerHalf_143 : decode bc_tc_executeLowerHalf 143 = .ok (.invokevirtual 152, 3) := by decide +kernel
theorem d_tc_executeLowerHalf_146 : decode bc_tc_executeLowerHalf 146 = .ok (.invokevirtual 36, 3) := by decide +kernel
theorem d_tc_executeLowerHalf_149 : decode bc_tc_executeLowerHalf 149 = .ok (.goto 25, 3) := by decide +kernel
theorem d_tc_executeLowerHalf_152 : decode bc_tc_executeLowerHalf 152 = .ok (.aload_n 0, 1) := by decide +kernel
theorem d_tc_executeLowerHalf_153 : decode bc_tc_executeLowerHalf 153 = .ok (.iload 4, 2) := by decide +kernel
theorem d_tc_executeLowerHalf_155 : decode bc_tc_executeLowerHalf 155 = .ok (.aload_n 0, 1) := by decide +kernel
theorem d_tc_executeLowerHalf_156 : decode bc_tc_executeLowerHalf 156 = .ok (.iload_n 3, 1) := by decide +kernel
theorem d_tc_executeLowerHalf_157 : decode bc_tc_executeLowerHalf 157 = .ok (.ifCond .ne 7, 3) := by decide +kernel
theorem d_tc_executeLowerHalf_160 : decode bc_tc_executeLowerHalf 160 = .ok (.iconst 1, 1) := by decide +kernel
theorem d_tc_executeLowerHalf_161 : decode bc_tc_executeLowerHalf 161 = .ok (.goto 6, 3) := by decide +kernel
theorem d_tc_executeLowerHalf_164 : decode bc_tc_executeLowerHalf 164 = .ok (.iload_n 3, 1) := by decide +kernel
theorem d_tc_executeLowerHalf_165 : decode bc_tc_executeLowerHalf 165 = .ok (.iconst 3, 1) := by decide +kernel
theorem d_tc_executeLowerHalf_166 : decode bc_tc_executeLowerHalf 166 = .ok (.iand, 1) := by decide +kernel
theorem d_tc_executeLowerHalf_167 : decode bc_tc_executeLowerHalf 167 = .ok (.iconst 1, 1) := by decide +kernel
theorem d_tc_executeLowerHalf_168 : decode bc_tc_executeLowerHalf 168 = .ok (.invokevirtual 155, 3) := by decide +kernel
theorem d_tc_executeLowerHalf_171 : decode bc_tc_executeLowerHalf 171 = .ok (.invokevirtual 158, 3) := by decide +kernel
theorem d_tc_executeLowerHalf_174 : decode bc_tc_executeLowerHalf 174 = .ok (.return_, 1) := by decide +kernel
theorem d_tc_call_0 : decode bc_tc_call 0 = .ok (.aload_n 0, 1) := by decide +kernel
theorem d_tc_call_1 : decode bc_tc_call 1 = .ok (.iconst 5, 1) := by decide +kernel
theorem d_tc_call_2 : decode bc_tc_call 2 = .ok (.aload_n 0, 1) := by decide +kernel
theorem d_tc_call_3 : decode bc_tc_call 3 = .ok (.getfield 19, 3) := by decide +kernel
theorem d_tc_call_6 : decode bc_tc_call 6 = .ok (.bipush 6, 2) := by decide +kernel
theorem d_tc_call_8 : decode bc_tc_call 8 = .ok (.invokevirtual 82, 3) := by decide +kernel
theorem d_tc_call_11 : decode bc_tc_call 11 = .ok (.invokevirtual 209, 3) := by decide +kernel
theorem d_tc_call_14 : decode bc_tc_call 14 = .ok (.aload_n 0, 1) := by decide +kernel
theorem d_tc_call_15 : decode bc_tc_call 15 = .ok (.getfield 19, 3) := by decide +kernel
theorem d_tc_call_18 : decode bc_tc_call 18 = .ok (.bipush 6, 2) := by decide +kernel
theorem d_tc_call_20 : decode bc_tc_call 20 = .ok (.iload_n 1, 1) := by decide +kernel
theorem d_tc_call_21 : decode bc_tc_call 21 = .ok (.invokevirtual 36, 3) := by decide +kernel
theorem d_tc_call_24 : decode bc_tc_call 24 = .ok (.return_, 1) := by decide +kernel
theorem d_tc_wordRegister_0 : decode bc_tc_wordRegister 0 = .ok (.iload_n 0, 1) := by decide +kernel
theorem d_tc_wordRegister_1 : decode bc_tc_wordRegister 1 = .ok (.iconst 2, 1) := by decide +kernel
theorem d_tc_wordRegister_2 : decode bc_tc_wordRegister 2 = .ok (.if_icmp .ne 14, 3) := by decide +kernel
theorem d_tc_wordRegister_5 : decode bc_tc_wordRegister 5 = .ok (.iload_n 1, 1) := by decide +kernel
theorem d_tc_wordRegister_6 : decode bc_tc_wordRegister 6 = .ok (.iconst 3, 1) := by decide +kernel
theorem d_tc_wordRegister_7 : decode bc_tc_wordRegister 7 = .ok (.if_icmp .ne 7, 3) := by decide +kernel
theorem d_tc_wordRegister_10 : decode bc_tc_wordRegister 10 = .ok (.iconst 4, 1) := by decide +kernel
theorem d_tc_wordRegister_11 : decode bc_tc_wordRegister 11 = .ok (.goto 4, 3) := by decide +kernel
theorem d_tc_wordRegister_14 : decode bc_tc_wordRegister 14 = .ok (.iconst 5, 1) := by decide +kernel
theorem d_tc_wordRegister_15 : decode bc_tc_wordRegister 15 = .ok (.ireturn, 1) := by decide +kernel
theorem d_tc_wordRegister_16 : decode bc_tc_wordRegister 16 = .ok (.iload_n 1, 1) := by decide +kernel
theorem d_tc_wordRegister_17 : decode bc_tc_wordRegister 17 = .ok (.iconst 3, 1) := by decide +kernel
theorem d_tc_wordRegister_18 : decode bc_tc_wordRegister 18 = .ok (.if_icmp .eq 19, 3) := by decide +kernel
theorem d_tc_wordRegister_21 : decode bc_tc_wordRegister 21 = .ok (.iload_n 1, 1) := by decide +kernel
theorem d_tc_wordRegister_22 : decode bc_tc_wordRegister 22 = .ok (.bipush 13, 2) := by decide +kernel
theorem d_tc_wordRegister_24 : decode bc_tc_wordRegister 24 = .ok (.if_icmp .eq 13, 3) := by decide +kernel
theorem d_tc_wordRegister_27 : decode bc_tc_wordRegister 27 = .ok (.iload_n 1, 1) := by decide +kernel
theorem d_tc_wordRegister_28 : decode bc_tc_wordRegister 28 = .ok (.bipush 12, 2) := by decide +kernel
theorem d_tc_wordRegister_30 : decode bc_tc_wordRegister 30 = .ok (.if_icmp .ne 10, 3) := by decide +kernel
theorem d_tc_wordRegister_33 : decode bc_tc_wordRegister 33 = .ok (.iload_n 2, 1) := by decide +kernel
theorem d_tc_wordRegister_34 : decode bc_tc_wordRegister 34 = .ok (.ifCond .eq 6, 3) := by decide +kernel
theorem d_tc_wordRegister_37 : decode bc_tc_wordRegister 37 = .ok (.bipush 9, 2) := by decide +kernel
theorem d_tc_wordRegister_39 : decode bc_tc_wordRegister 39 = .ok (.ireturn, 1) := by decide +kernel
theorem d_tc_wordRegister_40 : decode bc_tc_wordRegister 40 = .ok (.iload_n 0, 1) := by decide +kernel
theorem d_tc_wordRegister_41 : decode bc_tc_wordRegister 41 = .ok (.iconst 1, 1) := by decide +kernel
theorem d_tc_wordRegister_42 : decode bc_tc_wordRegister 42 = .ok (.if_icmp .ne 13, 3) := by decide +kernel
theorem d_tc_wordRegister_45 : decode bc_tc_wordRegister 45 = .ok (.iload_n 2, 1) := by decide +kernel
theorem d_tc_wordRegister_46 : decode bc_tc_wordRegister 46 = .ok (.ifCond .eq 7, 3) := by decide +kernel
theorem d_tc_wordRegister_49 : decode bc_tc_wordRegister 49 = .ok (.iconst 5, 1) := by decide +kernel
theorem d_tc_wordRegister_50 : decode bc_tc_wordRegister 50 = .ok (.goto 4, 3) := by decide +kernel
theorem d_tc_wordRegister_53 : decode bc_tc_wordRegister 53 = .ok (.iconst 3, 1) := by decide +kernel
theorem d_tc_wordRegister_54 : decode bc_tc_wordRegister 54 = .ok (.ireturn, 1) := by decide +kernel
theorem d_tc_wordRegister_55 : decode bc_tc_wordRegister 55 = .ok (.iload_n 2, 1) := by decide +kernel
theorem d_tc_wordRegister_56 : decode bc_tc_wordRegister 56 = .ok (.ifCond .eq 7, 3) := by decide +kernel
theorem d_tc_wordRegister_59 : decode bc_tc_wordRegister 59 = .ok (.iconst 4, 1) := by decide +kernel
theorem d_tc_wordRegister_60 : decode bc_tc_wordRegister 60 = .ok (.goto 4, 3) := by decide +kernel
theorem d_tc_wordRegister_63 : decode bc_tc_wordRegister 63 = .ok (.iconst 2, 1) := by decide +kernel
theorem d_tc_wordRegister_64 : decode bc_tc_wordRegister 64 = .ok (.ireturn, 1) := by decide +kernel
theorem d_tc_operateOnWord_0 : decode bc_tc_operateOnWord 0 = .ok (.iload_n 1, 1) := by decide +kernel
theorem d_tc_operateOnWord_1 : decode bc_tc_operateOnWord 1 = .ok (.iload_n 2, 1) := by decide +kernel
theorem d_tc_operateOnWord_2 : decode bc_tc_operateOnWord 2 = .ok (.iload_n 3, 1) := by decide +kernel
theorem d_tc_operateOnWord_3 : decode bc_tc_operateOnWord 3 = .ok (.invokestatic 230, 3) := by decide +kernel
theorem d_tc_operateOnWord_6 : decode bc_tc_operateOnWord 6 = .ok (.istore 5, 2) := by decide +kernel
theorem d_tc_operateOnWord_8 : decode bc_tc_operateOnWord 8 = .ok (.aload_n 0, 1) := by decide +kernel
theorem d_tc_operateOnWord_9 : decode bc_tc_operateOnWord 9 = .ok (.getfield 19, 3) := by decide +kernel
theorem d_tc_operateOnWord_12 : decode bc_tc_operateOnWord 12 = .ok (.iload 5, 2) := by decide +kernel
theorem d_tc_operateOnWord_14 : decode bc_tc_operateOnWord 14 = .ok (.invokevirtual 82, 3) := by decide +kernel
theorem d_tc_operateOnWord_17 : decode bc_tc_operateOnWord 17 = .ok (.istore 6, 2) := by decide +kernel
theorem d_tc_operateOnWord_19 : decode bc_tc_operateOnWord 19 = .ok (.iload_n 2, 1) := by decide +kernel
theorem d_tc_operateOnWord_20 : decode bc_tc_operateOnWord 20 = .ok (.bipush 14, 2) := by decide +kernel
theorem d_tc_operateOnWord_22 : decode bc_tc_operateOnWord 22 = .ok (.if_icmp .eq 13, 3) := by decide +kernel
theorem d_tc_operateOnWord_25 : decode bc_tc_operateOnWord 25 = .ok (.iload_n 2, 1) := by decide +kernel
theorem d_tc_operateOnWord_26 : decode bc_tc_operateOnWord 26 = .ok (.bipush 12, 2) := by decide +kernel
theorem d_tc_operateOnWord_28 : decode bc_tc_operateOnWord 28 = .ok (.if_icmp .ne 11, 3) := by decide +kernel
theorem d_tc_operateOnWord_31 : decode bc_tc_operateOnWord 31 = .ok (.iload_n 3, 1) := by decide +kernel
theorem d_tc_operateOnWord_32 : decode bc_tc_operateOnWord 32 = .ok (.ifCond .eq 7, 3) := by decide +kernel
theorem d_tc_operateOnWord_35 : decode bc_tc_operateOnWord 35 = .ok (.iconst 1, 1) := by decide +kernel
theorem d_tc_operateOnWord_36 : decode bc_tc_operateOnWord 36 = .ok (.goto 4, 3) := by decide +kernel
theorem d_tc_operateOnWord_39 : decode bc_tc_operateOnWord 39 = .ok (.iconst 0, 1) := by decide +kernel
theorem d_tc_operateOnWord_40 : decode bc_tc_operateOnWord 40 = .ok (.istore 7, 2) := by decide +kernel
theorem d_tc_operateOnWord_42 : decode bc_tc_operateOnWord 42 = .ok (.iload 7, 2) := by decide +kernel
theorem d_tc_operateOnWord_44 : decode bc_tc_operateOnWord 44 = .ok (.ifCond .eq 30, 3) := by decide +kernel
theorem d_tc_operateOnWord_47 : decode bc_tc_operateOnWord 47 = .ok (.aload_n 0, 1) := by decide +kernel
theorem d_tc_operateOnWord_48 : decode bc_tc_operateOnWord 48 = .ok (.iload 5, 2) := by decide +kernel
theorem d_tc_operateOnWord_50 : decode bc_tc_operateOnWord 50 = .ok (.aload_n 0, 1) := by decide +kernel
theorem d_tc_operateOnWord_51 : decode bc_tc_operateOnWord 51 = .ok (.getfield 28, 3) := by decide +kernel
theorem d_tc_operateOnWord_54 : decode bc_tc_operateOnWord 54 = .ok (.aload_n 0, 1) := by decide +kernel
theorem d_tc_operateOnWord_55 : decode bc_tc_operateOnWord 55 = .ok (.getfield 10, 3) := by decide +kernel
