/-! the reference, methods 1 -/
theorem d_M_laysIntercept_0 : decode qM_laysIntercept.1 0 = .ok (.aload_n 0, 1) := by decide +kernel
theorem d_M_laysIntercept_1 : decode qM_laysIntercept.1 1 = .ok (.iload_n 1, 1) := by decide +kernel
theorem d_M_laysIntercept_2 : decode qM_laysIntercept.1 2 = .ok (.iload_n 2, 1) := by decide +kernel
theorem d_M_laysIntercept_3 : decode qM_laysIntercept.1 3 = .ok (.iconst 2, 1) := by decide +kernel
theorem d_M_laysIntercept_4 : decode qM_laysIntercept.1 4 = .ok (.invokevirtual 168, 3) := by decide +kernel
theorem d_M_laysIntercept_7 : decode qM_laysIntercept.1 7 = .ok (.istore_n 3, 1) := by decide +kernel
theorem d_M_laysIntercept_8 : decode qM_laysIntercept.1 8 = .ok (.iload_n 2, 1) := by decide +kernel
theorem d_M_laysIntercept_9 : decode qM_laysIntercept.1 9 = .ok (.iconst 1, 1) := by decide +kernel
theorem d_M_laysIntercept_10 : decode qM_laysIntercept.1 10 = .ok (.iadd, 1) := by decide +kernel
theorem d_M_laysIntercept_11 : decode qM_laysIntercept.1 11 = .ok (.istore 4, 2) := by decide +kernel
theorem d_M_laysIntercept_13 : decode qM_laysIntercept.1 13 = .ok (.iload 4, 2) := by decide +kernel
theorem d_M_laysIntercept_15 : decode qM_laysIntercept.1 15 = .ok (.aload_n 0, 1) := by decide +kernel
theorem d_M_laysIntercept_16 : decode qM_laysIntercept.1 16 = .ok (.iload_n 1, 1) := by decide +kernel
theorem d_M_laysIntercept_17 : decode qM_laysIntercept.1 17 = .ok (.invokevirtual 218, 3) := by decide +kernel
theorem d_M_laysIntercept_20 : decode qM_laysIntercept.1 20 = .ok (.if_icmp .ge 31, 3) := by decide +kernel
theorem d_M_laysIntercept_23 : decode qM_laysIntercept.1 23 = .ok (.aload_n 0, 1) := by decide +kernel
theorem d_M_laysIntercept_24 : decode qM_laysIntercept.1 24 = .ok (.iload_n 1, 1) := by decide +kernel
theorem d_M_laysIntercept_25 : decode qM_laysIntercept.1 25 = .ok (.iload 4, 2) := by decide +kernel
theorem d_M_laysIntercept_27 : decode qM_laysIntercept.1 27 = .ok (.iconst 0, 1) := by decide +kernel
theorem d_M_laysIntercept_28 : decode qM_laysIntercept.1 28 = .ok (.invokevirtual 168, 3) := by decide +kernel
theorem d_M_laysIntercept_31 : decode qM_laysIntercept.1 31 = .ok (.iconst 3, 1) := by decide +kernel
theorem d_M_laysIntercept_32 : decode qM_laysIntercept.1 32 = .ok (.if_icmp .ne 19, 3) := by decide +kernel
theorem d_M_laysIntercept_35 : decode qM_laysIntercept.1 35 = .ok (.aload_n 0, 1) := by decide +kernel
theorem d_M_laysIntercept_36 : decode qM_laysIntercept.1 36 = .ok (.iload_n 1, 1) := by decide +kernel
theorem d_M_laysIntercept_37 : decode qM_laysIntercept.1 37 = .ok (.iload 4, 2) := by decide +kernel
theorem d_M_laysIntercept_39 : decode qM_laysIntercept.1 39 = .ok (.bipush 13, 2) := by decide +kernel
theorem d_M_laysIntercept_41 : decode qM_laysIntercept.1 41 = .ok (.invokevirtual 168, 3) := by decide +kernel
theorem d_M_laysIntercept_44 : decode qM_laysIntercept.1 44 = .ok (.ifCond .ne 7, 3) := by decide +kernel
theorem d_M_laysIntercept_47 : decode qM_laysIntercept.1 47 = .ok (.iconst 1, 1) := by decide +kernel
theorem d_M_laysIntercept_48 : decode qM_laysIntercept.1 48 = .ok (.goto 4, 3) := by decide +kernel
theorem d_M_laysIntercept_51 : decode qM_laysIntercept.1 51 = .ok (.iconst 0, 1) := by decide +kernel
theorem d_M_laysIntercept_52 : decode qM_laysIntercept.1 52 = .ok (.istore 5, 2) := by decide +kernel
theorem d_M_laysIntercept_54 : decode qM_laysIntercept.1 54 = .ok (.lconst 0, 1) := by decide +kernel
theorem d_M_laysIntercept_55 : decode qM_laysIntercept.1 55 = .ok (.lstore 6, 2) := by decide +kernel
theorem d_M_laysIntercept_57 : decode qM_laysIntercept.1 57 = .ok (.iload 5, 2) := by decide +kernel
theorem d_M_laysIntercept_59 : decode qM_laysIntercept.1 59 = .ok (.ifCond .eq 194, 3) := by decide +kernel
theorem d_M_laysIntercept_62 : decode qM_laysIntercept.1 62 = .ok (.aload_n 0, 1) := by decide +kernel
theorem d_M_laysIntercept_63 : decode qM_laysIntercept.1 63 = .ok (.iload_n 1, 1) := by decide +kernel
theorem d_M_laysIntercept_64 : decode qM_laysIntercept.1 64 = .ok (.iload 4, 2) := by decide +kernel
theorem d_M_laysIntercept_66 : decode qM_laysIntercept.1 66 = .ok (.invokevirtual 221, 3) := by decide +kernel
theorem d_M_laysIntercept_69 : decode qM_laysIntercept.1 69 = .ok (.i2l, 1) := by decide +kernel
theorem d_M_laysIntercept_70 : decode qM_laysIntercept.1 70 = .ok (.aload_n 0, 1) := by decide +kernel
theorem d_M_laysIntercept_71 : decode qM_laysIntercept.1 71 = .ok (.getfield 191, 3) := by decide +kernel
theorem d_M_laysIntercept_74 : decode qM_laysIntercept.1 74 = .ok (.i2l, 1) := by decide +kernel
theorem d_M_laysIntercept_75 : decode qM_laysIntercept.1 75 = .ok (.lsub, 1) := by decide +kernel
theorem d_M_laysIntercept_76 : decode qM_laysIntercept.1 76 = .ok (.lstore 8, 2) := by decide +kernel
theorem d_M_laysIntercept_78 : decode qM_laysIntercept.1 78 = .ok (.aload_n 0, 1) := by decide +kernel
theorem d_M_laysIntercept_79 : decode qM_laysIntercept.1 79 = .ok (.iload_n 1, 1) := by decide +kernel
theorem d_M_laysIntercept_80 : decode qM_laysIntercept.1 80 = .ok (.iload 4, 2) := by decide +kernel
theorem d_M_laysIntercept_82 : decode qM_laysIntercept.1 82 = .ok (.invokevirtual 225, 3) := by decide +kernel
theorem d_M_laysIntercept_85 : decode qM_laysIntercept.1 85 = .ok (.i2l, 1) := by decide +kernel
theorem d_M_laysIntercept_86 : decode qM_laysIntercept.1 86 = .ok (.aload_n 0, 1) := by decide +kernel
theorem d_M_laysIntercept_87 : decode qM_laysIntercept.1 87 = .ok (.getfield 194, 3) := by decide +kernel
theorem d_M_laysIntercept_90 : decode qM_laysIntercept.1 90 = .ok (.i2l, 1) := by decide +kernel
theorem d_M_laysIntercept_91 : decode qM_laysIntercept.1 91 = .ok (.lsub, 1) := by decide +kernel
theorem d_M_laysIntercept_92 : decode qM_laysIntercept.1 92 = .ok (.lstore 10, 2) := by decide +kernel
theorem d_M_laysIntercept_94 : decode qM_laysIntercept.1 94 = .ok (.aload_n 0, 1) := by decide +kernel
theorem d_M_laysIntercept_95 : decode qM_laysIntercept.1 95 = .ok (.iload_n 1, 1) := by decide +kernel
theorem d_M_laysIntercept_96 : decode qM_laysIntercept.1 96 = .ok (.iload 4, 2) := by decide +kernel
theorem d_M_laysIntercept_98 : decode qM_laysIntercept.1 98 = .ok (.iconst 2, 1) := by decide +kernel
theorem d_M_laysIntercept_99 : decode qM_laysIntercept.1 99 = .ok (.invokevirtual 168, 3) := by decide +kernel
theorem d_M_laysIntercept_102 : decode qM_laysIntercept.1 102 = .ok (.istore 12, 2) := by decide +kernel
theorem d_M_laysIntercept_104 : decode qM_laysIntercept.1 104 = .ok (.aload_n 0, 1) := by decide +kernel
theorem d_M_laysIntercept_105 : decode qM_laysIntercept.1 105 = .ok (.iload_n 3, 1) := by decide +kernel
theorem d_M_laysIntercept_106 : decode qM_laysIntercept.1 106 = .ok (.invokevirtual 162, 3) := by decide +kernel
theorem d_M_laysIntercept_109 : decode qM_laysIntercept.1 109 = .ok (.i2l, 1) := by decide +kernel
theorem d_M_laysIntercept_110 : decode qM_laysIntercept.1 110 = .ok (.aload_n 0, 1) := by decide +kernel
theorem d_M_laysIntercept_111 : decode qM_laysIntercept.1 111 = .ok (.iload 12, 2) := by decide +kernel
theorem d_M_laysIntercept_113 : decode qM_laysIntercept.1 113 = .ok (.invokevirtual 165, 3) := by decide +kernel
theorem d_M_laysIntercept_116 : decode qM_laysIntercept.1 116 = .ok (.i2l, 1) := by decide +kernel
theorem d_M_laysIntercept_117 : decode qM_laysIntercept.1 117 = .ok (.lmul, 1) := by decide +kernel
theorem d_M_laysIntercept_118 : decode qM_laysIntercept.1 118 = .ok (.aload_n 0, 1) := by decide +kernel
theorem d_M_laysIntercept_119 : decode qM_laysIntercept.1 119 = .ok (.iload_n 3, 1) := by decide +kernel
theorem d_M_laysIntercept_120 : decode qM_laysIntercept.1 120 = .ok (.invokevirtual 165, 3) := by decide +kernel
theorem d_M_laysIntercept_123 : decode qM_laysIntercept.1 123 = .ok (.i2l, 1) := by decide +kernel
theorem d_M_laysIntercept_124 : decode qM_laysIntercept.1 124 = .ok (.aload_n 0, 1) := by decide +kernel
theorem d_M_laysIntercept_125 : decode qM_laysIntercept.1 125 = .ok (.iload 12, 2) := by decide +kernel
theorem d_M_laysIntercept_127 : decode qM_laysIntercept.1 127 = .ok (.invokevirtual 162, 3) := by decide +kernel
theorem d_M_laysIntercept_130 : decode qM_laysIntercept.1 130 = .ok (.i2l, 1) := by decide +kernel
theorem d_M_laysIntercept_131 : decode qM_laysIntercept.1 131 = .ok (.lmul, 1) := by decide +kernel
theorem d_M_laysIntercept_132 : decode qM_laysIntercept.1 132 = .ok (.lsub, 1) := by decide +kernel
theorem d_M_laysIntercept_133 : decode qM_laysIntercept.1 133 = .ok (.lstore 13, 2) := by decide +kernel
theorem d_M_laysIntercept_135 : decode qM_laysIntercept.1 135 = .ok (.lload 13, 2) := by decide +kernel
theorem d_M_laysIntercept_137 : decode qM_laysIntercept.1 137 = .ok (.lconst 0, 1) := by decide +kernel
theorem d_M_laysIntercept_138 : decode qM_laysIntercept.1 138 = .ok (.lcmp, 1) := by decide +kernel
theorem d_M_laysIntercept_139 : decode qM_laysIntercept.1 139 = .ok (.ifCond .eq 7, 3) := by decide +kernel
theorem d_M_laysIntercept_142 : decode qM_laysIntercept.1 142 = .ok (.iconst 1, 1) := by decide +kernel
theorem d_M_laysIntercept_143 : decode qM_laysIntercept.1 143 = .ok (.goto 4, 3) := by decide +kernel
theorem d_M_laysIntercept_146 : decode qM_laysIntercept.1 146 = .ok (.iconst 0, 1) := by decide +kernel
theorem d_M_laysIntercept_147 : decode qM_laysIntercept.1 147 = .ok (.istore 5, 2) := by decide +kernel
theorem d_M_laysIntercept_149 : decode qM_laysIntercept.1 149 = .ok (.iload 5, 2) := by decide +kernel
theorem d_M_laysIntercept_151 : decode qM_laysIntercept.1 151 = .ok (.ifCond .eq 34, 3) := by decide +kernel
theorem d_M_laysIntercept_154 : decode qM_laysIntercept.1 154 = .ok (.lload 8, 2) := by decide +kernel
theorem d_M_laysIntercept_156 : decode qM_laysIntercept.1 156 = .ok (.aload_n 0, 1) := by decide +kernel
theorem d_M_laysIntercept_157 : decode qM_laysIntercept.1 157 = .ok (.iload 12, 2) := by decide +kernel
theorem d_M_laysIntercept_159 : decode qM_laysIntercept.1 159 = .ok (.invokevirtual 165, 3) := by decide +kernel
theorem d_M_laysIntercept_162 : decode qM_laysIntercept.1 162 = .ok (.i2l, 1) := by decide +kernel
theorem d_M_laysIntercept_163 : decode qM_laysIntercept.1 163 = .ok (.lmul, 1) := by decide +kernel
theorem d_M_laysIntercept_164 : decode qM_laysIntercept.1 164 = .ok (.lload 10, 2) := by decide +kernel
theorem d_M_laysIntercept_166 : decode qM_laysIntercept.1 166 = .ok (.aload_n 0, 1) := by decide +kernel
theorem d_M_laysIntercept_167 : decode qM_laysIntercept.1 167 = .ok (.iload 12, 2) := by decide +kernel
theorem d_M_laysIntercept_169 : decode qM_laysIntercept.1 169 = .ok (.invokevirtual 162, 3) := by decide +kernel
theorem d_M_laysIntercept_172 : decode qM_laysIntercept.1 172 = .ok (.i2l, 1) := by decide +kernel
theorem d_M_laysIntercept_173 : decode qM_laysIntercept.1 173 = .ok (.lmul, 1) := by decide +kernel
theorem d_M_laysIntercept_174 : decode qM_laysIntercept.1 174 = .ok (.lsub, 1) := by decide +kernel
theorem d_M_laysIntercept_175 : decode qM_laysIntercept.1 175 = .ok (.ldc2_w 160, 3) := by decide +kernel
theorem d_M_laysIntercept_178 : decode qM_laysIntercept.1 178 = .ok (.lmul, 1) := by decide +kernel
theorem d_M_laysIntercept_179 : decode qM_laysIntercept.1 179 = .ok (.lload 13, 2) := by decide +kernel
theorem d_M_laysIntercept_181 : decode qM_laysIntercept.1 181 = .ok (.ldiv, 1) := by decide +kernel
theorem d_M_laysIntercept_182 : decode qM_laysIntercept.1 182 = .ok (.goto 4, 3) := by decide +kernel
theorem d_M_laysIntercept_185 : decode qM_laysIntercept.1 185 = .ok (.lconst 0, 1) := by decide +kernel
theorem d_M_laysIntercept_186 : decode qM_laysIntercept.1 186 = .ok (.lstore 6, 2) := by decide +kernel
theorem d_M_laysIntercept_188 : decode qM_laysIntercept.1 188 = .ok (.iload 5, 2) := by decide +kernel
theorem d_M_laysIntercept_190 : decode qM_laysIntercept.1 190 = .ok (.ifCond .eq 32, 3) := by decide +kernel
theorem d_M_laysIntercept_193 : decode qM_laysIntercept.1 193 = .ok (.lload 10, 2) := by decide +kernel
theorem d_M_laysIntercept_195 : decode qM_laysIntercept.1 195 = .ok (.aload_n 0, 1) := by decide +kernel
theorem d_M_laysIntercept_196 : decode qM_laysIntercept.1 196 = .ok (.iload_n 3, 1) := by decide +kernel
theorem d_M_laysIntercept_197 : decode qM_laysIntercept.1 197 = .ok (.invokevirtual 162, 3) := by decide +kernel
theorem d_M_laysIntercept_200 : decode qM_laysIntercept.1 200 = .ok (.i2l, 1) := by decide +kernel
theorem d_M_laysIntercept_201 : decode qM_laysIntercept.1 201 = .ok (.lmul, 1) := by decide +kernel
theorem d_M_laysIntercept_202 : decode qM_laysIntercept.1 202 = .ok (.lload 8, 2) := by decide +kernel
theorem d_M_laysIntercept_204 : decode qM_laysIntercept.1 204 = .ok (.aload_n 0, 1) := by decide +kernel
theorem d_M_laysIntercept_205 : decode qM_laysIntercept.1 205 = .ok (.iload_n 3, 1) := by decide +kernel
theorem d_M_laysIntercept_206 : decode qM_laysIntercept.1 206 = .ok (.invokevirtual 165, 3) := by decide +kernel
theorem d_M_laysIntercept_209 : decode qM_laysIntercept.1 209 = .ok (.i2l, 1) := by decide +kernel
theorem d_M_laysIntercept_210 : decode qM_laysIntercept.1 210 = .ok (.lmul, 1) := by decide +kernel
theorem d_M_laysIntercept_211 : decode qM_laysIntercept.1 211 = .ok (.lsub, 1) := by decide +kernel
theorem d_M_laysIntercept_212 : decode qM_laysIntercept.1 212 = .ok (.ldc2_w 160, 3) := by decide +kernel
theorem d_M_laysIntercept_215 : decode qM_laysIntercept.1 215 = .ok (.lmul, 1) := by decide +kernel
theorem d_M_laysIntercept_216 : decode qM_laysIntercept.1 216 = .ok (.lload 13, 2) := by decide +kernel
theorem d_M_laysIntercept_218 : decode qM_laysIntercept.1 218 = .ok (.ldiv, 1) := by decide +kernel
theorem d_M_laysIntercept_219 : decode qM_laysIntercept.1 219 = .ok (.goto 6, 3) := by decide +kernel
theorem d_M_laysIntercept_222 : decode qM_laysIntercept.1 222 = .ok (.ldc2_w 228, 3) := by decide +kernel
theorem d_M_laysIntercept_225 : decode qM_laysIntercept.1 225 = .ok (.lstore 15, 2) := by decide +kernel
theorem d_M_laysIntercept_227 : decode qM_laysIntercept.1 227 = .ok (.lload 6, 2) := by decide +kernel
theorem d_M_laysIntercept_229 : decode qM_laysIntercept.1 229 = .ok (.lconst 1, 1) := by decide +kernel
theorem d_M_laysIntercept_230 : decode qM_laysIntercept.1 230 = .ok (.ldc2_w 230, 3) := by decide +kernel
theorem d_M_laysIntercept_233 : decode qM_laysIntercept.1 233 = .ok (.invokestatic 232, 3) := by decide +kernel
theorem d_M_laysIntercept_236 : decode qM_laysIntercept.1 236 = .ok (.ifCond .eq 14, 3) := by decide +kernel
theorem d_M_laysIntercept_239 : decode qM_laysIntercept.1 239 = .ok (.lload 15, 2) := by decide +kernel
theorem d_M_laysIntercept_241 : decode qM_laysIntercept.1 241 = .ok (.lconst 0, 1) := by decide +kernel
theorem d_M_laysIntercept_242 : decode qM_laysIntercept.1 242 = .ok (.lcmp, 1) := by decide +kernel
theorem d_M_laysIntercept_243 : decode qM_laysIntercept.1 243 = .ok (.ifCond .lt 7, 3) := by decide +kernel
theorem d_M_laysIntercept_246 : decode qM_laysIntercept.1 246 = .ok (.iconst 1, 1) := by decide +kernel
theorem d_M_laysIntercept_247 : decode qM_laysIntercept.1 247 = .ok (.goto 4, 3) := by decide +kernel
theorem d_M_laysIntercept_250 : decode qM_laysIntercept.1 250 = .ok (.iconst 0, 1) := by decide +kernel
theorem d_M_laysIntercept_251 : decode qM_laysIntercept.1 251 = .ok (.istore 5, 2) := by decide +kernel
theorem d_M_laysIntercept_253 : decode qM_laysIntercept.1 253 = .ok (.iload 5, 2) := by decide +kernel
theorem d_M_laysIntercept_255 : decode qM_laysIntercept.1 255 = .ok (.ifCond .eq 9, 3) := by decide +kernel
theorem d_M_laysIntercept_258 : decode qM_laysIntercept.1 258 = .ok (.lload 6, 2) := by decide +kernel
theorem d_M_laysIntercept_260 : decode qM_laysIntercept.1 260 = .ok (.l2i, 1) := by decide +kernel
theorem d_M_laysIntercept_261 : decode qM_laysIntercept.1 261 = .ok (.goto 5, 3) := by decide +kernel
theorem d_M_laysIntercept_264 : decode qM_laysIntercept.1 264 = .ok (.bipush 100, 2) := by decide +kernel
theorem d_M_laysIntercept_266 : decode qM_laysIntercept.1 266 = .ok (.istore 8, 2) := by decide +kernel
theorem d_M_laysIntercept_268 : decode qM_laysIntercept.1 268 = .ok (.iload 5, 2) := by decide +kernel
theorem d_M_laysIntercept_270 : decode qM_laysIntercept.1 270 = .ok (.ifCond .eq 38, 3) := by decide +kernel
theorem d_M_laysIntercept_273 : decode qM_laysIntercept.1 273 = .ok (.aload_n 0, 1) := by decide +kernel
theorem d_M_laysIntercept_274 : decode qM_laysIntercept.1 274 = .ok (.iload_n 2, 1) := by decide +kernel
theorem d_M_laysIntercept_275 : decode qM_laysIntercept.1 275 = .ok (.aload_n 0, 1) := by decide +kernel
theorem d_M_laysIntercept_276 : decode qM_laysIntercept.1 276 = .ok (.aload_n 0, 1) := by decide +kernel
theorem d_M_laysIntercept_277 : decode qM_laysIntercept.1 277 = .ok (.getfield 191, 3) := by decide +kernel
theorem d_M_laysIntercept_280 : decode qM_laysIntercept.1 280 = .ok (.iload 8, 2) := by decide +kernel
theorem d_M_laysIntercept_282 : decode qM_laysIntercept.1 282 = .ok (.aload_n 0, 1) := by decide +kernel
theorem d_M_laysIntercept_283 : decode qM_laysIntercept.1 283 = .ok (.iload_n 3, 1) := by decide +kernel
theorem d_M_laysIntercept_284 : decode qM_laysIntercept.1 284 = .ok (.invokevirtual 162, 3) := by decide +kernel
theorem d_M_laysIntercept_287 : decode qM_laysIntercept.1 287 = .ok (.invokevirtual 208, 3) := by decide +kernel
theorem d_M_laysIntercept_290 : decode qM_laysIntercept.1 290 = .ok (.aload_n 0, 1) := by decide +kernel
theorem d_M_laysIntercept_291 : decode qM_laysIntercept.1 291 = .ok (.aload_n 0, 1) := by decide +kernel
theorem d_M_laysIntercept_292 : decode qM_laysIntercept.1 292 = .ok (.getfield 194, 3) := by decide +kernel
theorem d_M_laysIntercept_295 : decode qM_laysIntercept.1 295 = .ok (.iload 8, 2) := by decide +kernel
theorem d_M_laysIntercept_297 : decode qM_laysIntercept.1 297 = .ok (.aload_n 0, 1) := by decide +kernel
theorem d_M_laysIntercept_298 : decode qM_laysIntercept.1 298 = .ok (.iload_n 3, 1) := by decide +kernel
theorem d_M_laysIntercept_299 : decode qM_laysIntercept.1 299 = .ok (.invokevirtual 165, 3) := by decide +kernel
theorem d_M_laysIntercept_302 : decode qM_laysIntercept.1 302 = .ok (.invokevirtual 208, 3) := by decide +kernel
theorem d_M_laysIntercept_305 : decode qM_laysIntercept.1 305 = .ok (.invokevirtual 236, 3) := by decide +kernel
theorem d_M_laysIntercept_308 : decode qM_laysIntercept.1 308 = .ok (.aload_n 0, 1) := by decide +kernel
theorem d_M_laysIntercept_309 : decode qM_laysIntercept.1 309 = .ok (.iload_n 2, 1) := by decide +kernel
theorem d_M_laysIntercept_310 : decode qM_laysIntercept.1 310 = .ok (.iload 8, 2) := by decide +kernel
theorem d_M_laysIntercept_312 : decode qM_laysIntercept.1 312 = .ok (.iload_n 3, 1) := by decide +kernel
theorem d_M_laysIntercept_313 : decode qM_laysIntercept.1 313 = .ok (.invokevirtual 239, 3) := by decide +kernel
theorem d_M_laysIntercept_316 : decode qM_laysIntercept.1 316 = .ok (.return_, 1) := by decide +kernel
set_option maxRecDepth 100000 in
def m_laysIntercept (σ : St) (p1 : Int32) (p2 : Int32) : Option (St) :=
  Option.bind (m_of σ p1 p2 (2 : Int32)) fun x1 =>
  Lt ((p2 + (1 : Int32)) : Int32) fun x2 =>
  Option.bind (m_count σ p1) fun x3 =>
  Jn (fun (x4 : Int32) =>
  Jn (fun (x6 : Int32) (x7 : Int64) =>
  Jn (fun (x9 : Int32) =>
  Jn (fun (σ11 : St) =>
  Option.bind (m_onCourse σ11 p2 x9 x1) fun x13 =>
  some x13
  ) fun J12 =>
  if (x6 : Int32) = 0 then (
  J12 σ
  ) else (
  Option.bind (m_sx σ x1) fun x14 =>
  Option.bind (m_ahead (σ 0 42) x9 x14) fun x15 =>
  Option.bind (m_sy σ x1) fun x16 =>
  Option.bind (m_ahead (σ 0 43) x9 x16) fun x17 =>
  Option.bind (m_ends σ p2 x15 x17) fun x18 =>
  J12 x18
  )
  ) fun J10 =>
  if (x6 : Int32) = 0 then (
  J10 (100 : Int32)
  ) else (
  J10 (Int64.toInt32 x7)
  )
  ) fun J8 =>
  if (x4 : Int32) = 0 then (
  J8 x4 (0 : Int64)
  ) else (
  Option.bind (m_pointX σ p1 x2) fun x19 =>
  Lt (((Int32.toInt64 x19) - (Int32.toInt64 (σ 0 42))) : Int64) fun x20 =>
  Option.bind (m_pointY σ p1 x2) fun x21 =>
  Lt (((Int32.toInt64 x21) - (Int32.toInt64 (σ 0 43))) : Int64) fun x22 =>
  Option.bind (m_of σ p1 x2 (2 : Int32)) fun x23 =>
  Option.bind (m_sx σ x1) fun x24 =>
  Option.bind (m_sy σ x23) fun x25 =>
  Option.bind (m_sy σ x1) fun x26 =>
  Option.bind (m_sx σ x23) fun x27 =>
  Lt ((((Int32.toInt64 x24) * (Int32.toInt64 x25)) - ((Int32.toInt64 x26) * (Int32.toInt64 x27))) : Int64) fun x28 =>
  Jn (fun (x29 : Int32) =>
  Jn (fun (x31 : Int64) =>
  Jn (fun (x33 : Int64) =>
  Option.bind (m_in x31 (1 : Int64) (999 : Int64)) fun x35 =>
  Jn (fun (x36 : Int32) =>
  J8 x36 x31
  ) fun J37 =>
  Jn (fun (_ : Unit) =>
  J37 (0 : Int32)
  ) fun J38 =>
  if (x35 : Int32) = 0 then (
  J38 ()
  ) else (
  if (x33 : Int64) < (0 : Int64) then (
  J38 ()
  ) else (
  J37 (1 : Int32)
  )
  )
  ) fun J34 =>
  if (x29 : Int32) = 0 then (
  J34 (-1 : Int64)
  ) else (
  Option.bind (m_sx σ x1) fun x39 =>
  Option.bind (m_sy σ x1) fun x40 =>
  Gd (¬ (x28 : Int64) = 0) <|
  J34 ((((x22 * (Int32.toInt64 x39)) - (x20 * (Int32.toInt64 x40))) * (1000 : Int64)) / x28)
  )
  ) fun J32 =>
  if (x29 : Int32) = 0 then (
  J32 (0 : Int64)
  ) else (
  Option.bind (m_sy σ x23) fun x42 =>
  Option.bind (m_sx σ x23) fun x43 =>
  Gd (¬ (x28 : Int64) = 0) <|
  J32 ((((x20 * (Int32.toInt64 x42)) - (x22 * (Int32.toInt64 x43))) * (1000 : Int64)) / x28)
  )
  ) fun J30 =>
  if (x28 : Int64) = (0 : Int64) then (
  J30 (0 : Int32)
  ) else (
  J30 (1 : Int32)
  )
  )
  ) fun J5 =>
  Jn (fun (_ : Unit) =>
  J5 (0 : Int32)
  ) fun J45 =>
  if (x3 : Int32) ≤ x2 then (
  J45 ()
  ) else (
  Option.bind (m_of σ p1 x2 (0 : Int32)) fun x46 =>
  if (x46 : Int32) = (3 : Int32) then (
  Option.bind (m_of σ p1 x2 (13 : Int32)) fun x47 =>
  if (x47 : Int32) = 0 then (
  J5 (1 : Int32)
  ) else (
  J45 ()
  )
  ) else (
  J45 ()
  )
  )
set_option maxHeartbeats 4000000 in
set_option maxRecDepth 100000 in
theorem cM_laysIntercept (l : Launch) (g : Ge) (hi : injB wM.2 g) (σ : St) (p1 : Int32) (p2 : Int32) (x : St) (h : m_laysIntercept σ p1 p2 = some x) : Ct l wM g yM_laysIntercept qM_laysIntercept 3 74 [.ref (g.1 0), .int p1, .int p2] σ (none, x) := by
  refine Ct.of (out := o_v) FM_laysIntercept rfl hi rfl h (fun z hz C => ?_)
  clear h
  subst hz
  unfold m_laysIntercept
  show Rt z qM_laysIntercept wM g o_v 0 [(0, .ref (g.1 0)), (1, .int p1), (2, .int p2)] [] σ _
  refine q_aload_n (pc' := 1) C 0 d_M_laysIntercept_0 rfl rfl ?_
  refine q_iload_n (pc' := 2) C 1 d_M_laysIntercept_1 rfl rfl ?_
  refine q_iload_n (pc' := 3) C 2 d_M_laysIntercept_2 rfl rfl ?_
  refine q_iconst (pc' := 4) C d_M_laysIntercept_3 ki_2 rfl ?_
  refine q_callVr (fr' := 0) (lo' := 0) (pc' := 7) C FM_of lmM_168 d_M_laysIntercept_4 0 jM_0 kM_0 cM0 [.int p1, .int p2, .int (2 : Int32)] [] rfl rfl (Nat.le_of_ble_eq_true rfl) ⟨rfl, rfl⟩ (fun x h => cM_of _ g hi σ p1 p2 (2 : Int32) x h) rfl (fun x1 _ => ?_)
  refine q_istore_n (pc' := 8) (lv' := [(3, .int x1), (0, .ref (g.1 0)), (1, .int p1), (2, .int p2)]) C d_M_laysIntercept_7 (by decide) rfl rfl ?_
  refine q_iload_n (pc' := 9) C 3 d_M_laysIntercept_8 rfl rfl ?_
  refine q_iconst (pc' := 10) C d_M_laysIntercept_9 ki_1 rfl ?_
  refine q_iadd (pc' := 11) C d_M_laysIntercept_10 rfl ?_
  refine q_let (fun x2 e2 => ?_)
  refine q_topi e2 ?_
  refine q_istore (pc' := 13) (lv' := [(4, .int x2), (3, .int x1), (0, .ref (g.1 0)), (1, .int p1), (2, .int p2)]) C d_M_laysIntercept_11 (by decide) rfl rfl ?_
  refine q_iload (pc' := 15) C 0 d_M_laysIntercept_13 rfl rfl ?_
  refine q_aload_n (pc' := 16) C 2 d_M_laysIntercept_15 rfl rfl ?_
  refine q_iload_n (pc' := 17) C 3 d_M_laysIntercept_16 rfl rfl ?_
  refine q_callVr (fr' := 0) (lo' := 0) (pc' := 20) C FM_count lmM_218 d_M_laysIntercept_17 0 jM_0 kM_0 cM0 [.int p1] [.int x2] rfl rfl (Nat.le_of_ble_eq_true rfl) ⟨rfl, rfl⟩ (fun x h => cM_count _ g hi σ p1 x h) rfl (fun x3 _ => ?_)
  refine q_join (fun J5 : Int32 → Option (St) => ∀ (x4 : Int32), Rt z qM_laysIntercept wM g o_v 52 [(0, .ref (g.1 0)), (1, .int p1), (2, .int p2), (3, .int x1), (4, .int x2)] [.int x4] σ (J5 x4)) (fun x4 => ?_) (fun J5 hJ5 => ?_)
  · refine q_istore (pc' := 54) (lv' := [(5, .int x4), (0, .ref (g.1 0)), (1, .int p1), (2, .int p2), (3, .int x1), (4, .int x2)]) C d_M_laysIntercept_52 (by decide) rfl rfl ?_
    refine q_lconst (pc' := 55) C d_M_laysIntercept_54 kl_0 rfl ?_
    refine q_lstore (pc' := 57) (lv' := [(6, .long (0 : Int64)), (5, .int x4), (0, .ref (g.1 0)), (1, .int p1), (2, .int p2), (3, .int x1), (4, .int x2)]) C d_M_laysIntercept_55 (by decide) rfl rfl ?_
    refine q_iload (pc' := 59) C 1 d_M_laysIntercept_57 rfl rfl ?_
    refine q_join (fun J8 : Int32 → Int64 → Option (St) => ∀ (x6 : Int32) (x7 : Int64), Rt z qM_laysIntercept wM g o_v 253 [(0, .ref (g.1 0)), (2, .int p2), (3, .int x1), (5, .int x6), (6, .long x7)] [] σ (J8 x6 x7)) (fun x6 x7 => ?_) (fun J8 hJ8 => ?_)
    · refine q_iload (pc' := 255) C 3 d_M_laysIntercept_253 rfl rfl ?_
      refine q_join (fun J10 : Int32 → Option (St) => ∀ (x9 : Int32), Rt z qM_laysIntercept wM g o_v 266 [(0, .ref (g.1 0)), (2, .int p2), (3, .int x1), (5, .int x6)] [.int x9] σ (J10 x9)) (fun x9 => ?_) (fun J10 hJ10 => ?_)
      · refine q_istore (pc' := 268) (lv' := [(8, .int x9), (0, .ref (g.1 0)), (2, .int p2), (3, .int x1), (5, .int x6)]) C d_M_laysIntercept_266 (by decide) rfl rfl ?_
        refine q_iload (pc' := 270) C 4 d_M_laysIntercept_268 rfl rfl ?_
        refine q_join (fun J12 : St → Option (St) => ∀ (σ11 : St), Rt z qM_laysIntercept wM g o_v 308 [(0, .ref (g.1 0)), (2, .int p2), (3, .int x1), (8, .int x9)] [] σ11 (J12 σ11)) (fun σ11 => ?_) (fun J12 hJ12 => ?_)
        · refine q_aload_n (pc' := 309) C 0 d_M_laysIntercept_308 rfl rfl ?_
          refine q_iload_n (pc' := 310) C 1 d_M_laysIntercept_309 rfl rfl ?_
          refine q_iload (pc' := 312) C 3 d_M_laysIntercept_310 rfl rfl ?_
          refine q_iload_n (pc' := 313) C 2 d_M_laysIntercept_312 rfl rfl ?_
          refine q_callVv (fr' := 2) (lo' := 50) (pc' := 316) C FM_onCourse lmM_239 d_M_laysIntercept_313 0 jM_0 kM_0 cM0 [.int p2, .int x9, .int x1] [] rfl rfl (Nat.le_of_ble_eq_true rfl) ⟨rfl, rfl⟩ (fun x h => cM_onCourse _ g hi σ11 p2 x9 x1 x h) rfl (fun x13 _ => ?_)
          exact q_vret C rfl d_M_laysIntercept_316 rfl
        refine q_if_eq (tgt := 308) (pc' := 273) C d_M_laysIntercept_270 rfl rfl ?_ ?_
        · exact Rt.sub [1, 2, 3, 0] rfl (hJ12 σ)
        · refine q_aload_n (pc' := 274) C 1 d_M_laysIntercept_273 rfl rfl ?_
          refine q_iload_n (pc' := 275) C 2 d_M_laysIntercept_274 rfl rfl ?_
          refine q_aload_n (pc' := 276) C 1 d_M_laysIntercept_275 rfl rfl ?_
          refine q_aload_n (pc' := 277) C 1 d_M_laysIntercept_276 rfl rfl ?_
          refine gM_191 (pc' := 280) C d_M_laysIntercept_277 rfl rfl ?_
          refine q_iload (pc' := 282) C 0 d_M_laysIntercept_280 rfl rfl ?_
          refine q_aload_n (pc' := 283) C 1 d_M_laysIntercept_282 rfl rfl ?_
          refine q_iload_n (pc' := 284) C 3 d_M_laysIntercept_283 rfl rfl ?_
          refine q_callVr (fr' := 1) (lo' := 20) (pc' := 287) C FM_sx lmM_162 d_M_laysIntercept_284 0 jM_0 kM_0 cM0 [.int x1] [.int x9, .int (σ 0 42), .ref (g.1 0), .int p2, .ref (g.1 0)] rfl rfl (Nat.le_of_ble_eq_true rfl) ⟨rfl, rfl⟩ (fun x h => cM_sx _ g hi σ x1 x h) rfl (fun x14 _ => ?_)
          refine q_callVr (fr' := 0) (lo' := 0) (pc' := 290) C FM_ahead lmM_208 d_M_laysIntercept_287 0 jM_0 kM_0 cM0 [.int (σ 0 42), .int x9, .int x14] [.int p2, .ref (g.1 0)] rfl rfl (Nat.le_of_ble_eq_true rfl) ⟨rfl, rfl⟩ (fun x h => cM_ahead _ g hi σ (σ 0 42) x9 x14 x h) rfl (fun x15 _ => ?_)
          refine q_aload_n (pc' := 291) C 1 d_M_laysIntercept_290 rfl rfl ?_
          refine q_aload_n (pc' := 292) C 1 d_M_laysIntercept_291 rfl rfl ?_
          refine gM_194 (pc' := 295) C d_M_laysIntercept_292 rfl rfl ?_
          refine q_iload (pc' := 297) C 0 d_M_laysIntercept_295 rfl rfl ?_
          refine q_aload_n (pc' := 298) C 1 d_M_laysIntercept_297 rfl rfl ?_
          refine q_iload_n (pc' := 299) C 3 d_M_laysIntercept_298 rfl rfl ?_
          refine q_callVr (fr' := 1) (lo' := 20) (pc' := 302) C FM_sy lmM_165 d_M_laysIntercept_299 0 jM_0 kM_0 cM0 [.int x1] [.int x9, .int (σ 0 43), .ref (g.1 0), .int x15, .int p2, .ref (g.1 0)] rfl rfl (Nat.le_of_ble_eq_true rfl) ⟨rfl, rfl⟩ (fun x h => cM_sy _ g hi σ x1 x h) rfl (fun x16 _ => ?_)
          refine q_callVr (fr' := 0) (lo' := 0) (pc' := 305) C FM_ahead lmM_208 d_M_laysIntercept_302 0 jM_0 kM_0 cM0 [.int (σ 0 43), .int x9, .int x16] [.int x15, .int p2, .ref (g.1 0)] rfl rfl (Nat.le_of_ble_eq_true rfl) ⟨rfl, rfl⟩ (fun x h => cM_ahead _ g hi σ (σ 0 43) x9 x16 x h) rfl (fun x17 _ => ?_)
          refine q_callVv (fr' := 0) (lo' := 0) (pc' := 308) C FM_ends lmM_236 d_M_laysIntercept_305 0 jM_0 kM_0 cM0 [.int p2, .int x15, .int x17] [] rfl rfl (Nat.le_of_ble_eq_true rfl) ⟨rfl, rfl⟩ (fun x h => cM_ends _ g hi σ p2 x15 x17 x h) rfl (fun x18 _ => ?_)
          exact Rt.sub [1, 2, 3, 0] rfl (hJ12 x18)
      refine q_if_eq (tgt := 264) (pc' := 258) C d_M_laysIntercept_255 rfl rfl ?_ ?_
      · refine q_bipush (pc' := 266) C d_M_laysIntercept_264 kb_100 rfl ?_
        exact Rt.sub [0, 1, 2, 3] rfl (hJ10 (100 : Int32))
      · refine q_lload (pc' := 260) C 4 d_M_laysIntercept_258 rfl rfl ?_
        refine q_l2i (pc' := 261) C d_M_laysIntercept_260 rfl ?_
        refine q_goto (tgt := 266) C d_M_laysIntercept_261 rfl ?_
        exact Rt.sub [0, 1, 2, 3] rfl (hJ10 (Int64.toInt32 x7))
    refine q_if_eq (tgt := 253) (pc' := 62) C d_M_laysIntercept_59 rfl rfl ?_ ?_
    · exact Rt.sub [2, 4, 5, 1, 0] rfl (hJ8 x4 (0 : Int64))
    · refine q_aload_n (pc' := 63) C 2 d_M_laysIntercept_62 rfl rfl ?_
      refine q_iload_n (pc' := 64) C 3 d_M_laysIntercept_63 rfl rfl ?_
      refine q_iload (pc' := 66) C 6 d_M_laysIntercept_64 rfl rfl ?_
      refine q_callVr (fr' := 1) (lo' := 23) (pc' := 69) C FM_pointX lmM_221 d_M_laysIntercept_66 0 jM_0 kM_0 cM0 [.int p1, .int x2] [] rfl rfl (Nat.le_of_ble_eq_true rfl) ⟨rfl, rfl⟩ (fun x h => cM_pointX _ g hi σ p1 x2 x h) rfl (fun x19 _ => ?_)
      refine q_i2l (pc' := 70) C d_M_laysIntercept_69 rfl ?_
      refine q_aload_n (pc' := 71) C 2 d_M_laysIntercept_70 rfl rfl ?_
      refine gM_191 (pc' := 74) C d_M_laysIntercept_71 rfl rfl ?_
      refine q_i2l (pc' := 75) C d_M_laysIntercept_74 rfl ?_
      refine q_lsub (pc' := 76) C d_M_laysIntercept_75 rfl ?_
      refine q_let (fun x20 e20 => ?_)
      refine q_topl e20 ?_
      refine q_lstore (pc' := 78) (lv' := [(8, .long x20), (6, .long (0 : Int64)), (5, .int x4), (0, .ref (g.1 0)), (1, .int p1), (2, .int p2), (3, .int x1), (4, .int x2)]) C d_M_laysIntercept_76 (by decide) rfl rfl ?_
      refine q_aload_n (pc' := 79) C 3 d_M_laysIntercept_78 rfl rfl ?_
      refine q_iload_n (pc' := 80) C 4 d_M_laysIntercept_79 rfl rfl ?_
      refine q_iload (pc' := 82) C 7 d_M_laysIntercept_80 rfl rfl ?_
      refine q_callVr (fr' := 1) (lo' := 23) (pc' := 85) C FM_pointY lmM_225 d_M_laysIntercept_82 0 jM_0 kM_0 cM0 [.int p1, .int x2] [] rfl rfl (Nat.le_of_ble_eq_true rfl) ⟨rfl, rfl⟩ (fun x h => cM_pointY _ g hi σ p1 x2 x h) rfl (fun x21 _ => ?_)
      refine q_i2l (pc' := 86) C d_M_laysIntercept_85 rfl ?_
      refine q_aload_n (pc' := 87) C 3 d_M_laysIntercept_86 rfl rfl ?_
      refine gM_194 (pc' := 90) C d_M_laysIntercept_87 rfl rfl ?_
      refine q_i2l (pc' := 91) C d_M_laysIntercept_90 rfl ?_
      refine q_lsub (pc' := 92) C d_M_laysIntercept_91 rfl ?_
      refine q_let (fun x22 e22 => ?_)
      refine q_topl e22 ?_
      refine q_lstore (pc' := 94) (lv' := [(10, .long x22), (8, .long x20), (6, .long (0 : Int64)), (5, .int x4), (0, .ref (g.1 0)), (1, .int p1), (2, .int p2), (3, .int x1), (4, .int x2)]) C d_M_laysIntercept_92 (by decide) rfl rfl ?_
      refine q_aload_n (pc' := 95) C 4 d_M_laysIntercept_94 rfl rfl ?_
      refine q_iload_n (pc' := 96) C 5 d_M_laysIntercept_95 rfl rfl ?_
      refine q_iload (pc' := 98) C 8 d_M_laysIntercept_96 rfl rfl ?_
      refine q_iconst (pc' := 99) C d_M_laysIntercept_98 ki_2 rfl ?_
      refine q_callVr (fr' := 0) (lo' := 0) (pc' := 102) C FM_of lmM_168 d_M_laysIntercept_99 0 jM_0 kM_0 cM0 [.int p1, .int x2, .int (2 : Int32)] [] rfl rfl (Nat.le_of_ble_eq_true rfl) ⟨rfl, rfl⟩ (fun x h => cM_of _ g hi σ p1 x2 (2 : Int32) x h) rfl (fun x23 _ => ?_)
      refine q_istore (pc' := 104) (lv' := [(12, .int x23), (10, .long x22), (8, .long x20), (6, .long (0 : Int64)), (5, .int x4), (0, .ref (g.1 0)), (1, .int p1), (2, .int p2), (3, .int x1), (4, .int x2)]) C d_M_laysIntercept_102 (by decide) rfl rfl ?_
      refine q_aload_n (pc' := 105) C 5 d_M_laysIntercept_104 rfl rfl ?_
      refine q_iload_n (pc' := 106) C 8 d_M_laysIntercept_105 rfl rfl ?_
      refine q_callVr (fr' := 1) (lo' := 20) (pc' := 109) C FM_sx lmM_162 d_M_laysIntercept_106 0 jM_0 kM_0 cM0 [.int x1] [] rfl rfl (Nat.le_of_ble_eq_true rfl) ⟨rfl, rfl⟩ (fun x h => cM_sx _ g hi σ x1 x h) rfl (fun x24 _ => ?_)
      refine q_i2l (pc' := 110) C d_M_laysIntercept_109 rfl ?_
      refine q_aload_n (pc' := 111) C 5 d_M_laysIntercept_110 rfl rfl ?_
      refine q_iload (pc' := 113) C 0 d_M_laysIntercept_111 rfl rfl ?_
      refine q_callVr (fr' := 1) (lo' := 20) (pc' := 116) C FM_sy lmM_165 d_M_laysIntercept_113 0 jM_0 kM_0 cM0 [.int x23] [.long (Int32.toInt64 x24)] rfl rfl (Nat.le_of_ble_eq_true rfl) ⟨rfl, rfl⟩ (fun x h => cM_sy _ g hi σ x23 x h) rfl (fun x25 _ => ?_)
      refine q_i2l (pc' := 117) C d_M_laysIntercept_116 rfl ?_
      refine q_lmul (pc' := 118) C d_M_laysIntercept_117 rfl ?_
      refine q_aload_n (pc' := 119) C 5 d_M_laysIntercept_118 rfl rfl ?_
      refine q_iload_n (pc' := 120) C 8 d_M_laysIntercept_119 rfl rfl ?_
      refine q_callVr (fr' := 1) (lo' := 20) (pc' := 123) C FM_sy lmM_165 d_M_laysIntercept_120 0 jM_0 kM_0 cM0 [.int x1] [.long ((Int32.toInt64 x24) * (Int32.toInt64 x25))] rfl rfl (Nat.le_of_ble_eq_true rfl) ⟨rfl, rfl⟩ (fun x h => cM_sy _ g hi σ x1 x h) rfl (fun x26 _ => ?_)
      refine q_i2l (pc' := 124) C d_M_laysIntercept_123 rfl ?_
      refine q_aload_n (pc' := 125) C 5 d_M_laysIntercept_124 rfl rfl ?_
      refine q_iload (pc' := 127) C 0 d_M_laysIntercept_125 rfl rfl ?_
      refine q_callVr (fr' := 1) (lo' := 20) (pc' := 130) C FM_sx lmM_162 d_M_laysIntercept_127 0 jM_0 kM_0 cM0 [.int x23] [.long (Int32.toInt64 x26), .long ((Int32.toInt64 x24) * (Int32.toInt64 x25))] rfl rfl (Nat.le_of_ble_eq_true rfl) ⟨rfl, rfl⟩ (fun x h => cM_sx _ g hi σ x23 x h) rfl (fun x27 _ => ?_)
      refine q_i2l (pc' := 131) C d_M_laysIntercept_130 rfl ?_
      refine q_lmul (pc' := 132) C d_M_laysIntercept_131 rfl ?_
      refine q_lsub (pc' := 133) C d_M_laysIntercept_132 rfl ?_
      refine q_let (fun x28 e28 => ?_)
      refine q_topl e28 ?_
      refine q_lstore (pc' := 135) (lv' := [(13, .long x28), (12, .int x23), (10, .long x22), (8, .long x20), (6, .long (0 : Int64)), (5, .int x4), (0, .ref (g.1 0)), (1, .int p1), (2, .int p2), (3, .int x1), (4, .int x2)]) C d_M_laysIntercept_133 (by decide) rfl rfl ?_
      refine q_lload (pc' := 137) C 0 d_M_laysIntercept_135 rfl rfl ?_
      refine q_lconst (pc' := 138) C d_M_laysIntercept_137 kl_0 rfl ?_
      refine q_join (fun J30 : Int32 → Option (St) => ∀ (x29 : Int32), Rt z qM_laysIntercept wM g o_v 147 [(0, .ref (g.1 0)), (2, .int p2), (3, .int x1), (8, .long x20), (10, .long x22), (12, .int x23), (13, .long x28)] [.int x29] σ (J30 x29)) (fun x29 => ?_) (fun J30 hJ30 => ?_)
      · refine q_istore (pc' := 149) (lv' := [(5, .int x29), (0, .ref (g.1 0)), (2, .int p2), (3, .int x1), (8, .long x20), (10, .long x22), (12, .int x23), (13, .long x28)]) C d_M_laysIntercept_147 (by decide) rfl rfl ?_
        refine q_iload (pc' := 151) C 0 d_M_laysIntercept_149 rfl rfl ?_
        refine q_join (fun J32 : Int64 → Option (St) => ∀ (x31 : Int64), Rt z qM_laysIntercept wM g o_v 186 [(0, .ref (g.1 0)), (2, .int p2), (3, .int x1), (5, .int x29), (8, .long x20), (10, .long x22), (13, .long x28)] [.long x31] σ (J32 x31)) (fun x31 => ?_) (fun J32 hJ32 => ?_)
        · refine q_lstore (pc' := 188) (lv' := [(6, .long x31), (0, .ref (g.1 0)), (2, .int p2), (3, .int x1), (5, .int x29), (8, .long x20), (10, .long x22), (13, .long x28)]) C d_M_laysIntercept_186 (by decide) rfl rfl ?_
          refine q_iload (pc' := 190) C 4 d_M_laysIntercept_188 rfl rfl ?_
          refine q_join (fun J34 : Int64 → Option (St) => ∀ (x33 : Int64), Rt z qM_laysIntercept wM g o_v 225 [(0, .ref (g.1 0)), (2, .int p2), (3, .int x1), (6, .long x31)] [.long x33] σ (J34 x33)) (fun x33 => ?_) (fun J34 hJ34 => ?_)
          · refine q_lstore (pc' := 227) (lv' := [(15, .long x33), (0, .ref (g.1 0)), (2, .int p2), (3, .int x1), (6, .long x31)]) C d_M_laysIntercept_225 (by decide) rfl rfl ?_
            refine q_lload (pc' := 229) C 4 d_M_laysIntercept_227 rfl rfl ?_
            refine q_lconst (pc' := 230) C d_M_laysIntercept_229 kl_1 rfl ?_
            refine q_ldc2 (pc' := 233) C lLM_230 d_M_laysIntercept_230 rfl ?_
            refine q_callSr (fr' := 0) (lo' := 0) (pc' := 236) C FM_in lmM_232 d_M_laysIntercept_233 [.long x31, .long (1 : Int64), .long (999 : Int64)] [] rfl rfl (Nat.le_of_ble_eq_true rfl) ⟨rfl, rfl⟩ (fun x h => cM_in _ g hi σ x31 (1 : Int64) (999 : Int64) x h) rfl (fun x35 _ => ?_)
            refine q_join (fun J37 : Int32 → Option (St) => ∀ (x36 : Int32), Rt z qM_laysIntercept wM g o_v 251 [(0, .ref (g.1 0)), (2, .int p2), (3, .int x1), (6, .long x31)] [.int x36] σ (J37 x36)) (fun x36 => ?_) (fun J37 hJ37 => ?_)
            · refine q_istore (pc' := 253) (lv' := [(5, .int x36), (0, .ref (g.1 0)), (2, .int p2), (3, .int x1), (6, .long x31)]) C d_M_laysIntercept_251 (by decide) rfl rfl ?_
              exact Rt.sub [1, 2, 3, 0, 4] rfl (hJ8 x36 x31)
            refine q_join (fun J38 : Unit → Option (St) => ∀ (_ : Unit), Rt z qM_laysIntercept wM g o_v 250 [(0, .ref (g.1 0)), (2, .int p2), (3, .int x1), (6, .long x31)] [] σ (J38 ())) (fun _ => ?_) (fun J38 hJ38 => ?_)
            · refine q_iconst (pc' := 251) C d_M_laysIntercept_250 ki_0 rfl ?_
              exact Rt.sub [0, 1, 2, 3] rfl (hJ37 (0 : Int32))
            refine q_if_eq (tgt := 250) (pc' := 239) C d_M_laysIntercept_236 rfl rfl ?_ ?_
            · exact Rt.sub [1, 2, 3, 4] rfl (hJ38 ())
            · refine q_lload (pc' := 241) C 0 d_M_laysIntercept_239 rfl rfl ?_
              refine q_lconst (pc' := 242) C d_M_laysIntercept_241 kl_0 rfl ?_
              refine q_lcmp_lt (tgt := 250) (pc' := 246) C d_M_laysIntercept_242 d_M_laysIntercept_243 rfl rfl ?_ ?_
              · exact Rt.sub [1, 2, 3, 4] rfl (hJ38 ())
              · refine q_iconst (pc' := 247) C d_M_laysIntercept_246 ki_1 rfl ?_
                refine q_goto (tgt := 251) C d_M_laysIntercept_247 rfl ?_
                exact Rt.sub [1, 2, 3, 4] rfl (hJ37 (1 : Int32))
          refine q_if_eq (tgt := 222) (pc' := 193) C d_M_laysIntercept_190 rfl rfl ?_ ?_
          · refine q_ldc2 (pc' := 225) C lLM_228 d_M_laysIntercept_222 rfl ?_
            exact Rt.sub [1, 2, 3, 0] rfl (hJ34 (-1 : Int64))
          · refine q_lload (pc' := 195) C 6 d_M_laysIntercept_193 rfl rfl ?_
            refine q_aload_n (pc' := 196) C 1 d_M_laysIntercept_195 rfl rfl ?_
            refine q_iload_n (pc' := 197) C 3 d_M_laysIntercept_196 rfl rfl ?_
            refine q_callVr (fr' := 1) (lo' := 20) (pc' := 200) C FM_sx lmM_162 d_M_laysIntercept_197 0 jM_0 kM_0 cM0 [.int x1] [.long x22] rfl rfl (Nat.le_of_ble_eq_true rfl) ⟨rfl, rfl⟩ (fun x h => cM_sx _ g hi σ x1 x h) rfl (fun x39 _ => ?_)
            refine q_i2l (pc' := 201) C d_M_laysIntercept_200 rfl ?_
            refine q_lmul (pc' := 202) C d_M_laysIntercept_201 rfl ?_
            refine q_lload (pc' := 204) C 5 d_M_laysIntercept_202 rfl rfl ?_
            refine q_aload_n (pc' := 205) C 1 d_M_laysIntercept_204 rfl rfl ?_
            refine q_iload_n (pc' := 206) C 3 d_M_laysIntercept_205 rfl rfl ?_
            refine q_callVr (fr' := 1) (lo' := 20) (pc' := 209) C FM_sy lmM_165 d_M_laysIntercept_206 0 jM_0 kM_0 cM0 [.int x1] [.long x20, .long (x22 * (Int32.toInt64 x39))] rfl rfl (Nat.le_of_ble_eq_true rfl) ⟨rfl, rfl⟩ (fun x h => cM_sy _ g hi σ x1 x h) rfl (fun x40 _ => ?_)
            refine q_i2l (pc' := 210) C d_M_laysIntercept_209 rfl ?_
            refine q_lmul (pc' := 211) C d_M_laysIntercept_210 rfl ?_
            refine q_lsub (pc' := 212) C d_M_laysIntercept_211 rfl ?_
            refine q_ldc2 (pc' := 215) C lLM_160 d_M_laysIntercept_212 rfl ?_
            refine q_lmul (pc' := 216) C d_M_laysIntercept_215 rfl ?_
            refine q_lload (pc' := 218) C 7 d_M_laysIntercept_216 rfl rfl ?_
            refine q_guard (fun gx41 => ?_)
            refine q_ldiv (pc' := 219) C gx41 d_M_laysIntercept_218 rfl ?_
            refine q_goto (tgt := 225) C d_M_laysIntercept_219 rfl ?_
            exact Rt.sub [1, 2, 3, 0] rfl (hJ34 ((((x22 * (Int32.toInt64 x39)) - (x20 * (Int32.toInt64 x40))) * (1000 : Int64)) / x28))
        refine q_if_eq (tgt := 185) (pc' := 154) C d_M_laysIntercept_151 rfl rfl ?_ ?_
        · refine q_lconst (pc' := 186) C d_M_laysIntercept_185 kl_0 rfl ?_
          exact Rt.sub [1, 2, 3, 0, 4, 5, 7] rfl (hJ32 (0 : Int64))
        · refine q_lload (pc' := 156) C 4 d_M_laysIntercept_154 rfl rfl ?_
          refine q_aload_n (pc' := 157) C 1 d_M_laysIntercept_156 rfl rfl ?_
          refine q_iload (pc' := 159) C 6 d_M_laysIntercept_157 rfl rfl ?_
          refine q_callVr (fr' := 1) (lo' := 20) (pc' := 162) C FM_sy lmM_165 d_M_laysIntercept_159 0 jM_0 kM_0 cM0 [.int x23] [.long x20] rfl rfl (Nat.le_of_ble_eq_true rfl) ⟨rfl, rfl⟩ (fun x h => cM_sy _ g hi σ x23 x h) rfl (fun x42 _ => ?_)
          refine q_i2l (pc' := 163) C d_M_laysIntercept_162 rfl ?_
          refine q_lmul (pc' := 164) C d_M_laysIntercept_163 rfl ?_
          refine q_lload (pc' := 166) C 5 d_M_laysIntercept_164 rfl rfl ?_
          refine q_aload_n (pc' := 167) C 1 d_M_laysIntercept_166 rfl rfl ?_
          refine q_iload (pc' := 169) C 6 d_M_laysIntercept_167 rfl rfl ?_
          refine q_callVr (fr' := 1) (lo' := 20) (pc' := 172) C FM_sx lmM_162 d_M_laysIntercept_169 0 jM_0 kM_0 cM0 [.int x23] [.long x22, .long (x20 * (Int32.toInt64 x42))] rfl rfl (Nat.le_of_ble_eq_true rfl) ⟨rfl, rfl⟩ (fun x h => cM_sx _ g hi σ x23 x h) rfl (fun x43 _ => ?_)
          refine q_i2l (pc' := 173) C d_M_laysIntercept_172 rfl ?_
          refine q_lmul (pc' := 174) C d_M_laysIntercept_173 rfl ?_
          refine q_lsub (pc' := 175) C d_M_laysIntercept_174 rfl ?_
          refine q_ldc2 (pc' := 178) C lLM_160 d_M_laysIntercept_175 rfl ?_
          refine q_lmul (pc' := 179) C d_M_laysIntercept_178 rfl ?_
          refine q_lload (pc' := 181) C 7 d_M_laysIntercept_179 rfl rfl ?_
          refine q_guard (fun gx44 => ?_)
          refine q_ldiv (pc' := 182) C gx44 d_M_laysIntercept_181 rfl ?_
          refine q_goto (tgt := 186) C d_M_laysIntercept_182 rfl ?_
          exact Rt.sub [1, 2, 3, 0, 4, 5, 7] rfl (hJ32 ((((x20 * (Int32.toInt64 x42)) - (x22 * (Int32.toInt64 x43))) * (1000 : Int64)) / x28))
      refine q_lcmp_eq (tgt := 146) (pc' := 142) C d_M_laysIntercept_138 d_M_laysIntercept_139 rfl rfl ?_ ?_
      · refine q_iconst (pc' := 147) C d_M_laysIntercept_146 ki_0 rfl ?_
        exact Rt.sub [6, 8, 9, 3, 2, 1, 0] rfl (hJ30 (0 : Int32))
      · refine q_iconst (pc' := 143) C d_M_laysIntercept_142 ki_1 rfl ?_
        refine q_goto (tgt := 147) C d_M_laysIntercept_143 rfl ?_
        exact Rt.sub [6, 8, 9, 3, 2, 1, 0] rfl (hJ30 (1 : Int32))
  refine q_join (fun J45 : Unit → Option (St) => ∀ (_ : Unit), Rt z qM_laysIntercept wM g o_v 51 [(0, .ref (g.1 0)), (1, .int p1), (2, .int p2), (3, .int x1), (4, .int x2)] [] σ (J45 ())) (fun _ => ?_) (fun J45 hJ45 => ?_)
  · refine q_iconst (pc' := 52) C d_M_laysIntercept_51 ki_0 rfl ?_
    exact Rt.sub [0, 1, 2, 3, 4] rfl (hJ5 (0 : Int32))
  refine q_icmp_ge (tgt := 51) (pc' := 23) C d_M_laysIntercept_20 rfl rfl ?_ ?_
  · exact Rt.sub [2, 3, 4, 1, 0] rfl (hJ45 ())
  · refine q_aload_n (pc' := 24) C 2 d_M_laysIntercept_23 rfl rfl ?_
    refine q_iload_n (pc' := 25) C 3 d_M_laysIntercept_24 rfl rfl ?_
    refine q_iload (pc' := 27) C 0 d_M_laysIntercept_25 rfl rfl ?_
    refine q_iconst (pc' := 28) C d_M_laysIntercept_27 ki_0 rfl ?_
    refine q_callVr (fr' := 0) (lo' := 0) (pc' := 31) C FM_of lmM_168 d_M_laysIntercept_28 0 jM_0 kM_0 cM0 [.int p1, .int x2, .int (0 : Int32)] [] rfl rfl (Nat.le_of_ble_eq_true rfl) ⟨rfl, rfl⟩ (fun x h => cM_of _ g hi σ p1 x2 (0 : Int32) x h) rfl (fun x46 _ => ?_)
    refine q_iconst (pc' := 32) C d_M_laysIntercept_31 ki_3 rfl ?_
    refine q_icmp_ne (tgt := 51) (pc' := 35) C d_M_laysIntercept_32 rfl rfl ?_ ?_
    · exact Rt.sub [2, 3, 4, 1, 0] rfl (hJ45 ())
    · refine q_aload_n (pc' := 36) C 2 d_M_laysIntercept_35 rfl rfl ?_
      refine q_iload_n (pc' := 37) C 3 d_M_laysIntercept_36 rfl rfl ?_
      refine q_iload (pc' := 39) C 0 d_M_laysIntercept_37 rfl rfl ?_
      refine q_bipush (pc' := 41) C d_M_laysIntercept_39 kb_13 rfl ?_
      refine q_callVr (fr' := 0) (lo' := 0) (pc' := 44) C FM_of lmM_168 d_M_laysIntercept_41 0 jM_0 kM_0 cM0 [.int p1, .int x2, .int (13 : Int32)] [] rfl rfl (Nat.le_of_ble_eq_true rfl) ⟨rfl, rfl⟩ (fun x h => cM_of _ g hi σ p1 x2 (13 : Int32) x h) rfl (fun x47 _ => ?_)
      refine q_if_ne (tgt := 51) (pc' := 47) C d_M_laysIntercept_44 rfl rfl ?_ ?_
      · exact Rt.sub [2, 3, 4, 1, 0] rfl (hJ45 ())
      · refine q_iconst (pc' := 48) C d_M_laysIntercept_47 ki_1 rfl ?_
        refine q_goto (tgt := 52) C d_M_laysIntercept_48 rfl ?_
        exact Rt.sub [2, 3, 4, 1, 0] rfl (hJ5 (1 : Int32))
theorem d_M_climbLength_0 : decode qM_climbLength.1 0 = .ok (.aload_n 0, 1) := by decide +kernel
theorem d_M_climbLength_1 : decode qM_climbLength.1 1 = .ok (.iload_n 1, 1) := by decide +kernel
theorem d_M_climbLength_2 : decode qM_climbLength.1 2 = .ok (.iload_n 2, 1) := by decide +kernel
theorem d_M_climbLength_3 : decode qM_climbLength.1 3 = .ok (.iconst 3, 1) := by decide +kernel
theorem d_M_climbLength_4 : decode qM_climbLength.1 4 = .ok (.invokevirtual 168, 3) := by decide +kernel
theorem d_M_climbLength_7 : decode qM_climbLength.1 7 = .ok (.aload_n 0, 1) := by decide +kernel
theorem d_M_climbLength_8 : decode qM_climbLength.1 8 = .ok (.getfield 242, 3) := by decide +kernel
theorem d_M_climbLength_11 : decode qM_climbLength.1 11 = .ok (.isub, 1) := by decide +kernel
theorem d_M_climbLength_12 : decode qM_climbLength.1 12 = .ok (.i2l, 1) := by decide +kernel
theorem d_M_climbLength_13 : decode qM_climbLength.1 13 = .ok (.ldc2_w 160, 3) := by decide +kernel
theorem d_M_climbLength_16 : decode qM_climbLength.1 16 = .ok (.lmul, 1) := by decide +kernel
theorem d_M_climbLength_17 : decode qM_climbLength.1 17 = .ok (.aload_n 0, 1) := by decide +kernel
theorem d_M_climbLength_18 : decode qM_climbLength.1 18 = .ok (.getfield 30, 3) := by decide +kernel
theorem d_M_climbLength_21 : decode qM_climbLength.1 21 = .ok (.i2l, 1) := by decide +kernel
theorem d_M_climbLength_22 : decode qM_climbLength.1 22 = .ok (.ldiv, 1) := by decide +kernel
theorem d_M_climbLength_23 : decode qM_climbLength.1 23 = .ok (.lstore_n 3, 1) := by decide +kernel
theorem d_M_climbLength_24 : decode qM_climbLength.1 24 = .ok (.lload_n 3, 1) := by decide +kernel
theorem d_M_climbLength_25 : decode qM_climbLength.1 25 = .ok (.ldc2_w 245, 3) := by decide +kernel
theorem d_M_climbLength_28 : decode qM_climbLength.1 28 = .ok (.lcmp, 1) := by decide +kernel
theorem d_M_climbLength_29 : decode qM_climbLength.1 29 = .ok (.ifCond .ge 8, 3) := by decide +kernel
theorem d_M_climbLength_32 : decode qM_climbLength.1 32 = .ok (.bipush 10, 2) := by decide +kernel
theorem d_M_climbLength_34 : decode qM_climbLength.1 34 = .ok (.goto 5, 3) := by decide +kernel
theorem d_M_climbLength_37 : decode qM_climbLength.1 37 = .ok (.lload_n 3, 1) := by decide +kernel
theorem d_M_climbLength_38 : decode qM_climbLength.1 38 = .ok (.l2i, 1) := by decide +kernel
theorem d_M_climbLength_39 : decode qM_climbLength.1 39 = .ok (.ireturn, 1) := by decide +kernel
set_option maxRecDepth 100000 in
def m_climbLength (σ : St) (p1 : Int32) (p2 : Int32) : Option (Int32) :=
  Option.bind (m_of σ p1 p2 (3 : Int32)) fun x1 =>
  Gd (¬ ((Int32.toInt64 (σ 0 12)) : Int64) = 0) <|
  Lt ((((Int32.toInt64 (x1 - (σ 0 41))) * (1000 : Int64)) / (Int32.toInt64 (σ 0 12))) : Int64) fun x3 =>
  Jn (fun (x4 : Int32) =>
  some x4
  ) fun J5 =>
  if ((10 : Int64) : Int64) ≤ x3 then (
  J5 (Int64.toInt32 x3)
  ) else (
  J5 (10 : Int32)
  )
set_option maxHeartbeats 4000000 in
set_option maxRecDepth 100000 in
theorem cM_climbLength (l : Launch) (g : Ge) (hi : injB wM.2 g) (σ : St) (p1 : Int32) (p2 : Int32) (x : Int32) (h : m_climbLength σ p1 p2 = some x) : Ct l wM g yM_climbLength qM_climbLength 1 23 [.ref (g.1 0), .int p1, .int p2] σ (some (.int x), σ) := by
  refine Ct.of (out := (o_r σ)) FM_climbLength rfl hi rfl h (fun z hz C => ?_)
  clear h
  subst hz
  unfold m_climbLength
  show Rt z qM_climbLength wM g (o_r σ) 0 [(0, .ref (g.1 0)), (1, .int p1), (2, .int p2)] [] σ _
  refine q_aload_n (pc' := 1) C 0 d_M_climbLength_0 rfl rfl ?_
  refine q_iload_n (pc' := 2) C 1 d_M_climbLength_1 rfl rfl ?_
  refine q_iload_n (pc' := 3) C 2 d_M_climbLength_2 rfl rfl ?_
  refine q_iconst (pc' := 4) C d_M_climbLength_3 ki_3 rfl ?_
  refine q_callVr (fr' := 0) (lo' := 0) (pc' := 7) C FM_of lmM_168 d_M_climbLength_4 0 jM_0 kM_0 cM0 [.int p1, .int p2, .int (3 : Int32)] [] rfl rfl (Nat.le_of_ble_eq_true rfl) ⟨rfl, rfl⟩ (fun x h => cM_of _ g hi σ p1 p2 (3 : Int32) x h) rfl (fun x1 _ => ?_)
  refine q_aload_n (pc' := 8) C 0 d_M_climbLength_7 rfl rfl ?_
  refine gM_242 (pc' := 11) C d_M_climbLength_8 rfl rfl ?_
  refine q_isub (pc' := 12) C d_M_climbLength_11 rfl ?_
  refine q_i2l (pc' := 13) C d_M_climbLength_12 rfl ?_
  refine q_ldc2 (pc' := 16) C lLM_160 d_M_climbLength_13 rfl ?_
  refine q_lmul (pc' := 17) C d_M_climbLength_16 rfl ?_
  refine q_aload_n (pc' := 18) C 0 d_M_climbLength_17 rfl rfl ?_
  refine gM_30 (pc' := 21) C d_M_climbLength_18 rfl rfl ?_
  refine q_i2l (pc' := 22) C d_M_climbLength_21 rfl ?_
  refine q_guard (fun gx2 => ?_)
  refine q_ldiv (pc' := 23) C gx2 d_M_climbLength_22 rfl ?_
  refine q_let (fun x3 e3 => ?_)
  refine q_topl e3 ?_
  refine q_lstore_n (pc' := 24) (lv' := [(3, .long x3), (0, .ref (g.1 0)), (1, .int p1), (2, .int p2)]) C d_M_climbLength_23 (by decide) rfl rfl ?_
  refine q_lload_n (pc' := 25) C 0 d_M_climbLength_24 rfl rfl ?_
  refine q_ldc2 (pc' := 28) C lLM_245 d_M_climbLength_25 rfl ?_
  refine q_join (fun J5 : Int32 → Option (Int32) => ∀ (x4 : Int32), Rt z qM_climbLength wM g (o_r σ) 39 [] [.int x4] σ (J5 x4)) (fun x4 => ?_) (fun J5 hJ5 => ?_)
  · exact q_iret C rfl d_M_climbLength_39 rfl
  refine q_lcmp_ge (tgt := 37) (pc' := 32) C d_M_climbLength_28 d_M_climbLength_29 rfl rfl ?_ ?_
  · refine q_lload_n (pc' := 38) C 0 d_M_climbLength_37 rfl rfl ?_
    refine q_l2i (pc' := 39) C d_M_climbLength_38 rfl ?_
    exact Rt.sub [] rfl (hJ5 (Int64.toInt32 x3))
  · refine q_bipush (pc' := 34) C d_M_climbLength_32 kb_10 rfl ?_
    refine q_goto (tgt := 39) C d_M_climbLength_34 rfl ?_
    exact Rt.sub [] rfl (hJ5 (10 : Int32))
theorem d_M_laysLeg_0 : decode qM_laysLeg.1 0 = .ok (.aload_n 0, 1) := by decide +kernel
theorem d_M_laysLeg_1 : decode qM_laysLeg.1 1 = .ok (.iload_n 1, 1) := by decide +kernel
theorem d_M_laysLeg_2 : decode qM_laysLeg.1 2 = .ok (.iload_n 2, 1) := by decide +kernel
theorem d_M_laysLeg_3 : decode qM_laysLeg.1 3 = .ok (.iconst 0, 1) := by decide +kernel
theorem d_M_laysLeg_4 : decode qM_laysLeg.1 4 = .ok (.invokevirtual 168, 3) := by decide +kernel
theorem d_M_laysLeg_7 : decode qM_laysLeg.1 7 = .ok (.istore_n 3, 1) := by decide +kernel
theorem d_M_laysLeg_8 : decode qM_laysLeg.1 8 = .ok (.aload_n 0, 1) := by decide +kernel
theorem d_M_laysLeg_9 : decode qM_laysLeg.1 9 = .ok (.iload_n 1, 1) := by decide +kernel
theorem d_M_laysLeg_10 : decode qM_laysLeg.1 10 = .ok (.iload_n 2, 1) := by decide +kernel
theorem d_M_laysLeg_11 : decode qM_laysLeg.1 11 = .ok (.iconst 2, 1) := by decide +kernel
theorem d_M_laysLeg_12 : decode qM_laysLeg.1 12 = .ok (.invokevirtual 168, 3) := by decide +kernel
theorem d_M_laysLeg_15 : decode qM_laysLeg.1 15 = .ok (.istore 4, 2) := by decide +kernel
theorem d_M_laysLeg_17 : decode qM_laysLeg.1 17 = .ok (.aload_n 0, 1) := by decide +kernel
theorem d_M_laysLeg_18 : decode qM_laysLeg.1 18 = .ok (.aload_n 0, 1) := by decide +kernel
theorem d_M_laysLeg_19 : decode qM_laysLeg.1 19 = .ok (.getfield 84, 3) := by decide +kernel
theorem d_M_laysLeg_22 : decode qM_laysLeg.1 22 = .ok (.iload_n 2, 1) := by decide +kernel
theorem d_M_laysLeg_23 : decode qM_laysLeg.1 23 = .ok (.iconst 1, 1) := by decide +kernel
theorem d_M_laysLeg_24 : decode qM_laysLeg.1 24 = .ok (.isub, 1) := by decide +kernel
theorem d_M_laysLeg_25 : decode qM_laysLeg.1 25 = .ok (.iaload, 1) := by decide +kernel
theorem d_M_laysLeg_26 : decode qM_laysLeg.1 26 = .ok (.putfield 191, 3) := by decide +kernel
theorem d_M_laysLeg_29 : decode qM_laysLeg.1 29 = .ok (.aload_n 0, 1) := by decide +kernel
theorem d_M_laysLeg_30 : decode qM_laysLeg.1 30 = .ok (.aload_n 0, 1) := by decide +kernel
theorem d_M_laysLeg_31 : decode qM_laysLeg.1 31 = .ok (.getfield 87, 3) := by decide +kernel
theorem d_M_laysLeg_34 : decode qM_laysLeg.1 34 = .ok (.iload_n 2, 1) := by decide +kernel
theorem d_M_laysLeg_35 : decode qM_laysLeg.1 35 = .ok (.iconst 1, 1) := by decide +kernel
theorem d_M_laysLeg_36 : decode qM_laysLeg.1 36 = .ok (.isub, 1) := by decide +kernel
theorem d_M_laysLeg_37 : decode qM_laysLeg.1 37 = .ok (.iaload, 1) := by decide +kernel
theorem d_M_laysLeg_38 : decode qM_laysLeg.1 38 = .ok (.putfield 194, 3) := by decide +kernel
theorem d_M_laysLeg_41 : decode qM_laysLeg.1 41 = .ok (.iload_n 3, 1) := by decide +kernel
theorem d_M_laysLeg_42 : decode qM_laysLeg.1 42 = .ok (.iconst 5, 1) := by decide +kernel
theorem d_M_laysLeg_43 : decode qM_laysLeg.1 43 = .ok (.if_icmp .ne 12, 3) := by decide +kernel
theorem d_M_laysLeg_46 : decode qM_laysLeg.1 46 = .ok (.aload_n 0, 1) := by decide +kernel
theorem d_M_laysLeg_47 : decode qM_laysLeg.1 47 = .ok (.iload_n 1, 1) := by decide +kernel
theorem d_M_laysLeg_48 : decode qM_laysLeg.1 48 = .ok (.iload_n 2, 1) := by decide +kernel
theorem d_M_laysLeg_49 : decode qM_laysLeg.1 49 = .ok (.invokevirtual 247, 3) := by decide +kernel
theorem d_M_laysLeg_52 : decode qM_laysLeg.1 52 = .ok (.goto 135, 3) := by decide +kernel
theorem d_M_laysLeg_55 : decode qM_laysLeg.1 55 = .ok (.iload_n 3, 1) := by decide +kernel
theorem d_M_laysLeg_56 : decode qM_laysLeg.1 56 = .ok (.bipush 6, 2) := by decide +kernel
theorem d_M_laysLeg_58 : decode qM_laysLeg.1 58 = .ok (.if_icmp .ne 15, 3) := by decide +kernel
theorem d_M_laysLeg_61 : decode qM_laysLeg.1 61 = .ok (.aload_n 0, 1) := by decide +kernel
theorem d_M_laysLeg_62 : decode qM_laysLeg.1 62 = .ok (.iload_n 2, 1) := by decide +kernel
theorem d_M_laysLeg_63 : decode qM_laysLeg.1 63 = .ok (.bipush 100, 2) := by decide +kernel
theorem d_M_laysLeg_65 : decode qM_laysLeg.1 65 = .ok (.iload 4, 2) := by decide +kernel
theorem d_M_laysLeg_67 : decode qM_laysLeg.1 67 = .ok (.invokevirtual 239, 3) := by decide +kernel
theorem d_M_laysLeg_70 : decode qM_laysLeg.1 70 = .ok (.goto 117, 3) := by decide +kernel
theorem d_M_laysLeg_73 : decode qM_laysLeg.1 73 = .ok (.iload_n 3, 1) := by decide +kernel
theorem d_M_laysLeg_74 : decode qM_laysLeg.1 74 = .ok (.iconst 4, 1) := by decide +kernel
theorem d_M_laysLeg_75 : decode qM_laysLeg.1 75 = .ok (.if_icmp .ne 60, 3) := by decide +kernel
theorem d_M_laysLeg_78 : decode qM_laysLeg.1 78 = .ok (.aload_n 0, 1) := by decide +kernel
theorem d_M_laysLeg_79 : decode qM_laysLeg.1 79 = .ok (.iload_n 1, 1) := by decide +kernel
theorem d_M_laysLeg_80 : decode qM_laysLeg.1 80 = .ok (.iload_n 2, 1) := by decide +kernel
theorem d_M_laysLeg_81 : decode qM_laysLeg.1 81 = .ok (.invokevirtual 251, 3) := by decide +kernel
theorem d_M_laysLeg_84 : decode qM_laysLeg.1 84 = .ok (.istore 5, 2) := by decide +kernel
theorem d_M_laysLeg_86 : decode qM_laysLeg.1 86 = .ok (.aload_n 0, 1) := by decide +kernel
theorem d_M_laysLeg_87 : decode qM_laysLeg.1 87 = .ok (.iload_n 2, 1) := by decide +kernel
theorem d_M_laysLeg_88 : decode qM_laysLeg.1 88 = .ok (.aload_n 0, 1) := by decide +kernel
theorem d_M_laysLeg_89 : decode qM_laysLeg.1 89 = .ok (.aload_n 0, 1) := by decide +kernel
theorem d_M_laysLeg_90 : decode qM_laysLeg.1 90 = .ok (.getfield 191, 3) := by decide +kernel
theorem d_M_laysLeg_93 : decode qM_laysLeg.1 93 = .ok (.iload 5, 2) := by decide +kernel
theorem d_M_laysLeg_95 : decode qM_laysLeg.1 95 = .ok (.aload_n 0, 1) := by decide +kernel
theorem d_M_laysLeg_96 : decode qM_laysLeg.1 96 = .ok (.iload 4, 2) := by decide +kernel
theorem d_M_laysLeg_98 : decode qM_laysLeg.1 98 = .ok (.invokevirtual 162, 3) := by decide +kernel
theorem d_M_laysLeg_101 : decode qM_laysLeg.1 101 = .ok (.invokevirtual 208, 3) := by decide +kernel
theorem d_M_laysLeg_104 : decode qM_laysLeg.1 104 = .ok (.aload_n 0, 1) := by decide +kernel
theorem d_M_laysLeg_105 : decode qM_laysLeg.1 105 = .ok (.aload_n 0, 1) := by decide +kernel
theorem d_M_laysLeg_106 : decode qM_laysLeg.1 106 = .ok (.getfield 194, 3) := by decide +kernel
theorem d_M_laysLeg_109 : decode qM_laysLeg.1 109 = .ok (.iload 5, 2) := by decide +kernel
theorem d_M_laysLeg_111 : decode qM_laysLeg.1 111 = .ok (.aload_n 0, 1) := by decide +kernel
theorem d_M_laysLeg_112 : decode qM_laysLeg.1 112 = .ok (.iload 4, 2) := by decide +kernel
theorem d_M_laysLeg_114 : decode qM_laysLeg.1 114 = .ok (.invokevirtual 165, 3) := by decide +kernel
theorem d_M_laysLeg_117 : decode qM_laysLeg.1 117 = .ok (.invokevirtual 208, 3) := by decide +kernel
theorem d_M_laysLeg_120 : decode qM_laysLeg.1 120 = .ok (.invokevirtual 236, 3) := by decide +kernel
theorem d_M_laysLeg_123 : decode qM_laysLeg.1 123 = .ok (.aload_n 0, 1) := by decide +kernel
theorem d_M_laysLeg_124 : decode qM_laysLeg.1 124 = .ok (.iload_n 2, 1) := by decide +kernel
theorem d_M_laysLeg_125 : decode qM_laysLeg.1 125 = .ok (.iload 5, 2) := by decide +kernel
theorem d_M_laysLeg_127 : decode qM_laysLeg.1 127 = .ok (.iload 4, 2) := by decide +kernel
theorem d_M_laysLeg_129 : decode qM_laysLeg.1 129 = .ok (.invokevirtual 239, 3) := by decide +kernel
theorem d_M_laysLeg_132 : decode qM_laysLeg.1 132 = .ok (.goto 55, 3) := by decide +kernel
theorem d_M_laysLeg_135 : decode qM_laysLeg.1 135 = .ok (.aload_n 0, 1) := by decide +kernel
theorem d_M_laysLeg_136 : decode qM_laysLeg.1 136 = .ok (.iload_n 1, 1) := by decide +kernel
theorem d_M_laysLeg_137 : decode qM_laysLeg.1 137 = .ok (.iload_n 2, 1) := by decide +kernel
theorem d_M_laysLeg_138 : decode qM_laysLeg.1 138 = .ok (.invokevirtual 221, 3) := by decide +kernel
theorem d_M_laysLeg_141 : decode qM_laysLeg.1 141 = .ok (.istore 5, 2) := by decide +kernel
theorem d_M_laysLeg_143 : decode qM_laysLeg.1 143 = .ok (.aload_n 0, 1) := by decide +kernel
theorem d_M_laysLeg_144 : decode qM_laysLeg.1 144 = .ok (.iload_n 1, 1) := by decide +kernel
theorem d_M_laysLeg_145 : decode qM_laysLeg.1 145 = .ok (.iload_n 2, 1) := by decide +kernel
theorem d_M_laysLeg_146 : decode qM_laysLeg.1 146 = .ok (.invokevirtual 225, 3) := by decide +kernel
theorem d_M_laysLeg_149 : decode qM_laysLeg.1 149 = .ok (.istore 6, 2) := by decide +kernel
theorem d_M_laysLeg_151 : decode qM_laysLeg.1 151 = .ok (.aload_n 0, 1) := by decide +kernel
theorem d_M_laysLeg_152 : decode qM_laysLeg.1 152 = .ok (.iload_n 2, 1) := by decide +kernel
theorem d_M_laysLeg_153 : decode qM_laysLeg.1 153 = .ok (.iload 5, 2) := by decide +kernel
theorem d_M_laysLeg_155 : decode qM_laysLeg.1 155 = .ok (.iload 6, 2) := by decide +kernel
theorem d_M_laysLeg_157 : decode qM_laysLeg.1 157 = .ok (.invokevirtual 236, 3) := by decide +kernel
theorem d_M_laysLeg_160 : decode qM_laysLeg.1 160 = .ok (.iload_n 3, 1) := by decide +kernel
theorem d_M_laysLeg_161 : decode qM_laysLeg.1 161 = .ok (.iconst 3, 1) := by decide +kernel
theorem d_M_laysLeg_162 : decode qM_laysLeg.1 162 = .ok (.if_icmp .ne 16, 3) := by decide +kernel
theorem d_M_laysLeg_165 : decode qM_laysLeg.1 165 = .ok (.aload_n 0, 1) := by decide +kernel
theorem d_M_laysLeg_166 : decode qM_laysLeg.1 166 = .ok (.iload_n 1, 1) := by decide +kernel
theorem d_M_laysLeg_167 : decode qM_laysLeg.1 167 = .ok (.iload_n 2, 1) := by decide +kernel
theorem d_M_laysLeg_168 : decode qM_laysLeg.1 168 = .ok (.iload 5, 2) := by decide +kernel
theorem d_M_laysLeg_170 : decode qM_laysLeg.1 170 = .ok (.iload 6, 2) := by decide +kernel
theorem d_M_laysLeg_172 : decode qM_laysLeg.1 172 = .ok (.invokevirtual 254, 3) := by decide +kernel
theorem d_M_laysLeg_175 : decode qM_laysLeg.1 175 = .ok (.goto 12, 3) := by decide +kernel
theorem d_M_laysLeg_178 : decode qM_laysLeg.1 178 = .ok (.aload_n 0, 1) := by decide +kernel
theorem d_M_laysLeg_179 : decode qM_laysLeg.1 179 = .ok (.iload_n 2, 1) := by decide +kernel
theorem d_M_laysLeg_180 : decode qM_laysLeg.1 180 = .ok (.iload 5, 2) := by decide +kernel
theorem d_M_laysLeg_182 : decode qM_laysLeg.1 182 = .ok (.iload 6, 2) := by decide +kernel
theorem d_M_laysLeg_184 : decode qM_laysLeg.1 184 = .ok (.invokevirtual 214, 3) := by decide +kernel
theorem d_M_laysLeg_187 : decode qM_laysLeg.1 187 = .ok (.return_, 1) := by decide +kernel
set_option maxRecDepth 100000 in
def m_laysLeg (σ : St) (p1 : Int32) (p2 : Int32) : Option (St) :=
  Option.bind (m_of σ p1 p2 (0 : Int32)) fun x1 =>
  Option.bind (m_of σ p1 p2 (2 : Int32)) fun x2 =>
  Gd (Ix (p2 - (1 : Int32)) 21) <|
  Lt (s2 σ 0 42 (σ 20 (Int32.toNatClampNeg (p2 - (1 : Int32))))) fun σ3 =>
  Gd (Ix (p2 - (1 : Int32)) 21) <|
  Lt (s2 σ3 0 43 (σ3 21 (Int32.toNatClampNeg (p2 - (1 : Int32))))) fun σ4 =>
  Jn (fun (σ5 : St) =>
  some σ5
  ) fun J6 =>
  if (x1 : Int32) = (5 : Int32) then (
  Option.bind (m_laysIntercept σ4 p1 p2) fun x20 =>
  J6 x20
  ) else (
  if (x1 : Int32) = (6 : Int32) then (
  Option.bind (m_onCourse σ4 p2 (100 : Int32) x2) fun x19 =>
  J6 x19
  ) else (
  if (x1 : Int32) = (4 : Int32) then (
  Option.bind (m_climbLength σ4 p1 p2) fun x12 =>
  Option.bind (m_sx σ4 x2) fun x13 =>
  Option.bind (m_ahead (σ4 0 42) x12 x13) fun x14 =>
  Option.bind (m_sy σ4 x2) fun x15 =>
  Option.bind (m_ahead (σ4 0 43) x12 x15) fun x16 =>
  Option.bind (m_ends σ4 p2 x14 x16) fun x17 =>
  Option.bind (m_onCourse x17 p2 x12 x2) fun x18 =>
  J6 x18
  ) else (
  Option.bind (m_pointX σ4 p1 p2) fun x7 =>
  Option.bind (m_pointY σ4 p1 p2) fun x8 =>
  Option.bind (m_ends σ4 p2 x7 x8) fun x9 =>
  if (x1 : Int32) = (3 : Int32) then (
  Option.bind (m_laysCourseToFix x9 p1 p2 x7 x8) fun x11 =>
  J6 x11
  ) else (
  Option.bind (m_straightTo x9 p2 x7 x8) fun x10 =>
  J6 x10
  )
  )
  )
  )
set_option maxHeartbeats 4000000 in
set_option maxRecDepth 100000 in
theorem cM_laysLeg (l : Launch) (g : Ge) (hi : injB wM.2 g) (σ : St) (p1 : Int32) (p2 : Int32) (x : St) (h : m_laysLeg σ p1 p2 = some x) : Ct l wM g yM_laysLeg qM_laysLeg 5 126 [.ref (g.1 0), .int p1, .int p2] σ (none, x) := by
  refine Ct.of (out := o_v) FM_laysLeg rfl hi rfl h (fun z hz C => ?_)
  clear h
  subst hz
  unfold m_laysLeg
  show Rt z qM_laysLeg wM g o_v 0 [(0, .ref (g.1 0)), (1, .int p1), (2, .int p2)] [] σ _
  refine q_aload_n (pc' := 1) C 0 d_M_laysLeg_0 rfl rfl ?_
  refine q_iload_n (pc' := 2) C 1 d_M_laysLeg_1 rfl rfl ?_
  refine q_iload_n (pc' := 3) C 2 d_M_laysLeg_2 rfl rfl ?_
  refine q_iconst (pc' := 4) C d_M_laysLeg_3 ki_0 rfl ?_
  refine q_callVr (fr' := 0) (lo' := 0) (pc' := 7) C FM_of lmM_168 d_M_laysLeg_4 0 jM_0 kM_0 cM0 [.int p1, .int p2, .int (0 : Int32)] [] rfl rfl (Nat.le_of_ble_eq_true rfl) ⟨rfl, rfl⟩ (fun x h => cM_of _ g hi σ p1 p2 (0 : Int32) x h) rfl (fun x1 _ => ?_)
  refine q_istore_n (pc' := 8) (lv' := [(3, .int x1), (0, .ref (g.1 0)), (1, .int p1), (2, .int p2)]) C d_M_laysLeg_7 (by decide) rfl rfl ?_
  refine q_aload_n (pc' := 9) C 1 d_M_laysLeg_8 rfl rfl ?_
  refine q_iload_n (pc' := 10) C 2 d_M_laysLeg_9 rfl rfl ?_
  refine q_iload_n (pc' := 11) C 3 d_M_laysLeg_10 rfl rfl ?_
  refine q_iconst (pc' := 12) C d_M_laysLeg_11 ki_2 rfl ?_
  refine q_callVr (fr' := 0) (lo' := 0) (pc' := 15) C FM_of lmM_168 d_M_laysLeg_12 0 jM_0 kM_0 cM0 [.int p1, .int p2, .int (2 : Int32)] [] rfl rfl (Nat.le_of_ble_eq_true rfl) ⟨rfl, rfl⟩ (fun x h => cM_of _ g hi σ p1 p2 (2 : Int32) x h) rfl (fun x2 _ => ?_)
  refine q_istore (pc' := 17) (lv' := [(4, .int x2), (3, .int x1), (0, .ref (g.1 0)), (1, .int p1), (2, .int p2)]) C d_M_laysLeg_15 (by decide) rfl rfl ?_
  refine q_aload_n (pc' := 18) C 2 d_M_laysLeg_17 rfl rfl ?_
  refine q_aload_n (pc' := 19) C 2 d_M_laysLeg_18 rfl rfl ?_
  refine gM_84 (pc' := 22) C d_M_laysLeg_19 rfl rfl ?_
  refine q_iload_n (pc' := 23) C 4 d_M_laysLeg_22 rfl rfl ?_
  refine q_iconst (pc' := 24) C d_M_laysLeg_23 ki_1 rfl ?_
  refine q_isub (pc' := 25) C d_M_laysLeg_24 rfl ?_
  refine q_iald (pc' := 26) C 20 jM_20 kM_20 d_M_laysLeg_25 rfl ?_
  refine pM_191 (pc' := 29) C d_M_laysLeg_26 rfl rfl ?_
  refine q_let (fun σ3 e3 => ?_)
  refine q_state e3 ?_
  refine q_aload_n (pc' := 30) C 2 d_M_laysLeg_29 rfl rfl ?_
  refine q_aload_n (pc' := 31) C 2 d_M_laysLeg_30 rfl rfl ?_
  refine gM_87 (pc' := 34) C d_M_laysLeg_31 rfl rfl ?_
  refine q_iload_n (pc' := 35) C 4 d_M_laysLeg_34 rfl rfl ?_
  refine q_iconst (pc' := 36) C d_M_laysLeg_35 ki_1 rfl ?_
  refine q_isub (pc' := 37) C d_M_laysLeg_36 rfl ?_
  refine q_iald (pc' := 38) C 21 jM_21 kM_21 d_M_laysLeg_37 rfl ?_
  refine pM_194 (pc' := 41) C d_M_laysLeg_38 rfl rfl ?_
  refine q_let (fun σ4 e4 => ?_)
  refine q_state e4 ?_
  refine q_iload_n (pc' := 42) C 1 d_M_laysLeg_41 rfl rfl ?_
  refine q_iconst (pc' := 43) C d_M_laysLeg_42 ki_5 rfl ?_
  refine q_join (fun J6 : St → Option (St) => ∀ (σ5 : St), Rt z qM_laysLeg wM g o_v 187 [] [] σ5 (J6 σ5)) (fun σ5 => ?_) (fun J6 hJ6 => ?_)
  · exact q_vret C rfl d_M_laysLeg_187 rfl
  refine q_icmp_ne (tgt := 55) (pc' := 46) C d_M_laysLeg_43 rfl rfl ?_ ?_
  · refine q_iload_n (pc' := 56) C 1 d_M_laysLeg_55 rfl rfl ?_
    refine q_bipush (pc' := 58) C d_M_laysLeg_56 kb_6 rfl ?_
    refine q_icmp_ne (tgt := 73) (pc' := 61) C d_M_laysLeg_58 rfl rfl ?_ ?_
    · refine q_iload_n (pc' := 74) C 1 d_M_laysLeg_73 rfl rfl ?_
      refine q_iconst (pc' := 75) C d_M_laysLeg_74 ki_4 rfl ?_
      refine q_icmp_ne (tgt := 135) (pc' := 78) C d_M_laysLeg_75 rfl rfl ?_ ?_
      · refine q_aload_n (pc' := 136) C 2 d_M_laysLeg_135 rfl rfl ?_
        refine q_iload_n (pc' := 137) C 3 d_M_laysLeg_136 rfl rfl ?_
        refine q_iload_n (pc' := 138) C 4 d_M_laysLeg_137 rfl rfl ?_
        refine q_callVr (fr' := 1) (lo' := 23) (pc' := 141) C FM_pointX lmM_221 d_M_laysLeg_138 0 jM_0 kM_0 cM0 [.int p1, .int p2] [] rfl rfl (Nat.le_of_ble_eq_true rfl) ⟨rfl, rfl⟩ (fun x h => cM_pointX _ g hi σ4 p1 p2 x h) rfl (fun x7 _ => ?_)
        refine q_istore (pc' := 143) (lv' := [(5, .int x7), (4, .int x2), (3, .int x1), (0, .ref (g.1 0)), (1, .int p1), (2, .int p2)]) C d_M_laysLeg_141 (by decide) rfl rfl ?_
        refine q_aload_n (pc' := 144) C 3 d_M_laysLeg_143 rfl rfl ?_
        refine q_iload_n (pc' := 145) C 4 d_M_laysLeg_144 rfl rfl ?_
        refine q_iload_n (pc' := 146) C 5 d_M_laysLeg_145 rfl rfl ?_
        refine q_callVr (fr' := 1) (lo' := 23) (pc' := 149) C FM_pointY lmM_225 d_M_laysLeg_146 0 jM_0 kM_0 cM0 [.int p1, .int p2] [] rfl rfl (Nat.le_of_ble_eq_true rfl) ⟨rfl, rfl⟩ (fun x h => cM_pointY _ g hi σ4 p1 p2 x h) rfl (fun x8 _ => ?_)
        refine q_istore (pc' := 151) (lv' := [(6, .int x8), (5, .int x7), (4, .int x2), (3, .int x1), (0, .ref (g.1 0)), (1, .int p1), (2, .int p2)]) C d_M_laysLeg_149 (by decide) rfl rfl ?_
        refine q_aload_n (pc' := 152) C 4 d_M_laysLeg_151 rfl rfl ?_
        refine q_iload_n (pc' := 153) C 6 d_M_laysLeg_152 rfl rfl ?_
        refine q_iload (pc' := 155) C 1 d_M_laysLeg_153 rfl rfl ?_
        refine q_iload (pc' := 157) C 0 d_M_laysLeg_155 rfl rfl ?_
        refine q_callVv (fr' := 0) (lo' := 0) (pc' := 160) C FM_ends lmM_236 d_M_laysLeg_157 0 jM_0 kM_0 cM0 [.int p2, .int x7, .int x8] [] rfl rfl (Nat.le_of_ble_eq_true rfl) ⟨rfl, rfl⟩ (fun x h => cM_ends _ g hi σ4 p2 x7 x8 x h) rfl (fun x9 _ => ?_)
        refine q_iload_n (pc' := 161) C 3 d_M_laysLeg_160 rfl rfl ?_
        refine q_iconst (pc' := 162) C d_M_laysLeg_161 ki_3 rfl ?_
        refine q_icmp_ne (tgt := 178) (pc' := 165) C d_M_laysLeg_162 rfl rfl ?_ ?_
        · refine q_aload_n (pc' := 179) C 4 d_M_laysLeg_178 rfl rfl ?_
          refine q_iload_n (pc' := 180) C 6 d_M_laysLeg_179 rfl rfl ?_
          refine q_iload (pc' := 182) C 1 d_M_laysLeg_180 rfl rfl ?_
          refine q_iload (pc' := 184) C 0 d_M_laysLeg_182 rfl rfl ?_
          refine q_callVv (fr' := 3) (lo' := 75) (pc' := 187) C FM_straightTo lmM_214 d_M_laysLeg_184 0 jM_0 kM_0 cM0 [.int p2, .int x7, .int x8] [] rfl rfl (Nat.le_of_ble_eq_true rfl) ⟨rfl, rfl⟩ (fun x h => cM_straightTo _ g hi x9 p2 x7 x8 x h) rfl (fun x10 _ => ?_)
          exact Rt.sub [] rfl (hJ6 x10)
        · refine q_aload_n (pc' := 166) C 4 d_M_laysLeg_165 rfl rfl ?_
          refine q_iload_n (pc' := 167) C 5 d_M_laysLeg_166 rfl rfl ?_
          refine q_iload_n (pc' := 168) C 6 d_M_laysLeg_167 rfl rfl ?_
          refine q_iload (pc' := 170) C 1 d_M_laysLeg_168 rfl rfl ?_
          refine q_iload (pc' := 172) C 0 d_M_laysLeg_170 rfl rfl ?_
          refine q_callVv (fr' := 4) (lo' := 99) (pc' := 175) C FM_laysCourseToFix lmM_254 d_M_laysLeg_172 0 jM_0 kM_0 cM0 [.int p1, .int p2, .int x7, .int x8] [] rfl rfl (Nat.le_of_ble_eq_true rfl) ⟨rfl, rfl⟩ (fun x h => cM_laysCourseToFix _ g hi x9 p1 p2 x7 x8 x h) rfl (fun x11 _ => ?_)
          refine q_goto (tgt := 187) C d_M_laysLeg_175 rfl ?_
          exact Rt.sub [] rfl (hJ6 x11)
      · refine q_aload_n (pc' := 79) C 2 d_M_laysLeg_78 rfl rfl ?_
        refine q_iload_n (pc' := 80) C 3 d_M_laysLeg_79 rfl rfl ?_
        refine q_iload_n (pc' := 81) C 4 d_M_laysLeg_80 rfl rfl ?_
        refine q_callVr (fr' := 1) (lo' := 23) (pc' := 84) C FM_climbLength lmM_251 d_M_laysLeg_81 0 jM_0 kM_0 cM0 [.int p1, .int p2] [] rfl rfl (Nat.le_of_ble_eq_true rfl) ⟨rfl, rfl⟩ (fun x h => cM_climbLength _ g hi σ4 p1 p2 x h) rfl (fun x12 _ => ?_)
        refine q_istore (pc' := 86) (lv' := [(5, .int x12), (4, .int x2), (3, .int x1), (0, .ref (g.1 0)), (1, .int p1), (2, .int p2)]) C d_M_laysLeg_84 (by decide) rfl rfl ?_
        refine q_aload_n (pc' := 87) C 3 d_M_laysLeg_86 rfl rfl ?_
        refine q_iload_n (pc' := 88) C 5 d_M_laysLeg_87 rfl rfl ?_
        refine q_aload_n (pc' := 89) C 3 d_M_laysLeg_88 rfl rfl ?_
        refine q_aload_n (pc' := 90) C 3 d_M_laysLeg_89 rfl rfl ?_
        refine gM_191 (pc' := 93) C d_M_laysLeg_90 rfl rfl ?_
        refine q_iload (pc' := 95) C 0 d_M_laysLeg_93 rfl rfl ?_
        refine q_aload_n (pc' := 96) C 3 d_M_laysLeg_95 rfl rfl ?_
        refine q_iload (pc' := 98) C 1 d_M_laysLeg_96 rfl rfl ?_
        refine q_callVr (fr' := 1) (lo' := 20) (pc' := 101) C FM_sx lmM_162 d_M_laysLeg_98 0 jM_0 kM_0 cM0 [.int x2] [.int x12, .int (σ4 0 42), .ref (g.1 0), .int p2, .ref (g.1 0)] rfl rfl (Nat.le_of_ble_eq_true rfl) ⟨rfl, rfl⟩ (fun x h => cM_sx _ g hi σ4 x2 x h) rfl (fun x13 _ => ?_)
        refine q_callVr (fr' := 0) (lo' := 0) (pc' := 104) C FM_ahead lmM_208 d_M_laysLeg_101 0 jM_0 kM_0 cM0 [.int (σ4 0 42), .int x12, .int x13] [.int p2, .ref (g.1 0)] rfl rfl (Nat.le_of_ble_eq_true rfl) ⟨rfl, rfl⟩ (fun x h => cM_ahead _ g hi σ4 (σ4 0 42) x12 x13 x h) rfl (fun x14 _ => ?_)
        refine q_aload_n (pc' := 105) C 3 d_M_laysLeg_104 rfl rfl ?_
        refine q_aload_n (pc' := 106) C 3 d_M_laysLeg_105 rfl rfl ?_
        refine gM_194 (pc' := 109) C d_M_laysLeg_106 rfl rfl ?_
        refine q_iload (pc' := 111) C 0 d_M_laysLeg_109 rfl rfl ?_
        refine q_aload_n (pc' := 112) C 3 d_M_laysLeg_111 rfl rfl ?_
        refine q_iload (pc' := 114) C 1 d_M_laysLeg_112 rfl rfl ?_
        refine q_callVr (fr' := 1) (lo' := 20) (pc' := 117) C FM_sy lmM_165 d_M_laysLeg_114 0 jM_0 kM_0 cM0 [.int x2] [.int x12, .int (σ4 0 43), .ref (g.1 0), .int x14, .int p2, .ref (g.1 0)] rfl rfl (Nat.le_of_ble_eq_true rfl) ⟨rfl, rfl⟩ (fun x h => cM_sy _ g hi σ4 x2 x h) rfl (fun x15 _ => ?_)
        refine q_callVr (fr' := 0) (lo' := 0) (pc' := 120) C FM_ahead lmM_208 d_M_laysLeg_117 0 jM_0 kM_0 cM0 [.int (σ4 0 43), .int x12, .int x15] [.int x14, .int p2, .ref (g.1 0)] rfl rfl (Nat.le_of_ble_eq_true rfl) ⟨rfl, rfl⟩ (fun x h => cM_ahead _ g hi σ4 (σ4 0 43) x12 x15 x h) rfl (fun x16 _ => ?_)
        refine q_callVv (fr' := 0) (lo' := 0) (pc' := 123) C FM_ends lmM_236 d_M_laysLeg_120 0 jM_0 kM_0 cM0 [.int p2, .int x14, .int x16] [] rfl rfl (Nat.le_of_ble_eq_true rfl) ⟨rfl, rfl⟩ (fun x h => cM_ends _ g hi σ4 p2 x14 x16 x h) rfl (fun x17 _ => ?_)
        refine q_aload_n (pc' := 124) C 3 d_M_laysLeg_123 rfl rfl ?_
        refine q_iload_n (pc' := 125) C 5 d_M_laysLeg_124 rfl rfl ?_
        refine q_iload (pc' := 127) C 0 d_M_laysLeg_125 rfl rfl ?_
        refine q_iload (pc' := 129) C 1 d_M_laysLeg_127 rfl rfl ?_
        refine q_callVv (fr' := 2) (lo' := 50) (pc' := 132) C FM_onCourse lmM_239 d_M_laysLeg_129 0 jM_0 kM_0 cM0 [.int p2, .int x12, .int x2] [] rfl rfl (Nat.le_of_ble_eq_true rfl) ⟨rfl, rfl⟩ (fun x h => cM_onCourse _ g hi x17 p2 x12 x2 x h) rfl (fun x18 _ => ?_)
        refine q_goto (tgt := 187) C d_M_laysLeg_132 rfl ?_
        exact Rt.sub [] rfl (hJ6 x18)
    · refine q_aload_n (pc' := 62) C 2 d_M_laysLeg_61 rfl rfl ?_
      refine q_iload_n (pc' := 63) C 4 d_M_laysLeg_62 rfl rfl ?_
      refine q_bipush (pc' := 65) C d_M_laysLeg_63 kb_100 rfl ?_
      refine q_iload (pc' := 67) C 0 d_M_laysLeg_65 rfl rfl ?_
      refine q_callVv (fr' := 2) (lo' := 50) (pc' := 70) C FM_onCourse lmM_239 d_M_laysLeg_67 0 jM_0 kM_0 cM0 [.int p2, .int (100 : Int32), .int x2] [] rfl rfl (Nat.le_of_ble_eq_true rfl) ⟨rfl, rfl⟩ (fun x h => cM_onCourse _ g hi σ4 p2 (100 : Int32) x2 x h) rfl (fun x19 _ => ?_)
      refine q_goto (tgt := 187) C d_M_laysLeg_70 rfl ?_
      exact Rt.sub [] rfl (hJ6 x19)
  · refine q_aload_n (pc' := 47) C 2 d_M_laysLeg_46 rfl rfl ?_
    refine q_iload_n (pc' := 48) C 3 d_M_laysLeg_47 rfl rfl ?_
    refine q_iload_n (pc' := 49) C 4 d_M_laysLeg_48 rfl rfl ?_
    refine q_callVv (fr' := 3) (lo' := 74) (pc' := 52) C FM_laysIntercept lmM_247 d_M_laysLeg_49 0 jM_0 kM_0 cM0 [.int p1, .int p2] [] rfl rfl (Nat.le_of_ble_eq_true rfl) ⟨rfl, rfl⟩ (fun x h => cM_laysIntercept _ g hi σ4 p1 p2 x h) rfl (fun x20 _ => ?_)
    refine q_goto (tgt := 187) C d_M_laysLeg_52 rfl ?_
    exact Rt.sub [] rfl (hJ6 x20)
theorem d_M_laysSegments_0 : decode qM_laysSegments.1 0 = .ok (.aload_n 0, 1) := by decide +kernel
theorem d_M_laysSegments_1 : decode qM_laysSegments.1 1 = .ok (.iconst 0, 1) := by decide +kernel
theorem d_M_laysSegments_2 : decode qM_laysSegments.1 2 = .ok (.putfield 172, 3) := by decide +kernel
theorem d_M_laysSegments_5 : decode qM_laysSegments.1 5 = .ok (.aload_n 0, 1) := by decide +kernel
theorem d_M_laysSegments_6 : decode qM_laysSegments.1 6 = .ok (.aload_n 0, 1) := by decide +kernel
theorem d_M_laysSegments_7 : decode qM_laysSegments.1 7 = .ok (.getfield 257, 3) := by decide +kernel
theorem d_M_laysSegments_10 : decode qM_laysSegments.1 10 = .ok (.putfield 242, 3) := by decide +kernel
theorem d_M_laysSegments_13 : decode qM_laysSegments.1 13 = .ok (.aload_n 0, 1) := by decide +kernel
theorem d_M_laysSegments_14 : decode qM_laysSegments.1 14 = .ok (.iconst (-1), 1) := by decide +kernel
theorem d_M_laysSegments_15 : decode qM_laysSegments.1 15 = .ok (.iconst 0, 1) := by decide +kernel
theorem d_M_laysSegments_16 : decode qM_laysSegments.1 16 = .ok (.iconst 0, 1) := by decide +kernel
theorem d_M_laysSegments_17 : decode qM_laysSegments.1 17 = .ok (.iconst (-1), 1) := by decide +kernel
theorem d_M_laysSegments_18 : decode qM_laysSegments.1 18 = .ok (.invokevirtual 187, 3) := by decide +kernel
theorem d_M_laysSegments_21 : decode qM_laysSegments.1 21 = .ok (.iconst 0, 1) := by decide +kernel
theorem d_M_laysSegments_22 : decode qM_laysSegments.1 22 = .ok (.istore_n 2, 1) := by decide +kernel
theorem d_M_laysSegments_23 : decode qM_laysSegments.1 23 = .ok (.iload_n 2, 1) := by decide +kernel
theorem d_M_laysSegments_24 : decode qM_laysSegments.1 24 = .ok (.aload_n 0, 1) := by decide +kernel
theorem d_M_laysSegments_25 : decode qM_laysSegments.1 25 = .ok (.iload_n 1, 1) := by decide +kernel
theorem d_M_laysSegments_26 : decode qM_laysSegments.1 26 = .ok (.invokevirtual 218, 3) := by decide +kernel
theorem d_M_laysSegments_29 : decode qM_laysSegments.1 29 = .ok (.if_icmp .ge 276, 3) := by decide +kernel
theorem d_M_laysSegments_32 : decode qM_laysSegments.1 32 = .ok (.aload_n 0, 1) := by decide +kernel
theorem d_M_laysSegments_33 : decode qM_laysSegments.1 33 = .ok (.iload_n 1, 1) := by decide +kernel
theorem d_M_laysSegments_34 : decode qM_laysSegments.1 34 = .ok (.iload_n 2, 1) := by decide +kernel
theorem d_M_laysSegments_35 : decode qM_laysSegments.1 35 = .ok (.iconst 0, 1) := by decide +kernel
theorem d_M_laysSegments_36 : decode qM_laysSegments.1 36 = .ok (.invokevirtual 168, 3) := by decide +kernel
theorem d_M_laysSegments_39 : decode qM_laysSegments.1 39 = .ok (.istore_n 3, 1) := by decide +kernel
theorem d_M_laysSegments_40 : decode qM_laysSegments.1 40 = .ok (.aload_n 0, 1) := by decide +kernel
theorem d_M_laysSegments_41 : decode qM_laysSegments.1 41 = .ok (.getfield 78, 3) := by decide +kernel
theorem d_M_laysSegments_44 : decode qM_laysSegments.1 44 = .ok (.iload_n 2, 1) := by decide +kernel
theorem d_M_laysSegments_45 : decode qM_laysSegments.1 45 = .ok (.iload_n 2, 1) := by decide +kernel
theorem d_M_laysSegments_46 : decode qM_laysSegments.1 46 = .ok (.ifCond .eq 36, 3) := by decide +kernel
theorem d_M_laysSegments_49 : decode qM_laysSegments.1 49 = .ok (.iload_n 3, 1) := by decide +kernel
theorem d_M_laysSegments_50 : decode qM_laysSegments.1 50 = .ok (.ifCond .eq 32, 3) := by decide +kernel
theorem d_M_laysSegments_53 : decode qM_laysSegments.1 53 = .ok (.iload_n 3, 1) := by decide +kernel
theorem d_M_laysSegments_54 : decode qM_laysSegments.1 54 = .ok (.bipush 8, 2) := by decide +kernel
theorem d_M_laysSegments_56 : decode qM_laysSegments.1 56 = .ok (.if_icmp .eq 26, 3) := by decide +kernel
theorem d_M_laysSegments_59 : decode qM_laysSegments.1 59 = .ok (.aload_n 0, 1) := by decide +kernel
theorem d_M_laysSegments_60 : decode qM_laysSegments.1 60 = .ok (.iload_n 1, 1) := by decide +kernel
theorem d_M_laysSegments_61 : decode qM_laysSegments.1 61 = .ok (.iload_n 2, 1) := by decide +kernel
theorem d_M_laysSegments_62 : decode qM_laysSegments.1 62 = .ok (.bipush 13, 2) := by decide +kernel
theorem d_M_laysSegments_64 : decode qM_laysSegments.1 64 = .ok (.invokevirtual 168, 3) := by decide +kernel
theorem d_M_laysSegments_67 : decode qM_laysSegments.1 67 = .ok (.iconst 1, 1) := by decide +kernel
theorem d_M_laysSegments_68 : decode qM_laysSegments.1 68 = .ok (.if_icmp .eq 14, 3) := by decide +kernel
theorem d_M_laysSegments_71 : decode qM_laysSegments.1 71 = .ok (.aload_n 0, 1) := by decide +kernel
theorem d_M_laysSegments_72 : decode qM_laysSegments.1 72 = .ok (.getfield 81, 3) := by decide +kernel
theorem d_M_laysSegments_75 : decode qM_laysSegments.1 75 = .ok (.iload_n 2, 1) := by decide +kernel
theorem d_M_laysSegments_76 : decode qM_laysSegments.1 76 = .ok (.iconst 1, 1) := by decide +kernel
theorem d_M_laysSegments_77 : decode qM_laysSegments.1 77 = .ok (.isub, 1) := by decide +kernel
theorem d_M_laysSegments_78 : decode qM_laysSegments.1 78 = .ok (.baload, 1) := by decide +kernel
theorem d_M_laysSegments_79 : decode qM_laysSegments.1 79 = .ok (.ifCond .ne 7, 3) := by decide +kernel
theorem d_M_laysSegments_82 : decode qM_laysSegments.1 82 = .ok (.iconst 1, 1) := by decide +kernel
theorem d_M_laysSegments_83 : decode qM_laysSegments.1 83 = .ok (.goto 4, 3) := by decide +kernel
theorem d_M_laysSegments_86 : decode qM_laysSegments.1 86 = .ok (.iconst 0, 1) := by decide +kernel
theorem d_M_laysSegments_87 : decode qM_laysSegments.1 87 = .ok (.bastore, 1) := by decide +kernel
theorem d_M_laysSegments_88 : decode qM_laysSegments.1 88 = .ok (.aload_n 0, 1) := by decide +kernel
theorem d_M_laysSegments_89 : decode qM_laysSegments.1 89 = .ok (.getfield 81, 3) := by decide +kernel
theorem d_M_laysSegments_92 : decode qM_laysSegments.1 92 = .ok (.iload_n 2, 1) := by decide +kernel
theorem d_M_laysSegments_93 : decode qM_laysSegments.1 93 = .ok (.iconst 0, 1) := by decide +kernel
theorem d_M_laysSegments_94 : decode qM_laysSegments.1 94 = .ok (.bastore, 1) := by decide +kernel
theorem d_M_laysSegments_95 : decode qM_laysSegments.1 95 = .ok (.aload_n 0, 1) := by decide +kernel
theorem d_M_laysSegments_96 : decode qM_laysSegments.1 96 = .ok (.getfield 90, 3) := by decide +kernel
theorem d_M_laysSegments_99 : decode qM_laysSegments.1 99 = .ok (.iload_n 2, 1) := by decide +kernel
theorem d_M_laysSegments_100 : decode qM_laysSegments.1 100 = .ok (.aload_n 0, 1) := by decide +kernel
theorem d_M_laysSegments_101 : decode qM_laysSegments.1 101 = .ok (.getfield 172, 3) := by decide +kernel
theorem d_M_laysSegments_104 : decode qM_laysSegments.1 104 = .ok (.iastore, 1) := by decide +kernel
theorem d_M_laysSegments_105 : decode qM_laysSegments.1 105 = .ok (.aload_n 0, 1) := by decide +kernel
theorem d_M_laysSegments_106 : decode qM_laysSegments.1 106 = .ok (.getfield 78, 3) := by decide +kernel
theorem d_M_laysSegments_109 : decode qM_laysSegments.1 109 = .ok (.iload_n 2, 1) := by decide +kernel
theorem d_M_laysSegments_110 : decode qM_laysSegments.1 110 = .ok (.baload, 1) := by decide +kernel
theorem d_M_laysSegments_111 : decode qM_laysSegments.1 111 = .ok (.ifCond .eq 7, 3) := by decide +kernel
theorem d_M_laysSegments_114 : decode qM_laysSegments.1 114 = .ok (.iconst (-1), 1) := by decide +kernel
theorem d_M_laysSegments_115 : decode qM_laysSegments.1 115 = .ok (.goto 7, 3) := by decide +kernel
theorem d_M_laysSegments_118 : decode qM_laysSegments.1 118 = .ok (.aload_n 0, 1) := by decide +kernel
theorem d_M_laysSegments_119 : decode qM_laysSegments.1 119 = .ok (.getfield 175, 3) := by decide +kernel
theorem d_M_laysSegments_122 : decode qM_laysSegments.1 122 = .ok (.istore 4, 2) := by decide +kernel
theorem d_M_laysSegments_124 : decode qM_laysSegments.1 124 = .ok (.aload_n 0, 1) := by decide +kernel
theorem d_M_laysSegments_125 : decode qM_laysSegments.1 125 = .ok (.getfield 78, 3) := by decide +kernel
theorem d_M_laysSegments_128 : decode qM_laysSegments.1 128 = .ok (.iload_n 2, 1) := by decide +kernel
theorem d_M_laysSegments_129 : decode qM_laysSegments.1 129 = .ok (.baload, 1) := by decide +kernel
theorem d_M_laysSegments_130 : decode qM_laysSegments.1 130 = .ok (.ifCond .ne 12, 3) := by decide +kernel
theorem d_M_laysSegments_133 : decode qM_laysSegments.1 133 = .ok (.aload_n 0, 1) := by decide +kernel
theorem d_M_laysSegments_134 : decode qM_laysSegments.1 134 = .ok (.iload_n 1, 1) := by decide +kernel
theorem d_M_laysSegments_135 : decode qM_laysSegments.1 135 = .ok (.iload_n 2, 1) := by decide +kernel
theorem d_M_laysSegments_136 : decode qM_laysSegments.1 136 = .ok (.invokevirtual 260, 3) := by decide +kernel
theorem d_M_laysSegments_139 : decode qM_laysSegments.1 139 = .ok (.goto 33, 3) := by decide +kernel
theorem d_M_laysSegments_142 : decode qM_laysSegments.1 142 = .ok (.iload_n 3, 1) := by decide +kernel
theorem d_M_laysSegments_143 : decode qM_laysSegments.1 143 = .ok (.invokestatic 263, 3) := by decide +kernel
theorem d_M_laysSegments_146 : decode qM_laysSegments.1 146 = .ok (.ifCond .ne 9, 3) := by decide +kernel
theorem d_M_laysSegments_149 : decode qM_laysSegments.1 149 = .ok (.iload_n 3, 1) := by decide +kernel
theorem d_M_laysSegments_150 : decode qM_laysSegments.1 150 = .ok (.bipush 8, 2) := by decide +kernel
theorem d_M_laysSegments_152 : decode qM_laysSegments.1 152 = .ok (.if_icmp .ne 20, 3) := by decide +kernel
theorem d_M_laysSegments_155 : decode qM_laysSegments.1 155 = .ok (.aload_n 0, 1) := by decide +kernel
theorem d_M_laysSegments_156 : decode qM_laysSegments.1 156 = .ok (.iload_n 2, 1) := by decide +kernel
theorem d_M_laysSegments_157 : decode qM_laysSegments.1 157 = .ok (.aload_n 0, 1) := by decide +kernel
theorem d_M_laysSegments_158 : decode qM_laysSegments.1 158 = .ok (.iload_n 1, 1) := by decide +kernel
theorem d_M_laysSegments_159 : decode qM_laysSegments.1 159 = .ok (.iload_n 2, 1) := by decide +kernel
theorem d_M_laysSegments_160 : decode qM_laysSegments.1 160 = .ok (.invokevirtual 221, 3) := by decide +kernel
theorem d_M_laysSegments_163 : decode qM_laysSegments.1 163 = .ok (.aload_n 0, 1) := by decide +kernel
theorem d_M_laysSegments_164 : decode qM_laysSegments.1 164 = .ok (.iload_n 1, 1) := by decide +kernel
theorem d_M_laysSegments_165 : decode qM_laysSegments.1 165 = .ok (.iload_n 2, 1) := by decide +kernel
theorem d_M_laysSegments_166 : decode qM_laysSegments.1 166 = .ok (.invokevirtual 225, 3) := by decide +kernel
theorem d_M_laysSegments_169 : decode qM_laysSegments.1 169 = .ok (.invokevirtual 236, 3) := by decide +kernel
theorem d_M_laysSegments_172 : decode qM_laysSegments.1 172 = .ok (.aload_n 0, 1) := by decide +kernel
theorem d_M_laysSegments_173 : decode qM_laysSegments.1 173 = .ok (.getfield 93, 3) := by decide +kernel
theorem d_M_laysSegments_176 : decode qM_laysSegments.1 176 = .ok (.iload_n 2, 1) := by decide +kernel
theorem d_M_laysSegments_177 : decode qM_laysSegments.1 177 = .ok (.aload_n 0, 1) := by decide +kernel
theorem d_M_laysSegments_178 : decode qM_laysSegments.1 178 = .ok (.getfield 172, 3) := by decide +kernel
theorem d_M_laysSegments_181 : decode qM_laysSegments.1 181 = .ok (.aload_n 0, 1) := by decide +kernel
theorem d_M_laysSegments_182 : decode qM_laysSegments.1 182 = .ok (.getfield 90, 3) := by decide +kernel
theorem d_M_laysSegments_185 : decode qM_laysSegments.1 185 = .ok (.iload_n 2, 1) := by decide +kernel
theorem d_M_laysSegments_186 : decode qM_laysSegments.1 186 = .ok (.iaload, 1) := by decide +kernel
theorem d_M_laysSegments_187 : decode qM_laysSegments.1 187 = .ok (.if_icmp .le 17, 3) := by decide +kernel
theorem d_M_laysSegments_190 : decode qM_laysSegments.1 190 = .ok (.aload_n 0, 1) := by decide +kernel
theorem d_M_laysSegments_191 : decode qM_laysSegments.1 191 = .ok (.getfield 63, 3) := by decide +kernel
theorem d_M_laysSegments_194 : decode qM_laysSegments.1 194 = .ok (.aload_n 0, 1) := by decide +kernel
theorem d_M_laysSegments_195 : decode qM_laysSegments.1 195 = .ok (.getfield 172, 3) := by decide +kernel
theorem d_M_laysSegments_198 : decode qM_laysSegments.1 198 = .ok (.iconst 1, 1) := by decide +kernel
theorem d_M_laysSegments_199 : decode qM_laysSegments.1 199 = .ok (.isub, 1) := by decide +kernel
theorem d_M_laysSegments_200 : decode qM_laysSegments.1 200 = .ok (.iaload, 1) := by decide +kernel
theorem d_M_laysSegments_201 : decode qM_laysSegments.1 201 = .ok (.goto 5, 3) := by decide +kernel
theorem d_M_laysSegments_204 : decode qM_laysSegments.1 204 = .ok (.iload 4, 2) := by decide +kernel
theorem d_M_laysSegments_206 : decode qM_laysSegments.1 206 = .ok (.iastore, 1) := by decide +kernel
theorem d_M_laysSegments_207 : decode qM_laysSegments.1 207 = .ok (.aload_n 0, 1) := by decide +kernel
theorem d_M_laysSegments_208 : decode qM_laysSegments.1 208 = .ok (.iload_n 3, 1) := by decide +kernel
theorem d_M_laysSegments_209 : decode qM_laysSegments.1 209 = .ok (.iconst 4, 1) := by decide +kernel
theorem d_M_laysSegments_210 : decode qM_laysSegments.1 210 = .ok (.if_icmp .ne 13, 3) := by decide +kernel
theorem d_M_laysSegments_213 : decode qM_laysSegments.1 213 = .ok (.aload_n 0, 1) := by decide +kernel
theorem d_M_laysSegments_214 : decode qM_laysSegments.1 214 = .ok (.iload_n 1, 1) := by decide +kernel
theorem d_M_laysSegments_215 : decode qM_laysSegments.1 215 = .ok (.iload_n 2, 1) := by decide +kernel
theorem d_M_laysSegments_216 : decode qM_laysSegments.1 216 = .ok (.iconst 3, 1) := by decide +kernel
theorem d_M_laysSegments_217 : decode qM_laysSegments.1 217 = .ok (.invokevirtual 168, 3) := by decide +kernel
theorem d_M_laysSegments_220 : decode qM_laysSegments.1 220 = .ok (.goto 7, 3) := by decide +kernel
theorem d_M_laysSegments_223 : decode qM_laysSegments.1 223 = .ok (.aload_n 0, 1) := by decide +kernel
theorem d_M_laysSegments_224 : decode qM_laysSegments.1 224 = .ok (.getfield 242, 3) := by decide +kernel
theorem d_M_laysSegments_227 : decode qM_laysSegments.1 227 = .ok (.putfield 242, 3) := by decide +kernel
theorem d_M_laysSegments_230 : decode qM_laysSegments.1 230 = .ok (.iload_n 3, 1) := by decide +kernel
theorem d_M_laysSegments_231 : decode qM_laysSegments.1 231 = .ok (.bipush 7, 2) := by decide +kernel
theorem d_M_laysSegments_233 : decode qM_laysSegments.1 233 = .ok (.if_icmp .ne 26, 3) := by decide +kernel
theorem d_M_laysSegments_236 : decode qM_laysSegments.1 236 = .ok (.aload_n 0, 1) := by decide +kernel
theorem d_M_laysSegments_237 : decode qM_laysSegments.1 237 = .ok (.aload_n 0, 1) := by decide +kernel
theorem d_M_laysSegments_238 : decode qM_laysSegments.1 238 = .ok (.iload_n 1, 1) := by decide +kernel
theorem d_M_laysSegments_239 : decode qM_laysSegments.1 239 = .ok (.iload_n 2, 1) := by decide +kernel
theorem d_M_laysSegments_240 : decode qM_laysSegments.1 240 = .ok (.iconst 2, 1) := by decide +kernel
theorem d_M_laysSegments_241 : decode qM_laysSegments.1 241 = .ok (.invokevirtual 168, 3) := by decide +kernel
theorem d_M_laysSegments_244 : decode qM_laysSegments.1 244 = .ok (.aload_n 0, 1) := by decide +kernel
theorem d_M_laysSegments_245 : decode qM_laysSegments.1 245 = .ok (.iload_n 1, 1) := by decide +kernel
theorem d_M_laysSegments_246 : decode qM_laysSegments.1 246 = .ok (.iload_n 2, 1) := by decide +kernel
theorem d_M_laysSegments_247 : decode qM_laysSegments.1 247 = .ok (.iconst 5, 1) := by decide +kernel
theorem d_M_laysSegments_248 : decode qM_laysSegments.1 248 = .ok (.invokevirtual 168, 3) := by decide +kernel
theorem d_M_laysSegments_251 : decode qM_laysSegments.1 251 = .ok (.iload_n 2, 1) := by decide +kernel
theorem d_M_laysSegments_252 : decode qM_laysSegments.1 252 = .ok (.iconst (-1), 1) := by decide +kernel
theorem d_M_laysSegments_253 : decode qM_laysSegments.1 253 = .ok (.invokevirtual 187, 3) := by decide +kernel
theorem d_M_laysSegments_256 : decode qM_laysSegments.1 256 = .ok (.goto 43, 3) := by decide +kernel
theorem d_M_laysSegments_259 : decode qM_laysSegments.1 259 = .ok (.iload_n 3, 1) := by decide +kernel
theorem d_M_laysSegments_260 : decode qM_laysSegments.1 260 = .ok (.bipush 8, 2) := by decide +kernel
theorem d_M_laysSegments_262 : decode qM_laysSegments.1 262 = .ok (.if_icmp .ne 20, 3) := by decide +kernel
theorem d_M_laysSegments_265 : decode qM_laysSegments.1 265 = .ok (.aload_n 0, 1) := by decide +kernel
theorem d_M_laysSegments_266 : decode qM_laysSegments.1 266 = .ok (.aload_n 0, 1) := by decide +kernel
theorem d_M_laysSegments_267 : decode qM_laysSegments.1 267 = .ok (.iload_n 1, 1) := by decide +kernel
theorem d_M_laysSegments_268 : decode qM_laysSegments.1 268 = .ok (.iload_n 2, 1) := by decide +kernel
theorem d_M_laysSegments_269 : decode qM_laysSegments.1 269 = .ok (.iconst 2, 1) := by decide +kernel
theorem d_M_laysSegments_270 : decode qM_laysSegments.1 270 = .ok (.invokevirtual 168, 3) := by decide +kernel
theorem d_M_laysSegments_273 : decode qM_laysSegments.1 273 = .ok (.iconst 0, 1) := by decide +kernel
theorem d_M_laysSegments_274 : decode qM_laysSegments.1 274 = .ok (.iload_n 2, 1) := by decide +kernel
theorem d_M_laysSegments_275 : decode qM_laysSegments.1 275 = .ok (.iconst (-1), 1) := by decide +kernel
theorem d_M_laysSegments_276 : decode qM_laysSegments.1 276 = .ok (.invokevirtual 187, 3) := by decide +kernel
theorem d_M_laysSegments_279 : decode qM_laysSegments.1 279 = .ok (.goto 20, 3) := by decide +kernel
theorem d_M_laysSegments_282 : decode qM_laysSegments.1 282 = .ok (.aload_n 0, 1) := by decide +kernel
theorem d_M_laysSegments_283 : decode qM_laysSegments.1 283 = .ok (.getfield 78, 3) := by decide +kernel
theorem d_M_laysSegments_286 : decode qM_laysSegments.1 286 = .ok (.iload_n 2, 1) := by decide +kernel
theorem d_M_laysSegments_287 : decode qM_laysSegments.1 287 = .ok (.baload, 1) := by decide +kernel
theorem d_M_laysSegments_288 : decode qM_laysSegments.1 288 = .ok (.ifCond .eq 11, 3) := by decide +kernel
theorem d_M_laysSegments_291 : decode qM_laysSegments.1 291 = .ok (.aload_n 0, 1) := by decide +kernel
theorem d_M_laysSegments_292 : decode qM_laysSegments.1 292 = .ok (.iconst (-1), 1) := by decide +kernel
theorem d_M_laysSegments_293 : decode qM_laysSegments.1 293 = .ok (.iconst 0, 1) := by decide +kernel
theorem d_M_laysSegments_294 : decode qM_laysSegments.1 294 = .ok (.iconst 0, 1) := by decide +kernel
theorem d_M_laysSegments_295 : decode qM_laysSegments.1 295 = .ok (.iconst (-1), 1) := by decide +kernel
theorem d_M_laysSegments_296 : decode qM_laysSegments.1 296 = .ok (.invokevirtual 187, 3) := by decide +kernel
theorem d_M_laysSegments_299 : decode qM_laysSegments.1 299 = .ok (.iinc 2 1, 3) := by decide +kernel
theorem d_M_laysSegments_302 : decode qM_laysSegments.1 302 = .ok (.goto (-279), 3) := by decide +kernel
theorem d_M_laysSegments_305 : decode qM_laysSegments.1 305 = .ok (.aload_n 0, 1) := by decide +kernel
theorem d_M_laysSegments_306 : decode qM_laysSegments.1 306 = .ok (.getfield 90, 3) := by decide +kernel
theorem d_M_laysSegments_309 : decode qM_laysSegments.1 309 = .ok (.aload_n 0, 1) := by decide +kernel
theorem d_M_laysSegments_310 : decode qM_laysSegments.1 310 = .ok (.iload_n 1, 1) := by decide +kernel
theorem d_M_laysSegments_311 : decode qM_laysSegments.1 311 = .ok (.invokevirtual 218, 3) := by decide +kernel
theorem d_M_laysSegments_314 : decode qM_laysSegments.1 314 = .ok (.aload_n 0, 1) := by decide +kernel
theorem d_M_laysSegments_315 : decode qM_laysSegments.1 315 = .ok (.getfield 172, 3) := by decide +kernel
theorem d_M_laysSegments_318 : decode qM_laysSegments.1 318 = .ok (.iastore, 1) := by decide +kernel
theorem d_M_laysSegments_319 : decode qM_laysSegments.1 319 = .ok (.return_, 1) := by decide +kernel
set_option maxRecDepth 100000 in
def lb_m_laysSegments_23 (p1 : Int32) (J5 : St → Option (St)) (ih9 : Int32 × St → Option (St)) (a8 : Int32 × St) : Option (St) :=
  Option.bind (m_count a8.2 p1) fun x10 =>
  if (x10 : Int32) ≤ a8.1 then (
  J5 a8.2
  ) else (
  Option.bind (m_of a8.2 p1 a8.1 (0 : Int32)) fun x11 =>
  Jn (fun (x12 : Int32) =>
  Gd (Ix a8.1 21) <|
  Lt (s2 a8.2 18 (Int32.toNatClampNeg a8.1) (x12 &&& 1)) fun σ14 =>
  Gd (Ix a8.1 21) <|
  Lt (s2 σ14 19 (Int32.toNatClampNeg a8.1) ((0 : Int32) &&& 1)) fun σ15 =>
  Gd (Ix a8.1 22) <|
  Lt (s2 σ15 22 (Int32.toNatClampNeg a8.1) (σ15 0 30)) fun σ16 =>
  Gd (Ix a8.1 21) <|
  Jn (fun (x17 : Int32) =>
  Gd (Ix a8.1 21) <|
  Jn (fun (σ19 : St) =>
  Gd (Ix a8.1 22) <|
  Jn (fun (x21 : Int32) =>
  Gd (Ix a8.1 21) <|
  Lt (s2 σ19 23 (Int32.toNatClampNeg a8.1) x21) fun σ23 =>
  Jn (fun (x24 : Int32) =>
  Lt (s2 σ23 0 41 x24) fun σ26 =>
  Jn (fun (σ27 : St) =>
  Lt (a8.1 + (1 : Int32) : Int32) fun x29 =>
  ih9 (x29, σ27)
  ) fun J28 =>
  if (x11 : Int32) = (7 : Int32) then (
  Option.bind (m_of σ26 p1 a8.1 (2 : Int32)) fun x33 =>
  Option.bind (m_of σ26 p1 a8.1 (5 : Int32)) fun x34 =>
  Option.bind (m_inbound σ26 x33 x34 a8.1 (-1 : Int32)) fun x35 =>
  J28 x35
  ) else (
  if (x11 : Int32) = (8 : Int32) then (
  Option.bind (m_of σ26 p1 a8.1 (2 : Int32)) fun x31 =>
  Option.bind (m_inbound σ26 x31 (0 : Int32) a8.1 (-1 : Int32)) fun x32 =>
  J28 x32
  ) else (
  Gd (Ix a8.1 21) <|
  if ((σ26 18 (Int32.toNatClampNeg a8.1)) : Int32) = 0 then (
  J28 σ26
  ) else (
  Option.bind (m_inbound σ26 (-1 : Int32) (0 : Int32) (0 : Int32) (-1 : Int32)) fun x30 =>
  J28 x30
  )
  )
  )
  ) fun J25 =>
  if (x11 : Int32) = (4 : Int32) then (
  Option.bind (m_of σ23 p1 a8.1 (3 : Int32)) fun x36 =>
  J25 x36
  ) else (
  J25 (σ23 0 41)
  )
  ) fun J22 =>
  if ((σ19 0 30) : Int32) ≤ (σ19 22 (Int32.toNatClampNeg a8.1)) then (
  J22 x17
  ) else (
  Gd (Ix ((σ19 0 30) - (1 : Int32)) 42) <|
  J22 (σ19 13 (Int32.toNatClampNeg ((σ19 0 30) - (1 : Int32))))
  )
  ) fun J20 =>
  if ((σ16 18 (Int32.toNatClampNeg a8.1)) : Int32) = 0 then (
  Option.bind (m_laysLeg σ16 p1 a8.1) fun x42 =>
  J20 x42
  ) else (
  Option.bind (m_hasFix x11) fun x37 =>
  Jn (fun (_ : Unit) =>
  Option.bind (m_pointX σ16 p1 a8.1) fun x39 =>
  Option.bind (m_pointY σ16 p1 a8.1) fun x40 =>
  Option.bind (m_ends σ16 a8.1 x39 x40) fun x41 =>
  J20 x41
  ) fun J38 =>
  if (x37 : Int32) = 0 then (
  if (x11 : Int32) = (8 : Int32) then (
  J38 ()
  ) else (
  J20 σ16
  )
  ) else (
  J38 ()
  )
  )
  ) fun J18 =>
  if ((σ16 18 (Int32.toNatClampNeg a8.1)) : Int32) = 0 then (
  J18 (σ16 0 31)
  ) else (
  J18 (-1 : Int32)
  )
  ) fun J13 =>
  Jn (fun (_ : Unit) =>
  J13 (1 : Int32)
  ) fun J43 =>
  if (a8.1 : Int32) = 0 then (
  J43 ()
  ) else (
  if (x11 : Int32) = 0 then (
  J43 ()
  ) else (
  if (x11 : Int32) = (8 : Int32) then (
  J43 ()
  ) else (
  Option.bind (m_of a8.2 p1 a8.1 (13 : Int32)) fun x44 =>
  if (x44 : Int32) = (1 : Int32) then (
  J43 ()
  ) else (
  Gd (Ix (a8.1 - (1 : Int32)) 21) <|
  if ((a8.2 19 (Int32.toNatClampNeg (a8.1 - (1 : Int32)))) : Int32) = 0 then (
  J43 ()
  ) else (
  J13 (0 : Int32)
  )
  )
  )
  )
  )
  )
set_option maxRecDepth 100000 in
def m_laysSegments (σ : St) (p1 : Int32) : Option (St) :=
  Lt (s2 σ 0 30 (0 : Int32)) fun σ1 =>
  Lt (s2 σ1 0 41 (σ1 0 15)) fun σ2 =>
  Option.bind (m_inbound σ2 (-1 : Int32) (0 : Int32) (0 : Int32) (-1 : Int32)) fun x3 =>
  Jn (fun (σ4 : St) =>
  Option.bind (m_count σ4 p1) fun x6 =>
  Gd (Ix x6 22) <|
  Lt (s2 σ4 22 (Int32.toNatClampNeg x6) (σ4 0 30)) fun σ7 =>
  some σ7
  ) fun J5 =>
  lp (lb_m_laysSegments_23 p1 J5) 4000 ((0 : Int32), x3)
set_option maxHeartbeats 4000000 in
set_option maxRecDepth 100000 in
theorem cM_laysSegments (l : Launch) (g : Ge) (hi : injB wM.2 g) (σ : St) (p1 : Int32) (x : St) (h : m_laysSegments σ p1 = some x) : Ct l wM g yM_laysSegments qM_laysSegments 6 152 [.ref (g.1 0), .int p1] σ (none, x) := by
  refine Ct.of (out := o_v) FM_laysSegments rfl hi rfl h (fun z hz C => ?_)
  clear h
  subst hz
  unfold m_laysSegments
  show Rt z qM_laysSegments wM g o_v 0 [(0, .ref (g.1 0)), (1, .int p1)] [] σ _
  refine q_aload_n (pc' := 1) C 0 d_M_laysSegments_0 rfl rfl ?_
  refine q_iconst (pc' := 2) C d_M_laysSegments_1 ki_0 rfl ?_
  refine pM_172 (pc' := 5) C d_M_laysSegments_2 rfl rfl ?_
  refine q_let (fun σ1 e1 => ?_)
  refine q_state e1 ?_
  refine q_aload_n (pc' := 6) C 0 d_M_laysSegments_5 rfl rfl ?_
  refine q_aload_n (pc' := 7) C 0 d_M_laysSegments_6 rfl rfl ?_
  refine gM_257 (pc' := 10) C d_M_laysSegments_7 rfl rfl ?_
  refine pM_242 (pc' := 13) C d_M_laysSegments_10 rfl rfl ?_
  refine q_let (fun σ2 e2 => ?_)
  refine q_state e2 ?_
  refine q_aload_n (pc' := 14) C 0 d_M_laysSegments_13 rfl rfl ?_
  refine q_iconst (pc' := 15) C d_M_laysSegments_14 ki_m1 rfl ?_
  refine q_iconst (pc' := 16) C d_M_laysSegments_15 ki_0 rfl ?_
  refine q_iconst (pc' := 17) C d_M_laysSegments_16 ki_0 rfl ?_
  refine q_iconst (pc' := 18) C d_M_laysSegments_17 ki_m1 rfl ?_
  refine q_callVv (fr' := 0) (lo' := 0) (pc' := 21) C FM_inbound lmM_187 d_M_laysSegments_18 0 jM_0 kM_0 cM0 [.int (-1 : Int32), .int (0 : Int32), .int (0 : Int32), .int (-1 : Int32)] [] rfl rfl (Nat.le_of_ble_eq_true rfl) ⟨rfl, rfl⟩ (fun x h => cM_inbound _ g hi σ2 (-1 : Int32) (0 : Int32) (0 : Int32) (-1 : Int32) x h) rfl (fun x3 _ => ?_)
  refine q_iconst (pc' := 22) C d_M_laysSegments_21 ki_0 rfl ?_
  refine q_istore_n (pc' := 23) (lv' := [(2, .int (0 : Int32)), (0, .ref (g.1 0)), (1, .int p1)]) C d_M_laysSegments_22 (by decide) rfl rfl ?_
  refine q_join (fun J5 : St → Option (St) => ∀ (σ4 : St), Rt z qM_laysSegments wM g o_v 305 [(0, .ref (g.1 0)), (1, .int p1)] [] σ4 (J5 σ4)) (fun σ4 => ?_) (fun J5 hJ5 => ?_)
  · refine q_aload_n (pc' := 306) C 0 d_M_laysSegments_305 rfl rfl ?_
    refine gM_90 (pc' := 309) C d_M_laysSegments_306 rfl rfl ?_
    refine q_aload_n (pc' := 310) C 0 d_M_laysSegments_309 rfl rfl ?_
    refine q_iload_n (pc' := 311) C 1 d_M_laysSegments_310 rfl rfl ?_
    refine q_callVr (fr' := 0) (lo' := 0) (pc' := 314) C FM_count lmM_218 d_M_laysSegments_311 0 jM_0 kM_0 cM0 [.int p1] [.ref (g.1 22)] rfl rfl (Nat.le_of_ble_eq_true rfl) ⟨rfl, rfl⟩ (fun x h => cM_count _ g hi σ4 p1 x h) rfl (fun x6 _ => ?_)
    refine q_aload_n (pc' := 315) C 0 d_M_laysSegments_314 rfl rfl ?_
    refine gM_172 (pc' := 318) C d_M_laysSegments_315 rfl rfl ?_
    refine q_iast (pc' := 319) C 22 jM_22 kM_22 d_M_laysSegments_318 rfl ?_
    refine q_let (fun σ7 e7 => ?_)
    refine q_state e7 ?_
    exact q_vret C rfl d_M_laysSegments_319 rfl
  refine Rt.sub [1, 2, 0] rfl (q_lp (fun a8 : Int32 × St => [(0, .ref (g.1 0)), (1, .int p1), (2, .int a8.1)]) (fun a8 => []) (fun a8 => a8.2) (fun ih9 hih9 a8 => ?_) 4000 ((0 : Int32), x3))
  unfold lb_m_laysSegments_23
  refine q_iload_n (pc' := 24) C 2 d_M_laysSegments_23 rfl rfl ?_
  refine q_aload_n (pc' := 25) C 0 d_M_laysSegments_24 rfl rfl ?_
  refine q_iload_n (pc' := 26) C 1 d_M_laysSegments_25 rfl rfl ?_
  refine q_callVr (fr' := 0) (lo' := 0) (pc' := 29) C FM_count lmM_218 d_M_laysSegments_26 0 jM_0 kM_0 cM0 [.int p1] [.int a8.1] rfl rfl (Nat.le_of_ble_eq_true rfl) ⟨rfl, rfl⟩ (fun x h => cM_count _ g hi a8.2 p1 x h) rfl (fun x10 _ => ?_)
  refine q_icmp_ge (tgt := 305) (pc' := 32) C d_M_laysSegments_29 rfl rfl ?_ ?_
  · exact Rt.sub [0, 1] rfl (hJ5 a8.2)
  · refine q_aload_n (pc' := 33) C 0 d_M_laysSegments_32 rfl rfl ?_
    refine q_iload_n (pc' := 34) C 1 d_M_laysSegments_33 rfl rfl ?_
    refine q_iload_n (pc' := 35) C 2 d_M_laysSegments_34 rfl rfl ?_
    refine q_iconst (pc' := 36) C d_M_laysSegments_35 ki_0 rfl ?_
    refine q_callVr (fr' := 0) (lo' := 0) (pc' := 39) C FM_of lmM_168 d_M_laysSegments_36 0 jM_0 kM_0 cM0 [.int p1, .int a8.1, .int (0 : Int32)] [] rfl rfl (Nat.le_of_ble_eq_true rfl) ⟨rfl, rfl⟩ (fun x h => cM_of _ g hi a8.2 p1 a8.1 (0 : Int32) x h) rfl (fun x11 _ => ?_)
    refine q_istore_n (pc' := 40) (lv' := [(3, .int x11), (0, .ref (g.1 0)), (1, .int p1), (2, .int a8.1)]) C d_M_laysSegments_39 (by decide) rfl rfl ?_
    refine q_aload_n (pc' := 41) C 1 d_M_laysSegments_40 rfl rfl ?_
    refine gM_78 (pc' := 44) C d_M_laysSegments_41 rfl rfl ?_
    refine q_iload_n (pc' := 45) C 3 d_M_laysSegments_44 rfl rfl ?_
    refine q_iload_n (pc' := 46) C 3 d_M_laysSegments_45 rfl rfl ?_
    refine q_join (fun J13 : Int32 → Option (St) => ∀ (x12 : Int32), Rt z qM_laysSegments wM g o_v 87 [(0, .ref (g.1 0)), (1, .int p1), (2, .int a8.1), (3, .int x11)] [.int x12, .int a8.1, .ref (g.1 18)] a8.2 (J13 x12)) (fun x12 => ?_) (fun J13 hJ13 => ?_)
    · refine q_zast (pc' := 88) C 18 jM_18 kM_18 d_M_laysSegments_87 rfl ?_
      refine q_let (fun σ14 e14 => ?_)
      refine q_state e14 ?_
      refine q_aload_n (pc' := 89) C 0 d_M_laysSegments_88 rfl rfl ?_
      refine gM_81 (pc' := 92) C d_M_laysSegments_89 rfl rfl ?_
      refine q_iload_n (pc' := 93) C 2 d_M_laysSegments_92 rfl rfl ?_
      refine q_iconst (pc' := 94) C d_M_laysSegments_93 ki_0 rfl ?_
      refine q_zast (pc' := 95) C 19 jM_19 kM_19 d_M_laysSegments_94 rfl ?_
      refine q_let (fun σ15 e15 => ?_)
      refine q_state e15 ?_
      refine q_aload_n (pc' := 96) C 0 d_M_laysSegments_95 rfl rfl ?_
      refine gM_90 (pc' := 99) C d_M_laysSegments_96 rfl rfl ?_
      refine q_iload_n (pc' := 100) C 2 d_M_laysSegments_99 rfl rfl ?_
      refine q_aload_n (pc' := 101) C 0 d_M_laysSegments_100 rfl rfl ?_
      refine gM_172 (pc' := 104) C d_M_laysSegments_101 rfl rfl ?_
      refine q_iast (pc' := 105) C 22 jM_22 kM_22 d_M_laysSegments_104 rfl ?_
      refine q_let (fun σ16 e16 => ?_)
      refine q_state e16 ?_
      refine q_aload_n (pc' := 106) C 0 d_M_laysSegments_105 rfl rfl ?_
      refine gM_78 (pc' := 109) C d_M_laysSegments_106 rfl rfl ?_
      refine q_iload_n (pc' := 110) C 2 d_M_laysSegments_109 rfl rfl ?_
      refine q_zald (pc' := 111) C 18 jM_18 kM_18 d_M_laysSegments_110 rfl ?_
      refine q_join (fun J18 : Int32 → Option (St) => ∀ (x17 : Int32), Rt z qM_laysSegments wM g o_v 122 [(0, .ref (g.1 0)), (1, .int p1), (2, .int a8.1), (3, .int x11)] [.int x17] σ16 (J18 x17)) (fun x17 => ?_) (fun J18 hJ18 => ?_)
      · refine q_istore (pc' := 124) (lv' := [(4, .int x17), (0, .ref (g.1 0)), (1, .int p1), (2, .int a8.1), (3, .int x11)]) C d_M_laysSegments_122 (by decide) rfl rfl ?_
        refine q_aload_n (pc' := 125) C 1 d_M_laysSegments_124 rfl rfl ?_
        refine gM_78 (pc' := 128) C d_M_laysSegments_125 rfl rfl ?_
        refine q_iload_n (pc' := 129) C 3 d_M_laysSegments_128 rfl rfl ?_
        refine q_zald (pc' := 130) C 18 jM_18 kM_18 d_M_laysSegments_129 rfl ?_
        refine q_join (fun J20 : St → Option (St) => ∀ (σ19 : St), Rt z qM_laysSegments wM g o_v 172 [(0, .ref (g.1 0)), (1, .int p1), (2, .int a8.1), (3, .int x11), (4, .int x17)] [] σ19 (J20 σ19)) (fun σ19 => ?_) (fun J20 hJ20 => ?_)
        · refine q_aload_n (pc' := 173) C 0 d_M_laysSegments_172 rfl rfl ?_
          refine gM_93 (pc' := 176) C d_M_laysSegments_173 rfl rfl ?_
          refine q_iload_n (pc' := 177) C 2 d_M_laysSegments_176 rfl rfl ?_
          refine q_aload_n (pc' := 178) C 0 d_M_laysSegments_177 rfl rfl ?_
          refine gM_172 (pc' := 181) C d_M_laysSegments_178 rfl rfl ?_
          refine q_aload_n (pc' := 182) C 0 d_M_laysSegments_181 rfl rfl ?_
          refine gM_90 (pc' := 185) C d_M_laysSegments_182 rfl rfl ?_
          refine q_iload_n (pc' := 186) C 2 d_M_laysSegments_185 rfl rfl ?_
          refine q_iald (pc' := 187) C 22 jM_22 kM_22 d_M_laysSegments_186 rfl ?_
          refine q_join (fun J22 : Int32 → Option (St) => ∀ (x21 : Int32), Rt z qM_laysSegments wM g o_v 206 [(0, .ref (g.1 0)), (1, .int p1), (2, .int a8.1), (3, .int x11)] [.int x21, .int a8.1, .ref (g.1 23)] σ19 (J22 x21)) (fun x21 => ?_) (fun J22 hJ22 => ?_)
          · refine q_iast (pc' := 207) C 23 jM_23 kM_23 d_M_laysSegments_206 rfl ?_
            refine q_let (fun σ23 e23 => ?_)
            refine q_state e23 ?_
            refine q_aload_n (pc' := 208) C 0 d_M_laysSegments_207 rfl rfl ?_
            refine q_iload_n (pc' := 209) C 3 d_M_laysSegments_208 rfl rfl ?_
            refine q_iconst (pc' := 210) C d_M_laysSegments_209 ki_4 rfl ?_
            refine q_join (fun J25 : Int32 → Option (St) => ∀ (x24 : Int32), Rt z qM_laysSegments wM g o_v 227 [(0, .ref (g.1 0)), (1, .int p1), (2, .int a8.1), (3, .int x11)] [.int x24, .ref (g.1 0)] σ23 (J25 x24)) (fun x24 => ?_) (fun J25 hJ25 => ?_)
            · refine pM_242 (pc' := 230) C d_M_laysSegments_227 rfl rfl ?_
              refine q_let (fun σ26 e26 => ?_)
              refine q_state e26 ?_
              refine q_iload_n (pc' := 231) C 3 d_M_laysSegments_230 rfl rfl ?_
              refine q_bipush (pc' := 233) C d_M_laysSegments_231 kb_7 rfl ?_
              refine q_join (fun J28 : St → Option (St) => ∀ (σ27 : St), Rt z qM_laysSegments wM g o_v 299 [(0, .ref (g.1 0)), (1, .int p1), (2, .int a8.1)] [] σ27 (J28 σ27)) (fun σ27 => ?_) (fun J28 hJ28 => ?_)
              · refine q_let (fun x29 e29 => ?_)
                refine q_iinc (pc' := 302) (lv' := [(2, .int x29), (0, .ref (g.1 0)), (1, .int p1)]) C 2 d_M_laysSegments_299 rfl (by rw [e29, ki_1]) (by decide) rfl rfl ?_
                refine q_goto (tgt := 23) C d_M_laysSegments_302 rfl ?_
                exact Rt.sub [1, 2, 0] rfl (hih9 (x29, σ27))
              refine q_icmp_ne (tgt := 259) (pc' := 236) C d_M_laysSegments_233 rfl rfl ?_ ?_
              · refine q_iload_n (pc' := 260) C 3 d_M_laysSegments_259 rfl rfl ?_
                refine q_bipush (pc' := 262) C d_M_laysSegments_260 kb_8 rfl ?_
                refine q_icmp_ne (tgt := 282) (pc' := 265) C d_M_laysSegments_262 rfl rfl ?_ ?_
                · refine q_aload_n (pc' := 283) C 0 d_M_laysSegments_282 rfl rfl ?_
                  refine gM_78 (pc' := 286) C d_M_laysSegments_283 rfl rfl ?_
                  refine q_iload_n (pc' := 287) C 2 d_M_laysSegments_286 rfl rfl ?_
                  refine q_zald (pc' := 288) C 18 jM_18 kM_18 d_M_laysSegments_287 rfl ?_
                  refine q_if_eq (tgt := 299) (pc' := 291) C d_M_laysSegments_288 rfl rfl ?_ ?_
                  · exact Rt.sub [0, 1, 2] rfl (hJ28 σ26)
                  · refine q_aload_n (pc' := 292) C 0 d_M_laysSegments_291 rfl rfl ?_
                    refine q_iconst (pc' := 293) C d_M_laysSegments_292 ki_m1 rfl ?_
                    refine q_iconst (pc' := 294) C d_M_laysSegments_293 ki_0 rfl ?_
                    refine q_iconst (pc' := 295) C d_M_laysSegments_294 ki_0 rfl ?_
                    refine q_iconst (pc' := 296) C d_M_laysSegments_295 ki_m1 rfl ?_
                    refine q_callVv (fr' := 0) (lo' := 0) (pc' := 299) C FM_inbound lmM_187 d_M_laysSegments_296 0 jM_0 kM_0 cM0 [.int (-1 : Int32), .int (0 : Int32), .int (0 : Int32), .int (-1 : Int32)] [] rfl rfl (Nat.le_of_ble_eq_true rfl) ⟨rfl, rfl⟩ (fun x h => cM_inbound _ g hi σ26 (-1 : Int32) (0 : Int32) (0 : Int32) (-1 : Int32) x h) rfl (fun x30 _ => ?_)
                    exact Rt.sub [0, 1, 2] rfl (hJ28 x30)
                · refine q_aload_n (pc' := 266) C 0 d_M_laysSegments_265 rfl rfl ?_
                  refine q_aload_n (pc' := 267) C 0 d_M_laysSegments_266 rfl rfl ?_
                  refine q_iload_n (pc' := 268) C 1 d_M_laysSegments_267 rfl rfl ?_
                  refine q_iload_n (pc' := 269) C 2 d_M_laysSegments_268 rfl rfl ?_
                  refine q_iconst (pc' := 270) C d_M_laysSegments_269 ki_2 rfl ?_
                  refine q_callVr (fr' := 0) (lo' := 0) (pc' := 273) C FM_of lmM_168 d_M_laysSegments_270 0 jM_0 kM_0 cM0 [.int p1, .int a8.1, .int (2 : Int32)] [.ref (g.1 0)] rfl rfl (Nat.le_of_ble_eq_true rfl) ⟨rfl, rfl⟩ (fun x h => cM_of _ g hi σ26 p1 a8.1 (2 : Int32) x h) rfl (fun x31 _ => ?_)
                  refine q_iconst (pc' := 274) C d_M_laysSegments_273 ki_0 rfl ?_
                  refine q_iload_n (pc' := 275) C 2 d_M_laysSegments_274 rfl rfl ?_
                  refine q_iconst (pc' := 276) C d_M_laysSegments_275 ki_m1 rfl ?_
                  refine q_callVv (fr' := 0) (lo' := 0) (pc' := 279) C FM_inbound lmM_187 d_M_laysSegments_276 0 jM_0 kM_0 cM0 [.int x31, .int (0 : Int32), .int a8.1, .int (-1 : Int32)] [] rfl rfl (Nat.le_of_ble_eq_true rfl) ⟨rfl, rfl⟩ (fun x h => cM_inbound _ g hi σ26 x31 (0 : Int32) a8.1 (-1 : Int32) x h) rfl (fun x32 _ => ?_)
                  refine q_goto (tgt := 299) C d_M_laysSegments_279 rfl ?_
                  exact Rt.sub [0, 1, 2] rfl (hJ28 x32)
              · refine q_aload_n (pc' := 237) C 0 d_M_laysSegments_236 rfl rfl ?_
                refine q_aload_n (pc' := 238) C 0 d_M_laysSegments_237 rfl rfl ?_
                refine q_iload_n (pc' := 239) C 1 d_M_laysSegments_238 rfl rfl ?_
                refine q_iload_n (pc' := 240) C 2 d_M_laysSegments_239 rfl rfl ?_
                refine q_iconst (pc' := 241) C d_M_laysSegments_240 ki_2 rfl ?_
                refine q_callVr (fr' := 0) (lo' := 0) (pc' := 244) C FM_of lmM_168 d_M_laysSegments_241 0 jM_0 kM_0 cM0 [.int p1, .int a8.1, .int (2 : Int32)] [.ref (g.1 0)] rfl rfl (Nat.le_of_ble_eq_true rfl) ⟨rfl, rfl⟩ (fun x h => cM_of _ g hi σ26 p1 a8.1 (2 : Int32) x h) rfl (fun x33 _ => ?_)
                refine q_aload_n (pc' := 245) C 0 d_M_laysSegments_244 rfl rfl ?_
                refine q_iload_n (pc' := 246) C 1 d_M_laysSegments_245 rfl rfl ?_
                refine q_iload_n (pc' := 247) C 2 d_M_laysSegments_246 rfl rfl ?_
                refine q_iconst (pc' := 248) C d_M_laysSegments_247 ki_5 rfl ?_
                refine q_callVr (fr' := 0) (lo' := 0) (pc' := 251) C FM_of lmM_168 d_M_laysSegments_248 0 jM_0 kM_0 cM0 [.int p1, .int a8.1, .int (5 : Int32)] [.int x33, .ref (g.1 0)] rfl rfl (Nat.le_of_ble_eq_true rfl) ⟨rfl, rfl⟩ (fun x h => cM_of _ g hi σ26 p1 a8.1 (5 : Int32) x h) rfl (fun x34 _ => ?_)
                refine q_iload_n (pc' := 252) C 2 d_M_laysSegments_251 rfl rfl ?_
                refine q_iconst (pc' := 253) C d_M_laysSegments_252 ki_m1 rfl ?_
                refine q_callVv (fr' := 0) (lo' := 0) (pc' := 256) C FM_inbound lmM_187 d_M_laysSegments_253 0 jM_0 kM_0 cM0 [.int x33, .int x34, .int a8.1, .int (-1 : Int32)] [] rfl rfl (Nat.le_of_ble_eq_true rfl) ⟨rfl, rfl⟩ (fun x h => cM_inbound _ g hi σ26 x33 x34 a8.1 (-1 : Int32) x h) rfl (fun x35 _ => ?_)
                refine q_goto (tgt := 299) C d_M_laysSegments_256 rfl ?_
                exact Rt.sub [0, 1, 2] rfl (hJ28 x35)
            refine q_icmp_ne (tgt := 223) (pc' := 213) C d_M_laysSegments_210 rfl rfl ?_ ?_
            · refine q_aload_n (pc' := 224) C 0 d_M_laysSegments_223 rfl rfl ?_
              refine gM_242 (pc' := 227) C d_M_laysSegments_224 rfl rfl ?_
              exact Rt.sub [0, 1, 2, 3] rfl (hJ25 (σ23 0 41))
            · refine q_aload_n (pc' := 214) C 0 d_M_laysSegments_213 rfl rfl ?_
              refine q_iload_n (pc' := 215) C 1 d_M_laysSegments_214 rfl rfl ?_
              refine q_iload_n (pc' := 216) C 2 d_M_laysSegments_215 rfl rfl ?_
              refine q_iconst (pc' := 217) C d_M_laysSegments_216 ki_3 rfl ?_
              refine q_callVr (fr' := 0) (lo' := 0) (pc' := 220) C FM_of lmM_168 d_M_laysSegments_217 0 jM_0 kM_0 cM0 [.int p1, .int a8.1, .int (3 : Int32)] [.ref (g.1 0)] rfl rfl (Nat.le_of_ble_eq_true rfl) ⟨rfl, rfl⟩ (fun x h => cM_of _ g hi σ23 p1 a8.1 (3 : Int32) x h) rfl (fun x36 _ => ?_)
              refine q_goto (tgt := 227) C d_M_laysSegments_220 rfl ?_
              exact Rt.sub [0, 1, 2, 3] rfl (hJ25 x36)
          refine q_icmp_le (tgt := 204) (pc' := 190) C d_M_laysSegments_187 rfl rfl ?_ ?_
          · refine q_iload (pc' := 206) C 4 d_M_laysSegments_204 rfl rfl ?_
            exact Rt.sub [0, 1, 2, 3] rfl (hJ22 x17)
          · refine q_aload_n (pc' := 191) C 0 d_M_laysSegments_190 rfl rfl ?_
            refine gM_63 (pc' := 194) C d_M_laysSegments_191 rfl rfl ?_
            refine q_aload_n (pc' := 195) C 0 d_M_laysSegments_194 rfl rfl ?_
            refine gM_172 (pc' := 198) C d_M_laysSegments_195 rfl rfl ?_
            refine q_iconst (pc' := 199) C d_M_laysSegments_198 ki_1 rfl ?_
            refine q_isub (pc' := 200) C d_M_laysSegments_199 rfl ?_
            refine q_iald (pc' := 201) C 13 jM_13 kM_13 d_M_laysSegments_200 rfl ?_
            refine q_goto (tgt := 206) C d_M_laysSegments_201 rfl ?_
            exact Rt.sub [0, 1, 2, 3] rfl (hJ22 (σ19 13 (Int32.toNatClampNeg ((σ19 0 30) - (1 : Int32)))))
        refine q_if_ne (tgt := 142) (pc' := 133) C d_M_laysSegments_130 rfl rfl ?_ ?_
        · refine q_iload_n (pc' := 143) C 4 d_M_laysSegments_142 rfl rfl ?_
          refine q_callSr (fr' := 0) (lo' := 0) (pc' := 146) C FM_hasFix lmM_263 d_M_laysSegments_143 [.int x11] [] rfl rfl (Nat.le_of_ble_eq_true rfl) ⟨rfl, rfl⟩ (fun x h => cM_hasFix _ g hi σ16 x11 x h) rfl (fun x37 _ => ?_)
          refine q_join (fun J38 : Unit → Option (St) => ∀ (_ : Unit), Rt z qM_laysSegments wM g o_v 155 [(0, .ref (g.1 0)), (1, .int p1), (2, .int a8.1), (3, .int x11), (4, .int x17)] [] σ16 (J38 ())) (fun _ => ?_) (fun J38 hJ38 => ?_)
          · refine q_aload_n (pc' := 156) C 0 d_M_laysSegments_155 rfl rfl ?_
            refine q_iload_n (pc' := 157) C 2 d_M_laysSegments_156 rfl rfl ?_
            refine q_aload_n (pc' := 158) C 0 d_M_laysSegments_157 rfl rfl ?_
            refine q_iload_n (pc' := 159) C 1 d_M_laysSegments_158 rfl rfl ?_
            refine q_iload_n (pc' := 160) C 2 d_M_laysSegments_159 rfl rfl ?_
            refine q_callVr (fr' := 1) (lo' := 23) (pc' := 163) C FM_pointX lmM_221 d_M_laysSegments_160 0 jM_0 kM_0 cM0 [.int p1, .int a8.1] [.int a8.1, .ref (g.1 0)] rfl rfl (Nat.le_of_ble_eq_true rfl) ⟨rfl, rfl⟩ (fun x h => cM_pointX _ g hi σ16 p1 a8.1 x h) rfl (fun x39 _ => ?_)
            refine q_aload_n (pc' := 164) C 0 d_M_laysSegments_163 rfl rfl ?_
            refine q_iload_n (pc' := 165) C 1 d_M_laysSegments_164 rfl rfl ?_
            refine q_iload_n (pc' := 166) C 2 d_M_laysSegments_165 rfl rfl ?_
            refine q_callVr (fr' := 1) (lo' := 23) (pc' := 169) C FM_pointY lmM_225 d_M_laysSegments_166 0 jM_0 kM_0 cM0 [.int p1, .int a8.1] [.int x39, .int a8.1, .ref (g.1 0)] rfl rfl (Nat.le_of_ble_eq_true rfl) ⟨rfl, rfl⟩ (fun x h => cM_pointY _ g hi σ16 p1 a8.1 x h) rfl (fun x40 _ => ?_)
            refine q_callVv (fr' := 0) (lo' := 0) (pc' := 172) C FM_ends lmM_236 d_M_laysSegments_169 0 jM_0 kM_0 cM0 [.int a8.1, .int x39, .int x40] [] rfl rfl (Nat.le_of_ble_eq_true rfl) ⟨rfl, rfl⟩ (fun x h => cM_ends _ g hi σ16 a8.1 x39 x40 x h) rfl (fun x41 _ => ?_)
            exact Rt.sub [0, 1, 2, 3, 4] rfl (hJ20 x41)
          refine q_if_ne (tgt := 155) (pc' := 149) C d_M_laysSegments_146 rfl rfl ?_ ?_
          · exact Rt.sub [1, 2, 3, 4, 0] rfl (hJ38 ())
          · refine q_iload_n (pc' := 150) C 4 d_M_laysSegments_149 rfl rfl ?_
            refine q_bipush (pc' := 152) C d_M_laysSegments_150 kb_8 rfl ?_
            refine q_icmp_ne (tgt := 172) (pc' := 155) C d_M_laysSegments_152 rfl rfl ?_ ?_
            · exact Rt.sub [1, 2, 3, 4, 0] rfl (hJ20 σ16)
            · exact Rt.sub [1, 2, 3, 4, 0] rfl (hJ38 ())
        · refine q_aload_n (pc' := 134) C 1 d_M_laysSegments_133 rfl rfl ?_
          refine q_iload_n (pc' := 135) C 2 d_M_laysSegments_134 rfl rfl ?_
          refine q_iload_n (pc' := 136) C 3 d_M_laysSegments_135 rfl rfl ?_
          refine q_callVv (fr' := 5) (lo' := 126) (pc' := 139) C FM_laysLeg lmM_260 d_M_laysSegments_136 0 jM_0 kM_0 cM0 [.int p1, .int a8.1] [] rfl rfl (Nat.le_of_ble_eq_true rfl) ⟨rfl, rfl⟩ (fun x h => cM_laysLeg _ g hi σ16 p1 a8.1 x h) rfl (fun x42 _ => ?_)
          refine q_goto (tgt := 172) C d_M_laysSegments_139 rfl ?_
          exact Rt.sub [1, 2, 3, 4, 0] rfl (hJ20 x42)
      refine q_if_eq (tgt := 118) (pc' := 114) C d_M_laysSegments_111 rfl rfl ?_ ?_
      · refine q_aload_n (pc' := 119) C 0 d_M_laysSegments_118 rfl rfl ?_
        refine gM_175 (pc' := 122) C d_M_laysSegments_119 rfl rfl ?_
        exact Rt.sub [0, 1, 2, 3] rfl (hJ18 (σ16 0 31))
      · refine q_iconst (pc' := 115) C d_M_laysSegments_114 ki_m1 rfl ?_
        refine q_goto (tgt := 122) C d_M_laysSegments_115 rfl ?_
        exact Rt.sub [0, 1, 2, 3] rfl (hJ18 (-1 : Int32))
    refine q_join (fun J43 : Unit → Option (St) => ∀ (_ : Unit), Rt z qM_laysSegments wM g o_v 82 [(0, .ref (g.1 0)), (1, .int p1), (2, .int a8.1), (3, .int x11)] [.int a8.1, .ref (g.1 18)] a8.2 (J43 ())) (fun _ => ?_) (fun J43 hJ43 => ?_)
    · refine q_iconst (pc' := 83) C d_M_laysSegments_82 ki_1 rfl ?_
      refine q_goto (tgt := 87) C d_M_laysSegments_83 rfl ?_
      exact Rt.sub [0, 1, 2, 3] rfl (hJ13 (1 : Int32))
    refine q_if_eq (tgt := 82) (pc' := 49) C d_M_laysSegments_46 rfl rfl ?_ ?_
    · exact Rt.sub [1, 2, 3, 0] rfl (hJ43 ())
    · refine q_iload_n (pc' := 50) C 0 d_M_laysSegments_49 rfl rfl ?_
      refine q_if_eq (tgt := 82) (pc' := 53) C d_M_laysSegments_50 rfl rfl ?_ ?_
      · exact Rt.sub [1, 2, 3, 0] rfl (hJ43 ())
      · refine q_iload_n (pc' := 54) C 0 d_M_laysSegments_53 rfl rfl ?_
        refine q_bipush (pc' := 56) C d_M_laysSegments_54 kb_8 rfl ?_
        refine q_icmp_eq (tgt := 82) (pc' := 59) C d_M_laysSegments_56 rfl rfl ?_ ?_
        · exact Rt.sub [1, 2, 3, 0] rfl (hJ43 ())
        · refine q_aload_n (pc' := 60) C 1 d_M_laysSegments_59 rfl rfl ?_
          refine q_iload_n (pc' := 61) C 2 d_M_laysSegments_60 rfl rfl ?_
          refine q_iload_n (pc' := 62) C 3 d_M_laysSegments_61 rfl rfl ?_
          refine q_bipush (pc' := 64) C d_M_laysSegments_62 kb_13 rfl ?_
          refine q_callVr (fr' := 0) (lo' := 0) (pc' := 67) C FM_of lmM_168 d_M_laysSegments_64 0 jM_0 kM_0 cM0 [.int p1, .int a8.1, .int (13 : Int32)] [.int a8.1, .ref (g.1 18)] rfl rfl (Nat.le_of_ble_eq_true rfl) ⟨rfl, rfl⟩ (fun x h => cM_of _ g hi a8.2 p1 a8.1 (13 : Int32) x h) rfl (fun x44 _ => ?_)
          refine q_iconst (pc' := 68) C d_M_laysSegments_67 ki_1 rfl ?_
          refine q_icmp_eq (tgt := 82) (pc' := 71) C d_M_laysSegments_68 rfl rfl ?_ ?_
          · exact Rt.sub [1, 2, 3, 0] rfl (hJ43 ())
          · refine q_aload_n (pc' := 72) C 1 d_M_laysSegments_71 rfl rfl ?_
            refine gM_81 (pc' := 75) C d_M_laysSegments_72 rfl rfl ?_
            refine q_iload_n (pc' := 76) C 3 d_M_laysSegments_75 rfl rfl ?_
            refine q_iconst (pc' := 77) C d_M_laysSegments_76 ki_1 rfl ?_
            refine q_isub (pc' := 78) C d_M_laysSegments_77 rfl ?_
            refine q_zald (pc' := 79) C 19 jM_19 kM_19 d_M_laysSegments_78 rfl ?_
            refine q_if_ne (tgt := 86) (pc' := 82) C d_M_laysSegments_79 rfl rfl ?_ ?_
            · refine q_iconst (pc' := 87) C d_M_laysSegments_86 ki_0 rfl ?_
              exact Rt.sub [1, 2, 3, 0] rfl (hJ13 (0 : Int32))
            · exact Rt.sub [1, 2, 3, 0] rfl (hJ43 ())
theorem d_M_airspeed_0 : decode qM_airspeed.1 0 = .ok (.aload_n 0, 1) := by decide +kernel
theorem d_M_airspeed_1 : decode qM_airspeed.1 1 = .ok (.getfield 27, 3) := by decide +kernel
theorem d_M_airspeed_4 : decode qM_airspeed.1 4 = .ok (.aload_n 0, 1) := by decide +kernel
theorem d_M_airspeed_5 : decode qM_airspeed.1 5 = .ok (.iload_n 1, 1) := by decide +kernel
theorem d_M_airspeed_6 : decode qM_airspeed.1 6 = .ok (.iload_n 2, 1) := by decide +kernel
theorem d_M_airspeed_7 : decode qM_airspeed.1 7 = .ok (.bipush 11, 2) := by decide +kernel
theorem d_M_airspeed_9 : decode qM_airspeed.1 9 = .ok (.invokevirtual 168, 3) := by decide +kernel
theorem d_M_airspeed_12 : decode qM_airspeed.1 12 = .ok (.invokestatic 267, 3) := by decide +kernel
theorem d_M_airspeed_15 : decode qM_airspeed.1 15 = .ok (.ireturn, 1) := by decide +kernel
set_option maxRecDepth 100000 in
def m_airspeed (σ : St) (p1 : Int32) (p2 : Int32) : Option (Int32) :=
  Option.bind (m_of σ p1 p2 (11 : Int32)) fun x1 =>
  Option.bind (m_lesser (σ 0 11) x1) fun x2 =>
  some x2
set_option maxHeartbeats 4000000 in
set_option maxRecDepth 100000 in
theorem cM_airspeed (l : Launch) (g : Ge) (hi : injB wM.2 g) (σ : St) (p1 : Int32) (p2 : Int32) (x : Int32) (h : m_airspeed σ p1 p2 = some x) : Ct l wM g yM_airspeed qM_airspeed 1 23 [.ref (g.1 0), .int p1, .int p2] σ (some (.int x), σ) := by
  refine Ct.of (out := (o_r σ)) FM_airspeed rfl hi rfl h (fun z hz C => ?_)
  clear h
  subst hz
  unfold m_airspeed
  show Rt z qM_airspeed wM g (o_r σ) 0 [(0, .ref (g.1 0)), (1, .int p1), (2, .int p2)] [] σ _
  refine q_aload_n (pc' := 1) C 0 d_M_airspeed_0 rfl rfl ?_
  refine gM_27 (pc' := 4) C d_M_airspeed_1 rfl rfl ?_
  refine q_aload_n (pc' := 5) C 0 d_M_airspeed_4 rfl rfl ?_
  refine q_iload_n (pc' := 6) C 1 d_M_airspeed_5 rfl rfl ?_
  refine q_iload_n (pc' := 7) C 2 d_M_airspeed_6 rfl rfl ?_
  refine q_bipush (pc' := 9) C d_M_airspeed_7 kb_11 rfl ?_
  refine q_callVr (fr' := 0) (lo' := 0) (pc' := 12) C FM_of lmM_168 d_M_airspeed_9 0 jM_0 kM_0 cM0 [.int p1, .int p2, .int (11 : Int32)] [.int (σ 0 11)] rfl rfl (Nat.le_of_ble_eq_true rfl) ⟨rfl, rfl⟩ (fun x h => cM_of _ g hi σ p1 p2 (11 : Int32) x h) rfl (fun x1 _ => ?_)
  refine q_callSr (fr' := 0) (lo' := 0) (pc' := 15) C FM_lesser lmM_267 d_M_airspeed_12 [.int (σ 0 11), .int x1] [] rfl rfl (Nat.le_of_ble_eq_true rfl) ⟨rfl, rfl⟩ (fun x h => cM_lesser _ g hi σ (σ 0 11) x1 x h) rfl (fun x2 _ => ?_)
  exact q_iret C rfl d_M_airspeed_15 rfl
theorem d_M_groundSpeed_0 : decode qM_groundSpeed.1 0 = .ok (.aload_n 0, 1) := by decide +kernel
theorem d_M_groundSpeed_1 : decode qM_groundSpeed.1 1 = .ok (.getfield 270, 3) := by decide +kernel
theorem d_M_groundSpeed_4 : decode qM_groundSpeed.1 4 = .ok (.i2l, 1) := by decide +kernel
theorem d_M_groundSpeed_5 : decode qM_groundSpeed.1 5 = .ok (.aload_n 0, 1) := by decide +kernel
theorem d_M_groundSpeed_6 : decode qM_groundSpeed.1 6 = .ok (.iload_n 3, 1) := by decide +kernel
theorem d_M_groundSpeed_7 : decode qM_groundSpeed.1 7 = .ok (.invokevirtual 162, 3) := by decide +kernel
theorem d_M_groundSpeed_10 : decode qM_groundSpeed.1 10 = .ok (.i2l, 1) := by decide +kernel
theorem d_M_groundSpeed_11 : decode qM_groundSpeed.1 11 = .ok (.lmul, 1) := by decide +kernel
theorem d_M_groundSpeed_12 : decode qM_groundSpeed.1 12 = .ok (.aload_n 0, 1) := by decide +kernel
theorem d_M_groundSpeed_13 : decode qM_groundSpeed.1 13 = .ok (.getfield 273, 3) := by decide +kernel
theorem d_M_groundSpeed_16 : decode qM_groundSpeed.1 16 = .ok (.i2l, 1) := by decide +kernel
theorem d_M_groundSpeed_17 : decode qM_groundSpeed.1 17 = .ok (.aload_n 0, 1) := by decide +kernel
theorem d_M_groundSpeed_18 : decode qM_groundSpeed.1 18 = .ok (.iload_n 3, 1) := by decide +kernel
theorem d_M_groundSpeed_19 : decode qM_groundSpeed.1 19 = .ok (.invokevirtual 165, 3) := by decide +kernel
theorem d_M_groundSpeed_22 : decode qM_groundSpeed.1 22 = .ok (.i2l, 1) := by decide +kernel
theorem d_M_groundSpeed_23 : decode qM_groundSpeed.1 23 = .ok (.lmul, 1) := by decide +kernel
theorem d_M_groundSpeed_24 : decode qM_groundSpeed.1 24 = .ok (.ladd, 1) := by decide +kernel
theorem d_M_groundSpeed_25 : decode qM_groundSpeed.1 25 = .ok (.ldc2_w 160, 3) := by decide +kernel
theorem d_M_groundSpeed_28 : decode qM_groundSpeed.1 28 = .ok (.ldiv, 1) := by decide +kernel
theorem d_M_groundSpeed_29 : decode qM_groundSpeed.1 29 = .ok (.lstore 4, 2) := by decide +kernel
theorem d_M_groundSpeed_31 : decode qM_groundSpeed.1 31 = .ok (.bipush 50, 2) := by decide +kernel
theorem d_M_groundSpeed_33 : decode qM_groundSpeed.1 33 = .ok (.aload_n 0, 1) := by decide +kernel
theorem d_M_groundSpeed_34 : decode qM_groundSpeed.1 34 = .ok (.iload_n 1, 1) := by decide +kernel
theorem d_M_groundSpeed_35 : decode qM_groundSpeed.1 35 = .ok (.iload_n 2, 1) := by decide +kernel
theorem d_M_groundSpeed_36 : decode qM_groundSpeed.1 36 = .ok (.invokevirtual 276, 3) := by decide +kernel
theorem d_M_groundSpeed_39 : decode qM_groundSpeed.1 39 = .ok (.i2l, 1) := by decide +kernel
theorem d_M_groundSpeed_40 : decode qM_groundSpeed.1 40 = .ok (.lload 4, 2) := by decide +kernel
theorem d_M_groundSpeed_42 : decode qM_groundSpeed.1 42 = .ok (.ladd, 1) := by decide +kernel
theorem d_M_groundSpeed_43 : decode qM_groundSpeed.1 43 = .ok (.l2i, 1) := by decide +kernel
theorem d_M_groundSpeed_44 : decode qM_groundSpeed.1 44 = .ok (.invokestatic 279, 3) := by decide +kernel
theorem d_M_groundSpeed_47 : decode qM_groundSpeed.1 47 = .ok (.ireturn, 1) := by decide +kernel
set_option maxRecDepth 100000 in
def m_groundSpeed (σ : St) (p1 : Int32) (p2 : Int32) (p3 : Int32) : Option (Int32) :=
  Option.bind (m_sx σ p3) fun x1 =>
  Option.bind (m_sy σ p3) fun x2 =>
  Lt (((((Int32.toInt64 (σ 0 8)) * (Int32.toInt64 x1)) + ((Int32.toInt64 (σ 0 9)) * (Int32.toInt64 x2))) / (1000 : Int64)) : Int64) fun x3 =>
  Option.bind (m_airspeed σ p1 p2) fun x4 =>
  Option.bind (m_greater (50 : Int32) (Int64.toInt32 ((Int32.toInt64 x4) + x3))) fun x5 =>
  some x5
set_option maxHeartbeats 4000000 in
set_option maxRecDepth 100000 in
theorem cM_groundSpeed (l : Launch) (g : Ge) (hi : injB wM.2 g) (σ : St) (p1 : Int32) (p2 : Int32) (p3 : Int32) (x : Int32) (h : m_groundSpeed σ p1 p2 p3 = some x) : Ct l wM g yM_groundSpeed qM_groundSpeed 2 45 [.ref (g.1 0), .int p1, .int p2, .int p3] σ (some (.int x), σ) := by
  refine Ct.of (out := (o_r σ)) FM_groundSpeed rfl hi rfl h (fun z hz C => ?_)
  clear h
  subst hz
  unfold m_groundSpeed
  show Rt z qM_groundSpeed wM g (o_r σ) 0 [(0, .ref (g.1 0)), (1, .int p1), (2, .int p2), (3, .int p3)] [] σ _
  refine q_aload_n (pc' := 1) C 0 d_M_groundSpeed_0 rfl rfl ?_
  refine gM_270 (pc' := 4) C d_M_groundSpeed_1 rfl rfl ?_
  refine q_i2l (pc' := 5) C d_M_groundSpeed_4 rfl ?_
  refine q_aload_n (pc' := 6) C 0 d_M_groundSpeed_5 rfl rfl ?_
  refine q_iload_n (pc' := 7) C 3 d_M_groundSpeed_6 rfl rfl ?_
  refine q_callVr (fr' := 1) (lo' := 20) (pc' := 10) C FM_sx lmM_162 d_M_groundSpeed_7 0 jM_0 kM_0 cM0 [.int p3] [.long (Int32.toInt64 (σ 0 8))] rfl rfl (Nat.le_of_ble_eq_true rfl) ⟨rfl, rfl⟩ (fun x h => cM_sx _ g hi σ p3 x h) rfl (fun x1 _ => ?_)
  refine q_i2l (pc' := 11) C d_M_groundSpeed_10 rfl ?_
  refine q_lmul (pc' := 12) C d_M_groundSpeed_11 rfl ?_
  refine q_aload_n (pc' := 13) C 0 d_M_groundSpeed_12 rfl rfl ?_
  refine gM_273 (pc' := 16) C d_M_groundSpeed_13 rfl rfl ?_
  refine q_i2l (pc' := 17) C d_M_groundSpeed_16 rfl ?_
  refine q_aload_n (pc' := 18) C 0 d_M_groundSpeed_17 rfl rfl ?_
  refine q_iload_n (pc' := 19) C 3 d_M_groundSpeed_18 rfl rfl ?_
  refine q_callVr (fr' := 1) (lo' := 20) (pc' := 22) C FM_sy lmM_165 d_M_groundSpeed_19 0 jM_0 kM_0 cM0 [.int p3] [.long (Int32.toInt64 (σ 0 9)), .long ((Int32.toInt64 (σ 0 8)) * (Int32.toInt64 x1))] rfl rfl (Nat.le_of_ble_eq_true rfl) ⟨rfl, rfl⟩ (fun x h => cM_sy _ g hi σ p3 x h) rfl (fun x2 _ => ?_)
  refine q_i2l (pc' := 23) C d_M_groundSpeed_22 rfl ?_
  refine q_lmul (pc' := 24) C d_M_groundSpeed_23 rfl ?_
  refine q_ladd (pc' := 25) C d_M_groundSpeed_24 rfl ?_
  refine q_ldc2 (pc' := 28) C lLM_160 d_M_groundSpeed_25 rfl ?_
  refine q_ldiv (pc' := 29) C (by decide) d_M_groundSpeed_28 rfl ?_
  refine q_let (fun x3 e3 => ?_)
  refine q_topl e3 ?_
  refine q_lstore (pc' := 31) (lv' := [(4, .long x3), (0, .ref (g.1 0)), (1, .int p1), (2, .int p2), (3, .int p3)]) C d_M_groundSpeed_29 (by decide) rfl rfl ?_
  refine q_bipush (pc' := 33) C d_M_groundSpeed_31 kb_50 rfl ?_
  refine q_aload_n (pc' := 34) C 1 d_M_groundSpeed_33 rfl rfl ?_
  refine q_iload_n (pc' := 35) C 2 d_M_groundSpeed_34 rfl rfl ?_
  refine q_iload_n (pc' := 36) C 3 d_M_groundSpeed_35 rfl rfl ?_
  refine q_callVr (fr' := 1) (lo' := 23) (pc' := 39) C FM_airspeed lmM_276 d_M_groundSpeed_36 0 jM_0 kM_0 cM0 [.int p1, .int p2] [.int (50 : Int32)] rfl rfl (Nat.le_of_ble_eq_true rfl) ⟨rfl, rfl⟩ (fun x h => cM_airspeed _ g hi σ p1 p2 x h) rfl (fun x4 _ => ?_)
  refine q_i2l (pc' := 40) C d_M_groundSpeed_39 rfl ?_
  refine q_lload (pc' := 42) C 0 d_M_groundSpeed_40 rfl rfl ?_
  refine q_ladd (pc' := 43) C d_M_groundSpeed_42 rfl ?_
  refine q_l2i (pc' := 44) C d_M_groundSpeed_43 rfl ?_
  refine q_callSr (fr' := 0) (lo' := 0) (pc' := 47) C FM_greater lmM_279 d_M_groundSpeed_44 [.int (50 : Int32), .int (Int64.toInt32 ((Int32.toInt64 x4) + x3))] [] rfl rfl (Nat.le_of_ble_eq_true rfl) ⟨rfl, rfl⟩ (fun x h => cM_greater _ g hi σ (50 : Int32) (Int64.toInt32 ((Int32.toInt64 x4) + x3)) x h) rfl (fun x5 _ => ?_)
  exact q_iret C rfl d_M_groundSpeed_47 rfl
