/-! the reference, methods 3 -/
theorem d_M_laysOver_0 : decode qM_laysOver.1 0 = .ok (.aload_n 0, 1) := by decide +kernel
theorem d_M_laysOver_1 : decode qM_laysOver.1 1 = .ok (.getfield 45, 3) := by decide +kernel
theorem d_M_laysOver_4 : decode qM_laysOver.1 4 = .ok (.iload_n 2, 1) := by decide +kernel
theorem d_M_laysOver_5 : decode qM_laysOver.1 5 = .ok (.iaload, 1) := by decide +kernel
theorem d_M_laysOver_6 : decode qM_laysOver.1 6 = .ok (.istore 4, 2) := by decide +kernel
theorem d_M_laysOver_8 : decode qM_laysOver.1 8 = .ok (.aload_n 0, 1) := by decide +kernel
theorem d_M_laysOver_9 : decode qM_laysOver.1 9 = .ok (.getfield 99, 3) := by decide +kernel
theorem d_M_laysOver_12 : decode qM_laysOver.1 12 = .ok (.iload_n 2, 1) := by decide +kernel
theorem d_M_laysOver_13 : decode qM_laysOver.1 13 = .ok (.iaload, 1) := by decide +kernel
theorem d_M_laysOver_14 : decode qM_laysOver.1 14 = .ok (.ifCond .le 8, 3) := by decide +kernel
theorem d_M_laysOver_17 : decode qM_laysOver.1 17 = .ok (.bipush 6, 2) := by decide +kernel
theorem d_M_laysOver_19 : decode qM_laysOver.1 19 = .ok (.goto 5, 3) := by decide +kernel
theorem d_M_laysOver_22 : decode qM_laysOver.1 22 = .ok (.bipush (-6), 2) := by decide +kernel
theorem d_M_laysOver_24 : decode qM_laysOver.1 24 = .ok (.istore 5, 2) := by decide +kernel
theorem d_M_laysOver_26 : decode qM_laysOver.1 26 = .ok (.aload_n 0, 1) := by decide +kernel
theorem d_M_laysOver_27 : decode qM_laysOver.1 27 = .ok (.getfield 66, 3) := by decide +kernel
theorem d_M_laysOver_30 : decode qM_laysOver.1 30 = .ok (.iload_n 2, 1) := by decide +kernel
theorem d_M_laysOver_31 : decode qM_laysOver.1 31 = .ok (.iaload, 1) := by decide +kernel
theorem d_M_laysOver_32 : decode qM_laysOver.1 32 = .ok (.iload 5, 2) := by decide +kernel
theorem d_M_laysOver_34 : decode qM_laysOver.1 34 = .ok (.iadd, 1) := by decide +kernel
theorem d_M_laysOver_35 : decode qM_laysOver.1 35 = .ok (.istore 6, 2) := by decide +kernel
theorem d_M_laysOver_37 : decode qM_laysOver.1 37 = .ok (.aload_n 0, 1) := by decide +kernel
theorem d_M_laysOver_38 : decode qM_laysOver.1 38 = .ok (.getfield 63, 3) := by decide +kernel
theorem d_M_laysOver_41 : decode qM_laysOver.1 41 = .ok (.iload_n 2, 1) := by decide +kernel
theorem d_M_laysOver_42 : decode qM_laysOver.1 42 = .ok (.iaload, 1) := by decide +kernel
theorem d_M_laysOver_43 : decode qM_laysOver.1 43 = .ok (.iload 5, 2) := by decide +kernel
theorem d_M_laysOver_45 : decode qM_laysOver.1 45 = .ok (.iadd, 1) := by decide +kernel
theorem d_M_laysOver_46 : decode qM_laysOver.1 46 = .ok (.istore 7, 2) := by decide +kernel
theorem d_M_laysOver_48 : decode qM_laysOver.1 48 = .ok (.aload_n 0, 1) := by decide +kernel
theorem d_M_laysOver_49 : decode qM_laysOver.1 49 = .ok (.getfield 48, 3) := by decide +kernel
theorem d_M_laysOver_52 : decode qM_laysOver.1 52 = .ok (.iload_n 2, 1) := by decide +kernel
theorem d_M_laysOver_53 : decode qM_laysOver.1 53 = .ok (.iaload, 1) := by decide +kernel
theorem d_M_laysOver_54 : decode qM_laysOver.1 54 = .ok (.i2l, 1) := by decide +kernel
theorem d_M_laysOver_55 : decode qM_laysOver.1 55 = .ok (.aload_n 0, 1) := by decide +kernel
theorem d_M_laysOver_56 : decode qM_laysOver.1 56 = .ok (.getfield 102, 3) := by decide +kernel
theorem d_M_laysOver_59 : decode qM_laysOver.1 59 = .ok (.iload_n 2, 1) := by decide +kernel
theorem d_M_laysOver_60 : decode qM_laysOver.1 60 = .ok (.iaload, 1) := by decide +kernel
theorem d_M_laysOver_61 : decode qM_laysOver.1 61 = .ok (.i2l, 1) := by decide +kernel
theorem d_M_laysOver_62 : decode qM_laysOver.1 62 = .ok (.aload_n 0, 1) := by decide +kernel
theorem d_M_laysOver_63 : decode qM_laysOver.1 63 = .ok (.iload 6, 2) := by decide +kernel
theorem d_M_laysOver_65 : decode qM_laysOver.1 65 = .ok (.invokevirtual 162, 3) := by decide +kernel
theorem d_M_laysOver_68 : decode qM_laysOver.1 68 = .ok (.aload_n 0, 1) := by decide +kernel
theorem d_M_laysOver_69 : decode qM_laysOver.1 69 = .ok (.iload 7, 2) := by decide +kernel
theorem d_M_laysOver_71 : decode qM_laysOver.1 71 = .ok (.invokevirtual 162, 3) := by decide +kernel
theorem d_M_laysOver_74 : decode qM_laysOver.1 74 = .ok (.isub, 1) := by decide +kernel
theorem d_M_laysOver_75 : decode qM_laysOver.1 75 = .ok (.i2l, 1) := by decide +kernel
theorem d_M_laysOver_76 : decode qM_laysOver.1 76 = .ok (.lmul, 1) := by decide +kernel
theorem d_M_laysOver_77 : decode qM_laysOver.1 77 = .ok (.ldc2_w 160, 3) := by decide +kernel
theorem d_M_laysOver_80 : decode qM_laysOver.1 80 = .ok (.ldiv, 1) := by decide +kernel
theorem d_M_laysOver_81 : decode qM_laysOver.1 81 = .ok (.ladd, 1) := by decide +kernel
theorem d_M_laysOver_82 : decode qM_laysOver.1 82 = .ok (.l2i, 1) := by decide +kernel
theorem d_M_laysOver_83 : decode qM_laysOver.1 83 = .ok (.istore 8, 2) := by decide +kernel
theorem d_M_laysOver_85 : decode qM_laysOver.1 85 = .ok (.aload_n 0, 1) := by decide +kernel
theorem d_M_laysOver_86 : decode qM_laysOver.1 86 = .ok (.getfield 51, 3) := by decide +kernel
theorem d_M_laysOver_89 : decode qM_laysOver.1 89 = .ok (.iload_n 2, 1) := by decide +kernel
theorem d_M_laysOver_90 : decode qM_laysOver.1 90 = .ok (.iaload, 1) := by decide +kernel
theorem d_M_laysOver_91 : decode qM_laysOver.1 91 = .ok (.i2l, 1) := by decide +kernel
theorem d_M_laysOver_92 : decode qM_laysOver.1 92 = .ok (.aload_n 0, 1) := by decide +kernel
theorem d_M_laysOver_93 : decode qM_laysOver.1 93 = .ok (.getfield 102, 3) := by decide +kernel
theorem d_M_laysOver_96 : decode qM_laysOver.1 96 = .ok (.iload_n 2, 1) := by decide +kernel
theorem d_M_laysOver_97 : decode qM_laysOver.1 97 = .ok (.iaload, 1) := by decide +kernel
theorem d_M_laysOver_98 : decode qM_laysOver.1 98 = .ok (.i2l, 1) := by decide +kernel
theorem d_M_laysOver_99 : decode qM_laysOver.1 99 = .ok (.aload_n 0, 1) := by decide +kernel
theorem d_M_laysOver_100 : decode qM_laysOver.1 100 = .ok (.iload 6, 2) := by decide +kernel
theorem d_M_laysOver_102 : decode qM_laysOver.1 102 = .ok (.invokevirtual 165, 3) := by decide +kernel
theorem d_M_laysOver_105 : decode qM_laysOver.1 105 = .ok (.aload_n 0, 1) := by decide +kernel
theorem d_M_laysOver_106 : decode qM_laysOver.1 106 = .ok (.iload 7, 2) := by decide +kernel
theorem d_M_laysOver_108 : decode qM_laysOver.1 108 = .ok (.invokevirtual 165, 3) := by decide +kernel
theorem d_M_laysOver_111 : decode qM_laysOver.1 111 = .ok (.isub, 1) := by decide +kernel
theorem d_M_laysOver_112 : decode qM_laysOver.1 112 = .ok (.i2l, 1) := by decide +kernel
theorem d_M_laysOver_113 : decode qM_laysOver.1 113 = .ok (.lmul, 1) := by decide +kernel
theorem d_M_laysOver_114 : decode qM_laysOver.1 114 = .ok (.ldc2_w 160, 3) := by decide +kernel
theorem d_M_laysOver_117 : decode qM_laysOver.1 117 = .ok (.ldiv, 1) := by decide +kernel
theorem d_M_laysOver_118 : decode qM_laysOver.1 118 = .ok (.ladd, 1) := by decide +kernel
theorem d_M_laysOver_119 : decode qM_laysOver.1 119 = .ok (.l2i, 1) := by decide +kernel
theorem d_M_laysOver_120 : decode qM_laysOver.1 120 = .ok (.istore 9, 2) := by decide +kernel
theorem d_M_laysOver_122 : decode qM_laysOver.1 122 = .ok (.aload_n 0, 1) := by decide +kernel
theorem d_M_laysOver_123 : decode qM_laysOver.1 123 = .ok (.iload 4, 2) := by decide +kernel
theorem d_M_laysOver_125 : decode qM_laysOver.1 125 = .ok (.iconst 1, 1) := by decide +kernel
theorem d_M_laysOver_126 : decode qM_laysOver.1 126 = .ok (.aload_n 0, 1) := by decide +kernel
theorem d_M_laysOver_127 : decode qM_laysOver.1 127 = .ok (.getfield 108, 3) := by decide +kernel
theorem d_M_laysOver_130 : decode qM_laysOver.1 130 = .ok (.iload_n 2, 1) := by decide +kernel
theorem d_M_laysOver_131 : decode qM_laysOver.1 131 = .ok (.iaload, 1) := by decide +kernel
theorem d_M_laysOver_132 : decode qM_laysOver.1 132 = .ok (.aload_n 0, 1) := by decide +kernel
theorem d_M_laysOver_133 : decode qM_laysOver.1 133 = .ok (.getfield 63, 3) := by decide +kernel
theorem d_M_laysOver_136 : decode qM_laysOver.1 136 = .ok (.iload_n 2, 1) := by decide +kernel
theorem d_M_laysOver_137 : decode qM_laysOver.1 137 = .ok (.iaload, 1) := by decide +kernel
theorem d_M_laysOver_138 : decode qM_laysOver.1 138 = .ok (.iload 8, 2) := by decide +kernel
theorem d_M_laysOver_140 : decode qM_laysOver.1 140 = .ok (.iload 9, 2) := by decide +kernel
theorem d_M_laysOver_142 : decode qM_laysOver.1 142 = .ok (.invokevirtual 298, 3) := by decide +kernel
theorem d_M_laysOver_145 : decode qM_laysOver.1 145 = .ok (.aload_n 0, 1) := by decide +kernel
theorem d_M_laysOver_146 : decode qM_laysOver.1 146 = .ok (.iload_n 1, 1) := by decide +kernel
theorem d_M_laysOver_147 : decode qM_laysOver.1 147 = .ok (.iload 4, 2) := by decide +kernel
theorem d_M_laysOver_149 : decode qM_laysOver.1 149 = .ok (.iconst 0, 1) := by decide +kernel
theorem d_M_laysOver_150 : decode qM_laysOver.1 150 = .ok (.invokevirtual 168, 3) := by decide +kernel
theorem d_M_laysOver_153 : decode qM_laysOver.1 153 = .ok (.istore 10, 2) := by decide +kernel
theorem d_M_laysOver_155 : decode qM_laysOver.1 155 = .ok (.iload 10, 2) := by decide +kernel
theorem d_M_laysOver_157 : decode qM_laysOver.1 157 = .ok (.iconst 2, 1) := by decide +kernel
theorem d_M_laysOver_158 : decode qM_laysOver.1 158 = .ok (.if_icmp .eq 10, 3) := by decide +kernel
theorem d_M_laysOver_161 : decode qM_laysOver.1 161 = .ok (.iload 10, 2) := by decide +kernel
theorem d_M_laysOver_163 : decode qM_laysOver.1 163 = .ok (.bipush 7, 2) := by decide +kernel
theorem d_M_laysOver_165 : decode qM_laysOver.1 165 = .ok (.if_icmp .ne 88, 3) := by decide +kernel
theorem d_M_laysOver_168 : decode qM_laysOver.1 168 = .ok (.iload 8, 2) := by decide +kernel
theorem d_M_laysOver_170 : decode qM_laysOver.1 170 = .ok (.iload 9, 2) := by decide +kernel
theorem d_M_laysOver_172 : decode qM_laysOver.1 172 = .ok (.aload_n 0, 1) := by decide +kernel
theorem d_M_laysOver_173 : decode qM_laysOver.1 173 = .ok (.getfield 54, 3) := by decide +kernel
theorem d_M_laysOver_176 : decode qM_laysOver.1 176 = .ok (.iload_n 2, 1) := by decide +kernel
theorem d_M_laysOver_177 : decode qM_laysOver.1 177 = .ok (.iaload, 1) := by decide +kernel
theorem d_M_laysOver_178 : decode qM_laysOver.1 178 = .ok (.aload_n 0, 1) := by decide +kernel
theorem d_M_laysOver_179 : decode qM_laysOver.1 179 = .ok (.getfield 57, 3) := by decide +kernel
theorem d_M_laysOver_182 : decode qM_laysOver.1 182 = .ok (.iload_n 2, 1) := by decide +kernel
theorem d_M_laysOver_183 : decode qM_laysOver.1 183 = .ok (.iaload, 1) := by decide +kernel
theorem d_M_laysOver_184 : decode qM_laysOver.1 184 = .ok (.invokestatic 197, 3) := by decide +kernel
theorem d_M_laysOver_187 : decode qM_laysOver.1 187 = .ok (.istore 11, 2) := by decide +kernel
theorem d_M_laysOver_189 : decode qM_laysOver.1 189 = .ok (.aload_n 0, 1) := by decide +kernel
theorem d_M_laysOver_190 : decode qM_laysOver.1 190 = .ok (.iload 8, 2) := by decide +kernel
theorem d_M_laysOver_192 : decode qM_laysOver.1 192 = .ok (.iload 9, 2) := by decide +kernel
theorem d_M_laysOver_194 : decode qM_laysOver.1 194 = .ok (.aload_n 0, 1) := by decide +kernel
theorem d_M_laysOver_195 : decode qM_laysOver.1 195 = .ok (.getfield 54, 3) := by decide +kernel
theorem d_M_laysOver_198 : decode qM_laysOver.1 198 = .ok (.iload_n 2, 1) := by decide +kernel
theorem d_M_laysOver_199 : decode qM_laysOver.1 199 = .ok (.iaload, 1) := by decide +kernel
theorem d_M_laysOver_200 : decode qM_laysOver.1 200 = .ok (.aload_n 0, 1) := by decide +kernel
theorem d_M_laysOver_201 : decode qM_laysOver.1 201 = .ok (.getfield 57, 3) := by decide +kernel
theorem d_M_laysOver_204 : decode qM_laysOver.1 204 = .ok (.iload_n 2, 1) := by decide +kernel
theorem d_M_laysOver_205 : decode qM_laysOver.1 205 = .ok (.iaload, 1) := by decide +kernel
theorem d_M_laysOver_206 : decode qM_laysOver.1 206 = .ok (.invokevirtual 201, 3) := by decide +kernel
theorem d_M_laysOver_209 : decode qM_laysOver.1 209 = .ok (.istore 12, 2) := by decide +kernel
theorem d_M_laysOver_211 : decode qM_laysOver.1 211 = .ok (.aload_n 0, 1) := by decide +kernel
theorem d_M_laysOver_212 : decode qM_laysOver.1 212 = .ok (.iload 4, 2) := by decide +kernel
theorem d_M_laysOver_214 : decode qM_laysOver.1 214 = .ok (.iconst 0, 1) := by decide +kernel
theorem d_M_laysOver_215 : decode qM_laysOver.1 215 = .ok (.iload 11, 2) := by decide +kernel
theorem d_M_laysOver_217 : decode qM_laysOver.1 217 = .ok (.iload_n 3, 1) := by decide +kernel
theorem d_M_laysOver_218 : decode qM_laysOver.1 218 = .ok (.isub, 1) := by decide +kernel
theorem d_M_laysOver_219 : decode qM_laysOver.1 219 = .ok (.iload 12, 2) := by decide +kernel
theorem d_M_laysOver_221 : decode qM_laysOver.1 221 = .ok (.iload 8, 2) := by decide +kernel
theorem d_M_laysOver_223 : decode qM_laysOver.1 223 = .ok (.aload_n 0, 1) := by decide +kernel
theorem d_M_laysOver_224 : decode qM_laysOver.1 224 = .ok (.getfield 54, 3) := by decide +kernel
theorem d_M_laysOver_227 : decode qM_laysOver.1 227 = .ok (.iload_n 2, 1) := by decide +kernel
theorem d_M_laysOver_228 : decode qM_laysOver.1 228 = .ok (.iaload, 1) := by decide +kernel
theorem d_M_laysOver_229 : decode qM_laysOver.1 229 = .ok (.iload_n 3, 1) := by decide +kernel
theorem d_M_laysOver_230 : decode qM_laysOver.1 230 = .ok (.iload 11, 2) := by decide +kernel
theorem d_M_laysOver_232 : decode qM_laysOver.1 232 = .ok (.invokestatic 302, 3) := by decide +kernel
theorem d_M_laysOver_235 : decode qM_laysOver.1 235 = .ok (.iload 9, 2) := by decide +kernel
theorem d_M_laysOver_237 : decode qM_laysOver.1 237 = .ok (.aload_n 0, 1) := by decide +kernel
theorem d_M_laysOver_238 : decode qM_laysOver.1 238 = .ok (.getfield 57, 3) := by decide +kernel
theorem d_M_laysOver_241 : decode qM_laysOver.1 241 = .ok (.iload_n 2, 1) := by decide +kernel
theorem d_M_laysOver_242 : decode qM_laysOver.1 242 = .ok (.iaload, 1) := by decide +kernel
theorem d_M_laysOver_243 : decode qM_laysOver.1 243 = .ok (.iload_n 3, 1) := by decide +kernel
theorem d_M_laysOver_244 : decode qM_laysOver.1 244 = .ok (.iload 11, 2) := by decide +kernel
theorem d_M_laysOver_246 : decode qM_laysOver.1 246 = .ok (.invokestatic 302, 3) := by decide +kernel
theorem d_M_laysOver_249 : decode qM_laysOver.1 249 = .ok (.invokevirtual 298, 3) := by decide +kernel
theorem d_M_laysOver_252 : decode qM_laysOver.1 252 = .ok (.return_, 1) := by decide +kernel
theorem d_M_laysOver_253 : decode qM_laysOver.1 253 = .ok (.aload_n 0, 1) := by decide +kernel
theorem d_M_laysOver_254 : decode qM_laysOver.1 254 = .ok (.aload_n 0, 1) := by decide +kernel
theorem d_M_laysOver_255 : decode qM_laysOver.1 255 = .ok (.getfield 63, 3) := by decide +kernel
theorem d_M_laysOver_258 : decode qM_laysOver.1 258 = .ok (.iload_n 2, 1) := by decide +kernel
theorem d_M_laysOver_259 : decode qM_laysOver.1 259 = .ok (.iaload, 1) := by decide +kernel
theorem d_M_laysOver_260 : decode qM_laysOver.1 260 = .ok (.invokevirtual 162, 3) := by decide +kernel
theorem d_M_laysOver_263 : decode qM_laysOver.1 263 = .ok (.i2l, 1) := by decide +kernel
theorem d_M_laysOver_264 : decode qM_laysOver.1 264 = .ok (.lstore 11, 2) := by decide +kernel
theorem d_M_laysOver_266 : decode qM_laysOver.1 266 = .ok (.aload_n 0, 1) := by decide +kernel
theorem d_M_laysOver_267 : decode qM_laysOver.1 267 = .ok (.aload_n 0, 1) := by decide +kernel
theorem d_M_laysOver_268 : decode qM_laysOver.1 268 = .ok (.getfield 63, 3) := by decide +kernel
theorem d_M_laysOver_271 : decode qM_laysOver.1 271 = .ok (.iload_n 2, 1) := by decide +kernel
theorem d_M_laysOver_272 : decode qM_laysOver.1 272 = .ok (.iaload, 1) := by decide +kernel
theorem d_M_laysOver_273 : decode qM_laysOver.1 273 = .ok (.invokevirtual 165, 3) := by decide +kernel
theorem d_M_laysOver_276 : decode qM_laysOver.1 276 = .ok (.i2l, 1) := by decide +kernel
theorem d_M_laysOver_277 : decode qM_laysOver.1 277 = .ok (.lstore 13, 2) := by decide +kernel
theorem d_M_laysOver_279 : decode qM_laysOver.1 279 = .ok (.iload 8, 2) := by decide +kernel
theorem d_M_laysOver_281 : decode qM_laysOver.1 281 = .ok (.i2l, 1) := by decide +kernel
theorem d_M_laysOver_282 : decode qM_laysOver.1 282 = .ok (.aload_n 0, 1) := by decide +kernel
theorem d_M_laysOver_283 : decode qM_laysOver.1 283 = .ok (.getfield 48, 3) := by decide +kernel
theorem d_M_laysOver_286 : decode qM_laysOver.1 286 = .ok (.iload_n 2, 1) := by decide +kernel
theorem d_M_laysOver_287 : decode qM_laysOver.1 287 = .ok (.iaload, 1) := by decide +kernel
theorem d_M_laysOver_288 : decode qM_laysOver.1 288 = .ok (.i2l, 1) := by decide +kernel
theorem d_M_laysOver_289 : decode qM_laysOver.1 289 = .ok (.lsub, 1) := by decide +kernel
theorem d_M_laysOver_290 : decode qM_laysOver.1 290 = .ok (.lstore 15, 2) := by decide +kernel
theorem d_M_laysOver_292 : decode qM_laysOver.1 292 = .ok (.iload 9, 2) := by decide +kernel
theorem d_M_laysOver_294 : decode qM_laysOver.1 294 = .ok (.i2l, 1) := by decide +kernel
theorem d_M_laysOver_295 : decode qM_laysOver.1 295 = .ok (.aload_n 0, 1) := by decide +kernel
theorem d_M_laysOver_296 : decode qM_laysOver.1 296 = .ok (.getfield 51, 3) := by decide +kernel
theorem d_M_laysOver_299 : decode qM_laysOver.1 299 = .ok (.iload_n 2, 1) := by decide +kernel
theorem d_M_laysOver_300 : decode qM_laysOver.1 300 = .ok (.iaload, 1) := by decide +kernel
theorem d_M_laysOver_301 : decode qM_laysOver.1 301 = .ok (.i2l, 1) := by decide +kernel
theorem d_M_laysOver_302 : decode qM_laysOver.1 302 = .ok (.lsub, 1) := by decide +kernel
theorem d_M_laysOver_303 : decode qM_laysOver.1 303 = .ok (.lstore 17, 2) := by decide +kernel
theorem d_M_laysOver_305 : decode qM_laysOver.1 305 = .ok (.lload 15, 2) := by decide +kernel
theorem d_M_laysOver_307 : decode qM_laysOver.1 307 = .ok (.lload 11, 2) := by decide +kernel
theorem d_M_laysOver_309 : decode qM_laysOver.1 309 = .ok (.lmul, 1) := by decide +kernel
theorem d_M_laysOver_310 : decode qM_laysOver.1 310 = .ok (.lload 17, 2) := by decide +kernel
theorem d_M_laysOver_312 : decode qM_laysOver.1 312 = .ok (.lload 13, 2) := by decide +kernel
theorem d_M_laysOver_314 : decode qM_laysOver.1 314 = .ok (.lmul, 1) := by decide +kernel
theorem d_M_laysOver_315 : decode qM_laysOver.1 315 = .ok (.ladd, 1) := by decide +kernel
theorem d_M_laysOver_316 : decode qM_laysOver.1 316 = .ok (.ldc2_w 160, 3) := by decide +kernel
theorem d_M_laysOver_319 : decode qM_laysOver.1 319 = .ok (.ldiv, 1) := by decide +kernel
theorem d_M_laysOver_320 : decode qM_laysOver.1 320 = .ok (.lstore 19, 2) := by decide +kernel
theorem d_M_laysOver_322 : decode qM_laysOver.1 322 = .ok (.lload 15, 2) := by decide +kernel
theorem d_M_laysOver_324 : decode qM_laysOver.1 324 = .ok (.lload 13, 2) := by decide +kernel
theorem d_M_laysOver_326 : decode qM_laysOver.1 326 = .ok (.lmul, 1) := by decide +kernel
theorem d_M_laysOver_327 : decode qM_laysOver.1 327 = .ok (.lload 17, 2) := by decide +kernel
theorem d_M_laysOver_329 : decode qM_laysOver.1 329 = .ok (.lload 11, 2) := by decide +kernel
theorem d_M_laysOver_331 : decode qM_laysOver.1 331 = .ok (.lmul, 1) := by decide +kernel
theorem d_M_laysOver_332 : decode qM_laysOver.1 332 = .ok (.lsub, 1) := by decide +kernel
theorem d_M_laysOver_333 : decode qM_laysOver.1 333 = .ok (.lstore 21, 2) := by decide +kernel
theorem d_M_laysOver_335 : decode qM_laysOver.1 335 = .ok (.lload 21, 2) := by decide +kernel
theorem d_M_laysOver_337 : decode qM_laysOver.1 337 = .ok (.lconst 0, 1) := by decide +kernel
theorem d_M_laysOver_338 : decode qM_laysOver.1 338 = .ok (.lcmp, 1) := by decide +kernel
theorem d_M_laysOver_339 : decode qM_laysOver.1 339 = .ok (.ifCond .ge 9, 3) := by decide +kernel
theorem d_M_laysOver_342 : decode qM_laysOver.1 342 = .ok (.lload 21, 2) := by decide +kernel
theorem d_M_laysOver_344 : decode qM_laysOver.1 344 = .ok (.lneg, 1) := by decide +kernel
theorem d_M_laysOver_345 : decode qM_laysOver.1 345 = .ok (.goto 5, 3) := by decide +kernel
theorem d_M_laysOver_348 : decode qM_laysOver.1 348 = .ok (.lload 21, 2) := by decide +kernel
theorem d_M_laysOver_350 : decode qM_laysOver.1 350 = .ok (.ldc2_w 160, 3) := by decide +kernel
theorem d_M_laysOver_353 : decode qM_laysOver.1 353 = .ok (.ldiv, 1) := by decide +kernel
theorem d_M_laysOver_354 : decode qM_laysOver.1 354 = .ok (.lstore 23, 2) := by decide +kernel
theorem d_M_laysOver_356 : decode qM_laysOver.1 356 = .ok (.lload 19, 2) := by decide +kernel
theorem d_M_laysOver_358 : decode qM_laysOver.1 358 = .ok (.ldc2_w 305, 3) := by decide +kernel
theorem d_M_laysOver_361 : decode qM_laysOver.1 361 = .ok (.lload 23, 2) := by decide +kernel
theorem d_M_laysOver_363 : decode qM_laysOver.1 363 = .ok (.lmul, 1) := by decide +kernel
theorem d_M_laysOver_364 : decode qM_laysOver.1 364 = .ok (.ladd, 1) := by decide +kernel
theorem d_M_laysOver_365 : decode qM_laysOver.1 365 = .ok (.lstore 25, 2) := by decide +kernel
theorem d_M_laysOver_367 : decode qM_laysOver.1 367 = .ok (.aload_n 0, 1) := by decide +kernel
theorem d_M_laysOver_368 : decode qM_laysOver.1 368 = .ok (.getfield 60, 3) := by decide +kernel
theorem d_M_laysOver_371 : decode qM_laysOver.1 371 = .ok (.iload_n 2, 1) := by decide +kernel
theorem d_M_laysOver_372 : decode qM_laysOver.1 372 = .ok (.iaload, 1) := by decide +kernel
theorem d_M_laysOver_373 : decode qM_laysOver.1 373 = .ok (.istore 27, 2) := by decide +kernel
theorem d_M_laysOver_375 : decode qM_laysOver.1 375 = .ok (.lload 25, 2) := by decide +kernel
theorem d_M_laysOver_377 : decode qM_laysOver.1 377 = .ok (.lconst 0, 1) := by decide +kernel
theorem d_M_laysOver_378 : decode qM_laysOver.1 378 = .ok (.lcmp, 1) := by decide +kernel
theorem d_M_laysOver_379 : decode qM_laysOver.1 379 = .ok (.ifCond .ge 7, 3) := by decide +kernel
theorem d_M_laysOver_382 : decode qM_laysOver.1 382 = .ok (.lconst 0, 1) := by decide +kernel
theorem d_M_laysOver_383 : decode qM_laysOver.1 383 = .ok (.goto 5, 3) := by decide +kernel
theorem d_M_laysOver_386 : decode qM_laysOver.1 386 = .ok (.lload 25, 2) := by decide +kernel
theorem d_M_laysOver_388 : decode qM_laysOver.1 388 = .ok (.lstore 25, 2) := by decide +kernel
theorem d_M_laysOver_390 : decode qM_laysOver.1 390 = .ok (.lload 25, 2) := by decide +kernel
theorem d_M_laysOver_392 : decode qM_laysOver.1 392 = .ok (.iload 27, 2) := by decide +kernel
theorem d_M_laysOver_394 : decode qM_laysOver.1 394 = .ok (.iload_n 3, 1) := by decide +kernel
theorem d_M_laysOver_395 : decode qM_laysOver.1 395 = .ok (.isub, 1) := by decide +kernel
theorem d_M_laysOver_396 : decode qM_laysOver.1 396 = .ok (.i2l, 1) := by decide +kernel
theorem d_M_laysOver_397 : decode qM_laysOver.1 397 = .ok (.lcmp, 1) := by decide +kernel
theorem d_M_laysOver_398 : decode qM_laysOver.1 398 = .ok (.ifCond .le 11, 3) := by decide +kernel
theorem d_M_laysOver_401 : decode qM_laysOver.1 401 = .ok (.iload 27, 2) := by decide +kernel
theorem d_M_laysOver_403 : decode qM_laysOver.1 403 = .ok (.iload_n 3, 1) := by decide +kernel
theorem d_M_laysOver_404 : decode qM_laysOver.1 404 = .ok (.isub, 1) := by decide +kernel
theorem d_M_laysOver_405 : decode qM_laysOver.1 405 = .ok (.i2l, 1) := by decide +kernel
theorem d_M_laysOver_406 : decode qM_laysOver.1 406 = .ok (.goto 5, 3) := by decide +kernel
theorem d_M_laysOver_409 : decode qM_laysOver.1 409 = .ok (.lload 25, 2) := by decide +kernel
theorem d_M_laysOver_411 : decode qM_laysOver.1 411 = .ok (.l2i, 1) := by decide +kernel
theorem d_M_laysOver_412 : decode qM_laysOver.1 412 = .ok (.istore 28, 2) := by decide +kernel
theorem d_M_laysOver_414 : decode qM_laysOver.1 414 = .ok (.aload_n 0, 1) := by decide +kernel
theorem d_M_laysOver_415 : decode qM_laysOver.1 415 = .ok (.getfield 54, 3) := by decide +kernel
theorem d_M_laysOver_418 : decode qM_laysOver.1 418 = .ok (.iload_n 2, 1) := by decide +kernel
theorem d_M_laysOver_419 : decode qM_laysOver.1 419 = .ok (.iaload, 1) := by decide +kernel
theorem d_M_laysOver_420 : decode qM_laysOver.1 420 = .ok (.aload_n 0, 1) := by decide +kernel
theorem d_M_laysOver_421 : decode qM_laysOver.1 421 = .ok (.getfield 48, 3) := by decide +kernel
theorem d_M_laysOver_424 : decode qM_laysOver.1 424 = .ok (.iload_n 2, 1) := by decide +kernel
theorem d_M_laysOver_425 : decode qM_laysOver.1 425 = .ok (.iaload, 1) := by decide +kernel
theorem d_M_laysOver_426 : decode qM_laysOver.1 426 = .ok (.iload 28, 2) := by decide +kernel
theorem d_M_laysOver_428 : decode qM_laysOver.1 428 = .ok (.iload 27, 2) := by decide +kernel
theorem d_M_laysOver_430 : decode qM_laysOver.1 430 = .ok (.invokestatic 302, 3) := by decide +kernel
theorem d_M_laysOver_433 : decode qM_laysOver.1 433 = .ok (.istore 29, 2) := by decide +kernel
theorem d_M_laysOver_435 : decode qM_laysOver.1 435 = .ok (.aload_n 0, 1) := by decide +kernel
theorem d_M_laysOver_436 : decode qM_laysOver.1 436 = .ok (.getfield 57, 3) := by decide +kernel
theorem d_M_laysOver_439 : decode qM_laysOver.1 439 = .ok (.iload_n 2, 1) := by decide +kernel
theorem d_M_laysOver_440 : decode qM_laysOver.1 440 = .ok (.iaload, 1) := by decide +kernel
theorem d_M_laysOver_441 : decode qM_laysOver.1 441 = .ok (.aload_n 0, 1) := by decide +kernel
theorem d_M_laysOver_442 : decode qM_laysOver.1 442 = .ok (.getfield 51, 3) := by decide +kernel
theorem d_M_laysOver_445 : decode qM_laysOver.1 445 = .ok (.iload_n 2, 1) := by decide +kernel
theorem d_M_laysOver_446 : decode qM_laysOver.1 446 = .ok (.iaload, 1) := by decide +kernel
theorem d_M_laysOver_447 : decode qM_laysOver.1 447 = .ok (.iload 28, 2) := by decide +kernel
theorem d_M_laysOver_449 : decode qM_laysOver.1 449 = .ok (.iload 27, 2) := by decide +kernel
theorem d_M_laysOver_451 : decode qM_laysOver.1 451 = .ok (.invokestatic 302, 3) := by decide +kernel
theorem d_M_laysOver_454 : decode qM_laysOver.1 454 = .ok (.istore 30, 2) := by decide +kernel
theorem d_M_laysOver_456 : decode qM_laysOver.1 456 = .ok (.aload_n 0, 1) := by decide +kernel
theorem d_M_laysOver_457 : decode qM_laysOver.1 457 = .ok (.iload 4, 2) := by decide +kernel
theorem d_M_laysOver_459 : decode qM_laysOver.1 459 = .ok (.iconst 0, 1) := by decide +kernel
theorem d_M_laysOver_460 : decode qM_laysOver.1 460 = .ok (.iload 8, 2) := by decide +kernel
theorem d_M_laysOver_462 : decode qM_laysOver.1 462 = .ok (.iload 9, 2) := by decide +kernel
theorem d_M_laysOver_464 : decode qM_laysOver.1 464 = .ok (.iload 29, 2) := by decide +kernel
theorem d_M_laysOver_466 : decode qM_laysOver.1 466 = .ok (.iload 30, 2) := by decide +kernel
theorem d_M_laysOver_468 : decode qM_laysOver.1 468 = .ok (.invokestatic 197, 3) := by decide +kernel
theorem d_M_laysOver_471 : decode qM_laysOver.1 471 = .ok (.aload_n 0, 1) := by decide +kernel
theorem d_M_laysOver_472 : decode qM_laysOver.1 472 = .ok (.iload 8, 2) := by decide +kernel
theorem d_M_laysOver_474 : decode qM_laysOver.1 474 = .ok (.iload 9, 2) := by decide +kernel
theorem d_M_laysOver_476 : decode qM_laysOver.1 476 = .ok (.iload 29, 2) := by decide +kernel
theorem d_M_laysOver_478 : decode qM_laysOver.1 478 = .ok (.iload 30, 2) := by decide +kernel
theorem d_M_laysOver_480 : decode qM_laysOver.1 480 = .ok (.invokevirtual 201, 3) := by decide +kernel
theorem d_M_laysOver_483 : decode qM_laysOver.1 483 = .ok (.iload 29, 2) := by decide +kernel
theorem d_M_laysOver_485 : decode qM_laysOver.1 485 = .ok (.iload 30, 2) := by decide +kernel
theorem d_M_laysOver_487 : decode qM_laysOver.1 487 = .ok (.invokevirtual 298, 3) := by decide +kernel
theorem d_M_laysOver_490 : decode qM_laysOver.1 490 = .ok (.aload_n 0, 1) := by decide +kernel
theorem d_M_laysOver_491 : decode qM_laysOver.1 491 = .ok (.iload 4, 2) := by decide +kernel
theorem d_M_laysOver_493 : decode qM_laysOver.1 493 = .ok (.iconst 0, 1) := by decide +kernel
theorem d_M_laysOver_494 : decode qM_laysOver.1 494 = .ok (.iload 27, 2) := by decide +kernel
theorem d_M_laysOver_496 : decode qM_laysOver.1 496 = .ok (.iload 28, 2) := by decide +kernel
theorem d_M_laysOver_498 : decode qM_laysOver.1 498 = .ok (.isub, 1) := by decide +kernel
theorem d_M_laysOver_499 : decode qM_laysOver.1 499 = .ok (.iload_n 3, 1) := by decide +kernel
theorem d_M_laysOver_500 : decode qM_laysOver.1 500 = .ok (.isub, 1) := by decide +kernel
theorem d_M_laysOver_501 : decode qM_laysOver.1 501 = .ok (.aload_n 0, 1) := by decide +kernel
theorem d_M_laysOver_502 : decode qM_laysOver.1 502 = .ok (.getfield 63, 3) := by decide +kernel
theorem d_M_laysOver_505 : decode qM_laysOver.1 505 = .ok (.iload_n 2, 1) := by decide +kernel
theorem d_M_laysOver_506 : decode qM_laysOver.1 506 = .ok (.iaload, 1) := by decide +kernel
theorem d_M_laysOver_507 : decode qM_laysOver.1 507 = .ok (.aload_n 0, 1) := by decide +kernel
theorem d_M_laysOver_508 : decode qM_laysOver.1 508 = .ok (.getfield 48, 3) := by decide +kernel
theorem d_M_laysOver_511 : decode qM_laysOver.1 511 = .ok (.iload_n 2, 1) := by decide +kernel
theorem d_M_laysOver_512 : decode qM_laysOver.1 512 = .ok (.iaload, 1) := by decide +kernel
theorem d_M_laysOver_513 : decode qM_laysOver.1 513 = .ok (.aload_n 0, 1) := by decide +kernel
theorem d_M_laysOver_514 : decode qM_laysOver.1 514 = .ok (.getfield 54, 3) := by decide +kernel
theorem d_M_laysOver_517 : decode qM_laysOver.1 517 = .ok (.iload_n 2, 1) := by decide +kernel
theorem d_M_laysOver_518 : decode qM_laysOver.1 518 = .ok (.iaload, 1) := by decide +kernel
theorem d_M_laysOver_519 : decode qM_laysOver.1 519 = .ok (.iload_n 3, 1) := by decide +kernel
theorem d_M_laysOver_520 : decode qM_laysOver.1 520 = .ok (.iload 27, 2) := by decide +kernel
theorem d_M_laysOver_522 : decode qM_laysOver.1 522 = .ok (.invokestatic 302, 3) := by decide +kernel
theorem d_M_laysOver_525 : decode qM_laysOver.1 525 = .ok (.aload_n 0, 1) := by decide +kernel
theorem d_M_laysOver_526 : decode qM_laysOver.1 526 = .ok (.getfield 51, 3) := by decide +kernel
theorem d_M_laysOver_529 : decode qM_laysOver.1 529 = .ok (.iload_n 2, 1) := by decide +kernel
theorem d_M_laysOver_530 : decode qM_laysOver.1 530 = .ok (.iaload, 1) := by decide +kernel
theorem d_M_laysOver_531 : decode qM_laysOver.1 531 = .ok (.aload_n 0, 1) := by decide +kernel
theorem d_M_laysOver_532 : decode qM_laysOver.1 532 = .ok (.getfield 57, 3) := by decide +kernel
theorem d_M_laysOver_535 : decode qM_laysOver.1 535 = .ok (.iload_n 2, 1) := by decide +kernel
theorem d_M_laysOver_536 : decode qM_laysOver.1 536 = .ok (.iaload, 1) := by decide +kernel
theorem d_M_laysOver_537 : decode qM_laysOver.1 537 = .ok (.iload_n 3, 1) := by decide +kernel
theorem d_M_laysOver_538 : decode qM_laysOver.1 538 = .ok (.iload 27, 2) := by decide +kernel
theorem d_M_laysOver_540 : decode qM_laysOver.1 540 = .ok (.invokestatic 302, 3) := by decide +kernel
theorem d_M_laysOver_543 : decode qM_laysOver.1 543 = .ok (.invokevirtual 298, 3) := by decide +kernel
theorem d_M_laysOver_546 : decode qM_laysOver.1 546 = .ok (.return_, 1) := by decide +kernel
set_option maxRecDepth 100000 in
def m_laysOver (σ : St) (p1 : Int32) (p2 : Int32) (p3 : Int32) : Option (St) :=
  Gd (Ix p2 42) <|
  Lt ((σ 7 (Int32.toNatClampNeg p2)) : Int32) fun x1 =>
  Gd (Ix p2 42) <|
  Jn (fun (x2 : Int32) =>
  Gd (Ix p2 42) <|
  Lt (((σ 14 (Int32.toNatClampNeg p2)) + x2) : Int32) fun x4 =>
  Gd (Ix p2 42) <|
  Lt (((σ 13 (Int32.toNatClampNeg p2)) + x2) : Int32) fun x5 =>
  Gd (Ix p2 42) <|
  Gd (Ix p2 42) <|
  Option.bind (m_sx σ x4) fun x6 =>
  Option.bind (m_sx σ x5) fun x7 =>
  Lt ((Int64.toInt32 ((Int32.toInt64 (σ 8 (Int32.toNatClampNeg p2))) + (((Int32.toInt64 (σ 26 (Int32.toNatClampNeg p2))) * (Int32.toInt64 (x6 - x7))) / (1000 : Int64)))) : Int32) fun x8 =>
  Gd (Ix p2 42) <|
  Gd (Ix p2 42) <|
  Option.bind (m_sy σ x4) fun x9 =>
  Option.bind (m_sy σ x5) fun x10 =>
  Lt ((Int64.toInt32 ((Int32.toInt64 (σ 9 (Int32.toNatClampNeg p2))) + (((Int32.toInt64 (σ 26 (Int32.toNatClampNeg p2))) * (Int32.toInt64 (x9 - x10))) / (1000 : Int64)))) : Int32) fun x11 =>
  Gd (Ix p2 42) <|
  Gd (Ix p2 42) <|
  Option.bind (m_piece σ x1 (1 : Int32) (σ 28 (Int32.toNatClampNeg p2)) (σ 13 (Int32.toNatClampNeg p2)) x8 x11) fun x12 =>
  Option.bind (m_of x12 p1 x1 (0 : Int32)) fun x13 =>
  Jn (fun (_ : Unit) =>
  Gd (Ix p2 42) <|
  Gd (Ix p2 42) <|
  Option.bind (m_distance x8 x11 (x12 10 (Int32.toNatClampNeg p2)) (x12 11 (Int32.toNatClampNeg p2))) fun x15 =>
  Gd (Ix p2 42) <|
  Gd (Ix p2 42) <|
  Option.bind (m_courseTo x12 x8 x11 (x12 10 (Int32.toNatClampNeg p2)) (x12 11 (Int32.toNatClampNeg p2))) fun x16 =>
  Gd (Ix p2 42) <|
  Option.bind (m_before x8 (x12 10 (Int32.toNatClampNeg p2)) p3 x15) fun x17 =>
  Gd (Ix p2 42) <|
  Option.bind (m_before x11 (x12 11 (Int32.toNatClampNeg p2)) p3 x15) fun x18 =>
  Option.bind (m_piece x12 x1 (0 : Int32) (x15 - p3) x16 x17 x18) fun x19 =>
  some x19
  ) fun J14 =>
  if (x13 : Int32) = (2 : Int32) then (
  J14 ()
  ) else (
  if (x13 : Int32) = (7 : Int32) then (
  J14 ()
  ) else (
  Gd (Ix p2 42) <|
  Option.bind (m_sx x12 (x12 13 (Int32.toNatClampNeg p2))) fun x20 =>
  Lt ((Int32.toInt64 x20) : Int64) fun x21 =>
  Gd (Ix p2 42) <|
  Option.bind (m_sy x12 (x12 13 (Int32.toNatClampNeg p2))) fun x22 =>
  Lt ((Int32.toInt64 x22) : Int64) fun x23 =>
  Gd (Ix p2 42) <|
  Lt (((Int32.toInt64 x8) - (Int32.toInt64 (x12 8 (Int32.toNatClampNeg p2)))) : Int64) fun x24 =>
  Gd (Ix p2 42) <|
  Lt (((Int32.toInt64 x11) - (Int32.toInt64 (x12 9 (Int32.toNatClampNeg p2)))) : Int64) fun x25 =>
  Lt ((((x24 * x21) + (x25 * x23)) / (1000 : Int64)) : Int64) fun x26 =>
  Lt (((x24 * x23) - (x25 * x21)) : Int64) fun x27 =>
  Jn (fun (x28 : Int64) =>
  Lt ((x28 / (1000 : Int64)) : Int64) fun x30 =>
  Lt ((x26 + ((2 : Int64) * x30)) : Int64) fun x31 =>
  Gd (Ix p2 42) <|
  Lt ((x12 12 (Int32.toNatClampNeg p2)) : Int32) fun x32 =>
  Jn (fun (x33 : Int64) =>
  Jn (fun (x35 : Int64) =>
  Lt ((Int64.toInt32 x35) : Int32) fun x37 =>
  Gd (Ix p2 42) <|
  Gd (Ix p2 42) <|
  Option.bind (m_before (x12 10 (Int32.toNatClampNeg p2)) (x12 8 (Int32.toNatClampNeg p2)) x37 x32) fun x38 =>
  Gd (Ix p2 42) <|
  Gd (Ix p2 42) <|
  Option.bind (m_before (x12 11 (Int32.toNatClampNeg p2)) (x12 9 (Int32.toNatClampNeg p2)) x37 x32) fun x39 =>
  Option.bind (m_distance x8 x11 x38 x39) fun x40 =>
  Option.bind (m_courseTo x12 x8 x11 x38 x39) fun x41 =>
  Option.bind (m_piece x12 x1 (0 : Int32) x40 x41 x38 x39) fun x42 =>
  Gd (Ix p2 42) <|
  Gd (Ix p2 42) <|
  Gd (Ix p2 42) <|
  Option.bind (m_before (x42 8 (Int32.toNatClampNeg p2)) (x42 10 (Int32.toNatClampNeg p2)) p3 x32) fun x43 =>
  Gd (Ix p2 42) <|
  Gd (Ix p2 42) <|
  Option.bind (m_before (x42 9 (Int32.toNatClampNeg p2)) (x42 11 (Int32.toNatClampNeg p2)) p3 x32) fun x44 =>
  Option.bind (m_piece x42 x1 (0 : Int32) ((x32 - x37) - p3) (x42 13 (Int32.toNatClampNeg p2)) x43 x44) fun x45 =>
  some x45
  ) fun J36 =>
  if (x33 : Int64) ≤ (Int32.toInt64 (x32 - p3)) then (
  J36 x33
  ) else (
  J36 (Int32.toInt64 (x32 - p3))
  )
  ) fun J34 =>
  if ((0 : Int64) : Int64) ≤ x31 then (
  J34 x31
  ) else (
  J34 (0 : Int64)
  )
  ) fun J29 =>
  if ((0 : Int64) : Int64) ≤ x27 then (
  J29 x27
  ) else (
  J29 (-x27)
  )
  )
  )
  ) fun J3 =>
  if ((σ 25 (Int32.toNatClampNeg p2)) : Int32) ≤ 0 then (
  J3 (-6 : Int32)
  ) else (
  J3 (6 : Int32)
  )
set_option maxHeartbeats 4000000 in
set_option maxRecDepth 100000 in
theorem cM_laysOver (l : Launch) (g : Ge) (hi : injB wM.2 g) (σ : St) (p1 : Int32) (p2 : Int32) (p3 : Int32) (x : St) (h : m_laysOver σ p1 p2 p3 = some x) : Ct l wM g yM_laysOver qM_laysOver 3 75 [.ref (g.1 0), .int p1, .int p2, .int p3] σ (none, x) := by
  refine Ct.of (out := o_v) FM_laysOver rfl hi rfl h (fun z hz C => ?_)
  clear h
  subst hz
  unfold m_laysOver
  show Rt z qM_laysOver wM g o_v 0 [(0, .ref (g.1 0)), (1, .int p1), (2, .int p2), (3, .int p3)] [] σ _
  refine q_aload_n (pc' := 1) C 0 d_M_laysOver_0 rfl rfl ?_
  refine gM_45 (pc' := 4) C d_M_laysOver_1 rfl rfl ?_
  refine q_iload_n (pc' := 5) C 2 d_M_laysOver_4 rfl rfl ?_
  refine q_iald (pc' := 6) C 7 jM_7 kM_7 d_M_laysOver_5 rfl ?_
  refine q_let (fun x1 e1 => ?_)
  refine q_topi e1 ?_
  refine q_istore (pc' := 8) (lv' := [(4, .int x1), (0, .ref (g.1 0)), (1, .int p1), (2, .int p2), (3, .int p3)]) C d_M_laysOver_6 (by decide) rfl rfl ?_
  refine q_aload_n (pc' := 9) C 1 d_M_laysOver_8 rfl rfl ?_
  refine gM_99 (pc' := 12) C d_M_laysOver_9 rfl rfl ?_
  refine q_iload_n (pc' := 13) C 3 d_M_laysOver_12 rfl rfl ?_
  refine q_iald (pc' := 14) C 25 jM_25 kM_25 d_M_laysOver_13 rfl ?_
  refine q_join (fun J3 : Int32 → Option (St) => ∀ (x2 : Int32), Rt z qM_laysOver wM g o_v 24 [(0, .ref (g.1 0)), (1, .int p1), (2, .int p2), (3, .int p3), (4, .int x1)] [.int x2] σ (J3 x2)) (fun x2 => ?_) (fun J3 hJ3 => ?_)
  · refine q_istore (pc' := 26) (lv' := [(5, .int x2), (0, .ref (g.1 0)), (1, .int p1), (2, .int p2), (3, .int p3), (4, .int x1)]) C d_M_laysOver_24 (by decide) rfl rfl ?_
    refine q_aload_n (pc' := 27) C 1 d_M_laysOver_26 rfl rfl ?_
    refine gM_66 (pc' := 30) C d_M_laysOver_27 rfl rfl ?_
    refine q_iload_n (pc' := 31) C 3 d_M_laysOver_30 rfl rfl ?_
    refine q_iald (pc' := 32) C 14 jM_14 kM_14 d_M_laysOver_31 rfl ?_
    refine q_iload (pc' := 34) C 0 d_M_laysOver_32 rfl rfl ?_
    refine q_iadd (pc' := 35) C d_M_laysOver_34 rfl ?_
    refine q_let (fun x4 e4 => ?_)
    refine q_topi e4 ?_
    refine q_istore (pc' := 37) (lv' := [(6, .int x4), (5, .int x2), (0, .ref (g.1 0)), (1, .int p1), (2, .int p2), (3, .int p3), (4, .int x1)]) C d_M_laysOver_35 (by decide) rfl rfl ?_
    refine q_aload_n (pc' := 38) C 2 d_M_laysOver_37 rfl rfl ?_
    refine gM_63 (pc' := 41) C d_M_laysOver_38 rfl rfl ?_
    refine q_iload_n (pc' := 42) C 4 d_M_laysOver_41 rfl rfl ?_
    refine q_iald (pc' := 43) C 13 jM_13 kM_13 d_M_laysOver_42 rfl ?_
    refine q_iload (pc' := 45) C 1 d_M_laysOver_43 rfl rfl ?_
    refine q_iadd (pc' := 46) C d_M_laysOver_45 rfl ?_
    refine q_let (fun x5 e5 => ?_)
    refine q_topi e5 ?_
    refine q_istore (pc' := 48) (lv' := [(7, .int x5), (6, .int x4), (5, .int x2), (0, .ref (g.1 0)), (1, .int p1), (2, .int p2), (3, .int p3), (4, .int x1)]) C d_M_laysOver_46 (by decide) rfl rfl ?_
    refine q_aload_n (pc' := 49) C 3 d_M_laysOver_48 rfl rfl ?_
    refine gM_48 (pc' := 52) C d_M_laysOver_49 rfl rfl ?_
    refine q_iload_n (pc' := 53) C 5 d_M_laysOver_52 rfl rfl ?_
    refine q_iald (pc' := 54) C 8 jM_8 kM_8 d_M_laysOver_53 rfl ?_
    refine q_i2l (pc' := 55) C d_M_laysOver_54 rfl ?_
    refine q_aload_n (pc' := 56) C 3 d_M_laysOver_55 rfl rfl ?_
    refine gM_102 (pc' := 59) C d_M_laysOver_56 rfl rfl ?_
    refine q_iload_n (pc' := 60) C 5 d_M_laysOver_59 rfl rfl ?_
    refine q_iald (pc' := 61) C 26 jM_26 kM_26 d_M_laysOver_60 rfl ?_
    refine q_i2l (pc' := 62) C d_M_laysOver_61 rfl ?_
    refine q_aload_n (pc' := 63) C 3 d_M_laysOver_62 rfl rfl ?_
    refine q_iload (pc' := 65) C 1 d_M_laysOver_63 rfl rfl ?_
    refine q_callVr (fr' := 1) (lo' := 20) (pc' := 68) C FM_sx lmM_162 d_M_laysOver_65 0 jM_0 kM_0 cM0 [.int x4] [.long (Int32.toInt64 (σ 26 (Int32.toNatClampNeg p2))), .long (Int32.toInt64 (σ 8 (Int32.toNatClampNeg p2)))] rfl rfl (Nat.le_of_ble_eq_true rfl) ⟨rfl, rfl⟩ (fun x h => cM_sx _ g hi σ x4 x h) rfl (fun x6 _ => ?_)
    refine q_aload_n (pc' := 69) C 3 d_M_laysOver_68 rfl rfl ?_
    refine q_iload (pc' := 71) C 0 d_M_laysOver_69 rfl rfl ?_
    refine q_callVr (fr' := 1) (lo' := 20) (pc' := 74) C FM_sx lmM_162 d_M_laysOver_71 0 jM_0 kM_0 cM0 [.int x5] [.int x6, .long (Int32.toInt64 (σ 26 (Int32.toNatClampNeg p2))), .long (Int32.toInt64 (σ 8 (Int32.toNatClampNeg p2)))] rfl rfl (Nat.le_of_ble_eq_true rfl) ⟨rfl, rfl⟩ (fun x h => cM_sx _ g hi σ x5 x h) rfl (fun x7 _ => ?_)
    refine q_isub (pc' := 75) C d_M_laysOver_74 rfl ?_
    refine q_i2l (pc' := 76) C d_M_laysOver_75 rfl ?_
    refine q_lmul (pc' := 77) C d_M_laysOver_76 rfl ?_
    refine q_ldc2 (pc' := 80) C lLM_160 d_M_laysOver_77 rfl ?_
    refine q_ldiv (pc' := 81) C (by decide) d_M_laysOver_80 rfl ?_
    refine q_ladd (pc' := 82) C d_M_laysOver_81 rfl ?_
    refine q_l2i (pc' := 83) C d_M_laysOver_82 rfl ?_
    refine q_let (fun x8 e8 => ?_)
    refine q_topi e8 ?_
    refine q_istore (pc' := 85) (lv' := [(8, .int x8), (7, .int x5), (6, .int x4), (5, .int x2), (0, .ref (g.1 0)), (1, .int p1), (2, .int p2), (3, .int p3), (4, .int x1)]) C d_M_laysOver_83 (by decide) rfl rfl ?_
    refine q_aload_n (pc' := 86) C 4 d_M_laysOver_85 rfl rfl ?_
    refine gM_51 (pc' := 89) C d_M_laysOver_86 rfl rfl ?_
    refine q_iload_n (pc' := 90) C 6 d_M_laysOver_89 rfl rfl ?_
    refine q_iald (pc' := 91) C 9 jM_9 kM_9 d_M_laysOver_90 rfl ?_
    refine q_i2l (pc' := 92) C d_M_laysOver_91 rfl ?_
    refine q_aload_n (pc' := 93) C 4 d_M_laysOver_92 rfl rfl ?_
    refine gM_102 (pc' := 96) C d_M_laysOver_93 rfl rfl ?_
    refine q_iload_n (pc' := 97) C 6 d_M_laysOver_96 rfl rfl ?_
    refine q_iald (pc' := 98) C 26 jM_26 kM_26 d_M_laysOver_97 rfl ?_
    refine q_i2l (pc' := 99) C d_M_laysOver_98 rfl ?_
    refine q_aload_n (pc' := 100) C 4 d_M_laysOver_99 rfl rfl ?_
    refine q_iload (pc' := 102) C 2 d_M_laysOver_100 rfl rfl ?_
    refine q_callVr (fr' := 1) (lo' := 20) (pc' := 105) C FM_sy lmM_165 d_M_laysOver_102 0 jM_0 kM_0 cM0 [.int x4] [.long (Int32.toInt64 (σ 26 (Int32.toNatClampNeg p2))), .long (Int32.toInt64 (σ 9 (Int32.toNatClampNeg p2)))] rfl rfl (Nat.le_of_ble_eq_true rfl) ⟨rfl, rfl⟩ (fun x h => cM_sy _ g hi σ x4 x h) rfl (fun x9 _ => ?_)
    refine q_aload_n (pc' := 106) C 4 d_M_laysOver_105 rfl rfl ?_
    refine q_iload (pc' := 108) C 1 d_M_laysOver_106 rfl rfl ?_
    refine q_callVr (fr' := 1) (lo' := 20) (pc' := 111) C FM_sy lmM_165 d_M_laysOver_108 0 jM_0 kM_0 cM0 [.int x5] [.int x9, .long (Int32.toInt64 (σ 26 (Int32.toNatClampNeg p2))), .long (Int32.toInt64 (σ 9 (Int32.toNatClampNeg p2)))] rfl rfl (Nat.le_of_ble_eq_true rfl) ⟨rfl, rfl⟩ (fun x h => cM_sy _ g hi σ x5 x h) rfl (fun x10 _ => ?_)
    refine q_isub (pc' := 112) C d_M_laysOver_111 rfl ?_
    refine q_i2l (pc' := 113) C d_M_laysOver_112 rfl ?_
    refine q_lmul (pc' := 114) C d_M_laysOver_113 rfl ?_
    refine q_ldc2 (pc' := 117) C lLM_160 d_M_laysOver_114 rfl ?_
    refine q_ldiv (pc' := 118) C (by decide) d_M_laysOver_117 rfl ?_
    refine q_ladd (pc' := 119) C d_M_laysOver_118 rfl ?_
    refine q_l2i (pc' := 120) C d_M_laysOver_119 rfl ?_
    refine q_let (fun x11 e11 => ?_)
    refine q_topi e11 ?_
    refine q_istore (pc' := 122) (lv' := [(9, .int x11), (8, .int x8), (7, .int x5), (6, .int x4), (5, .int x2), (0, .ref (g.1 0)), (1, .int p1), (2, .int p2), (3, .int p3), (4, .int x1)]) C d_M_laysOver_120 (by decide) rfl rfl ?_
    refine q_aload_n (pc' := 123) C 5 d_M_laysOver_122 rfl rfl ?_
    refine q_iload (pc' := 125) C 9 d_M_laysOver_123 rfl rfl ?_
    refine q_iconst (pc' := 126) C d_M_laysOver_125 ki_1 rfl ?_
    refine q_aload_n (pc' := 127) C 5 d_M_laysOver_126 rfl rfl ?_
    refine gM_108 (pc' := 130) C d_M_laysOver_127 rfl rfl ?_
    refine q_iload_n (pc' := 131) C 7 d_M_laysOver_130 rfl rfl ?_
    refine q_iald (pc' := 132) C 28 jM_28 kM_28 d_M_laysOver_131 rfl ?_
    refine q_aload_n (pc' := 133) C 5 d_M_laysOver_132 rfl rfl ?_
    refine gM_63 (pc' := 136) C d_M_laysOver_133 rfl rfl ?_
    refine q_iload_n (pc' := 137) C 7 d_M_laysOver_136 rfl rfl ?_
    refine q_iald (pc' := 138) C 13 jM_13 kM_13 d_M_laysOver_137 rfl ?_
    refine q_iload (pc' := 140) C 1 d_M_laysOver_138 rfl rfl ?_
    refine q_iload (pc' := 142) C 0 d_M_laysOver_140 rfl rfl ?_
    refine q_callVv (fr' := 0) (lo' := 0) (pc' := 145) C FM_piece lmM_298 d_M_laysOver_142 0 jM_0 kM_0 cM0 [.int x1, .int (1 : Int32), .int (σ 28 (Int32.toNatClampNeg p2)), .int (σ 13 (Int32.toNatClampNeg p2)), .int x8, .int x11] [] rfl rfl (Nat.le_of_ble_eq_true rfl) ⟨rfl, rfl⟩ (fun x h => cM_piece _ g hi σ x1 (1 : Int32) (σ 28 (Int32.toNatClampNeg p2)) (σ 13 (Int32.toNatClampNeg p2)) x8 x11 x h) rfl (fun x12 _ => ?_)
    refine q_aload_n (pc' := 146) C 5 d_M_laysOver_145 rfl rfl ?_
    refine q_iload_n (pc' := 147) C 6 d_M_laysOver_146 rfl rfl ?_
    refine q_iload (pc' := 149) C 9 d_M_laysOver_147 rfl rfl ?_
    refine q_iconst (pc' := 150) C d_M_laysOver_149 ki_0 rfl ?_
    refine q_callVr (fr' := 0) (lo' := 0) (pc' := 153) C FM_of lmM_168 d_M_laysOver_150 0 jM_0 kM_0 cM0 [.int p1, .int x1, .int (0 : Int32)] [] rfl rfl (Nat.le_of_ble_eq_true rfl) ⟨rfl, rfl⟩ (fun x h => cM_of _ g hi x12 p1 x1 (0 : Int32) x h) rfl (fun x13 _ => ?_)
    refine q_istore (pc' := 155) (lv' := [(10, .int x13), (9, .int x11), (8, .int x8), (7, .int x5), (6, .int x4), (5, .int x2), (0, .ref (g.1 0)), (1, .int p1), (2, .int p2), (3, .int p3), (4, .int x1)]) C d_M_laysOver_153 (by decide) rfl rfl ?_
    refine q_iload (pc' := 157) C 0 d_M_laysOver_155 rfl rfl ?_
    refine q_iconst (pc' := 158) C d_M_laysOver_157 ki_2 rfl ?_
    refine q_join (fun J14 : Unit → Option (St) => ∀ (_ : Unit), Rt z qM_laysOver wM g o_v 168 [(0, .ref (g.1 0)), (2, .int p2), (3, .int p3), (4, .int x1), (8, .int x8), (9, .int x11)] [] x12 (J14 ())) (fun _ => ?_) (fun J14 hJ14 => ?_)
    · refine q_iload (pc' := 170) C 4 d_M_laysOver_168 rfl rfl ?_
      refine q_iload (pc' := 172) C 5 d_M_laysOver_170 rfl rfl ?_
      refine q_aload_n (pc' := 173) C 0 d_M_laysOver_172 rfl rfl ?_
      refine gM_54 (pc' := 176) C d_M_laysOver_173 rfl rfl ?_
      refine q_iload_n (pc' := 177) C 1 d_M_laysOver_176 rfl rfl ?_
      refine q_iald (pc' := 178) C 10 jM_10 kM_10 d_M_laysOver_177 rfl ?_
      refine q_aload_n (pc' := 179) C 0 d_M_laysOver_178 rfl rfl ?_
      refine gM_57 (pc' := 182) C d_M_laysOver_179 rfl rfl ?_
      refine q_iload_n (pc' := 183) C 1 d_M_laysOver_182 rfl rfl ?_
      refine q_iald (pc' := 184) C 11 jM_11 kM_11 d_M_laysOver_183 rfl ?_
      refine q_callSr (fr' := 0) (lo' := 0) (pc' := 187) C FM_distance lmM_197 d_M_laysOver_184 [.int x8, .int x11, .int (x12 10 (Int32.toNatClampNeg p2)), .int (x12 11 (Int32.toNatClampNeg p2))] [] rfl rfl (Nat.le_of_ble_eq_true rfl) ⟨rfl, rfl⟩ (fun x h => cM_distance _ g hi x12 x8 x11 (x12 10 (Int32.toNatClampNeg p2)) (x12 11 (Int32.toNatClampNeg p2)) x h) rfl (fun x15 _ => ?_)
      refine q_istore (pc' := 189) (lv' := [(11, .int x15), (0, .ref (g.1 0)), (2, .int p2), (3, .int p3), (4, .int x1), (8, .int x8), (9, .int x11)]) C d_M_laysOver_187 (by decide) rfl rfl ?_
      refine q_aload_n (pc' := 190) C 1 d_M_laysOver_189 rfl rfl ?_
      refine q_iload (pc' := 192) C 5 d_M_laysOver_190 rfl rfl ?_
      refine q_iload (pc' := 194) C 6 d_M_laysOver_192 rfl rfl ?_
      refine q_aload_n (pc' := 195) C 1 d_M_laysOver_194 rfl rfl ?_
      refine gM_54 (pc' := 198) C d_M_laysOver_195 rfl rfl ?_
      refine q_iload_n (pc' := 199) C 2 d_M_laysOver_198 rfl rfl ?_
      refine q_iald (pc' := 200) C 10 jM_10 kM_10 d_M_laysOver_199 rfl ?_
      refine q_aload_n (pc' := 201) C 1 d_M_laysOver_200 rfl rfl ?_
      refine gM_57 (pc' := 204) C d_M_laysOver_201 rfl rfl ?_
      refine q_iload_n (pc' := 205) C 2 d_M_laysOver_204 rfl rfl ?_
      refine q_iald (pc' := 206) C 11 jM_11 kM_11 d_M_laysOver_205 rfl ?_
      refine q_callVr (fr' := 2) (lo' := 41) (pc' := 209) C FM_courseTo lmM_201 d_M_laysOver_206 0 jM_0 kM_0 cM0 [.int x8, .int x11, .int (x12 10 (Int32.toNatClampNeg p2)), .int (x12 11 (Int32.toNatClampNeg p2))] [] rfl rfl (Nat.le_of_ble_eq_true rfl) ⟨rfl, rfl⟩ (fun x h => cM_courseTo _ g hi x12 x8 x11 (x12 10 (Int32.toNatClampNeg p2)) (x12 11 (Int32.toNatClampNeg p2)) x h) rfl (fun x16 _ => ?_)
      refine q_istore (pc' := 211) (lv' := [(12, .int x16), (11, .int x15), (0, .ref (g.1 0)), (2, .int p2), (3, .int p3), (4, .int x1), (8, .int x8), (9, .int x11)]) C d_M_laysOver_209 (by decide) rfl rfl ?_
      refine q_aload_n (pc' := 212) C 2 d_M_laysOver_211 rfl rfl ?_
      refine q_iload (pc' := 214) C 5 d_M_laysOver_212 rfl rfl ?_
      refine q_iconst (pc' := 215) C d_M_laysOver_214 ki_0 rfl ?_
      refine q_iload (pc' := 217) C 1 d_M_laysOver_215 rfl rfl ?_
      refine q_iload_n (pc' := 218) C 4 d_M_laysOver_217 rfl rfl ?_
      refine q_isub (pc' := 219) C d_M_laysOver_218 rfl ?_
      refine q_iload (pc' := 221) C 0 d_M_laysOver_219 rfl rfl ?_
      refine q_iload (pc' := 223) C 6 d_M_laysOver_221 rfl rfl ?_
      refine q_aload_n (pc' := 224) C 2 d_M_laysOver_223 rfl rfl ?_
      refine gM_54 (pc' := 227) C d_M_laysOver_224 rfl rfl ?_
      refine q_iload_n (pc' := 228) C 3 d_M_laysOver_227 rfl rfl ?_
      refine q_iald (pc' := 229) C 10 jM_10 kM_10 d_M_laysOver_228 rfl ?_
      refine q_iload_n (pc' := 230) C 4 d_M_laysOver_229 rfl rfl ?_
      refine q_iload (pc' := 232) C 1 d_M_laysOver_230 rfl rfl ?_
      refine q_callSr (fr' := 0) (lo' := 0) (pc' := 235) C FM_before lmM_302 d_M_laysOver_232 [.int x8, .int (x12 10 (Int32.toNatClampNeg p2)), .int p3, .int x15] [.int x16, .int (x15 - p3), .int (0 : Int32), .int x1, .ref (g.1 0)] rfl rfl (Nat.le_of_ble_eq_true rfl) ⟨rfl, rfl⟩ (fun x h => cM_before _ g hi x12 x8 (x12 10 (Int32.toNatClampNeg p2)) p3 x15 x h) rfl (fun x17 _ => ?_)
      refine q_iload (pc' := 237) C 7 d_M_laysOver_235 rfl rfl ?_
      refine q_aload_n (pc' := 238) C 2 d_M_laysOver_237 rfl rfl ?_
      refine gM_57 (pc' := 241) C d_M_laysOver_238 rfl rfl ?_
      refine q_iload_n (pc' := 242) C 3 d_M_laysOver_241 rfl rfl ?_
      refine q_iald (pc' := 243) C 11 jM_11 kM_11 d_M_laysOver_242 rfl ?_
      refine q_iload_n (pc' := 244) C 4 d_M_laysOver_243 rfl rfl ?_
      refine q_iload (pc' := 246) C 1 d_M_laysOver_244 rfl rfl ?_
      refine q_callSr (fr' := 0) (lo' := 0) (pc' := 249) C FM_before lmM_302 d_M_laysOver_246 [.int x11, .int (x12 11 (Int32.toNatClampNeg p2)), .int p3, .int x15] [.int x17, .int x16, .int (x15 - p3), .int (0 : Int32), .int x1, .ref (g.1 0)] rfl rfl (Nat.le_of_ble_eq_true rfl) ⟨rfl, rfl⟩ (fun x h => cM_before _ g hi x12 x11 (x12 11 (Int32.toNatClampNeg p2)) p3 x15 x h) rfl (fun x18 _ => ?_)
      refine q_callVv (fr' := 0) (lo' := 0) (pc' := 252) C FM_piece lmM_298 d_M_laysOver_249 0 jM_0 kM_0 cM0 [.int x1, .int (0 : Int32), .int (x15 - p3), .int x16, .int x17, .int x18] [] rfl rfl (Nat.le_of_ble_eq_true rfl) ⟨rfl, rfl⟩ (fun x h => cM_piece _ g hi x12 x1 (0 : Int32) (x15 - p3) x16 x17 x18 x h) rfl (fun x19 _ => ?_)
      exact q_vret C rfl d_M_laysOver_252 rfl
    refine q_icmp_eq (tgt := 168) (pc' := 161) C d_M_laysOver_158 rfl rfl ?_ ?_
    · exact Rt.sub [6, 8, 9, 10, 2, 1] rfl (hJ14 ())
    · refine q_iload (pc' := 163) C 0 d_M_laysOver_161 rfl rfl ?_
      refine q_bipush (pc' := 165) C d_M_laysOver_163 kb_7 rfl ?_
      refine q_icmp_ne (tgt := 253) (pc' := 168) C d_M_laysOver_165 rfl rfl ?_ ?_
      · refine q_aload_n (pc' := 254) C 6 d_M_laysOver_253 rfl rfl ?_
        refine q_aload_n (pc' := 255) C 6 d_M_laysOver_254 rfl rfl ?_
        refine gM_63 (pc' := 258) C d_M_laysOver_255 rfl rfl ?_
        refine q_iload_n (pc' := 259) C 8 d_M_laysOver_258 rfl rfl ?_
        refine q_iald (pc' := 260) C 13 jM_13 kM_13 d_M_laysOver_259 rfl ?_
        refine q_callVr (fr' := 1) (lo' := 20) (pc' := 263) C FM_sx lmM_162 d_M_laysOver_260 0 jM_0 kM_0 cM0 [.int (x12 13 (Int32.toNatClampNeg p2))] [] rfl rfl (Nat.le_of_ble_eq_true rfl) ⟨rfl, rfl⟩ (fun x h => cM_sx _ g hi x12 (x12 13 (Int32.toNatClampNeg p2)) x h) rfl (fun x20 _ => ?_)
        refine q_i2l (pc' := 264) C d_M_laysOver_263 rfl ?_
        refine q_let (fun x21 e21 => ?_)
        refine q_topl e21 ?_
        refine q_lstore (pc' := 266) (lv' := [(11, .long x21), (10, .int x13), (9, .int x11), (8, .int x8), (7, .int x5), (6, .int x4), (5, .int x2), (0, .ref (g.1 0)), (1, .int p1), (2, .int p2), (3, .int p3), (4, .int x1)]) C d_M_laysOver_264 (by decide) rfl rfl ?_
        refine q_aload_n (pc' := 267) C 7 d_M_laysOver_266 rfl rfl ?_
        refine q_aload_n (pc' := 268) C 7 d_M_laysOver_267 rfl rfl ?_
        refine gM_63 (pc' := 271) C d_M_laysOver_268 rfl rfl ?_
        refine q_iload_n (pc' := 272) C 9 d_M_laysOver_271 rfl rfl ?_
        refine q_iald (pc' := 273) C 13 jM_13 kM_13 d_M_laysOver_272 rfl ?_
        refine q_callVr (fr' := 1) (lo' := 20) (pc' := 276) C FM_sy lmM_165 d_M_laysOver_273 0 jM_0 kM_0 cM0 [.int (x12 13 (Int32.toNatClampNeg p2))] [] rfl rfl (Nat.le_of_ble_eq_true rfl) ⟨rfl, rfl⟩ (fun x h => cM_sy _ g hi x12 (x12 13 (Int32.toNatClampNeg p2)) x h) rfl (fun x22 _ => ?_)
        refine q_i2l (pc' := 277) C d_M_laysOver_276 rfl ?_
        refine q_let (fun x23 e23 => ?_)
        refine q_topl e23 ?_
        refine q_lstore (pc' := 279) (lv' := [(13, .long x23), (11, .long x21), (10, .int x13), (9, .int x11), (8, .int x8), (7, .int x5), (6, .int x4), (5, .int x2), (0, .ref (g.1 0)), (1, .int p1), (2, .int p2), (3, .int p3), (4, .int x1)]) C d_M_laysOver_277 (by decide) rfl rfl ?_
        refine q_iload (pc' := 281) C 4 d_M_laysOver_279 rfl rfl ?_
        refine q_i2l (pc' := 282) C d_M_laysOver_281 rfl ?_
        refine q_aload_n (pc' := 283) C 8 d_M_laysOver_282 rfl rfl ?_
        refine gM_48 (pc' := 286) C d_M_laysOver_283 rfl rfl ?_
        refine q_iload_n (pc' := 287) C 10 d_M_laysOver_286 rfl rfl ?_
        refine q_iald (pc' := 288) C 8 jM_8 kM_8 d_M_laysOver_287 rfl ?_
        refine q_i2l (pc' := 289) C d_M_laysOver_288 rfl ?_
        refine q_lsub (pc' := 290) C d_M_laysOver_289 rfl ?_
        refine q_let (fun x24 e24 => ?_)
        refine q_topl e24 ?_
        refine q_lstore (pc' := 292) (lv' := [(15, .long x24), (13, .long x23), (11, .long x21), (10, .int x13), (9, .int x11), (8, .int x8), (7, .int x5), (6, .int x4), (5, .int x2), (0, .ref (g.1 0)), (1, .int p1), (2, .int p2), (3, .int p3), (4, .int x1)]) C d_M_laysOver_290 (by decide) rfl rfl ?_
        refine q_iload (pc' := 294) C 4 d_M_laysOver_292 rfl rfl ?_
        refine q_i2l (pc' := 295) C d_M_laysOver_294 rfl ?_
        refine q_aload_n (pc' := 296) C 9 d_M_laysOver_295 rfl rfl ?_
        refine gM_51 (pc' := 299) C d_M_laysOver_296 rfl rfl ?_
        refine q_iload_n (pc' := 300) C 11 d_M_laysOver_299 rfl rfl ?_
        refine q_iald (pc' := 301) C 9 jM_9 kM_9 d_M_laysOver_300 rfl ?_
        refine q_i2l (pc' := 302) C d_M_laysOver_301 rfl ?_
        refine q_lsub (pc' := 303) C d_M_laysOver_302 rfl ?_
        refine q_let (fun x25 e25 => ?_)
        refine q_topl e25 ?_
        refine q_lstore (pc' := 305) (lv' := [(17, .long x25), (15, .long x24), (13, .long x23), (11, .long x21), (10, .int x13), (9, .int x11), (8, .int x8), (7, .int x5), (6, .int x4), (5, .int x2), (0, .ref (g.1 0)), (1, .int p1), (2, .int p2), (3, .int p3), (4, .int x1)]) C d_M_laysOver_303 (by decide) rfl rfl ?_
        refine q_lload (pc' := 307) C 1 d_M_laysOver_305 rfl rfl ?_
        refine q_lload (pc' := 309) C 3 d_M_laysOver_307 rfl rfl ?_
        refine q_lmul (pc' := 310) C d_M_laysOver_309 rfl ?_
        refine q_lload (pc' := 312) C 0 d_M_laysOver_310 rfl rfl ?_
        refine q_lload (pc' := 314) C 2 d_M_laysOver_312 rfl rfl ?_
        refine q_lmul (pc' := 315) C d_M_laysOver_314 rfl ?_
        refine q_ladd (pc' := 316) C d_M_laysOver_315 rfl ?_
        refine q_ldc2 (pc' := 319) C lLM_160 d_M_laysOver_316 rfl ?_
        refine q_ldiv (pc' := 320) C (by decide) d_M_laysOver_319 rfl ?_
        refine q_let (fun x26 e26 => ?_)
        refine q_topl e26 ?_
        refine q_lstore (pc' := 322) (lv' := [(19, .long x26), (17, .long x25), (15, .long x24), (13, .long x23), (11, .long x21), (10, .int x13), (9, .int x11), (8, .int x8), (7, .int x5), (6, .int x4), (5, .int x2), (0, .ref (g.1 0)), (1, .int p1), (2, .int p2), (3, .int p3), (4, .int x1)]) C d_M_laysOver_320 (by decide) rfl rfl ?_
        refine q_lload (pc' := 324) C 2 d_M_laysOver_322 rfl rfl ?_
        refine q_lload (pc' := 326) C 3 d_M_laysOver_324 rfl rfl ?_
        refine q_lmul (pc' := 327) C d_M_laysOver_326 rfl ?_
        refine q_lload (pc' := 329) C 1 d_M_laysOver_327 rfl rfl ?_
        refine q_lload (pc' := 331) C 4 d_M_laysOver_329 rfl rfl ?_
        refine q_lmul (pc' := 332) C d_M_laysOver_331 rfl ?_
        refine q_lsub (pc' := 333) C d_M_laysOver_332 rfl ?_
        refine q_let (fun x27 e27 => ?_)
        refine q_topl e27 ?_
        refine q_lstore (pc' := 335) (lv' := [(21, .long x27), (19, .long x26), (17, .long x25), (15, .long x24), (13, .long x23), (11, .long x21), (10, .int x13), (9, .int x11), (8, .int x8), (7, .int x5), (6, .int x4), (5, .int x2), (0, .ref (g.1 0)), (1, .int p1), (2, .int p2), (3, .int p3), (4, .int x1)]) C d_M_laysOver_333 (by decide) rfl rfl ?_
        refine q_lload (pc' := 337) C 0 d_M_laysOver_335 rfl rfl ?_
        refine q_lconst (pc' := 338) C d_M_laysOver_337 kl_0 rfl ?_
        refine q_join (fun J29 : Int64 → Option (St) => ∀ (x28 : Int64), Rt z qM_laysOver wM g o_v 350 [(0, .ref (g.1 0)), (2, .int p2), (3, .int p3), (4, .int x1), (8, .int x8), (9, .int x11), (19, .long x26)] [.long x28] x12 (J29 x28)) (fun x28 => ?_) (fun J29 hJ29 => ?_)
        · refine q_ldc2 (pc' := 353) C lLM_160 d_M_laysOver_350 rfl ?_
          refine q_ldiv (pc' := 354) C (by decide) d_M_laysOver_353 rfl ?_
          refine q_let (fun x30 e30 => ?_)
          refine q_topl e30 ?_
          refine q_lstore (pc' := 356) (lv' := [(23, .long x30), (0, .ref (g.1 0)), (2, .int p2), (3, .int p3), (4, .int x1), (8, .int x8), (9, .int x11), (19, .long x26)]) C d_M_laysOver_354 (by decide) rfl rfl ?_
          refine q_lload (pc' := 358) C 7 d_M_laysOver_356 rfl rfl ?_
          refine q_ldc2 (pc' := 361) C lLM_305 d_M_laysOver_358 rfl ?_
          refine q_lload (pc' := 363) C 0 d_M_laysOver_361 rfl rfl ?_
          refine q_lmul (pc' := 364) C d_M_laysOver_363 rfl ?_
          refine q_ladd (pc' := 365) C d_M_laysOver_364 rfl ?_
          refine q_let (fun x31 e31 => ?_)
          refine q_topl e31 ?_
          refine q_lstore (pc' := 367) (lv' := [(25, .long x31), (23, .long x30), (0, .ref (g.1 0)), (2, .int p2), (3, .int p3), (4, .int x1), (8, .int x8), (9, .int x11), (19, .long x26)]) C d_M_laysOver_365 (by decide) rfl rfl ?_
          refine q_aload_n (pc' := 368) C 2 d_M_laysOver_367 rfl rfl ?_
          refine gM_60 (pc' := 371) C d_M_laysOver_368 rfl rfl ?_
          refine q_iload_n (pc' := 372) C 3 d_M_laysOver_371 rfl rfl ?_
          refine q_iald (pc' := 373) C 12 jM_12 kM_12 d_M_laysOver_372 rfl ?_
          refine q_let (fun x32 e32 => ?_)
          refine q_topi e32 ?_
          refine q_istore (pc' := 375) (lv' := [(27, .int x32), (25, .long x31), (23, .long x30), (0, .ref (g.1 0)), (2, .int p2), (3, .int p3), (4, .int x1), (8, .int x8), (9, .int x11), (19, .long x26)]) C d_M_laysOver_373 (by decide) rfl rfl ?_
          refine q_lload (pc' := 377) C 1 d_M_laysOver_375 rfl rfl ?_
          refine q_lconst (pc' := 378) C d_M_laysOver_377 kl_0 rfl ?_
          refine q_join (fun J34 : Int64 → Option (St) => ∀ (x33 : Int64), Rt z qM_laysOver wM g o_v 388 [(0, .ref (g.1 0)), (2, .int p2), (3, .int p3), (4, .int x1), (8, .int x8), (9, .int x11), (27, .int x32)] [.long x33] x12 (J34 x33)) (fun x33 => ?_) (fun J34 hJ34 => ?_)
          · refine q_lstore (pc' := 390) (lv' := [(25, .long x33), (0, .ref (g.1 0)), (2, .int p2), (3, .int p3), (4, .int x1), (8, .int x8), (9, .int x11), (27, .int x32)]) C d_M_laysOver_388 (by decide) rfl rfl ?_
            refine q_lload (pc' := 392) C 0 d_M_laysOver_390 rfl rfl ?_
            refine q_iload (pc' := 394) C 7 d_M_laysOver_392 rfl rfl ?_
            refine q_iload_n (pc' := 395) C 3 d_M_laysOver_394 rfl rfl ?_
            refine q_isub (pc' := 396) C d_M_laysOver_395 rfl ?_
            refine q_i2l (pc' := 397) C d_M_laysOver_396 rfl ?_
            refine q_join (fun J36 : Int64 → Option (St) => ∀ (x35 : Int64), Rt z qM_laysOver wM g o_v 411 [(0, .ref (g.1 0)), (2, .int p2), (3, .int p3), (4, .int x1), (8, .int x8), (9, .int x11), (27, .int x32)] [.long x35] x12 (J36 x35)) (fun x35 => ?_) (fun J36 hJ36 => ?_)
            · refine q_l2i (pc' := 412) C d_M_laysOver_411 rfl ?_
              refine q_let (fun x37 e37 => ?_)
              refine q_topi e37 ?_
              refine q_istore (pc' := 414) (lv' := [(28, .int x37), (0, .ref (g.1 0)), (2, .int p2), (3, .int p3), (4, .int x1), (8, .int x8), (9, .int x11), (27, .int x32)]) C d_M_laysOver_412 (by decide) rfl rfl ?_
              refine q_aload_n (pc' := 415) C 1 d_M_laysOver_414 rfl rfl ?_
              refine gM_54 (pc' := 418) C d_M_laysOver_415 rfl rfl ?_
              refine q_iload_n (pc' := 419) C 2 d_M_laysOver_418 rfl rfl ?_
              refine q_iald (pc' := 420) C 10 jM_10 kM_10 d_M_laysOver_419 rfl ?_
              refine q_aload_n (pc' := 421) C 1 d_M_laysOver_420 rfl rfl ?_
              refine gM_48 (pc' := 424) C d_M_laysOver_421 rfl rfl ?_
              refine q_iload_n (pc' := 425) C 2 d_M_laysOver_424 rfl rfl ?_
              refine q_iald (pc' := 426) C 8 jM_8 kM_8 d_M_laysOver_425 rfl ?_
              refine q_iload (pc' := 428) C 0 d_M_laysOver_426 rfl rfl ?_
              refine q_iload (pc' := 430) C 7 d_M_laysOver_428 rfl rfl ?_
              refine q_callSr (fr' := 0) (lo' := 0) (pc' := 433) C FM_before lmM_302 d_M_laysOver_430 [.int (x12 10 (Int32.toNatClampNeg p2)), .int (x12 8 (Int32.toNatClampNeg p2)), .int x37, .int x32] [] rfl rfl (Nat.le_of_ble_eq_true rfl) ⟨rfl, rfl⟩ (fun x h => cM_before _ g hi x12 (x12 10 (Int32.toNatClampNeg p2)) (x12 8 (Int32.toNatClampNeg p2)) x37 x32 x h) rfl (fun x38 _ => ?_)
              refine q_istore (pc' := 435) (lv' := [(29, .int x38), (28, .int x37), (0, .ref (g.1 0)), (2, .int p2), (3, .int p3), (4, .int x1), (8, .int x8), (9, .int x11), (27, .int x32)]) C d_M_laysOver_433 (by decide) rfl rfl ?_
              refine q_aload_n (pc' := 436) C 2 d_M_laysOver_435 rfl rfl ?_
              refine gM_57 (pc' := 439) C d_M_laysOver_436 rfl rfl ?_
              refine q_iload_n (pc' := 440) C 3 d_M_laysOver_439 rfl rfl ?_
              refine q_iald (pc' := 441) C 11 jM_11 kM_11 d_M_laysOver_440 rfl ?_
              refine q_aload_n (pc' := 442) C 2 d_M_laysOver_441 rfl rfl ?_
              refine gM_51 (pc' := 445) C d_M_laysOver_442 rfl rfl ?_
              refine q_iload_n (pc' := 446) C 3 d_M_laysOver_445 rfl rfl ?_
              refine q_iald (pc' := 447) C 9 jM_9 kM_9 d_M_laysOver_446 rfl ?_
              refine q_iload (pc' := 449) C 1 d_M_laysOver_447 rfl rfl ?_
              refine q_iload (pc' := 451) C 8 d_M_laysOver_449 rfl rfl ?_
              refine q_callSr (fr' := 0) (lo' := 0) (pc' := 454) C FM_before lmM_302 d_M_laysOver_451 [.int (x12 11 (Int32.toNatClampNeg p2)), .int (x12 9 (Int32.toNatClampNeg p2)), .int x37, .int x32] [] rfl rfl (Nat.le_of_ble_eq_true rfl) ⟨rfl, rfl⟩ (fun x h => cM_before _ g hi x12 (x12 11 (Int32.toNatClampNeg p2)) (x12 9 (Int32.toNatClampNeg p2)) x37 x32 x h) rfl (fun x39 _ => ?_)
              refine q_istore (pc' := 456) (lv' := [(30, .int x39), (29, .int x38), (28, .int x37), (0, .ref (g.1 0)), (2, .int p2), (3, .int p3), (4, .int x1), (8, .int x8), (9, .int x11), (27, .int x32)]) C d_M_laysOver_454 (by decide) rfl rfl ?_
              refine q_aload_n (pc' := 457) C 3 d_M_laysOver_456 rfl rfl ?_
              refine q_iload (pc' := 459) C 6 d_M_laysOver_457 rfl rfl ?_
              refine q_iconst (pc' := 460) C d_M_laysOver_459 ki_0 rfl ?_
              refine q_iload (pc' := 462) C 7 d_M_laysOver_460 rfl rfl ?_
              refine q_iload (pc' := 464) C 8 d_M_laysOver_462 rfl rfl ?_
              refine q_iload (pc' := 466) C 1 d_M_laysOver_464 rfl rfl ?_
              refine q_iload (pc' := 468) C 0 d_M_laysOver_466 rfl rfl ?_
              refine q_callSr (fr' := 0) (lo' := 0) (pc' := 471) C FM_distance lmM_197 d_M_laysOver_468 [.int x8, .int x11, .int x38, .int x39] [.int (0 : Int32), .int x1, .ref (g.1 0)] rfl rfl (Nat.le_of_ble_eq_true rfl) ⟨rfl, rfl⟩ (fun x h => cM_distance _ g hi x12 x8 x11 x38 x39 x h) rfl (fun x40 _ => ?_)
              refine q_aload_n (pc' := 472) C 3 d_M_laysOver_471 rfl rfl ?_
              refine q_iload (pc' := 474) C 7 d_M_laysOver_472 rfl rfl ?_
              refine q_iload (pc' := 476) C 8 d_M_laysOver_474 rfl rfl ?_
              refine q_iload (pc' := 478) C 1 d_M_laysOver_476 rfl rfl ?_
              refine q_iload (pc' := 480) C 0 d_M_laysOver_478 rfl rfl ?_
              refine q_callVr (fr' := 2) (lo' := 41) (pc' := 483) C FM_courseTo lmM_201 d_M_laysOver_480 0 jM_0 kM_0 cM0 [.int x8, .int x11, .int x38, .int x39] [.int x40, .int (0 : Int32), .int x1, .ref (g.1 0)] rfl rfl (Nat.le_of_ble_eq_true rfl) ⟨rfl, rfl⟩ (fun x h => cM_courseTo _ g hi x12 x8 x11 x38 x39 x h) rfl (fun x41 _ => ?_)
              refine q_iload (pc' := 485) C 1 d_M_laysOver_483 rfl rfl ?_
              refine q_iload (pc' := 487) C 0 d_M_laysOver_485 rfl rfl ?_
              refine q_callVv (fr' := 0) (lo' := 0) (pc' := 490) C FM_piece lmM_298 d_M_laysOver_487 0 jM_0 kM_0 cM0 [.int x1, .int (0 : Int32), .int x40, .int x41, .int x38, .int x39] [] rfl rfl (Nat.le_of_ble_eq_true rfl) ⟨rfl, rfl⟩ (fun x h => cM_piece _ g hi x12 x1 (0 : Int32) x40 x41 x38 x39 x h) rfl (fun x42 _ => ?_)
              refine q_aload_n (pc' := 491) C 3 d_M_laysOver_490 rfl rfl ?_
              refine q_iload (pc' := 493) C 6 d_M_laysOver_491 rfl rfl ?_
              refine q_iconst (pc' := 494) C d_M_laysOver_493 ki_0 rfl ?_
              refine q_iload (pc' := 496) C 9 d_M_laysOver_494 rfl rfl ?_
              refine q_iload (pc' := 498) C 2 d_M_laysOver_496 rfl rfl ?_
              refine q_isub (pc' := 499) C d_M_laysOver_498 rfl ?_
              refine q_iload_n (pc' := 500) C 5 d_M_laysOver_499 rfl rfl ?_
              refine q_isub (pc' := 501) C d_M_laysOver_500 rfl ?_
              refine q_aload_n (pc' := 502) C 3 d_M_laysOver_501 rfl rfl ?_
              refine gM_63 (pc' := 505) C d_M_laysOver_502 rfl rfl ?_
              refine q_iload_n (pc' := 506) C 4 d_M_laysOver_505 rfl rfl ?_
              refine q_iald (pc' := 507) C 13 jM_13 kM_13 d_M_laysOver_506 rfl ?_
              refine q_aload_n (pc' := 508) C 3 d_M_laysOver_507 rfl rfl ?_
              refine gM_48 (pc' := 511) C d_M_laysOver_508 rfl rfl ?_
              refine q_iload_n (pc' := 512) C 4 d_M_laysOver_511 rfl rfl ?_
              refine q_iald (pc' := 513) C 8 jM_8 kM_8 d_M_laysOver_512 rfl ?_
              refine q_aload_n (pc' := 514) C 3 d_M_laysOver_513 rfl rfl ?_
              refine gM_54 (pc' := 517) C d_M_laysOver_514 rfl rfl ?_
              refine q_iload_n (pc' := 518) C 4 d_M_laysOver_517 rfl rfl ?_
              refine q_iald (pc' := 519) C 10 jM_10 kM_10 d_M_laysOver_518 rfl ?_
              refine q_iload_n (pc' := 520) C 5 d_M_laysOver_519 rfl rfl ?_
              refine q_iload (pc' := 522) C 9 d_M_laysOver_520 rfl rfl ?_
              refine q_callSr (fr' := 0) (lo' := 0) (pc' := 525) C FM_before lmM_302 d_M_laysOver_522 [.int (x42 8 (Int32.toNatClampNeg p2)), .int (x42 10 (Int32.toNatClampNeg p2)), .int p3, .int x32] [.int (x42 13 (Int32.toNatClampNeg p2)), .int ((x32 - x37) - p3), .int (0 : Int32), .int x1, .ref (g.1 0)] rfl rfl (Nat.le_of_ble_eq_true rfl) ⟨rfl, rfl⟩ (fun x h => cM_before _ g hi x42 (x42 8 (Int32.toNatClampNeg p2)) (x42 10 (Int32.toNatClampNeg p2)) p3 x32 x h) rfl (fun x43 _ => ?_)
              refine q_aload_n (pc' := 526) C 3 d_M_laysOver_525 rfl rfl ?_
              refine gM_51 (pc' := 529) C d_M_laysOver_526 rfl rfl ?_
              refine q_iload_n (pc' := 530) C 4 d_M_laysOver_529 rfl rfl ?_
              refine q_iald (pc' := 531) C 9 jM_9 kM_9 d_M_laysOver_530 rfl ?_
              refine q_aload_n (pc' := 532) C 3 d_M_laysOver_531 rfl rfl ?_
              refine gM_57 (pc' := 535) C d_M_laysOver_532 rfl rfl ?_
              refine q_iload_n (pc' := 536) C 4 d_M_laysOver_535 rfl rfl ?_
              refine q_iald (pc' := 537) C 11 jM_11 kM_11 d_M_laysOver_536 rfl ?_
              refine q_iload_n (pc' := 538) C 5 d_M_laysOver_537 rfl rfl ?_
              refine q_iload (pc' := 540) C 9 d_M_laysOver_538 rfl rfl ?_
              refine q_callSr (fr' := 0) (lo' := 0) (pc' := 543) C FM_before lmM_302 d_M_laysOver_540 [.int (x42 9 (Int32.toNatClampNeg p2)), .int (x42 11 (Int32.toNatClampNeg p2)), .int p3, .int x32] [.int x43, .int (x42 13 (Int32.toNatClampNeg p2)), .int ((x32 - x37) - p3), .int (0 : Int32), .int x1, .ref (g.1 0)] rfl rfl (Nat.le_of_ble_eq_true rfl) ⟨rfl, rfl⟩ (fun x h => cM_before _ g hi x42 (x42 9 (Int32.toNatClampNeg p2)) (x42 11 (Int32.toNatClampNeg p2)) p3 x32 x h) rfl (fun x44 _ => ?_)
              refine q_callVv (fr' := 0) (lo' := 0) (pc' := 546) C FM_piece lmM_298 d_M_laysOver_543 0 jM_0 kM_0 cM0 [.int x1, .int (0 : Int32), .int ((x32 - x37) - p3), .int (x42 13 (Int32.toNatClampNeg p2)), .int x43, .int x44] [] rfl rfl (Nat.le_of_ble_eq_true rfl) ⟨rfl, rfl⟩ (fun x h => cM_piece _ g hi x42 x1 (0 : Int32) ((x32 - x37) - p3) (x42 13 (Int32.toNatClampNeg p2)) x43 x44 x h) rfl (fun x45 _ => ?_)
              exact q_vret C rfl d_M_laysOver_546 rfl
            refine q_lcmp_le (tgt := 409) (pc' := 401) C d_M_laysOver_397 d_M_laysOver_398 rfl rfl ?_ ?_
            · refine q_lload (pc' := 411) C 0 d_M_laysOver_409 rfl rfl ?_
              exact Rt.sub [1, 2, 3, 4, 5, 6, 7] rfl (hJ36 x33)
            · refine q_iload (pc' := 403) C 7 d_M_laysOver_401 rfl rfl ?_
              refine q_iload_n (pc' := 404) C 3 d_M_laysOver_403 rfl rfl ?_
              refine q_isub (pc' := 405) C d_M_laysOver_404 rfl ?_
              refine q_i2l (pc' := 406) C d_M_laysOver_405 rfl ?_
              refine q_goto (tgt := 411) C d_M_laysOver_406 rfl ?_
              exact Rt.sub [1, 2, 3, 4, 5, 6, 7] rfl (hJ36 (Int32.toInt64 (x32 - p3)))
          refine q_lcmp_ge (tgt := 386) (pc' := 382) C d_M_laysOver_378 d_M_laysOver_379 rfl rfl ?_ ?_
          · refine q_lload (pc' := 388) C 1 d_M_laysOver_386 rfl rfl ?_
            exact Rt.sub [3, 4, 5, 6, 7, 8, 0] rfl (hJ34 x31)
          · refine q_lconst (pc' := 383) C d_M_laysOver_382 kl_0 rfl ?_
            refine q_goto (tgt := 388) C d_M_laysOver_383 rfl ?_
            exact Rt.sub [3, 4, 5, 6, 7, 8, 0] rfl (hJ34 (0 : Int64))
        refine q_lcmp_ge (tgt := 348) (pc' := 342) C d_M_laysOver_338 d_M_laysOver_339 rfl rfl ?_ ?_
        · refine q_lload (pc' := 350) C 0 d_M_laysOver_348 rfl rfl ?_
          exact Rt.sub [12, 14, 15, 16, 8, 7, 1] rfl (hJ29 x27)
        · refine q_lload (pc' := 344) C 0 d_M_laysOver_342 rfl rfl ?_
          refine q_lneg (pc' := 345) C d_M_laysOver_344 rfl ?_
          refine q_goto (tgt := 350) C d_M_laysOver_345 rfl ?_
          exact Rt.sub [12, 14, 15, 16, 8, 7, 1] rfl (hJ29 (-x27))
      · exact Rt.sub [6, 8, 9, 10, 2, 1] rfl (hJ14 ())
  refine q_if_le (tgt := 22) (pc' := 17) C d_M_laysOver_14 rfl rfl ?_ ?_
  · refine q_bipush (pc' := 24) C d_M_laysOver_22 kb_m6 rfl ?_
    exact Rt.sub [1, 2, 3, 4, 0] rfl (hJ3 (-6 : Int32))
  · refine q_bipush (pc' := 19) C d_M_laysOver_17 kb_6 rfl ?_
    refine q_goto (tgt := 24) C d_M_laysOver_19 rfl ?_
    exact Rt.sub [1, 2, 3, 4, 0] rfl (hJ3 (6 : Int32))
theorem d_M_laysSegment_0 : decode qM_laysSegment.1 0 = .ok (.iload_n 2, 1) := by decide +kernel
theorem d_M_laysSegment_1 : decode qM_laysSegment.1 1 = .ok (.iconst 1, 1) := by decide +kernel
theorem d_M_laysSegment_2 : decode qM_laysSegment.1 2 = .ok (.iadd, 1) := by decide +kernel
theorem d_M_laysSegment_3 : decode qM_laysSegment.1 3 = .ok (.aload_n 0, 1) := by decide +kernel
theorem d_M_laysSegment_4 : decode qM_laysSegment.1 4 = .ok (.getfield 172, 3) := by decide +kernel
theorem d_M_laysSegment_7 : decode qM_laysSegment.1 7 = .ok (.if_icmp .ge 26, 3) := by decide +kernel
theorem d_M_laysSegment_10 : decode qM_laysSegment.1 10 = .ok (.aload_n 0, 1) := by decide +kernel
theorem d_M_laysSegment_11 : decode qM_laysSegment.1 11 = .ok (.getfield 75, 3) := by decide +kernel
theorem d_M_laysSegment_14 : decode qM_laysSegment.1 14 = .ok (.iload_n 2, 1) := by decide +kernel
theorem d_M_laysSegment_15 : decode qM_laysSegment.1 15 = .ok (.iconst 1, 1) := by decide +kernel
theorem d_M_laysSegment_16 : decode qM_laysSegment.1 16 = .ok (.iadd, 1) := by decide +kernel
theorem d_M_laysSegment_17 : decode qM_laysSegment.1 17 = .ok (.iaload, 1) := by decide +kernel
theorem d_M_laysSegment_18 : decode qM_laysSegment.1 18 = .ok (.iload_n 2, 1) := by decide +kernel
theorem d_M_laysSegment_19 : decode qM_laysSegment.1 19 = .ok (.if_icmp .ne 14, 3) := by decide +kernel
theorem d_M_laysSegment_22 : decode qM_laysSegment.1 22 = .ok (.aload_n 0, 1) := by decide +kernel
theorem d_M_laysSegment_23 : decode qM_laysSegment.1 23 = .ok (.getfield 105, 3) := by decide +kernel
theorem d_M_laysSegment_26 : decode qM_laysSegment.1 26 = .ok (.iload_n 2, 1) := by decide +kernel
theorem d_M_laysSegment_27 : decode qM_laysSegment.1 27 = .ok (.iconst 1, 1) := by decide +kernel
theorem d_M_laysSegment_28 : decode qM_laysSegment.1 28 = .ok (.iadd, 1) := by decide +kernel
theorem d_M_laysSegment_29 : decode qM_laysSegment.1 29 = .ok (.iaload, 1) := by decide +kernel
theorem d_M_laysSegment_30 : decode qM_laysSegment.1 30 = .ok (.goto 4, 3) := by decide +kernel
theorem d_M_laysSegment_33 : decode qM_laysSegment.1 33 = .ok (.iconst 0, 1) := by decide +kernel
theorem d_M_laysSegment_34 : decode qM_laysSegment.1 34 = .ok (.istore_n 3, 1) := by decide +kernel
theorem d_M_laysSegment_35 : decode qM_laysSegment.1 35 = .ok (.aload_n 0, 1) := by decide +kernel
theorem d_M_laysSegment_36 : decode qM_laysSegment.1 36 = .ok (.getfield 60, 3) := by decide +kernel
theorem d_M_laysSegment_39 : decode qM_laysSegment.1 39 = .ok (.iload_n 2, 1) := by decide +kernel
theorem d_M_laysSegment_40 : decode qM_laysSegment.1 40 = .ok (.iaload, 1) := by decide +kernel
theorem d_M_laysSegment_41 : decode qM_laysSegment.1 41 = .ok (.istore 4, 2) := by decide +kernel
theorem d_M_laysSegment_43 : decode qM_laysSegment.1 43 = .ok (.aload_n 0, 1) := by decide +kernel
theorem d_M_laysSegment_44 : decode qM_laysSegment.1 44 = .ok (.getfield 45, 3) := by decide +kernel
theorem d_M_laysSegment_47 : decode qM_laysSegment.1 47 = .ok (.iload_n 2, 1) := by decide +kernel
theorem d_M_laysSegment_48 : decode qM_laysSegment.1 48 = .ok (.iaload, 1) := by decide +kernel
theorem d_M_laysSegment_49 : decode qM_laysSegment.1 49 = .ok (.istore 5, 2) := by decide +kernel
theorem d_M_laysSegment_51 : decode qM_laysSegment.1 51 = .ok (.aload_n 0, 1) := by decide +kernel
theorem d_M_laysSegment_52 : decode qM_laysSegment.1 52 = .ok (.getfield 96, 3) := by decide +kernel
theorem d_M_laysSegment_55 : decode qM_laysSegment.1 55 = .ok (.iload_n 2, 1) := by decide +kernel
theorem d_M_laysSegment_56 : decode qM_laysSegment.1 56 = .ok (.iaload, 1) := by decide +kernel
theorem d_M_laysSegment_57 : decode qM_laysSegment.1 57 = .ok (.iconst 2, 1) := by decide +kernel
theorem d_M_laysSegment_58 : decode qM_laysSegment.1 58 = .ok (.if_icmp .ne 11, 3) := by decide +kernel
theorem d_M_laysSegment_61 : decode qM_laysSegment.1 61 = .ok (.aload_n 0, 1) := by decide +kernel
theorem d_M_laysSegment_62 : decode qM_laysSegment.1 62 = .ok (.iload_n 1, 1) := by decide +kernel
theorem d_M_laysSegment_63 : decode qM_laysSegment.1 63 = .ok (.iload_n 2, 1) := by decide +kernel
theorem d_M_laysSegment_64 : decode qM_laysSegment.1 64 = .ok (.iload_n 3, 1) := by decide +kernel
theorem d_M_laysSegment_65 : decode qM_laysSegment.1 65 = .ok (.invokevirtual 307, 3) := by decide +kernel
theorem d_M_laysSegment_68 : decode qM_laysSegment.1 68 = .ok (.return_, 1) := by decide +kernel
theorem d_M_laysSegment_69 : decode qM_laysSegment.1 69 = .ok (.aload_n 0, 1) := by decide +kernel
theorem d_M_laysSegment_70 : decode qM_laysSegment.1 70 = .ok (.getfield 105, 3) := by decide +kernel
theorem d_M_laysSegment_73 : decode qM_laysSegment.1 73 = .ok (.iload_n 2, 1) := by decide +kernel
theorem d_M_laysSegment_74 : decode qM_laysSegment.1 74 = .ok (.iaload, 1) := by decide +kernel
theorem d_M_laysSegment_75 : decode qM_laysSegment.1 75 = .ok (.istore 6, 2) := by decide +kernel
theorem d_M_laysSegment_77 : decode qM_laysSegment.1 77 = .ok (.aload_n 0, 1) := by decide +kernel
theorem d_M_laysSegment_78 : decode qM_laysSegment.1 78 = .ok (.getfield 96, 3) := by decide +kernel
theorem d_M_laysSegment_81 : decode qM_laysSegment.1 81 = .ok (.iload_n 2, 1) := by decide +kernel
theorem d_M_laysSegment_82 : decode qM_laysSegment.1 82 = .ok (.iaload, 1) := by decide +kernel
theorem d_M_laysSegment_83 : decode qM_laysSegment.1 83 = .ok (.iconst 1, 1) := by decide +kernel
theorem d_M_laysSegment_84 : decode qM_laysSegment.1 84 = .ok (.if_icmp .ne 60, 3) := by decide +kernel
theorem d_M_laysSegment_87 : decode qM_laysSegment.1 87 = .ok (.aload_n 0, 1) := by decide +kernel
theorem d_M_laysSegment_88 : decode qM_laysSegment.1 88 = .ok (.iload 5, 2) := by decide +kernel
theorem d_M_laysSegment_90 : decode qM_laysSegment.1 90 = .ok (.iconst 1, 1) := by decide +kernel
theorem d_M_laysSegment_91 : decode qM_laysSegment.1 91 = .ok (.aload_n 0, 1) := by decide +kernel
theorem d_M_laysSegment_92 : decode qM_laysSegment.1 92 = .ok (.getfield 108, 3) := by decide +kernel
theorem d_M_laysSegment_95 : decode qM_laysSegment.1 95 = .ok (.iload_n 2, 1) := by decide +kernel
theorem d_M_laysSegment_96 : decode qM_laysSegment.1 96 = .ok (.iaload, 1) := by decide +kernel
theorem d_M_laysSegment_97 : decode qM_laysSegment.1 97 = .ok (.aload_n 0, 1) := by decide +kernel
theorem d_M_laysSegment_98 : decode qM_laysSegment.1 98 = .ok (.getfield 63, 3) := by decide +kernel
theorem d_M_laysSegment_101 : decode qM_laysSegment.1 101 = .ok (.iload_n 2, 1) := by decide +kernel
theorem d_M_laysSegment_102 : decode qM_laysSegment.1 102 = .ok (.iaload, 1) := by decide +kernel
theorem d_M_laysSegment_103 : decode qM_laysSegment.1 103 = .ok (.aload_n 0, 1) := by decide +kernel
theorem d_M_laysSegment_104 : decode qM_laysSegment.1 104 = .ok (.getfield 54, 3) := by decide +kernel
theorem d_M_laysSegment_107 : decode qM_laysSegment.1 107 = .ok (.iload_n 2, 1) := by decide +kernel
theorem d_M_laysSegment_108 : decode qM_laysSegment.1 108 = .ok (.iaload, 1) := by decide +kernel
theorem d_M_laysSegment_109 : decode qM_laysSegment.1 109 = .ok (.aload_n 0, 1) := by decide +kernel
theorem d_M_laysSegment_110 : decode qM_laysSegment.1 110 = .ok (.getfield 48, 3) := by decide +kernel
theorem d_M_laysSegment_113 : decode qM_laysSegment.1 113 = .ok (.iload_n 2, 1) := by decide +kernel
theorem d_M_laysSegment_114 : decode qM_laysSegment.1 114 = .ok (.iaload, 1) := by decide +kernel
theorem d_M_laysSegment_115 : decode qM_laysSegment.1 115 = .ok (.iload 6, 2) := by decide +kernel
theorem d_M_laysSegment_117 : decode qM_laysSegment.1 117 = .ok (.iload 4, 2) := by decide +kernel
theorem d_M_laysSegment_119 : decode qM_laysSegment.1 119 = .ok (.invokestatic 302, 3) := by decide +kernel
theorem d_M_laysSegment_122 : decode qM_laysSegment.1 122 = .ok (.aload_n 0, 1) := by decide +kernel
theorem d_M_laysSegment_123 : decode qM_laysSegment.1 123 = .ok (.getfield 57, 3) := by decide +kernel
theorem d_M_laysSegment_126 : decode qM_laysSegment.1 126 = .ok (.iload_n 2, 1) := by decide +kernel
theorem d_M_laysSegment_127 : decode qM_laysSegment.1 127 = .ok (.iaload, 1) := by decide +kernel
theorem d_M_laysSegment_128 : decode qM_laysSegment.1 128 = .ok (.aload_n 0, 1) := by decide +kernel
theorem d_M_laysSegment_129 : decode qM_laysSegment.1 129 = .ok (.getfield 51, 3) := by decide +kernel
theorem d_M_laysSegment_132 : decode qM_laysSegment.1 132 = .ok (.iload_n 2, 1) := by decide +kernel
theorem d_M_laysSegment_133 : decode qM_laysSegment.1 133 = .ok (.iaload, 1) := by decide +kernel
theorem d_M_laysSegment_134 : decode qM_laysSegment.1 134 = .ok (.iload 6, 2) := by decide +kernel
theorem d_M_laysSegment_136 : decode qM_laysSegment.1 136 = .ok (.iload 4, 2) := by decide +kernel
theorem d_M_laysSegment_138 : decode qM_laysSegment.1 138 = .ok (.invokestatic 302, 3) := by decide +kernel
theorem d_M_laysSegment_141 : decode qM_laysSegment.1 141 = .ok (.invokevirtual 298, 3) := by decide +kernel
theorem d_M_laysSegment_144 : decode qM_laysSegment.1 144 = .ok (.aload_n 0, 1) := by decide +kernel
theorem d_M_laysSegment_145 : decode qM_laysSegment.1 145 = .ok (.iload 5, 2) := by decide +kernel
theorem d_M_laysSegment_147 : decode qM_laysSegment.1 147 = .ok (.iconst 0, 1) := by decide +kernel
theorem d_M_laysSegment_148 : decode qM_laysSegment.1 148 = .ok (.iload 4, 2) := by decide +kernel
theorem d_M_laysSegment_150 : decode qM_laysSegment.1 150 = .ok (.iload 6, 2) := by decide +kernel
theorem d_M_laysSegment_152 : decode qM_laysSegment.1 152 = .ok (.isub, 1) := by decide +kernel
theorem d_M_laysSegment_153 : decode qM_laysSegment.1 153 = .ok (.iload_n 3, 1) := by decide +kernel
theorem d_M_laysSegment_154 : decode qM_laysSegment.1 154 = .ok (.isub, 1) := by decide +kernel
theorem d_M_laysSegment_155 : decode qM_laysSegment.1 155 = .ok (.aload_n 0, 1) := by decide +kernel
theorem d_M_laysSegment_156 : decode qM_laysSegment.1 156 = .ok (.getfield 63, 3) := by decide +kernel
theorem d_M_laysSegment_159 : decode qM_laysSegment.1 159 = .ok (.iload_n 2, 1) := by decide +kernel
theorem d_M_laysSegment_160 : decode qM_laysSegment.1 160 = .ok (.iaload, 1) := by decide +kernel
theorem d_M_laysSegment_161 : decode qM_laysSegment.1 161 = .ok (.aload_n 0, 1) := by decide +kernel
theorem d_M_laysSegment_162 : decode qM_laysSegment.1 162 = .ok (.getfield 48, 3) := by decide +kernel
theorem d_M_laysSegment_165 : decode qM_laysSegment.1 165 = .ok (.iload_n 2, 1) := by decide +kernel
theorem d_M_laysSegment_166 : decode qM_laysSegment.1 166 = .ok (.iaload, 1) := by decide +kernel
theorem d_M_laysSegment_167 : decode qM_laysSegment.1 167 = .ok (.aload_n 0, 1) := by decide +kernel
theorem d_M_laysSegment_168 : decode qM_laysSegment.1 168 = .ok (.getfield 54, 3) := by decide +kernel
theorem d_M_laysSegment_171 : decode qM_laysSegment.1 171 = .ok (.iload_n 2, 1) := by decide +kernel
theorem d_M_laysSegment_172 : decode qM_laysSegment.1 172 = .ok (.iaload, 1) := by decide +kernel
theorem d_M_laysSegment_173 : decode qM_laysSegment.1 173 = .ok (.iload_n 3, 1) := by decide +kernel
theorem d_M_laysSegment_174 : decode qM_laysSegment.1 174 = .ok (.iload 4, 2) := by decide +kernel
theorem d_M_laysSegment_176 : decode qM_laysSegment.1 176 = .ok (.invokestatic 302, 3) := by decide +kernel
theorem d_M_laysSegment_179 : decode qM_laysSegment.1 179 = .ok (.aload_n 0, 1) := by decide +kernel
theorem d_M_laysSegment_180 : decode qM_laysSegment.1 180 = .ok (.getfield 51, 3) := by decide +kernel
theorem d_M_laysSegment_183 : decode qM_laysSegment.1 183 = .ok (.iload_n 2, 1) := by decide +kernel
theorem d_M_laysSegment_184 : decode qM_laysSegment.1 184 = .ok (.iaload, 1) := by decide +kernel
theorem d_M_laysSegment_185 : decode qM_laysSegment.1 185 = .ok (.aload_n 0, 1) := by decide +kernel
theorem d_M_laysSegment_186 : decode qM_laysSegment.1 186 = .ok (.getfield 57, 3) := by decide +kernel
theorem d_M_laysSegment_189 : decode qM_laysSegment.1 189 = .ok (.iload_n 2, 1) := by decide +kernel
theorem d_M_laysSegment_190 : decode qM_laysSegment.1 190 = .ok (.iaload, 1) := by decide +kernel
theorem d_M_laysSegment_191 : decode qM_laysSegment.1 191 = .ok (.iload_n 3, 1) := by decide +kernel
theorem d_M_laysSegment_192 : decode qM_laysSegment.1 192 = .ok (.iload 4, 2) := by decide +kernel
theorem d_M_laysSegment_194 : decode qM_laysSegment.1 194 = .ok (.invokestatic 302, 3) := by decide +kernel
theorem d_M_laysSegment_197 : decode qM_laysSegment.1 197 = .ok (.invokevirtual 298, 3) := by decide +kernel
theorem d_M_laysSegment_200 : decode qM_laysSegment.1 200 = .ok (.return_, 1) := by decide +kernel
set_option maxRecDepth 100000 in
def m_laysSegment (σ : St) (p1 : Int32) (p2 : Int32) : Option (St) :=
  Jn (fun (x1 : Int32) =>
  Gd (Ix p2 42) <|
  Lt ((σ 12 (Int32.toNatClampNeg p2)) : Int32) fun x3 =>
  Gd (Ix p2 42) <|
  Lt ((σ 7 (Int32.toNatClampNeg p2)) : Int32) fun x4 =>
  Gd (Ix p2 42) <|
  if ((σ 24 (Int32.toNatClampNeg p2)) : Int32) = (2 : Int32) then (
  Option.bind (m_laysOver σ p1 p2 x1) fun x14 =>
  some x14
  ) else (
  Gd (Ix p2 42) <|
  Lt ((σ 27 (Int32.toNatClampNeg p2)) : Int32) fun x5 =>
  Gd (Ix p2 42) <|
  Jn (fun (σ6 : St) =>
  Gd (Ix p2 42) <|
  Gd (Ix p2 42) <|
  Gd (Ix p2 42) <|
  Option.bind (m_before (σ6 8 (Int32.toNatClampNeg p2)) (σ6 10 (Int32.toNatClampNeg p2)) x1 x3) fun x8 =>
  Gd (Ix p2 42) <|
  Gd (Ix p2 42) <|
  Option.bind (m_before (σ6 9 (Int32.toNatClampNeg p2)) (σ6 11 (Int32.toNatClampNeg p2)) x1 x3) fun x9 =>
  Option.bind (m_piece σ6 x4 (0 : Int32) ((x3 - x5) - x1) (σ6 13 (Int32.toNatClampNeg p2)) x8 x9) fun x10 =>
  some x10
  ) fun J7 =>
  if ((σ 24 (Int32.toNatClampNeg p2)) : Int32) = (1 : Int32) then (
  Gd (Ix p2 42) <|
  Gd (Ix p2 42) <|
  Gd (Ix p2 42) <|
  Gd (Ix p2 42) <|
  Option.bind (m_before (σ 10 (Int32.toNatClampNeg p2)) (σ 8 (Int32.toNatClampNeg p2)) x5 x3) fun x11 =>
  Gd (Ix p2 42) <|
  Gd (Ix p2 42) <|
  Option.bind (m_before (σ 11 (Int32.toNatClampNeg p2)) (σ 9 (Int32.toNatClampNeg p2)) x5 x3) fun x12 =>
  Option.bind (m_piece σ x4 (1 : Int32) (σ 28 (Int32.toNatClampNeg p2)) (σ 13 (Int32.toNatClampNeg p2)) x11 x12) fun x13 =>
  J7 x13
  ) else (
  J7 σ
  )
  )
  ) fun J2 =>
  Jn (fun (_ : Unit) =>
  J2 (0 : Int32)
  ) fun J15 =>
  if ((σ 0 30) : Int32) ≤ (p2 + (1 : Int32)) then (
  J15 ()
  ) else (
  Gd (Ix (p2 + (1 : Int32)) 42) <|
  if ((σ 17 (Int32.toNatClampNeg (p2 + (1 : Int32)))) : Int32) = p2 then (
  Gd (Ix (p2 + (1 : Int32)) 42) <|
  J2 (σ 27 (Int32.toNatClampNeg (p2 + (1 : Int32))))
  ) else (
  J15 ()
  )
  )
set_option maxHeartbeats 4000000 in
set_option maxRecDepth 100000 in
theorem cM_laysSegment (l : Launch) (g : Ge) (hi : injB wM.2 g) (σ : St) (p1 : Int32) (p2 : Int32) (x : St) (h : m_laysSegment σ p1 p2 = some x) : Ct l wM g yM_laysSegment qM_laysSegment 4 125 [.ref (g.1 0), .int p1, .int p2] σ (none, x) := by
  refine Ct.of (out := o_v) FM_laysSegment rfl hi rfl h (fun z hz C => ?_)
  clear h
  subst hz
  unfold m_laysSegment
  show Rt z qM_laysSegment wM g o_v 0 [(0, .ref (g.1 0)), (1, .int p1), (2, .int p2)] [] σ _
  refine q_iload_n (pc' := 1) C 2 d_M_laysSegment_0 rfl rfl ?_
  refine q_iconst (pc' := 2) C d_M_laysSegment_1 ki_1 rfl ?_
  refine q_iadd (pc' := 3) C d_M_laysSegment_2 rfl ?_
  refine q_aload_n (pc' := 4) C 0 d_M_laysSegment_3 rfl rfl ?_
  refine gM_172 (pc' := 7) C d_M_laysSegment_4 rfl rfl ?_
  refine q_join (fun J2 : Int32 → Option (St) => ∀ (x1 : Int32), Rt z qM_laysSegment wM g o_v 34 [(0, .ref (g.1 0)), (1, .int p1), (2, .int p2)] [.int x1] σ (J2 x1)) (fun x1 => ?_) (fun J2 hJ2 => ?_)
  · refine q_istore_n (pc' := 35) (lv' := [(3, .int x1), (0, .ref (g.1 0)), (1, .int p1), (2, .int p2)]) C d_M_laysSegment_34 (by decide) rfl rfl ?_
    refine q_aload_n (pc' := 36) C 1 d_M_laysSegment_35 rfl rfl ?_
    refine gM_60 (pc' := 39) C d_M_laysSegment_36 rfl rfl ?_
    refine q_iload_n (pc' := 40) C 3 d_M_laysSegment_39 rfl rfl ?_
    refine q_iald (pc' := 41) C 12 jM_12 kM_12 d_M_laysSegment_40 rfl ?_
    refine q_let (fun x3 e3 => ?_)
    refine q_topi e3 ?_
    refine q_istore (pc' := 43) (lv' := [(4, .int x3), (3, .int x1), (0, .ref (g.1 0)), (1, .int p1), (2, .int p2)]) C d_M_laysSegment_41 (by decide) rfl rfl ?_
    refine q_aload_n (pc' := 44) C 2 d_M_laysSegment_43 rfl rfl ?_
    refine gM_45 (pc' := 47) C d_M_laysSegment_44 rfl rfl ?_
    refine q_iload_n (pc' := 48) C 4 d_M_laysSegment_47 rfl rfl ?_
    refine q_iald (pc' := 49) C 7 jM_7 kM_7 d_M_laysSegment_48 rfl ?_
    refine q_let (fun x4 e4 => ?_)
    refine q_topi e4 ?_
    refine q_istore (pc' := 51) (lv' := [(5, .int x4), (4, .int x3), (3, .int x1), (0, .ref (g.1 0)), (1, .int p1), (2, .int p2)]) C d_M_laysSegment_49 (by decide) rfl rfl ?_
    refine q_aload_n (pc' := 52) C 3 d_M_laysSegment_51 rfl rfl ?_
    refine gM_96 (pc' := 55) C d_M_laysSegment_52 rfl rfl ?_
    refine q_iload_n (pc' := 56) C 5 d_M_laysSegment_55 rfl rfl ?_
    refine q_iald (pc' := 57) C 24 jM_24 kM_24 d_M_laysSegment_56 rfl ?_
    refine q_iconst (pc' := 58) C d_M_laysSegment_57 ki_2 rfl ?_
    refine q_icmp_ne (tgt := 69) (pc' := 61) C d_M_laysSegment_58 rfl rfl ?_ ?_
    · refine q_aload_n (pc' := 70) C 3 d_M_laysSegment_69 rfl rfl ?_
      refine gM_105 (pc' := 73) C d_M_laysSegment_70 rfl rfl ?_
      refine q_iload_n (pc' := 74) C 5 d_M_laysSegment_73 rfl rfl ?_
      refine q_iald (pc' := 75) C 27 jM_27 kM_27 d_M_laysSegment_74 rfl ?_
      refine q_let (fun x5 e5 => ?_)
      refine q_topi e5 ?_
      refine q_istore (pc' := 77) (lv' := [(6, .int x5), (5, .int x4), (4, .int x3), (3, .int x1), (0, .ref (g.1 0)), (1, .int p1), (2, .int p2)]) C d_M_laysSegment_75 (by decide) rfl rfl ?_
      refine q_aload_n (pc' := 78) C 4 d_M_laysSegment_77 rfl rfl ?_
      refine gM_96 (pc' := 81) C d_M_laysSegment_78 rfl rfl ?_
      refine q_iload_n (pc' := 82) C 6 d_M_laysSegment_81 rfl rfl ?_
      refine q_iald (pc' := 83) C 24 jM_24 kM_24 d_M_laysSegment_82 rfl ?_
      refine q_iconst (pc' := 84) C d_M_laysSegment_83 ki_1 rfl ?_
      refine q_join (fun J7 : St → Option (St) => ∀ (σ6 : St), Rt z qM_laysSegment wM g o_v 144 [(0, .ref (g.1 0)), (2, .int p2), (3, .int x1), (4, .int x3), (5, .int x4), (6, .int x5)] [] σ6 (J7 σ6)) (fun σ6 => ?_) (fun J7 hJ7 => ?_)
      · refine q_aload_n (pc' := 145) C 0 d_M_laysSegment_144 rfl rfl ?_
        refine q_iload (pc' := 147) C 4 d_M_laysSegment_145 rfl rfl ?_
        refine q_iconst (pc' := 148) C d_M_laysSegment_147 ki_0 rfl ?_
        refine q_iload (pc' := 150) C 3 d_M_laysSegment_148 rfl rfl ?_
        refine q_iload (pc' := 152) C 5 d_M_laysSegment_150 rfl rfl ?_
        refine q_isub (pc' := 153) C d_M_laysSegment_152 rfl ?_
        refine q_iload_n (pc' := 154) C 2 d_M_laysSegment_153 rfl rfl ?_
        refine q_isub (pc' := 155) C d_M_laysSegment_154 rfl ?_
        refine q_aload_n (pc' := 156) C 0 d_M_laysSegment_155 rfl rfl ?_
        refine gM_63 (pc' := 159) C d_M_laysSegment_156 rfl rfl ?_
        refine q_iload_n (pc' := 160) C 1 d_M_laysSegment_159 rfl rfl ?_
        refine q_iald (pc' := 161) C 13 jM_13 kM_13 d_M_laysSegment_160 rfl ?_
        refine q_aload_n (pc' := 162) C 0 d_M_laysSegment_161 rfl rfl ?_
        refine gM_48 (pc' := 165) C d_M_laysSegment_162 rfl rfl ?_
        refine q_iload_n (pc' := 166) C 1 d_M_laysSegment_165 rfl rfl ?_
        refine q_iald (pc' := 167) C 8 jM_8 kM_8 d_M_laysSegment_166 rfl ?_
        refine q_aload_n (pc' := 168) C 0 d_M_laysSegment_167 rfl rfl ?_
        refine gM_54 (pc' := 171) C d_M_laysSegment_168 rfl rfl ?_
        refine q_iload_n (pc' := 172) C 1 d_M_laysSegment_171 rfl rfl ?_
        refine q_iald (pc' := 173) C 10 jM_10 kM_10 d_M_laysSegment_172 rfl ?_
        refine q_iload_n (pc' := 174) C 2 d_M_laysSegment_173 rfl rfl ?_
        refine q_iload (pc' := 176) C 3 d_M_laysSegment_174 rfl rfl ?_
        refine q_callSr (fr' := 0) (lo' := 0) (pc' := 179) C FM_before lmM_302 d_M_laysSegment_176 [.int (σ6 8 (Int32.toNatClampNeg p2)), .int (σ6 10 (Int32.toNatClampNeg p2)), .int x1, .int x3] [.int (σ6 13 (Int32.toNatClampNeg p2)), .int ((x3 - x5) - x1), .int (0 : Int32), .int x4, .ref (g.1 0)] rfl rfl (Nat.le_of_ble_eq_true rfl) ⟨rfl, rfl⟩ (fun x h => cM_before _ g hi σ6 (σ6 8 (Int32.toNatClampNeg p2)) (σ6 10 (Int32.toNatClampNeg p2)) x1 x3 x h) rfl (fun x8 _ => ?_)
        refine q_aload_n (pc' := 180) C 0 d_M_laysSegment_179 rfl rfl ?_
        refine gM_51 (pc' := 183) C d_M_laysSegment_180 rfl rfl ?_
        refine q_iload_n (pc' := 184) C 1 d_M_laysSegment_183 rfl rfl ?_
        refine q_iald (pc' := 185) C 9 jM_9 kM_9 d_M_laysSegment_184 rfl ?_
        refine q_aload_n (pc' := 186) C 0 d_M_laysSegment_185 rfl rfl ?_
        refine gM_57 (pc' := 189) C d_M_laysSegment_186 rfl rfl ?_
        refine q_iload_n (pc' := 190) C 1 d_M_laysSegment_189 rfl rfl ?_
        refine q_iald (pc' := 191) C 11 jM_11 kM_11 d_M_laysSegment_190 rfl ?_
        refine q_iload_n (pc' := 192) C 2 d_M_laysSegment_191 rfl rfl ?_
        refine q_iload (pc' := 194) C 3 d_M_laysSegment_192 rfl rfl ?_
        refine q_callSr (fr' := 0) (lo' := 0) (pc' := 197) C FM_before lmM_302 d_M_laysSegment_194 [.int (σ6 9 (Int32.toNatClampNeg p2)), .int (σ6 11 (Int32.toNatClampNeg p2)), .int x1, .int x3] [.int x8, .int (σ6 13 (Int32.toNatClampNeg p2)), .int ((x3 - x5) - x1), .int (0 : Int32), .int x4, .ref (g.1 0)] rfl rfl (Nat.le_of_ble_eq_true rfl) ⟨rfl, rfl⟩ (fun x h => cM_before _ g hi σ6 (σ6 9 (Int32.toNatClampNeg p2)) (σ6 11 (Int32.toNatClampNeg p2)) x1 x3 x h) rfl (fun x9 _ => ?_)
        refine q_callVv (fr' := 0) (lo' := 0) (pc' := 200) C FM_piece lmM_298 d_M_laysSegment_197 0 jM_0 kM_0 cM0 [.int x4, .int (0 : Int32), .int ((x3 - x5) - x1), .int (σ6 13 (Int32.toNatClampNeg p2)), .int x8, .int x9] [] rfl rfl (Nat.le_of_ble_eq_true rfl) ⟨rfl, rfl⟩ (fun x h => cM_piece _ g hi σ6 x4 (0 : Int32) ((x3 - x5) - x1) (σ6 13 (Int32.toNatClampNeg p2)) x8 x9 x h) rfl (fun x10 _ => ?_)
        exact q_vret C rfl d_M_laysSegment_200 rfl
      refine q_icmp_ne (tgt := 144) (pc' := 87) C d_M_laysSegment_84 rfl rfl ?_ ?_
      · exact Rt.sub [4, 6, 3, 2, 1, 0] rfl (hJ7 σ)
      · refine q_aload_n (pc' := 88) C 4 d_M_laysSegment_87 rfl rfl ?_
        refine q_iload (pc' := 90) C 1 d_M_laysSegment_88 rfl rfl ?_
        refine q_iconst (pc' := 91) C d_M_laysSegment_90 ki_1 rfl ?_
        refine q_aload_n (pc' := 92) C 4 d_M_laysSegment_91 rfl rfl ?_
        refine gM_108 (pc' := 95) C d_M_laysSegment_92 rfl rfl ?_
        refine q_iload_n (pc' := 96) C 6 d_M_laysSegment_95 rfl rfl ?_
        refine q_iald (pc' := 97) C 28 jM_28 kM_28 d_M_laysSegment_96 rfl ?_
        refine q_aload_n (pc' := 98) C 4 d_M_laysSegment_97 rfl rfl ?_
        refine gM_63 (pc' := 101) C d_M_laysSegment_98 rfl rfl ?_
        refine q_iload_n (pc' := 102) C 6 d_M_laysSegment_101 rfl rfl ?_
        refine q_iald (pc' := 103) C 13 jM_13 kM_13 d_M_laysSegment_102 rfl ?_
        refine q_aload_n (pc' := 104) C 4 d_M_laysSegment_103 rfl rfl ?_
        refine gM_54 (pc' := 107) C d_M_laysSegment_104 rfl rfl ?_
        refine q_iload_n (pc' := 108) C 6 d_M_laysSegment_107 rfl rfl ?_
        refine q_iald (pc' := 109) C 10 jM_10 kM_10 d_M_laysSegment_108 rfl ?_
        refine q_aload_n (pc' := 110) C 4 d_M_laysSegment_109 rfl rfl ?_
        refine gM_48 (pc' := 113) C d_M_laysSegment_110 rfl rfl ?_
        refine q_iload_n (pc' := 114) C 6 d_M_laysSegment_113 rfl rfl ?_
        refine q_iald (pc' := 115) C 8 jM_8 kM_8 d_M_laysSegment_114 rfl ?_
        refine q_iload (pc' := 117) C 0 d_M_laysSegment_115 rfl rfl ?_
        refine q_iload (pc' := 119) C 2 d_M_laysSegment_117 rfl rfl ?_
        refine q_callSr (fr' := 0) (lo' := 0) (pc' := 122) C FM_before lmM_302 d_M_laysSegment_119 [.int (σ 10 (Int32.toNatClampNeg p2)), .int (σ 8 (Int32.toNatClampNeg p2)), .int x5, .int x3] [.int (σ 13 (Int32.toNatClampNeg p2)), .int (σ 28 (Int32.toNatClampNeg p2)), .int (1 : Int32), .int x4, .ref (g.1 0)] rfl rfl (Nat.le_of_ble_eq_true rfl) ⟨rfl, rfl⟩ (fun x h => cM_before _ g hi σ (σ 10 (Int32.toNatClampNeg p2)) (σ 8 (Int32.toNatClampNeg p2)) x5 x3 x h) rfl (fun x11 _ => ?_)
        refine q_aload_n (pc' := 123) C 4 d_M_laysSegment_122 rfl rfl ?_
        refine gM_57 (pc' := 126) C d_M_laysSegment_123 rfl rfl ?_
        refine q_iload_n (pc' := 127) C 6 d_M_laysSegment_126 rfl rfl ?_
        refine q_iald (pc' := 128) C 11 jM_11 kM_11 d_M_laysSegment_127 rfl ?_
        refine q_aload_n (pc' := 129) C 4 d_M_laysSegment_128 rfl rfl ?_
        refine gM_51 (pc' := 132) C d_M_laysSegment_129 rfl rfl ?_
        refine q_iload_n (pc' := 133) C 6 d_M_laysSegment_132 rfl rfl ?_
        refine q_iald (pc' := 134) C 9 jM_9 kM_9 d_M_laysSegment_133 rfl ?_
        refine q_iload (pc' := 136) C 0 d_M_laysSegment_134 rfl rfl ?_
        refine q_iload (pc' := 138) C 2 d_M_laysSegment_136 rfl rfl ?_
        refine q_callSr (fr' := 0) (lo' := 0) (pc' := 141) C FM_before lmM_302 d_M_laysSegment_138 [.int (σ 11 (Int32.toNatClampNeg p2)), .int (σ 9 (Int32.toNatClampNeg p2)), .int x5, .int x3] [.int x11, .int (σ 13 (Int32.toNatClampNeg p2)), .int (σ 28 (Int32.toNatClampNeg p2)), .int (1 : Int32), .int x4, .ref (g.1 0)] rfl rfl (Nat.le_of_ble_eq_true rfl) ⟨rfl, rfl⟩ (fun x h => cM_before _ g hi σ (σ 11 (Int32.toNatClampNeg p2)) (σ 9 (Int32.toNatClampNeg p2)) x5 x3 x h) rfl (fun x12 _ => ?_)
        refine q_callVv (fr' := 0) (lo' := 0) (pc' := 144) C FM_piece lmM_298 d_M_laysSegment_141 0 jM_0 kM_0 cM0 [.int x4, .int (1 : Int32), .int (σ 28 (Int32.toNatClampNeg p2)), .int (σ 13 (Int32.toNatClampNeg p2)), .int x11, .int x12] [] rfl rfl (Nat.le_of_ble_eq_true rfl) ⟨rfl, rfl⟩ (fun x h => cM_piece _ g hi σ x4 (1 : Int32) (σ 28 (Int32.toNatClampNeg p2)) (σ 13 (Int32.toNatClampNeg p2)) x11 x12 x h) rfl (fun x13 _ => ?_)
        exact Rt.sub [4, 6, 3, 2, 1, 0] rfl (hJ7 x13)
    · refine q_aload_n (pc' := 62) C 3 d_M_laysSegment_61 rfl rfl ?_
      refine q_iload_n (pc' := 63) C 4 d_M_laysSegment_62 rfl rfl ?_
      refine q_iload_n (pc' := 64) C 5 d_M_laysSegment_63 rfl rfl ?_
      refine q_iload_n (pc' := 65) C 2 d_M_laysSegment_64 rfl rfl ?_
      refine q_callVv (fr' := 3) (lo' := 75) (pc' := 68) C FM_laysOver lmM_307 d_M_laysSegment_65 0 jM_0 kM_0 cM0 [.int p1, .int p2, .int x1] [] rfl rfl (Nat.le_of_ble_eq_true rfl) ⟨rfl, rfl⟩ (fun x h => cM_laysOver _ g hi σ p1 p2 x1 x h) rfl (fun x14 _ => ?_)
      exact q_vret C rfl d_M_laysSegment_68 rfl
  refine q_join (fun J15 : Unit → Option (St) => ∀ (_ : Unit), Rt z qM_laysSegment wM g o_v 33 [(0, .ref (g.1 0)), (1, .int p1), (2, .int p2)] [] σ (J15 ())) (fun _ => ?_) (fun J15 hJ15 => ?_)
  · refine q_iconst (pc' := 34) C d_M_laysSegment_33 ki_0 rfl ?_
    exact Rt.sub [0, 1, 2] rfl (hJ2 (0 : Int32))
  refine q_icmp_ge (tgt := 33) (pc' := 10) C d_M_laysSegment_7 rfl rfl ?_ ?_
  · exact Rt.sub [0, 1, 2] rfl (hJ15 ())
  · refine q_aload_n (pc' := 11) C 0 d_M_laysSegment_10 rfl rfl ?_
    refine gM_75 (pc' := 14) C d_M_laysSegment_11 rfl rfl ?_
    refine q_iload_n (pc' := 15) C 2 d_M_laysSegment_14 rfl rfl ?_
    refine q_iconst (pc' := 16) C d_M_laysSegment_15 ki_1 rfl ?_
    refine q_iadd (pc' := 17) C d_M_laysSegment_16 rfl ?_
    refine q_iald (pc' := 18) C 17 jM_17 kM_17 d_M_laysSegment_17 rfl ?_
    refine q_iload_n (pc' := 19) C 2 d_M_laysSegment_18 rfl rfl ?_
    refine q_icmp_ne (tgt := 33) (pc' := 22) C d_M_laysSegment_19 rfl rfl ?_ ?_
    · exact Rt.sub [0, 1, 2] rfl (hJ15 ())
    · refine q_aload_n (pc' := 23) C 0 d_M_laysSegment_22 rfl rfl ?_
      refine gM_105 (pc' := 26) C d_M_laysSegment_23 rfl rfl ?_
      refine q_iload_n (pc' := 27) C 2 d_M_laysSegment_26 rfl rfl ?_
      refine q_iconst (pc' := 28) C d_M_laysSegment_27 ki_1 rfl ?_
      refine q_iadd (pc' := 29) C d_M_laysSegment_28 rfl ?_
      refine q_iald (pc' := 30) C 27 jM_27 kM_27 d_M_laysSegment_29 rfl ?_
      refine q_goto (tgt := 34) C d_M_laysSegment_30 rfl ?_
      exact Rt.sub [0, 1, 2] rfl (hJ2 (σ 27 (Int32.toNatClampNeg (p2 + (1 : Int32)))))
theorem d_M_entry_0 : decode qM_entry.1 0 = .ok (.iload_n 0, 1) := by decide +kernel
theorem d_M_entry_1 : decode qM_entry.1 1 = .ok (.ifCond .ge 5, 3) := by decide +kernel
theorem d_M_entry_4 : decode qM_entry.1 4 = .ok (.iconst 0, 1) := by decide +kernel
theorem d_M_entry_5 : decode qM_entry.1 5 = .ok (.ireturn, 1) := by decide +kernel
theorem d_M_entry_6 : decode qM_entry.1 6 = .ok (.iload_n 2, 1) := by decide +kernel
theorem d_M_entry_7 : decode qM_entry.1 7 = .ok (.ifCond .eq 9, 3) := by decide +kernel
theorem d_M_entry_10 : decode qM_entry.1 10 = .ok (.iload_n 0, 1) := by decide +kernel
theorem d_M_entry_11 : decode qM_entry.1 11 = .ok (.iload_n 1, 1) := by decide +kernel
theorem d_M_entry_12 : decode qM_entry.1 12 = .ok (.isub, 1) := by decide +kernel
theorem d_M_entry_13 : decode qM_entry.1 13 = .ok (.goto 6, 3) := by decide +kernel
theorem d_M_entry_16 : decode qM_entry.1 16 = .ok (.iload_n 1, 1) := by decide +kernel
theorem d_M_entry_17 : decode qM_entry.1 17 = .ok (.iload_n 0, 1) := by decide +kernel
theorem d_M_entry_18 : decode qM_entry.1 18 = .ok (.isub, 1) := by decide +kernel
theorem d_M_entry_19 : decode qM_entry.1 19 = .ok (.invokestatic 156, 3) := by decide +kernel
theorem d_M_entry_22 : decode qM_entry.1 22 = .ok (.istore_n 3, 1) := by decide +kernel
theorem d_M_entry_23 : decode qM_entry.1 23 = .ok (.iload_n 3, 1) := by decide +kernel
theorem d_M_entry_24 : decode qM_entry.1 24 = .ok (.bipush 7, 2) := by decide +kernel
theorem d_M_entry_26 : decode qM_entry.1 26 = .ok (.if_icmp .le 9, 3) := by decide +kernel
theorem d_M_entry_29 : decode qM_entry.1 29 = .ok (.iload_n 3, 1) := by decide +kernel
theorem d_M_entry_30 : decode qM_entry.1 30 = .ok (.bipush 20, 2) := by decide +kernel
theorem d_M_entry_32 : decode qM_entry.1 32 = .ok (.if_icmp .lt 7, 3) := by decide +kernel
theorem d_M_entry_35 : decode qM_entry.1 35 = .ok (.iconst 0, 1) := by decide +kernel
theorem d_M_entry_36 : decode qM_entry.1 36 = .ok (.goto 14, 3) := by decide +kernel
theorem d_M_entry_39 : decode qM_entry.1 39 = .ok (.iload_n 3, 1) := by decide +kernel
theorem d_M_entry_40 : decode qM_entry.1 40 = .ok (.bipush 11, 2) := by decide +kernel
theorem d_M_entry_42 : decode qM_entry.1 42 = .ok (.if_icmp .gt 7, 3) := by decide +kernel
theorem d_M_entry_45 : decode qM_entry.1 45 = .ok (.iconst 1, 1) := by decide +kernel
theorem d_M_entry_46 : decode qM_entry.1 46 = .ok (.goto 4, 3) := by decide +kernel
theorem d_M_entry_49 : decode qM_entry.1 49 = .ok (.iconst 2, 1) := by decide +kernel
theorem d_M_entry_50 : decode qM_entry.1 50 = .ok (.ireturn, 1) := by decide +kernel
set_option maxRecDepth 100000 in
def m_entry (p0 : Int32) (p1 : Int32) (p2 : Int32) : Option (Int32) :=
  if (0 : Int32) ≤ p0 then (
  Jn (fun (x1 : Int32) =>
  Option.bind (m_around x1) fun x3 =>
  Jn (fun (x4 : Int32) =>
  some x4
  ) fun J5 =>
  Jn (fun (_ : Unit) =>
  J5 (0 : Int32)
  ) fun J6 =>
  if (x3 : Int32) ≤ (7 : Int32) then (
  J6 ()
  ) else (
  if (x3 : Int32) < (20 : Int32) then (
  if ((11 : Int32) : Int32) < x3 then (
  J5 (2 : Int32)
  ) else (
  J5 (1 : Int32)
  )
  ) else (
  J6 ()
  )
  )
  ) fun J2 =>
  if (p2 : Int32) = 0 then (
  J2 (p1 - p0)
  ) else (
  J2 (p0 - p1)
  )
  ) else (
  some (0 : Int32)
  )
set_option maxHeartbeats 4000000 in
set_option maxRecDepth 100000 in
theorem cM_entry (l : Launch) (g : Ge) (hi : injB wM.2 g) (σ : St) (p0 : Int32) (p1 : Int32) (p2 : Int32) (x : Int32) (h : m_entry p0 p1 p2 = some x) : Ct l wM g yM_entry qM_entry 1 20 [.int p0, .int p1, .int p2] σ (some (.int x), σ) := by
  refine Ct.of (out := (o_r σ)) FM_entry rfl hi rfl h (fun z hz C => ?_)
  clear h
  subst hz
  unfold m_entry
  show Rt z qM_entry wM g (o_r σ) 0 [(0, .int p0), (1, .int p1), (2, .int p2)] [] σ _
  refine q_iload_n (pc' := 1) C 0 d_M_entry_0 rfl rfl ?_
  refine q_if_ge (tgt := 6) (pc' := 4) C d_M_entry_1 rfl rfl ?_ ?_
  · refine q_iload_n (pc' := 7) C 2 d_M_entry_6 rfl rfl ?_
    refine q_join (fun J2 : Int32 → Option (Int32) => ∀ (x1 : Int32), Rt z qM_entry wM g (o_r σ) 19 [] [.int x1] σ (J2 x1)) (fun x1 => ?_) (fun J2 hJ2 => ?_)
    · refine q_callSr (fr' := 0) (lo' := 0) (pc' := 22) C FM_around lmM_156 d_M_entry_19 [.int x1] [] rfl rfl (Nat.le_of_ble_eq_true rfl) ⟨rfl, rfl⟩ (fun x h => cM_around _ g hi σ x1 x h) rfl (fun x3 _ => ?_)
      refine q_istore_n (pc' := 23) (lv' := [(3, .int x3)]) C d_M_entry_22 (by decide) rfl rfl ?_
      refine q_iload_n (pc' := 24) C 0 d_M_entry_23 rfl rfl ?_
      refine q_bipush (pc' := 26) C d_M_entry_24 kb_7 rfl ?_
      refine q_join (fun J5 : Int32 → Option (Int32) => ∀ (x4 : Int32), Rt z qM_entry wM g (o_r σ) 50 [] [.int x4] σ (J5 x4)) (fun x4 => ?_) (fun J5 hJ5 => ?_)
      · exact q_iret C rfl d_M_entry_50 rfl
      refine q_join (fun J6 : Unit → Option (Int32) => ∀ (_ : Unit), Rt z qM_entry wM g (o_r σ) 35 [] [] σ (J6 ())) (fun _ => ?_) (fun J6 hJ6 => ?_)
      · refine q_iconst (pc' := 36) C d_M_entry_35 ki_0 rfl ?_
        refine q_goto (tgt := 50) C d_M_entry_36 rfl ?_
        exact Rt.sub [] rfl (hJ5 (0 : Int32))
      refine q_icmp_le (tgt := 35) (pc' := 29) C d_M_entry_26 rfl rfl ?_ ?_
      · exact Rt.sub [] rfl (hJ6 ())
      · refine q_iload_n (pc' := 30) C 0 d_M_entry_29 rfl rfl ?_
        refine q_bipush (pc' := 32) C d_M_entry_30 kb_20 rfl ?_
        refine q_icmp_lt (tgt := 39) (pc' := 35) C d_M_entry_32 rfl rfl ?_ ?_
        · refine q_iload_n (pc' := 40) C 0 d_M_entry_39 rfl rfl ?_
          refine q_bipush (pc' := 42) C d_M_entry_40 kb_11 rfl ?_
          refine q_icmp_gt (tgt := 49) (pc' := 45) C d_M_entry_42 rfl rfl ?_ ?_
          · refine q_iconst (pc' := 50) C d_M_entry_49 ki_2 rfl ?_
            exact Rt.sub [] rfl (hJ5 (2 : Int32))
          · refine q_iconst (pc' := 46) C d_M_entry_45 ki_1 rfl ?_
            refine q_goto (tgt := 50) C d_M_entry_46 rfl ?_
            exact Rt.sub [] rfl (hJ5 (1 : Int32))
        · exact Rt.sub [] rfl (hJ6 ())
    refine q_if_eq (tgt := 16) (pc' := 10) C d_M_entry_7 rfl rfl ?_ ?_
    · refine q_iload_n (pc' := 17) C 1 d_M_entry_16 rfl rfl ?_
      refine q_iload_n (pc' := 18) C 0 d_M_entry_17 rfl rfl ?_
      refine q_isub (pc' := 19) C d_M_entry_18 rfl ?_
      exact Rt.sub [] rfl (hJ2 (p1 - p0))
    · refine q_iload_n (pc' := 11) C 0 d_M_entry_10 rfl rfl ?_
      refine q_iload_n (pc' := 12) C 1 d_M_entry_11 rfl rfl ?_
      refine q_isub (pc' := 13) C d_M_entry_12 rfl ?_
      refine q_goto (tgt := 19) C d_M_entry_13 rfl ?_
      exact Rt.sub [] rfl (hJ2 (p0 - p1))
  · refine q_iconst (pc' := 5) C d_M_entry_4 ki_0 rfl ?_
    exact q_iret C rfl d_M_entry_5 rfl
theorem d_M_entryOf_0 : decode qM_entryOf.1 0 = .ok (.aload_n 0, 1) := by decide +kernel
theorem d_M_entryOf_1 : decode qM_entryOf.1 1 = .ok (.getfield 93, 3) := by decide +kernel
theorem d_M_entryOf_4 : decode qM_entryOf.1 4 = .ok (.iload_n 2, 1) := by decide +kernel
theorem d_M_entryOf_5 : decode qM_entryOf.1 5 = .ok (.iaload, 1) := by decide +kernel
theorem d_M_entryOf_6 : decode qM_entryOf.1 6 = .ok (.aload_n 0, 1) := by decide +kernel
theorem d_M_entryOf_7 : decode qM_entryOf.1 7 = .ok (.iload_n 1, 1) := by decide +kernel
theorem d_M_entryOf_8 : decode qM_entryOf.1 8 = .ok (.iload_n 2, 1) := by decide +kernel
theorem d_M_entryOf_9 : decode qM_entryOf.1 9 = .ok (.iconst 2, 1) := by decide +kernel
theorem d_M_entryOf_10 : decode qM_entryOf.1 10 = .ok (.invokevirtual 168, 3) := by decide +kernel
theorem d_M_entryOf_13 : decode qM_entryOf.1 13 = .ok (.aload_n 0, 1) := by decide +kernel
theorem d_M_entryOf_14 : decode qM_entryOf.1 14 = .ok (.iload_n 1, 1) := by decide +kernel
theorem d_M_entryOf_15 : decode qM_entryOf.1 15 = .ok (.iload_n 2, 1) := by decide +kernel
theorem d_M_entryOf_16 : decode qM_entryOf.1 16 = .ok (.iconst 4, 1) := by decide +kernel
theorem d_M_entryOf_17 : decode qM_entryOf.1 17 = .ok (.invokevirtual 168, 3) := by decide +kernel
theorem d_M_entryOf_20 : decode qM_entryOf.1 20 = .ok (.iconst 1, 1) := by decide +kernel
theorem d_M_entryOf_21 : decode qM_entryOf.1 21 = .ok (.if_icmp .ne 7, 3) := by decide +kernel
theorem d_M_entryOf_24 : decode qM_entryOf.1 24 = .ok (.iconst 1, 1) := by decide +kernel
theorem d_M_entryOf_25 : decode qM_entryOf.1 25 = .ok (.goto 4, 3) := by decide +kernel
theorem d_M_entryOf_28 : decode qM_entryOf.1 28 = .ok (.iconst 0, 1) := by decide +kernel
theorem d_M_entryOf_29 : decode qM_entryOf.1 29 = .ok (.invokestatic 310, 3) := by decide +kernel
theorem d_M_entryOf_32 : decode qM_entryOf.1 32 = .ok (.ireturn, 1) := by decide +kernel
set_option maxRecDepth 100000 in
def m_entryOf (σ : St) (p1 : Int32) (p2 : Int32) : Option (Int32) :=
  Gd (Ix p2 21) <|
  Option.bind (m_of σ p1 p2 (2 : Int32)) fun x1 =>
  Option.bind (m_of σ p1 p2 (4 : Int32)) fun x2 =>
  Jn (fun (x3 : Int32) =>
  Option.bind (m_entry (σ 23 (Int32.toNatClampNeg p2)) x1 x3) fun x5 =>
  some x5
  ) fun J4 =>
  if (x2 : Int32) = (1 : Int32) then (
  J4 (1 : Int32)
  ) else (
  J4 (0 : Int32)
  )
set_option maxHeartbeats 4000000 in
set_option maxRecDepth 100000 in
theorem cM_entryOf (l : Launch) (g : Ge) (hi : injB wM.2 g) (σ : St) (p1 : Int32) (p2 : Int32) (x : Int32) (h : m_entryOf σ p1 p2 = some x) : Ct l wM g yM_entryOf qM_entryOf 2 43 [.ref (g.1 0), .int p1, .int p2] σ (some (.int x), σ) := by
  refine Ct.of (out := (o_r σ)) FM_entryOf rfl hi rfl h (fun z hz C => ?_)
  clear h
  subst hz
  unfold m_entryOf
  show Rt z qM_entryOf wM g (o_r σ) 0 [(0, .ref (g.1 0)), (1, .int p1), (2, .int p2)] [] σ _
  refine q_aload_n (pc' := 1) C 0 d_M_entryOf_0 rfl rfl ?_
  refine gM_93 (pc' := 4) C d_M_entryOf_1 rfl rfl ?_
  refine q_iload_n (pc' := 5) C 2 d_M_entryOf_4 rfl rfl ?_
  refine q_iald (pc' := 6) C 23 jM_23 kM_23 d_M_entryOf_5 rfl ?_
  refine q_aload_n (pc' := 7) C 0 d_M_entryOf_6 rfl rfl ?_
  refine q_iload_n (pc' := 8) C 1 d_M_entryOf_7 rfl rfl ?_
  refine q_iload_n (pc' := 9) C 2 d_M_entryOf_8 rfl rfl ?_
  refine q_iconst (pc' := 10) C d_M_entryOf_9 ki_2 rfl ?_
  refine q_callVr (fr' := 0) (lo' := 0) (pc' := 13) C FM_of lmM_168 d_M_entryOf_10 0 jM_0 kM_0 cM0 [.int p1, .int p2, .int (2 : Int32)] [.int (σ 23 (Int32.toNatClampNeg p2))] rfl rfl (Nat.le_of_ble_eq_true rfl) ⟨rfl, rfl⟩ (fun x h => cM_of _ g hi σ p1 p2 (2 : Int32) x h) rfl (fun x1 _ => ?_)
  refine q_aload_n (pc' := 14) C 0 d_M_entryOf_13 rfl rfl ?_
  refine q_iload_n (pc' := 15) C 1 d_M_entryOf_14 rfl rfl ?_
  refine q_iload_n (pc' := 16) C 2 d_M_entryOf_15 rfl rfl ?_
  refine q_iconst (pc' := 17) C d_M_entryOf_16 ki_4 rfl ?_
  refine q_callVr (fr' := 0) (lo' := 0) (pc' := 20) C FM_of lmM_168 d_M_entryOf_17 0 jM_0 kM_0 cM0 [.int p1, .int p2, .int (4 : Int32)] [.int x1, .int (σ 23 (Int32.toNatClampNeg p2))] rfl rfl (Nat.le_of_ble_eq_true rfl) ⟨rfl, rfl⟩ (fun x h => cM_of _ g hi σ p1 p2 (4 : Int32) x h) rfl (fun x2 _ => ?_)
  refine q_iconst (pc' := 21) C d_M_entryOf_20 ki_1 rfl ?_
  refine q_join (fun J4 : Int32 → Option (Int32) => ∀ (x3 : Int32), Rt z qM_entryOf wM g (o_r σ) 29 [] [.int x3, .int x1, .int (σ 23 (Int32.toNatClampNeg p2))] σ (J4 x3)) (fun x3 => ?_) (fun J4 hJ4 => ?_)
  · refine q_callSr (fr' := 1) (lo' := 20) (pc' := 32) C FM_entry lmM_310 d_M_entryOf_29 [.int (σ 23 (Int32.toNatClampNeg p2)), .int x1, .int x3] [] rfl rfl (Nat.le_of_ble_eq_true rfl) ⟨rfl, rfl⟩ (fun x h => cM_entry _ g hi σ (σ 23 (Int32.toNatClampNeg p2)) x1 x3 x h) rfl (fun x5 _ => ?_)
    exact q_iret C rfl d_M_entryOf_32 rfl
  refine q_icmp_ne (tgt := 28) (pc' := 24) C d_M_entryOf_21 rfl rfl ?_ ?_
  · refine q_iconst (pc' := 29) C d_M_entryOf_28 ki_0 rfl ?_
    exact Rt.sub [] rfl (hJ4 (0 : Int32))
  · refine q_iconst (pc' := 25) C d_M_entryOf_24 ki_1 rfl ?_
    refine q_goto (tgt := 29) C d_M_entryOf_25 rfl ?_
    exact Rt.sub [] rfl (hJ4 (1 : Int32))
theorem d_M_laysPattern_0 : decode qM_laysPattern.1 0 = .ok (.aload_n 0, 1) := by decide +kernel
theorem d_M_laysPattern_1 : decode qM_laysPattern.1 1 = .ok (.iload_n 1, 1) := by decide +kernel
theorem d_M_laysPattern_2 : decode qM_laysPattern.1 2 = .ok (.iload_n 2, 1) := by decide +kernel
theorem d_M_laysPattern_3 : decode qM_laysPattern.1 3 = .ok (.invokevirtual 276, 3) := by decide +kernel
theorem d_M_laysPattern_6 : decode qM_laysPattern.1 6 = .ok (.i2l, 1) := by decide +kernel
theorem d_M_laysPattern_7 : decode qM_laysPattern.1 7 = .ok (.lstore_n 3, 1) := by decide +kernel
theorem d_M_laysPattern_8 : decode qM_laysPattern.1 8 = .ok (.lload_n 3, 1) := by decide +kernel
theorem d_M_laysPattern_9 : decode qM_laysPattern.1 9 = .ok (.lload_n 3, 1) := by decide +kernel
theorem d_M_laysPattern_10 : decode qM_laysPattern.1 10 = .ok (.lmul, 1) := by decide +kernel
theorem d_M_laysPattern_11 : decode qM_laysPattern.1 11 = .ok (.ldc2_w 285, 3) := by decide +kernel
theorem d_M_laysPattern_14 : decode qM_laysPattern.1 14 = .ok (.ldiv, 1) := by decide +kernel
theorem d_M_laysPattern_15 : decode qM_laysPattern.1 15 = .ok (.lstore 5, 2) := by decide +kernel
theorem d_M_laysPattern_17 : decode qM_laysPattern.1 17 = .ok (.lload 5, 2) := by decide +kernel
theorem d_M_laysPattern_19 : decode qM_laysPattern.1 19 = .ok (.lconst 1, 1) := by decide +kernel
theorem d_M_laysPattern_20 : decode qM_laysPattern.1 20 = .ok (.lcmp, 1) := by decide +kernel
theorem d_M_laysPattern_21 : decode qM_laysPattern.1 21 = .ok (.ifCond .ge 7, 3) := by decide +kernel
theorem d_M_laysPattern_24 : decode qM_laysPattern.1 24 = .ok (.lconst 1, 1) := by decide +kernel
theorem d_M_laysPattern_25 : decode qM_laysPattern.1 25 = .ok (.goto 5, 3) := by decide +kernel
theorem d_M_laysPattern_28 : decode qM_laysPattern.1 28 = .ok (.lload 5, 2) := by decide +kernel
theorem d_M_laysPattern_30 : decode qM_laysPattern.1 30 = .ok (.lstore 5, 2) := by decide +kernel
theorem d_M_laysPattern_32 : decode qM_laysPattern.1 32 = .ok (.aload_n 0, 1) := by decide +kernel
theorem d_M_laysPattern_33 : decode qM_laysPattern.1 33 = .ok (.iload_n 1, 1) := by decide +kernel
theorem d_M_laysPattern_34 : decode qM_laysPattern.1 34 = .ok (.iload_n 2, 1) := by decide +kernel
theorem d_M_laysPattern_35 : decode qM_laysPattern.1 35 = .ok (.iconst 5, 1) := by decide +kernel
theorem d_M_laysPattern_36 : decode qM_laysPattern.1 36 = .ok (.invokevirtual 168, 3) := by decide +kernel
theorem d_M_laysPattern_39 : decode qM_laysPattern.1 39 = .ok (.istore 7, 2) := by decide +kernel
theorem d_M_laysPattern_41 : decode qM_laysPattern.1 41 = .ok (.aload_n 0, 1) := by decide +kernel
theorem d_M_laysPattern_42 : decode qM_laysPattern.1 42 = .ok (.iload_n 1, 1) := by decide +kernel
theorem d_M_laysPattern_43 : decode qM_laysPattern.1 43 = .ok (.iload_n 2, 1) := by decide +kernel
theorem d_M_laysPattern_44 : decode qM_laysPattern.1 44 = .ok (.invokevirtual 314, 3) := by decide +kernel
theorem d_M_laysPattern_47 : decode qM_laysPattern.1 47 = .ok (.istore 8, 2) := by decide +kernel
theorem d_M_laysPattern_49 : decode qM_laysPattern.1 49 = .ok (.iload 8, 2) := by decide +kernel
theorem d_M_laysPattern_51 : decode qM_laysPattern.1 51 = .ok (.ifCond .ne 7, 3) := by decide +kernel
theorem d_M_laysPattern_54 : decode qM_laysPattern.1 54 = .ok (.iconst 0, 1) := by decide +kernel
theorem d_M_laysPattern_55 : decode qM_laysPattern.1 55 = .ok (.goto 34, 3) := by decide +kernel
theorem d_M_laysPattern_58 : decode qM_laysPattern.1 58 = .ok (.iload 7, 2) := by decide +kernel
theorem d_M_laysPattern_60 : decode qM_laysPattern.1 60 = .ok (.i2l, 1) := by decide +kernel
theorem d_M_laysPattern_61 : decode qM_laysPattern.1 61 = .ok (.lload 5, 2) := by decide +kernel
theorem d_M_laysPattern_63 : decode qM_laysPattern.1 63 = .ok (.iload 8, 2) := by decide +kernel
theorem d_M_laysPattern_65 : decode qM_laysPattern.1 65 = .ok (.iconst 1, 1) := by decide +kernel
theorem d_M_laysPattern_66 : decode qM_laysPattern.1 66 = .ok (.if_icmp .ne 9, 3) := by decide +kernel
theorem d_M_laysPattern_69 : decode qM_laysPattern.1 69 = .ok (.ldc2_w 317, 3) := by decide +kernel
theorem d_M_laysPattern_72 : decode qM_laysPattern.1 72 = .ok (.goto 6, 3) := by decide +kernel
theorem d_M_laysPattern_75 : decode qM_laysPattern.1 75 = .ok (.ldc2_w 319, 3) := by decide +kernel
theorem d_M_laysPattern_78 : decode qM_laysPattern.1 78 = .ok (.lmul, 1) := by decide +kernel
theorem d_M_laysPattern_79 : decode qM_laysPattern.1 79 = .ok (.ldc2_w 287, 3) := by decide +kernel
theorem d_M_laysPattern_82 : decode qM_laysPattern.1 82 = .ok (.lmul, 1) := by decide +kernel
theorem d_M_laysPattern_83 : decode qM_laysPattern.1 83 = .ok (.ldc2_w 160, 3) := by decide +kernel
theorem d_M_laysPattern_86 : decode qM_laysPattern.1 86 = .ok (.ldiv, 1) := by decide +kernel
theorem d_M_laysPattern_87 : decode qM_laysPattern.1 87 = .ok (.ladd, 1) := by decide +kernel
theorem d_M_laysPattern_88 : decode qM_laysPattern.1 88 = .ok (.l2i, 1) := by decide +kernel
theorem d_M_laysPattern_89 : decode qM_laysPattern.1 89 = .ok (.istore 9, 2) := by decide +kernel
theorem d_M_laysPattern_91 : decode qM_laysPattern.1 91 = .ok (.aload_n 0, 1) := by decide +kernel
theorem d_M_laysPattern_92 : decode qM_laysPattern.1 92 = .ok (.iload_n 1, 1) := by decide +kernel
theorem d_M_laysPattern_93 : decode qM_laysPattern.1 93 = .ok (.iload_n 2, 1) := by decide +kernel
theorem d_M_laysPattern_94 : decode qM_laysPattern.1 94 = .ok (.iconst 2, 1) := by decide +kernel
theorem d_M_laysPattern_95 : decode qM_laysPattern.1 95 = .ok (.invokevirtual 168, 3) := by decide +kernel
theorem d_M_laysPattern_98 : decode qM_laysPattern.1 98 = .ok (.istore 10, 2) := by decide +kernel
theorem d_M_laysPattern_100 : decode qM_laysPattern.1 100 = .ok (.aload_n 0, 1) := by decide +kernel
theorem d_M_laysPattern_101 : decode qM_laysPattern.1 101 = .ok (.iload_n 1, 1) := by decide +kernel
theorem d_M_laysPattern_102 : decode qM_laysPattern.1 102 = .ok (.iload_n 2, 1) := by decide +kernel
theorem d_M_laysPattern_103 : decode qM_laysPattern.1 103 = .ok (.invokevirtual 221, 3) := by decide +kernel
theorem d_M_laysPattern_106 : decode qM_laysPattern.1 106 = .ok (.istore 11, 2) := by decide +kernel
theorem d_M_laysPattern_108 : decode qM_laysPattern.1 108 = .ok (.aload_n 0, 1) := by decide +kernel
theorem d_M_laysPattern_109 : decode qM_laysPattern.1 109 = .ok (.iload_n 1, 1) := by decide +kernel
theorem d_M_laysPattern_110 : decode qM_laysPattern.1 110 = .ok (.iload_n 2, 1) := by decide +kernel
theorem d_M_laysPattern_111 : decode qM_laysPattern.1 111 = .ok (.invokevirtual 225, 3) := by decide +kernel
theorem d_M_laysPattern_114 : decode qM_laysPattern.1 114 = .ok (.istore 12, 2) := by decide +kernel
theorem d_M_laysPattern_116 : decode qM_laysPattern.1 116 = .ok (.aload_n 0, 1) := by decide +kernel
theorem d_M_laysPattern_117 : decode qM_laysPattern.1 117 = .ok (.iload_n 2, 1) := by decide +kernel
theorem d_M_laysPattern_118 : decode qM_laysPattern.1 118 = .ok (.iconst 2, 1) := by decide +kernel
theorem d_M_laysPattern_119 : decode qM_laysPattern.1 119 = .ok (.iload 9, 2) := by decide +kernel
theorem d_M_laysPattern_121 : decode qM_laysPattern.1 121 = .ok (.iload 10, 2) := by decide +kernel
theorem d_M_laysPattern_123 : decode qM_laysPattern.1 123 = .ok (.iload 11, 2) := by decide +kernel
theorem d_M_laysPattern_125 : decode qM_laysPattern.1 125 = .ok (.iload 12, 2) := by decide +kernel
theorem d_M_laysPattern_127 : decode qM_laysPattern.1 127 = .ok (.invokevirtual 298, 3) := by decide +kernel
theorem d_M_laysPattern_130 : decode qM_laysPattern.1 130 = .ok (.aload_n 0, 1) := by decide +kernel
theorem d_M_laysPattern_131 : decode qM_laysPattern.1 131 = .ok (.iload_n 2, 1) := by decide +kernel
theorem d_M_laysPattern_132 : decode qM_laysPattern.1 132 = .ok (.iconst 2, 1) := by decide +kernel
theorem d_M_laysPattern_133 : decode qM_laysPattern.1 133 = .ok (.aload_n 0, 1) := by decide +kernel
theorem d_M_laysPattern_134 : decode qM_laysPattern.1 134 = .ok (.iload_n 1, 1) := by decide +kernel
theorem d_M_laysPattern_135 : decode qM_laysPattern.1 135 = .ok (.iload_n 2, 1) := by decide +kernel
theorem d_M_laysPattern_136 : decode qM_laysPattern.1 136 = .ok (.bipush 6, 2) := by decide +kernel
theorem d_M_laysPattern_138 : decode qM_laysPattern.1 138 = .ok (.invokevirtual 168, 3) := by decide +kernel
theorem d_M_laysPattern_141 : decode qM_laysPattern.1 141 = .ok (.i2l, 1) := by decide +kernel
theorem d_M_laysPattern_142 : decode qM_laysPattern.1 142 = .ok (.ldc2_w 305, 3) := by decide +kernel
theorem d_M_laysPattern_145 : decode qM_laysPattern.1 145 = .ok (.iload 7, 2) := by decide +kernel
theorem d_M_laysPattern_147 : decode qM_laysPattern.1 147 = .ok (.i2l, 1) := by decide +kernel
theorem d_M_laysPattern_148 : decode qM_laysPattern.1 148 = .ok (.lmul, 1) := by decide +kernel
theorem d_M_laysPattern_149 : decode qM_laysPattern.1 149 = .ok (.lload 5, 2) := by decide +kernel
theorem d_M_laysPattern_151 : decode qM_laysPattern.1 151 = .ok (.ldc2_w 321, 3) := by decide +kernel
theorem d_M_laysPattern_154 : decode qM_laysPattern.1 154 = .ok (.lmul, 1) := by decide +kernel
theorem d_M_laysPattern_155 : decode qM_laysPattern.1 155 = .ok (.ldc2_w 287, 3) := by decide +kernel
theorem d_M_laysPattern_158 : decode qM_laysPattern.1 158 = .ok (.lmul, 1) := by decide +kernel
theorem d_M_laysPattern_159 : decode qM_laysPattern.1 159 = .ok (.ldc2_w 160, 3) := by decide +kernel
theorem d_M_laysPattern_162 : decode qM_laysPattern.1 162 = .ok (.ldiv, 1) := by decide +kernel
theorem d_M_laysPattern_163 : decode qM_laysPattern.1 163 = .ok (.ladd, 1) := by decide +kernel
theorem d_M_laysPattern_164 : decode qM_laysPattern.1 164 = .ok (.lmul, 1) := by decide +kernel
theorem d_M_laysPattern_165 : decode qM_laysPattern.1 165 = .ok (.l2i, 1) := by decide +kernel
theorem d_M_laysPattern_166 : decode qM_laysPattern.1 166 = .ok (.iload 10, 2) := by decide +kernel
theorem d_M_laysPattern_168 : decode qM_laysPattern.1 168 = .ok (.iload 11, 2) := by decide +kernel
theorem d_M_laysPattern_170 : decode qM_laysPattern.1 170 = .ok (.iload 12, 2) := by decide +kernel
theorem d_M_laysPattern_172 : decode qM_laysPattern.1 172 = .ok (.invokevirtual 298, 3) := by decide +kernel
theorem d_M_laysPattern_175 : decode qM_laysPattern.1 175 = .ok (.return_, 1) := by decide +kernel
set_option maxRecDepth 100000 in
def m_laysPattern (σ : St) (p1 : Int32) (p2 : Int32) : Option (St) :=
  Option.bind (m_airspeed σ p1 p2) fun x1 =>
  Lt ((Int32.toInt64 x1) : Int64) fun x2 =>
  Lt (((x2 * x2) / (3200 : Int64)) : Int64) fun x3 =>
  Jn (fun (x4 : Int64) =>
  Option.bind (m_of σ p1 p2 (5 : Int32)) fun x6 =>
  Option.bind (m_entryOf σ p1 p2) fun x7 =>
  Jn (fun (x8 : Int32) =>
  Option.bind (m_of σ p1 p2 (2 : Int32)) fun x10 =>
  Option.bind (m_pointX σ p1 p2) fun x11 =>
  Option.bind (m_pointY σ p1 p2) fun x12 =>
  Option.bind (m_piece σ p2 (2 : Int32) x8 x10 x11 x12) fun x13 =>
  Option.bind (m_of x13 p1 p2 (6 : Int32)) fun x14 =>
  Option.bind (m_piece x13 p2 (2 : Int32) (Int64.toInt32 ((Int32.toInt64 x14) * (((2 : Int64) * (Int32.toInt64 x6)) + (((x4 * (24 : Int64)) * (262 : Int64)) / (1000 : Int64))))) x10 x11 x12) fun x15 =>
  some x15
  ) fun J9 =>
  if (x7 : Int32) = 0 then (
  J9 (0 : Int32)
  ) else (
  Jn (fun (x16 : Int64) =>
  J9 (Int64.toInt32 ((Int32.toInt64 x6) + (((x4 * x16) * (262 : Int64)) / (1000 : Int64))))
  ) fun J17 =>
  if (x7 : Int32) = (1 : Int32) then (
  J17 (14 : Int64)
  ) else (
  J17 (18 : Int64)
  )
  )
  ) fun J5 =>
  if ((1 : Int64) : Int64) ≤ x3 then (
  J5 x3
  ) else (
  J5 (1 : Int64)
  )
set_option maxHeartbeats 4000000 in
set_option maxRecDepth 100000 in
theorem cM_laysPattern (l : Launch) (g : Ge) (hi : injB wM.2 g) (σ : St) (p1 : Int32) (p2 : Int32) (x : St) (h : m_laysPattern σ p1 p2 = some x) : Ct l wM g yM_laysPattern qM_laysPattern 3 65 [.ref (g.1 0), .int p1, .int p2] σ (none, x) := by
  refine Ct.of (out := o_v) FM_laysPattern rfl hi rfl h (fun z hz C => ?_)
  clear h
  subst hz
  unfold m_laysPattern
  show Rt z qM_laysPattern wM g o_v 0 [(0, .ref (g.1 0)), (1, .int p1), (2, .int p2)] [] σ _
  refine q_aload_n (pc' := 1) C 0 d_M_laysPattern_0 rfl rfl ?_
  refine q_iload_n (pc' := 2) C 1 d_M_laysPattern_1 rfl rfl ?_
  refine q_iload_n (pc' := 3) C 2 d_M_laysPattern_2 rfl rfl ?_
  refine q_callVr (fr' := 1) (lo' := 23) (pc' := 6) C FM_airspeed lmM_276 d_M_laysPattern_3 0 jM_0 kM_0 cM0 [.int p1, .int p2] [] rfl rfl (Nat.le_of_ble_eq_true rfl) ⟨rfl, rfl⟩ (fun x h => cM_airspeed _ g hi σ p1 p2 x h) rfl (fun x1 _ => ?_)
  refine q_i2l (pc' := 7) C d_M_laysPattern_6 rfl ?_
  refine q_let (fun x2 e2 => ?_)
  refine q_topl e2 ?_
  refine q_lstore_n (pc' := 8) (lv' := [(3, .long x2), (0, .ref (g.1 0)), (1, .int p1), (2, .int p2)]) C d_M_laysPattern_7 (by decide) rfl rfl ?_
  refine q_lload_n (pc' := 9) C 0 d_M_laysPattern_8 rfl rfl ?_
  refine q_lload_n (pc' := 10) C 0 d_M_laysPattern_9 rfl rfl ?_
  refine q_lmul (pc' := 11) C d_M_laysPattern_10 rfl ?_
  refine q_ldc2 (pc' := 14) C lLM_285 d_M_laysPattern_11 rfl ?_
  refine q_ldiv (pc' := 15) C (by decide) d_M_laysPattern_14 rfl ?_
  refine q_let (fun x3 e3 => ?_)
  refine q_topl e3 ?_
  refine q_lstore (pc' := 17) (lv' := [(5, .long x3), (3, .long x2), (0, .ref (g.1 0)), (1, .int p1), (2, .int p2)]) C d_M_laysPattern_15 (by decide) rfl rfl ?_
  refine q_lload (pc' := 19) C 0 d_M_laysPattern_17 rfl rfl ?_
  refine q_lconst (pc' := 20) C d_M_laysPattern_19 kl_1 rfl ?_
  refine q_join (fun J5 : Int64 → Option (St) => ∀ (x4 : Int64), Rt z qM_laysPattern wM g o_v 30 [(0, .ref (g.1 0)), (1, .int p1), (2, .int p2)] [.long x4] σ (J5 x4)) (fun x4 => ?_) (fun J5 hJ5 => ?_)
  · refine q_lstore (pc' := 32) (lv' := [(5, .long x4), (0, .ref (g.1 0)), (1, .int p1), (2, .int p2)]) C d_M_laysPattern_30 (by decide) rfl rfl ?_
    refine q_aload_n (pc' := 33) C 1 d_M_laysPattern_32 rfl rfl ?_
    refine q_iload_n (pc' := 34) C 2 d_M_laysPattern_33 rfl rfl ?_
    refine q_iload_n (pc' := 35) C 3 d_M_laysPattern_34 rfl rfl ?_
    refine q_iconst (pc' := 36) C d_M_laysPattern_35 ki_5 rfl ?_
    refine q_callVr (fr' := 0) (lo' := 0) (pc' := 39) C FM_of lmM_168 d_M_laysPattern_36 0 jM_0 kM_0 cM0 [.int p1, .int p2, .int (5 : Int32)] [] rfl rfl (Nat.le_of_ble_eq_true rfl) ⟨rfl, rfl⟩ (fun x h => cM_of _ g hi σ p1 p2 (5 : Int32) x h) rfl (fun x6 _ => ?_)
    refine q_istore (pc' := 41) (lv' := [(7, .int x6), (5, .long x4), (0, .ref (g.1 0)), (1, .int p1), (2, .int p2)]) C d_M_laysPattern_39 (by decide) rfl rfl ?_
    refine q_aload_n (pc' := 42) C 2 d_M_laysPattern_41 rfl rfl ?_
    refine q_iload_n (pc' := 43) C 3 d_M_laysPattern_42 rfl rfl ?_
    refine q_iload_n (pc' := 44) C 4 d_M_laysPattern_43 rfl rfl ?_
    refine q_callVr (fr' := 2) (lo' := 43) (pc' := 47) C FM_entryOf lmM_314 d_M_laysPattern_44 0 jM_0 kM_0 cM0 [.int p1, .int p2] [] rfl rfl (Nat.le_of_ble_eq_true rfl) ⟨rfl, rfl⟩ (fun x h => cM_entryOf _ g hi σ p1 p2 x h) rfl (fun x7 _ => ?_)
    refine q_istore (pc' := 49) (lv' := [(8, .int x7), (7, .int x6), (5, .long x4), (0, .ref (g.1 0)), (1, .int p1), (2, .int p2)]) C d_M_laysPattern_47 (by decide) rfl rfl ?_
    refine q_iload (pc' := 51) C 0 d_M_laysPattern_49 rfl rfl ?_
    refine q_join (fun J9 : Int32 → Option (St) => ∀ (x8 : Int32), Rt z qM_laysPattern wM g o_v 89 [(0, .ref (g.1 0)), (1, .int p1), (2, .int p2), (5, .long x4), (7, .int x6)] [.int x8] σ (J9 x8)) (fun x8 => ?_) (fun J9 hJ9 => ?_)
    · refine q_istore (pc' := 91) (lv' := [(9, .int x8), (0, .ref (g.1 0)), (1, .int p1), (2, .int p2), (5, .long x4), (7, .int x6)]) C d_M_laysPattern_89 (by decide) rfl rfl ?_
      refine q_aload_n (pc' := 92) C 1 d_M_laysPattern_91 rfl rfl ?_
      refine q_iload_n (pc' := 93) C 2 d_M_laysPattern_92 rfl rfl ?_
      refine q_iload_n (pc' := 94) C 3 d_M_laysPattern_93 rfl rfl ?_
      refine q_iconst (pc' := 95) C d_M_laysPattern_94 ki_2 rfl ?_
      refine q_callVr (fr' := 0) (lo' := 0) (pc' := 98) C FM_of lmM_168 d_M_laysPattern_95 0 jM_0 kM_0 cM0 [.int p1, .int p2, .int (2 : Int32)] [] rfl rfl (Nat.le_of_ble_eq_true rfl) ⟨rfl, rfl⟩ (fun x h => cM_of _ g hi σ p1 p2 (2 : Int32) x h) rfl (fun x10 _ => ?_)
      refine q_istore (pc' := 100) (lv' := [(10, .int x10), (9, .int x8), (0, .ref (g.1 0)), (1, .int p1), (2, .int p2), (5, .long x4), (7, .int x6)]) C d_M_laysPattern_98 (by decide) rfl rfl ?_
      refine q_aload_n (pc' := 101) C 2 d_M_laysPattern_100 rfl rfl ?_
      refine q_iload_n (pc' := 102) C 3 d_M_laysPattern_101 rfl rfl ?_
      refine q_iload_n (pc' := 103) C 4 d_M_laysPattern_102 rfl rfl ?_
      refine q_callVr (fr' := 1) (lo' := 23) (pc' := 106) C FM_pointX lmM_221 d_M_laysPattern_103 0 jM_0 kM_0 cM0 [.int p1, .int p2] [] rfl rfl (Nat.le_of_ble_eq_true rfl) ⟨rfl, rfl⟩ (fun x h => cM_pointX _ g hi σ p1 p2 x h) rfl (fun x11 _ => ?_)
      refine q_istore (pc' := 108) (lv' := [(11, .int x11), (10, .int x10), (9, .int x8), (0, .ref (g.1 0)), (1, .int p1), (2, .int p2), (5, .long x4), (7, .int x6)]) C d_M_laysPattern_106 (by decide) rfl rfl ?_
      refine q_aload_n (pc' := 109) C 3 d_M_laysPattern_108 rfl rfl ?_
      refine q_iload_n (pc' := 110) C 4 d_M_laysPattern_109 rfl rfl ?_
      refine q_iload_n (pc' := 111) C 5 d_M_laysPattern_110 rfl rfl ?_
      refine q_callVr (fr' := 1) (lo' := 23) (pc' := 114) C FM_pointY lmM_225 d_M_laysPattern_111 0 jM_0 kM_0 cM0 [.int p1, .int p2] [] rfl rfl (Nat.le_of_ble_eq_true rfl) ⟨rfl, rfl⟩ (fun x h => cM_pointY _ g hi σ p1 p2 x h) rfl (fun x12 _ => ?_)
      refine q_istore (pc' := 116) (lv' := [(12, .int x12), (11, .int x11), (10, .int x10), (9, .int x8), (0, .ref (g.1 0)), (1, .int p1), (2, .int p2), (5, .long x4), (7, .int x6)]) C d_M_laysPattern_114 (by decide) rfl rfl ?_
      refine q_aload_n (pc' := 117) C 4 d_M_laysPattern_116 rfl rfl ?_
      refine q_iload_n (pc' := 118) C 6 d_M_laysPattern_117 rfl rfl ?_
      refine q_iconst (pc' := 119) C d_M_laysPattern_118 ki_2 rfl ?_
      refine q_iload (pc' := 121) C 3 d_M_laysPattern_119 rfl rfl ?_
      refine q_iload (pc' := 123) C 2 d_M_laysPattern_121 rfl rfl ?_
      refine q_iload (pc' := 125) C 1 d_M_laysPattern_123 rfl rfl ?_
      refine q_iload (pc' := 127) C 0 d_M_laysPattern_125 rfl rfl ?_
      refine q_callVv (fr' := 0) (lo' := 0) (pc' := 130) C FM_piece lmM_298 d_M_laysPattern_127 0 jM_0 kM_0 cM0 [.int p2, .int (2 : Int32), .int x8, .int x10, .int x11, .int x12] [] rfl rfl (Nat.le_of_ble_eq_true rfl) ⟨rfl, rfl⟩ (fun x h => cM_piece _ g hi σ p2 (2 : Int32) x8 x10 x11 x12 x h) rfl (fun x13 _ => ?_)
      refine q_aload_n (pc' := 131) C 4 d_M_laysPattern_130 rfl rfl ?_
      refine q_iload_n (pc' := 132) C 6 d_M_laysPattern_131 rfl rfl ?_
      refine q_iconst (pc' := 133) C d_M_laysPattern_132 ki_2 rfl ?_
      refine q_aload_n (pc' := 134) C 4 d_M_laysPattern_133 rfl rfl ?_
      refine q_iload_n (pc' := 135) C 5 d_M_laysPattern_134 rfl rfl ?_
      refine q_iload_n (pc' := 136) C 6 d_M_laysPattern_135 rfl rfl ?_
      refine q_bipush (pc' := 138) C d_M_laysPattern_136 kb_6 rfl ?_
      refine q_callVr (fr' := 0) (lo' := 0) (pc' := 141) C FM_of lmM_168 d_M_laysPattern_138 0 jM_0 kM_0 cM0 [.int p1, .int p2, .int (6 : Int32)] [.int (2 : Int32), .int p2, .ref (g.1 0)] rfl rfl (Nat.le_of_ble_eq_true rfl) ⟨rfl, rfl⟩ (fun x h => cM_of _ g hi x13 p1 p2 (6 : Int32) x h) rfl (fun x14 _ => ?_)
      refine q_i2l (pc' := 142) C d_M_laysPattern_141 rfl ?_
      refine q_ldc2 (pc' := 145) C lLM_305 d_M_laysPattern_142 rfl ?_
      refine q_iload (pc' := 147) C 8 d_M_laysPattern_145 rfl rfl ?_
      refine q_i2l (pc' := 148) C d_M_laysPattern_147 rfl ?_
      refine q_lmul (pc' := 149) C d_M_laysPattern_148 rfl ?_
      refine q_lload (pc' := 151) C 7 d_M_laysPattern_149 rfl rfl ?_
      refine q_ldc2 (pc' := 154) C lLM_321 d_M_laysPattern_151 rfl ?_
      refine q_lmul (pc' := 155) C d_M_laysPattern_154 rfl ?_
      refine q_ldc2 (pc' := 158) C lLM_287 d_M_laysPattern_155 rfl ?_
      refine q_lmul (pc' := 159) C d_M_laysPattern_158 rfl ?_
      refine q_ldc2 (pc' := 162) C lLM_160 d_M_laysPattern_159 rfl ?_
      refine q_ldiv (pc' := 163) C (by decide) d_M_laysPattern_162 rfl ?_
      refine q_ladd (pc' := 164) C d_M_laysPattern_163 rfl ?_
      refine q_lmul (pc' := 165) C d_M_laysPattern_164 rfl ?_
      refine q_l2i (pc' := 166) C d_M_laysPattern_165 rfl ?_
      refine q_iload (pc' := 168) C 2 d_M_laysPattern_166 rfl rfl ?_
      refine q_iload (pc' := 170) C 1 d_M_laysPattern_168 rfl rfl ?_
      refine q_iload (pc' := 172) C 0 d_M_laysPattern_170 rfl rfl ?_
      refine q_callVv (fr' := 0) (lo' := 0) (pc' := 175) C FM_piece lmM_298 d_M_laysPattern_172 0 jM_0 kM_0 cM0 [.int p2, .int (2 : Int32), .int (Int64.toInt32 ((Int32.toInt64 x14) * (((2 : Int64) * (Int32.toInt64 x6)) + (((x4 * (24 : Int64)) * (262 : Int64)) / (1000 : Int64))))), .int x10, .int x11, .int x12] [] rfl rfl (Nat.le_of_ble_eq_true rfl) ⟨rfl, rfl⟩ (fun x h => cM_piece _ g hi x13 p2 (2 : Int32) (Int64.toInt32 ((Int32.toInt64 x14) * (((2 : Int64) * (Int32.toInt64 x6)) + (((x4 * (24 : Int64)) * (262 : Int64)) / (1000 : Int64))))) x10 x11 x12 x h) rfl (fun x15 _ => ?_)
      exact q_vret C rfl d_M_laysPattern_175 rfl
    refine q_if_ne (tgt := 58) (pc' := 54) C d_M_laysPattern_51 rfl rfl ?_ ?_
    · refine q_iload (pc' := 60) C 1 d_M_laysPattern_58 rfl rfl ?_
      refine q_i2l (pc' := 61) C d_M_laysPattern_60 rfl ?_
      refine q_lload (pc' := 63) C 2 d_M_laysPattern_61 rfl rfl ?_
      refine q_iload (pc' := 65) C 0 d_M_laysPattern_63 rfl rfl ?_
      refine q_iconst (pc' := 66) C d_M_laysPattern_65 ki_1 rfl ?_
      refine q_join (fun J17 : Int64 → Option (St) => ∀ (x16 : Int64), Rt z qM_laysPattern wM g o_v 78 [(0, .ref (g.1 0)), (1, .int p1), (2, .int p2), (5, .long x4), (7, .int x6)] [.long x16, .long x4, .long (Int32.toInt64 x6)] σ (J17 x16)) (fun x16 => ?_) (fun J17 hJ17 => ?_)
      · refine q_lmul (pc' := 79) C d_M_laysPattern_78 rfl ?_
        refine q_ldc2 (pc' := 82) C lLM_287 d_M_laysPattern_79 rfl ?_
        refine q_lmul (pc' := 83) C d_M_laysPattern_82 rfl ?_
        refine q_ldc2 (pc' := 86) C lLM_160 d_M_laysPattern_83 rfl ?_
        refine q_ldiv (pc' := 87) C (by decide) d_M_laysPattern_86 rfl ?_
        refine q_ladd (pc' := 88) C d_M_laysPattern_87 rfl ?_
        refine q_l2i (pc' := 89) C d_M_laysPattern_88 rfl ?_
        exact Rt.sub [0, 1, 2, 3, 4] rfl (hJ9 (Int64.toInt32 ((Int32.toInt64 x6) + (((x4 * x16) * (262 : Int64)) / (1000 : Int64)))))
      refine q_icmp_ne (tgt := 75) (pc' := 69) C d_M_laysPattern_66 rfl rfl ?_ ?_
      · refine q_ldc2 (pc' := 78) C lLM_319 d_M_laysPattern_75 rfl ?_
        exact Rt.sub [3, 4, 5, 2, 1] rfl (hJ17 (18 : Int64))
      · refine q_ldc2 (pc' := 72) C lLM_317 d_M_laysPattern_69 rfl ?_
        refine q_goto (tgt := 78) C d_M_laysPattern_72 rfl ?_
        exact Rt.sub [3, 4, 5, 2, 1] rfl (hJ17 (14 : Int64))
    · refine q_iconst (pc' := 55) C d_M_laysPattern_54 ki_0 rfl ?_
      refine q_goto (tgt := 89) C d_M_laysPattern_55 rfl ?_
      exact Rt.sub [3, 4, 5, 2, 1] rfl (hJ9 (0 : Int32))
  refine q_lcmp_ge (tgt := 28) (pc' := 24) C d_M_laysPattern_20 d_M_laysPattern_21 rfl rfl ?_ ?_
  · refine q_lload (pc' := 30) C 0 d_M_laysPattern_28 rfl rfl ?_
    exact Rt.sub [2, 3, 4] rfl (hJ5 x3)
  · refine q_lconst (pc' := 25) C d_M_laysPattern_24 kl_1 rfl ?_
    refine q_goto (tgt := 30) C d_M_laysPattern_25 rfl ?_
    exact Rt.sub [2, 3, 4] rfl (hJ5 (1 : Int64))
