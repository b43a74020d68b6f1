/-! the reference, methods 2 -/
theorem d_M_laysTurn_0 : decode qM_laysTurn.1 0 = .ok (.aload_n 0, 1) := by decide +kernel
theorem d_M_laysTurn_1 : decode qM_laysTurn.1 1 = .ok (.getfield 96, 3) := by decide +kernel
theorem d_M_laysTurn_4 : decode qM_laysTurn.1 4 = .ok (.iload_n 2, 1) := by decide +kernel
theorem d_M_laysTurn_5 : decode qM_laysTurn.1 5 = .ok (.iconst 0, 1) := by decide +kernel
theorem d_M_laysTurn_6 : decode qM_laysTurn.1 6 = .ok (.iastore, 1) := by decide +kernel
theorem d_M_laysTurn_7 : decode qM_laysTurn.1 7 = .ok (.aload_n 0, 1) := by decide +kernel
theorem d_M_laysTurn_8 : decode qM_laysTurn.1 8 = .ok (.getfield 99, 3) := by decide +kernel
theorem d_M_laysTurn_11 : decode qM_laysTurn.1 11 = .ok (.iload_n 2, 1) := by decide +kernel
theorem d_M_laysTurn_12 : decode qM_laysTurn.1 12 = .ok (.iconst 0, 1) := by decide +kernel
theorem d_M_laysTurn_13 : decode qM_laysTurn.1 13 = .ok (.iastore, 1) := by decide +kernel
theorem d_M_laysTurn_14 : decode qM_laysTurn.1 14 = .ok (.aload_n 0, 1) := by decide +kernel
theorem d_M_laysTurn_15 : decode qM_laysTurn.1 15 = .ok (.getfield 102, 3) := by decide +kernel
theorem d_M_laysTurn_18 : decode qM_laysTurn.1 18 = .ok (.iload_n 2, 1) := by decide +kernel
theorem d_M_laysTurn_19 : decode qM_laysTurn.1 19 = .ok (.iconst 0, 1) := by decide +kernel
theorem d_M_laysTurn_20 : decode qM_laysTurn.1 20 = .ok (.iastore, 1) := by decide +kernel
theorem d_M_laysTurn_21 : decode qM_laysTurn.1 21 = .ok (.aload_n 0, 1) := by decide +kernel
theorem d_M_laysTurn_22 : decode qM_laysTurn.1 22 = .ok (.getfield 105, 3) := by decide +kernel
theorem d_M_laysTurn_25 : decode qM_laysTurn.1 25 = .ok (.iload_n 2, 1) := by decide +kernel
theorem d_M_laysTurn_26 : decode qM_laysTurn.1 26 = .ok (.iconst 0, 1) := by decide +kernel
theorem d_M_laysTurn_27 : decode qM_laysTurn.1 27 = .ok (.iastore, 1) := by decide +kernel
theorem d_M_laysTurn_28 : decode qM_laysTurn.1 28 = .ok (.aload_n 0, 1) := by decide +kernel
theorem d_M_laysTurn_29 : decode qM_laysTurn.1 29 = .ok (.getfield 108, 3) := by decide +kernel
theorem d_M_laysTurn_32 : decode qM_laysTurn.1 32 = .ok (.iload_n 2, 1) := by decide +kernel
theorem d_M_laysTurn_33 : decode qM_laysTurn.1 33 = .ok (.iconst 0, 1) := by decide +kernel
theorem d_M_laysTurn_34 : decode qM_laysTurn.1 34 = .ok (.iastore, 1) := by decide +kernel
theorem d_M_laysTurn_35 : decode qM_laysTurn.1 35 = .ok (.aload_n 0, 1) := by decide +kernel
theorem d_M_laysTurn_36 : decode qM_laysTurn.1 36 = .ok (.getfield 66, 3) := by decide +kernel
theorem d_M_laysTurn_39 : decode qM_laysTurn.1 39 = .ok (.iload_n 2, 1) := by decide +kernel
theorem d_M_laysTurn_40 : decode qM_laysTurn.1 40 = .ok (.iaload, 1) := by decide +kernel
theorem d_M_laysTurn_41 : decode qM_laysTurn.1 41 = .ok (.ifCond .lt 18, 3) := by decide +kernel
theorem d_M_laysTurn_44 : decode qM_laysTurn.1 44 = .ok (.aload_n 0, 1) := by decide +kernel
theorem d_M_laysTurn_45 : decode qM_laysTurn.1 45 = .ok (.getfield 66, 3) := by decide +kernel
theorem d_M_laysTurn_48 : decode qM_laysTurn.1 48 = .ok (.iload_n 2, 1) := by decide +kernel
theorem d_M_laysTurn_49 : decode qM_laysTurn.1 49 = .ok (.iaload, 1) := by decide +kernel
theorem d_M_laysTurn_50 : decode qM_laysTurn.1 50 = .ok (.aload_n 0, 1) := by decide +kernel
theorem d_M_laysTurn_51 : decode qM_laysTurn.1 51 = .ok (.getfield 63, 3) := by decide +kernel
theorem d_M_laysTurn_54 : decode qM_laysTurn.1 54 = .ok (.iload_n 2, 1) := by decide +kernel
theorem d_M_laysTurn_55 : decode qM_laysTurn.1 55 = .ok (.iaload, 1) := by decide +kernel
theorem d_M_laysTurn_56 : decode qM_laysTurn.1 56 = .ok (.if_icmp .ne 4, 3) := by decide +kernel
theorem d_M_laysTurn_59 : decode qM_laysTurn.1 59 = .ok (.return_, 1) := by decide +kernel
theorem d_M_laysTurn_60 : decode qM_laysTurn.1 60 = .ok (.aload_n 0, 1) := by decide +kernel
theorem d_M_laysTurn_61 : decode qM_laysTurn.1 61 = .ok (.getfield 63, 3) := by decide +kernel
theorem d_M_laysTurn_64 : decode qM_laysTurn.1 64 = .ok (.iload_n 2, 1) := by decide +kernel
theorem d_M_laysTurn_65 : decode qM_laysTurn.1 65 = .ok (.iaload, 1) := by decide +kernel
theorem d_M_laysTurn_66 : decode qM_laysTurn.1 66 = .ok (.aload_n 0, 1) := by decide +kernel
theorem d_M_laysTurn_67 : decode qM_laysTurn.1 67 = .ok (.getfield 66, 3) := by decide +kernel
theorem d_M_laysTurn_70 : decode qM_laysTurn.1 70 = .ok (.iload_n 2, 1) := by decide +kernel
theorem d_M_laysTurn_71 : decode qM_laysTurn.1 71 = .ok (.iaload, 1) := by decide +kernel
theorem d_M_laysTurn_72 : decode qM_laysTurn.1 72 = .ok (.isub, 1) := by decide +kernel
theorem d_M_laysTurn_73 : decode qM_laysTurn.1 73 = .ok (.invokestatic 156, 3) := by decide +kernel
theorem d_M_laysTurn_76 : decode qM_laysTurn.1 76 = .ok (.istore_n 3, 1) := by decide +kernel
theorem d_M_laysTurn_77 : decode qM_laysTurn.1 77 = .ok (.aload_n 0, 1) := by decide +kernel
theorem d_M_laysTurn_78 : decode qM_laysTurn.1 78 = .ok (.getfield 99, 3) := by decide +kernel
theorem d_M_laysTurn_81 : decode qM_laysTurn.1 81 = .ok (.iload_n 2, 1) := by decide +kernel
theorem d_M_laysTurn_82 : decode qM_laysTurn.1 82 = .ok (.iload_n 3, 1) := by decide +kernel
theorem d_M_laysTurn_83 : decode qM_laysTurn.1 83 = .ok (.bipush 12, 2) := by decide +kernel
theorem d_M_laysTurn_85 : decode qM_laysTurn.1 85 = .ok (.if_icmp .gt 7, 3) := by decide +kernel
theorem d_M_laysTurn_88 : decode qM_laysTurn.1 88 = .ok (.iload_n 3, 1) := by decide +kernel
theorem d_M_laysTurn_89 : decode qM_laysTurn.1 89 = .ok (.goto 7, 3) := by decide +kernel
theorem d_M_laysTurn_92 : decode qM_laysTurn.1 92 = .ok (.iload_n 3, 1) := by decide +kernel
theorem d_M_laysTurn_93 : decode qM_laysTurn.1 93 = .ok (.bipush 24, 2) := by decide +kernel
theorem d_M_laysTurn_95 : decode qM_laysTurn.1 95 = .ok (.isub, 1) := by decide +kernel
theorem d_M_laysTurn_96 : decode qM_laysTurn.1 96 = .ok (.iastore, 1) := by decide +kernel
theorem d_M_laysTurn_97 : decode qM_laysTurn.1 97 = .ok (.iload_n 3, 1) := by decide +kernel
theorem d_M_laysTurn_98 : decode qM_laysTurn.1 98 = .ok (.bipush 12, 2) := by decide +kernel
theorem d_M_laysTurn_100 : decode qM_laysTurn.1 100 = .ok (.if_icmp .gt 7, 3) := by decide +kernel
theorem d_M_laysTurn_103 : decode qM_laysTurn.1 103 = .ok (.iload_n 3, 1) := by decide +kernel
theorem d_M_laysTurn_104 : decode qM_laysTurn.1 104 = .ok (.goto 7, 3) := by decide +kernel
theorem d_M_laysTurn_107 : decode qM_laysTurn.1 107 = .ok (.bipush 24, 2) := by decide +kernel
theorem d_M_laysTurn_109 : decode qM_laysTurn.1 109 = .ok (.iload_n 3, 1) := by decide +kernel
theorem d_M_laysTurn_110 : decode qM_laysTurn.1 110 = .ok (.isub, 1) := by decide +kernel
theorem d_M_laysTurn_111 : decode qM_laysTurn.1 111 = .ok (.istore 4, 2) := by decide +kernel
theorem d_M_laysTurn_113 : decode qM_laysTurn.1 113 = .ok (.aload_n 0, 1) := by decide +kernel
theorem d_M_laysTurn_114 : decode qM_laysTurn.1 114 = .ok (.iload_n 1, 1) := by decide +kernel
theorem d_M_laysTurn_115 : decode qM_laysTurn.1 115 = .ok (.aload_n 0, 1) := by decide +kernel
theorem d_M_laysTurn_116 : decode qM_laysTurn.1 116 = .ok (.getfield 72, 3) := by decide +kernel
theorem d_M_laysTurn_119 : decode qM_laysTurn.1 119 = .ok (.iload_n 2, 1) := by decide +kernel
theorem d_M_laysTurn_120 : decode qM_laysTurn.1 120 = .ok (.iaload, 1) := by decide +kernel
theorem d_M_laysTurn_121 : decode qM_laysTurn.1 121 = .ok (.aload_n 0, 1) := by decide +kernel
theorem d_M_laysTurn_122 : decode qM_laysTurn.1 122 = .ok (.getfield 66, 3) := by decide +kernel
theorem d_M_laysTurn_125 : decode qM_laysTurn.1 125 = .ok (.iload_n 2, 1) := by decide +kernel
theorem d_M_laysTurn_126 : decode qM_laysTurn.1 126 = .ok (.iaload, 1) := by decide +kernel
theorem d_M_laysTurn_127 : decode qM_laysTurn.1 127 = .ok (.invokevirtual 282, 3) := by decide +kernel
theorem d_M_laysTurn_130 : decode qM_laysTurn.1 130 = .ok (.aload_n 0, 1) := by decide +kernel
theorem d_M_laysTurn_131 : decode qM_laysTurn.1 131 = .ok (.iload_n 1, 1) := by decide +kernel
theorem d_M_laysTurn_132 : decode qM_laysTurn.1 132 = .ok (.aload_n 0, 1) := by decide +kernel
theorem d_M_laysTurn_133 : decode qM_laysTurn.1 133 = .ok (.getfield 45, 3) := by decide +kernel
theorem d_M_laysTurn_136 : decode qM_laysTurn.1 136 = .ok (.iload_n 2, 1) := by decide +kernel
theorem d_M_laysTurn_137 : decode qM_laysTurn.1 137 = .ok (.iaload, 1) := by decide +kernel
theorem d_M_laysTurn_138 : decode qM_laysTurn.1 138 = .ok (.aload_n 0, 1) := by decide +kernel
theorem d_M_laysTurn_139 : decode qM_laysTurn.1 139 = .ok (.getfield 63, 3) := by decide +kernel
theorem d_M_laysTurn_142 : decode qM_laysTurn.1 142 = .ok (.iload_n 2, 1) := by decide +kernel
theorem d_M_laysTurn_143 : decode qM_laysTurn.1 143 = .ok (.iaload, 1) := by decide +kernel
theorem d_M_laysTurn_144 : decode qM_laysTurn.1 144 = .ok (.invokevirtual 282, 3) := by decide +kernel
theorem d_M_laysTurn_147 : decode qM_laysTurn.1 147 = .ok (.invokestatic 279, 3) := by decide +kernel
theorem d_M_laysTurn_150 : decode qM_laysTurn.1 150 = .ok (.i2l, 1) := by decide +kernel
theorem d_M_laysTurn_151 : decode qM_laysTurn.1 151 = .ok (.lstore 5, 2) := by decide +kernel
theorem d_M_laysTurn_153 : decode qM_laysTurn.1 153 = .ok (.aload_n 0, 1) := by decide +kernel
theorem d_M_laysTurn_154 : decode qM_laysTurn.1 154 = .ok (.getfield 102, 3) := by decide +kernel
theorem d_M_laysTurn_157 : decode qM_laysTurn.1 157 = .ok (.iload_n 2, 1) := by decide +kernel
theorem d_M_laysTurn_158 : decode qM_laysTurn.1 158 = .ok (.iconst 1, 1) := by decide +kernel
theorem d_M_laysTurn_159 : decode qM_laysTurn.1 159 = .ok (.lload 5, 2) := by decide +kernel
theorem d_M_laysTurn_161 : decode qM_laysTurn.1 161 = .ok (.lload 5, 2) := by decide +kernel
theorem d_M_laysTurn_163 : decode qM_laysTurn.1 163 = .ok (.lmul, 1) := by decide +kernel
theorem d_M_laysTurn_164 : decode qM_laysTurn.1 164 = .ok (.ldc2_w 285, 3) := by decide +kernel
theorem d_M_laysTurn_167 : decode qM_laysTurn.1 167 = .ok (.ldiv, 1) := by decide +kernel
theorem d_M_laysTurn_168 : decode qM_laysTurn.1 168 = .ok (.l2i, 1) := by decide +kernel
theorem d_M_laysTurn_169 : decode qM_laysTurn.1 169 = .ok (.invokestatic 279, 3) := by decide +kernel
theorem d_M_laysTurn_172 : decode qM_laysTurn.1 172 = .ok (.iastore, 1) := by decide +kernel
theorem d_M_laysTurn_173 : decode qM_laysTurn.1 173 = .ok (.aload_n 0, 1) := by decide +kernel
theorem d_M_laysTurn_174 : decode qM_laysTurn.1 174 = .ok (.getfield 108, 3) := by decide +kernel
theorem d_M_laysTurn_177 : decode qM_laysTurn.1 177 = .ok (.iload_n 2, 1) := by decide +kernel
theorem d_M_laysTurn_178 : decode qM_laysTurn.1 178 = .ok (.aload_n 0, 1) := by decide +kernel
theorem d_M_laysTurn_179 : decode qM_laysTurn.1 179 = .ok (.getfield 102, 3) := by decide +kernel
theorem d_M_laysTurn_182 : decode qM_laysTurn.1 182 = .ok (.iload_n 2, 1) := by decide +kernel
theorem d_M_laysTurn_183 : decode qM_laysTurn.1 183 = .ok (.iaload, 1) := by decide +kernel
theorem d_M_laysTurn_184 : decode qM_laysTurn.1 184 = .ok (.i2l, 1) := by decide +kernel
theorem d_M_laysTurn_185 : decode qM_laysTurn.1 185 = .ok (.iload 4, 2) := by decide +kernel
theorem d_M_laysTurn_187 : decode qM_laysTurn.1 187 = .ok (.i2l, 1) := by decide +kernel
theorem d_M_laysTurn_188 : decode qM_laysTurn.1 188 = .ok (.lmul, 1) := by decide +kernel
theorem d_M_laysTurn_189 : decode qM_laysTurn.1 189 = .ok (.ldc2_w 287, 3) := by decide +kernel
theorem d_M_laysTurn_192 : decode qM_laysTurn.1 192 = .ok (.lmul, 1) := by decide +kernel
theorem d_M_laysTurn_193 : decode qM_laysTurn.1 193 = .ok (.ldc2_w 160, 3) := by decide +kernel
theorem d_M_laysTurn_196 : decode qM_laysTurn.1 196 = .ok (.ldiv, 1) := by decide +kernel
theorem d_M_laysTurn_197 : decode qM_laysTurn.1 197 = .ok (.l2i, 1) := by decide +kernel
theorem d_M_laysTurn_198 : decode qM_laysTurn.1 198 = .ok (.iastore, 1) := by decide +kernel
theorem d_M_laysTurn_199 : decode qM_laysTurn.1 199 = .ok (.aload_n 0, 1) := by decide +kernel
theorem d_M_laysTurn_200 : decode qM_laysTurn.1 200 = .ok (.getfield 72, 3) := by decide +kernel
theorem d_M_laysTurn_203 : decode qM_laysTurn.1 203 = .ok (.iload_n 2, 1) := by decide +kernel
theorem d_M_laysTurn_204 : decode qM_laysTurn.1 204 = .ok (.iaload, 1) := by decide +kernel
theorem d_M_laysTurn_205 : decode qM_laysTurn.1 205 = .ok (.aload_n 0, 1) := by decide +kernel
theorem d_M_laysTurn_206 : decode qM_laysTurn.1 206 = .ok (.getfield 45, 3) := by decide +kernel
theorem d_M_laysTurn_209 : decode qM_laysTurn.1 209 = .ok (.iload_n 2, 1) := by decide +kernel
theorem d_M_laysTurn_210 : decode qM_laysTurn.1 210 = .ok (.iaload, 1) := by decide +kernel
theorem d_M_laysTurn_211 : decode qM_laysTurn.1 211 = .ok (.if_icmp .eq 41, 3) := by decide +kernel
theorem d_M_laysTurn_214 : decode qM_laysTurn.1 214 = .ok (.aload_n 0, 1) := by decide +kernel
theorem d_M_laysTurn_215 : decode qM_laysTurn.1 215 = .ok (.iload_n 1, 1) := by decide +kernel
theorem d_M_laysTurn_216 : decode qM_laysTurn.1 216 = .ok (.aload_n 0, 1) := by decide +kernel
theorem d_M_laysTurn_217 : decode qM_laysTurn.1 217 = .ok (.getfield 72, 3) := by decide +kernel
theorem d_M_laysTurn_220 : decode qM_laysTurn.1 220 = .ok (.iload_n 2, 1) := by decide +kernel
theorem d_M_laysTurn_221 : decode qM_laysTurn.1 221 = .ok (.iaload, 1) := by decide +kernel
theorem d_M_laysTurn_222 : decode qM_laysTurn.1 222 = .ok (.iconst 0, 1) := by decide +kernel
theorem d_M_laysTurn_223 : decode qM_laysTurn.1 223 = .ok (.invokevirtual 168, 3) := by decide +kernel
theorem d_M_laysTurn_226 : decode qM_laysTurn.1 226 = .ok (.bipush 8, 2) := by decide +kernel
theorem d_M_laysTurn_228 : decode qM_laysTurn.1 228 = .ok (.if_icmp .eq 20, 3) := by decide +kernel
theorem d_M_laysTurn_231 : decode qM_laysTurn.1 231 = .ok (.aload_n 0, 1) := by decide +kernel
theorem d_M_laysTurn_232 : decode qM_laysTurn.1 232 = .ok (.iload_n 1, 1) := by decide +kernel
theorem d_M_laysTurn_233 : decode qM_laysTurn.1 233 = .ok (.aload_n 0, 1) := by decide +kernel
theorem d_M_laysTurn_234 : decode qM_laysTurn.1 234 = .ok (.getfield 72, 3) := by decide +kernel
theorem d_M_laysTurn_237 : decode qM_laysTurn.1 237 = .ok (.iload_n 2, 1) := by decide +kernel
theorem d_M_laysTurn_238 : decode qM_laysTurn.1 238 = .ok (.iaload, 1) := by decide +kernel
theorem d_M_laysTurn_239 : decode qM_laysTurn.1 239 = .ok (.bipush 12, 2) := by decide +kernel
theorem d_M_laysTurn_241 : decode qM_laysTurn.1 241 = .ok (.invokevirtual 168, 3) := by decide +kernel
theorem d_M_laysTurn_244 : decode qM_laysTurn.1 244 = .ok (.iconst 1, 1) := by decide +kernel
theorem d_M_laysTurn_245 : decode qM_laysTurn.1 245 = .ok (.if_icmp .ne 7, 3) := by decide +kernel
theorem d_M_laysTurn_248 : decode qM_laysTurn.1 248 = .ok (.iconst 1, 1) := by decide +kernel
theorem d_M_laysTurn_249 : decode qM_laysTurn.1 249 = .ok (.goto 4, 3) := by decide +kernel
theorem d_M_laysTurn_252 : decode qM_laysTurn.1 252 = .ok (.iconst 0, 1) := by decide +kernel
theorem d_M_laysTurn_253 : decode qM_laysTurn.1 253 = .ok (.istore 7, 2) := by decide +kernel
theorem d_M_laysTurn_255 : decode qM_laysTurn.1 255 = .ok (.iload 4, 2) := by decide +kernel
theorem d_M_laysTurn_257 : decode qM_laysTurn.1 257 = .ok (.bipush 8, 2) := by decide +kernel
theorem d_M_laysTurn_259 : decode qM_laysTurn.1 259 = .ok (.if_icmp .gt 27, 3) := by decide +kernel
theorem d_M_laysTurn_262 : decode qM_laysTurn.1 262 = .ok (.aload_n 0, 1) := by decide +kernel
theorem d_M_laysTurn_263 : decode qM_laysTurn.1 263 = .ok (.getfield 102, 3) := by decide +kernel
theorem d_M_laysTurn_266 : decode qM_laysTurn.1 266 = .ok (.iload_n 2, 1) := by decide +kernel
theorem d_M_laysTurn_267 : decode qM_laysTurn.1 267 = .ok (.iaload, 1) := by decide +kernel
theorem d_M_laysTurn_268 : decode qM_laysTurn.1 268 = .ok (.i2l, 1) := by decide +kernel
theorem d_M_laysTurn_269 : decode qM_laysTurn.1 269 = .ok (.aload_n 0, 1) := by decide +kernel
theorem d_M_laysTurn_270 : decode qM_laysTurn.1 270 = .ok (.getfield 42, 3) := by decide +kernel
theorem d_M_laysTurn_273 : decode qM_laysTurn.1 273 = .ok (.iload 4, 2) := by decide +kernel
theorem d_M_laysTurn_275 : decode qM_laysTurn.1 275 = .ok (.iaload, 1) := by decide +kernel
theorem d_M_laysTurn_276 : decode qM_laysTurn.1 276 = .ok (.i2l, 1) := by decide +kernel
theorem d_M_laysTurn_277 : decode qM_laysTurn.1 277 = .ok (.lmul, 1) := by decide +kernel
theorem d_M_laysTurn_278 : decode qM_laysTurn.1 278 = .ok (.ldc2_w 160, 3) := by decide +kernel
theorem d_M_laysTurn_281 : decode qM_laysTurn.1 281 = .ok (.ldiv, 1) := by decide +kernel
theorem d_M_laysTurn_282 : decode qM_laysTurn.1 282 = .ok (.l2i, 1) := by decide +kernel
theorem d_M_laysTurn_283 : decode qM_laysTurn.1 283 = .ok (.goto 4, 3) := by decide +kernel
theorem d_M_laysTurn_286 : decode qM_laysTurn.1 286 = .ok (.iconst 0, 1) := by decide +kernel
theorem d_M_laysTurn_287 : decode qM_laysTurn.1 287 = .ok (.istore 8, 2) := by decide +kernel
theorem d_M_laysTurn_289 : decode qM_laysTurn.1 289 = .ok (.iload 4, 2) := by decide +kernel
theorem d_M_laysTurn_291 : decode qM_laysTurn.1 291 = .ok (.bipush 8, 2) := by decide +kernel
theorem d_M_laysTurn_293 : decode qM_laysTurn.1 293 = .ok (.if_icmp .gt 38, 3) := by decide +kernel
theorem d_M_laysTurn_296 : decode qM_laysTurn.1 296 = .ok (.aload_n 0, 1) := by decide +kernel
theorem d_M_laysTurn_297 : decode qM_laysTurn.1 297 = .ok (.getfield 69, 3) := by decide +kernel
theorem d_M_laysTurn_300 : decode qM_laysTurn.1 300 = .ok (.iload_n 2, 1) := by decide +kernel
theorem d_M_laysTurn_301 : decode qM_laysTurn.1 301 = .ok (.iaload, 1) := by decide +kernel
theorem d_M_laysTurn_302 : decode qM_laysTurn.1 302 = .ok (.iconst 2, 1) := by decide +kernel
theorem d_M_laysTurn_303 : decode qM_laysTurn.1 303 = .ok (.iload 8, 2) := by decide +kernel
theorem d_M_laysTurn_305 : decode qM_laysTurn.1 305 = .ok (.imul, 1) := by decide +kernel
theorem d_M_laysTurn_306 : decode qM_laysTurn.1 306 = .ok (.if_icmp .lt 25, 3) := by decide +kernel
theorem d_M_laysTurn_309 : decode qM_laysTurn.1 309 = .ok (.aload_n 0, 1) := by decide +kernel
theorem d_M_laysTurn_310 : decode qM_laysTurn.1 310 = .ok (.getfield 60, 3) := by decide +kernel
theorem d_M_laysTurn_313 : decode qM_laysTurn.1 313 = .ok (.iload_n 2, 1) := by decide +kernel
theorem d_M_laysTurn_314 : decode qM_laysTurn.1 314 = .ok (.iaload, 1) := by decide +kernel
theorem d_M_laysTurn_315 : decode qM_laysTurn.1 315 = .ok (.iconst 2, 1) := by decide +kernel
theorem d_M_laysTurn_316 : decode qM_laysTurn.1 316 = .ok (.iload 8, 2) := by decide +kernel
theorem d_M_laysTurn_318 : decode qM_laysTurn.1 318 = .ok (.imul, 1) := by decide +kernel
theorem d_M_laysTurn_319 : decode qM_laysTurn.1 319 = .ok (.if_icmp .lt 12, 3) := by decide +kernel
theorem d_M_laysTurn_322 : decode qM_laysTurn.1 322 = .ok (.iload 7, 2) := by decide +kernel
theorem d_M_laysTurn_324 : decode qM_laysTurn.1 324 = .ok (.ifCond .ne 7, 3) := by decide +kernel
theorem d_M_laysTurn_327 : decode qM_laysTurn.1 327 = .ok (.iconst 1, 1) := by decide +kernel
theorem d_M_laysTurn_328 : decode qM_laysTurn.1 328 = .ok (.goto 4, 3) := by decide +kernel
theorem d_M_laysTurn_331 : decode qM_laysTurn.1 331 = .ok (.iconst 0, 1) := by decide +kernel
theorem d_M_laysTurn_332 : decode qM_laysTurn.1 332 = .ok (.istore 9, 2) := by decide +kernel
theorem d_M_laysTurn_334 : decode qM_laysTurn.1 334 = .ok (.aload_n 0, 1) := by decide +kernel
theorem d_M_laysTurn_335 : decode qM_laysTurn.1 335 = .ok (.getfield 96, 3) := by decide +kernel
theorem d_M_laysTurn_338 : decode qM_laysTurn.1 338 = .ok (.iload_n 2, 1) := by decide +kernel
theorem d_M_laysTurn_339 : decode qM_laysTurn.1 339 = .ok (.iload 9, 2) := by decide +kernel
theorem d_M_laysTurn_341 : decode qM_laysTurn.1 341 = .ok (.ifCond .eq 7, 3) := by decide +kernel
theorem d_M_laysTurn_344 : decode qM_laysTurn.1 344 = .ok (.iconst 1, 1) := by decide +kernel
theorem d_M_laysTurn_345 : decode qM_laysTurn.1 345 = .ok (.goto 4, 3) := by decide +kernel
theorem d_M_laysTurn_348 : decode qM_laysTurn.1 348 = .ok (.iconst 2, 1) := by decide +kernel
theorem d_M_laysTurn_349 : decode qM_laysTurn.1 349 = .ok (.iastore, 1) := by decide +kernel
theorem d_M_laysTurn_350 : decode qM_laysTurn.1 350 = .ok (.aload_n 0, 1) := by decide +kernel
theorem d_M_laysTurn_351 : decode qM_laysTurn.1 351 = .ok (.getfield 105, 3) := by decide +kernel
theorem d_M_laysTurn_354 : decode qM_laysTurn.1 354 = .ok (.iload_n 2, 1) := by decide +kernel
theorem d_M_laysTurn_355 : decode qM_laysTurn.1 355 = .ok (.iload 9, 2) := by decide +kernel
theorem d_M_laysTurn_357 : decode qM_laysTurn.1 357 = .ok (.ifCond .eq 8, 3) := by decide +kernel
theorem d_M_laysTurn_360 : decode qM_laysTurn.1 360 = .ok (.iload 8, 2) := by decide +kernel
theorem d_M_laysTurn_362 : decode qM_laysTurn.1 362 = .ok (.goto 4, 3) := by decide +kernel
theorem d_M_laysTurn_365 : decode qM_laysTurn.1 365 = .ok (.iconst 0, 1) := by decide +kernel
theorem d_M_laysTurn_366 : decode qM_laysTurn.1 366 = .ok (.iastore, 1) := by decide +kernel
theorem d_M_laysTurn_367 : decode qM_laysTurn.1 367 = .ok (.return_, 1) := by decide +kernel
set_option maxRecDepth 100000 in
def m_laysTurn (σ : St) (p1 : Int32) (p2 : Int32) : Option (St) :=
  Gd (Ix p2 42) <|
  Lt (s2 σ 24 (Int32.toNatClampNeg p2) (0 : Int32)) fun σ1 =>
  Gd (Ix p2 42) <|
  Lt (s2 σ1 25 (Int32.toNatClampNeg p2) (0 : Int32)) fun σ2 =>
  Gd (Ix p2 42) <|
  Lt (s2 σ2 26 (Int32.toNatClampNeg p2) (0 : Int32)) fun σ3 =>
  Gd (Ix p2 42) <|
  Lt (s2 σ3 27 (Int32.toNatClampNeg p2) (0 : Int32)) fun σ4 =>
  Gd (Ix p2 42) <|
  Lt (s2 σ4 28 (Int32.toNatClampNeg p2) (0 : Int32)) fun σ5 =>
  Gd (Ix p2 42) <|
  Jn (fun (_ : Unit) =>
  some σ5
  ) fun J6 =>
  if ((σ5 14 (Int32.toNatClampNeg p2)) : Int32) < 0 then (
  J6 ()
  ) else (
  Gd (Ix p2 42) <|
  Gd (Ix p2 42) <|
  if ((σ5 14 (Int32.toNatClampNeg p2)) : Int32) = (σ5 13 (Int32.toNatClampNeg p2)) then (
  J6 ()
  ) else (
  Gd (Ix p2 42) <|
  Gd (Ix p2 42) <|
  Option.bind (m_around ((σ5 13 (Int32.toNatClampNeg p2)) - (σ5 14 (Int32.toNatClampNeg p2)))) fun x7 =>
  Jn (fun (x8 : Int32) =>
  Gd (Ix p2 42) <|
  Lt (s2 σ5 25 (Int32.toNatClampNeg p2) x8) fun σ10 =>
  Jn (fun (x11 : Int32) =>
  Gd (Ix p2 42) <|
  Gd (Ix p2 42) <|
  Option.bind (m_groundSpeed σ10 p1 (σ10 16 (Int32.toNatClampNeg p2)) (σ10 14 (Int32.toNatClampNeg p2))) fun x13 =>
  Gd (Ix p2 42) <|
  Gd (Ix p2 42) <|
  Option.bind (m_groundSpeed σ10 p1 (σ10 7 (Int32.toNatClampNeg p2)) (σ10 13 (Int32.toNatClampNeg p2))) fun x14 =>
  Option.bind (m_greater x13 x14) fun x15 =>
  Lt ((Int32.toInt64 x15) : Int64) fun x16 =>
  Option.bind (m_greater (1 : Int32) (Int64.toInt32 ((x16 * x16) / (3200 : Int64)))) fun x17 =>
  Gd (Ix p2 42) <|
  Lt (s2 σ10 26 (Int32.toNatClampNeg p2) x17) fun σ18 =>
  Gd (Ix p2 42) <|
  Gd (Ix p2 42) <|
  Lt (s2 σ18 28 (Int32.toNatClampNeg p2) (Int64.toInt32 ((((Int32.toInt64 (σ18 26 (Int32.toNatClampNeg p2))) * (Int32.toInt64 x11)) * (262 : Int64)) / (1000 : Int64)))) fun σ19 =>
  Gd (Ix p2 42) <|
  Gd (Ix p2 42) <|
  Jn (fun (x20 : Int32) =>
  Jn (fun (x22 : Int32) =>
  Jn (fun (x24 : Int32) =>
  Jn (fun (x26 : Int32) =>
  Gd (Ix p2 42) <|
  Lt (s2 σ19 24 (Int32.toNatClampNeg p2) x26) fun σ28 =>
  Jn (fun (x29 : Int32) =>
  Gd (Ix p2 42) <|
  Lt (s2 σ28 27 (Int32.toNatClampNeg p2) x29) fun σ31 =>
  some σ31
  ) fun J30 =>
  if (x24 : Int32) = 0 then (
  J30 (0 : Int32)
  ) else (
  J30 x22
  )
  ) fun J27 =>
  if (x24 : Int32) = 0 then (
  J27 (2 : Int32)
  ) else (
  J27 (1 : Int32)
  )
  ) fun J25 =>
  Jn (fun (_ : Unit) =>
  J25 (0 : Int32)
  ) fun J32 =>
  if ((8 : Int32) : Int32) < x11 then (
  J32 ()
  ) else (
  Gd (Ix p2 42) <|
  if ((σ19 15 (Int32.toNatClampNeg p2)) : Int32) < ((2 : Int32) * x22) then (
  J32 ()
  ) else (
  Gd (Ix p2 42) <|
  if ((σ19 12 (Int32.toNatClampNeg p2)) : Int32) < ((2 : Int32) * x22) then (
  J32 ()
  ) else (
  if (x20 : Int32) = 0 then (
  J25 (1 : Int32)
  ) else (
  J32 ()
  )
  )
  )
  )
  ) fun J23 =>
  if ((8 : Int32) : Int32) < x11 then (
  J23 (0 : Int32)
  ) else (
  Gd (Ix p2 42) <|
  Gd (Ix x11 9) <|
  J23 (Int64.toInt32 (((Int32.toInt64 (σ19 26 (Int32.toNatClampNeg p2))) * (Int32.toInt64 (σ19 6 (Int32.toNatClampNeg x11)))) / (1000 : Int64)))
  )
  ) fun J21 =>
  Jn (fun (_ : Unit) =>
  J21 (0 : Int32)
  ) fun J33 =>
  if ((σ19 16 (Int32.toNatClampNeg p2)) : Int32) = (σ19 7 (Int32.toNatClampNeg p2)) then (
  J33 ()
  ) else (
  Gd (Ix p2 42) <|
  Option.bind (m_of σ19 p1 (σ19 16 (Int32.toNatClampNeg p2)) (0 : Int32)) fun x34 =>
  Jn (fun (_ : Unit) =>
  J21 (1 : Int32)
  ) fun J35 =>
  if (x34 : Int32) = (8 : Int32) then (
  J35 ()
  ) else (
  Gd (Ix p2 42) <|
  Option.bind (m_of σ19 p1 (σ19 16 (Int32.toNatClampNeg p2)) (12 : Int32)) fun x36 =>
  if (x36 : Int32) = (1 : Int32) then (
  J35 ()
  ) else (
  J33 ()
  )
  )
  )
  ) fun J12 =>
  if ((12 : Int32) : Int32) < x7 then (
  J12 ((24 : Int32) - x7)
  ) else (
  J12 x7
  )
  ) fun J9 =>
  if ((12 : Int32) : Int32) < x7 then (
  J9 (x7 - (24 : Int32))
  ) else (
  J9 x7
  )
  )
  )
set_option maxHeartbeats 4000000 in
set_option maxRecDepth 100000 in
theorem cM_laysTurn (l : Launch) (g : Ge) (hi : injB wM.2 g) (σ : St) (p1 : Int32) (p2 : Int32) (x : St) (h : m_laysTurn σ p1 p2 = some x) : Ct l wM g yM_laysTurn qM_laysTurn 3 70 [.ref (g.1 0), .int p1, .int p2] σ (none, x) := by
  refine Ct.of (out := o_v) FM_laysTurn rfl hi rfl h (fun z hz C => ?_)
  clear h
  subst hz
  unfold m_laysTurn
  show Rt z qM_laysTurn wM g o_v 0 [(0, .ref (g.1 0)), (1, .int p1), (2, .int p2)] [] σ _
  refine q_aload_n (pc' := 1) C 0 d_M_laysTurn_0 rfl rfl ?_
  refine gM_96 (pc' := 4) C d_M_laysTurn_1 rfl rfl ?_
  refine q_iload_n (pc' := 5) C 2 d_M_laysTurn_4 rfl rfl ?_
  refine q_iconst (pc' := 6) C d_M_laysTurn_5 ki_0 rfl ?_
  refine q_iast (pc' := 7) C 24 jM_24 kM_24 d_M_laysTurn_6 rfl ?_
  refine q_let (fun σ1 e1 => ?_)
  refine q_state e1 ?_
  refine q_aload_n (pc' := 8) C 0 d_M_laysTurn_7 rfl rfl ?_
  refine gM_99 (pc' := 11) C d_M_laysTurn_8 rfl rfl ?_
  refine q_iload_n (pc' := 12) C 2 d_M_laysTurn_11 rfl rfl ?_
  refine q_iconst (pc' := 13) C d_M_laysTurn_12 ki_0 rfl ?_
  refine q_iast (pc' := 14) C 25 jM_25 kM_25 d_M_laysTurn_13 rfl ?_
  refine q_let (fun σ2 e2 => ?_)
  refine q_state e2 ?_
  refine q_aload_n (pc' := 15) C 0 d_M_laysTurn_14 rfl rfl ?_
  refine gM_102 (pc' := 18) C d_M_laysTurn_15 rfl rfl ?_
  refine q_iload_n (pc' := 19) C 2 d_M_laysTurn_18 rfl rfl ?_
  refine q_iconst (pc' := 20) C d_M_laysTurn_19 ki_0 rfl ?_
  refine q_iast (pc' := 21) C 26 jM_26 kM_26 d_M_laysTurn_20 rfl ?_
  refine q_let (fun σ3 e3 => ?_)
  refine q_state e3 ?_
  refine q_aload_n (pc' := 22) C 0 d_M_laysTurn_21 rfl rfl ?_
  refine gM_105 (pc' := 25) C d_M_laysTurn_22 rfl rfl ?_
  refine q_iload_n (pc' := 26) C 2 d_M_laysTurn_25 rfl rfl ?_
  refine q_iconst (pc' := 27) C d_M_laysTurn_26 ki_0 rfl ?_
  refine q_iast (pc' := 28) C 27 jM_27 kM_27 d_M_laysTurn_27 rfl ?_
  refine q_let (fun σ4 e4 => ?_)
  refine q_state e4 ?_
  refine q_aload_n (pc' := 29) C 0 d_M_laysTurn_28 rfl rfl ?_
  refine gM_108 (pc' := 32) C d_M_laysTurn_29 rfl rfl ?_
  refine q_iload_n (pc' := 33) C 2 d_M_laysTurn_32 rfl rfl ?_
  refine q_iconst (pc' := 34) C d_M_laysTurn_33 ki_0 rfl ?_
  refine q_iast (pc' := 35) C 28 jM_28 kM_28 d_M_laysTurn_34 rfl ?_
  refine q_let (fun σ5 e5 => ?_)
  refine q_state e5 ?_
  refine q_aload_n (pc' := 36) C 0 d_M_laysTurn_35 rfl rfl ?_
  refine gM_66 (pc' := 39) C d_M_laysTurn_36 rfl rfl ?_
  refine q_iload_n (pc' := 40) C 2 d_M_laysTurn_39 rfl rfl ?_
  refine q_iald (pc' := 41) C 14 jM_14 kM_14 d_M_laysTurn_40 rfl ?_
  refine q_join (fun J6 : Unit → Option (St) => ∀ (_ : Unit), Rt z qM_laysTurn wM g o_v 59 [] [] σ5 (J6 ())) (fun _ => ?_) (fun J6 hJ6 => ?_)
  · exact q_vret C rfl d_M_laysTurn_59 rfl
  refine q_if_lt (tgt := 59) (pc' := 44) C d_M_laysTurn_41 rfl rfl ?_ ?_
  · exact Rt.sub [] rfl (hJ6 ())
  · refine q_aload_n (pc' := 45) C 0 d_M_laysTurn_44 rfl rfl ?_
    refine gM_66 (pc' := 48) C d_M_laysTurn_45 rfl rfl ?_
    refine q_iload_n (pc' := 49) C 2 d_M_laysTurn_48 rfl rfl ?_
    refine q_iald (pc' := 50) C 14 jM_14 kM_14 d_M_laysTurn_49 rfl ?_
    refine q_aload_n (pc' := 51) C 0 d_M_laysTurn_50 rfl rfl ?_
    refine gM_63 (pc' := 54) C d_M_laysTurn_51 rfl rfl ?_
    refine q_iload_n (pc' := 55) C 2 d_M_laysTurn_54 rfl rfl ?_
    refine q_iald (pc' := 56) C 13 jM_13 kM_13 d_M_laysTurn_55 rfl ?_
    refine q_icmp_ne (tgt := 60) (pc' := 59) C d_M_laysTurn_56 rfl rfl ?_ ?_
    · refine q_aload_n (pc' := 61) C 0 d_M_laysTurn_60 rfl rfl ?_
      refine gM_63 (pc' := 64) C d_M_laysTurn_61 rfl rfl ?_
      refine q_iload_n (pc' := 65) C 2 d_M_laysTurn_64 rfl rfl ?_
      refine q_iald (pc' := 66) C 13 jM_13 kM_13 d_M_laysTurn_65 rfl ?_
      refine q_aload_n (pc' := 67) C 0 d_M_laysTurn_66 rfl rfl ?_
      refine gM_66 (pc' := 70) C d_M_laysTurn_67 rfl rfl ?_
      refine q_iload_n (pc' := 71) C 2 d_M_laysTurn_70 rfl rfl ?_
      refine q_iald (pc' := 72) C 14 jM_14 kM_14 d_M_laysTurn_71 rfl ?_
      refine q_isub (pc' := 73) C d_M_laysTurn_72 rfl ?_
      refine q_callSr (fr' := 0) (lo' := 0) (pc' := 76) C FM_around lmM_156 d_M_laysTurn_73 [.int ((σ5 13 (Int32.toNatClampNeg p2)) - (σ5 14 (Int32.toNatClampNeg p2)))] [] rfl rfl (Nat.le_of_ble_eq_true rfl) ⟨rfl, rfl⟩ (fun x h => cM_around _ g hi σ5 ((σ5 13 (Int32.toNatClampNeg p2)) - (σ5 14 (Int32.toNatClampNeg p2))) x h) rfl (fun x7 _ => ?_)
      refine q_istore_n (pc' := 77) (lv' := [(3, .int x7), (0, .ref (g.1 0)), (1, .int p1), (2, .int p2)]) C d_M_laysTurn_76 (by decide) rfl rfl ?_
      refine q_aload_n (pc' := 78) C 1 d_M_laysTurn_77 rfl rfl ?_
      refine gM_99 (pc' := 81) C d_M_laysTurn_78 rfl rfl ?_
      refine q_iload_n (pc' := 82) C 3 d_M_laysTurn_81 rfl rfl ?_
      refine q_iload_n (pc' := 83) C 0 d_M_laysTurn_82 rfl rfl ?_
      refine q_bipush (pc' := 85) C d_M_laysTurn_83 kb_12 rfl ?_
      refine q_join (fun J9 : Int32 → Option (St) => ∀ (x8 : Int32), Rt z qM_laysTurn wM g o_v 96 [(0, .ref (g.1 0)), (1, .int p1), (2, .int p2), (3, .int x7)] [.int x8, .int p2, .ref (g.1 25)] σ5 (J9 x8)) (fun x8 => ?_) (fun J9 hJ9 => ?_)
      · refine q_iast (pc' := 97) C 25 jM_25 kM_25 d_M_laysTurn_96 rfl ?_
        refine q_let (fun σ10 e10 => ?_)
        refine q_state e10 ?_
        refine q_iload_n (pc' := 98) C 3 d_M_laysTurn_97 rfl rfl ?_
        refine q_bipush (pc' := 100) C d_M_laysTurn_98 kb_12 rfl ?_
        refine q_join (fun J12 : Int32 → Option (St) => ∀ (x11 : Int32), Rt z qM_laysTurn wM g o_v 111 [(0, .ref (g.1 0)), (1, .int p1), (2, .int p2)] [.int x11] σ10 (J12 x11)) (fun x11 => ?_) (fun J12 hJ12 => ?_)
        · refine q_istore (pc' := 113) (lv' := [(4, .int x11), (0, .ref (g.1 0)), (1, .int p1), (2, .int p2)]) C d_M_laysTurn_111 (by decide) rfl rfl ?_
          refine q_aload_n (pc' := 114) C 1 d_M_laysTurn_113 rfl rfl ?_
          refine q_iload_n (pc' := 115) C 2 d_M_laysTurn_114 rfl rfl ?_
          refine q_aload_n (pc' := 116) C 1 d_M_laysTurn_115 rfl rfl ?_
          refine gM_72 (pc' := 119) C d_M_laysTurn_116 rfl rfl ?_
          refine q_iload_n (pc' := 120) C 3 d_M_laysTurn_119 rfl rfl ?_
          refine q_iald (pc' := 121) C 16 jM_16 kM_16 d_M_laysTurn_120 rfl ?_
          refine q_aload_n (pc' := 122) C 1 d_M_laysTurn_121 rfl rfl ?_
          refine gM_66 (pc' := 125) C d_M_laysTurn_122 rfl rfl ?_
          refine q_iload_n (pc' := 126) C 3 d_M_laysTurn_125 rfl rfl ?_
          refine q_iald (pc' := 127) C 14 jM_14 kM_14 d_M_laysTurn_126 rfl ?_
          refine q_callVr (fr' := 2) (lo' := 45) (pc' := 130) C FM_groundSpeed lmM_282 d_M_laysTurn_127 0 jM_0 kM_0 cM0 [.int p1, .int (σ10 16 (Int32.toNatClampNeg p2)), .int (σ10 14 (Int32.toNatClampNeg p2))] [] rfl rfl (Nat.le_of_ble_eq_true rfl) ⟨rfl, rfl⟩ (fun x h => cM_groundSpeed _ g hi σ10 p1 (σ10 16 (Int32.toNatClampNeg p2)) (σ10 14 (Int32.toNatClampNeg p2)) x h) rfl (fun x13 _ => ?_)
          refine q_aload_n (pc' := 131) C 1 d_M_laysTurn_130 rfl rfl ?_
          refine q_iload_n (pc' := 132) C 2 d_M_laysTurn_131 rfl rfl ?_
          refine q_aload_n (pc' := 133) C 1 d_M_laysTurn_132 rfl rfl ?_
          refine gM_45 (pc' := 136) C d_M_laysTurn_133 rfl rfl ?_
          refine q_iload_n (pc' := 137) C 3 d_M_laysTurn_136 rfl rfl ?_
          refine q_iald (pc' := 138) C 7 jM_7 kM_7 d_M_laysTurn_137 rfl ?_
          refine q_aload_n (pc' := 139) C 1 d_M_laysTurn_138 rfl rfl ?_
          refine gM_63 (pc' := 142) C d_M_laysTurn_139 rfl rfl ?_
          refine q_iload_n (pc' := 143) C 3 d_M_laysTurn_142 rfl rfl ?_
          refine q_iald (pc' := 144) C 13 jM_13 kM_13 d_M_laysTurn_143 rfl ?_
          refine q_callVr (fr' := 2) (lo' := 45) (pc' := 147) C FM_groundSpeed lmM_282 d_M_laysTurn_144 0 jM_0 kM_0 cM0 [.int p1, .int (σ10 7 (Int32.toNatClampNeg p2)), .int (σ10 13 (Int32.toNatClampNeg p2))] [.int x13] rfl rfl (Nat.le_of_ble_eq_true rfl) ⟨rfl, rfl⟩ (fun x h => cM_groundSpeed _ g hi σ10 p1 (σ10 7 (Int32.toNatClampNeg p2)) (σ10 13 (Int32.toNatClampNeg p2)) x h) rfl (fun x14 _ => ?_)
          refine q_callSr (fr' := 0) (lo' := 0) (pc' := 150) C FM_greater lmM_279 d_M_laysTurn_147 [.int x13, .int x14] [] rfl rfl (Nat.le_of_ble_eq_true rfl) ⟨rfl, rfl⟩ (fun x h => cM_greater _ g hi σ10 x13 x14 x h) rfl (fun x15 _ => ?_)
          refine q_i2l (pc' := 151) C d_M_laysTurn_150 rfl ?_
          refine q_let (fun x16 e16 => ?_)
          refine q_topl e16 ?_
          refine q_lstore (pc' := 153) (lv' := [(5, .long x16), (4, .int x11), (0, .ref (g.1 0)), (1, .int p1), (2, .int p2)]) C d_M_laysTurn_151 (by decide) rfl rfl ?_
          refine q_aload_n (pc' := 154) C 2 d_M_laysTurn_153 rfl rfl ?_
          refine gM_102 (pc' := 157) C d_M_laysTurn_154 rfl rfl ?_
          refine q_iload_n (pc' := 158) C 4 d_M_laysTurn_157 rfl rfl ?_
          refine q_iconst (pc' := 159) C d_M_laysTurn_158 ki_1 rfl ?_
          refine q_lload (pc' := 161) C 0 d_M_laysTurn_159 rfl rfl ?_
          refine q_lload (pc' := 163) C 0 d_M_laysTurn_161 rfl rfl ?_
          refine q_lmul (pc' := 164) C d_M_laysTurn_163 rfl ?_
          refine q_ldc2 (pc' := 167) C lLM_285 d_M_laysTurn_164 rfl ?_
          refine q_ldiv (pc' := 168) C (by decide) d_M_laysTurn_167 rfl ?_
          refine q_l2i (pc' := 169) C d_M_laysTurn_168 rfl ?_
          refine q_callSr (fr' := 0) (lo' := 0) (pc' := 172) C FM_greater lmM_279 d_M_laysTurn_169 [.int (1 : Int32), .int (Int64.toInt32 ((x16 * x16) / (3200 : Int64)))] [.int p2, .ref (g.1 26)] rfl rfl (Nat.le_of_ble_eq_true rfl) ⟨rfl, rfl⟩ (fun x h => cM_greater _ g hi σ10 (1 : Int32) (Int64.toInt32 ((x16 * x16) / (3200 : Int64))) x h) rfl (fun x17 _ => ?_)
          refine q_iast (pc' := 173) C 26 jM_26 kM_26 d_M_laysTurn_172 rfl ?_
          refine q_let (fun σ18 e18 => ?_)
          refine q_state e18 ?_
          refine q_aload_n (pc' := 174) C 2 d_M_laysTurn_173 rfl rfl ?_
          refine gM_108 (pc' := 177) C d_M_laysTurn_174 rfl rfl ?_
          refine q_iload_n (pc' := 178) C 4 d_M_laysTurn_177 rfl rfl ?_
          refine q_aload_n (pc' := 179) C 2 d_M_laysTurn_178 rfl rfl ?_
          refine gM_102 (pc' := 182) C d_M_laysTurn_179 rfl rfl ?_
          refine q_iload_n (pc' := 183) C 4 d_M_laysTurn_182 rfl rfl ?_
          refine q_iald (pc' := 184) C 26 jM_26 kM_26 d_M_laysTurn_183 rfl ?_
          refine q_i2l (pc' := 185) C d_M_laysTurn_184 rfl ?_
          refine q_iload (pc' := 187) C 1 d_M_laysTurn_185 rfl rfl ?_
          refine q_i2l (pc' := 188) C d_M_laysTurn_187 rfl ?_
          refine q_lmul (pc' := 189) C d_M_laysTurn_188 rfl ?_
          refine q_ldc2 (pc' := 192) C lLM_287 d_M_laysTurn_189 rfl ?_
          refine q_lmul (pc' := 193) C d_M_laysTurn_192 rfl ?_
          refine q_ldc2 (pc' := 196) C lLM_160 d_M_laysTurn_193 rfl ?_
          refine q_ldiv (pc' := 197) C (by decide) d_M_laysTurn_196 rfl ?_
          refine q_l2i (pc' := 198) C d_M_laysTurn_197 rfl ?_
          refine q_iast (pc' := 199) C 28 jM_28 kM_28 d_M_laysTurn_198 rfl ?_
          refine q_let (fun σ19 e19 => ?_)
          refine q_state e19 ?_
          refine q_aload_n (pc' := 200) C 2 d_M_laysTurn_199 rfl rfl ?_
          refine gM_72 (pc' := 203) C d_M_laysTurn_200 rfl rfl ?_
          refine q_iload_n (pc' := 204) C 4 d_M_laysTurn_203 rfl rfl ?_
          refine q_iald (pc' := 205) C 16 jM_16 kM_16 d_M_laysTurn_204 rfl ?_
          refine q_aload_n (pc' := 206) C 2 d_M_laysTurn_205 rfl rfl ?_
          refine gM_45 (pc' := 209) C d_M_laysTurn_206 rfl rfl ?_
          refine q_iload_n (pc' := 210) C 4 d_M_laysTurn_209 rfl rfl ?_
          refine q_iald (pc' := 211) C 7 jM_7 kM_7 d_M_laysTurn_210 rfl ?_
          refine q_join (fun J21 : Int32 → Option (St) => ∀ (x20 : Int32), Rt z qM_laysTurn wM g o_v 253 [(0, .ref (g.1 0)), (2, .int p2), (4, .int x11)] [.int x20] σ19 (J21 x20)) (fun x20 => ?_) (fun J21 hJ21 => ?_)
          · refine q_istore (pc' := 255) (lv' := [(7, .int x20), (0, .ref (g.1 0)), (2, .int p2), (4, .int x11)]) C d_M_laysTurn_253 (by decide) rfl rfl ?_
            refine q_iload (pc' := 257) C 3 d_M_laysTurn_255 rfl rfl ?_
            refine q_bipush (pc' := 259) C d_M_laysTurn_257 kb_8 rfl ?_
            refine q_join (fun J23 : Int32 → Option (St) => ∀ (x22 : Int32), Rt z qM_laysTurn wM g o_v 287 [(0, .ref (g.1 0)), (2, .int p2), (4, .int x11), (7, .int x20)] [.int x22] σ19 (J23 x22)) (fun x22 => ?_) (fun J23 hJ23 => ?_)
            · refine q_istore (pc' := 289) (lv' := [(8, .int x22), (0, .ref (g.1 0)), (2, .int p2), (4, .int x11), (7, .int x20)]) C d_M_laysTurn_287 (by decide) rfl rfl ?_
              refine q_iload (pc' := 291) C 3 d_M_laysTurn_289 rfl rfl ?_
              refine q_bipush (pc' := 293) C d_M_laysTurn_291 kb_8 rfl ?_
              refine q_join (fun J25 : Int32 → Option (St) => ∀ (x24 : Int32), Rt z qM_laysTurn wM g o_v 332 [(0, .ref (g.1 0)), (2, .int p2), (8, .int x22)] [.int x24] σ19 (J25 x24)) (fun x24 => ?_) (fun J25 hJ25 => ?_)
              · refine q_istore (pc' := 334) (lv' := [(9, .int x24), (0, .ref (g.1 0)), (2, .int p2), (8, .int x22)]) C d_M_laysTurn_332 (by decide) rfl rfl ?_
                refine q_aload_n (pc' := 335) C 1 d_M_laysTurn_334 rfl rfl ?_
                refine gM_96 (pc' := 338) C d_M_laysTurn_335 rfl rfl ?_
                refine q_iload_n (pc' := 339) C 2 d_M_laysTurn_338 rfl rfl ?_
                refine q_iload (pc' := 341) C 0 d_M_laysTurn_339 rfl rfl ?_
                refine q_join (fun J27 : Int32 → Option (St) => ∀ (x26 : Int32), Rt z qM_laysTurn wM g o_v 349 [(0, .ref (g.1 0)), (2, .int p2), (8, .int x22), (9, .int x24)] [.int x26, .int p2, .ref (g.1 24)] σ19 (J27 x26)) (fun x26 => ?_) (fun J27 hJ27 => ?_)
                · refine q_iast (pc' := 350) C 24 jM_24 kM_24 d_M_laysTurn_349 rfl ?_
                  refine q_let (fun σ28 e28 => ?_)
                  refine q_state e28 ?_
                  refine q_aload_n (pc' := 351) C 0 d_M_laysTurn_350 rfl rfl ?_
                  refine gM_105 (pc' := 354) C d_M_laysTurn_351 rfl rfl ?_
                  refine q_iload_n (pc' := 355) C 1 d_M_laysTurn_354 rfl rfl ?_
                  refine q_iload (pc' := 357) C 3 d_M_laysTurn_355 rfl rfl ?_
                  refine q_join (fun J30 : Int32 → Option (St) => ∀ (x29 : Int32), Rt z qM_laysTurn wM g o_v 366 [] [.int x29, .int p2, .ref (g.1 27)] σ28 (J30 x29)) (fun x29 => ?_) (fun J30 hJ30 => ?_)
                  · refine q_iast (pc' := 367) C 27 jM_27 kM_27 d_M_laysTurn_366 rfl ?_
                    refine q_let (fun σ31 e31 => ?_)
                    refine q_state e31 ?_
                    exact q_vret C rfl d_M_laysTurn_367 rfl
                  refine q_if_eq (tgt := 365) (pc' := 360) C d_M_laysTurn_357 rfl rfl ?_ ?_
                  · refine q_iconst (pc' := 366) C d_M_laysTurn_365 ki_0 rfl ?_
                    exact Rt.sub [] rfl (hJ30 (0 : Int32))
                  · refine q_iload (pc' := 362) C 2 d_M_laysTurn_360 rfl rfl ?_
                    refine q_goto (tgt := 366) C d_M_laysTurn_362 rfl ?_
                    exact Rt.sub [] rfl (hJ30 x22)
                refine q_if_eq (tgt := 348) (pc' := 344) C d_M_laysTurn_341 rfl rfl ?_ ?_
                · refine q_iconst (pc' := 349) C d_M_laysTurn_348 ki_2 rfl ?_
                  exact Rt.sub [1, 2, 3, 0] rfl (hJ27 (2 : Int32))
                · refine q_iconst (pc' := 345) C d_M_laysTurn_344 ki_1 rfl ?_
                  refine q_goto (tgt := 349) C d_M_laysTurn_345 rfl ?_
                  exact Rt.sub [1, 2, 3, 0] rfl (hJ27 (1 : Int32))
              refine q_join (fun J32 : Unit → Option (St) => ∀ (_ : Unit), Rt z qM_laysTurn wM g o_v 331 [(0, .ref (g.1 0)), (2, .int p2), (8, .int x22)] [] σ19 (J32 ())) (fun _ => ?_) (fun J32 hJ32 => ?_)
              · refine q_iconst (pc' := 332) C d_M_laysTurn_331 ki_0 rfl ?_
                exact Rt.sub [0, 1, 2] rfl (hJ25 (0 : Int32))
              refine q_icmp_gt (tgt := 331) (pc' := 296) C d_M_laysTurn_293 rfl rfl ?_ ?_
              · exact Rt.sub [1, 2, 0] rfl (hJ32 ())
              · refine q_aload_n (pc' := 297) C 1 d_M_laysTurn_296 rfl rfl ?_
                refine gM_69 (pc' := 300) C d_M_laysTurn_297 rfl rfl ?_
                refine q_iload_n (pc' := 301) C 2 d_M_laysTurn_300 rfl rfl ?_
                refine q_iald (pc' := 302) C 15 jM_15 kM_15 d_M_laysTurn_301 rfl ?_
                refine q_iconst (pc' := 303) C d_M_laysTurn_302 ki_2 rfl ?_
                refine q_iload (pc' := 305) C 0 d_M_laysTurn_303 rfl rfl ?_
                refine q_imul (pc' := 306) C d_M_laysTurn_305 rfl ?_
                refine q_icmp_lt (tgt := 331) (pc' := 309) C d_M_laysTurn_306 rfl rfl ?_ ?_
                · exact Rt.sub [1, 2, 0] rfl (hJ32 ())
                · refine q_aload_n (pc' := 310) C 1 d_M_laysTurn_309 rfl rfl ?_
                  refine gM_60 (pc' := 313) C d_M_laysTurn_310 rfl rfl ?_
                  refine q_iload_n (pc' := 314) C 2 d_M_laysTurn_313 rfl rfl ?_
                  refine q_iald (pc' := 315) C 12 jM_12 kM_12 d_M_laysTurn_314 rfl ?_
                  refine q_iconst (pc' := 316) C d_M_laysTurn_315 ki_2 rfl ?_
                  refine q_iload (pc' := 318) C 0 d_M_laysTurn_316 rfl rfl ?_
                  refine q_imul (pc' := 319) C d_M_laysTurn_318 rfl ?_
                  refine q_icmp_lt (tgt := 331) (pc' := 322) C d_M_laysTurn_319 rfl rfl ?_ ?_
                  · exact Rt.sub [1, 2, 0] rfl (hJ32 ())
                  · refine q_iload (pc' := 324) C 4 d_M_laysTurn_322 rfl rfl ?_
                    refine q_if_ne (tgt := 331) (pc' := 327) C d_M_laysTurn_324 rfl rfl ?_ ?_
                    · exact Rt.sub [1, 2, 0] rfl (hJ32 ())
                    · refine q_iconst (pc' := 328) C d_M_laysTurn_327 ki_1 rfl ?_
                      refine q_goto (tgt := 332) C d_M_laysTurn_328 rfl ?_
                      exact Rt.sub [1, 2, 0] rfl (hJ25 (1 : Int32))
            refine q_icmp_gt (tgt := 286) (pc' := 262) C d_M_laysTurn_259 rfl rfl ?_ ?_
            · refine q_iconst (pc' := 287) C d_M_laysTurn_286 ki_0 rfl ?_
              exact Rt.sub [1, 2, 3, 0] rfl (hJ23 (0 : Int32))
            · refine q_aload_n (pc' := 263) C 1 d_M_laysTurn_262 rfl rfl ?_
              refine gM_102 (pc' := 266) C d_M_laysTurn_263 rfl rfl ?_
              refine q_iload_n (pc' := 267) C 2 d_M_laysTurn_266 rfl rfl ?_
              refine q_iald (pc' := 268) C 26 jM_26 kM_26 d_M_laysTurn_267 rfl ?_
              refine q_i2l (pc' := 269) C d_M_laysTurn_268 rfl ?_
              refine q_aload_n (pc' := 270) C 1 d_M_laysTurn_269 rfl rfl ?_
              refine gM_42 (pc' := 273) C d_M_laysTurn_270 rfl rfl ?_
              refine q_iload (pc' := 275) C 3 d_M_laysTurn_273 rfl rfl ?_
              refine q_iald (pc' := 276) C 6 jM_6 kM_6 d_M_laysTurn_275 rfl ?_
              refine q_i2l (pc' := 277) C d_M_laysTurn_276 rfl ?_
              refine q_lmul (pc' := 278) C d_M_laysTurn_277 rfl ?_
              refine q_ldc2 (pc' := 281) C lLM_160 d_M_laysTurn_278 rfl ?_
              refine q_ldiv (pc' := 282) C (by decide) d_M_laysTurn_281 rfl ?_
              refine q_l2i (pc' := 283) C d_M_laysTurn_282 rfl ?_
              refine q_goto (tgt := 287) C d_M_laysTurn_283 rfl ?_
              exact Rt.sub [1, 2, 3, 0] rfl (hJ23 (Int64.toInt32 (((Int32.toInt64 (σ19 26 (Int32.toNatClampNeg p2))) * (Int32.toInt64 (σ19 6 (Int32.toNatClampNeg x11)))) / (1000 : Int64))))
          refine q_join (fun J33 : Unit → Option (St) => ∀ (_ : Unit), Rt z qM_laysTurn wM g o_v 252 [(0, .ref (g.1 0)), (2, .int p2), (4, .int x11)] [] σ19 (J33 ())) (fun _ => ?_) (fun J33 hJ33 => ?_)
          · refine q_iconst (pc' := 253) C d_M_laysTurn_252 ki_0 rfl ?_
            exact Rt.sub [0, 1, 2] rfl (hJ21 (0 : Int32))
          refine q_icmp_eq (tgt := 252) (pc' := 214) C d_M_laysTurn_211 rfl rfl ?_ ?_
          · exact Rt.sub [2, 4, 1] rfl (hJ33 ())
          · refine q_aload_n (pc' := 215) C 2 d_M_laysTurn_214 rfl rfl ?_
            refine q_iload_n (pc' := 216) C 3 d_M_laysTurn_215 rfl rfl ?_
            refine q_aload_n (pc' := 217) C 2 d_M_laysTurn_216 rfl rfl ?_
            refine gM_72 (pc' := 220) C d_M_laysTurn_217 rfl rfl ?_
            refine q_iload_n (pc' := 221) C 4 d_M_laysTurn_220 rfl rfl ?_
            refine q_iald (pc' := 222) C 16 jM_16 kM_16 d_M_laysTurn_221 rfl ?_
            refine q_iconst (pc' := 223) C d_M_laysTurn_222 ki_0 rfl ?_
            refine q_callVr (fr' := 0) (lo' := 0) (pc' := 226) C FM_of lmM_168 d_M_laysTurn_223 0 jM_0 kM_0 cM0 [.int p1, .int (σ19 16 (Int32.toNatClampNeg p2)), .int (0 : Int32)] [] rfl rfl (Nat.le_of_ble_eq_true rfl) ⟨rfl, rfl⟩ (fun x h => cM_of _ g hi σ19 p1 (σ19 16 (Int32.toNatClampNeg p2)) (0 : Int32) x h) rfl (fun x34 _ => ?_)
            refine q_bipush (pc' := 228) C d_M_laysTurn_226 kb_8 rfl ?_
            refine q_join (fun J35 : Unit → Option (St) => ∀ (_ : Unit), Rt z qM_laysTurn wM g o_v 248 [(0, .ref (g.1 0)), (2, .int p2), (4, .int x11)] [] σ19 (J35 ())) (fun _ => ?_) (fun J35 hJ35 => ?_)
            · refine q_iconst (pc' := 249) C d_M_laysTurn_248 ki_1 rfl ?_
              refine q_goto (tgt := 253) C d_M_laysTurn_249 rfl ?_
              exact Rt.sub [0, 1, 2] rfl (hJ21 (1 : Int32))
            refine q_icmp_eq (tgt := 248) (pc' := 231) C d_M_laysTurn_228 rfl rfl ?_ ?_
            · exact Rt.sub [2, 4, 1] rfl (hJ35 ())
            · refine q_aload_n (pc' := 232) C 2 d_M_laysTurn_231 rfl rfl ?_
              refine q_iload_n (pc' := 233) C 3 d_M_laysTurn_232 rfl rfl ?_
              refine q_aload_n (pc' := 234) C 2 d_M_laysTurn_233 rfl rfl ?_
              refine gM_72 (pc' := 237) C d_M_laysTurn_234 rfl rfl ?_
              refine q_iload_n (pc' := 238) C 4 d_M_laysTurn_237 rfl rfl ?_
              refine q_iald (pc' := 239) C 16 jM_16 kM_16 d_M_laysTurn_238 rfl ?_
              refine q_bipush (pc' := 241) C d_M_laysTurn_239 kb_12 rfl ?_
              refine q_callVr (fr' := 0) (lo' := 0) (pc' := 244) C FM_of lmM_168 d_M_laysTurn_241 0 jM_0 kM_0 cM0 [.int p1, .int (σ19 16 (Int32.toNatClampNeg p2)), .int (12 : Int32)] [] rfl rfl (Nat.le_of_ble_eq_true rfl) ⟨rfl, rfl⟩ (fun x h => cM_of _ g hi σ19 p1 (σ19 16 (Int32.toNatClampNeg p2)) (12 : Int32) x h) rfl (fun x36 _ => ?_)
              refine q_iconst (pc' := 245) C d_M_laysTurn_244 ki_1 rfl ?_
              refine q_icmp_ne (tgt := 252) (pc' := 248) C d_M_laysTurn_245 rfl rfl ?_ ?_
              · exact Rt.sub [2, 4, 1] rfl (hJ33 ())
              · exact Rt.sub [2, 4, 1] rfl (hJ35 ())
        refine q_icmp_gt (tgt := 107) (pc' := 103) C d_M_laysTurn_100 rfl rfl ?_ ?_
        · refine q_bipush (pc' := 109) C d_M_laysTurn_107 kb_24 rfl ?_
          refine q_iload_n (pc' := 110) C 3 d_M_laysTurn_109 rfl rfl ?_
          refine q_isub (pc' := 111) C d_M_laysTurn_110 rfl ?_
          exact Rt.sub [0, 1, 2] rfl (hJ12 ((24 : Int32) - x7))
        · refine q_iload_n (pc' := 104) C 3 d_M_laysTurn_103 rfl rfl ?_
          refine q_goto (tgt := 111) C d_M_laysTurn_104 rfl ?_
          exact Rt.sub [0, 1, 2] rfl (hJ12 x7)
      refine q_icmp_gt (tgt := 92) (pc' := 88) C d_M_laysTurn_85 rfl rfl ?_ ?_
      · refine q_iload_n (pc' := 93) C 0 d_M_laysTurn_92 rfl rfl ?_
        refine q_bipush (pc' := 95) C d_M_laysTurn_93 kb_24 rfl ?_
        refine q_isub (pc' := 96) C d_M_laysTurn_95 rfl ?_
        exact Rt.sub [1, 2, 3, 0] rfl (hJ9 (x7 - (24 : Int32)))
      · refine q_iload_n (pc' := 89) C 0 d_M_laysTurn_88 rfl rfl ?_
        refine q_goto (tgt := 96) C d_M_laysTurn_89 rfl ?_
        exact Rt.sub [1, 2, 3, 0] rfl (hJ9 x7)
    · exact Rt.sub [] rfl (hJ6 ())
theorem d_M_piece_0 : decode qM_piece.1 0 = .ok (.iload_n 3, 1) := by decide +kernel
theorem d_M_piece_1 : decode qM_piece.1 1 = .ok (.ifCond .gt 4, 3) := by decide +kernel
theorem d_M_piece_4 : decode qM_piece.1 4 = .ok (.return_, 1) := by decide +kernel
theorem d_M_piece_5 : decode qM_piece.1 5 = .ok (.aload_n 0, 1) := by decide +kernel
theorem d_M_piece_6 : decode qM_piece.1 6 = .ok (.getfield 111, 3) := by decide +kernel
theorem d_M_piece_9 : decode qM_piece.1 9 = .ok (.aload_n 0, 1) := by decide +kernel
theorem d_M_piece_10 : decode qM_piece.1 10 = .ok (.getfield 289, 3) := by decide +kernel
theorem d_M_piece_13 : decode qM_piece.1 13 = .ok (.iload_n 1, 1) := by decide +kernel
theorem d_M_piece_14 : decode qM_piece.1 14 = .ok (.iastore, 1) := by decide +kernel
theorem d_M_piece_15 : decode qM_piece.1 15 = .ok (.aload_n 0, 1) := by decide +kernel
theorem d_M_piece_16 : decode qM_piece.1 16 = .ok (.getfield 114, 3) := by decide +kernel
theorem d_M_piece_19 : decode qM_piece.1 19 = .ok (.aload_n 0, 1) := by decide +kernel
theorem d_M_piece_20 : decode qM_piece.1 20 = .ok (.getfield 289, 3) := by decide +kernel
theorem d_M_piece_23 : decode qM_piece.1 23 = .ok (.iload_n 2, 1) := by decide +kernel
theorem d_M_piece_24 : decode qM_piece.1 24 = .ok (.iastore, 1) := by decide +kernel
theorem d_M_piece_25 : decode qM_piece.1 25 = .ok (.aload_n 0, 1) := by decide +kernel
theorem d_M_piece_26 : decode qM_piece.1 26 = .ok (.getfield 117, 3) := by decide +kernel
theorem d_M_piece_29 : decode qM_piece.1 29 = .ok (.aload_n 0, 1) := by decide +kernel
theorem d_M_piece_30 : decode qM_piece.1 30 = .ok (.getfield 289, 3) := by decide +kernel
theorem d_M_piece_33 : decode qM_piece.1 33 = .ok (.iload_n 3, 1) := by decide +kernel
theorem d_M_piece_34 : decode qM_piece.1 34 = .ok (.iastore, 1) := by decide +kernel
theorem d_M_piece_35 : decode qM_piece.1 35 = .ok (.aload_n 0, 1) := by decide +kernel
theorem d_M_piece_36 : decode qM_piece.1 36 = .ok (.getfield 120, 3) := by decide +kernel
theorem d_M_piece_39 : decode qM_piece.1 39 = .ok (.aload_n 0, 1) := by decide +kernel
theorem d_M_piece_40 : decode qM_piece.1 40 = .ok (.getfield 289, 3) := by decide +kernel
theorem d_M_piece_43 : decode qM_piece.1 43 = .ok (.iload 4, 2) := by decide +kernel
theorem d_M_piece_45 : decode qM_piece.1 45 = .ok (.iastore, 1) := by decide +kernel
theorem d_M_piece_46 : decode qM_piece.1 46 = .ok (.aload_n 0, 1) := by decide +kernel
theorem d_M_piece_47 : decode qM_piece.1 47 = .ok (.getfield 123, 3) := by decide +kernel
theorem d_M_piece_50 : decode qM_piece.1 50 = .ok (.aload_n 0, 1) := by decide +kernel
theorem d_M_piece_51 : decode qM_piece.1 51 = .ok (.getfield 289, 3) := by decide +kernel
theorem d_M_piece_54 : decode qM_piece.1 54 = .ok (.aload_n 0, 1) := by decide +kernel
theorem d_M_piece_55 : decode qM_piece.1 55 = .ok (.getfield 292, 3) := by decide +kernel
theorem d_M_piece_58 : decode qM_piece.1 58 = .ok (.iastore, 1) := by decide +kernel
theorem d_M_piece_59 : decode qM_piece.1 59 = .ok (.aload_n 0, 1) := by decide +kernel
theorem d_M_piece_60 : decode qM_piece.1 60 = .ok (.getfield 126, 3) := by decide +kernel
theorem d_M_piece_63 : decode qM_piece.1 63 = .ok (.aload_n 0, 1) := by decide +kernel
theorem d_M_piece_64 : decode qM_piece.1 64 = .ok (.getfield 289, 3) := by decide +kernel
theorem d_M_piece_67 : decode qM_piece.1 67 = .ok (.aload_n 0, 1) := by decide +kernel
theorem d_M_piece_68 : decode qM_piece.1 68 = .ok (.getfield 295, 3) := by decide +kernel
theorem d_M_piece_71 : decode qM_piece.1 71 = .ok (.iastore, 1) := by decide +kernel
theorem d_M_piece_72 : decode qM_piece.1 72 = .ok (.aload_n 0, 1) := by decide +kernel
theorem d_M_piece_73 : decode qM_piece.1 73 = .ok (.getfield 129, 3) := by decide +kernel
theorem d_M_piece_76 : decode qM_piece.1 76 = .ok (.aload_n 0, 1) := by decide +kernel
theorem d_M_piece_77 : decode qM_piece.1 77 = .ok (.getfield 289, 3) := by decide +kernel
theorem d_M_piece_80 : decode qM_piece.1 80 = .ok (.iload 5, 2) := by decide +kernel
theorem d_M_piece_82 : decode qM_piece.1 82 = .ok (.iastore, 1) := by decide +kernel
theorem d_M_piece_83 : decode qM_piece.1 83 = .ok (.aload_n 0, 1) := by decide +kernel
theorem d_M_piece_84 : decode qM_piece.1 84 = .ok (.getfield 132, 3) := by decide +kernel
theorem d_M_piece_87 : decode qM_piece.1 87 = .ok (.aload_n 0, 1) := by decide +kernel
theorem d_M_piece_88 : decode qM_piece.1 88 = .ok (.getfield 289, 3) := by decide +kernel
theorem d_M_piece_91 : decode qM_piece.1 91 = .ok (.iload 6, 2) := by decide +kernel
theorem d_M_piece_93 : decode qM_piece.1 93 = .ok (.iastore, 1) := by decide +kernel
theorem d_M_piece_94 : decode qM_piece.1 94 = .ok (.aload_n 0, 1) := by decide +kernel
theorem d_M_piece_95 : decode qM_piece.1 95 = .ok (.dup, 1) := by decide +kernel
theorem d_M_piece_96 : decode qM_piece.1 96 = .ok (.getfield 289, 3) := by decide +kernel
theorem d_M_piece_99 : decode qM_piece.1 99 = .ok (.iconst 1, 1) := by decide +kernel
theorem d_M_piece_100 : decode qM_piece.1 100 = .ok (.iadd, 1) := by decide +kernel
theorem d_M_piece_101 : decode qM_piece.1 101 = .ok (.putfield 289, 3) := by decide +kernel
theorem d_M_piece_104 : decode qM_piece.1 104 = .ok (.aload_n 0, 1) := by decide +kernel
theorem d_M_piece_105 : decode qM_piece.1 105 = .ok (.iload 5, 2) := by decide +kernel
theorem d_M_piece_107 : decode qM_piece.1 107 = .ok (.putfield 292, 3) := by decide +kernel
theorem d_M_piece_110 : decode qM_piece.1 110 = .ok (.aload_n 0, 1) := by decide +kernel
theorem d_M_piece_111 : decode qM_piece.1 111 = .ok (.iload 6, 2) := by decide +kernel
theorem d_M_piece_113 : decode qM_piece.1 113 = .ok (.putfield 295, 3) := by decide +kernel
theorem d_M_piece_116 : decode qM_piece.1 116 = .ok (.return_, 1) := by decide +kernel
set_option maxRecDepth 100000 in
def m_piece (σ : St) (p1 : Int32) (p2 : Int32) (p3 : Int32) (p4 : Int32) (p5 : Int32) (p6 : Int32) : Option (St) :=
  if (0 : Int32) < p3 then (
  Gd (Ix (σ 0 57) 180) <|
  Lt (s2 σ 29 (Int32.toNatClampNeg (σ 0 57)) p1) fun σ1 =>
  Gd (Ix (σ1 0 57) 180) <|
  Lt (s2 σ1 30 (Int32.toNatClampNeg (σ1 0 57)) p2) fun σ2 =>
  Gd (Ix (σ2 0 57) 180) <|
  Lt (s2 σ2 31 (Int32.toNatClampNeg (σ2 0 57)) p3) fun σ3 =>
  Gd (Ix (σ3 0 57) 180) <|
  Lt (s2 σ3 32 (Int32.toNatClampNeg (σ3 0 57)) p4) fun σ4 =>
  Gd (Ix (σ4 0 57) 180) <|
  Lt (s2 σ4 33 (Int32.toNatClampNeg (σ4 0 57)) (σ4 0 58)) fun σ5 =>
  Gd (Ix (σ5 0 57) 180) <|
  Lt (s2 σ5 34 (Int32.toNatClampNeg (σ5 0 57)) (σ5 0 59)) fun σ6 =>
  Gd (Ix (σ6 0 57) 180) <|
  Lt (s2 σ6 35 (Int32.toNatClampNeg (σ6 0 57)) p5) fun σ7 =>
  Gd (Ix (σ7 0 57) 180) <|
  Lt (s2 σ7 36 (Int32.toNatClampNeg (σ7 0 57)) p6) fun σ8 =>
  Lt (s2 σ8 0 57 ((σ8 0 57) + (1 : Int32))) fun σ9 =>
  Lt (s2 σ9 0 58 p5) fun σ10 =>
  Lt (s2 σ10 0 59 p6) fun σ11 =>
  some σ11
  ) else (
  some σ
  )
set_option maxHeartbeats 4000000 in
set_option maxRecDepth 100000 in
theorem cM_piece (l : Launch) (g : Ge) (hi : injB wM.2 g) (σ : St) (p1 : Int32) (p2 : Int32) (p3 : Int32) (p4 : Int32) (p5 : Int32) (p6 : Int32) (x : St) (h : m_piece σ p1 p2 p3 p4 p5 p6 = some x) : Ct l wM g yM_piece qM_piece 0 0 [.ref (g.1 0), .int p1, .int p2, .int p3, .int p4, .int p5, .int p6] σ (none, x) := by
  refine Ct.of (out := o_v) FM_piece rfl hi rfl h (fun z hz C => ?_)
  clear h
  subst hz
  unfold m_piece
  show Rt z qM_piece wM g o_v 0 [(0, .ref (g.1 0)), (1, .int p1), (2, .int p2), (3, .int p3), (4, .int p4), (5, .int p5), (6, .int p6)] [] σ _
  refine q_iload_n (pc' := 1) C 3 d_M_piece_0 rfl rfl ?_
  refine q_if_gt (tgt := 5) (pc' := 4) C d_M_piece_1 rfl rfl ?_ ?_
  · refine q_aload_n (pc' := 6) C 0 d_M_piece_5 rfl rfl ?_
    refine gM_111 (pc' := 9) C d_M_piece_6 rfl rfl ?_
    refine q_aload_n (pc' := 10) C 0 d_M_piece_9 rfl rfl ?_
    refine gM_289 (pc' := 13) C d_M_piece_10 rfl rfl ?_
    refine q_iload_n (pc' := 14) C 1 d_M_piece_13 rfl rfl ?_
    refine q_iast (pc' := 15) C 29 jM_29 kM_29 d_M_piece_14 rfl ?_
    refine q_let (fun σ1 e1 => ?_)
    refine q_state e1 ?_
    refine q_aload_n (pc' := 16) C 0 d_M_piece_15 rfl rfl ?_
    refine gM_114 (pc' := 19) C d_M_piece_16 rfl rfl ?_
    refine q_aload_n (pc' := 20) C 0 d_M_piece_19 rfl rfl ?_
    refine gM_289 (pc' := 23) C d_M_piece_20 rfl rfl ?_
    refine q_iload_n (pc' := 24) C 2 d_M_piece_23 rfl rfl ?_
    refine q_iast (pc' := 25) C 30 jM_30 kM_30 d_M_piece_24 rfl ?_
    refine q_let (fun σ2 e2 => ?_)
    refine q_state e2 ?_
    refine q_aload_n (pc' := 26) C 0 d_M_piece_25 rfl rfl ?_
    refine gM_117 (pc' := 29) C d_M_piece_26 rfl rfl ?_
    refine q_aload_n (pc' := 30) C 0 d_M_piece_29 rfl rfl ?_
    refine gM_289 (pc' := 33) C d_M_piece_30 rfl rfl ?_
    refine q_iload_n (pc' := 34) C 3 d_M_piece_33 rfl rfl ?_
    refine q_iast (pc' := 35) C 31 jM_31 kM_31 d_M_piece_34 rfl ?_
    refine q_let (fun σ3 e3 => ?_)
    refine q_state e3 ?_
    refine q_aload_n (pc' := 36) C 0 d_M_piece_35 rfl rfl ?_
    refine gM_120 (pc' := 39) C d_M_piece_36 rfl rfl ?_
    refine q_aload_n (pc' := 40) C 0 d_M_piece_39 rfl rfl ?_
    refine gM_289 (pc' := 43) C d_M_piece_40 rfl rfl ?_
    refine q_iload (pc' := 45) C 4 d_M_piece_43 rfl rfl ?_
    refine q_iast (pc' := 46) C 32 jM_32 kM_32 d_M_piece_45 rfl ?_
    refine q_let (fun σ4 e4 => ?_)
    refine q_state e4 ?_
    refine q_aload_n (pc' := 47) C 0 d_M_piece_46 rfl rfl ?_
    refine gM_123 (pc' := 50) C d_M_piece_47 rfl rfl ?_
    refine q_aload_n (pc' := 51) C 0 d_M_piece_50 rfl rfl ?_
    refine gM_289 (pc' := 54) C d_M_piece_51 rfl rfl ?_
    refine q_aload_n (pc' := 55) C 0 d_M_piece_54 rfl rfl ?_
    refine gM_292 (pc' := 58) C d_M_piece_55 rfl rfl ?_
    refine q_iast (pc' := 59) C 33 jM_33 kM_33 d_M_piece_58 rfl ?_
    refine q_let (fun σ5 e5 => ?_)
    refine q_state e5 ?_
    refine q_aload_n (pc' := 60) C 0 d_M_piece_59 rfl rfl ?_
    refine gM_126 (pc' := 63) C d_M_piece_60 rfl rfl ?_
    refine q_aload_n (pc' := 64) C 0 d_M_piece_63 rfl rfl ?_
    refine gM_289 (pc' := 67) C d_M_piece_64 rfl rfl ?_
    refine q_aload_n (pc' := 68) C 0 d_M_piece_67 rfl rfl ?_
    refine gM_295 (pc' := 71) C d_M_piece_68 rfl rfl ?_
    refine q_iast (pc' := 72) C 34 jM_34 kM_34 d_M_piece_71 rfl ?_
    refine q_let (fun σ6 e6 => ?_)
    refine q_state e6 ?_
    refine q_aload_n (pc' := 73) C 0 d_M_piece_72 rfl rfl ?_
    refine gM_129 (pc' := 76) C d_M_piece_73 rfl rfl ?_
    refine q_aload_n (pc' := 77) C 0 d_M_piece_76 rfl rfl ?_
    refine gM_289 (pc' := 80) C d_M_piece_77 rfl rfl ?_
    refine q_iload (pc' := 82) C 5 d_M_piece_80 rfl rfl ?_
    refine q_iast (pc' := 83) C 35 jM_35 kM_35 d_M_piece_82 rfl ?_
    refine q_let (fun σ7 e7 => ?_)
    refine q_state e7 ?_
    refine q_aload_n (pc' := 84) C 0 d_M_piece_83 rfl rfl ?_
    refine gM_132 (pc' := 87) C d_M_piece_84 rfl rfl ?_
    refine q_aload_n (pc' := 88) C 0 d_M_piece_87 rfl rfl ?_
    refine gM_289 (pc' := 91) C d_M_piece_88 rfl rfl ?_
    refine q_iload (pc' := 93) C 6 d_M_piece_91 rfl rfl ?_
    refine q_iast (pc' := 94) C 36 jM_36 kM_36 d_M_piece_93 rfl ?_
    refine q_let (fun σ8 e8 => ?_)
    refine q_state e8 ?_
    refine q_aload_n (pc' := 95) C 0 d_M_piece_94 rfl rfl ?_
    refine q_dup (pc' := 96) C d_M_piece_95 rfl rfl ?_
    refine gM_289 (pc' := 99) C d_M_piece_96 rfl rfl ?_
    refine q_iconst (pc' := 100) C d_M_piece_99 ki_1 rfl ?_
    refine q_iadd (pc' := 101) C d_M_piece_100 rfl ?_
    refine pM_289 (pc' := 104) C d_M_piece_101 rfl rfl ?_
    refine q_let (fun σ9 e9 => ?_)
    refine q_state e9 ?_
    refine q_aload_n (pc' := 105) C 0 d_M_piece_104 rfl rfl ?_
    refine q_iload (pc' := 107) C 5 d_M_piece_105 rfl rfl ?_
    refine pM_292 (pc' := 110) C d_M_piece_107 rfl rfl ?_
    refine q_let (fun σ10 e10 => ?_)
    refine q_state e10 ?_
    refine q_aload_n (pc' := 111) C 0 d_M_piece_110 rfl rfl ?_
    refine q_iload (pc' := 113) C 6 d_M_piece_111 rfl rfl ?_
    refine pM_295 (pc' := 116) C d_M_piece_113 rfl rfl ?_
    refine q_let (fun σ11 e11 => ?_)
    refine q_state e11 ?_
    exact q_vret C rfl d_M_piece_116 rfl
  · exact q_vret C rfl d_M_piece_4 rfl
theorem d_M_before_0 : decode qM_before.1 0 = .ok (.iload_n 3, 1) := by decide +kernel
theorem d_M_before_1 : decode qM_before.1 1 = .ok (.ifCond .ne 7, 3) := by decide +kernel
theorem d_M_before_4 : decode qM_before.1 4 = .ok (.iload_n 1, 1) := by decide +kernel
theorem d_M_before_5 : decode qM_before.1 5 = .ok (.goto 27, 3) := by decide +kernel
theorem d_M_before_8 : decode qM_before.1 8 = .ok (.iload_n 2, 1) := by decide +kernel
theorem d_M_before_9 : decode qM_before.1 9 = .ok (.iload_n 3, 1) := by decide +kernel
theorem d_M_before_10 : decode qM_before.1 10 = .ok (.if_icmp .le 7, 3) := by decide +kernel
theorem d_M_before_13 : decode qM_before.1 13 = .ok (.iload_n 0, 1) := by decide +kernel
theorem d_M_before_14 : decode qM_before.1 14 = .ok (.goto 18, 3) := by decide +kernel
theorem d_M_before_17 : decode qM_before.1 17 = .ok (.iload_n 1, 1) := by decide +kernel
theorem d_M_before_18 : decode qM_before.1 18 = .ok (.i2l, 1) := by decide +kernel
theorem d_M_before_19 : decode qM_before.1 19 = .ok (.iload_n 0, 1) := by decide +kernel
theorem d_M_before_20 : decode qM_before.1 20 = .ok (.i2l, 1) := by decide +kernel
theorem d_M_before_21 : decode qM_before.1 21 = .ok (.iload_n 1, 1) := by decide +kernel
theorem d_M_before_22 : decode qM_before.1 22 = .ok (.i2l, 1) := by decide +kernel
theorem d_M_before_23 : decode qM_before.1 23 = .ok (.lsub, 1) := by decide +kernel
theorem d_M_before_24 : decode qM_before.1 24 = .ok (.iload_n 2, 1) := by decide +kernel
theorem d_M_before_25 : decode qM_before.1 25 = .ok (.i2l, 1) := by decide +kernel
theorem d_M_before_26 : decode qM_before.1 26 = .ok (.lmul, 1) := by decide +kernel
theorem d_M_before_27 : decode qM_before.1 27 = .ok (.iload_n 3, 1) := by decide +kernel
theorem d_M_before_28 : decode qM_before.1 28 = .ok (.i2l, 1) := by decide +kernel
theorem d_M_before_29 : decode qM_before.1 29 = .ok (.ldiv, 1) := by decide +kernel
theorem d_M_before_30 : decode qM_before.1 30 = .ok (.ladd, 1) := by decide +kernel
theorem d_M_before_31 : decode qM_before.1 31 = .ok (.l2i, 1) := by decide +kernel
theorem d_M_before_32 : decode qM_before.1 32 = .ok (.ireturn, 1) := by decide +kernel
set_option maxRecDepth 100000 in
def m_before (p0 : Int32) (p1 : Int32) (p2 : Int32) (p3 : Int32) : Option (Int32) :=
  Jn (fun (x1 : Int32) =>
  some x1
  ) fun J2 =>
  if (p3 : Int32) = 0 then (
  J2 p1
  ) else (
  if (p2 : Int32) ≤ p3 then (
  Gd (¬ ((Int32.toInt64 p3) : Int64) = 0) <|
  J2 (Int64.toInt32 ((Int32.toInt64 p1) + ((((Int32.toInt64 p0) - (Int32.toInt64 p1)) * (Int32.toInt64 p2)) / (Int32.toInt64 p3))))
  ) else (
  J2 p0
  )
  )
set_option maxHeartbeats 4000000 in
set_option maxRecDepth 100000 in
theorem cM_before (l : Launch) (g : Ge) (hi : injB wM.2 g) (σ : St) (p0 : Int32) (p1 : Int32) (p2 : Int32) (p3 : Int32) (x : Int32) (h : m_before p0 p1 p2 p3 = some x) : Ct l wM g yM_before qM_before 0 0 [.int p0, .int p1, .int p2, .int p3] σ (some (.int x), σ) := by
  refine Ct.of (out := (o_r σ)) FM_before rfl hi rfl h (fun z hz C => ?_)
  clear h
  subst hz
  unfold m_before
  show Rt z qM_before wM g (o_r σ) 0 [(0, .int p0), (1, .int p1), (2, .int p2), (3, .int p3)] [] σ _
  refine q_iload_n (pc' := 1) C 3 d_M_before_0 rfl rfl ?_
  refine q_join (fun J2 : Int32 → Option (Int32) => ∀ (x1 : Int32), Rt z qM_before wM g (o_r σ) 32 [] [.int x1] σ (J2 x1)) (fun x1 => ?_) (fun J2 hJ2 => ?_)
  · exact q_iret C rfl d_M_before_32 rfl
  refine q_if_ne (tgt := 8) (pc' := 4) C d_M_before_1 rfl rfl ?_ ?_
  · refine q_iload_n (pc' := 9) C 2 d_M_before_8 rfl rfl ?_
    refine q_iload_n (pc' := 10) C 3 d_M_before_9 rfl rfl ?_
    refine q_icmp_le (tgt := 17) (pc' := 13) C d_M_before_10 rfl rfl ?_ ?_
    · refine q_iload_n (pc' := 18) C 1 d_M_before_17 rfl rfl ?_
      refine q_i2l (pc' := 19) C d_M_before_18 rfl ?_
      refine q_iload_n (pc' := 20) C 0 d_M_before_19 rfl rfl ?_
      refine q_i2l (pc' := 21) C d_M_before_20 rfl ?_
      refine q_iload_n (pc' := 22) C 1 d_M_before_21 rfl rfl ?_
      refine q_i2l (pc' := 23) C d_M_before_22 rfl ?_
      refine q_lsub (pc' := 24) C d_M_before_23 rfl ?_
      refine q_iload_n (pc' := 25) C 2 d_M_before_24 rfl rfl ?_
      refine q_i2l (pc' := 26) C d_M_before_25 rfl ?_
      refine q_lmul (pc' := 27) C d_M_before_26 rfl ?_
      refine q_iload_n (pc' := 28) C 3 d_M_before_27 rfl rfl ?_
      refine q_i2l (pc' := 29) C d_M_before_28 rfl ?_
      refine q_guard (fun gx3 => ?_)
      refine q_ldiv (pc' := 30) C gx3 d_M_before_29 rfl ?_
      refine q_ladd (pc' := 31) C d_M_before_30 rfl ?_
      refine q_l2i (pc' := 32) C d_M_before_31 rfl ?_
      exact Rt.sub [] rfl (hJ2 (Int64.toInt32 ((Int32.toInt64 p1) + ((((Int32.toInt64 p0) - (Int32.toInt64 p1)) * (Int32.toInt64 p2)) / (Int32.toInt64 p3)))))
    · refine q_iload_n (pc' := 14) C 0 d_M_before_13 rfl rfl ?_
      refine q_goto (tgt := 32) C d_M_before_14 rfl ?_
      exact Rt.sub [] rfl (hJ2 p0)
  · refine q_iload_n (pc' := 5) C 1 d_M_before_4 rfl rfl ?_
    refine q_goto (tgt := 32) C d_M_before_5 rfl ?_
    exact Rt.sub [] rfl (hJ2 p1)
