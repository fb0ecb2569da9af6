theorem d_Mod_placeAll_31 : decode b_Mod_placeAll 31 = .ok (.iconst 1, 1) := by decide +kernel
theorem d_Mod_placeAll_32 : decode b_Mod_placeAll 32 = .ok (.iadd, 1) := by decide +kernel
theorem d_Mod_placeAll_33 : decode b_Mod_placeAll 33 = .ok (.istore_n 3, 1) := by decide +kernel
theorem d_Mod_placeAll_34 : decode b_Mod_placeAll 34 = .ok (.iload_n 3, 1) := by decide +kernel
theorem d_Mod_placeAll_35 : decode b_Mod_placeAll 35 = .ok (.iload_n 1, 1) := by decide +kernel
theorem d_Mod_placeAll_36 : decode b_Mod_placeAll 36 = .ok (.iload_n 2, 1) := by decide +kernel
theorem d_Mod_placeAll_37 : decode b_Mod_placeAll 37 = .ok (.iadd, 1) := by decide +kernel
theorem d_Mod_placeAll_38 : decode b_Mod_placeAll 38 = .ok (.if_icmp .ge 459, 3) := by decide +kernel
theorem d_Mod_placeAll_41 : decode b_Mod_placeAll 41 = .ok (.aload_n 0, 1) := by decide +kernel
theorem d_Mod_placeAll_42 : decode b_Mod_placeAll 42 = .ok (.getfield 156, 3) := by decide +kernel
theorem d_Mod_placeAll_45 : decode b_Mod_placeAll 45 = .ok (.ifCond .eq 452, 3) := by decide +kernel
theorem d_Mod_placeAll_48 : decode b_Mod_placeAll 48 = .ok (.aload_n 0, 1) := by decide +kernel
theorem d_Mod_placeAll_49 : decode b_Mod_placeAll 49 = .ok (.getfield 68, 3) := by decide +kernel
theorem d_Mod_placeAll_52 : decode b_Mod_placeAll 52 = .ok (.aload_n 0, 1) := by decide +kernel
theorem d_Mod_placeAll_53 : decode b_Mod_placeAll 53 = .ok (.getfield 160, 3) := by decide +kernel
theorem d_Mod_placeAll_56 : decode b_Mod_placeAll 56 = .ok (.iconst 1, 1) := by decide +kernel
theorem d_Mod_placeAll_57 : decode b_Mod_placeAll 57 = .ok (.isub, 1) := by decide +kernel
theorem d_Mod_placeAll_58 : decode b_Mod_placeAll 58 = .ok (.iaload, 1) := by decide +kernel
theorem d_Mod_placeAll_59 : decode b_Mod_placeAll 59 = .ok (.iload_n 3, 1) := by decide +kernel
theorem d_Mod_placeAll_60 : decode b_Mod_placeAll 60 = .ok (.if_icmp .gt 16, 3) := by decide +kernel
theorem d_Mod_placeAll_63 : decode b_Mod_placeAll 63 = .ok (.aload_n 0, 1) := by decide +kernel
theorem d_Mod_placeAll_64 : decode b_Mod_placeAll 64 = .ok (.dup, 1) := by decide +kernel
theorem d_Mod_placeAll_65 : decode b_Mod_placeAll 65 = .ok (.getfield 160, 3) := by decide +kernel
theorem d_Mod_placeAll_68 : decode b_Mod_placeAll 68 = .ok (.iconst 1, 1) := by decide +kernel
theorem d_Mod_placeAll_69 : decode b_Mod_placeAll 69 = .ok (.isub, 1) := by decide +kernel
theorem d_Mod_placeAll_70 : decode b_Mod_placeAll 70 = .ok (.putfield 160, 3) := by decide +kernel
theorem d_Mod_placeAll_73 : decode b_Mod_placeAll 73 = .ok (.goto (-25), 3) := by decide +kernel
theorem d_Mod_placeAll_76 : decode b_Mod_placeAll 76 = .ok (.aload_n 0, 1) := by decide +kernel
theorem d_Mod_placeAll_77 : decode b_Mod_placeAll 77 = .ok (.getfield 75, 3) := by decide +kernel
theorem d_Mod_placeAll_80 : decode b_Mod_placeAll 80 = .ok (.bipush 8, 2) := by decide +kernel
theorem d_Mod_placeAll_82 : decode b_Mod_placeAll 82 = .ok (.aload_n 0, 1) := by decide +kernel
theorem d_Mod_placeAll_83 : decode b_Mod_placeAll 83 = .ok (.getfield 160, 3) := by decide +kernel
theorem d_Mod_placeAll_86 : decode b_Mod_placeAll 86 = .ok (.imul, 1) := by decide +kernel
theorem d_Mod_placeAll_87 : decode b_Mod_placeAll 87 = .ok (.bipush 8, 2) := by decide +kernel
theorem d_Mod_placeAll_89 : decode b_Mod_placeAll 89 = .ok (.isub, 1) := by decide +kernel
theorem d_Mod_placeAll_90 : decode b_Mod_placeAll 90 = .ok (.iaload, 1) := by decide +kernel
theorem d_Mod_placeAll_91 : decode b_Mod_placeAll 91 = .ok (.istore 4, 2) := by decide +kernel
theorem d_Mod_placeAll_93 : decode b_Mod_placeAll 93 = .ok (.aload_n 0, 1) := by decide +kernel
theorem d_Mod_placeAll_94 : decode b_Mod_placeAll 94 = .ok (.getfield 7, 3) := by decide +kernel
theorem d_Mod_placeAll_97 : decode b_Mod_placeAll 97 = .ok (.iload 4, 2) := by decide +kernel
theorem d_Mod_placeAll_99 : decode b_Mod_placeAll 99 = .ok (.iaload, 1) := by decide +kernel
theorem d_Mod_placeAll_100 : decode b_Mod_placeAll 100 = .ok (.iconst 4, 1) := by decide +kernel
theorem d_Mod_placeAll_101 : decode b_Mod_placeAll 101 = .ok (.if_icmp .ne 7, 3) := by decide +kernel
theorem d_Mod_placeAll_104 : decode b_Mod_placeAll 104 = .ok (.iconst 1, 1) := by decide +kernel
theorem d_Mod_placeAll_105 : decode b_Mod_placeAll 105 = .ok (.goto 4, 3) := by decide +kernel
theorem d_Mod_placeAll_108 : decode b_Mod_placeAll 108 = .ok (.iconst 0, 1) := by decide +kernel
theorem d_Mod_placeAll_109 : decode b_Mod_placeAll 109 = .ok (.istore 5, 2) := by decide +kernel
theorem d_Mod_placeAll_111 : decode b_Mod_placeAll 111 = .ok (.iload 5, 2) := by decide +kernel
theorem d_Mod_placeAll_113 : decode b_Mod_placeAll 113 = .ok (.ifCond .eq 17, 3) := by decide +kernel
theorem d_Mod_placeAll_116 : decode b_Mod_placeAll 116 = .ok (.aload_n 0, 1) := by decide +kernel
theorem d_Mod_placeAll_117 : decode b_Mod_placeAll 117 = .ok (.getfield 71, 3) := by decide +kernel
theorem d_Mod_placeAll_120 : decode b_Mod_placeAll 120 = .ok (.aload_n 0, 1) := by decide +kernel
theorem d_Mod_placeAll_121 : decode b_Mod_placeAll 121 = .ok (.getfield 160, 3) := by decide +kernel
theorem d_Mod_placeAll_124 : decode b_Mod_placeAll 124 = .ok (.iconst 1, 1) := by decide +kernel
theorem d_Mod_placeAll_125 : decode b_Mod_placeAll 125 = .ok (.isub, 1) := by decide +kernel
theorem d_Mod_placeAll_126 : decode b_Mod_placeAll 126 = .ok (.laload, 1) := by decide +kernel
theorem d_Mod_placeAll_127 : decode b_Mod_placeAll 127 = .ok (.goto 13, 3) := by decide +kernel
theorem d_Mod_placeAll_130 : decode b_Mod_placeAll 130 = .ok (.aload_n 0, 1) := by decide +kernel
theorem d_Mod_placeAll_131 : decode b_Mod_placeAll 131 = .ok (.getfield 62, 3) := by decide +kernel
theorem d_Mod_placeAll_134 : decode b_Mod_placeAll 134 = .ok (.iload 4, 2) := by decide +kernel
theorem d_Mod_placeAll_136 : decode b_Mod_placeAll 136 = .ok (.iload_n 1, 1) := by decide +kernel
theorem d_Mod_placeAll_137 : decode b_Mod_placeAll 137 = .ok (.isub, 1) := by decide +kernel
theorem d_Mod_placeAll_138 : decode b_Mod_placeAll 138 = .ok (.iaload, 1) := by decide +kernel
theorem d_Mod_placeAll_139 : decode b_Mod_placeAll 139 = .ok (.i2l, 1) := by decide +kernel
theorem d_Mod_placeAll_140 : decode b_Mod_placeAll 140 = .ok (.lstore 6, 2) := by decide +kernel
theorem d_Mod_placeAll_142 : decode b_Mod_placeAll 142 = .ok (.iload 5, 2) := by decide +kernel
theorem d_Mod_placeAll_144 : decode b_Mod_placeAll 144 = .ok (.ifCond .eq 16, 3) := by decide +kernel
theorem d_Mod_placeAll_147 : decode b_Mod_placeAll 147 = .ok (.aload_n 0, 1) := by decide +kernel
theorem d_Mod_placeAll_148 : decode b_Mod_placeAll 148 = .ok (.getfield 65, 3) := by decide +kernel
theorem d_Mod_placeAll_151 : decode b_Mod_placeAll 151 = .ok (.iload 4, 2) := by decide +kernel
theorem d_Mod_placeAll_153 : decode b_Mod_placeAll 153 = .ok (.iload_n 1, 1) := by decide +kernel
theorem d_Mod_placeAll_154 : decode b_Mod_placeAll 154 = .ok (.isub, 1) := by decide +kernel
theorem d_Mod_placeAll_155 : decode b_Mod_placeAll 155 = .ok (.iaload, 1) := by decide +kernel
theorem d_Mod_placeAll_156 : decode b_Mod_placeAll 156 = .ok (.i2l, 1) := by decide +kernel
theorem d_Mod_placeAll_157 : decode b_Mod_placeAll 157 = .ok (.goto 14, 3) := by decide +kernel
theorem d_Mod_placeAll_160 : decode b_Mod_placeAll 160 = .ok (.aload_n 0, 1) := by decide +kernel
theorem d_Mod_placeAll_161 : decode b_Mod_placeAll 161 = .ok (.getfield 71, 3) := by decide +kernel
theorem d_Mod_placeAll_164 : decode b_Mod_placeAll 164 = .ok (.aload_n 0, 1) := by decide +kernel
theorem d_Mod_placeAll_165 : decode b_Mod_placeAll 165 = .ok (.getfield 160, 3) := by decide +kernel
theorem d_Mod_placeAll_168 : decode b_Mod_placeAll 168 = .ok (.iconst 1, 1) := by decide +kernel
theorem d_Mod_placeAll_169 : decode b_Mod_placeAll 169 = .ok (.isub, 1) := by decide +kernel
theorem d_Mod_placeAll_170 : decode b_Mod_placeAll 170 = .ok (.laload, 1) := by decide +kernel
theorem d_Mod_placeAll_171 : decode b_Mod_placeAll 171 = .ok (.lstore 8, 2) := by decide +kernel
theorem d_Mod_placeAll_173 : decode b_Mod_placeAll 173 = .ok (.aload_n 0, 1) := by decide +kernel
theorem d_Mod_placeAll_174 : decode b_Mod_placeAll 174 = .ok (.iload_n 3, 1) := by decide +kernel
theorem d_Mod_placeAll_175 : decode b_Mod_placeAll 175 = .ok (.invokevirtual 116, 3) := by decide +kernel
theorem d_Mod_placeAll_178 : decode b_Mod_placeAll 178 = .ok (.ifCond .eq 13, 3) := by decide +kernel
theorem d_Mod_placeAll_181 : decode b_Mod_placeAll 181 = .ok (.aload_n 0, 1) := by decide +kernel
theorem d_Mod_placeAll_182 : decode b_Mod_placeAll 182 = .ok (.getfield 22, 3) := by decide +kernel
theorem d_Mod_placeAll_185 : decode b_Mod_placeAll 185 = .ok (.iload_n 3, 1) := by decide +kernel
theorem d_Mod_placeAll_186 : decode b_Mod_placeAll 186 = .ok (.iaload, 1) := by decide +kernel
theorem d_Mod_placeAll_187 : decode b_Mod_placeAll 187 = .ok (.i2l, 1) := by decide +kernel
theorem d_Mod_placeAll_188 : decode b_Mod_placeAll 188 = .ok (.goto 4, 3) := by decide +kernel
theorem d_Mod_placeAll_191 : decode b_Mod_placeAll 191 = .ok (.lconst 0, 1) := by decide +kernel
theorem d_Mod_placeAll_192 : decode b_Mod_placeAll 192 = .ok (.lstore 10, 2) := by decide +kernel
theorem d_Mod_placeAll_194 : decode b_Mod_placeAll 194 = .ok (.aload_n 0, 1) := by decide +kernel
theorem d_Mod_placeAll_195 : decode b_Mod_placeAll 195 = .ok (.getfield 16, 3) := by decide +kernel
theorem d_Mod_placeAll_198 : decode b_Mod_placeAll 198 = .ok (.iload_n 3, 1) := by decide +kernel
theorem d_Mod_placeAll_199 : decode b_Mod_placeAll 199 = .ok (.iaload, 1) := by decide +kernel
theorem d_Mod_placeAll_200 : decode b_Mod_placeAll 200 = .ok (.ldc 115, 2) := by decide +kernel
theorem d_Mod_placeAll_202 : decode b_Mod_placeAll 202 = .ok (.if_icmp .ne 14, 3) := by decide +kernel
theorem d_Mod_placeAll_205 : decode b_Mod_placeAll 205 = .ok (.aload_n 0, 1) := by decide +kernel
theorem d_Mod_placeAll_206 : decode b_Mod_placeAll 206 = .ok (.getfield 16, 3) := by decide +kernel
theorem d_Mod_placeAll_209 : decode b_Mod_placeAll 209 = .ok (.iload 4, 2) := by decide +kernel
theorem d_Mod_placeAll_211 : decode b_Mod_placeAll 211 = .ok (.iaload, 1) := by decide +kernel
theorem d_Mod_placeAll_212 : decode b_Mod_placeAll 212 = .ok (.i2l, 1) := by decide +kernel
theorem d_Mod_placeAll_213 : decode b_Mod_placeAll 213 = .ok (.goto 10, 3) := by decide +kernel
theorem d_Mod_placeAll_216 : decode b_Mod_placeAll 216 = .ok (.aload_n 0, 1) := by decide +kernel
theorem d_Mod_placeAll_217 : decode b_Mod_placeAll 217 = .ok (.getfield 16, 3) := by decide +kernel
theorem d_Mod_placeAll_220 : decode b_Mod_placeAll 220 = .ok (.iload_n 3, 1) := by decide +kernel
theorem d_Mod_placeAll_221 : decode b_Mod_placeAll 221 = .ok (.iaload, 1) := by decide +kernel
theorem d_Mod_placeAll_222 : decode b_Mod_placeAll 222 = .ok (.i2l, 1) := by decide +kernel
theorem d_Mod_placeAll_223 : decode b_Mod_placeAll 223 = .ok (.lstore 12, 2) := by decide +kernel
theorem d_Mod_placeAll_225 : decode b_Mod_placeAll 225 = .ok (.aload_n 0, 1) := by decide +kernel
theorem d_Mod_placeAll_226 : decode b_Mod_placeAll 226 = .ok (.getfield 19, 3) := by decide +kernel
theorem d_Mod_placeAll_229 : decode b_Mod_placeAll 229 = .ok (.iload_n 3, 1) := by decide +kernel
theorem d_Mod_placeAll_230 : decode b_Mod_placeAll 230 = .ok (.iaload, 1) := by decide +kernel
theorem d_Mod_placeAll_231 : decode b_Mod_placeAll 231 = .ok (.ldc 115, 2) := by decide +kernel
theorem d_Mod_placeAll_233 : decode b_Mod_placeAll 233 = .ok (.if_icmp .ne 14, 3) := by decide +kernel
theorem d_Mod_placeAll_236 : decode b_Mod_placeAll 236 = .ok (.aload_n 0, 1) := by decide +kernel
theorem d_Mod_placeAll_237 : decode b_Mod_placeAll 237 = .ok (.getfield 19, 3) := by decide +kernel
theorem d_Mod_placeAll_240 : decode b_Mod_placeAll 240 = .ok (.iload 4, 2) := by decide +kernel
theorem d_Mod_placeAll_242 : decode b_Mod_placeAll 242 = .ok (.iaload, 1) := by decide +kernel
theorem d_Mod_placeAll_243 : decode b_Mod_placeAll 243 = .ok (.i2l, 1) := by decide +kernel
theorem d_Mod_placeAll_244 : decode b_Mod_placeAll 244 = .ok (.goto 10, 3) := by decide +kernel
theorem d_Mod_placeAll_247 : decode b_Mod_placeAll 247 = .ok (.aload_n 0, 1) := by decide +kernel
theorem d_Mod_placeAll_248 : decode b_Mod_placeAll 248 = .ok (.getfield 19, 3) := by decide +kernel
theorem d_Mod_placeAll_251 : decode b_Mod_placeAll 251 = .ok (.iload_n 3, 1) := by decide +kernel
theorem d_Mod_placeAll_252 : decode b_Mod_placeAll 252 = .ok (.iaload, 1) := by decide +kernel
theorem d_Mod_placeAll_253 : decode b_Mod_placeAll 253 = .ok (.i2l, 1) := by decide +kernel
theorem d_Mod_placeAll_254 : decode b_Mod_placeAll 254 = .ok (.lstore 14, 2) := by decide +kernel
theorem d_Mod_placeAll_256 : decode b_Mod_placeAll 256 = .ok (.aload_n 0, 1) := by decide +kernel
theorem d_Mod_placeAll_257 : decode b_Mod_placeAll 257 = .ok (.getfield 7, 3) := by decide +kernel
theorem d_Mod_placeAll_260 : decode b_Mod_placeAll 260 = .ok (.iload_n 3, 1) := by decide +kernel
theorem d_Mod_placeAll_261 : decode b_Mod_placeAll 261 = .ok (.iaload, 1) := by decide +kernel
theorem d_Mod_placeAll_262 : decode b_Mod_placeAll 262 = .ok (.iconst 2, 1) := by decide +kernel
theorem d_Mod_placeAll_263 : decode b_Mod_placeAll 263 = .ok (.if_icmp .ne 7, 3) := by decide +kernel
theorem d_Mod_placeAll_266 : decode b_Mod_placeAll 266 = .ok (.iconst 1, 1) := by decide +kernel
theorem d_Mod_placeAll_267 : decode b_Mod_placeAll 267 = .ok (.goto 4, 3) := by decide +kernel
theorem d_Mod_placeAll_270 : decode b_Mod_placeAll 270 = .ok (.iconst 0, 1) := by decide +kernel
theorem d_Mod_placeAll_271 : decode b_Mod_placeAll 271 = .ok (.istore 16, 2) := by decide +kernel
theorem d_Mod_placeAll_273 : decode b_Mod_placeAll 273 = .ok (.aload_n 0, 1) := by decide +kernel
theorem d_Mod_placeAll_274 : decode b_Mod_placeAll 274 = .ok (.getfield 7, 3) := by decide +kernel
theorem d_Mod_placeAll_277 : decode b_Mod_placeAll 277 = .ok (.iload_n 3, 1) := by decide +kernel
theorem d_Mod_placeAll_278 : decode b_Mod_placeAll 278 = .ok (.iaload, 1) := by decide +kernel
theorem d_Mod_placeAll_279 : decode b_Mod_placeAll 279 = .ok (.iconst 3, 1) := by decide +kernel
theorem d_Mod_placeAll_280 : decode b_Mod_placeAll 280 = .ok (.if_icmp .ne 7, 3) := by decide +kernel
theorem d_Mod_placeAll_283 : decode b_Mod_placeAll 283 = .ok (.iconst 1, 1) := by decide +kernel
theorem d_Mod_placeAll_284 : decode b_Mod_placeAll 284 = .ok (.goto 4, 3) := by decide +kernel
theorem d_Mod_placeAll_287 : decode b_Mod_placeAll 287 = .ok (.iconst 0, 1) := by decide +kernel
theorem d_Mod_placeAll_288 : decode b_Mod_placeAll 288 = .ok (.istore 17, 2) := by decide +kernel
theorem d_Mod_placeAll_290 : decode b_Mod_placeAll 290 = .ok (.lload 6, 2) := by decide +kernel
theorem d_Mod_placeAll_292 : decode b_Mod_placeAll 292 = .ok (.iload 5, 2) := by decide +kernel
theorem d_Mod_placeAll_294 : decode b_Mod_placeAll 294 = .ok (.ifCond .eq 7, 3) := by decide +kernel
theorem d_Mod_placeAll_297 : decode b_Mod_placeAll 297 = .ok (.lconst 0, 1) := by decide +kernel
theorem d_Mod_placeAll_298 : decode b_Mod_placeAll 298 = .ok (.goto 5, 3) := by decide +kernel
theorem d_Mod_placeAll_301 : decode b_Mod_placeAll 301 = .ok (.lload 10, 2) := by decide +kernel
theorem d_Mod_placeAll_303 : decode b_Mod_placeAll 303 = .ok (.ladd, 1) := by decide +kernel
theorem d_Mod_placeAll_304 : decode b_Mod_placeAll 304 = .ok (.lstore 6, 2) := by decide +kernel
theorem d_Mod_placeAll_306 : decode b_Mod_placeAll 306 = .ok (.lload 8, 2) := by decide +kernel
theorem d_Mod_placeAll_308 : decode b_Mod_placeAll 308 = .ok (.iload 5, 2) := by decide +kernel
theorem d_Mod_placeAll_310 : decode b_Mod_placeAll 310 = .ok (.ifCond .eq 8, 3) := by decide +kernel
theorem d_Mod_placeAll_313 : decode b_Mod_placeAll 313 = .ok (.lload 10, 2) := by decide +kernel
theorem d_Mod_placeAll_315 : decode b_Mod_placeAll 315 = .ok (.goto 14, 3) := by decide +kernel
theorem d_Mod_placeAll_318 : decode b_Mod_placeAll 318 = .ok (.iload 17, 2) := by decide +kernel
theorem d_Mod_placeAll_320 : decode b_Mod_placeAll 320 = .ok (.ifCond .eq 7, 3) := by decide +kernel
theorem d_Mod_placeAll_323 : decode b_Mod_placeAll 323 = .ok (.lconst 0, 1) := by decide +kernel
theorem d_Mod_placeAll_324 : decode b_Mod_placeAll 324 = .ok (.goto 5, 3) := by decide +kernel
theorem d_Mod_placeAll_327 : decode b_Mod_placeAll 327 = .ok (.lload 12, 2) := by decide +kernel
theorem d_Mod_placeAll_329 : decode b_Mod_placeAll 329 = .ok (.ladd, 1) := by decide +kernel
theorem d_Mod_placeAll_330 : decode b_Mod_placeAll 330 = .ok (.lstore 8, 2) := by decide +kernel
theorem d_Mod_placeAll_332 : decode b_Mod_placeAll 332 = .ok (.lload 8, 2) := by decide +kernel
theorem d_Mod_placeAll_334 : decode b_Mod_placeAll 334 = .ok (.iload 16, 2) := by decide +kernel
theorem d_Mod_placeAll_336 : decode b_Mod_placeAll 336 = .ok (.ifCond .eq 8, 3) := by decide +kernel
theorem d_Mod_placeAll_339 : decode b_Mod_placeAll 339 = .ok (.lload 14, 2) := by decide +kernel
theorem d_Mod_placeAll_341 : decode b_Mod_placeAll 341 = .ok (.goto 4, 3) := by decide +kernel
theorem d_Mod_placeAll_344 : decode b_Mod_placeAll 344 = .ok (.lconst 0, 1) := by decide +kernel
theorem d_Mod_placeAll_345 : decode b_Mod_placeAll 345 = .ok (.ladd, 1) := by decide +kernel
theorem d_Mod_placeAll_346 : decode b_Mod_placeAll 346 = .ok (.lstore 8, 2) := by decide +kernel
theorem d_Mod_placeAll_348 : decode b_Mod_placeAll 348 = .ok (.aload_n 0, 1) := by decide +kernel
theorem d_Mod_placeAll_349 : decode b_Mod_placeAll 349 = .ok (.lload 6, 2) := by decide +kernel
theorem d_Mod_placeAll_351 : decode b_Mod_placeAll 351 = .ok (.invokevirtual 163, 3) := by decide +kernel
theorem d_Mod_placeAll_354 : decode b_Mod_placeAll 354 = .ok (.aload_n 0, 1) := by decide +kernel
theorem d_Mod_placeAll_355 : decode b_Mod_placeAll 355 = .ok (.lload 8, 2) := by decide +kernel
theorem d_Mod_placeAll_357 : decode b_Mod_placeAll 357 = .ok (.invokevirtual 163, 3) := by decide +kernel
theorem d_Mod_placeAll_360 : decode b_Mod_placeAll 360 = .ok (.iload 16, 2) := by decide +kernel
theorem d_Mod_placeAll_362 : decode b_Mod_placeAll 362 = .ok (.ifCond .eq 12, 3) := by decide +kernel
theorem d_Mod_placeAll_365 : decode b_Mod_placeAll 365 = .ok (.aload_n 0, 1) := by decide +kernel
theorem d_Mod_placeAll_366 : decode b_Mod_placeAll 366 = .ok (.lload 12, 2) := by decide +kernel
theorem d_Mod_placeAll_368 : decode b_Mod_placeAll 368 = .ok (.lload 14, 2) := by decide +kernel
theorem d_Mod_placeAll_370 : decode b_Mod_placeAll 370 = .ok (.ladd, 1) := by decide +kernel
theorem d_Mod_placeAll_371 : decode b_Mod_placeAll 371 = .ok (.invokevirtual 163, 3) := by decide +kernel
theorem d_Mod_placeAll_374 : decode b_Mod_placeAll 374 = .ok (.aload_n 0, 1) := by decide +kernel
theorem d_Mod_placeAll_375 : decode b_Mod_placeAll 375 = .ok (.getfield 71, 3) := by decide +kernel
theorem d_Mod_placeAll_378 : decode b_Mod_placeAll 378 = .ok (.aload_n 0, 1) := by decide +kernel
theorem d_Mod_placeAll_379 : decode b_Mod_placeAll 379 = .ok (.getfield 160, 3) := by decide +kernel
theorem d_Mod_placeAll_382 : decode b_Mod_placeAll 382 = .ok (.iconst 1, 1) := by decide +kernel
theorem d_Mod_placeAll_383 : decode b_Mod_placeAll 383 = .ok (.isub, 1) := by decide +kernel
theorem d_Mod_placeAll_384 : decode b_Mod_placeAll 384 = .ok (.dup2, 1) := by decide +kernel
theorem d_Mod_placeAll_385 : decode b_Mod_placeAll 385 = .ok (.laload, 1) := by decide +kernel
theorem d_Mod_placeAll_386 : decode b_Mod_placeAll 386 = .ok (.iload 5, 2) := by decide +kernel
theorem d_Mod_placeAll_388 : decode b_Mod_placeAll 388 = .ok (.ifCond .eq 13, 3) := by decide +kernel
theorem d_Mod_placeAll_391 : decode b_Mod_placeAll 391 = .ok (.aload_n 0, 1) := by decide +kernel
theorem d_Mod_placeAll_392 : decode b_Mod_placeAll 392 = .ok (.getfield 13, 3) := by decide +kernel
theorem d_Mod_placeAll_395 : decode b_Mod_placeAll 395 = .ok (.iload_n 3, 1) := by decide +kernel
theorem d_Mod_placeAll_396 : decode b_Mod_placeAll 396 = .ok (.iaload, 1) := by decide +kernel
theorem d_Mod_placeAll_397 : decode b_Mod_placeAll 397 = .ok (.i2l, 1) := by decide +kernel
theorem d_Mod_placeAll_398 : decode b_Mod_placeAll 398 = .ok (.goto 23, 3) := by decide +kernel
theorem d_Mod_placeAll_401 : decode b_Mod_placeAll 401 = .ok (.iload 17, 2) := by decide +kernel
theorem d_Mod_placeAll_403 : decode b_Mod_placeAll 403 = .ok (.ifCond .eq 13, 3) := by decide +kernel
theorem d_Mod_placeAll_406 : decode b_Mod_placeAll 406 = .ok (.aload_n 0, 1) := by decide +kernel
theorem d_Mod_placeAll_407 : decode b_Mod_placeAll 407 = .ok (.getfield 13, 3) := by decide +kernel
theorem d_Mod_placeAll_410 : decode b_Mod_placeAll 410 = .ok (.iload_n 3, 1) := by decide +kernel
theorem d_Mod_placeAll_411 : decode b_Mod_placeAll 411 = .ok (.iaload, 1) := by decide +kernel
theorem d_Mod_placeAll_412 : decode b_Mod_placeAll 412 = .ok (.i2l, 1) := by decide +kernel
theorem d_Mod_placeAll_413 : decode b_Mod_placeAll 413 = .ok (.goto 8, 3) := by decide +kernel
theorem d_Mod_placeAll_416 : decode b_Mod_placeAll 416 = .ok (.lload 12, 2) := by decide +kernel
theorem d_Mod_placeAll_418 : decode b_Mod_placeAll 418 = .ok (.lload 14, 2) := by decide +kernel
theorem d_Mod_placeAll_420 : decode b_Mod_placeAll 420 = .ok (.ladd, 1) := by decide +kernel
theorem d_Mod_placeAll_421 : decode b_Mod_placeAll 421 = .ok (.ladd, 1) := by decide +kernel
theorem d_Mod_placeAll_422 : decode b_Mod_placeAll 422 = .ok (.lastore, 1) := by decide +kernel
theorem d_Mod_placeAll_423 : decode b_Mod_placeAll 423 = .ok (.aload_n 0, 1) := by decide +kernel
theorem d_Mod_placeAll_424 : decode b_Mod_placeAll 424 = .ok (.aload_n 0, 1) := by decide +kernel
theorem d_Mod_placeAll_425 : decode b_Mod_placeAll 425 = .ok (.getfield 71, 3) := by decide +kernel
theorem d_Mod_placeAll_428 : decode b_Mod_placeAll 428 = .ok (.aload_n 0, 1) := by decide +kernel
theorem d_Mod_placeAll_429 : decode b_Mod_placeAll 429 = .ok (.getfield 160, 3) := by decide +kernel
theorem d_Mod_placeAll_432 : decode b_Mod_placeAll 432 = .ok (.iconst 1, 1) := by decide +kernel
theorem d_Mod_placeAll_433 : decode b_Mod_placeAll 433 = .ok (.isub, 1) := by decide +kernel
theorem d_Mod_placeAll_434 : decode b_Mod_placeAll 434 = .ok (.laload, 1) := by decide +kernel
theorem d_Mod_placeAll_435 : decode b_Mod_placeAll 435 = .ok (.invokevirtual 163, 3) := by decide +kernel
theorem d_Mod_placeAll_438 : decode b_Mod_placeAll 438 = .ok (.aload_n 0, 1) := by decide +kernel
theorem d_Mod_placeAll_439 : decode b_Mod_placeAll 439 = .ok (.getfield 62, 3) := by decide +kernel
theorem d_Mod_placeAll_442 : decode b_Mod_placeAll 442 = .ok (.iload_n 3, 1) := by decide +kernel
theorem d_Mod_placeAll_443 : decode b_Mod_placeAll 443 = .ok (.iload_n 1, 1) := by decide +kernel
theorem d_Mod_placeAll_444 : decode b_Mod_placeAll 444 = .ok (.isub, 1) := by decide +kernel
theorem d_Mod_placeAll_445 : decode b_Mod_placeAll 445 = .ok (.lload 6, 2) := by decide +kernel
theorem d_Mod_placeAll_447 : decode b_Mod_placeAll 447 = .ok (.l2i, 1) := by decide +kernel
theorem d_Mod_placeAll_448 : decode b_Mod_placeAll 448 = .ok (.iastore, 1) := by decide +kernel
theorem d_Mod_placeAll_449 : decode b_Mod_placeAll 449 = .ok (.aload_n 0, 1) := by decide +kernel
theorem d_Mod_placeAll_450 : decode b_Mod_placeAll 450 = .ok (.getfield 65, 3) := by decide +kernel
theorem d_Mod_placeAll_453 : decode b_Mod_placeAll 453 = .ok (.iload_n 3, 1) := by decide +kernel
theorem d_Mod_placeAll_454 : decode b_Mod_placeAll 454 = .ok (.iload_n 1, 1) := by decide +kernel
theorem d_Mod_placeAll_455 : decode b_Mod_placeAll 455 = .ok (.isub, 1) := by decide +kernel
theorem d_Mod_placeAll_456 : decode b_Mod_placeAll 456 = .ok (.lload 8, 2) := by decide +kernel
theorem d_Mod_placeAll_458 : decode b_Mod_placeAll 458 = .ok (.l2i, 1) := by decide +kernel
theorem d_Mod_placeAll_459 : decode b_Mod_placeAll 459 = .ok (.iastore, 1) := by decide +kernel
theorem d_Mod_placeAll_460 : decode b_Mod_placeAll 460 = .ok (.aload_n 0, 1) := by decide +kernel
theorem d_Mod_placeAll_461 : decode b_Mod_placeAll 461 = .ok (.iload_n 3, 1) := by decide +kernel
theorem d_Mod_placeAll_462 : decode b_Mod_placeAll 462 = .ok (.invokevirtual 116, 3) := by decide +kernel
theorem d_Mod_placeAll_465 : decode b_Mod_placeAll 465 = .ok (.ifCond .eq 26, 3) := by decide +kernel
theorem d_Mod_placeAll_468 : decode b_Mod_placeAll 468 = .ok (.aload_n 0, 1) := by decide +kernel
theorem d_Mod_placeAll_469 : decode b_Mod_placeAll 469 = .ok (.getfield 28, 3) := by decide +kernel
theorem d_Mod_placeAll_472 : decode b_Mod_placeAll 472 = .ok (.iload_n 3, 1) := by decide +kernel
theorem d_Mod_placeAll_473 : decode b_Mod_placeAll 473 = .ok (.iaload, 1) := by decide +kernel
theorem d_Mod_placeAll_474 : decode b_Mod_placeAll 474 = .ok (.iconst 1, 1) := by decide +kernel
theorem d_Mod_placeAll_475 : decode b_Mod_placeAll 475 = .ok (.if_icmp .le 16, 3) := by decide +kernel
theorem d_Mod_placeAll_478 : decode b_Mod_placeAll 478 = .ok (.aload_n 0, 1) := by decide +kernel
theorem d_Mod_placeAll_479 : decode b_Mod_placeAll 479 = .ok (.getfield 156, 3) := by decide +kernel
theorem d_Mod_placeAll_482 : decode b_Mod_placeAll 482 = .ok (.ifCond .eq 9, 3) := by decide +kernel
theorem d_Mod_placeAll_485 : decode b_Mod_placeAll 485 = .ok (.aload_n 0, 1) := by decide +kernel
theorem d_Mod_placeAll_486 : decode b_Mod_placeAll 486 = .ok (.iload_n 3, 1) := by decide +kernel
theorem d_Mod_placeAll_487 : decode b_Mod_placeAll 487 = .ok (.iload_n 1, 1) := by decide +kernel
theorem d_Mod_placeAll_488 : decode b_Mod_placeAll 488 = .ok (.invokevirtual 167, 3) := by decide +kernel
theorem d_Mod_placeAll_491 : decode b_Mod_placeAll 491 = .ok (.iinc 3 1, 3) := by decide +kernel
theorem d_Mod_placeAll_494 : decode b_Mod_placeAll 494 = .ok (.goto (-460), 3) := by decide +kernel
theorem d_Mod_placeAll_497 : decode b_Mod_placeAll 497 = .ok (.return_, 1) := by decide +kernel
theorem d_Mod_bytes_0 : decode b_Mod_bytes 0 = .ok (.iload_n 0, 1) := by decide +kernel
theorem d_Mod_bytes_1 : decode b_Mod_bytes 1 = .ok (.bipush (-128), 2) := by decide +kernel
theorem d_Mod_bytes_3 : decode b_Mod_bytes 3 = .ok (.if_icmp .lt 14, 3) := by decide +kernel
theorem d_Mod_bytes_6 : decode b_Mod_bytes 6 = .ok (.iload_n 0, 1) := by decide +kernel
theorem d_Mod_bytes_7 : decode b_Mod_bytes 7 = .ok (.sipush 128, 3) := by decide +kernel
theorem d_Mod_bytes_10 : decode b_Mod_bytes 10 = .ok (.if_icmp .ge 7, 3) := by decide +kernel
theorem d_Mod_bytes_13 : decode b_Mod_bytes 13 = .ok (.iconst 1, 1) := by decide +kernel
theorem d_Mod_bytes_14 : decode b_Mod_bytes 14 = .ok (.goto 37, 3) := by decide +kernel
theorem d_Mod_bytes_17 : decode b_Mod_bytes 17 = .ok (.iload_n 0, 1) := by decide +kernel
theorem d_Mod_bytes_18 : decode b_Mod_bytes 18 = .ok (.sipush (-32768), 3) := by decide +kernel
theorem d_Mod_bytes_21 : decode b_Mod_bytes 21 = .ok (.if_icmp .lt 13, 3) := by decide +kernel
theorem d_Mod_bytes_24 : decode b_Mod_bytes 24 = .ok (.iload_n 0, 1) := by decide +kernel
theorem d_Mod_bytes_25 : decode b_Mod_bytes 25 = .ok (.ldc 170, 2) := by decide +kernel
theorem d_Mod_bytes_27 : decode b_Mod_bytes 27 = .ok (.if_icmp .ge 7, 3) := by decide +kernel
theorem d_Mod_bytes_30 : decode b_Mod_bytes 30 = .ok (.iconst 2, 1) := by decide +kernel
theorem d_Mod_bytes_31 : decode b_Mod_bytes 31 = .ok (.goto 20, 3) := by decide +kernel
theorem d_Mod_bytes_34 : decode b_Mod_bytes 34 = .ok (.iload_n 0, 1) := by decide +kernel
theorem d_Mod_bytes_35 : decode b_Mod_bytes 35 = .ok (.ldc 171, 2) := by decide +kernel
theorem d_Mod_bytes_37 : decode b_Mod_bytes 37 = .ok (.if_icmp .lt 13, 3) := by decide +kernel
theorem d_Mod_bytes_40 : decode b_Mod_bytes 40 = .ok (.iload_n 0, 1) := by decide +kernel
theorem d_Mod_bytes_41 : decode b_Mod_bytes 41 = .ok (.ldc 172, 2) := by decide +kernel
theorem d_Mod_bytes_43 : decode b_Mod_bytes 43 = .ok (.if_icmp .ge 7, 3) := by decide +kernel
theorem d_Mod_bytes_46 : decode b_Mod_bytes 46 = .ok (.iconst 3, 1) := by decide +kernel
theorem d_Mod_bytes_47 : decode b_Mod_bytes 47 = .ok (.goto 4, 3) := by decide +kernel
theorem d_Mod_bytes_50 : decode b_Mod_bytes 50 = .ok (.iconst 4, 1) := by decide +kernel
theorem d_Mod_bytes_51 : decode b_Mod_bytes 51 = .ok (.ireturn, 1) := by decide +kernel
theorem d_Mod_go_0 : decode b_Mod_go 0 = .ok (.iload_n 2, 1) := by decide +kernel
theorem d_Mod_go_1 : decode b_Mod_go 1 = .ok (.i2l, 1) := by decide +kernel
theorem d_Mod_go_2 : decode b_Mod_go 2 = .ok (.aload_n 0, 1) := by decide +kernel
theorem d_Mod_go_3 : decode b_Mod_go 3 = .ok (.getfield 78, 3) := by decide +kernel
theorem d_Mod_go_6 : decode b_Mod_go 6 = .ok (.iload_n 1, 1) := by decide +kernel
theorem d_Mod_go_7 : decode b_Mod_go 7 = .ok (.iaload, 1) := by decide +kernel
theorem d_Mod_go_8 : decode b_Mod_go 8 = .ok (.i2l, 1) := by decide +kernel
theorem d_Mod_go_9 : decode b_Mod_go 9 = .ok (.lsub, 1) := by decide +kernel
theorem d_Mod_go_10 : decode b_Mod_go 10 = .ok (.lstore_n 3, 1) := by decide +kernel
theorem d_Mod_go_11 : decode b_Mod_go 11 = .ok (.aload_n 0, 1) := by decide +kernel
theorem d_Mod_go_12 : decode b_Mod_go 12 = .ok (.lload_n 3, 1) := by decide +kernel
theorem d_Mod_go_13 : decode b_Mod_go 13 = .ok (.invokevirtual 163, 3) := by decide +kernel
theorem d_Mod_go_16 : decode b_Mod_go 16 = .ok (.lload_n 3, 1) := by decide +kernel
theorem d_Mod_go_17 : decode b_Mod_go 17 = .ok (.lconst 0, 1) := by decide +kernel
theorem d_Mod_go_18 : decode b_Mod_go 18 = .ok (.lcmp, 1) := by decide +kernel
theorem d_Mod_go_19 : decode b_Mod_go 19 = .ok (.ifCond .eq 10, 3) := by decide +kernel
theorem d_Mod_go_22 : decode b_Mod_go 22 = .ok (.aload_n 0, 1) := by decide +kernel
theorem d_Mod_go_23 : decode b_Mod_go 23 = .ok (.getfield 156, 3) := by decide +kernel
theorem d_Mod_go_26 : decode b_Mod_go 26 = .ok (.ifCond .ne 4, 3) := by decide +kernel
theorem d_Mod_go_29 : decode b_Mod_go 29 = .ok (.return_, 1) := by decide +kernel
theorem d_Mod_go_30 : decode b_Mod_go 30 = .ok (.iconst 2, 1) := by decide +kernel
theorem d_Mod_go_31 : decode b_Mod_go 31 = .ok (.iconst 2, 1) := by decide +kernel
theorem d_Mod_go_32 : decode b_Mod_go 32 = .ok (.iload_n 1, 1) := by decide +kernel
theorem d_Mod_go_33 : decode b_Mod_go 33 = .ok (.imul, 1) := by decide +kernel
theorem d_Mod_go_34 : decode b_Mod_go 34 = .ok (.iadd, 1) := by decide +kernel
theorem d_Mod_go_35 : decode b_Mod_go 35 = .ok (.istore 5, 2) := by decide +kernel
theorem d_Mod_go_37 : decode b_Mod_go 37 = .ok (.iload_n 1, 1) := by decide +kernel
theorem d_Mod_go_38 : decode b_Mod_go 38 = .ok (.ifCond .ne 9, 3) := by decide +kernel
theorem d_Mod_go_41 : decode b_Mod_go 41 = .ok (.sipush 147, 3) := by decide +kernel
theorem d_Mod_go_44 : decode b_Mod_go 44 = .ok (.goto 6, 3) := by decide +kernel
theorem d_Mod_go_47 : decode b_Mod_go 47 = .ok (.sipush 161, 3) := by decide +kernel
theorem d_Mod_go_50 : decode b_Mod_go 50 = .ok (.istore 6, 2) := by decide +kernel
theorem d_Mod_go_52 : decode b_Mod_go 52 = .ok (.aload_n 0, 1) := by decide +kernel
theorem d_Mod_go_53 : decode b_Mod_go 53 = .ok (.getfield 78, 3) := by decide +kernel
theorem d_Mod_go_56 : decode b_Mod_go 56 = .ok (.iload 5, 2) := by decide +kernel
theorem d_Mod_go_58 : decode b_Mod_go 58 = .ok (.iaload, 1) := by decide +kernel
theorem d_Mod_go_59 : decode b_Mod_go 59 = .ok (.i2l, 1) := by decide +kernel
theorem d_Mod_go_60 : decode b_Mod_go 60 = .ok (.lload_n 3, 1) := by decide +kernel
theorem d_Mod_go_61 : decode b_Mod_go 61 = .ok (.lcmp, 1) := by decide +kernel
theorem d_Mod_go_62 : decode b_Mod_go 62 = .ok (.ifCond .ne 7, 3) := by decide +kernel
theorem d_Mod_go_65 : decode b_Mod_go 65 = .ok (.iconst 0, 1) := by decide +kernel
theorem d_Mod_go_66 : decode b_Mod_go 66 = .ok (.goto 31, 3) := by decide +kernel
theorem d_Mod_go_69 : decode b_Mod_go 69 = .ok (.aload_n 0, 1) := by decide +kernel
theorem d_Mod_go_70 : decode b_Mod_go 70 = .ok (.getfield 78, 3) := by decide +kernel
theorem d_Mod_go_73 : decode b_Mod_go 73 = .ok (.iload 5, 2) := by decide +kernel
theorem d_Mod_go_75 : decode b_Mod_go 75 = .ok (.iconst 1, 1) := by decide +kernel
theorem d_Mod_go_76 : decode b_Mod_go 76 = .ok (.iadd, 1) := by decide +kernel
theorem d_Mod_go_77 : decode b_Mod_go 77 = .ok (.iaload, 1) := by decide +kernel
theorem d_Mod_go_78 : decode b_Mod_go 78 = .ok (.i2l, 1) := by decide +kernel
theorem d_Mod_go_79 : decode b_Mod_go 79 = .ok (.lload_n 3, 1) := by decide +kernel
theorem d_Mod_go_80 : decode b_Mod_go 80 = .ok (.lcmp, 1) := by decide +kernel
theorem d_Mod_go_81 : decode b_Mod_go 81 = .ok (.ifCond .ne 7, 3) := by decide +kernel
theorem d_Mod_go_84 : decode b_Mod_go 84 = .ok (.iconst 1, 1) := by decide +kernel
theorem d_Mod_go_85 : decode b_Mod_go 85 = .ok (.goto 12, 3) := by decide +kernel
theorem d_Mod_go_88 : decode b_Mod_go 88 = .ok (.aload_n 0, 1) := by decide +kernel
theorem d_Mod_go_89 : decode b_Mod_go 89 = .ok (.getfield 78, 3) := by decide +kernel
theorem d_Mod_go_92 : decode b_Mod_go 92 = .ok (.bipush 6, 2) := by decide +kernel
theorem d_Mod_go_94 : decode b_Mod_go 94 = .ok (.iload_n 1, 1) := by decide +kernel
theorem d_Mod_go_95 : decode b_Mod_go 95 = .ok (.iadd, 1) := by decide +kernel
theorem d_Mod_go_96 : decode b_Mod_go 96 = .ok (.iaload, 1) := by decide +kernel
theorem d_Mod_go_97 : decode b_Mod_go 97 = .ok (.istore 7, 2) := by decide +kernel
theorem d_Mod_go_99 : decode b_Mod_go 99 = .ok (.aload_n 0, 1) := by decide +kernel
theorem d_Mod_go_100 : decode b_Mod_go 100 = .ok (.getfield 78, 3) := by decide +kernel
theorem d_Mod_go_103 : decode b_Mod_go 103 = .ok (.iload 5, 2) := by decide +kernel
theorem d_Mod_go_105 : decode b_Mod_go 105 = .ok (.iload 7, 2) := by decide +kernel
theorem d_Mod_go_107 : decode b_Mod_go 107 = .ok (.iadd, 1) := by decide +kernel
theorem d_Mod_go_108 : decode b_Mod_go 108 = .ok (.iaload, 1) := by decide +kernel
theorem d_Mod_go_109 : decode b_Mod_go 109 = .ok (.i2l, 1) := by decide +kernel
theorem d_Mod_go_110 : decode b_Mod_go 110 = .ok (.lload_n 3, 1) := by decide +kernel
theorem d_Mod_go_111 : decode b_Mod_go 111 = .ok (.lcmp, 1) := by decide +kernel
theorem d_Mod_go_112 : decode b_Mod_go 112 = .ok (.ifCond .ne 18, 3) := by decide +kernel
theorem d_Mod_go_115 : decode b_Mod_go 115 = .ok (.aload_n 0, 1) := by decide +kernel
theorem d_Mod_go_116 : decode b_Mod_go 116 = .ok (.iload 6, 2) := by decide +kernel
theorem d_Mod_go_118 : decode b_Mod_go 118 = .ok (.iconst 5, 1) := by decide +kernel
theorem d_Mod_go_119 : decode b_Mod_go 119 = .ok (.iload 7, 2) := by decide +kernel
theorem d_Mod_go_121 : decode b_Mod_go 121 = .ok (.imul, 1) := by decide +kernel
theorem d_Mod_go_122 : decode b_Mod_go 122 = .ok (.iadd, 1) := by decide +kernel
theorem d_Mod_go_123 : decode b_Mod_go 123 = .ok (.iconst 1, 1) := by decide +kernel
theorem d_Mod_go_124 : decode b_Mod_go 124 = .ok (.invokevirtual 149, 3) := by decide +kernel
theorem d_Mod_go_127 : decode b_Mod_go 127 = .ok (.goto 45, 3) := by decide +kernel
theorem d_Mod_go_130 : decode b_Mod_go 130 = .ok (.lload_n 3, 1) := by decide +kernel
theorem d_Mod_go_131 : decode b_Mod_go 131 = .ok (.l2i, 1) := by decide +kernel
theorem d_Mod_go_132 : decode b_Mod_go 132 = .ok (.invokestatic 173, 3) := by decide +kernel
theorem d_Mod_go_135 : decode b_Mod_go 135 = .ok (.istore 8, 2) := by decide +kernel
theorem d_Mod_go_137 : decode b_Mod_go 137 = .ok (.aload_n 0, 1) := by decide +kernel
theorem d_Mod_go_138 : decode b_Mod_go 138 = .ok (.iload 6, 2) := by decide +kernel
theorem d_Mod_go_140 : decode b_Mod_go 140 = .ok (.iconst 5, 1) := by decide +kernel
theorem d_Mod_go_141 : decode b_Mod_go 141 = .ok (.iload 7, 2) := by decide +kernel
theorem d_Mod_go_143 : decode b_Mod_go 143 = .ok (.imul, 1) := by decide +kernel
theorem d_Mod_go_144 : decode b_Mod_go 144 = .ok (.iadd, 1) := by decide +kernel
theorem d_Mod_go_145 : decode b_Mod_go 145 = .ok (.iload 8, 2) := by decide +kernel
theorem d_Mod_go_147 : decode b_Mod_go 147 = .ok (.iadd, 1) := by decide +kernel
theorem d_Mod_go_148 : decode b_Mod_go 148 = .ok (.iconst 1, 1) := by decide +kernel
theorem d_Mod_go_149 : decode b_Mod_go 149 = .ok (.invokevirtual 149, 3) := by decide +kernel
theorem d_Mod_go_152 : decode b_Mod_go 152 = .ok (.aload_n 0, 1) := by decide +kernel
theorem d_Mod_go_153 : decode b_Mod_go 153 = .ok (.lload_n 3, 1) := by decide +kernel
theorem d_Mod_go_154 : decode b_Mod_go 154 = .ok (.l2i, 1) := by decide +kernel
theorem d_Mod_go_155 : decode b_Mod_go 155 = .ok (.iload 8, 2) := by decide +kernel
theorem d_Mod_go_157 : decode b_Mod_go 157 = .ok (.invokevirtual 149, 3) := by decide +kernel
theorem d_Mod_go_160 : decode b_Mod_go 160 = .ok (.aload_n 0, 1) := by decide +kernel
theorem d_Mod_go_161 : decode b_Mod_go 161 = .ok (.getfield 78, 3) := by decide +kernel
theorem d_Mod_go_164 : decode b_Mod_go 164 = .ok (.iload 5, 2) := by decide +kernel
theorem d_Mod_go_166 : decode b_Mod_go 166 = .ok (.iload 7, 2) := by decide +kernel
theorem d_Mod_go_168 : decode b_Mod_go 168 = .ok (.iadd, 1) := by decide +kernel
theorem d_Mod_go_169 : decode b_Mod_go 169 = .ok (.lload_n 3, 1) := by decide +kernel
theorem d_Mod_go_170 : decode b_Mod_go 170 = .ok (.l2i, 1) := by decide +kernel
theorem d_Mod_go_171 : decode b_Mod_go 171 = .ok (.iastore, 1) := by decide +kernel
theorem d_Mod_go_172 : decode b_Mod_go 172 = .ok (.aload_n 0, 1) := by decide +kernel
theorem d_Mod_go_173 : decode b_Mod_go 173 = .ok (.getfield 78, 3) := by decide +kernel
theorem d_Mod_go_176 : decode b_Mod_go 176 = .ok (.bipush 6, 2) := by decide +kernel
theorem d_Mod_go_178 : decode b_Mod_go 178 = .ok (.iload_n 1, 1) := by decide +kernel
theorem d_Mod_go_179 : decode b_Mod_go 179 = .ok (.iadd, 1) := by decide +kernel
theorem d_Mod_go_180 : decode b_Mod_go 180 = .ok (.iconst 1, 1) := by decide +kernel
theorem d_Mod_go_181 : decode b_Mod_go 181 = .ok (.iload 7, 2) := by decide +kernel
theorem d_Mod_go_183 : decode b_Mod_go 183 = .ok (.isub, 1) := by decide +kernel
theorem d_Mod_go_184 : decode b_Mod_go 184 = .ok (.iastore, 1) := by decide +kernel
theorem d_Mod_go_185 : decode b_Mod_go 185 = .ok (.aload_n 0, 1) := by decide +kernel
theorem d_Mod_go_186 : decode b_Mod_go 186 = .ok (.getfield 78, 3) := by decide +kernel
theorem d_Mod_go_189 : decode b_Mod_go 189 = .ok (.iload_n 1, 1) := by decide +kernel
theorem d_Mod_go_190 : decode b_Mod_go 190 = .ok (.iload_n 2, 1) := by decide +kernel
theorem d_Mod_go_191 : decode b_Mod_go 191 = .ok (.iastore, 1) := by decide +kernel
theorem d_Mod_go_192 : decode b_Mod_go 192 = .ok (.return_, 1) := by decide +kernel
theorem d_Mod_goTo_0 : decode b_Mod_goTo 0 = .ok (.aload_n 0, 1) := by decide +kernel
theorem d_Mod_goTo_1 : decode b_Mod_goTo 1 = .ok (.iconst 0, 1) := by decide +kernel
theorem d_Mod_goTo_2 : decode b_Mod_goTo 2 = .ok (.iload_n 1, 1) := by decide +kernel
theorem d_Mod_goTo_3 : decode b_Mod_goTo 3 = .ok (.invokevirtual 176, 3) := by decide +kernel
theorem d_Mod_goTo_6 : decode b_Mod_goTo 6 = .ok (.aload_n 0, 1) := by decide +kernel
theorem d_Mod_goTo_7 : decode b_Mod_goTo 7 = .ok (.iconst 1, 1) := by decide +kernel
theorem d_Mod_goTo_8 : decode b_Mod_goTo 8 = .ok (.iload_n 2, 1) := by decide +kernel
theorem d_Mod_goTo_9 : decode b_Mod_goTo 9 = .ok (.invokevirtual 176, 3) := by decide +kernel
theorem d_Mod_goTo_12 : decode b_Mod_goTo 12 = .ok (.return_, 1) := by decide +kernel
theorem d_Mod_writeCharacter_0 : decode b_Mod_writeCharacter 0 = .ok (.aload_n 0, 1) := by decide +kernel
theorem d_Mod_writeCharacter_1 : decode b_Mod_writeCharacter 1 = .ok (.getfield 22, 3) := by decide +kernel
theorem d_Mod_writeCharacter_4 : decode b_Mod_writeCharacter 4 = .ok (.iload_n 1, 1) := by decide +kernel
theorem d_Mod_writeCharacter_5 : decode b_Mod_writeCharacter 5 = .ok (.iaload, 1) := by decide +kernel
theorem d_Mod_writeCharacter_6 : decode b_Mod_writeCharacter 6 = .ok (.istore_n 2, 1) := by decide +kernel
theorem d_Mod_writeCharacter_7 : decode b_Mod_writeCharacter 7 = .ok (.aload_n 0, 1) := by decide +kernel
theorem d_Mod_writeCharacter_8 : decode b_Mod_writeCharacter 8 = .ok (.getfield 47, 3) := by decide +kernel
theorem d_Mod_writeCharacter_11 : decode b_Mod_writeCharacter 11 = .ok (.iload_n 2, 1) := by decide +kernel
theorem d_Mod_writeCharacter_12 : decode b_Mod_writeCharacter 12 = .ok (.baload, 1) := by decide +kernel
theorem d_Mod_writeCharacter_13 : decode b_Mod_writeCharacter 13 = .ok (.ifCond .ne 15, 3) := by decide +kernel
theorem d_Mod_writeCharacter_16 : decode b_Mod_writeCharacter 16 = .ok (.aload_n 0, 1) := by decide +kernel
theorem d_Mod_writeCharacter_17 : decode b_Mod_writeCharacter 17 = .ok (.getfield 47, 3) := by decide +kernel
theorem d_Mod_writeCharacter_20 : decode b_Mod_writeCharacter 20 = .ok (.iload_n 2, 1) := by decide +kernel
theorem d_Mod_writeCharacter_21 : decode b_Mod_writeCharacter 21 = .ok (.iconst 1, 1) := by decide +kernel
theorem d_Mod_writeCharacter_22 : decode b_Mod_writeCharacter 22 = .ok (.bastore, 1) := by decide +kernel
theorem d_Mod_writeCharacter_23 : decode b_Mod_writeCharacter 23 = .ok (.aload_n 0, 1) := by decide +kernel
theorem d_Mod_writeCharacter_24 : decode b_Mod_writeCharacter 24 = .ok (.iload_n 2, 1) := by decide +kernel
theorem d_Mod_writeCharacter_25 : decode b_Mod_writeCharacter 25 = .ok (.invokevirtual 179, 3) := by decide +kernel
theorem d_Mod_writeCharacter_28 : decode b_Mod_writeCharacter 28 = .ok (.iload_n 2, 1) := by decide +kernel
theorem d_Mod_writeCharacter_29 : decode b_Mod_writeCharacter 29 = .ok (.aload_n 0, 1) := by decide +kernel
theorem d_Mod_writeCharacter_30 : decode b_Mod_writeCharacter 30 = .ok (.getfield 182, 3) := by decide +kernel
theorem d_Mod_writeCharacter_33 : decode b_Mod_writeCharacter 33 = .ok (.if_icmp .eq 18, 3) := by decide +kernel
theorem d_Mod_writeCharacter_36 : decode b_Mod_writeCharacter 36 = .ok (.aload_n 0, 1) := by decide +kernel
theorem d_Mod_writeCharacter_37 : decode b_Mod_writeCharacter 37 = .ok (.sipush 171, 3) := by decide +kernel
theorem d_Mod_writeCharacter_40 : decode b_Mod_writeCharacter 40 = .ok (.iload_n 2, 1) := by decide +kernel
theorem d_Mod_writeCharacter_41 : decode b_Mod_writeCharacter 41 = .ok (.iadd, 1) := by decide +kernel
theorem d_Mod_writeCharacter_42 : decode b_Mod_writeCharacter 42 = .ok (.iconst 1, 1) := by decide +kernel
theorem d_Mod_writeCharacter_43 : decode b_Mod_writeCharacter 43 = .ok (.invokevirtual 149, 3) := by decide +kernel
theorem d_Mod_writeCharacter_46 : decode b_Mod_writeCharacter 46 = .ok (.aload_n 0, 1) := by decide +kernel
theorem d_Mod_writeCharacter_47 : decode b_Mod_writeCharacter 47 = .ok (.iload_n 2, 1) := by decide +kernel
theorem d_Mod_writeCharacter_48 : decode b_Mod_writeCharacter 48 = .ok (.putfield 182, 3) := by decide +kernel
theorem d_Mod_writeCharacter_51 : decode b_Mod_writeCharacter 51 = .ok (.aload_n 0, 1) := by decide +kernel
theorem d_Mod_writeCharacter_52 : decode b_Mod_writeCharacter 52 = .ok (.getfield 25, 3) := by decide +kernel
theorem d_Mod_writeCharacter_55 : decode b_Mod_writeCharacter 55 = .ok (.iload_n 1, 1) := by decide +kernel
theorem d_Mod_writeCharacter_56 : decode b_Mod_writeCharacter 56 = .ok (.iaload, 1) := by decide +kernel
theorem d_Mod_writeCharacter_57 : decode b_Mod_writeCharacter 57 = .ok (.bipush 127, 2) := by decide +kernel
theorem d_Mod_writeCharacter_59 : decode b_Mod_writeCharacter 59 = .ok (.if_icmp .le 11, 3) := by decide +kernel
theorem d_Mod_writeCharacter_62 : decode b_Mod_writeCharacter 62 = .ok (.aload_n 0, 1) := by decide +kernel
theorem d_Mod_writeCharacter_63 : decode b_Mod_writeCharacter 63 = .ok (.sipush 128, 3) := by decide +kernel
theorem d_Mod_writeCharacter_66 : decode b_Mod_writeCharacter 66 = .ok (.iconst 1, 1) := by decide +kernel
theorem d_Mod_writeCharacter_67 : decode b_Mod_writeCharacter 67 = .ok (.invokevirtual 149, 3) := by decide +kernel
theorem d_Mod_writeCharacter_70 : decode b_Mod_writeCharacter 70 = .ok (.aload_n 0, 1) := by decide +kernel
theorem d_Mod_writeCharacter_71 : decode b_Mod_writeCharacter 71 = .ok (.aload_n 0, 1) := by decide +kernel
theorem d_Mod_writeCharacter_72 : decode b_Mod_writeCharacter 72 = .ok (.getfield 25, 3) := by decide +kernel
theorem d_Mod_writeCharacter_75 : decode b_Mod_writeCharacter 75 = .ok (.iload_n 1, 1) := by decide +kernel
theorem d_Mod_writeCharacter_76 : decode b_Mod_writeCharacter 76 = .ok (.iaload, 1) := by decide +kernel
theorem d_Mod_writeCharacter_77 : decode b_Mod_writeCharacter 77 = .ok (.iconst 1, 1) := by decide +kernel
theorem d_Mod_writeCharacter_78 : decode b_Mod_writeCharacter 78 = .ok (.invokevirtual 149, 3) := by decide +kernel
theorem d_Mod_writeCharacter_81 : decode b_Mod_writeCharacter 81 = .ok (.return_, 1) := by decide +kernel
theorem d_Mod_leave_0 : decode b_Mod_leave 0 = .ok (.aload_n 0, 1) := by decide +kernel
theorem d_Mod_leave_1 : decode b_Mod_leave 1 = .ok (.dup, 1) := by decide +kernel
theorem d_Mod_leave_2 : decode b_Mod_leave 2 = .ok (.getfield 160, 3) := by decide +kernel
theorem d_Mod_leave_5 : decode b_Mod_leave 5 = .ok (.iconst 1, 1) := by decide +kernel
theorem d_Mod_leave_6 : decode b_Mod_leave 6 = .ok (.isub, 1) := by decide +kernel
theorem d_Mod_leave_7 : decode b_Mod_leave 7 = .ok (.putfield 160, 3) := by decide +kernel
theorem d_Mod_leave_10 : decode b_Mod_leave 10 = .ok (.iconst 0, 1) := by decide +kernel
theorem d_Mod_leave_11 : decode b_Mod_leave 11 = .ok (.istore_n 1, 1) := by decide +kernel
theorem d_Mod_leave_12 : decode b_Mod_leave 12 = .ok (.iload_n 1, 1) := by decide +kernel
theorem d_Mod_leave_13 : decode b_Mod_leave 13 = .ok (.bipush 8, 2) := by decide +kernel
theorem d_Mod_leave_15 : decode b_Mod_leave 15 = .ok (.if_icmp .ge 29, 3) := by decide +kernel
theorem d_Mod_leave_18 : decode b_Mod_leave 18 = .ok (.aload_n 0, 1) := by decide +kernel
theorem d_Mod_leave_19 : decode b_Mod_leave 19 = .ok (.getfield 78, 3) := by decide +kernel
theorem d_Mod_leave_22 : decode b_Mod_leave 22 = .ok (.iload_n 1, 1) := by decide +kernel
theorem d_Mod_leave_23 : decode b_Mod_leave 23 = .ok (.aload_n 0, 1) := by decide +kernel
theorem d_Mod_leave_24 : decode b_Mod_leave 24 = .ok (.getfield 75, 3) := by decide +kernel
theorem d_Mod_leave_27 : decode b_Mod_leave 27 = .ok (.bipush 8, 2) := by decide +kernel
theorem d_Mod_leave_29 : decode b_Mod_leave 29 = .ok (.aload_n 0, 1) := by decide +kernel
theorem d_Mod_leave_30 : decode b_Mod_leave 30 = .ok (.getfield 160, 3) := by decide +kernel
theorem d_Mod_leave_33 : decode b_Mod_leave 33 = .ok (.imul, 1) := by decide +kernel
theorem d_Mod_leave_34 : decode b_Mod_leave 34 = .ok (.iload_n 1, 1) := by decide +kernel
theorem d_Mod_leave_35 : decode b_Mod_leave 35 = .ok (.iadd, 1) := by decide +kernel
theorem d_Mod_leave_36 : decode b_Mod_leave 36 = .ok (.iaload, 1) := by decide +kernel
theorem d_Mod_leave_37 : decode b_Mod_leave 37 = .ok (.iastore, 1) := by decide +kernel
theorem d_Mod_leave_38 : decode b_Mod_leave 38 = .ok (.iinc 1 1, 3) := by decide +kernel
theorem d_Mod_leave_41 : decode b_Mod_leave 41 = .ok (.goto (-29), 3) := by decide +kernel
theorem d_Mod_leave_44 : decode b_Mod_leave 44 = .ok (.aload_n 0, 1) := by decide +kernel
theorem d_Mod_leave_45 : decode b_Mod_leave 45 = .ok (.sipush 142, 3) := by decide +kernel
theorem d_Mod_leave_48 : decode b_Mod_leave 48 = .ok (.iconst 1, 1) := by decide +kernel
theorem d_Mod_leave_49 : decode b_Mod_leave 49 = .ok (.invokevirtual 149, 3) := by decide +kernel
theorem d_Mod_leave_52 : decode b_Mod_leave 52 = .ok (.return_, 1) := by decide +kernel
theorem d_Mod_writeRule_0 : decode b_Mod_writeRule 0 = .ok (.aload_n 0, 1) := by decide +kernel
theorem d_Mod_writeRule_1 : decode b_Mod_writeRule 1 = .ok (.getfield 7, 3) := by decide +kernel
theorem d_Mod_writeRule_4 : decode b_Mod_writeRule 4 = .ok (.iload_n 2, 1) := by decide +kernel
theorem d_Mod_writeRule_5 : decode b_Mod_writeRule 5 = .ok (.iaload, 1) := by decide +kernel
theorem d_Mod_writeRule_6 : decode b_Mod_writeRule 6 = .ok (.iconst 4, 1) := by decide +kernel
theorem d_Mod_writeRule_7 : decode b_Mod_writeRule 7 = .ok (.if_icmp .ne 7, 3) := by decide +kernel
theorem d_Mod_writeRule_10 : decode b_Mod_writeRule 10 = .ok (.iconst 1, 1) := by decide +kernel
theorem d_Mod_writeRule_11 : decode b_Mod_writeRule 11 = .ok (.goto 4, 3) := by decide +kernel
theorem d_Mod_writeRule_14 : decode b_Mod_writeRule 14 = .ok (.iconst 0, 1) := by decide +kernel
theorem d_Mod_writeRule_15 : decode b_Mod_writeRule 15 = .ok (.istore 4, 2) := by decide +kernel
theorem d_Mod_writeRule_17 : decode b_Mod_writeRule 17 = .ok (.aload_n 0, 1) := by decide +kernel
theorem d_Mod_writeRule_18 : decode b_Mod_writeRule 18 = .ok (.getfield 13, 3) := by decide +kernel
theorem d_Mod_writeRule_21 : decode b_Mod_writeRule 21 = .ok (.iload_n 1, 1) := by decide +kernel
theorem d_Mod_writeRule_22 : decode b_Mod_writeRule 22 = .ok (.iaload, 1) := by decide +kernel
theorem d_Mod_writeRule_23 : decode b_Mod_writeRule 23 = .ok (.ldc 115, 2) := by decide +kernel
theorem d_Mod_writeRule_25 : decode b_Mod_writeRule 25 = .ok (.if_icmp .ne 12, 3) := by decide +kernel
theorem d_Mod_writeRule_28 : decode b_Mod_writeRule 28 = .ok (.aload_n 0, 1) := by decide +kernel
theorem d_Mod_writeRule_29 : decode b_Mod_writeRule 29 = .ok (.getfield 13, 3) := by decide +kernel
theorem d_Mod_writeRule_32 : decode b_Mod_writeRule 32 = .ok (.iload_n 2, 1) := by decide +kernel
theorem d_Mod_writeRule_33 : decode b_Mod_writeRule 33 = .ok (.iaload, 1) := by decide +kernel
theorem d_Mod_writeRule_34 : decode b_Mod_writeRule 34 = .ok (.goto 9, 3) := by decide +kernel
theorem d_Mod_writeRule_37 : decode b_Mod_writeRule 37 = .ok (.aload_n 0, 1) := by decide +kernel
theorem d_Mod_writeRule_38 : decode b_Mod_writeRule 38 = .ok (.getfield 13, 3) := by decide +kernel
theorem d_Mod_writeRule_41 : decode b_Mod_writeRule 41 = .ok (.iload_n 1, 1) := by decide +kernel
theorem d_Mod_writeRule_42 : decode b_Mod_writeRule 42 = .ok (.iaload, 1) := by decide +kernel
theorem d_Mod_writeRule_43 : decode b_Mod_writeRule 43 = .ok (.istore 5, 2) := by decide +kernel
theorem d_Mod_writeRule_45 : decode b_Mod_writeRule 45 = .ok (.aload_n 0, 1) := by decide +kernel
theorem d_Mod_writeRule_46 : decode b_Mod_writeRule 46 = .ok (.getfield 16, 3) := by decide +kernel
theorem d_Mod_writeRule_49 : decode b_Mod_writeRule 49 = .ok (.iload_n 1, 1) := by decide +kernel
theorem d_Mod_writeRule_50 : decode b_Mod_writeRule 50 = .ok (.iaload, 1) := by decide +kernel
theorem d_Mod_writeRule_51 : decode b_Mod_writeRule 51 = .ok (.ldc 115, 2) := by decide +kernel
theorem d_Mod_writeRule_53 : decode b_Mod_writeRule 53 = .ok (.if_icmp .ne 12, 3) := by decide +kernel
theorem d_Mod_writeRule_56 : decode b_Mod_writeRule 56 = .ok (.aload_n 0, 1) := by decide +kernel
theorem d_Mod_writeRule_57 : decode b_Mod_writeRule 57 = .ok (.getfield 16, 3) := by decide +kernel
theorem d_Mod_writeRule_60 : decode b_Mod_writeRule 60 = .ok (.iload_n 2, 1) := by decide +kernel
theorem d_Mod_writeRule_61 : decode b_Mod_writeRule 61 = .ok (.iaload, 1) := by decide +kernel
theorem d_Mod_writeRule_62 : decode b_Mod_writeRule 62 = .ok (.goto 9, 3) := by decide +kernel
theorem d_Mod_writeRule_65 : decode b_Mod_writeRule 65 = .ok (.aload_n 0, 1) := by decide +kernel
theorem d_Mod_writeRule_66 : decode b_Mod_writeRule 66 = .ok (.getfield 16, 3) := by decide +kernel
theorem d_Mod_writeRule_69 : decode b_Mod_writeRule 69 = .ok (.iload_n 1, 1) := by decide +kernel
theorem d_Mod_writeRule_70 : decode b_Mod_writeRule 70 = .ok (.iaload, 1) := by decide +kernel
theorem d_Mod_writeRule_71 : decode b_Mod_writeRule 71 = .ok (.istore 6, 2) := by decide +kernel
theorem d_Mod_writeRule_73 : decode b_Mod_writeRule 73 = .ok (.aload_n 0, 1) := by decide +kernel
theorem d_Mod_writeRule_74 : decode b_Mod_writeRule 74 = .ok (.getfield 19, 3) := by decide +kernel
theorem d_Mod_writeRule_77 : decode b_Mod_writeRule 77 = .ok (.iload_n 1, 1) := by decide +kernel
theorem d_Mod_writeRule_78 : decode b_Mod_writeRule 78 = .ok (.iaload, 1) := by decide +kernel
theorem d_Mod_writeRule_79 : decode b_Mod_writeRule 79 = .ok (.ldc 115, 2) := by decide +kernel
theorem d_Mod_writeRule_81 : decode b_Mod_writeRule 81 = .ok (.if_icmp .ne 12, 3) := by decide +kernel
theorem d_Mod_writeRule_84 : decode b_Mod_writeRule 84 = .ok (.aload_n 0, 1) := by decide +kernel
theorem d_Mod_writeRule_85 : decode b_Mod_writeRule 85 = .ok (.getfield 19, 3) := by decide +kernel
theorem d_Mod_writeRule_88 : decode b_Mod_writeRule 88 = .ok (.iload_n 2, 1) := by decide +kernel
theorem d_Mod_writeRule_89 : decode b_Mod_writeRule 89 = .ok (.iaload, 1) := by decide +kernel
theorem d_Mod_writeRule_90 : decode b_Mod_writeRule 90 = .ok (.goto 9, 3) := by decide +kernel
theorem d_Mod_writeRule_93 : decode b_Mod_writeRule 93 = .ok (.aload_n 0, 1) := by decide +kernel
theorem d_Mod_writeRule_94 : decode b_Mod_writeRule 94 = .ok (.getfield 19, 3) := by decide +kernel
theorem d_Mod_writeRule_97 : decode b_Mod_writeRule 97 = .ok (.iload_n 1, 1) := by decide +kernel
theorem d_Mod_writeRule_98 : decode b_Mod_writeRule 98 = .ok (.iaload, 1) := by decide +kernel
theorem d_Mod_writeRule_99 : decode b_Mod_writeRule 99 = .ok (.istore 7, 2) := by decide +kernel
theorem d_Mod_writeRule_101 : decode b_Mod_writeRule 101 = .ok (.iload 5, 2) := by decide +kernel
theorem d_Mod_writeRule_103 : decode b_Mod_writeRule 103 = .ok (.ifCond .le 98, 3) := by decide +kernel
theorem d_Mod_writeRule_106 : decode b_Mod_writeRule 106 = .ok (.iload 6, 2) := by decide +kernel
theorem d_Mod_writeRule_108 : decode b_Mod_writeRule 108 = .ok (.iload 7, 2) := by decide +kernel
theorem d_Mod_writeRule_110 : decode b_Mod_writeRule 110 = .ok (.iadd, 1) := by decide +kernel
theorem d_Mod_writeRule_111 : decode b_Mod_writeRule 111 = .ok (.ifCond .le 90, 3) := by decide +kernel
theorem d_Mod_writeRule_114 : decode b_Mod_writeRule 114 = .ok (.aload_n 0, 1) := by decide +kernel
theorem d_Mod_writeRule_115 : decode b_Mod_writeRule 115 = .ok (.aload_n 0, 1) := by decide +kernel
theorem d_Mod_writeRule_116 : decode b_Mod_writeRule 116 = .ok (.getfield 62, 3) := by decide +kernel
theorem d_Mod_writeRule_119 : decode b_Mod_writeRule 119 = .ok (.iload_n 1, 1) := by decide +kernel
theorem d_Mod_writeRule_120 : decode b_Mod_writeRule 120 = .ok (.iload_n 3, 1) := by decide +kernel
theorem d_Mod_writeRule_121 : decode b_Mod_writeRule 121 = .ok (.isub, 1) := by decide +kernel
theorem d_Mod_writeRule_122 : decode b_Mod_writeRule 122 = .ok (.iaload, 1) := by decide +kernel
theorem d_Mod_writeRule_123 : decode b_Mod_writeRule 123 = .ok (.aload_n 0, 1) := by decide +kernel
theorem d_Mod_writeRule_124 : decode b_Mod_writeRule 124 = .ok (.getfield 65, 3) := by decide +kernel
theorem d_Mod_writeRule_127 : decode b_Mod_writeRule 127 = .ok (.iload_n 1, 1) := by decide +kernel
theorem d_Mod_writeRule_128 : decode b_Mod_writeRule 128 = .ok (.iload_n 3, 1) := by decide +kernel
theorem d_Mod_writeRule_129 : decode b_Mod_writeRule 129 = .ok (.isub, 1) := by decide +kernel
theorem d_Mod_writeRule_130 : decode b_Mod_writeRule 130 = .ok (.iaload, 1) := by decide +kernel
theorem d_Mod_writeRule_131 : decode b_Mod_writeRule 131 = .ok (.invokevirtual 185, 3) := by decide +kernel
theorem d_Mod_writeRule_134 : decode b_Mod_writeRule 134 = .ok (.aload_n 0, 1) := by decide +kernel
theorem d_Mod_writeRule_135 : decode b_Mod_writeRule 135 = .ok (.iload 4, 2) := by decide +kernel
theorem d_Mod_writeRule_137 : decode b_Mod_writeRule 137 = .ok (.ifCond .eq 9, 3) := by decide +kernel
theorem d_Mod_writeRule_140 : decode b_Mod_writeRule 140 = .ok (.sipush 132, 3) := by decide +kernel
theorem d_Mod_writeRule_143 : decode b_Mod_writeRule 143 = .ok (.goto 6, 3) := by decide +kernel
theorem d_Mod_writeRule_146 : decode b_Mod_writeRule 146 = .ok (.sipush 137, 3) := by decide +kernel
theorem d_Mod_writeRule_149 : decode b_Mod_writeRule 149 = .ok (.iconst 1, 1) := by decide +kernel
theorem d_Mod_writeRule_150 : decode b_Mod_writeRule 150 = .ok (.invokevirtual 149, 3) := by decide +kernel
theorem d_Mod_writeRule_153 : decode b_Mod_writeRule 153 = .ok (.aload_n 0, 1) := by decide +kernel
theorem d_Mod_writeRule_154 : decode b_Mod_writeRule 154 = .ok (.iload 6, 2) := by decide +kernel
theorem d_Mod_writeRule_156 : decode b_Mod_writeRule 156 = .ok (.iload 7, 2) := by decide +kernel
theorem d_Mod_writeRule_158 : decode b_Mod_writeRule 158 = .ok (.iadd, 1) := by decide +kernel
theorem d_Mod_writeRule_159 : decode b_Mod_writeRule 159 = .ok (.iconst 4, 1) := by decide +kernel
theorem d_Mod_writeRule_160 : decode b_Mod_writeRule 160 = .ok (.invokevirtual 149, 3) := by decide +kernel
theorem d_Mod_writeRule_163 : decode b_Mod_writeRule 163 = .ok (.aload_n 0, 1) := by decide +kernel
theorem d_Mod_writeRule_164 : decode b_Mod_writeRule 164 = .ok (.iload 5, 2) := by decide +kernel
theorem d_Mod_writeRule_166 : decode b_Mod_writeRule 166 = .ok (.iconst 4, 1) := by decide +kernel
theorem d_Mod_writeRule_167 : decode b_Mod_writeRule 167 = .ok (.invokevirtual 149, 3) := by decide +kernel
theorem d_Mod_writeRule_170 : decode b_Mod_writeRule 170 = .ok (.iload 4, 2) := by decide +kernel
