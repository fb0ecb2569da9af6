theorem d_Mod_close_0 : decode b_Mod_close 0 = .ok (.aload_n 0, 1) := by decide +kernel
theorem d_Mod_close_1 : decode b_Mod_close 1 = .ok (.iconst 0, 1) := by decide +kernel
theorem d_Mod_close_2 : decode b_Mod_close 2 = .ok (.putfield 81, 3) := by decide +kernel
theorem d_Mod_close_5 : decode b_Mod_close 5 = .ok (.aload_n 0, 1) := by decide +kernel
theorem d_Mod_close_6 : decode b_Mod_close 6 = .ok (.getfield 97, 3) := by decide +kernel
theorem d_Mod_close_9 : decode b_Mod_close 9 = .ok (.ifCond .eq 21, 3) := by decide +kernel
theorem d_Mod_close_12 : decode b_Mod_close 12 = .ok (.iload_n 1, 1) := by decide +kernel
theorem d_Mod_close_13 : decode b_Mod_close 13 = .ok (.ifCond .lt 17, 3) := by decide +kernel
theorem d_Mod_close_16 : decode b_Mod_close 16 = .ok (.iload_n 1, 1) := by decide +kernel
theorem d_Mod_close_17 : decode b_Mod_close 17 = .ok (.bipush 7, 2) := by decide +kernel
theorem d_Mod_close_19 : decode b_Mod_close 19 = .ok (.if_icmp .gt 11, 3) := by decide +kernel
theorem d_Mod_close_22 : decode b_Mod_close 22 = .ok (.aload_n 0, 1) := by decide +kernel
theorem d_Mod_close_23 : decode b_Mod_close 23 = .ok (.iconst 1, 1) := by decide +kernel
theorem d_Mod_close_24 : decode b_Mod_close 24 = .ok (.invokevirtual 100, 3) := by decide +kernel
theorem d_Mod_close_27 : decode b_Mod_close 27 = .ok (.ifCond .ne 5, 3) := by decide +kernel
theorem d_Mod_close_30 : decode b_Mod_close 30 = .ok (.iconst 0, 1) := by decide +kernel
theorem d_Mod_close_31 : decode b_Mod_close 31 = .ok (.ireturn, 1) := by decide +kernel
theorem d_Mod_close_32 : decode b_Mod_close 32 = .ok (.aload_n 0, 1) := by decide +kernel
theorem d_Mod_close_33 : decode b_Mod_close 33 = .ok (.getfield 31, 3) := by decide +kernel
theorem d_Mod_close_36 : decode b_Mod_close 36 = .ok (.aload_n 0, 1) := by decide +kernel
theorem d_Mod_close_37 : decode b_Mod_close 37 = .ok (.getfield 97, 3) := by decide +kernel
theorem d_Mod_close_40 : decode b_Mod_close 40 = .ok (.iconst 1, 1) := by decide +kernel
theorem d_Mod_close_41 : decode b_Mod_close 41 = .ok (.isub, 1) := by decide +kernel
theorem d_Mod_close_42 : decode b_Mod_close 42 = .ok (.iaload, 1) := by decide +kernel
theorem d_Mod_close_43 : decode b_Mod_close 43 = .ok (.istore_n 2, 1) := by decide +kernel
theorem d_Mod_close_44 : decode b_Mod_close 44 = .ok (.aload_n 0, 1) := by decide +kernel
theorem d_Mod_close_45 : decode b_Mod_close 45 = .ok (.invokevirtual 104, 3) := by decide +kernel
theorem d_Mod_close_48 : decode b_Mod_close 48 = .ok (.istore_n 3, 1) := by decide +kernel
theorem d_Mod_close_49 : decode b_Mod_close 49 = .ok (.lconst 0, 1) := by decide +kernel
theorem d_Mod_close_50 : decode b_Mod_close 50 = .ok (.lstore 4, 2) := by decide +kernel
theorem d_Mod_close_52 : decode b_Mod_close 52 = .ok (.lconst 0, 1) := by decide +kernel
theorem d_Mod_close_53 : decode b_Mod_close 53 = .ok (.lstore 6, 2) := by decide +kernel
theorem d_Mod_close_55 : decode b_Mod_close 55 = .ok (.lconst 0, 1) := by decide +kernel
theorem d_Mod_close_56 : decode b_Mod_close 56 = .ok (.lstore 8, 2) := by decide +kernel
theorem d_Mod_close_58 : decode b_Mod_close 58 = .ok (.iload_n 2, 1) := by decide +kernel
theorem d_Mod_close_59 : decode b_Mod_close 59 = .ok (.istore 10, 2) := by decide +kernel
theorem d_Mod_close_61 : decode b_Mod_close 61 = .ok (.iload 10, 2) := by decide +kernel
theorem d_Mod_close_63 : decode b_Mod_close 63 = .ok (.aload_n 0, 1) := by decide +kernel
theorem d_Mod_close_64 : decode b_Mod_close 64 = .ok (.getfield 90, 3) := by decide +kernel
theorem d_Mod_close_67 : decode b_Mod_close 67 = .ok (.if_icmp .ge 292, 3) := by decide +kernel
theorem d_Mod_close_70 : decode b_Mod_close 70 = .ok (.aload_n 0, 1) := by decide +kernel
theorem d_Mod_close_71 : decode b_Mod_close 71 = .ok (.iload 10, 2) := by decide +kernel
theorem d_Mod_close_73 : decode b_Mod_close 73 = .ok (.invokevirtual 116, 3) := by decide +kernel
theorem d_Mod_close_76 : decode b_Mod_close 76 = .ok (.ifCond .eq 14, 3) := by decide +kernel
theorem d_Mod_close_79 : decode b_Mod_close 79 = .ok (.aload_n 0, 1) := by decide +kernel
theorem d_Mod_close_80 : decode b_Mod_close 80 = .ok (.getfield 22, 3) := by decide +kernel
theorem d_Mod_close_83 : decode b_Mod_close 83 = .ok (.iload 10, 2) := by decide +kernel
theorem d_Mod_close_85 : decode b_Mod_close 85 = .ok (.iaload, 1) := by decide +kernel
theorem d_Mod_close_86 : decode b_Mod_close 86 = .ok (.i2l, 1) := by decide +kernel
theorem d_Mod_close_87 : decode b_Mod_close 87 = .ok (.goto 4, 3) := by decide +kernel
theorem d_Mod_close_90 : decode b_Mod_close 90 = .ok (.lconst 0, 1) := by decide +kernel
theorem d_Mod_close_91 : decode b_Mod_close 91 = .ok (.lstore 11, 2) := by decide +kernel
theorem d_Mod_close_93 : decode b_Mod_close 93 = .ok (.aload_n 0, 1) := by decide +kernel
theorem d_Mod_close_94 : decode b_Mod_close 94 = .ok (.getfield 7, 3) := by decide +kernel
theorem d_Mod_close_97 : decode b_Mod_close 97 = .ok (.iload 10, 2) := by decide +kernel
theorem d_Mod_close_99 : decode b_Mod_close 99 = .ok (.iaload, 1) := by decide +kernel
theorem d_Mod_close_100 : decode b_Mod_close 100 = .ok (.iconst 3, 1) := by decide +kernel
theorem d_Mod_close_101 : decode b_Mod_close 101 = .ok (.if_icmp .eq 7, 3) := by decide +kernel
theorem d_Mod_close_104 : decode b_Mod_close 104 = .ok (.iconst 1, 1) := by decide +kernel
theorem d_Mod_close_105 : decode b_Mod_close 105 = .ok (.goto 4, 3) := by decide +kernel
theorem d_Mod_close_108 : decode b_Mod_close 108 = .ok (.iconst 0, 1) := by decide +kernel
theorem d_Mod_close_109 : decode b_Mod_close 109 = .ok (.istore 13, 2) := by decide +kernel
theorem d_Mod_close_111 : decode b_Mod_close 111 = .ok (.iload_n 3, 1) := by decide +kernel
theorem d_Mod_close_112 : decode b_Mod_close 112 = .ok (.ifCond .eq 115, 3) := by decide +kernel
theorem d_Mod_close_115 : decode b_Mod_close 115 = .ok (.lload 6, 2) := by decide +kernel
theorem d_Mod_close_117 : decode b_Mod_close 117 = .ok (.iload 13, 2) := by decide +kernel
theorem d_Mod_close_119 : decode b_Mod_close 119 = .ok (.ifCond .eq 23, 3) := by decide +kernel
theorem d_Mod_close_122 : decode b_Mod_close 122 = .ok (.aload_n 0, 1) := by decide +kernel
theorem d_Mod_close_123 : decode b_Mod_close 123 = .ok (.getfield 16, 3) := by decide +kernel
theorem d_Mod_close_126 : decode b_Mod_close 126 = .ok (.iload 10, 2) := by decide +kernel
theorem d_Mod_close_128 : decode b_Mod_close 128 = .ok (.iaload, 1) := by decide +kernel
theorem d_Mod_close_129 : decode b_Mod_close 129 = .ok (.i2l, 1) := by decide +kernel
theorem d_Mod_close_130 : decode b_Mod_close 130 = .ok (.aload_n 0, 1) := by decide +kernel
theorem d_Mod_close_131 : decode b_Mod_close 131 = .ok (.getfield 19, 3) := by decide +kernel
theorem d_Mod_close_134 : decode b_Mod_close 134 = .ok (.iload 10, 2) := by decide +kernel
theorem d_Mod_close_136 : decode b_Mod_close 136 = .ok (.iaload, 1) := by decide +kernel
theorem d_Mod_close_137 : decode b_Mod_close 137 = .ok (.i2l, 1) := by decide +kernel
theorem d_Mod_close_138 : decode b_Mod_close 138 = .ok (.ladd, 1) := by decide +kernel
theorem d_Mod_close_139 : decode b_Mod_close 139 = .ok (.goto 11, 3) := by decide +kernel
theorem d_Mod_close_142 : decode b_Mod_close 142 = .ok (.aload_n 0, 1) := by decide +kernel
theorem d_Mod_close_143 : decode b_Mod_close 143 = .ok (.getfield 13, 3) := by decide +kernel
theorem d_Mod_close_146 : decode b_Mod_close 146 = .ok (.iload 10, 2) := by decide +kernel
theorem d_Mod_close_148 : decode b_Mod_close 148 = .ok (.iaload, 1) := by decide +kernel
theorem d_Mod_close_149 : decode b_Mod_close 149 = .ok (.i2l, 1) := by decide +kernel
theorem d_Mod_close_150 : decode b_Mod_close 150 = .ok (.ladd, 1) := by decide +kernel
theorem d_Mod_close_151 : decode b_Mod_close 151 = .ok (.lstore 6, 2) := by decide +kernel
theorem d_Mod_close_153 : decode b_Mod_close 153 = .ok (.iload 13, 2) := by decide +kernel
theorem d_Mod_close_155 : decode b_Mod_close 155 = .ok (.ifCond .eq 46, 3) := by decide +kernel
theorem d_Mod_close_158 : decode b_Mod_close 158 = .ok (.aload_n 0, 1) := by decide +kernel
theorem d_Mod_close_159 : decode b_Mod_close 159 = .ok (.getfield 13, 3) := by decide +kernel
theorem d_Mod_close_162 : decode b_Mod_close 162 = .ok (.iload 10, 2) := by decide +kernel
theorem d_Mod_close_164 : decode b_Mod_close 164 = .ok (.iaload, 1) := by decide +kernel
theorem d_Mod_close_165 : decode b_Mod_close 165 = .ok (.ldc 115, 2) := by decide +kernel
theorem d_Mod_close_167 : decode b_Mod_close 167 = .ok (.if_icmp .eq 34, 3) := by decide +kernel
theorem d_Mod_close_170 : decode b_Mod_close 170 = .ok (.aload_n 0, 1) := by decide +kernel
theorem d_Mod_close_171 : decode b_Mod_close 171 = .ok (.getfield 13, 3) := by decide +kernel
theorem d_Mod_close_174 : decode b_Mod_close 174 = .ok (.iload 10, 2) := by decide +kernel
theorem d_Mod_close_176 : decode b_Mod_close 176 = .ok (.iaload, 1) := by decide +kernel
theorem d_Mod_close_177 : decode b_Mod_close 177 = .ok (.i2l, 1) := by decide +kernel
theorem d_Mod_close_178 : decode b_Mod_close 178 = .ok (.lload 11, 2) := by decide +kernel
theorem d_Mod_close_180 : decode b_Mod_close 180 = .ok (.ladd, 1) := by decide +kernel
theorem d_Mod_close_181 : decode b_Mod_close 181 = .ok (.lload 4, 2) := by decide +kernel
theorem d_Mod_close_183 : decode b_Mod_close 183 = .ok (.lcmp, 1) := by decide +kernel
theorem d_Mod_close_184 : decode b_Mod_close 184 = .ok (.ifCond .le 17, 3) := by decide +kernel
theorem d_Mod_close_187 : decode b_Mod_close 187 = .ok (.aload_n 0, 1) := by decide +kernel
theorem d_Mod_close_188 : decode b_Mod_close 188 = .ok (.getfield 13, 3) := by decide +kernel
theorem d_Mod_close_191 : decode b_Mod_close 191 = .ok (.iload 10, 2) := by decide +kernel
theorem d_Mod_close_193 : decode b_Mod_close 193 = .ok (.iaload, 1) := by decide +kernel
theorem d_Mod_close_194 : decode b_Mod_close 194 = .ok (.i2l, 1) := by decide +kernel
theorem d_Mod_close_195 : decode b_Mod_close 195 = .ok (.lload 11, 2) := by decide +kernel
theorem d_Mod_close_197 : decode b_Mod_close 197 = .ok (.ladd, 1) := by decide +kernel
theorem d_Mod_close_198 : decode b_Mod_close 198 = .ok (.goto 5, 3) := by decide +kernel
theorem d_Mod_close_201 : decode b_Mod_close 201 = .ok (.lload 4, 2) := by decide +kernel
theorem d_Mod_close_203 : decode b_Mod_close 203 = .ok (.lstore 4, 2) := by decide +kernel
theorem d_Mod_close_205 : decode b_Mod_close 205 = .ok (.iload 13, 2) := by decide +kernel
theorem d_Mod_close_207 : decode b_Mod_close 207 = .ok (.ifCond .eq 14, 3) := by decide +kernel
theorem d_Mod_close_210 : decode b_Mod_close 210 = .ok (.aload_n 0, 1) := by decide +kernel
theorem d_Mod_close_211 : decode b_Mod_close 211 = .ok (.getfield 19, 3) := by decide +kernel
theorem d_Mod_close_214 : decode b_Mod_close 214 = .ok (.iload 10, 2) := by decide +kernel
theorem d_Mod_close_216 : decode b_Mod_close 216 = .ok (.iaload, 1) := by decide +kernel
theorem d_Mod_close_217 : decode b_Mod_close 217 = .ok (.i2l, 1) := by decide +kernel
theorem d_Mod_close_218 : decode b_Mod_close 218 = .ok (.goto 4, 3) := by decide +kernel
theorem d_Mod_close_221 : decode b_Mod_close 221 = .ok (.lconst 0, 1) := by decide +kernel
theorem d_Mod_close_222 : decode b_Mod_close 222 = .ok (.lstore 8, 2) := by decide +kernel
theorem d_Mod_close_224 : decode b_Mod_close 224 = .ok (.goto 120, 3) := by decide +kernel
theorem d_Mod_close_227 : decode b_Mod_close 227 = .ok (.lload 4, 2) := by decide +kernel
theorem d_Mod_close_229 : decode b_Mod_close 229 = .ok (.aload_n 0, 1) := by decide +kernel
theorem d_Mod_close_230 : decode b_Mod_close 230 = .ok (.getfield 13, 3) := by decide +kernel
theorem d_Mod_close_233 : decode b_Mod_close 233 = .ok (.iload 10, 2) := by decide +kernel
theorem d_Mod_close_235 : decode b_Mod_close 235 = .ok (.iaload, 1) := by decide +kernel
theorem d_Mod_close_236 : decode b_Mod_close 236 = .ok (.i2l, 1) := by decide +kernel
theorem d_Mod_close_237 : decode b_Mod_close 237 = .ok (.ladd, 1) := by decide +kernel
theorem d_Mod_close_238 : decode b_Mod_close 238 = .ok (.lstore 4, 2) := by decide +kernel
theorem d_Mod_close_240 : decode b_Mod_close 240 = .ok (.iload 13, 2) := by decide +kernel
theorem d_Mod_close_242 : decode b_Mod_close 242 = .ok (.ifCond .eq 46, 3) := by decide +kernel
theorem d_Mod_close_245 : decode b_Mod_close 245 = .ok (.aload_n 0, 1) := by decide +kernel
theorem d_Mod_close_246 : decode b_Mod_close 246 = .ok (.getfield 16, 3) := by decide +kernel
theorem d_Mod_close_249 : decode b_Mod_close 249 = .ok (.iload 10, 2) := by decide +kernel
theorem d_Mod_close_251 : decode b_Mod_close 251 = .ok (.iaload, 1) := by decide +kernel
theorem d_Mod_close_252 : decode b_Mod_close 252 = .ok (.ldc 115, 2) := by decide +kernel
theorem d_Mod_close_254 : decode b_Mod_close 254 = .ok (.if_icmp .eq 34, 3) := by decide +kernel
theorem d_Mod_close_257 : decode b_Mod_close 257 = .ok (.aload_n 0, 1) := by decide +kernel
theorem d_Mod_close_258 : decode b_Mod_close 258 = .ok (.getfield 16, 3) := by decide +kernel
theorem d_Mod_close_261 : decode b_Mod_close 261 = .ok (.iload 10, 2) := by decide +kernel
theorem d_Mod_close_263 : decode b_Mod_close 263 = .ok (.iaload, 1) := by decide +kernel
theorem d_Mod_close_264 : decode b_Mod_close 264 = .ok (.i2l, 1) := by decide +kernel
theorem d_Mod_close_265 : decode b_Mod_close 265 = .ok (.lload 11, 2) := by decide +kernel
theorem d_Mod_close_267 : decode b_Mod_close 267 = .ok (.lsub, 1) := by decide +kernel
theorem d_Mod_close_268 : decode b_Mod_close 268 = .ok (.lload 6, 2) := by decide +kernel
theorem d_Mod_close_270 : decode b_Mod_close 270 = .ok (.lcmp, 1) := by decide +kernel
theorem d_Mod_close_271 : decode b_Mod_close 271 = .ok (.ifCond .le 17, 3) := by decide +kernel
theorem d_Mod_close_274 : decode b_Mod_close 274 = .ok (.aload_n 0, 1) := by decide +kernel
theorem d_Mod_close_275 : decode b_Mod_close 275 = .ok (.getfield 16, 3) := by decide +kernel
theorem d_Mod_close_278 : decode b_Mod_close 278 = .ok (.iload 10, 2) := by decide +kernel
theorem d_Mod_close_280 : decode b_Mod_close 280 = .ok (.iaload, 1) := by decide +kernel
theorem d_Mod_close_281 : decode b_Mod_close 281 = .ok (.i2l, 1) := by decide +kernel
theorem d_Mod_close_282 : decode b_Mod_close 282 = .ok (.lload 11, 2) := by decide +kernel
theorem d_Mod_close_284 : decode b_Mod_close 284 = .ok (.lsub, 1) := by decide +kernel
theorem d_Mod_close_285 : decode b_Mod_close 285 = .ok (.goto 5, 3) := by decide +kernel
theorem d_Mod_close_288 : decode b_Mod_close 288 = .ok (.lload 6, 2) := by decide +kernel
theorem d_Mod_close_290 : decode b_Mod_close 290 = .ok (.lstore 6, 2) := by decide +kernel
theorem d_Mod_close_292 : decode b_Mod_close 292 = .ok (.iload 13, 2) := by decide +kernel
theorem d_Mod_close_294 : decode b_Mod_close 294 = .ok (.ifCond .eq 46, 3) := by decide +kernel
theorem d_Mod_close_297 : decode b_Mod_close 297 = .ok (.aload_n 0, 1) := by decide +kernel
theorem d_Mod_close_298 : decode b_Mod_close 298 = .ok (.getfield 19, 3) := by decide +kernel
theorem d_Mod_close_301 : decode b_Mod_close 301 = .ok (.iload 10, 2) := by decide +kernel
theorem d_Mod_close_303 : decode b_Mod_close 303 = .ok (.iaload, 1) := by decide +kernel
theorem d_Mod_close_304 : decode b_Mod_close 304 = .ok (.ldc 115, 2) := by decide +kernel
theorem d_Mod_close_306 : decode b_Mod_close 306 = .ok (.if_icmp .eq 34, 3) := by decide +kernel
theorem d_Mod_close_309 : decode b_Mod_close 309 = .ok (.aload_n 0, 1) := by decide +kernel
theorem d_Mod_close_310 : decode b_Mod_close 310 = .ok (.getfield 19, 3) := by decide +kernel
theorem d_Mod_close_313 : decode b_Mod_close 313 = .ok (.iload 10, 2) := by decide +kernel
theorem d_Mod_close_315 : decode b_Mod_close 315 = .ok (.iaload, 1) := by decide +kernel
theorem d_Mod_close_316 : decode b_Mod_close 316 = .ok (.i2l, 1) := by decide +kernel
theorem d_Mod_close_317 : decode b_Mod_close 317 = .ok (.lload 11, 2) := by decide +kernel
theorem d_Mod_close_319 : decode b_Mod_close 319 = .ok (.ladd, 1) := by decide +kernel
theorem d_Mod_close_320 : decode b_Mod_close 320 = .ok (.lload 8, 2) := by decide +kernel
theorem d_Mod_close_322 : decode b_Mod_close 322 = .ok (.lcmp, 1) := by decide +kernel
theorem d_Mod_close_323 : decode b_Mod_close 323 = .ok (.ifCond .le 17, 3) := by decide +kernel
theorem d_Mod_close_326 : decode b_Mod_close 326 = .ok (.aload_n 0, 1) := by decide +kernel
theorem d_Mod_close_327 : decode b_Mod_close 327 = .ok (.getfield 19, 3) := by decide +kernel
theorem d_Mod_close_330 : decode b_Mod_close 330 = .ok (.iload 10, 2) := by decide +kernel
theorem d_Mod_close_332 : decode b_Mod_close 332 = .ok (.iaload, 1) := by decide +kernel
theorem d_Mod_close_333 : decode b_Mod_close 333 = .ok (.i2l, 1) := by decide +kernel
theorem d_Mod_close_334 : decode b_Mod_close 334 = .ok (.lload 11, 2) := by decide +kernel
theorem d_Mod_close_336 : decode b_Mod_close 336 = .ok (.ladd, 1) := by decide +kernel
theorem d_Mod_close_337 : decode b_Mod_close 337 = .ok (.goto 5, 3) := by decide +kernel
theorem d_Mod_close_340 : decode b_Mod_close 340 = .ok (.lload 8, 2) := by decide +kernel
theorem d_Mod_close_342 : decode b_Mod_close 342 = .ok (.lstore 8, 2) := by decide +kernel
theorem d_Mod_close_344 : decode b_Mod_close 344 = .ok (.iload 10, 2) := by decide +kernel
theorem d_Mod_close_346 : decode b_Mod_close 346 = .ok (.aload_n 0, 1) := by decide +kernel
theorem d_Mod_close_347 : decode b_Mod_close 347 = .ok (.getfield 28, 3) := by decide +kernel
theorem d_Mod_close_350 : decode b_Mod_close 350 = .ok (.iload 10, 2) := by decide +kernel
theorem d_Mod_close_352 : decode b_Mod_close 352 = .ok (.iaload, 1) := by decide +kernel
theorem d_Mod_close_353 : decode b_Mod_close 353 = .ok (.iadd, 1) := by decide +kernel
theorem d_Mod_close_354 : decode b_Mod_close 354 = .ok (.istore 10, 2) := by decide +kernel
theorem d_Mod_close_356 : decode b_Mod_close 356 = .ok (.goto (-295), 3) := by decide +kernel
theorem d_Mod_close_359 : decode b_Mod_close 359 = .ok (.lload 6, 2) := by decide +kernel
theorem d_Mod_close_361 : decode b_Mod_close 361 = .ok (.iload_n 3, 1) := by decide +kernel
theorem d_Mod_close_362 : decode b_Mod_close 362 = .ok (.ifCond .eq 8, 3) := by decide +kernel
theorem d_Mod_close_365 : decode b_Mod_close 365 = .ok (.lload 8, 2) := by decide +kernel
theorem d_Mod_close_367 : decode b_Mod_close 367 = .ok (.goto 4, 3) := by decide +kernel
theorem d_Mod_close_370 : decode b_Mod_close 370 = .ok (.lconst 0, 1) := by decide +kernel
theorem d_Mod_close_371 : decode b_Mod_close 371 = .ok (.lsub, 1) := by decide +kernel
theorem d_Mod_close_372 : decode b_Mod_close 372 = .ok (.lstore 6, 2) := by decide +kernel
theorem d_Mod_close_374 : decode b_Mod_close 374 = .ok (.lload 4, 2) := by decide +kernel
theorem d_Mod_close_376 : decode b_Mod_close 376 = .ok (.invokestatic 127, 3) := by decide +kernel
theorem d_Mod_close_379 : decode b_Mod_close 379 = .ok (.ifCond .eq 33, 3) := by decide +kernel
theorem d_Mod_close_382 : decode b_Mod_close 382 = .ok (.lload 6, 2) := by decide +kernel
theorem d_Mod_close_384 : decode b_Mod_close 384 = .ok (.invokestatic 127, 3) := by decide +kernel
theorem d_Mod_close_387 : decode b_Mod_close 387 = .ok (.ifCond .eq 25, 3) := by decide +kernel
theorem d_Mod_close_390 : decode b_Mod_close 390 = .ok (.lload 8, 2) := by decide +kernel
theorem d_Mod_close_392 : decode b_Mod_close 392 = .ok (.invokestatic 127, 3) := by decide +kernel
theorem d_Mod_close_395 : decode b_Mod_close 395 = .ok (.ifCond .eq 17, 3) := by decide +kernel
theorem d_Mod_close_398 : decode b_Mod_close 398 = .ok (.aload_n 0, 1) := by decide +kernel
theorem d_Mod_close_399 : decode b_Mod_close 399 = .ok (.iload_n 2, 1) := by decide +kernel
theorem d_Mod_close_400 : decode b_Mod_close 400 = .ok (.aload_n 0, 1) := by decide +kernel
theorem d_Mod_close_401 : decode b_Mod_close 401 = .ok (.getfield 90, 3) := by decide +kernel
theorem d_Mod_close_404 : decode b_Mod_close 404 = .ok (.invokevirtual 131, 3) := by decide +kernel
theorem d_Mod_close_407 : decode b_Mod_close 407 = .ok (.bipush 99, 2) := by decide +kernel
theorem d_Mod_close_409 : decode b_Mod_close 409 = .ok (.if_icmp .le 5, 3) := by decide +kernel
theorem d_Mod_close_412 : decode b_Mod_close 412 = .ok (.iconst 0, 1) := by decide +kernel
theorem d_Mod_close_413 : decode b_Mod_close 413 = .ok (.ireturn, 1) := by decide +kernel
theorem d_Mod_close_414 : decode b_Mod_close 414 = .ok (.aload_n 0, 1) := by decide +kernel
theorem d_Mod_close_415 : decode b_Mod_close 415 = .ok (.iload_n 1, 1) := by decide +kernel
theorem d_Mod_close_416 : decode b_Mod_close 416 = .ok (.invokevirtual 135, 3) := by decide +kernel
theorem d_Mod_close_419 : decode b_Mod_close 419 = .ok (.aload_n 0, 1) := by decide +kernel
theorem d_Mod_close_420 : decode b_Mod_close 420 = .ok (.getfield 90, 3) := by decide +kernel
theorem d_Mod_close_423 : decode b_Mod_close 423 = .ok (.iload_n 2, 1) := by decide +kernel
theorem d_Mod_close_424 : decode b_Mod_close 424 = .ok (.isub, 1) := by decide +kernel
theorem d_Mod_close_425 : decode b_Mod_close 425 = .ok (.istore 10, 2) := by decide +kernel
theorem d_Mod_close_427 : decode b_Mod_close 427 = .ok (.aload_n 0, 1) := by decide +kernel
theorem d_Mod_close_428 : decode b_Mod_close 428 = .ok (.iload_n 1, 1) := by decide +kernel
theorem d_Mod_close_429 : decode b_Mod_close 429 = .ok (.iload 10, 2) := by decide +kernel
theorem d_Mod_close_431 : decode b_Mod_close 431 = .ok (.iconst 1, 1) := by decide +kernel
theorem d_Mod_close_432 : decode b_Mod_close 432 = .ok (.iadd, 1) := by decide +kernel
theorem d_Mod_close_433 : decode b_Mod_close 433 = .ok (.invokevirtual 139, 3) := by decide +kernel
theorem d_Mod_close_436 : decode b_Mod_close 436 = .ok (.aload_n 0, 1) := by decide +kernel
theorem d_Mod_close_437 : decode b_Mod_close 437 = .ok (.iload_n 1, 1) := by decide +kernel
theorem d_Mod_close_438 : decode b_Mod_close 438 = .ok (.invokevirtual 119, 3) := by decide +kernel
theorem d_Mod_close_441 : decode b_Mod_close 441 = .ok (.istore 11, 2) := by decide +kernel
theorem d_Mod_close_443 : decode b_Mod_close 443 = .ok (.aload_n 0, 1) := by decide +kernel
theorem d_Mod_close_444 : decode b_Mod_close 444 = .ok (.getfield 7, 3) := by decide +kernel
theorem d_Mod_close_447 : decode b_Mod_close 447 = .ok (.iload 11, 2) := by decide +kernel
theorem d_Mod_close_449 : decode b_Mod_close 449 = .ok (.iload_n 3, 1) := by decide +kernel
theorem d_Mod_close_450 : decode b_Mod_close 450 = .ok (.ifCond .eq 7, 3) := by decide +kernel
theorem d_Mod_close_453 : decode b_Mod_close 453 = .ok (.iconst 5, 1) := by decide +kernel
theorem d_Mod_close_454 : decode b_Mod_close 454 = .ok (.goto 4, 3) := by decide +kernel
theorem d_Mod_close_457 : decode b_Mod_close 457 = .ok (.iconst 4, 1) := by decide +kernel
theorem d_Mod_close_458 : decode b_Mod_close 458 = .ok (.iastore, 1) := by decide +kernel
theorem d_Mod_close_459 : decode b_Mod_close 459 = .ok (.aload_n 0, 1) := by decide +kernel
theorem d_Mod_close_460 : decode b_Mod_close 460 = .ok (.getfield 13, 3) := by decide +kernel
theorem d_Mod_close_463 : decode b_Mod_close 463 = .ok (.iload 11, 2) := by decide +kernel
theorem d_Mod_close_465 : decode b_Mod_close 465 = .ok (.lload 4, 2) := by decide +kernel
theorem d_Mod_close_467 : decode b_Mod_close 467 = .ok (.l2i, 1) := by decide +kernel
theorem d_Mod_close_468 : decode b_Mod_close 468 = .ok (.iastore, 1) := by decide +kernel
theorem d_Mod_close_469 : decode b_Mod_close 469 = .ok (.aload_n 0, 1) := by decide +kernel
theorem d_Mod_close_470 : decode b_Mod_close 470 = .ok (.getfield 16, 3) := by decide +kernel
theorem d_Mod_close_473 : decode b_Mod_close 473 = .ok (.iload 11, 2) := by decide +kernel
theorem d_Mod_close_475 : decode b_Mod_close 475 = .ok (.lload 6, 2) := by decide +kernel
theorem d_Mod_close_477 : decode b_Mod_close 477 = .ok (.l2i, 1) := by decide +kernel
theorem d_Mod_close_478 : decode b_Mod_close 478 = .ok (.iastore, 1) := by decide +kernel
theorem d_Mod_close_479 : decode b_Mod_close 479 = .ok (.aload_n 0, 1) := by decide +kernel
theorem d_Mod_close_480 : decode b_Mod_close 480 = .ok (.getfield 19, 3) := by decide +kernel
theorem d_Mod_close_483 : decode b_Mod_close 483 = .ok (.iload 11, 2) := by decide +kernel
theorem d_Mod_close_485 : decode b_Mod_close 485 = .ok (.lload 8, 2) := by decide +kernel
theorem d_Mod_close_487 : decode b_Mod_close 487 = .ok (.l2i, 1) := by decide +kernel
theorem d_Mod_close_488 : decode b_Mod_close 488 = .ok (.iastore, 1) := by decide +kernel
theorem d_Mod_close_489 : decode b_Mod_close 489 = .ok (.aload_n 0, 1) := by decide +kernel
theorem d_Mod_close_490 : decode b_Mod_close 490 = .ok (.getfield 22, 3) := by decide +kernel
theorem d_Mod_close_493 : decode b_Mod_close 493 = .ok (.iload 11, 2) := by decide +kernel
theorem d_Mod_close_495 : decode b_Mod_close 495 = .ok (.iconst 0, 1) := by decide +kernel
theorem d_Mod_close_496 : decode b_Mod_close 496 = .ok (.iastore, 1) := by decide +kernel
theorem d_Mod_close_497 : decode b_Mod_close 497 = .ok (.aload_n 0, 1) := by decide +kernel
theorem d_Mod_close_498 : decode b_Mod_close 498 = .ok (.getfield 25, 3) := by decide +kernel
theorem d_Mod_close_501 : decode b_Mod_close 501 = .ok (.iload 11, 2) := by decide +kernel
theorem d_Mod_close_503 : decode b_Mod_close 503 = .ok (.iconst 0, 1) := by decide +kernel
theorem d_Mod_close_504 : decode b_Mod_close 504 = .ok (.iastore, 1) := by decide +kernel
theorem d_Mod_close_505 : decode b_Mod_close 505 = .ok (.aload_n 0, 1) := by decide +kernel
theorem d_Mod_close_506 : decode b_Mod_close 506 = .ok (.getfield 28, 3) := by decide +kernel
theorem d_Mod_close_509 : decode b_Mod_close 509 = .ok (.iload 11, 2) := by decide +kernel
theorem d_Mod_close_511 : decode b_Mod_close 511 = .ok (.iload 10, 2) := by decide +kernel
theorem d_Mod_close_513 : decode b_Mod_close 513 = .ok (.iconst 1, 1) := by decide +kernel
theorem d_Mod_close_514 : decode b_Mod_close 514 = .ok (.iadd, 1) := by decide +kernel
theorem d_Mod_close_515 : decode b_Mod_close 515 = .ok (.iastore, 1) := by decide +kernel
theorem d_Mod_close_516 : decode b_Mod_close 516 = .ok (.iconst 0, 1) := by decide +kernel
theorem d_Mod_close_517 : decode b_Mod_close 517 = .ok (.istore 12, 2) := by decide +kernel
theorem d_Mod_close_519 : decode b_Mod_close 519 = .ok (.iload 12, 2) := by decide +kernel
theorem d_Mod_close_521 : decode b_Mod_close 521 = .ok (.iload 10, 2) := by decide +kernel
theorem d_Mod_close_523 : decode b_Mod_close 523 = .ok (.if_icmp .ge 24, 3) := by decide +kernel
theorem d_Mod_close_526 : decode b_Mod_close 526 = .ok (.aload_n 0, 1) := by decide +kernel
theorem d_Mod_close_527 : decode b_Mod_close 527 = .ok (.iload_n 2, 1) := by decide +kernel
theorem d_Mod_close_528 : decode b_Mod_close 528 = .ok (.iload 12, 2) := by decide +kernel
theorem d_Mod_close_530 : decode b_Mod_close 530 = .ok (.iadd, 1) := by decide +kernel
theorem d_Mod_close_531 : decode b_Mod_close 531 = .ok (.iload 11, 2) := by decide +kernel
theorem d_Mod_close_533 : decode b_Mod_close 533 = .ok (.iconst 1, 1) := by decide +kernel
theorem d_Mod_close_534 : decode b_Mod_close 534 = .ok (.iadd, 1) := by decide +kernel
theorem d_Mod_close_535 : decode b_Mod_close 535 = .ok (.iload 12, 2) := by decide +kernel
theorem d_Mod_close_537 : decode b_Mod_close 537 = .ok (.iadd, 1) := by decide +kernel
theorem d_Mod_close_538 : decode b_Mod_close 538 = .ok (.invokevirtual 123, 3) := by decide +kernel
theorem d_Mod_close_541 : decode b_Mod_close 541 = .ok (.iinc 12 1, 3) := by decide +kernel
theorem d_Mod_close_544 : decode b_Mod_close 544 = .ok (.goto (-25), 3) := by decide +kernel
theorem d_Mod_close_547 : decode b_Mod_close 547 = .ok (.aload_n 0, 1) := by decide +kernel
theorem d_Mod_close_548 : decode b_Mod_close 548 = .ok (.iload_n 2, 1) := by decide +kernel
theorem d_Mod_close_549 : decode b_Mod_close 549 = .ok (.putfield 90, 3) := by decide +kernel
theorem d_Mod_close_552 : decode b_Mod_close 552 = .ok (.aload_n 0, 1) := by decide +kernel
theorem d_Mod_close_553 : decode b_Mod_close 553 = .ok (.dup, 1) := by decide +kernel
theorem d_Mod_close_554 : decode b_Mod_close 554 = .ok (.getfield 97, 3) := by decide +kernel
theorem d_Mod_close_557 : decode b_Mod_close 557 = .ok (.iconst 1, 1) := by decide +kernel
theorem d_Mod_close_558 : decode b_Mod_close 558 = .ok (.isub, 1) := by decide +kernel
theorem d_Mod_close_559 : decode b_Mod_close 559 = .ok (.putfield 97, 3) := by decide +kernel
theorem d_Mod_close_562 : decode b_Mod_close 562 = .ok (.iconst 1, 1) := by decide +kernel
theorem d_Mod_close_563 : decode b_Mod_close 563 = .ok (.ireturn, 1) := by decide +kernel
theorem d_Mod_isFull_0 : decode b_Mod_isFull 0 = .ok (.iload_n 1, 1) := by decide +kernel
theorem d_Mod_isFull_1 : decode b_Mod_isFull 1 = .ok (.ifCond .lt 36, 3) := by decide +kernel
theorem d_Mod_isFull_4 : decode b_Mod_isFull 4 = .ok (.iload_n 1, 1) := by decide +kernel
theorem d_Mod_isFull_5 : decode b_Mod_isFull 5 = .ok (.bipush 8, 2) := by decide +kernel
theorem d_Mod_isFull_7 : decode b_Mod_isFull 7 = .ok (.if_icmp .ge 30, 3) := by decide +kernel
theorem d_Mod_isFull_10 : decode b_Mod_isFull 10 = .ok (.aload_n 0, 1) := by decide +kernel
theorem d_Mod_isFull_11 : decode b_Mod_isFull 11 = .ok (.getfield 38, 3) := by decide +kernel
theorem d_Mod_isFull_14 : decode b_Mod_isFull 14 = .ok (.iload_n 1, 1) := by decide +kernel
theorem d_Mod_isFull_15 : decode b_Mod_isFull 15 = .ok (.ifCond .lt 13, 3) := by decide +kernel
theorem d_Mod_isFull_18 : decode b_Mod_isFull 18 = .ok (.iload_n 1, 1) := by decide +kernel
theorem d_Mod_isFull_19 : decode b_Mod_isFull 19 = .ok (.bipush 8, 2) := by decide +kernel
theorem d_Mod_isFull_21 : decode b_Mod_isFull 21 = .ok (.if_icmp .ge 7, 3) := by decide +kernel
theorem d_Mod_isFull_24 : decode b_Mod_isFull 24 = .ok (.iload_n 1, 1) := by decide +kernel
theorem d_Mod_isFull_25 : decode b_Mod_isFull 25 = .ok (.goto 4, 3) := by decide +kernel
theorem d_Mod_isFull_28 : decode b_Mod_isFull 28 = .ok (.iconst 0, 1) := by decide +kernel
theorem d_Mod_isFull_29 : decode b_Mod_isFull 29 = .ok (.iaload, 1) := by decide +kernel
theorem d_Mod_isFull_30 : decode b_Mod_isFull 30 = .ok (.ifCond .le 7, 3) := by decide +kernel
theorem d_Mod_isFull_33 : decode b_Mod_isFull 33 = .ok (.iconst 1, 1) := by decide +kernel
theorem d_Mod_isFull_34 : decode b_Mod_isFull 34 = .ok (.goto 4, 3) := by decide +kernel
theorem d_Mod_isFull_37 : decode b_Mod_isFull 37 = .ok (.iconst 0, 1) := by decide +kernel
theorem d_Mod_isFull_38 : decode b_Mod_isFull 38 = .ok (.ireturn, 1) := by decide +kernel
theorem d_Mod_put_0 : decode b_Mod_put 0 = .ok (.aload_n 0, 1) := by decide +kernel
theorem d_Mod_put_1 : decode b_Mod_put 1 = .ok (.iconst 0, 1) := by decide +kernel
theorem d_Mod_put_2 : decode b_Mod_put 2 = .ok (.putfield 81, 3) := by decide +kernel
theorem d_Mod_put_5 : decode b_Mod_put 5 = .ok (.aload_n 0, 1) := by decide +kernel
theorem d_Mod_put_6 : decode b_Mod_put 6 = .ok (.getfield 97, 3) := by decide +kernel
theorem d_Mod_put_9 : decode b_Mod_put 9 = .ok (.ifCond .eq 35, 3) := by decide +kernel
theorem d_Mod_put_12 : decode b_Mod_put 12 = .ok (.aload_n 0, 1) := by decide +kernel
theorem d_Mod_put_13 : decode b_Mod_put 13 = .ok (.iload_n 1, 1) := by decide +kernel
theorem d_Mod_put_14 : decode b_Mod_put 14 = .ok (.invokevirtual 142, 3) := by decide +kernel
theorem d_Mod_put_17 : decode b_Mod_put 17 = .ok (.ifCond .eq 27, 3) := by decide +kernel
theorem d_Mod_put_20 : decode b_Mod_put 20 = .ok (.iload_n 2, 1) := by decide +kernel
theorem d_Mod_put_21 : decode b_Mod_put 21 = .ok (.invokestatic 108, 3) := by decide +kernel
theorem d_Mod_put_24 : decode b_Mod_put 24 = .ok (.ifCond .eq 20, 3) := by decide +kernel
theorem d_Mod_put_27 : decode b_Mod_put 27 = .ok (.iload_n 3, 1) := by decide +kernel
theorem d_Mod_put_28 : decode b_Mod_put 28 = .ok (.ifCond .eq 18, 3) := by decide +kernel
theorem d_Mod_put_31 : decode b_Mod_put 31 = .ok (.aload_n 0, 1) := by decide +kernel
theorem d_Mod_put_32 : decode b_Mod_put 32 = .ok (.aload_n 0, 1) := by decide +kernel
theorem d_Mod_put_33 : decode b_Mod_put 33 = .ok (.getfield 38, 3) := by decide +kernel
theorem d_Mod_put_36 : decode b_Mod_put 36 = .ok (.iload_n 1, 1) := by decide +kernel
theorem d_Mod_put_37 : decode b_Mod_put 37 = .ok (.iaload, 1) := by decide +kernel
theorem d_Mod_put_38 : decode b_Mod_put 38 = .ok (.invokevirtual 100, 3) := by decide +kernel
theorem d_Mod_put_41 : decode b_Mod_put 41 = .ok (.ifCond .ne 5, 3) := by decide +kernel
theorem d_Mod_put_44 : decode b_Mod_put 44 = .ok (.iconst 0, 1) := by decide +kernel
theorem d_Mod_put_45 : decode b_Mod_put 45 = .ok (.ireturn, 1) := by decide +kernel
theorem d_Mod_put_46 : decode b_Mod_put 46 = .ok (.aload_n 0, 1) := by decide +kernel
theorem d_Mod_put_47 : decode b_Mod_put 47 = .ok (.iload_n 1, 1) := by decide +kernel
theorem d_Mod_put_48 : decode b_Mod_put 48 = .ok (.invokevirtual 119, 3) := by decide +kernel
theorem d_Mod_put_51 : decode b_Mod_put 51 = .ok (.istore 4, 2) := by decide +kernel
theorem d_Mod_put_53 : decode b_Mod_put 53 = .ok (.aload_n 0, 1) := by decide +kernel
theorem d_Mod_put_54 : decode b_Mod_put 54 = .ok (.getfield 38, 3) := by decide +kernel
theorem d_Mod_put_57 : decode b_Mod_put 57 = .ok (.iload_n 1, 1) := by decide +kernel
theorem d_Mod_put_58 : decode b_Mod_put 58 = .ok (.iaload, 1) := by decide +kernel
theorem d_Mod_put_59 : decode b_Mod_put 59 = .ok (.istore 5, 2) := by decide +kernel
theorem d_Mod_put_61 : decode b_Mod_put 61 = .ok (.iconst 0, 1) := by decide +kernel
theorem d_Mod_put_62 : decode b_Mod_put 62 = .ok (.istore 6, 2) := by decide +kernel
theorem d_Mod_put_64 : decode b_Mod_put 64 = .ok (.iload 6, 2) := by decide +kernel
theorem d_Mod_put_66 : decode b_Mod_put 66 = .ok (.iload 5, 2) := by decide +kernel
theorem d_Mod_put_68 : decode b_Mod_put 68 = .ok (.if_icmp .ge 25, 3) := by decide +kernel
theorem d_Mod_put_71 : decode b_Mod_put 71 = .ok (.aload_n 0, 1) := by decide +kernel
theorem d_Mod_put_72 : decode b_Mod_put 72 = .ok (.iload 4, 2) := by decide +kernel
theorem d_Mod_put_74 : decode b_Mod_put 74 = .ok (.iload 6, 2) := by decide +kernel
theorem d_Mod_put_76 : decode b_Mod_put 76 = .ok (.iadd, 1) := by decide +kernel
theorem d_Mod_put_77 : decode b_Mod_put 77 = .ok (.aload_n 0, 1) := by decide +kernel
theorem d_Mod_put_78 : decode b_Mod_put 78 = .ok (.getfield 90, 3) := by decide +kernel
theorem d_Mod_put_81 : decode b_Mod_put 81 = .ok (.iload 6, 2) := by decide +kernel
theorem d_Mod_put_83 : decode b_Mod_put 83 = .ok (.iadd, 1) := by decide +kernel
theorem d_Mod_put_84 : decode b_Mod_put 84 = .ok (.invokevirtual 123, 3) := by decide +kernel
theorem d_Mod_put_87 : decode b_Mod_put 87 = .ok (.iinc 6 1, 3) := by decide +kernel
theorem d_Mod_put_90 : decode b_Mod_put 90 = .ok (.goto (-26), 3) := by decide +kernel
theorem d_Mod_put_93 : decode b_Mod_put 93 = .ok (.aload_n 0, 1) := by decide +kernel
theorem d_Mod_put_94 : decode b_Mod_put 94 = .ok (.getfield 22, 3) := by decide +kernel
theorem d_Mod_put_97 : decode b_Mod_put 97 = .ok (.aload_n 0, 1) := by decide +kernel
theorem d_Mod_put_98 : decode b_Mod_put 98 = .ok (.getfield 90, 3) := by decide +kernel
theorem d_Mod_put_101 : decode b_Mod_put 101 = .ok (.iload_n 2, 1) := by decide +kernel
theorem d_Mod_put_102 : decode b_Mod_put 102 = .ok (.iastore, 1) := by decide +kernel
theorem d_Mod_put_103 : decode b_Mod_put 103 = .ok (.aload_n 0, 1) := by decide +kernel
theorem d_Mod_put_104 : decode b_Mod_put 104 = .ok (.dup, 1) := by decide +kernel
theorem d_Mod_put_105 : decode b_Mod_put 105 = .ok (.getfield 90, 3) := by decide +kernel
theorem d_Mod_put_108 : decode b_Mod_put 108 = .ok (.iload 5, 2) := by decide +kernel
theorem d_Mod_put_110 : decode b_Mod_put 110 = .ok (.iadd, 1) := by decide +kernel
theorem d_Mod_put_111 : decode b_Mod_put 111 = .ok (.putfield 90, 3) := by decide +kernel
theorem d_Mod_put_114 : decode b_Mod_put 114 = .ok (.iload_n 3, 1) := by decide +kernel
theorem d_Mod_put_115 : decode b_Mod_put 115 = .ok (.ifCond .ne 8, 3) := by decide +kernel
theorem d_Mod_put_118 : decode b_Mod_put 118 = .ok (.aload_n 0, 1) := by decide +kernel
theorem d_Mod_put_119 : decode b_Mod_put 119 = .ok (.iload_n 1, 1) := by decide +kernel
theorem d_Mod_put_120 : decode b_Mod_put 120 = .ok (.invokevirtual 135, 3) := by decide +kernel
theorem d_Mod_put_123 : decode b_Mod_put 123 = .ok (.iconst 1, 1) := by decide +kernel
theorem d_Mod_put_124 : decode b_Mod_put 124 = .ok (.ireturn, 1) := by decide +kernel
theorem d_Mod_write_0 : decode b_Mod_write 0 = .ok (.bipush 8, 2) := by decide +kernel
theorem d_Mod_write_2 : decode b_Mod_write 2 = .ok (.iload_n 2, 1) := by decide +kernel
theorem d_Mod_write_3 : decode b_Mod_write 3 = .ok (.iconst 1, 1) := by decide +kernel
theorem d_Mod_write_4 : decode b_Mod_write 4 = .ok (.isub, 1) := by decide +kernel
theorem d_Mod_write_5 : decode b_Mod_write 5 = .ok (.imul, 1) := by decide +kernel
theorem d_Mod_write_6 : decode b_Mod_write 6 = .ok (.istore_n 3, 1) := by decide +kernel
theorem d_Mod_write_7 : decode b_Mod_write 7 = .ok (.iload_n 3, 1) := by decide +kernel
theorem d_Mod_write_8 : decode b_Mod_write 8 = .ok (.ifCond .lt 32, 3) := by decide +kernel
theorem d_Mod_write_11 : decode b_Mod_write 11 = .ok (.aload_n 0, 1) := by decide +kernel
theorem d_Mod_write_12 : decode b_Mod_write 12 = .ok (.getfield 54, 3) := by decide +kernel
theorem d_Mod_write_15 : decode b_Mod_write 15 = .ok (.aload_n 0, 1) := by decide +kernel
theorem d_Mod_write_16 : decode b_Mod_write 16 = .ok (.getfield 145, 3) := by decide +kernel
theorem d_Mod_write_19 : decode b_Mod_write 19 = .ok (.iload_n 1, 1) := by decide +kernel
theorem d_Mod_write_20 : decode b_Mod_write 20 = .ok (.iload_n 3, 1) := by decide +kernel
theorem d_Mod_write_21 : decode b_Mod_write 21 = .ok (.ishr, 1) := by decide +kernel
theorem d_Mod_write_22 : decode b_Mod_write 22 = .ok (.i2b, 1) := by decide +kernel
theorem d_Mod_write_23 : decode b_Mod_write 23 = .ok (.bastore, 1) := by decide +kernel
theorem d_Mod_write_24 : decode b_Mod_write 24 = .ok (.aload_n 0, 1) := by decide +kernel
theorem d_Mod_write_25 : decode b_Mod_write 25 = .ok (.dup, 1) := by decide +kernel
theorem d_Mod_write_26 : decode b_Mod_write 26 = .ok (.getfield 145, 3) := by decide +kernel
theorem d_Mod_write_29 : decode b_Mod_write 29 = .ok (.iconst 1, 1) := by decide +kernel
theorem d_Mod_write_30 : decode b_Mod_write 30 = .ok (.iadd, 1) := by decide +kernel
theorem d_Mod_write_31 : decode b_Mod_write 31 = .ok (.putfield 145, 3) := by decide +kernel
theorem d_Mod_write_34 : decode b_Mod_write 34 = .ok (.iinc 3 (-8), 3) := by decide +kernel
theorem d_Mod_write_37 : decode b_Mod_write 37 = .ok (.goto (-30), 3) := by decide +kernel
theorem d_Mod_write_40 : decode b_Mod_write 40 = .ok (.return_, 1) := by decide +kernel
theorem d_Mod_writeNumbers_0 : decode b_Mod_writeNumbers 0 = .ok (.aload_n 0, 1) := by decide +kernel
theorem d_Mod_writeNumbers_1 : decode b_Mod_writeNumbers 1 = .ok (.ldc 148, 2) := by decide +kernel
theorem d_Mod_writeNumbers_3 : decode b_Mod_writeNumbers 3 = .ok (.iconst 4, 1) := by decide +kernel
theorem d_Mod_writeNumbers_4 : decode b_Mod_writeNumbers 4 = .ok (.invokevirtual 149, 3) := by decide +kernel
theorem d_Mod_writeNumbers_7 : decode b_Mod_writeNumbers 7 = .ok (.aload_n 0, 1) := by decide +kernel
theorem d_Mod_writeNumbers_8 : decode b_Mod_writeNumbers 8 = .ok (.ldc 152, 2) := by decide +kernel
theorem d_Mod_writeNumbers_10 : decode b_Mod_writeNumbers 10 = .ok (.iconst 4, 1) := by decide +kernel
theorem d_Mod_writeNumbers_11 : decode b_Mod_writeNumbers 11 = .ok (.invokevirtual 149, 3) := by decide +kernel
theorem d_Mod_writeNumbers_14 : decode b_Mod_writeNumbers 14 = .ok (.aload_n 0, 1) := by decide +kernel
theorem d_Mod_writeNumbers_15 : decode b_Mod_writeNumbers 15 = .ok (.sipush 1000, 3) := by decide +kernel
theorem d_Mod_writeNumbers_18 : decode b_Mod_writeNumbers 18 = .ok (.iconst 4, 1) := by decide +kernel
theorem d_Mod_writeNumbers_19 : decode b_Mod_writeNumbers 19 = .ok (.invokevirtual 149, 3) := by decide +kernel
theorem d_Mod_writeNumbers_22 : decode b_Mod_writeNumbers 22 = .ok (.return_, 1) := by decide +kernel
theorem d_Mod_writeBeginning_0 : decode b_Mod_writeBeginning 0 = .ok (.aload_n 0, 1) := by decide +kernel
theorem d_Mod_writeBeginning_1 : decode b_Mod_writeBeginning 1 = .ok (.getfield 145, 3) := by decide +kernel
theorem d_Mod_writeBeginning_4 : decode b_Mod_writeBeginning 4 = .ok (.ifCond .ne 27, 3) := by decide +kernel
theorem d_Mod_writeBeginning_7 : decode b_Mod_writeBeginning 7 = .ok (.aload_n 0, 1) := by decide +kernel
theorem d_Mod_writeBeginning_8 : decode b_Mod_writeBeginning 8 = .ok (.sipush 247, 3) := by decide +kernel
theorem d_Mod_writeBeginning_11 : decode b_Mod_writeBeginning 11 = .ok (.iconst 1, 1) := by decide +kernel
theorem d_Mod_writeBeginning_12 : decode b_Mod_writeBeginning 12 = .ok (.invokevirtual 149, 3) := by decide +kernel
theorem d_Mod_writeBeginning_15 : decode b_Mod_writeBeginning 15 = .ok (.aload_n 0, 1) := by decide +kernel
theorem d_Mod_writeBeginning_16 : decode b_Mod_writeBeginning 16 = .ok (.iconst 2, 1) := by decide +kernel
theorem d_Mod_writeBeginning_17 : decode b_Mod_writeBeginning 17 = .ok (.iconst 1, 1) := by decide +kernel
theorem d_Mod_writeBeginning_18 : decode b_Mod_writeBeginning 18 = .ok (.invokevirtual 149, 3) := by decide +kernel
theorem d_Mod_writeBeginning_21 : decode b_Mod_writeBeginning 21 = .ok (.aload_n 0, 1) := by decide +kernel
theorem d_Mod_writeBeginning_22 : decode b_Mod_writeBeginning 22 = .ok (.invokevirtual 153, 3) := by decide +kernel
theorem d_Mod_writeBeginning_25 : decode b_Mod_writeBeginning 25 = .ok (.aload_n 0, 1) := by decide +kernel
theorem d_Mod_writeBeginning_26 : decode b_Mod_writeBeginning 26 = .ok (.iconst 0, 1) := by decide +kernel
theorem d_Mod_writeBeginning_27 : decode b_Mod_writeBeginning 27 = .ok (.iconst 1, 1) := by decide +kernel
theorem d_Mod_writeBeginning_28 : decode b_Mod_writeBeginning 28 = .ok (.invokevirtual 149, 3) := by decide +kernel
theorem d_Mod_writeBeginning_31 : decode b_Mod_writeBeginning 31 = .ok (.return_, 1) := by decide +kernel
theorem d_Mod_writeFont_0 : decode b_Mod_writeFont 0 = .ok (.aload_n 0, 1) := by decide +kernel
theorem d_Mod_writeFont_1 : decode b_Mod_writeFont 1 = .ok (.sipush 243, 3) := by decide +kernel
theorem d_Mod_writeFont_4 : decode b_Mod_writeFont 4 = .ok (.iconst 1, 1) := by decide +kernel
theorem d_Mod_writeFont_5 : decode b_Mod_writeFont 5 = .ok (.invokevirtual 149, 3) := by decide +kernel
theorem d_Mod_writeFont_8 : decode b_Mod_writeFont 8 = .ok (.aload_n 0, 1) := by decide +kernel
theorem d_Mod_writeFont_9 : decode b_Mod_writeFont 9 = .ok (.iload_n 1, 1) := by decide +kernel
theorem d_Mod_writeFont_10 : decode b_Mod_writeFont 10 = .ok (.iconst 1, 1) := by decide +kernel
theorem d_Mod_writeFont_11 : decode b_Mod_writeFont 11 = .ok (.invokevirtual 149, 3) := by decide +kernel
theorem d_Mod_writeFont_14 : decode b_Mod_writeFont 14 = .ok (.aload_n 0, 1) := by decide +kernel
theorem d_Mod_writeFont_15 : decode b_Mod_writeFont 15 = .ok (.iconst 0, 1) := by decide +kernel
theorem d_Mod_writeFont_16 : decode b_Mod_writeFont 16 = .ok (.iconst 4, 1) := by decide +kernel
theorem d_Mod_writeFont_17 : decode b_Mod_writeFont 17 = .ok (.invokevirtual 149, 3) := by decide +kernel
theorem d_Mod_writeFont_20 : decode b_Mod_writeFont 20 = .ok (.aload_n 0, 1) := by decide +kernel
theorem d_Mod_writeFont_21 : decode b_Mod_writeFont 21 = .ok (.aload_n 0, 1) := by decide +kernel
theorem d_Mod_writeFont_22 : decode b_Mod_writeFont 22 = .ok (.getfield 41, 3) := by decide +kernel
theorem d_Mod_writeFont_25 : decode b_Mod_writeFont 25 = .ok (.iload_n 1, 1) := by decide +kernel
theorem d_Mod_writeFont_26 : decode b_Mod_writeFont 26 = .ok (.iaload, 1) := by decide +kernel
theorem d_Mod_writeFont_27 : decode b_Mod_writeFont 27 = .ok (.iconst 4, 1) := by decide +kernel
theorem d_Mod_writeFont_28 : decode b_Mod_writeFont 28 = .ok (.invokevirtual 149, 3) := by decide +kernel
theorem d_Mod_writeFont_31 : decode b_Mod_writeFont 31 = .ok (.aload_n 0, 1) := by decide +kernel
theorem d_Mod_writeFont_32 : decode b_Mod_writeFont 32 = .ok (.aload_n 0, 1) := by decide +kernel
theorem d_Mod_writeFont_33 : decode b_Mod_writeFont 33 = .ok (.getfield 44, 3) := by decide +kernel
theorem d_Mod_writeFont_36 : decode b_Mod_writeFont 36 = .ok (.iload_n 1, 1) := by decide +kernel
theorem d_Mod_writeFont_37 : decode b_Mod_writeFont 37 = .ok (.iaload, 1) := by decide +kernel
theorem d_Mod_writeFont_38 : decode b_Mod_writeFont 38 = .ok (.iconst 4, 1) := by decide +kernel
theorem d_Mod_writeFont_39 : decode b_Mod_writeFont 39 = .ok (.invokevirtual 149, 3) := by decide +kernel
theorem d_Mod_writeFont_42 : decode b_Mod_writeFont 42 = .ok (.aload_n 0, 1) := by decide +kernel
theorem d_Mod_writeFont_43 : decode b_Mod_writeFont 43 = .ok (.iconst 0, 1) := by decide +kernel
theorem d_Mod_writeFont_44 : decode b_Mod_writeFont 44 = .ok (.iconst 1, 1) := by decide +kernel
theorem d_Mod_writeFont_45 : decode b_Mod_writeFont 45 = .ok (.invokevirtual 149, 3) := by decide +kernel
theorem d_Mod_writeFont_48 : decode b_Mod_writeFont 48 = .ok (.aload_n 0, 1) := by decide +kernel
theorem d_Mod_writeFont_49 : decode b_Mod_writeFont 49 = .ok (.iconst 1, 1) := by decide +kernel
theorem d_Mod_writeFont_50 : decode b_Mod_writeFont 50 = .ok (.iconst 1, 1) := by decide +kernel
theorem d_Mod_writeFont_51 : decode b_Mod_writeFont 51 = .ok (.invokevirtual 149, 3) := by decide +kernel
theorem d_Mod_writeFont_54 : decode b_Mod_writeFont 54 = .ok (.aload_n 0, 1) := by decide +kernel
theorem d_Mod_writeFont_55 : decode b_Mod_writeFont 55 = .ok (.bipush 65, 2) := by decide +kernel
theorem d_Mod_writeFont_57 : decode b_Mod_writeFont 57 = .ok (.iload_n 1, 1) := by decide +kernel
theorem d_Mod_writeFont_58 : decode b_Mod_writeFont 58 = .ok (.bipush 26, 2) := by decide +kernel
theorem d_Mod_writeFont_60 : decode b_Mod_writeFont 60 = .ok (.irem, 1) := by decide +kernel
theorem d_Mod_writeFont_61 : decode b_Mod_writeFont 61 = .ok (.iadd, 1) := by decide +kernel
theorem d_Mod_writeFont_62 : decode b_Mod_writeFont 62 = .ok (.iconst 1, 1) := by decide +kernel
theorem d_Mod_writeFont_63 : decode b_Mod_writeFont 63 = .ok (.invokevirtual 149, 3) := by decide +kernel
theorem d_Mod_writeFont_66 : decode b_Mod_writeFont 66 = .ok (.return_, 1) := by decide +kernel
theorem d_Mod_sized_0 : decode b_Mod_sized 0 = .ok (.aload_n 0, 1) := by decide +kernel
theorem d_Mod_sized_1 : decode b_Mod_sized 1 = .ok (.aload_n 0, 1) := by decide +kernel
theorem d_Mod_sized_2 : decode b_Mod_sized 2 = .ok (.getfield 156, 3) := by decide +kernel
theorem d_Mod_sized_5 : decode b_Mod_sized 5 = .ok (.ifCond .eq 14, 3) := by decide +kernel
theorem d_Mod_sized_8 : decode b_Mod_sized 8 = .ok (.lload_n 1, 1) := by decide +kernel
theorem d_Mod_sized_9 : decode b_Mod_sized 9 = .ok (.invokestatic 127, 3) := by decide +kernel
theorem d_Mod_sized_12 : decode b_Mod_sized 12 = .ok (.ifCond .eq 7, 3) := by decide +kernel
theorem d_Mod_sized_15 : decode b_Mod_sized 15 = .ok (.iconst 1, 1) := by decide +kernel
theorem d_Mod_sized_16 : decode b_Mod_sized 16 = .ok (.goto 4, 3) := by decide +kernel
theorem d_Mod_sized_19 : decode b_Mod_sized 19 = .ok (.iconst 0, 1) := by decide +kernel
theorem d_Mod_sized_20 : decode b_Mod_sized 20 = .ok (.putfield 156, 3) := by decide +kernel
theorem d_Mod_sized_23 : decode b_Mod_sized 23 = .ok (.return_, 1) := by decide +kernel
theorem d_Mod_enter_0 : decode b_Mod_enter 0 = .ok (.aload_n 0, 1) := by decide +kernel
theorem d_Mod_enter_1 : decode b_Mod_enter 1 = .ok (.getfield 68, 3) := by decide +kernel
theorem d_Mod_enter_4 : decode b_Mod_enter 4 = .ok (.aload_n 0, 1) := by decide +kernel
theorem d_Mod_enter_5 : decode b_Mod_enter 5 = .ok (.getfield 160, 3) := by decide +kernel
theorem d_Mod_enter_8 : decode b_Mod_enter 8 = .ok (.iload_n 1, 1) := by decide +kernel
theorem d_Mod_enter_9 : decode b_Mod_enter 9 = .ok (.aload_n 0, 1) := by decide +kernel
theorem d_Mod_enter_10 : decode b_Mod_enter 10 = .ok (.getfield 28, 3) := by decide +kernel
theorem d_Mod_enter_13 : decode b_Mod_enter 13 = .ok (.iload_n 1, 1) := by decide +kernel
theorem d_Mod_enter_14 : decode b_Mod_enter 14 = .ok (.iaload, 1) := by decide +kernel
theorem d_Mod_enter_15 : decode b_Mod_enter 15 = .ok (.iadd, 1) := by decide +kernel
theorem d_Mod_enter_16 : decode b_Mod_enter 16 = .ok (.iastore, 1) := by decide +kernel
theorem d_Mod_enter_17 : decode b_Mod_enter 17 = .ok (.aload_n 0, 1) := by decide +kernel
theorem d_Mod_enter_18 : decode b_Mod_enter 18 = .ok (.getfield 75, 3) := by decide +kernel
theorem d_Mod_enter_21 : decode b_Mod_enter 21 = .ok (.bipush 8, 2) := by decide +kernel
theorem d_Mod_enter_23 : decode b_Mod_enter 23 = .ok (.aload_n 0, 1) := by decide +kernel
theorem d_Mod_enter_24 : decode b_Mod_enter 24 = .ok (.getfield 160, 3) := by decide +kernel
theorem d_Mod_enter_27 : decode b_Mod_enter 27 = .ok (.imul, 1) := by decide +kernel
theorem d_Mod_enter_28 : decode b_Mod_enter 28 = .ok (.iload_n 1, 1) := by decide +kernel
theorem d_Mod_enter_29 : decode b_Mod_enter 29 = .ok (.iastore, 1) := by decide +kernel
theorem d_Mod_enter_30 : decode b_Mod_enter 30 = .ok (.aload_n 0, 1) := by decide +kernel
theorem d_Mod_enter_31 : decode b_Mod_enter 31 = .ok (.getfield 71, 3) := by decide +kernel
theorem d_Mod_enter_34 : decode b_Mod_enter 34 = .ok (.aload_n 0, 1) := by decide +kernel
theorem d_Mod_enter_35 : decode b_Mod_enter 35 = .ok (.getfield 160, 3) := by decide +kernel
theorem d_Mod_enter_38 : decode b_Mod_enter 38 = .ok (.aload_n 0, 1) := by decide +kernel
theorem d_Mod_enter_39 : decode b_Mod_enter 39 = .ok (.getfield 7, 3) := by decide +kernel
theorem d_Mod_enter_42 : decode b_Mod_enter 42 = .ok (.iload_n 1, 1) := by decide +kernel
theorem d_Mod_enter_43 : decode b_Mod_enter 43 = .ok (.iaload, 1) := by decide +kernel
theorem d_Mod_enter_44 : decode b_Mod_enter 44 = .ok (.iconst 4, 1) := by decide +kernel
theorem d_Mod_enter_45 : decode b_Mod_enter 45 = .ok (.if_icmp .ne 15, 3) := by decide +kernel
theorem d_Mod_enter_48 : decode b_Mod_enter 48 = .ok (.aload_n 0, 1) := by decide +kernel
theorem d_Mod_enter_49 : decode b_Mod_enter 49 = .ok (.getfield 62, 3) := by decide +kernel
theorem d_Mod_enter_52 : decode b_Mod_enter 52 = .ok (.iload_n 1, 1) := by decide +kernel
theorem d_Mod_enter_53 : decode b_Mod_enter 53 = .ok (.iload_n 2, 1) := by decide +kernel
theorem d_Mod_enter_54 : decode b_Mod_enter 54 = .ok (.isub, 1) := by decide +kernel
theorem d_Mod_enter_55 : decode b_Mod_enter 55 = .ok (.iaload, 1) := by decide +kernel
theorem d_Mod_enter_56 : decode b_Mod_enter 56 = .ok (.i2l, 1) := by decide +kernel
theorem d_Mod_enter_57 : decode b_Mod_enter 57 = .ok (.goto 20, 3) := by decide +kernel
theorem d_Mod_enter_60 : decode b_Mod_enter 60 = .ok (.aload_n 0, 1) := by decide +kernel
theorem d_Mod_enter_61 : decode b_Mod_enter 61 = .ok (.getfield 65, 3) := by decide +kernel
theorem d_Mod_enter_64 : decode b_Mod_enter 64 = .ok (.iload_n 1, 1) := by decide +kernel
theorem d_Mod_enter_65 : decode b_Mod_enter 65 = .ok (.iload_n 2, 1) := by decide +kernel
theorem d_Mod_enter_66 : decode b_Mod_enter 66 = .ok (.isub, 1) := by decide +kernel
theorem d_Mod_enter_67 : decode b_Mod_enter 67 = .ok (.iaload, 1) := by decide +kernel
theorem d_Mod_enter_68 : decode b_Mod_enter 68 = .ok (.i2l, 1) := by decide +kernel
theorem d_Mod_enter_69 : decode b_Mod_enter 69 = .ok (.aload_n 0, 1) := by decide +kernel
theorem d_Mod_enter_70 : decode b_Mod_enter 70 = .ok (.getfield 16, 3) := by decide +kernel
theorem d_Mod_enter_73 : decode b_Mod_enter 73 = .ok (.iload_n 1, 1) := by decide +kernel
theorem d_Mod_enter_74 : decode b_Mod_enter 74 = .ok (.iaload, 1) := by decide +kernel
theorem d_Mod_enter_75 : decode b_Mod_enter 75 = .ok (.i2l, 1) := by decide +kernel
theorem d_Mod_enter_76 : decode b_Mod_enter 76 = .ok (.lsub, 1) := by decide +kernel
theorem d_Mod_enter_77 : decode b_Mod_enter 77 = .ok (.lastore, 1) := by decide +kernel
theorem d_Mod_enter_78 : decode b_Mod_enter 78 = .ok (.aload_n 0, 1) := by decide +kernel
theorem d_Mod_enter_79 : decode b_Mod_enter 79 = .ok (.aload_n 0, 1) := by decide +kernel
theorem d_Mod_enter_80 : decode b_Mod_enter 80 = .ok (.getfield 71, 3) := by decide +kernel
theorem d_Mod_enter_83 : decode b_Mod_enter 83 = .ok (.aload_n 0, 1) := by decide +kernel
theorem d_Mod_enter_84 : decode b_Mod_enter 84 = .ok (.getfield 160, 3) := by decide +kernel
theorem d_Mod_enter_87 : decode b_Mod_enter 87 = .ok (.laload, 1) := by decide +kernel
theorem d_Mod_enter_88 : decode b_Mod_enter 88 = .ok (.invokevirtual 163, 3) := by decide +kernel
theorem d_Mod_enter_91 : decode b_Mod_enter 91 = .ok (.aload_n 0, 1) := by decide +kernel
theorem d_Mod_enter_92 : decode b_Mod_enter 92 = .ok (.dup, 1) := by decide +kernel
theorem d_Mod_enter_93 : decode b_Mod_enter 93 = .ok (.getfield 160, 3) := by decide +kernel
theorem d_Mod_enter_96 : decode b_Mod_enter 96 = .ok (.iconst 1, 1) := by decide +kernel
theorem d_Mod_enter_97 : decode b_Mod_enter 97 = .ok (.iadd, 1) := by decide +kernel
theorem d_Mod_enter_98 : decode b_Mod_enter 98 = .ok (.putfield 160, 3) := by decide +kernel
theorem d_Mod_enter_101 : decode b_Mod_enter 101 = .ok (.return_, 1) := by decide +kernel
theorem d_Mod_placeAll_0 : decode b_Mod_placeAll 0 = .ok (.aload_n 0, 1) := by decide +kernel
theorem d_Mod_placeAll_1 : decode b_Mod_placeAll 1 = .ok (.getfield 62, 3) := by decide +kernel
theorem d_Mod_placeAll_4 : decode b_Mod_placeAll 4 = .ok (.iconst 0, 1) := by decide +kernel
theorem d_Mod_placeAll_5 : decode b_Mod_placeAll 5 = .ok (.iconst 0, 1) := by decide +kernel
theorem d_Mod_placeAll_6 : decode b_Mod_placeAll 6 = .ok (.iastore, 1) := by decide +kernel
theorem d_Mod_placeAll_7 : decode b_Mod_placeAll 7 = .ok (.aload_n 0, 1) := by decide +kernel
theorem d_Mod_placeAll_8 : decode b_Mod_placeAll 8 = .ok (.getfield 65, 3) := by decide +kernel
theorem d_Mod_placeAll_11 : decode b_Mod_placeAll 11 = .ok (.iconst 0, 1) := by decide +kernel
theorem d_Mod_placeAll_12 : decode b_Mod_placeAll 12 = .ok (.aload_n 0, 1) := by decide +kernel
theorem d_Mod_placeAll_13 : decode b_Mod_placeAll 13 = .ok (.getfield 16, 3) := by decide +kernel
theorem d_Mod_placeAll_16 : decode b_Mod_placeAll 16 = .ok (.iload_n 1, 1) := by decide +kernel
theorem d_Mod_placeAll_17 : decode b_Mod_placeAll 17 = .ok (.iaload, 1) := by decide +kernel
theorem d_Mod_placeAll_18 : decode b_Mod_placeAll 18 = .ok (.iastore, 1) := by decide +kernel
theorem d_Mod_placeAll_19 : decode b_Mod_placeAll 19 = .ok (.aload_n 0, 1) := by decide +kernel
theorem d_Mod_placeAll_20 : decode b_Mod_placeAll 20 = .ok (.iconst 0, 1) := by decide +kernel
theorem d_Mod_placeAll_21 : decode b_Mod_placeAll 21 = .ok (.putfield 160, 3) := by decide +kernel
theorem d_Mod_placeAll_24 : decode b_Mod_placeAll 24 = .ok (.aload_n 0, 1) := by decide +kernel
theorem d_Mod_placeAll_25 : decode b_Mod_placeAll 25 = .ok (.iload_n 1, 1) := by decide +kernel
theorem d_Mod_placeAll_26 : decode b_Mod_placeAll 26 = .ok (.iload_n 1, 1) := by decide +kernel
theorem d_Mod_placeAll_27 : decode b_Mod_placeAll 27 = .ok (.invokevirtual 167, 3) := by decide +kernel
theorem d_Mod_placeAll_30 : decode b_Mod_placeAll 30 = .ok (.iload_n 1, 1) := by decide +kernel
