theorem d_Mod_writeRule_172 : decode b_Mod_writeRule 172 = .ok (.ifCond .eq 29, 3) := by decide +kernel
theorem d_Mod_writeRule_175 : decode b_Mod_writeRule 175 = .ok (.aload_n 0, 1) := by decide +kernel
theorem d_Mod_writeRule_176 : decode b_Mod_writeRule 176 = .ok (.aload_n 0, 1) := by decide +kernel
theorem d_Mod_writeRule_177 : decode b_Mod_writeRule 177 = .ok (.getfield 78, 3) := by decide +kernel
theorem d_Mod_writeRule_180 : decode b_Mod_writeRule 180 = .ok (.iconst 0, 1) := by decide +kernel
theorem d_Mod_writeRule_181 : decode b_Mod_writeRule 181 = .ok (.iaload, 1) := by decide +kernel
theorem d_Mod_writeRule_182 : decode b_Mod_writeRule 182 = .ok (.i2l, 1) := by decide +kernel
theorem d_Mod_writeRule_183 : decode b_Mod_writeRule 183 = .ok (.iload 5, 2) := by decide +kernel
theorem d_Mod_writeRule_185 : decode b_Mod_writeRule 185 = .ok (.i2l, 1) := by decide +kernel
theorem d_Mod_writeRule_186 : decode b_Mod_writeRule 186 = .ok (.ladd, 1) := by decide +kernel
theorem d_Mod_writeRule_187 : decode b_Mod_writeRule 187 = .ok (.invokevirtual 163, 3) := by decide +kernel
theorem d_Mod_writeRule_190 : decode b_Mod_writeRule 190 = .ok (.aload_n 0, 1) := by decide +kernel
theorem d_Mod_writeRule_191 : decode b_Mod_writeRule 191 = .ok (.getfield 78, 3) := by decide +kernel
theorem d_Mod_writeRule_194 : decode b_Mod_writeRule 194 = .ok (.iconst 0, 1) := by decide +kernel
theorem d_Mod_writeRule_195 : decode b_Mod_writeRule 195 = .ok (.dup2, 1) := by decide +kernel
theorem d_Mod_writeRule_196 : decode b_Mod_writeRule 196 = .ok (.iaload, 1) := by decide +kernel
theorem d_Mod_writeRule_197 : decode b_Mod_writeRule 197 = .ok (.iload 5, 2) := by decide +kernel
theorem d_Mod_writeRule_199 : decode b_Mod_writeRule 199 = .ok (.iadd, 1) := by decide +kernel
theorem d_Mod_writeRule_200 : decode b_Mod_writeRule 200 = .ok (.iastore, 1) := by decide +kernel
theorem d_Mod_writeRule_201 : decode b_Mod_writeRule 201 = .ok (.return_, 1) := by decide +kernel
theorem d_Mod_writeAll_0 : decode b_Mod_writeAll 0 = .ok (.aload_n 0, 1) := by decide +kernel
theorem d_Mod_writeAll_1 : decode b_Mod_writeAll 1 = .ok (.iconst 0, 1) := by decide +kernel
theorem d_Mod_writeAll_2 : decode b_Mod_writeAll 2 = .ok (.putfield 160, 3) := by decide +kernel
theorem d_Mod_writeAll_5 : decode b_Mod_writeAll 5 = .ok (.iload_n 1, 1) := by decide +kernel
theorem d_Mod_writeAll_6 : decode b_Mod_writeAll 6 = .ok (.istore_n 3, 1) := by decide +kernel
theorem d_Mod_writeAll_7 : decode b_Mod_writeAll 7 = .ok (.iload_n 1, 1) := by decide +kernel
theorem d_Mod_writeAll_8 : decode b_Mod_writeAll 8 = .ok (.istore 4, 2) := by decide +kernel
theorem d_Mod_writeAll_10 : decode b_Mod_writeAll 10 = .ok (.iload 4, 2) := by decide +kernel
theorem d_Mod_writeAll_12 : decode b_Mod_writeAll 12 = .ok (.iload_n 1, 1) := by decide +kernel
theorem d_Mod_writeAll_13 : decode b_Mod_writeAll 13 = .ok (.iload_n 2, 1) := by decide +kernel
theorem d_Mod_writeAll_14 : decode b_Mod_writeAll 14 = .ok (.iadd, 1) := by decide +kernel
theorem d_Mod_writeAll_15 : decode b_Mod_writeAll 15 = .ok (.if_icmp .ge 295, 3) := by decide +kernel
theorem d_Mod_writeAll_18 : decode b_Mod_writeAll 18 = .ok (.aload_n 0, 1) := by decide +kernel
theorem d_Mod_writeAll_19 : decode b_Mod_writeAll 19 = .ok (.getfield 156, 3) := by decide +kernel
theorem d_Mod_writeAll_22 : decode b_Mod_writeAll 22 = .ok (.ifCond .eq 288, 3) := by decide +kernel
theorem d_Mod_writeAll_25 : decode b_Mod_writeAll 25 = .ok (.aload_n 0, 1) := by decide +kernel
theorem d_Mod_writeAll_26 : decode b_Mod_writeAll 26 = .ok (.getfield 160, 3) := by decide +kernel
theorem d_Mod_writeAll_29 : decode b_Mod_writeAll 29 = .ok (.ifCond .le 26, 3) := by decide +kernel
theorem d_Mod_writeAll_32 : decode b_Mod_writeAll 32 = .ok (.aload_n 0, 1) := by decide +kernel
theorem d_Mod_writeAll_33 : decode b_Mod_writeAll 33 = .ok (.getfield 68, 3) := by decide +kernel
theorem d_Mod_writeAll_36 : decode b_Mod_writeAll 36 = .ok (.aload_n 0, 1) := by decide +kernel
theorem d_Mod_writeAll_37 : decode b_Mod_writeAll 37 = .ok (.getfield 160, 3) := by decide +kernel
theorem d_Mod_writeAll_40 : decode b_Mod_writeAll 40 = .ok (.iconst 1, 1) := by decide +kernel
theorem d_Mod_writeAll_41 : decode b_Mod_writeAll 41 = .ok (.isub, 1) := by decide +kernel
theorem d_Mod_writeAll_42 : decode b_Mod_writeAll 42 = .ok (.iaload, 1) := by decide +kernel
theorem d_Mod_writeAll_43 : decode b_Mod_writeAll 43 = .ok (.iload 4, 2) := by decide +kernel
theorem d_Mod_writeAll_45 : decode b_Mod_writeAll 45 = .ok (.if_icmp .gt 10, 3) := by decide +kernel
theorem d_Mod_writeAll_48 : decode b_Mod_writeAll 48 = .ok (.aload_n 0, 1) := by decide +kernel
theorem d_Mod_writeAll_49 : decode b_Mod_writeAll 49 = .ok (.invokevirtual 188, 3) := by decide +kernel
theorem d_Mod_writeAll_52 : decode b_Mod_writeAll 52 = .ok (.goto (-27), 3) := by decide +kernel
theorem d_Mod_writeAll_55 : decode b_Mod_writeAll 55 = .ok (.aload_n 0, 1) := by decide +kernel
theorem d_Mod_writeAll_56 : decode b_Mod_writeAll 56 = .ok (.iload 4, 2) := by decide +kernel
theorem d_Mod_writeAll_58 : decode b_Mod_writeAll 58 = .ok (.invokevirtual 116, 3) := by decide +kernel
theorem d_Mod_writeAll_61 : decode b_Mod_writeAll 61 = .ok (.ifCond .eq 140, 3) := by decide +kernel
theorem d_Mod_writeAll_64 : decode b_Mod_writeAll 64 = .ok (.aload_n 0, 1) := by decide +kernel
theorem d_Mod_writeAll_65 : decode b_Mod_writeAll 65 = .ok (.getfield 28, 3) := by decide +kernel
theorem d_Mod_writeAll_68 : decode b_Mod_writeAll 68 = .ok (.iload 4, 2) := by decide +kernel
theorem d_Mod_writeAll_70 : decode b_Mod_writeAll 70 = .ok (.iaload, 1) := by decide +kernel
theorem d_Mod_writeAll_71 : decode b_Mod_writeAll 71 = .ok (.iconst 1, 1) := by decide +kernel
theorem d_Mod_writeAll_72 : decode b_Mod_writeAll 72 = .ok (.if_icmp .le 129, 3) := by decide +kernel
theorem d_Mod_writeAll_75 : decode b_Mod_writeAll 75 = .ok (.aload_n 0, 1) := by decide +kernel
theorem d_Mod_writeAll_76 : decode b_Mod_writeAll 76 = .ok (.aload_n 0, 1) := by decide +kernel
theorem d_Mod_writeAll_77 : decode b_Mod_writeAll 77 = .ok (.getfield 62, 3) := by decide +kernel
theorem d_Mod_writeAll_80 : decode b_Mod_writeAll 80 = .ok (.iload 4, 2) := by decide +kernel
theorem d_Mod_writeAll_82 : decode b_Mod_writeAll 82 = .ok (.iload_n 1, 1) := by decide +kernel
theorem d_Mod_writeAll_83 : decode b_Mod_writeAll 83 = .ok (.isub, 1) := by decide +kernel
theorem d_Mod_writeAll_84 : decode b_Mod_writeAll 84 = .ok (.iaload, 1) := by decide +kernel
theorem d_Mod_writeAll_85 : decode b_Mod_writeAll 85 = .ok (.aload_n 0, 1) := by decide +kernel
theorem d_Mod_writeAll_86 : decode b_Mod_writeAll 86 = .ok (.getfield 65, 3) := by decide +kernel
theorem d_Mod_writeAll_89 : decode b_Mod_writeAll 89 = .ok (.iload 4, 2) := by decide +kernel
theorem d_Mod_writeAll_91 : decode b_Mod_writeAll 91 = .ok (.iload_n 1, 1) := by decide +kernel
theorem d_Mod_writeAll_92 : decode b_Mod_writeAll 92 = .ok (.isub, 1) := by decide +kernel
theorem d_Mod_writeAll_93 : decode b_Mod_writeAll 93 = .ok (.iaload, 1) := by decide +kernel
theorem d_Mod_writeAll_94 : decode b_Mod_writeAll 94 = .ok (.invokevirtual 185, 3) := by decide +kernel
theorem d_Mod_writeAll_97 : decode b_Mod_writeAll 97 = .ok (.iconst 0, 1) := by decide +kernel
theorem d_Mod_writeAll_98 : decode b_Mod_writeAll 98 = .ok (.istore 5, 2) := by decide +kernel
theorem d_Mod_writeAll_100 : decode b_Mod_writeAll 100 = .ok (.iload 5, 2) := by decide +kernel
theorem d_Mod_writeAll_102 : decode b_Mod_writeAll 102 = .ok (.bipush 8, 2) := by decide +kernel
theorem d_Mod_writeAll_104 : decode b_Mod_writeAll 104 = .ok (.if_icmp .ge 31, 3) := by decide +kernel
theorem d_Mod_writeAll_107 : decode b_Mod_writeAll 107 = .ok (.aload_n 0, 1) := by decide +kernel
theorem d_Mod_writeAll_108 : decode b_Mod_writeAll 108 = .ok (.getfield 75, 3) := by decide +kernel
theorem d_Mod_writeAll_111 : decode b_Mod_writeAll 111 = .ok (.bipush 8, 2) := by decide +kernel
theorem d_Mod_writeAll_113 : decode b_Mod_writeAll 113 = .ok (.aload_n 0, 1) := by decide +kernel
theorem d_Mod_writeAll_114 : decode b_Mod_writeAll 114 = .ok (.getfield 160, 3) := by decide +kernel
theorem d_Mod_writeAll_117 : decode b_Mod_writeAll 117 = .ok (.imul, 1) := by decide +kernel
theorem d_Mod_writeAll_118 : decode b_Mod_writeAll 118 = .ok (.iload 5, 2) := by decide +kernel
theorem d_Mod_writeAll_120 : decode b_Mod_writeAll 120 = .ok (.iadd, 1) := by decide +kernel
theorem d_Mod_writeAll_121 : decode b_Mod_writeAll 121 = .ok (.aload_n 0, 1) := by decide +kernel
theorem d_Mod_writeAll_122 : decode b_Mod_writeAll 122 = .ok (.getfield 78, 3) := by decide +kernel
theorem d_Mod_writeAll_125 : decode b_Mod_writeAll 125 = .ok (.iload 5, 2) := by decide +kernel
theorem d_Mod_writeAll_127 : decode b_Mod_writeAll 127 = .ok (.iaload, 1) := by decide +kernel
theorem d_Mod_writeAll_128 : decode b_Mod_writeAll 128 = .ok (.iastore, 1) := by decide +kernel
theorem d_Mod_writeAll_129 : decode b_Mod_writeAll 129 = .ok (.iinc 5 1, 3) := by decide +kernel
theorem d_Mod_writeAll_132 : decode b_Mod_writeAll 132 = .ok (.goto (-32), 3) := by decide +kernel
theorem d_Mod_writeAll_135 : decode b_Mod_writeAll 135 = .ok (.aload_n 0, 1) := by decide +kernel
theorem d_Mod_writeAll_136 : decode b_Mod_writeAll 136 = .ok (.getfield 68, 3) := by decide +kernel
theorem d_Mod_writeAll_139 : decode b_Mod_writeAll 139 = .ok (.aload_n 0, 1) := by decide +kernel
theorem d_Mod_writeAll_140 : decode b_Mod_writeAll 140 = .ok (.getfield 160, 3) := by decide +kernel
theorem d_Mod_writeAll_143 : decode b_Mod_writeAll 143 = .ok (.iload 4, 2) := by decide +kernel
theorem d_Mod_writeAll_145 : decode b_Mod_writeAll 145 = .ok (.aload_n 0, 1) := by decide +kernel
theorem d_Mod_writeAll_146 : decode b_Mod_writeAll 146 = .ok (.getfield 28, 3) := by decide +kernel
theorem d_Mod_writeAll_149 : decode b_Mod_writeAll 149 = .ok (.iload 4, 2) := by decide +kernel
theorem d_Mod_writeAll_151 : decode b_Mod_writeAll 151 = .ok (.iaload, 1) := by decide +kernel
theorem d_Mod_writeAll_152 : decode b_Mod_writeAll 152 = .ok (.iadd, 1) := by decide +kernel
theorem d_Mod_writeAll_153 : decode b_Mod_writeAll 153 = .ok (.iastore, 1) := by decide +kernel
theorem d_Mod_writeAll_154 : decode b_Mod_writeAll 154 = .ok (.aload_n 0, 1) := by decide +kernel
theorem d_Mod_writeAll_155 : decode b_Mod_writeAll 155 = .ok (.dup, 1) := by decide +kernel
theorem d_Mod_writeAll_156 : decode b_Mod_writeAll 156 = .ok (.getfield 160, 3) := by decide +kernel
theorem d_Mod_writeAll_159 : decode b_Mod_writeAll 159 = .ok (.iconst 1, 1) := by decide +kernel
theorem d_Mod_writeAll_160 : decode b_Mod_writeAll 160 = .ok (.iadd, 1) := by decide +kernel
theorem d_Mod_writeAll_161 : decode b_Mod_writeAll 161 = .ok (.putfield 160, 3) := by decide +kernel
theorem d_Mod_writeAll_164 : decode b_Mod_writeAll 164 = .ok (.aload_n 0, 1) := by decide +kernel
theorem d_Mod_writeAll_165 : decode b_Mod_writeAll 165 = .ok (.aload_n 0, 1) := by decide +kernel
theorem d_Mod_writeAll_166 : decode b_Mod_writeAll 166 = .ok (.getfield 160, 3) := by decide +kernel
theorem d_Mod_writeAll_169 : decode b_Mod_writeAll 169 = .ok (.aload_n 0, 1) := by decide +kernel
theorem d_Mod_writeAll_170 : decode b_Mod_writeAll 170 = .ok (.getfield 191, 3) := by decide +kernel
theorem d_Mod_writeAll_173 : decode b_Mod_writeAll 173 = .ok (.if_icmp .le 10, 3) := by decide +kernel
theorem d_Mod_writeAll_176 : decode b_Mod_writeAll 176 = .ok (.aload_n 0, 1) := by decide +kernel
theorem d_Mod_writeAll_177 : decode b_Mod_writeAll 177 = .ok (.getfield 160, 3) := by decide +kernel
theorem d_Mod_writeAll_180 : decode b_Mod_writeAll 180 = .ok (.goto 7, 3) := by decide +kernel
theorem d_Mod_writeAll_183 : decode b_Mod_writeAll 183 = .ok (.aload_n 0, 1) := by decide +kernel
theorem d_Mod_writeAll_184 : decode b_Mod_writeAll 184 = .ok (.getfield 191, 3) := by decide +kernel
theorem d_Mod_writeAll_187 : decode b_Mod_writeAll 187 = .ok (.putfield 191, 3) := by decide +kernel
theorem d_Mod_writeAll_190 : decode b_Mod_writeAll 190 = .ok (.aload_n 0, 1) := by decide +kernel
theorem d_Mod_writeAll_191 : decode b_Mod_writeAll 191 = .ok (.sipush 141, 3) := by decide +kernel
theorem d_Mod_writeAll_194 : decode b_Mod_writeAll 194 = .ok (.iconst 1, 1) := by decide +kernel
theorem d_Mod_writeAll_195 : decode b_Mod_writeAll 195 = .ok (.invokevirtual 149, 3) := by decide +kernel
theorem d_Mod_writeAll_198 : decode b_Mod_writeAll 198 = .ok (.goto 106, 3) := by decide +kernel
theorem d_Mod_writeAll_201 : decode b_Mod_writeAll 201 = .ok (.aload_n 0, 1) := by decide +kernel
theorem d_Mod_writeAll_202 : decode b_Mod_writeAll 202 = .ok (.getfield 7, 3) := by decide +kernel
theorem d_Mod_writeAll_205 : decode b_Mod_writeAll 205 = .ok (.iload 4, 2) := by decide +kernel
theorem d_Mod_writeAll_207 : decode b_Mod_writeAll 207 = .ok (.iaload, 1) := by decide +kernel
theorem d_Mod_writeAll_208 : decode b_Mod_writeAll 208 = .ok (.iconst 1, 1) := by decide +kernel
theorem d_Mod_writeAll_209 : decode b_Mod_writeAll 209 = .ok (.if_icmp .ne 70, 3) := by decide +kernel
theorem d_Mod_writeAll_212 : decode b_Mod_writeAll 212 = .ok (.aload_n 0, 1) := by decide +kernel
theorem d_Mod_writeAll_213 : decode b_Mod_writeAll 213 = .ok (.aload_n 0, 1) := by decide +kernel
theorem d_Mod_writeAll_214 : decode b_Mod_writeAll 214 = .ok (.getfield 62, 3) := by decide +kernel
theorem d_Mod_writeAll_217 : decode b_Mod_writeAll 217 = .ok (.iload 4, 2) := by decide +kernel
theorem d_Mod_writeAll_219 : decode b_Mod_writeAll 219 = .ok (.iload_n 1, 1) := by decide +kernel
theorem d_Mod_writeAll_220 : decode b_Mod_writeAll 220 = .ok (.isub, 1) := by decide +kernel
theorem d_Mod_writeAll_221 : decode b_Mod_writeAll 221 = .ok (.iaload, 1) := by decide +kernel
theorem d_Mod_writeAll_222 : decode b_Mod_writeAll 222 = .ok (.aload_n 0, 1) := by decide +kernel
theorem d_Mod_writeAll_223 : decode b_Mod_writeAll 223 = .ok (.getfield 65, 3) := by decide +kernel
theorem d_Mod_writeAll_226 : decode b_Mod_writeAll 226 = .ok (.iload 4, 2) := by decide +kernel
theorem d_Mod_writeAll_228 : decode b_Mod_writeAll 228 = .ok (.iload_n 1, 1) := by decide +kernel
theorem d_Mod_writeAll_229 : decode b_Mod_writeAll 229 = .ok (.isub, 1) := by decide +kernel
theorem d_Mod_writeAll_230 : decode b_Mod_writeAll 230 = .ok (.iaload, 1) := by decide +kernel
theorem d_Mod_writeAll_231 : decode b_Mod_writeAll 231 = .ok (.invokevirtual 185, 3) := by decide +kernel
theorem d_Mod_writeAll_234 : decode b_Mod_writeAll 234 = .ok (.aload_n 0, 1) := by decide +kernel
theorem d_Mod_writeAll_235 : decode b_Mod_writeAll 235 = .ok (.iload 4, 2) := by decide +kernel
theorem d_Mod_writeAll_237 : decode b_Mod_writeAll 237 = .ok (.invokevirtual 194, 3) := by decide +kernel
theorem d_Mod_writeAll_240 : decode b_Mod_writeAll 240 = .ok (.aload_n 0, 1) := by decide +kernel
theorem d_Mod_writeAll_241 : decode b_Mod_writeAll 241 = .ok (.aload_n 0, 1) := by decide +kernel
theorem d_Mod_writeAll_242 : decode b_Mod_writeAll 242 = .ok (.getfield 78, 3) := by decide +kernel
theorem d_Mod_writeAll_245 : decode b_Mod_writeAll 245 = .ok (.iconst 0, 1) := by decide +kernel
theorem d_Mod_writeAll_246 : decode b_Mod_writeAll 246 = .ok (.iaload, 1) := by decide +kernel
theorem d_Mod_writeAll_247 : decode b_Mod_writeAll 247 = .ok (.i2l, 1) := by decide +kernel
theorem d_Mod_writeAll_248 : decode b_Mod_writeAll 248 = .ok (.aload_n 0, 1) := by decide +kernel
theorem d_Mod_writeAll_249 : decode b_Mod_writeAll 249 = .ok (.getfield 13, 3) := by decide +kernel
theorem d_Mod_writeAll_252 : decode b_Mod_writeAll 252 = .ok (.iload 4, 2) := by decide +kernel
theorem d_Mod_writeAll_254 : decode b_Mod_writeAll 254 = .ok (.iaload, 1) := by decide +kernel
theorem d_Mod_writeAll_255 : decode b_Mod_writeAll 255 = .ok (.i2l, 1) := by decide +kernel
theorem d_Mod_writeAll_256 : decode b_Mod_writeAll 256 = .ok (.ladd, 1) := by decide +kernel
theorem d_Mod_writeAll_257 : decode b_Mod_writeAll 257 = .ok (.invokevirtual 163, 3) := by decide +kernel
theorem d_Mod_writeAll_260 : decode b_Mod_writeAll 260 = .ok (.aload_n 0, 1) := by decide +kernel
theorem d_Mod_writeAll_261 : decode b_Mod_writeAll 261 = .ok (.getfield 78, 3) := by decide +kernel
theorem d_Mod_writeAll_264 : decode b_Mod_writeAll 264 = .ok (.iconst 0, 1) := by decide +kernel
theorem d_Mod_writeAll_265 : decode b_Mod_writeAll 265 = .ok (.dup2, 1) := by decide +kernel
theorem d_Mod_writeAll_266 : decode b_Mod_writeAll 266 = .ok (.iaload, 1) := by decide +kernel
theorem d_Mod_writeAll_267 : decode b_Mod_writeAll 267 = .ok (.aload_n 0, 1) := by decide +kernel
theorem d_Mod_writeAll_268 : decode b_Mod_writeAll 268 = .ok (.getfield 13, 3) := by decide +kernel
theorem d_Mod_writeAll_271 : decode b_Mod_writeAll 271 = .ok (.iload 4, 2) := by decide +kernel
theorem d_Mod_writeAll_273 : decode b_Mod_writeAll 273 = .ok (.iaload, 1) := by decide +kernel
theorem d_Mod_writeAll_274 : decode b_Mod_writeAll 274 = .ok (.iadd, 1) := by decide +kernel
theorem d_Mod_writeAll_275 : decode b_Mod_writeAll 275 = .ok (.iastore, 1) := by decide +kernel
theorem d_Mod_writeAll_276 : decode b_Mod_writeAll 276 = .ok (.goto 28, 3) := by decide +kernel
theorem d_Mod_writeAll_279 : decode b_Mod_writeAll 279 = .ok (.aload_n 0, 1) := by decide +kernel
theorem d_Mod_writeAll_280 : decode b_Mod_writeAll 280 = .ok (.getfield 7, 3) := by decide +kernel
theorem d_Mod_writeAll_283 : decode b_Mod_writeAll 283 = .ok (.iload 4, 2) := by decide +kernel
theorem d_Mod_writeAll_285 : decode b_Mod_writeAll 285 = .ok (.iaload, 1) := by decide +kernel
theorem d_Mod_writeAll_286 : decode b_Mod_writeAll 286 = .ok (.iconst 2, 1) := by decide +kernel
theorem d_Mod_writeAll_287 : decode b_Mod_writeAll 287 = .ok (.if_icmp .ne 17, 3) := by decide +kernel
theorem d_Mod_writeAll_290 : decode b_Mod_writeAll 290 = .ok (.aload_n 0, 1) := by decide +kernel
theorem d_Mod_writeAll_291 : decode b_Mod_writeAll 291 = .ok (.iload 4, 2) := by decide +kernel
theorem d_Mod_writeAll_293 : decode b_Mod_writeAll 293 = .ok (.aload_n 0, 1) := by decide +kernel
theorem d_Mod_writeAll_294 : decode b_Mod_writeAll 294 = .ok (.iload 4, 2) := by decide +kernel
theorem d_Mod_writeAll_296 : decode b_Mod_writeAll 296 = .ok (.iload_n 1, 1) := by decide +kernel
theorem d_Mod_writeAll_297 : decode b_Mod_writeAll 297 = .ok (.invokevirtual 197, 3) := by decide +kernel
theorem d_Mod_writeAll_300 : decode b_Mod_writeAll 300 = .ok (.iload_n 1, 1) := by decide +kernel
theorem d_Mod_writeAll_301 : decode b_Mod_writeAll 301 = .ok (.invokevirtual 200, 3) := by decide +kernel
theorem d_Mod_writeAll_304 : decode b_Mod_writeAll 304 = .ok (.iinc 4 1, 3) := by decide +kernel
theorem d_Mod_writeAll_307 : decode b_Mod_writeAll 307 = .ok (.goto (-297), 3) := by decide +kernel
theorem d_Mod_writeAll_310 : decode b_Mod_writeAll 310 = .ok (.aload_n 0, 1) := by decide +kernel
theorem d_Mod_writeAll_311 : decode b_Mod_writeAll 311 = .ok (.getfield 160, 3) := by decide +kernel
theorem d_Mod_writeAll_314 : decode b_Mod_writeAll 314 = .ok (.ifCond .le 17, 3) := by decide +kernel
theorem d_Mod_writeAll_317 : decode b_Mod_writeAll 317 = .ok (.aload_n 0, 1) := by decide +kernel
theorem d_Mod_writeAll_318 : decode b_Mod_writeAll 318 = .ok (.getfield 156, 3) := by decide +kernel
theorem d_Mod_writeAll_321 : decode b_Mod_writeAll 321 = .ok (.ifCond .eq 10, 3) := by decide +kernel
theorem d_Mod_writeAll_324 : decode b_Mod_writeAll 324 = .ok (.aload_n 0, 1) := by decide +kernel
theorem d_Mod_writeAll_325 : decode b_Mod_writeAll 325 = .ok (.invokevirtual 188, 3) := by decide +kernel
theorem d_Mod_writeAll_328 : decode b_Mod_writeAll 328 = .ok (.goto (-18), 3) := by decide +kernel
theorem d_Mod_writeAll_331 : decode b_Mod_writeAll 331 = .ok (.return_, 1) := by decide +kernel
theorem d_Mod_boxOf_0 : decode b_Mod_boxOf 0 = .ok (.iload_n 2, 1) := by decide +kernel
theorem d_Mod_boxOf_1 : decode b_Mod_boxOf 1 = .ok (.istore_n 3, 1) := by decide +kernel
theorem d_Mod_boxOf_2 : decode b_Mod_boxOf 2 = .ok (.iload_n 2, 1) := by decide +kernel
theorem d_Mod_boxOf_3 : decode b_Mod_boxOf 3 = .ok (.istore 4, 2) := by decide +kernel
theorem d_Mod_boxOf_5 : decode b_Mod_boxOf 5 = .ok (.iload 4, 2) := by decide +kernel
theorem d_Mod_boxOf_7 : decode b_Mod_boxOf 7 = .ok (.iload_n 1, 1) := by decide +kernel
theorem d_Mod_boxOf_8 : decode b_Mod_boxOf 8 = .ok (.if_icmp .ge 39, 3) := by decide +kernel
theorem d_Mod_boxOf_11 : decode b_Mod_boxOf 11 = .ok (.aload_n 0, 1) := by decide +kernel
theorem d_Mod_boxOf_12 : decode b_Mod_boxOf 12 = .ok (.iload 4, 2) := by decide +kernel
theorem d_Mod_boxOf_14 : decode b_Mod_boxOf 14 = .ok (.invokevirtual 116, 3) := by decide +kernel
theorem d_Mod_boxOf_17 : decode b_Mod_boxOf 17 = .ok (.ifCond .eq 22, 3) := by decide +kernel
theorem d_Mod_boxOf_20 : decode b_Mod_boxOf 20 = .ok (.iload 4, 2) := by decide +kernel
theorem d_Mod_boxOf_22 : decode b_Mod_boxOf 22 = .ok (.aload_n 0, 1) := by decide +kernel
theorem d_Mod_boxOf_23 : decode b_Mod_boxOf 23 = .ok (.getfield 28, 3) := by decide +kernel
theorem d_Mod_boxOf_26 : decode b_Mod_boxOf 26 = .ok (.iload 4, 2) := by decide +kernel
theorem d_Mod_boxOf_28 : decode b_Mod_boxOf 28 = .ok (.iaload, 1) := by decide +kernel
theorem d_Mod_boxOf_29 : decode b_Mod_boxOf 29 = .ok (.iadd, 1) := by decide +kernel
theorem d_Mod_boxOf_30 : decode b_Mod_boxOf 30 = .ok (.iload_n 1, 1) := by decide +kernel
theorem d_Mod_boxOf_31 : decode b_Mod_boxOf 31 = .ok (.if_icmp .le 8, 3) := by decide +kernel
theorem d_Mod_boxOf_34 : decode b_Mod_boxOf 34 = .ok (.iload 4, 2) := by decide +kernel
theorem d_Mod_boxOf_36 : decode b_Mod_boxOf 36 = .ok (.goto 4, 3) := by decide +kernel
theorem d_Mod_boxOf_39 : decode b_Mod_boxOf 39 = .ok (.iload_n 3, 1) := by decide +kernel
theorem d_Mod_boxOf_40 : decode b_Mod_boxOf 40 = .ok (.istore_n 3, 1) := by decide +kernel
theorem d_Mod_boxOf_41 : decode b_Mod_boxOf 41 = .ok (.iinc 4 1, 3) := by decide +kernel
theorem d_Mod_boxOf_44 : decode b_Mod_boxOf 44 = .ok (.goto (-39), 3) := by decide +kernel
theorem d_Mod_boxOf_47 : decode b_Mod_boxOf 47 = .ok (.iload_n 3, 1) := by decide +kernel
theorem d_Mod_boxOf_48 : decode b_Mod_boxOf 48 = .ok (.ireturn, 1) := by decide +kernel
theorem d_Mod_ship_0 : decode b_Mod_ship 0 = .ok (.aload_n 0, 1) := by decide +kernel
theorem d_Mod_ship_1 : decode b_Mod_ship 1 = .ok (.aload_n 0, 1) := by decide +kernel
theorem d_Mod_ship_2 : decode b_Mod_ship 2 = .ok (.getfield 204, 3) := by decide +kernel
theorem d_Mod_ship_5 : decode b_Mod_ship 5 = .ok (.ifCond .ne 11, 3) := by decide +kernel
theorem d_Mod_ship_8 : decode b_Mod_ship 8 = .ok (.aload_n 0, 1) := by decide +kernel
theorem d_Mod_ship_9 : decode b_Mod_ship 9 = .ok (.iload_n 1, 1) := by decide +kernel
theorem d_Mod_ship_10 : decode b_Mod_ship 10 = .ok (.invokevirtual 142, 3) := by decide +kernel
theorem d_Mod_ship_13 : decode b_Mod_ship 13 = .ok (.ifCond .ne 7, 3) := by decide +kernel
theorem d_Mod_ship_16 : decode b_Mod_ship 16 = .ok (.iconst 1, 1) := by decide +kernel
theorem d_Mod_ship_17 : decode b_Mod_ship 17 = .ok (.goto 17, 3) := by decide +kernel
theorem d_Mod_ship_20 : decode b_Mod_ship 20 = .ok (.aload_n 0, 1) := by decide +kernel
theorem d_Mod_ship_21 : decode b_Mod_ship 21 = .ok (.getfield 145, 3) := by decide +kernel
theorem d_Mod_ship_24 : decode b_Mod_ship 24 = .ok (.ldc 207, 2) := by decide +kernel
theorem d_Mod_ship_26 : decode b_Mod_ship 26 = .ok (.if_icmp .lt 7, 3) := by decide +kernel
theorem d_Mod_ship_29 : decode b_Mod_ship 29 = .ok (.iconst 2, 1) := by decide +kernel
theorem d_Mod_ship_30 : decode b_Mod_ship 30 = .ok (.goto 4, 3) := by decide +kernel
theorem d_Mod_ship_33 : decode b_Mod_ship 33 = .ok (.iconst 0, 1) := by decide +kernel
theorem d_Mod_ship_34 : decode b_Mod_ship 34 = .ok (.putfield 81, 3) := by decide +kernel
theorem d_Mod_ship_37 : decode b_Mod_ship 37 = .ok (.aload_n 0, 1) := by decide +kernel
theorem d_Mod_ship_38 : decode b_Mod_ship 38 = .ok (.getfield 81, 3) := by decide +kernel
theorem d_Mod_ship_41 : decode b_Mod_ship 41 = .ok (.ifCond .le 5, 3) := by decide +kernel
theorem d_Mod_ship_44 : decode b_Mod_ship 44 = .ok (.iconst 0, 1) := by decide +kernel
theorem d_Mod_ship_45 : decode b_Mod_ship 45 = .ok (.ireturn, 1) := by decide +kernel
theorem d_Mod_ship_46 : decode b_Mod_ship 46 = .ok (.aload_n 0, 1) := by decide +kernel
theorem d_Mod_ship_47 : decode b_Mod_ship 47 = .ok (.getfield 145, 3) := by decide +kernel
theorem d_Mod_ship_50 : decode b_Mod_ship 50 = .ok (.istore_n 2, 1) := by decide +kernel
theorem d_Mod_ship_51 : decode b_Mod_ship 51 = .ok (.aload_n 0, 1) := by decide +kernel
theorem d_Mod_ship_52 : decode b_Mod_ship 52 = .ok (.getfield 191, 3) := by decide +kernel
theorem d_Mod_ship_55 : decode b_Mod_ship 55 = .ok (.istore_n 3, 1) := by decide +kernel
theorem d_Mod_ship_56 : decode b_Mod_ship 56 = .ok (.iconst 0, 1) := by decide +kernel
theorem d_Mod_ship_57 : decode b_Mod_ship 57 = .ok (.istore 4, 2) := by decide +kernel
theorem d_Mod_ship_59 : decode b_Mod_ship 59 = .ok (.iload 4, 2) := by decide +kernel
theorem d_Mod_ship_61 : decode b_Mod_ship 61 = .ok (.bipush 32, 2) := by decide +kernel
theorem d_Mod_ship_63 : decode b_Mod_ship 63 = .ok (.if_icmp .ge 23, 3) := by decide +kernel
theorem d_Mod_ship_66 : decode b_Mod_ship 66 = .ok (.aload_n 0, 1) := by decide +kernel
theorem d_Mod_ship_67 : decode b_Mod_ship 67 = .ok (.getfield 50, 3) := by decide +kernel
theorem d_Mod_ship_70 : decode b_Mod_ship 70 = .ok (.iload 4, 2) := by decide +kernel
theorem d_Mod_ship_72 : decode b_Mod_ship 72 = .ok (.aload_n 0, 1) := by decide +kernel
theorem d_Mod_ship_73 : decode b_Mod_ship 73 = .ok (.getfield 47, 3) := by decide +kernel
theorem d_Mod_ship_76 : decode b_Mod_ship 76 = .ok (.iload 4, 2) := by decide +kernel
theorem d_Mod_ship_78 : decode b_Mod_ship 78 = .ok (.baload, 1) := by decide +kernel
theorem d_Mod_ship_79 : decode b_Mod_ship 79 = .ok (.bastore, 1) := by decide +kernel
theorem d_Mod_ship_80 : decode b_Mod_ship 80 = .ok (.iinc 4 1, 3) := by decide +kernel
theorem d_Mod_ship_83 : decode b_Mod_ship 83 = .ok (.goto (-24), 3) := by decide +kernel
theorem d_Mod_ship_86 : decode b_Mod_ship 86 = .ok (.aload_n 0, 1) := by decide +kernel
theorem d_Mod_ship_87 : decode b_Mod_ship 87 = .ok (.iload_n 1, 1) := by decide +kernel
theorem d_Mod_ship_88 : decode b_Mod_ship 88 = .ok (.invokevirtual 119, 3) := by decide +kernel
theorem d_Mod_ship_91 : decode b_Mod_ship 91 = .ok (.istore 4, 2) := by decide +kernel
theorem d_Mod_ship_93 : decode b_Mod_ship 93 = .ok (.aload_n 0, 1) := by decide +kernel
theorem d_Mod_ship_94 : decode b_Mod_ship 94 = .ok (.getfield 38, 3) := by decide +kernel
theorem d_Mod_ship_97 : decode b_Mod_ship 97 = .ok (.iload_n 1, 1) := by decide +kernel
theorem d_Mod_ship_98 : decode b_Mod_ship 98 = .ok (.iaload, 1) := by decide +kernel
theorem d_Mod_ship_99 : decode b_Mod_ship 99 = .ok (.istore 5, 2) := by decide +kernel
theorem d_Mod_ship_101 : decode b_Mod_ship 101 = .ok (.aload_n 0, 1) := by decide +kernel
theorem d_Mod_ship_102 : decode b_Mod_ship 102 = .ok (.iconst 1, 1) := by decide +kernel
theorem d_Mod_ship_103 : decode b_Mod_ship 103 = .ok (.putfield 156, 3) := by decide +kernel
theorem d_Mod_ship_106 : decode b_Mod_ship 106 = .ok (.aload_n 0, 1) := by decide +kernel
theorem d_Mod_ship_107 : decode b_Mod_ship 107 = .ok (.iload 4, 2) := by decide +kernel
theorem d_Mod_ship_109 : decode b_Mod_ship 109 = .ok (.iload 5, 2) := by decide +kernel
theorem d_Mod_ship_111 : decode b_Mod_ship 111 = .ok (.invokevirtual 208, 3) := by decide +kernel
theorem d_Mod_ship_114 : decode b_Mod_ship 114 = .ok (.aload_n 0, 1) := by decide +kernel
theorem d_Mod_ship_115 : decode b_Mod_ship 115 = .ok (.invokevirtual 211, 3) := by decide +kernel
theorem d_Mod_ship_118 : decode b_Mod_ship 118 = .ok (.aload_n 0, 1) := by decide +kernel
theorem d_Mod_ship_119 : decode b_Mod_ship 119 = .ok (.getfield 145, 3) := by decide +kernel
theorem d_Mod_ship_122 : decode b_Mod_ship 122 = .ok (.istore 6, 2) := by decide +kernel
theorem d_Mod_ship_124 : decode b_Mod_ship 124 = .ok (.aload_n 0, 1) := by decide +kernel
theorem d_Mod_ship_125 : decode b_Mod_ship 125 = .ok (.sipush 139, 3) := by decide +kernel
theorem d_Mod_ship_128 : decode b_Mod_ship 128 = .ok (.iconst 1, 1) := by decide +kernel
theorem d_Mod_ship_129 : decode b_Mod_ship 129 = .ok (.invokevirtual 149, 3) := by decide +kernel
theorem d_Mod_ship_132 : decode b_Mod_ship 132 = .ok (.aload_n 0, 1) := by decide +kernel
theorem d_Mod_ship_133 : decode b_Mod_ship 133 = .ok (.aload_n 0, 1) := by decide +kernel
theorem d_Mod_ship_134 : decode b_Mod_ship 134 = .ok (.getfield 214, 3) := by decide +kernel
theorem d_Mod_ship_137 : decode b_Mod_ship 137 = .ok (.iconst 1, 1) := by decide +kernel
theorem d_Mod_ship_138 : decode b_Mod_ship 138 = .ok (.iadd, 1) := by decide +kernel
theorem d_Mod_ship_139 : decode b_Mod_ship 139 = .ok (.iconst 4, 1) := by decide +kernel
theorem d_Mod_ship_140 : decode b_Mod_ship 140 = .ok (.invokevirtual 149, 3) := by decide +kernel
theorem d_Mod_ship_143 : decode b_Mod_ship 143 = .ok (.iconst 0, 1) := by decide +kernel
theorem d_Mod_ship_144 : decode b_Mod_ship 144 = .ok (.istore 7, 2) := by decide +kernel
theorem d_Mod_ship_146 : decode b_Mod_ship 146 = .ok (.iload 7, 2) := by decide +kernel
theorem d_Mod_ship_148 : decode b_Mod_ship 148 = .ok (.bipush 9, 2) := by decide +kernel
theorem d_Mod_ship_150 : decode b_Mod_ship 150 = .ok (.if_icmp .ge 15, 3) := by decide +kernel
theorem d_Mod_ship_153 : decode b_Mod_ship 153 = .ok (.aload_n 0, 1) := by decide +kernel
theorem d_Mod_ship_154 : decode b_Mod_ship 154 = .ok (.iconst 0, 1) := by decide +kernel
theorem d_Mod_ship_155 : decode b_Mod_ship 155 = .ok (.iconst 4, 1) := by decide +kernel
theorem d_Mod_ship_156 : decode b_Mod_ship 156 = .ok (.invokevirtual 149, 3) := by decide +kernel
theorem d_Mod_ship_159 : decode b_Mod_ship 159 = .ok (.iinc 7 1, 3) := by decide +kernel
theorem d_Mod_ship_162 : decode b_Mod_ship 162 = .ok (.goto (-16), 3) := by decide +kernel
theorem d_Mod_ship_165 : decode b_Mod_ship 165 = .ok (.aload_n 0, 1) := by decide +kernel
theorem d_Mod_ship_166 : decode b_Mod_ship 166 = .ok (.aload_n 0, 1) := by decide +kernel
theorem d_Mod_ship_167 : decode b_Mod_ship 167 = .ok (.getfield 58, 3) := by decide +kernel
theorem d_Mod_ship_170 : decode b_Mod_ship 170 = .ok (.iconst 4, 1) := by decide +kernel
theorem d_Mod_ship_171 : decode b_Mod_ship 171 = .ok (.invokevirtual 149, 3) := by decide +kernel
theorem d_Mod_ship_174 : decode b_Mod_ship 174 = .ok (.iconst 0, 1) := by decide +kernel
theorem d_Mod_ship_175 : decode b_Mod_ship 175 = .ok (.istore 7, 2) := by decide +kernel
theorem d_Mod_ship_177 : decode b_Mod_ship 177 = .ok (.iload 7, 2) := by decide +kernel
theorem d_Mod_ship_179 : decode b_Mod_ship 179 = .ok (.bipush 8, 2) := by decide +kernel
theorem d_Mod_ship_181 : decode b_Mod_ship 181 = .ok (.if_icmp .ge 17, 3) := by decide +kernel
theorem d_Mod_ship_184 : decode b_Mod_ship 184 = .ok (.aload_n 0, 1) := by decide +kernel
theorem d_Mod_ship_185 : decode b_Mod_ship 185 = .ok (.getfield 78, 3) := by decide +kernel
theorem d_Mod_ship_188 : decode b_Mod_ship 188 = .ok (.iload 7, 2) := by decide +kernel
theorem d_Mod_ship_190 : decode b_Mod_ship 190 = .ok (.iconst 0, 1) := by decide +kernel
theorem d_Mod_ship_191 : decode b_Mod_ship 191 = .ok (.iastore, 1) := by decide +kernel
theorem d_Mod_ship_192 : decode b_Mod_ship 192 = .ok (.iinc 7 1, 3) := by decide +kernel
theorem d_Mod_ship_195 : decode b_Mod_ship 195 = .ok (.goto (-18), 3) := by decide +kernel
theorem d_Mod_ship_198 : decode b_Mod_ship 198 = .ok (.aload_n 0, 1) := by decide +kernel
theorem d_Mod_ship_199 : decode b_Mod_ship 199 = .ok (.iconst (-1), 1) := by decide +kernel
theorem d_Mod_ship_200 : decode b_Mod_ship 200 = .ok (.putfield 182, 3) := by decide +kernel
theorem d_Mod_ship_203 : decode b_Mod_ship 203 = .ok (.aload_n 0, 1) := by decide +kernel
theorem d_Mod_ship_204 : decode b_Mod_ship 204 = .ok (.getfield 156, 3) := by decide +kernel
theorem d_Mod_ship_207 : decode b_Mod_ship 207 = .ok (.ifCond .eq 11, 3) := by decide +kernel
theorem d_Mod_ship_210 : decode b_Mod_ship 210 = .ok (.aload_n 0, 1) := by decide +kernel
theorem d_Mod_ship_211 : decode b_Mod_ship 211 = .ok (.iload 4, 2) := by decide +kernel
theorem d_Mod_ship_213 : decode b_Mod_ship 213 = .ok (.iload 5, 2) := by decide +kernel
theorem d_Mod_ship_215 : decode b_Mod_ship 215 = .ok (.invokevirtual 217, 3) := by decide +kernel
theorem d_Mod_ship_218 : decode b_Mod_ship 218 = .ok (.aload_n 0, 1) := by decide +kernel
theorem d_Mod_ship_219 : decode b_Mod_ship 219 = .ok (.sipush 140, 3) := by decide +kernel
theorem d_Mod_ship_222 : decode b_Mod_ship 222 = .ok (.iconst 1, 1) := by decide +kernel
theorem d_Mod_ship_223 : decode b_Mod_ship 223 = .ok (.invokevirtual 149, 3) := by decide +kernel
theorem d_Mod_ship_226 : decode b_Mod_ship 226 = .ok (.aload_n 0, 1) := by decide +kernel
theorem d_Mod_ship_227 : decode b_Mod_ship 227 = .ok (.getfield 156, 3) := by decide +kernel
theorem d_Mod_ship_230 : decode b_Mod_ship 230 = .ok (.ifCond .eq 96, 3) := by decide +kernel
theorem d_Mod_ship_233 : decode b_Mod_ship 233 = .ok (.aload_n 0, 1) := by decide +kernel
theorem d_Mod_ship_234 : decode b_Mod_ship 234 = .ok (.dup, 1) := by decide +kernel
theorem d_Mod_ship_235 : decode b_Mod_ship 235 = .ok (.getfield 214, 3) := by decide +kernel
theorem d_Mod_ship_238 : decode b_Mod_ship 238 = .ok (.iconst 1, 1) := by decide +kernel
theorem d_Mod_ship_239 : decode b_Mod_ship 239 = .ok (.iadd, 1) := by decide +kernel
theorem d_Mod_ship_240 : decode b_Mod_ship 240 = .ok (.putfield 214, 3) := by decide +kernel
theorem d_Mod_ship_243 : decode b_Mod_ship 243 = .ok (.aload_n 0, 1) := by decide +kernel
theorem d_Mod_ship_244 : decode b_Mod_ship 244 = .ok (.iload 6, 2) := by decide +kernel
theorem d_Mod_ship_246 : decode b_Mod_ship 246 = .ok (.putfield 58, 3) := by decide +kernel
theorem d_Mod_ship_249 : decode b_Mod_ship 249 = .ok (.aload_n 0, 1) := by decide +kernel
theorem d_Mod_ship_250 : decode b_Mod_ship 250 = .ok (.getfield 16, 3) := by decide +kernel
theorem d_Mod_ship_253 : decode b_Mod_ship 253 = .ok (.iload 4, 2) := by decide +kernel
theorem d_Mod_ship_255 : decode b_Mod_ship 255 = .ok (.iaload, 1) := by decide +kernel
theorem d_Mod_ship_256 : decode b_Mod_ship 256 = .ok (.i2l, 1) := by decide +kernel
theorem d_Mod_ship_257 : decode b_Mod_ship 257 = .ok (.aload_n 0, 1) := by decide +kernel
theorem d_Mod_ship_258 : decode b_Mod_ship 258 = .ok (.getfield 19, 3) := by decide +kernel
theorem d_Mod_ship_261 : decode b_Mod_ship 261 = .ok (.iload 4, 2) := by decide +kernel
theorem d_Mod_ship_263 : decode b_Mod_ship 263 = .ok (.iaload, 1) := by decide +kernel
theorem d_Mod_ship_264 : decode b_Mod_ship 264 = .ok (.i2l, 1) := by decide +kernel
theorem d_Mod_ship_265 : decode b_Mod_ship 265 = .ok (.ladd, 1) := by decide +kernel
theorem d_Mod_ship_266 : decode b_Mod_ship 266 = .ok (.lstore 7, 2) := by decide +kernel
theorem d_Mod_ship_268 : decode b_Mod_ship 268 = .ok (.aload_n 0, 1) := by decide +kernel
theorem d_Mod_ship_269 : decode b_Mod_ship 269 = .ok (.lload 7, 2) := by decide +kernel
theorem d_Mod_ship_271 : decode b_Mod_ship 271 = .ok (.aload_n 0, 1) := by decide +kernel
theorem d_Mod_ship_272 : decode b_Mod_ship 272 = .ok (.getfield 220, 3) := by decide +kernel
theorem d_Mod_ship_275 : decode b_Mod_ship 275 = .ok (.lcmp, 1) := by decide +kernel
theorem d_Mod_ship_276 : decode b_Mod_ship 276 = .ok (.ifCond .le 8, 3) := by decide +kernel
theorem d_Mod_ship_279 : decode b_Mod_ship 279 = .ok (.lload 7, 2) := by decide +kernel
theorem d_Mod_ship_281 : decode b_Mod_ship 281 = .ok (.goto 7, 3) := by decide +kernel
theorem d_Mod_ship_284 : decode b_Mod_ship 284 = .ok (.aload_n 0, 1) := by decide +kernel
theorem d_Mod_ship_285 : decode b_Mod_ship 285 = .ok (.getfield 220, 3) := by decide +kernel
theorem d_Mod_ship_288 : decode b_Mod_ship 288 = .ok (.putfield 220, 3) := by decide +kernel
theorem d_Mod_ship_291 : decode b_Mod_ship 291 = .ok (.aload_n 0, 1) := by decide +kernel
theorem d_Mod_ship_292 : decode b_Mod_ship 292 = .ok (.aload_n 0, 1) := by decide +kernel
theorem d_Mod_ship_293 : decode b_Mod_ship 293 = .ok (.getfield 13, 3) := by decide +kernel
theorem d_Mod_ship_296 : decode b_Mod_ship 296 = .ok (.iload 4, 2) := by decide +kernel
theorem d_Mod_ship_298 : decode b_Mod_ship 298 = .ok (.iaload, 1) := by decide +kernel
theorem d_Mod_ship_299 : decode b_Mod_ship 299 = .ok (.aload_n 0, 1) := by decide +kernel
theorem d_Mod_ship_300 : decode b_Mod_ship 300 = .ok (.getfield 224, 3) := by decide +kernel
theorem d_Mod_ship_303 : decode b_Mod_ship 303 = .ok (.if_icmp .le 13, 3) := by decide +kernel
theorem d_Mod_ship_306 : decode b_Mod_ship 306 = .ok (.aload_n 0, 1) := by decide +kernel
theorem d_Mod_ship_307 : decode b_Mod_ship 307 = .ok (.getfield 13, 3) := by decide +kernel
theorem d_Mod_ship_310 : decode b_Mod_ship 310 = .ok (.iload 4, 2) := by decide +kernel
theorem d_Mod_ship_312 : decode b_Mod_ship 312 = .ok (.iaload, 1) := by decide +kernel
theorem d_Mod_ship_313 : decode b_Mod_ship 313 = .ok (.goto 7, 3) := by decide +kernel
theorem d_Mod_ship_316 : decode b_Mod_ship 316 = .ok (.aload_n 0, 1) := by decide +kernel
theorem d_Mod_ship_317 : decode b_Mod_ship 317 = .ok (.getfield 224, 3) := by decide +kernel
theorem d_Mod_ship_320 : decode b_Mod_ship 320 = .ok (.putfield 224, 3) := by decide +kernel
theorem d_Mod_ship_323 : decode b_Mod_ship 323 = .ok (.goto 48, 3) := by decide +kernel
theorem d_Mod_ship_326 : decode b_Mod_ship 326 = .ok (.aload_n 0, 1) := by decide +kernel
theorem d_Mod_ship_327 : decode b_Mod_ship 327 = .ok (.iconst 2, 1) := by decide +kernel
theorem d_Mod_ship_328 : decode b_Mod_ship 328 = .ok (.putfield 81, 3) := by decide +kernel
theorem d_Mod_ship_331 : decode b_Mod_ship 331 = .ok (.aload_n 0, 1) := by decide +kernel
theorem d_Mod_ship_332 : decode b_Mod_ship 332 = .ok (.iload_n 2, 1) := by decide +kernel
theorem d_Mod_ship_333 : decode b_Mod_ship 333 = .ok (.putfield 145, 3) := by decide +kernel
theorem d_Mod_ship_336 : decode b_Mod_ship 336 = .ok (.aload_n 0, 1) := by decide +kernel
theorem d_Mod_ship_337 : decode b_Mod_ship 337 = .ok (.iload_n 3, 1) := by decide +kernel
theorem d_Mod_ship_338 : decode b_Mod_ship 338 = .ok (.putfield 191, 3) := by decide +kernel
theorem d_Mod_ship_341 : decode b_Mod_ship 341 = .ok (.iconst 0, 1) := by decide +kernel
theorem d_Mod_ship_342 : decode b_Mod_ship 342 = .ok (.istore 7, 2) := by decide +kernel
theorem d_Mod_ship_344 : decode b_Mod_ship 344 = .ok (.iload 7, 2) := by decide +kernel
theorem d_Mod_ship_346 : decode b_Mod_ship 346 = .ok (.bipush 32, 2) := by decide +kernel
theorem d_Mod_ship_348 : decode b_Mod_ship 348 = .ok (.if_icmp .ge 23, 3) := by decide +kernel
theorem d_Mod_ship_351 : decode b_Mod_ship 351 = .ok (.aload_n 0, 1) := by decide +kernel
theorem d_Mod_ship_352 : decode b_Mod_ship 352 = .ok (.getfield 47, 3) := by decide +kernel
theorem d_Mod_ship_355 : decode b_Mod_ship 355 = .ok (.iload 7, 2) := by decide +kernel
theorem d_Mod_ship_357 : decode b_Mod_ship 357 = .ok (.aload_n 0, 1) := by decide +kernel
theorem d_Mod_ship_358 : decode b_Mod_ship 358 = .ok (.getfield 50, 3) := by decide +kernel
theorem d_Mod_ship_361 : decode b_Mod_ship 361 = .ok (.iload 7, 2) := by decide +kernel
theorem d_Mod_ship_363 : decode b_Mod_ship 363 = .ok (.baload, 1) := by decide +kernel
theorem d_Mod_ship_364 : decode b_Mod_ship 364 = .ok (.bastore, 1) := by decide +kernel
theorem d_Mod_ship_365 : decode b_Mod_ship 365 = .ok (.iinc 7 1, 3) := by decide +kernel
theorem d_Mod_ship_368 : decode b_Mod_ship 368 = .ok (.goto (-24), 3) := by decide +kernel
theorem d_Mod_ship_371 : decode b_Mod_ship 371 = .ok (.aload_n 0, 1) := by decide +kernel
theorem d_Mod_ship_372 : decode b_Mod_ship 372 = .ok (.iload_n 1, 1) := by decide +kernel
theorem d_Mod_ship_373 : decode b_Mod_ship 373 = .ok (.invokevirtual 135, 3) := by decide +kernel
theorem d_Mod_ship_376 : decode b_Mod_ship 376 = .ok (.aload_n 0, 1) := by decide +kernel
theorem d_Mod_ship_377 : decode b_Mod_ship 377 = .ok (.getfield 81, 3) := by decide +kernel
theorem d_Mod_ship_380 : decode b_Mod_ship 380 = .ok (.ifCond .le 7, 3) := by decide +kernel
theorem d_Mod_ship_383 : decode b_Mod_ship 383 = .ok (.iconst 0, 1) := by decide +kernel
theorem d_Mod_ship_384 : decode b_Mod_ship 384 = .ok (.goto 7, 3) := by decide +kernel
theorem d_Mod_ship_387 : decode b_Mod_ship 387 = .ok (.aload_n 0, 1) := by decide +kernel
theorem d_Mod_ship_388 : decode b_Mod_ship 388 = .ok (.getfield 145, 3) := by decide +kernel
theorem d_Mod_ship_391 : decode b_Mod_ship 391 = .ok (.ireturn, 1) := by decide +kernel
theorem d_Mod_finish_0 : decode b_Mod_finish 0 = .ok (.aload_n 0, 1) := by decide +kernel
theorem d_Mod_finish_1 : decode b_Mod_finish 1 = .ok (.aload_n 0, 1) := by decide +kernel
theorem d_Mod_finish_2 : decode b_Mod_finish 2 = .ok (.getfield 204, 3) := by decide +kernel
theorem d_Mod_finish_5 : decode b_Mod_finish 5 = .ok (.ifCond .eq 7, 3) := by decide +kernel
theorem d_Mod_finish_8 : decode b_Mod_finish 8 = .ok (.iconst 1, 1) := by decide +kernel
theorem d_Mod_finish_9 : decode b_Mod_finish 9 = .ok (.goto 4, 3) := by decide +kernel
theorem d_Mod_finish_12 : decode b_Mod_finish 12 = .ok (.iconst 0, 1) := by decide +kernel
theorem d_Mod_finish_13 : decode b_Mod_finish 13 = .ok (.putfield 81, 3) := by decide +kernel
theorem d_Mod_finish_16 : decode b_Mod_finish 16 = .ok (.aload_n 0, 1) := by decide +kernel
theorem d_Mod_finish_17 : decode b_Mod_finish 17 = .ok (.getfield 204, 3) := by decide +kernel
theorem d_Mod_finish_20 : decode b_Mod_finish 20 = .ok (.ifCond .eq 5, 3) := by decide +kernel
theorem d_Mod_finish_23 : decode b_Mod_finish 23 = .ok (.iconst 0, 1) := by decide +kernel
theorem d_Mod_finish_24 : decode b_Mod_finish 24 = .ok (.ireturn, 1) := by decide +kernel
theorem d_Mod_finish_25 : decode b_Mod_finish 25 = .ok (.aload_n 0, 1) := by decide +kernel
theorem d_Mod_finish_26 : decode b_Mod_finish 26 = .ok (.invokevirtual 211, 3) := by decide +kernel
theorem d_Mod_finish_29 : decode b_Mod_finish 29 = .ok (.aload_n 0, 1) := by decide +kernel
theorem d_Mod_finish_30 : decode b_Mod_finish 30 = .ok (.getfield 145, 3) := by decide +kernel
theorem d_Mod_finish_33 : decode b_Mod_finish 33 = .ok (.istore_n 1, 1) := by decide +kernel
theorem d_Mod_finish_34 : decode b_Mod_finish 34 = .ok (.aload_n 0, 1) := by decide +kernel
theorem d_Mod_finish_35 : decode b_Mod_finish 35 = .ok (.sipush 248, 3) := by decide +kernel
theorem d_Mod_finish_38 : decode b_Mod_finish 38 = .ok (.iconst 1, 1) := by decide +kernel
theorem d_Mod_finish_39 : decode b_Mod_finish 39 = .ok (.invokevirtual 149, 3) := by decide +kernel
theorem d_Mod_finish_42 : decode b_Mod_finish 42 = .ok (.aload_n 0, 1) := by decide +kernel
theorem d_Mod_finish_43 : decode b_Mod_finish 43 = .ok (.aload_n 0, 1) := by decide +kernel
theorem d_Mod_finish_44 : decode b_Mod_finish 44 = .ok (.getfield 58, 3) := by decide +kernel
theorem d_Mod_finish_47 : decode b_Mod_finish 47 = .ok (.iconst 4, 1) := by decide +kernel
theorem d_Mod_finish_48 : decode b_Mod_finish 48 = .ok (.invokevirtual 149, 3) := by decide +kernel
theorem d_Mod_finish_51 : decode b_Mod_finish 51 = .ok (.aload_n 0, 1) := by decide +kernel
theorem d_Mod_finish_52 : decode b_Mod_finish 52 = .ok (.invokevirtual 153, 3) := by decide +kernel
theorem d_Mod_finish_55 : decode b_Mod_finish 55 = .ok (.aload_n 0, 1) := by decide +kernel
theorem d_Mod_finish_56 : decode b_Mod_finish 56 = .ok (.aload_n 0, 1) := by decide +kernel
theorem d_Mod_finish_57 : decode b_Mod_finish 57 = .ok (.getfield 220, 3) := by decide +kernel
theorem d_Mod_finish_60 : decode b_Mod_finish 60 = .ok (.l2i, 1) := by decide +kernel
theorem d_Mod_finish_61 : decode b_Mod_finish 61 = .ok (.iconst 4, 1) := by decide +kernel
theorem d_Mod_finish_62 : decode b_Mod_finish 62 = .ok (.invokevirtual 149, 3) := by decide +kernel
theorem d_Mod_finish_65 : decode b_Mod_finish 65 = .ok (.aload_n 0, 1) := by decide +kernel
theorem d_Mod_finish_66 : decode b_Mod_finish 66 = .ok (.aload_n 0, 1) := by decide +kernel
theorem d_Mod_finish_67 : decode b_Mod_finish 67 = .ok (.getfield 224, 3) := by decide +kernel
theorem d_Mod_finish_70 : decode b_Mod_finish 70 = .ok (.iconst 4, 1) := by decide +kernel
theorem d_Mod_finish_71 : decode b_Mod_finish 71 = .ok (.invokevirtual 149, 3) := by decide +kernel
theorem d_Mod_finish_74 : decode b_Mod_finish 74 = .ok (.aload_n 0, 1) := by decide +kernel
theorem d_Mod_finish_75 : decode b_Mod_finish 75 = .ok (.aload_n 0, 1) := by decide +kernel
theorem d_Mod_finish_76 : decode b_Mod_finish 76 = .ok (.getfield 191, 3) := by decide +kernel
theorem d_Mod_finish_79 : decode b_Mod_finish 79 = .ok (.iconst 2, 1) := by decide +kernel
theorem d_Mod_finish_80 : decode b_Mod_finish 80 = .ok (.invokevirtual 149, 3) := by decide +kernel
theorem d_Mod_finish_83 : decode b_Mod_finish 83 = .ok (.aload_n 0, 1) := by decide +kernel
theorem d_Mod_finish_84 : decode b_Mod_finish 84 = .ok (.aload_n 0, 1) := by decide +kernel
theorem d_Mod_finish_85 : decode b_Mod_finish 85 = .ok (.getfield 214, 3) := by decide +kernel
theorem d_Mod_finish_88 : decode b_Mod_finish 88 = .ok (.iconst 2, 1) := by decide +kernel
theorem d_Mod_finish_89 : decode b_Mod_finish 89 = .ok (.invokevirtual 149, 3) := by decide +kernel
theorem d_Mod_finish_92 : decode b_Mod_finish 92 = .ok (.bipush 31, 2) := by decide +kernel
theorem d_Mod_finish_94 : decode b_Mod_finish 94 = .ok (.istore_n 2, 1) := by decide +kernel
theorem d_Mod_finish_95 : decode b_Mod_finish 95 = .ok (.iload_n 2, 1) := by decide +kernel
theorem d_Mod_finish_96 : decode b_Mod_finish 96 = .ok (.ifCond .lt 23, 3) := by decide +kernel
theorem d_Mod_finish_99 : decode b_Mod_finish 99 = .ok (.aload_n 0, 1) := by decide +kernel
theorem d_Mod_finish_100 : decode b_Mod_finish 100 = .ok (.getfield 47, 3) := by decide +kernel
theorem d_Mod_finish_103 : decode b_Mod_finish 103 = .ok (.iload_n 2, 1) := by decide +kernel
theorem d_Mod_finish_104 : decode b_Mod_finish 104 = .ok (.baload, 1) := by decide +kernel
theorem d_Mod_finish_105 : decode b_Mod_finish 105 = .ok (.ifCond .eq 8, 3) := by decide +kernel
theorem d_Mod_finish_108 : decode b_Mod_finish 108 = .ok (.aload_n 0, 1) := by decide +kernel
theorem d_Mod_finish_109 : decode b_Mod_finish 109 = .ok (.iload_n 2, 1) := by decide +kernel
theorem d_Mod_finish_110 : decode b_Mod_finish 110 = .ok (.invokevirtual 179, 3) := by decide +kernel
theorem d_Mod_finish_113 : decode b_Mod_finish 113 = .ok (.iinc 2 (-1), 3) := by decide +kernel
theorem d_Mod_finish_116 : decode b_Mod_finish 116 = .ok (.goto (-21), 3) := by decide +kernel
theorem d_Mod_finish_119 : decode b_Mod_finish 119 = .ok (.aload_n 0, 1) := by decide +kernel
theorem d_Mod_finish_120 : decode b_Mod_finish 120 = .ok (.sipush 249, 3) := by decide +kernel
theorem d_Mod_finish_123 : decode b_Mod_finish 123 = .ok (.iconst 1, 1) := by decide +kernel
theorem d_Mod_finish_124 : decode b_Mod_finish 124 = .ok (.invokevirtual 149, 3) := by decide +kernel
theorem d_Mod_finish_127 : decode b_Mod_finish 127 = .ok (.aload_n 0, 1) := by decide +kernel
theorem d_Mod_finish_128 : decode b_Mod_finish 128 = .ok (.iload_n 1, 1) := by decide +kernel
theorem d_Mod_finish_129 : decode b_Mod_finish 129 = .ok (.iconst 4, 1) := by decide +kernel
theorem d_Mod_finish_130 : decode b_Mod_finish 130 = .ok (.invokevirtual 149, 3) := by decide +kernel
theorem d_Mod_finish_133 : decode b_Mod_finish 133 = .ok (.aload_n 0, 1) := by decide +kernel
theorem d_Mod_finish_134 : decode b_Mod_finish 134 = .ok (.iconst 2, 1) := by decide +kernel
theorem d_Mod_finish_135 : decode b_Mod_finish 135 = .ok (.iconst 1, 1) := by decide +kernel
theorem d_Mod_finish_136 : decode b_Mod_finish 136 = .ok (.invokevirtual 149, 3) := by decide +kernel
theorem d_Mod_finish_139 : decode b_Mod_finish 139 = .ok (.iconst 0, 1) := by decide +kernel
theorem d_Mod_finish_140 : decode b_Mod_finish 140 = .ok (.istore_n 2, 1) := by decide +kernel
theorem d_Mod_finish_141 : decode b_Mod_finish 141 = .ok (.iload_n 2, 1) := by decide +kernel
theorem d_Mod_finish_142 : decode b_Mod_finish 142 = .ok (.iconst 4, 1) := by decide +kernel
theorem d_Mod_finish_143 : decode b_Mod_finish 143 = .ok (.if_icmp .lt 12, 3) := by decide +kernel
theorem d_Mod_finish_146 : decode b_Mod_finish 146 = .ok (.aload_n 0, 1) := by decide +kernel
theorem d_Mod_finish_147 : decode b_Mod_finish 147 = .ok (.getfield 145, 3) := by decide +kernel
theorem d_Mod_finish_150 : decode b_Mod_finish 150 = .ok (.iconst 4, 1) := by decide +kernel
theorem d_Mod_finish_151 : decode b_Mod_finish 151 = .ok (.irem, 1) := by decide +kernel
theorem d_Mod_finish_152 : decode b_Mod_finish 152 = .ok (.ifCond .eq 17, 3) := by decide +kernel
theorem d_Mod_finish_155 : decode b_Mod_finish 155 = .ok (.aload_n 0, 1) := by decide +kernel
theorem d_Mod_finish_156 : decode b_Mod_finish 156 = .ok (.sipush 223, 3) := by decide +kernel
theorem d_Mod_finish_159 : decode b_Mod_finish 159 = .ok (.iconst 1, 1) := by decide +kernel
theorem d_Mod_finish_160 : decode b_Mod_finish 160 = .ok (.invokevirtual 149, 3) := by decide +kernel
theorem d_Mod_finish_163 : decode b_Mod_finish 163 = .ok (.iinc 2 1, 3) := by decide +kernel
theorem d_Mod_finish_166 : decode b_Mod_finish 166 = .ok (.goto (-25), 3) := by decide +kernel
theorem d_Mod_finish_169 : decode b_Mod_finish 169 = .ok (.aload_n 0, 1) := by decide +kernel
theorem d_Mod_finish_170 : decode b_Mod_finish 170 = .ok (.iconst 1, 1) := by decide +kernel
theorem d_Mod_finish_171 : decode b_Mod_finish 171 = .ok (.putfield 204, 3) := by decide +kernel
theorem d_Mod_finish_174 : decode b_Mod_finish 174 = .ok (.aload_n 0, 1) := by decide +kernel
theorem d_Mod_finish_175 : decode b_Mod_finish 175 = .ok (.getfield 145, 3) := by decide +kernel
theorem d_Mod_finish_178 : decode b_Mod_finish 178 = .ok (.ireturn, 1) := by decide +kernel
theorem d_Mod_byteAt_0 : decode b_Mod_byteAt 0 = .ok (.aload_n 0, 1) := by decide +kernel
theorem d_Mod_byteAt_1 : decode b_Mod_byteAt 1 = .ok (.iconst 0, 1) := by decide +kernel
theorem d_Mod_byteAt_2 : decode b_Mod_byteAt 2 = .ok (.putfield 81, 3) := by decide +kernel
theorem d_Mod_byteAt_5 : decode b_Mod_byteAt 5 = .ok (.iload_n 1, 1) := by decide +kernel
theorem d_Mod_byteAt_6 : decode b_Mod_byteAt 6 = .ok (.ifCond .lt 11, 3) := by decide +kernel
theorem d_Mod_byteAt_9 : decode b_Mod_byteAt 9 = .ok (.iload_n 1, 1) := by decide +kernel
theorem d_Mod_byteAt_10 : decode b_Mod_byteAt 10 = .ok (.aload_n 0, 1) := by decide +kernel
theorem d_Mod_byteAt_11 : decode b_Mod_byteAt 11 = .ok (.getfield 145, 3) := by decide +kernel
theorem d_Mod_byteAt_14 : decode b_Mod_byteAt 14 = .ok (.if_icmp .lt 7, 3) := by decide +kernel
theorem d_Mod_byteAt_17 : decode b_Mod_byteAt 17 = .ok (.iconst (-1), 1) := by decide +kernel
theorem d_Mod_byteAt_18 : decode b_Mod_byteAt 18 = .ok (.goto 13, 3) := by decide +kernel
theorem d_Mod_byteAt_21 : decode b_Mod_byteAt 21 = .ok (.aload_n 0, 1) := by decide +kernel
theorem d_Mod_byteAt_22 : decode b_Mod_byteAt 22 = .ok (.getfield 54, 3) := by decide +kernel
theorem d_Mod_byteAt_25 : decode b_Mod_byteAt 25 = .ok (.iload_n 1, 1) := by decide +kernel
theorem d_Mod_byteAt_26 : decode b_Mod_byteAt 26 = .ok (.baload, 1) := by decide +kernel
theorem d_Mod_byteAt_27 : decode b_Mod_byteAt 27 = .ok (.sipush 255, 3) := by decide +kernel
theorem d_Mod_byteAt_30 : decode b_Mod_byteAt 30 = .ok (.iand, 1) := by decide +kernel
theorem d_Mod_byteAt_31 : decode b_Mod_byteAt 31 = .ok (.ireturn, 1) := by decide +kernel
theorem d_Mod_count_0 : decode b_Mod_count 0 = .ok (.aload_n 0, 1) := by decide +kernel
theorem d_Mod_count_1 : decode b_Mod_count 1 = .ok (.iconst 0, 1) := by decide +kernel
theorem d_Mod_count_2 : decode b_Mod_count 2 = .ok (.putfield 81, 3) := by decide +kernel
theorem d_Mod_count_5 : decode b_Mod_count 5 = .ok (.iload_n 1, 1) := by decide +kernel
theorem d_Mod_count_6 : decode b_Mod_count 6 = .ok (.ifCond .ne 10, 3) := by decide +kernel
theorem d_Mod_count_9 : decode b_Mod_count 9 = .ok (.aload_n 0, 1) := by decide +kernel
theorem d_Mod_count_10 : decode b_Mod_count 10 = .ok (.getfield 145, 3) := by decide +kernel
theorem d_Mod_count_13 : decode b_Mod_count 13 = .ok (.goto 65, 3) := by decide +kernel
theorem d_Mod_count_16 : decode b_Mod_count 16 = .ok (.iload_n 1, 1) := by decide +kernel
theorem d_Mod_count_17 : decode b_Mod_count 17 = .ok (.iconst 1, 1) := by decide +kernel
theorem d_Mod_count_18 : decode b_Mod_count 18 = .ok (.if_icmp .ne 10, 3) := by decide +kernel
theorem d_Mod_count_21 : decode b_Mod_count 21 = .ok (.aload_n 0, 1) := by decide +kernel
theorem d_Mod_count_22 : decode b_Mod_count 22 = .ok (.getfield 214, 3) := by decide +kernel
theorem d_Mod_count_25 : decode b_Mod_count 25 = .ok (.goto 53, 3) := by decide +kernel
theorem d_Mod_count_28 : decode b_Mod_count 28 = .ok (.iload_n 1, 1) := by decide +kernel
theorem d_Mod_count_29 : decode b_Mod_count 29 = .ok (.iconst 2, 1) := by decide +kernel
theorem d_Mod_count_30 : decode b_Mod_count 30 = .ok (.if_icmp .ne 10, 3) := by decide +kernel
theorem d_Mod_count_33 : decode b_Mod_count 33 = .ok (.aload_n 0, 1) := by decide +kernel
theorem d_Mod_count_34 : decode b_Mod_count 34 = .ok (.getfield 97, 3) := by decide +kernel
theorem d_Mod_count_37 : decode b_Mod_count 37 = .ok (.goto 41, 3) := by decide +kernel
theorem d_Mod_count_40 : decode b_Mod_count 40 = .ok (.iload_n 1, 1) := by decide +kernel
theorem d_Mod_count_41 : decode b_Mod_count 41 = .ok (.iconst 3, 1) := by decide +kernel
theorem d_Mod_count_42 : decode b_Mod_count 42 = .ok (.if_icmp .ne 15, 3) := by decide +kernel
theorem d_Mod_count_45 : decode b_Mod_count 45 = .ok (.aload_n 0, 1) := by decide +kernel
theorem d_Mod_count_46 : decode b_Mod_count 46 = .ok (.getfield 90, 3) := by decide +kernel
theorem d_Mod_count_49 : decode b_Mod_count 49 = .ok (.aload_n 0, 1) := by decide +kernel
theorem d_Mod_count_50 : decode b_Mod_count 50 = .ok (.invokevirtual 93, 3) := by decide +kernel
theorem d_Mod_count_53 : decode b_Mod_count 53 = .ok (.iadd, 1) := by decide +kernel
theorem d_Mod_count_54 : decode b_Mod_count 54 = .ok (.goto 24, 3) := by decide +kernel
theorem d_Mod_count_57 : decode b_Mod_count 57 = .ok (.iload_n 1, 1) := by decide +kernel
theorem d_Mod_count_58 : decode b_Mod_count 58 = .ok (.iconst 4, 1) := by decide +kernel
theorem d_Mod_count_59 : decode b_Mod_count 59 = .ok (.if_icmp .ne 18, 3) := by decide +kernel
theorem d_Mod_count_62 : decode b_Mod_count 62 = .ok (.aload_n 0, 1) := by decide +kernel
theorem d_Mod_count_63 : decode b_Mod_count 63 = .ok (.getfield 204, 3) := by decide +kernel
theorem d_Mod_count_66 : decode b_Mod_count 66 = .ok (.ifCond .eq 7, 3) := by decide +kernel
theorem d_Mod_count_69 : decode b_Mod_count 69 = .ok (.iconst 1, 1) := by decide +kernel
theorem d_Mod_count_70 : decode b_Mod_count 70 = .ok (.goto 8, 3) := by decide +kernel
theorem d_Mod_count_73 : decode b_Mod_count 73 = .ok (.iconst 0, 1) := by decide +kernel
theorem d_Mod_count_74 : decode b_Mod_count 74 = .ok (.goto 4, 3) := by decide +kernel
theorem d_Mod_count_77 : decode b_Mod_count 77 = .ok (.iconst (-1), 1) := by decide +kernel
theorem d_Mod_count_78 : decode b_Mod_count 78 = .ok (.ireturn, 1) := by decide +kernel
theorem d_Mod_size_0 : decode b_Mod_size 0 = .ok (.aload_n 0, 1) := by decide +kernel
theorem d_Mod_size_1 : decode b_Mod_size 1 = .ok (.iconst 0, 1) := by decide +kernel
theorem d_Mod_size_2 : decode b_Mod_size 2 = .ok (.putfield 81, 3) := by decide +kernel
theorem d_Mod_size_5 : decode b_Mod_size 5 = .ok (.aload_n 0, 1) := by decide +kernel
theorem d_Mod_size_6 : decode b_Mod_size 6 = .ok (.iload_n 1, 1) := by decide +kernel
theorem d_Mod_size_7 : decode b_Mod_size 7 = .ok (.invokevirtual 142, 3) := by decide +kernel
theorem d_Mod_size_10 : decode b_Mod_size 10 = .ok (.ifCond .eq 12, 3) := by decide +kernel
theorem d_Mod_size_13 : decode b_Mod_size 13 = .ok (.iload_n 2, 1) := by decide +kernel
theorem d_Mod_size_14 : decode b_Mod_size 14 = .ok (.ifCond .lt 8, 3) := by decide +kernel
