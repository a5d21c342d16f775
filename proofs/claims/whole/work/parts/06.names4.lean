theorem dX9_tickBy_0 : decode cX9_tickBy 0 = .ok (.aload_n 0, 1) := by decide +kernel
theorem dX9_tickBy_1 : decode cX9_tickBy 1 = .ok (.iload_n 1, 1) := by decide +kernel
theorem dX9_tickBy_2 : decode cX9_tickBy 2 = .ok (.invokevirtual 89, 3) := by decide +kernel
theorem dX9_tickBy_5 : decode cX9_tickBy 5 = .ok (.istore_n 2, 1) := by decide +kernel
theorem dX9_tickBy_6 : decode cX9_tickBy 6 = .ok (.iconst 0, 1) := by decide +kernel
theorem dX9_tickBy_7 : decode cX9_tickBy 7 = .ok (.istore_n 3, 1) := by decide +kernel
theorem dX9_tickBy_8 : decode cX9_tickBy 8 = .ok (.iload_n 3, 1) := by decide +kernel
theorem dX9_tickBy_9 : decode cX9_tickBy 9 = .ok (.iconst 3, 1) := by decide +kernel
theorem dX9_tickBy_10 : decode cX9_tickBy 10 = .ok (.if_icmp .ge 47, 3) := by decide +kernel
theorem dX9_tickBy_13 : decode cX9_tickBy 13 = .ok (.aload_n 0, 1) := by decide +kernel
theorem dX9_tickBy_14 : decode cX9_tickBy 14 = .ok (.getfield 35, 3) := by decide +kernel
theorem dX9_tickBy_17 : decode cX9_tickBy 17 = .ok (.iload_n 3, 1) := by decide +kernel
theorem dX9_tickBy_18 : decode cX9_tickBy 18 = .ok (.iload_n 2, 1) := by decide +kernel
theorem dX9_tickBy_19 : decode cX9_tickBy 19 = .ok (.iconst 2, 1) := by decide +kernel
theorem dX9_tickBy_20 : decode cX9_tickBy 20 = .ok (.iload_n 3, 1) := by decide +kernel
theorem dX9_tickBy_21 : decode cX9_tickBy 21 = .ok (.imul, 1) := by decide +kernel
theorem dX9_tickBy_22 : decode cX9_tickBy 22 = .ok (.invokestatic 70, 3) := by decide +kernel
theorem dX9_tickBy_25 : decode cX9_tickBy 25 = .ok (.iload_n 2, 1) := by decide +kernel
theorem dX9_tickBy_26 : decode cX9_tickBy 26 = .ok (.iconst 2, 1) := by decide +kernel
theorem dX9_tickBy_27 : decode cX9_tickBy 27 = .ok (.iload_n 3, 1) := by decide +kernel
theorem dX9_tickBy_28 : decode cX9_tickBy 28 = .ok (.imul, 1) := by decide +kernel
theorem dX9_tickBy_29 : decode cX9_tickBy 29 = .ok (.iconst 1, 1) := by decide +kernel
theorem dX9_tickBy_30 : decode cX9_tickBy 30 = .ok (.iadd, 1) := by decide +kernel
theorem dX9_tickBy_31 : decode cX9_tickBy 31 = .ok (.invokestatic 70, 3) := by decide +kernel
theorem dX9_tickBy_34 : decode cX9_tickBy 34 = .ok (.if_icmp .eq 15, 3) := by decide +kernel
theorem dX9_tickBy_37 : decode cX9_tickBy 37 = .ok (.aload_n 0, 1) := by decide +kernel
theorem dX9_tickBy_38 : decode cX9_tickBy 38 = .ok (.getfield 35, 3) := by decide +kernel
theorem dX9_tickBy_41 : decode cX9_tickBy 41 = .ok (.iload_n 3, 1) := by decide +kernel
theorem dX9_tickBy_42 : decode cX9_tickBy 42 = .ok (.iaload, 1) := by decide +kernel
theorem dX9_tickBy_43 : decode cX9_tickBy 43 = .ok (.invokestatic 93, 3) := by decide +kernel
theorem dX9_tickBy_46 : decode cX9_tickBy 46 = .ok (.goto 4, 3) := by decide +kernel
theorem dX9_tickBy_49 : decode cX9_tickBy 49 = .ok (.iconst 0, 1) := by decide +kernel
theorem dX9_tickBy_50 : decode cX9_tickBy 50 = .ok (.iastore, 1) := by decide +kernel
theorem dX9_tickBy_51 : decode cX9_tickBy 51 = .ok (.iinc 3 1, 3) := by decide +kernel
theorem dX9_tickBy_54 : decode cX9_tickBy 54 = .ok (.goto (-46), 3) := by decide +kernel
theorem dX9_tickBy_57 : decode cX9_tickBy 57 = .ok (.aload_n 0, 1) := by decide +kernel
theorem dX9_tickBy_58 : decode cX9_tickBy 58 = .ok (.aload_n 0, 1) := by decide +kernel
theorem dX9_tickBy_59 : decode cX9_tickBy 59 = .ok (.getfield 86, 3) := by decide +kernel
theorem dX9_tickBy_62 : decode cX9_tickBy 62 = .ok (.iload_n 2, 1) := by decide +kernel
theorem dX9_tickBy_63 : decode cX9_tickBy 63 = .ok (.bipush 6, 2) := by decide +kernel
theorem dX9_tickBy_65 : decode cX9_tickBy 65 = .ok (.invokestatic 70, 3) := by decide +kernel
theorem dX9_tickBy_68 : decode cX9_tickBy 68 = .ok (.iload_n 2, 1) := by decide +kernel
theorem dX9_tickBy_69 : decode cX9_tickBy 69 = .ok (.bipush 7, 2) := by decide +kernel
theorem dX9_tickBy_71 : decode cX9_tickBy 71 = .ok (.invokestatic 70, 3) := by decide +kernel
theorem dX9_tickBy_74 : decode cX9_tickBy 74 = .ok (.invokestatic 96, 3) := by decide +kernel
theorem dX9_tickBy_77 : decode cX9_tickBy 77 = .ok (.putfield 86, 3) := by decide +kernel
theorem dX9_tickBy_80 : decode cX9_tickBy 80 = .ok (.aload_n 0, 1) := by decide +kernel
theorem dX9_tickBy_81 : decode cX9_tickBy 81 = .ok (.aload_n 0, 1) := by decide +kernel
theorem dX9_tickBy_82 : decode cX9_tickBy 82 = .ok (.getfield 86, 3) := by decide +kernel
theorem dX9_tickBy_85 : decode cX9_tickBy 85 = .ok (.iconst 2, 1) := by decide +kernel
theorem dX9_tickBy_86 : decode cX9_tickBy 86 = .ok (.if_icmp .eq 11, 3) := by decide +kernel
theorem dX9_tickBy_89 : decode cX9_tickBy 89 = .ok (.aload_n 0, 1) := by decide +kernel
theorem dX9_tickBy_90 : decode cX9_tickBy 90 = .ok (.getfield 86, 3) := by decide +kernel
theorem dX9_tickBy_93 : decode cX9_tickBy 93 = .ok (.iconst 3, 1) := by decide +kernel
theorem dX9_tickBy_94 : decode cX9_tickBy 94 = .ok (.if_icmp .ne 12, 3) := by decide +kernel
theorem dX9_tickBy_97 : decode cX9_tickBy 97 = .ok (.aload_n 0, 1) := by decide +kernel
theorem dX9_tickBy_98 : decode cX9_tickBy 98 = .ok (.getfield 100, 3) := by decide +kernel
theorem dX9_tickBy_101 : decode cX9_tickBy 101 = .ok (.iconst 1, 1) := by decide +kernel
theorem dX9_tickBy_102 : decode cX9_tickBy 102 = .ok (.iadd, 1) := by decide +kernel
theorem dX9_tickBy_103 : decode cX9_tickBy 103 = .ok (.goto 4, 3) := by decide +kernel
theorem dX9_tickBy_106 : decode cX9_tickBy 106 = .ok (.iconst 0, 1) := by decide +kernel
theorem dX9_tickBy_107 : decode cX9_tickBy 107 = .ok (.putfield 100, 3) := by decide +kernel
theorem dX9_tickBy_110 : decode cX9_tickBy 110 = .ok (.aload_n 0, 1) := by decide +kernel
theorem dX9_tickBy_111 : decode cX9_tickBy 111 = .ok (.getfield 100, 3) := by decide +kernel
theorem dX9_tickBy_114 : decode cX9_tickBy 114 = .ok (.aload_n 0, 1) := by decide +kernel
theorem dX9_tickBy_115 : decode cX9_tickBy 115 = .ok (.getfield 16, 3) := by decide +kernel
theorem dX9_tickBy_118 : decode cX9_tickBy 118 = .ok (.if_icmp .le 13, 3) := by decide +kernel
theorem dX9_tickBy_121 : decode cX9_tickBy 121 = .ok (.aload_n 0, 1) := by decide +kernel
theorem dX9_tickBy_122 : decode cX9_tickBy 122 = .ok (.iconst 4, 1) := by decide +kernel
theorem dX9_tickBy_123 : decode cX9_tickBy 123 = .ok (.putfield 86, 3) := by decide +kernel
theorem dX9_tickBy_126 : decode cX9_tickBy 126 = .ok (.aload_n 0, 1) := by decide +kernel
theorem dX9_tickBy_127 : decode cX9_tickBy 127 = .ok (.iconst 0, 1) := by decide +kernel
theorem dX9_tickBy_128 : decode cX9_tickBy 128 = .ok (.putfield 100, 3) := by decide +kernel
theorem dX9_tickBy_131 : decode cX9_tickBy 131 = .ok (.aload_n 0, 1) := by decide +kernel
theorem dX9_tickBy_132 : decode cX9_tickBy 132 = .ok (.getfield 86, 3) := by decide +kernel
theorem dX9_tickBy_135 : decode cX9_tickBy 135 = .ok (.iconst 2, 1) := by decide +kernel
theorem dX9_tickBy_136 : decode cX9_tickBy 136 = .ok (.if_icmp .eq 11, 3) := by decide +kernel
theorem dX9_tickBy_139 : decode cX9_tickBy 139 = .ok (.aload_n 0, 1) := by decide +kernel
theorem dX9_tickBy_140 : decode cX9_tickBy 140 = .ok (.getfield 86, 3) := by decide +kernel
theorem dX9_tickBy_143 : decode cX9_tickBy 143 = .ok (.iconst 3, 1) := by decide +kernel
theorem dX9_tickBy_144 : decode cX9_tickBy 144 = .ok (.if_icmp .ne 7, 3) := by decide +kernel
theorem dX9_tickBy_147 : decode cX9_tickBy 147 = .ok (.iconst 1, 1) := by decide +kernel
theorem dX9_tickBy_148 : decode cX9_tickBy 148 = .ok (.goto 4, 3) := by decide +kernel
theorem dX9_tickBy_151 : decode cX9_tickBy 151 = .ok (.iconst 0, 1) := by decide +kernel
theorem dX9_tickBy_152 : decode cX9_tickBy 152 = .ok (.istore_n 3, 1) := by decide +kernel
theorem dX9_tickBy_153 : decode cX9_tickBy 153 = .ok (.aload_n 0, 1) := by decide +kernel
theorem dX9_tickBy_154 : decode cX9_tickBy 154 = .ok (.iload_n 2, 1) := by decide +kernel
theorem dX9_tickBy_155 : decode cX9_tickBy 155 = .ok (.iconst 0, 1) := by decide +kernel
theorem dX9_tickBy_156 : decode cX9_tickBy 156 = .ok (.invokestatic 103, 3) := by decide +kernel
theorem dX9_tickBy_159 : decode cX9_tickBy 159 = .ok (.ifCond .eq 7, 3) := by decide +kernel
theorem dX9_tickBy_162 : decode cX9_tickBy 162 = .ok (.iconst 1, 1) := by decide +kernel
theorem dX9_tickBy_163 : decode cX9_tickBy 163 = .ok (.goto 4, 3) := by decide +kernel
theorem dX9_tickBy_166 : decode cX9_tickBy 166 = .ok (.iconst 0, 1) := by decide +kernel
theorem dX9_tickBy_167 : decode cX9_tickBy 167 = .ok (.iload_n 2, 1) := by decide +kernel
theorem dX9_tickBy_168 : decode cX9_tickBy 168 = .ok (.iconst 1, 1) := by decide +kernel
theorem dX9_tickBy_169 : decode cX9_tickBy 169 = .ok (.invokestatic 103, 3) := by decide +kernel
theorem dX9_tickBy_172 : decode cX9_tickBy 172 = .ok (.ifCond .eq 7, 3) := by decide +kernel
theorem dX9_tickBy_175 : decode cX9_tickBy 175 = .ok (.iconst 1, 1) := by decide +kernel
theorem dX9_tickBy_176 : decode cX9_tickBy 176 = .ok (.goto 4, 3) := by decide +kernel
theorem dX9_tickBy_179 : decode cX9_tickBy 179 = .ok (.iconst 0, 1) := by decide +kernel
theorem dX9_tickBy_180 : decode cX9_tickBy 180 = .ok (.iadd, 1) := by decide +kernel
theorem dX9_tickBy_181 : decode cX9_tickBy 181 = .ok (.invokevirtual 107, 3) := by decide +kernel
theorem dX9_tickBy_184 : decode cX9_tickBy 184 = .ok (.istore 4, 2) := by decide +kernel
theorem dX9_tickBy_186 : decode cX9_tickBy 186 = .ok (.iload 4, 2) := by decide +kernel
theorem dX9_tickBy_188 : decode cX9_tickBy 188 = .ok (.iconst 2, 1) := by decide +kernel
theorem dX9_tickBy_189 : decode cX9_tickBy 189 = .ok (.if_icmp .ne 15, 3) := by decide +kernel
theorem dX9_tickBy_192 : decode cX9_tickBy 192 = .ok (.aload_n 0, 1) := by decide +kernel
theorem dX9_tickBy_193 : decode cX9_tickBy 193 = .ok (.getfield 74, 3) := by decide +kernel
theorem dX9_tickBy_196 : decode cX9_tickBy 196 = .ok (.iconst 2, 1) := by decide +kernel
theorem dX9_tickBy_197 : decode cX9_tickBy 197 = .ok (.if_icmp .eq 7, 3) := by decide +kernel
theorem dX9_tickBy_200 : decode cX9_tickBy 200 = .ok (.iconst 1, 1) := by decide +kernel
theorem dX9_tickBy_201 : decode cX9_tickBy 201 = .ok (.goto 4, 3) := by decide +kernel
theorem dX9_tickBy_204 : decode cX9_tickBy 204 = .ok (.iconst 0, 1) := by decide +kernel
theorem dX9_tickBy_205 : decode cX9_tickBy 205 = .ok (.istore 5, 2) := by decide +kernel
theorem dX9_tickBy_207 : decode cX9_tickBy 207 = .ok (.aload_n 0, 1) := by decide +kernel
theorem dX9_tickBy_208 : decode cX9_tickBy 208 = .ok (.iload 4, 2) := by decide +kernel
theorem dX9_tickBy_210 : decode cX9_tickBy 210 = .ok (.iconst 1, 1) := by decide +kernel
theorem dX9_tickBy_211 : decode cX9_tickBy 211 = .ok (.if_icmp .ne 24, 3) := by decide +kernel
theorem dX9_tickBy_214 : decode cX9_tickBy 214 = .ok (.aload_n 0, 1) := by decide +kernel
theorem dX9_tickBy_215 : decode cX9_tickBy 215 = .ok (.getfield 74, 3) := by decide +kernel
theorem dX9_tickBy_218 : decode cX9_tickBy 218 = .ok (.iconst 1, 1) := by decide +kernel
theorem dX9_tickBy_219 : decode cX9_tickBy 219 = .ok (.if_icmp .ne 12, 3) := by decide +kernel
theorem dX9_tickBy_222 : decode cX9_tickBy 222 = .ok (.aload_n 0, 1) := by decide +kernel
theorem dX9_tickBy_223 : decode cX9_tickBy 223 = .ok (.getfield 77, 3) := by decide +kernel
theorem dX9_tickBy_226 : decode cX9_tickBy 226 = .ok (.iconst 1, 1) := by decide +kernel
theorem dX9_tickBy_227 : decode cX9_tickBy 227 = .ok (.iadd, 1) := by decide +kernel
theorem dX9_tickBy_228 : decode cX9_tickBy 228 = .ok (.goto 8, 3) := by decide +kernel
theorem dX9_tickBy_231 : decode cX9_tickBy 231 = .ok (.iconst 1, 1) := by decide +kernel
theorem dX9_tickBy_232 : decode cX9_tickBy 232 = .ok (.goto 4, 3) := by decide +kernel
theorem dX9_tickBy_235 : decode cX9_tickBy 235 = .ok (.iconst 0, 1) := by decide +kernel
theorem dX9_tickBy_236 : decode cX9_tickBy 236 = .ok (.putfield 77, 3) := by decide +kernel
theorem dX9_tickBy_239 : decode cX9_tickBy 239 = .ok (.aload_n 0, 1) := by decide +kernel
theorem dX9_tickBy_240 : decode cX9_tickBy 240 = .ok (.iload 4, 2) := by decide +kernel
theorem dX9_tickBy_242 : decode cX9_tickBy 242 = .ok (.putfield 74, 3) := by decide +kernel
theorem dX9_tickBy_245 : decode cX9_tickBy 245 = .ok (.aload_n 0, 1) := by decide +kernel
theorem dX9_tickBy_246 : decode cX9_tickBy 246 = .ok (.aload_n 0, 1) := by decide +kernel
theorem dX9_tickBy_247 : decode cX9_tickBy 247 = .ok (.iconst 0, 1) := by decide +kernel
theorem dX9_tickBy_248 : decode cX9_tickBy 248 = .ok (.invokevirtual 110, 3) := by decide +kernel
theorem dX9_tickBy_251 : decode cX9_tickBy 251 = .ok (.aload_n 0, 1) := by decide +kernel
theorem dX9_tickBy_252 : decode cX9_tickBy 252 = .ok (.getfield 80, 3) := by decide +kernel
theorem dX9_tickBy_255 : decode cX9_tickBy 255 = .ok (.if_icmp .ne 15, 3) := by decide +kernel
theorem dX9_tickBy_258 : decode cX9_tickBy 258 = .ok (.aload_n 0, 1) := by decide +kernel
theorem dX9_tickBy_259 : decode cX9_tickBy 259 = .ok (.iconst 1, 1) := by decide +kernel
theorem dX9_tickBy_260 : decode cX9_tickBy 260 = .ok (.invokevirtual 110, 3) := by decide +kernel
theorem dX9_tickBy_263 : decode cX9_tickBy 263 = .ok (.aload_n 0, 1) := by decide +kernel
theorem dX9_tickBy_264 : decode cX9_tickBy 264 = .ok (.getfield 80, 3) := by decide +kernel
theorem dX9_tickBy_267 : decode cX9_tickBy 267 = .ok (.if_icmp .eq 13, 3) := by decide +kernel
theorem dX9_tickBy_270 : decode cX9_tickBy 270 = .ok (.aload_n 0, 1) := by decide +kernel
theorem dX9_tickBy_271 : decode cX9_tickBy 271 = .ok (.getfield 83, 3) := by decide +kernel
theorem dX9_tickBy_274 : decode cX9_tickBy 274 = .ok (.invokestatic 93, 3) := by decide +kernel
theorem dX9_tickBy_277 : decode cX9_tickBy 277 = .ok (.goto 4, 3) := by decide +kernel
theorem dX9_tickBy_280 : decode cX9_tickBy 280 = .ok (.iconst 0, 1) := by decide +kernel
theorem dX9_tickBy_281 : decode cX9_tickBy 281 = .ok (.putfield 83, 3) := by decide +kernel
theorem dX9_tickBy_284 : decode cX9_tickBy 284 = .ok (.iload_n 2, 1) := by decide +kernel
theorem dX9_tickBy_285 : decode cX9_tickBy 285 = .ok (.iconst 2, 1) := by decide +kernel
theorem dX9_tickBy_286 : decode cX9_tickBy 286 = .ok (.invokestatic 103, 3) := by decide +kernel
theorem dX9_tickBy_289 : decode cX9_tickBy 289 = .ok (.ifCond .ne 11, 3) := by decide +kernel
theorem dX9_tickBy_292 : decode cX9_tickBy 292 = .ok (.iload_n 3, 1) := by decide +kernel
theorem dX9_tickBy_293 : decode cX9_tickBy 293 = .ok (.ifCond .ne 7, 3) := by decide +kernel
theorem dX9_tickBy_296 : decode cX9_tickBy 296 = .ok (.iconst 1, 1) := by decide +kernel
theorem dX9_tickBy_297 : decode cX9_tickBy 297 = .ok (.goto 4, 3) := by decide +kernel
theorem dX9_tickBy_300 : decode cX9_tickBy 300 = .ok (.iconst 0, 1) := by decide +kernel
theorem dX9_tickBy_301 : decode cX9_tickBy 301 = .ok (.istore 6, 2) := by decide +kernel
theorem dX9_tickBy_303 : decode cX9_tickBy 303 = .ok (.aload_n 0, 1) := by decide +kernel
theorem dX9_tickBy_304 : decode cX9_tickBy 304 = .ok (.iload 5, 2) := by decide +kernel
theorem dX9_tickBy_306 : decode cX9_tickBy 306 = .ok (.iload 6, 2) := by decide +kernel
theorem dX9_tickBy_308 : decode cX9_tickBy 308 = .ok (.aload_n 0, 1) := by decide +kernel
theorem dX9_tickBy_309 : decode cX9_tickBy 309 = .ok (.getfield 113, 3) := by decide +kernel
theorem dX9_tickBy_312 : decode cX9_tickBy 312 = .ok (.iconst 1, 1) := by decide +kernel
theorem dX9_tickBy_313 : decode cX9_tickBy 313 = .ok (.if_icmp .ne 16, 3) := by decide +kernel
theorem dX9_tickBy_316 : decode cX9_tickBy 316 = .ok (.iload_n 2, 1) := by decide +kernel
theorem dX9_tickBy_317 : decode cX9_tickBy 317 = .ok (.bipush 8, 2) := by decide +kernel
theorem dX9_tickBy_319 : decode cX9_tickBy 319 = .ok (.invokestatic 70, 3) := by decide +kernel
theorem dX9_tickBy_322 : decode cX9_tickBy 322 = .ok (.ifCond .ne 7, 3) := by decide +kernel
theorem dX9_tickBy_325 : decode cX9_tickBy 325 = .ok (.iconst 1, 1) := by decide +kernel
theorem dX9_tickBy_326 : decode cX9_tickBy 326 = .ok (.goto 4, 3) := by decide +kernel
theorem dX9_tickBy_329 : decode cX9_tickBy 329 = .ok (.iconst 0, 1) := by decide +kernel
theorem dX9_tickBy_330 : decode cX9_tickBy 330 = .ok (.invokevirtual 116, 3) := by decide +kernel
theorem dX9_tickBy_333 : decode cX9_tickBy 333 = .ok (.aload_n 0, 1) := by decide +kernel
theorem dX9_tickBy_334 : decode cX9_tickBy 334 = .ok (.iload_n 2, 1) := by decide +kernel
theorem dX9_tickBy_335 : decode cX9_tickBy 335 = .ok (.bipush 8, 2) := by decide +kernel
theorem dX9_tickBy_337 : decode cX9_tickBy 337 = .ok (.invokestatic 70, 3) := by decide +kernel
theorem dX9_tickBy_340 : decode cX9_tickBy 340 = .ok (.putfield 113, 3) := by decide +kernel
theorem dX9_tickBy_343 : decode cX9_tickBy 343 = .ok (.aload_n 0, 1) := by decide +kernel
theorem dX9_tickBy_344 : decode cX9_tickBy 344 = .ok (.aload_n 0, 1) := by decide +kernel
theorem dX9_tickBy_345 : decode cX9_tickBy 345 = .ok (.getfield 32, 3) := by decide +kernel
theorem dX9_tickBy_348 : decode cX9_tickBy 348 = .ok (.iconst 2, 1) := by decide +kernel
theorem dX9_tickBy_349 : decode cX9_tickBy 349 = .ok (.if_icmp .eq 11, 3) := by decide +kernel
theorem dX9_tickBy_352 : decode cX9_tickBy 352 = .ok (.aload_n 0, 1) := by decide +kernel
theorem dX9_tickBy_353 : decode cX9_tickBy 353 = .ok (.getfield 32, 3) := by decide +kernel
theorem dX9_tickBy_356 : decode cX9_tickBy 356 = .ok (.iconst 4, 1) := by decide +kernel
theorem dX9_tickBy_357 : decode cX9_tickBy 357 = .ok (.if_icmp .ne 7, 3) := by decide +kernel
theorem dX9_tickBy_360 : decode cX9_tickBy 360 = .ok (.iconst 1, 1) := by decide +kernel
theorem dX9_tickBy_361 : decode cX9_tickBy 361 = .ok (.goto 4, 3) := by decide +kernel
theorem dX9_tickBy_364 : decode cX9_tickBy 364 = .ok (.iconst 0, 1) := by decide +kernel
theorem dX9_tickBy_365 : decode cX9_tickBy 365 = .ok (.putfield 80, 3) := by decide +kernel
theorem dX9_tickBy_368 : decode cX9_tickBy 368 = .ok (.aload_n 0, 1) := by decide +kernel
theorem dX9_tickBy_369 : decode cX9_tickBy 369 = .ok (.iload_n 1, 1) := by decide +kernel
theorem dX9_tickBy_370 : decode cX9_tickBy 370 = .ok (.iload_n 3, 1) := by decide +kernel
theorem dX9_tickBy_371 : decode cX9_tickBy 371 = .ok (.invokevirtual 120, 3) := by decide +kernel
theorem dX9_tickBy_374 : decode cX9_tickBy 374 = .ok (.return_, 1) := by decide +kernel
set_option maxRecDepth 20000 in
theorem ggX9_goesOn_X9_leastCause : GoodIn wsX9_goesOn wsX9_leastCause := goodIn_r _ [12, 13, 14, 15, 16, 17, 18, 19, 20, 21, 22, 23, 24, 25, 26, 27, 28, 29, 30, 31, 32, 33, 34, 35, 36, 37, 38, 39, 40, 41, 42, 43, 44, 45, 46, 47, 48, 49, 50, 51, 52, 53, 54, 55, 56] (by decide +kernel) (by decide +kernel)
set_option maxRecDepth 20000 in
theorem gX9_goesOn_X9_leastCause : GoodIn wsX9_goesOn (wsV RX9 124 RX9 yX9_leastCause wsX9_leastCause) := goodIn_app (goodIn_of _ (by decide +kernel)) ggX9_goesOn_X9_leastCause
theorem dX9_goesOn_0 : decode cX9_goesOn 0 = .ok (.aload_n 0, 1) := by decide +kernel
theorem dX9_goesOn_1 : decode cX9_goesOn 1 = .ok (.aload_n 0, 1) := by decide +kernel
theorem dX9_goesOn_2 : decode cX9_goesOn 2 = .ok (.getfield 32, 3) := by decide +kernel
theorem dX9_goesOn_5 : decode cX9_goesOn 5 = .ok (.invokevirtual 124, 3) := by decide +kernel
theorem dX9_goesOn_8 : decode cX9_goesOn 8 = .ok (.istore 4, 2) := by decide +kernel
theorem dX9_goesOn_10 : decode cX9_goesOn 10 = .ok (.aload_n 0, 1) := by decide +kernel
theorem dX9_goesOn_11 : decode cX9_goesOn 11 = .ok (.bipush (-9), 2) := by decide +kernel
theorem dX9_goesOn_13 : decode cX9_goesOn 13 = .ok (.putfield 127, 3) := by decide +kernel
theorem dX9_goesOn_16 : decode cX9_goesOn 16 = .ok (.iload 4, 2) := by decide +kernel
theorem dX9_goesOn_18 : decode cX9_goesOn 18 = .ok (.bipush (-9), 2) := by decide +kernel
theorem dX9_goesOn_20 : decode cX9_goesOn 20 = .ok (.if_icmp .eq 36, 3) := by decide +kernel
theorem dX9_goesOn_23 : decode cX9_goesOn 23 = .ok (.aload_n 0, 1) := by decide +kernel
theorem dX9_goesOn_24 : decode cX9_goesOn 24 = .ok (.getfield 32, 3) := by decide +kernel
theorem dX9_goesOn_27 : decode cX9_goesOn 27 = .ok (.ifCond .eq 29, 3) := by decide +kernel
theorem dX9_goesOn_30 : decode cX9_goesOn 30 = .ok (.aload_n 0, 1) := by decide +kernel
theorem dX9_goesOn_31 : decode cX9_goesOn 31 = .ok (.iconst 0, 1) := by decide +kernel
theorem dX9_goesOn_32 : decode cX9_goesOn 32 = .ok (.putfield 32, 3) := by decide +kernel
theorem dX9_goesOn_35 : decode cX9_goesOn 35 = .ok (.aload_n 0, 1) := by decide +kernel
theorem dX9_goesOn_36 : decode cX9_goesOn 36 = .ok (.iload 4, 2) := by decide +kernel
theorem dX9_goesOn_38 : decode cX9_goesOn 38 = .ok (.putfield 38, 3) := by decide +kernel
theorem dX9_goesOn_41 : decode cX9_goesOn 41 = .ok (.aload_n 0, 1) := by decide +kernel
theorem dX9_goesOn_42 : decode cX9_goesOn 42 = .ok (.iload 4, 2) := by decide +kernel
theorem dX9_goesOn_44 : decode cX9_goesOn 44 = .ok (.putfield 127, 3) := by decide +kernel
theorem dX9_goesOn_47 : decode cX9_goesOn 47 = .ok (.aload_n 0, 1) := by decide +kernel
theorem dX9_goesOn_48 : decode cX9_goesOn 48 = .ok (.aload_n 0, 1) := by decide +kernel
theorem dX9_goesOn_49 : decode cX9_goesOn 49 = .ok (.getfield 130, 3) := by decide +kernel
theorem dX9_goesOn_52 : decode cX9_goesOn 52 = .ok (.putfield 133, 3) := by decide +kernel
theorem dX9_goesOn_55 : decode cX9_goesOn 55 = .ok (.return_, 1) := by decide +kernel
theorem dX9_goesOn_56 : decode cX9_goesOn 56 = .ok (.aload_n 0, 1) := by decide +kernel
theorem dX9_goesOn_57 : decode cX9_goesOn 57 = .ok (.getfield 32, 3) := by decide +kernel
theorem dX9_goesOn_60 : decode cX9_goesOn 60 = .ok (.tableswitch 154 0 3 #[32, 79, 99, 123], 32) := by decide +kernel
theorem dX9_goesOn_92 : decode cX9_goesOn 92 = .ok (.iload_n 3, 1) := by decide +kernel
theorem dX9_goesOn_93 : decode cX9_goesOn 93 = .ok (.ifCond .eq 121, 3) := by decide +kernel
theorem dX9_goesOn_96 : decode cX9_goesOn 96 = .ok (.iload 4, 2) := by decide +kernel
theorem dX9_goesOn_98 : decode cX9_goesOn 98 = .ok (.bipush (-9), 2) := by decide +kernel
theorem dX9_goesOn_100 : decode cX9_goesOn 100 = .ok (.if_icmp .ne 114, 3) := by decide +kernel
theorem dX9_goesOn_103 : decode cX9_goesOn 103 = .ok (.aload_n 0, 1) := by decide +kernel
theorem dX9_goesOn_104 : decode cX9_goesOn 104 = .ok (.getfield 74, 3) := by decide +kernel
theorem dX9_goesOn_107 : decode cX9_goesOn 107 = .ok (.ifCond .ne 107, 3) := by decide +kernel
theorem dX9_goesOn_110 : decode cX9_goesOn 110 = .ok (.iload_n 2, 1) := by decide +kernel
theorem dX9_goesOn_111 : decode cX9_goesOn 111 = .ok (.ifCond .ne 103, 3) := by decide +kernel
theorem dX9_goesOn_114 : decode cX9_goesOn 114 = .ok (.aload_n 0, 1) := by decide +kernel
theorem dX9_goesOn_115 : decode cX9_goesOn 115 = .ok (.aload_n 0, 1) := by decide +kernel
theorem dX9_goesOn_116 : decode cX9_goesOn 116 = .ok (.getfield 130, 3) := by decide +kernel
theorem dX9_goesOn_119 : decode cX9_goesOn 119 = .ok (.ifCond .ne 7, 3) := by decide +kernel
theorem dX9_goesOn_122 : decode cX9_goesOn 122 = .ok (.iconst 1, 1) := by decide +kernel
theorem dX9_goesOn_123 : decode cX9_goesOn 123 = .ok (.goto 4, 3) := by decide +kernel
theorem dX9_goesOn_126 : decode cX9_goesOn 126 = .ok (.iconst 3, 1) := by decide +kernel
theorem dX9_goesOn_127 : decode cX9_goesOn 127 = .ok (.putfield 32, 3) := by decide +kernel
theorem dX9_goesOn_130 : decode cX9_goesOn 130 = .ok (.aload_n 0, 1) := by decide +kernel
theorem dX9_goesOn_131 : decode cX9_goesOn 131 = .ok (.bipush (-9), 2) := by decide +kernel
theorem dX9_goesOn_133 : decode cX9_goesOn 133 = .ok (.putfield 38, 3) := by decide +kernel
theorem dX9_goesOn_136 : decode cX9_goesOn 136 = .ok (.goto 78, 3) := by decide +kernel
theorem dX9_goesOn_139 : decode cX9_goesOn 139 = .ok (.aload_n 0, 1) := by decide +kernel
theorem dX9_goesOn_140 : decode cX9_goesOn 140 = .ok (.iload_n 1, 1) := by decide +kernel
theorem dX9_goesOn_141 : decode cX9_goesOn 141 = .ok (.ifCond .eq 11, 3) := by decide +kernel
theorem dX9_goesOn_144 : decode cX9_goesOn 144 = .ok (.iload_n 2, 1) := by decide +kernel
theorem dX9_goesOn_145 : decode cX9_goesOn 145 = .ok (.ifCond .ne 7, 3) := by decide +kernel
theorem dX9_goesOn_148 : decode cX9_goesOn 148 = .ok (.iconst 2, 1) := by decide +kernel
theorem dX9_goesOn_149 : decode cX9_goesOn 149 = .ok (.goto 4, 3) := by decide +kernel
theorem dX9_goesOn_152 : decode cX9_goesOn 152 = .ok (.iconst 1, 1) := by decide +kernel
theorem dX9_goesOn_153 : decode cX9_goesOn 153 = .ok (.putfield 32, 3) := by decide +kernel
theorem dX9_goesOn_156 : decode cX9_goesOn 156 = .ok (.goto 58, 3) := by decide +kernel
theorem dX9_goesOn_159 : decode cX9_goesOn 159 = .ok (.aload_n 0, 1) := by decide +kernel
theorem dX9_goesOn_160 : decode cX9_goesOn 160 = .ok (.iload_n 2, 1) := by decide +kernel
theorem dX9_goesOn_161 : decode cX9_goesOn 161 = .ok (.ifCond .ne 11, 3) := by decide +kernel
theorem dX9_goesOn_164 : decode cX9_goesOn 164 = .ok (.aload_n 0, 1) := by decide +kernel
theorem dX9_goesOn_165 : decode cX9_goesOn 165 = .ok (.getfield 74, 3) := by decide +kernel
theorem dX9_goesOn_168 : decode cX9_goesOn 168 = .ok (.iconst 2, 1) := by decide +kernel
theorem dX9_goesOn_169 : decode cX9_goesOn 169 = .ok (.if_icmp .eq 7, 3) := by decide +kernel
theorem dX9_goesOn_172 : decode cX9_goesOn 172 = .ok (.iconst 3, 1) := by decide +kernel
theorem dX9_goesOn_173 : decode cX9_goesOn 173 = .ok (.goto 4, 3) := by decide +kernel
theorem dX9_goesOn_176 : decode cX9_goesOn 176 = .ok (.iconst 2, 1) := by decide +kernel
theorem dX9_goesOn_177 : decode cX9_goesOn 177 = .ok (.putfield 32, 3) := by decide +kernel
theorem dX9_goesOn_180 : decode cX9_goesOn 180 = .ok (.goto 34, 3) := by decide +kernel
theorem dX9_goesOn_183 : decode cX9_goesOn 183 = .ok (.iload_n 1, 1) := by decide +kernel
theorem dX9_goesOn_184 : decode cX9_goesOn 184 = .ok (.ifCond .eq 30, 3) := by decide +kernel
theorem dX9_goesOn_187 : decode cX9_goesOn 187 = .ok (.iload_n 2, 1) := by decide +kernel
theorem dX9_goesOn_188 : decode cX9_goesOn 188 = .ok (.ifCond .ne 26, 3) := by decide +kernel
theorem dX9_goesOn_191 : decode cX9_goesOn 191 = .ok (.aload_n 0, 1) := by decide +kernel
theorem dX9_goesOn_192 : decode cX9_goesOn 192 = .ok (.aload_n 0, 1) := by decide +kernel
theorem dX9_goesOn_193 : decode cX9_goesOn 193 = .ok (.getfield 130, 3) := by decide +kernel
theorem dX9_goesOn_196 : decode cX9_goesOn 196 = .ok (.aload_n 0, 1) := by decide +kernel
theorem dX9_goesOn_197 : decode cX9_goesOn 197 = .ok (.getfield 22, 3) := by decide +kernel
theorem dX9_goesOn_200 : decode cX9_goesOn 200 = .ok (.if_icmp .ge 7, 3) := by decide +kernel
theorem dX9_goesOn_203 : decode cX9_goesOn 203 = .ok (.iconst 2, 1) := by decide +kernel
theorem dX9_goesOn_204 : decode cX9_goesOn 204 = .ok (.goto 4, 3) := by decide +kernel
theorem dX9_goesOn_207 : decode cX9_goesOn 207 = .ok (.iconst 4, 1) := by decide +kernel
theorem dX9_goesOn_208 : decode cX9_goesOn 208 = .ok (.putfield 32, 3) := by decide +kernel
theorem dX9_goesOn_211 : decode cX9_goesOn 211 = .ok (.goto 3, 3) := by decide +kernel
theorem dX9_goesOn_214 : decode cX9_goesOn 214 = .ok (.return_, 1) := by decide +kernel
set_option maxRecDepth 20000 in
theorem ggX9_slides_X9_valveAt : GoodIn wsX9_slides wsX9_valveAt := goodIn_r _ [12, 13, 14, 15, 16, 17, 18, 19, 20, 21, 22, 23, 24, 25, 26, 27, 28, 29, 30, 31, 32, 33, 34, 35, 36, 37, 38, 39, 40, 41, 42, 43, 44, 45, 46, 47, 48, 49, 50, 51, 52, 53, 54] (by decide +kernel) (by decide +kernel)
set_option maxRecDepth 20000 in
theorem gX9_slides_X9_valveAt : GoodIn wsX9_slides (wsV RX9 110 RX9 yX9_valveAt wsX9_valveAt) := goodIn_app (goodIn_of _ (by decide +kernel)) ggX9_slides_X9_valveAt
theorem dX9_slides_0 : decode cX9_slides 0 = .ok (.aload_n 0, 1) := by decide +kernel
theorem dX9_slides_1 : decode cX9_slides 1 = .ok (.iconst 0, 1) := by decide +kernel
theorem dX9_slides_2 : decode cX9_slides 2 = .ok (.putfield 136, 3) := by decide +kernel
theorem dX9_slides_5 : decode cX9_slides 5 = .ok (.aload_n 0, 1) := by decide +kernel
theorem dX9_slides_6 : decode cX9_slides 6 = .ok (.iconst 0, 1) := by decide +kernel
theorem dX9_slides_7 : decode cX9_slides 7 = .ok (.putfield 139, 3) := by decide +kernel
theorem dX9_slides_10 : decode cX9_slides 10 = .ok (.aload_n 0, 1) := by decide +kernel
theorem dX9_slides_11 : decode cX9_slides 11 = .ok (.iconst 0, 1) := by decide +kernel
theorem dX9_slides_12 : decode cX9_slides 12 = .ok (.invokevirtual 110, 3) := by decide +kernel
theorem dX9_slides_15 : decode cX9_slides 15 = .ok (.iconst 1, 1) := by decide +kernel
theorem dX9_slides_16 : decode cX9_slides 16 = .ok (.if_icmp .ne 23, 3) := by decide +kernel
theorem dX9_slides_19 : decode cX9_slides 19 = .ok (.aload_n 0, 1) := by decide +kernel
theorem dX9_slides_20 : decode cX9_slides 20 = .ok (.iconst 1, 1) := by decide +kernel
theorem dX9_slides_21 : decode cX9_slides 21 = .ok (.invokevirtual 110, 3) := by decide +kernel
theorem dX9_slides_24 : decode cX9_slides 24 = .ok (.iconst 1, 1) := by decide +kernel
theorem dX9_slides_25 : decode cX9_slides 25 = .ok (.if_icmp .ne 14, 3) := by decide +kernel
theorem dX9_slides_28 : decode cX9_slides 28 = .ok (.aload_n 0, 1) := by decide +kernel
theorem dX9_slides_29 : decode cX9_slides 29 = .ok (.aload_n 0, 1) := by decide +kernel
theorem dX9_slides_30 : decode cX9_slides 30 = .ok (.getfield 19, 3) := by decide +kernel
theorem dX9_slides_33 : decode cX9_slides 33 = .ok (.putfield 142, 3) := by decide +kernel
theorem dX9_slides_36 : decode cX9_slides 36 = .ok (.goto 24, 3) := by decide +kernel
theorem dX9_slides_39 : decode cX9_slides 39 = .ok (.aload_n 0, 1) := by decide +kernel
theorem dX9_slides_40 : decode cX9_slides 40 = .ok (.getfield 142, 3) := by decide +kernel
theorem dX9_slides_43 : decode cX9_slides 43 = .ok (.ifCond .le 16, 3) := by decide +kernel
theorem dX9_slides_46 : decode cX9_slides 46 = .ok (.aload_n 0, 1) := by decide +kernel
theorem dX9_slides_47 : decode cX9_slides 47 = .ok (.dup, 1) := by decide +kernel
theorem dX9_slides_48 : decode cX9_slides 48 = .ok (.getfield 142, 3) := by decide +kernel
theorem dX9_slides_51 : decode cX9_slides 51 = .ok (.iconst 1, 1) := by decide +kernel
theorem dX9_slides_52 : decode cX9_slides 52 = .ok (.isub, 1) := by decide +kernel
theorem dX9_slides_53 : decode cX9_slides 53 = .ok (.putfield 142, 3) := by decide +kernel
theorem dX9_slides_56 : decode cX9_slides 56 = .ok (.goto 4, 3) := by decide +kernel
theorem dX9_slides_59 : decode cX9_slides 59 = .ok (.return_, 1) := by decide +kernel
theorem dX9_slides_60 : decode cX9_slides 60 = .ok (.aload_n 0, 1) := by decide +kernel
theorem dX9_slides_61 : decode cX9_slides 61 = .ok (.aload_n 0, 1) := by decide +kernel
theorem dX9_slides_62 : decode cX9_slides 62 = .ok (.getfield 130, 3) := by decide +kernel
theorem dX9_slides_65 : decode cX9_slides 65 = .ok (.aload_n 0, 1) := by decide +kernel
theorem dX9_slides_66 : decode cX9_slides 66 = .ok (.getfield 22, 3) := by decide +kernel
theorem dX9_slides_69 : decode cX9_slides 69 = .ok (.if_icmp .ge 20, 3) := by decide +kernel
theorem dX9_slides_72 : decode cX9_slides 72 = .ok (.iload_n 1, 1) := by decide +kernel
theorem dX9_slides_73 : decode cX9_slides 73 = .ok (.iconst 4, 1) := by decide +kernel
theorem dX9_slides_74 : decode cX9_slides 74 = .ok (.ishr, 1) := by decide +kernel
theorem dX9_slides_75 : decode cX9_slides 75 = .ok (.iconst 3, 1) := by decide +kernel
theorem dX9_slides_76 : decode cX9_slides 76 = .ok (.iand, 1) := by decide +kernel
theorem dX9_slides_77 : decode cX9_slides 77 = .ok (.iconst 3, 1) := by decide +kernel
theorem dX9_slides_78 : decode cX9_slides 78 = .ok (.if_icmp .eq 11, 3) := by decide +kernel
theorem dX9_slides_81 : decode cX9_slides 81 = .ok (.iload_n 2, 1) := by decide +kernel
theorem dX9_slides_82 : decode cX9_slides 82 = .ok (.ifCond .ne 7, 3) := by decide +kernel
theorem dX9_slides_85 : decode cX9_slides 85 = .ok (.iconst 1, 1) := by decide +kernel
theorem dX9_slides_86 : decode cX9_slides 86 = .ok (.goto 4, 3) := by decide +kernel
theorem dX9_slides_89 : decode cX9_slides 89 = .ok (.iconst 0, 1) := by decide +kernel
theorem dX9_slides_90 : decode cX9_slides 90 = .ok (.putfield 136, 3) := by decide +kernel
theorem dX9_slides_93 : decode cX9_slides 93 = .ok (.aload_n 0, 1) := by decide +kernel
theorem dX9_slides_94 : decode cX9_slides 94 = .ok (.aload_n 0, 1) := by decide +kernel
theorem dX9_slides_95 : decode cX9_slides 95 = .ok (.getfield 130, 3) := by decide +kernel
theorem dX9_slides_98 : decode cX9_slides 98 = .ok (.iconst 1, 1) := by decide +kernel
theorem dX9_slides_99 : decode cX9_slides 99 = .ok (.iadd, 1) := by decide +kernel
theorem dX9_slides_100 : decode cX9_slides 100 = .ok (.iconst 2, 1) := by decide +kernel
theorem dX9_slides_101 : decode cX9_slides 101 = .ok (.aload_n 0, 1) := by decide +kernel
theorem dX9_slides_102 : decode cX9_slides 102 = .ok (.getfield 22, 3) := by decide +kernel
theorem dX9_slides_105 : decode cX9_slides 105 = .ok (.imul, 1) := by decide +kernel
theorem dX9_slides_106 : decode cX9_slides 106 = .ok (.if_icmp .ne 7, 3) := by decide +kernel
theorem dX9_slides_109 : decode cX9_slides 109 = .ok (.iconst 0, 1) := by decide +kernel
theorem dX9_slides_110 : decode cX9_slides 110 = .ok (.goto 9, 3) := by decide +kernel
theorem dX9_slides_113 : decode cX9_slides 113 = .ok (.aload_n 0, 1) := by decide +kernel
theorem dX9_slides_114 : decode cX9_slides 114 = .ok (.getfield 130, 3) := by decide +kernel
theorem dX9_slides_117 : decode cX9_slides 117 = .ok (.iconst 1, 1) := by decide +kernel
theorem dX9_slides_118 : decode cX9_slides 118 = .ok (.iadd, 1) := by decide +kernel
theorem dX9_slides_119 : decode cX9_slides 119 = .ok (.putfield 130, 3) := by decide +kernel
theorem dX9_slides_122 : decode cX9_slides 122 = .ok (.aload_n 0, 1) := by decide +kernel
theorem dX9_slides_123 : decode cX9_slides 123 = .ok (.getfield 130, 3) := by decide +kernel
theorem dX9_slides_126 : decode cX9_slides 126 = .ok (.aload_n 0, 1) := by decide +kernel
theorem dX9_slides_127 : decode cX9_slides 127 = .ok (.getfield 22, 3) := by decide +kernel
theorem dX9_slides_130 : decode cX9_slides 130 = .ok (.if_icmp .ne 16, 3) := by decide +kernel
theorem dX9_slides_133 : decode cX9_slides 133 = .ok (.aload_n 0, 1) := by decide +kernel
theorem dX9_slides_134 : decode cX9_slides 134 = .ok (.getfield 32, 3) := by decide +kernel
theorem dX9_slides_137 : decode cX9_slides 137 = .ok (.iconst 2, 1) := by decide +kernel
theorem dX9_slides_138 : decode cX9_slides 138 = .ok (.if_icmp .ne 8, 3) := by decide +kernel
theorem dX9_slides_141 : decode cX9_slides 141 = .ok (.aload_n 0, 1) := by decide +kernel
theorem dX9_slides_142 : decode cX9_slides 142 = .ok (.iconst 4, 1) := by decide +kernel
theorem dX9_slides_143 : decode cX9_slides 143 = .ok (.putfield 32, 3) := by decide +kernel
theorem dX9_slides_146 : decode cX9_slides 146 = .ok (.aload_n 0, 1) := by decide +kernel
theorem dX9_slides_147 : decode cX9_slides 147 = .ok (.getfield 130, 3) := by decide +kernel
theorem dX9_slides_150 : decode cX9_slides 150 = .ok (.ifCond .ne 41, 3) := by decide +kernel
theorem dX9_slides_153 : decode cX9_slides 153 = .ok (.aload_n 0, 1) := by decide +kernel
theorem dX9_slides_154 : decode cX9_slides 154 = .ok (.iconst 0, 1) := by decide +kernel
theorem dX9_slides_155 : decode cX9_slides 155 = .ok (.putfield 142, 3) := by decide +kernel
theorem dX9_slides_158 : decode cX9_slides 158 = .ok (.aload_n 0, 1) := by decide +kernel
theorem dX9_slides_159 : decode cX9_slides 159 = .ok (.iconst 1, 1) := by decide +kernel
theorem dX9_slides_160 : decode cX9_slides 160 = .ok (.putfield 139, 3) := by decide +kernel
theorem dX9_slides_163 : decode cX9_slides 163 = .ok (.aload_n 0, 1) := by decide +kernel
theorem dX9_slides_164 : decode cX9_slides 164 = .ok (.aload_n 0, 1) := by decide +kernel
theorem dX9_slides_165 : decode cX9_slides 165 = .ok (.getfield 32, 3) := by decide +kernel
theorem dX9_slides_168 : decode cX9_slides 168 = .ok (.iconst 4, 1) := by decide +kernel
theorem dX9_slides_169 : decode cX9_slides 169 = .ok (.if_icmp .eq 11, 3) := by decide +kernel
theorem dX9_slides_172 : decode cX9_slides 172 = .ok (.aload_n 0, 1) := by decide +kernel
theorem dX9_slides_173 : decode cX9_slides 173 = .ok (.getfield 32, 3) := by decide +kernel
theorem dX9_slides_176 : decode cX9_slides 176 = .ok (.iconst 3, 1) := by decide +kernel
theorem dX9_slides_177 : decode cX9_slides 177 = .ok (.if_icmp .ne 7, 3) := by decide +kernel
theorem dX9_slides_180 : decode cX9_slides 180 = .ok (.iconst 1, 1) := by decide +kernel
theorem dX9_slides_181 : decode cX9_slides 181 = .ok (.goto 7, 3) := by decide +kernel
theorem dX9_slides_184 : decode cX9_slides 184 = .ok (.aload_n 0, 1) := by decide +kernel
theorem dX9_slides_185 : decode cX9_slides 185 = .ok (.getfield 32, 3) := by decide +kernel
theorem dX9_slides_188 : decode cX9_slides 188 = .ok (.putfield 32, 3) := by decide +kernel
theorem dX9_slides_191 : decode cX9_slides 191 = .ok (.return_, 1) := by decide +kernel
theorem dX9_stateOf_0 : decode cX9_stateOf 0 = .ok (.aload_n 0, 1) := by decide +kernel
theorem dX9_stateOf_1 : decode cX9_stateOf 1 = .ok (.getfield 32, 3) := by decide +kernel
theorem dX9_stateOf_4 : decode cX9_stateOf 4 = .ok (.i2l, 1) := by decide +kernel
theorem dX9_stateOf_5 : decode cX9_stateOf 5 = .ok (.lstore_n 1, 1) := by decide +kernel
theorem dX9_stateOf_6 : decode cX9_stateOf 6 = .ok (.ldc2_w 145, 3) := by decide +kernel
theorem dX9_stateOf_9 : decode cX9_stateOf 9 = .ok (.lload_n 1, 1) := by decide +kernel
theorem dX9_stateOf_10 : decode cX9_stateOf 10 = .ok (.lmul, 1) := by decide +kernel
theorem dX9_stateOf_11 : decode cX9_stateOf 11 = .ok (.aload_n 0, 1) := by decide +kernel
theorem dX9_stateOf_12 : decode cX9_stateOf 12 = .ok (.getfield 74, 3) := by decide +kernel
theorem dX9_stateOf_15 : decode cX9_stateOf 15 = .ok (.i2l, 1) := by decide +kernel
theorem dX9_stateOf_16 : decode cX9_stateOf 16 = .ok (.ladd, 1) := by decide +kernel
theorem dX9_stateOf_17 : decode cX9_stateOf 17 = .ok (.lstore_n 1, 1) := by decide +kernel
theorem dX9_stateOf_18 : decode cX9_stateOf 18 = .ok (.ldc2_w 147, 3) := by decide +kernel
theorem dX9_stateOf_21 : decode cX9_stateOf 21 = .ok (.lload_n 1, 1) := by decide +kernel
theorem dX9_stateOf_22 : decode cX9_stateOf 22 = .ok (.lmul, 1) := by decide +kernel
theorem dX9_stateOf_23 : decode cX9_stateOf 23 = .ok (.aload_n 0, 1) := by decide +kernel
theorem dX9_stateOf_24 : decode cX9_stateOf 24 = .ok (.getfield 77, 3) := by decide +kernel
theorem dX9_stateOf_27 : decode cX9_stateOf 27 = .ok (.i2l, 1) := by decide +kernel
theorem dX9_stateOf_28 : decode cX9_stateOf 28 = .ok (.ladd, 1) := by decide +kernel
theorem dX9_stateOf_29 : decode cX9_stateOf 29 = .ok (.lstore_n 1, 1) := by decide +kernel
theorem dX9_stateOf_30 : decode cX9_stateOf 30 = .ok (.ldc2_w 149, 3) := by decide +kernel
theorem dX9_stateOf_33 : decode cX9_stateOf 33 = .ok (.lload_n 1, 1) := by decide +kernel
theorem dX9_stateOf_34 : decode cX9_stateOf 34 = .ok (.lmul, 1) := by decide +kernel
theorem dX9_stateOf_35 : decode cX9_stateOf 35 = .ok (.aload_n 0, 1) := by decide +kernel
theorem dX9_stateOf_36 : decode cX9_stateOf 36 = .ok (.getfield 86, 3) := by decide +kernel
theorem dX9_stateOf_39 : decode cX9_stateOf 39 = .ok (.i2l, 1) := by decide +kernel
theorem dX9_stateOf_40 : decode cX9_stateOf 40 = .ok (.ladd, 1) := by decide +kernel
theorem dX9_stateOf_41 : decode cX9_stateOf 41 = .ok (.lstore_n 1, 1) := by decide +kernel
theorem dX9_stateOf_42 : decode cX9_stateOf 42 = .ok (.ldc2_w 151, 3) := by decide +kernel
theorem dX9_stateOf_45 : decode cX9_stateOf 45 = .ok (.lload_n 1, 1) := by decide +kernel
theorem dX9_stateOf_46 : decode cX9_stateOf 46 = .ok (.lmul, 1) := by decide +kernel
theorem dX9_stateOf_47 : decode cX9_stateOf 47 = .ok (.aload_n 0, 1) := by decide +kernel
theorem dX9_stateOf_48 : decode cX9_stateOf 48 = .ok (.getfield 100, 3) := by decide +kernel
theorem dX9_stateOf_51 : decode cX9_stateOf 51 = .ok (.i2l, 1) := by decide +kernel
theorem dX9_stateOf_52 : decode cX9_stateOf 52 = .ok (.ladd, 1) := by decide +kernel
theorem dX9_stateOf_53 : decode cX9_stateOf 53 = .ok (.lstore_n 1, 1) := by decide +kernel
theorem dX9_stateOf_54 : decode cX9_stateOf 54 = .ok (.iconst 0, 1) := by decide +kernel
theorem dX9_stateOf_55 : decode cX9_stateOf 55 = .ok (.istore_n 3, 1) := by decide +kernel
theorem dX9_stateOf_56 : decode cX9_stateOf 56 = .ok (.iload_n 3, 1) := by decide +kernel
theorem dX9_stateOf_57 : decode cX9_stateOf 57 = .ok (.iconst 3, 1) := by decide +kernel
theorem dX9_stateOf_58 : decode cX9_stateOf 58 = .ok (.if_icmp .ge 23, 3) := by decide +kernel
theorem dX9_stateOf_61 : decode cX9_stateOf 61 = .ok (.ldc2_w 147, 3) := by decide +kernel
theorem dX9_stateOf_64 : decode cX9_stateOf 64 = .ok (.lload_n 1, 1) := by decide +kernel
theorem dX9_stateOf_65 : decode cX9_stateOf 65 = .ok (.lmul, 1) := by decide +kernel
theorem dX9_stateOf_66 : decode cX9_stateOf 66 = .ok (.aload_n 0, 1) := by decide +kernel
theorem dX9_stateOf_67 : decode cX9_stateOf 67 = .ok (.getfield 35, 3) := by decide +kernel
theorem dX9_stateOf_70 : decode cX9_stateOf 70 = .ok (.iload_n 3, 1) := by decide +kernel
theorem dX9_stateOf_71 : decode cX9_stateOf 71 = .ok (.iaload, 1) := by decide +kernel
theorem dX9_stateOf_72 : decode cX9_stateOf 72 = .ok (.i2l, 1) := by decide +kernel
theorem dX9_stateOf_73 : decode cX9_stateOf 73 = .ok (.ladd, 1) := by decide +kernel
theorem dX9_stateOf_74 : decode cX9_stateOf 74 = .ok (.lstore_n 1, 1) := by decide +kernel
theorem dX9_stateOf_75 : decode cX9_stateOf 75 = .ok (.iinc 3 1, 3) := by decide +kernel
theorem dX9_stateOf_78 : decode cX9_stateOf 78 = .ok (.goto (-22), 3) := by decide +kernel
theorem dX9_stateOf_81 : decode cX9_stateOf 81 = .ok (.ldc2_w 147, 3) := by decide +kernel
theorem dX9_stateOf_84 : decode cX9_stateOf 84 = .ok (.lload_n 1, 1) := by decide +kernel
theorem dX9_stateOf_85 : decode cX9_stateOf 85 = .ok (.lmul, 1) := by decide +kernel
theorem dX9_stateOf_86 : decode cX9_stateOf 86 = .ok (.aload_n 0, 1) := by decide +kernel
theorem dX9_stateOf_87 : decode cX9_stateOf 87 = .ok (.getfield 83, 3) := by decide +kernel
theorem dX9_stateOf_90 : decode cX9_stateOf 90 = .ok (.i2l, 1) := by decide +kernel
theorem dX9_stateOf_91 : decode cX9_stateOf 91 = .ok (.ladd, 1) := by decide +kernel
theorem dX9_stateOf_92 : decode cX9_stateOf 92 = .ok (.lstore_n 1, 1) := by decide +kernel
theorem dX9_stateOf_93 : decode cX9_stateOf 93 = .ok (.ldc2_w 153, 3) := by decide +kernel
theorem dX9_stateOf_96 : decode cX9_stateOf 96 = .ok (.lload_n 1, 1) := by decide +kernel
theorem dX9_stateOf_97 : decode cX9_stateOf 97 = .ok (.lmul, 1) := by decide +kernel
theorem dX9_stateOf_98 : decode cX9_stateOf 98 = .ok (.aload_n 0, 1) := by decide +kernel
theorem dX9_stateOf_99 : decode cX9_stateOf 99 = .ok (.getfield 80, 3) := by decide +kernel
theorem dX9_stateOf_102 : decode cX9_stateOf 102 = .ok (.i2l, 1) := by decide +kernel
theorem dX9_stateOf_103 : decode cX9_stateOf 103 = .ok (.ladd, 1) := by decide +kernel
theorem dX9_stateOf_104 : decode cX9_stateOf 104 = .ok (.lstore_n 1, 1) := by decide +kernel
theorem dX9_stateOf_105 : decode cX9_stateOf 105 = .ok (.ldc2_w 151, 3) := by decide +kernel
theorem dX9_stateOf_108 : decode cX9_stateOf 108 = .ok (.lload_n 1, 1) := by decide +kernel
theorem dX9_stateOf_109 : decode cX9_stateOf 109 = .ok (.lmul, 1) := by decide +kernel
theorem dX9_stateOf_110 : decode cX9_stateOf 110 = .ok (.aload_n 0, 1) := by decide +kernel
theorem dX9_stateOf_111 : decode cX9_stateOf 111 = .ok (.getfield 130, 3) := by decide +kernel
theorem dX9_stateOf_114 : decode cX9_stateOf 114 = .ok (.i2l, 1) := by decide +kernel
theorem dX9_stateOf_115 : decode cX9_stateOf 115 = .ok (.ladd, 1) := by decide +kernel
theorem dX9_stateOf_116 : decode cX9_stateOf 116 = .ok (.lstore_n 1, 1) := by decide +kernel
theorem dX9_stateOf_117 : decode cX9_stateOf 117 = .ok (.ldc2_w 145, 3) := by decide +kernel
theorem dX9_stateOf_120 : decode cX9_stateOf 120 = .ok (.lload_n 1, 1) := by decide +kernel
theorem dX9_stateOf_121 : decode cX9_stateOf 121 = .ok (.lmul, 1) := by decide +kernel
theorem dX9_stateOf_122 : decode cX9_stateOf 122 = .ok (.aload_n 0, 1) := by decide +kernel
theorem dX9_stateOf_123 : decode cX9_stateOf 123 = .ok (.getfield 142, 3) := by decide +kernel
theorem dX9_stateOf_126 : decode cX9_stateOf 126 = .ok (.i2l, 1) := by decide +kernel
theorem dX9_stateOf_127 : decode cX9_stateOf 127 = .ok (.ladd, 1) := by decide +kernel
theorem dX9_stateOf_128 : decode cX9_stateOf 128 = .ok (.lstore_n 1, 1) := by decide +kernel
theorem dX9_stateOf_129 : decode cX9_stateOf 129 = .ok (.ldc2_w 153, 3) := by decide +kernel
theorem dX9_stateOf_132 : decode cX9_stateOf 132 = .ok (.lload_n 1, 1) := by decide +kernel
theorem dX9_stateOf_133 : decode cX9_stateOf 133 = .ok (.lmul, 1) := by decide +kernel
theorem dX9_stateOf_134 : decode cX9_stateOf 134 = .ok (.aload_n 0, 1) := by decide +kernel
theorem dX9_stateOf_135 : decode cX9_stateOf 135 = .ok (.getfield 113, 3) := by decide +kernel
theorem dX9_stateOf_138 : decode cX9_stateOf 138 = .ok (.i2l, 1) := by decide +kernel
theorem dX9_stateOf_139 : decode cX9_stateOf 139 = .ok (.ladd, 1) := by decide +kernel
theorem dX9_stateOf_140 : decode cX9_stateOf 140 = .ok (.lreturn, 1) := by decide +kernel
theorem dX9_takes_0 : decode cX9_takes 0 = .ok (.aload_n 0, 1) := by decide +kernel
theorem dX9_takes_1 : decode cX9_takes 1 = .ok (.getfield 155, 3) := by decide +kernel
theorem dX9_takes_4 : decode cX9_takes 4 = .ok (.lload_n 1, 1) := by decide +kernel
theorem dX9_takes_5 : decode cX9_takes 5 = .ok (.lrem, 1) := by decide +kernel
theorem dX9_takes_6 : decode cX9_takes 6 = .ok (.l2i, 1) := by decide +kernel
theorem dX9_takes_7 : decode cX9_takes 7 = .ok (.istore_n 3, 1) := by decide +kernel
theorem dX9_takes_8 : decode cX9_takes 8 = .ok (.aload_n 0, 1) := by decide +kernel
theorem dX9_takes_9 : decode cX9_takes 9 = .ok (.dup, 1) := by decide +kernel
theorem dX9_takes_10 : decode cX9_takes 10 = .ok (.getfield 155, 3) := by decide +kernel
theorem dX9_takes_13 : decode cX9_takes 13 = .ok (.lload_n 1, 1) := by decide +kernel
theorem dX9_takes_14 : decode cX9_takes 14 = .ok (.ldiv, 1) := by decide +kernel
theorem dX9_takes_15 : decode cX9_takes 15 = .ok (.putfield 155, 3) := by decide +kernel
theorem dX9_takes_18 : decode cX9_takes 18 = .ok (.iload_n 3, 1) := by decide +kernel
theorem dX9_takes_19 : decode cX9_takes 19 = .ok (.ireturn, 1) := by decide +kernel
set_option maxRecDepth 20000 in
theorem ggX9_becomes_X9_takes : GoodIn wsX9_becomes wsX9_takes := goodIn_r _ [23, 1, 24, 25, 26, 27, 28, 29, 30, 31, 32, 33, 34, 35, 36, 37, 38, 39, 40, 41, 42, 43, 44, 45, 46, 47, 48, 49, 50, 51, 52, 53, 54, 55, 56, 57, 58, 59, 60, 61, 62, 63] (by decide +kernel) (by decide +kernel)
set_option maxRecDepth 20000 in
theorem gX9_becomes_X9_takes : GoodIn wsX9_becomes (wsV RX9 159 RX9 yX9_takes wsX9_takes) := goodIn_app (goodIn_of _ (by decide +kernel)) ggX9_becomes_X9_takes
theorem dX9_becomes_0 : decode cX9_becomes 0 = .ok (.aload_n 0, 1) := by decide +kernel
theorem dX9_becomes_1 : decode cX9_becomes 1 = .ok (.lload_n 1, 1) := by decide +kernel
theorem dX9_becomes_2 : decode cX9_becomes 2 = .ok (.putfield 155, 3) := by decide +kernel
theorem dX9_becomes_5 : decode cX9_becomes 5 = .ok (.aload_n 0, 1) := by decide +kernel
theorem dX9_becomes_6 : decode cX9_becomes 6 = .ok (.aload_n 0, 1) := by decide +kernel
theorem dX9_becomes_7 : decode cX9_becomes 7 = .ok (.ldc2_w 153, 3) := by decide +kernel
theorem dX9_becomes_10 : decode cX9_becomes 10 = .ok (.invokevirtual 159, 3) := by decide +kernel
theorem dX9_becomes_13 : decode cX9_becomes 13 = .ok (.putfield 113, 3) := by decide +kernel
theorem dX9_becomes_16 : decode cX9_becomes 16 = .ok (.aload_n 0, 1) := by decide +kernel
theorem dX9_becomes_17 : decode cX9_becomes 17 = .ok (.aload_n 0, 1) := by decide +kernel
theorem dX9_becomes_18 : decode cX9_becomes 18 = .ok (.ldc2_w 145, 3) := by decide +kernel
theorem dX9_becomes_21 : decode cX9_becomes 21 = .ok (.invokevirtual 159, 3) := by decide +kernel
theorem dX9_becomes_24 : decode cX9_becomes 24 = .ok (.putfield 142, 3) := by decide +kernel
theorem dX9_becomes_27 : decode cX9_becomes 27 = .ok (.aload_n 0, 1) := by decide +kernel
theorem dX9_becomes_28 : decode cX9_becomes 28 = .ok (.aload_n 0, 1) := by decide +kernel
theorem dX9_becomes_29 : decode cX9_becomes 29 = .ok (.ldc2_w 151, 3) := by decide +kernel
theorem dX9_becomes_32 : decode cX9_becomes 32 = .ok (.invokevirtual 159, 3) := by decide +kernel
theorem dX9_becomes_35 : decode cX9_becomes 35 = .ok (.putfield 130, 3) := by decide +kernel
theorem dX9_becomes_38 : decode cX9_becomes 38 = .ok (.aload_n 0, 1) := by decide +kernel
theorem dX9_becomes_39 : decode cX9_becomes 39 = .ok (.aload_n 0, 1) := by decide +kernel
theorem dX9_becomes_40 : decode cX9_becomes 40 = .ok (.ldc2_w 153, 3) := by decide +kernel
theorem dX9_becomes_43 : decode cX9_becomes 43 = .ok (.invokevirtual 159, 3) := by decide +kernel
theorem dX9_becomes_46 : decode cX9_becomes 46 = .ok (.putfield 80, 3) := by decide +kernel
theorem dX9_becomes_49 : decode cX9_becomes 49 = .ok (.aload_n 0, 1) := by decide +kernel
theorem dX9_becomes_50 : decode cX9_becomes 50 = .ok (.aload_n 0, 1) := by decide +kernel
theorem dX9_becomes_51 : decode cX9_becomes 51 = .ok (.ldc2_w 147, 3) := by decide +kernel
theorem dX9_becomes_54 : decode cX9_becomes 54 = .ok (.invokevirtual 159, 3) := by decide +kernel
theorem dX9_becomes_57 : decode cX9_becomes 57 = .ok (.putfield 83, 3) := by decide +kernel
theorem dX9_becomes_60 : decode cX9_becomes 60 = .ok (.iconst 2, 1) := by decide +kernel
theorem dX9_becomes_61 : decode cX9_becomes 61 = .ok (.istore 4, 2) := by decide +kernel
theorem dX9_becomes_63 : decode cX9_becomes 63 = .ok (.iload 4, 2) := by decide +kernel
theorem dX9_becomes_65 : decode cX9_becomes 65 = .ok (.ifCond .lt 23, 3) := by decide +kernel
theorem dX9_becomes_68 : decode cX9_becomes 68 = .ok (.aload_n 0, 1) := by decide +kernel
theorem dX9_becomes_69 : decode cX9_becomes 69 = .ok (.getfield 35, 3) := by decide +kernel
theorem dX9_becomes_72 : decode cX9_becomes 72 = .ok (.iload 4, 2) := by decide +kernel
theorem dX9_becomes_74 : decode cX9_becomes 74 = .ok (.aload_n 0, 1) := by decide +kernel
theorem dX9_becomes_75 : decode cX9_becomes 75 = .ok (.ldc2_w 147, 3) := by decide +kernel
theorem dX9_becomes_78 : decode cX9_becomes 78 = .ok (.invokevirtual 159, 3) := by decide +kernel
theorem dX9_becomes_81 : decode cX9_becomes 81 = .ok (.iastore, 1) := by decide +kernel
theorem dX9_becomes_82 : decode cX9_becomes 82 = .ok (.iinc 4 (-1), 3) := by decide +kernel
theorem dX9_becomes_85 : decode cX9_becomes 85 = .ok (.goto (-22), 3) := by decide +kernel
theorem dX9_becomes_88 : decode cX9_becomes 88 = .ok (.aload_n 0, 1) := by decide +kernel
theorem dX9_becomes_89 : decode cX9_becomes 89 = .ok (.aload_n 0, 1) := by decide +kernel
theorem dX9_becomes_90 : decode cX9_becomes 90 = .ok (.ldc2_w 151, 3) := by decide +kernel
theorem dX9_becomes_93 : decode cX9_becomes 93 = .ok (.invokevirtual 159, 3) := by decide +kernel
theorem dX9_becomes_96 : decode cX9_becomes 96 = .ok (.putfield 100, 3) := by decide +kernel
theorem dX9_becomes_99 : decode cX9_becomes 99 = .ok (.aload_n 0, 1) := by decide +kernel
theorem dX9_becomes_100 : decode cX9_becomes 100 = .ok (.aload_n 0, 1) := by decide +kernel
theorem dX9_becomes_101 : decode cX9_becomes 101 = .ok (.ldc2_w 149, 3) := by decide +kernel
theorem dX9_becomes_104 : decode cX9_becomes 104 = .ok (.invokevirtual 159, 3) := by decide +kernel
theorem dX9_becomes_107 : decode cX9_becomes 107 = .ok (.putfield 86, 3) := by decide +kernel
theorem dX9_becomes_110 : decode cX9_becomes 110 = .ok (.aload_n 0, 1) := by decide +kernel
theorem dX9_becomes_111 : decode cX9_becomes 111 = .ok (.aload_n 0, 1) := by decide +kernel
theorem dX9_becomes_112 : decode cX9_becomes 112 = .ok (.ldc2_w 147, 3) := by decide +kernel
theorem dX9_becomes_115 : decode cX9_becomes 115 = .ok (.invokevirtual 159, 3) := by decide +kernel
theorem dX9_becomes_118 : decode cX9_becomes 118 = .ok (.putfield 77, 3) := by decide +kernel
theorem dX9_becomes_121 : decode cX9_becomes 121 = .ok (.aload_n 0, 1) := by decide +kernel
theorem dX9_becomes_122 : decode cX9_becomes 122 = .ok (.aload_n 0, 1) := by decide +kernel
theorem dX9_becomes_123 : decode cX9_becomes 123 = .ok (.ldc2_w 145, 3) := by decide +kernel
theorem dX9_becomes_126 : decode cX9_becomes 126 = .ok (.invokevirtual 159, 3) := by decide +kernel
theorem dX9_becomes_129 : decode cX9_becomes 129 = .ok (.putfield 74, 3) := by decide +kernel
theorem dX9_becomes_132 : decode cX9_becomes 132 = .ok (.aload_n 0, 1) := by decide +kernel
theorem dX9_becomes_133 : decode cX9_becomes 133 = .ok (.aload_n 0, 1) := by decide +kernel
theorem dX9_becomes_134 : decode cX9_becomes 134 = .ok (.getfield 155, 3) := by decide +kernel
theorem dX9_becomes_137 : decode cX9_becomes 137 = .ok (.l2i, 1) := by decide +kernel
theorem dX9_becomes_138 : decode cX9_becomes 138 = .ok (.putfield 32, 3) := by decide +kernel
theorem dX9_becomes_141 : decode cX9_becomes 141 = .ok (.aload_n 0, 1) := by decide +kernel
theorem dX9_becomes_142 : decode cX9_becomes 142 = .ok (.iload_n 3, 1) := by decide +kernel
theorem dX9_becomes_143 : decode cX9_becomes 143 = .ok (.putfield 38, 3) := by decide +kernel
theorem dX9_becomes_146 : decode cX9_becomes 146 = .ok (.return_, 1) := by decide +kernel
set_option maxRecDepth 20000 in
theorem ggX9_begins_X9_becomes : GoodIn wsX9_begins wsX9_becomes := goodIn_r _ [6, 7, 8, 9, 10, 11, 12, 13, 14, 15, 16, 17, 18, 19, 20, 21, 22, 1, 23, 24, 25, 26, 5, 27, 28, 29, 30, 31, 32, 33, 34, 35, 36, 37, 38, 39, 40, 41, 42, 43, 44, 45, 46, 47, 48, 49, 50, 51, 52, 53, 54, 55, 56, 57, 58, 59, 60, 61, 62, 63, 64, 65, 66, 67] (by decide +kernel) (by decide +kernel)
set_option maxRecDepth 20000 in
theorem gX9_begins_X9_becomes : GoodIn wsX9_begins (wsV RX9 163 RX9 yX9_becomes wsX9_becomes) := goodIn_app (goodIn_of _ (by decide +kernel)) ggX9_begins_X9_becomes
theorem dX9_begins_0 : decode cX9_begins 0 = .ok (.aload_n 0, 1) := by decide +kernel
theorem dX9_begins_1 : decode cX9_begins 1 = .ok (.lconst 0, 1) := by decide +kernel
theorem dX9_begins_2 : decode cX9_begins 2 = .ok (.bipush (-9), 2) := by decide +kernel
theorem dX9_begins_4 : decode cX9_begins 4 = .ok (.invokevirtual 163, 3) := by decide +kernel
theorem dX9_begins_7 : decode cX9_begins 7 = .ok (.aload_n 0, 1) := by decide +kernel
theorem dX9_begins_8 : decode cX9_begins 8 = .ok (.iconst 1, 1) := by decide +kernel
theorem dX9_begins_9 : decode cX9_begins 9 = .ok (.putfield 32, 3) := by decide +kernel
theorem dX9_begins_12 : decode cX9_begins 12 = .ok (.return_, 1) := by decide +kernel
set_option maxRecDepth 20000 in
theorem ggX9_anew_X9_within : GoodIn wsX9_anew wsX9_within := goodIn_r _ [18] (by decide +kernel) (by decide +kernel)
set_option maxRecDepth 20000 in
theorem gX9_anew_X9_within : GoodIn wsX9_anew (va_wsS RX9 66 yX9_within wsX9_within) := goodIn_app (goodIn_of _ (by decide +kernel)) ggX9_anew_X9_within
set_option maxRecDepth 20000 in
theorem ggX9_anew_X9_begins : GoodIn wsX9_anew wsX9_begins := goodIn_r _ [22, 23, 24, 25, 26, 17, 27, 28, 29, 30, 31, 32, 33, 34, 35, 36, 37, 38, 39, 40, 41, 42, 43, 44, 45, 46, 47, 48, 49, 50, 51, 52, 53, 54, 55, 56, 57, 58, 59, 60, 61, 62, 63, 64, 65, 66, 67, 68, 69, 70, 71, 72, 73, 74, 75, 76, 77, 78, 79, 80, 81, 82, 83, 84, 85, 86, 87, 88] (by decide +kernel) (by decide +kernel)
set_option maxRecDepth 20000 in
theorem gX9_anew_X9_begins : GoodIn wsX9_anew (wsV RX9 167 RX9 yX9_begins wsX9_begins) := goodIn_app (goodIn_of _ (by decide +kernel)) ggX9_anew_X9_begins
theorem dX9_anew_0 : decode cX9_anew 0 = .ok (.iload_n 1, 1) := by decide +kernel
theorem dX9_anew_1 : decode cX9_anew 1 = .ok (.iconst 0, 1) := by decide +kernel
theorem dX9_anew_2 : decode cX9_anew 2 = .ok (.iconst 5, 1) := by decide +kernel
theorem dX9_anew_3 : decode cX9_anew 3 = .ok (.invokestatic 66, 3) := by decide +kernel
theorem dX9_anew_6 : decode cX9_anew 6 = .ok (.ifCond .eq 44, 3) := by decide +kernel
theorem dX9_anew_9 : decode cX9_anew 9 = .ok (.iload_n 2, 1) := by decide +kernel
theorem dX9_anew_10 : decode cX9_anew 10 = .ok (.iconst 1, 1) := by decide +kernel
theorem dX9_anew_11 : decode cX9_anew 11 = .ok (.bipush 9, 2) := by decide +kernel
theorem dX9_anew_13 : decode cX9_anew 13 = .ok (.invokestatic 66, 3) := by decide +kernel
theorem dX9_anew_16 : decode cX9_anew 16 = .ok (.ifCond .eq 34, 3) := by decide +kernel
theorem dX9_anew_19 : decode cX9_anew 19 = .ok (.iload_n 3, 1) := by decide +kernel
theorem dX9_anew_20 : decode cX9_anew 20 = .ok (.iconst 1, 1) := by decide +kernel
theorem dX9_anew_21 : decode cX9_anew 21 = .ok (.bipush 30, 2) := by decide +kernel
theorem dX9_anew_23 : decode cX9_anew 23 = .ok (.invokestatic 66, 3) := by decide +kernel
theorem dX9_anew_26 : decode cX9_anew 26 = .ok (.ifCond .eq 24, 3) := by decide +kernel
theorem dX9_anew_29 : decode cX9_anew 29 = .ok (.iload 4, 2) := by decide +kernel
theorem dX9_anew_31 : decode cX9_anew 31 = .ok (.iconst 0, 1) := by decide +kernel
theorem dX9_anew_32 : decode cX9_anew 32 = .ok (.iconst 3, 1) := by decide +kernel
theorem dX9_anew_33 : decode cX9_anew 33 = .ok (.invokestatic 66, 3) := by decide +kernel
theorem dX9_anew_36 : decode cX9_anew 36 = .ok (.ifCond .eq 14, 3) := by decide +kernel
theorem dX9_anew_39 : decode cX9_anew 39 = .ok (.iload 5, 2) := by decide +kernel
theorem dX9_anew_41 : decode cX9_anew 41 = .ok (.iconst 2, 1) := by decide +kernel
theorem dX9_anew_42 : decode cX9_anew 42 = .ok (.bipush 9, 2) := by decide +kernel
theorem dX9_anew_44 : decode cX9_anew 44 = .ok (.invokestatic 66, 3) := by decide +kernel
theorem dX9_anew_47 : decode cX9_anew 47 = .ok (.ifCond .ne 6, 3) := by decide +kernel
theorem dX9_anew_50 : decode cX9_anew 50 = .ok (.bipush (-2), 2) := by decide +kernel
theorem dX9_anew_52 : decode cX9_anew 52 = .ok (.ireturn, 1) := by decide +kernel
theorem dX9_anew_53 : decode cX9_anew 53 = .ok (.aload_n 0, 1) := by decide +kernel
theorem dX9_anew_54 : decode cX9_anew 54 = .ok (.iload_n 1, 1) := by decide +kernel
theorem dX9_anew_55 : decode cX9_anew 55 = .ok (.putfield 7, 3) := by decide +kernel
theorem dX9_anew_58 : decode cX9_anew 58 = .ok (.aload_n 0, 1) := by decide +kernel
theorem dX9_anew_59 : decode cX9_anew 59 = .ok (.iload_n 2, 1) := by decide +kernel
theorem dX9_anew_60 : decode cX9_anew 60 = .ok (.putfield 13, 3) := by decide +kernel
theorem dX9_anew_63 : decode cX9_anew 63 = .ok (.aload_n 0, 1) := by decide +kernel
theorem dX9_anew_64 : decode cX9_anew 64 = .ok (.iload_n 3, 1) := by decide +kernel
theorem dX9_anew_65 : decode cX9_anew 65 = .ok (.putfield 16, 3) := by decide +kernel
theorem dX9_anew_68 : decode cX9_anew 68 = .ok (.aload_n 0, 1) := by decide +kernel
theorem dX9_anew_69 : decode cX9_anew 69 = .ok (.iload 4, 2) := by decide +kernel
theorem dX9_anew_71 : decode cX9_anew 71 = .ok (.putfield 19, 3) := by decide +kernel
theorem dX9_anew_74 : decode cX9_anew 74 = .ok (.aload_n 0, 1) := by decide +kernel
theorem dX9_anew_75 : decode cX9_anew 75 = .ok (.iload 5, 2) := by decide +kernel
theorem dX9_anew_77 : decode cX9_anew 77 = .ok (.putfield 22, 3) := by decide +kernel
theorem dX9_anew_80 : decode cX9_anew 80 = .ok (.iconst 0, 1) := by decide +kernel
theorem dX9_anew_81 : decode cX9_anew 81 = .ok (.istore 6, 2) := by decide +kernel
theorem dX9_anew_83 : decode cX9_anew 83 = .ok (.iload 6, 2) := by decide +kernel
theorem dX9_anew_85 : decode cX9_anew 85 = .ok (.bipush 9, 2) := by decide +kernel
theorem dX9_anew_87 : decode cX9_anew 87 = .ok (.if_icmp .ge 17, 3) := by decide +kernel
theorem dX9_anew_90 : decode cX9_anew 90 = .ok (.aload_n 0, 1) := by decide +kernel
theorem dX9_anew_91 : decode cX9_anew 91 = .ok (.getfield 25, 3) := by decide +kernel
theorem dX9_anew_94 : decode cX9_anew 94 = .ok (.iload 6, 2) := by decide +kernel
theorem dX9_anew_96 : decode cX9_anew 96 = .ok (.iconst 2, 1) := by decide +kernel
theorem dX9_anew_97 : decode cX9_anew 97 = .ok (.iastore, 1) := by decide +kernel
theorem dX9_anew_98 : decode cX9_anew 98 = .ok (.iinc 6 1, 3) := by decide +kernel
theorem dX9_anew_101 : decode cX9_anew 101 = .ok (.goto (-18), 3) := by decide +kernel
theorem dX9_anew_104 : decode cX9_anew 104 = .ok (.aload_n 0, 1) := by decide +kernel
theorem dX9_anew_105 : decode cX9_anew 105 = .ok (.getfield 29, 3) := by decide +kernel
theorem dX9_anew_108 : decode cX9_anew 108 = .ok (.iconst 0, 1) := by decide +kernel
theorem dX9_anew_109 : decode cX9_anew 109 = .ok (.iconst 2, 1) := by decide +kernel
theorem dX9_anew_110 : decode cX9_anew 110 = .ok (.iastore, 1) := by decide +kernel
theorem dX9_anew_111 : decode cX9_anew 111 = .ok (.aload_n 0, 1) := by decide +kernel
theorem dX9_anew_112 : decode cX9_anew 112 = .ok (.getfield 29, 3) := by decide +kernel
theorem dX9_anew_115 : decode cX9_anew 115 = .ok (.iconst 1, 1) := by decide +kernel
theorem dX9_anew_116 : decode cX9_anew 116 = .ok (.iconst 2, 1) := by decide +kernel
theorem dX9_anew_117 : decode cX9_anew 117 = .ok (.iastore, 1) := by decide +kernel
theorem dX9_anew_118 : decode cX9_anew 118 = .ok (.aload_n 0, 1) := by decide +kernel
theorem dX9_anew_119 : decode cX9_anew 119 = .ok (.invokevirtual 167, 3) := by decide +kernel
theorem dX9_anew_122 : decode cX9_anew 122 = .ok (.aload_n 0, 1) := by decide +kernel
theorem dX9_anew_123 : decode cX9_anew 123 = .ok (.iconst 0, 1) := by decide +kernel
theorem dX9_anew_124 : decode cX9_anew 124 = .ok (.putfield 170, 3) := by decide +kernel
theorem dX9_anew_127 : decode cX9_anew 127 = .ok (.aload_n 0, 1) := by decide +kernel
theorem dX9_anew_128 : decode cX9_anew 128 = .ok (.iconst 0, 1) := by decide +kernel
theorem dX9_anew_129 : decode cX9_anew 129 = .ok (.putfield 173, 3) := by decide +kernel
theorem dX9_anew_132 : decode cX9_anew 132 = .ok (.aload_n 0, 1) := by decide +kernel
theorem dX9_anew_133 : decode cX9_anew 133 = .ok (.iconst 0, 1) := by decide +kernel
theorem dX9_anew_134 : decode cX9_anew 134 = .ok (.putfield 176, 3) := by decide +kernel
theorem dX9_anew_137 : decode cX9_anew 137 = .ok (.aload_n 0, 1) := by decide +kernel
theorem dX9_anew_138 : decode cX9_anew 138 = .ok (.iconst 0, 1) := by decide +kernel
theorem dX9_anew_139 : decode cX9_anew 139 = .ok (.putfield 179, 3) := by decide +kernel
theorem dX9_anew_142 : decode cX9_anew 142 = .ok (.aload_n 0, 1) := by decide +kernel
theorem dX9_anew_143 : decode cX9_anew 143 = .ok (.iconst 0, 1) := by decide +kernel
theorem dX9_anew_144 : decode cX9_anew 144 = .ok (.putfield 182, 3) := by decide +kernel
theorem dX9_anew_147 : decode cX9_anew 147 = .ok (.iconst 0, 1) := by decide +kernel
theorem dX9_anew_148 : decode cX9_anew 148 = .ok (.istore 6, 2) := by decide +kernel
theorem dX9_anew_150 : decode cX9_anew 150 = .ok (.iload 6, 2) := by decide +kernel
theorem dX9_anew_152 : decode cX9_anew 152 = .ok (.aload_n 0, 1) := by decide +kernel
theorem dX9_anew_153 : decode cX9_anew 153 = .ok (.getfield 41, 3) := by decide +kernel
theorem dX9_anew_156 : decode cX9_anew 156 = .ok (.arraylength, 1) := by decide +kernel
theorem dX9_anew_157 : decode cX9_anew 157 = .ok (.if_icmp .ge 17, 3) := by decide +kernel
theorem dX9_anew_160 : decode cX9_anew 160 = .ok (.aload_n 0, 1) := by decide +kernel
theorem dX9_anew_161 : decode cX9_anew 161 = .ok (.getfield 41, 3) := by decide +kernel
theorem dX9_anew_164 : decode cX9_anew 164 = .ok (.iload 6, 2) := by decide +kernel
theorem dX9_anew_166 : decode cX9_anew 166 = .ok (.iconst 0, 1) := by decide +kernel
theorem dX9_anew_167 : decode cX9_anew 167 = .ok (.iastore, 1) := by decide +kernel
theorem dX9_anew_168 : decode cX9_anew 168 = .ok (.iinc 6 1, 3) := by decide +kernel
theorem dX9_anew_171 : decode cX9_anew 171 = .ok (.goto (-21), 3) := by decide +kernel
theorem dX9_anew_174 : decode cX9_anew 174 = .ok (.iconst 0, 1) := by decide +kernel
theorem dX9_anew_175 : decode cX9_anew 175 = .ok (.istore 6, 2) := by decide +kernel
theorem dX9_anew_177 : decode cX9_anew 177 = .ok (.iload 6, 2) := by decide +kernel
theorem dX9_anew_179 : decode cX9_anew 179 = .ok (.iconst 5, 1) := by decide +kernel
theorem dX9_anew_180 : decode cX9_anew 180 = .ok (.if_icmp .ge 17, 3) := by decide +kernel
theorem dX9_anew_183 : decode cX9_anew 183 = .ok (.aload_n 0, 1) := by decide +kernel
theorem dX9_anew_184 : decode cX9_anew 184 = .ok (.getfield 47, 3) := by decide +kernel
theorem dX9_anew_187 : decode cX9_anew 187 = .ok (.iload 6, 2) := by decide +kernel
theorem dX9_anew_189 : decode cX9_anew 189 = .ok (.iconst 0, 1) := by decide +kernel
theorem dX9_anew_190 : decode cX9_anew 190 = .ok (.iastore, 1) := by decide +kernel
theorem dX9_anew_191 : decode cX9_anew 191 = .ok (.iinc 6 1, 3) := by decide +kernel
theorem dX9_anew_194 : decode cX9_anew 194 = .ok (.goto (-17), 3) := by decide +kernel
theorem dX9_anew_197 : decode cX9_anew 197 = .ok (.iconst 1, 1) := by decide +kernel
theorem dX9_anew_198 : decode cX9_anew 198 = .ok (.ireturn, 1) := by decide +kernel
set_option maxRecDepth 20000 in
theorem ggX9_stick_X9_within : GoodIn wsX9_stick wsX9_within := goodIn_r _ [5] (by decide +kernel) (by decide +kernel)
set_option maxRecDepth 20000 in
theorem gX9_stick_X9_within : GoodIn wsX9_stick (va_wsS RX9 66 yX9_within wsX9_within) := goodIn_app (goodIn_of _ (by decide +kernel)) ggX9_stick_X9_within
theorem dX9_stick_0 : decode cX9_stick 0 = .ok (.iload_n 1, 1) := by decide +kernel
theorem dX9_stick_1 : decode cX9_stick 1 = .ok (.iconst 0, 1) := by decide +kernel
theorem dX9_stick_2 : decode cX9_stick 2 = .ok (.bipush 8, 2) := by decide +kernel
theorem dX9_stick_4 : decode cX9_stick 4 = .ok (.invokestatic 66, 3) := by decide +kernel
theorem dX9_stick_7 : decode cX9_stick 7 = .ok (.ifCond .ne 5, 3) := by decide +kernel
theorem dX9_stick_10 : decode cX9_stick 10 = .ok (.iconst (-1), 1) := by decide +kernel
theorem dX9_stick_11 : decode cX9_stick 11 = .ok (.ireturn, 1) := by decide +kernel
theorem dX9_stick_12 : decode cX9_stick 12 = .ok (.iload_n 2, 1) := by decide +kernel
theorem dX9_stick_13 : decode cX9_stick 13 = .ok (.iconst 0, 1) := by decide +kernel
theorem dX9_stick_14 : decode cX9_stick 14 = .ok (.iconst 2, 1) := by decide +kernel
theorem dX9_stick_15 : decode cX9_stick 15 = .ok (.invokestatic 66, 3) := by decide +kernel
theorem dX9_stick_18 : decode cX9_stick 18 = .ok (.ifCond .ne 6, 3) := by decide +kernel
theorem dX9_stick_21 : decode cX9_stick 21 = .ok (.bipush (-2), 2) := by decide +kernel
theorem dX9_stick_23 : decode cX9_stick 23 = .ok (.ireturn, 1) := by decide +kernel
theorem dX9_stick_24 : decode cX9_stick 24 = .ok (.aload_n 0, 1) := by decide +kernel
theorem dX9_stick_25 : decode cX9_stick 25 = .ok (.getfield 25, 3) := by decide +kernel
theorem dX9_stick_28 : decode cX9_stick 28 = .ok (.iload_n 1, 1) := by decide +kernel
theorem dX9_stick_29 : decode cX9_stick 29 = .ok (.iaload, 1) := by decide +kernel
theorem dX9_stick_30 : decode cX9_stick 30 = .ok (.istore_n 3, 1) := by decide +kernel
theorem dX9_stick_31 : decode cX9_stick 31 = .ok (.aload_n 0, 1) := by decide +kernel
theorem dX9_stick_32 : decode cX9_stick 32 = .ok (.getfield 25, 3) := by decide +kernel
theorem dX9_stick_35 : decode cX9_stick 35 = .ok (.iload_n 1, 1) := by decide +kernel
theorem dX9_stick_36 : decode cX9_stick 36 = .ok (.iload_n 2, 1) := by decide +kernel
theorem dX9_stick_37 : decode cX9_stick 37 = .ok (.iastore, 1) := by decide +kernel
theorem dX9_stick_38 : decode cX9_stick 38 = .ok (.iload_n 3, 1) := by decide +kernel
theorem dX9_stick_39 : decode cX9_stick 39 = .ok (.ireturn, 1) := by decide +kernel
set_option maxRecDepth 20000 in
theorem ggX9_valve_X9_within : GoodIn wsX9_valve wsX9_within := goodIn_r _ [5] (by decide +kernel) (by decide +kernel)
set_option maxRecDepth 20000 in
theorem gX9_valve_X9_within : GoodIn wsX9_valve (va_wsS RX9 66 yX9_within wsX9_within) := goodIn_app (goodIn_of _ (by decide +kernel)) ggX9_valve_X9_within
theorem dX9_valve_0 : decode cX9_valve 0 = .ok (.iload_n 1, 1) := by decide +kernel
theorem dX9_valve_1 : decode cX9_valve 1 = .ok (.iconst 0, 1) := by decide +kernel
theorem dX9_valve_2 : decode cX9_valve 2 = .ok (.iconst 1, 1) := by decide +kernel
theorem dX9_valve_3 : decode cX9_valve 3 = .ok (.invokestatic 66, 3) := by decide +kernel
theorem dX9_valve_6 : decode cX9_valve 6 = .ok (.ifCond .ne 5, 3) := by decide +kernel
theorem dX9_valve_9 : decode cX9_valve 9 = .ok (.iconst (-1), 1) := by decide +kernel
theorem dX9_valve_10 : decode cX9_valve 10 = .ok (.ireturn, 1) := by decide +kernel
theorem dX9_valve_11 : decode cX9_valve 11 = .ok (.iload_n 2, 1) := by decide +kernel
theorem dX9_valve_12 : decode cX9_valve 12 = .ok (.iconst 0, 1) := by decide +kernel
theorem dX9_valve_13 : decode cX9_valve 13 = .ok (.iconst 2, 1) := by decide +kernel
theorem dX9_valve_14 : decode cX9_valve 14 = .ok (.invokestatic 66, 3) := by decide +kernel
theorem dX9_valve_17 : decode cX9_valve 17 = .ok (.ifCond .ne 6, 3) := by decide +kernel
theorem dX9_valve_20 : decode cX9_valve 20 = .ok (.bipush (-2), 2) := by decide +kernel
theorem dX9_valve_22 : decode cX9_valve 22 = .ok (.ireturn, 1) := by decide +kernel
theorem dX9_valve_23 : decode cX9_valve 23 = .ok (.aload_n 0, 1) := by decide +kernel
theorem dX9_valve_24 : decode cX9_valve 24 = .ok (.getfield 29, 3) := by decide +kernel
theorem dX9_valve_27 : decode cX9_valve 27 = .ok (.iload_n 1, 1) := by decide +kernel
theorem dX9_valve_28 : decode cX9_valve 28 = .ok (.iaload, 1) := by decide +kernel
theorem dX9_valve_29 : decode cX9_valve 29 = .ok (.istore_n 3, 1) := by decide +kernel
theorem dX9_valve_30 : decode cX9_valve 30 = .ok (.aload_n 0, 1) := by decide +kernel
theorem dX9_valve_31 : decode cX9_valve 31 = .ok (.getfield 29, 3) := by decide +kernel
theorem dX9_valve_34 : decode cX9_valve 34 = .ok (.iload_n 1, 1) := by decide +kernel
theorem dX9_valve_35 : decode cX9_valve 35 = .ok (.iload_n 2, 1) := by decide +kernel
theorem dX9_valve_36 : decode cX9_valve 36 = .ok (.iastore, 1) := by decide +kernel
theorem dX9_valve_37 : decode cX9_valve 37 = .ok (.iload_n 3, 1) := by decide +kernel
theorem dX9_valve_38 : decode cX9_valve 38 = .ok (.ireturn, 1) := by decide +kernel
theorem dX9_notes_0 : decode cX9_notes 0 = .ok (.aload_n 0, 1) := by decide +kernel
theorem dX9_notes_1 : decode cX9_notes 1 = .ok (.dup, 1) := by decide +kernel
theorem dX9_notes_2 : decode cX9_notes 2 = .ok (.getfield 170, 3) := by decide +kernel
theorem dX9_notes_5 : decode cX9_notes 5 = .ok (.iconst 1, 1) := by decide +kernel
theorem dX9_notes_6 : decode cX9_notes 6 = .ok (.iadd, 1) := by decide +kernel
theorem dX9_notes_7 : decode cX9_notes 7 = .ok (.putfield 170, 3) := by decide +kernel
theorem dX9_notes_10 : decode cX9_notes 10 = .ok (.aload_n 0, 1) := by decide +kernel
theorem dX9_notes_11 : decode cX9_notes 11 = .ok (.dup, 1) := by decide +kernel
theorem dX9_notes_12 : decode cX9_notes 12 = .ok (.getfield 173, 3) := by decide +kernel
theorem dX9_notes_15 : decode cX9_notes 15 = .ok (.aload_n 0, 1) := by decide +kernel
theorem dX9_notes_16 : decode cX9_notes 16 = .ok (.getfield 136, 3) := by decide +kernel
theorem dX9_notes_19 : decode cX9_notes 19 = .ok (.iadd, 1) := by decide +kernel
theorem dX9_notes_20 : decode cX9_notes 20 = .ok (.putfield 173, 3) := by decide +kernel
theorem dX9_notes_23 : decode cX9_notes 23 = .ok (.aload_n 0, 1) := by decide +kernel
theorem dX9_notes_24 : decode cX9_notes 24 = .ok (.dup, 1) := by decide +kernel
theorem dX9_notes_25 : decode cX9_notes 25 = .ok (.getfield 176, 3) := by decide +kernel
theorem dX9_notes_28 : decode cX9_notes 28 = .ok (.aload_n 0, 1) := by decide +kernel
theorem dX9_notes_29 : decode cX9_notes 29 = .ok (.getfield 139, 3) := by decide +kernel
theorem dX9_notes_32 : decode cX9_notes 32 = .ok (.iadd, 1) := by decide +kernel
theorem dX9_notes_33 : decode cX9_notes 33 = .ok (.putfield 176, 3) := by decide +kernel
theorem dX9_notes_36 : decode cX9_notes 36 = .ok (.aload_n 0, 1) := by decide +kernel
theorem dX9_notes_37 : decode cX9_notes 37 = .ok (.getfield 47, 3) := by decide +kernel
theorem dX9_notes_40 : decode cX9_notes 40 = .ok (.iload_n 1, 1) := by decide +kernel
theorem dX9_notes_41 : decode cX9_notes 41 = .ok (.dup2, 1) := by decide +kernel
theorem dX9_notes_42 : decode cX9_notes 42 = .ok (.iaload, 1) := by decide +kernel
theorem dX9_notes_43 : decode cX9_notes 43 = .ok (.iconst 1, 1) := by decide +kernel
theorem dX9_notes_44 : decode cX9_notes 44 = .ok (.aload_n 0, 1) := by decide +kernel
theorem dX9_notes_45 : decode cX9_notes 45 = .ok (.getfield 32, 3) := by decide +kernel
theorem dX9_notes_48 : decode cX9_notes 48 = .ok (.ishl, 1) := by decide +kernel
theorem dX9_notes_49 : decode cX9_notes 49 = .ok (.ior, 1) := by decide +kernel
theorem dX9_notes_50 : decode cX9_notes 50 = .ok (.iastore, 1) := by decide +kernel
theorem dX9_notes_51 : decode cX9_notes 51 = .ok (.aload_n 0, 1) := by decide +kernel
theorem dX9_notes_52 : decode cX9_notes 52 = .ok (.getfield 127, 3) := by decide +kernel
theorem dX9_notes_55 : decode cX9_notes 55 = .ok (.bipush (-9), 2) := by decide +kernel
theorem dX9_notes_57 : decode cX9_notes 57 = .ok (.if_icmp .ne 4, 3) := by decide +kernel
theorem dX9_notes_60 : decode cX9_notes 60 = .ok (.return_, 1) := by decide +kernel
theorem dX9_notes_61 : decode cX9_notes 61 = .ok (.aload_n 0, 1) := by decide +kernel
theorem dX9_notes_62 : decode cX9_notes 62 = .ok (.dup, 1) := by decide +kernel
theorem dX9_notes_63 : decode cX9_notes 63 = .ok (.getfield 179, 3) := by decide +kernel
theorem dX9_notes_66 : decode cX9_notes 66 = .ok (.iconst 1, 1) := by decide +kernel
theorem dX9_notes_67 : decode cX9_notes 67 = .ok (.iadd, 1) := by decide +kernel
theorem dX9_notes_68 : decode cX9_notes 68 = .ok (.putfield 179, 3) := by decide +kernel
theorem dX9_notes_71 : decode cX9_notes 71 = .ok (.aload_n 0, 1) := by decide +kernel
theorem dX9_notes_72 : decode cX9_notes 72 = .ok (.getfield 41, 3) := by decide +kernel
theorem dX9_notes_75 : decode cX9_notes 75 = .ok (.bipush 18, 2) := by decide +kernel
theorem dX9_notes_77 : decode cX9_notes 77 = .ok (.aload_n 0, 1) := by decide +kernel
theorem dX9_notes_78 : decode cX9_notes 78 = .ok (.getfield 127, 3) := by decide +kernel
theorem dX9_notes_81 : decode cX9_notes 81 = .ok (.iconst 1, 1) := by decide +kernel
theorem dX9_notes_82 : decode cX9_notes 82 = .ok (.isub, 1) := by decide +kernel
theorem dX9_notes_83 : decode cX9_notes 83 = .ok (.imul, 1) := by decide +kernel
theorem dX9_notes_84 : decode cX9_notes 84 = .ok (.aload_n 0, 1) := by decide +kernel
theorem dX9_notes_85 : decode cX9_notes 85 = .ok (.getfield 133, 3) := by decide +kernel
theorem dX9_notes_88 : decode cX9_notes 88 = .ok (.iadd, 1) := by decide +kernel
theorem dX9_notes_89 : decode cX9_notes 89 = .ok (.dup2, 1) := by decide +kernel
theorem dX9_notes_90 : decode cX9_notes 90 = .ok (.iaload, 1) := by decide +kernel
theorem dX9_notes_91 : decode cX9_notes 91 = .ok (.iconst 1, 1) := by decide +kernel
theorem dX9_notes_92 : decode cX9_notes 92 = .ok (.iadd, 1) := by decide +kernel
theorem dX9_notes_93 : decode cX9_notes 93 = .ok (.iastore, 1) := by decide +kernel
theorem dX9_notes_94 : decode cX9_notes 94 = .ok (.iconst 1, 1) := by decide +kernel
theorem dX9_notes_95 : decode cX9_notes 95 = .ok (.istore_n 2, 1) := by decide +kernel
theorem dX9_notes_96 : decode cX9_notes 96 = .ok (.iconst 0, 1) := by decide +kernel
theorem dX9_notes_97 : decode cX9_notes 97 = .ok (.istore_n 3, 1) := by decide +kernel
theorem dX9_notes_98 : decode cX9_notes 98 = .ok (.iload_n 3, 1) := by decide +kernel
theorem dX9_notes_99 : decode cX9_notes 99 = .ok (.aload_n 0, 1) := by decide +kernel
theorem dX9_notes_100 : decode cX9_notes 100 = .ok (.getfield 182, 3) := by decide +kernel
theorem dX9_notes_103 : decode cX9_notes 103 = .ok (.if_icmp .ge 32, 3) := by decide +kernel
theorem dX9_notes_106 : decode cX9_notes 106 = .ok (.iload_n 2, 1) := by decide +kernel
theorem dX9_notes_107 : decode cX9_notes 107 = .ok (.ifCond .eq 20, 3) := by decide +kernel
theorem dX9_notes_110 : decode cX9_notes 110 = .ok (.aload_n 0, 1) := by decide +kernel
theorem dX9_notes_111 : decode cX9_notes 111 = .ok (.getfield 44, 3) := by decide +kernel
theorem dX9_notes_114 : decode cX9_notes 114 = .ok (.iload_n 3, 1) := by decide +kernel
theorem dX9_notes_115 : decode cX9_notes 115 = .ok (.iaload, 1) := by decide +kernel
theorem dX9_notes_116 : decode cX9_notes 116 = .ok (.aload_n 0, 1) := by decide +kernel
theorem dX9_notes_117 : decode cX9_notes 117 = .ok (.getfield 127, 3) := by decide +kernel
theorem dX9_notes_120 : decode cX9_notes 120 = .ok (.if_icmp .eq 7, 3) := by decide +kernel
theorem dX9_notes_123 : decode cX9_notes 123 = .ok (.iconst 1, 1) := by decide +kernel
theorem dX9_notes_124 : decode cX9_notes 124 = .ok (.goto 4, 3) := by decide +kernel
theorem dX9_notes_127 : decode cX9_notes 127 = .ok (.iconst 0, 1) := by decide +kernel
theorem dX9_notes_128 : decode cX9_notes 128 = .ok (.istore_n 2, 1) := by decide +kernel
theorem dX9_notes_129 : decode cX9_notes 129 = .ok (.iinc 3 1, 3) := by decide +kernel
theorem dX9_notes_132 : decode cX9_notes 132 = .ok (.goto (-34), 3) := by decide +kernel
theorem dX9_notes_135 : decode cX9_notes 135 = .ok (.iload_n 2, 1) := by decide +kernel
theorem dX9_notes_136 : decode cX9_notes 136 = .ok (.ifCond .eq 26, 3) := by decide +kernel
theorem dX9_notes_139 : decode cX9_notes 139 = .ok (.aload_n 0, 1) := by decide +kernel
theorem dX9_notes_140 : decode cX9_notes 140 = .ok (.getfield 44, 3) := by decide +kernel
theorem dX9_notes_143 : decode cX9_notes 143 = .ok (.aload_n 0, 1) := by decide +kernel
theorem dX9_notes_144 : decode cX9_notes 144 = .ok (.getfield 182, 3) := by decide +kernel
theorem dX9_notes_147 : decode cX9_notes 147 = .ok (.aload_n 0, 1) := by decide +kernel
theorem dX9_notes_148 : decode cX9_notes 148 = .ok (.getfield 127, 3) := by decide +kernel
theorem dX9_notes_151 : decode cX9_notes 151 = .ok (.iastore, 1) := by decide +kernel
theorem dX9_notes_152 : decode cX9_notes 152 = .ok (.aload_n 0, 1) := by decide +kernel
theorem dX9_notes_153 : decode cX9_notes 153 = .ok (.dup, 1) := by decide +kernel
theorem dX9_notes_154 : decode cX9_notes 154 = .ok (.getfield 182, 3) := by decide +kernel
theorem dX9_notes_157 : decode cX9_notes 157 = .ok (.iconst 1, 1) := by decide +kernel
theorem dX9_notes_158 : decode cX9_notes 158 = .ok (.iadd, 1) := by decide +kernel
theorem dX9_notes_159 : decode cX9_notes 159 = .ok (.putfield 182, 3) := by decide +kernel
theorem dX9_notes_162 : decode cX9_notes 162 = .ok (.return_, 1) := by decide +kernel
set_option maxRecDepth 20000 in
theorem ggX9_tick_X9_ticks : GoodIn wsX9_tick wsX9_ticks := goodIn_r _ [5, 6, 7, 8, 4, 9, 10, 11, 12, 13, 14, 15, 16, 17, 18, 19, 20, 21, 22, 23, 24, 25, 26, 27, 28, 29, 30, 31, 32, 33, 34, 35, 36, 37, 38, 39, 40, 41, 42, 43, 44, 45, 46, 47, 48, 49, 50, 51, 52, 53, 54, 55, 56, 57, 58, 59, 60, 61, 62, 63, 64, 65, 66, 67, 68, 69, 70, 71, 72, 73, 74, 75, 76, 77, 78, 79, 80, 81, 82, 83, 84, 85, 86, 87, 88, 89, 90, 91, 92, 93, 94, 95, 96, 97, 98, 99, 100, 101, 102, 103, 104, 105, 106, 107, 108, 109, 110, 111, 112, 113, 114, 115, 116, 117, 118, 119, 120, 121, 122, 123, 124, 125, 126] (by decide +kernel) (by decide +kernel)
set_option maxRecDepth 20000 in
theorem gX9_tick_X9_ticks : GoodIn wsX9_tick (wsV RX9 185 RX9 yX9_ticks wsX9_ticks) := goodIn_app (goodIn_of _ (by decide +kernel)) ggX9_tick_X9_ticks
theorem dX9_tick_0 : decode cX9_tick 0 = .ok (.aload_n 0, 1) := by decide +kernel
theorem dX9_tick_1 : decode cX9_tick 1 = .ok (.iload_n 1, 1) := by decide +kernel
theorem dX9_tick_2 : decode cX9_tick 2 = .ok (.iconst 1, 1) := by decide +kernel
theorem dX9_tick_3 : decode cX9_tick 3 = .ok (.invokevirtual 185, 3) := by decide +kernel
theorem dX9_tick_6 : decode cX9_tick 6 = .ok (.ireturn, 1) := by decide +kernel
set_option maxRecDepth 20000 in
theorem ggX9_ticks_X9_isSet : GoodIn wsX9_ticks wsX9_isSet := goodIn_r _ [5, 6, 7, 4, 8] (by decide +kernel) (by decide +kernel)
set_option maxRecDepth 20000 in
theorem gX9_ticks_X9_isSet : GoodIn wsX9_ticks (va_wsS RX9 187 yX9_isSet wsX9_isSet) := goodIn_app (goodIn_of _ (by decide +kernel)) ggX9_ticks_X9_isSet
set_option maxRecDepth 20000 in
theorem ggX9_ticks_X9_within : GoodIn wsX9_ticks wsX9_within := goodIn_r _ [8] (by decide +kernel) (by decide +kernel)
set_option maxRecDepth 20000 in
theorem gX9_ticks_X9_within : GoodIn wsX9_ticks (va_wsS RX9 66 yX9_within wsX9_within) := goodIn_app (goodIn_of _ (by decide +kernel)) ggX9_ticks_X9_within
set_option maxRecDepth 20000 in
theorem ggX9_ticks_X9_tickBy : GoodIn wsX9_ticks wsX9_tickBy := goodIn_r _ [12, 13, 14, 15, 16, 17, 18, 19, 20, 21, 1, 22, 23, 24, 4, 25, 26, 27, 28, 29, 30, 31, 32, 33, 34, 35, 36, 37, 38, 39, 40, 41, 42, 43, 44, 45, 46, 47, 48, 49, 50, 51, 52, 53, 54, 55, 56, 57, 58, 59, 60, 61, 62, 63, 64, 65, 66, 67, 68, 69, 70, 83, 84, 85, 86, 87, 88, 89, 90, 91, 92, 93, 94, 95, 96, 97, 98, 99, 100, 101, 102, 103, 104, 105, 106, 107, 108, 109, 110, 111, 112, 113, 114, 115, 116, 117, 118, 119, 120, 121, 122] (by decide +kernel) (by decide +kernel)
set_option maxRecDepth 20000 in
theorem gX9_ticks_X9_tickBy : GoodIn wsX9_ticks (wsV RX9 191 RX9 yX9_tickBy wsX9_tickBy) := goodIn_app (goodIn_of _ (by decide +kernel)) ggX9_ticks_X9_tickBy
set_option maxRecDepth 20000 in
theorem ggX9_ticks_X9_notes : GoodIn wsX9_ticks wsX9_notes := goodIn_r _ [74, 75, 76, 67, 77, 68, 78, 1, 53, 79, 80, 56, 81, 82, 83, 84, 85, 86, 87, 88, 89, 90, 91, 92, 93, 94, 95, 96, 97, 98, 99, 100, 101, 102, 103, 104, 105, 106, 107, 108, 109, 110, 111, 112, 113, 114, 115, 116, 117, 118, 119, 120, 121, 122] (by decide +kernel) (by decide +kernel)
set_option maxRecDepth 20000 in
theorem gX9_ticks_X9_notes : GoodIn wsX9_ticks (wsV RX9 195 RX9 yX9_notes wsX9_notes) := goodIn_app (goodIn_of _ (by decide +kernel)) ggX9_ticks_X9_notes
theorem dX9_ticks_0 : decode cX9_ticks 0 = .ok (.iload_n 1, 1) := by decide +kernel
theorem dX9_ticks_1 : decode cX9_ticks 1 = .ok (.invokestatic 187, 3) := by decide +kernel
theorem dX9_ticks_4 : decode cX9_ticks 4 = .ok (.ifCond .eq 13, 3) := by decide +kernel
theorem dX9_ticks_7 : decode cX9_ticks 7 = .ok (.iload_n 2, 1) := by decide +kernel
theorem dX9_ticks_8 : decode cX9_ticks 8 = .ok (.iconst 0, 1) := by decide +kernel
theorem dX9_ticks_9 : decode cX9_ticks 9 = .ok (.bipush 60, 2) := by decide +kernel
theorem dX9_ticks_11 : decode cX9_ticks 11 = .ok (.invokestatic 66, 3) := by decide +kernel
theorem dX9_ticks_14 : decode cX9_ticks 14 = .ok (.ifCond .ne 6, 3) := by decide +kernel
theorem dX9_ticks_17 : decode cX9_ticks 17 = .ok (.bipush (-2), 2) := by decide +kernel
theorem dX9_ticks_19 : decode cX9_ticks 19 = .ok (.ireturn, 1) := by decide +kernel
theorem dX9_ticks_20 : decode cX9_ticks 20 = .ok (.iconst 0, 1) := by decide +kernel
theorem dX9_ticks_21 : decode cX9_ticks 21 = .ok (.istore_n 3, 1) := by decide +kernel
theorem dX9_ticks_22 : decode cX9_ticks 22 = .ok (.iload_n 3, 1) := by decide +kernel
theorem dX9_ticks_23 : decode cX9_ticks 23 = .ok (.iload_n 2, 1) := by decide +kernel
theorem dX9_ticks_24 : decode cX9_ticks 24 = .ok (.if_icmp .ge 26, 3) := by decide +kernel
theorem dX9_ticks_27 : decode cX9_ticks 27 = .ok (.aload_n 0, 1) := by decide +kernel
theorem dX9_ticks_28 : decode cX9_ticks 28 = .ok (.getfield 32, 3) := by decide +kernel
theorem dX9_ticks_31 : decode cX9_ticks 31 = .ok (.istore 4, 2) := by decide +kernel
theorem dX9_ticks_33 : decode cX9_ticks 33 = .ok (.aload_n 0, 1) := by decide +kernel
theorem dX9_ticks_34 : decode cX9_ticks 34 = .ok (.iload_n 1, 1) := by decide +kernel
theorem dX9_ticks_35 : decode cX9_ticks 35 = .ok (.invokevirtual 191, 3) := by decide +kernel
theorem dX9_ticks_38 : decode cX9_ticks 38 = .ok (.aload_n 0, 1) := by decide +kernel
theorem dX9_ticks_39 : decode cX9_ticks 39 = .ok (.iload 4, 2) := by decide +kernel
theorem dX9_ticks_41 : decode cX9_ticks 41 = .ok (.invokevirtual 195, 3) := by decide +kernel
theorem dX9_ticks_44 : decode cX9_ticks 44 = .ok (.iinc 3 1, 3) := by decide +kernel
theorem dX9_ticks_47 : decode cX9_ticks 47 = .ok (.goto (-25), 3) := by decide +kernel
theorem dX9_ticks_50 : decode cX9_ticks 50 = .ok (.aload_n 0, 1) := by decide +kernel
theorem dX9_ticks_51 : decode cX9_ticks 51 = .ok (.getfield 32, 3) := by decide +kernel
theorem dX9_ticks_54 : decode cX9_ticks 54 = .ok (.ireturn, 1) := by decide +kernel
theorem dX9_now_0 : decode cX9_now 0 = .ok (.iload_n 1, 1) := by decide +kernel
theorem dX9_now_1 : decode cX9_now 1 = .ok (.tableswitch 135 0 13 #[71, 76, 81, 86, 91, 96, 96, 96, 105, 110, 115, 120, 125, 130], 71) := by decide +kernel
theorem dX9_now_72 : decode cX9_now 72 = .ok (.aload_n 0, 1) := by decide +kernel
theorem dX9_now_73 : decode cX9_now 73 = .ok (.getfield 32, 3) := by decide +kernel
theorem dX9_now_76 : decode cX9_now 76 = .ok (.ireturn, 1) := by decide +kernel
theorem dX9_now_77 : decode cX9_now 77 = .ok (.aload_n 0, 1) := by decide +kernel
theorem dX9_now_78 : decode cX9_now 78 = .ok (.getfield 74, 3) := by decide +kernel
theorem dX9_now_81 : decode cX9_now 81 = .ok (.ireturn, 1) := by decide +kernel
theorem dX9_now_82 : decode cX9_now 82 = .ok (.aload_n 0, 1) := by decide +kernel
theorem dX9_now_83 : decode cX9_now 83 = .ok (.getfield 77, 3) := by decide +kernel
theorem dX9_now_86 : decode cX9_now 86 = .ok (.ireturn, 1) := by decide +kernel
theorem dX9_now_87 : decode cX9_now 87 = .ok (.aload_n 0, 1) := by decide +kernel
theorem dX9_now_88 : decode cX9_now 88 = .ok (.getfield 86, 3) := by decide +kernel
theorem dX9_now_91 : decode cX9_now 91 = .ok (.ireturn, 1) := by decide +kernel
theorem dX9_now_92 : decode cX9_now 92 = .ok (.aload_n 0, 1) := by decide +kernel
theorem dX9_now_93 : decode cX9_now 93 = .ok (.getfield 100, 3) := by decide +kernel
theorem dX9_now_96 : decode cX9_now 96 = .ok (.ireturn, 1) := by decide +kernel
theorem dX9_now_97 : decode cX9_now 97 = .ok (.aload_n 0, 1) := by decide +kernel
theorem dX9_now_98 : decode cX9_now 98 = .ok (.getfield 35, 3) := by decide +kernel
theorem dX9_now_101 : decode cX9_now 101 = .ok (.iload_n 1, 1) := by decide +kernel
theorem dX9_now_102 : decode cX9_now 102 = .ok (.iconst 5, 1) := by decide +kernel
theorem dX9_now_103 : decode cX9_now 103 = .ok (.isub, 1) := by decide +kernel
theorem dX9_now_104 : decode cX9_now 104 = .ok (.iaload, 1) := by decide +kernel
theorem dX9_now_105 : decode cX9_now 105 = .ok (.ireturn, 1) := by decide +kernel
theorem dX9_now_106 : decode cX9_now 106 = .ok (.aload_n 0, 1) := by decide +kernel
theorem dX9_now_107 : decode cX9_now 107 = .ok (.getfield 83, 3) := by decide +kernel
theorem dX9_now_110 : decode cX9_now 110 = .ok (.ireturn, 1) := by decide +kernel
theorem dX9_now_111 : decode cX9_now 111 = .ok (.aload_n 0, 1) := by decide +kernel
theorem dX9_now_112 : decode cX9_now 112 = .ok (.getfield 80, 3) := by decide +kernel
theorem dX9_now_115 : decode cX9_now 115 = .ok (.ireturn, 1) := by decide +kernel
theorem dX9_now_116 : decode cX9_now 116 = .ok (.aload_n 0, 1) := by decide +kernel
theorem dX9_now_117 : decode cX9_now 117 = .ok (.getfield 130, 3) := by decide +kernel
theorem dX9_now_120 : decode cX9_now 120 = .ok (.ireturn, 1) := by decide +kernel
theorem dX9_now_121 : decode cX9_now 121 = .ok (.aload_n 0, 1) := by decide +kernel
theorem dX9_now_122 : decode cX9_now 122 = .ok (.getfield 142, 3) := by decide +kernel
theorem dX9_now_125 : decode cX9_now 125 = .ok (.ireturn, 1) := by decide +kernel
theorem dX9_now_126 : decode cX9_now 126 = .ok (.aload_n 0, 1) := by decide +kernel
theorem dX9_now_127 : decode cX9_now 127 = .ok (.getfield 113, 3) := by decide +kernel
theorem dX9_now_130 : decode cX9_now 130 = .ok (.ireturn, 1) := by decide +kernel
theorem dX9_now_131 : decode cX9_now 131 = .ok (.aload_n 0, 1) := by decide +kernel
theorem dX9_now_132 : decode cX9_now 132 = .ok (.getfield 38, 3) := by decide +kernel
theorem dX9_now_135 : decode cX9_now 135 = .ok (.ireturn, 1) := by decide +kernel
theorem dX9_now_136 : decode cX9_now 136 = .ok (.bipush (-2), 2) := by decide +kernel
theorem dX9_now_138 : decode cX9_now 138 = .ok (.ireturn, 1) := by decide +kernel
theorem dX9_setting_0 : decode cX9_setting 0 = .ok (.iload_n 1, 1) := by decide +kernel
theorem dX9_setting_1 : decode cX9_setting 1 = .ok (.tableswitch 60 0 4 #[35, 40, 45, 50, 55], 35) := by decide +kernel
theorem dX9_setting_36 : decode cX9_setting 36 = .ok (.aload_n 0, 1) := by decide +kernel
theorem dX9_setting_37 : decode cX9_setting 37 = .ok (.getfield 7, 3) := by decide +kernel
theorem dX9_setting_40 : decode cX9_setting 40 = .ok (.ireturn, 1) := by decide +kernel
theorem dX9_setting_41 : decode cX9_setting 41 = .ok (.aload_n 0, 1) := by decide +kernel
theorem dX9_setting_42 : decode cX9_setting 42 = .ok (.getfield 13, 3) := by decide +kernel
theorem dX9_setting_45 : decode cX9_setting 45 = .ok (.ireturn, 1) := by decide +kernel
theorem dX9_setting_46 : decode cX9_setting 46 = .ok (.aload_n 0, 1) := by decide +kernel
theorem dX9_setting_47 : decode cX9_setting 47 = .ok (.getfield 16, 3) := by decide +kernel
theorem dX9_setting_50 : decode cX9_setting 50 = .ok (.ireturn, 1) := by decide +kernel
theorem dX9_setting_51 : decode cX9_setting 51 = .ok (.aload_n 0, 1) := by decide +kernel
theorem dX9_setting_52 : decode cX9_setting 52 = .ok (.getfield 19, 3) := by decide +kernel
theorem dX9_setting_55 : decode cX9_setting 55 = .ok (.ireturn, 1) := by decide +kernel
theorem dX9_setting_56 : decode cX9_setting 56 = .ok (.aload_n 0, 1) := by decide +kernel
theorem dX9_setting_57 : decode cX9_setting 57 = .ok (.getfield 22, 3) := by decide +kernel
theorem dX9_setting_60 : decode cX9_setting 60 = .ok (.ireturn, 1) := by decide +kernel
theorem dX9_setting_61 : decode cX9_setting 61 = .ok (.bipush (-2), 2) := by decide +kernel
theorem dX9_setting_63 : decode cX9_setting 63 = .ok (.ireturn, 1) := by decide +kernel
set_option maxRecDepth 20000 in
theorem ggX9_leadsTo_X9_within : GoodIn wsX9_leadsTo wsX9_within := goodIn_r _ [6] (by decide +kernel) (by decide +kernel)
set_option maxRecDepth 20000 in
theorem gX9_leadsTo_X9_within : GoodIn wsX9_leadsTo (va_wsS RX9 66 yX9_within wsX9_within) := goodIn_app (goodIn_of _ (by decide +kernel)) ggX9_leadsTo_X9_within
set_option maxRecDepth 20000 in
theorem ggX9_leadsTo_X9_stateOf : GoodIn wsX9_leadsTo wsX9_stateOf := goodIn_r _ [10, 2, 11, 12, 13, 14, 15, 16, 17, 18, 19, 20, 21, 22, 23, 24, 25, 86, 87, 88, 89, 90, 91, 92, 93, 94, 95, 96, 97, 98, 99, 100, 101, 102, 103, 104, 105, 106, 107, 108, 109, 110, 111, 112, 113, 114, 115, 116, 117, 118, 119, 120, 121, 122, 123, 124, 125] (by decide +kernel) (by decide +kernel)
set_option maxRecDepth 20000 in
theorem gX9_leadsTo_X9_stateOf : GoodIn wsX9_leadsTo (wsV RX9 198 RX9 yX9_stateOf wsX9_stateOf) := goodIn_app (goodIn_of _ (by decide +kernel)) ggX9_leadsTo_X9_stateOf
set_option maxRecDepth 20000 in
theorem ggX9_leadsTo_X9_tickBy : GoodIn wsX9_leadsTo wsX9_tickBy := goodIn_r _ [29, 19, 16, 18, 30, 12, 14, 22, 20, 25, 2, 31, 32, 33, 5, 34, 35, 36, 37, 38, 39, 40, 41, 42, 43, 44, 45, 46, 47, 48, 49, 50, 51, 52, 53, 54, 55, 56, 57, 58, 59, 60, 61, 62, 1, 23, 63, 64, 65, 66, 67, 68, 69, 70, 71, 72, 73, 74, 75, 76, 24, 86, 87, 88, 89, 90, 91, 92, 93, 94, 95, 96, 97, 98, 99, 100, 101, 102, 103, 104, 105, 106, 107, 108, 109, 110, 111, 112, 113, 114, 115, 116, 117, 118, 119, 120, 121, 122, 123, 124, 125] (by decide +kernel) (by decide +kernel)
set_option maxRecDepth 20000 in
theorem gX9_leadsTo_X9_tickBy : GoodIn wsX9_leadsTo (wsV RX9 191 RX9 yX9_tickBy wsX9_tickBy) := goodIn_app (goodIn_of _ (by decide +kernel)) ggX9_leadsTo_X9_tickBy
set_option maxRecDepth 20000 in
theorem ggX9_leadsTo_X9_becomes : GoodIn wsX9_leadsTo wsX9_becomes := goodIn_r _ [80, 81, 21, 25, 11, 24, 17, 23, 22, 13, 20, 19, 18, 15, 16, 14, 12, 2, 1, 82, 83, 84, 5, 85, 86, 87, 88, 89, 90, 91, 92, 93, 94, 95, 96, 97, 98, 99, 100, 101, 102, 103, 104, 105, 106, 107, 108, 109, 110, 111, 112, 113, 114, 115, 116, 117, 118, 119, 120, 121, 122, 123, 124, 125] (by decide +kernel) (by decide +kernel)
set_option maxRecDepth 20000 in
theorem gX9_leadsTo_X9_becomes : GoodIn wsX9_leadsTo (wsV RX9 163 RX9 yX9_becomes wsX9_becomes) := goodIn_app (goodIn_of _ (by decide +kernel)) ggX9_leadsTo_X9_becomes
theorem dX9_leadsTo_0 : decode cX9_leadsTo 0 = .ok (.iload_n 1, 1) := by decide +kernel
theorem dX9_leadsTo_1 : decode cX9_leadsTo 1 = .ok (.iconst 0, 1) := by decide +kernel
theorem dX9_leadsTo_2 : decode cX9_leadsTo 2 = .ok (.iconst 4, 1) := by decide +kernel
theorem dX9_leadsTo_3 : decode cX9_leadsTo 3 = .ok (.invokestatic 66, 3) := by decide +kernel
theorem dX9_leadsTo_6 : decode cX9_leadsTo 6 = .ok (.ifCond .ne 6, 3) := by decide +kernel
theorem dX9_leadsTo_9 : decode cX9_leadsTo 9 = .ok (.bipush (-2), 2) := by decide +kernel
theorem dX9_leadsTo_11 : decode cX9_leadsTo 11 = .ok (.ireturn, 1) := by decide +kernel
theorem dX9_leadsTo_12 : decode cX9_leadsTo 12 = .ok (.aload_n 0, 1) := by decide +kernel
theorem dX9_leadsTo_13 : decode cX9_leadsTo 13 = .ok (.invokevirtual 198, 3) := by decide +kernel
theorem dX9_leadsTo_16 : decode cX9_leadsTo 16 = .ok (.lstore_n 2, 1) := by decide +kernel
theorem dX9_leadsTo_17 : decode cX9_leadsTo 17 = .ok (.aload_n 0, 1) := by decide +kernel
theorem dX9_leadsTo_18 : decode cX9_leadsTo 18 = .ok (.getfield 38, 3) := by decide +kernel
theorem dX9_leadsTo_21 : decode cX9_leadsTo 21 = .ok (.istore 4, 2) := by decide +kernel
theorem dX9_leadsTo_23 : decode cX9_leadsTo 23 = .ok (.bipush (-9), 2) := by decide +kernel
theorem dX9_leadsTo_25 : decode cX9_leadsTo 25 = .ok (.istore 5, 2) := by decide +kernel
theorem dX9_leadsTo_27 : decode cX9_leadsTo 27 = .ok (.iconst 0, 1) := by decide +kernel
theorem dX9_leadsTo_28 : decode cX9_leadsTo 28 = .ok (.istore 6, 2) := by decide +kernel
theorem dX9_leadsTo_30 : decode cX9_leadsTo 30 = .ok (.iload 6, 2) := by decide +kernel
theorem dX9_leadsTo_32 : decode cX9_leadsTo 32 = .ok (.sipush 512, 3) := by decide +kernel
theorem dX9_leadsTo_35 : decode cX9_leadsTo 35 = .ok (.if_icmp .ge 46, 3) := by decide +kernel
theorem dX9_leadsTo_38 : decode cX9_leadsTo 38 = .ok (.iload 5, 2) := by decide +kernel
theorem dX9_leadsTo_40 : decode cX9_leadsTo 40 = .ok (.bipush (-9), 2) := by decide +kernel
theorem dX9_leadsTo_42 : decode cX9_leadsTo 42 = .ok (.if_icmp .ne 39, 3) := by decide +kernel
theorem dX9_leadsTo_45 : decode cX9_leadsTo 45 = .ok (.aload_n 0, 1) := by decide +kernel
theorem dX9_leadsTo_46 : decode cX9_leadsTo 46 = .ok (.iload 6, 2) := by decide +kernel
theorem dX9_leadsTo_48 : decode cX9_leadsTo 48 = .ok (.invokevirtual 191, 3) := by decide +kernel
theorem dX9_leadsTo_51 : decode cX9_leadsTo 51 = .ok (.aload_n 0, 1) := by decide +kernel
theorem dX9_leadsTo_52 : decode cX9_leadsTo 52 = .ok (.getfield 32, 3) := by decide +kernel
theorem dX9_leadsTo_55 : decode cX9_leadsTo 55 = .ok (.iload_n 1, 1) := by decide +kernel
theorem dX9_leadsTo_56 : decode cX9_leadsTo 56 = .ok (.if_icmp .ne 8, 3) := by decide +kernel
theorem dX9_leadsTo_59 : decode cX9_leadsTo 59 = .ok (.iload 6, 2) := by decide +kernel
theorem dX9_leadsTo_61 : decode cX9_leadsTo 61 = .ok (.goto 5, 3) := by decide +kernel
theorem dX9_leadsTo_64 : decode cX9_leadsTo 64 = .ok (.bipush (-9), 2) := by decide +kernel
theorem dX9_leadsTo_66 : decode cX9_leadsTo 66 = .ok (.istore 5, 2) := by decide +kernel
theorem dX9_leadsTo_68 : decode cX9_leadsTo 68 = .ok (.aload_n 0, 1) := by decide +kernel
theorem dX9_leadsTo_69 : decode cX9_leadsTo 69 = .ok (.lload_n 2, 1) := by decide +kernel
theorem dX9_leadsTo_70 : decode cX9_leadsTo 70 = .ok (.iload 4, 2) := by decide +kernel
theorem dX9_leadsTo_72 : decode cX9_leadsTo 72 = .ok (.invokevirtual 163, 3) := by decide +kernel
theorem dX9_leadsTo_75 : decode cX9_leadsTo 75 = .ok (.iinc 6 1, 3) := by decide +kernel
theorem dX9_leadsTo_78 : decode cX9_leadsTo 78 = .ok (.goto (-48), 3) := by decide +kernel
theorem dX9_leadsTo_81 : decode cX9_leadsTo 81 = .ok (.iload 5, 2) := by decide +kernel
theorem dX9_leadsTo_83 : decode cX9_leadsTo 83 = .ok (.ireturn, 1) := by decide +kernel
set_option maxRecDepth 20000 in
theorem ggX9_locked_X9_within : GoodIn wsX9_locked wsX9_within := goodIn_r _ [5] (by decide +kernel) (by decide +kernel)
set_option maxRecDepth 20000 in
theorem gX9_locked_X9_within : GoodIn wsX9_locked (va_wsS RX9 66 yX9_within wsX9_within) := goodIn_app (goodIn_of _ (by decide +kernel)) ggX9_locked_X9_within
