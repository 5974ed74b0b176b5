/-! the reference: what is asked (written by wip/tools) -/
theorem d_Mo_asks_0 : decode b_Mo_asks 0 = .ok (.aload_n 0, 1) := by decide +kernel
theorem d_Mo_asks_1 : decode b_Mo_asks 1 = .ok (.iload_n 1, 1) := by decide +kernel
theorem d_Mo_asks_2 : decode b_Mo_asks 2 = .ok (.invokevirtual 293, 3) := by decide +kernel
theorem d_Mo_asks_5 : decode b_Mo_asks 5 = .ok (.istore_n 2, 1) := by decide +kernel
theorem d_Mo_asks_6 : decode b_Mo_asks 6 = .ok (.aload_n 0, 1) := by decide +kernel
theorem d_Mo_asks_7 : decode b_Mo_asks 7 = .ok (.getfield 219, 3) := by decide +kernel
theorem d_Mo_asks_10 : decode b_Mo_asks 10 = .ok (.iload_n 2, 1) := by decide +kernel
theorem d_Mo_asks_11 : decode b_Mo_asks 11 = .ok (.if_icmp .ge 5, 3) := by decide +kernel
theorem d_Mo_asks_14 : decode b_Mo_asks 14 = .ok (.iconst 0, 1) := by decide +kernel
theorem d_Mo_asks_15 : decode b_Mo_asks 15 = .ok (.ireturn, 1) := by decide +kernel
theorem d_Mo_asks_16 : decode b_Mo_asks 16 = .ok (.aload_n 0, 1) := by decide +kernel
theorem d_Mo_asks_17 : decode b_Mo_asks 17 = .ok (.getfield 172, 3) := by decide +kernel
theorem d_Mo_asks_20 : decode b_Mo_asks 20 = .ok (.iconst 0, 1) := by decide +kernel
theorem d_Mo_asks_21 : decode b_Mo_asks 21 = .ok (.iaload, 1) := by decide +kernel
theorem d_Mo_asks_22 : decode b_Mo_asks 22 = .ok (.istore_n 3, 1) := by decide +kernel
theorem d_Mo_asks_23 : decode b_Mo_asks 23 = .ok (.iload_n 3, 1) := by decide +kernel
theorem d_Mo_asks_24 : decode b_Mo_asks 24 = .ok (.bipush 45, 2) := by decide +kernel
theorem d_Mo_asks_26 : decode b_Mo_asks 26 = .ok (.if_icmp .eq 15, 3) := by decide +kernel
theorem d_Mo_asks_29 : decode b_Mo_asks 29 = .ok (.iload_n 3, 1) := by decide +kernel
theorem d_Mo_asks_30 : decode b_Mo_asks 30 = .ok (.bipush 46, 2) := by decide +kernel
theorem d_Mo_asks_32 : decode b_Mo_asks 32 = .ok (.if_icmp .eq 9, 3) := by decide +kernel
theorem d_Mo_asks_35 : decode b_Mo_asks 35 = .ok (.iload_n 3, 1) := by decide +kernel
theorem d_Mo_asks_36 : decode b_Mo_asks 36 = .ok (.bipush 50, 2) := by decide +kernel
theorem d_Mo_asks_38 : decode b_Mo_asks 38 = .ok (.if_icmp .ne 7, 3) := by decide +kernel
theorem d_Mo_asks_41 : decode b_Mo_asks 41 = .ok (.iconst 1, 1) := by decide +kernel
theorem d_Mo_asks_42 : decode b_Mo_asks 42 = .ok (.goto 4, 3) := by decide +kernel
theorem d_Mo_asks_45 : decode b_Mo_asks 45 = .ok (.iconst 0, 1) := by decide +kernel
theorem d_Mo_asks_46 : decode b_Mo_asks 46 = .ok (.istore 4, 2) := by decide +kernel
theorem d_Mo_asks_48 : decode b_Mo_asks 48 = .ok (.iload 4, 2) := by decide +kernel
theorem d_Mo_asks_50 : decode b_Mo_asks 50 = .ok (.ifCond .ne 27, 3) := by decide +kernel
theorem d_Mo_asks_53 : decode b_Mo_asks 53 = .ok (.iload_n 3, 1) := by decide +kernel
theorem d_Mo_asks_54 : decode b_Mo_asks 54 = .ok (.i2l, 1) := by decide +kernel
theorem d_Mo_asks_55 : decode b_Mo_asks 55 = .ok (.ldc2_w 440, 3) := by decide +kernel
theorem d_Mo_asks_58 : decode b_Mo_asks 58 = .ok (.ldc2_w 442, 3) := by decide +kernel
theorem d_Mo_asks_61 : decode b_Mo_asks 61 = .ok (.invokestatic 187, 3) := by decide +kernel
theorem d_Mo_asks_64 : decode b_Mo_asks 64 = .ok (.ifCond .ne 13, 3) := by decide +kernel
theorem d_Mo_asks_67 : decode b_Mo_asks 67 = .ok (.aload_n 0, 1) := by decide +kernel
theorem d_Mo_asks_68 : decode b_Mo_asks 68 = .ok (.iload_n 1, 1) := by decide +kernel
theorem d_Mo_asks_69 : decode b_Mo_asks 69 = .ok (.bipush 44, 2) := by decide +kernel
theorem d_Mo_asks_71 : decode b_Mo_asks 71 = .ok (.iconst 1, 1) := by decide +kernel
theorem d_Mo_asks_72 : decode b_Mo_asks 72 = .ok (.invokevirtual 444, 3) := by decide +kernel
theorem d_Mo_asks_75 : decode b_Mo_asks 75 = .ok (.iconst 1, 1) := by decide +kernel
theorem d_Mo_asks_76 : decode b_Mo_asks 76 = .ok (.ireturn, 1) := by decide +kernel
theorem d_Mo_asks_77 : decode b_Mo_asks 77 = .ok (.aload_n 0, 1) := by decide +kernel
theorem d_Mo_asks_78 : decode b_Mo_asks 78 = .ok (.getfield 172, 3) := by decide +kernel
theorem d_Mo_asks_81 : decode b_Mo_asks 81 = .ok (.iconst 1, 1) := by decide +kernel
theorem d_Mo_asks_82 : decode b_Mo_asks 82 = .ok (.iaload, 1) := by decide +kernel
theorem d_Mo_asks_83 : decode b_Mo_asks 83 = .ok (.iconst 1, 1) := by decide +kernel
theorem d_Mo_asks_84 : decode b_Mo_asks 84 = .ok (.if_icmp .ne 22, 3) := by decide +kernel
theorem d_Mo_asks_87 : decode b_Mo_asks 87 = .ok (.aload_n 0, 1) := by decide +kernel
theorem d_Mo_asks_88 : decode b_Mo_asks 88 = .ok (.getfield 219, 3) := by decide +kernel
theorem d_Mo_asks_91 : decode b_Mo_asks 91 = .ok (.iload_n 2, 1) := by decide +kernel
theorem d_Mo_asks_92 : decode b_Mo_asks 92 = .ok (.aload_n 0, 1) := by decide +kernel
theorem d_Mo_asks_93 : decode b_Mo_asks 93 = .ok (.iload_n 1, 1) := by decide +kernel
theorem d_Mo_asks_94 : decode b_Mo_asks 94 = .ok (.invokevirtual 296, 3) := by decide +kernel
theorem d_Mo_asks_97 : decode b_Mo_asks 97 = .ok (.iadd, 1) := by decide +kernel
theorem d_Mo_asks_98 : decode b_Mo_asks 98 = .ok (.iload_n 3, 1) := by decide +kernel
theorem d_Mo_asks_99 : decode b_Mo_asks 99 = .ok (.invokestatic 448, 3) := by decide +kernel
theorem d_Mo_asks_102 : decode b_Mo_asks 102 = .ok (.iadd, 1) := by decide +kernel
theorem d_Mo_asks_103 : decode b_Mo_asks 103 = .ok (.if_icmp .eq 5, 3) := by decide +kernel
theorem d_Mo_asks_106 : decode b_Mo_asks 106 = .ok (.iconst 0, 1) := by decide +kernel
theorem d_Mo_asks_107 : decode b_Mo_asks 107 = .ok (.ireturn, 1) := by decide +kernel
theorem d_Mo_asks_108 : decode b_Mo_asks 108 = .ok (.aload_n 0, 1) := by decide +kernel
theorem d_Mo_asks_109 : decode b_Mo_asks 109 = .ok (.getfield 172, 3) := by decide +kernel
theorem d_Mo_asks_112 : decode b_Mo_asks 112 = .ok (.iconst 2, 1) := by decide +kernel
theorem d_Mo_asks_113 : decode b_Mo_asks 113 = .ok (.iaload, 1) := by decide +kernel
theorem d_Mo_asks_114 : decode b_Mo_asks 114 = .ok (.bipush 63, 2) := by decide +kernel
theorem d_Mo_asks_116 : decode b_Mo_asks 116 = .ok (.iand, 1) := by decide +kernel
theorem d_Mo_asks_117 : decode b_Mo_asks 117 = .ok (.istore 5, 2) := by decide +kernel
theorem d_Mo_asks_119 : decode b_Mo_asks 119 = .ok (.aload_n 0, 1) := by decide +kernel
theorem d_Mo_asks_120 : decode b_Mo_asks 120 = .ok (.iconst 2, 1) := by decide +kernel
theorem d_Mo_asks_121 : decode b_Mo_asks 121 = .ok (.aload_n 0, 1) := by decide +kernel
theorem d_Mo_asks_122 : decode b_Mo_asks 122 = .ok (.iload_n 1, 1) := by decide +kernel
theorem d_Mo_asks_123 : decode b_Mo_asks 123 = .ok (.invokevirtual 265, 3) := by decide +kernel
theorem d_Mo_asks_126 : decode b_Mo_asks 126 = .ok (.iadd, 1) := by decide +kernel
theorem d_Mo_asks_127 : decode b_Mo_asks 127 = .ok (.aload_n 0, 1) := by decide +kernel
theorem d_Mo_asks_128 : decode b_Mo_asks 128 = .ok (.iload_n 1, 1) := by decide +kernel
theorem d_Mo_asks_129 : decode b_Mo_asks 129 = .ok (.invokevirtual 269, 3) := by decide +kernel
theorem d_Mo_asks_132 : decode b_Mo_asks 132 = .ok (.invokevirtual 451, 3) := by decide +kernel
theorem d_Mo_asks_135 : decode b_Mo_asks 135 = .ok (.istore 6, 2) := by decide +kernel
theorem d_Mo_asks_137 : decode b_Mo_asks 137 = .ok (.aload_n 0, 1) := by decide +kernel
theorem d_Mo_asks_138 : decode b_Mo_asks 138 = .ok (.iload_n 2, 1) := by decide +kernel
theorem d_Mo_asks_139 : decode b_Mo_asks 139 = .ok (.aload_n 0, 1) := by decide +kernel
theorem d_Mo_asks_140 : decode b_Mo_asks 140 = .ok (.iload_n 1, 1) := by decide +kernel
theorem d_Mo_asks_141 : decode b_Mo_asks 141 = .ok (.invokevirtual 296, 3) := by decide +kernel
theorem d_Mo_asks_144 : decode b_Mo_asks 144 = .ok (.invokevirtual 451, 3) := by decide +kernel
theorem d_Mo_asks_147 : decode b_Mo_asks 147 = .ok (.istore 7, 2) := by decide +kernel
theorem d_Mo_asks_149 : decode b_Mo_asks 149 = .ok (.iload 6, 2) := by decide +kernel
theorem d_Mo_asks_151 : decode b_Mo_asks 151 = .ok (.aload_n 0, 1) := by decide +kernel
theorem d_Mo_asks_152 : decode b_Mo_asks 152 = .ok (.iload_n 1, 1) := by decide +kernel
theorem d_Mo_asks_153 : decode b_Mo_asks 153 = .ok (.invokevirtual 269, 3) := by decide +kernel
theorem d_Mo_asks_156 : decode b_Mo_asks 156 = .ok (.iconst 1, 1) := by decide +kernel
theorem d_Mo_asks_157 : decode b_Mo_asks 157 = .ok (.if_icmp .ne 9, 3) := by decide +kernel
theorem d_Mo_asks_160 : decode b_Mo_asks 160 = .ok (.sipush 255, 3) := by decide +kernel
theorem d_Mo_asks_163 : decode b_Mo_asks 163 = .ok (.goto 6, 3) := by decide +kernel
theorem d_Mo_asks_166 : decode b_Mo_asks 166 = .ok (.ldc_w 454, 3) := by decide +kernel
theorem d_Mo_asks_169 : decode b_Mo_asks 169 = .ok (.if_icmp .ne 31, 3) := by decide +kernel
theorem d_Mo_asks_172 : decode b_Mo_asks 172 = .ok (.iload_n 3, 1) := by decide +kernel
theorem d_Mo_asks_173 : decode b_Mo_asks 173 = .ok (.bipush 100, 2) := by decide +kernel
theorem d_Mo_asks_175 : decode b_Mo_asks 175 = .ok (.if_icmp .eq 21, 3) := by decide +kernel
theorem d_Mo_asks_178 : decode b_Mo_asks 178 = .ok (.iload_n 3, 1) := by decide +kernel
theorem d_Mo_asks_179 : decode b_Mo_asks 179 = .ok (.bipush 101, 2) := by decide +kernel
theorem d_Mo_asks_181 : decode b_Mo_asks 181 = .ok (.if_icmp .eq 15, 3) := by decide +kernel
theorem d_Mo_asks_184 : decode b_Mo_asks 184 = .ok (.iload_n 3, 1) := by decide +kernel
theorem d_Mo_asks_185 : decode b_Mo_asks 185 = .ok (.bipush 103, 2) := by decide +kernel
theorem d_Mo_asks_187 : decode b_Mo_asks 187 = .ok (.if_icmp .eq 9, 3) := by decide +kernel
theorem d_Mo_asks_190 : decode b_Mo_asks 190 = .ok (.iload_n 3, 1) := by decide +kernel
theorem d_Mo_asks_191 : decode b_Mo_asks 191 = .ok (.bipush 105, 2) := by decide +kernel
theorem d_Mo_asks_193 : decode b_Mo_asks 193 = .ok (.if_icmp .ne 7, 3) := by decide +kernel
theorem d_Mo_asks_196 : decode b_Mo_asks 196 = .ok (.iconst 1, 1) := by decide +kernel
theorem d_Mo_asks_197 : decode b_Mo_asks 197 = .ok (.goto 4, 3) := by decide +kernel
theorem d_Mo_asks_200 : decode b_Mo_asks 200 = .ok (.iconst 0, 1) := by decide +kernel
theorem d_Mo_asks_201 : decode b_Mo_asks 201 = .ok (.istore 8, 2) := by decide +kernel
theorem d_Mo_asks_203 : decode b_Mo_asks 203 = .ok (.aload_n 0, 1) := by decide +kernel
theorem d_Mo_asks_204 : decode b_Mo_asks 204 = .ok (.iload 7, 2) := by decide +kernel
theorem d_Mo_asks_206 : decode b_Mo_asks 206 = .ok (.invokevirtual 455, 3) := by decide +kernel
theorem d_Mo_asks_209 : decode b_Mo_asks 209 = .ok (.istore 9, 2) := by decide +kernel
theorem d_Mo_asks_211 : decode b_Mo_asks 211 = .ok (.iload 4, 2) := by decide +kernel
theorem d_Mo_asks_213 : decode b_Mo_asks 213 = .ok (.ifCond .eq 50, 3) := by decide +kernel
theorem d_Mo_asks_216 : decode b_Mo_asks 216 = .ok (.iload 9, 2) := by decide +kernel
theorem d_Mo_asks_218 : decode b_Mo_asks 218 = .ok (.ifCond .lt 41, 3) := by decide +kernel
theorem d_Mo_asks_221 : decode b_Mo_asks 221 = .ok (.aload_n 0, 1) := by decide +kernel
theorem d_Mo_asks_222 : decode b_Mo_asks 222 = .ok (.getfield 13, 3) := by decide +kernel
theorem d_Mo_asks_225 : decode b_Mo_asks 225 = .ok (.iload 9, 2) := by decide +kernel
theorem d_Mo_asks_227 : decode b_Mo_asks 227 = .ok (.iaload, 1) := by decide +kernel
theorem d_Mo_asks_228 : decode b_Mo_asks 228 = .ok (.iload_n 3, 1) := by decide +kernel
theorem d_Mo_asks_229 : decode b_Mo_asks 229 = .ok (.bipush 45, 2) := by decide +kernel
theorem d_Mo_asks_231 : decode b_Mo_asks 231 = .ok (.if_icmp .ne 8, 3) := by decide +kernel
theorem d_Mo_asks_234 : decode b_Mo_asks 234 = .ok (.bipush 7, 2) := by decide +kernel
theorem d_Mo_asks_236 : decode b_Mo_asks 236 = .ok (.goto 16, 3) := by decide +kernel
theorem d_Mo_asks_239 : decode b_Mo_asks 239 = .ok (.iload_n 3, 1) := by decide +kernel
theorem d_Mo_asks_240 : decode b_Mo_asks 240 = .ok (.bipush 46, 2) := by decide +kernel
theorem d_Mo_asks_242 : decode b_Mo_asks 242 = .ok (.if_icmp .ne 8, 3) := by decide +kernel
theorem d_Mo_asks_245 : decode b_Mo_asks 245 = .ok (.bipush 8, 2) := by decide +kernel
theorem d_Mo_asks_247 : decode b_Mo_asks 247 = .ok (.goto 5, 3) := by decide +kernel
theorem d_Mo_asks_250 : decode b_Mo_asks 250 = .ok (.bipush 9, 2) := by decide +kernel
theorem d_Mo_asks_252 : decode b_Mo_asks 252 = .ok (.if_icmp .ne 7, 3) := by decide +kernel
theorem d_Mo_asks_255 : decode b_Mo_asks 255 = .ok (.iconst 1, 1) := by decide +kernel
theorem d_Mo_asks_256 : decode b_Mo_asks 256 = .ok (.goto 48, 3) := by decide +kernel
theorem d_Mo_asks_259 : decode b_Mo_asks 259 = .ok (.iconst 0, 1) := by decide +kernel
theorem d_Mo_asks_260 : decode b_Mo_asks 260 = .ok (.goto 44, 3) := by decide +kernel
theorem d_Mo_asks_263 : decode b_Mo_asks 263 = .ok (.iload_n 3, 1) := by decide +kernel
theorem d_Mo_asks_264 : decode b_Mo_asks 264 = .ok (.bipush 102, 2) := by decide +kernel
theorem d_Mo_asks_266 : decode b_Mo_asks 266 = .ok (.if_icmp .ne 28, 3) := by decide +kernel
theorem d_Mo_asks_269 : decode b_Mo_asks 269 = .ok (.iload 9, 2) := by decide +kernel
theorem d_Mo_asks_271 : decode b_Mo_asks 271 = .ok (.ifCond .lt 19, 3) := by decide +kernel
theorem d_Mo_asks_274 : decode b_Mo_asks 274 = .ok (.aload_n 0, 1) := by decide +kernel
theorem d_Mo_asks_275 : decode b_Mo_asks 275 = .ok (.getfield 13, 3) := by decide +kernel
theorem d_Mo_asks_278 : decode b_Mo_asks 278 = .ok (.iload 9, 2) := by decide +kernel
theorem d_Mo_asks_280 : decode b_Mo_asks 280 = .ok (.iaload, 1) := by decide +kernel
theorem d_Mo_asks_281 : decode b_Mo_asks 281 = .ok (.bipush 7, 2) := by decide +kernel
theorem d_Mo_asks_283 : decode b_Mo_asks 283 = .ok (.if_icmp .ge 7, 3) := by decide +kernel
theorem d_Mo_asks_286 : decode b_Mo_asks 286 = .ok (.iconst 1, 1) := by decide +kernel
theorem d_Mo_asks_287 : decode b_Mo_asks 287 = .ok (.goto 17, 3) := by decide +kernel
theorem d_Mo_asks_290 : decode b_Mo_asks 290 = .ok (.iconst 0, 1) := by decide +kernel
theorem d_Mo_asks_291 : decode b_Mo_asks 291 = .ok (.goto 13, 3) := by decide +kernel
theorem d_Mo_asks_294 : decode b_Mo_asks 294 = .ok (.iload 7, 2) := by decide +kernel
theorem d_Mo_asks_296 : decode b_Mo_asks 296 = .ok (.ifCond .ne 7, 3) := by decide +kernel
theorem d_Mo_asks_299 : decode b_Mo_asks 299 = .ok (.iconst 1, 1) := by decide +kernel
theorem d_Mo_asks_300 : decode b_Mo_asks 300 = .ok (.goto 4, 3) := by decide +kernel
theorem d_Mo_asks_303 : decode b_Mo_asks 303 = .ok (.iconst 0, 1) := by decide +kernel
theorem d_Mo_asks_304 : decode b_Mo_asks 304 = .ok (.istore 10, 2) := by decide +kernel
theorem d_Mo_asks_306 : decode b_Mo_asks 306 = .ok (.iload_n 2, 1) := by decide +kernel
theorem d_Mo_asks_307 : decode b_Mo_asks 307 = .ok (.aload_n 0, 1) := by decide +kernel
theorem d_Mo_asks_308 : decode b_Mo_asks 308 = .ok (.iload_n 1, 1) := by decide +kernel
theorem d_Mo_asks_309 : decode b_Mo_asks 309 = .ok (.invokevirtual 296, 3) := by decide +kernel
theorem d_Mo_asks_312 : decode b_Mo_asks 312 = .ok (.iadd, 1) := by decide +kernel
theorem d_Mo_asks_313 : decode b_Mo_asks 313 = .ok (.istore 11, 2) := by decide +kernel
theorem d_Mo_asks_315 : decode b_Mo_asks 315 = .ok (.iload 5, 2) := by decide +kernel
theorem d_Mo_asks_317 : decode b_Mo_asks 317 = .ok (.iload_n 3, 1) := by decide +kernel
theorem d_Mo_asks_318 : decode b_Mo_asks 318 = .ok (.bipush 102, 2) := by decide +kernel
theorem d_Mo_asks_320 : decode b_Mo_asks 320 = .ok (.if_icmp .ne 7, 3) := by decide +kernel
theorem d_Mo_asks_323 : decode b_Mo_asks 323 = .ok (.iconst 5, 1) := by decide +kernel
theorem d_Mo_asks_324 : decode b_Mo_asks 324 = .ok (.goto 5, 3) := by decide +kernel
theorem d_Mo_asks_327 : decode b_Mo_asks 327 = .ok (.bipush 6, 2) := by decide +kernel
theorem d_Mo_asks_329 : decode b_Mo_asks 329 = .ok (.if_icmp .eq 26, 3) := by decide +kernel
theorem d_Mo_asks_332 : decode b_Mo_asks 332 = .ok (.iload 4, 2) := by decide +kernel
theorem d_Mo_asks_334 : decode b_Mo_asks 334 = .ok (.ifCond .eq 10, 3) := by decide +kernel
theorem d_Mo_asks_337 : decode b_Mo_asks 337 = .ok (.iload 5, 2) := by decide +kernel
theorem d_Mo_asks_339 : decode b_Mo_asks 339 = .ok (.bipush 8, 2) := by decide +kernel
theorem d_Mo_asks_341 : decode b_Mo_asks 341 = .ok (.if_icmp .eq 14, 3) := by decide +kernel
theorem d_Mo_asks_344 : decode b_Mo_asks 344 = .ok (.aload_n 0, 1) := by decide +kernel
theorem d_Mo_asks_345 : decode b_Mo_asks 345 = .ok (.iload_n 1, 1) := by decide +kernel
theorem d_Mo_asks_346 : decode b_Mo_asks 346 = .ok (.bipush 45, 2) := by decide +kernel
theorem d_Mo_asks_348 : decode b_Mo_asks 348 = .ok (.iconst 1, 1) := by decide +kernel
theorem d_Mo_asks_349 : decode b_Mo_asks 349 = .ok (.invokevirtual 444, 3) := by decide +kernel
theorem d_Mo_asks_352 : decode b_Mo_asks 352 = .ok (.goto 73, 3) := by decide +kernel
theorem d_Mo_asks_355 : decode b_Mo_asks 355 = .ok (.iload 6, 2) := by decide +kernel
theorem d_Mo_asks_357 : decode b_Mo_asks 357 = .ok (.aload_n 0, 1) := by decide +kernel
theorem d_Mo_asks_358 : decode b_Mo_asks 358 = .ok (.getfield 176, 3) := by decide +kernel
theorem d_Mo_asks_361 : decode b_Mo_asks 361 = .ok (.if_icmp .eq 19, 3) := by decide +kernel
theorem d_Mo_asks_364 : decode b_Mo_asks 364 = .ok (.iload 8, 2) := by decide +kernel
theorem d_Mo_asks_366 : decode b_Mo_asks 366 = .ok (.ifCond .ne 14, 3) := by decide +kernel
theorem d_Mo_asks_369 : decode b_Mo_asks 369 = .ok (.aload_n 0, 1) := by decide +kernel
theorem d_Mo_asks_370 : decode b_Mo_asks 370 = .ok (.iload_n 1, 1) := by decide +kernel
theorem d_Mo_asks_371 : decode b_Mo_asks 371 = .ok (.bipush 46, 2) := by decide +kernel
theorem d_Mo_asks_373 : decode b_Mo_asks 373 = .ok (.iconst 1, 1) := by decide +kernel
theorem d_Mo_asks_374 : decode b_Mo_asks 374 = .ok (.invokevirtual 444, 3) := by decide +kernel
theorem d_Mo_asks_377 : decode b_Mo_asks 377 = .ok (.goto 48, 3) := by decide +kernel
theorem d_Mo_asks_380 : decode b_Mo_asks 380 = .ok (.iload 10, 2) := by decide +kernel
theorem d_Mo_asks_382 : decode b_Mo_asks 382 = .ok (.ifCond .ne 14, 3) := by decide +kernel
theorem d_Mo_asks_385 : decode b_Mo_asks 385 = .ok (.aload_n 0, 1) := by decide +kernel
theorem d_Mo_asks_386 : decode b_Mo_asks 386 = .ok (.iload_n 1, 1) := by decide +kernel
theorem d_Mo_asks_387 : decode b_Mo_asks 387 = .ok (.bipush 47, 2) := by decide +kernel
theorem d_Mo_asks_389 : decode b_Mo_asks 389 = .ok (.iconst 1, 1) := by decide +kernel
theorem d_Mo_asks_390 : decode b_Mo_asks 390 = .ok (.invokevirtual 444, 3) := by decide +kernel
theorem d_Mo_asks_393 : decode b_Mo_asks 393 = .ok (.goto 32, 3) := by decide +kernel
theorem d_Mo_asks_396 : decode b_Mo_asks 396 = .ok (.iload 4, 2) := by decide +kernel
theorem d_Mo_asks_398 : decode b_Mo_asks 398 = .ok (.ifCond .eq 17, 3) := by decide +kernel
theorem d_Mo_asks_401 : decode b_Mo_asks 401 = .ok (.aload_n 0, 1) := by decide +kernel
theorem d_Mo_asks_402 : decode b_Mo_asks 402 = .ok (.iload_n 1, 1) := by decide +kernel
theorem d_Mo_asks_403 : decode b_Mo_asks 403 = .ok (.iload 9, 2) := by decide +kernel
theorem d_Mo_asks_405 : decode b_Mo_asks 405 = .ok (.iload 11, 2) := by decide +kernel
theorem d_Mo_asks_407 : decode b_Mo_asks 407 = .ok (.iload 5, 2) := by decide +kernel
theorem d_Mo_asks_409 : decode b_Mo_asks 409 = .ok (.invokevirtual 458, 3) := by decide +kernel
theorem d_Mo_asks_412 : decode b_Mo_asks 412 = .ok (.goto 13, 3) := by decide +kernel
theorem d_Mo_asks_415 : decode b_Mo_asks 415 = .ok (.aload_n 0, 1) := by decide +kernel
theorem d_Mo_asks_416 : decode b_Mo_asks 416 = .ok (.iload_n 1, 1) := by decide +kernel
theorem d_Mo_asks_417 : decode b_Mo_asks 417 = .ok (.iload_n 3, 1) := by decide +kernel
theorem d_Mo_asks_418 : decode b_Mo_asks 418 = .ok (.iload 11, 2) := by decide +kernel
theorem d_Mo_asks_420 : decode b_Mo_asks 420 = .ok (.iload 9, 2) := by decide +kernel
theorem d_Mo_asks_422 : decode b_Mo_asks 422 = .ok (.invokevirtual 461, 3) := by decide +kernel
theorem d_Mo_asks_425 : decode b_Mo_asks 425 = .ok (.iconst 1, 1) := by decide +kernel
theorem d_Mo_asks_426 : decode b_Mo_asks 426 = .ok (.ireturn, 1) := by decide +kernel
set_option maxRecDepth 100000 in
set_option maxHeartbeats 4000000 in
theorem c_Mo_asks (l : Launch) (D : va_G) (ca : Nat → ClassId) (ad : Nat → Nat) (L : List Nat) (f0 : Nat → va_E) (sz : Nat) (σ0 : mq_S) (hM : mq_B ca ad σ0 L f0) (j1 : Nat) (q1 : j1 ≤ 3) (z1 : Nat) (o0 : σ0.1 56 = nI z1) (z2 : Nat) (o1 : σ0.1 70 = nI z2) (hz : z1 ≤ 599) (hy : z2 ≤ 260) (u0 : IH σ0) :
    Met l y_Mo_asks (Cond.code y_Mo_asks b_Mo_asks 12 (some .boolean) :: wg) { frames := 6, cells := 0, slots := 0, locals := 150 } (va_Pc [.ref (ad 71), .int (nI j1)] (sm_P D cl_all (ty_s ca) ek L f0 sz)) (sm_Qi D (ty_s ca) L f0 sz (fun r u => mq_po ca ad L σ0 [9, 10, 11, 13, 14, 16, 18, 24, 30, 31, 32, 33, 34, 42, 52, 56, 57, 58, 59, 60, 61, 62, 63, 64, 65, 66, 67, 68, 69, 70] (fun σ => (r = 0 ∨ r = 1) ∧ (∃ n : Nat, z1 ≤ n ∧ n ≤ z1 + 1 ∧ (n = z1 ∨ 5 ≤ z2) ∧ σ.1 56 = nI n) ∧ IH σ ∧ True) u)) 0 0 (va_A (va_pl L f0) sz) := by
  refine sm_start (by decide) (Nat.le_of_ble_eq_true rfl) ?_
  intro p e s m below meth c ls hx hb hml hr hlk hnm hts hown hsz hE hI hl
  have hl : lv_has ls 12 [(0, .ref (ad 71)), (1, .int (nI j1))] := hl
  have hF : mq_fr [9, 10, 11, 13, 14, 16, 18, 24, 30, 31, 32, 33, 34, 42, 52, 56, 57, 58, 59, 60, 61, 62, 63, 64, 65, 66, 67, 68, 69, 70] σ0 σ0 := mq_fr_rf
  have hJ_304 : ∀ (H : Heap) (locs : List Loc) (f : Nat → va_E) (σ : mq_S) (ls : Array Slot) (r : Nat) (y3 : Int32) (y4 : Int32) (y5 : Int32) (y6 : Int32) (y7 : Int32) (y8 : Int32) (y9 : Int32) (z0 : Int32), sw_I D cl_all (ty_s ca) (va_A (va_pl L f0) sz) s H locs L f → mq_B ca ad σ L f → mq_fr [9, 10, 11, 13, 14, 16, 18, 24, 30, 31, 32, 33, 34, 42, 52, 56, 57, 58, 59, 60, 61, 62, 63, 64, 65, 66, 67, 68, 69, 70] σ0 σ → lv_has ls 12 [(0, .ref (ad 71)), (1, .int (nI j1)), (2, .int (nI r)), (3, .int (y3)), (4, .int (y4)), (5, .int (y5)), (6, .int (y6)), (7, .int (y7)), (8, .int (y8)), (9, .int (y9))] → (y4 = 0 ∨ y4 = 1) → (y8 = 0 ∨ y8 = 1) → (z0 = 0 ∨ z0 = 1) → (σ.1 56 = nI (z1)) → (σ.1 70 = nI (z2)) → (IH σ) → (4 ≤ r) → (r ≤ 6) → (5 ≤ z2) → (z2 ≤ 24) → (z0 = 1 ∧ ¬ y4 = 0 → ∃ j : Nat, j ≤ 31 ∧ y9 = nI j) → (z0 = 1 → y3 = 102 → ∃ j : Nat, j ≤ 31 ∧ y9 = nI j) → W p l e { frames := 6, cells := 0, slots := 0, locals := 150 } s m ([.ref (ad 71), .int (nI j1)] : List Value).toArray below meth c H locs 0 0 (MQ below (sm_Qi D (ty_s ca) L f0 sz (fun r u => mq_po ca ad L σ0 [9, 10, 11, 13, 14, 16, 18, 24, 30, 31, 32, 33, 34, 42, 52, 56, 57, 58, 59, 60, 61, 62, 63, 64, 65, 66, 67, 68, 69, 70] (fun σ => (r = 0 ∨ r = 1) ∧ (∃ n : Nat, z1 ≤ n ∧ n ≤ z1 + 1 ∧ (n = z1 ∨ 5 ≤ z2) ∧ σ.1 56 = nI n) ∧ IH σ ∧ True) u)) ([.ref (ad 71), .int (nI j1)] : List Value).toArray s 0 0 (va_A (va_pl L f0) sz)) (F0 m 304 ls [.int (z0)]) := by
    intro H locs f σ ls r y3 y4 y5 y6 y7 y8 y9 z0 hI hM hF hl py4 py8 pz0 o90 o91 u90 hr4 hr6 hs5 hs24 hf1 hf2
    refine lv_istore (lv' := [(10, .int (z0)), (0, .ref (ad 71)), (1, .int (nI j1)), (2, .int (nI r)), (3, .int (y3)), (4, .int (y4)), (5, .int (y5)), (6, .int (y6)), (7, .int (y7)), (8, .int (y8)), (9, .int (y9))]) hx hb d_Mo_asks_304 hl (by decide) rfl (fun ls hl => ?_)
    refine lv_iload_n hx hb d_Mo_asks_306 rfl (lv_at hl 3 rfl) ?_
    refine lv_aload_n hx hb d_Mo_asks_307 rfl (lv_at hl 1 rfl) ?_
    refine lv_iload_n hx hb d_Mo_asks_308 rfl (lv_at hl 2 rfl) ?_
    refine sm_iP hI (va_runV (As := [.int (nI j1)]) (rest := [.int (nI r)]) ⟨hx, hb, hml, hown, hts⟩ (c_Mo_objectBytes l D ca ad L _ _ _ hM (nI j1)) (kv_Mo_objectBytes hts rfl rfl (hts _ tw_1462) ⟨Nat.le_of_ble_eq_true rfl, Nat.le_of_ble_eq_true rfl⟩) (pv_Mo hI hE hM) rfl rfl hl.1 rfl (lv_room (Nat.le_of_ble_eq_true rfl)) d_Mo_asks_309 ⟨Nat.le_of_ble_eq_true rfl, Nat.le_of_ble_eq_true rfl⟩) (fun x_2 H locs p_1 hI => ?_)
    obtain ⟨n_3, rfl, h_4, h_5, h_6⟩ := p_1
    refine lv_iadd hx hb d_Mo_asks_312 ?_
    refine lv_topi (fun x_7 e_8 => ?_)
    obtain rfl : x_7 = nI (r + n_3) := by rw [e_8]; exact nI_add _ _
    refine lv_istore (lv' := [(11, .int (nI (r + n_3))), (10, .int (z0)), (0, .ref (ad 71)), (1, .int (nI j1)), (2, .int (nI r)), (3, .int (y3)), (4, .int (y4)), (5, .int (y5)), (6, .int (y6)), (7, .int (y7)), (8, .int (y8)), (9, .int (y9))]) hx hb d_Mo_asks_313 hl (by decide) rfl (fun ls hl => ?_)
    refine lv_iload hx hb d_Mo_asks_315 (lv_at hl 7 rfl) ?_
    refine lv_iload_n hx hb d_Mo_asks_317 rfl (lv_at hl 5 rfl) ?_
    refine lv_bipush (v := 102) hx hb d_Mo_asks_318 (by decide) ?_
    refine lv_icmp_ne (tgt := 327) hx hb d_Mo_asks_320 (by decide) (fun c_9 => ?_) (fun c_9 => ?_)
    · refine lv_bipush (v := 6) hx hb d_Mo_asks_327 (by decide) ?_
      refine lv_icmp_eq (tgt := 355) hx hb d_Mo_asks_329 (by decide) (fun c_10 => ?_) (fun c_10 => ?_)
      · refine lv_iload hx hb d_Mo_asks_355 (lv_at hl 8 rfl) ?_
        refine lv_aload_n hx hb d_Mo_asks_357 rfl (lv_at hl 2 rfl) ?_
        obtain ⟨x_11, e_12⟩ : ∃ z, σ.1 1 = z := ⟨_, rfl⟩
        refine mq_get (k := 1) (v := .int (x_11)) hx hb hts hown hI hM (by decide) (congrArg (fun z => some (Value.int z)) e_12) rfl (hts _ tw_1170) d_Mo_asks_358 ?_
        refine lv_icmp_eq (tgt := 380) hx hb d_Mo_asks_361 (by decide) (fun c_13 => ?_) (fun c_13 => ?_)
        · refine lv_iload hx hb d_Mo_asks_380 (lv_at hl 1 rfl) ?_
          refine lv_if_ne (tgt := 396) hx hb d_Mo_asks_382 (by decide) (fun c_14 => ?_) (fun c_14 => ?_)
          · refine lv_iload hx hb d_Mo_asks_396 (lv_at hl 6 rfl) ?_
            refine lv_if_eq (tgt := 415) hx hb d_Mo_asks_398 (by decide) (fun c_15 => ?_) (fun c_15 => ?_)
            · refine lv_aload_n hx hb d_Mo_asks_415 rfl (lv_at hl 2 rfl) ?_
              refine lv_iload_n hx hb d_Mo_asks_416 rfl (lv_at hl 3 rfl) ?_
              refine lv_iload_n hx hb d_Mo_asks_417 rfl (lv_at hl 5 rfl) ?_
              refine lv_iload hx hb d_Mo_asks_418 (lv_at hl 0 rfl) ?_
              refine lv_iload hx hb d_Mo_asks_420 (lv_at hl 11 rfl) ?_
              refine sm_vM hI (va_runV (As := [.int (nI j1), .int (y3), .int (nI (r + n_3)), .int (y9)]) (rest := []) ⟨hx, hb, hml, hown, hts⟩ (c_Mo_does l D ca ad L _ _ _ hM (j1) (by omega) y3 ((r + n_3)) (by omega) (by omega) y9 (fun h => hf2 (pz0.resolve_left c_14) h) u90) (kv_Mo_does hts rfl rfl (hts _ tw_1643) ⟨Nat.le_of_ble_eq_true rfl, Nat.le_of_ble_eq_true rfl⟩) (pv_Mo hI hE hM) rfl rfl hl.1 rfl (lv_room (Nat.le_of_ble_eq_true rfl)) d_Mo_asks_422 ⟨Nat.le_of_ble_eq_true rfl, Nat.le_of_ble_eq_true rfl⟩) (fun H locs f σ_17 hI hM hF_18 p_16 => ?_)
              have hF := mq_fr_tr hF hF_18 (by decide)
              have o_19 : σ_17.1 56 = nI (z1) := mq_fi hF_18 (by decide) o90
              obtain ⟨u_20, -⟩ := p_16
              refine lv_iconst (v := 1) hx hb d_Mo_asks_425 (by decide) ?_
              exact sm_zret hx hb hr hlk hI (by decide) ⟨σ_17, rfl, hM, hF, ⟨(by decide), ⟨(z1), by omega, by omega, by omega, o_19⟩, u_20, trivial⟩⟩ d_Mo_asks_426
            · refine lv_aload_n hx hb d_Mo_asks_401 rfl (lv_at hl 2 rfl) ?_
              refine lv_iload_n hx hb d_Mo_asks_402 rfl (lv_at hl 3 rfl) ?_
              refine lv_iload hx hb d_Mo_asks_403 (lv_at hl 11 rfl) ?_
              refine lv_topi (fun x_21 e_22 => ?_)
              obtain ⟨j_23, h_24, rfl⟩ : ∃ j : Nat, j < 32 ∧ x_21 = nI j := by rw [e_22]; obtain ⟨j, h1, h2⟩ := hf1 ⟨pz0.resolve_left c_14, c_15⟩; exact ⟨j, by omega, h2⟩
              refine lv_iload hx hb d_Mo_asks_405 (lv_at hl 0 rfl) ?_
              refine lv_iload hx hb d_Mo_asks_407 (lv_at hl 7 rfl) ?_
              refine sm_vM hI (va_runV (As := [.int (nI j1), .int (nI j_23), .int (nI (r + n_3)), .int (y5)]) (rest := []) ⟨hx, hb, hml, hown, hts⟩ (c_Mo_command l D ca ad L _ _ _ hM (j1) (by omega) (j_23) (by omega) ((r + n_3)) (by omega) (by omega) y5 ((z1)) o90 ((z2)) o91 (by omega) (by omega) u90) (kv_Mo_command hts rfl rfl (hts _ tw_1631) ⟨Nat.le_of_ble_eq_true rfl, Nat.le_of_ble_eq_true rfl⟩) (pv_Mo hI hE hM) rfl rfl hl.1 rfl (lv_room (Nat.le_of_ble_eq_true rfl)) d_Mo_asks_409 ⟨Nat.le_of_ble_eq_true rfl, Nat.le_of_ble_eq_true rfl⟩) (fun H locs f σ_26 hI hM hF_27 p_25 => ?_)
              have hF := mq_fr_tr hF hF_27 (by decide)
              have o_28 : σ_26.1 70 = nI (z2) := mq_fi hF_27 (by decide) o91
              obtain ⟨⟨n_30, h_31, h_32, o_29⟩, u_33, -⟩ := p_25
              refine lv_goto (tgt := 425) hx hb d_Mo_asks_412 (by decide) ?_
              refine lv_iconst (v := 1) hx hb d_Mo_asks_425 (by decide) ?_
              exact sm_zret hx hb hr hlk hI (by decide) ⟨σ_26, rfl, hM, hF, ⟨(by decide), ⟨n_30, by omega, by omega, by omega, o_29⟩, u_33, trivial⟩⟩ d_Mo_asks_426
          · refine lv_aload_n hx hb d_Mo_asks_385 rfl (lv_at hl 2 rfl) ?_
            refine lv_iload_n hx hb d_Mo_asks_386 rfl (lv_at hl 3 rfl) ?_
            refine lv_bipush (v := 47) hx hb d_Mo_asks_387 (by decide) ?_
            refine lv_iconst (v := 1) hx hb d_Mo_asks_389 (by decide) ?_
            refine sm_vM hI (va_runV (As := [.int (nI j1), .int (47), .int (1)]) (rest := []) ⟨hx, hb, hml, hown, hts⟩ (c_Mo_comes l D ca ad L _ _ _ hM (j1) (by omega) 47 1 (by decide) u90) (kv_Mo_comes hts rfl rfl (hts _ tw_1611) ⟨Nat.le_of_ble_eq_true rfl, Nat.le_of_ble_eq_true rfl⟩) (pv_Mo hI hE hM) rfl rfl hl.1 rfl (lv_room (Nat.le_of_ble_eq_true rfl)) d_Mo_asks_390 ⟨Nat.le_of_ble_eq_true rfl, Nat.le_of_ble_eq_true rfl⟩) (fun H locs f σ_35 hI hM hF_36 p_34 => ?_)
            have hF := mq_fr_tr hF hF_36 (by decide)
            have o_37 : σ_35.1 56 = nI (z1) := mq_fi hF_36 (by decide) o90
            have o_38 : σ_35.1 70 = nI (z2) := mq_fi hF_36 (by decide) o91
            obtain ⟨u_39, -⟩ := p_34
            refine lv_goto (tgt := 425) hx hb d_Mo_asks_393 (by decide) ?_
            refine lv_iconst (v := 1) hx hb d_Mo_asks_425 (by decide) ?_
            exact sm_zret hx hb hr hlk hI (by decide) ⟨σ_35, rfl, hM, hF, ⟨(by decide), ⟨(z1), by omega, by omega, by omega, o_37⟩, u_39, trivial⟩⟩ d_Mo_asks_426
        · refine lv_iload hx hb d_Mo_asks_364 (lv_at hl 10 rfl) ?_
          refine lv_if_ne (tgt := 380) hx hb d_Mo_asks_366 (by decide) (fun c_40 => ?_) (fun c_40 => ?_)
          · refine lv_iload hx hb d_Mo_asks_380 (lv_at hl 1 rfl) ?_
            refine lv_if_ne (tgt := 396) hx hb d_Mo_asks_382 (by decide) (fun c_41 => ?_) (fun c_41 => ?_)
            · refine lv_iload hx hb d_Mo_asks_396 (lv_at hl 6 rfl) ?_
              refine lv_if_eq (tgt := 415) hx hb d_Mo_asks_398 (by decide) (fun c_42 => ?_) (fun c_42 => ?_)
              · refine lv_aload_n hx hb d_Mo_asks_415 rfl (lv_at hl 2 rfl) ?_
                refine lv_iload_n hx hb d_Mo_asks_416 rfl (lv_at hl 3 rfl) ?_
                refine lv_iload_n hx hb d_Mo_asks_417 rfl (lv_at hl 5 rfl) ?_
                refine lv_iload hx hb d_Mo_asks_418 (lv_at hl 0 rfl) ?_
                refine lv_iload hx hb d_Mo_asks_420 (lv_at hl 11 rfl) ?_
                refine sm_vM hI (va_runV (As := [.int (nI j1), .int (y3), .int (nI (r + n_3)), .int (y9)]) (rest := []) ⟨hx, hb, hml, hown, hts⟩ (c_Mo_does l D ca ad L _ _ _ hM (j1) (by omega) y3 ((r + n_3)) (by omega) (by omega) y9 (fun h => hf2 (pz0.resolve_left c_41) h) u90) (kv_Mo_does hts rfl rfl (hts _ tw_1643) ⟨Nat.le_of_ble_eq_true rfl, Nat.le_of_ble_eq_true rfl⟩) (pv_Mo hI hE hM) rfl rfl hl.1 rfl (lv_room (Nat.le_of_ble_eq_true rfl)) d_Mo_asks_422 ⟨Nat.le_of_ble_eq_true rfl, Nat.le_of_ble_eq_true rfl⟩) (fun H locs f σ_44 hI hM hF_45 p_43 => ?_)
                have hF := mq_fr_tr hF hF_45 (by decide)
                have o_46 : σ_44.1 56 = nI (z1) := mq_fi hF_45 (by decide) o90
                obtain ⟨u_47, -⟩ := p_43
                refine lv_iconst (v := 1) hx hb d_Mo_asks_425 (by decide) ?_
                exact sm_zret hx hb hr hlk hI (by decide) ⟨σ_44, rfl, hM, hF, ⟨(by decide), ⟨(z1), by omega, by omega, by omega, o_46⟩, u_47, trivial⟩⟩ d_Mo_asks_426
              · refine lv_aload_n hx hb d_Mo_asks_401 rfl (lv_at hl 2 rfl) ?_
                refine lv_iload_n hx hb d_Mo_asks_402 rfl (lv_at hl 3 rfl) ?_
                refine lv_iload hx hb d_Mo_asks_403 (lv_at hl 11 rfl) ?_
                refine lv_topi (fun x_48 e_49 => ?_)
                obtain ⟨j_50, h_51, rfl⟩ : ∃ j : Nat, j < 32 ∧ x_48 = nI j := by rw [e_49]; obtain ⟨j, h1, h2⟩ := hf1 ⟨pz0.resolve_left c_41, c_42⟩; exact ⟨j, by omega, h2⟩
                refine lv_iload hx hb d_Mo_asks_405 (lv_at hl 0 rfl) ?_
                refine lv_iload hx hb d_Mo_asks_407 (lv_at hl 7 rfl) ?_
                refine sm_vM hI (va_runV (As := [.int (nI j1), .int (nI j_50), .int (nI (r + n_3)), .int (y5)]) (rest := []) ⟨hx, hb, hml, hown, hts⟩ (c_Mo_command l D ca ad L _ _ _ hM (j1) (by omega) (j_50) (by omega) ((r + n_3)) (by omega) (by omega) y5 ((z1)) o90 ((z2)) o91 (by omega) (by omega) u90) (kv_Mo_command hts rfl rfl (hts _ tw_1631) ⟨Nat.le_of_ble_eq_true rfl, Nat.le_of_ble_eq_true rfl⟩) (pv_Mo hI hE hM) rfl rfl hl.1 rfl (lv_room (Nat.le_of_ble_eq_true rfl)) d_Mo_asks_409 ⟨Nat.le_of_ble_eq_true rfl, Nat.le_of_ble_eq_true rfl⟩) (fun H locs f σ_53 hI hM hF_54 p_52 => ?_)
                have hF := mq_fr_tr hF hF_54 (by decide)
                have o_55 : σ_53.1 70 = nI (z2) := mq_fi hF_54 (by decide) o91
                obtain ⟨⟨n_57, h_58, h_59, o_56⟩, u_60, -⟩ := p_52
                refine lv_goto (tgt := 425) hx hb d_Mo_asks_412 (by decide) ?_
                refine lv_iconst (v := 1) hx hb d_Mo_asks_425 (by decide) ?_
                exact sm_zret hx hb hr hlk hI (by decide) ⟨σ_53, rfl, hM, hF, ⟨(by decide), ⟨n_57, by omega, by omega, by omega, o_56⟩, u_60, trivial⟩⟩ d_Mo_asks_426
            · refine lv_aload_n hx hb d_Mo_asks_385 rfl (lv_at hl 2 rfl) ?_
              refine lv_iload_n hx hb d_Mo_asks_386 rfl (lv_at hl 3 rfl) ?_
              refine lv_bipush (v := 47) hx hb d_Mo_asks_387 (by decide) ?_
              refine lv_iconst (v := 1) hx hb d_Mo_asks_389 (by decide) ?_
              refine sm_vM hI (va_runV (As := [.int (nI j1), .int (47), .int (1)]) (rest := []) ⟨hx, hb, hml, hown, hts⟩ (c_Mo_comes l D ca ad L _ _ _ hM (j1) (by omega) 47 1 (by decide) u90) (kv_Mo_comes hts rfl rfl (hts _ tw_1611) ⟨Nat.le_of_ble_eq_true rfl, Nat.le_of_ble_eq_true rfl⟩) (pv_Mo hI hE hM) rfl rfl hl.1 rfl (lv_room (Nat.le_of_ble_eq_true rfl)) d_Mo_asks_390 ⟨Nat.le_of_ble_eq_true rfl, Nat.le_of_ble_eq_true rfl⟩) (fun H locs f σ_62 hI hM hF_63 p_61 => ?_)
              have hF := mq_fr_tr hF hF_63 (by decide)
              have o_64 : σ_62.1 56 = nI (z1) := mq_fi hF_63 (by decide) o90
              have o_65 : σ_62.1 70 = nI (z2) := mq_fi hF_63 (by decide) o91
              obtain ⟨u_66, -⟩ := p_61
              refine lv_goto (tgt := 425) hx hb d_Mo_asks_393 (by decide) ?_
              refine lv_iconst (v := 1) hx hb d_Mo_asks_425 (by decide) ?_
              exact sm_zret hx hb hr hlk hI (by decide) ⟨σ_62, rfl, hM, hF, ⟨(by decide), ⟨(z1), by omega, by omega, by omega, o_64⟩, u_66, trivial⟩⟩ d_Mo_asks_426
          · refine lv_aload_n hx hb d_Mo_asks_369 rfl (lv_at hl 2 rfl) ?_
            refine lv_iload_n hx hb d_Mo_asks_370 rfl (lv_at hl 3 rfl) ?_
            refine lv_bipush (v := 46) hx hb d_Mo_asks_371 (by decide) ?_
            refine lv_iconst (v := 1) hx hb d_Mo_asks_373 (by decide) ?_
            refine sm_vM hI (va_runV (As := [.int (nI j1), .int (46), .int (1)]) (rest := []) ⟨hx, hb, hml, hown, hts⟩ (c_Mo_comes l D ca ad L _ _ _ hM (j1) (by omega) 46 1 (by decide) u90) (kv_Mo_comes hts rfl rfl (hts _ tw_1611) ⟨Nat.le_of_ble_eq_true rfl, Nat.le_of_ble_eq_true rfl⟩) (pv_Mo hI hE hM) rfl rfl hl.1 rfl (lv_room (Nat.le_of_ble_eq_true rfl)) d_Mo_asks_374 ⟨Nat.le_of_ble_eq_true rfl, Nat.le_of_ble_eq_true rfl⟩) (fun H locs f σ_68 hI hM hF_69 p_67 => ?_)
            have hF := mq_fr_tr hF hF_69 (by decide)
            have o_70 : σ_68.1 56 = nI (z1) := mq_fi hF_69 (by decide) o90
            have o_71 : σ_68.1 70 = nI (z2) := mq_fi hF_69 (by decide) o91
            obtain ⟨u_72, -⟩ := p_67
            refine lv_goto (tgt := 425) hx hb d_Mo_asks_377 (by decide) ?_
            refine lv_iconst (v := 1) hx hb d_Mo_asks_425 (by decide) ?_
            exact sm_zret hx hb hr hlk hI (by decide) ⟨σ_68, rfl, hM, hF, ⟨(by decide), ⟨(z1), by omega, by omega, by omega, o_70⟩, u_72, trivial⟩⟩ d_Mo_asks_426
      · refine lv_iload hx hb d_Mo_asks_332 (lv_at hl 6 rfl) ?_
        refine lv_if_eq (tgt := 344) hx hb d_Mo_asks_334 (by decide) (fun c_73 => ?_) (fun c_73 => ?_)
        · refine lv_aload_n hx hb d_Mo_asks_344 rfl (lv_at hl 2 rfl) ?_
          refine lv_iload_n hx hb d_Mo_asks_345 rfl (lv_at hl 3 rfl) ?_
          refine lv_bipush (v := 45) hx hb d_Mo_asks_346 (by decide) ?_
          refine lv_iconst (v := 1) hx hb d_Mo_asks_348 (by decide) ?_
          refine sm_vM hI (va_runV (As := [.int (nI j1), .int (45), .int (1)]) (rest := []) ⟨hx, hb, hml, hown, hts⟩ (c_Mo_comes l D ca ad L _ _ _ hM (j1) (by omega) 45 1 (by decide) u90) (kv_Mo_comes hts rfl rfl (hts _ tw_1611) ⟨Nat.le_of_ble_eq_true rfl, Nat.le_of_ble_eq_true rfl⟩) (pv_Mo hI hE hM) rfl rfl hl.1 rfl (lv_room (Nat.le_of_ble_eq_true rfl)) d_Mo_asks_349 ⟨Nat.le_of_ble_eq_true rfl, Nat.le_of_ble_eq_true rfl⟩) (fun H locs f σ_75 hI hM hF_76 p_74 => ?_)
          have hF := mq_fr_tr hF hF_76 (by decide)
          have o_77 : σ_75.1 56 = nI (z1) := mq_fi hF_76 (by decide) o90
          have o_78 : σ_75.1 70 = nI (z2) := mq_fi hF_76 (by decide) o91
          obtain ⟨u_79, -⟩ := p_74
          refine lv_goto (tgt := 425) hx hb d_Mo_asks_352 (by decide) ?_
          refine lv_iconst (v := 1) hx hb d_Mo_asks_425 (by decide) ?_
          exact sm_zret hx hb hr hlk hI (by decide) ⟨σ_75, rfl, hM, hF, ⟨(by decide), ⟨(z1), by omega, by omega, by omega, o_77⟩, u_79, trivial⟩⟩ d_Mo_asks_426
        · refine lv_iload hx hb d_Mo_asks_337 (lv_at hl 7 rfl) ?_
          refine lv_bipush (v := 8) hx hb d_Mo_asks_339 (by decide) ?_
          refine lv_icmp_eq (tgt := 355) hx hb d_Mo_asks_341 (by decide) (fun c_80 => ?_) (fun c_80 => ?_)
          · refine lv_iload hx hb d_Mo_asks_355 (lv_at hl 8 rfl) ?_
            refine lv_aload_n hx hb d_Mo_asks_357 rfl (lv_at hl 2 rfl) ?_
            obtain ⟨x_81, e_82⟩ : ∃ z, σ.1 1 = z := ⟨_, rfl⟩
            refine mq_get (k := 1) (v := .int (x_81)) hx hb hts hown hI hM (by decide) (congrArg (fun z => some (Value.int z)) e_82) rfl (hts _ tw_1170) d_Mo_asks_358 ?_
            refine lv_icmp_eq (tgt := 380) hx hb d_Mo_asks_361 (by decide) (fun c_83 => ?_) (fun c_83 => ?_)
            · refine lv_iload hx hb d_Mo_asks_380 (lv_at hl 1 rfl) ?_
              refine lv_if_ne (tgt := 396) hx hb d_Mo_asks_382 (by decide) (fun c_84 => ?_) (fun c_84 => ?_)
              · refine lv_iload hx hb d_Mo_asks_396 (lv_at hl 6 rfl) ?_
                refine lv_if_eq (tgt := 415) hx hb d_Mo_asks_398 (by decide) (fun c_85 => ?_) (fun c_85 => ?_)
                · exact absurd c_85 c_73
                · refine lv_aload_n hx hb d_Mo_asks_401 rfl (lv_at hl 2 rfl) ?_
                  refine lv_iload_n hx hb d_Mo_asks_402 rfl (lv_at hl 3 rfl) ?_
                  refine lv_iload hx hb d_Mo_asks_403 (lv_at hl 11 rfl) ?_
                  refine lv_topi (fun x_86 e_87 => ?_)
                  obtain ⟨j_88, h_89, rfl⟩ : ∃ j : Nat, j < 32 ∧ x_86 = nI j := by rw [e_87]; obtain ⟨j, h1, h2⟩ := hf1 ⟨pz0.resolve_left c_84, c_85⟩; exact ⟨j, by omega, h2⟩
                  refine lv_iload hx hb d_Mo_asks_405 (lv_at hl 0 rfl) ?_
                  refine lv_iload hx hb d_Mo_asks_407 (lv_at hl 7 rfl) ?_
                  refine sm_vM hI (va_runV (As := [.int (nI j1), .int (nI j_88), .int (nI (r + n_3)), .int (y5)]) (rest := []) ⟨hx, hb, hml, hown, hts⟩ (c_Mo_command l D ca ad L _ _ _ hM (j1) (by omega) (j_88) (by omega) ((r + n_3)) (by omega) (by omega) y5 ((z1)) o90 ((z2)) o91 (by omega) (by omega) u90) (kv_Mo_command hts rfl rfl (hts _ tw_1631) ⟨Nat.le_of_ble_eq_true rfl, Nat.le_of_ble_eq_true rfl⟩) (pv_Mo hI hE hM) rfl rfl hl.1 rfl (lv_room (Nat.le_of_ble_eq_true rfl)) d_Mo_asks_409 ⟨Nat.le_of_ble_eq_true rfl, Nat.le_of_ble_eq_true rfl⟩) (fun H locs f σ_91 hI hM hF_92 p_90 => ?_)
                  have hF := mq_fr_tr hF hF_92 (by decide)
                  have o_93 : σ_91.1 70 = nI (z2) := mq_fi hF_92 (by decide) o91
                  obtain ⟨⟨n_95, h_96, h_97, o_94⟩, u_98, -⟩ := p_90
                  refine lv_goto (tgt := 425) hx hb d_Mo_asks_412 (by decide) ?_
                  refine lv_iconst (v := 1) hx hb d_Mo_asks_425 (by decide) ?_
                  exact sm_zret hx hb hr hlk hI (by decide) ⟨σ_91, rfl, hM, hF, ⟨(by decide), ⟨n_95, by omega, by omega, by omega, o_94⟩, u_98, trivial⟩⟩ d_Mo_asks_426
              · refine lv_aload_n hx hb d_Mo_asks_385 rfl (lv_at hl 2 rfl) ?_
                refine lv_iload_n hx hb d_Mo_asks_386 rfl (lv_at hl 3 rfl) ?_
                refine lv_bipush (v := 47) hx hb d_Mo_asks_387 (by decide) ?_
                refine lv_iconst (v := 1) hx hb d_Mo_asks_389 (by decide) ?_
                refine sm_vM hI (va_runV (As := [.int (nI j1), .int (47), .int (1)]) (rest := []) ⟨hx, hb, hml, hown, hts⟩ (c_Mo_comes l D ca ad L _ _ _ hM (j1) (by omega) 47 1 (by decide) u90) (kv_Mo_comes hts rfl rfl (hts _ tw_1611) ⟨Nat.le_of_ble_eq_true rfl, Nat.le_of_ble_eq_true rfl⟩) (pv_Mo hI hE hM) rfl rfl hl.1 rfl (lv_room (Nat.le_of_ble_eq_true rfl)) d_Mo_asks_390 ⟨Nat.le_of_ble_eq_true rfl, Nat.le_of_ble_eq_true rfl⟩) (fun H locs f σ_100 hI hM hF_101 p_99 => ?_)
                have hF := mq_fr_tr hF hF_101 (by decide)
                have o_102 : σ_100.1 56 = nI (z1) := mq_fi hF_101 (by decide) o90
                have o_103 : σ_100.1 70 = nI (z2) := mq_fi hF_101 (by decide) o91
                obtain ⟨u_104, -⟩ := p_99
                refine lv_goto (tgt := 425) hx hb d_Mo_asks_393 (by decide) ?_
                refine lv_iconst (v := 1) hx hb d_Mo_asks_425 (by decide) ?_
                exact sm_zret hx hb hr hlk hI (by decide) ⟨σ_100, rfl, hM, hF, ⟨(by decide), ⟨(z1), by omega, by omega, by omega, o_102⟩, u_104, trivial⟩⟩ d_Mo_asks_426
            · refine lv_iload hx hb d_Mo_asks_364 (lv_at hl 10 rfl) ?_
              refine lv_if_ne (tgt := 380) hx hb d_Mo_asks_366 (by decide) (fun c_105 => ?_) (fun c_105 => ?_)
              · refine lv_iload hx hb d_Mo_asks_380 (lv_at hl 1 rfl) ?_
                refine lv_if_ne (tgt := 396) hx hb d_Mo_asks_382 (by decide) (fun c_106 => ?_) (fun c_106 => ?_)
                · refine lv_iload hx hb d_Mo_asks_396 (lv_at hl 6 rfl) ?_
                  refine lv_if_eq (tgt := 415) hx hb d_Mo_asks_398 (by decide) (fun c_107 => ?_) (fun c_107 => ?_)
                  · exact absurd c_107 c_73
                  · refine lv_aload_n hx hb d_Mo_asks_401 rfl (lv_at hl 2 rfl) ?_
                    refine lv_iload_n hx hb d_Mo_asks_402 rfl (lv_at hl 3 rfl) ?_
                    refine lv_iload hx hb d_Mo_asks_403 (lv_at hl 11 rfl) ?_
                    refine lv_topi (fun x_108 e_109 => ?_)
                    obtain ⟨j_110, h_111, rfl⟩ : ∃ j : Nat, j < 32 ∧ x_108 = nI j := by rw [e_109]; obtain ⟨j, h1, h2⟩ := hf1 ⟨pz0.resolve_left c_106, c_107⟩; exact ⟨j, by omega, h2⟩
                    refine lv_iload hx hb d_Mo_asks_405 (lv_at hl 0 rfl) ?_
                    refine lv_iload hx hb d_Mo_asks_407 (lv_at hl 7 rfl) ?_
                    refine sm_vM hI (va_runV (As := [.int (nI j1), .int (nI j_110), .int (nI (r + n_3)), .int (y5)]) (rest := []) ⟨hx, hb, hml, hown, hts⟩ (c_Mo_command l D ca ad L _ _ _ hM (j1) (by omega) (j_110) (by omega) ((r + n_3)) (by omega) (by omega) y5 ((z1)) o90 ((z2)) o91 (by omega) (by omega) u90) (kv_Mo_command hts rfl rfl (hts _ tw_1631) ⟨Nat.le_of_ble_eq_true rfl, Nat.le_of_ble_eq_true rfl⟩) (pv_Mo hI hE hM) rfl rfl hl.1 rfl (lv_room (Nat.le_of_ble_eq_true rfl)) d_Mo_asks_409 ⟨Nat.le_of_ble_eq_true rfl, Nat.le_of_ble_eq_true rfl⟩) (fun H locs f σ_113 hI hM hF_114 p_112 => ?_)
                    have hF := mq_fr_tr hF hF_114 (by decide)
                    have o_115 : σ_113.1 70 = nI (z2) := mq_fi hF_114 (by decide) o91
                    obtain ⟨⟨n_117, h_118, h_119, o_116⟩, u_120, -⟩ := p_112
                    refine lv_goto (tgt := 425) hx hb d_Mo_asks_412 (by decide) ?_
                    refine lv_iconst (v := 1) hx hb d_Mo_asks_425 (by decide) ?_
                    exact sm_zret hx hb hr hlk hI (by decide) ⟨σ_113, rfl, hM, hF, ⟨(by decide), ⟨n_117, by omega, by omega, by omega, o_116⟩, u_120, trivial⟩⟩ d_Mo_asks_426
                · refine lv_aload_n hx hb d_Mo_asks_385 rfl (lv_at hl 2 rfl) ?_
                  refine lv_iload_n hx hb d_Mo_asks_386 rfl (lv_at hl 3 rfl) ?_
                  refine lv_bipush (v := 47) hx hb d_Mo_asks_387 (by decide) ?_
                  refine lv_iconst (v := 1) hx hb d_Mo_asks_389 (by decide) ?_
                  refine sm_vM hI (va_runV (As := [.int (nI j1), .int (47), .int (1)]) (rest := []) ⟨hx, hb, hml, hown, hts⟩ (c_Mo_comes l D ca ad L _ _ _ hM (j1) (by omega) 47 1 (by decide) u90) (kv_Mo_comes hts rfl rfl (hts _ tw_1611) ⟨Nat.le_of_ble_eq_true rfl, Nat.le_of_ble_eq_true rfl⟩) (pv_Mo hI hE hM) rfl rfl hl.1 rfl (lv_room (Nat.le_of_ble_eq_true rfl)) d_Mo_asks_390 ⟨Nat.le_of_ble_eq_true rfl, Nat.le_of_ble_eq_true rfl⟩) (fun H locs f σ_122 hI hM hF_123 p_121 => ?_)
                  have hF := mq_fr_tr hF hF_123 (by decide)
                  have o_124 : σ_122.1 56 = nI (z1) := mq_fi hF_123 (by decide) o90
                  have o_125 : σ_122.1 70 = nI (z2) := mq_fi hF_123 (by decide) o91
                  obtain ⟨u_126, -⟩ := p_121
                  refine lv_goto (tgt := 425) hx hb d_Mo_asks_393 (by decide) ?_
                  refine lv_iconst (v := 1) hx hb d_Mo_asks_425 (by decide) ?_
                  exact sm_zret hx hb hr hlk hI (by decide) ⟨σ_122, rfl, hM, hF, ⟨(by decide), ⟨(z1), by omega, by omega, by omega, o_124⟩, u_126, trivial⟩⟩ d_Mo_asks_426
              · refine lv_aload_n hx hb d_Mo_asks_369 rfl (lv_at hl 2 rfl) ?_
                refine lv_iload_n hx hb d_Mo_asks_370 rfl (lv_at hl 3 rfl) ?_
                refine lv_bipush (v := 46) hx hb d_Mo_asks_371 (by decide) ?_
                refine lv_iconst (v := 1) hx hb d_Mo_asks_373 (by decide) ?_
                refine sm_vM hI (va_runV (As := [.int (nI j1), .int (46), .int (1)]) (rest := []) ⟨hx, hb, hml, hown, hts⟩ (c_Mo_comes l D ca ad L _ _ _ hM (j1) (by omega) 46 1 (by decide) u90) (kv_Mo_comes hts rfl rfl (hts _ tw_1611) ⟨Nat.le_of_ble_eq_true rfl, Nat.le_of_ble_eq_true rfl⟩) (pv_Mo hI hE hM) rfl rfl hl.1 rfl (lv_room (Nat.le_of_ble_eq_true rfl)) d_Mo_asks_374 ⟨Nat.le_of_ble_eq_true rfl, Nat.le_of_ble_eq_true rfl⟩) (fun H locs f σ_128 hI hM hF_129 p_127 => ?_)
                have hF := mq_fr_tr hF hF_129 (by decide)
                have o_130 : σ_128.1 56 = nI (z1) := mq_fi hF_129 (by decide) o90
                have o_131 : σ_128.1 70 = nI (z2) := mq_fi hF_129 (by decide) o91
                obtain ⟨u_132, -⟩ := p_127
                refine lv_goto (tgt := 425) hx hb d_Mo_asks_377 (by decide) ?_
                refine lv_iconst (v := 1) hx hb d_Mo_asks_425 (by decide) ?_
                exact sm_zret hx hb hr hlk hI (by decide) ⟨σ_128, rfl, hM, hF, ⟨(by decide), ⟨(z1), by omega, by omega, by omega, o_130⟩, u_132, trivial⟩⟩ d_Mo_asks_426
          · refine lv_aload_n hx hb d_Mo_asks_344 rfl (lv_at hl 2 rfl) ?_
            refine lv_iload_n hx hb d_Mo_asks_345 rfl (lv_at hl 3 rfl) ?_
            refine lv_bipush (v := 45) hx hb d_Mo_asks_346 (by decide) ?_
            refine lv_iconst (v := 1) hx hb d_Mo_asks_348 (by decide) ?_
            refine sm_vM hI (va_runV (As := [.int (nI j1), .int (45), .int (1)]) (rest := []) ⟨hx, hb, hml, hown, hts⟩ (c_Mo_comes l D ca ad L _ _ _ hM (j1) (by omega) 45 1 (by decide) u90) (kv_Mo_comes hts rfl rfl (hts _ tw_1611) ⟨Nat.le_of_ble_eq_true rfl, Nat.le_of_ble_eq_true rfl⟩) (pv_Mo hI hE hM) rfl rfl hl.1 rfl (lv_room (Nat.le_of_ble_eq_true rfl)) d_Mo_asks_349 ⟨Nat.le_of_ble_eq_true rfl, Nat.le_of_ble_eq_true rfl⟩) (fun H locs f σ_134 hI hM hF_135 p_133 => ?_)
            have hF := mq_fr_tr hF hF_135 (by decide)
            have o_136 : σ_134.1 56 = nI (z1) := mq_fi hF_135 (by decide) o90
            have o_137 : σ_134.1 70 = nI (z2) := mq_fi hF_135 (by decide) o91
            obtain ⟨u_138, -⟩ := p_133
            refine lv_goto (tgt := 425) hx hb d_Mo_asks_352 (by decide) ?_
            refine lv_iconst (v := 1) hx hb d_Mo_asks_425 (by decide) ?_
            exact sm_zret hx hb hr hlk hI (by decide) ⟨σ_134, rfl, hM, hF, ⟨(by decide), ⟨(z1), by omega, by omega, by omega, o_136⟩, u_138, trivial⟩⟩ d_Mo_asks_426
    · refine lv_iconst (v := 5) hx hb d_Mo_asks_323 (by decide) ?_
      refine lv_goto (tgt := 329) hx hb d_Mo_asks_324 (by decide) ?_
      refine lv_icmp_eq (tgt := 355) hx hb d_Mo_asks_329 (by decide) (fun c_139 => ?_) (fun c_139 => ?_)
      · refine lv_iload hx hb d_Mo_asks_355 (lv_at hl 8 rfl) ?_
        refine lv_aload_n hx hb d_Mo_asks_357 rfl (lv_at hl 2 rfl) ?_
        obtain ⟨x_140, e_141⟩ : ∃ z, σ.1 1 = z := ⟨_, rfl⟩
        refine mq_get (k := 1) (v := .int (x_140)) hx hb hts hown hI hM (by decide) (congrArg (fun z => some (Value.int z)) e_141) rfl (hts _ tw_1170) d_Mo_asks_358 ?_
        refine lv_icmp_eq (tgt := 380) hx hb d_Mo_asks_361 (by decide) (fun c_142 => ?_) (fun c_142 => ?_)
        · refine lv_iload hx hb d_Mo_asks_380 (lv_at hl 1 rfl) ?_
          refine lv_if_ne (tgt := 396) hx hb d_Mo_asks_382 (by decide) (fun c_143 => ?_) (fun c_143 => ?_)
          · refine lv_iload hx hb d_Mo_asks_396 (lv_at hl 6 rfl) ?_
            refine lv_if_eq (tgt := 415) hx hb d_Mo_asks_398 (by decide) (fun c_144 => ?_) (fun c_144 => ?_)
            · refine lv_aload_n hx hb d_Mo_asks_415 rfl (lv_at hl 2 rfl) ?_
              refine lv_iload_n hx hb d_Mo_asks_416 rfl (lv_at hl 3 rfl) ?_
              refine lv_iload_n hx hb d_Mo_asks_417 rfl (lv_at hl 5 rfl) ?_
              refine lv_iload hx hb d_Mo_asks_418 (lv_at hl 0 rfl) ?_
              refine lv_iload hx hb d_Mo_asks_420 (lv_at hl 11 rfl) ?_
              refine sm_vM hI (va_runV (As := [.int (nI j1), .int (y3), .int (nI (r + n_3)), .int (y9)]) (rest := []) ⟨hx, hb, hml, hown, hts⟩ (c_Mo_does l D ca ad L _ _ _ hM (j1) (by omega) y3 ((r + n_3)) (by omega) (by omega) y9 (fun h => hf2 (pz0.resolve_left c_143) h) u90) (kv_Mo_does hts rfl rfl (hts _ tw_1643) ⟨Nat.le_of_ble_eq_true rfl, Nat.le_of_ble_eq_true rfl⟩) (pv_Mo hI hE hM) rfl rfl hl.1 rfl (lv_room (Nat.le_of_ble_eq_true rfl)) d_Mo_asks_422 ⟨Nat.le_of_ble_eq_true rfl, Nat.le_of_ble_eq_true rfl⟩) (fun H locs f σ_146 hI hM hF_147 p_145 => ?_)
              have hF := mq_fr_tr hF hF_147 (by decide)
              have o_148 : σ_146.1 56 = nI (z1) := mq_fi hF_147 (by decide) o90
              obtain ⟨u_149, -⟩ := p_145
              refine lv_iconst (v := 1) hx hb d_Mo_asks_425 (by decide) ?_
              exact sm_zret hx hb hr hlk hI (by decide) ⟨σ_146, rfl, hM, hF, ⟨(by decide), ⟨(z1), by omega, by omega, by omega, o_148⟩, u_149, trivial⟩⟩ d_Mo_asks_426
            · refine lv_aload_n hx hb d_Mo_asks_401 rfl (lv_at hl 2 rfl) ?_
              refine lv_iload_n hx hb d_Mo_asks_402 rfl (lv_at hl 3 rfl) ?_
              refine lv_iload hx hb d_Mo_asks_403 (lv_at hl 11 rfl) ?_
              refine lv_topi (fun x_150 e_151 => ?_)
              obtain ⟨j_152, h_153, rfl⟩ : ∃ j : Nat, j < 32 ∧ x_150 = nI j := by rw [e_151]; obtain ⟨j, h1, h2⟩ := hf1 ⟨pz0.resolve_left c_143, c_144⟩; exact ⟨j, by omega, h2⟩
              refine lv_iload hx hb d_Mo_asks_405 (lv_at hl 0 rfl) ?_
              refine lv_iload hx hb d_Mo_asks_407 (lv_at hl 7 rfl) ?_
              refine sm_vM hI (va_runV (As := [.int (nI j1), .int (nI j_152), .int (nI (r + n_3)), .int (y5)]) (rest := []) ⟨hx, hb, hml, hown, hts⟩ (c_Mo_command l D ca ad L _ _ _ hM (j1) (by omega) (j_152) (by omega) ((r + n_3)) (by omega) (by omega) y5 ((z1)) o90 ((z2)) o91 (by omega) (by omega) u90) (kv_Mo_command hts rfl rfl (hts _ tw_1631) ⟨Nat.le_of_ble_eq_true rfl, Nat.le_of_ble_eq_true rfl⟩) (pv_Mo hI hE hM) rfl rfl hl.1 rfl (lv_room (Nat.le_of_ble_eq_true rfl)) d_Mo_asks_409 ⟨Nat.le_of_ble_eq_true rfl, Nat.le_of_ble_eq_true rfl⟩) (fun H locs f σ_155 hI hM hF_156 p_154 => ?_)
              have hF := mq_fr_tr hF hF_156 (by decide)
              have o_157 : σ_155.1 70 = nI (z2) := mq_fi hF_156 (by decide) o91
              obtain ⟨⟨n_159, h_160, h_161, o_158⟩, u_162, -⟩ := p_154
              refine lv_goto (tgt := 425) hx hb d_Mo_asks_412 (by decide) ?_
              refine lv_iconst (v := 1) hx hb d_Mo_asks_425 (by decide) ?_
              exact sm_zret hx hb hr hlk hI (by decide) ⟨σ_155, rfl, hM, hF, ⟨(by decide), ⟨n_159, by omega, by omega, by omega, o_158⟩, u_162, trivial⟩⟩ d_Mo_asks_426
          · refine lv_aload_n hx hb d_Mo_asks_385 rfl (lv_at hl 2 rfl) ?_
            refine lv_iload_n hx hb d_Mo_asks_386 rfl (lv_at hl 3 rfl) ?_
            refine lv_bipush (v := 47) hx hb d_Mo_asks_387 (by decide) ?_
            refine lv_iconst (v := 1) hx hb d_Mo_asks_389 (by decide) ?_
            refine sm_vM hI (va_runV (As := [.int (nI j1), .int (47), .int (1)]) (rest := []) ⟨hx, hb, hml, hown, hts⟩ (c_Mo_comes l D ca ad L _ _ _ hM (j1) (by omega) 47 1 (by decide) u90) (kv_Mo_comes hts rfl rfl (hts _ tw_1611) ⟨Nat.le_of_ble_eq_true rfl, Nat.le_of_ble_eq_true rfl⟩) (pv_Mo hI hE hM) rfl rfl hl.1 rfl (lv_room (Nat.le_of_ble_eq_true rfl)) d_Mo_asks_390 ⟨Nat.le_of_ble_eq_true rfl, Nat.le_of_ble_eq_true rfl⟩) (fun H locs f σ_164 hI hM hF_165 p_163 => ?_)
            have hF := mq_fr_tr hF hF_165 (by decide)
            have o_166 : σ_164.1 56 = nI (z1) := mq_fi hF_165 (by decide) o90
            have o_167 : σ_164.1 70 = nI (z2) := mq_fi hF_165 (by decide) o91
            obtain ⟨u_168, -⟩ := p_163
            refine lv_goto (tgt := 425) hx hb d_Mo_asks_393 (by decide) ?_
            refine lv_iconst (v := 1) hx hb d_Mo_asks_425 (by decide) ?_
            exact sm_zret hx hb hr hlk hI (by decide) ⟨σ_164, rfl, hM, hF, ⟨(by decide), ⟨(z1), by omega, by omega, by omega, o_166⟩, u_168, trivial⟩⟩ d_Mo_asks_426
        · refine lv_iload hx hb d_Mo_asks_364 (lv_at hl 10 rfl) ?_
          refine lv_if_ne (tgt := 380) hx hb d_Mo_asks_366 (by decide) (fun c_169 => ?_) (fun c_169 => ?_)
          · refine lv_iload hx hb d_Mo_asks_380 (lv_at hl 1 rfl) ?_
            refine lv_if_ne (tgt := 396) hx hb d_Mo_asks_382 (by decide) (fun c_170 => ?_) (fun c_170 => ?_)
            · refine lv_iload hx hb d_Mo_asks_396 (lv_at hl 6 rfl) ?_
              refine lv_if_eq (tgt := 415) hx hb d_Mo_asks_398 (by decide) (fun c_171 => ?_) (fun c_171 => ?_)
              · refine lv_aload_n hx hb d_Mo_asks_415 rfl (lv_at hl 2 rfl) ?_
                refine lv_iload_n hx hb d_Mo_asks_416 rfl (lv_at hl 3 rfl) ?_
                refine lv_iload_n hx hb d_Mo_asks_417 rfl (lv_at hl 5 rfl) ?_
                refine lv_iload hx hb d_Mo_asks_418 (lv_at hl 0 rfl) ?_
                refine lv_iload hx hb d_Mo_asks_420 (lv_at hl 11 rfl) ?_
                refine sm_vM hI (va_runV (As := [.int (nI j1), .int (y3), .int (nI (r + n_3)), .int (y9)]) (rest := []) ⟨hx, hb, hml, hown, hts⟩ (c_Mo_does l D ca ad L _ _ _ hM (j1) (by omega) y3 ((r + n_3)) (by omega) (by omega) y9 (fun h => hf2 (pz0.resolve_left c_170) h) u90) (kv_Mo_does hts rfl rfl (hts _ tw_1643) ⟨Nat.le_of_ble_eq_true rfl, Nat.le_of_ble_eq_true rfl⟩) (pv_Mo hI hE hM) rfl rfl hl.1 rfl (lv_room (Nat.le_of_ble_eq_true rfl)) d_Mo_asks_422 ⟨Nat.le_of_ble_eq_true rfl, Nat.le_of_ble_eq_true rfl⟩) (fun H locs f σ_173 hI hM hF_174 p_172 => ?_)
                have hF := mq_fr_tr hF hF_174 (by decide)
                have o_175 : σ_173.1 56 = nI (z1) := mq_fi hF_174 (by decide) o90
                obtain ⟨u_176, -⟩ := p_172
                refine lv_iconst (v := 1) hx hb d_Mo_asks_425 (by decide) ?_
                exact sm_zret hx hb hr hlk hI (by decide) ⟨σ_173, rfl, hM, hF, ⟨(by decide), ⟨(z1), by omega, by omega, by omega, o_175⟩, u_176, trivial⟩⟩ d_Mo_asks_426
              · refine lv_aload_n hx hb d_Mo_asks_401 rfl (lv_at hl 2 rfl) ?_
                refine lv_iload_n hx hb d_Mo_asks_402 rfl (lv_at hl 3 rfl) ?_
                refine lv_iload hx hb d_Mo_asks_403 (lv_at hl 11 rfl) ?_
                refine lv_topi (fun x_177 e_178 => ?_)
                obtain ⟨j_179, h_180, rfl⟩ : ∃ j : Nat, j < 32 ∧ x_177 = nI j := by rw [e_178]; obtain ⟨j, h1, h2⟩ := hf1 ⟨pz0.resolve_left c_170, c_171⟩; exact ⟨j, by omega, h2⟩
                refine lv_iload hx hb d_Mo_asks_405 (lv_at hl 0 rfl) ?_
                refine lv_iload hx hb d_Mo_asks_407 (lv_at hl 7 rfl) ?_
                refine sm_vM hI (va_runV (As := [.int (nI j1), .int (nI j_179), .int (nI (r + n_3)), .int (y5)]) (rest := []) ⟨hx, hb, hml, hown, hts⟩ (c_Mo_command l D ca ad L _ _ _ hM (j1) (by omega) (j_179) (by omega) ((r + n_3)) (by omega) (by omega) y5 ((z1)) o90 ((z2)) o91 (by omega) (by omega) u90) (kv_Mo_command hts rfl rfl (hts _ tw_1631) ⟨Nat.le_of_ble_eq_true rfl, Nat.le_of_ble_eq_true rfl⟩) (pv_Mo hI hE hM) rfl rfl hl.1 rfl (lv_room (Nat.le_of_ble_eq_true rfl)) d_Mo_asks_409 ⟨Nat.le_of_ble_eq_true rfl, Nat.le_of_ble_eq_true rfl⟩) (fun H locs f σ_182 hI hM hF_183 p_181 => ?_)
                have hF := mq_fr_tr hF hF_183 (by decide)
                have o_184 : σ_182.1 70 = nI (z2) := mq_fi hF_183 (by decide) o91
                obtain ⟨⟨n_186, h_187, h_188, o_185⟩, u_189, -⟩ := p_181
                refine lv_goto (tgt := 425) hx hb d_Mo_asks_412 (by decide) ?_
                refine lv_iconst (v := 1) hx hb d_Mo_asks_425 (by decide) ?_
                exact sm_zret hx hb hr hlk hI (by decide) ⟨σ_182, rfl, hM, hF, ⟨(by decide), ⟨n_186, by omega, by omega, by omega, o_185⟩, u_189, trivial⟩⟩ d_Mo_asks_426
            · refine lv_aload_n hx hb d_Mo_asks_385 rfl (lv_at hl 2 rfl) ?_
              refine lv_iload_n hx hb d_Mo_asks_386 rfl (lv_at hl 3 rfl) ?_
              refine lv_bipush (v := 47) hx hb d_Mo_asks_387 (by decide) ?_
              refine lv_iconst (v := 1) hx hb d_Mo_asks_389 (by decide) ?_
              refine sm_vM hI (va_runV (As := [.int (nI j1), .int (47), .int (1)]) (rest := []) ⟨hx, hb, hml, hown, hts⟩ (c_Mo_comes l D ca ad L _ _ _ hM (j1) (by omega) 47 1 (by decide) u90) (kv_Mo_comes hts rfl rfl (hts _ tw_1611) ⟨Nat.le_of_ble_eq_true rfl, Nat.le_of_ble_eq_true rfl⟩) (pv_Mo hI hE hM) rfl rfl hl.1 rfl (lv_room (Nat.le_of_ble_eq_true rfl)) d_Mo_asks_390 ⟨Nat.le_of_ble_eq_true rfl, Nat.le_of_ble_eq_true rfl⟩) (fun H locs f σ_191 hI hM hF_192 p_190 => ?_)
              have hF := mq_fr_tr hF hF_192 (by decide)
              have o_193 : σ_191.1 56 = nI (z1) := mq_fi hF_192 (by decide) o90
              have o_194 : σ_191.1 70 = nI (z2) := mq_fi hF_192 (by decide) o91
              obtain ⟨u_195, -⟩ := p_190
              refine lv_goto (tgt := 425) hx hb d_Mo_asks_393 (by decide) ?_
              refine lv_iconst (v := 1) hx hb d_Mo_asks_425 (by decide) ?_
              exact sm_zret hx hb hr hlk hI (by decide) ⟨σ_191, rfl, hM, hF, ⟨(by decide), ⟨(z1), by omega, by omega, by omega, o_193⟩, u_195, trivial⟩⟩ d_Mo_asks_426
          · refine lv_aload_n hx hb d_Mo_asks_369 rfl (lv_at hl 2 rfl) ?_
            refine lv_iload_n hx hb d_Mo_asks_370 rfl (lv_at hl 3 rfl) ?_
            refine lv_bipush (v := 46) hx hb d_Mo_asks_371 (by decide) ?_
            refine lv_iconst (v := 1) hx hb d_Mo_asks_373 (by decide) ?_
            refine sm_vM hI (va_runV (As := [.int (nI j1), .int (46), .int (1)]) (rest := []) ⟨hx, hb, hml, hown, hts⟩ (c_Mo_comes l D ca ad L _ _ _ hM (j1) (by omega) 46 1 (by decide) u90) (kv_Mo_comes hts rfl rfl (hts _ tw_1611) ⟨Nat.le_of_ble_eq_true rfl, Nat.le_of_ble_eq_true rfl⟩) (pv_Mo hI hE hM) rfl rfl hl.1 rfl (lv_room (Nat.le_of_ble_eq_true rfl)) d_Mo_asks_374 ⟨Nat.le_of_ble_eq_true rfl, Nat.le_of_ble_eq_true rfl⟩) (fun H locs f σ_197 hI hM hF_198 p_196 => ?_)
            have hF := mq_fr_tr hF hF_198 (by decide)
            have o_199 : σ_197.1 56 = nI (z1) := mq_fi hF_198 (by decide) o90
            have o_200 : σ_197.1 70 = nI (z2) := mq_fi hF_198 (by decide) o91
            obtain ⟨u_201, -⟩ := p_196
            refine lv_goto (tgt := 425) hx hb d_Mo_asks_377 (by decide) ?_
            refine lv_iconst (v := 1) hx hb d_Mo_asks_425 (by decide) ?_
            exact sm_zret hx hb hr hlk hI (by decide) ⟨σ_197, rfl, hM, hF, ⟨(by decide), ⟨(z1), by omega, by omega, by omega, o_199⟩, u_201, trivial⟩⟩ d_Mo_asks_426
      · refine lv_iload hx hb d_Mo_asks_332 (lv_at hl 6 rfl) ?_
        refine lv_if_eq (tgt := 344) hx hb d_Mo_asks_334 (by decide) (fun c_202 => ?_) (fun c_202 => ?_)
        · refine lv_aload_n hx hb d_Mo_asks_344 rfl (lv_at hl 2 rfl) ?_
          refine lv_iload_n hx hb d_Mo_asks_345 rfl (lv_at hl 3 rfl) ?_
          refine lv_bipush (v := 45) hx hb d_Mo_asks_346 (by decide) ?_
          refine lv_iconst (v := 1) hx hb d_Mo_asks_348 (by decide) ?_
          refine sm_vM hI (va_runV (As := [.int (nI j1), .int (45), .int (1)]) (rest := []) ⟨hx, hb, hml, hown, hts⟩ (c_Mo_comes l D ca ad L _ _ _ hM (j1) (by omega) 45 1 (by decide) u90) (kv_Mo_comes hts rfl rfl (hts _ tw_1611) ⟨Nat.le_of_ble_eq_true rfl, Nat.le_of_ble_eq_true rfl⟩) (pv_Mo hI hE hM) rfl rfl hl.1 rfl (lv_room (Nat.le_of_ble_eq_true rfl)) d_Mo_asks_349 ⟨Nat.le_of_ble_eq_true rfl, Nat.le_of_ble_eq_true rfl⟩) (fun H locs f σ_204 hI hM hF_205 p_203 => ?_)
          have hF := mq_fr_tr hF hF_205 (by decide)
          have o_206 : σ_204.1 56 = nI (z1) := mq_fi hF_205 (by decide) o90
          have o_207 : σ_204.1 70 = nI (z2) := mq_fi hF_205 (by decide) o91
          obtain ⟨u_208, -⟩ := p_203
          refine lv_goto (tgt := 425) hx hb d_Mo_asks_352 (by decide) ?_
          refine lv_iconst (v := 1) hx hb d_Mo_asks_425 (by decide) ?_
          exact sm_zret hx hb hr hlk hI (by decide) ⟨σ_204, rfl, hM, hF, ⟨(by decide), ⟨(z1), by omega, by omega, by omega, o_206⟩, u_208, trivial⟩⟩ d_Mo_asks_426
        · refine lv_iload hx hb d_Mo_asks_337 (lv_at hl 7 rfl) ?_
          refine lv_bipush (v := 8) hx hb d_Mo_asks_339 (by decide) ?_
          refine lv_icmp_eq (tgt := 355) hx hb d_Mo_asks_341 (by decide) (fun c_209 => ?_) (fun c_209 => ?_)
          · refine lv_iload hx hb d_Mo_asks_355 (lv_at hl 8 rfl) ?_
            refine lv_aload_n hx hb d_Mo_asks_357 rfl (lv_at hl 2 rfl) ?_
            obtain ⟨x_210, e_211⟩ : ∃ z, σ.1 1 = z := ⟨_, rfl⟩
            refine mq_get (k := 1) (v := .int (x_210)) hx hb hts hown hI hM (by decide) (congrArg (fun z => some (Value.int z)) e_211) rfl (hts _ tw_1170) d_Mo_asks_358 ?_
            refine lv_icmp_eq (tgt := 380) hx hb d_Mo_asks_361 (by decide) (fun c_212 => ?_) (fun c_212 => ?_)
            · refine lv_iload hx hb d_Mo_asks_380 (lv_at hl 1 rfl) ?_
              refine lv_if_ne (tgt := 396) hx hb d_Mo_asks_382 (by decide) (fun c_213 => ?_) (fun c_213 => ?_)
              · refine lv_iload hx hb d_Mo_asks_396 (lv_at hl 6 rfl) ?_
                refine lv_if_eq (tgt := 415) hx hb d_Mo_asks_398 (by decide) (fun c_214 => ?_) (fun c_214 => ?_)
                · exact absurd c_214 c_202
                · refine lv_aload_n hx hb d_Mo_asks_401 rfl (lv_at hl 2 rfl) ?_
                  refine lv_iload_n hx hb d_Mo_asks_402 rfl (lv_at hl 3 rfl) ?_
                  refine lv_iload hx hb d_Mo_asks_403 (lv_at hl 11 rfl) ?_
                  refine lv_topi (fun x_215 e_216 => ?_)
                  obtain ⟨j_217, h_218, rfl⟩ : ∃ j : Nat, j < 32 ∧ x_215 = nI j := by rw [e_216]; obtain ⟨j, h1, h2⟩ := hf1 ⟨pz0.resolve_left c_213, c_214⟩; exact ⟨j, by omega, h2⟩
                  refine lv_iload hx hb d_Mo_asks_405 (lv_at hl 0 rfl) ?_
                  refine lv_iload hx hb d_Mo_asks_407 (lv_at hl 7 rfl) ?_
                  refine sm_vM hI (va_runV (As := [.int (nI j1), .int (nI j_217), .int (nI (r + n_3)), .int (y5)]) (rest := []) ⟨hx, hb, hml, hown, hts⟩ (c_Mo_command l D ca ad L _ _ _ hM (j1) (by omega) (j_217) (by omega) ((r + n_3)) (by omega) (by omega) y5 ((z1)) o90 ((z2)) o91 (by omega) (by omega) u90) (kv_Mo_command hts rfl rfl (hts _ tw_1631) ⟨Nat.le_of_ble_eq_true rfl, Nat.le_of_ble_eq_true rfl⟩) (pv_Mo hI hE hM) rfl rfl hl.1 rfl (lv_room (Nat.le_of_ble_eq_true rfl)) d_Mo_asks_409 ⟨Nat.le_of_ble_eq_true rfl, Nat.le_of_ble_eq_true rfl⟩) (fun H locs f σ_220 hI hM hF_221 p_219 => ?_)
                  have hF := mq_fr_tr hF hF_221 (by decide)
                  have o_222 : σ_220.1 70 = nI (z2) := mq_fi hF_221 (by decide) o91
                  obtain ⟨⟨n_224, h_225, h_226, o_223⟩, u_227, -⟩ := p_219
                  refine lv_goto (tgt := 425) hx hb d_Mo_asks_412 (by decide) ?_
                  refine lv_iconst (v := 1) hx hb d_Mo_asks_425 (by decide) ?_
                  exact sm_zret hx hb hr hlk hI (by decide) ⟨σ_220, rfl, hM, hF, ⟨(by decide), ⟨n_224, by omega, by omega, by omega, o_223⟩, u_227, trivial⟩⟩ d_Mo_asks_426
              · refine lv_aload_n hx hb d_Mo_asks_385 rfl (lv_at hl 2 rfl) ?_
                refine lv_iload_n hx hb d_Mo_asks_386 rfl (lv_at hl 3 rfl) ?_
                refine lv_bipush (v := 47) hx hb d_Mo_asks_387 (by decide) ?_
                refine lv_iconst (v := 1) hx hb d_Mo_asks_389 (by decide) ?_
                refine sm_vM hI (va_runV (As := [.int (nI j1), .int (47), .int (1)]) (rest := []) ⟨hx, hb, hml, hown, hts⟩ (c_Mo_comes l D ca ad L _ _ _ hM (j1) (by omega) 47 1 (by decide) u90) (kv_Mo_comes hts rfl rfl (hts _ tw_1611) ⟨Nat.le_of_ble_eq_true rfl, Nat.le_of_ble_eq_true rfl⟩) (pv_Mo hI hE hM) rfl rfl hl.1 rfl (lv_room (Nat.le_of_ble_eq_true rfl)) d_Mo_asks_390 ⟨Nat.le_of_ble_eq_true rfl, Nat.le_of_ble_eq_true rfl⟩) (fun H locs f σ_229 hI hM hF_230 p_228 => ?_)
                have hF := mq_fr_tr hF hF_230 (by decide)
                have o_231 : σ_229.1 56 = nI (z1) := mq_fi hF_230 (by decide) o90
                have o_232 : σ_229.1 70 = nI (z2) := mq_fi hF_230 (by decide) o91
                obtain ⟨u_233, -⟩ := p_228
                refine lv_goto (tgt := 425) hx hb d_Mo_asks_393 (by decide) ?_
                refine lv_iconst (v := 1) hx hb d_Mo_asks_425 (by decide) ?_
                exact sm_zret hx hb hr hlk hI (by decide) ⟨σ_229, rfl, hM, hF, ⟨(by decide), ⟨(z1), by omega, by omega, by omega, o_231⟩, u_233, trivial⟩⟩ d_Mo_asks_426
            · refine lv_iload hx hb d_Mo_asks_364 (lv_at hl 10 rfl) ?_
              refine lv_if_ne (tgt := 380) hx hb d_Mo_asks_366 (by decide) (fun c_234 => ?_) (fun c_234 => ?_)
              · refine lv_iload hx hb d_Mo_asks_380 (lv_at hl 1 rfl) ?_
                refine lv_if_ne (tgt := 396) hx hb d_Mo_asks_382 (by decide) (fun c_235 => ?_) (fun c_235 => ?_)
                · refine lv_iload hx hb d_Mo_asks_396 (lv_at hl 6 rfl) ?_
                  refine lv_if_eq (tgt := 415) hx hb d_Mo_asks_398 (by decide) (fun c_236 => ?_) (fun c_236 => ?_)
                  · exact absurd c_236 c_202
                  · refine lv_aload_n hx hb d_Mo_asks_401 rfl (lv_at hl 2 rfl) ?_
                    refine lv_iload_n hx hb d_Mo_asks_402 rfl (lv_at hl 3 rfl) ?_
                    refine lv_iload hx hb d_Mo_asks_403 (lv_at hl 11 rfl) ?_
                    refine lv_topi (fun x_237 e_238 => ?_)
                    obtain ⟨j_239, h_240, rfl⟩ : ∃ j : Nat, j < 32 ∧ x_237 = nI j := by rw [e_238]; obtain ⟨j, h1, h2⟩ := hf1 ⟨pz0.resolve_left c_235, c_236⟩; exact ⟨j, by omega, h2⟩
                    refine lv_iload hx hb d_Mo_asks_405 (lv_at hl 0 rfl) ?_
                    refine lv_iload hx hb d_Mo_asks_407 (lv_at hl 7 rfl) ?_
                    refine sm_vM hI (va_runV (As := [.int (nI j1), .int (nI j_239), .int (nI (r + n_3)), .int (y5)]) (rest := []) ⟨hx, hb, hml, hown, hts⟩ (c_Mo_command l D ca ad L _ _ _ hM (j1) (by omega) (j_239) (by omega) ((r + n_3)) (by omega) (by omega) y5 ((z1)) o90 ((z2)) o91 (by omega) (by omega) u90) (kv_Mo_command hts rfl rfl (hts _ tw_1631) ⟨Nat.le_of_ble_eq_true rfl, Nat.le_of_ble_eq_true rfl⟩) (pv_Mo hI hE hM) rfl rfl hl.1 rfl (lv_room (Nat.le_of_ble_eq_true rfl)) d_Mo_asks_409 ⟨Nat.le_of_ble_eq_true rfl, Nat.le_of_ble_eq_true rfl⟩) (fun H locs f σ_242 hI hM hF_243 p_241 => ?_)
                    have hF := mq_fr_tr hF hF_243 (by decide)
                    have o_244 : σ_242.1 70 = nI (z2) := mq_fi hF_243 (by decide) o91
                    obtain ⟨⟨n_246, h_247, h_248, o_245⟩, u_249, -⟩ := p_241
                    refine lv_goto (tgt := 425) hx hb d_Mo_asks_412 (by decide) ?_
                    refine lv_iconst (v := 1) hx hb d_Mo_asks_425 (by decide) ?_
                    exact sm_zret hx hb hr hlk hI (by decide) ⟨σ_242, rfl, hM, hF, ⟨(by decide), ⟨n_246, by omega, by omega, by omega, o_245⟩, u_249, trivial⟩⟩ d_Mo_asks_426
                · refine lv_aload_n hx hb d_Mo_asks_385 rfl (lv_at hl 2 rfl) ?_
                  refine lv_iload_n hx hb d_Mo_asks_386 rfl (lv_at hl 3 rfl) ?_
                  refine lv_bipush (v := 47) hx hb d_Mo_asks_387 (by decide) ?_
                  refine lv_iconst (v := 1) hx hb d_Mo_asks_389 (by decide) ?_
                  refine sm_vM hI (va_runV (As := [.int (nI j1), .int (47), .int (1)]) (rest := []) ⟨hx, hb, hml, hown, hts⟩ (c_Mo_comes l D ca ad L _ _ _ hM (j1) (by omega) 47 1 (by decide) u90) (kv_Mo_comes hts rfl rfl (hts _ tw_1611) ⟨Nat.le_of_ble_eq_true rfl, Nat.le_of_ble_eq_true rfl⟩) (pv_Mo hI hE hM) rfl rfl hl.1 rfl (lv_room (Nat.le_of_ble_eq_true rfl)) d_Mo_asks_390 ⟨Nat.le_of_ble_eq_true rfl, Nat.le_of_ble_eq_true rfl⟩) (fun H locs f σ_251 hI hM hF_252 p_250 => ?_)
                  have hF := mq_fr_tr hF hF_252 (by decide)
                  have o_253 : σ_251.1 56 = nI (z1) := mq_fi hF_252 (by decide) o90
                  have o_254 : σ_251.1 70 = nI (z2) := mq_fi hF_252 (by decide) o91
                  obtain ⟨u_255, -⟩ := p_250
                  refine lv_goto (tgt := 425) hx hb d_Mo_asks_393 (by decide) ?_
                  refine lv_iconst (v := 1) hx hb d_Mo_asks_425 (by decide) ?_
                  exact sm_zret hx hb hr hlk hI (by decide) ⟨σ_251, rfl, hM, hF, ⟨(by decide), ⟨(z1), by omega, by omega, by omega, o_253⟩, u_255, trivial⟩⟩ d_Mo_asks_426
              · refine lv_aload_n hx hb d_Mo_asks_369 rfl (lv_at hl 2 rfl) ?_
                refine lv_iload_n hx hb d_Mo_asks_370 rfl (lv_at hl 3 rfl) ?_
                refine lv_bipush (v := 46) hx hb d_Mo_asks_371 (by decide) ?_
                refine lv_iconst (v := 1) hx hb d_Mo_asks_373 (by decide) ?_
                refine sm_vM hI (va_runV (As := [.int (nI j1), .int (46), .int (1)]) (rest := []) ⟨hx, hb, hml, hown, hts⟩ (c_Mo_comes l D ca ad L _ _ _ hM (j1) (by omega) 46 1 (by decide) u90) (kv_Mo_comes hts rfl rfl (hts _ tw_1611) ⟨Nat.le_of_ble_eq_true rfl, Nat.le_of_ble_eq_true rfl⟩) (pv_Mo hI hE hM) rfl rfl hl.1 rfl (lv_room (Nat.le_of_ble_eq_true rfl)) d_Mo_asks_374 ⟨Nat.le_of_ble_eq_true rfl, Nat.le_of_ble_eq_true rfl⟩) (fun H locs f σ_257 hI hM hF_258 p_256 => ?_)
                have hF := mq_fr_tr hF hF_258 (by decide)
                have o_259 : σ_257.1 56 = nI (z1) := mq_fi hF_258 (by decide) o90
                have o_260 : σ_257.1 70 = nI (z2) := mq_fi hF_258 (by decide) o91
                obtain ⟨u_261, -⟩ := p_256
                refine lv_goto (tgt := 425) hx hb d_Mo_asks_377 (by decide) ?_
                refine lv_iconst (v := 1) hx hb d_Mo_asks_425 (by decide) ?_
                exact sm_zret hx hb hr hlk hI (by decide) ⟨σ_257, rfl, hM, hF, ⟨(by decide), ⟨(z1), by omega, by omega, by omega, o_259⟩, u_261, trivial⟩⟩ d_Mo_asks_426
          · refine lv_aload_n hx hb d_Mo_asks_344 rfl (lv_at hl 2 rfl) ?_
            refine lv_iload_n hx hb d_Mo_asks_345 rfl (lv_at hl 3 rfl) ?_
            refine lv_bipush (v := 45) hx hb d_Mo_asks_346 (by decide) ?_
            refine lv_iconst (v := 1) hx hb d_Mo_asks_348 (by decide) ?_
            refine sm_vM hI (va_runV (As := [.int (nI j1), .int (45), .int (1)]) (rest := []) ⟨hx, hb, hml, hown, hts⟩ (c_Mo_comes l D ca ad L _ _ _ hM (j1) (by omega) 45 1 (by decide) u90) (kv_Mo_comes hts rfl rfl (hts _ tw_1611) ⟨Nat.le_of_ble_eq_true rfl, Nat.le_of_ble_eq_true rfl⟩) (pv_Mo hI hE hM) rfl rfl hl.1 rfl (lv_room (Nat.le_of_ble_eq_true rfl)) d_Mo_asks_349 ⟨Nat.le_of_ble_eq_true rfl, Nat.le_of_ble_eq_true rfl⟩) (fun H locs f σ_263 hI hM hF_264 p_262 => ?_)
            have hF := mq_fr_tr hF hF_264 (by decide)
            have o_265 : σ_263.1 56 = nI (z1) := mq_fi hF_264 (by decide) o90
            have o_266 : σ_263.1 70 = nI (z2) := mq_fi hF_264 (by decide) o91
            obtain ⟨u_267, -⟩ := p_262
            refine lv_goto (tgt := 425) hx hb d_Mo_asks_352 (by decide) ?_
            refine lv_iconst (v := 1) hx hb d_Mo_asks_425 (by decide) ?_
            exact sm_zret hx hb hr hlk hI (by decide) ⟨σ_263, rfl, hM, hF, ⟨(by decide), ⟨(z1), by omega, by omega, by omega, o_265⟩, u_267, trivial⟩⟩ d_Mo_asks_426
  have hJ_201 : ∀ (H : Heap) (locs : List Loc) (f : Nat → va_E) (σ : mq_S) (ls : Array Slot) (r : Nat) (y3 : Int32) (y4 : Int32) (y5 : Int32) (y6 : Int32) (y7 : Int32) (z0 : Int32), sw_I D cl_all (ty_s ca) (va_A (va_pl L f0) sz) s H locs L f → mq_B ca ad σ L f → mq_fr [9, 10, 11, 13, 14, 16, 18, 24, 30, 31, 32, 33, 34, 42, 52, 56, 57, 58, 59, 60, 61, 62, 63, 64, 65, 66, 67, 68, 69, 70] σ0 σ → lv_has ls 12 [(0, .ref (ad 71)), (1, .int (nI j1)), (2, .int (nI r)), (3, .int (y3)), (4, .int (y4)), (5, .int (y5)), (6, .int (y6)), (7, .int (y7))] → (y4 = 0 ∨ y4 = 1) → (z0 = 0 ∨ z0 = 1) → (σ.1 56 = nI (z1)) → (σ.1 70 = nI (z2)) → (IH σ) → (4 ≤ r) → (r ≤ 6) → (5 ≤ z2) → (z2 ≤ 24) → W p l e { frames := 6, cells := 0, slots := 0, locals := 150 } s m ([.ref (ad 71), .int (nI j1)] : List Value).toArray below meth c H locs 0 0 (MQ below (sm_Qi D (ty_s ca) L f0 sz (fun r u => mq_po ca ad L σ0 [9, 10, 11, 13, 14, 16, 18, 24, 30, 31, 32, 33, 34, 42, 52, 56, 57, 58, 59, 60, 61, 62, 63, 64, 65, 66, 67, 68, 69, 70] (fun σ => (r = 0 ∨ r = 1) ∧ (∃ n : Nat, z1 ≤ n ∧ n ≤ z1 + 1 ∧ (n = z1 ∨ 5 ≤ z2) ∧ σ.1 56 = nI n) ∧ IH σ ∧ True) u)) ([.ref (ad 71), .int (nI j1)] : List Value).toArray s 0 0 (va_A (va_pl L f0) sz)) (F0 m 201 ls [.int (z0)]) := by
    intro H locs f σ ls r y3 y4 y5 y6 y7 z0 hI hM hF hl py4 pz0 o90 o91 u90 hr4 hr6 hs5 hs24
    refine lv_istore (lv' := [(8, .int (z0)), (0, .ref (ad 71)), (1, .int (nI j1)), (2, .int (nI r)), (3, .int (y3)), (4, .int (y4)), (5, .int (y5)), (6, .int (y6)), (7, .int (y7))]) hx hb d_Mo_asks_201 hl (by decide) rfl (fun ls hl => ?_)
    refine lv_aload_n hx hb d_Mo_asks_203 rfl (lv_at hl 1 rfl) ?_
    refine lv_iload hx hb d_Mo_asks_204 (lv_at hl 8 rfl) ?_
    refine sm_iP hI (va_runV (As := [.int (y7)]) (rest := []) ⟨hx, hb, hml, hown, hts⟩ (c_Mo_pointAt l D ca ad L _ _ _ hM y7) (kv_Mo_pointAt hts rfl rfl (hts _ tw_1627) ⟨Nat.le_of_ble_eq_true rfl, Nat.le_of_ble_eq_true rfl⟩) (pv_Mo hI hE hM) rfl rfl hl.1 rfl (lv_room (Nat.le_of_ble_eq_true rfl)) d_Mo_asks_206 ⟨Nat.le_of_ble_eq_true rfl, Nat.le_of_ble_eq_true rfl⟩) (fun x_269 H locs p_268 hI => ?_)
    rcases p_268 with rfl | ⟨n_270, rfl, h_271⟩
    · refine lv_istore (lv' := [(9, .int (-1)), (8, .int (z0)), (0, .ref (ad 71)), (1, .int (nI j1)), (2, .int (nI r)), (3, .int (y3)), (4, .int (y4)), (5, .int (y5)), (6, .int (y6)), (7, .int (y7))]) hx hb d_Mo_asks_209 hl (by decide) rfl (fun ls hl => ?_)
      refine lv_iload hx hb d_Mo_asks_211 (lv_at hl 6 rfl) ?_
      refine lv_if_eq (tgt := 263) hx hb d_Mo_asks_213 (by decide) (fun c_272 => ?_) (fun c_272 => ?_)
      · refine lv_iload_n hx hb d_Mo_asks_263 rfl (lv_at hl 5 rfl) ?_
        refine lv_bipush (v := 102) hx hb d_Mo_asks_264 (by decide) ?_
        refine lv_icmp_ne (tgt := 294) hx hb d_Mo_asks_266 (by decide) (fun c_273 => ?_) (fun c_273 => ?_)
        · refine lv_iload hx hb d_Mo_asks_294 (lv_at hl 9 rfl) ?_
          refine lv_if_ne (tgt := 303) hx hb d_Mo_asks_296 (by decide) (fun c_274 => ?_) (fun c_274 => ?_)
          · refine lv_iconst (v := 0) hx hb d_Mo_asks_303 (by decide) ?_
            exact hJ_304 _ _ _ _ _ (r) y3 y4 y5 y6 y7 z0 (-1) 0 hI hM hF (lv_sub hl [2, 3, 4, 5, 6, 7, 8, 9, 1, 0] rfl) py4 pz0 (by decide) (Eq.trans o90 (congrArg nI (show ((z1) : Nat) = _ by omega))) (Eq.trans o91 (congrArg nI (show ((z2) : Nat) = _ by omega))) u90 (by omega) (by omega) (by omega) (by omega) (fun h => absurd h.1 (by decide)) (fun h => absurd h (by decide))
          · refine lv_iconst (v := 1) hx hb d_Mo_asks_299 (by decide) ?_
            refine lv_goto (tgt := 304) hx hb d_Mo_asks_300 (by decide) ?_
            exact hJ_304 _ _ _ _ _ (r) y3 y4 y5 y6 y7 z0 (-1) 1 hI hM hF (lv_sub hl [2, 3, 4, 5, 6, 7, 8, 9, 1, 0] rfl) py4 pz0 (by decide) (Eq.trans o90 (congrArg nI (show ((z1) : Nat) = _ by omega))) (Eq.trans o91 (congrArg nI (show ((z2) : Nat) = _ by omega))) u90 (by omega) (by omega) (by omega) (by omega) (fun h => absurd c_272 h.2) (fun _ h => absurd h c_273)
        · refine lv_iload hx hb d_Mo_asks_269 (lv_at hl 0 rfl) ?_
          refine lv_if_lt (tgt := 290) hx hb d_Mo_asks_271 (by decide) (fun c_275 => ?_) (fun c_275 => ?_)
          · refine lv_iconst (v := 0) hx hb d_Mo_asks_290 (by decide) ?_
            refine lv_goto (tgt := 304) hx hb d_Mo_asks_291 (by decide) ?_
            exact hJ_304 _ _ _ _ _ (r) y3 y4 y5 y6 y7 z0 (-1) 0 hI hM hF (lv_sub hl [2, 3, 4, 5, 6, 7, 8, 9, 1, 0] rfl) py4 pz0 (by decide) (Eq.trans o90 (congrArg nI (show ((z1) : Nat) = _ by omega))) (Eq.trans o91 (congrArg nI (show ((z2) : Nat) = _ by omega))) u90 (by omega) (by omega) (by omega) (by omega) (fun h => absurd h.1 (by decide)) (fun h => absurd h (by decide))
          · exact absurd c_275 (by decide)
      · refine lv_iload hx hb d_Mo_asks_216 (lv_at hl 0 rfl) ?_
        refine lv_if_lt (tgt := 259) hx hb d_Mo_asks_218 (by decide) (fun c_276 => ?_) (fun c_276 => ?_)
        · refine lv_iconst (v := 0) hx hb d_Mo_asks_259 (by decide) ?_
          refine lv_goto (tgt := 304) hx hb d_Mo_asks_260 (by decide) ?_
          exact hJ_304 _ _ _ _ _ (r) y3 y4 y5 y6 y7 z0 (-1) 0 hI hM hF (lv_sub hl [2, 3, 4, 5, 6, 7, 8, 9, 1, 0] rfl) py4 pz0 (by decide) (Eq.trans o90 (congrArg nI (show ((z1) : Nat) = _ by omega))) (Eq.trans o91 (congrArg nI (show ((z2) : Nat) = _ by omega))) u90 (by omega) (by omega) (by omega) (by omega) (fun h => absurd h.1 (by decide)) (fun h => absurd h (by decide))
        · exact absurd c_276 (by decide)
    · refine lv_istore (lv' := [(9, .int (nI n_270)), (8, .int (z0)), (0, .ref (ad 71)), (1, .int (nI j1)), (2, .int (nI r)), (3, .int (y3)), (4, .int (y4)), (5, .int (y5)), (6, .int (y6)), (7, .int (y7))]) hx hb d_Mo_asks_209 hl (by decide) rfl (fun ls hl => ?_)
      refine lv_iload hx hb d_Mo_asks_211 (lv_at hl 6 rfl) ?_
      refine lv_if_eq (tgt := 263) hx hb d_Mo_asks_213 (by decide) (fun c_277 => ?_) (fun c_277 => ?_)
      · refine lv_iload_n hx hb d_Mo_asks_263 rfl (lv_at hl 5 rfl) ?_
        refine lv_bipush (v := 102) hx hb d_Mo_asks_264 (by decide) ?_
        refine lv_icmp_ne (tgt := 294) hx hb d_Mo_asks_266 (by decide) (fun c_278 => ?_) (fun c_278 => ?_)
        · refine lv_iload hx hb d_Mo_asks_294 (lv_at hl 9 rfl) ?_
          refine lv_if_ne (tgt := 303) hx hb d_Mo_asks_296 (by decide) (fun c_279 => ?_) (fun c_279 => ?_)
          · refine lv_iconst (v := 0) hx hb d_Mo_asks_303 (by decide) ?_
            exact hJ_304 _ _ _ _ _ (r) y3 y4 y5 y6 y7 z0 (nI n_270) 0 hI hM hF (lv_sub hl [2, 3, 4, 5, 6, 7, 8, 9, 1, 0] rfl) py4 pz0 (by decide) (Eq.trans o90 (congrArg nI (show ((z1) : Nat) = _ by omega))) (Eq.trans o91 (congrArg nI (show ((z2) : Nat) = _ by omega))) u90 (by omega) (by omega) (by omega) (by omega) (fun h => absurd h.1 (by decide)) (fun h => absurd h (by decide))
          · refine lv_iconst (v := 1) hx hb d_Mo_asks_299 (by decide) ?_
            refine lv_goto (tgt := 304) hx hb d_Mo_asks_300 (by decide) ?_
            exact hJ_304 _ _ _ _ _ (r) y3 y4 y5 y6 y7 z0 (nI n_270) 1 hI hM hF (lv_sub hl [2, 3, 4, 5, 6, 7, 8, 9, 1, 0] rfl) py4 pz0 (by decide) (Eq.trans o90 (congrArg nI (show ((z1) : Nat) = _ by omega))) (Eq.trans o91 (congrArg nI (show ((z2) : Nat) = _ by omega))) u90 (by omega) (by omega) (by omega) (by omega) (fun _ => ⟨n_270, by omega, rfl⟩) (fun _ _ => ⟨n_270, by omega, rfl⟩)
        · refine lv_iload hx hb d_Mo_asks_269 (lv_at hl 0 rfl) ?_
          refine lv_if_lt (tgt := 290) hx hb d_Mo_asks_271 (by decide) (fun c_280 => ?_) (fun c_280 => ?_)
          · exact absurd c_280 (nI_pos (by omega))
          · refine lv_aload_n hx hb d_Mo_asks_274 rfl (lv_at hl 2 rfl) ?_
            refine mq_get (k := 4) (v := .ref (ad 4)) hx hb hts hown hI hM (by decide) rfl rfl (hts _ tw_1173) d_Mo_asks_275 ?_
            refine lv_iload hx hb d_Mo_asks_278 (lv_at hl 0 rfl) ?_
            obtain ⟨x_282, e_283⟩ : ∃ z, σ.2.2.1 4 (n_270) = z := ⟨_, rfl⟩
            refine mq_iald (k := 4) (j := n_270) (v := x_282) hx hb hI hM (by decide) rfl (by show n_270 < 32; omega) (by decide) e_283 d_Mo_asks_280 ?_
            refine lv_bipush (v := 7) hx hb d_Mo_asks_281 (by decide) ?_
            refine lv_icmp_ge (tgt := 290) hx hb d_Mo_asks_283 (by decide) (fun c_284 => ?_) (fun c_284 => ?_)
            · refine lv_iconst (v := 0) hx hb d_Mo_asks_290 (by decide) ?_
              refine lv_goto (tgt := 304) hx hb d_Mo_asks_291 (by decide) ?_
              exact hJ_304 _ _ _ _ _ (r) y3 y4 y5 y6 y7 z0 (nI n_270) 0 hI hM hF (lv_sub hl [2, 3, 4, 5, 6, 7, 8, 9, 1, 0] rfl) py4 pz0 (by decide) (Eq.trans o90 (congrArg nI (show ((z1) : Nat) = _ by omega))) (Eq.trans o91 (congrArg nI (show ((z2) : Nat) = _ by omega))) u90 (by omega) (by omega) (by omega) (by omega) (fun h => absurd h.1 (by decide)) (fun h => absurd h (by decide))
            · refine lv_iconst (v := 1) hx hb d_Mo_asks_286 (by decide) ?_
              refine lv_goto (tgt := 304) hx hb d_Mo_asks_287 (by decide) ?_
              exact hJ_304 _ _ _ _ _ (r) y3 y4 y5 y6 y7 z0 (nI n_270) 1 hI hM hF (lv_sub hl [2, 3, 4, 5, 6, 7, 8, 9, 1, 0] rfl) py4 pz0 (by decide) (Eq.trans o90 (congrArg nI (show ((z1) : Nat) = _ by omega))) (Eq.trans o91 (congrArg nI (show ((z2) : Nat) = _ by omega))) u90 (by omega) (by omega) (by omega) (by omega) (fun _ => ⟨n_270, by omega, rfl⟩) (fun _ _ => ⟨n_270, by omega, rfl⟩)
      · refine lv_iload hx hb d_Mo_asks_216 (lv_at hl 0 rfl) ?_
        refine lv_if_lt (tgt := 259) hx hb d_Mo_asks_218 (by decide) (fun c_285 => ?_) (fun c_285 => ?_)
        · exact absurd c_285 (nI_pos (by omega))
        · refine lv_aload_n hx hb d_Mo_asks_221 rfl (lv_at hl 2 rfl) ?_
          refine mq_get (k := 4) (v := .ref (ad 4)) hx hb hts hown hI hM (by decide) rfl rfl (hts _ tw_1173) d_Mo_asks_222 ?_
          refine lv_iload hx hb d_Mo_asks_225 (lv_at hl 0 rfl) ?_
          obtain ⟨x_287, e_288⟩ : ∃ z, σ.2.2.1 4 (n_270) = z := ⟨_, rfl⟩
          refine mq_iald (k := 4) (j := n_270) (v := x_287) hx hb hI hM (by decide) rfl (by show n_270 < 32; omega) (by decide) e_288 d_Mo_asks_227 ?_
          refine lv_iload_n hx hb d_Mo_asks_228 rfl (lv_at hl 5 rfl) ?_
          refine lv_bipush (v := 45) hx hb d_Mo_asks_229 (by decide) ?_
          refine lv_icmp_ne (tgt := 239) hx hb d_Mo_asks_231 (by decide) (fun c_289 => ?_) (fun c_289 => ?_)
          · refine lv_iload_n hx hb d_Mo_asks_239 rfl (lv_at hl 5 rfl) ?_
            refine lv_bipush (v := 46) hx hb d_Mo_asks_240 (by decide) ?_
            refine lv_icmp_ne (tgt := 250) hx hb d_Mo_asks_242 (by decide) (fun c_290 => ?_) (fun c_290 => ?_)
            · refine lv_bipush (v := 9) hx hb d_Mo_asks_250 (by decide) ?_
              refine lv_icmp_ne (tgt := 259) hx hb d_Mo_asks_252 (by decide) (fun c_291 => ?_) (fun c_291 => ?_)
              · refine lv_iconst (v := 0) hx hb d_Mo_asks_259 (by decide) ?_
                refine lv_goto (tgt := 304) hx hb d_Mo_asks_260 (by decide) ?_
                exact hJ_304 _ _ _ _ _ (r) y3 y4 y5 y6 y7 z0 (nI n_270) 0 hI hM hF (lv_sub hl [2, 3, 4, 5, 6, 7, 8, 9, 1, 0] rfl) py4 pz0 (by decide) (Eq.trans o90 (congrArg nI (show ((z1) : Nat) = _ by omega))) (Eq.trans o91 (congrArg nI (show ((z2) : Nat) = _ by omega))) u90 (by omega) (by omega) (by omega) (by omega) (fun h => absurd h.1 (by decide)) (fun h => absurd h (by decide))
              · refine lv_iconst (v := 1) hx hb d_Mo_asks_255 (by decide) ?_
                refine lv_goto (tgt := 304) hx hb d_Mo_asks_256 (by decide) ?_
                exact hJ_304 _ _ _ _ _ (r) y3 y4 y5 y6 y7 z0 (nI n_270) 1 hI hM hF (lv_sub hl [2, 3, 4, 5, 6, 7, 8, 9, 1, 0] rfl) py4 pz0 (by decide) (Eq.trans o90 (congrArg nI (show ((z1) : Nat) = _ by omega))) (Eq.trans o91 (congrArg nI (show ((z2) : Nat) = _ by omega))) u90 (by omega) (by omega) (by omega) (by omega) (fun _ => ⟨n_270, by omega, rfl⟩) (fun _ _ => ⟨n_270, by omega, rfl⟩)
            · refine lv_bipush (v := 8) hx hb d_Mo_asks_245 (by decide) ?_
              refine lv_goto (tgt := 252) hx hb d_Mo_asks_247 (by decide) ?_
              refine lv_icmp_ne (tgt := 259) hx hb d_Mo_asks_252 (by decide) (fun c_292 => ?_) (fun c_292 => ?_)
              · refine lv_iconst (v := 0) hx hb d_Mo_asks_259 (by decide) ?_
                refine lv_goto (tgt := 304) hx hb d_Mo_asks_260 (by decide) ?_
                exact hJ_304 _ _ _ _ _ (r) y3 y4 y5 y6 y7 z0 (nI n_270) 0 hI hM hF (lv_sub hl [2, 3, 4, 5, 6, 7, 8, 9, 1, 0] rfl) py4 pz0 (by decide) (Eq.trans o90 (congrArg nI (show ((z1) : Nat) = _ by omega))) (Eq.trans o91 (congrArg nI (show ((z2) : Nat) = _ by omega))) u90 (by omega) (by omega) (by omega) (by omega) (fun h => absurd h.1 (by decide)) (fun h => absurd h (by decide))
              · refine lv_iconst (v := 1) hx hb d_Mo_asks_255 (by decide) ?_
                refine lv_goto (tgt := 304) hx hb d_Mo_asks_256 (by decide) ?_
                exact hJ_304 _ _ _ _ _ (r) y3 y4 y5 y6 y7 z0 (nI n_270) 1 hI hM hF (lv_sub hl [2, 3, 4, 5, 6, 7, 8, 9, 1, 0] rfl) py4 pz0 (by decide) (Eq.trans o90 (congrArg nI (show ((z1) : Nat) = _ by omega))) (Eq.trans o91 (congrArg nI (show ((z2) : Nat) = _ by omega))) u90 (by omega) (by omega) (by omega) (by omega) (fun _ => ⟨n_270, by omega, rfl⟩) (fun _ _ => ⟨n_270, by omega, rfl⟩)
          · refine lv_bipush (v := 7) hx hb d_Mo_asks_234 (by decide) ?_
            refine lv_goto (tgt := 252) hx hb d_Mo_asks_236 (by decide) ?_
            refine lv_icmp_ne (tgt := 259) hx hb d_Mo_asks_252 (by decide) (fun c_293 => ?_) (fun c_293 => ?_)
            · refine lv_iconst (v := 0) hx hb d_Mo_asks_259 (by decide) ?_
              refine lv_goto (tgt := 304) hx hb d_Mo_asks_260 (by decide) ?_
              exact hJ_304 _ _ _ _ _ (r) y3 y4 y5 y6 y7 z0 (nI n_270) 0 hI hM hF (lv_sub hl [2, 3, 4, 5, 6, 7, 8, 9, 1, 0] rfl) py4 pz0 (by decide) (Eq.trans o90 (congrArg nI (show ((z1) : Nat) = _ by omega))) (Eq.trans o91 (congrArg nI (show ((z2) : Nat) = _ by omega))) u90 (by omega) (by omega) (by omega) (by omega) (fun h => absurd h.1 (by decide)) (fun h => absurd h (by decide))
            · refine lv_iconst (v := 1) hx hb d_Mo_asks_255 (by decide) ?_
              refine lv_goto (tgt := 304) hx hb d_Mo_asks_256 (by decide) ?_
              exact hJ_304 _ _ _ _ _ (r) y3 y4 y5 y6 y7 z0 (nI n_270) 1 hI hM hF (lv_sub hl [2, 3, 4, 5, 6, 7, 8, 9, 1, 0] rfl) py4 pz0 (by decide) (Eq.trans o90 (congrArg nI (show ((z1) : Nat) = _ by omega))) (Eq.trans o91 (congrArg nI (show ((z2) : Nat) = _ by omega))) u90 (by omega) (by omega) (by omega) (by omega) (fun _ => ⟨n_270, by omega, rfl⟩) (fun _ _ => ⟨n_270, by omega, rfl⟩)
  have hJ_77 : ∀ (H : Heap) (locs : List Loc) (f : Nat → va_E) (σ : mq_S) (ls : Array Slot) (r : Nat) (y3 : Int32) (y4 : Int32), sw_I D cl_all (ty_s ca) (va_A (va_pl L f0) sz) s H locs L f → mq_B ca ad σ L f → mq_fr [9, 10, 11, 13, 14, 16, 18, 24, 30, 31, 32, 33, 34, 42, 52, 56, 57, 58, 59, 60, 61, 62, 63, 64, 65, 66, 67, 68, 69, 70] σ0 σ → lv_has ls 12 [(0, .ref (ad 71)), (1, .int (nI j1)), (2, .int (nI r)), (3, .int (y3)), (4, .int (y4))] → (y4 = 0 ∨ y4 = 1) → (σ.1 56 = nI (z1)) → (σ.1 70 = nI (z2)) → (IH σ) → (4 ≤ r) → (r ≤ 6) → W p l e { frames := 6, cells := 0, slots := 0, locals := 150 } s m ([.ref (ad 71), .int (nI j1)] : List Value).toArray below meth c H locs 0 0 (MQ below (sm_Qi D (ty_s ca) L f0 sz (fun r u => mq_po ca ad L σ0 [9, 10, 11, 13, 14, 16, 18, 24, 30, 31, 32, 33, 34, 42, 52, 56, 57, 58, 59, 60, 61, 62, 63, 64, 65, 66, 67, 68, 69, 70] (fun σ => (r = 0 ∨ r = 1) ∧ (∃ n : Nat, z1 ≤ n ∧ n ≤ z1 + 1 ∧ (n = z1 ∨ 5 ≤ z2) ∧ σ.1 56 = nI n) ∧ IH σ ∧ True) u)) ([.ref (ad 71), .int (nI j1)] : List Value).toArray s 0 0 (va_A (va_pl L f0) sz)) (F0 m 77 ls []) := by
    intro H locs f σ ls r y3 y4 hI hM hF hl py4 o90 o91 u90 hr4 hr6
    refine lv_aload_n hx hb d_Mo_asks_77 rfl (lv_at hl 0 rfl) ?_
    refine mq_get (k := 69) (v := .ref (ad 69)) hx hb hts hown hI hM (by decide) rfl rfl (hts _ tw_1238) d_Mo_asks_78 ?_
    refine lv_iconst (v := 1) hx hb d_Mo_asks_81 (by decide) ?_
    obtain ⟨x_294, e_295⟩ : ∃ z, σ.2.2.1 69 (1) = z := ⟨_, rfl⟩
    refine mq_iald (k := 69) (j := 1) (v := x_294) hx hb hI hM (by decide) rfl (by show 1 < 260; omega) (by decide) e_295 d_Mo_asks_82 ?_
    refine lv_iconst (v := 1) hx hb d_Mo_asks_83 (by decide) ?_
    refine lv_icmp_ne (tgt := 106) hx hb d_Mo_asks_84 (by decide) (fun c_296 => ?_) (fun c_296 => ?_)
    · refine lv_iconst (v := 0) hx hb d_Mo_asks_106 (by decide) ?_
      exact sm_zret hx hb hr hlk hI (by decide) ⟨σ, rfl, hM, hF, ⟨(by decide), ⟨(z1), by omega, by omega, by omega, o90⟩, u90, trivial⟩⟩ d_Mo_asks_107
    · refine lv_aload_n hx hb d_Mo_asks_87 rfl (lv_at hl 0 rfl) ?_
      refine mq_get (k := 70) (v := .int (nI (z2))) hx hb hts hown hI hM (by decide) (congrArg (fun z => some (Value.int z)) o91) rfl (hts _ tw_1239) d_Mo_asks_88 ?_
      refine lv_iload_n hx hb d_Mo_asks_91 rfl (lv_at hl 2 rfl) ?_
      refine lv_aload_n hx hb d_Mo_asks_92 rfl (lv_at hl 0 rfl) ?_
      refine lv_iload_n hx hb d_Mo_asks_93 rfl (lv_at hl 1 rfl) ?_
      refine sm_iP hI (va_runV (As := [.int (nI j1)]) (rest := [.int (nI r), .int (nI (z2))]) ⟨hx, hb, hml, hown, hts⟩ (c_Mo_objectBytes l D ca ad L _ _ _ hM (nI j1)) (kv_Mo_objectBytes hts rfl rfl (hts _ tw_1462) ⟨Nat.le_of_ble_eq_true rfl, Nat.le_of_ble_eq_true rfl⟩) (pv_Mo hI hE hM) rfl rfl hl.1 rfl (lv_room (Nat.le_of_ble_eq_true rfl)) d_Mo_asks_94 ⟨Nat.le_of_ble_eq_true rfl, Nat.le_of_ble_eq_true rfl⟩) (fun x_298 H locs p_297 hI => ?_)
      obtain ⟨n_299, rfl, h_300, h_301, h_302⟩ := p_297
      refine lv_iadd hx hb d_Mo_asks_97 ?_
      refine lv_topi (fun x_303 e_304 => ?_)
      obtain rfl : x_303 = nI (r + n_299) := by rw [e_304]; exact nI_add _ _
      refine lv_iload_n hx hb d_Mo_asks_98 rfl (lv_at hl 3 rfl) ?_
      refine sm_iP hI (va_runS (As := [.int (y3)]) (rest := [.int (nI (r + n_299)), .int (nI (z2))]) ⟨hx, hb, hml, hown, hts⟩ (c_Mo_payload l D ca L _ _ y3) (ks_Mo_payload hts rfl rfl (hts _ tw_1619) ⟨Nat.le_of_ble_eq_true rfl, Nat.le_of_ble_eq_true rfl⟩) (sm_preS hI hE) rfl rfl hl.1 rfl (lv_room (Nat.le_of_ble_eq_true rfl)) d_Mo_asks_99 ⟨Nat.le_of_ble_eq_true rfl, Nat.le_of_ble_eq_true rfl⟩) (fun x_306 H locs p_305 hI => ?_)
      obtain ⟨n_307, rfl, h_308, h_309⟩ := p_305
      refine lv_iadd hx hb d_Mo_asks_102 ?_
      refine lv_topi (fun x_310 e_311 => ?_)
      obtain rfl : x_310 = nI ((r + n_299) + n_307) := by rw [e_311]; exact nI_add _ _
      refine lv_icmp_eq (tgt := 108) hx hb d_Mo_asks_103 (by decide) (fun c_312 => ?_) (fun c_312 => ?_)
      · have k_313 : (z2) = ((r + n_299) + n_307) := (nI_eq (a := (z2)) (b := ((r + n_299) + n_307)) (by omega) (by omega)).mp c_312
        refine lv_aload_n hx hb d_Mo_asks_108 rfl (lv_at hl 0 rfl) ?_
        refine mq_get (k := 69) (v := .ref (ad 69)) hx hb hts hown hI hM (by decide) rfl rfl (hts _ tw_1238) d_Mo_asks_109 ?_
        refine lv_iconst (v := 2) hx hb d_Mo_asks_112 (by decide) ?_
        obtain ⟨x_314, e_315⟩ : ∃ z, σ.2.2.1 69 (2) = z := ⟨_, rfl⟩
        refine mq_iald (k := 69) (j := 2) (v := x_314) hx hb hI hM (by decide) rfl (by show 2 < 260; omega) (by decide) e_315 d_Mo_asks_113 ?_
        refine lv_bipush (v := 63) hx hb d_Mo_asks_114 (by decide) ?_
        refine lv_iand hx hb d_Mo_asks_116 ?_
        refine lv_topi (fun x_316 e_317 => ?_)
        refine lv_istore (lv' := [(5, .int (x_316)), (0, .ref (ad 71)), (1, .int (nI j1)), (2, .int (nI r)), (3, .int (y3)), (4, .int (y4))]) hx hb d_Mo_asks_117 hl (by decide) rfl (fun ls hl => ?_)
        refine lv_aload_n hx hb d_Mo_asks_119 rfl (lv_at hl 1 rfl) ?_
        refine lv_iconst (v := 2) hx hb d_Mo_asks_120 (by decide) ?_
        refine lv_aload_n hx hb d_Mo_asks_121 rfl (lv_at hl 1 rfl) ?_
        refine lv_iload_n hx hb d_Mo_asks_122 rfl (lv_at hl 2 rfl) ?_
        refine sm_iP hI (va_runV (As := [.int (nI j1)]) (rest := [.int (2), .ref (ad 71)]) ⟨hx, hb, hml, hown, hts⟩ (c_Mo_causeBytes l D ca ad L _ _ _ hM (nI j1)) (kv_Mo_causeBytes hts rfl rfl (hts _ tw_1454) ⟨Nat.le_of_ble_eq_true rfl, Nat.le_of_ble_eq_true rfl⟩) (pv_Mo hI hE hM) rfl rfl hl.1 rfl (lv_room (Nat.le_of_ble_eq_true rfl)) d_Mo_asks_123 ⟨Nat.le_of_ble_eq_true rfl, Nat.le_of_ble_eq_true rfl⟩) (fun x_319 H locs p_318 hI => ?_)
        obtain ⟨n_320, rfl, h_321, h_322, h_323⟩ := p_318
        refine lv_iadd hx hb d_Mo_asks_126 ?_
        refine lv_topi (fun x_324 e_325 => ?_)
        obtain rfl : x_324 = nI (2 + n_320) := by rw [e_325]; exact nI_add _ _
        refine lv_aload_n hx hb d_Mo_asks_127 rfl (lv_at hl 1 rfl) ?_
        refine lv_iload_n hx hb d_Mo_asks_128 rfl (lv_at hl 2 rfl) ?_
        refine sm_iP hI (va_runV (As := [.int (nI j1)]) (rest := [.int (nI (2 + n_320)), .ref (ad 71)]) ⟨hx, hb, hml, hown, hts⟩ (c_Mo_stationBytes l D ca ad L _ _ _ hM (nI j1)) (kv_Mo_stationBytes hts rfl rfl (hts _ tw_1458) ⟨Nat.le_of_ble_eq_true rfl, Nat.le_of_ble_eq_true rfl⟩) (pv_Mo hI hE hM) rfl rfl hl.1 rfl (lv_room (Nat.le_of_ble_eq_true rfl)) d_Mo_asks_129 ⟨Nat.le_of_ble_eq_true rfl, Nat.le_of_ble_eq_true rfl⟩) (fun x_327 H locs p_326 hI => ?_)
        obtain ⟨n_328, rfl, h_329, h_330, h_331⟩ := p_326
        refine sm_iP hI (va_runV (As := [.int (nI (2 + n_320)), .int (nI n_328)]) (rest := []) ⟨hx, hb, hml, hown, hts⟩ (c_Mo_numberAt l D ca ad L _ _ _ hM ((2 + n_320)) (by omega) (n_328) (by omega)) (kv_Mo_numberAt hts rfl rfl (hts _ tw_1622) ⟨Nat.le_of_ble_eq_true rfl, Nat.le_of_ble_eq_true rfl⟩) (pv_Mo hI hE hM) rfl rfl hl.1 rfl (lv_room (Nat.le_of_ble_eq_true rfl)) d_Mo_asks_132 ⟨Nat.le_of_ble_eq_true rfl, Nat.le_of_ble_eq_true rfl⟩) (fun x_333 H locs p_332 hI => ?_)
        refine lv_istore (lv' := [(6, .int (x_333)), (5, .int (x_316)), (0, .ref (ad 71)), (1, .int (nI j1)), (2, .int (nI r)), (3, .int (y3)), (4, .int (y4))]) hx hb d_Mo_asks_135 hl (by decide) rfl (fun ls hl => ?_)
        refine lv_aload_n hx hb d_Mo_asks_137 rfl (lv_at hl 2 rfl) ?_
        refine lv_iload_n hx hb d_Mo_asks_138 rfl (lv_at hl 4 rfl) ?_
        refine lv_aload_n hx hb d_Mo_asks_139 rfl (lv_at hl 2 rfl) ?_
        refine lv_iload_n hx hb d_Mo_asks_140 rfl (lv_at hl 3 rfl) ?_
        refine sm_iP hI (va_runV (As := [.int (nI j1)]) (rest := [.int (nI r), .ref (ad 71)]) ⟨hx, hb, hml, hown, hts⟩ (c_Mo_objectBytes l D ca ad L _ _ _ hM (nI j1)) (kv_Mo_objectBytes hts rfl rfl (hts _ tw_1462) ⟨Nat.le_of_ble_eq_true rfl, Nat.le_of_ble_eq_true rfl⟩) (pv_Mo hI hE hM) rfl rfl hl.1 rfl (lv_room (Nat.le_of_ble_eq_true rfl)) d_Mo_asks_141 ⟨Nat.le_of_ble_eq_true rfl, Nat.le_of_ble_eq_true rfl⟩) (fun x_335 H locs p_334 hI => ?_)
        obtain ⟨n_336, rfl, h_337, h_338, h_339⟩ := p_334
        refine sm_iP hI (va_runV (As := [.int (nI r), .int (nI n_336)]) (rest := []) ⟨hx, hb, hml, hown, hts⟩ (c_Mo_numberAt l D ca ad L _ _ _ hM (r) (by omega) (n_336) (by omega)) (kv_Mo_numberAt hts rfl rfl (hts _ tw_1622) ⟨Nat.le_of_ble_eq_true rfl, Nat.le_of_ble_eq_true rfl⟩) (pv_Mo hI hE hM) rfl rfl hl.1 rfl (lv_room (Nat.le_of_ble_eq_true rfl)) d_Mo_asks_144 ⟨Nat.le_of_ble_eq_true rfl, Nat.le_of_ble_eq_true rfl⟩) (fun x_341 H locs p_340 hI => ?_)
        refine lv_istore (lv' := [(7, .int (x_341)), (6, .int (x_333)), (5, .int (x_316)), (0, .ref (ad 71)), (1, .int (nI j1)), (2, .int (nI r)), (3, .int (y3)), (4, .int (y4))]) hx hb d_Mo_asks_147 hl (by decide) rfl (fun ls hl => ?_)
        refine lv_iload hx hb d_Mo_asks_149 (lv_at hl 1 rfl) ?_
        refine lv_aload_n hx hb d_Mo_asks_151 rfl (lv_at hl 3 rfl) ?_
        refine lv_iload_n hx hb d_Mo_asks_152 rfl (lv_at hl 4 rfl) ?_
        refine sm_iP hI (va_runV (As := [.int (nI j1)]) (rest := [.int (x_333)]) ⟨hx, hb, hml, hown, hts⟩ (c_Mo_stationBytes l D ca ad L _ _ _ hM (nI j1)) (kv_Mo_stationBytes hts rfl rfl (hts _ tw_1458) ⟨Nat.le_of_ble_eq_true rfl, Nat.le_of_ble_eq_true rfl⟩) (pv_Mo hI hE hM) rfl rfl hl.1 rfl (lv_room (Nat.le_of_ble_eq_true rfl)) d_Mo_asks_153 ⟨Nat.le_of_ble_eq_true rfl, Nat.le_of_ble_eq_true rfl⟩) (fun x_343 H locs p_342 hI => ?_)
        obtain ⟨n_344, rfl, h_345, h_346, h_347⟩ := p_342
        refine lv_iconst (v := 1) hx hb d_Mo_asks_156 (by decide) ?_
        refine lv_icmp_ne (tgt := 166) hx hb d_Mo_asks_157 (by decide) (fun c_348 => ?_) (fun c_348 => ?_)
        · have k_349 : ¬ n_344 = 1 := (fun q => c_348 ((nI_eq (a := n_344) (b := 1) (by omega) (by omega)).mpr q))
          refine lv_ldcw (v := 65535) hx hb hown (hts _ tw_1626) d_Mo_asks_166 ?_
          refine lv_icmp_ne (tgt := 200) hx hb d_Mo_asks_169 (by decide) (fun c_350 => ?_) (fun c_350 => ?_)
          · refine lv_iconst (v := 0) hx hb d_Mo_asks_200 (by decide) ?_
            exact hJ_201 _ _ _ _ _ (r) y3 y4 x_316 x_333 x_341 0 hI hM hF (lv_sub hl [3, 4, 5, 6, 7, 2, 1, 0] rfl) py4 (by decide) (Eq.trans o90 (congrArg nI (show ((z1) : Nat) = _ by omega))) (Eq.trans o91 (congrArg nI (show ((z2) : Nat) = _ by omega))) u90 (by omega) (by omega) (by omega) (by omega)
          · refine lv_iload_n hx hb d_Mo_asks_172 rfl (lv_at hl 6 rfl) ?_
            refine lv_bipush (v := 100) hx hb d_Mo_asks_173 (by decide) ?_
            refine lv_icmp_eq (tgt := 196) hx hb d_Mo_asks_175 (by decide) (fun c_351 => ?_) (fun c_351 => ?_)
            · refine lv_iconst (v := 1) hx hb d_Mo_asks_196 (by decide) ?_
              refine lv_goto (tgt := 201) hx hb d_Mo_asks_197 (by decide) ?_
              exact hJ_201 _ _ _ _ _ (r) y3 y4 x_316 x_333 x_341 1 hI hM hF (lv_sub hl [3, 4, 5, 6, 7, 2, 1, 0] rfl) py4 (by decide) (Eq.trans o90 (congrArg nI (show ((z1) : Nat) = _ by omega))) (Eq.trans o91 (congrArg nI (show ((z2) : Nat) = _ by omega))) u90 (by omega) (by omega) (by omega) (by omega)
            · refine lv_iload_n hx hb d_Mo_asks_178 rfl (lv_at hl 6 rfl) ?_
              refine lv_bipush (v := 101) hx hb d_Mo_asks_179 (by decide) ?_
              refine lv_icmp_eq (tgt := 196) hx hb d_Mo_asks_181 (by decide) (fun c_352 => ?_) (fun c_352 => ?_)
              · refine lv_iconst (v := 1) hx hb d_Mo_asks_196 (by decide) ?_
                refine lv_goto (tgt := 201) hx hb d_Mo_asks_197 (by decide) ?_
                exact hJ_201 _ _ _ _ _ (r) y3 y4 x_316 x_333 x_341 1 hI hM hF (lv_sub hl [3, 4, 5, 6, 7, 2, 1, 0] rfl) py4 (by decide) (Eq.trans o90 (congrArg nI (show ((z1) : Nat) = _ by omega))) (Eq.trans o91 (congrArg nI (show ((z2) : Nat) = _ by omega))) u90 (by omega) (by omega) (by omega) (by omega)
              · refine lv_iload_n hx hb d_Mo_asks_184 rfl (lv_at hl 6 rfl) ?_
                refine lv_bipush (v := 103) hx hb d_Mo_asks_185 (by decide) ?_
                refine lv_icmp_eq (tgt := 196) hx hb d_Mo_asks_187 (by decide) (fun c_353 => ?_) (fun c_353 => ?_)
                · refine lv_iconst (v := 1) hx hb d_Mo_asks_196 (by decide) ?_
                  refine lv_goto (tgt := 201) hx hb d_Mo_asks_197 (by decide) ?_
                  exact hJ_201 _ _ _ _ _ (r) y3 y4 x_316 x_333 x_341 1 hI hM hF (lv_sub hl [3, 4, 5, 6, 7, 2, 1, 0] rfl) py4 (by decide) (Eq.trans o90 (congrArg nI (show ((z1) : Nat) = _ by omega))) (Eq.trans o91 (congrArg nI (show ((z2) : Nat) = _ by omega))) u90 (by omega) (by omega) (by omega) (by omega)
                · refine lv_iload_n hx hb d_Mo_asks_190 rfl (lv_at hl 6 rfl) ?_
                  refine lv_bipush (v := 105) hx hb d_Mo_asks_191 (by decide) ?_
                  refine lv_icmp_ne (tgt := 200) hx hb d_Mo_asks_193 (by decide) (fun c_354 => ?_) (fun c_354 => ?_)
                  · refine lv_iconst (v := 0) hx hb d_Mo_asks_200 (by decide) ?_
                    exact hJ_201 _ _ _ _ _ (r) y3 y4 x_316 x_333 x_341 0 hI hM hF (lv_sub hl [3, 4, 5, 6, 7, 2, 1, 0] rfl) py4 (by decide) (Eq.trans o90 (congrArg nI (show ((z1) : Nat) = _ by omega))) (Eq.trans o91 (congrArg nI (show ((z2) : Nat) = _ by omega))) u90 (by omega) (by omega) (by omega) (by omega)
                  · refine lv_iconst (v := 1) hx hb d_Mo_asks_196 (by decide) ?_
                    refine lv_goto (tgt := 201) hx hb d_Mo_asks_197 (by decide) ?_
                    exact hJ_201 _ _ _ _ _ (r) y3 y4 x_316 x_333 x_341 1 hI hM hF (lv_sub hl [3, 4, 5, 6, 7, 2, 1, 0] rfl) py4 (by decide) (Eq.trans o90 (congrArg nI (show ((z1) : Nat) = _ by omega))) (Eq.trans o91 (congrArg nI (show ((z2) : Nat) = _ by omega))) u90 (by omega) (by omega) (by omega) (by omega)
        · have k_355 : n_344 = 1 := (nI_eq (a := n_344) (b := 1) (by omega) (by omega)).mp c_348
          refine lv_sipush (v := 255) hx hb d_Mo_asks_160 (by decide) ?_
          refine lv_goto (tgt := 169) hx hb d_Mo_asks_163 (by decide) ?_
          refine lv_icmp_ne (tgt := 200) hx hb d_Mo_asks_169 (by decide) (fun c_356 => ?_) (fun c_356 => ?_)
          · refine lv_iconst (v := 0) hx hb d_Mo_asks_200 (by decide) ?_
            exact hJ_201 _ _ _ _ _ (r) y3 y4 x_316 x_333 x_341 0 hI hM hF (lv_sub hl [3, 4, 5, 6, 7, 2, 1, 0] rfl) py4 (by decide) (Eq.trans o90 (congrArg nI (show ((z1) : Nat) = _ by omega))) (Eq.trans o91 (congrArg nI (show ((z2) : Nat) = _ by omega))) u90 (by omega) (by omega) (by omega) (by omega)
          · refine lv_iload_n hx hb d_Mo_asks_172 rfl (lv_at hl 6 rfl) ?_
            refine lv_bipush (v := 100) hx hb d_Mo_asks_173 (by decide) ?_
            refine lv_icmp_eq (tgt := 196) hx hb d_Mo_asks_175 (by decide) (fun c_357 => ?_) (fun c_357 => ?_)
            · refine lv_iconst (v := 1) hx hb d_Mo_asks_196 (by decide) ?_
              refine lv_goto (tgt := 201) hx hb d_Mo_asks_197 (by decide) ?_
              exact hJ_201 _ _ _ _ _ (r) y3 y4 x_316 x_333 x_341 1 hI hM hF (lv_sub hl [3, 4, 5, 6, 7, 2, 1, 0] rfl) py4 (by decide) (Eq.trans o90 (congrArg nI (show ((z1) : Nat) = _ by omega))) (Eq.trans o91 (congrArg nI (show ((z2) : Nat) = _ by omega))) u90 (by omega) (by omega) (by omega) (by omega)
            · refine lv_iload_n hx hb d_Mo_asks_178 rfl (lv_at hl 6 rfl) ?_
              refine lv_bipush (v := 101) hx hb d_Mo_asks_179 (by decide) ?_
              refine lv_icmp_eq (tgt := 196) hx hb d_Mo_asks_181 (by decide) (fun c_358 => ?_) (fun c_358 => ?_)
              · refine lv_iconst (v := 1) hx hb d_Mo_asks_196 (by decide) ?_
                refine lv_goto (tgt := 201) hx hb d_Mo_asks_197 (by decide) ?_
                exact hJ_201 _ _ _ _ _ (r) y3 y4 x_316 x_333 x_341 1 hI hM hF (lv_sub hl [3, 4, 5, 6, 7, 2, 1, 0] rfl) py4 (by decide) (Eq.trans o90 (congrArg nI (show ((z1) : Nat) = _ by omega))) (Eq.trans o91 (congrArg nI (show ((z2) : Nat) = _ by omega))) u90 (by omega) (by omega) (by omega) (by omega)
              · refine lv_iload_n hx hb d_Mo_asks_184 rfl (lv_at hl 6 rfl) ?_
                refine lv_bipush (v := 103) hx hb d_Mo_asks_185 (by decide) ?_
                refine lv_icmp_eq (tgt := 196) hx hb d_Mo_asks_187 (by decide) (fun c_359 => ?_) (fun c_359 => ?_)
                · refine lv_iconst (v := 1) hx hb d_Mo_asks_196 (by decide) ?_
                  refine lv_goto (tgt := 201) hx hb d_Mo_asks_197 (by decide) ?_
                  exact hJ_201 _ _ _ _ _ (r) y3 y4 x_316 x_333 x_341 1 hI hM hF (lv_sub hl [3, 4, 5, 6, 7, 2, 1, 0] rfl) py4 (by decide) (Eq.trans o90 (congrArg nI (show ((z1) : Nat) = _ by omega))) (Eq.trans o91 (congrArg nI (show ((z2) : Nat) = _ by omega))) u90 (by omega) (by omega) (by omega) (by omega)
                · refine lv_iload_n hx hb d_Mo_asks_190 rfl (lv_at hl 6 rfl) ?_
                  refine lv_bipush (v := 105) hx hb d_Mo_asks_191 (by decide) ?_
                  refine lv_icmp_ne (tgt := 200) hx hb d_Mo_asks_193 (by decide) (fun c_360 => ?_) (fun c_360 => ?_)
                  · refine lv_iconst (v := 0) hx hb d_Mo_asks_200 (by decide) ?_
                    exact hJ_201 _ _ _ _ _ (r) y3 y4 x_316 x_333 x_341 0 hI hM hF (lv_sub hl [3, 4, 5, 6, 7, 2, 1, 0] rfl) py4 (by decide) (Eq.trans o90 (congrArg nI (show ((z1) : Nat) = _ by omega))) (Eq.trans o91 (congrArg nI (show ((z2) : Nat) = _ by omega))) u90 (by omega) (by omega) (by omega) (by omega)
                  · refine lv_iconst (v := 1) hx hb d_Mo_asks_196 (by decide) ?_
                    refine lv_goto (tgt := 201) hx hb d_Mo_asks_197 (by decide) ?_
                    exact hJ_201 _ _ _ _ _ (r) y3 y4 x_316 x_333 x_341 1 hI hM hF (lv_sub hl [3, 4, 5, 6, 7, 2, 1, 0] rfl) py4 (by decide) (Eq.trans o90 (congrArg nI (show ((z1) : Nat) = _ by omega))) (Eq.trans o91 (congrArg nI (show ((z2) : Nat) = _ by omega))) u90 (by omega) (by omega) (by omega) (by omega)
      · have k_361 : ¬ (z2) = ((r + n_299) + n_307) := (fun q => c_312 ((nI_eq (a := (z2)) (b := ((r + n_299) + n_307)) (by omega) (by omega)).mpr q))
        refine lv_iconst (v := 0) hx hb d_Mo_asks_106 (by decide) ?_
        exact sm_zret hx hb hr hlk hI (by decide) ⟨σ, rfl, hM, hF, ⟨(by decide), ⟨(z1), by omega, by omega, by omega, o90⟩, u90, trivial⟩⟩ d_Mo_asks_107
  refine lv_aload_n hx hb d_Mo_asks_0 rfl (lv_at hl 0 rfl) ?_
  refine lv_iload_n hx hb d_Mo_asks_1 rfl (lv_at hl 1 rfl) ?_
  refine sm_iP hI (va_runV (As := [.int (nI j1)]) (rest := []) ⟨hx, hb, hml, hown, hts⟩ (c_Mo_headBytes l D ca ad L _ _ _ hM (nI j1)) (kv_Mo_headBytes hts rfl rfl (hts _ tw_1450) ⟨Nat.le_of_ble_eq_true rfl, Nat.le_of_ble_eq_true rfl⟩) (pv_Mo hI hE hM) rfl rfl hl.1 rfl (lv_room (Nat.le_of_ble_eq_true rfl)) d_Mo_asks_2 ⟨Nat.le_of_ble_eq_true rfl, Nat.le_of_ble_eq_true rfl⟩) (fun x_363 H locs p_362 hI => ?_)
  obtain ⟨n_364, rfl, h_365, h_366, h_367⟩ := p_362
  refine lv_istore_n (lv' := [(2, .int (nI n_364)), (0, .ref (ad 71)), (1, .int (nI j1))]) hx hb d_Mo_asks_5 rfl hl (by decide) rfl (fun ls hl => ?_)
  refine lv_aload_n hx hb d_Mo_asks_6 rfl (lv_at hl 1 rfl) ?_
  refine mq_get (k := 70) (v := .int (nI z2)) hx hb hts hown hI hM (by decide) (congrArg (fun z => some (Value.int z)) o1) rfl (hts _ tw_1239) d_Mo_asks_7 ?_
  refine lv_iload_n hx hb d_Mo_asks_10 rfl (lv_at hl 0 rfl) ?_
  refine lv_icmp_ge (tgt := 16) hx hb d_Mo_asks_11 (by decide) (fun c_368 => ?_) (fun c_368 => ?_)
  · have k_369 : n_364 ≤ z2 := (nI_leI (a := n_364) (b := z2) (by omega) (by omega)).mp c_368
    refine lv_aload_n hx hb d_Mo_asks_16 rfl (lv_at hl 1 rfl) ?_
    refine mq_get (k := 69) (v := .ref (ad 69)) hx hb hts hown hI hM (by decide) rfl rfl (hts _ tw_1238) d_Mo_asks_17 ?_
    refine lv_iconst (v := 0) hx hb d_Mo_asks_20 (by decide) ?_
    obtain ⟨x_370, e_371⟩ : ∃ z, σ0.2.2.1 69 (0) = z := ⟨_, rfl⟩
    refine mq_iald (k := 69) (j := 0) (v := x_370) hx hb hI hM (by decide) rfl (by show 0 < 260; omega) (by decide) e_371 d_Mo_asks_21 ?_
    refine lv_istore_n (lv' := [(3, .int (x_370)), (2, .int (nI n_364)), (0, .ref (ad 71)), (1, .int (nI j1))]) hx hb d_Mo_asks_22 rfl hl (by decide) rfl (fun ls hl => ?_)
    refine lv_iload_n hx hb d_Mo_asks_23 rfl (lv_at hl 0 rfl) ?_
    refine lv_bipush (v := 45) hx hb d_Mo_asks_24 (by decide) ?_
    refine lv_icmp_eq (tgt := 41) hx hb d_Mo_asks_26 (by decide) (fun c_372 => ?_) (fun c_372 => ?_)
    · refine lv_iconst (v := 1) hx hb d_Mo_asks_41 (by decide) ?_
      refine lv_goto (tgt := 46) hx hb d_Mo_asks_42 (by decide) ?_
      refine lv_istore (lv' := [(4, .int (1)), (3, .int (x_370)), (2, .int (nI n_364)), (0, .ref (ad 71)), (1, .int (nI j1))]) hx hb d_Mo_asks_46 hl (by decide) rfl (fun ls hl => ?_)
      refine lv_iload hx hb d_Mo_asks_48 (lv_at hl 0 rfl) ?_
      refine lv_if_ne (tgt := 77) hx hb d_Mo_asks_50 (by decide) (fun c_373 => ?_) (fun c_373 => ?_)
      · exact hJ_77 _ _ _ _ _ (n_364) x_370 1 hI hM hF (lv_sub hl [3, 4, 2, 1, 0] rfl) (by decide) (Eq.trans o0 (congrArg nI (show (z1 : Nat) = _ by omega))) (Eq.trans o1 (congrArg nI (show (z2 : Nat) = _ by omega))) u0 (by omega) (by omega)
      · exact absurd c_373 (by decide)
    · refine lv_iload_n hx hb d_Mo_asks_29 rfl (lv_at hl 0 rfl) ?_
      refine lv_bipush (v := 46) hx hb d_Mo_asks_30 (by decide) ?_
      refine lv_icmp_eq (tgt := 41) hx hb d_Mo_asks_32 (by decide) (fun c_374 => ?_) (fun c_374 => ?_)
      · refine lv_iconst (v := 1) hx hb d_Mo_asks_41 (by decide) ?_
        refine lv_goto (tgt := 46) hx hb d_Mo_asks_42 (by decide) ?_
        refine lv_istore (lv' := [(4, .int (1)), (3, .int (x_370)), (2, .int (nI n_364)), (0, .ref (ad 71)), (1, .int (nI j1))]) hx hb d_Mo_asks_46 hl (by decide) rfl (fun ls hl => ?_)
        refine lv_iload hx hb d_Mo_asks_48 (lv_at hl 0 rfl) ?_
        refine lv_if_ne (tgt := 77) hx hb d_Mo_asks_50 (by decide) (fun c_375 => ?_) (fun c_375 => ?_)
        · exact hJ_77 _ _ _ _ _ (n_364) x_370 1 hI hM hF (lv_sub hl [3, 4, 2, 1, 0] rfl) (by decide) (Eq.trans o0 (congrArg nI (show (z1 : Nat) = _ by omega))) (Eq.trans o1 (congrArg nI (show (z2 : Nat) = _ by omega))) u0 (by omega) (by omega)
        · exact absurd c_375 (by decide)
      · refine lv_iload_n hx hb d_Mo_asks_35 rfl (lv_at hl 0 rfl) ?_
        refine lv_bipush (v := 50) hx hb d_Mo_asks_36 (by decide) ?_
        refine lv_icmp_ne (tgt := 45) hx hb d_Mo_asks_38 (by decide) (fun c_376 => ?_) (fun c_376 => ?_)
        · refine lv_iconst (v := 0) hx hb d_Mo_asks_45 (by decide) ?_
          refine lv_istore (lv' := [(4, .int (0)), (3, .int (x_370)), (2, .int (nI n_364)), (0, .ref (ad 71)), (1, .int (nI j1))]) hx hb d_Mo_asks_46 hl (by decide) rfl (fun ls hl => ?_)
          refine lv_iload hx hb d_Mo_asks_48 (lv_at hl 0 rfl) ?_
          refine lv_if_ne (tgt := 77) hx hb d_Mo_asks_50 (by decide) (fun c_377 => ?_) (fun c_377 => ?_)
          · exact absurd c_377 (by decide)
          · refine lv_iload_n hx hb d_Mo_asks_53 rfl (lv_at hl 1 rfl) ?_
            refine lv_i2l hx hb d_Mo_asks_54 rfl ?_
            refine lv_topl (fun x_378 e_379 => ?_)
            refine lv_ldc2 (v := 100) hx hb hown (hts _ tw_1609) d_Mo_asks_55 ?_
            refine lv_ldc2 (v := 105) hx hb hown (hts _ tw_1610) d_Mo_asks_58 ?_
            refine sm_iP hI (va_runS (As := [.long (x_378), .long (100), .long (105)]) (rest := []) ⟨hx, hb, hml, hown, hts⟩ (c_Mo_in l D ca L _ _ x_378 100 105) (ks_Mo_in hts rfl rfl (hts _ tw_1393) ⟨Nat.le_of_ble_eq_true rfl, Nat.le_of_ble_eq_true rfl⟩) (sm_preS hI hE) rfl rfl hl.1 rfl (lv_room (Nat.le_of_ble_eq_true rfl)) d_Mo_asks_61 ⟨Nat.le_of_ble_eq_true rfl, Nat.le_of_ble_eq_true rfl⟩) (fun x_381 H locs p_380 hI => ?_)
            refine lv_if_ne (tgt := 77) hx hb d_Mo_asks_64 (by decide) (fun c_382 => ?_) (fun c_382 => ?_)
            · exact hJ_77 _ _ _ _ _ (n_364) x_370 0 hI hM hF (lv_sub hl [3, 4, 2, 1, 0] rfl) (by decide) (Eq.trans o0 (congrArg nI (show (z1 : Nat) = _ by omega))) (Eq.trans o1 (congrArg nI (show (z2 : Nat) = _ by omega))) u0 (by omega) (by omega)
            · refine lv_aload_n hx hb d_Mo_asks_67 rfl (lv_at hl 3 rfl) ?_
              refine lv_iload_n hx hb d_Mo_asks_68 rfl (lv_at hl 4 rfl) ?_
              refine lv_bipush (v := 44) hx hb d_Mo_asks_69 (by decide) ?_
              refine lv_iconst (v := 1) hx hb d_Mo_asks_71 (by decide) ?_
              refine sm_vM hI (va_runV (As := [.int (nI j1), .int (44), .int (1)]) (rest := []) ⟨hx, hb, hml, hown, hts⟩ (c_Mo_comes l D ca ad L _ _ _ hM (j1) (by omega) 44 1 (by decide) u0) (kv_Mo_comes hts rfl rfl (hts _ tw_1611) ⟨Nat.le_of_ble_eq_true rfl, Nat.le_of_ble_eq_true rfl⟩) (pv_Mo hI hE hM) rfl rfl hl.1 rfl (lv_room (Nat.le_of_ble_eq_true rfl)) d_Mo_asks_72 ⟨Nat.le_of_ble_eq_true rfl, Nat.le_of_ble_eq_true rfl⟩) (fun H locs f σ_384 hI hM hF_385 p_383 => ?_)
              have hF := mq_fr_tr hF hF_385 (by decide)
              have o_386 : σ_384.1 56 = nI z1 := mq_fi hF_385 (by decide) o0
              have o_387 : σ_384.1 70 = nI z2 := mq_fi hF_385 (by decide) o1
              obtain ⟨u_388, -⟩ := p_383
              refine lv_iconst (v := 1) hx hb d_Mo_asks_75 (by decide) ?_
              exact sm_zret hx hb hr hlk hI (by decide) ⟨σ_384, rfl, hM, hF, ⟨(by decide), ⟨z1, by omega, by omega, by omega, o_386⟩, u_388, trivial⟩⟩ d_Mo_asks_76
        · refine lv_iconst (v := 1) hx hb d_Mo_asks_41 (by decide) ?_
          refine lv_goto (tgt := 46) hx hb d_Mo_asks_42 (by decide) ?_
          refine lv_istore (lv' := [(4, .int (1)), (3, .int (x_370)), (2, .int (nI n_364)), (0, .ref (ad 71)), (1, .int (nI j1))]) hx hb d_Mo_asks_46 hl (by decide) rfl (fun ls hl => ?_)
          refine lv_iload hx hb d_Mo_asks_48 (lv_at hl 0 rfl) ?_
          refine lv_if_ne (tgt := 77) hx hb d_Mo_asks_50 (by decide) (fun c_389 => ?_) (fun c_389 => ?_)
          · exact hJ_77 _ _ _ _ _ (n_364) x_370 1 hI hM hF (lv_sub hl [3, 4, 2, 1, 0] rfl) (by decide) (Eq.trans o0 (congrArg nI (show (z1 : Nat) = _ by omega))) (Eq.trans o1 (congrArg nI (show (z2 : Nat) = _ by omega))) u0 (by omega) (by omega)
          · exact absurd c_389 (by decide)
  · have k_390 : z2 < n_364 := Nat.lt_of_not_le (fun q => c_368 ((nI_leI (a := n_364) (b := z2) (by omega) (by omega)).mpr q))
    refine lv_iconst (v := 0) hx hb d_Mo_asks_14 (by decide) ?_
    exact sm_zret hx hb hr hlk hI (by decide) ⟨σ0, rfl, hM, hF, ⟨(by decide), ⟨z1, by omega, by omega, by omega, o0⟩, u0, trivial⟩⟩ d_Mo_asks_15
