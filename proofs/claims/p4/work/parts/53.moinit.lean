/-! the reference's constructor (written by wip/tools/cons2.py) -/
theorem d_Mo_init_0 : decode b_Mo_init 0 = .ok (.aload_n 0, 1) := by decide +kernel
theorem d_Mo_init_1 : decode b_Mo_init 1 = .ok (.invokespecial 1, 3) := by decide +kernel
theorem d_Mo_init_4 : decode b_Mo_init 4 = .ok (.aload_n 0, 1) := by decide +kernel
theorem d_Mo_init_5 : decode b_Mo_init 5 = .ok (.bipush 32, 2) := by decide +kernel
theorem d_Mo_init_7 : decode b_Mo_init 7 = .ok (.newarray .int, 2) := by decide +kernel
theorem d_Mo_init_9 : decode b_Mo_init 9 = .ok (.putfield 7, 3) := by decide +kernel
theorem d_Mo_init_12 : decode b_Mo_init 12 = .ok (.aload_n 0, 1) := by decide +kernel
theorem d_Mo_init_13 : decode b_Mo_init 13 = .ok (.bipush 32, 2) := by decide +kernel
theorem d_Mo_init_15 : decode b_Mo_init 15 = .ok (.newarray .int, 2) := by decide +kernel
theorem d_Mo_init_17 : decode b_Mo_init 17 = .ok (.putfield 13, 3) := by decide +kernel
theorem d_Mo_init_20 : decode b_Mo_init 20 = .ok (.aload_n 0, 1) := by decide +kernel
theorem d_Mo_init_21 : decode b_Mo_init 21 = .ok (.bipush 32, 2) := by decide +kernel
theorem d_Mo_init_23 : decode b_Mo_init 23 = .ok (.newarray .int, 2) := by decide +kernel
theorem d_Mo_init_25 : decode b_Mo_init 25 = .ok (.putfield 16, 3) := by decide +kernel
theorem d_Mo_init_28 : decode b_Mo_init 28 = .ok (.aload_n 0, 1) := by decide +kernel
theorem d_Mo_init_29 : decode b_Mo_init 29 = .ok (.bipush 32, 2) := by decide +kernel
theorem d_Mo_init_31 : decode b_Mo_init 31 = .ok (.newarray .boolean, 2) := by decide +kernel
theorem d_Mo_init_33 : decode b_Mo_init 33 = .ok (.putfield 19, 3) := by decide +kernel
theorem d_Mo_init_36 : decode b_Mo_init 36 = .ok (.aload_n 0, 1) := by decide +kernel
theorem d_Mo_init_37 : decode b_Mo_init 37 = .ok (.bipush 32, 2) := by decide +kernel
theorem d_Mo_init_39 : decode b_Mo_init 39 = .ok (.newarray .int, 2) := by decide +kernel
theorem d_Mo_init_41 : decode b_Mo_init 41 = .ok (.putfield 23, 3) := by decide +kernel
theorem d_Mo_init_44 : decode b_Mo_init 44 = .ok (.aload_n 0, 1) := by decide +kernel
theorem d_Mo_init_45 : decode b_Mo_init 45 = .ok (.bipush 32, 2) := by decide +kernel
theorem d_Mo_init_47 : decode b_Mo_init 47 = .ok (.newarray .int, 2) := by decide +kernel
theorem d_Mo_init_49 : decode b_Mo_init 49 = .ok (.putfield 26, 3) := by decide +kernel
theorem d_Mo_init_52 : decode b_Mo_init 52 = .ok (.aload_n 0, 1) := by decide +kernel
theorem d_Mo_init_53 : decode b_Mo_init 53 = .ok (.iconst 4, 1) := by decide +kernel
theorem d_Mo_init_54 : decode b_Mo_init 54 = .ok (.newarray .int, 2) := by decide +kernel
theorem d_Mo_init_56 : decode b_Mo_init 56 = .ok (.putfield 29, 3) := by decide +kernel
theorem d_Mo_init_59 : decode b_Mo_init 59 = .ok (.aload_n 0, 1) := by decide +kernel
theorem d_Mo_init_60 : decode b_Mo_init 60 = .ok (.iconst 4, 1) := by decide +kernel
theorem d_Mo_init_61 : decode b_Mo_init 61 = .ok (.newarray .int, 2) := by decide +kernel
theorem d_Mo_init_63 : decode b_Mo_init 63 = .ok (.putfield 32, 3) := by decide +kernel
theorem d_Mo_init_66 : decode b_Mo_init 66 = .ok (.aload_n 0, 1) := by decide +kernel
theorem d_Mo_init_67 : decode b_Mo_init 67 = .ok (.sipush 5200, 3) := by decide +kernel
theorem d_Mo_init_70 : decode b_Mo_init 70 = .ok (.newarray .int, 2) := by decide +kernel
theorem d_Mo_init_72 : decode b_Mo_init 72 = .ok (.putfield 35, 3) := by decide +kernel
theorem d_Mo_init_75 : decode b_Mo_init 75 = .ok (.aload_n 0, 1) := by decide +kernel
theorem d_Mo_init_76 : decode b_Mo_init 76 = .ok (.iconst 4, 1) := by decide +kernel
theorem d_Mo_init_77 : decode b_Mo_init 77 = .ok (.newarray .int, 2) := by decide +kernel
theorem d_Mo_init_79 : decode b_Mo_init 79 = .ok (.putfield 38, 3) := by decide +kernel
theorem d_Mo_init_82 : decode b_Mo_init 82 = .ok (.aload_n 0, 1) := by decide +kernel
theorem d_Mo_init_83 : decode b_Mo_init 83 = .ok (.sipush 1080, 3) := by decide +kernel
theorem d_Mo_init_86 : decode b_Mo_init 86 = .ok (.newarray .int, 2) := by decide +kernel
theorem d_Mo_init_88 : decode b_Mo_init 88 = .ok (.putfield 41, 3) := by decide +kernel
theorem d_Mo_init_91 : decode b_Mo_init 91 = .ok (.aload_n 0, 1) := by decide +kernel
theorem d_Mo_init_92 : decode b_Mo_init 92 = .ok (.iconst 4, 1) := by decide +kernel
theorem d_Mo_init_93 : decode b_Mo_init 93 = .ok (.newarray .int, 2) := by decide +kernel
theorem d_Mo_init_95 : decode b_Mo_init 95 = .ok (.putfield 44, 3) := by decide +kernel
theorem d_Mo_init_98 : decode b_Mo_init 98 = .ok (.aload_n 0, 1) := by decide +kernel
theorem d_Mo_init_99 : decode b_Mo_init 99 = .ok (.iconst 3, 1) := by decide +kernel
theorem d_Mo_init_100 : decode b_Mo_init 100 = .ok (.newarray .int, 2) := by decide +kernel
theorem d_Mo_init_102 : decode b_Mo_init 102 = .ok (.putfield 47, 3) := by decide +kernel
theorem d_Mo_init_105 : decode b_Mo_init 105 = .ok (.aload_n 0, 1) := by decide +kernel
theorem d_Mo_init_106 : decode b_Mo_init 106 = .ok (.iconst 3, 1) := by decide +kernel
theorem d_Mo_init_107 : decode b_Mo_init 107 = .ok (.newarray .int, 2) := by decide +kernel
theorem d_Mo_init_109 : decode b_Mo_init 109 = .ok (.putfield 50, 3) := by decide +kernel
theorem d_Mo_init_112 : decode b_Mo_init 112 = .ok (.aload_n 0, 1) := by decide +kernel
theorem d_Mo_init_113 : decode b_Mo_init 113 = .ok (.iconst 3, 1) := by decide +kernel
theorem d_Mo_init_114 : decode b_Mo_init 114 = .ok (.newarray .int, 2) := by decide +kernel
theorem d_Mo_init_116 : decode b_Mo_init 116 = .ok (.putfield 53, 3) := by decide +kernel
theorem d_Mo_init_119 : decode b_Mo_init 119 = .ok (.aload_n 0, 1) := by decide +kernel
theorem d_Mo_init_120 : decode b_Mo_init 120 = .ok (.iconst 3, 1) := by decide +kernel
theorem d_Mo_init_121 : decode b_Mo_init 121 = .ok (.newarray .int, 2) := by decide +kernel
theorem d_Mo_init_123 : decode b_Mo_init 123 = .ok (.putfield 56, 3) := by decide +kernel
theorem d_Mo_init_126 : decode b_Mo_init 126 = .ok (.aload_n 0, 1) := by decide +kernel
theorem d_Mo_init_127 : decode b_Mo_init 127 = .ok (.bipush 36, 2) := by decide +kernel
theorem d_Mo_init_129 : decode b_Mo_init 129 = .ok (.newarray .long, 2) := by decide +kernel
theorem d_Mo_init_131 : decode b_Mo_init 131 = .ok (.putfield 59, 3) := by decide +kernel
theorem d_Mo_init_134 : decode b_Mo_init 134 = .ok (.aload_n 0, 1) := by decide +kernel
theorem d_Mo_init_135 : decode b_Mo_init 135 = .ok (.bipush 36, 2) := by decide +kernel
theorem d_Mo_init_137 : decode b_Mo_init 137 = .ok (.newarray .int, 2) := by decide +kernel
theorem d_Mo_init_139 : decode b_Mo_init 139 = .ok (.putfield 63, 3) := by decide +kernel
theorem d_Mo_init_142 : decode b_Mo_init 142 = .ok (.aload_n 0, 1) := by decide +kernel
theorem d_Mo_init_143 : decode b_Mo_init 143 = .ok (.iconst 3, 1) := by decide +kernel
theorem d_Mo_init_144 : decode b_Mo_init 144 = .ok (.newarray .int, 2) := by decide +kernel
theorem d_Mo_init_146 : decode b_Mo_init 146 = .ok (.putfield 66, 3) := by decide +kernel
theorem d_Mo_init_149 : decode b_Mo_init 149 = .ok (.aload_n 0, 1) := by decide +kernel
theorem d_Mo_init_150 : decode b_Mo_init 150 = .ok (.iconst 3, 1) := by decide +kernel
theorem d_Mo_init_151 : decode b_Mo_init 151 = .ok (.newarray .long, 2) := by decide +kernel
theorem d_Mo_init_153 : decode b_Mo_init 153 = .ok (.putfield 69, 3) := by decide +kernel
theorem d_Mo_init_156 : decode b_Mo_init 156 = .ok (.aload_n 0, 1) := by decide +kernel
theorem d_Mo_init_157 : decode b_Mo_init 157 = .ok (.iconst 3, 1) := by decide +kernel
theorem d_Mo_init_158 : decode b_Mo_init 158 = .ok (.newarray .long, 2) := by decide +kernel
theorem d_Mo_init_160 : decode b_Mo_init 160 = .ok (.putfield 72, 3) := by decide +kernel
theorem d_Mo_init_163 : decode b_Mo_init 163 = .ok (.aload_n 0, 1) := by decide +kernel
theorem d_Mo_init_164 : decode b_Mo_init 164 = .ok (.iconst 3, 1) := by decide +kernel
theorem d_Mo_init_165 : decode b_Mo_init 165 = .ok (.newarray .boolean, 2) := by decide +kernel
theorem d_Mo_init_167 : decode b_Mo_init 167 = .ok (.putfield 75, 3) := by decide +kernel
theorem d_Mo_init_170 : decode b_Mo_init 170 = .ok (.aload_n 0, 1) := by decide +kernel
theorem d_Mo_init_171 : decode b_Mo_init 171 = .ok (.iconst 3, 1) := by decide +kernel
theorem d_Mo_init_172 : decode b_Mo_init 172 = .ok (.newarray .long, 2) := by decide +kernel
theorem d_Mo_init_174 : decode b_Mo_init 174 = .ok (.putfield 78, 3) := by decide +kernel
theorem d_Mo_init_177 : decode b_Mo_init 177 = .ok (.aload_n 0, 1) := by decide +kernel
theorem d_Mo_init_178 : decode b_Mo_init 178 = .ok (.iconst 4, 1) := by decide +kernel
theorem d_Mo_init_179 : decode b_Mo_init 179 = .ok (.newarray .int, 2) := by decide +kernel
theorem d_Mo_init_181 : decode b_Mo_init 181 = .ok (.putfield 81, 3) := by decide +kernel
theorem d_Mo_init_184 : decode b_Mo_init 184 = .ok (.aload_n 0, 1) := by decide +kernel
theorem d_Mo_init_185 : decode b_Mo_init 185 = .ok (.sipush 16640, 3) := by decide +kernel
theorem d_Mo_init_188 : decode b_Mo_init 188 = .ok (.newarray .int, 2) := by decide +kernel
theorem d_Mo_init_190 : decode b_Mo_init 190 = .ok (.putfield 84, 3) := by decide +kernel
theorem d_Mo_init_193 : decode b_Mo_init 193 = .ok (.aload_n 0, 1) := by decide +kernel
theorem d_Mo_init_194 : decode b_Mo_init 194 = .ok (.bipush 64, 2) := by decide +kernel
theorem d_Mo_init_196 : decode b_Mo_init 196 = .ok (.newarray .int, 2) := by decide +kernel
theorem d_Mo_init_198 : decode b_Mo_init 198 = .ok (.putfield 87, 3) := by decide +kernel
theorem d_Mo_init_201 : decode b_Mo_init 201 = .ok (.aload_n 0, 1) := by decide +kernel
theorem d_Mo_init_202 : decode b_Mo_init 202 = .ok (.bipush 64, 2) := by decide +kernel
theorem d_Mo_init_204 : decode b_Mo_init 204 = .ok (.newarray .int, 2) := by decide +kernel
theorem d_Mo_init_206 : decode b_Mo_init 206 = .ok (.putfield 90, 3) := by decide +kernel
theorem d_Mo_init_209 : decode b_Mo_init 209 = .ok (.aload_n 0, 1) := by decide +kernel
theorem d_Mo_init_210 : decode b_Mo_init 210 = .ok (.bipush 64, 2) := by decide +kernel
theorem d_Mo_init_212 : decode b_Mo_init 212 = .ok (.newarray .int, 2) := by decide +kernel
theorem d_Mo_init_214 : decode b_Mo_init 214 = .ok (.putfield 93, 3) := by decide +kernel
theorem d_Mo_init_217 : decode b_Mo_init 217 = .ok (.aload_n 0, 1) := by decide +kernel
theorem d_Mo_init_218 : decode b_Mo_init 218 = .ok (.iconst 1, 1) := by decide +kernel
theorem d_Mo_init_219 : decode b_Mo_init 219 = .ok (.putfield 96, 3) := by decide +kernel
theorem d_Mo_init_222 : decode b_Mo_init 222 = .ok (.aload_n 0, 1) := by decide +kernel
theorem d_Mo_init_223 : decode b_Mo_init 223 = .ok (.iconst 1, 1) := by decide +kernel
theorem d_Mo_init_224 : decode b_Mo_init 224 = .ok (.putfield 100, 3) := by decide +kernel
theorem d_Mo_init_227 : decode b_Mo_init 227 = .ok (.aload_n 0, 1) := by decide +kernel
theorem d_Mo_init_228 : decode b_Mo_init 228 = .ok (.iconst 1, 1) := by decide +kernel
theorem d_Mo_init_229 : decode b_Mo_init 229 = .ok (.putfield 103, 3) := by decide +kernel
theorem d_Mo_init_232 : decode b_Mo_init 232 = .ok (.aload_n 0, 1) := by decide +kernel
theorem d_Mo_init_233 : decode b_Mo_init 233 = .ok (.sipush 270, 3) := by decide +kernel
theorem d_Mo_init_236 : decode b_Mo_init 236 = .ok (.newarray .int, 2) := by decide +kernel
theorem d_Mo_init_238 : decode b_Mo_init 238 = .ok (.putfield 106, 3) := by decide +kernel
theorem d_Mo_init_241 : decode b_Mo_init 241 = .ok (.aload_n 0, 1) := by decide +kernel
theorem d_Mo_init_242 : decode b_Mo_init 242 = .ok (.iconst (-1), 1) := by decide +kernel
theorem d_Mo_init_243 : decode b_Mo_init 243 = .ok (.putfield 109, 3) := by decide +kernel
theorem d_Mo_init_246 : decode b_Mo_init 246 = .ok (.aload_n 0, 1) := by decide +kernel
theorem d_Mo_init_247 : decode b_Mo_init 247 = .ok (.bipush 48, 2) := by decide +kernel
theorem d_Mo_init_249 : decode b_Mo_init 249 = .ok (.newarray .int, 2) := by decide +kernel
theorem d_Mo_init_251 : decode b_Mo_init 251 = .ok (.putfield 112, 3) := by decide +kernel
theorem d_Mo_init_254 : decode b_Mo_init 254 = .ok (.aload_n 0, 1) := by decide +kernel
theorem d_Mo_init_255 : decode b_Mo_init 255 = .ok (.bipush 48, 2) := by decide +kernel
theorem d_Mo_init_257 : decode b_Mo_init 257 = .ok (.newarray .int, 2) := by decide +kernel
theorem d_Mo_init_259 : decode b_Mo_init 259 = .ok (.putfield 115, 3) := by decide +kernel
theorem d_Mo_init_262 : decode b_Mo_init 262 = .ok (.aload_n 0, 1) := by decide +kernel
theorem d_Mo_init_263 : decode b_Mo_init 263 = .ok (.bipush 48, 2) := by decide +kernel
theorem d_Mo_init_265 : decode b_Mo_init 265 = .ok (.newarray .int, 2) := by decide +kernel
theorem d_Mo_init_267 : decode b_Mo_init 267 = .ok (.putfield 118, 3) := by decide +kernel
theorem d_Mo_init_270 : decode b_Mo_init 270 = .ok (.aload_n 0, 1) := by decide +kernel
theorem d_Mo_init_271 : decode b_Mo_init 271 = .ok (.bipush 48, 2) := by decide +kernel
theorem d_Mo_init_273 : decode b_Mo_init 273 = .ok (.newarray .int, 2) := by decide +kernel
theorem d_Mo_init_275 : decode b_Mo_init 275 = .ok (.putfield 121, 3) := by decide +kernel
theorem d_Mo_init_278 : decode b_Mo_init 278 = .ok (.aload_n 0, 1) := by decide +kernel
theorem d_Mo_init_279 : decode b_Mo_init 279 = .ok (.bipush 48, 2) := by decide +kernel
theorem d_Mo_init_281 : decode b_Mo_init 281 = .ok (.newarray .int, 2) := by decide +kernel
theorem d_Mo_init_283 : decode b_Mo_init 283 = .ok (.putfield 124, 3) := by decide +kernel
theorem d_Mo_init_286 : decode b_Mo_init 286 = .ok (.aload_n 0, 1) := by decide +kernel
theorem d_Mo_init_287 : decode b_Mo_init 287 = .ok (.bipush 48, 2) := by decide +kernel
theorem d_Mo_init_289 : decode b_Mo_init 289 = .ok (.newarray .long, 2) := by decide +kernel
theorem d_Mo_init_291 : decode b_Mo_init 291 = .ok (.putfield 127, 3) := by decide +kernel
theorem d_Mo_init_294 : decode b_Mo_init 294 = .ok (.aload_n 0, 1) := by decide +kernel
theorem d_Mo_init_295 : decode b_Mo_init 295 = .ok (.bipush 48, 2) := by decide +kernel
theorem d_Mo_init_297 : decode b_Mo_init 297 = .ok (.newarray .boolean, 2) := by decide +kernel
theorem d_Mo_init_299 : decode b_Mo_init 299 = .ok (.putfield 130, 3) := by decide +kernel
theorem d_Mo_init_302 : decode b_Mo_init 302 = .ok (.aload_n 0, 1) := by decide +kernel
theorem d_Mo_init_303 : decode b_Mo_init 303 = .ok (.bipush 48, 2) := by decide +kernel
theorem d_Mo_init_305 : decode b_Mo_init 305 = .ok (.newarray .int, 2) := by decide +kernel
theorem d_Mo_init_307 : decode b_Mo_init 307 = .ok (.putfield 133, 3) := by decide +kernel
theorem d_Mo_init_310 : decode b_Mo_init 310 = .ok (.aload_n 0, 1) := by decide +kernel
theorem d_Mo_init_311 : decode b_Mo_init 311 = .ok (.iconst (-1), 1) := by decide +kernel
theorem d_Mo_init_312 : decode b_Mo_init 312 = .ok (.putfield 136, 3) := by decide +kernel
theorem d_Mo_init_315 : decode b_Mo_init 315 = .ok (.aload_n 0, 1) := by decide +kernel
theorem d_Mo_init_316 : decode b_Mo_init 316 = .ok (.iconst (-1), 1) := by decide +kernel
theorem d_Mo_init_317 : decode b_Mo_init 317 = .ok (.putfield 139, 3) := by decide +kernel
theorem d_Mo_init_320 : decode b_Mo_init 320 = .ok (.aload_n 0, 1) := by decide +kernel
theorem d_Mo_init_321 : decode b_Mo_init 321 = .ok (.sipush 600, 3) := by decide +kernel
theorem d_Mo_init_324 : decode b_Mo_init 324 = .ok (.newarray .int, 2) := by decide +kernel
theorem d_Mo_init_326 : decode b_Mo_init 326 = .ok (.putfield 142, 3) := by decide +kernel
theorem d_Mo_init_329 : decode b_Mo_init 329 = .ok (.aload_n 0, 1) := by decide +kernel
theorem d_Mo_init_330 : decode b_Mo_init 330 = .ok (.sipush 600, 3) := by decide +kernel
theorem d_Mo_init_333 : decode b_Mo_init 333 = .ok (.newarray .int, 2) := by decide +kernel
theorem d_Mo_init_335 : decode b_Mo_init 335 = .ok (.putfield 145, 3) := by decide +kernel
theorem d_Mo_init_338 : decode b_Mo_init 338 = .ok (.aload_n 0, 1) := by decide +kernel
theorem d_Mo_init_339 : decode b_Mo_init 339 = .ok (.sipush 600, 3) := by decide +kernel
theorem d_Mo_init_342 : decode b_Mo_init 342 = .ok (.newarray .int, 2) := by decide +kernel
theorem d_Mo_init_344 : decode b_Mo_init 344 = .ok (.putfield 148, 3) := by decide +kernel
theorem d_Mo_init_347 : decode b_Mo_init 347 = .ok (.aload_n 0, 1) := by decide +kernel
theorem d_Mo_init_348 : decode b_Mo_init 348 = .ok (.sipush 600, 3) := by decide +kernel
theorem d_Mo_init_351 : decode b_Mo_init 351 = .ok (.newarray .int, 2) := by decide +kernel
theorem d_Mo_init_353 : decode b_Mo_init 353 = .ok (.putfield 151, 3) := by decide +kernel
theorem d_Mo_init_356 : decode b_Mo_init 356 = .ok (.aload_n 0, 1) := by decide +kernel
theorem d_Mo_init_357 : decode b_Mo_init 357 = .ok (.sipush 600, 3) := by decide +kernel
theorem d_Mo_init_360 : decode b_Mo_init 360 = .ok (.newarray .int, 2) := by decide +kernel
theorem d_Mo_init_362 : decode b_Mo_init 362 = .ok (.putfield 154, 3) := by decide +kernel
theorem d_Mo_init_365 : decode b_Mo_init 365 = .ok (.aload_n 0, 1) := by decide +kernel
theorem d_Mo_init_366 : decode b_Mo_init 366 = .ok (.sipush 600, 3) := by decide +kernel
theorem d_Mo_init_369 : decode b_Mo_init 369 = .ok (.newarray .boolean, 2) := by decide +kernel
theorem d_Mo_init_371 : decode b_Mo_init 371 = .ok (.putfield 157, 3) := by decide +kernel
theorem d_Mo_init_374 : decode b_Mo_init 374 = .ok (.aload_n 0, 1) := by decide +kernel
theorem d_Mo_init_375 : decode b_Mo_init 375 = .ok (.sipush 14400, 3) := by decide +kernel
theorem d_Mo_init_378 : decode b_Mo_init 378 = .ok (.newarray .int, 2) := by decide +kernel
theorem d_Mo_init_380 : decode b_Mo_init 380 = .ok (.putfield 160, 3) := by decide +kernel
theorem d_Mo_init_383 : decode b_Mo_init 383 = .ok (.aload_n 0, 1) := by decide +kernel
theorem d_Mo_init_384 : decode b_Mo_init 384 = .ok (.sipush 600, 3) := by decide +kernel
theorem d_Mo_init_387 : decode b_Mo_init 387 = .ok (.newarray .int, 2) := by decide +kernel
theorem d_Mo_init_389 : decode b_Mo_init 389 = .ok (.putfield 163, 3) := by decide +kernel
theorem d_Mo_init_392 : decode b_Mo_init 392 = .ok (.aload_n 0, 1) := by decide +kernel
theorem d_Mo_init_393 : decode b_Mo_init 393 = .ok (.iconst (-1), 1) := by decide +kernel
theorem d_Mo_init_394 : decode b_Mo_init 394 = .ok (.putfield 166, 3) := by decide +kernel
theorem d_Mo_init_397 : decode b_Mo_init 397 = .ok (.aload_n 0, 1) := by decide +kernel
theorem d_Mo_init_398 : decode b_Mo_init 398 = .ok (.bipush 8, 2) := by decide +kernel
theorem d_Mo_init_400 : decode b_Mo_init 400 = .ok (.newarray .int, 2) := by decide +kernel
theorem d_Mo_init_402 : decode b_Mo_init 402 = .ok (.putfield 169, 3) := by decide +kernel
theorem d_Mo_init_405 : decode b_Mo_init 405 = .ok (.aload_n 0, 1) := by decide +kernel
theorem d_Mo_init_406 : decode b_Mo_init 406 = .ok (.sipush 260, 3) := by decide +kernel
theorem d_Mo_init_409 : decode b_Mo_init 409 = .ok (.newarray .int, 2) := by decide +kernel
theorem d_Mo_init_411 : decode b_Mo_init 411 = .ok (.putfield 172, 3) := by decide +kernel
theorem d_Mo_init_414 : decode b_Mo_init 414 = .ok (.aload_n 0, 1) := by decide +kernel
theorem d_Mo_init_415 : decode b_Mo_init 415 = .ok (.iload_n 1, 1) := by decide +kernel
theorem d_Mo_init_416 : decode b_Mo_init 416 = .ok (.iconst 1, 1) := by decide +kernel
theorem d_Mo_init_417 : decode b_Mo_init 417 = .ok (.if_icmp .lt 13, 3) := by decide +kernel
theorem d_Mo_init_420 : decode b_Mo_init 420 = .ok (.iload_n 1, 1) := by decide +kernel
theorem d_Mo_init_421 : decode b_Mo_init 421 = .ok (.ldc 175, 2) := by decide +kernel
theorem d_Mo_init_423 : decode b_Mo_init 423 = .ok (.if_icmp .gt 7, 3) := by decide +kernel
theorem d_Mo_init_426 : decode b_Mo_init 426 = .ok (.iload_n 1, 1) := by decide +kernel
theorem d_Mo_init_427 : decode b_Mo_init 427 = .ok (.goto 4, 3) := by decide +kernel
theorem d_Mo_init_430 : decode b_Mo_init 430 = .ok (.iconst 1, 1) := by decide +kernel
theorem d_Mo_init_431 : decode b_Mo_init 431 = .ok (.putfield 176, 3) := by decide +kernel
theorem d_Mo_init_434 : decode b_Mo_init 434 = .ok (.return_, 1) := by decide +kernel
set_option maxRecDepth 100000 in
set_option maxHeartbeats 4000000 in
theorem c_Mo_init (l : Launch) (D : va_G) (ca : Nat → ClassId) (f0 : Nat → va_E) (sz : Nat) (h0 : Nat) (e0 : f0 h0 = .inr (11, [.int 0, .int 0, .int 0, .null, .null, .null, .null, .null, .null, .int 0, .long 0, .int 0, .long 0, .null, .null, .null, .null, .null, .null, .null, .null, .null, .null, .null, .null, .null, .null, .null, .null, .null, .null, .null, .null, .null, .null, .int 0, .int 0, .int 0, .int 0, .int 0, .int 0, .null, .int 0, .int 0, .int 0, .null, .null, .null, .null, .null, .null, .null, .null, .int 0, .int 0, .int 0, .int 0, .null, .null, .null, .null, .null, .null, .null, .null, .int 0, .int 0, .long 0, .null, .null, .int 0])) (x1 : Int32) :
    Met l y_Mo_init (Cond.code y_Mo_init b_Mo_init 2 none :: wg) { frames := 1, cells := 47, slots := 42945, locals := 21 } (va_Pc [.ref h0, .int x1] (sm_P D cl_all (ty_s ca) ek [h0] f0 sz)) (sm_Qv D (ty_s ca) [h0] f0 sz (fun u => ∃ (ad : Nat → Nat) (σ : mq_S), mq_B ca ad σ u.1 u.2 ∧ ad 71 = h0 ∧ IH σ ∧ BIa σ ∧ SI σ ∧ σ.1 56 = nI 0 ∧ σ.1 2 = nI 0)) 47 42945 (va_A (va_pl [h0] f0) sz) := by
  refine sm_start (by decide) (Nat.le_of_ble_eq_true rfl) ?_
  intro p e s m below meth c ls hx hb hml hr hlk hnm hts hown hsz hE hI hl
  have hl : lv_has ls 2 [(0, .ref h0), (1, .int (x1))] := hl
  have hz : mz_ok ca [h0] f0 h0 [] := ⟨List.mem_cons_self, (fun p hp => by cases hp), (fun p hp => by cases hp)⟩
  refine lv_aload_n hx hb d_Mo_init_0 rfl (lv_at hl 0 rfl) ?_
  refine ob_init hx hb hown (hts _ tw_1167) (hts _ tw_26) (hts _ tw_27) (by rw [hml]; exact hl.1) d_Mo_init_1 (Nat.le_of_ble_eq_true rfl) (Nat.le_of_ble_eq_true rfl) ?_
  refine lv_aload_n hx hb d_Mo_init_4 rfl (lv_at hl 0 rfl) ?_
  refine lv_bipush (v := 32) hx hb d_Mo_init_5 (by decide) ?_
  refine ra_newa (atype := .int) (ty := .int) (N' := 32) (a0 := (32, .inl (fun _ => 0))) hx hb (hts _ tw_57) rfl hI 0 rfl (fun _ => rfl) (by decide) (by decide) (by decide) (Nat.le_of_ble_eq_true rfl) (Nat.le_of_ble_eq_true rfl) d_Mo_init_7 (fun q_1 H f hq_2 hI e_4 hk_3 => ?_)
  have e0 := mz_keep hz hq_2 hk_3 e0
  have hz := mz_new (k := 3) hz hq_2 hk_3 e_4
  refine ra_putF (ci := 11) (C := R_Mo) (T := F_Mo) (N := 71) (ty := (.array .int)) hx hb hts in_Mo t_Mo t_Mo_ok n_Mo hown hI hz.1 e0 rfl 3 (by decide) (hts _ tw_1172) (fun _ h9 => h9) rfl hnm rfl (by decide +kernel) rfl rfl (Nat.le_of_ble_eq_true rfl) d_Mo_init_9 (fun H locs f hI e0 hk_5 => ?_)
  have e0 : f h0 = .inr (11, [.int 0, .int 0, .int 0, .ref q_1, .null, .null, .null, .null, .null, .int 0, .long 0, .int 0, .long 0, .null, .null, .null, .null, .null, .null, .null, .null, .null, .null, .null, .null, .null, .null, .null, .null, .null, .null, .null, .null, .null, .null, .int 0, .int 0, .int 0, .int 0, .int 0, .int 0, .null, .int 0, .int 0, .int 0, .null, .null, .null, .null, .null, .null, .null, .null, .int 0, .int 0, .int 0, .int 0, .null, .null, .null, .null, .null, .null, .null, .null, .int 0, .int 0, .long 0, .null, .null, .int 0]) := e0
  have hz := mz_put hz hk_5
  refine lv_aload_n hx hb d_Mo_init_12 rfl (lv_at hl 0 rfl) ?_
  refine lv_bipush (v := 32) hx hb d_Mo_init_13 (by decide) ?_
  refine ra_newa (atype := .int) (ty := .int) (N' := 32) (a0 := (32, .inl (fun _ => 0))) hx hb (hts _ tw_57) rfl hI 0 rfl (fun _ => rfl) (by decide) (by decide) (by decide) (Nat.le_of_ble_eq_true rfl) (Nat.le_of_ble_eq_true rfl) d_Mo_init_15 (fun q_6 H f hq_7 hI e_9 hk_8 => ?_)
  have e0 := mz_keep hz hq_7 hk_8 e0
  have hz := mz_new (k := 4) hz hq_7 hk_8 e_9
  refine ra_putF (ci := 11) (C := R_Mo) (T := F_Mo) (N := 71) (ty := (.array .int)) hx hb hts in_Mo t_Mo t_Mo_ok n_Mo hown hI hz.1 e0 rfl 4 (by decide) (hts _ tw_1173) (fun _ h9 => h9) rfl hnm rfl (by decide +kernel) rfl rfl (Nat.le_of_ble_eq_true rfl) d_Mo_init_17 (fun H locs f hI e0 hk_10 => ?_)
  have e0 : f h0 = .inr (11, [.int 0, .int 0, .int 0, .ref q_1, .ref q_6, .null, .null, .null, .null, .int 0, .long 0, .int 0, .long 0, .null, .null, .null, .null, .null, .null, .null, .null, .null, .null, .null, .null, .null, .null, .null, .null, .null, .null, .null, .null, .null, .null, .int 0, .int 0, .int 0, .int 0, .int 0, .int 0, .null, .int 0, .int 0, .int 0, .null, .null, .null, .null, .null, .null, .null, .null, .int 0, .int 0, .int 0, .int 0, .null, .null, .null, .null, .null, .null, .null, .null, .int 0, .int 0, .long 0, .null, .null, .int 0]) := e0
  have hz := mz_put hz hk_10
  refine lv_aload_n hx hb d_Mo_init_20 rfl (lv_at hl 0 rfl) ?_
  refine lv_bipush (v := 32) hx hb d_Mo_init_21 (by decide) ?_
  refine ra_newa (atype := .int) (ty := .int) (N' := 32) (a0 := (32, .inl (fun _ => 0))) hx hb (hts _ tw_57) rfl hI 0 rfl (fun _ => rfl) (by decide) (by decide) (by decide) (Nat.le_of_ble_eq_true rfl) (Nat.le_of_ble_eq_true rfl) d_Mo_init_23 (fun q_11 H f hq_12 hI e_14 hk_13 => ?_)
  have e0 := mz_keep hz hq_12 hk_13 e0
  have hz := mz_new (k := 5) hz hq_12 hk_13 e_14
  refine ra_putF (ci := 11) (C := R_Mo) (T := F_Mo) (N := 71) (ty := (.array .int)) hx hb hts in_Mo t_Mo t_Mo_ok n_Mo hown hI hz.1 e0 rfl 5 (by decide) (hts _ tw_1174) (fun _ h9 => h9) rfl hnm rfl (by decide +kernel) rfl rfl (Nat.le_of_ble_eq_true rfl) d_Mo_init_25 (fun H locs f hI e0 hk_15 => ?_)
  have e0 : f h0 = .inr (11, [.int 0, .int 0, .int 0, .ref q_1, .ref q_6, .ref q_11, .null, .null, .null, .int 0, .long 0, .int 0, .long 0, .null, .null, .null, .null, .null, .null, .null, .null, .null, .null, .null, .null, .null, .null, .null, .null, .null, .null, .null, .null, .null, .null, .int 0, .int 0, .int 0, .int 0, .int 0, .int 0, .null, .int 0, .int 0, .int 0, .null, .null, .null, .null, .null, .null, .null, .null, .int 0, .int 0, .int 0, .int 0, .null, .null, .null, .null, .null, .null, .null, .null, .int 0, .int 0, .long 0, .null, .null, .int 0]) := e0
  have hz := mz_put hz hk_15
  refine lv_aload_n hx hb d_Mo_init_28 rfl (lv_at hl 0 rfl) ?_
  refine lv_bipush (v := 32) hx hb d_Mo_init_29 (by decide) ?_
  refine ra_newa (atype := .boolean) (ty := .boolean) (N' := 32) (a0 := (32, .inl (fun _ => 0))) hx hb (hts _ tw_1383) rfl hI 2 rfl (fun _ => rfl) (by decide) (by decide) (by decide) (Nat.le_of_ble_eq_true rfl) (Nat.le_of_ble_eq_true rfl) d_Mo_init_31 (fun q_16 H f hq_17 hI e_19 hk_18 => ?_)
  have e0 := mz_keep hz hq_17 hk_18 e0
  have hz := mz_new (k := 6) hz hq_17 hk_18 e_19
  refine ra_putF (ci := 11) (C := R_Mo) (T := F_Mo) (N := 71) (ty := (.array .boolean)) hx hb hts in_Mo t_Mo t_Mo_ok n_Mo hown hI hz.1 e0 rfl 6 (by decide) (hts _ tw_1175) (fun _ h9 => h9) rfl hnm rfl (by decide +kernel) rfl rfl (Nat.le_of_ble_eq_true rfl) d_Mo_init_33 (fun H locs f hI e0 hk_20 => ?_)
  have e0 : f h0 = .inr (11, [.int 0, .int 0, .int 0, .ref q_1, .ref q_6, .ref q_11, .ref q_16, .null, .null, .int 0, .long 0, .int 0, .long 0, .null, .null, .null, .null, .null, .null, .null, .null, .null, .null, .null, .null, .null, .null, .null, .null, .null, .null, .null, .null, .null, .null, .int 0, .int 0, .int 0, .int 0, .int 0, .int 0, .null, .int 0, .int 0, .int 0, .null, .null, .null, .null, .null, .null, .null, .null, .int 0, .int 0, .int 0, .int 0, .null, .null, .null, .null, .null, .null, .null, .null, .int 0, .int 0, .long 0, .null, .null, .int 0]) := e0
  have hz := mz_put hz hk_20
  refine lv_aload_n hx hb d_Mo_init_36 rfl (lv_at hl 0 rfl) ?_
  refine lv_bipush (v := 32) hx hb d_Mo_init_37 (by decide) ?_
  refine ra_newa (atype := .int) (ty := .int) (N' := 32) (a0 := (32, .inl (fun _ => 0))) hx hb (hts _ tw_57) rfl hI 0 rfl (fun _ => rfl) (by decide) (by decide) (by decide) (Nat.le_of_ble_eq_true rfl) (Nat.le_of_ble_eq_true rfl) d_Mo_init_39 (fun q_21 H f hq_22 hI e_24 hk_23 => ?_)
  have e0 := mz_keep hz hq_22 hk_23 e0
  have hz := mz_new (k := 7) hz hq_22 hk_23 e_24
  refine ra_putF (ci := 11) (C := R_Mo) (T := F_Mo) (N := 71) (ty := (.array .int)) hx hb hts in_Mo t_Mo t_Mo_ok n_Mo hown hI hz.1 e0 rfl 7 (by decide) (hts _ tw_1176) (fun _ h9 => h9) rfl hnm rfl (by decide +kernel) rfl rfl (Nat.le_of_ble_eq_true rfl) d_Mo_init_41 (fun H locs f hI e0 hk_25 => ?_)
  have e0 : f h0 = .inr (11, [.int 0, .int 0, .int 0, .ref q_1, .ref q_6, .ref q_11, .ref q_16, .ref q_21, .null, .int 0, .long 0, .int 0, .long 0, .null, .null, .null, .null, .null, .null, .null, .null, .null, .null, .null, .null, .null, .null, .null, .null, .null, .null, .null, .null, .null, .null, .int 0, .int 0, .int 0, .int 0, .int 0, .int 0, .null, .int 0, .int 0, .int 0, .null, .null, .null, .null, .null, .null, .null, .null, .int 0, .int 0, .int 0, .int 0, .null, .null, .null, .null, .null, .null, .null, .null, .int 0, .int 0, .long 0, .null, .null, .int 0]) := e0
  have hz := mz_put hz hk_25
  refine lv_aload_n hx hb d_Mo_init_44 rfl (lv_at hl 0 rfl) ?_
  refine lv_bipush (v := 32) hx hb d_Mo_init_45 (by decide) ?_
  refine ra_newa (atype := .int) (ty := .int) (N' := 32) (a0 := (32, .inl (fun _ => 0))) hx hb (hts _ tw_57) rfl hI 0 rfl (fun _ => rfl) (by decide) (by decide) (by decide) (Nat.le_of_ble_eq_true rfl) (Nat.le_of_ble_eq_true rfl) d_Mo_init_47 (fun q_26 H f hq_27 hI e_29 hk_28 => ?_)
  have e0 := mz_keep hz hq_27 hk_28 e0
  have hz := mz_new (k := 8) hz hq_27 hk_28 e_29
  refine ra_putF (ci := 11) (C := R_Mo) (T := F_Mo) (N := 71) (ty := (.array .int)) hx hb hts in_Mo t_Mo t_Mo_ok n_Mo hown hI hz.1 e0 rfl 8 (by decide) (hts _ tw_1177) (fun _ h9 => h9) rfl hnm rfl (by decide +kernel) rfl rfl (Nat.le_of_ble_eq_true rfl) d_Mo_init_49 (fun H locs f hI e0 hk_30 => ?_)
  have e0 : f h0 = .inr (11, [.int 0, .int 0, .int 0, .ref q_1, .ref q_6, .ref q_11, .ref q_16, .ref q_21, .ref q_26, .int 0, .long 0, .int 0, .long 0, .null, .null, .null, .null, .null, .null, .null, .null, .null, .null, .null, .null, .null, .null, .null, .null, .null, .null, .null, .null, .null, .null, .int 0, .int 0, .int 0, .int 0, .int 0, .int 0, .null, .int 0, .int 0, .int 0, .null, .null, .null, .null, .null, .null, .null, .null, .int 0, .int 0, .int 0, .int 0, .null, .null, .null, .null, .null, .null, .null, .null, .int 0, .int 0, .long 0, .null, .null, .int 0]) := e0
  have hz := mz_put hz hk_30
  refine lv_aload_n hx hb d_Mo_init_52 rfl (lv_at hl 0 rfl) ?_
  refine lv_iconst (v := 4) hx hb d_Mo_init_53 (by decide) ?_
  refine ra_newa (atype := .int) (ty := .int) (N' := 4) (a0 := (4, .inl (fun _ => 0))) hx hb (hts _ tw_57) rfl hI 0 rfl (fun _ => rfl) (by decide) (by decide) (by decide) (Nat.le_of_ble_eq_true rfl) (Nat.le_of_ble_eq_true rfl) d_Mo_init_54 (fun q_31 H f hq_32 hI e_34 hk_33 => ?_)
  have e0 := mz_keep hz hq_32 hk_33 e0
  have hz := mz_new (k := 13) hz hq_32 hk_33 e_34
  refine ra_putF (ci := 11) (C := R_Mo) (T := F_Mo) (N := 71) (ty := (.array .int)) hx hb hts in_Mo t_Mo t_Mo_ok n_Mo hown hI hz.1 e0 rfl 13 (by decide) (hts _ tw_1182) (fun _ h9 => h9) rfl hnm rfl (by decide +kernel) rfl rfl (Nat.le_of_ble_eq_true rfl) d_Mo_init_56 (fun H locs f hI e0 hk_35 => ?_)
  have e0 : f h0 = .inr (11, [.int 0, .int 0, .int 0, .ref q_1, .ref q_6, .ref q_11, .ref q_16, .ref q_21, .ref q_26, .int 0, .long 0, .int 0, .long 0, .ref q_31, .null, .null, .null, .null, .null, .null, .null, .null, .null, .null, .null, .null, .null, .null, .null, .null, .null, .null, .null, .null, .null, .int 0, .int 0, .int 0, .int 0, .int 0, .int 0, .null, .int 0, .int 0, .int 0, .null, .null, .null, .null, .null, .null, .null, .null, .int 0, .int 0, .int 0, .int 0, .null, .null, .null, .null, .null, .null, .null, .null, .int 0, .int 0, .long 0, .null, .null, .int 0]) := e0
  have hz := mz_put hz hk_35
  refine lv_aload_n hx hb d_Mo_init_59 rfl (lv_at hl 0 rfl) ?_
  refine lv_iconst (v := 4) hx hb d_Mo_init_60 (by decide) ?_
  refine ra_newa (atype := .int) (ty := .int) (N' := 4) (a0 := (4, .inl (fun _ => 0))) hx hb (hts _ tw_57) rfl hI 0 rfl (fun _ => rfl) (by decide) (by decide) (by decide) (Nat.le_of_ble_eq_true rfl) (Nat.le_of_ble_eq_true rfl) d_Mo_init_61 (fun q_36 H f hq_37 hI e_39 hk_38 => ?_)
  have e0 := mz_keep hz hq_37 hk_38 e0
  have hz := mz_new (k := 14) hz hq_37 hk_38 e_39
  refine ra_putF (ci := 11) (C := R_Mo) (T := F_Mo) (N := 71) (ty := (.array .int)) hx hb hts in_Mo t_Mo t_Mo_ok n_Mo hown hI hz.1 e0 rfl 14 (by decide) (hts _ tw_1183) (fun _ h9 => h9) rfl hnm rfl (by decide +kernel) rfl rfl (Nat.le_of_ble_eq_true rfl) d_Mo_init_63 (fun H locs f hI e0 hk_40 => ?_)
  have e0 : f h0 = .inr (11, [.int 0, .int 0, .int 0, .ref q_1, .ref q_6, .ref q_11, .ref q_16, .ref q_21, .ref q_26, .int 0, .long 0, .int 0, .long 0, .ref q_31, .ref q_36, .null, .null, .null, .null, .null, .null, .null, .null, .null, .null, .null, .null, .null, .null, .null, .null, .null, .null, .null, .null, .int 0, .int 0, .int 0, .int 0, .int 0, .int 0, .null, .int 0, .int 0, .int 0, .null, .null, .null, .null, .null, .null, .null, .null, .int 0, .int 0, .int 0, .int 0, .null, .null, .null, .null, .null, .null, .null, .null, .int 0, .int 0, .long 0, .null, .null, .int 0]) := e0
  have hz := mz_put hz hk_40
  refine lv_aload_n hx hb d_Mo_init_66 rfl (lv_at hl 0 rfl) ?_
  refine lv_sipush (v := 5200) hx hb d_Mo_init_67 (by decide) ?_
  refine ra_newa (atype := .int) (ty := .int) (N' := 5200) (a0 := (5200, .inl (fun _ => 0))) hx hb (hts _ tw_57) rfl hI 0 rfl (fun _ => rfl) (by decide) (by decide) (by decide) (Nat.le_of_ble_eq_true rfl) (Nat.le_of_ble_eq_true rfl) d_Mo_init_70 (fun q_41 H f hq_42 hI e_44 hk_43 => ?_)
  have e0 := mz_keep hz hq_42 hk_43 e0
  have hz := mz_new (k := 15) hz hq_42 hk_43 e_44
  refine ra_putF (ci := 11) (C := R_Mo) (T := F_Mo) (N := 71) (ty := (.array .int)) hx hb hts in_Mo t_Mo t_Mo_ok n_Mo hown hI hz.1 e0 rfl 15 (by decide) (hts _ tw_1184) (fun _ h9 => h9) rfl hnm rfl (by decide +kernel) rfl rfl (Nat.le_of_ble_eq_true rfl) d_Mo_init_72 (fun H locs f hI e0 hk_45 => ?_)
  have e0 : f h0 = .inr (11, [.int 0, .int 0, .int 0, .ref q_1, .ref q_6, .ref q_11, .ref q_16, .ref q_21, .ref q_26, .int 0, .long 0, .int 0, .long 0, .ref q_31, .ref q_36, .ref q_41, .null, .null, .null, .null, .null, .null, .null, .null, .null, .null, .null, .null, .null, .null, .null, .null, .null, .null, .null, .int 0, .int 0, .int 0, .int 0, .int 0, .int 0, .null, .int 0, .int 0, .int 0, .null, .null, .null, .null, .null, .null, .null, .null, .int 0, .int 0, .int 0, .int 0, .null, .null, .null, .null, .null, .null, .null, .null, .int 0, .int 0, .long 0, .null, .null, .int 0]) := e0
  have hz := mz_put hz hk_45
  refine lv_aload_n hx hb d_Mo_init_75 rfl (lv_at hl 0 rfl) ?_
  refine lv_iconst (v := 4) hx hb d_Mo_init_76 (by decide) ?_
  refine ra_newa (atype := .int) (ty := .int) (N' := 4) (a0 := (4, .inl (fun _ => 0))) hx hb (hts _ tw_57) rfl hI 0 rfl (fun _ => rfl) (by decide) (by decide) (by decide) (Nat.le_of_ble_eq_true rfl) (Nat.le_of_ble_eq_true rfl) d_Mo_init_77 (fun q_46 H f hq_47 hI e_49 hk_48 => ?_)
  have e0 := mz_keep hz hq_47 hk_48 e0
  have hz := mz_new (k := 16) hz hq_47 hk_48 e_49
  refine ra_putF (ci := 11) (C := R_Mo) (T := F_Mo) (N := 71) (ty := (.array .int)) hx hb hts in_Mo t_Mo t_Mo_ok n_Mo hown hI hz.1 e0 rfl 16 (by decide) (hts _ tw_1185) (fun _ h9 => h9) rfl hnm rfl (by decide +kernel) rfl rfl (Nat.le_of_ble_eq_true rfl) d_Mo_init_79 (fun H locs f hI e0 hk_50 => ?_)
  have e0 : f h0 = .inr (11, [.int 0, .int 0, .int 0, .ref q_1, .ref q_6, .ref q_11, .ref q_16, .ref q_21, .ref q_26, .int 0, .long 0, .int 0, .long 0, .ref q_31, .ref q_36, .ref q_41, .ref q_46, .null, .null, .null, .null, .null, .null, .null, .null, .null, .null, .null, .null, .null, .null, .null, .null, .null, .null, .int 0, .int 0, .int 0, .int 0, .int 0, .int 0, .null, .int 0, .int 0, .int 0, .null, .null, .null, .null, .null, .null, .null, .null, .int 0, .int 0, .int 0, .int 0, .null, .null, .null, .null, .null, .null, .null, .null, .int 0, .int 0, .long 0, .null, .null, .int 0]) := e0
  have hz := mz_put hz hk_50
  refine lv_aload_n hx hb d_Mo_init_82 rfl (lv_at hl 0 rfl) ?_
  refine lv_sipush (v := 1080) hx hb d_Mo_init_83 (by decide) ?_
  refine ra_newa (atype := .int) (ty := .int) (N' := 1080) (a0 := (1080, .inl (fun _ => 0))) hx hb (hts _ tw_57) rfl hI 0 rfl (fun _ => rfl) (by decide) (by decide) (by decide) (Nat.le_of_ble_eq_true rfl) (Nat.le_of_ble_eq_true rfl) d_Mo_init_86 (fun q_51 H f hq_52 hI e_54 hk_53 => ?_)
  have e0 := mz_keep hz hq_52 hk_53 e0
  have hz := mz_new (k := 17) hz hq_52 hk_53 e_54
  refine ra_putF (ci := 11) (C := R_Mo) (T := F_Mo) (N := 71) (ty := (.array .int)) hx hb hts in_Mo t_Mo t_Mo_ok n_Mo hown hI hz.1 e0 rfl 17 (by decide) (hts _ tw_1186) (fun _ h9 => h9) rfl hnm rfl (by decide +kernel) rfl rfl (Nat.le_of_ble_eq_true rfl) d_Mo_init_88 (fun H locs f hI e0 hk_55 => ?_)
  have e0 : f h0 = .inr (11, [.int 0, .int 0, .int 0, .ref q_1, .ref q_6, .ref q_11, .ref q_16, .ref q_21, .ref q_26, .int 0, .long 0, .int 0, .long 0, .ref q_31, .ref q_36, .ref q_41, .ref q_46, .ref q_51, .null, .null, .null, .null, .null, .null, .null, .null, .null, .null, .null, .null, .null, .null, .null, .null, .null, .int 0, .int 0, .int 0, .int 0, .int 0, .int 0, .null, .int 0, .int 0, .int 0, .null, .null, .null, .null, .null, .null, .null, .null, .int 0, .int 0, .int 0, .int 0, .null, .null, .null, .null, .null, .null, .null, .null, .int 0, .int 0, .long 0, .null, .null, .int 0]) := e0
  have hz := mz_put hz hk_55
  refine lv_aload_n hx hb d_Mo_init_91 rfl (lv_at hl 0 rfl) ?_
  refine lv_iconst (v := 4) hx hb d_Mo_init_92 (by decide) ?_
  refine ra_newa (atype := .int) (ty := .int) (N' := 4) (a0 := (4, .inl (fun _ => 0))) hx hb (hts _ tw_57) rfl hI 0 rfl (fun _ => rfl) (by decide) (by decide) (by decide) (Nat.le_of_ble_eq_true rfl) (Nat.le_of_ble_eq_true rfl) d_Mo_init_93 (fun q_56 H f hq_57 hI e_59 hk_58 => ?_)
  have e0 := mz_keep hz hq_57 hk_58 e0
  have hz := mz_new (k := 18) hz hq_57 hk_58 e_59
  refine ra_putF (ci := 11) (C := R_Mo) (T := F_Mo) (N := 71) (ty := (.array .int)) hx hb hts in_Mo t_Mo t_Mo_ok n_Mo hown hI hz.1 e0 rfl 18 (by decide) (hts _ tw_1187) (fun _ h9 => h9) rfl hnm rfl (by decide +kernel) rfl rfl (Nat.le_of_ble_eq_true rfl) d_Mo_init_95 (fun H locs f hI e0 hk_60 => ?_)
  have e0 : f h0 = .inr (11, [.int 0, .int 0, .int 0, .ref q_1, .ref q_6, .ref q_11, .ref q_16, .ref q_21, .ref q_26, .int 0, .long 0, .int 0, .long 0, .ref q_31, .ref q_36, .ref q_41, .ref q_46, .ref q_51, .ref q_56, .null, .null, .null, .null, .null, .null, .null, .null, .null, .null, .null, .null, .null, .null, .null, .null, .int 0, .int 0, .int 0, .int 0, .int 0, .int 0, .null, .int 0, .int 0, .int 0, .null, .null, .null, .null, .null, .null, .null, .null, .int 0, .int 0, .int 0, .int 0, .null, .null, .null, .null, .null, .null, .null, .null, .int 0, .int 0, .long 0, .null, .null, .int 0]) := e0
  have hz := mz_put hz hk_60
  refine lv_aload_n hx hb d_Mo_init_98 rfl (lv_at hl 0 rfl) ?_
  refine lv_iconst (v := 3) hx hb d_Mo_init_99 (by decide) ?_
  refine ra_newa (atype := .int) (ty := .int) (N' := 3) (a0 := (3, .inl (fun _ => 0))) hx hb (hts _ tw_57) rfl hI 0 rfl (fun _ => rfl) (by decide) (by decide) (by decide) (Nat.le_of_ble_eq_true rfl) (Nat.le_of_ble_eq_true rfl) d_Mo_init_100 (fun q_61 H f hq_62 hI e_64 hk_63 => ?_)
  have e0 := mz_keep hz hq_62 hk_63 e0
  have hz := mz_new (k := 19) hz hq_62 hk_63 e_64
  refine ra_putF (ci := 11) (C := R_Mo) (T := F_Mo) (N := 71) (ty := (.array .int)) hx hb hts in_Mo t_Mo t_Mo_ok n_Mo hown hI hz.1 e0 rfl 19 (by decide) (hts _ tw_1188) (fun _ h9 => h9) rfl hnm rfl (by decide +kernel) rfl rfl (Nat.le_of_ble_eq_true rfl) d_Mo_init_102 (fun H locs f hI e0 hk_65 => ?_)
  have e0 : f h0 = .inr (11, [.int 0, .int 0, .int 0, .ref q_1, .ref q_6, .ref q_11, .ref q_16, .ref q_21, .ref q_26, .int 0, .long 0, .int 0, .long 0, .ref q_31, .ref q_36, .ref q_41, .ref q_46, .ref q_51, .ref q_56, .ref q_61, .null, .null, .null, .null, .null, .null, .null, .null, .null, .null, .null, .null, .null, .null, .null, .int 0, .int 0, .int 0, .int 0, .int 0, .int 0, .null, .int 0, .int 0, .int 0, .null, .null, .null, .null, .null, .null, .null, .null, .int 0, .int 0, .int 0, .int 0, .null, .null, .null, .null, .null, .null, .null, .null, .int 0, .int 0, .long 0, .null, .null, .int 0]) := e0
  have hz := mz_put hz hk_65
  refine lv_aload_n hx hb d_Mo_init_105 rfl (lv_at hl 0 rfl) ?_
  refine lv_iconst (v := 3) hx hb d_Mo_init_106 (by decide) ?_
  refine ra_newa (atype := .int) (ty := .int) (N' := 3) (a0 := (3, .inl (fun _ => 0))) hx hb (hts _ tw_57) rfl hI 0 rfl (fun _ => rfl) (by decide) (by decide) (by decide) (Nat.le_of_ble_eq_true rfl) (Nat.le_of_ble_eq_true rfl) d_Mo_init_107 (fun q_66 H f hq_67 hI e_69 hk_68 => ?_)
  have e0 := mz_keep hz hq_67 hk_68 e0
  have hz := mz_new (k := 20) hz hq_67 hk_68 e_69
  refine ra_putF (ci := 11) (C := R_Mo) (T := F_Mo) (N := 71) (ty := (.array .int)) hx hb hts in_Mo t_Mo t_Mo_ok n_Mo hown hI hz.1 e0 rfl 20 (by decide) (hts _ tw_1189) (fun _ h9 => h9) rfl hnm rfl (by decide +kernel) rfl rfl (Nat.le_of_ble_eq_true rfl) d_Mo_init_109 (fun H locs f hI e0 hk_70 => ?_)
  have e0 : f h0 = .inr (11, [.int 0, .int 0, .int 0, .ref q_1, .ref q_6, .ref q_11, .ref q_16, .ref q_21, .ref q_26, .int 0, .long 0, .int 0, .long 0, .ref q_31, .ref q_36, .ref q_41, .ref q_46, .ref q_51, .ref q_56, .ref q_61, .ref q_66, .null, .null, .null, .null, .null, .null, .null, .null, .null, .null, .null, .null, .null, .null, .int 0, .int 0, .int 0, .int 0, .int 0, .int 0, .null, .int 0, .int 0, .int 0, .null, .null, .null, .null, .null, .null, .null, .null, .int 0, .int 0, .int 0, .int 0, .null, .null, .null, .null, .null, .null, .null, .null, .int 0, .int 0, .long 0, .null, .null, .int 0]) := e0
  have hz := mz_put hz hk_70
  refine lv_aload_n hx hb d_Mo_init_112 rfl (lv_at hl 0 rfl) ?_
  refine lv_iconst (v := 3) hx hb d_Mo_init_113 (by decide) ?_
  refine ra_newa (atype := .int) (ty := .int) (N' := 3) (a0 := (3, .inl (fun _ => 0))) hx hb (hts _ tw_57) rfl hI 0 rfl (fun _ => rfl) (by decide) (by decide) (by decide) (Nat.le_of_ble_eq_true rfl) (Nat.le_of_ble_eq_true rfl) d_Mo_init_114 (fun q_71 H f hq_72 hI e_74 hk_73 => ?_)
  have e0 := mz_keep hz hq_72 hk_73 e0
  have hz := mz_new (k := 21) hz hq_72 hk_73 e_74
  refine ra_putF (ci := 11) (C := R_Mo) (T := F_Mo) (N := 71) (ty := (.array .int)) hx hb hts in_Mo t_Mo t_Mo_ok n_Mo hown hI hz.1 e0 rfl 21 (by decide) (hts _ tw_1190) (fun _ h9 => h9) rfl hnm rfl (by decide +kernel) rfl rfl (Nat.le_of_ble_eq_true rfl) d_Mo_init_116 (fun H locs f hI e0 hk_75 => ?_)
  have e0 : f h0 = .inr (11, [.int 0, .int 0, .int 0, .ref q_1, .ref q_6, .ref q_11, .ref q_16, .ref q_21, .ref q_26, .int 0, .long 0, .int 0, .long 0, .ref q_31, .ref q_36, .ref q_41, .ref q_46, .ref q_51, .ref q_56, .ref q_61, .ref q_66, .ref q_71, .null, .null, .null, .null, .null, .null, .null, .null, .null, .null, .null, .null, .null, .int 0, .int 0, .int 0, .int 0, .int 0, .int 0, .null, .int 0, .int 0, .int 0, .null, .null, .null, .null, .null, .null, .null, .null, .int 0, .int 0, .int 0, .int 0, .null, .null, .null, .null, .null, .null, .null, .null, .int 0, .int 0, .long 0, .null, .null, .int 0]) := e0
  have hz := mz_put hz hk_75
  refine lv_aload_n hx hb d_Mo_init_119 rfl (lv_at hl 0 rfl) ?_
  refine lv_iconst (v := 3) hx hb d_Mo_init_120 (by decide) ?_
  refine ra_newa (atype := .int) (ty := .int) (N' := 3) (a0 := (3, .inl (fun _ => 0))) hx hb (hts _ tw_57) rfl hI 0 rfl (fun _ => rfl) (by decide) (by decide) (by decide) (Nat.le_of_ble_eq_true rfl) (Nat.le_of_ble_eq_true rfl) d_Mo_init_121 (fun q_76 H f hq_77 hI e_79 hk_78 => ?_)
  have e0 := mz_keep hz hq_77 hk_78 e0
  have hz := mz_new (k := 22) hz hq_77 hk_78 e_79
  refine ra_putF (ci := 11) (C := R_Mo) (T := F_Mo) (N := 71) (ty := (.array .int)) hx hb hts in_Mo t_Mo t_Mo_ok n_Mo hown hI hz.1 e0 rfl 22 (by decide) (hts _ tw_1191) (fun _ h9 => h9) rfl hnm rfl (by decide +kernel) rfl rfl (Nat.le_of_ble_eq_true rfl) d_Mo_init_123 (fun H locs f hI e0 hk_80 => ?_)
  have e0 : f h0 = .inr (11, [.int 0, .int 0, .int 0, .ref q_1, .ref q_6, .ref q_11, .ref q_16, .ref q_21, .ref q_26, .int 0, .long 0, .int 0, .long 0, .ref q_31, .ref q_36, .ref q_41, .ref q_46, .ref q_51, .ref q_56, .ref q_61, .ref q_66, .ref q_71, .ref q_76, .null, .null, .null, .null, .null, .null, .null, .null, .null, .null, .null, .null, .int 0, .int 0, .int 0, .int 0, .int 0, .int 0, .null, .int 0, .int 0, .int 0, .null, .null, .null, .null, .null, .null, .null, .null, .int 0, .int 0, .int 0, .int 0, .null, .null, .null, .null, .null, .null, .null, .null, .int 0, .int 0, .long 0, .null, .null, .int 0]) := e0
  have hz := mz_put hz hk_80
  refine lv_aload_n hx hb d_Mo_init_126 rfl (lv_at hl 0 rfl) ?_
  refine lv_bipush (v := 36) hx hb d_Mo_init_127 (by decide) ?_
  refine ra_newa (atype := .long) (ty := .long) (N' := 36) (a0 := (36, .inr (.inl (fun _ => 0)))) hx hb (hts _ tw_327) rfl hI 1 rfl (fun _ => rfl) (by decide) (by decide) (by decide) (Nat.le_of_ble_eq_true rfl) (Nat.le_of_ble_eq_true rfl) d_Mo_init_129 (fun q_81 H f hq_82 hI e_84 hk_83 => ?_)
  have e0 := mz_keep hz hq_82 hk_83 e0
  have hz := mz_new (k := 23) hz hq_82 hk_83 e_84
  refine ra_putF (ci := 11) (C := R_Mo) (T := F_Mo) (N := 71) (ty := (.array .long)) hx hb hts in_Mo t_Mo t_Mo_ok n_Mo hown hI hz.1 e0 rfl 23 (by decide) (hts _ tw_1192) (fun _ h9 => h9) rfl hnm rfl (by decide +kernel) rfl rfl (Nat.le_of_ble_eq_true rfl) d_Mo_init_131 (fun H locs f hI e0 hk_85 => ?_)
  have e0 : f h0 = .inr (11, [.int 0, .int 0, .int 0, .ref q_1, .ref q_6, .ref q_11, .ref q_16, .ref q_21, .ref q_26, .int 0, .long 0, .int 0, .long 0, .ref q_31, .ref q_36, .ref q_41, .ref q_46, .ref q_51, .ref q_56, .ref q_61, .ref q_66, .ref q_71, .ref q_76, .ref q_81, .null, .null, .null, .null, .null, .null, .null, .null, .null, .null, .null, .int 0, .int 0, .int 0, .int 0, .int 0, .int 0, .null, .int 0, .int 0, .int 0, .null, .null, .null, .null, .null, .null, .null, .null, .int 0, .int 0, .int 0, .int 0, .null, .null, .null, .null, .null, .null, .null, .null, .int 0, .int 0, .long 0, .null, .null, .int 0]) := e0
  have hz := mz_put hz hk_85
  refine lv_aload_n hx hb d_Mo_init_134 rfl (lv_at hl 0 rfl) ?_
  refine lv_bipush (v := 36) hx hb d_Mo_init_135 (by decide) ?_
  refine ra_newa (atype := .int) (ty := .int) (N' := 36) (a0 := (36, .inl (fun _ => 0))) hx hb (hts _ tw_57) rfl hI 0 rfl (fun _ => rfl) (by decide) (by decide) (by decide) (Nat.le_of_ble_eq_true rfl) (Nat.le_of_ble_eq_true rfl) d_Mo_init_137 (fun q_86 H f hq_87 hI e_89 hk_88 => ?_)
  have e0 := mz_keep hz hq_87 hk_88 e0
  have hz := mz_new (k := 24) hz hq_87 hk_88 e_89
  refine ra_putF (ci := 11) (C := R_Mo) (T := F_Mo) (N := 71) (ty := (.array .int)) hx hb hts in_Mo t_Mo t_Mo_ok n_Mo hown hI hz.1 e0 rfl 24 (by decide) (hts _ tw_1193) (fun _ h9 => h9) rfl hnm rfl (by decide +kernel) rfl rfl (Nat.le_of_ble_eq_true rfl) d_Mo_init_139 (fun H locs f hI e0 hk_90 => ?_)
  have e0 : f h0 = .inr (11, [.int 0, .int 0, .int 0, .ref q_1, .ref q_6, .ref q_11, .ref q_16, .ref q_21, .ref q_26, .int 0, .long 0, .int 0, .long 0, .ref q_31, .ref q_36, .ref q_41, .ref q_46, .ref q_51, .ref q_56, .ref q_61, .ref q_66, .ref q_71, .ref q_76, .ref q_81, .ref q_86, .null, .null, .null, .null, .null, .null, .null, .null, .null, .null, .int 0, .int 0, .int 0, .int 0, .int 0, .int 0, .null, .int 0, .int 0, .int 0, .null, .null, .null, .null, .null, .null, .null, .null, .int 0, .int 0, .int 0, .int 0, .null, .null, .null, .null, .null, .null, .null, .null, .int 0, .int 0, .long 0, .null, .null, .int 0]) := e0
  have hz := mz_put hz hk_90
  refine lv_aload_n hx hb d_Mo_init_142 rfl (lv_at hl 0 rfl) ?_
  refine lv_iconst (v := 3) hx hb d_Mo_init_143 (by decide) ?_
  refine ra_newa (atype := .int) (ty := .int) (N' := 3) (a0 := (3, .inl (fun _ => 0))) hx hb (hts _ tw_57) rfl hI 0 rfl (fun _ => rfl) (by decide) (by decide) (by decide) (Nat.le_of_ble_eq_true rfl) (Nat.le_of_ble_eq_true rfl) d_Mo_init_144 (fun q_91 H f hq_92 hI e_94 hk_93 => ?_)
  have e0 := mz_keep hz hq_92 hk_93 e0
  have hz := mz_new (k := 25) hz hq_92 hk_93 e_94
  refine ra_putF (ci := 11) (C := R_Mo) (T := F_Mo) (N := 71) (ty := (.array .int)) hx hb hts in_Mo t_Mo t_Mo_ok n_Mo hown hI hz.1 e0 rfl 25 (by decide) (hts _ tw_1194) (fun _ h9 => h9) rfl hnm rfl (by decide +kernel) rfl rfl (Nat.le_of_ble_eq_true rfl) d_Mo_init_146 (fun H locs f hI e0 hk_95 => ?_)
  have e0 : f h0 = .inr (11, [.int 0, .int 0, .int 0, .ref q_1, .ref q_6, .ref q_11, .ref q_16, .ref q_21, .ref q_26, .int 0, .long 0, .int 0, .long 0, .ref q_31, .ref q_36, .ref q_41, .ref q_46, .ref q_51, .ref q_56, .ref q_61, .ref q_66, .ref q_71, .ref q_76, .ref q_81, .ref q_86, .ref q_91, .null, .null, .null, .null, .null, .null, .null, .null, .null, .int 0, .int 0, .int 0, .int 0, .int 0, .int 0, .null, .int 0, .int 0, .int 0, .null, .null, .null, .null, .null, .null, .null, .null, .int 0, .int 0, .int 0, .int 0, .null, .null, .null, .null, .null, .null, .null, .null, .int 0, .int 0, .long 0, .null, .null, .int 0]) := e0
  have hz := mz_put hz hk_95
  refine lv_aload_n hx hb d_Mo_init_149 rfl (lv_at hl 0 rfl) ?_
  refine lv_iconst (v := 3) hx hb d_Mo_init_150 (by decide) ?_
  refine ra_newa (atype := .long) (ty := .long) (N' := 3) (a0 := (3, .inr (.inl (fun _ => 0)))) hx hb (hts _ tw_327) rfl hI 1 rfl (fun _ => rfl) (by decide) (by decide) (by decide) (Nat.le_of_ble_eq_true rfl) (Nat.le_of_ble_eq_true rfl) d_Mo_init_151 (fun q_96 H f hq_97 hI e_99 hk_98 => ?_)
  have e0 := mz_keep hz hq_97 hk_98 e0
  have hz := mz_new (k := 26) hz hq_97 hk_98 e_99
  refine ra_putF (ci := 11) (C := R_Mo) (T := F_Mo) (N := 71) (ty := (.array .long)) hx hb hts in_Mo t_Mo t_Mo_ok n_Mo hown hI hz.1 e0 rfl 26 (by decide) (hts _ tw_1195) (fun _ h9 => h9) rfl hnm rfl (by decide +kernel) rfl rfl (Nat.le_of_ble_eq_true rfl) d_Mo_init_153 (fun H locs f hI e0 hk_100 => ?_)
  have e0 : f h0 = .inr (11, [.int 0, .int 0, .int 0, .ref q_1, .ref q_6, .ref q_11, .ref q_16, .ref q_21, .ref q_26, .int 0, .long 0, .int 0, .long 0, .ref q_31, .ref q_36, .ref q_41, .ref q_46, .ref q_51, .ref q_56, .ref q_61, .ref q_66, .ref q_71, .ref q_76, .ref q_81, .ref q_86, .ref q_91, .ref q_96, .null, .null, .null, .null, .null, .null, .null, .null, .int 0, .int 0, .int 0, .int 0, .int 0, .int 0, .null, .int 0, .int 0, .int 0, .null, .null, .null, .null, .null, .null, .null, .null, .int 0, .int 0, .int 0, .int 0, .null, .null, .null, .null, .null, .null, .null, .null, .int 0, .int 0, .long 0, .null, .null, .int 0]) := e0
  have hz := mz_put hz hk_100
  refine lv_aload_n hx hb d_Mo_init_156 rfl (lv_at hl 0 rfl) ?_
  refine lv_iconst (v := 3) hx hb d_Mo_init_157 (by decide) ?_
  refine ra_newa (atype := .long) (ty := .long) (N' := 3) (a0 := (3, .inr (.inl (fun _ => 0)))) hx hb (hts _ tw_327) rfl hI 1 rfl (fun _ => rfl) (by decide) (by decide) (by decide) (Nat.le_of_ble_eq_true rfl) (Nat.le_of_ble_eq_true rfl) d_Mo_init_158 (fun q_101 H f hq_102 hI e_104 hk_103 => ?_)
  have e0 := mz_keep hz hq_102 hk_103 e0
  have hz := mz_new (k := 27) hz hq_102 hk_103 e_104
  refine ra_putF (ci := 11) (C := R_Mo) (T := F_Mo) (N := 71) (ty := (.array .long)) hx hb hts in_Mo t_Mo t_Mo_ok n_Mo hown hI hz.1 e0 rfl 27 (by decide) (hts _ tw_1196) (fun _ h9 => h9) rfl hnm rfl (by decide +kernel) rfl rfl (Nat.le_of_ble_eq_true rfl) d_Mo_init_160 (fun H locs f hI e0 hk_105 => ?_)
  have e0 : f h0 = .inr (11, [.int 0, .int 0, .int 0, .ref q_1, .ref q_6, .ref q_11, .ref q_16, .ref q_21, .ref q_26, .int 0, .long 0, .int 0, .long 0, .ref q_31, .ref q_36, .ref q_41, .ref q_46, .ref q_51, .ref q_56, .ref q_61, .ref q_66, .ref q_71, .ref q_76, .ref q_81, .ref q_86, .ref q_91, .ref q_96, .ref q_101, .null, .null, .null, .null, .null, .null, .null, .int 0, .int 0, .int 0, .int 0, .int 0, .int 0, .null, .int 0, .int 0, .int 0, .null, .null, .null, .null, .null, .null, .null, .null, .int 0, .int 0, .int 0, .int 0, .null, .null, .null, .null, .null, .null, .null, .null, .int 0, .int 0, .long 0, .null, .null, .int 0]) := e0
  have hz := mz_put hz hk_105
  refine lv_aload_n hx hb d_Mo_init_163 rfl (lv_at hl 0 rfl) ?_
  refine lv_iconst (v := 3) hx hb d_Mo_init_164 (by decide) ?_
  refine ra_newa (atype := .boolean) (ty := .boolean) (N' := 3) (a0 := (3, .inl (fun _ => 0))) hx hb (hts _ tw_1383) rfl hI 2 rfl (fun _ => rfl) (by decide) (by decide) (by decide) (Nat.le_of_ble_eq_true rfl) (Nat.le_of_ble_eq_true rfl) d_Mo_init_165 (fun q_106 H f hq_107 hI e_109 hk_108 => ?_)
  have e0 := mz_keep hz hq_107 hk_108 e0
  have hz := mz_new (k := 28) hz hq_107 hk_108 e_109
  refine ra_putF (ci := 11) (C := R_Mo) (T := F_Mo) (N := 71) (ty := (.array .boolean)) hx hb hts in_Mo t_Mo t_Mo_ok n_Mo hown hI hz.1 e0 rfl 28 (by decide) (hts _ tw_1197) (fun _ h9 => h9) rfl hnm rfl (by decide +kernel) rfl rfl (Nat.le_of_ble_eq_true rfl) d_Mo_init_167 (fun H locs f hI e0 hk_110 => ?_)
  have e0 : f h0 = .inr (11, [.int 0, .int 0, .int 0, .ref q_1, .ref q_6, .ref q_11, .ref q_16, .ref q_21, .ref q_26, .int 0, .long 0, .int 0, .long 0, .ref q_31, .ref q_36, .ref q_41, .ref q_46, .ref q_51, .ref q_56, .ref q_61, .ref q_66, .ref q_71, .ref q_76, .ref q_81, .ref q_86, .ref q_91, .ref q_96, .ref q_101, .ref q_106, .null, .null, .null, .null, .null, .null, .int 0, .int 0, .int 0, .int 0, .int 0, .int 0, .null, .int 0, .int 0, .int 0, .null, .null, .null, .null, .null, .null, .null, .null, .int 0, .int 0, .int 0, .int 0, .null, .null, .null, .null, .null, .null, .null, .null, .int 0, .int 0, .long 0, .null, .null, .int 0]) := e0
  have hz := mz_put hz hk_110
  refine lv_aload_n hx hb d_Mo_init_170 rfl (lv_at hl 0 rfl) ?_
  refine lv_iconst (v := 3) hx hb d_Mo_init_171 (by decide) ?_
  refine ra_newa (atype := .long) (ty := .long) (N' := 3) (a0 := (3, .inr (.inl (fun _ => 0)))) hx hb (hts _ tw_327) rfl hI 1 rfl (fun _ => rfl) (by decide) (by decide) (by decide) (Nat.le_of_ble_eq_true rfl) (Nat.le_of_ble_eq_true rfl) d_Mo_init_172 (fun q_111 H f hq_112 hI e_114 hk_113 => ?_)
  have e0 := mz_keep hz hq_112 hk_113 e0
  have hz := mz_new (k := 29) hz hq_112 hk_113 e_114
  refine ra_putF (ci := 11) (C := R_Mo) (T := F_Mo) (N := 71) (ty := (.array .long)) hx hb hts in_Mo t_Mo t_Mo_ok n_Mo hown hI hz.1 e0 rfl 29 (by decide) (hts _ tw_1198) (fun _ h9 => h9) rfl hnm rfl (by decide +kernel) rfl rfl (Nat.le_of_ble_eq_true rfl) d_Mo_init_174 (fun H locs f hI e0 hk_115 => ?_)
  have e0 : f h0 = .inr (11, [.int 0, .int 0, .int 0, .ref q_1, .ref q_6, .ref q_11, .ref q_16, .ref q_21, .ref q_26, .int 0, .long 0, .int 0, .long 0, .ref q_31, .ref q_36, .ref q_41, .ref q_46, .ref q_51, .ref q_56, .ref q_61, .ref q_66, .ref q_71, .ref q_76, .ref q_81, .ref q_86, .ref q_91, .ref q_96, .ref q_101, .ref q_106, .ref q_111, .null, .null, .null, .null, .null, .int 0, .int 0, .int 0, .int 0, .int 0, .int 0, .null, .int 0, .int 0, .int 0, .null, .null, .null, .null, .null, .null, .null, .null, .int 0, .int 0, .int 0, .int 0, .null, .null, .null, .null, .null, .null, .null, .null, .int 0, .int 0, .long 0, .null, .null, .int 0]) := e0
  have hz := mz_put hz hk_115
  refine lv_aload_n hx hb d_Mo_init_177 rfl (lv_at hl 0 rfl) ?_
  refine lv_iconst (v := 4) hx hb d_Mo_init_178 (by decide) ?_
  refine ra_newa (atype := .int) (ty := .int) (N' := 4) (a0 := (4, .inl (fun _ => 0))) hx hb (hts _ tw_57) rfl hI 0 rfl (fun _ => rfl) (by decide) (by decide) (by decide) (Nat.le_of_ble_eq_true rfl) (Nat.le_of_ble_eq_true rfl) d_Mo_init_179 (fun q_116 H f hq_117 hI e_119 hk_118 => ?_)
  have e0 := mz_keep hz hq_117 hk_118 e0
  have hz := mz_new (k := 30) hz hq_117 hk_118 e_119
  refine ra_putF (ci := 11) (C := R_Mo) (T := F_Mo) (N := 71) (ty := (.array .int)) hx hb hts in_Mo t_Mo t_Mo_ok n_Mo hown hI hz.1 e0 rfl 30 (by decide) (hts _ tw_1199) (fun _ h9 => h9) rfl hnm rfl (by decide +kernel) rfl rfl (Nat.le_of_ble_eq_true rfl) d_Mo_init_181 (fun H locs f hI e0 hk_120 => ?_)
  have e0 : f h0 = .inr (11, [.int 0, .int 0, .int 0, .ref q_1, .ref q_6, .ref q_11, .ref q_16, .ref q_21, .ref q_26, .int 0, .long 0, .int 0, .long 0, .ref q_31, .ref q_36, .ref q_41, .ref q_46, .ref q_51, .ref q_56, .ref q_61, .ref q_66, .ref q_71, .ref q_76, .ref q_81, .ref q_86, .ref q_91, .ref q_96, .ref q_101, .ref q_106, .ref q_111, .ref q_116, .null, .null, .null, .null, .int 0, .int 0, .int 0, .int 0, .int 0, .int 0, .null, .int 0, .int 0, .int 0, .null, .null, .null, .null, .null, .null, .null, .null, .int 0, .int 0, .int 0, .int 0, .null, .null, .null, .null, .null, .null, .null, .null, .int 0, .int 0, .long 0, .null, .null, .int 0]) := e0
  have hz := mz_put hz hk_120
  refine lv_aload_n hx hb d_Mo_init_184 rfl (lv_at hl 0 rfl) ?_
  refine lv_sipush (v := 16640) hx hb d_Mo_init_185 (by decide) ?_
  refine ra_newa (atype := .int) (ty := .int) (N' := 16640) (a0 := (16640, .inl (fun _ => 0))) hx hb (hts _ tw_57) rfl hI 0 rfl (fun _ => rfl) (by decide) (by decide) (by decide) (Nat.le_of_ble_eq_true rfl) (Nat.le_of_ble_eq_true rfl) d_Mo_init_188 (fun q_121 H f hq_122 hI e_124 hk_123 => ?_)
  have e0 := mz_keep hz hq_122 hk_123 e0
  have hz := mz_new (k := 31) hz hq_122 hk_123 e_124
  refine ra_putF (ci := 11) (C := R_Mo) (T := F_Mo) (N := 71) (ty := (.array .int)) hx hb hts in_Mo t_Mo t_Mo_ok n_Mo hown hI hz.1 e0 rfl 31 (by decide) (hts _ tw_1200) (fun _ h9 => h9) rfl hnm rfl (by decide +kernel) rfl rfl (Nat.le_of_ble_eq_true rfl) d_Mo_init_190 (fun H locs f hI e0 hk_125 => ?_)
  have e0 : f h0 = .inr (11, [.int 0, .int 0, .int 0, .ref q_1, .ref q_6, .ref q_11, .ref q_16, .ref q_21, .ref q_26, .int 0, .long 0, .int 0, .long 0, .ref q_31, .ref q_36, .ref q_41, .ref q_46, .ref q_51, .ref q_56, .ref q_61, .ref q_66, .ref q_71, .ref q_76, .ref q_81, .ref q_86, .ref q_91, .ref q_96, .ref q_101, .ref q_106, .ref q_111, .ref q_116, .ref q_121, .null, .null, .null, .int 0, .int 0, .int 0, .int 0, .int 0, .int 0, .null, .int 0, .int 0, .int 0, .null, .null, .null, .null, .null, .null, .null, .null, .int 0, .int 0, .int 0, .int 0, .null, .null, .null, .null, .null, .null, .null, .null, .int 0, .int 0, .long 0, .null, .null, .int 0]) := e0
  have hz := mz_put hz hk_125
  refine lv_aload_n hx hb d_Mo_init_193 rfl (lv_at hl 0 rfl) ?_
  refine lv_bipush (v := 64) hx hb d_Mo_init_194 (by decide) ?_
  refine ra_newa (atype := .int) (ty := .int) (N' := 64) (a0 := (64, .inl (fun _ => 0))) hx hb (hts _ tw_57) rfl hI 0 rfl (fun _ => rfl) (by decide) (by decide) (by decide) (Nat.le_of_ble_eq_true rfl) (Nat.le_of_ble_eq_true rfl) d_Mo_init_196 (fun q_126 H f hq_127 hI e_129 hk_128 => ?_)
  have e0 := mz_keep hz hq_127 hk_128 e0
  have hz := mz_new (k := 32) hz hq_127 hk_128 e_129
  refine ra_putF (ci := 11) (C := R_Mo) (T := F_Mo) (N := 71) (ty := (.array .int)) hx hb hts in_Mo t_Mo t_Mo_ok n_Mo hown hI hz.1 e0 rfl 32 (by decide) (hts _ tw_1201) (fun _ h9 => h9) rfl hnm rfl (by decide +kernel) rfl rfl (Nat.le_of_ble_eq_true rfl) d_Mo_init_198 (fun H locs f hI e0 hk_130 => ?_)
  have e0 : f h0 = .inr (11, [.int 0, .int 0, .int 0, .ref q_1, .ref q_6, .ref q_11, .ref q_16, .ref q_21, .ref q_26, .int 0, .long 0, .int 0, .long 0, .ref q_31, .ref q_36, .ref q_41, .ref q_46, .ref q_51, .ref q_56, .ref q_61, .ref q_66, .ref q_71, .ref q_76, .ref q_81, .ref q_86, .ref q_91, .ref q_96, .ref q_101, .ref q_106, .ref q_111, .ref q_116, .ref q_121, .ref q_126, .null, .null, .int 0, .int 0, .int 0, .int 0, .int 0, .int 0, .null, .int 0, .int 0, .int 0, .null, .null, .null, .null, .null, .null, .null, .null, .int 0, .int 0, .int 0, .int 0, .null, .null, .null, .null, .null, .null, .null, .null, .int 0, .int 0, .long 0, .null, .null, .int 0]) := e0
  have hz := mz_put hz hk_130
  refine lv_aload_n hx hb d_Mo_init_201 rfl (lv_at hl 0 rfl) ?_
  refine lv_bipush (v := 64) hx hb d_Mo_init_202 (by decide) ?_
  refine ra_newa (atype := .int) (ty := .int) (N' := 64) (a0 := (64, .inl (fun _ => 0))) hx hb (hts _ tw_57) rfl hI 0 rfl (fun _ => rfl) (by decide) (by decide) (by decide) (Nat.le_of_ble_eq_true rfl) (Nat.le_of_ble_eq_true rfl) d_Mo_init_204 (fun q_131 H f hq_132 hI e_134 hk_133 => ?_)
  have e0 := mz_keep hz hq_132 hk_133 e0
  have hz := mz_new (k := 33) hz hq_132 hk_133 e_134
  refine ra_putF (ci := 11) (C := R_Mo) (T := F_Mo) (N := 71) (ty := (.array .int)) hx hb hts in_Mo t_Mo t_Mo_ok n_Mo hown hI hz.1 e0 rfl 33 (by decide) (hts _ tw_1202) (fun _ h9 => h9) rfl hnm rfl (by decide +kernel) rfl rfl (Nat.le_of_ble_eq_true rfl) d_Mo_init_206 (fun H locs f hI e0 hk_135 => ?_)
  have e0 : f h0 = .inr (11, [.int 0, .int 0, .int 0, .ref q_1, .ref q_6, .ref q_11, .ref q_16, .ref q_21, .ref q_26, .int 0, .long 0, .int 0, .long 0, .ref q_31, .ref q_36, .ref q_41, .ref q_46, .ref q_51, .ref q_56, .ref q_61, .ref q_66, .ref q_71, .ref q_76, .ref q_81, .ref q_86, .ref q_91, .ref q_96, .ref q_101, .ref q_106, .ref q_111, .ref q_116, .ref q_121, .ref q_126, .ref q_131, .null, .int 0, .int 0, .int 0, .int 0, .int 0, .int 0, .null, .int 0, .int 0, .int 0, .null, .null, .null, .null, .null, .null, .null, .null, .int 0, .int 0, .int 0, .int 0, .null, .null, .null, .null, .null, .null, .null, .null, .int 0, .int 0, .long 0, .null, .null, .int 0]) := e0
  have hz := mz_put hz hk_135
  refine lv_aload_n hx hb d_Mo_init_209 rfl (lv_at hl 0 rfl) ?_
  refine lv_bipush (v := 64) hx hb d_Mo_init_210 (by decide) ?_
  refine ra_newa (atype := .int) (ty := .int) (N' := 64) (a0 := (64, .inl (fun _ => 0))) hx hb (hts _ tw_57) rfl hI 0 rfl (fun _ => rfl) (by decide) (by decide) (by decide) (Nat.le_of_ble_eq_true rfl) (Nat.le_of_ble_eq_true rfl) d_Mo_init_212 (fun q_136 H f hq_137 hI e_139 hk_138 => ?_)
  have e0 := mz_keep hz hq_137 hk_138 e0
  have hz := mz_new (k := 34) hz hq_137 hk_138 e_139
  refine ra_putF (ci := 11) (C := R_Mo) (T := F_Mo) (N := 71) (ty := (.array .int)) hx hb hts in_Mo t_Mo t_Mo_ok n_Mo hown hI hz.1 e0 rfl 34 (by decide) (hts _ tw_1203) (fun _ h9 => h9) rfl hnm rfl (by decide +kernel) rfl rfl (Nat.le_of_ble_eq_true rfl) d_Mo_init_214 (fun H locs f hI e0 hk_140 => ?_)
  have e0 : f h0 = .inr (11, [.int 0, .int 0, .int 0, .ref q_1, .ref q_6, .ref q_11, .ref q_16, .ref q_21, .ref q_26, .int 0, .long 0, .int 0, .long 0, .ref q_31, .ref q_36, .ref q_41, .ref q_46, .ref q_51, .ref q_56, .ref q_61, .ref q_66, .ref q_71, .ref q_76, .ref q_81, .ref q_86, .ref q_91, .ref q_96, .ref q_101, .ref q_106, .ref q_111, .ref q_116, .ref q_121, .ref q_126, .ref q_131, .ref q_136, .int 0, .int 0, .int 0, .int 0, .int 0, .int 0, .null, .int 0, .int 0, .int 0, .null, .null, .null, .null, .null, .null, .null, .null, .int 0, .int 0, .int 0, .int 0, .null, .null, .null, .null, .null, .null, .null, .null, .int 0, .int 0, .long 0, .null, .null, .int 0]) := e0
  have hz := mz_put hz hk_140
  refine lv_aload_n hx hb d_Mo_init_217 rfl (lv_at hl 0 rfl) ?_
  refine lv_iconst (v := 1) hx hb d_Mo_init_218 (by decide) ?_
  refine ra_put (ci := 11) (C := R_Mo) (T := F_Mo) (N := 71) (ty := .int) hx hb hts in_Mo t_Mo t_Mo_ok n_Mo hown hI hz.1 e0 rfl 36 (by decide) (hts _ tw_1205) (fun _ h9 => h9) rfl (by decide +kernel) rfl rfl (Nat.le_of_ble_eq_true rfl) d_Mo_init_219 (fun H locs f hI e0 hk_141 => ?_)
  have e0 : f h0 = .inr (11, [.int 0, .int 0, .int 0, .ref q_1, .ref q_6, .ref q_11, .ref q_16, .ref q_21, .ref q_26, .int 0, .long 0, .int 0, .long 0, .ref q_31, .ref q_36, .ref q_41, .ref q_46, .ref q_51, .ref q_56, .ref q_61, .ref q_66, .ref q_71, .ref q_76, .ref q_81, .ref q_86, .ref q_91, .ref q_96, .ref q_101, .ref q_106, .ref q_111, .ref q_116, .ref q_121, .ref q_126, .ref q_131, .ref q_136, .int 0, .int (1), .int 0, .int 0, .int 0, .int 0, .null, .int 0, .int 0, .int 0, .null, .null, .null, .null, .null, .null, .null, .null, .int 0, .int 0, .int 0, .int 0, .null, .null, .null, .null, .null, .null, .null, .null, .int 0, .int 0, .long 0, .null, .null, .int 0]) := e0
  have hz := mz_put hz hk_141
  refine lv_aload_n hx hb d_Mo_init_222 rfl (lv_at hl 0 rfl) ?_
  refine lv_iconst (v := 1) hx hb d_Mo_init_223 (by decide) ?_
  refine ra_put (ci := 11) (C := R_Mo) (T := F_Mo) (N := 71) (ty := .int) hx hb hts in_Mo t_Mo t_Mo_ok n_Mo hown hI hz.1 e0 rfl 37 (by decide) (hts _ tw_1206) (fun _ h9 => h9) rfl (by decide +kernel) rfl rfl (Nat.le_of_ble_eq_true rfl) d_Mo_init_224 (fun H locs f hI e0 hk_142 => ?_)
  have e0 : f h0 = .inr (11, [.int 0, .int 0, .int 0, .ref q_1, .ref q_6, .ref q_11, .ref q_16, .ref q_21, .ref q_26, .int 0, .long 0, .int 0, .long 0, .ref q_31, .ref q_36, .ref q_41, .ref q_46, .ref q_51, .ref q_56, .ref q_61, .ref q_66, .ref q_71, .ref q_76, .ref q_81, .ref q_86, .ref q_91, .ref q_96, .ref q_101, .ref q_106, .ref q_111, .ref q_116, .ref q_121, .ref q_126, .ref q_131, .ref q_136, .int 0, .int (1), .int (1), .int 0, .int 0, .int 0, .null, .int 0, .int 0, .int 0, .null, .null, .null, .null, .null, .null, .null, .null, .int 0, .int 0, .int 0, .int 0, .null, .null, .null, .null, .null, .null, .null, .null, .int 0, .int 0, .long 0, .null, .null, .int 0]) := e0
  have hz := mz_put hz hk_142
  refine lv_aload_n hx hb d_Mo_init_227 rfl (lv_at hl 0 rfl) ?_
  refine lv_iconst (v := 1) hx hb d_Mo_init_228 (by decide) ?_
  refine ra_put (ci := 11) (C := R_Mo) (T := F_Mo) (N := 71) (ty := .int) hx hb hts in_Mo t_Mo t_Mo_ok n_Mo hown hI hz.1 e0 rfl 38 (by decide) (hts _ tw_1207) (fun _ h9 => h9) rfl (by decide +kernel) rfl rfl (Nat.le_of_ble_eq_true rfl) d_Mo_init_229 (fun H locs f hI e0 hk_143 => ?_)
  have e0 : f h0 = .inr (11, [.int 0, .int 0, .int 0, .ref q_1, .ref q_6, .ref q_11, .ref q_16, .ref q_21, .ref q_26, .int 0, .long 0, .int 0, .long 0, .ref q_31, .ref q_36, .ref q_41, .ref q_46, .ref q_51, .ref q_56, .ref q_61, .ref q_66, .ref q_71, .ref q_76, .ref q_81, .ref q_86, .ref q_91, .ref q_96, .ref q_101, .ref q_106, .ref q_111, .ref q_116, .ref q_121, .ref q_126, .ref q_131, .ref q_136, .int 0, .int (1), .int (1), .int (1), .int 0, .int 0, .null, .int 0, .int 0, .int 0, .null, .null, .null, .null, .null, .null, .null, .null, .int 0, .int 0, .int 0, .int 0, .null, .null, .null, .null, .null, .null, .null, .null, .int 0, .int 0, .long 0, .null, .null, .int 0]) := e0
  have hz := mz_put hz hk_143
  refine lv_aload_n hx hb d_Mo_init_232 rfl (lv_at hl 0 rfl) ?_
  refine lv_sipush (v := 270) hx hb d_Mo_init_233 (by decide) ?_
  refine ra_newa (atype := .int) (ty := .int) (N' := 270) (a0 := (270, .inl (fun _ => 0))) hx hb (hts _ tw_57) rfl hI 0 rfl (fun _ => rfl) (by decide) (by decide) (by decide) (Nat.le_of_ble_eq_true rfl) (Nat.le_of_ble_eq_true rfl) d_Mo_init_236 (fun q_144 H f hq_145 hI e_147 hk_146 => ?_)
  have e0 := mz_keep hz hq_145 hk_146 e0
  have hz := mz_new (k := 41) hz hq_145 hk_146 e_147
  refine ra_putF (ci := 11) (C := R_Mo) (T := F_Mo) (N := 71) (ty := (.array .int)) hx hb hts in_Mo t_Mo t_Mo_ok n_Mo hown hI hz.1 e0 rfl 41 (by decide) (hts _ tw_1210) (fun _ h9 => h9) rfl hnm rfl (by decide +kernel) rfl rfl (Nat.le_of_ble_eq_true rfl) d_Mo_init_238 (fun H locs f hI e0 hk_148 => ?_)
  have e0 : f h0 = .inr (11, [.int 0, .int 0, .int 0, .ref q_1, .ref q_6, .ref q_11, .ref q_16, .ref q_21, .ref q_26, .int 0, .long 0, .int 0, .long 0, .ref q_31, .ref q_36, .ref q_41, .ref q_46, .ref q_51, .ref q_56, .ref q_61, .ref q_66, .ref q_71, .ref q_76, .ref q_81, .ref q_86, .ref q_91, .ref q_96, .ref q_101, .ref q_106, .ref q_111, .ref q_116, .ref q_121, .ref q_126, .ref q_131, .ref q_136, .int 0, .int (1), .int (1), .int (1), .int 0, .int 0, .ref q_144, .int 0, .int 0, .int 0, .null, .null, .null, .null, .null, .null, .null, .null, .int 0, .int 0, .int 0, .int 0, .null, .null, .null, .null, .null, .null, .null, .null, .int 0, .int 0, .long 0, .null, .null, .int 0]) := e0
  have hz := mz_put hz hk_148
  refine lv_aload_n hx hb d_Mo_init_241 rfl (lv_at hl 0 rfl) ?_
  refine lv_iconst (v := -1) hx hb d_Mo_init_242 (by decide) ?_
  refine ra_put (ci := 11) (C := R_Mo) (T := F_Mo) (N := 71) (ty := .int) hx hb hts in_Mo t_Mo t_Mo_ok n_Mo hown hI hz.1 e0 rfl 42 (by decide) (hts _ tw_1211) (fun _ h9 => h9) rfl (by decide +kernel) rfl rfl (Nat.le_of_ble_eq_true rfl) d_Mo_init_243 (fun H locs f hI e0 hk_149 => ?_)
  have e0 : f h0 = .inr (11, [.int 0, .int 0, .int 0, .ref q_1, .ref q_6, .ref q_11, .ref q_16, .ref q_21, .ref q_26, .int 0, .long 0, .int 0, .long 0, .ref q_31, .ref q_36, .ref q_41, .ref q_46, .ref q_51, .ref q_56, .ref q_61, .ref q_66, .ref q_71, .ref q_76, .ref q_81, .ref q_86, .ref q_91, .ref q_96, .ref q_101, .ref q_106, .ref q_111, .ref q_116, .ref q_121, .ref q_126, .ref q_131, .ref q_136, .int 0, .int (1), .int (1), .int (1), .int 0, .int 0, .ref q_144, .int (-1), .int 0, .int 0, .null, .null, .null, .null, .null, .null, .null, .null, .int 0, .int 0, .int 0, .int 0, .null, .null, .null, .null, .null, .null, .null, .null, .int 0, .int 0, .long 0, .null, .null, .int 0]) := e0
  have hz := mz_put hz hk_149
  refine lv_aload_n hx hb d_Mo_init_246 rfl (lv_at hl 0 rfl) ?_
  refine lv_bipush (v := 48) hx hb d_Mo_init_247 (by decide) ?_
  refine ra_newa (atype := .int) (ty := .int) (N' := 48) (a0 := (48, .inl (fun _ => 0))) hx hb (hts _ tw_57) rfl hI 0 rfl (fun _ => rfl) (by decide) (by decide) (by decide) (Nat.le_of_ble_eq_true rfl) (Nat.le_of_ble_eq_true rfl) d_Mo_init_249 (fun q_150 H f hq_151 hI e_153 hk_152 => ?_)
  have e0 := mz_keep hz hq_151 hk_152 e0
  have hz := mz_new (k := 45) hz hq_151 hk_152 e_153
  refine ra_putF (ci := 11) (C := R_Mo) (T := F_Mo) (N := 71) (ty := (.array .int)) hx hb hts in_Mo t_Mo t_Mo_ok n_Mo hown hI hz.1 e0 rfl 45 (by decide) (hts _ tw_1214) (fun _ h9 => h9) rfl hnm rfl (by decide +kernel) rfl rfl (Nat.le_of_ble_eq_true rfl) d_Mo_init_251 (fun H locs f hI e0 hk_154 => ?_)
  have e0 : f h0 = .inr (11, [.int 0, .int 0, .int 0, .ref q_1, .ref q_6, .ref q_11, .ref q_16, .ref q_21, .ref q_26, .int 0, .long 0, .int 0, .long 0, .ref q_31, .ref q_36, .ref q_41, .ref q_46, .ref q_51, .ref q_56, .ref q_61, .ref q_66, .ref q_71, .ref q_76, .ref q_81, .ref q_86, .ref q_91, .ref q_96, .ref q_101, .ref q_106, .ref q_111, .ref q_116, .ref q_121, .ref q_126, .ref q_131, .ref q_136, .int 0, .int (1), .int (1), .int (1), .int 0, .int 0, .ref q_144, .int (-1), .int 0, .int 0, .ref q_150, .null, .null, .null, .null, .null, .null, .null, .int 0, .int 0, .int 0, .int 0, .null, .null, .null, .null, .null, .null, .null, .null, .int 0, .int 0, .long 0, .null, .null, .int 0]) := e0
  have hz := mz_put hz hk_154
  refine lv_aload_n hx hb d_Mo_init_254 rfl (lv_at hl 0 rfl) ?_
  refine lv_bipush (v := 48) hx hb d_Mo_init_255 (by decide) ?_
  refine ra_newa (atype := .int) (ty := .int) (N' := 48) (a0 := (48, .inl (fun _ => 0))) hx hb (hts _ tw_57) rfl hI 0 rfl (fun _ => rfl) (by decide) (by decide) (by decide) (Nat.le_of_ble_eq_true rfl) (Nat.le_of_ble_eq_true rfl) d_Mo_init_257 (fun q_155 H f hq_156 hI e_158 hk_157 => ?_)
  have e0 := mz_keep hz hq_156 hk_157 e0
  have hz := mz_new (k := 46) hz hq_156 hk_157 e_158
  refine ra_putF (ci := 11) (C := R_Mo) (T := F_Mo) (N := 71) (ty := (.array .int)) hx hb hts in_Mo t_Mo t_Mo_ok n_Mo hown hI hz.1 e0 rfl 46 (by decide) (hts _ tw_1215) (fun _ h9 => h9) rfl hnm rfl (by decide +kernel) rfl rfl (Nat.le_of_ble_eq_true rfl) d_Mo_init_259 (fun H locs f hI e0 hk_159 => ?_)
  have e0 : f h0 = .inr (11, [.int 0, .int 0, .int 0, .ref q_1, .ref q_6, .ref q_11, .ref q_16, .ref q_21, .ref q_26, .int 0, .long 0, .int 0, .long 0, .ref q_31, .ref q_36, .ref q_41, .ref q_46, .ref q_51, .ref q_56, .ref q_61, .ref q_66, .ref q_71, .ref q_76, .ref q_81, .ref q_86, .ref q_91, .ref q_96, .ref q_101, .ref q_106, .ref q_111, .ref q_116, .ref q_121, .ref q_126, .ref q_131, .ref q_136, .int 0, .int (1), .int (1), .int (1), .int 0, .int 0, .ref q_144, .int (-1), .int 0, .int 0, .ref q_150, .ref q_155, .null, .null, .null, .null, .null, .null, .int 0, .int 0, .int 0, .int 0, .null, .null, .null, .null, .null, .null, .null, .null, .int 0, .int 0, .long 0, .null, .null, .int 0]) := e0
  have hz := mz_put hz hk_159
  refine lv_aload_n hx hb d_Mo_init_262 rfl (lv_at hl 0 rfl) ?_
  refine lv_bipush (v := 48) hx hb d_Mo_init_263 (by decide) ?_
  refine ra_newa (atype := .int) (ty := .int) (N' := 48) (a0 := (48, .inl (fun _ => 0))) hx hb (hts _ tw_57) rfl hI 0 rfl (fun _ => rfl) (by decide) (by decide) (by decide) (Nat.le_of_ble_eq_true rfl) (Nat.le_of_ble_eq_true rfl) d_Mo_init_265 (fun q_160 H f hq_161 hI e_163 hk_162 => ?_)
  have e0 := mz_keep hz hq_161 hk_162 e0
  have hz := mz_new (k := 47) hz hq_161 hk_162 e_163
  refine ra_putF (ci := 11) (C := R_Mo) (T := F_Mo) (N := 71) (ty := (.array .int)) hx hb hts in_Mo t_Mo t_Mo_ok n_Mo hown hI hz.1 e0 rfl 47 (by decide) (hts _ tw_1216) (fun _ h9 => h9) rfl hnm rfl (by decide +kernel) rfl rfl (Nat.le_of_ble_eq_true rfl) d_Mo_init_267 (fun H locs f hI e0 hk_164 => ?_)
  have e0 : f h0 = .inr (11, [.int 0, .int 0, .int 0, .ref q_1, .ref q_6, .ref q_11, .ref q_16, .ref q_21, .ref q_26, .int 0, .long 0, .int 0, .long 0, .ref q_31, .ref q_36, .ref q_41, .ref q_46, .ref q_51, .ref q_56, .ref q_61, .ref q_66, .ref q_71, .ref q_76, .ref q_81, .ref q_86, .ref q_91, .ref q_96, .ref q_101, .ref q_106, .ref q_111, .ref q_116, .ref q_121, .ref q_126, .ref q_131, .ref q_136, .int 0, .int (1), .int (1), .int (1), .int 0, .int 0, .ref q_144, .int (-1), .int 0, .int 0, .ref q_150, .ref q_155, .ref q_160, .null, .null, .null, .null, .null, .int 0, .int 0, .int 0, .int 0, .null, .null, .null, .null, .null, .null, .null, .null, .int 0, .int 0, .long 0, .null, .null, .int 0]) := e0
  have hz := mz_put hz hk_164
  refine lv_aload_n hx hb d_Mo_init_270 rfl (lv_at hl 0 rfl) ?_
  refine lv_bipush (v := 48) hx hb d_Mo_init_271 (by decide) ?_
  refine ra_newa (atype := .int) (ty := .int) (N' := 48) (a0 := (48, .inl (fun _ => 0))) hx hb (hts _ tw_57) rfl hI 0 rfl (fun _ => rfl) (by decide) (by decide) (by decide) (Nat.le_of_ble_eq_true rfl) (Nat.le_of_ble_eq_true rfl) d_Mo_init_273 (fun q_165 H f hq_166 hI e_168 hk_167 => ?_)
  have e0 := mz_keep hz hq_166 hk_167 e0
  have hz := mz_new (k := 48) hz hq_166 hk_167 e_168
  refine ra_putF (ci := 11) (C := R_Mo) (T := F_Mo) (N := 71) (ty := (.array .int)) hx hb hts in_Mo t_Mo t_Mo_ok n_Mo hown hI hz.1 e0 rfl 48 (by decide) (hts _ tw_1217) (fun _ h9 => h9) rfl hnm rfl (by decide +kernel) rfl rfl (Nat.le_of_ble_eq_true rfl) d_Mo_init_275 (fun H locs f hI e0 hk_169 => ?_)
  have e0 : f h0 = .inr (11, [.int 0, .int 0, .int 0, .ref q_1, .ref q_6, .ref q_11, .ref q_16, .ref q_21, .ref q_26, .int 0, .long 0, .int 0, .long 0, .ref q_31, .ref q_36, .ref q_41, .ref q_46, .ref q_51, .ref q_56, .ref q_61, .ref q_66, .ref q_71, .ref q_76, .ref q_81, .ref q_86, .ref q_91, .ref q_96, .ref q_101, .ref q_106, .ref q_111, .ref q_116, .ref q_121, .ref q_126, .ref q_131, .ref q_136, .int 0, .int (1), .int (1), .int (1), .int 0, .int 0, .ref q_144, .int (-1), .int 0, .int 0, .ref q_150, .ref q_155, .ref q_160, .ref q_165, .null, .null, .null, .null, .int 0, .int 0, .int 0, .int 0, .null, .null, .null, .null, .null, .null, .null, .null, .int 0, .int 0, .long 0, .null, .null, .int 0]) := e0
  have hz := mz_put hz hk_169
  refine lv_aload_n hx hb d_Mo_init_278 rfl (lv_at hl 0 rfl) ?_
  refine lv_bipush (v := 48) hx hb d_Mo_init_279 (by decide) ?_
  refine ra_newa (atype := .int) (ty := .int) (N' := 48) (a0 := (48, .inl (fun _ => 0))) hx hb (hts _ tw_57) rfl hI 0 rfl (fun _ => rfl) (by decide) (by decide) (by decide) (Nat.le_of_ble_eq_true rfl) (Nat.le_of_ble_eq_true rfl) d_Mo_init_281 (fun q_170 H f hq_171 hI e_173 hk_172 => ?_)
  have e0 := mz_keep hz hq_171 hk_172 e0
  have hz := mz_new (k := 49) hz hq_171 hk_172 e_173
  refine ra_putF (ci := 11) (C := R_Mo) (T := F_Mo) (N := 71) (ty := (.array .int)) hx hb hts in_Mo t_Mo t_Mo_ok n_Mo hown hI hz.1 e0 rfl 49 (by decide) (hts _ tw_1218) (fun _ h9 => h9) rfl hnm rfl (by decide +kernel) rfl rfl (Nat.le_of_ble_eq_true rfl) d_Mo_init_283 (fun H locs f hI e0 hk_174 => ?_)
  have e0 : f h0 = .inr (11, [.int 0, .int 0, .int 0, .ref q_1, .ref q_6, .ref q_11, .ref q_16, .ref q_21, .ref q_26, .int 0, .long 0, .int 0, .long 0, .ref q_31, .ref q_36, .ref q_41, .ref q_46, .ref q_51, .ref q_56, .ref q_61, .ref q_66, .ref q_71, .ref q_76, .ref q_81, .ref q_86, .ref q_91, .ref q_96, .ref q_101, .ref q_106, .ref q_111, .ref q_116, .ref q_121, .ref q_126, .ref q_131, .ref q_136, .int 0, .int (1), .int (1), .int (1), .int 0, .int 0, .ref q_144, .int (-1), .int 0, .int 0, .ref q_150, .ref q_155, .ref q_160, .ref q_165, .ref q_170, .null, .null, .null, .int 0, .int 0, .int 0, .int 0, .null, .null, .null, .null, .null, .null, .null, .null, .int 0, .int 0, .long 0, .null, .null, .int 0]) := e0
  have hz := mz_put hz hk_174
  refine lv_aload_n hx hb d_Mo_init_286 rfl (lv_at hl 0 rfl) ?_
  refine lv_bipush (v := 48) hx hb d_Mo_init_287 (by decide) ?_
  refine ra_newa (atype := .long) (ty := .long) (N' := 48) (a0 := (48, .inr (.inl (fun _ => 0)))) hx hb (hts _ tw_327) rfl hI 1 rfl (fun _ => rfl) (by decide) (by decide) (by decide) (Nat.le_of_ble_eq_true rfl) (Nat.le_of_ble_eq_true rfl) d_Mo_init_289 (fun q_175 H f hq_176 hI e_178 hk_177 => ?_)
  have e0 := mz_keep hz hq_176 hk_177 e0
  have hz := mz_new (k := 50) hz hq_176 hk_177 e_178
  refine ra_putF (ci := 11) (C := R_Mo) (T := F_Mo) (N := 71) (ty := (.array .long)) hx hb hts in_Mo t_Mo t_Mo_ok n_Mo hown hI hz.1 e0 rfl 50 (by decide) (hts _ tw_1219) (fun _ h9 => h9) rfl hnm rfl (by decide +kernel) rfl rfl (Nat.le_of_ble_eq_true rfl) d_Mo_init_291 (fun H locs f hI e0 hk_179 => ?_)
  have e0 : f h0 = .inr (11, [.int 0, .int 0, .int 0, .ref q_1, .ref q_6, .ref q_11, .ref q_16, .ref q_21, .ref q_26, .int 0, .long 0, .int 0, .long 0, .ref q_31, .ref q_36, .ref q_41, .ref q_46, .ref q_51, .ref q_56, .ref q_61, .ref q_66, .ref q_71, .ref q_76, .ref q_81, .ref q_86, .ref q_91, .ref q_96, .ref q_101, .ref q_106, .ref q_111, .ref q_116, .ref q_121, .ref q_126, .ref q_131, .ref q_136, .int 0, .int (1), .int (1), .int (1), .int 0, .int 0, .ref q_144, .int (-1), .int 0, .int 0, .ref q_150, .ref q_155, .ref q_160, .ref q_165, .ref q_170, .ref q_175, .null, .null, .int 0, .int 0, .int 0, .int 0, .null, .null, .null, .null, .null, .null, .null, .null, .int 0, .int 0, .long 0, .null, .null, .int 0]) := e0
  have hz := mz_put hz hk_179
  refine lv_aload_n hx hb d_Mo_init_294 rfl (lv_at hl 0 rfl) ?_
  refine lv_bipush (v := 48) hx hb d_Mo_init_295 (by decide) ?_
  refine ra_newa (atype := .boolean) (ty := .boolean) (N' := 48) (a0 := (48, .inl (fun _ => 0))) hx hb (hts _ tw_1383) rfl hI 2 rfl (fun _ => rfl) (by decide) (by decide) (by decide) (Nat.le_of_ble_eq_true rfl) (Nat.le_of_ble_eq_true rfl) d_Mo_init_297 (fun q_180 H f hq_181 hI e_183 hk_182 => ?_)
  have e0 := mz_keep hz hq_181 hk_182 e0
  have hz := mz_new (k := 51) hz hq_181 hk_182 e_183
  refine ra_putF (ci := 11) (C := R_Mo) (T := F_Mo) (N := 71) (ty := (.array .boolean)) hx hb hts in_Mo t_Mo t_Mo_ok n_Mo hown hI hz.1 e0 rfl 51 (by decide) (hts _ tw_1220) (fun _ h9 => h9) rfl hnm rfl (by decide +kernel) rfl rfl (Nat.le_of_ble_eq_true rfl) d_Mo_init_299 (fun H locs f hI e0 hk_184 => ?_)
  have e0 : f h0 = .inr (11, [.int 0, .int 0, .int 0, .ref q_1, .ref q_6, .ref q_11, .ref q_16, .ref q_21, .ref q_26, .int 0, .long 0, .int 0, .long 0, .ref q_31, .ref q_36, .ref q_41, .ref q_46, .ref q_51, .ref q_56, .ref q_61, .ref q_66, .ref q_71, .ref q_76, .ref q_81, .ref q_86, .ref q_91, .ref q_96, .ref q_101, .ref q_106, .ref q_111, .ref q_116, .ref q_121, .ref q_126, .ref q_131, .ref q_136, .int 0, .int (1), .int (1), .int (1), .int 0, .int 0, .ref q_144, .int (-1), .int 0, .int 0, .ref q_150, .ref q_155, .ref q_160, .ref q_165, .ref q_170, .ref q_175, .ref q_180, .null, .int 0, .int 0, .int 0, .int 0, .null, .null, .null, .null, .null, .null, .null, .null, .int 0, .int 0, .long 0, .null, .null, .int 0]) := e0
  have hz := mz_put hz hk_184
  refine lv_aload_n hx hb d_Mo_init_302 rfl (lv_at hl 0 rfl) ?_
  refine lv_bipush (v := 48) hx hb d_Mo_init_303 (by decide) ?_
  refine ra_newa (atype := .int) (ty := .int) (N' := 48) (a0 := (48, .inl (fun _ => 0))) hx hb (hts _ tw_57) rfl hI 0 rfl (fun _ => rfl) (by decide) (by decide) (by decide) (Nat.le_of_ble_eq_true rfl) (Nat.le_of_ble_eq_true rfl) d_Mo_init_305 (fun q_185 H f hq_186 hI e_188 hk_187 => ?_)
  have e0 := mz_keep hz hq_186 hk_187 e0
  have hz := mz_new (k := 52) hz hq_186 hk_187 e_188
  refine ra_putF (ci := 11) (C := R_Mo) (T := F_Mo) (N := 71) (ty := (.array .int)) hx hb hts in_Mo t_Mo t_Mo_ok n_Mo hown hI hz.1 e0 rfl 52 (by decide) (hts _ tw_1221) (fun _ h9 => h9) rfl hnm rfl (by decide +kernel) rfl rfl (Nat.le_of_ble_eq_true rfl) d_Mo_init_307 (fun H locs f hI e0 hk_189 => ?_)
  have e0 : f h0 = .inr (11, [.int 0, .int 0, .int 0, .ref q_1, .ref q_6, .ref q_11, .ref q_16, .ref q_21, .ref q_26, .int 0, .long 0, .int 0, .long 0, .ref q_31, .ref q_36, .ref q_41, .ref q_46, .ref q_51, .ref q_56, .ref q_61, .ref q_66, .ref q_71, .ref q_76, .ref q_81, .ref q_86, .ref q_91, .ref q_96, .ref q_101, .ref q_106, .ref q_111, .ref q_116, .ref q_121, .ref q_126, .ref q_131, .ref q_136, .int 0, .int (1), .int (1), .int (1), .int 0, .int 0, .ref q_144, .int (-1), .int 0, .int 0, .ref q_150, .ref q_155, .ref q_160, .ref q_165, .ref q_170, .ref q_175, .ref q_180, .ref q_185, .int 0, .int 0, .int 0, .int 0, .null, .null, .null, .null, .null, .null, .null, .null, .int 0, .int 0, .long 0, .null, .null, .int 0]) := e0
  have hz := mz_put hz hk_189
  refine lv_aload_n hx hb d_Mo_init_310 rfl (lv_at hl 0 rfl) ?_
  refine lv_iconst (v := -1) hx hb d_Mo_init_311 (by decide) ?_
  refine ra_put (ci := 11) (C := R_Mo) (T := F_Mo) (N := 71) (ty := .int) hx hb hts in_Mo t_Mo t_Mo_ok n_Mo hown hI hz.1 e0 rfl 54 (by decide) (hts _ tw_1223) (fun _ h9 => h9) rfl (by decide +kernel) rfl rfl (Nat.le_of_ble_eq_true rfl) d_Mo_init_312 (fun H locs f hI e0 hk_190 => ?_)
  have e0 : f h0 = .inr (11, [.int 0, .int 0, .int 0, .ref q_1, .ref q_6, .ref q_11, .ref q_16, .ref q_21, .ref q_26, .int 0, .long 0, .int 0, .long 0, .ref q_31, .ref q_36, .ref q_41, .ref q_46, .ref q_51, .ref q_56, .ref q_61, .ref q_66, .ref q_71, .ref q_76, .ref q_81, .ref q_86, .ref q_91, .ref q_96, .ref q_101, .ref q_106, .ref q_111, .ref q_116, .ref q_121, .ref q_126, .ref q_131, .ref q_136, .int 0, .int (1), .int (1), .int (1), .int 0, .int 0, .ref q_144, .int (-1), .int 0, .int 0, .ref q_150, .ref q_155, .ref q_160, .ref q_165, .ref q_170, .ref q_175, .ref q_180, .ref q_185, .int 0, .int (-1), .int 0, .int 0, .null, .null, .null, .null, .null, .null, .null, .null, .int 0, .int 0, .long 0, .null, .null, .int 0]) := e0
  have hz := mz_put hz hk_190
  refine lv_aload_n hx hb d_Mo_init_315 rfl (lv_at hl 0 rfl) ?_
  refine lv_iconst (v := -1) hx hb d_Mo_init_316 (by decide) ?_
  refine ra_put (ci := 11) (C := R_Mo) (T := F_Mo) (N := 71) (ty := .int) hx hb hts in_Mo t_Mo t_Mo_ok n_Mo hown hI hz.1 e0 rfl 55 (by decide) (hts _ tw_1224) (fun _ h9 => h9) rfl (by decide +kernel) rfl rfl (Nat.le_of_ble_eq_true rfl) d_Mo_init_317 (fun H locs f hI e0 hk_191 => ?_)
  have e0 : f h0 = .inr (11, [.int 0, .int 0, .int 0, .ref q_1, .ref q_6, .ref q_11, .ref q_16, .ref q_21, .ref q_26, .int 0, .long 0, .int 0, .long 0, .ref q_31, .ref q_36, .ref q_41, .ref q_46, .ref q_51, .ref q_56, .ref q_61, .ref q_66, .ref q_71, .ref q_76, .ref q_81, .ref q_86, .ref q_91, .ref q_96, .ref q_101, .ref q_106, .ref q_111, .ref q_116, .ref q_121, .ref q_126, .ref q_131, .ref q_136, .int 0, .int (1), .int (1), .int (1), .int 0, .int 0, .ref q_144, .int (-1), .int 0, .int 0, .ref q_150, .ref q_155, .ref q_160, .ref q_165, .ref q_170, .ref q_175, .ref q_180, .ref q_185, .int 0, .int (-1), .int (-1), .int 0, .null, .null, .null, .null, .null, .null, .null, .null, .int 0, .int 0, .long 0, .null, .null, .int 0]) := e0
  have hz := mz_put hz hk_191
  refine lv_aload_n hx hb d_Mo_init_320 rfl (lv_at hl 0 rfl) ?_
  refine lv_sipush (v := 600) hx hb d_Mo_init_321 (by decide) ?_
  refine ra_newa (atype := .int) (ty := .int) (N' := 600) (a0 := (600, .inl (fun _ => 0))) hx hb (hts _ tw_57) rfl hI 0 rfl (fun _ => rfl) (by decide) (by decide) (by decide) (Nat.le_of_ble_eq_true rfl) (Nat.le_of_ble_eq_true rfl) d_Mo_init_324 (fun q_192 H f hq_193 hI e_195 hk_194 => ?_)
  have e0 := mz_keep hz hq_193 hk_194 e0
  have hz := mz_new (k := 57) hz hq_193 hk_194 e_195
  refine ra_putF (ci := 11) (C := R_Mo) (T := F_Mo) (N := 71) (ty := (.array .int)) hx hb hts in_Mo t_Mo t_Mo_ok n_Mo hown hI hz.1 e0 rfl 57 (by decide) (hts _ tw_1226) (fun _ h9 => h9) rfl hnm rfl (by decide +kernel) rfl rfl (Nat.le_of_ble_eq_true rfl) d_Mo_init_326 (fun H locs f hI e0 hk_196 => ?_)
  have e0 : f h0 = .inr (11, [.int 0, .int 0, .int 0, .ref q_1, .ref q_6, .ref q_11, .ref q_16, .ref q_21, .ref q_26, .int 0, .long 0, .int 0, .long 0, .ref q_31, .ref q_36, .ref q_41, .ref q_46, .ref q_51, .ref q_56, .ref q_61, .ref q_66, .ref q_71, .ref q_76, .ref q_81, .ref q_86, .ref q_91, .ref q_96, .ref q_101, .ref q_106, .ref q_111, .ref q_116, .ref q_121, .ref q_126, .ref q_131, .ref q_136, .int 0, .int (1), .int (1), .int (1), .int 0, .int 0, .ref q_144, .int (-1), .int 0, .int 0, .ref q_150, .ref q_155, .ref q_160, .ref q_165, .ref q_170, .ref q_175, .ref q_180, .ref q_185, .int 0, .int (-1), .int (-1), .int 0, .ref q_192, .null, .null, .null, .null, .null, .null, .null, .int 0, .int 0, .long 0, .null, .null, .int 0]) := e0
  have hz := mz_put hz hk_196
  refine lv_aload_n hx hb d_Mo_init_329 rfl (lv_at hl 0 rfl) ?_
  refine lv_sipush (v := 600) hx hb d_Mo_init_330 (by decide) ?_
  refine ra_newa (atype := .int) (ty := .int) (N' := 600) (a0 := (600, .inl (fun _ => 0))) hx hb (hts _ tw_57) rfl hI 0 rfl (fun _ => rfl) (by decide) (by decide) (by decide) (Nat.le_of_ble_eq_true rfl) (Nat.le_of_ble_eq_true rfl) d_Mo_init_333 (fun q_197 H f hq_198 hI e_200 hk_199 => ?_)
  have e0 := mz_keep hz hq_198 hk_199 e0
  have hz := mz_new (k := 58) hz hq_198 hk_199 e_200
  refine ra_putF (ci := 11) (C := R_Mo) (T := F_Mo) (N := 71) (ty := (.array .int)) hx hb hts in_Mo t_Mo t_Mo_ok n_Mo hown hI hz.1 e0 rfl 58 (by decide) (hts _ tw_1227) (fun _ h9 => h9) rfl hnm rfl (by decide +kernel) rfl rfl (Nat.le_of_ble_eq_true rfl) d_Mo_init_335 (fun H locs f hI e0 hk_201 => ?_)
  have e0 : f h0 = .inr (11, [.int 0, .int 0, .int 0, .ref q_1, .ref q_6, .ref q_11, .ref q_16, .ref q_21, .ref q_26, .int 0, .long 0, .int 0, .long 0, .ref q_31, .ref q_36, .ref q_41, .ref q_46, .ref q_51, .ref q_56, .ref q_61, .ref q_66, .ref q_71, .ref q_76, .ref q_81, .ref q_86, .ref q_91, .ref q_96, .ref q_101, .ref q_106, .ref q_111, .ref q_116, .ref q_121, .ref q_126, .ref q_131, .ref q_136, .int 0, .int (1), .int (1), .int (1), .int 0, .int 0, .ref q_144, .int (-1), .int 0, .int 0, .ref q_150, .ref q_155, .ref q_160, .ref q_165, .ref q_170, .ref q_175, .ref q_180, .ref q_185, .int 0, .int (-1), .int (-1), .int 0, .ref q_192, .ref q_197, .null, .null, .null, .null, .null, .null, .int 0, .int 0, .long 0, .null, .null, .int 0]) := e0
  have hz := mz_put hz hk_201
  refine lv_aload_n hx hb d_Mo_init_338 rfl (lv_at hl 0 rfl) ?_
  refine lv_sipush (v := 600) hx hb d_Mo_init_339 (by decide) ?_
  refine ra_newa (atype := .int) (ty := .int) (N' := 600) (a0 := (600, .inl (fun _ => 0))) hx hb (hts _ tw_57) rfl hI 0 rfl (fun _ => rfl) (by decide) (by decide) (by decide) (Nat.le_of_ble_eq_true rfl) (Nat.le_of_ble_eq_true rfl) d_Mo_init_342 (fun q_202 H f hq_203 hI e_205 hk_204 => ?_)
  have e0 := mz_keep hz hq_203 hk_204 e0
  have hz := mz_new (k := 59) hz hq_203 hk_204 e_205
  refine ra_putF (ci := 11) (C := R_Mo) (T := F_Mo) (N := 71) (ty := (.array .int)) hx hb hts in_Mo t_Mo t_Mo_ok n_Mo hown hI hz.1 e0 rfl 59 (by decide) (hts _ tw_1228) (fun _ h9 => h9) rfl hnm rfl (by decide +kernel) rfl rfl (Nat.le_of_ble_eq_true rfl) d_Mo_init_344 (fun H locs f hI e0 hk_206 => ?_)
  have e0 : f h0 = .inr (11, [.int 0, .int 0, .int 0, .ref q_1, .ref q_6, .ref q_11, .ref q_16, .ref q_21, .ref q_26, .int 0, .long 0, .int 0, .long 0, .ref q_31, .ref q_36, .ref q_41, .ref q_46, .ref q_51, .ref q_56, .ref q_61, .ref q_66, .ref q_71, .ref q_76, .ref q_81, .ref q_86, .ref q_91, .ref q_96, .ref q_101, .ref q_106, .ref q_111, .ref q_116, .ref q_121, .ref q_126, .ref q_131, .ref q_136, .int 0, .int (1), .int (1), .int (1), .int 0, .int 0, .ref q_144, .int (-1), .int 0, .int 0, .ref q_150, .ref q_155, .ref q_160, .ref q_165, .ref q_170, .ref q_175, .ref q_180, .ref q_185, .int 0, .int (-1), .int (-1), .int 0, .ref q_192, .ref q_197, .ref q_202, .null, .null, .null, .null, .null, .int 0, .int 0, .long 0, .null, .null, .int 0]) := e0
  have hz := mz_put hz hk_206
  refine lv_aload_n hx hb d_Mo_init_347 rfl (lv_at hl 0 rfl) ?_
  refine lv_sipush (v := 600) hx hb d_Mo_init_348 (by decide) ?_
  refine ra_newa (atype := .int) (ty := .int) (N' := 600) (a0 := (600, .inl (fun _ => 0))) hx hb (hts _ tw_57) rfl hI 0 rfl (fun _ => rfl) (by decide) (by decide) (by decide) (Nat.le_of_ble_eq_true rfl) (Nat.le_of_ble_eq_true rfl) d_Mo_init_351 (fun q_207 H f hq_208 hI e_210 hk_209 => ?_)
  have e0 := mz_keep hz hq_208 hk_209 e0
  have hz := mz_new (k := 60) hz hq_208 hk_209 e_210
  refine ra_putF (ci := 11) (C := R_Mo) (T := F_Mo) (N := 71) (ty := (.array .int)) hx hb hts in_Mo t_Mo t_Mo_ok n_Mo hown hI hz.1 e0 rfl 60 (by decide) (hts _ tw_1229) (fun _ h9 => h9) rfl hnm rfl (by decide +kernel) rfl rfl (Nat.le_of_ble_eq_true rfl) d_Mo_init_353 (fun H locs f hI e0 hk_211 => ?_)
  have e0 : f h0 = .inr (11, [.int 0, .int 0, .int 0, .ref q_1, .ref q_6, .ref q_11, .ref q_16, .ref q_21, .ref q_26, .int 0, .long 0, .int 0, .long 0, .ref q_31, .ref q_36, .ref q_41, .ref q_46, .ref q_51, .ref q_56, .ref q_61, .ref q_66, .ref q_71, .ref q_76, .ref q_81, .ref q_86, .ref q_91, .ref q_96, .ref q_101, .ref q_106, .ref q_111, .ref q_116, .ref q_121, .ref q_126, .ref q_131, .ref q_136, .int 0, .int (1), .int (1), .int (1), .int 0, .int 0, .ref q_144, .int (-1), .int 0, .int 0, .ref q_150, .ref q_155, .ref q_160, .ref q_165, .ref q_170, .ref q_175, .ref q_180, .ref q_185, .int 0, .int (-1), .int (-1), .int 0, .ref q_192, .ref q_197, .ref q_202, .ref q_207, .null, .null, .null, .null, .int 0, .int 0, .long 0, .null, .null, .int 0]) := e0
  have hz := mz_put hz hk_211
  refine lv_aload_n hx hb d_Mo_init_356 rfl (lv_at hl 0 rfl) ?_
  refine lv_sipush (v := 600) hx hb d_Mo_init_357 (by decide) ?_
  refine ra_newa (atype := .int) (ty := .int) (N' := 600) (a0 := (600, .inl (fun _ => 0))) hx hb (hts _ tw_57) rfl hI 0 rfl (fun _ => rfl) (by decide) (by decide) (by decide) (Nat.le_of_ble_eq_true rfl) (Nat.le_of_ble_eq_true rfl) d_Mo_init_360 (fun q_212 H f hq_213 hI e_215 hk_214 => ?_)
  have e0 := mz_keep hz hq_213 hk_214 e0
  have hz := mz_new (k := 61) hz hq_213 hk_214 e_215
  refine ra_putF (ci := 11) (C := R_Mo) (T := F_Mo) (N := 71) (ty := (.array .int)) hx hb hts in_Mo t_Mo t_Mo_ok n_Mo hown hI hz.1 e0 rfl 61 (by decide) (hts _ tw_1230) (fun _ h9 => h9) rfl hnm rfl (by decide +kernel) rfl rfl (Nat.le_of_ble_eq_true rfl) d_Mo_init_362 (fun H locs f hI e0 hk_216 => ?_)
  have e0 : f h0 = .inr (11, [.int 0, .int 0, .int 0, .ref q_1, .ref q_6, .ref q_11, .ref q_16, .ref q_21, .ref q_26, .int 0, .long 0, .int 0, .long 0, .ref q_31, .ref q_36, .ref q_41, .ref q_46, .ref q_51, .ref q_56, .ref q_61, .ref q_66, .ref q_71, .ref q_76, .ref q_81, .ref q_86, .ref q_91, .ref q_96, .ref q_101, .ref q_106, .ref q_111, .ref q_116, .ref q_121, .ref q_126, .ref q_131, .ref q_136, .int 0, .int (1), .int (1), .int (1), .int 0, .int 0, .ref q_144, .int (-1), .int 0, .int 0, .ref q_150, .ref q_155, .ref q_160, .ref q_165, .ref q_170, .ref q_175, .ref q_180, .ref q_185, .int 0, .int (-1), .int (-1), .int 0, .ref q_192, .ref q_197, .ref q_202, .ref q_207, .ref q_212, .null, .null, .null, .int 0, .int 0, .long 0, .null, .null, .int 0]) := e0
  have hz := mz_put hz hk_216
  refine lv_aload_n hx hb d_Mo_init_365 rfl (lv_at hl 0 rfl) ?_
  refine lv_sipush (v := 600) hx hb d_Mo_init_366 (by decide) ?_
  refine ra_newa (atype := .boolean) (ty := .boolean) (N' := 600) (a0 := (600, .inl (fun _ => 0))) hx hb (hts _ tw_1383) rfl hI 2 rfl (fun _ => rfl) (by decide) (by decide) (by decide) (Nat.le_of_ble_eq_true rfl) (Nat.le_of_ble_eq_true rfl) d_Mo_init_369 (fun q_217 H f hq_218 hI e_220 hk_219 => ?_)
  have e0 := mz_keep hz hq_218 hk_219 e0
  have hz := mz_new (k := 62) hz hq_218 hk_219 e_220
  refine ra_putF (ci := 11) (C := R_Mo) (T := F_Mo) (N := 71) (ty := (.array .boolean)) hx hb hts in_Mo t_Mo t_Mo_ok n_Mo hown hI hz.1 e0 rfl 62 (by decide) (hts _ tw_1231) (fun _ h9 => h9) rfl hnm rfl (by decide +kernel) rfl rfl (Nat.le_of_ble_eq_true rfl) d_Mo_init_371 (fun H locs f hI e0 hk_221 => ?_)
  have e0 : f h0 = .inr (11, [.int 0, .int 0, .int 0, .ref q_1, .ref q_6, .ref q_11, .ref q_16, .ref q_21, .ref q_26, .int 0, .long 0, .int 0, .long 0, .ref q_31, .ref q_36, .ref q_41, .ref q_46, .ref q_51, .ref q_56, .ref q_61, .ref q_66, .ref q_71, .ref q_76, .ref q_81, .ref q_86, .ref q_91, .ref q_96, .ref q_101, .ref q_106, .ref q_111, .ref q_116, .ref q_121, .ref q_126, .ref q_131, .ref q_136, .int 0, .int (1), .int (1), .int (1), .int 0, .int 0, .ref q_144, .int (-1), .int 0, .int 0, .ref q_150, .ref q_155, .ref q_160, .ref q_165, .ref q_170, .ref q_175, .ref q_180, .ref q_185, .int 0, .int (-1), .int (-1), .int 0, .ref q_192, .ref q_197, .ref q_202, .ref q_207, .ref q_212, .ref q_217, .null, .null, .int 0, .int 0, .long 0, .null, .null, .int 0]) := e0
  have hz := mz_put hz hk_221
  refine lv_aload_n hx hb d_Mo_init_374 rfl (lv_at hl 0 rfl) ?_
  refine lv_sipush (v := 14400) hx hb d_Mo_init_375 (by decide) ?_
  refine ra_newa (atype := .int) (ty := .int) (N' := 14400) (a0 := (14400, .inl (fun _ => 0))) hx hb (hts _ tw_57) rfl hI 0 rfl (fun _ => rfl) (by decide) (by decide) (by decide) (Nat.le_of_ble_eq_true rfl) (Nat.le_of_ble_eq_true rfl) d_Mo_init_378 (fun q_222 H f hq_223 hI e_225 hk_224 => ?_)
  have e0 := mz_keep hz hq_223 hk_224 e0
  have hz := mz_new (k := 63) hz hq_223 hk_224 e_225
  refine ra_putF (ci := 11) (C := R_Mo) (T := F_Mo) (N := 71) (ty := (.array .int)) hx hb hts in_Mo t_Mo t_Mo_ok n_Mo hown hI hz.1 e0 rfl 63 (by decide) (hts _ tw_1232) (fun _ h9 => h9) rfl hnm rfl (by decide +kernel) rfl rfl (Nat.le_of_ble_eq_true rfl) d_Mo_init_380 (fun H locs f hI e0 hk_226 => ?_)
  have e0 : f h0 = .inr (11, [.int 0, .int 0, .int 0, .ref q_1, .ref q_6, .ref q_11, .ref q_16, .ref q_21, .ref q_26, .int 0, .long 0, .int 0, .long 0, .ref q_31, .ref q_36, .ref q_41, .ref q_46, .ref q_51, .ref q_56, .ref q_61, .ref q_66, .ref q_71, .ref q_76, .ref q_81, .ref q_86, .ref q_91, .ref q_96, .ref q_101, .ref q_106, .ref q_111, .ref q_116, .ref q_121, .ref q_126, .ref q_131, .ref q_136, .int 0, .int (1), .int (1), .int (1), .int 0, .int 0, .ref q_144, .int (-1), .int 0, .int 0, .ref q_150, .ref q_155, .ref q_160, .ref q_165, .ref q_170, .ref q_175, .ref q_180, .ref q_185, .int 0, .int (-1), .int (-1), .int 0, .ref q_192, .ref q_197, .ref q_202, .ref q_207, .ref q_212, .ref q_217, .ref q_222, .null, .int 0, .int 0, .long 0, .null, .null, .int 0]) := e0
  have hz := mz_put hz hk_226
  refine lv_aload_n hx hb d_Mo_init_383 rfl (lv_at hl 0 rfl) ?_
  refine lv_sipush (v := 600) hx hb d_Mo_init_384 (by decide) ?_
  refine ra_newa (atype := .int) (ty := .int) (N' := 600) (a0 := (600, .inl (fun _ => 0))) hx hb (hts _ tw_57) rfl hI 0 rfl (fun _ => rfl) (by decide) (by decide) (by decide) (Nat.le_of_ble_eq_true rfl) (Nat.le_of_ble_eq_true rfl) d_Mo_init_387 (fun q_227 H f hq_228 hI e_230 hk_229 => ?_)
  have e0 := mz_keep hz hq_228 hk_229 e0
  have hz := mz_new (k := 64) hz hq_228 hk_229 e_230
  refine ra_putF (ci := 11) (C := R_Mo) (T := F_Mo) (N := 71) (ty := (.array .int)) hx hb hts in_Mo t_Mo t_Mo_ok n_Mo hown hI hz.1 e0 rfl 64 (by decide) (hts _ tw_1233) (fun _ h9 => h9) rfl hnm rfl (by decide +kernel) rfl rfl (Nat.le_of_ble_eq_true rfl) d_Mo_init_389 (fun H locs f hI e0 hk_231 => ?_)
  have e0 : f h0 = .inr (11, [.int 0, .int 0, .int 0, .ref q_1, .ref q_6, .ref q_11, .ref q_16, .ref q_21, .ref q_26, .int 0, .long 0, .int 0, .long 0, .ref q_31, .ref q_36, .ref q_41, .ref q_46, .ref q_51, .ref q_56, .ref q_61, .ref q_66, .ref q_71, .ref q_76, .ref q_81, .ref q_86, .ref q_91, .ref q_96, .ref q_101, .ref q_106, .ref q_111, .ref q_116, .ref q_121, .ref q_126, .ref q_131, .ref q_136, .int 0, .int (1), .int (1), .int (1), .int 0, .int 0, .ref q_144, .int (-1), .int 0, .int 0, .ref q_150, .ref q_155, .ref q_160, .ref q_165, .ref q_170, .ref q_175, .ref q_180, .ref q_185, .int 0, .int (-1), .int (-1), .int 0, .ref q_192, .ref q_197, .ref q_202, .ref q_207, .ref q_212, .ref q_217, .ref q_222, .ref q_227, .int 0, .int 0, .long 0, .null, .null, .int 0]) := e0
  have hz := mz_put hz hk_231
  refine lv_aload_n hx hb d_Mo_init_392 rfl (lv_at hl 0 rfl) ?_
  refine lv_iconst (v := -1) hx hb d_Mo_init_393 (by decide) ?_
  refine ra_put (ci := 11) (C := R_Mo) (T := F_Mo) (N := 71) (ty := .int) hx hb hts in_Mo t_Mo t_Mo_ok n_Mo hown hI hz.1 e0 rfl 65 (by decide) (hts _ tw_1234) (fun _ h9 => h9) rfl (by decide +kernel) rfl rfl (Nat.le_of_ble_eq_true rfl) d_Mo_init_394 (fun H locs f hI e0 hk_232 => ?_)
  have e0 : f h0 = .inr (11, [.int 0, .int 0, .int 0, .ref q_1, .ref q_6, .ref q_11, .ref q_16, .ref q_21, .ref q_26, .int 0, .long 0, .int 0, .long 0, .ref q_31, .ref q_36, .ref q_41, .ref q_46, .ref q_51, .ref q_56, .ref q_61, .ref q_66, .ref q_71, .ref q_76, .ref q_81, .ref q_86, .ref q_91, .ref q_96, .ref q_101, .ref q_106, .ref q_111, .ref q_116, .ref q_121, .ref q_126, .ref q_131, .ref q_136, .int 0, .int (1), .int (1), .int (1), .int 0, .int 0, .ref q_144, .int (-1), .int 0, .int 0, .ref q_150, .ref q_155, .ref q_160, .ref q_165, .ref q_170, .ref q_175, .ref q_180, .ref q_185, .int 0, .int (-1), .int (-1), .int 0, .ref q_192, .ref q_197, .ref q_202, .ref q_207, .ref q_212, .ref q_217, .ref q_222, .ref q_227, .int (-1), .int 0, .long 0, .null, .null, .int 0]) := e0
  have hz := mz_put hz hk_232
  refine lv_aload_n hx hb d_Mo_init_397 rfl (lv_at hl 0 rfl) ?_
  refine lv_bipush (v := 8) hx hb d_Mo_init_398 (by decide) ?_
  refine ra_newa (atype := .int) (ty := .int) (N' := 8) (a0 := (8, .inl (fun _ => 0))) hx hb (hts _ tw_57) rfl hI 0 rfl (fun _ => rfl) (by decide) (by decide) (by decide) (Nat.le_of_ble_eq_true rfl) (Nat.le_of_ble_eq_true rfl) d_Mo_init_400 (fun q_233 H f hq_234 hI e_236 hk_235 => ?_)
  have e0 := mz_keep hz hq_234 hk_235 e0
  have hz := mz_new (k := 68) hz hq_234 hk_235 e_236
  refine ra_putF (ci := 11) (C := R_Mo) (T := F_Mo) (N := 71) (ty := (.array .int)) hx hb hts in_Mo t_Mo t_Mo_ok n_Mo hown hI hz.1 e0 rfl 68 (by decide) (hts _ tw_1237) (fun _ h9 => h9) rfl hnm rfl (by decide +kernel) rfl rfl (Nat.le_of_ble_eq_true rfl) d_Mo_init_402 (fun H locs f hI e0 hk_237 => ?_)
  have e0 : f h0 = .inr (11, [.int 0, .int 0, .int 0, .ref q_1, .ref q_6, .ref q_11, .ref q_16, .ref q_21, .ref q_26, .int 0, .long 0, .int 0, .long 0, .ref q_31, .ref q_36, .ref q_41, .ref q_46, .ref q_51, .ref q_56, .ref q_61, .ref q_66, .ref q_71, .ref q_76, .ref q_81, .ref q_86, .ref q_91, .ref q_96, .ref q_101, .ref q_106, .ref q_111, .ref q_116, .ref q_121, .ref q_126, .ref q_131, .ref q_136, .int 0, .int (1), .int (1), .int (1), .int 0, .int 0, .ref q_144, .int (-1), .int 0, .int 0, .ref q_150, .ref q_155, .ref q_160, .ref q_165, .ref q_170, .ref q_175, .ref q_180, .ref q_185, .int 0, .int (-1), .int (-1), .int 0, .ref q_192, .ref q_197, .ref q_202, .ref q_207, .ref q_212, .ref q_217, .ref q_222, .ref q_227, .int (-1), .int 0, .long 0, .ref q_233, .null, .int 0]) := e0
  have hz := mz_put hz hk_237
  refine lv_aload_n hx hb d_Mo_init_405 rfl (lv_at hl 0 rfl) ?_
  refine lv_sipush (v := 260) hx hb d_Mo_init_406 (by decide) ?_
  refine ra_newa (atype := .int) (ty := .int) (N' := 260) (a0 := (260, .inl (fun _ => 0))) hx hb (hts _ tw_57) rfl hI 0 rfl (fun _ => rfl) (by decide) (by decide) (by decide) (Nat.le_of_ble_eq_true rfl) (Nat.le_of_ble_eq_true rfl) d_Mo_init_409 (fun q_238 H f hq_239 hI e_241 hk_240 => ?_)
  have e0 := mz_keep hz hq_239 hk_240 e0
  have hz := mz_new (k := 69) hz hq_239 hk_240 e_241
  refine ra_putF (ci := 11) (C := R_Mo) (T := F_Mo) (N := 71) (ty := (.array .int)) hx hb hts in_Mo t_Mo t_Mo_ok n_Mo hown hI hz.1 e0 rfl 69 (by decide) (hts _ tw_1238) (fun _ h9 => h9) rfl hnm rfl (by decide +kernel) rfl rfl (Nat.le_of_ble_eq_true rfl) d_Mo_init_411 (fun H locs f hI e0 hk_242 => ?_)
  have e0 : f h0 = .inr (11, [.int 0, .int 0, .int 0, .ref q_1, .ref q_6, .ref q_11, .ref q_16, .ref q_21, .ref q_26, .int 0, .long 0, .int 0, .long 0, .ref q_31, .ref q_36, .ref q_41, .ref q_46, .ref q_51, .ref q_56, .ref q_61, .ref q_66, .ref q_71, .ref q_76, .ref q_81, .ref q_86, .ref q_91, .ref q_96, .ref q_101, .ref q_106, .ref q_111, .ref q_116, .ref q_121, .ref q_126, .ref q_131, .ref q_136, .int 0, .int (1), .int (1), .int (1), .int 0, .int 0, .ref q_144, .int (-1), .int 0, .int 0, .ref q_150, .ref q_155, .ref q_160, .ref q_165, .ref q_170, .ref q_175, .ref q_180, .ref q_185, .int 0, .int (-1), .int (-1), .int 0, .ref q_192, .ref q_197, .ref q_202, .ref q_207, .ref q_212, .ref q_217, .ref q_222, .ref q_227, .int (-1), .int 0, .long 0, .ref q_233, .ref q_238, .int 0]) := e0
  have hz := mz_put hz hk_242
  refine lv_aload_n hx hb d_Mo_init_414 rfl (lv_at hl 0 rfl) ?_
  refine lv_iload_n hx hb d_Mo_init_415 rfl (lv_at hl 1 rfl) ?_
  refine lv_iconst (v := 1) hx hb d_Mo_init_416 (by decide) ?_
  refine lv_icmp_lt (tgt := 430) hx hb d_Mo_init_417 (by decide) (fun c_243 => ?_) (fun c_243 => ?_)
  · refine lv_iconst (v := 1) hx hb d_Mo_init_430 (by decide) ?_
    refine ra_putF (ci := 11) (C := R_Mo) (T := F_Mo) (N := 71) (ty := .int) hx hb hts in_Mo t_Mo t_Mo_ok n_Mo hown hI hz.1 e0 rfl 1 (by decide) (hts _ tw_1170) (fun _ h9 => h9) rfl hnm rfl (by decide +kernel) rfl rfl (Nat.le_of_ble_eq_true rfl) d_Mo_init_431 (fun H locs f hI e0 hk_244 => ?_)
    have e0 : f h0 = .inr (11, [.int 0, .int (1), .int 0, .ref q_1, .ref q_6, .ref q_11, .ref q_16, .ref q_21, .ref q_26, .int 0, .long 0, .int 0, .long 0, .ref q_31, .ref q_36, .ref q_41, .ref q_46, .ref q_51, .ref q_56, .ref q_61, .ref q_66, .ref q_71, .ref q_76, .ref q_81, .ref q_86, .ref q_91, .ref q_96, .ref q_101, .ref q_106, .ref q_111, .ref q_116, .ref q_121, .ref q_126, .ref q_131, .ref q_136, .int 0, .int (1), .int (1), .int (1), .int 0, .int 0, .ref q_144, .int (-1), .int 0, .int 0, .ref q_150, .ref q_155, .ref q_160, .ref q_165, .ref q_170, .ref q_175, .ref q_180, .ref q_185, .int 0, .int (-1), .int (-1), .int 0, .ref q_192, .ref q_197, .ref q_202, .ref q_207, .ref q_212, .ref q_217, .ref q_222, .ref q_227, .int (-1), .int 0, .long 0, .ref q_233, .ref q_238, .int 0]) := e0
    have hz := mz_put hz hk_244
    have hB : mq_B ca (mz_ad h0 [(69, q_238), (68, q_233), (64, q_227), (63, q_222), (62, q_217), (61, q_212), (60, q_207), (59, q_202), (58, q_197), (57, q_192), (52, q_185), (51, q_180), (50, q_175), (49, q_170), (48, q_165), (47, q_160), (46, q_155), (45, q_150), (41, q_144), (34, q_136), (33, q_131), (32, q_126), (31, q_121), (30, q_116), (29, q_111), (28, q_106), (27, q_101), (26, q_96), (25, q_91), (24, q_86), (23, q_81), (22, q_76), (21, q_71), (20, q_66), (19, q_61), (18, q_56), (17, q_51), (16, q_46), (15, q_41), (14, q_36), (13, q_31), (8, q_26), (7, q_21), (6, q_16), (5, q_11), (4, q_6), (3, q_1)]) (mz_σ (1)) _ f := mz_B hz e0 (by show ∀ k ∈ mq_ar, k ∈ ([69, 68, 64, 63, 62, 61, 60, 59, 58, 57, 52, 51, 50, 49, 48, 47, 46, 45, 41, 34, 33, 32, 31, 30, 29, 28, 27, 26, 25, 24, 23, 22, 21, 20, 19, 18, 17, 16, 15, 14, 13, 8, 7, 6, 5, 4, 3] : List Nat); decide) rfl (mz_in _)
    exact sm_vret hx hb hr hlk hI ⟨_, _, hB, rfl, mz_IH _, mz_BI _, mz_SI _, rfl, rfl⟩ d_Mo_init_434
  · refine lv_iload_n hx hb d_Mo_init_420 rfl (lv_at hl 1 rfl) ?_
    refine lv_ldc (v := 65534) hx hb hown (hts _ tw_1168) d_Mo_init_421 ?_
    refine lv_icmp_gt (tgt := 430) hx hb d_Mo_init_423 (by decide) (fun c_245 => ?_) (fun c_245 => ?_)
    · refine lv_iconst (v := 1) hx hb d_Mo_init_430 (by decide) ?_
      refine ra_putF (ci := 11) (C := R_Mo) (T := F_Mo) (N := 71) (ty := .int) hx hb hts in_Mo t_Mo t_Mo_ok n_Mo hown hI hz.1 e0 rfl 1 (by decide) (hts _ tw_1170) (fun _ h9 => h9) rfl hnm rfl (by decide +kernel) rfl rfl (Nat.le_of_ble_eq_true rfl) d_Mo_init_431 (fun H locs f hI e0 hk_246 => ?_)
      have e0 : f h0 = .inr (11, [.int 0, .int (1), .int 0, .ref q_1, .ref q_6, .ref q_11, .ref q_16, .ref q_21, .ref q_26, .int 0, .long 0, .int 0, .long 0, .ref q_31, .ref q_36, .ref q_41, .ref q_46, .ref q_51, .ref q_56, .ref q_61, .ref q_66, .ref q_71, .ref q_76, .ref q_81, .ref q_86, .ref q_91, .ref q_96, .ref q_101, .ref q_106, .ref q_111, .ref q_116, .ref q_121, .ref q_126, .ref q_131, .ref q_136, .int 0, .int (1), .int (1), .int (1), .int 0, .int 0, .ref q_144, .int (-1), .int 0, .int 0, .ref q_150, .ref q_155, .ref q_160, .ref q_165, .ref q_170, .ref q_175, .ref q_180, .ref q_185, .int 0, .int (-1), .int (-1), .int 0, .ref q_192, .ref q_197, .ref q_202, .ref q_207, .ref q_212, .ref q_217, .ref q_222, .ref q_227, .int (-1), .int 0, .long 0, .ref q_233, .ref q_238, .int 0]) := e0
      have hz := mz_put hz hk_246
      have hB : mq_B ca (mz_ad h0 [(69, q_238), (68, q_233), (64, q_227), (63, q_222), (62, q_217), (61, q_212), (60, q_207), (59, q_202), (58, q_197), (57, q_192), (52, q_185), (51, q_180), (50, q_175), (49, q_170), (48, q_165), (47, q_160), (46, q_155), (45, q_150), (41, q_144), (34, q_136), (33, q_131), (32, q_126), (31, q_121), (30, q_116), (29, q_111), (28, q_106), (27, q_101), (26, q_96), (25, q_91), (24, q_86), (23, q_81), (22, q_76), (21, q_71), (20, q_66), (19, q_61), (18, q_56), (17, q_51), (16, q_46), (15, q_41), (14, q_36), (13, q_31), (8, q_26), (7, q_21), (6, q_16), (5, q_11), (4, q_6), (3, q_1)]) (mz_σ (1)) _ f := mz_B hz e0 (by show ∀ k ∈ mq_ar, k ∈ ([69, 68, 64, 63, 62, 61, 60, 59, 58, 57, 52, 51, 50, 49, 48, 47, 46, 45, 41, 34, 33, 32, 31, 30, 29, 28, 27, 26, 25, 24, 23, 22, 21, 20, 19, 18, 17, 16, 15, 14, 13, 8, 7, 6, 5, 4, 3] : List Nat); decide) rfl (mz_in _)
      exact sm_vret hx hb hr hlk hI ⟨_, _, hB, rfl, mz_IH _, mz_BI _, mz_SI _, rfl, rfl⟩ d_Mo_init_434
    · refine lv_iload_n hx hb d_Mo_init_426 rfl (lv_at hl 1 rfl) ?_
      refine lv_goto (tgt := 431) hx hb d_Mo_init_427 (by decide) ?_
      refine ra_putF (ci := 11) (C := R_Mo) (T := F_Mo) (N := 71) (ty := .int) hx hb hts in_Mo t_Mo t_Mo_ok n_Mo hown hI hz.1 e0 rfl 1 (by decide) (hts _ tw_1170) (fun _ h9 => h9) rfl hnm rfl (by decide +kernel) rfl rfl (Nat.le_of_ble_eq_true rfl) d_Mo_init_431 (fun H locs f hI e0 hk_247 => ?_)
      have e0 : f h0 = .inr (11, [.int 0, .int (x1), .int 0, .ref q_1, .ref q_6, .ref q_11, .ref q_16, .ref q_21, .ref q_26, .int 0, .long 0, .int 0, .long 0, .ref q_31, .ref q_36, .ref q_41, .ref q_46, .ref q_51, .ref q_56, .ref q_61, .ref q_66, .ref q_71, .ref q_76, .ref q_81, .ref q_86, .ref q_91, .ref q_96, .ref q_101, .ref q_106, .ref q_111, .ref q_116, .ref q_121, .ref q_126, .ref q_131, .ref q_136, .int 0, .int (1), .int (1), .int (1), .int 0, .int 0, .ref q_144, .int (-1), .int 0, .int 0, .ref q_150, .ref q_155, .ref q_160, .ref q_165, .ref q_170, .ref q_175, .ref q_180, .ref q_185, .int 0, .int (-1), .int (-1), .int 0, .ref q_192, .ref q_197, .ref q_202, .ref q_207, .ref q_212, .ref q_217, .ref q_222, .ref q_227, .int (-1), .int 0, .long 0, .ref q_233, .ref q_238, .int 0]) := e0
      have hz := mz_put hz hk_247
      have hB : mq_B ca (mz_ad h0 [(69, q_238), (68, q_233), (64, q_227), (63, q_222), (62, q_217), (61, q_212), (60, q_207), (59, q_202), (58, q_197), (57, q_192), (52, q_185), (51, q_180), (50, q_175), (49, q_170), (48, q_165), (47, q_160), (46, q_155), (45, q_150), (41, q_144), (34, q_136), (33, q_131), (32, q_126), (31, q_121), (30, q_116), (29, q_111), (28, q_106), (27, q_101), (26, q_96), (25, q_91), (24, q_86), (23, q_81), (22, q_76), (21, q_71), (20, q_66), (19, q_61), (18, q_56), (17, q_51), (16, q_46), (15, q_41), (14, q_36), (13, q_31), (8, q_26), (7, q_21), (6, q_16), (5, q_11), (4, q_6), (3, q_1)]) (mz_σ (x1)) _ f := mz_B hz e0 (by show ∀ k ∈ mq_ar, k ∈ ([69, 68, 64, 63, 62, 61, 60, 59, 58, 57, 52, 51, 50, 49, 48, 47, 46, 45, 41, 34, 33, 32, 31, 30, 29, 28, 27, 26, 25, 24, 23, 22, 21, 20, 19, 18, 17, 16, 15, 14, 13, 8, 7, 6, 5, 4, 3] : List Nat); decide) rfl (mz_in _)
      exact sm_vret hx hb hr hlk hI ⟨_, _, hB, rfl, mz_IH _, mz_BI _, mz_SI _, rfl, rfl⟩ d_Mo_init_434
