theorem dX11_init_0 : decode cX11_init 0 = .ok (.aload_n 0, 1) := by decide +kernel
theorem dX11_init_1 : decode cX11_init 1 = .ok (.invokespecial 1, 3) := by decide +kernel
theorem dX11_init_4 : decode cX11_init 4 = .ok (.aload_n 0, 1) := by decide +kernel
theorem dX11_init_5 : decode cX11_init 5 = .ok (.sipush 24000, 3) := by decide +kernel
theorem dX11_init_8 : decode cX11_init 8 = .ok (.newarray .long, 2) := by decide +kernel
theorem dX11_init_10 : decode cX11_init 10 = .ok (.putfield 9, 3) := by decide +kernel
theorem dX11_init_13 : decode cX11_init 13 = .ok (.aload_n 0, 1) := by decide +kernel
theorem dX11_init_14 : decode cX11_init 14 = .ok (.sipush 24000, 3) := by decide +kernel
theorem dX11_init_17 : decode cX11_init 17 = .ok (.newarray .int, 2) := by decide +kernel
theorem dX11_init_19 : decode cX11_init 19 = .ok (.putfield 13, 3) := by decide +kernel
theorem dX11_init_22 : decode cX11_init 22 = .ok (.aload_n 0, 1) := by decide +kernel
theorem dX11_init_23 : decode cX11_init 23 = .ok (.sipush 24000, 3) := by decide +kernel
theorem dX11_init_26 : decode cX11_init 26 = .ok (.newarray .long, 2) := by decide +kernel
theorem dX11_init_28 : decode cX11_init 28 = .ok (.putfield 17, 3) := by decide +kernel
theorem dX11_init_31 : decode cX11_init 31 = .ok (.aload_n 0, 1) := by decide +kernel
theorem dX11_init_32 : decode cX11_init 32 = .ok (.sipush 24000, 3) := by decide +kernel
theorem dX11_init_35 : decode cX11_init 35 = .ok (.newarray .long, 2) := by decide +kernel
theorem dX11_init_37 : decode cX11_init 37 = .ok (.putfield 20, 3) := by decide +kernel
theorem dX11_init_40 : decode cX11_init 40 = .ok (.aload_n 0, 1) := by decide +kernel
theorem dX11_init_41 : decode cX11_init 41 = .ok (.sipush 1001, 3) := by decide +kernel
theorem dX11_init_44 : decode cX11_init 44 = .ok (.newarray .int, 2) := by decide +kernel
theorem dX11_init_46 : decode cX11_init 46 = .ok (.putfield 23, 3) := by decide +kernel
theorem dX11_init_49 : decode cX11_init 49 = .ok (.aload_n 0, 1) := by decide +kernel
theorem dX11_init_50 : decode cX11_init 50 = .ok (.sipush 1001, 3) := by decide +kernel
theorem dX11_init_53 : decode cX11_init 53 = .ok (.newarray .int, 2) := by decide +kernel
theorem dX11_init_55 : decode cX11_init 55 = .ok (.putfield 26, 3) := by decide +kernel
theorem dX11_init_58 : decode cX11_init 58 = .ok (.aload_n 0, 1) := by decide +kernel
theorem dX11_init_59 : decode cX11_init 59 = .ok (.sipush 1000, 3) := by decide +kernel
theorem dX11_init_62 : decode cX11_init 62 = .ok (.newarray .boolean, 2) := by decide +kernel
theorem dX11_init_64 : decode cX11_init 64 = .ok (.putfield 29, 3) := by decide +kernel
theorem dX11_init_67 : decode cX11_init 67 = .ok (.aload_n 0, 1) := by decide +kernel
theorem dX11_init_68 : decode cX11_init 68 = .ok (.sipush 1000, 3) := by decide +kernel
theorem dX11_init_71 : decode cX11_init 71 = .ok (.newarray .boolean, 2) := by decide +kernel
theorem dX11_init_73 : decode cX11_init 73 = .ok (.putfield 33, 3) := by decide +kernel
theorem dX11_init_76 : decode cX11_init 76 = .ok (.aload_n 0, 1) := by decide +kernel
theorem dX11_init_77 : decode cX11_init 77 = .ok (.sipush 1000, 3) := by decide +kernel
theorem dX11_init_80 : decode cX11_init 80 = .ok (.newarray .boolean, 2) := by decide +kernel
theorem dX11_init_82 : decode cX11_init 82 = .ok (.putfield 36, 3) := by decide +kernel
theorem dX11_init_85 : decode cX11_init 85 = .ok (.aload_n 0, 1) := by decide +kernel
theorem dX11_init_86 : decode cX11_init 86 = .ok (.sipush 1000, 3) := by decide +kernel
theorem dX11_init_89 : decode cX11_init 89 = .ok (.newarray .byte, 2) := by decide +kernel
theorem dX11_init_91 : decode cX11_init 91 = .ok (.putfield 39, 3) := by decide +kernel
theorem dX11_init_94 : decode cX11_init 94 = .ok (.aload_n 0, 1) := by decide +kernel
theorem dX11_init_95 : decode cX11_init 95 = .ok (.sipush 1000, 3) := by decide +kernel
theorem dX11_init_98 : decode cX11_init 98 = .ok (.newarray .short, 2) := by decide +kernel
theorem dX11_init_100 : decode cX11_init 100 = .ok (.putfield 43, 3) := by decide +kernel
theorem dX11_init_103 : decode cX11_init 103 = .ok (.aload_n 0, 1) := by decide +kernel
theorem dX11_init_104 : decode cX11_init 104 = .ok (.sipush 1000, 3) := by decide +kernel
theorem dX11_init_107 : decode cX11_init 107 = .ok (.newarray .short, 2) := by decide +kernel
theorem dX11_init_109 : decode cX11_init 109 = .ok (.putfield 47, 3) := by decide +kernel
theorem dX11_init_112 : decode cX11_init 112 = .ok (.aload_n 0, 1) := by decide +kernel
theorem dX11_init_113 : decode cX11_init 113 = .ok (.sipush 1000, 3) := by decide +kernel
theorem dX11_init_116 : decode cX11_init 116 = .ok (.newarray .int, 2) := by decide +kernel
theorem dX11_init_118 : decode cX11_init 118 = .ok (.putfield 50, 3) := by decide +kernel
theorem dX11_init_121 : decode cX11_init 121 = .ok (.aload_n 0, 1) := by decide +kernel
theorem dX11_init_122 : decode cX11_init 122 = .ok (.sipush 1000, 3) := by decide +kernel
theorem dX11_init_125 : decode cX11_init 125 = .ok (.newarray .int, 2) := by decide +kernel
theorem dX11_init_127 : decode cX11_init 127 = .ok (.putfield 53, 3) := by decide +kernel
theorem dX11_init_130 : decode cX11_init 130 = .ok (.aload_n 0, 1) := by decide +kernel
theorem dX11_init_131 : decode cX11_init 131 = .ok (.sipush 16000, 3) := by decide +kernel
theorem dX11_init_134 : decode cX11_init 134 = .ok (.newarray .long, 2) := by decide +kernel
theorem dX11_init_136 : decode cX11_init 136 = .ok (.putfield 56, 3) := by decide +kernel
theorem dX11_init_139 : decode cX11_init 139 = .ok (.aload_n 0, 1) := by decide +kernel
theorem dX11_init_140 : decode cX11_init 140 = .ok (.sipush 3000, 3) := by decide +kernel
theorem dX11_init_143 : decode cX11_init 143 = .ok (.newarray .short, 2) := by decide +kernel
theorem dX11_init_145 : decode cX11_init 145 = .ok (.putfield 59, 3) := by decide +kernel
theorem dX11_init_148 : decode cX11_init 148 = .ok (.aload_n 0, 1) := by decide +kernel
theorem dX11_init_149 : decode cX11_init 149 = .ok (.sipush 3000, 3) := by decide +kernel
theorem dX11_init_152 : decode cX11_init 152 = .ok (.newarray .short, 2) := by decide +kernel
theorem dX11_init_154 : decode cX11_init 154 = .ok (.putfield 62, 3) := by decide +kernel
theorem dX11_init_157 : decode cX11_init 157 = .ok (.aload_n 0, 1) := by decide +kernel
theorem dX11_init_158 : decode cX11_init 158 = .ok (.sipush 3000, 3) := by decide +kernel
theorem dX11_init_161 : decode cX11_init 161 = .ok (.newarray .short, 2) := by decide +kernel
theorem dX11_init_163 : decode cX11_init 163 = .ok (.putfield 65, 3) := by decide +kernel
theorem dX11_init_166 : decode cX11_init 166 = .ok (.aload_n 0, 1) := by decide +kernel
theorem dX11_init_167 : decode cX11_init 167 = .ok (.sipush 3000, 3) := by decide +kernel
theorem dX11_init_170 : decode cX11_init 170 = .ok (.newarray .short, 2) := by decide +kernel
theorem dX11_init_172 : decode cX11_init 172 = .ok (.putfield 68, 3) := by decide +kernel
theorem dX11_init_175 : decode cX11_init 175 = .ok (.aload_n 0, 1) := by decide +kernel
theorem dX11_init_176 : decode cX11_init 176 = .ok (.sipush 3000, 3) := by decide +kernel
theorem dX11_init_179 : decode cX11_init 179 = .ok (.newarray .boolean, 2) := by decide +kernel
theorem dX11_init_181 : decode cX11_init 181 = .ok (.putfield 71, 3) := by decide +kernel
theorem dX11_init_184 : decode cX11_init 184 = .ok (.aload_n 0, 1) := by decide +kernel
theorem dX11_init_185 : decode cX11_init 185 = .ok (.sipush 3000, 3) := by decide +kernel
theorem dX11_init_188 : decode cX11_init 188 = .ok (.newarray .boolean, 2) := by decide +kernel
theorem dX11_init_190 : decode cX11_init 190 = .ok (.putfield 74, 3) := by decide +kernel
theorem dX11_init_193 : decode cX11_init 193 = .ok (.aload_n 0, 1) := by decide +kernel
theorem dX11_init_194 : decode cX11_init 194 = .ok (.sipush 3000, 3) := by decide +kernel
theorem dX11_init_197 : decode cX11_init 197 = .ok (.newarray .short, 2) := by decide +kernel
theorem dX11_init_199 : decode cX11_init 199 = .ok (.putfield 77, 3) := by decide +kernel
theorem dX11_init_202 : decode cX11_init 202 = .ok (.aload_n 0, 1) := by decide +kernel
theorem dX11_init_203 : decode cX11_init 203 = .ok (.sipush 3000, 3) := by decide +kernel
theorem dX11_init_206 : decode cX11_init 206 = .ok (.newarray .short, 2) := by decide +kernel
theorem dX11_init_208 : decode cX11_init 208 = .ok (.putfield 80, 3) := by decide +kernel
theorem dX11_init_211 : decode cX11_init 211 = .ok (.aload_n 0, 1) := by decide +kernel
theorem dX11_init_212 : decode cX11_init 212 = .ok (.sipush 24000, 3) := by decide +kernel
theorem dX11_init_215 : decode cX11_init 215 = .ok (.newarray .long, 2) := by decide +kernel
theorem dX11_init_217 : decode cX11_init 217 = .ok (.putfield 83, 3) := by decide +kernel
theorem dX11_init_220 : decode cX11_init 220 = .ok (.aload_n 0, 1) := by decide +kernel
theorem dX11_init_221 : decode cX11_init 221 = .ok (.sipush 24000, 3) := by decide +kernel
theorem dX11_init_224 : decode cX11_init 224 = .ok (.newarray .int, 2) := by decide +kernel
theorem dX11_init_226 : decode cX11_init 226 = .ok (.putfield 86, 3) := by decide +kernel
theorem dX11_init_229 : decode cX11_init 229 = .ok (.aload_n 0, 1) := by decide +kernel
theorem dX11_init_230 : decode cX11_init 230 = .ok (.sipush 24000, 3) := by decide +kernel
theorem dX11_init_233 : decode cX11_init 233 = .ok (.newarray .long, 2) := by decide +kernel
theorem dX11_init_235 : decode cX11_init 235 = .ok (.putfield 89, 3) := by decide +kernel
theorem dX11_init_238 : decode cX11_init 238 = .ok (.aload_n 0, 1) := by decide +kernel
theorem dX11_init_239 : decode cX11_init 239 = .ok (.sipush 24000, 3) := by decide +kernel
theorem dX11_init_242 : decode cX11_init 242 = .ok (.newarray .int, 2) := by decide +kernel
theorem dX11_init_244 : decode cX11_init 244 = .ok (.putfield 92, 3) := by decide +kernel
theorem dX11_init_247 : decode cX11_init 247 = .ok (.aload_n 0, 1) := by decide +kernel
theorem dX11_init_248 : decode cX11_init 248 = .ok (.sipush 24000, 3) := by decide +kernel
theorem dX11_init_251 : decode cX11_init 251 = .ok (.newarray .long, 2) := by decide +kernel
theorem dX11_init_253 : decode cX11_init 253 = .ok (.putfield 95, 3) := by decide +kernel
theorem dX11_init_256 : decode cX11_init 256 = .ok (.aload_n 0, 1) := by decide +kernel
theorem dX11_init_257 : decode cX11_init 257 = .ok (.sipush 24000, 3) := by decide +kernel
theorem dX11_init_260 : decode cX11_init 260 = .ok (.newarray .long, 2) := by decide +kernel
theorem dX11_init_262 : decode cX11_init 262 = .ok (.putfield 98, 3) := by decide +kernel
theorem dX11_init_265 : decode cX11_init 265 = .ok (.aload_n 0, 1) := by decide +kernel
theorem dX11_init_266 : decode cX11_init 266 = .ok (.sipush 600, 3) := by decide +kernel
theorem dX11_init_269 : decode cX11_init 269 = .ok (.newarray .boolean, 2) := by decide +kernel
theorem dX11_init_271 : decode cX11_init 271 = .ok (.putfield 101, 3) := by decide +kernel
theorem dX11_init_274 : decode cX11_init 274 = .ok (.aload_n 0, 1) := by decide +kernel
theorem dX11_init_275 : decode cX11_init 275 = .ok (.iconst (-1), 1) := by decide +kernel
theorem dX11_init_276 : decode cX11_init 276 = .ok (.putfield 104, 3) := by decide +kernel
theorem dX11_init_279 : decode cX11_init 279 = .ok (.aload_n 0, 1) := by decide +kernel
theorem dX11_init_280 : decode cX11_init 280 = .ok (.iconst (-1), 1) := by decide +kernel
theorem dX11_init_281 : decode cX11_init 281 = .ok (.putfield 108, 3) := by decide +kernel
theorem dX11_init_284 : decode cX11_init 284 = .ok (.aload_n 0, 1) := by decide +kernel
theorem dX11_init_285 : decode cX11_init 285 = .ok (.sipush 24000, 3) := by decide +kernel
theorem dX11_init_288 : decode cX11_init 288 = .ok (.newarray .long, 2) := by decide +kernel
theorem dX11_init_290 : decode cX11_init 290 = .ok (.putfield 111, 3) := by decide +kernel
theorem dX11_init_293 : decode cX11_init 293 = .ok (.aload_n 0, 1) := by decide +kernel
theorem dX11_init_294 : decode cX11_init 294 = .ok (.sipush 24000, 3) := by decide +kernel
theorem dX11_init_297 : decode cX11_init 297 = .ok (.newarray .int, 2) := by decide +kernel
theorem dX11_init_299 : decode cX11_init 299 = .ok (.putfield 114, 3) := by decide +kernel
theorem dX11_init_302 : decode cX11_init 302 = .ok (.aload_n 0, 1) := by decide +kernel
theorem dX11_init_303 : decode cX11_init 303 = .ok (.sipush 24000, 3) := by decide +kernel
theorem dX11_init_306 : decode cX11_init 306 = .ok (.newarray .long, 2) := by decide +kernel
theorem dX11_init_308 : decode cX11_init 308 = .ok (.putfield 117, 3) := by decide +kernel
theorem dX11_init_311 : decode cX11_init 311 = .ok (.aload_n 0, 1) := by decide +kernel
theorem dX11_init_312 : decode cX11_init 312 = .ok (.sipush 24000, 3) := by decide +kernel
theorem dX11_init_315 : decode cX11_init 315 = .ok (.newarray .long, 2) := by decide +kernel
theorem dX11_init_317 : decode cX11_init 317 = .ok (.putfield 120, 3) := by decide +kernel
theorem dX11_init_320 : decode cX11_init 320 = .ok (.aload_n 0, 1) := by decide +kernel
theorem dX11_init_321 : decode cX11_init 321 = .ok (.sipush 1001, 3) := by decide +kernel
theorem dX11_init_324 : decode cX11_init 324 = .ok (.newarray .int, 2) := by decide +kernel
theorem dX11_init_326 : decode cX11_init 326 = .ok (.putfield 123, 3) := by decide +kernel
theorem dX11_init_329 : decode cX11_init 329 = .ok (.aload_n 0, 1) := by decide +kernel
theorem dX11_init_330 : decode cX11_init 330 = .ok (.sipush 1001, 3) := by decide +kernel
theorem dX11_init_333 : decode cX11_init 333 = .ok (.newarray .int, 2) := by decide +kernel
theorem dX11_init_335 : decode cX11_init 335 = .ok (.putfield 126, 3) := by decide +kernel
theorem dX11_init_338 : decode cX11_init 338 = .ok (.aload_n 0, 1) := by decide +kernel
theorem dX11_init_339 : decode cX11_init 339 = .ok (.sipush 1000, 3) := by decide +kernel
theorem dX11_init_342 : decode cX11_init 342 = .ok (.newarray .boolean, 2) := by decide +kernel
theorem dX11_init_344 : decode cX11_init 344 = .ok (.putfield 129, 3) := by decide +kernel
theorem dX11_init_347 : decode cX11_init 347 = .ok (.aload_n 0, 1) := by decide +kernel
theorem dX11_init_348 : decode cX11_init 348 = .ok (.sipush 1000, 3) := by decide +kernel
theorem dX11_init_351 : decode cX11_init 351 = .ok (.newarray .boolean, 2) := by decide +kernel
theorem dX11_init_353 : decode cX11_init 353 = .ok (.putfield 132, 3) := by decide +kernel
theorem dX11_init_356 : decode cX11_init 356 = .ok (.aload_n 0, 1) := by decide +kernel
theorem dX11_init_357 : decode cX11_init 357 = .ok (.sipush 1000, 3) := by decide +kernel
theorem dX11_init_360 : decode cX11_init 360 = .ok (.newarray .boolean, 2) := by decide +kernel
theorem dX11_init_362 : decode cX11_init 362 = .ok (.putfield 135, 3) := by decide +kernel
theorem dX11_init_365 : decode cX11_init 365 = .ok (.aload_n 0, 1) := by decide +kernel
theorem dX11_init_366 : decode cX11_init 366 = .ok (.sipush 1000, 3) := by decide +kernel
theorem dX11_init_369 : decode cX11_init 369 = .ok (.newarray .byte, 2) := by decide +kernel
theorem dX11_init_371 : decode cX11_init 371 = .ok (.putfield 138, 3) := by decide +kernel
theorem dX11_init_374 : decode cX11_init 374 = .ok (.aload_n 0, 1) := by decide +kernel
theorem dX11_init_375 : decode cX11_init 375 = .ok (.sipush 1000, 3) := by decide +kernel
theorem dX11_init_378 : decode cX11_init 378 = .ok (.newarray .short, 2) := by decide +kernel
theorem dX11_init_380 : decode cX11_init 380 = .ok (.putfield 141, 3) := by decide +kernel
theorem dX11_init_383 : decode cX11_init 383 = .ok (.aload_n 0, 1) := by decide +kernel
theorem dX11_init_384 : decode cX11_init 384 = .ok (.sipush 1000, 3) := by decide +kernel
theorem dX11_init_387 : decode cX11_init 387 = .ok (.newarray .short, 2) := by decide +kernel
theorem dX11_init_389 : decode cX11_init 389 = .ok (.putfield 144, 3) := by decide +kernel
theorem dX11_init_392 : decode cX11_init 392 = .ok (.aload_n 0, 1) := by decide +kernel
theorem dX11_init_393 : decode cX11_init 393 = .ok (.sipush 1000, 3) := by decide +kernel
theorem dX11_init_396 : decode cX11_init 396 = .ok (.newarray .int, 2) := by decide +kernel
theorem dX11_init_398 : decode cX11_init 398 = .ok (.putfield 147, 3) := by decide +kernel
theorem dX11_init_401 : decode cX11_init 401 = .ok (.aload_n 0, 1) := by decide +kernel
theorem dX11_init_402 : decode cX11_init 402 = .ok (.sipush 1000, 3) := by decide +kernel
theorem dX11_init_405 : decode cX11_init 405 = .ok (.newarray .int, 2) := by decide +kernel
theorem dX11_init_407 : decode cX11_init 407 = .ok (.putfield 150, 3) := by decide +kernel
theorem dX11_init_410 : decode cX11_init 410 = .ok (.aload_n 0, 1) := by decide +kernel
theorem dX11_init_411 : decode cX11_init 411 = .ok (.sipush 16000, 3) := by decide +kernel
theorem dX11_init_414 : decode cX11_init 414 = .ok (.newarray .long, 2) := by decide +kernel
theorem dX11_init_416 : decode cX11_init 416 = .ok (.putfield 153, 3) := by decide +kernel
theorem dX11_init_419 : decode cX11_init 419 = .ok (.aload_n 0, 1) := by decide +kernel
theorem dX11_init_420 : decode cX11_init 420 = .ok (.sipush 24000, 3) := by decide +kernel
theorem dX11_init_423 : decode cX11_init 423 = .ok (.newarray .long, 2) := by decide +kernel
theorem dX11_init_425 : decode cX11_init 425 = .ok (.putfield 156, 3) := by decide +kernel
theorem dX11_init_428 : decode cX11_init 428 = .ok (.aload_n 0, 1) := by decide +kernel
theorem dX11_init_429 : decode cX11_init 429 = .ok (.sipush 24000, 3) := by decide +kernel
theorem dX11_init_432 : decode cX11_init 432 = .ok (.newarray .int, 2) := by decide +kernel
theorem dX11_init_434 : decode cX11_init 434 = .ok (.putfield 159, 3) := by decide +kernel
theorem dX11_init_437 : decode cX11_init 437 = .ok (.aload_n 0, 1) := by decide +kernel
theorem dX11_init_438 : decode cX11_init 438 = .ok (.invokevirtual 162, 3) := by decide +kernel
theorem dX11_init_441 : decode cX11_init 441 = .ok (.return_, 1) := by decide +kernel
def cd_134 : dm_Code := [[dm_ald 1 0, dm_oin 4, dm_no, dm_no, dm_ald 5 0, dm_push 8 (.int 24000), dm_no, dm_no, dm_newa 10 .long, dm_no, dm_putf 13 8 0 (.array .long), dm_no, dm_no, dm_ald 14 0, dm_push 17 (.int 24000), dm_no],
  [dm_no, dm_newa 19 .int, dm_no, dm_putf 22 8 1 (.array .int), dm_no, dm_no, dm_ald 23 0, dm_push 26 (.int 24000), dm_no, dm_no, dm_newa 28 .long, dm_no, dm_putf 31 8 2 (.array .long), dm_no, dm_no, dm_ald 32 0],
  [dm_push 35 (.int 24000), dm_no, dm_no, dm_newa 37 .long, dm_no, dm_putf 40 8 3 (.array .long), dm_no, dm_no, dm_ald 41 0, dm_push 44 (.int 1001), dm_no, dm_no, dm_newa 46 .int, dm_no, dm_putf 49 8 4 (.array .int), dm_no],
  [dm_no, dm_ald 50 0, dm_push 53 (.int 1001), dm_no, dm_no, dm_newa 55 .int, dm_no, dm_putf 58 8 5 (.array .int), dm_no, dm_no, dm_ald 59 0, dm_push 62 (.int 1000), dm_no, dm_no, dm_newa 64 .boolean, dm_no],
  [dm_putf 67 8 6 (.array .boolean), dm_no, dm_no, dm_ald 68 0, dm_push 71 (.int 1000), dm_no, dm_no, dm_newa 73 .boolean, dm_no, dm_putf 76 8 7 (.array .boolean), dm_no, dm_no, dm_ald 77 0, dm_push 80 (.int 1000), dm_no, dm_no],
  [dm_newa 82 .boolean, dm_no, dm_putf 85 8 8 (.array .boolean), dm_no, dm_no, dm_ald 86 0, dm_push 89 (.int 1000), dm_no, dm_no, dm_newa 91 .byte, dm_no, dm_putf 94 8 9 (.array .byte), dm_no, dm_no, dm_ald 95 0, dm_push 98 (.int 1000)],
  [dm_no, dm_no, dm_newa 100 .short, dm_no, dm_putf 103 8 10 (.array .short), dm_no, dm_no, dm_ald 104 0, dm_push 107 (.int 1000), dm_no, dm_no, dm_newa 109 .short, dm_no, dm_putf 112 8 11 (.array .short), dm_no, dm_no],
  [dm_ald 113 0, dm_push 116 (.int 1000), dm_no, dm_no, dm_newa 118 .int, dm_no, dm_putf 121 8 12 (.array .int), dm_no, dm_no, dm_ald 122 0, dm_push 125 (.int 1000), dm_no, dm_no, dm_newa 127 .int, dm_no, dm_putf 130 8 13 (.array .int)],
  [dm_no, dm_no, dm_ald 131 0, dm_push 134 (.int 16000), dm_no, dm_no, dm_newa 136 .long, dm_no, dm_putf 139 8 14 (.array .long), dm_no, dm_no, dm_ald 140 0, dm_push 143 (.int 3000), dm_no, dm_no, dm_newa 145 .short],
  [dm_no, dm_putf 148 8 18 (.array .short), dm_no, dm_no, dm_ald 149 0, dm_push 152 (.int 3000), dm_no, dm_no, dm_newa 154 .short, dm_no, dm_putf 157 8 19 (.array .short), dm_no, dm_no, dm_ald 158 0, dm_push 161 (.int 3000), dm_no],
  [dm_no, dm_newa 163 .short, dm_no, dm_putf 166 8 20 (.array .short), dm_no, dm_no, dm_ald 167 0, dm_push 170 (.int 3000), dm_no, dm_no, dm_newa 172 .short, dm_no, dm_putf 175 8 21 (.array .short), dm_no, dm_no, dm_ald 176 0],
  [dm_push 179 (.int 3000), dm_no, dm_no, dm_newa 181 .boolean, dm_no, dm_putf 184 8 22 (.array .boolean), dm_no, dm_no, dm_ald 185 0, dm_push 188 (.int 3000), dm_no, dm_no, dm_newa 190 .boolean, dm_no, dm_putf 193 8 23 (.array .boolean), dm_no],
  [dm_no, dm_ald 194 0, dm_push 197 (.int 3000), dm_no, dm_no, dm_newa 199 .short, dm_no, dm_putf 202 8 24 (.array .short), dm_no, dm_no, dm_ald 203 0, dm_push 206 (.int 3000), dm_no, dm_no, dm_newa 208 .short, dm_no],
  [dm_putf 211 8 25 (.array .short), dm_no, dm_no, dm_ald 212 0, dm_push 215 (.int 24000), dm_no, dm_no, dm_newa 217 .long, dm_no, dm_putf 220 8 27 (.array .long), dm_no, dm_no, dm_ald 221 0, dm_push 224 (.int 24000), dm_no, dm_no],
  [dm_newa 226 .int, dm_no, dm_putf 229 8 28 (.array .int), dm_no, dm_no, dm_ald 230 0, dm_push 233 (.int 24000), dm_no, dm_no, dm_newa 235 .long, dm_no, dm_putf 238 8 30 (.array .long), dm_no, dm_no, dm_ald 239 0, dm_push 242 (.int 24000)],
  [dm_no, dm_no, dm_newa 244 .int, dm_no, dm_putf 247 8 31 (.array .int), dm_no, dm_no, dm_ald 248 0, dm_push 251 (.int 24000), dm_no, dm_no, dm_newa 253 .long, dm_no, dm_putf 256 8 32 (.array .long), dm_no, dm_no],
  [dm_ald 257 0, dm_push 260 (.int 24000), dm_no, dm_no, dm_newa 262 .long, dm_no, dm_putf 265 8 33 (.array .long), dm_no, dm_no, dm_ald 266 0, dm_push 269 (.int 600), dm_no, dm_no, dm_newa 271 .boolean, dm_no, dm_putf 274 8 35 (.array .boolean)],
  [dm_no, dm_no, dm_ald 275 0, dm_push 276 (.int (-1)), dm_putf 279 8 37 .int, dm_no, dm_no, dm_ald 280 0, dm_push 281 (.int (-1)), dm_putf 284 8 39 .int, dm_no, dm_no, dm_ald 285 0, dm_push 288 (.int 24000), dm_no, dm_no],
  [dm_newa 290 .long, dm_no, dm_putf 293 8 42 (.array .long), dm_no, dm_no, dm_ald 294 0, dm_push 297 (.int 24000), dm_no, dm_no, dm_newa 299 .int, dm_no, dm_putf 302 8 43 (.array .int), dm_no, dm_no, dm_ald 303 0, dm_push 306 (.int 24000)],
  [dm_no, dm_no, dm_newa 308 .long, dm_no, dm_putf 311 8 44 (.array .long), dm_no, dm_no, dm_ald 312 0, dm_push 315 (.int 24000), dm_no, dm_no, dm_newa 317 .long, dm_no, dm_putf 320 8 45 (.array .long), dm_no, dm_no],
  [dm_ald 321 0, dm_push 324 (.int 1001), dm_no, dm_no, dm_newa 326 .int, dm_no, dm_putf 329 8 46 (.array .int), dm_no, dm_no, dm_ald 330 0, dm_push 333 (.int 1001), dm_no, dm_no, dm_newa 335 .int, dm_no, dm_putf 338 8 47 (.array .int)],
  [dm_no, dm_no, dm_ald 339 0, dm_push 342 (.int 1000), dm_no, dm_no, dm_newa 344 .boolean, dm_no, dm_putf 347 8 48 (.array .boolean), dm_no, dm_no, dm_ald 348 0, dm_push 351 (.int 1000), dm_no, dm_no, dm_newa 353 .boolean],
  [dm_no, dm_putf 356 8 49 (.array .boolean), dm_no, dm_no, dm_ald 357 0, dm_push 360 (.int 1000), dm_no, dm_no, dm_newa 362 .boolean, dm_no, dm_putf 365 8 50 (.array .boolean), dm_no, dm_no, dm_ald 366 0, dm_push 369 (.int 1000), dm_no],
  [dm_no, dm_newa 371 .byte, dm_no, dm_putf 374 8 51 (.array .byte), dm_no, dm_no, dm_ald 375 0, dm_push 378 (.int 1000), dm_no, dm_no, dm_newa 380 .short, dm_no, dm_putf 383 8 52 (.array .short), dm_no, dm_no, dm_ald 384 0],
  [dm_push 387 (.int 1000), dm_no, dm_no, dm_newa 389 .short, dm_no, dm_putf 392 8 53 (.array .short), dm_no, dm_no, dm_ald 393 0, dm_push 396 (.int 1000), dm_no, dm_no, dm_newa 398 .int, dm_no, dm_putf 401 8 54 (.array .int), dm_no],
  [dm_no, dm_ald 402 0, dm_push 405 (.int 1000), dm_no, dm_no, dm_newa 407 .int, dm_no, dm_putf 410 8 55 (.array .int), dm_no, dm_no, dm_ald 411 0, dm_push 414 (.int 16000), dm_no, dm_no, dm_newa 416 .long, dm_no],
  [dm_putf 419 8 56 (.array .long), dm_no, dm_no, dm_ald 420 0, dm_push 423 (.int 24000), dm_no, dm_no, dm_newa 425 .long, dm_no, dm_putf 428 8 62 (.array .long), dm_no, dm_no, dm_ald 429 0, dm_push 432 (.int 24000), dm_no, dm_no],
  [dm_newa 434 .int, dm_no, dm_putf 437 8 63 (.array .int), dm_no, dm_no, dm_ald 438 0, dm_inv 441 135 0 8, dm_no, dm_no, dm_vret]]
theorem tr_134_0 : dm_AllR (dm_Good dm_tb RX11 cX11_init 1 none true none) 0 [dm_ald 1 0, dm_oin 4, dm_no, dm_no, dm_ald 5 0, dm_push 8 (.int 24000), dm_no, dm_no, dm_newa 10 .long, dm_no, dm_putf 13 8 0 (.array .long), dm_no, dm_no, dm_ald 14 0, dm_push 17 (.int 24000), dm_no] := dr_c (dg_aload_n (k := 0) rfl dX11_init_0) <| dr_c (dg_oin dX11_init_1 wd_913 wd_86 wd_87) <| dr_c (dg_no) <| dr_c (dg_no) <| dr_c (dg_aload_n (k := 0) rfl dX11_init_4) <| dr_c (dg_sipush (by decide) dX11_init_5) <| dr_c (dg_no) <| dr_c (dg_no) <| dr_c (dg_newa dX11_init_8 rfl rfl wd_1153) <| dr_c (dg_no) <| dr_c (dg_putF (T := TX11) (C := RX11) (N := 68) dX11_init_10 rfl (by decide) iw_X11 tyX11_ok nmX11 wd_948 rfl rfl rfl) <| dr_c (dg_no) <| dr_c (dg_no) <| dr_c (dg_aload_n (k := 0) rfl dX11_init_13) <| dr_c (dg_sipush (by decide) dX11_init_14) <| dr_c (dg_no) <| dr_n
theorem tr_134_1 : dm_AllR (dm_Good dm_tb RX11 cX11_init 1 none true none) 16 [dm_no, dm_newa 19 .int, dm_no, dm_putf 22 8 1 (.array .int), dm_no, dm_no, dm_ald 23 0, dm_push 26 (.int 24000), dm_no, dm_no, dm_newa 28 .long, dm_no, dm_putf 31 8 2 (.array .long), dm_no, dm_no, dm_ald 32 0] := dr_c (dg_no) <| dr_c (dg_newa dX11_init_17 rfl rfl wd_117) <| dr_c (dg_no) <| dr_c (dg_putF (T := TX11) (C := RX11) (N := 68) dX11_init_19 rfl (by decide) iw_X11 tyX11_ok nmX11 wd_949 rfl rfl rfl) <| dr_c (dg_no) <| dr_c (dg_no) <| dr_c (dg_aload_n (k := 0) rfl dX11_init_22) <| dr_c (dg_sipush (by decide) dX11_init_23) <| dr_c (dg_no) <| dr_c (dg_no) <| dr_c (dg_newa dX11_init_26 rfl rfl wd_1153) <| dr_c (dg_no) <| dr_c (dg_putF (T := TX11) (C := RX11) (N := 68) dX11_init_28 rfl (by decide) iw_X11 tyX11_ok nmX11 wd_950 rfl rfl rfl) <| dr_c (dg_no) <| dr_c (dg_no) <| dr_c (dg_aload_n (k := 0) rfl dX11_init_31) <| dr_n
theorem tr_134_2 : dm_AllR (dm_Good dm_tb RX11 cX11_init 1 none true none) 32 [dm_push 35 (.int 24000), dm_no, dm_no, dm_newa 37 .long, dm_no, dm_putf 40 8 3 (.array .long), dm_no, dm_no, dm_ald 41 0, dm_push 44 (.int 1001), dm_no, dm_no, dm_newa 46 .int, dm_no, dm_putf 49 8 4 (.array .int), dm_no] := dr_c (dg_sipush (by decide) dX11_init_32) <| dr_c (dg_no) <| dr_c (dg_no) <| dr_c (dg_newa dX11_init_35 rfl rfl wd_1153) <| dr_c (dg_no) <| dr_c (dg_putF (T := TX11) (C := RX11) (N := 68) dX11_init_37 rfl (by decide) iw_X11 tyX11_ok nmX11 wd_951 rfl rfl rfl) <| dr_c (dg_no) <| dr_c (dg_no) <| dr_c (dg_aload_n (k := 0) rfl dX11_init_40) <| dr_c (dg_sipush (by decide) dX11_init_41) <| dr_c (dg_no) <| dr_c (dg_no) <| dr_c (dg_newa dX11_init_44 rfl rfl wd_117) <| dr_c (dg_no) <| dr_c (dg_putF (T := TX11) (C := RX11) (N := 68) dX11_init_46 rfl (by decide) iw_X11 tyX11_ok nmX11 wd_952 rfl rfl rfl) <| dr_c (dg_no) <| dr_n
theorem tr_134_3 : dm_AllR (dm_Good dm_tb RX11 cX11_init 1 none true none) 48 [dm_no, dm_ald 50 0, dm_push 53 (.int 1001), dm_no, dm_no, dm_newa 55 .int, dm_no, dm_putf 58 8 5 (.array .int), dm_no, dm_no, dm_ald 59 0, dm_push 62 (.int 1000), dm_no, dm_no, dm_newa 64 .boolean, dm_no] := dr_c (dg_no) <| dr_c (dg_aload_n (k := 0) rfl dX11_init_49) <| dr_c (dg_sipush (by decide) dX11_init_50) <| dr_c (dg_no) <| dr_c (dg_no) <| dr_c (dg_newa dX11_init_53 rfl rfl wd_117) <| dr_c (dg_no) <| dr_c (dg_putF (T := TX11) (C := RX11) (N := 68) dX11_init_55 rfl (by decide) iw_X11 tyX11_ok nmX11 wd_953 rfl rfl rfl) <| dr_c (dg_no) <| dr_c (dg_no) <| dr_c (dg_aload_n (k := 0) rfl dX11_init_58) <| dr_c (dg_sipush (by decide) dX11_init_59) <| dr_c (dg_no) <| dr_c (dg_no) <| dr_c (dg_newa dX11_init_62 rfl rfl wd_1154) <| dr_c (dg_no) <| dr_n
theorem tr_134_4 : dm_AllR (dm_Good dm_tb RX11 cX11_init 1 none true none) 64 [dm_putf 67 8 6 (.array .boolean), dm_no, dm_no, dm_ald 68 0, dm_push 71 (.int 1000), dm_no, dm_no, dm_newa 73 .boolean, dm_no, dm_putf 76 8 7 (.array .boolean), dm_no, dm_no, dm_ald 77 0, dm_push 80 (.int 1000), dm_no, dm_no] := dr_c (dg_putF (T := TX11) (C := RX11) (N := 68) dX11_init_64 rfl (by decide) iw_X11 tyX11_ok nmX11 wd_954 rfl rfl rfl) <| dr_c (dg_no) <| dr_c (dg_no) <| dr_c (dg_aload_n (k := 0) rfl dX11_init_67) <| dr_c (dg_sipush (by decide) dX11_init_68) <| dr_c (dg_no) <| dr_c (dg_no) <| dr_c (dg_newa dX11_init_71 rfl rfl wd_1154) <| dr_c (dg_no) <| dr_c (dg_putF (T := TX11) (C := RX11) (N := 68) dX11_init_73 rfl (by decide) iw_X11 tyX11_ok nmX11 wd_955 rfl rfl rfl) <| dr_c (dg_no) <| dr_c (dg_no) <| dr_c (dg_aload_n (k := 0) rfl dX11_init_76) <| dr_c (dg_sipush (by decide) dX11_init_77) <| dr_c (dg_no) <| dr_c (dg_no) <| dr_n
theorem tr_134_5 : dm_AllR (dm_Good dm_tb RX11 cX11_init 1 none true none) 80 [dm_newa 82 .boolean, dm_no, dm_putf 85 8 8 (.array .boolean), dm_no, dm_no, dm_ald 86 0, dm_push 89 (.int 1000), dm_no, dm_no, dm_newa 91 .byte, dm_no, dm_putf 94 8 9 (.array .byte), dm_no, dm_no, dm_ald 95 0, dm_push 98 (.int 1000)] := dr_c (dg_newa dX11_init_80 rfl rfl wd_1154) <| dr_c (dg_no) <| dr_c (dg_putF (T := TX11) (C := RX11) (N := 68) dX11_init_82 rfl (by decide) iw_X11 tyX11_ok nmX11 wd_956 rfl rfl rfl) <| dr_c (dg_no) <| dr_c (dg_no) <| dr_c (dg_aload_n (k := 0) rfl dX11_init_85) <| dr_c (dg_sipush (by decide) dX11_init_86) <| dr_c (dg_no) <| dr_c (dg_no) <| dr_c (dg_newa dX11_init_89 rfl rfl wd_900) <| dr_c (dg_no) <| dr_c (dg_putF (T := TX11) (C := RX11) (N := 68) dX11_init_91 rfl (by decide) iw_X11 tyX11_ok nmX11 wd_957 rfl rfl rfl) <| dr_c (dg_no) <| dr_c (dg_no) <| dr_c (dg_aload_n (k := 0) rfl dX11_init_94) <| dr_c (dg_sipush (by decide) dX11_init_95) <| dr_n
theorem tr_134_6 : dm_AllR (dm_Good dm_tb RX11 cX11_init 1 none true none) 96 [dm_no, dm_no, dm_newa 100 .short, dm_no, dm_putf 103 8 10 (.array .short), dm_no, dm_no, dm_ald 104 0, dm_push 107 (.int 1000), dm_no, dm_no, dm_newa 109 .short, dm_no, dm_putf 112 8 11 (.array .short), dm_no, dm_no] := dr_c (dg_no) <| dr_c (dg_no) <| dr_c (dg_newa dX11_init_98 rfl rfl wd_1155) <| dr_c (dg_no) <| dr_c (dg_putF (T := TX11) (C := RX11) (N := 68) dX11_init_100 rfl (by decide) iw_X11 tyX11_ok nmX11 wd_958 rfl rfl rfl) <| dr_c (dg_no) <| dr_c (dg_no) <| dr_c (dg_aload_n (k := 0) rfl dX11_init_103) <| dr_c (dg_sipush (by decide) dX11_init_104) <| dr_c (dg_no) <| dr_c (dg_no) <| dr_c (dg_newa dX11_init_107 rfl rfl wd_1155) <| dr_c (dg_no) <| dr_c (dg_putF (T := TX11) (C := RX11) (N := 68) dX11_init_109 rfl (by decide) iw_X11 tyX11_ok nmX11 wd_959 rfl rfl rfl) <| dr_c (dg_no) <| dr_c (dg_no) <| dr_n
theorem tr_134_7 : dm_AllR (dm_Good dm_tb RX11 cX11_init 1 none true none) 112 [dm_ald 113 0, dm_push 116 (.int 1000), dm_no, dm_no, dm_newa 118 .int, dm_no, dm_putf 121 8 12 (.array .int), dm_no, dm_no, dm_ald 122 0, dm_push 125 (.int 1000), dm_no, dm_no, dm_newa 127 .int, dm_no, dm_putf 130 8 13 (.array .int)] := dr_c (dg_aload_n (k := 0) rfl dX11_init_112) <| dr_c (dg_sipush (by decide) dX11_init_113) <| dr_c (dg_no) <| dr_c (dg_no) <| dr_c (dg_newa dX11_init_116 rfl rfl wd_117) <| dr_c (dg_no) <| dr_c (dg_putF (T := TX11) (C := RX11) (N := 68) dX11_init_118 rfl (by decide) iw_X11 tyX11_ok nmX11 wd_960 rfl rfl rfl) <| dr_c (dg_no) <| dr_c (dg_no) <| dr_c (dg_aload_n (k := 0) rfl dX11_init_121) <| dr_c (dg_sipush (by decide) dX11_init_122) <| dr_c (dg_no) <| dr_c (dg_no) <| dr_c (dg_newa dX11_init_125 rfl rfl wd_117) <| dr_c (dg_no) <| dr_c (dg_putF (T := TX11) (C := RX11) (N := 68) dX11_init_127 rfl (by decide) iw_X11 tyX11_ok nmX11 wd_961 rfl rfl rfl) <| dr_n
theorem tr_134_8 : dm_AllR (dm_Good dm_tb RX11 cX11_init 1 none true none) 128 [dm_no, dm_no, dm_ald 131 0, dm_push 134 (.int 16000), dm_no, dm_no, dm_newa 136 .long, dm_no, dm_putf 139 8 14 (.array .long), dm_no, dm_no, dm_ald 140 0, dm_push 143 (.int 3000), dm_no, dm_no, dm_newa 145 .short] := dr_c (dg_no) <| dr_c (dg_no) <| dr_c (dg_aload_n (k := 0) rfl dX11_init_130) <| dr_c (dg_sipush (by decide) dX11_init_131) <| dr_c (dg_no) <| dr_c (dg_no) <| dr_c (dg_newa dX11_init_134 rfl rfl wd_1153) <| dr_c (dg_no) <| dr_c (dg_putF (T := TX11) (C := RX11) (N := 68) dX11_init_136 rfl (by decide) iw_X11 tyX11_ok nmX11 wd_962 rfl rfl rfl) <| dr_c (dg_no) <| dr_c (dg_no) <| dr_c (dg_aload_n (k := 0) rfl dX11_init_139) <| dr_c (dg_sipush (by decide) dX11_init_140) <| dr_c (dg_no) <| dr_c (dg_no) <| dr_c (dg_newa dX11_init_143 rfl rfl wd_1155) <| dr_n
theorem tr_134_9 : dm_AllR (dm_Good dm_tb RX11 cX11_init 1 none true none) 144 [dm_no, dm_putf 148 8 18 (.array .short), dm_no, dm_no, dm_ald 149 0, dm_push 152 (.int 3000), dm_no, dm_no, dm_newa 154 .short, dm_no, dm_putf 157 8 19 (.array .short), dm_no, dm_no, dm_ald 158 0, dm_push 161 (.int 3000), dm_no] := dr_c (dg_no) <| dr_c (dg_putF (T := TX11) (C := RX11) (N := 68) dX11_init_145 rfl (by decide) iw_X11 tyX11_ok nmX11 wd_966 rfl rfl rfl) <| dr_c (dg_no) <| dr_c (dg_no) <| dr_c (dg_aload_n (k := 0) rfl dX11_init_148) <| dr_c (dg_sipush (by decide) dX11_init_149) <| dr_c (dg_no) <| dr_c (dg_no) <| dr_c (dg_newa dX11_init_152 rfl rfl wd_1155) <| dr_c (dg_no) <| dr_c (dg_putF (T := TX11) (C := RX11) (N := 68) dX11_init_154 rfl (by decide) iw_X11 tyX11_ok nmX11 wd_967 rfl rfl rfl) <| dr_c (dg_no) <| dr_c (dg_no) <| dr_c (dg_aload_n (k := 0) rfl dX11_init_157) <| dr_c (dg_sipush (by decide) dX11_init_158) <| dr_c (dg_no) <| dr_n
theorem tr_134_10 : dm_AllR (dm_Good dm_tb RX11 cX11_init 1 none true none) 160 [dm_no, dm_newa 163 .short, dm_no, dm_putf 166 8 20 (.array .short), dm_no, dm_no, dm_ald 167 0, dm_push 170 (.int 3000), dm_no, dm_no, dm_newa 172 .short, dm_no, dm_putf 175 8 21 (.array .short), dm_no, dm_no, dm_ald 176 0] := dr_c (dg_no) <| dr_c (dg_newa dX11_init_161 rfl rfl wd_1155) <| dr_c (dg_no) <| dr_c (dg_putF (T := TX11) (C := RX11) (N := 68) dX11_init_163 rfl (by decide) iw_X11 tyX11_ok nmX11 wd_968 rfl rfl rfl) <| dr_c (dg_no) <| dr_c (dg_no) <| dr_c (dg_aload_n (k := 0) rfl dX11_init_166) <| dr_c (dg_sipush (by decide) dX11_init_167) <| dr_c (dg_no) <| dr_c (dg_no) <| dr_c (dg_newa dX11_init_170 rfl rfl wd_1155) <| dr_c (dg_no) <| dr_c (dg_putF (T := TX11) (C := RX11) (N := 68) dX11_init_172 rfl (by decide) iw_X11 tyX11_ok nmX11 wd_969 rfl rfl rfl) <| dr_c (dg_no) <| dr_c (dg_no) <| dr_c (dg_aload_n (k := 0) rfl dX11_init_175) <| dr_n
theorem tr_134_11 : dm_AllR (dm_Good dm_tb RX11 cX11_init 1 none true none) 176 [dm_push 179 (.int 3000), dm_no, dm_no, dm_newa 181 .boolean, dm_no, dm_putf 184 8 22 (.array .boolean), dm_no, dm_no, dm_ald 185 0, dm_push 188 (.int 3000), dm_no, dm_no, dm_newa 190 .boolean, dm_no, dm_putf 193 8 23 (.array .boolean), dm_no] := dr_c (dg_sipush (by decide) dX11_init_176) <| dr_c (dg_no) <| dr_c (dg_no) <| dr_c (dg_newa dX11_init_179 rfl rfl wd_1154) <| dr_c (dg_no) <| dr_c (dg_putF (T := TX11) (C := RX11) (N := 68) dX11_init_181 rfl (by decide) iw_X11 tyX11_ok nmX11 wd_970 rfl rfl rfl) <| dr_c (dg_no) <| dr_c (dg_no) <| dr_c (dg_aload_n (k := 0) rfl dX11_init_184) <| dr_c (dg_sipush (by decide) dX11_init_185) <| dr_c (dg_no) <| dr_c (dg_no) <| dr_c (dg_newa dX11_init_188 rfl rfl wd_1154) <| dr_c (dg_no) <| dr_c (dg_putF (T := TX11) (C := RX11) (N := 68) dX11_init_190 rfl (by decide) iw_X11 tyX11_ok nmX11 wd_971 rfl rfl rfl) <| dr_c (dg_no) <| dr_n
theorem tr_134_12 : dm_AllR (dm_Good dm_tb RX11 cX11_init 1 none true none) 192 [dm_no, dm_ald 194 0, dm_push 197 (.int 3000), dm_no, dm_no, dm_newa 199 .short, dm_no, dm_putf 202 8 24 (.array .short), dm_no, dm_no, dm_ald 203 0, dm_push 206 (.int 3000), dm_no, dm_no, dm_newa 208 .short, dm_no] := dr_c (dg_no) <| dr_c (dg_aload_n (k := 0) rfl dX11_init_193) <| dr_c (dg_sipush (by decide) dX11_init_194) <| dr_c (dg_no) <| dr_c (dg_no) <| dr_c (dg_newa dX11_init_197 rfl rfl wd_1155) <| dr_c (dg_no) <| dr_c (dg_putF (T := TX11) (C := RX11) (N := 68) dX11_init_199 rfl (by decide) iw_X11 tyX11_ok nmX11 wd_972 rfl rfl rfl) <| dr_c (dg_no) <| dr_c (dg_no) <| dr_c (dg_aload_n (k := 0) rfl dX11_init_202) <| dr_c (dg_sipush (by decide) dX11_init_203) <| dr_c (dg_no) <| dr_c (dg_no) <| dr_c (dg_newa dX11_init_206 rfl rfl wd_1155) <| dr_c (dg_no) <| dr_n
theorem tr_134_13 : dm_AllR (dm_Good dm_tb RX11 cX11_init 1 none true none) 208 [dm_putf 211 8 25 (.array .short), dm_no, dm_no, dm_ald 212 0, dm_push 215 (.int 24000), dm_no, dm_no, dm_newa 217 .long, dm_no, dm_putf 220 8 27 (.array .long), dm_no, dm_no, dm_ald 221 0, dm_push 224 (.int 24000), dm_no, dm_no] := dr_c (dg_putF (T := TX11) (C := RX11) (N := 68) dX11_init_208 rfl (by decide) iw_X11 tyX11_ok nmX11 wd_973 rfl rfl rfl) <| dr_c (dg_no) <| dr_c (dg_no) <| dr_c (dg_aload_n (k := 0) rfl dX11_init_211) <| dr_c (dg_sipush (by decide) dX11_init_212) <| dr_c (dg_no) <| dr_c (dg_no) <| dr_c (dg_newa dX11_init_215 rfl rfl wd_1153) <| dr_c (dg_no) <| dr_c (dg_putF (T := TX11) (C := RX11) (N := 68) dX11_init_217 rfl (by decide) iw_X11 tyX11_ok nmX11 wd_975 rfl rfl rfl) <| dr_c (dg_no) <| dr_c (dg_no) <| dr_c (dg_aload_n (k := 0) rfl dX11_init_220) <| dr_c (dg_sipush (by decide) dX11_init_221) <| dr_c (dg_no) <| dr_c (dg_no) <| dr_n
theorem tr_134_14 : dm_AllR (dm_Good dm_tb RX11 cX11_init 1 none true none) 224 [dm_newa 226 .int, dm_no, dm_putf 229 8 28 (.array .int), dm_no, dm_no, dm_ald 230 0, dm_push 233 (.int 24000), dm_no, dm_no, dm_newa 235 .long, dm_no, dm_putf 238 8 30 (.array .long), dm_no, dm_no, dm_ald 239 0, dm_push 242 (.int 24000)] := dr_c (dg_newa dX11_init_224 rfl rfl wd_117) <| dr_c (dg_no) <| dr_c (dg_putF (T := TX11) (C := RX11) (N := 68) dX11_init_226 rfl (by decide) iw_X11 tyX11_ok nmX11 wd_976 rfl rfl rfl) <| dr_c (dg_no) <| dr_c (dg_no) <| dr_c (dg_aload_n (k := 0) rfl dX11_init_229) <| dr_c (dg_sipush (by decide) dX11_init_230) <| dr_c (dg_no) <| dr_c (dg_no) <| dr_c (dg_newa dX11_init_233 rfl rfl wd_1153) <| dr_c (dg_no) <| dr_c (dg_putF (T := TX11) (C := RX11) (N := 68) dX11_init_235 rfl (by decide) iw_X11 tyX11_ok nmX11 wd_978 rfl rfl rfl) <| dr_c (dg_no) <| dr_c (dg_no) <| dr_c (dg_aload_n (k := 0) rfl dX11_init_238) <| dr_c (dg_sipush (by decide) dX11_init_239) <| dr_n
theorem tr_134_15 : dm_AllR (dm_Good dm_tb RX11 cX11_init 1 none true none) 240 [dm_no, dm_no, dm_newa 244 .int, dm_no, dm_putf 247 8 31 (.array .int), dm_no, dm_no, dm_ald 248 0, dm_push 251 (.int 24000), dm_no, dm_no, dm_newa 253 .long, dm_no, dm_putf 256 8 32 (.array .long), dm_no, dm_no] := dr_c (dg_no) <| dr_c (dg_no) <| dr_c (dg_newa dX11_init_242 rfl rfl wd_117) <| dr_c (dg_no) <| dr_c (dg_putF (T := TX11) (C := RX11) (N := 68) dX11_init_244 rfl (by decide) iw_X11 tyX11_ok nmX11 wd_979 rfl rfl rfl) <| dr_c (dg_no) <| dr_c (dg_no) <| dr_c (dg_aload_n (k := 0) rfl dX11_init_247) <| dr_c (dg_sipush (by decide) dX11_init_248) <| dr_c (dg_no) <| dr_c (dg_no) <| dr_c (dg_newa dX11_init_251 rfl rfl wd_1153) <| dr_c (dg_no) <| dr_c (dg_putF (T := TX11) (C := RX11) (N := 68) dX11_init_253 rfl (by decide) iw_X11 tyX11_ok nmX11 wd_980 rfl rfl rfl) <| dr_c (dg_no) <| dr_c (dg_no) <| dr_n
theorem tr_134_16 : dm_AllR (dm_Good dm_tb RX11 cX11_init 1 none true none) 256 [dm_ald 257 0, dm_push 260 (.int 24000), dm_no, dm_no, dm_newa 262 .long, dm_no, dm_putf 265 8 33 (.array .long), dm_no, dm_no, dm_ald 266 0, dm_push 269 (.int 600), dm_no, dm_no, dm_newa 271 .boolean, dm_no, dm_putf 274 8 35 (.array .boolean)] := dr_c (dg_aload_n (k := 0) rfl dX11_init_256) <| dr_c (dg_sipush (by decide) dX11_init_257) <| dr_c (dg_no) <| dr_c (dg_no) <| dr_c (dg_newa dX11_init_260 rfl rfl wd_1153) <| dr_c (dg_no) <| dr_c (dg_putF (T := TX11) (C := RX11) (N := 68) dX11_init_262 rfl (by decide) iw_X11 tyX11_ok nmX11 wd_981 rfl rfl rfl) <| dr_c (dg_no) <| dr_c (dg_no) <| dr_c (dg_aload_n (k := 0) rfl dX11_init_265) <| dr_c (dg_sipush (by decide) dX11_init_266) <| dr_c (dg_no) <| dr_c (dg_no) <| dr_c (dg_newa dX11_init_269 rfl rfl wd_1154) <| dr_c (dg_no) <| dr_c (dg_putF (T := TX11) (C := RX11) (N := 68) dX11_init_271 rfl (by decide) iw_X11 tyX11_ok nmX11 wd_983 rfl rfl rfl) <| dr_n
theorem tr_134_17 : dm_AllR (dm_Good dm_tb RX11 cX11_init 1 none true none) 272 [dm_no, dm_no, dm_ald 275 0, dm_push 276 (.int (-1)), dm_putf 279 8 37 .int, dm_no, dm_no, dm_ald 280 0, dm_push 281 (.int (-1)), dm_putf 284 8 39 .int, dm_no, dm_no, dm_ald 285 0, dm_push 288 (.int 24000), dm_no, dm_no] := dr_c (dg_no) <| dr_c (dg_no) <| dr_c (dg_aload_n (k := 0) rfl dX11_init_274) <| dr_c (dg_iconst (by decide) dX11_init_275) <| dr_c (dg_putf (T := TX11) (C := RX11) (N := 68) dX11_init_276 rfl (by decide) iw_X11 tyX11_ok nmX11 wd_985 rfl rfl) <| dr_c (dg_no) <| dr_c (dg_no) <| dr_c (dg_aload_n (k := 0) rfl dX11_init_279) <| dr_c (dg_iconst (by decide) dX11_init_280) <| dr_c (dg_putf (T := TX11) (C := RX11) (N := 68) dX11_init_281 rfl (by decide) iw_X11 tyX11_ok nmX11 wd_987 rfl rfl) <| dr_c (dg_no) <| dr_c (dg_no) <| dr_c (dg_aload_n (k := 0) rfl dX11_init_284) <| dr_c (dg_sipush (by decide) dX11_init_285) <| dr_c (dg_no) <| dr_c (dg_no) <| dr_n
theorem tr_134_18 : dm_AllR (dm_Good dm_tb RX11 cX11_init 1 none true none) 288 [dm_newa 290 .long, dm_no, dm_putf 293 8 42 (.array .long), dm_no, dm_no, dm_ald 294 0, dm_push 297 (.int 24000), dm_no, dm_no, dm_newa 299 .int, dm_no, dm_putf 302 8 43 (.array .int), dm_no, dm_no, dm_ald 303 0, dm_push 306 (.int 24000)] := dr_c (dg_newa dX11_init_288 rfl rfl wd_1153) <| dr_c (dg_no) <| dr_c (dg_putF (T := TX11) (C := RX11) (N := 68) dX11_init_290 rfl (by decide) iw_X11 tyX11_ok nmX11 wd_990 rfl rfl rfl) <| dr_c (dg_no) <| dr_c (dg_no) <| dr_c (dg_aload_n (k := 0) rfl dX11_init_293) <| dr_c (dg_sipush (by decide) dX11_init_294) <| dr_c (dg_no) <| dr_c (dg_no) <| dr_c (dg_newa dX11_init_297 rfl rfl wd_117) <| dr_c (dg_no) <| dr_c (dg_putF (T := TX11) (C := RX11) (N := 68) dX11_init_299 rfl (by decide) iw_X11 tyX11_ok nmX11 wd_991 rfl rfl rfl) <| dr_c (dg_no) <| dr_c (dg_no) <| dr_c (dg_aload_n (k := 0) rfl dX11_init_302) <| dr_c (dg_sipush (by decide) dX11_init_303) <| dr_n
theorem tr_134_19 : dm_AllR (dm_Good dm_tb RX11 cX11_init 1 none true none) 304 [dm_no, dm_no, dm_newa 308 .long, dm_no, dm_putf 311 8 44 (.array .long), dm_no, dm_no, dm_ald 312 0, dm_push 315 (.int 24000), dm_no, dm_no, dm_newa 317 .long, dm_no, dm_putf 320 8 45 (.array .long), dm_no, dm_no] := dr_c (dg_no) <| dr_c (dg_no) <| dr_c (dg_newa dX11_init_306 rfl rfl wd_1153) <| dr_c (dg_no) <| dr_c (dg_putF (T := TX11) (C := RX11) (N := 68) dX11_init_308 rfl (by decide) iw_X11 tyX11_ok nmX11 wd_992 rfl rfl rfl) <| dr_c (dg_no) <| dr_c (dg_no) <| dr_c (dg_aload_n (k := 0) rfl dX11_init_311) <| dr_c (dg_sipush (by decide) dX11_init_312) <| dr_c (dg_no) <| dr_c (dg_no) <| dr_c (dg_newa dX11_init_315 rfl rfl wd_1153) <| dr_c (dg_no) <| dr_c (dg_putF (T := TX11) (C := RX11) (N := 68) dX11_init_317 rfl (by decide) iw_X11 tyX11_ok nmX11 wd_993 rfl rfl rfl) <| dr_c (dg_no) <| dr_c (dg_no) <| dr_n
theorem tr_134_20 : dm_AllR (dm_Good dm_tb RX11 cX11_init 1 none true none) 320 [dm_ald 321 0, dm_push 324 (.int 1001), dm_no, dm_no, dm_newa 326 .int, dm_no, dm_putf 329 8 46 (.array .int), dm_no, dm_no, dm_ald 330 0, dm_push 333 (.int 1001), dm_no, dm_no, dm_newa 335 .int, dm_no, dm_putf 338 8 47 (.array .int)] := dr_c (dg_aload_n (k := 0) rfl dX11_init_320) <| dr_c (dg_sipush (by decide) dX11_init_321) <| dr_c (dg_no) <| dr_c (dg_no) <| dr_c (dg_newa dX11_init_324 rfl rfl wd_117) <| dr_c (dg_no) <| dr_c (dg_putF (T := TX11) (C := RX11) (N := 68) dX11_init_326 rfl (by decide) iw_X11 tyX11_ok nmX11 wd_994 rfl rfl rfl) <| dr_c (dg_no) <| dr_c (dg_no) <| dr_c (dg_aload_n (k := 0) rfl dX11_init_329) <| dr_c (dg_sipush (by decide) dX11_init_330) <| dr_c (dg_no) <| dr_c (dg_no) <| dr_c (dg_newa dX11_init_333 rfl rfl wd_117) <| dr_c (dg_no) <| dr_c (dg_putF (T := TX11) (C := RX11) (N := 68) dX11_init_335 rfl (by decide) iw_X11 tyX11_ok nmX11 wd_995 rfl rfl rfl) <| dr_n
theorem tr_134_21 : dm_AllR (dm_Good dm_tb RX11 cX11_init 1 none true none) 336 [dm_no, dm_no, dm_ald 339 0, dm_push 342 (.int 1000), dm_no, dm_no, dm_newa 344 .boolean, dm_no, dm_putf 347 8 48 (.array .boolean), dm_no, dm_no, dm_ald 348 0, dm_push 351 (.int 1000), dm_no, dm_no, dm_newa 353 .boolean] := dr_c (dg_no) <| dr_c (dg_no) <| dr_c (dg_aload_n (k := 0) rfl dX11_init_338) <| dr_c (dg_sipush (by decide) dX11_init_339) <| dr_c (dg_no) <| dr_c (dg_no) <| dr_c (dg_newa dX11_init_342 rfl rfl wd_1154) <| dr_c (dg_no) <| dr_c (dg_putF (T := TX11) (C := RX11) (N := 68) dX11_init_344 rfl (by decide) iw_X11 tyX11_ok nmX11 wd_996 rfl rfl rfl) <| dr_c (dg_no) <| dr_c (dg_no) <| dr_c (dg_aload_n (k := 0) rfl dX11_init_347) <| dr_c (dg_sipush (by decide) dX11_init_348) <| dr_c (dg_no) <| dr_c (dg_no) <| dr_c (dg_newa dX11_init_351 rfl rfl wd_1154) <| dr_n
theorem tr_134_22 : dm_AllR (dm_Good dm_tb RX11 cX11_init 1 none true none) 352 [dm_no, dm_putf 356 8 49 (.array .boolean), dm_no, dm_no, dm_ald 357 0, dm_push 360 (.int 1000), dm_no, dm_no, dm_newa 362 .boolean, dm_no, dm_putf 365 8 50 (.array .boolean), dm_no, dm_no, dm_ald 366 0, dm_push 369 (.int 1000), dm_no] := dr_c (dg_no) <| dr_c (dg_putF (T := TX11) (C := RX11) (N := 68) dX11_init_353 rfl (by decide) iw_X11 tyX11_ok nmX11 wd_997 rfl rfl rfl) <| dr_c (dg_no) <| dr_c (dg_no) <| dr_c (dg_aload_n (k := 0) rfl dX11_init_356) <| dr_c (dg_sipush (by decide) dX11_init_357) <| dr_c (dg_no) <| dr_c (dg_no) <| dr_c (dg_newa dX11_init_360 rfl rfl wd_1154) <| dr_c (dg_no) <| dr_c (dg_putF (T := TX11) (C := RX11) (N := 68) dX11_init_362 rfl (by decide) iw_X11 tyX11_ok nmX11 wd_998 rfl rfl rfl) <| dr_c (dg_no) <| dr_c (dg_no) <| dr_c (dg_aload_n (k := 0) rfl dX11_init_365) <| dr_c (dg_sipush (by decide) dX11_init_366) <| dr_c (dg_no) <| dr_n
theorem tr_134_23 : dm_AllR (dm_Good dm_tb RX11 cX11_init 1 none true none) 368 [dm_no, dm_newa 371 .byte, dm_no, dm_putf 374 8 51 (.array .byte), dm_no, dm_no, dm_ald 375 0, dm_push 378 (.int 1000), dm_no, dm_no, dm_newa 380 .short, dm_no, dm_putf 383 8 52 (.array .short), dm_no, dm_no, dm_ald 384 0] := dr_c (dg_no) <| dr_c (dg_newa dX11_init_369 rfl rfl wd_900) <| dr_c (dg_no) <| dr_c (dg_putF (T := TX11) (C := RX11) (N := 68) dX11_init_371 rfl (by decide) iw_X11 tyX11_ok nmX11 wd_999 rfl rfl rfl) <| dr_c (dg_no) <| dr_c (dg_no) <| dr_c (dg_aload_n (k := 0) rfl dX11_init_374) <| dr_c (dg_sipush (by decide) dX11_init_375) <| dr_c (dg_no) <| dr_c (dg_no) <| dr_c (dg_newa dX11_init_378 rfl rfl wd_1155) <| dr_c (dg_no) <| dr_c (dg_putF (T := TX11) (C := RX11) (N := 68) dX11_init_380 rfl (by decide) iw_X11 tyX11_ok nmX11 wd_1000 rfl rfl rfl) <| dr_c (dg_no) <| dr_c (dg_no) <| dr_c (dg_aload_n (k := 0) rfl dX11_init_383) <| dr_n
theorem tr_134_24 : dm_AllR (dm_Good dm_tb RX11 cX11_init 1 none true none) 384 [dm_push 387 (.int 1000), dm_no, dm_no, dm_newa 389 .short, dm_no, dm_putf 392 8 53 (.array .short), dm_no, dm_no, dm_ald 393 0, dm_push 396 (.int 1000), dm_no, dm_no, dm_newa 398 .int, dm_no, dm_putf 401 8 54 (.array .int), dm_no] := dr_c (dg_sipush (by decide) dX11_init_384) <| dr_c (dg_no) <| dr_c (dg_no) <| dr_c (dg_newa dX11_init_387 rfl rfl wd_1155) <| dr_c (dg_no) <| dr_c (dg_putF (T := TX11) (C := RX11) (N := 68) dX11_init_389 rfl (by decide) iw_X11 tyX11_ok nmX11 wd_1001 rfl rfl rfl) <| dr_c (dg_no) <| dr_c (dg_no) <| dr_c (dg_aload_n (k := 0) rfl dX11_init_392) <| dr_c (dg_sipush (by decide) dX11_init_393) <| dr_c (dg_no) <| dr_c (dg_no) <| dr_c (dg_newa dX11_init_396 rfl rfl wd_117) <| dr_c (dg_no) <| dr_c (dg_putF (T := TX11) (C := RX11) (N := 68) dX11_init_398 rfl (by decide) iw_X11 tyX11_ok nmX11 wd_1002 rfl rfl rfl) <| dr_c (dg_no) <| dr_n
theorem tr_134_25 : dm_AllR (dm_Good dm_tb RX11 cX11_init 1 none true none) 400 [dm_no, dm_ald 402 0, dm_push 405 (.int 1000), dm_no, dm_no, dm_newa 407 .int, dm_no, dm_putf 410 8 55 (.array .int), dm_no, dm_no, dm_ald 411 0, dm_push 414 (.int 16000), dm_no, dm_no, dm_newa 416 .long, dm_no] := dr_c (dg_no) <| dr_c (dg_aload_n (k := 0) rfl dX11_init_401) <| dr_c (dg_sipush (by decide) dX11_init_402) <| dr_c (dg_no) <| dr_c (dg_no) <| dr_c (dg_newa dX11_init_405 rfl rfl wd_117) <| dr_c (dg_no) <| dr_c (dg_putF (T := TX11) (C := RX11) (N := 68) dX11_init_407 rfl (by decide) iw_X11 tyX11_ok nmX11 wd_1003 rfl rfl rfl) <| dr_c (dg_no) <| dr_c (dg_no) <| dr_c (dg_aload_n (k := 0) rfl dX11_init_410) <| dr_c (dg_sipush (by decide) dX11_init_411) <| dr_c (dg_no) <| dr_c (dg_no) <| dr_c (dg_newa dX11_init_414 rfl rfl wd_1153) <| dr_c (dg_no) <| dr_n
theorem tr_134_26 : dm_AllR (dm_Good dm_tb RX11 cX11_init 1 none true none) 416 [dm_putf 419 8 56 (.array .long), dm_no, dm_no, dm_ald 420 0, dm_push 423 (.int 24000), dm_no, dm_no, dm_newa 425 .long, dm_no, dm_putf 428 8 62 (.array .long), dm_no, dm_no, dm_ald 429 0, dm_push 432 (.int 24000), dm_no, dm_no] := dr_c (dg_putF (T := TX11) (C := RX11) (N := 68) dX11_init_416 rfl (by decide) iw_X11 tyX11_ok nmX11 wd_1004 rfl rfl rfl) <| dr_c (dg_no) <| dr_c (dg_no) <| dr_c (dg_aload_n (k := 0) rfl dX11_init_419) <| dr_c (dg_sipush (by decide) dX11_init_420) <| dr_c (dg_no) <| dr_c (dg_no) <| dr_c (dg_newa dX11_init_423 rfl rfl wd_1153) <| dr_c (dg_no) <| dr_c (dg_putF (T := TX11) (C := RX11) (N := 68) dX11_init_425 rfl (by decide) iw_X11 tyX11_ok nmX11 wd_1010 rfl rfl rfl) <| dr_c (dg_no) <| dr_c (dg_no) <| dr_c (dg_aload_n (k := 0) rfl dX11_init_428) <| dr_c (dg_sipush (by decide) dX11_init_429) <| dr_c (dg_no) <| dr_c (dg_no) <| dr_n
theorem tr_134_27 : dm_AllR (dm_Good dm_tb RX11 cX11_init 1 none true none) 432 [dm_newa 434 .int, dm_no, dm_putf 437 8 63 (.array .int), dm_no, dm_no, dm_ald 438 0, dm_inv 441 135 0 8, dm_no, dm_no, dm_vret] := dr_c (dg_newa dX11_init_432 rfl rfl wd_117) <| dr_c (dg_no) <| dr_c (dg_putF (T := TX11) (C := RX11) (N := 68) dX11_init_434 rfl (by decide) iw_X11 tyX11_ok nmX11 wd_1011 rfl rfl rfl) <| dr_c (dg_no) <| dr_c (dg_no) <| dr_c (dg_aload_n (k := 0) rfl dX11_init_437) <| dr_c (dg_inv dX11_init_438 mo_135 rfl rfl wd_914 wd_915 wd_916 pd_135) <| dr_c (dg_no) <| dr_c (dg_no) <| dr_c (dg_vret dX11_init_441) <| dr_n
theorem tk_134 : dm_AllC (dm_Good dm_tb RX11 cX11_init 1 none true none) 0 cd_134 := dc_c (by decide) tr_134_0 <| dc_c (by decide) tr_134_1 <| dc_c (by decide) tr_134_2 <| dc_c (by decide) tr_134_3 <| dc_c (by decide) tr_134_4 <| dc_c (by decide) tr_134_5 <| dc_c (by decide) tr_134_6 <| dc_c (by decide) tr_134_7 <| dc_c (by decide) tr_134_8 <| dc_c (by decide) tr_134_9 <| dc_c (by decide) tr_134_10 <| dc_c (by decide) tr_134_11 <| dc_c (by decide) tr_134_12 <| dc_c (by decide) tr_134_13 <| dc_c (by decide) tr_134_14 <| dc_c (by decide) tr_134_15 <| dc_c (by decide) tr_134_16 <| dc_c (by decide) tr_134_17 <| dc_c (by decide) tr_134_18 <| dc_c (by decide) tr_134_19 <| dc_c (by decide) tr_134_20 <| dc_c (by decide) tr_134_21 <| dc_c (by decide) tr_134_22 <| dc_c (by decide) tr_134_23 <| dc_c (by decide) tr_134_24 <| dc_c (by decide) tr_134_25 <| dc_c (by decide) tr_134_26 <| dc_c (by decide) tr_134_27 <| dc_n
theorem dX11_seed_0 : decode cX11_seed 0 = .ok (.aload_n 0, 1) := by decide +kernel
theorem dX11_seed_1 : decode cX11_seed 1 = .ok (.iconst 0, 1) := by decide +kernel
theorem dX11_seed_2 : decode cX11_seed 2 = .ok (.putfield 165, 3) := by decide +kernel
theorem dX11_seed_5 : decode cX11_seed 5 = .ok (.aload_n 0, 1) := by decide +kernel
theorem dX11_seed_6 : decode cX11_seed 6 = .ok (.iconst 0, 1) := by decide +kernel
theorem dX11_seed_7 : decode cX11_seed 7 = .ok (.putfield 168, 3) := by decide +kernel
theorem dX11_seed_10 : decode cX11_seed 10 = .ok (.aload_n 0, 1) := by decide +kernel
theorem dX11_seed_11 : decode cX11_seed 11 = .ok (.iconst 0, 1) := by decide +kernel
theorem dX11_seed_12 : decode cX11_seed 12 = .ok (.putfield 171, 3) := by decide +kernel
theorem dX11_seed_15 : decode cX11_seed 15 = .ok (.aload_n 0, 1) := by decide +kernel
theorem dX11_seed_16 : decode cX11_seed 16 = .ok (.iconst 0, 1) := by decide +kernel
theorem dX11_seed_17 : decode cX11_seed 17 = .ok (.putfield 174, 3) := by decide +kernel
theorem dX11_seed_20 : decode cX11_seed 20 = .ok (.aload_n 0, 1) := by decide +kernel
theorem dX11_seed_21 : decode cX11_seed 21 = .ok (.iconst 0, 1) := by decide +kernel
theorem dX11_seed_22 : decode cX11_seed 22 = .ok (.putfield 177, 3) := by decide +kernel
theorem dX11_seed_25 : decode cX11_seed 25 = .ok (.aload_n 0, 1) := by decide +kernel
theorem dX11_seed_26 : decode cX11_seed 26 = .ok (.getfield 23, 3) := by decide +kernel
theorem dX11_seed_29 : decode cX11_seed 29 = .ok (.iconst 0, 1) := by decide +kernel
theorem dX11_seed_30 : decode cX11_seed 30 = .ok (.iconst 0, 1) := by decide +kernel
theorem dX11_seed_31 : decode cX11_seed 31 = .ok (.iastore, 1) := by decide +kernel
theorem dX11_seed_32 : decode cX11_seed 32 = .ok (.aload_n 0, 1) := by decide +kernel
theorem dX11_seed_33 : decode cX11_seed 33 = .ok (.getfield 26, 3) := by decide +kernel
theorem dX11_seed_36 : decode cX11_seed 36 = .ok (.iconst 0, 1) := by decide +kernel
theorem dX11_seed_37 : decode cX11_seed 37 = .ok (.iconst 0, 1) := by decide +kernel
theorem dX11_seed_38 : decode cX11_seed 38 = .ok (.iastore, 1) := by decide +kernel
theorem dX11_seed_39 : decode cX11_seed 39 = .ok (.aload_n 0, 1) := by decide +kernel
theorem dX11_seed_40 : decode cX11_seed 40 = .ok (.iconst 1, 1) := by decide +kernel
theorem dX11_seed_41 : decode cX11_seed 41 = .ok (.putfield 180, 3) := by decide +kernel
theorem dX11_seed_44 : decode cX11_seed 44 = .ok (.aload_n 0, 1) := by decide +kernel
theorem dX11_seed_45 : decode cX11_seed 45 = .ok (.getfield 83, 3) := by decide +kernel
theorem dX11_seed_48 : decode cX11_seed 48 = .ok (.iconst 0, 1) := by decide +kernel
theorem dX11_seed_49 : decode cX11_seed 49 = .ok (.lconst 0, 1) := by decide +kernel
theorem dX11_seed_50 : decode cX11_seed 50 = .ok (.lastore, 1) := by decide +kernel
theorem dX11_seed_51 : decode cX11_seed 51 = .ok (.aload_n 0, 1) := by decide +kernel
theorem dX11_seed_52 : decode cX11_seed 52 = .ok (.getfield 86, 3) := by decide +kernel
theorem dX11_seed_55 : decode cX11_seed 55 = .ok (.iconst 0, 1) := by decide +kernel
theorem dX11_seed_56 : decode cX11_seed 56 = .ok (.iconst 0, 1) := by decide +kernel
theorem dX11_seed_57 : decode cX11_seed 57 = .ok (.iastore, 1) := by decide +kernel
theorem dX11_seed_58 : decode cX11_seed 58 = .ok (.aload_n 0, 1) := by decide +kernel
theorem dX11_seed_59 : decode cX11_seed 59 = .ok (.iconst 1, 1) := by decide +kernel
theorem dX11_seed_60 : decode cX11_seed 60 = .ok (.putfield 183, 3) := by decide +kernel
theorem dX11_seed_63 : decode cX11_seed 63 = .ok (.aload_n 0, 1) := by decide +kernel
theorem dX11_seed_64 : decode cX11_seed 64 = .ok (.getfield 95, 3) := by decide +kernel
theorem dX11_seed_67 : decode cX11_seed 67 = .ok (.iconst 0, 1) := by decide +kernel
theorem dX11_seed_68 : decode cX11_seed 68 = .ok (.lconst 0, 1) := by decide +kernel
theorem dX11_seed_69 : decode cX11_seed 69 = .ok (.lastore, 1) := by decide +kernel
theorem dX11_seed_70 : decode cX11_seed 70 = .ok (.aload_n 0, 1) := by decide +kernel
theorem dX11_seed_71 : decode cX11_seed 71 = .ok (.getfield 98, 3) := by decide +kernel
theorem dX11_seed_74 : decode cX11_seed 74 = .ok (.iconst 0, 1) := by decide +kernel
theorem dX11_seed_75 : decode cX11_seed 75 = .ok (.ldc2_w 186, 3) := by decide +kernel
theorem dX11_seed_78 : decode cX11_seed 78 = .ok (.lastore, 1) := by decide +kernel
theorem dX11_seed_79 : decode cX11_seed 79 = .ok (.aload_n 0, 1) := by decide +kernel
theorem dX11_seed_80 : decode cX11_seed 80 = .ok (.iconst 0, 1) := by decide +kernel
theorem dX11_seed_81 : decode cX11_seed 81 = .ok (.iconst (-1), 1) := by decide +kernel
theorem dX11_seed_82 : decode cX11_seed 82 = .ok (.iconst (-1), 1) := by decide +kernel
theorem dX11_seed_83 : decode cX11_seed 83 = .ok (.invokevirtual 188, 3) := by decide +kernel
theorem dX11_seed_86 : decode cX11_seed 86 = .ok (.pop, 1) := by decide +kernel
theorem dX11_seed_87 : decode cX11_seed 87 = .ok (.return_, 1) := by decide +kernel
def cd_135 : dm_Code := [[dm_ald 1 0, dm_push 2 (.int 0), dm_putf 5 8 40 .int, dm_no, dm_no, dm_ald 6 0, dm_push 7 (.int 0), dm_putf 10 8 15 .int, dm_no, dm_no, dm_ald 11 0, dm_push 12 (.int 0), dm_putf 15 8 16 .int, dm_no, dm_no, dm_ald 16 0],
  [dm_push 17 (.int 0), dm_putf 20 8 17 .int, dm_no, dm_no, dm_ald 21 0, dm_push 22 (.int 0), dm_putf 25 8 26 .int, dm_no, dm_no, dm_ald 26 0, dm_getf 29 8 4, dm_no, dm_no, dm_push 30 (.int 0), dm_push 31 (.int 0), dm_iast 32],
  [dm_ald 33 0, dm_getf 36 8 5, dm_no, dm_no, dm_push 37 (.int 0), dm_push 38 (.int 0), dm_iast 39, dm_ald 40 0, dm_push 41 (.int 1), dm_putf 44 8 29 .int, dm_no, dm_no, dm_ald 45 0, dm_getf 48 8 27, dm_no, dm_no],
  [dm_push 49 (.int 0), dm_push 50 (.long 0), dm_last 51, dm_ald 52 0, dm_getf 55 8 28, dm_no, dm_no, dm_push 56 (.int 0), dm_push 57 (.int 0), dm_iast 58, dm_ald 59 0, dm_push 60 (.int 1), dm_putf 63 8 34 .int, dm_no, dm_no, dm_ald 64 0],
  [dm_getf 67 8 32, dm_no, dm_no, dm_push 68 (.int 0), dm_push 69 (.long 0), dm_last 70, dm_ald 71 0, dm_getf 74 8 33, dm_no, dm_no, dm_push 75 (.int 0), dm_push 78 (.long 1152921504606846976), dm_no, dm_no, dm_last 79, dm_ald 80 0],
  [dm_push 81 (.int 0), dm_push 82 (.int (-1)), dm_push 83 (.int (-1)), dm_inv 86 140 3 8, dm_no, dm_no, dm_pop 87, dm_vret]]
theorem tr_135_0 : dm_AllR (dm_Good dm_tb RX11 cX11_seed 1 none false none) 0 [dm_ald 1 0, dm_push 2 (.int 0), dm_putf 5 8 40 .int, dm_no, dm_no, dm_ald 6 0, dm_push 7 (.int 0), dm_putf 10 8 15 .int, dm_no, dm_no, dm_ald 11 0, dm_push 12 (.int 0), dm_putf 15 8 16 .int, dm_no, dm_no, dm_ald 16 0] := dr_c (dg_aload_n (k := 0) rfl dX11_seed_0) <| dr_c (dg_iconst (by decide) dX11_seed_1) <| dr_c (dg_putf (T := TX11) (C := RX11) (N := 68) dX11_seed_2 rfl (by decide) iw_X11 tyX11_ok nmX11 wd_988 rfl rfl) <| dr_c (dg_no) <| dr_c (dg_no) <| dr_c (dg_aload_n (k := 0) rfl dX11_seed_5) <| dr_c (dg_iconst (by decide) dX11_seed_6) <| dr_c (dg_putf (T := TX11) (C := RX11) (N := 68) dX11_seed_7 rfl (by decide) iw_X11 tyX11_ok nmX11 wd_963 rfl rfl) <| dr_c (dg_no) <| dr_c (dg_no) <| dr_c (dg_aload_n (k := 0) rfl dX11_seed_10) <| dr_c (dg_iconst (by decide) dX11_seed_11) <| dr_c (dg_putf (T := TX11) (C := RX11) (N := 68) dX11_seed_12 rfl (by decide) iw_X11 tyX11_ok nmX11 wd_964 rfl rfl) <| dr_c (dg_no) <| dr_c (dg_no) <| dr_c (dg_aload_n (k := 0) rfl dX11_seed_15) <| dr_n
theorem tr_135_1 : dm_AllR (dm_Good dm_tb RX11 cX11_seed 1 none false none) 16 [dm_push 17 (.int 0), dm_putf 20 8 17 .int, dm_no, dm_no, dm_ald 21 0, dm_push 22 (.int 0), dm_putf 25 8 26 .int, dm_no, dm_no, dm_ald 26 0, dm_getf 29 8 4, dm_no, dm_no, dm_push 30 (.int 0), dm_push 31 (.int 0), dm_iast 32] := dr_c (dg_iconst (by decide) dX11_seed_16) <| dr_c (dg_putf (T := TX11) (C := RX11) (N := 68) dX11_seed_17 rfl (by decide) iw_X11 tyX11_ok nmX11 wd_965 rfl rfl) <| dr_c (dg_no) <| dr_c (dg_no) <| dr_c (dg_aload_n (k := 0) rfl dX11_seed_20) <| dr_c (dg_iconst (by decide) dX11_seed_21) <| dr_c (dg_putf (T := TX11) (C := RX11) (N := 68) dX11_seed_22 rfl (by decide) iw_X11 tyX11_ok nmX11 wd_974 rfl rfl) <| dr_c (dg_no) <| dr_c (dg_no) <| dr_c (dg_aload_n (k := 0) rfl dX11_seed_25) <| dr_c (dg_getf (T := TX11) (C := RX11) (N := 68) dX11_seed_26 rfl (by decide) iw_X11 wd_952) <| dr_c (dg_no) <| dr_c (dg_no) <| dr_c (dg_iconst (by decide) dX11_seed_29) <| dr_c (dg_iconst (by decide) dX11_seed_30) <| dr_c (dg_iast dX11_seed_31) <| dr_n
theorem tr_135_2 : dm_AllR (dm_Good dm_tb RX11 cX11_seed 1 none false none) 32 [dm_ald 33 0, dm_getf 36 8 5, dm_no, dm_no, dm_push 37 (.int 0), dm_push 38 (.int 0), dm_iast 39, dm_ald 40 0, dm_push 41 (.int 1), dm_putf 44 8 29 .int, dm_no, dm_no, dm_ald 45 0, dm_getf 48 8 27, dm_no, dm_no] := dr_c (dg_aload_n (k := 0) rfl dX11_seed_32) <| dr_c (dg_getf (T := TX11) (C := RX11) (N := 68) dX11_seed_33 rfl (by decide) iw_X11 wd_953) <| dr_c (dg_no) <| dr_c (dg_no) <| dr_c (dg_iconst (by decide) dX11_seed_36) <| dr_c (dg_iconst (by decide) dX11_seed_37) <| dr_c (dg_iast dX11_seed_38) <| dr_c (dg_aload_n (k := 0) rfl dX11_seed_39) <| dr_c (dg_iconst (by decide) dX11_seed_40) <| dr_c (dg_putf (T := TX11) (C := RX11) (N := 68) dX11_seed_41 rfl (by decide) iw_X11 tyX11_ok nmX11 wd_977 rfl rfl) <| dr_c (dg_no) <| dr_c (dg_no) <| dr_c (dg_aload_n (k := 0) rfl dX11_seed_44) <| dr_c (dg_getf (T := TX11) (C := RX11) (N := 68) dX11_seed_45 rfl (by decide) iw_X11 wd_975) <| dr_c (dg_no) <| dr_c (dg_no) <| dr_n
theorem tr_135_3 : dm_AllR (dm_Good dm_tb RX11 cX11_seed 1 none false none) 48 [dm_push 49 (.int 0), dm_push 50 (.long 0), dm_last 51, dm_ald 52 0, dm_getf 55 8 28, dm_no, dm_no, dm_push 56 (.int 0), dm_push 57 (.int 0), dm_iast 58, dm_ald 59 0, dm_push 60 (.int 1), dm_putf 63 8 34 .int, dm_no, dm_no, dm_ald 64 0] := dr_c (dg_iconst (by decide) dX11_seed_48) <| dr_c (dg_lconst (by decide) dX11_seed_49) <| dr_c (dg_last dX11_seed_50) <| dr_c (dg_aload_n (k := 0) rfl dX11_seed_51) <| dr_c (dg_getf (T := TX11) (C := RX11) (N := 68) dX11_seed_52 rfl (by decide) iw_X11 wd_976) <| dr_c (dg_no) <| dr_c (dg_no) <| dr_c (dg_iconst (by decide) dX11_seed_55) <| dr_c (dg_iconst (by decide) dX11_seed_56) <| dr_c (dg_iast dX11_seed_57) <| dr_c (dg_aload_n (k := 0) rfl dX11_seed_58) <| dr_c (dg_iconst (by decide) dX11_seed_59) <| dr_c (dg_putf (T := TX11) (C := RX11) (N := 68) dX11_seed_60 rfl (by decide) iw_X11 tyX11_ok nmX11 wd_982 rfl rfl) <| dr_c (dg_no) <| dr_c (dg_no) <| dr_c (dg_aload_n (k := 0) rfl dX11_seed_63) <| dr_n
theorem tr_135_4 : dm_AllR (dm_Good dm_tb RX11 cX11_seed 1 none false none) 64 [dm_getf 67 8 32, dm_no, dm_no, dm_push 68 (.int 0), dm_push 69 (.long 0), dm_last 70, dm_ald 71 0, dm_getf 74 8 33, dm_no, dm_no, dm_push 75 (.int 0), dm_push 78 (.long 1152921504606846976), dm_no, dm_no, dm_last 79, dm_ald 80 0] := dr_c (dg_getf (T := TX11) (C := RX11) (N := 68) dX11_seed_64 rfl (by decide) iw_X11 wd_980) <| dr_c (dg_no) <| dr_c (dg_no) <| dr_c (dg_iconst (by decide) dX11_seed_67) <| dr_c (dg_lconst (by decide) dX11_seed_68) <| dr_c (dg_last dX11_seed_69) <| dr_c (dg_aload_n (k := 0) rfl dX11_seed_70) <| dr_c (dg_getf (T := TX11) (C := RX11) (N := 68) dX11_seed_71 rfl (by decide) iw_X11 wd_981) <| dr_c (dg_no) <| dr_c (dg_no) <| dr_c (dg_iconst (by decide) dX11_seed_74) <| dr_c (dg_ldc2 wd_918 dX11_seed_75) <| dr_c (dg_no) <| dr_c (dg_no) <| dr_c (dg_last dX11_seed_78) <| dr_c (dg_aload_n (k := 0) rfl dX11_seed_79) <| dr_n
theorem tr_135_5 : dm_AllR (dm_Good dm_tb RX11 cX11_seed 1 none false none) 80 [dm_push 81 (.int 0), dm_push 82 (.int (-1)), dm_push 83 (.int (-1)), dm_inv 86 140 3 8, dm_no, dm_no, dm_pop 87, dm_vret] := dr_c (dg_iconst (by decide) dX11_seed_80) <| dr_c (dg_iconst (by decide) dX11_seed_81) <| dr_c (dg_iconst (by decide) dX11_seed_82) <| dr_c (dg_inv dX11_seed_83 mo_140 rfl rfl wd_919 wd_921 wd_16 pd_140) <| dr_c (dg_no) <| dr_c (dg_no) <| dr_c (dg_pop dX11_seed_86) <| dr_c (dg_vret dX11_seed_87) <| dr_n
theorem tk_135 : dm_AllC (dm_Good dm_tb RX11 cX11_seed 1 none false none) 0 cd_135 := dc_c (by decide) tr_135_0 <| dc_c (by decide) tr_135_1 <| dc_c (by decide) tr_135_2 <| dc_c (by decide) tr_135_3 <| dc_c (by decide) tr_135_4 <| dc_c (by decide) tr_135_5 <| dc_n
theorem dX11_is_0 : decode cX11_is 0 = .ok (.iload_n 1, 1) := by decide +kernel
theorem dX11_is_1 : decode cX11_is 1 = .ok (.ifCond .lt 15, 3) := by decide +kernel
theorem dX11_is_4 : decode cX11_is 4 = .ok (.iload_n 1, 1) := by decide +kernel
theorem dX11_is_5 : decode cX11_is 5 = .ok (.aload_n 0, 1) := by decide +kernel
theorem dX11_is_6 : decode cX11_is 6 = .ok (.getfield 168, 3) := by decide +kernel
theorem dX11_is_9 : decode cX11_is 9 = .ok (.if_icmp .ge 7, 3) := by decide +kernel
theorem dX11_is_12 : decode cX11_is 12 = .ok (.iconst 1, 1) := by decide +kernel
theorem dX11_is_13 : decode cX11_is 13 = .ok (.goto 4, 3) := by decide +kernel
theorem dX11_is_16 : decode cX11_is 16 = .ok (.iconst 0, 1) := by decide +kernel
theorem dX11_is_17 : decode cX11_is 17 = .ok (.ireturn, 1) := by decide +kernel
def cd_136 : dm_Code := [[dm_ild 1 1, dm_if_lt 4 16, dm_no, dm_no, dm_ild 5 1, dm_ald 6 0, dm_getf 9 8 15, dm_no, dm_no, dm_ic_ge 12 16, dm_no, dm_no, dm_push 13 (.int 1), dm_goto 17, dm_no, dm_no],
  [dm_push 17 (.int 0), dm_ret .boolean]]
theorem tr_136_0 : dm_AllR (dm_Good dm_tb RX11 cX11_is 2 (some .boolean) false none) 0 [dm_ild 1 1, dm_if_lt 4 16, dm_no, dm_no, dm_ild 5 1, dm_ald 6 0, dm_getf 9 8 15, dm_no, dm_no, dm_ic_ge 12 16, dm_no, dm_no, dm_push 13 (.int 1), dm_goto 17, dm_no, dm_no] := dr_c (dg_iload_n (k := 1) rfl dX11_is_0) <| dr_c (dg_if_lt (by decide) dX11_is_1) <| dr_c (dg_no) <| dr_c (dg_no) <| dr_c (dg_iload_n (k := 1) rfl dX11_is_4) <| dr_c (dg_aload_n (k := 0) rfl dX11_is_5) <| dr_c (dg_getf (T := TX11) (C := RX11) (N := 68) dX11_is_6 rfl (by decide) iw_X11 wd_963) <| dr_c (dg_no) <| dr_c (dg_no) <| dr_c (dg_ic_ge (by decide) dX11_is_9) <| dr_c (dg_no) <| dr_c (dg_no) <| dr_c (dg_iconst (by decide) dX11_is_12) <| dr_c (dg_goto (by decide) dX11_is_13) <| dr_c (dg_no) <| dr_c (dg_no) <| dr_n
theorem tr_136_1 : dm_AllR (dm_Good dm_tb RX11 cX11_is 2 (some .boolean) false none) 16 [dm_push 17 (.int 0), dm_ret .boolean] := dr_c (dg_iconst (by decide) dX11_is_16) <| dr_c (dg_ret dX11_is_17) <| dr_n
theorem tk_136 : dm_AllC (dm_Good dm_tb RX11 cX11_is 2 (some .boolean) false none) 0 cd_136 := dc_c (by decide) tr_136_0 <| dc_c (by decide) tr_136_1 <| dc_n
theorem dX11_isAlive_0 : decode cX11_isAlive 0 = .ok (.aload_n 0, 1) := by decide +kernel
theorem dX11_isAlive_1 : decode cX11_isAlive 1 = .ok (.iload_n 1, 1) := by decide +kernel
theorem dX11_isAlive_2 : decode cX11_isAlive 2 = .ok (.invokevirtual 192, 3) := by decide +kernel
theorem dX11_isAlive_5 : decode cX11_isAlive 5 = .ok (.ifCond .eq 16, 3) := by decide +kernel
theorem dX11_isAlive_8 : decode cX11_isAlive 8 = .ok (.aload_n 0, 1) := by decide +kernel
theorem dX11_isAlive_9 : decode cX11_isAlive 9 = .ok (.getfield 29, 3) := by decide +kernel
theorem dX11_isAlive_12 : decode cX11_isAlive 12 = .ok (.iload_n 1, 1) := by decide +kernel
theorem dX11_isAlive_13 : decode cX11_isAlive 13 = .ok (.baload, 1) := by decide +kernel
theorem dX11_isAlive_14 : decode cX11_isAlive 14 = .ok (.ifCond .eq 7, 3) := by decide +kernel
theorem dX11_isAlive_17 : decode cX11_isAlive 17 = .ok (.iconst 1, 1) := by decide +kernel
theorem dX11_isAlive_18 : decode cX11_isAlive 18 = .ok (.goto 4, 3) := by decide +kernel
theorem dX11_isAlive_21 : decode cX11_isAlive 21 = .ok (.iconst 0, 1) := by decide +kernel
theorem dX11_isAlive_22 : decode cX11_isAlive 22 = .ok (.ireturn, 1) := by decide +kernel
def cd_137 : dm_Code := [[dm_ald 1 0, dm_ild 2 1, dm_inv 5 136 1 8, dm_no, dm_no, dm_if_eq 8 21, dm_no, dm_no, dm_ald 9 0, dm_getf 12 8 6, dm_no, dm_no, dm_ild 13 1, dm_bald 14, dm_if_eq 17 21, dm_no],
  [dm_no, dm_push 18 (.int 1), dm_goto 22, dm_no, dm_no, dm_push 22 (.int 0), dm_ret .boolean]]
theorem tr_137_0 : dm_AllR (dm_Good dm_tb RX11 cX11_isAlive 2 (some .boolean) false none) 0 [dm_ald 1 0, dm_ild 2 1, dm_inv 5 136 1 8, dm_no, dm_no, dm_if_eq 8 21, dm_no, dm_no, dm_ald 9 0, dm_getf 12 8 6, dm_no, dm_no, dm_ild 13 1, dm_bald 14, dm_if_eq 17 21, dm_no] := dr_c (dg_aload_n (k := 0) rfl dX11_isAlive_0) <| dr_c (dg_iload_n (k := 1) rfl dX11_isAlive_1) <| dr_c (dg_inv dX11_isAlive_2 mo_136 rfl rfl wd_1165 wd_1167 wd_24 pd_136) <| dr_c (dg_no) <| dr_c (dg_no) <| dr_c (dg_if_eq (by decide) dX11_isAlive_5) <| dr_c (dg_no) <| dr_c (dg_no) <| dr_c (dg_aload_n (k := 0) rfl dX11_isAlive_8) <| dr_c (dg_getf (T := TX11) (C := RX11) (N := 68) dX11_isAlive_9 rfl (by decide) iw_X11 wd_954) <| dr_c (dg_no) <| dr_c (dg_no) <| dr_c (dg_iload_n (k := 1) rfl dX11_isAlive_12) <| dr_c (dg_bald dX11_isAlive_13) <| dr_c (dg_if_eq (by decide) dX11_isAlive_14) <| dr_c (dg_no) <| dr_n
theorem tr_137_1 : dm_AllR (dm_Good dm_tb RX11 cX11_isAlive 2 (some .boolean) false none) 16 [dm_no, dm_push 18 (.int 1), dm_goto 22, dm_no, dm_no, dm_push 22 (.int 0), dm_ret .boolean] := dr_c (dg_no) <| dr_c (dg_iconst (by decide) dX11_isAlive_17) <| dr_c (dg_goto (by decide) dX11_isAlive_18) <| dr_c (dg_no) <| dr_c (dg_no) <| dr_c (dg_iconst (by decide) dX11_isAlive_21) <| dr_c (dg_ret dX11_isAlive_22) <| dr_n
theorem tk_137 : dm_AllC (dm_Good dm_tb RX11 cX11_isAlive 2 (some .boolean) false none) 0 cd_137 := dc_c (by decide) tr_137_0 <| dc_c (by decide) tr_137_1 <| dc_n
theorem dX11_owns_0 : decode cX11_owns 0 = .ok (.aload_n 0, 1) := by decide +kernel
theorem dX11_owns_1 : decode cX11_owns 1 = .ok (.getfield 26, 3) := by decide +kernel
theorem dX11_owns_4 : decode cX11_owns 4 = .ok (.iload_n 1, 1) := by decide +kernel
theorem dX11_owns_5 : decode cX11_owns 5 = .ok (.iconst 1, 1) := by decide +kernel
theorem dX11_owns_6 : decode cX11_owns 6 = .ok (.iadd, 1) := by decide +kernel
theorem dX11_owns_7 : decode cX11_owns 7 = .ok (.iaload, 1) := by decide +kernel
theorem dX11_owns_8 : decode cX11_owns 8 = .ok (.aload_n 0, 1) := by decide +kernel
theorem dX11_owns_9 : decode cX11_owns 9 = .ok (.getfield 26, 3) := by decide +kernel
theorem dX11_owns_12 : decode cX11_owns 12 = .ok (.iload_n 1, 1) := by decide +kernel
theorem dX11_owns_13 : decode cX11_owns 13 = .ok (.iaload, 1) := by decide +kernel
theorem dX11_owns_14 : decode cX11_owns 14 = .ok (.if_icmp .le 7, 3) := by decide +kernel
theorem dX11_owns_17 : decode cX11_owns 17 = .ok (.iconst 1, 1) := by decide +kernel
theorem dX11_owns_18 : decode cX11_owns 18 = .ok (.goto 4, 3) := by decide +kernel
theorem dX11_owns_21 : decode cX11_owns 21 = .ok (.iconst 0, 1) := by decide +kernel
theorem dX11_owns_22 : decode cX11_owns 22 = .ok (.ireturn, 1) := by decide +kernel
def cd_138 : dm_Code := [[dm_ald 1 0, dm_getf 4 8 5, dm_no, dm_no, dm_ild 5 1, dm_push 6 (.int 1), dm_ii 7 (fun x y => x + y), dm_iald 8, dm_ald 9 0, dm_getf 12 8 5, dm_no, dm_no, dm_ild 13 1, dm_iald 14, dm_ic_le 17 21, dm_no],
  [dm_no, dm_push 18 (.int 1), dm_goto 22, dm_no, dm_no, dm_push 22 (.int 0), dm_ret .boolean]]
theorem tr_138_0 : dm_AllR (dm_Good dm_tb RX11 cX11_owns 2 (some .boolean) false none) 0 [dm_ald 1 0, dm_getf 4 8 5, dm_no, dm_no, dm_ild 5 1, dm_push 6 (.int 1), dm_ii 7 (fun x y => x + y), dm_iald 8, dm_ald 9 0, dm_getf 12 8 5, dm_no, dm_no, dm_ild 13 1, dm_iald 14, dm_ic_le 17 21, dm_no] := dr_c (dg_aload_n (k := 0) rfl dX11_owns_0) <| dr_c (dg_getf (T := TX11) (C := RX11) (N := 68) dX11_owns_1 rfl (by decide) iw_X11 wd_953) <| dr_c (dg_no) <| dr_c (dg_no) <| dr_c (dg_iload_n (k := 1) rfl dX11_owns_4) <| dr_c (dg_iconst (by decide) dX11_owns_5) <| dr_c (dg_iadd dX11_owns_6) <| dr_c (dg_iald dX11_owns_7) <| dr_c (dg_aload_n (k := 0) rfl dX11_owns_8) <| dr_c (dg_getf (T := TX11) (C := RX11) (N := 68) dX11_owns_9 rfl (by decide) iw_X11 wd_953) <| dr_c (dg_no) <| dr_c (dg_no) <| dr_c (dg_iload_n (k := 1) rfl dX11_owns_12) <| dr_c (dg_iald dX11_owns_13) <| dr_c (dg_ic_le (by decide) dX11_owns_14) <| dr_c (dg_no) <| dr_n
theorem tr_138_1 : dm_AllR (dm_Good dm_tb RX11 cX11_owns 2 (some .boolean) false none) 16 [dm_no, dm_push 18 (.int 1), dm_goto 22, dm_no, dm_no, dm_push 22 (.int 0), dm_ret .boolean] := dr_c (dg_no) <| dr_c (dg_iconst (by decide) dX11_owns_17) <| dr_c (dg_goto (by decide) dX11_owns_18) <| dr_c (dg_no) <| dr_c (dg_no) <| dr_c (dg_iconst (by decide) dX11_owns_21) <| dr_c (dg_ret dX11_owns_22) <| dr_n
theorem tk_138 : dm_AllC (dm_Good dm_tb RX11 cX11_owns 2 (some .boolean) false none) 0 cd_138 := dc_c (by decide) tr_138_0 <| dc_c (by decide) tr_138_1 <| dc_n
theorem dX11_hasRoom_0 : decode cX11_hasRoom 0 = .ok (.aload_n 0, 1) := by decide +kernel
theorem dX11_hasRoom_1 : decode cX11_hasRoom 1 = .ok (.getfield 168, 3) := by decide +kernel
theorem dX11_hasRoom_4 : decode cX11_hasRoom 4 = .ok (.iload_n 1, 1) := by decide +kernel
theorem dX11_hasRoom_5 : decode cX11_hasRoom 5 = .ok (.iadd, 1) := by decide +kernel
theorem dX11_hasRoom_6 : decode cX11_hasRoom 6 = .ok (.sipush 1000, 3) := by decide +kernel
theorem dX11_hasRoom_9 : decode cX11_hasRoom 9 = .ok (.if_icmp .gt 19, 3) := by decide +kernel
theorem dX11_hasRoom_12 : decode cX11_hasRoom 12 = .ok (.aload_n 0, 1) := by decide +kernel
theorem dX11_hasRoom_13 : decode cX11_hasRoom 13 = .ok (.getfield 174, 3) := by decide +kernel
theorem dX11_hasRoom_16 : decode cX11_hasRoom 16 = .ok (.iload_n 2, 1) := by decide +kernel
theorem dX11_hasRoom_17 : decode cX11_hasRoom 17 = .ok (.iadd, 1) := by decide +kernel
theorem dX11_hasRoom_18 : decode cX11_hasRoom 18 = .ok (.sipush 20000, 3) := by decide +kernel
theorem dX11_hasRoom_21 : decode cX11_hasRoom 21 = .ok (.if_icmp .gt 7, 3) := by decide +kernel
theorem dX11_hasRoom_24 : decode cX11_hasRoom 24 = .ok (.iconst 1, 1) := by decide +kernel
theorem dX11_hasRoom_25 : decode cX11_hasRoom 25 = .ok (.goto 4, 3) := by decide +kernel
theorem dX11_hasRoom_28 : decode cX11_hasRoom 28 = .ok (.iconst 0, 1) := by decide +kernel
theorem dX11_hasRoom_29 : decode cX11_hasRoom 29 = .ok (.ireturn, 1) := by decide +kernel
def cd_139 : dm_Code := [[dm_ald 1 0, dm_getf 4 8 15, dm_no, dm_no, dm_ild 5 1, dm_ii 6 (fun x y => x + y), dm_push 9 (.int 1000), dm_no, dm_no, dm_ic_gt 12 28, dm_no, dm_no, dm_ald 13 0, dm_getf 16 8 17, dm_no, dm_no],
  [dm_ild 17 2, dm_ii 18 (fun x y => x + y), dm_push 21 (.int 20000), dm_no, dm_no, dm_ic_gt 24 28, dm_no, dm_no, dm_push 25 (.int 1), dm_goto 29, dm_no, dm_no, dm_push 29 (.int 0), dm_ret .boolean]]
theorem tr_139_0 : dm_AllR (dm_Good dm_tb RX11 cX11_hasRoom 3 (some .boolean) false none) 0 [dm_ald 1 0, dm_getf 4 8 15, dm_no, dm_no, dm_ild 5 1, dm_ii 6 (fun x y => x + y), dm_push 9 (.int 1000), dm_no, dm_no, dm_ic_gt 12 28, dm_no, dm_no, dm_ald 13 0, dm_getf 16 8 17, dm_no, dm_no] := dr_c (dg_aload_n (k := 0) rfl dX11_hasRoom_0) <| dr_c (dg_getf (T := TX11) (C := RX11) (N := 68) dX11_hasRoom_1 rfl (by decide) iw_X11 wd_963) <| dr_c (dg_no) <| dr_c (dg_no) <| dr_c (dg_iload_n (k := 1) rfl dX11_hasRoom_4) <| dr_c (dg_iadd dX11_hasRoom_5) <| dr_c (dg_sipush (by decide) dX11_hasRoom_6) <| dr_c (dg_no) <| dr_c (dg_no) <| dr_c (dg_ic_gt (by decide) dX11_hasRoom_9) <| dr_c (dg_no) <| dr_c (dg_no) <| dr_c (dg_aload_n (k := 0) rfl dX11_hasRoom_12) <| dr_c (dg_getf (T := TX11) (C := RX11) (N := 68) dX11_hasRoom_13 rfl (by decide) iw_X11 wd_965) <| dr_c (dg_no) <| dr_c (dg_no) <| dr_n
theorem tr_139_1 : dm_AllR (dm_Good dm_tb RX11 cX11_hasRoom 3 (some .boolean) false none) 16 [dm_ild 17 2, dm_ii 18 (fun x y => x + y), dm_push 21 (.int 20000), dm_no, dm_no, dm_ic_gt 24 28, dm_no, dm_no, dm_push 25 (.int 1), dm_goto 29, dm_no, dm_no, dm_push 29 (.int 0), dm_ret .boolean] := dr_c (dg_iload_n (k := 2) rfl dX11_hasRoom_16) <| dr_c (dg_iadd dX11_hasRoom_17) <| dr_c (dg_sipush (by decide) dX11_hasRoom_18) <| dr_c (dg_no) <| dr_c (dg_no) <| dr_c (dg_ic_gt (by decide) dX11_hasRoom_21) <| dr_c (dg_no) <| dr_c (dg_no) <| dr_c (dg_iconst (by decide) dX11_hasRoom_24) <| dr_c (dg_goto (by decide) dX11_hasRoom_25) <| dr_c (dg_no) <| dr_c (dg_no) <| dr_c (dg_iconst (by decide) dX11_hasRoom_28) <| dr_c (dg_ret dX11_hasRoom_29) <| dr_n
theorem tk_139 : dm_AllC (dm_Good dm_tb RX11 cX11_hasRoom 3 (some .boolean) false none) 0 cd_139 := dc_c (by decide) tr_139_0 <| dc_c (by decide) tr_139_1 <| dc_n
theorem dX11_make_0 : decode cX11_make 0 = .ok (.aload_n 0, 1) := by decide +kernel
theorem dX11_make_1 : decode cX11_make 1 = .ok (.getfield 168, 3) := by decide +kernel
theorem dX11_make_4 : decode cX11_make 4 = .ok (.istore 4, 2) := by decide +kernel
theorem dX11_make_6 : decode cX11_make 6 = .ok (.iconst 0, 1) := by decide +kernel
theorem dX11_make_7 : decode cX11_make 7 = .ok (.istore 5, 2) := by decide +kernel
theorem dX11_make_9 : decode cX11_make 9 = .ok (.iload 5, 2) := by decide +kernel
theorem dX11_make_11 : decode cX11_make 11 = .ok (.aload_n 0, 1) := by decide +kernel
theorem dX11_make_12 : decode cX11_make 12 = .ok (.getfield 180, 3) := by decide +kernel
theorem dX11_make_15 : decode cX11_make 15 = .ok (.if_icmp .ge 53, 3) := by decide +kernel
theorem dX11_make_18 : decode cX11_make 18 = .ok (.aload_n 0, 1) := by decide +kernel
theorem dX11_make_19 : decode cX11_make 19 = .ok (.getfield 9, 3) := by decide +kernel
theorem dX11_make_22 : decode cX11_make 22 = .ok (.aload_n 0, 1) := by decide +kernel
theorem dX11_make_23 : decode cX11_make 23 = .ok (.getfield 23, 3) := by decide +kernel
theorem dX11_make_26 : decode cX11_make 26 = .ok (.iload 4, 2) := by decide +kernel
theorem dX11_make_28 : decode cX11_make 28 = .ok (.iaload, 1) := by decide +kernel
theorem dX11_make_29 : decode cX11_make 29 = .ok (.iload 5, 2) := by decide +kernel
theorem dX11_make_31 : decode cX11_make 31 = .ok (.iadd, 1) := by decide +kernel
theorem dX11_make_32 : decode cX11_make 32 = .ok (.aload_n 0, 1) := by decide +kernel
theorem dX11_make_33 : decode cX11_make 33 = .ok (.getfield 83, 3) := by decide +kernel
theorem dX11_make_36 : decode cX11_make 36 = .ok (.iload 5, 2) := by decide +kernel
theorem dX11_make_38 : decode cX11_make 38 = .ok (.laload, 1) := by decide +kernel
theorem dX11_make_39 : decode cX11_make 39 = .ok (.lastore, 1) := by decide +kernel
theorem dX11_make_40 : decode cX11_make 40 = .ok (.aload_n 0, 1) := by decide +kernel
theorem dX11_make_41 : decode cX11_make 41 = .ok (.getfield 13, 3) := by decide +kernel
theorem dX11_make_44 : decode cX11_make 44 = .ok (.aload_n 0, 1) := by decide +kernel
theorem dX11_make_45 : decode cX11_make 45 = .ok (.getfield 23, 3) := by decide +kernel
theorem dX11_make_48 : decode cX11_make 48 = .ok (.iload 4, 2) := by decide +kernel
theorem dX11_make_50 : decode cX11_make 50 = .ok (.iaload, 1) := by decide +kernel
theorem dX11_make_51 : decode cX11_make 51 = .ok (.iload 5, 2) := by decide +kernel
theorem dX11_make_53 : decode cX11_make 53 = .ok (.iadd, 1) := by decide +kernel
theorem dX11_make_54 : decode cX11_make 54 = .ok (.aload_n 0, 1) := by decide +kernel
theorem dX11_make_55 : decode cX11_make 55 = .ok (.getfield 86, 3) := by decide +kernel
theorem dX11_make_58 : decode cX11_make 58 = .ok (.iload 5, 2) := by decide +kernel
theorem dX11_make_60 : decode cX11_make 60 = .ok (.iaload, 1) := by decide +kernel
theorem dX11_make_61 : decode cX11_make 61 = .ok (.iastore, 1) := by decide +kernel
theorem dX11_make_62 : decode cX11_make 62 = .ok (.iinc 5 1, 3) := by decide +kernel
theorem dX11_make_65 : decode cX11_make 65 = .ok (.goto (-56), 3) := by decide +kernel
theorem dX11_make_68 : decode cX11_make 68 = .ok (.iconst 0, 1) := by decide +kernel
theorem dX11_make_69 : decode cX11_make 69 = .ok (.istore 5, 2) := by decide +kernel
theorem dX11_make_71 : decode cX11_make 71 = .ok (.iload 5, 2) := by decide +kernel
theorem dX11_make_73 : decode cX11_make 73 = .ok (.aload_n 0, 1) := by decide +kernel
theorem dX11_make_74 : decode cX11_make 74 = .ok (.getfield 183, 3) := by decide +kernel
theorem dX11_make_77 : decode cX11_make 77 = .ok (.if_icmp .ge 53, 3) := by decide +kernel
theorem dX11_make_80 : decode cX11_make 80 = .ok (.aload_n 0, 1) := by decide +kernel
theorem dX11_make_81 : decode cX11_make 81 = .ok (.getfield 17, 3) := by decide +kernel
theorem dX11_make_84 : decode cX11_make 84 = .ok (.aload_n 0, 1) := by decide +kernel
theorem dX11_make_85 : decode cX11_make 85 = .ok (.getfield 26, 3) := by decide +kernel
theorem dX11_make_88 : decode cX11_make 88 = .ok (.iload 4, 2) := by decide +kernel
theorem dX11_make_90 : decode cX11_make 90 = .ok (.iaload, 1) := by decide +kernel
theorem dX11_make_91 : decode cX11_make 91 = .ok (.iload 5, 2) := by decide +kernel
theorem dX11_make_93 : decode cX11_make 93 = .ok (.iadd, 1) := by decide +kernel
theorem dX11_make_94 : decode cX11_make 94 = .ok (.aload_n 0, 1) := by decide +kernel
theorem dX11_make_95 : decode cX11_make 95 = .ok (.getfield 95, 3) := by decide +kernel
theorem dX11_make_98 : decode cX11_make 98 = .ok (.iload 5, 2) := by decide +kernel
theorem dX11_make_100 : decode cX11_make 100 = .ok (.laload, 1) := by decide +kernel
theorem dX11_make_101 : decode cX11_make 101 = .ok (.lastore, 1) := by decide +kernel
theorem dX11_make_102 : decode cX11_make 102 = .ok (.aload_n 0, 1) := by decide +kernel
theorem dX11_make_103 : decode cX11_make 103 = .ok (.getfield 20, 3) := by decide +kernel
theorem dX11_make_106 : decode cX11_make 106 = .ok (.aload_n 0, 1) := by decide +kernel
theorem dX11_make_107 : decode cX11_make 107 = .ok (.getfield 26, 3) := by decide +kernel
theorem dX11_make_110 : decode cX11_make 110 = .ok (.iload 4, 2) := by decide +kernel
theorem dX11_make_112 : decode cX11_make 112 = .ok (.iaload, 1) := by decide +kernel
theorem dX11_make_113 : decode cX11_make 113 = .ok (.iload 5, 2) := by decide +kernel
theorem dX11_make_115 : decode cX11_make 115 = .ok (.iadd, 1) := by decide +kernel
theorem dX11_make_116 : decode cX11_make 116 = .ok (.aload_n 0, 1) := by decide +kernel
theorem dX11_make_117 : decode cX11_make 117 = .ok (.getfield 98, 3) := by decide +kernel
theorem dX11_make_120 : decode cX11_make 120 = .ok (.iload 5, 2) := by decide +kernel
theorem dX11_make_122 : decode cX11_make 122 = .ok (.laload, 1) := by decide +kernel
theorem dX11_make_123 : decode cX11_make 123 = .ok (.lastore, 1) := by decide +kernel
theorem dX11_make_124 : decode cX11_make 124 = .ok (.iinc 5 1, 3) := by decide +kernel
theorem dX11_make_127 : decode cX11_make 127 = .ok (.goto (-56), 3) := by decide +kernel
theorem dX11_make_130 : decode cX11_make 130 = .ok (.aload_n 0, 1) := by decide +kernel
theorem dX11_make_131 : decode cX11_make 131 = .ok (.getfield 23, 3) := by decide +kernel
theorem dX11_make_134 : decode cX11_make 134 = .ok (.iload 4, 2) := by decide +kernel
theorem dX11_make_136 : decode cX11_make 136 = .ok (.iconst 1, 1) := by decide +kernel
theorem dX11_make_137 : decode cX11_make 137 = .ok (.iadd, 1) := by decide +kernel
theorem dX11_make_138 : decode cX11_make 138 = .ok (.aload_n 0, 1) := by decide +kernel
theorem dX11_make_139 : decode cX11_make 139 = .ok (.getfield 23, 3) := by decide +kernel
theorem dX11_make_142 : decode cX11_make 142 = .ok (.iload 4, 2) := by decide +kernel
theorem dX11_make_144 : decode cX11_make 144 = .ok (.iaload, 1) := by decide +kernel
theorem dX11_make_145 : decode cX11_make 145 = .ok (.aload_n 0, 1) := by decide +kernel
theorem dX11_make_146 : decode cX11_make 146 = .ok (.getfield 180, 3) := by decide +kernel
theorem dX11_make_149 : decode cX11_make 149 = .ok (.iadd, 1) := by decide +kernel
theorem dX11_make_150 : decode cX11_make 150 = .ok (.iastore, 1) := by decide +kernel
theorem dX11_make_151 : decode cX11_make 151 = .ok (.aload_n 0, 1) := by decide +kernel
theorem dX11_make_152 : decode cX11_make 152 = .ok (.getfield 26, 3) := by decide +kernel
theorem dX11_make_155 : decode cX11_make 155 = .ok (.iload 4, 2) := by decide +kernel
theorem dX11_make_157 : decode cX11_make 157 = .ok (.iconst 1, 1) := by decide +kernel
theorem dX11_make_158 : decode cX11_make 158 = .ok (.iadd, 1) := by decide +kernel
theorem dX11_make_159 : decode cX11_make 159 = .ok (.aload_n 0, 1) := by decide +kernel
theorem dX11_make_160 : decode cX11_make 160 = .ok (.getfield 26, 3) := by decide +kernel
theorem dX11_make_163 : decode cX11_make 163 = .ok (.iload 4, 2) := by decide +kernel
theorem dX11_make_165 : decode cX11_make 165 = .ok (.iaload, 1) := by decide +kernel
theorem dX11_make_166 : decode cX11_make 166 = .ok (.aload_n 0, 1) := by decide +kernel
theorem dX11_make_167 : decode cX11_make 167 = .ok (.getfield 183, 3) := by decide +kernel
theorem dX11_make_170 : decode cX11_make 170 = .ok (.iadd, 1) := by decide +kernel
theorem dX11_make_171 : decode cX11_make 171 = .ok (.iastore, 1) := by decide +kernel
theorem dX11_make_172 : decode cX11_make 172 = .ok (.aload_n 0, 1) := by decide +kernel
theorem dX11_make_173 : decode cX11_make 173 = .ok (.getfield 29, 3) := by decide +kernel
theorem dX11_make_176 : decode cX11_make 176 = .ok (.iload 4, 2) := by decide +kernel
theorem dX11_make_178 : decode cX11_make 178 = .ok (.iconst 1, 1) := by decide +kernel
theorem dX11_make_179 : decode cX11_make 179 = .ok (.bastore, 1) := by decide +kernel
theorem dX11_make_180 : decode cX11_make 180 = .ok (.aload_n 0, 1) := by decide +kernel
theorem dX11_make_181 : decode cX11_make 181 = .ok (.getfield 33, 3) := by decide +kernel
theorem dX11_make_184 : decode cX11_make 184 = .ok (.iload 4, 2) := by decide +kernel
theorem dX11_make_186 : decode cX11_make 186 = .ok (.iconst 0, 1) := by decide +kernel
theorem dX11_make_187 : decode cX11_make 187 = .ok (.bastore, 1) := by decide +kernel
theorem dX11_make_188 : decode cX11_make 188 = .ok (.aload_n 0, 1) := by decide +kernel
theorem dX11_make_189 : decode cX11_make 189 = .ok (.getfield 39, 3) := by decide +kernel
theorem dX11_make_192 : decode cX11_make 192 = .ok (.iload 4, 2) := by decide +kernel
theorem dX11_make_194 : decode cX11_make 194 = .ok (.iload_n 1, 1) := by decide +kernel
theorem dX11_make_195 : decode cX11_make 195 = .ok (.i2b, 1) := by decide +kernel
theorem dX11_make_196 : decode cX11_make 196 = .ok (.bastore, 1) := by decide +kernel
theorem dX11_make_197 : decode cX11_make 197 = .ok (.aload_n 0, 1) := by decide +kernel
theorem dX11_make_198 : decode cX11_make 198 = .ok (.getfield 43, 3) := by decide +kernel
theorem dX11_make_201 : decode cX11_make 201 = .ok (.iload 4, 2) := by decide +kernel
theorem dX11_make_203 : decode cX11_make 203 = .ok (.iload_n 2, 1) := by decide +kernel
theorem dX11_make_204 : decode cX11_make 204 = .ok (.i2s, 1) := by decide +kernel
theorem dX11_make_205 : decode cX11_make 205 = .ok (.sastore, 1) := by decide +kernel
theorem dX11_make_206 : decode cX11_make 206 = .ok (.aload_n 0, 1) := by decide +kernel
theorem dX11_make_207 : decode cX11_make 207 = .ok (.getfield 47, 3) := by decide +kernel
theorem dX11_make_210 : decode cX11_make 210 = .ok (.iload 4, 2) := by decide +kernel
theorem dX11_make_212 : decode cX11_make 212 = .ok (.iload_n 3, 1) := by decide +kernel
theorem dX11_make_213 : decode cX11_make 213 = .ok (.i2s, 1) := by decide +kernel
theorem dX11_make_214 : decode cX11_make 214 = .ok (.sastore, 1) := by decide +kernel
theorem dX11_make_215 : decode cX11_make 215 = .ok (.aload_n 0, 1) := by decide +kernel
theorem dX11_make_216 : decode cX11_make 216 = .ok (.getfield 36, 3) := by decide +kernel
theorem dX11_make_219 : decode cX11_make 219 = .ok (.iload 4, 2) := by decide +kernel
theorem dX11_make_221 : decode cX11_make 221 = .ok (.iload_n 1, 1) := by decide +kernel
theorem dX11_make_222 : decode cX11_make 222 = .ok (.bipush 6, 2) := by decide +kernel
theorem dX11_make_224 : decode cX11_make 224 = .ok (.if_icmp .eq 31, 3) := by decide +kernel
theorem dX11_make_227 : decode cX11_make 227 = .ok (.iload_n 2, 1) := by decide +kernel
theorem dX11_make_228 : decode cX11_make 228 = .ok (.iconst (-1), 1) := by decide +kernel
theorem dX11_make_229 : decode cX11_make 229 = .ok (.if_icmp .eq 12, 3) := by decide +kernel
theorem dX11_make_232 : decode cX11_make 232 = .ok (.aload_n 0, 1) := by decide +kernel
theorem dX11_make_233 : decode cX11_make 233 = .ok (.getfield 36, 3) := by decide +kernel
theorem dX11_make_236 : decode cX11_make 236 = .ok (.iload_n 2, 1) := by decide +kernel
theorem dX11_make_237 : decode cX11_make 237 = .ok (.baload, 1) := by decide +kernel
theorem dX11_make_238 : decode cX11_make 238 = .ok (.ifCond .ne 17, 3) := by decide +kernel
theorem dX11_make_241 : decode cX11_make 241 = .ok (.iload_n 3, 1) := by decide +kernel
theorem dX11_make_242 : decode cX11_make 242 = .ok (.iconst (-1), 1) := by decide +kernel
theorem dX11_make_243 : decode cX11_make 243 = .ok (.if_icmp .eq 16, 3) := by decide +kernel
theorem dX11_make_246 : decode cX11_make 246 = .ok (.aload_n 0, 1) := by decide +kernel
theorem dX11_make_247 : decode cX11_make 247 = .ok (.getfield 36, 3) := by decide +kernel
theorem dX11_make_250 : decode cX11_make 250 = .ok (.iload_n 3, 1) := by decide +kernel
theorem dX11_make_251 : decode cX11_make 251 = .ok (.baload, 1) := by decide +kernel
theorem dX11_make_252 : decode cX11_make 252 = .ok (.ifCond .eq 7, 3) := by decide +kernel
theorem dX11_make_255 : decode cX11_make 255 = .ok (.iconst 1, 1) := by decide +kernel
theorem dX11_make_256 : decode cX11_make 256 = .ok (.goto 4, 3) := by decide +kernel
theorem dX11_make_259 : decode cX11_make 259 = .ok (.iconst 0, 1) := by decide +kernel
theorem dX11_make_260 : decode cX11_make 260 = .ok (.bastore, 1) := by decide +kernel
theorem dX11_make_261 : decode cX11_make 261 = .ok (.iconst 0, 1) := by decide +kernel
theorem dX11_make_262 : decode cX11_make 262 = .ok (.istore 5, 2) := by decide +kernel
theorem dX11_make_264 : decode cX11_make 264 = .ok (.iload 5, 2) := by decide +kernel
theorem dX11_make_266 : decode cX11_make 266 = .ok (.bipush 16, 2) := by decide +kernel
theorem dX11_make_268 : decode cX11_make 268 = .ok (.if_icmp .ge 65, 3) := by decide +kernel
theorem dX11_make_271 : decode cX11_make 271 = .ok (.aload_n 0, 1) := by decide +kernel
theorem dX11_make_272 : decode cX11_make 272 = .ok (.getfield 56, 3) := by decide +kernel
theorem dX11_make_275 : decode cX11_make 275 = .ok (.bipush 16, 2) := by decide +kernel
theorem dX11_make_277 : decode cX11_make 277 = .ok (.iload 4, 2) := by decide +kernel
theorem dX11_make_279 : decode cX11_make 279 = .ok (.imul, 1) := by decide +kernel
theorem dX11_make_280 : decode cX11_make 280 = .ok (.iload 5, 2) := by decide +kernel
theorem dX11_make_282 : decode cX11_make 282 = .ok (.iadd, 1) := by decide +kernel
theorem dX11_make_283 : decode cX11_make 283 = .ok (.iload_n 2, 1) := by decide +kernel
theorem dX11_make_284 : decode cX11_make 284 = .ok (.iconst (-1), 1) := by decide +kernel
theorem dX11_make_285 : decode cX11_make 285 = .ok (.if_icmp .ne 7, 3) := by decide +kernel
theorem dX11_make_288 : decode cX11_make 288 = .ok (.lconst 0, 1) := by decide +kernel
theorem dX11_make_289 : decode cX11_make 289 = .ok (.goto 15, 3) := by decide +kernel
theorem dX11_make_292 : decode cX11_make 292 = .ok (.aload_n 0, 1) := by decide +kernel
theorem dX11_make_293 : decode cX11_make 293 = .ok (.getfield 56, 3) := by decide +kernel
theorem dX11_make_296 : decode cX11_make 296 = .ok (.bipush 16, 2) := by decide +kernel
theorem dX11_make_298 : decode cX11_make 298 = .ok (.iload_n 2, 1) := by decide +kernel
theorem dX11_make_299 : decode cX11_make 299 = .ok (.imul, 1) := by decide +kernel
theorem dX11_make_300 : decode cX11_make 300 = .ok (.iload 5, 2) := by decide +kernel
theorem dX11_make_302 : decode cX11_make 302 = .ok (.iadd, 1) := by decide +kernel
theorem dX11_make_303 : decode cX11_make 303 = .ok (.laload, 1) := by decide +kernel
theorem dX11_make_304 : decode cX11_make 304 = .ok (.iload_n 3, 1) := by decide +kernel
theorem dX11_make_305 : decode cX11_make 305 = .ok (.iconst (-1), 1) := by decide +kernel
theorem dX11_make_306 : decode cX11_make 306 = .ok (.if_icmp .ne 7, 3) := by decide +kernel
theorem dX11_make_309 : decode cX11_make 309 = .ok (.lconst 0, 1) := by decide +kernel
theorem dX11_make_310 : decode cX11_make 310 = .ok (.goto 15, 3) := by decide +kernel
theorem dX11_make_313 : decode cX11_make 313 = .ok (.aload_n 0, 1) := by decide +kernel
theorem dX11_make_314 : decode cX11_make 314 = .ok (.getfield 56, 3) := by decide +kernel
theorem dX11_make_317 : decode cX11_make 317 = .ok (.bipush 16, 2) := by decide +kernel
theorem dX11_make_319 : decode cX11_make 319 = .ok (.iload_n 3, 1) := by decide +kernel
theorem dX11_make_320 : decode cX11_make 320 = .ok (.imul, 1) := by decide +kernel
theorem dX11_make_321 : decode cX11_make 321 = .ok (.iload 5, 2) := by decide +kernel
theorem dX11_make_323 : decode cX11_make 323 = .ok (.iadd, 1) := by decide +kernel
theorem dX11_make_324 : decode cX11_make 324 = .ok (.laload, 1) := by decide +kernel
theorem dX11_make_325 : decode cX11_make 325 = .ok (.lor, 1) := by decide +kernel
theorem dX11_make_326 : decode cX11_make 326 = .ok (.lastore, 1) := by decide +kernel
theorem dX11_make_327 : decode cX11_make 327 = .ok (.iinc 5 1, 3) := by decide +kernel
theorem dX11_make_330 : decode cX11_make 330 = .ok (.goto (-66), 3) := by decide +kernel
theorem dX11_make_333 : decode cX11_make 333 = .ok (.aload_n 0, 1) := by decide +kernel
theorem dX11_make_334 : decode cX11_make 334 = .ok (.getfield 50, 3) := by decide +kernel
theorem dX11_make_337 : decode cX11_make 337 = .ok (.iload 4, 2) := by decide +kernel
theorem dX11_make_339 : decode cX11_make 339 = .ok (.aload_n 0, 1) := by decide +kernel
theorem dX11_make_340 : decode cX11_make 340 = .ok (.lconst 0, 1) := by decide +kernel
theorem dX11_make_341 : decode cX11_make 341 = .ok (.ldc2_w 186, 3) := by decide +kernel
theorem dX11_make_344 : decode cX11_make 344 = .ok (.invokevirtual 196, 3) := by decide +kernel
theorem dX11_make_347 : decode cX11_make 347 = .ok (.iastore, 1) := by decide +kernel
theorem dX11_make_348 : decode cX11_make 348 = .ok (.aload_n 0, 1) := by decide +kernel
theorem dX11_make_349 : decode cX11_make 349 = .ok (.getfield 53, 3) := by decide +kernel
theorem dX11_make_352 : decode cX11_make 352 = .ok (.iload 4, 2) := by decide +kernel
theorem dX11_make_354 : decode cX11_make 354 = .ok (.aload_n 0, 1) := by decide +kernel
theorem dX11_make_355 : decode cX11_make 355 = .ok (.lconst 0, 1) := by decide +kernel
theorem dX11_make_356 : decode cX11_make 356 = .ok (.ldc2_w 186, 3) := by decide +kernel
theorem dX11_make_359 : decode cX11_make 359 = .ok (.invokevirtual 200, 3) := by decide +kernel
theorem dX11_make_362 : decode cX11_make 362 = .ok (.iastore, 1) := by decide +kernel
theorem dX11_make_363 : decode cX11_make 363 = .ok (.aload_n 0, 1) := by decide +kernel
theorem dX11_make_364 : decode cX11_make 364 = .ok (.dup, 1) := by decide +kernel
theorem dX11_make_365 : decode cX11_make 365 = .ok (.getfield 174, 3) := by decide +kernel
theorem dX11_make_368 : decode cX11_make 368 = .ok (.aload_n 0, 1) := by decide +kernel
theorem dX11_make_369 : decode cX11_make 369 = .ok (.getfield 50, 3) := by decide +kernel
theorem dX11_make_372 : decode cX11_make 372 = .ok (.iload 4, 2) := by decide +kernel
theorem dX11_make_374 : decode cX11_make 374 = .ok (.iaload, 1) := by decide +kernel
theorem dX11_make_375 : decode cX11_make 375 = .ok (.aload_n 0, 1) := by decide +kernel
theorem dX11_make_376 : decode cX11_make 376 = .ok (.getfield 53, 3) := by decide +kernel
theorem dX11_make_379 : decode cX11_make 379 = .ok (.iload 4, 2) := by decide +kernel
theorem dX11_make_381 : decode cX11_make 381 = .ok (.iaload, 1) := by decide +kernel
theorem dX11_make_382 : decode cX11_make 382 = .ok (.iadd, 1) := by decide +kernel
theorem dX11_make_383 : decode cX11_make 383 = .ok (.iadd, 1) := by decide +kernel
theorem dX11_make_384 : decode cX11_make 384 = .ok (.putfield 174, 3) := by decide +kernel
theorem dX11_make_387 : decode cX11_make 387 = .ok (.aload_n 0, 1) := by decide +kernel
theorem dX11_make_388 : decode cX11_make 388 = .ok (.dup, 1) := by decide +kernel
theorem dX11_make_389 : decode cX11_make 389 = .ok (.getfield 168, 3) := by decide +kernel
theorem dX11_make_392 : decode cX11_make 392 = .ok (.iconst 1, 1) := by decide +kernel
theorem dX11_make_393 : decode cX11_make 393 = .ok (.iadd, 1) := by decide +kernel
theorem dX11_make_394 : decode cX11_make 394 = .ok (.putfield 168, 3) := by decide +kernel
theorem dX11_make_397 : decode cX11_make 397 = .ok (.iload 4, 2) := by decide +kernel
theorem dX11_make_399 : decode cX11_make 399 = .ok (.ireturn, 1) := by decide +kernel
def cd_140 : dm_Code := [[dm_ald 1 0, dm_getf 4 8 15, dm_no, dm_no, dm_ist 6 4, dm_no, dm_push 7 (.int 0), dm_ist 9 5, dm_no, dm_ild 11 5, dm_no, dm_ald 12 0, dm_getf 15 8 29, dm_no, dm_no, dm_ic_ge 18 68],
  [dm_no, dm_no, dm_ald 19 0, dm_getf 22 8 0, dm_no, dm_no, dm_ald 23 0, dm_getf 26 8 4, dm_no, dm_no, dm_ild 28 4, dm_no, dm_iald 29, dm_ild 31 5, dm_no, dm_ii 32 (fun x y => x + y)],
  [dm_ald 33 0, dm_getf 36 8 27, dm_no, dm_no, dm_ild 38 5, dm_no, dm_lald 39, dm_last 40, dm_ald 41 0, dm_getf 44 8 1, dm_no, dm_no, dm_ald 45 0, dm_getf 48 8 4, dm_no, dm_no],
  [dm_ild 50 4, dm_no, dm_iald 51, dm_ild 53 5, dm_no, dm_ii 54 (fun x y => x + y), dm_ald 55 0, dm_getf 58 8 28, dm_no, dm_no, dm_ild 60 5, dm_no, dm_iald 61, dm_iast 62, dm_iinc 65 5 1, dm_no],
  [dm_no, dm_goto 9, dm_no, dm_no, dm_push 69 (.int 0), dm_ist 71 5, dm_no, dm_ild 73 5, dm_no, dm_ald 74 0, dm_getf 77 8 34, dm_no, dm_no, dm_ic_ge 80 130, dm_no, dm_no],
  [dm_ald 81 0, dm_getf 84 8 2, dm_no, dm_no, dm_ald 85 0, dm_getf 88 8 5, dm_no, dm_no, dm_ild 90 4, dm_no, dm_iald 91, dm_ild 93 5, dm_no, dm_ii 94 (fun x y => x + y), dm_ald 95 0, dm_getf 98 8 32],
  [dm_no, dm_no, dm_ild 100 5, dm_no, dm_lald 101, dm_last 102, dm_ald 103 0, dm_getf 106 8 3, dm_no, dm_no, dm_ald 107 0, dm_getf 110 8 5, dm_no, dm_no, dm_ild 112 4, dm_no],
  [dm_iald 113, dm_ild 115 5, dm_no, dm_ii 116 (fun x y => x + y), dm_ald 117 0, dm_getf 120 8 33, dm_no, dm_no, dm_ild 122 5, dm_no, dm_lald 123, dm_last 124, dm_iinc 127 5 1, dm_no, dm_no, dm_goto 71],
  [dm_no, dm_no, dm_ald 131 0, dm_getf 134 8 4, dm_no, dm_no, dm_ild 136 4, dm_no, dm_push 137 (.int 1), dm_ii 138 (fun x y => x + y), dm_ald 139 0, dm_getf 142 8 4, dm_no, dm_no, dm_ild 144 4, dm_no],
  [dm_iald 145, dm_ald 146 0, dm_getf 149 8 29, dm_no, dm_no, dm_ii 150 (fun x y => x + y), dm_iast 151, dm_ald 152 0, dm_getf 155 8 5, dm_no, dm_no, dm_ild 157 4, dm_no, dm_push 158 (.int 1), dm_ii 159 (fun x y => x + y), dm_ald 160 0],
  [dm_getf 163 8 5, dm_no, dm_no, dm_ild 165 4, dm_no, dm_iald 166, dm_ald 167 0, dm_getf 170 8 34, dm_no, dm_no, dm_ii 171 (fun x y => x + y), dm_iast 172, dm_ald 173 0, dm_getf 176 8 6, dm_no, dm_no],
  [dm_ild 178 4, dm_no, dm_push 179 (.int 1), dm_bast 180, dm_ald 181 0, dm_getf 184 8 7, dm_no, dm_no, dm_ild 186 4, dm_no, dm_push 187 (.int 0), dm_bast 188, dm_ald 189 0, dm_getf 192 8 9, dm_no, dm_no],
  [dm_ild 194 4, dm_no, dm_ild 195 1, dm_i1 196 (fun x => .int x.toInt8.toInt32), dm_bast 197, dm_ald 198 0, dm_getf 201 8 10, dm_no, dm_no, dm_ild 203 4, dm_no, dm_ild 204 2, dm_i1 205 (fun x => .int x.toInt16.toInt32), dm_sast 206, dm_ald 207 0, dm_getf 210 8 11],
  [dm_no, dm_no, dm_ild 212 4, dm_no, dm_ild 213 3, dm_i1 214 (fun x => .int x.toInt16.toInt32), dm_sast 215, dm_ald 216 0, dm_getf 219 8 8, dm_no, dm_no, dm_ild 221 4, dm_no, dm_ild 222 1, dm_push 224 (.int 6), dm_no],
  [dm_ic_eq 227 255, dm_no, dm_no, dm_ild 228 2, dm_push 229 (.int (-1)), dm_ic_eq 232 241, dm_no, dm_no, dm_ald 233 0, dm_getf 236 8 8, dm_no, dm_no, dm_ild 237 2, dm_bald 238, dm_if_ne 241 255, dm_no],
  [dm_no, dm_ild 242 3, dm_push 243 (.int (-1)), dm_ic_eq 246 259, dm_no, dm_no, dm_ald 247 0, dm_getf 250 8 8, dm_no, dm_no, dm_ild 251 3, dm_bald 252, dm_if_eq 255 259, dm_no, dm_no, dm_push 256 (.int 1)],
  [dm_goto 260, dm_no, dm_no, dm_push 260 (.int 0), dm_bast 261, dm_push 262 (.int 0), dm_ist 264 5, dm_no, dm_ild 266 5, dm_no, dm_push 268 (.int 16), dm_no, dm_ic_ge 271 333, dm_no, dm_no, dm_ald 272 0],
  [dm_getf 275 8 14, dm_no, dm_no, dm_push 277 (.int 16), dm_no, dm_ild 279 4, dm_no, dm_ii 280 (fun x y => x * y), dm_ild 282 5, dm_no, dm_ii 283 (fun x y => x + y), dm_ild 284 2, dm_push 285 (.int (-1)), dm_ic_ne 288 292, dm_no, dm_no],
  [dm_push 289 (.long 0), dm_goto 304, dm_no, dm_no, dm_ald 293 0, dm_getf 296 8 14, dm_no, dm_no, dm_push 298 (.int 16), dm_no, dm_ild 299 2, dm_ii 300 (fun x y => x * y), dm_ild 302 5, dm_no, dm_ii 303 (fun x y => x + y), dm_lald 304],
  [dm_ild 305 3, dm_push 306 (.int (-1)), dm_ic_ne 309 313, dm_no, dm_no, dm_push 310 (.long 0), dm_goto 325, dm_no, dm_no, dm_ald 314 0, dm_getf 317 8 14, dm_no, dm_no, dm_push 319 (.int 16), dm_no, dm_ild 320 3],
  [dm_ii 321 (fun x y => x * y), dm_ild 323 5, dm_no, dm_ii 324 (fun x y => x + y), dm_lald 325, dm_ll 326 (fun x y => x ||| y), dm_last 327, dm_iinc 330 5 1, dm_no, dm_no, dm_goto 264, dm_no, dm_no, dm_ald 334 0, dm_getf 337 8 12, dm_no],
  [dm_no, dm_ild 339 4, dm_no, dm_ald 340 0, dm_push 341 (.long 0), dm_push 344 (.long 1152921504606846976), dm_no, dm_no, dm_inv 347 153 2 8, dm_no, dm_no, dm_iast 348, dm_ald 349 0, dm_getf 352 8 13, dm_no, dm_no],
  [dm_ild 354 4, dm_no, dm_ald 355 0, dm_push 356 (.long 0), dm_push 359 (.long 1152921504606846976), dm_no, dm_no, dm_inv 362 151 2 8, dm_no, dm_no, dm_iast 363, dm_ald 364 0, dm_dup 365, dm_getf 368 8 17, dm_no, dm_no],
  [dm_ald 369 0, dm_getf 372 8 12, dm_no, dm_no, dm_ild 374 4, dm_no, dm_iald 375, dm_ald 376 0, dm_getf 379 8 13, dm_no, dm_no, dm_ild 381 4, dm_no, dm_iald 382, dm_ii 383 (fun x y => x + y), dm_ii 384 (fun x y => x + y)],
  [dm_putf 387 8 17 .int, dm_no, dm_no, dm_ald 388 0, dm_dup 389, dm_getf 392 8 15, dm_no, dm_no, dm_push 393 (.int 1), dm_ii 394 (fun x y => x + y), dm_putf 397 8 15 .int, dm_no, dm_no, dm_ild 399 4, dm_no, dm_ret .int]]
theorem tr_140_0 : dm_AllR (dm_Good dm_tb RX11 cX11_make 6 (some .int) false none) 0 [dm_ald 1 0, dm_getf 4 8 15, dm_no, dm_no, dm_ist 6 4, dm_no, dm_push 7 (.int 0), dm_ist 9 5, dm_no, dm_ild 11 5, dm_no, dm_ald 12 0, dm_getf 15 8 29, dm_no, dm_no, dm_ic_ge 18 68] := dr_c (dg_aload_n (k := 0) rfl dX11_make_0) <| dr_c (dg_getf (T := TX11) (C := RX11) (N := 68) dX11_make_1 rfl (by decide) iw_X11 wd_963) <| dr_c (dg_no) <| dr_c (dg_no) <| dr_c (dg_istore (by decide) dX11_make_4) <| dr_c (dg_no) <| dr_c (dg_iconst (by decide) dX11_make_6) <| dr_c (dg_istore (by decide) dX11_make_7) <| dr_c (dg_no) <| dr_c (dg_iload dX11_make_9) <| dr_c (dg_no) <| dr_c (dg_aload_n (k := 0) rfl dX11_make_11) <| dr_c (dg_getf (T := TX11) (C := RX11) (N := 68) dX11_make_12 rfl (by decide) iw_X11 wd_977) <| dr_c (dg_no) <| dr_c (dg_no) <| dr_c (dg_ic_ge (by decide) dX11_make_15) <| dr_n
theorem tr_140_1 : dm_AllR (dm_Good dm_tb RX11 cX11_make 6 (some .int) false none) 16 [dm_no, dm_no, dm_ald 19 0, dm_getf 22 8 0, dm_no, dm_no, dm_ald 23 0, dm_getf 26 8 4, dm_no, dm_no, dm_ild 28 4, dm_no, dm_iald 29, dm_ild 31 5, dm_no, dm_ii 32 (fun x y => x + y)] := dr_c (dg_no) <| dr_c (dg_no) <| dr_c (dg_aload_n (k := 0) rfl dX11_make_18) <| dr_c (dg_getf (T := TX11) (C := RX11) (N := 68) dX11_make_19 rfl (by decide) iw_X11 wd_948) <| dr_c (dg_no) <| dr_c (dg_no) <| dr_c (dg_aload_n (k := 0) rfl dX11_make_22) <| dr_c (dg_getf (T := TX11) (C := RX11) (N := 68) dX11_make_23 rfl (by decide) iw_X11 wd_952) <| dr_c (dg_no) <| dr_c (dg_no) <| dr_c (dg_iload dX11_make_26) <| dr_c (dg_no) <| dr_c (dg_iald dX11_make_28) <| dr_c (dg_iload dX11_make_29) <| dr_c (dg_no) <| dr_c (dg_iadd dX11_make_31) <| dr_n
theorem tr_140_2 : dm_AllR (dm_Good dm_tb RX11 cX11_make 6 (some .int) false none) 32 [dm_ald 33 0, dm_getf 36 8 27, dm_no, dm_no, dm_ild 38 5, dm_no, dm_lald 39, dm_last 40, dm_ald 41 0, dm_getf 44 8 1, dm_no, dm_no, dm_ald 45 0, dm_getf 48 8 4, dm_no, dm_no] := dr_c (dg_aload_n (k := 0) rfl dX11_make_32) <| dr_c (dg_getf (T := TX11) (C := RX11) (N := 68) dX11_make_33 rfl (by decide) iw_X11 wd_975) <| dr_c (dg_no) <| dr_c (dg_no) <| dr_c (dg_iload dX11_make_36) <| dr_c (dg_no) <| dr_c (dg_lald dX11_make_38) <| dr_c (dg_last dX11_make_39) <| dr_c (dg_aload_n (k := 0) rfl dX11_make_40) <| dr_c (dg_getf (T := TX11) (C := RX11) (N := 68) dX11_make_41 rfl (by decide) iw_X11 wd_949) <| dr_c (dg_no) <| dr_c (dg_no) <| dr_c (dg_aload_n (k := 0) rfl dX11_make_44) <| dr_c (dg_getf (T := TX11) (C := RX11) (N := 68) dX11_make_45 rfl (by decide) iw_X11 wd_952) <| dr_c (dg_no) <| dr_c (dg_no) <| dr_n
theorem tr_140_3 : dm_AllR (dm_Good dm_tb RX11 cX11_make 6 (some .int) false none) 48 [dm_ild 50 4, dm_no, dm_iald 51, dm_ild 53 5, dm_no, dm_ii 54 (fun x y => x + y), dm_ald 55 0, dm_getf 58 8 28, dm_no, dm_no, dm_ild 60 5, dm_no, dm_iald 61, dm_iast 62, dm_iinc 65 5 1, dm_no] := dr_c (dg_iload dX11_make_48) <| dr_c (dg_no) <| dr_c (dg_iald dX11_make_50) <| dr_c (dg_iload dX11_make_51) <| dr_c (dg_no) <| dr_c (dg_iadd dX11_make_53) <| dr_c (dg_aload_n (k := 0) rfl dX11_make_54) <| dr_c (dg_getf (T := TX11) (C := RX11) (N := 68) dX11_make_55 rfl (by decide) iw_X11 wd_976) <| dr_c (dg_no) <| dr_c (dg_no) <| dr_c (dg_iload dX11_make_58) <| dr_c (dg_no) <| dr_c (dg_iald dX11_make_60) <| dr_c (dg_iast dX11_make_61) <| dr_c (dg_iinc (by decide) (by decide) dX11_make_62) <| dr_c (dg_no) <| dr_n
theorem tr_140_4 : dm_AllR (dm_Good dm_tb RX11 cX11_make 6 (some .int) false none) 64 [dm_no, dm_goto 9, dm_no, dm_no, dm_push 69 (.int 0), dm_ist 71 5, dm_no, dm_ild 73 5, dm_no, dm_ald 74 0, dm_getf 77 8 34, dm_no, dm_no, dm_ic_ge 80 130, dm_no, dm_no] := dr_c (dg_no) <| dr_c (dg_goto (by decide) dX11_make_65) <| dr_c (dg_no) <| dr_c (dg_no) <| dr_c (dg_iconst (by decide) dX11_make_68) <| dr_c (dg_istore (by decide) dX11_make_69) <| dr_c (dg_no) <| dr_c (dg_iload dX11_make_71) <| dr_c (dg_no) <| dr_c (dg_aload_n (k := 0) rfl dX11_make_73) <| dr_c (dg_getf (T := TX11) (C := RX11) (N := 68) dX11_make_74 rfl (by decide) iw_X11 wd_982) <| dr_c (dg_no) <| dr_c (dg_no) <| dr_c (dg_ic_ge (by decide) dX11_make_77) <| dr_c (dg_no) <| dr_c (dg_no) <| dr_n
theorem tr_140_5 : dm_AllR (dm_Good dm_tb RX11 cX11_make 6 (some .int) false none) 80 [dm_ald 81 0, dm_getf 84 8 2, dm_no, dm_no, dm_ald 85 0, dm_getf 88 8 5, dm_no, dm_no, dm_ild 90 4, dm_no, dm_iald 91, dm_ild 93 5, dm_no, dm_ii 94 (fun x y => x + y), dm_ald 95 0, dm_getf 98 8 32] := dr_c (dg_aload_n (k := 0) rfl dX11_make_80) <| dr_c (dg_getf (T := TX11) (C := RX11) (N := 68) dX11_make_81 rfl (by decide) iw_X11 wd_950) <| dr_c (dg_no) <| dr_c (dg_no) <| dr_c (dg_aload_n (k := 0) rfl dX11_make_84) <| dr_c (dg_getf (T := TX11) (C := RX11) (N := 68) dX11_make_85 rfl (by decide) iw_X11 wd_953) <| dr_c (dg_no) <| dr_c (dg_no) <| dr_c (dg_iload dX11_make_88) <| dr_c (dg_no) <| dr_c (dg_iald dX11_make_90) <| dr_c (dg_iload dX11_make_91) <| dr_c (dg_no) <| dr_c (dg_iadd dX11_make_93) <| dr_c (dg_aload_n (k := 0) rfl dX11_make_94) <| dr_c (dg_getf (T := TX11) (C := RX11) (N := 68) dX11_make_95 rfl (by decide) iw_X11 wd_980) <| dr_n
theorem tr_140_6 : dm_AllR (dm_Good dm_tb RX11 cX11_make 6 (some .int) false none) 96 [dm_no, dm_no, dm_ild 100 5, dm_no, dm_lald 101, dm_last 102, dm_ald 103 0, dm_getf 106 8 3, dm_no, dm_no, dm_ald 107 0, dm_getf 110 8 5, dm_no, dm_no, dm_ild 112 4, dm_no] := dr_c (dg_no) <| dr_c (dg_no) <| dr_c (dg_iload dX11_make_98) <| dr_c (dg_no) <| dr_c (dg_lald dX11_make_100) <| dr_c (dg_last dX11_make_101) <| dr_c (dg_aload_n (k := 0) rfl dX11_make_102) <| dr_c (dg_getf (T := TX11) (C := RX11) (N := 68) dX11_make_103 rfl (by decide) iw_X11 wd_951) <| dr_c (dg_no) <| dr_c (dg_no) <| dr_c (dg_aload_n (k := 0) rfl dX11_make_106) <| dr_c (dg_getf (T := TX11) (C := RX11) (N := 68) dX11_make_107 rfl (by decide) iw_X11 wd_953) <| dr_c (dg_no) <| dr_c (dg_no) <| dr_c (dg_iload dX11_make_110) <| dr_c (dg_no) <| dr_n
theorem tr_140_7 : dm_AllR (dm_Good dm_tb RX11 cX11_make 6 (some .int) false none) 112 [dm_iald 113, dm_ild 115 5, dm_no, dm_ii 116 (fun x y => x + y), dm_ald 117 0, dm_getf 120 8 33, dm_no, dm_no, dm_ild 122 5, dm_no, dm_lald 123, dm_last 124, dm_iinc 127 5 1, dm_no, dm_no, dm_goto 71] := dr_c (dg_iald dX11_make_112) <| dr_c (dg_iload dX11_make_113) <| dr_c (dg_no) <| dr_c (dg_iadd dX11_make_115) <| dr_c (dg_aload_n (k := 0) rfl dX11_make_116) <| dr_c (dg_getf (T := TX11) (C := RX11) (N := 68) dX11_make_117 rfl (by decide) iw_X11 wd_981) <| dr_c (dg_no) <| dr_c (dg_no) <| dr_c (dg_iload dX11_make_120) <| dr_c (dg_no) <| dr_c (dg_lald dX11_make_122) <| dr_c (dg_last dX11_make_123) <| dr_c (dg_iinc (by decide) (by decide) dX11_make_124) <| dr_c (dg_no) <| dr_c (dg_no) <| dr_c (dg_goto (by decide) dX11_make_127) <| dr_n
theorem tr_140_8 : dm_AllR (dm_Good dm_tb RX11 cX11_make 6 (some .int) false none) 128 [dm_no, dm_no, dm_ald 131 0, dm_getf 134 8 4, dm_no, dm_no, dm_ild 136 4, dm_no, dm_push 137 (.int 1), dm_ii 138 (fun x y => x + y), dm_ald 139 0, dm_getf 142 8 4, dm_no, dm_no, dm_ild 144 4, dm_no] := dr_c (dg_no) <| dr_c (dg_no) <| dr_c (dg_aload_n (k := 0) rfl dX11_make_130) <| dr_c (dg_getf (T := TX11) (C := RX11) (N := 68) dX11_make_131 rfl (by decide) iw_X11 wd_952) <| dr_c (dg_no) <| dr_c (dg_no) <| dr_c (dg_iload dX11_make_134) <| dr_c (dg_no) <| dr_c (dg_iconst (by decide) dX11_make_136) <| dr_c (dg_iadd dX11_make_137) <| dr_c (dg_aload_n (k := 0) rfl dX11_make_138) <| dr_c (dg_getf (T := TX11) (C := RX11) (N := 68) dX11_make_139 rfl (by decide) iw_X11 wd_952) <| dr_c (dg_no) <| dr_c (dg_no) <| dr_c (dg_iload dX11_make_142) <| dr_c (dg_no) <| dr_n
theorem tr_140_9 : dm_AllR (dm_Good dm_tb RX11 cX11_make 6 (some .int) false none) 144 [dm_iald 145, dm_ald 146 0, dm_getf 149 8 29, dm_no, dm_no, dm_ii 150 (fun x y => x + y), dm_iast 151, dm_ald 152 0, dm_getf 155 8 5, dm_no, dm_no, dm_ild 157 4, dm_no, dm_push 158 (.int 1), dm_ii 159 (fun x y => x + y), dm_ald 160 0] := dr_c (dg_iald dX11_make_144) <| dr_c (dg_aload_n (k := 0) rfl dX11_make_145) <| dr_c (dg_getf (T := TX11) (C := RX11) (N := 68) dX11_make_146 rfl (by decide) iw_X11 wd_977) <| dr_c (dg_no) <| dr_c (dg_no) <| dr_c (dg_iadd dX11_make_149) <| dr_c (dg_iast dX11_make_150) <| dr_c (dg_aload_n (k := 0) rfl dX11_make_151) <| dr_c (dg_getf (T := TX11) (C := RX11) (N := 68) dX11_make_152 rfl (by decide) iw_X11 wd_953) <| dr_c (dg_no) <| dr_c (dg_no) <| dr_c (dg_iload dX11_make_155) <| dr_c (dg_no) <| dr_c (dg_iconst (by decide) dX11_make_157) <| dr_c (dg_iadd dX11_make_158) <| dr_c (dg_aload_n (k := 0) rfl dX11_make_159) <| dr_n
theorem tr_140_10 : dm_AllR (dm_Good dm_tb RX11 cX11_make 6 (some .int) false none) 160 [dm_getf 163 8 5, dm_no, dm_no, dm_ild 165 4, dm_no, dm_iald 166, dm_ald 167 0, dm_getf 170 8 34, dm_no, dm_no, dm_ii 171 (fun x y => x + y), dm_iast 172, dm_ald 173 0, dm_getf 176 8 6, dm_no, dm_no] := dr_c (dg_getf (T := TX11) (C := RX11) (N := 68) dX11_make_160 rfl (by decide) iw_X11 wd_953) <| dr_c (dg_no) <| dr_c (dg_no) <| dr_c (dg_iload dX11_make_163) <| dr_c (dg_no) <| dr_c (dg_iald dX11_make_165) <| dr_c (dg_aload_n (k := 0) rfl dX11_make_166) <| dr_c (dg_getf (T := TX11) (C := RX11) (N := 68) dX11_make_167 rfl (by decide) iw_X11 wd_982) <| dr_c (dg_no) <| dr_c (dg_no) <| dr_c (dg_iadd dX11_make_170) <| dr_c (dg_iast dX11_make_171) <| dr_c (dg_aload_n (k := 0) rfl dX11_make_172) <| dr_c (dg_getf (T := TX11) (C := RX11) (N := 68) dX11_make_173 rfl (by decide) iw_X11 wd_954) <| dr_c (dg_no) <| dr_c (dg_no) <| dr_n
theorem tr_140_11 : dm_AllR (dm_Good dm_tb RX11 cX11_make 6 (some .int) false none) 176 [dm_ild 178 4, dm_no, dm_push 179 (.int 1), dm_bast 180, dm_ald 181 0, dm_getf 184 8 7, dm_no, dm_no, dm_ild 186 4, dm_no, dm_push 187 (.int 0), dm_bast 188, dm_ald 189 0, dm_getf 192 8 9, dm_no, dm_no] := dr_c (dg_iload dX11_make_176) <| dr_c (dg_no) <| dr_c (dg_iconst (by decide) dX11_make_178) <| dr_c (dg_bast dX11_make_179) <| dr_c (dg_aload_n (k := 0) rfl dX11_make_180) <| dr_c (dg_getf (T := TX11) (C := RX11) (N := 68) dX11_make_181 rfl (by decide) iw_X11 wd_955) <| dr_c (dg_no) <| dr_c (dg_no) <| dr_c (dg_iload dX11_make_184) <| dr_c (dg_no) <| dr_c (dg_iconst (by decide) dX11_make_186) <| dr_c (dg_bast dX11_make_187) <| dr_c (dg_aload_n (k := 0) rfl dX11_make_188) <| dr_c (dg_getf (T := TX11) (C := RX11) (N := 68) dX11_make_189 rfl (by decide) iw_X11 wd_957) <| dr_c (dg_no) <| dr_c (dg_no) <| dr_n
theorem tr_140_12 : dm_AllR (dm_Good dm_tb RX11 cX11_make 6 (some .int) false none) 192 [dm_ild 194 4, dm_no, dm_ild 195 1, dm_i1 196 (fun x => .int x.toInt8.toInt32), dm_bast 197, dm_ald 198 0, dm_getf 201 8 10, dm_no, dm_no, dm_ild 203 4, dm_no, dm_ild 204 2, dm_i1 205 (fun x => .int x.toInt16.toInt32), dm_sast 206, dm_ald 207 0, dm_getf 210 8 11] := dr_c (dg_iload dX11_make_192) <| dr_c (dg_no) <| dr_c (dg_iload_n (k := 1) rfl dX11_make_194) <| dr_c (dg_i2b dX11_make_195) <| dr_c (dg_bast dX11_make_196) <| dr_c (dg_aload_n (k := 0) rfl dX11_make_197) <| dr_c (dg_getf (T := TX11) (C := RX11) (N := 68) dX11_make_198 rfl (by decide) iw_X11 wd_958) <| dr_c (dg_no) <| dr_c (dg_no) <| dr_c (dg_iload dX11_make_201) <| dr_c (dg_no) <| dr_c (dg_iload_n (k := 2) rfl dX11_make_203) <| dr_c (dg_i2s dX11_make_204) <| dr_c (dg_sast dX11_make_205) <| dr_c (dg_aload_n (k := 0) rfl dX11_make_206) <| dr_c (dg_getf (T := TX11) (C := RX11) (N := 68) dX11_make_207 rfl (by decide) iw_X11 wd_959) <| dr_n
theorem tr_140_13 : dm_AllR (dm_Good dm_tb RX11 cX11_make 6 (some .int) false none) 208 [dm_no, dm_no, dm_ild 212 4, dm_no, dm_ild 213 3, dm_i1 214 (fun x => .int x.toInt16.toInt32), dm_sast 215, dm_ald 216 0, dm_getf 219 8 8, dm_no, dm_no, dm_ild 221 4, dm_no, dm_ild 222 1, dm_push 224 (.int 6), dm_no] := dr_c (dg_no) <| dr_c (dg_no) <| dr_c (dg_iload dX11_make_210) <| dr_c (dg_no) <| dr_c (dg_iload_n (k := 3) rfl dX11_make_212) <| dr_c (dg_i2s dX11_make_213) <| dr_c (dg_sast dX11_make_214) <| dr_c (dg_aload_n (k := 0) rfl dX11_make_215) <| dr_c (dg_getf (T := TX11) (C := RX11) (N := 68) dX11_make_216 rfl (by decide) iw_X11 wd_956) <| dr_c (dg_no) <| dr_c (dg_no) <| dr_c (dg_iload dX11_make_219) <| dr_c (dg_no) <| dr_c (dg_iload_n (k := 1) rfl dX11_make_221) <| dr_c (dg_bipush (by decide) dX11_make_222) <| dr_c (dg_no) <| dr_n
theorem tr_140_14 : dm_AllR (dm_Good dm_tb RX11 cX11_make 6 (some .int) false none) 224 [dm_ic_eq 227 255, dm_no, dm_no, dm_ild 228 2, dm_push 229 (.int (-1)), dm_ic_eq 232 241, dm_no, dm_no, dm_ald 233 0, dm_getf 236 8 8, dm_no, dm_no, dm_ild 237 2, dm_bald 238, dm_if_ne 241 255, dm_no] := dr_c (dg_ic_eq (by decide) dX11_make_224) <| dr_c (dg_no) <| dr_c (dg_no) <| dr_c (dg_iload_n (k := 2) rfl dX11_make_227) <| dr_c (dg_iconst (by decide) dX11_make_228) <| dr_c (dg_ic_eq (by decide) dX11_make_229) <| dr_c (dg_no) <| dr_c (dg_no) <| dr_c (dg_aload_n (k := 0) rfl dX11_make_232) <| dr_c (dg_getf (T := TX11) (C := RX11) (N := 68) dX11_make_233 rfl (by decide) iw_X11 wd_956) <| dr_c (dg_no) <| dr_c (dg_no) <| dr_c (dg_iload_n (k := 2) rfl dX11_make_236) <| dr_c (dg_bald dX11_make_237) <| dr_c (dg_if_ne (by decide) dX11_make_238) <| dr_c (dg_no) <| dr_n
theorem tr_140_15 : dm_AllR (dm_Good dm_tb RX11 cX11_make 6 (some .int) false none) 240 [dm_no, dm_ild 242 3, dm_push 243 (.int (-1)), dm_ic_eq 246 259, dm_no, dm_no, dm_ald 247 0, dm_getf 250 8 8, dm_no, dm_no, dm_ild 251 3, dm_bald 252, dm_if_eq 255 259, dm_no, dm_no, dm_push 256 (.int 1)] := dr_c (dg_no) <| dr_c (dg_iload_n (k := 3) rfl dX11_make_241) <| dr_c (dg_iconst (by decide) dX11_make_242) <| dr_c (dg_ic_eq (by decide) dX11_make_243) <| dr_c (dg_no) <| dr_c (dg_no) <| dr_c (dg_aload_n (k := 0) rfl dX11_make_246) <| dr_c (dg_getf (T := TX11) (C := RX11) (N := 68) dX11_make_247 rfl (by decide) iw_X11 wd_956) <| dr_c (dg_no) <| dr_c (dg_no) <| dr_c (dg_iload_n (k := 3) rfl dX11_make_250) <| dr_c (dg_bald dX11_make_251) <| dr_c (dg_if_eq (by decide) dX11_make_252) <| dr_c (dg_no) <| dr_c (dg_no) <| dr_c (dg_iconst (by decide) dX11_make_255) <| dr_n
theorem tr_140_16 : dm_AllR (dm_Good dm_tb RX11 cX11_make 6 (some .int) false none) 256 [dm_goto 260, dm_no, dm_no, dm_push 260 (.int 0), dm_bast 261, dm_push 262 (.int 0), dm_ist 264 5, dm_no, dm_ild 266 5, dm_no, dm_push 268 (.int 16), dm_no, dm_ic_ge 271 333, dm_no, dm_no, dm_ald 272 0] := dr_c (dg_goto (by decide) dX11_make_256) <| dr_c (dg_no) <| dr_c (dg_no) <| dr_c (dg_iconst (by decide) dX11_make_259) <| dr_c (dg_bast dX11_make_260) <| dr_c (dg_iconst (by decide) dX11_make_261) <| dr_c (dg_istore (by decide) dX11_make_262) <| dr_c (dg_no) <| dr_c (dg_iload dX11_make_264) <| dr_c (dg_no) <| dr_c (dg_bipush (by decide) dX11_make_266) <| dr_c (dg_no) <| dr_c (dg_ic_ge (by decide) dX11_make_268) <| dr_c (dg_no) <| dr_c (dg_no) <| dr_c (dg_aload_n (k := 0) rfl dX11_make_271) <| dr_n
theorem tr_140_17 : dm_AllR (dm_Good dm_tb RX11 cX11_make 6 (some .int) false none) 272 [dm_getf 275 8 14, dm_no, dm_no, dm_push 277 (.int 16), dm_no, dm_ild 279 4, dm_no, dm_ii 280 (fun x y => x * y), dm_ild 282 5, dm_no, dm_ii 283 (fun x y => x + y), dm_ild 284 2, dm_push 285 (.int (-1)), dm_ic_ne 288 292, dm_no, dm_no] := dr_c (dg_getf (T := TX11) (C := RX11) (N := 68) dX11_make_272 rfl (by decide) iw_X11 wd_962) <| dr_c (dg_no) <| dr_c (dg_no) <| dr_c (dg_bipush (by decide) dX11_make_275) <| dr_c (dg_no) <| dr_c (dg_iload dX11_make_277) <| dr_c (dg_no) <| dr_c (dg_imul dX11_make_279) <| dr_c (dg_iload dX11_make_280) <| dr_c (dg_no) <| dr_c (dg_iadd dX11_make_282) <| dr_c (dg_iload_n (k := 2) rfl dX11_make_283) <| dr_c (dg_iconst (by decide) dX11_make_284) <| dr_c (dg_ic_ne (by decide) dX11_make_285) <| dr_c (dg_no) <| dr_c (dg_no) <| dr_n
theorem tr_140_18 : dm_AllR (dm_Good dm_tb RX11 cX11_make 6 (some .int) false none) 288 [dm_push 289 (.long 0), dm_goto 304, dm_no, dm_no, dm_ald 293 0, dm_getf 296 8 14, dm_no, dm_no, dm_push 298 (.int 16), dm_no, dm_ild 299 2, dm_ii 300 (fun x y => x * y), dm_ild 302 5, dm_no, dm_ii 303 (fun x y => x + y), dm_lald 304] := dr_c (dg_lconst (by decide) dX11_make_288) <| dr_c (dg_goto (by decide) dX11_make_289) <| dr_c (dg_no) <| dr_c (dg_no) <| dr_c (dg_aload_n (k := 0) rfl dX11_make_292) <| dr_c (dg_getf (T := TX11) (C := RX11) (N := 68) dX11_make_293 rfl (by decide) iw_X11 wd_962) <| dr_c (dg_no) <| dr_c (dg_no) <| dr_c (dg_bipush (by decide) dX11_make_296) <| dr_c (dg_no) <| dr_c (dg_iload_n (k := 2) rfl dX11_make_298) <| dr_c (dg_imul dX11_make_299) <| dr_c (dg_iload dX11_make_300) <| dr_c (dg_no) <| dr_c (dg_iadd dX11_make_302) <| dr_c (dg_lald dX11_make_303) <| dr_n
theorem tr_140_19 : dm_AllR (dm_Good dm_tb RX11 cX11_make 6 (some .int) false none) 304 [dm_ild 305 3, dm_push 306 (.int (-1)), dm_ic_ne 309 313, dm_no, dm_no, dm_push 310 (.long 0), dm_goto 325, dm_no, dm_no, dm_ald 314 0, dm_getf 317 8 14, dm_no, dm_no, dm_push 319 (.int 16), dm_no, dm_ild 320 3] := dr_c (dg_iload_n (k := 3) rfl dX11_make_304) <| dr_c (dg_iconst (by decide) dX11_make_305) <| dr_c (dg_ic_ne (by decide) dX11_make_306) <| dr_c (dg_no) <| dr_c (dg_no) <| dr_c (dg_lconst (by decide) dX11_make_309) <| dr_c (dg_goto (by decide) dX11_make_310) <| dr_c (dg_no) <| dr_c (dg_no) <| dr_c (dg_aload_n (k := 0) rfl dX11_make_313) <| dr_c (dg_getf (T := TX11) (C := RX11) (N := 68) dX11_make_314 rfl (by decide) iw_X11 wd_962) <| dr_c (dg_no) <| dr_c (dg_no) <| dr_c (dg_bipush (by decide) dX11_make_317) <| dr_c (dg_no) <| dr_c (dg_iload_n (k := 3) rfl dX11_make_319) <| dr_n
theorem tr_140_20 : dm_AllR (dm_Good dm_tb RX11 cX11_make 6 (some .int) false none) 320 [dm_ii 321 (fun x y => x * y), dm_ild 323 5, dm_no, dm_ii 324 (fun x y => x + y), dm_lald 325, dm_ll 326 (fun x y => x ||| y), dm_last 327, dm_iinc 330 5 1, dm_no, dm_no, dm_goto 264, dm_no, dm_no, dm_ald 334 0, dm_getf 337 8 12, dm_no] := dr_c (dg_imul dX11_make_320) <| dr_c (dg_iload dX11_make_321) <| dr_c (dg_no) <| dr_c (dg_iadd dX11_make_323) <| dr_c (dg_lald dX11_make_324) <| dr_c (dg_lor dX11_make_325) <| dr_c (dg_last dX11_make_326) <| dr_c (dg_iinc (by decide) (by decide) dX11_make_327) <| dr_c (dg_no) <| dr_c (dg_no) <| dr_c (dg_goto (by decide) dX11_make_330) <| dr_c (dg_no) <| dr_c (dg_no) <| dr_c (dg_aload_n (k := 0) rfl dX11_make_333) <| dr_c (dg_getf (T := TX11) (C := RX11) (N := 68) dX11_make_334 rfl (by decide) iw_X11 wd_960) <| dr_c (dg_no) <| dr_n
theorem tr_140_21 : dm_AllR (dm_Good dm_tb RX11 cX11_make 6 (some .int) false none) 336 [dm_no, dm_ild 339 4, dm_no, dm_ald 340 0, dm_push 341 (.long 0), dm_push 344 (.long 1152921504606846976), dm_no, dm_no, dm_inv 347 153 2 8, dm_no, dm_no, dm_iast 348, dm_ald 349 0, dm_getf 352 8 13, dm_no, dm_no] := dr_c (dg_no) <| dr_c (dg_iload dX11_make_337) <| dr_c (dg_no) <| dr_c (dg_aload_n (k := 0) rfl dX11_make_339) <| dr_c (dg_lconst (by decide) dX11_make_340) <| dr_c (dg_ldc2 wd_918 dX11_make_341) <| dr_c (dg_no) <| dr_c (dg_no) <| dr_c (dg_inv dX11_make_344 mo_153 rfl rfl wd_923 wd_925 wd_17 pd_153) <| dr_c (dg_no) <| dr_c (dg_no) <| dr_c (dg_iast dX11_make_347) <| dr_c (dg_aload_n (k := 0) rfl dX11_make_348) <| dr_c (dg_getf (T := TX11) (C := RX11) (N := 68) dX11_make_349 rfl (by decide) iw_X11 wd_961) <| dr_c (dg_no) <| dr_c (dg_no) <| dr_n
theorem tr_140_22 : dm_AllR (dm_Good dm_tb RX11 cX11_make 6 (some .int) false none) 352 [dm_ild 354 4, dm_no, dm_ald 355 0, dm_push 356 (.long 0), dm_push 359 (.long 1152921504606846976), dm_no, dm_no, dm_inv 362 151 2 8, dm_no, dm_no, dm_iast 363, dm_ald 364 0, dm_dup 365, dm_getf 368 8 17, dm_no, dm_no] := dr_c (dg_iload dX11_make_352) <| dr_c (dg_no) <| dr_c (dg_aload_n (k := 0) rfl dX11_make_354) <| dr_c (dg_lconst (by decide) dX11_make_355) <| dr_c (dg_ldc2 wd_918 dX11_make_356) <| dr_c (dg_no) <| dr_c (dg_no) <| dr_c (dg_inv dX11_make_359 mo_151 rfl rfl wd_932 wd_934 wd_19 pd_151) <| dr_c (dg_no) <| dr_c (dg_no) <| dr_c (dg_iast dX11_make_362) <| dr_c (dg_aload_n (k := 0) rfl dX11_make_363) <| dr_c (dg_dup dX11_make_364) <| dr_c (dg_getf (T := TX11) (C := RX11) (N := 68) dX11_make_365 rfl (by decide) iw_X11 wd_965) <| dr_c (dg_no) <| dr_c (dg_no) <| dr_n
theorem tr_140_23 : dm_AllR (dm_Good dm_tb RX11 cX11_make 6 (some .int) false none) 368 [dm_ald 369 0, dm_getf 372 8 12, dm_no, dm_no, dm_ild 374 4, dm_no, dm_iald 375, dm_ald 376 0, dm_getf 379 8 13, dm_no, dm_no, dm_ild 381 4, dm_no, dm_iald 382, dm_ii 383 (fun x y => x + y), dm_ii 384 (fun x y => x + y)] := dr_c (dg_aload_n (k := 0) rfl dX11_make_368) <| dr_c (dg_getf (T := TX11) (C := RX11) (N := 68) dX11_make_369 rfl (by decide) iw_X11 wd_960) <| dr_c (dg_no) <| dr_c (dg_no) <| dr_c (dg_iload dX11_make_372) <| dr_c (dg_no) <| dr_c (dg_iald dX11_make_374) <| dr_c (dg_aload_n (k := 0) rfl dX11_make_375) <| dr_c (dg_getf (T := TX11) (C := RX11) (N := 68) dX11_make_376 rfl (by decide) iw_X11 wd_961) <| dr_c (dg_no) <| dr_c (dg_no) <| dr_c (dg_iload dX11_make_379) <| dr_c (dg_no) <| dr_c (dg_iald dX11_make_381) <| dr_c (dg_iadd dX11_make_382) <| dr_c (dg_iadd dX11_make_383) <| dr_n
theorem tr_140_24 : dm_AllR (dm_Good dm_tb RX11 cX11_make 6 (some .int) false none) 384 [dm_putf 387 8 17 .int, dm_no, dm_no, dm_ald 388 0, dm_dup 389, dm_getf 392 8 15, dm_no, dm_no, dm_push 393 (.int 1), dm_ii 394 (fun x y => x + y), dm_putf 397 8 15 .int, dm_no, dm_no, dm_ild 399 4, dm_no, dm_ret .int] := dr_c (dg_putf (T := TX11) (C := RX11) (N := 68) dX11_make_384 rfl (by decide) iw_X11 tyX11_ok nmX11 wd_965 rfl rfl) <| dr_c (dg_no) <| dr_c (dg_no) <| dr_c (dg_aload_n (k := 0) rfl dX11_make_387) <| dr_c (dg_dup dX11_make_388) <| dr_c (dg_getf (T := TX11) (C := RX11) (N := 68) dX11_make_389 rfl (by decide) iw_X11 wd_963) <| dr_c (dg_no) <| dr_c (dg_no) <| dr_c (dg_iconst (by decide) dX11_make_392) <| dr_c (dg_iadd dX11_make_393) <| dr_c (dg_putf (T := TX11) (C := RX11) (N := 68) dX11_make_394 rfl (by decide) iw_X11 tyX11_ok nmX11 wd_963 rfl rfl) <| dr_c (dg_no) <| dr_c (dg_no) <| dr_c (dg_iload dX11_make_397) <| dr_c (dg_no) <| dr_c (dg_ret dX11_make_399) <| dr_n
theorem tk_140 : dm_AllC (dm_Good dm_tb RX11 cX11_make 6 (some .int) false none) 0 cd_140 := dc_c (by decide) tr_140_0 <| dc_c (by decide) tr_140_1 <| dc_c (by decide) tr_140_2 <| dc_c (by decide) tr_140_3 <| dc_c (by decide) tr_140_4 <| dc_c (by decide) tr_140_5 <| dc_c (by decide) tr_140_6 <| dc_c (by decide) tr_140_7 <| dc_c (by decide) tr_140_8 <| dc_c (by decide) tr_140_9 <| dc_c (by decide) tr_140_10 <| dc_c (by decide) tr_140_11 <| dc_c (by decide) tr_140_12 <| dc_c (by decide) tr_140_13 <| dc_c (by decide) tr_140_14 <| dc_c (by decide) tr_140_15 <| dc_c (by decide) tr_140_16 <| dc_c (by decide) tr_140_17 <| dc_c (by decide) tr_140_18 <| dc_c (by decide) tr_140_19 <| dc_c (by decide) tr_140_20 <| dc_c (by decide) tr_140_21 <| dc_c (by decide) tr_140_22 <| dc_c (by decide) tr_140_23 <| dc_c (by decide) tr_140_24 <| dc_n
theorem dX11_takeKnown_0 : decode cX11_takeKnown 0 = .ok (.aload_n 0, 1) := by decide +kernel
theorem dX11_takeKnown_1 : decode cX11_takeKnown 1 = .ok (.aload_n 0, 1) := by decide +kernel
theorem dX11_takeKnown_2 : decode cX11_takeKnown 2 = .ok (.getfield 23, 3) := by decide +kernel
theorem dX11_takeKnown_5 : decode cX11_takeKnown 5 = .ok (.iload_n 1, 1) := by decide +kernel
theorem dX11_takeKnown_6 : decode cX11_takeKnown 6 = .ok (.iconst 1, 1) := by decide +kernel
theorem dX11_takeKnown_7 : decode cX11_takeKnown 7 = .ok (.iadd, 1) := by decide +kernel
theorem dX11_takeKnown_8 : decode cX11_takeKnown 8 = .ok (.iaload, 1) := by decide +kernel
theorem dX11_takeKnown_9 : decode cX11_takeKnown 9 = .ok (.aload_n 0, 1) := by decide +kernel
theorem dX11_takeKnown_10 : decode cX11_takeKnown 10 = .ok (.getfield 23, 3) := by decide +kernel
theorem dX11_takeKnown_13 : decode cX11_takeKnown 13 = .ok (.iload_n 1, 1) := by decide +kernel
theorem dX11_takeKnown_14 : decode cX11_takeKnown 14 = .ok (.iaload, 1) := by decide +kernel
theorem dX11_takeKnown_15 : decode cX11_takeKnown 15 = .ok (.isub, 1) := by decide +kernel
theorem dX11_takeKnown_16 : decode cX11_takeKnown 16 = .ok (.putfield 180, 3) := by decide +kernel
theorem dX11_takeKnown_19 : decode cX11_takeKnown 19 = .ok (.iconst 0, 1) := by decide +kernel
theorem dX11_takeKnown_20 : decode cX11_takeKnown 20 = .ok (.istore_n 2, 1) := by decide +kernel
theorem dX11_takeKnown_21 : decode cX11_takeKnown 21 = .ok (.iload_n 2, 1) := by decide +kernel
theorem dX11_takeKnown_22 : decode cX11_takeKnown 22 = .ok (.aload_n 0, 1) := by decide +kernel
theorem dX11_takeKnown_23 : decode cX11_takeKnown 23 = .ok (.getfield 180, 3) := by decide +kernel
theorem dX11_takeKnown_26 : decode cX11_takeKnown 26 = .ok (.if_icmp .ge 47, 3) := by decide +kernel
theorem dX11_takeKnown_29 : decode cX11_takeKnown 29 = .ok (.aload_n 0, 1) := by decide +kernel
theorem dX11_takeKnown_30 : decode cX11_takeKnown 30 = .ok (.getfield 83, 3) := by decide +kernel
theorem dX11_takeKnown_33 : decode cX11_takeKnown 33 = .ok (.iload_n 2, 1) := by decide +kernel
theorem dX11_takeKnown_34 : decode cX11_takeKnown 34 = .ok (.aload_n 0, 1) := by decide +kernel
theorem dX11_takeKnown_35 : decode cX11_takeKnown 35 = .ok (.getfield 9, 3) := by decide +kernel
theorem dX11_takeKnown_38 : decode cX11_takeKnown 38 = .ok (.aload_n 0, 1) := by decide +kernel
theorem dX11_takeKnown_39 : decode cX11_takeKnown 39 = .ok (.getfield 23, 3) := by decide +kernel
theorem dX11_takeKnown_42 : decode cX11_takeKnown 42 = .ok (.iload_n 1, 1) := by decide +kernel
theorem dX11_takeKnown_43 : decode cX11_takeKnown 43 = .ok (.iaload, 1) := by decide +kernel
theorem dX11_takeKnown_44 : decode cX11_takeKnown 44 = .ok (.iload_n 2, 1) := by decide +kernel
theorem dX11_takeKnown_45 : decode cX11_takeKnown 45 = .ok (.iadd, 1) := by decide +kernel
theorem dX11_takeKnown_46 : decode cX11_takeKnown 46 = .ok (.laload, 1) := by decide +kernel
theorem dX11_takeKnown_47 : decode cX11_takeKnown 47 = .ok (.lastore, 1) := by decide +kernel
theorem dX11_takeKnown_48 : decode cX11_takeKnown 48 = .ok (.aload_n 0, 1) := by decide +kernel
theorem dX11_takeKnown_49 : decode cX11_takeKnown 49 = .ok (.getfield 86, 3) := by decide +kernel
theorem dX11_takeKnown_52 : decode cX11_takeKnown 52 = .ok (.iload_n 2, 1) := by decide +kernel
theorem dX11_takeKnown_53 : decode cX11_takeKnown 53 = .ok (.aload_n 0, 1) := by decide +kernel
theorem dX11_takeKnown_54 : decode cX11_takeKnown 54 = .ok (.getfield 13, 3) := by decide +kernel
theorem dX11_takeKnown_57 : decode cX11_takeKnown 57 = .ok (.aload_n 0, 1) := by decide +kernel
theorem dX11_takeKnown_58 : decode cX11_takeKnown 58 = .ok (.getfield 23, 3) := by decide +kernel
theorem dX11_takeKnown_61 : decode cX11_takeKnown 61 = .ok (.iload_n 1, 1) := by decide +kernel
theorem dX11_takeKnown_62 : decode cX11_takeKnown 62 = .ok (.iaload, 1) := by decide +kernel
theorem dX11_takeKnown_63 : decode cX11_takeKnown 63 = .ok (.iload_n 2, 1) := by decide +kernel
theorem dX11_takeKnown_64 : decode cX11_takeKnown 64 = .ok (.iadd, 1) := by decide +kernel
theorem dX11_takeKnown_65 : decode cX11_takeKnown 65 = .ok (.iaload, 1) := by decide +kernel
theorem dX11_takeKnown_66 : decode cX11_takeKnown 66 = .ok (.iastore, 1) := by decide +kernel
theorem dX11_takeKnown_67 : decode cX11_takeKnown 67 = .ok (.iinc 2 1, 3) := by decide +kernel
theorem dX11_takeKnown_70 : decode cX11_takeKnown 70 = .ok (.goto (-49), 3) := by decide +kernel
theorem dX11_takeKnown_73 : decode cX11_takeKnown 73 = .ok (.return_, 1) := by decide +kernel
def cd_141 : dm_Code := [[dm_ald 1 0, dm_ald 2 0, dm_getf 5 8 4, dm_no, dm_no, dm_ild 6 1, dm_push 7 (.int 1), dm_ii 8 (fun x y => x + y), dm_iald 9, dm_ald 10 0, dm_getf 13 8 4, dm_no, dm_no, dm_ild 14 1, dm_iald 15, dm_ii 16 (fun x y => x - y)],
  [dm_putf 19 8 29 .int, dm_no, dm_no, dm_push 20 (.int 0), dm_ist 21 2, dm_ild 22 2, dm_ald 23 0, dm_getf 26 8 29, dm_no, dm_no, dm_ic_ge 29 73, dm_no, dm_no, dm_ald 30 0, dm_getf 33 8 27, dm_no],
  [dm_no, dm_ild 34 2, dm_ald 35 0, dm_getf 38 8 0, dm_no, dm_no, dm_ald 39 0, dm_getf 42 8 4, dm_no, dm_no, dm_ild 43 1, dm_iald 44, dm_ild 45 2, dm_ii 46 (fun x y => x + y), dm_lald 47, dm_last 48],
  [dm_ald 49 0, dm_getf 52 8 28, dm_no, dm_no, dm_ild 53 2, dm_ald 54 0, dm_getf 57 8 1, dm_no, dm_no, dm_ald 58 0, dm_getf 61 8 4, dm_no, dm_no, dm_ild 62 1, dm_iald 63, dm_ild 64 2],
  [dm_ii 65 (fun x y => x + y), dm_iald 66, dm_iast 67, dm_iinc 70 2 1, dm_no, dm_no, dm_goto 21, dm_no, dm_no, dm_vret]]
theorem tr_141_0 : dm_AllR (dm_Good dm_tb RX11 cX11_takeKnown 3 none false none) 0 [dm_ald 1 0, dm_ald 2 0, dm_getf 5 8 4, dm_no, dm_no, dm_ild 6 1, dm_push 7 (.int 1), dm_ii 8 (fun x y => x + y), dm_iald 9, dm_ald 10 0, dm_getf 13 8 4, dm_no, dm_no, dm_ild 14 1, dm_iald 15, dm_ii 16 (fun x y => x - y)] := dr_c (dg_aload_n (k := 0) rfl dX11_takeKnown_0) <| dr_c (dg_aload_n (k := 0) rfl dX11_takeKnown_1) <| dr_c (dg_getf (T := TX11) (C := RX11) (N := 68) dX11_takeKnown_2 rfl (by decide) iw_X11 wd_952) <| dr_c (dg_no) <| dr_c (dg_no) <| dr_c (dg_iload_n (k := 1) rfl dX11_takeKnown_5) <| dr_c (dg_iconst (by decide) dX11_takeKnown_6) <| dr_c (dg_iadd dX11_takeKnown_7) <| dr_c (dg_iald dX11_takeKnown_8) <| dr_c (dg_aload_n (k := 0) rfl dX11_takeKnown_9) <| dr_c (dg_getf (T := TX11) (C := RX11) (N := 68) dX11_takeKnown_10 rfl (by decide) iw_X11 wd_952) <| dr_c (dg_no) <| dr_c (dg_no) <| dr_c (dg_iload_n (k := 1) rfl dX11_takeKnown_13) <| dr_c (dg_iald dX11_takeKnown_14) <| dr_c (dg_isub dX11_takeKnown_15) <| dr_n
theorem tr_141_1 : dm_AllR (dm_Good dm_tb RX11 cX11_takeKnown 3 none false none) 16 [dm_putf 19 8 29 .int, dm_no, dm_no, dm_push 20 (.int 0), dm_ist 21 2, dm_ild 22 2, dm_ald 23 0, dm_getf 26 8 29, dm_no, dm_no, dm_ic_ge 29 73, dm_no, dm_no, dm_ald 30 0, dm_getf 33 8 27, dm_no] := dr_c (dg_putf (T := TX11) (C := RX11) (N := 68) dX11_takeKnown_16 rfl (by decide) iw_X11 tyX11_ok nmX11 wd_977 rfl rfl) <| dr_c (dg_no) <| dr_c (dg_no) <| dr_c (dg_iconst (by decide) dX11_takeKnown_19) <| dr_c (dg_istore_n (k := 2) rfl (by decide) dX11_takeKnown_20) <| dr_c (dg_iload_n (k := 2) rfl dX11_takeKnown_21) <| dr_c (dg_aload_n (k := 0) rfl dX11_takeKnown_22) <| dr_c (dg_getf (T := TX11) (C := RX11) (N := 68) dX11_takeKnown_23 rfl (by decide) iw_X11 wd_977) <| dr_c (dg_no) <| dr_c (dg_no) <| dr_c (dg_ic_ge (by decide) dX11_takeKnown_26) <| dr_c (dg_no) <| dr_c (dg_no) <| dr_c (dg_aload_n (k := 0) rfl dX11_takeKnown_29) <| dr_c (dg_getf (T := TX11) (C := RX11) (N := 68) dX11_takeKnown_30 rfl (by decide) iw_X11 wd_975) <| dr_c (dg_no) <| dr_n
theorem tr_141_2 : dm_AllR (dm_Good dm_tb RX11 cX11_takeKnown 3 none false none) 32 [dm_no, dm_ild 34 2, dm_ald 35 0, dm_getf 38 8 0, dm_no, dm_no, dm_ald 39 0, dm_getf 42 8 4, dm_no, dm_no, dm_ild 43 1, dm_iald 44, dm_ild 45 2, dm_ii 46 (fun x y => x + y), dm_lald 47, dm_last 48] := dr_c (dg_no) <| dr_c (dg_iload_n (k := 2) rfl dX11_takeKnown_33) <| dr_c (dg_aload_n (k := 0) rfl dX11_takeKnown_34) <| dr_c (dg_getf (T := TX11) (C := RX11) (N := 68) dX11_takeKnown_35 rfl (by decide) iw_X11 wd_948) <| dr_c (dg_no) <| dr_c (dg_no) <| dr_c (dg_aload_n (k := 0) rfl dX11_takeKnown_38) <| dr_c (dg_getf (T := TX11) (C := RX11) (N := 68) dX11_takeKnown_39 rfl (by decide) iw_X11 wd_952) <| dr_c (dg_no) <| dr_c (dg_no) <| dr_c (dg_iload_n (k := 1) rfl dX11_takeKnown_42) <| dr_c (dg_iald dX11_takeKnown_43) <| dr_c (dg_iload_n (k := 2) rfl dX11_takeKnown_44) <| dr_c (dg_iadd dX11_takeKnown_45) <| dr_c (dg_lald dX11_takeKnown_46) <| dr_c (dg_last dX11_takeKnown_47) <| dr_n
theorem tr_141_3 : dm_AllR (dm_Good dm_tb RX11 cX11_takeKnown 3 none false none) 48 [dm_ald 49 0, dm_getf 52 8 28, dm_no, dm_no, dm_ild 53 2, dm_ald 54 0, dm_getf 57 8 1, dm_no, dm_no, dm_ald 58 0, dm_getf 61 8 4, dm_no, dm_no, dm_ild 62 1, dm_iald 63, dm_ild 64 2] := dr_c (dg_aload_n (k := 0) rfl dX11_takeKnown_48) <| dr_c (dg_getf (T := TX11) (C := RX11) (N := 68) dX11_takeKnown_49 rfl (by decide) iw_X11 wd_976) <| dr_c (dg_no) <| dr_c (dg_no) <| dr_c (dg_iload_n (k := 2) rfl dX11_takeKnown_52) <| dr_c (dg_aload_n (k := 0) rfl dX11_takeKnown_53) <| dr_c (dg_getf (T := TX11) (C := RX11) (N := 68) dX11_takeKnown_54 rfl (by decide) iw_X11 wd_949) <| dr_c (dg_no) <| dr_c (dg_no) <| dr_c (dg_aload_n (k := 0) rfl dX11_takeKnown_57) <| dr_c (dg_getf (T := TX11) (C := RX11) (N := 68) dX11_takeKnown_58 rfl (by decide) iw_X11 wd_952) <| dr_c (dg_no) <| dr_c (dg_no) <| dr_c (dg_iload_n (k := 1) rfl dX11_takeKnown_61) <| dr_c (dg_iald dX11_takeKnown_62) <| dr_c (dg_iload_n (k := 2) rfl dX11_takeKnown_63) <| dr_n
theorem tr_141_4 : dm_AllR (dm_Good dm_tb RX11 cX11_takeKnown 3 none false none) 64 [dm_ii 65 (fun x y => x + y), dm_iald 66, dm_iast 67, dm_iinc 70 2 1, dm_no, dm_no, dm_goto 21, dm_no, dm_no, dm_vret] := dr_c (dg_iadd dX11_takeKnown_64) <| dr_c (dg_iald dX11_takeKnown_65) <| dr_c (dg_iast dX11_takeKnown_66) <| dr_c (dg_iinc (by decide) (by decide) dX11_takeKnown_67) <| dr_c (dg_no) <| dr_c (dg_no) <| dr_c (dg_goto (by decide) dX11_takeKnown_70) <| dr_c (dg_no) <| dr_c (dg_no) <| dr_c (dg_vret dX11_takeKnown_73) <| dr_n
theorem tk_141 : dm_AllC (dm_Good dm_tb RX11 cX11_takeKnown 3 none false none) 0 cd_141 := dc_c (by decide) tr_141_0 <| dc_c (by decide) tr_141_1 <| dc_c (by decide) tr_141_2 <| dc_c (by decide) tr_141_3 <| dc_c (by decide) tr_141_4 <| dc_n
theorem dX11_takeOwn_0 : decode cX11_takeOwn 0 = .ok (.aload_n 0, 1) := by decide +kernel
theorem dX11_takeOwn_1 : decode cX11_takeOwn 1 = .ok (.aload_n 0, 1) := by decide +kernel
theorem dX11_takeOwn_2 : decode cX11_takeOwn 2 = .ok (.getfield 26, 3) := by decide +kernel
theorem dX11_takeOwn_5 : decode cX11_takeOwn 5 = .ok (.iload_n 1, 1) := by decide +kernel
theorem dX11_takeOwn_6 : decode cX11_takeOwn 6 = .ok (.iconst 1, 1) := by decide +kernel
theorem dX11_takeOwn_7 : decode cX11_takeOwn 7 = .ok (.iadd, 1) := by decide +kernel
theorem dX11_takeOwn_8 : decode cX11_takeOwn 8 = .ok (.iaload, 1) := by decide +kernel
theorem dX11_takeOwn_9 : decode cX11_takeOwn 9 = .ok (.aload_n 0, 1) := by decide +kernel
theorem dX11_takeOwn_10 : decode cX11_takeOwn 10 = .ok (.getfield 26, 3) := by decide +kernel
theorem dX11_takeOwn_13 : decode cX11_takeOwn 13 = .ok (.iload_n 1, 1) := by decide +kernel
theorem dX11_takeOwn_14 : decode cX11_takeOwn 14 = .ok (.iaload, 1) := by decide +kernel
theorem dX11_takeOwn_15 : decode cX11_takeOwn 15 = .ok (.isub, 1) := by decide +kernel
theorem dX11_takeOwn_16 : decode cX11_takeOwn 16 = .ok (.putfield 183, 3) := by decide +kernel
theorem dX11_takeOwn_19 : decode cX11_takeOwn 19 = .ok (.iconst 0, 1) := by decide +kernel
theorem dX11_takeOwn_20 : decode cX11_takeOwn 20 = .ok (.istore_n 2, 1) := by decide +kernel
theorem dX11_takeOwn_21 : decode cX11_takeOwn 21 = .ok (.iload_n 2, 1) := by decide +kernel
theorem dX11_takeOwn_22 : decode cX11_takeOwn 22 = .ok (.aload_n 0, 1) := by decide +kernel
theorem dX11_takeOwn_23 : decode cX11_takeOwn 23 = .ok (.getfield 183, 3) := by decide +kernel
theorem dX11_takeOwn_26 : decode cX11_takeOwn 26 = .ok (.if_icmp .ge 47, 3) := by decide +kernel
theorem dX11_takeOwn_29 : decode cX11_takeOwn 29 = .ok (.aload_n 0, 1) := by decide +kernel
theorem dX11_takeOwn_30 : decode cX11_takeOwn 30 = .ok (.getfield 95, 3) := by decide +kernel
theorem dX11_takeOwn_33 : decode cX11_takeOwn 33 = .ok (.iload_n 2, 1) := by decide +kernel
theorem dX11_takeOwn_34 : decode cX11_takeOwn 34 = .ok (.aload_n 0, 1) := by decide +kernel
theorem dX11_takeOwn_35 : decode cX11_takeOwn 35 = .ok (.getfield 17, 3) := by decide +kernel
theorem dX11_takeOwn_38 : decode cX11_takeOwn 38 = .ok (.aload_n 0, 1) := by decide +kernel
theorem dX11_takeOwn_39 : decode cX11_takeOwn 39 = .ok (.getfield 26, 3) := by decide +kernel
theorem dX11_takeOwn_42 : decode cX11_takeOwn 42 = .ok (.iload_n 1, 1) := by decide +kernel
theorem dX11_takeOwn_43 : decode cX11_takeOwn 43 = .ok (.iaload, 1) := by decide +kernel
theorem dX11_takeOwn_44 : decode cX11_takeOwn 44 = .ok (.iload_n 2, 1) := by decide +kernel
theorem dX11_takeOwn_45 : decode cX11_takeOwn 45 = .ok (.iadd, 1) := by decide +kernel
theorem dX11_takeOwn_46 : decode cX11_takeOwn 46 = .ok (.laload, 1) := by decide +kernel
theorem dX11_takeOwn_47 : decode cX11_takeOwn 47 = .ok (.lastore, 1) := by decide +kernel
theorem dX11_takeOwn_48 : decode cX11_takeOwn 48 = .ok (.aload_n 0, 1) := by decide +kernel
theorem dX11_takeOwn_49 : decode cX11_takeOwn 49 = .ok (.getfield 98, 3) := by decide +kernel
theorem dX11_takeOwn_52 : decode cX11_takeOwn 52 = .ok (.iload_n 2, 1) := by decide +kernel
theorem dX11_takeOwn_53 : decode cX11_takeOwn 53 = .ok (.aload_n 0, 1) := by decide +kernel
theorem dX11_takeOwn_54 : decode cX11_takeOwn 54 = .ok (.getfield 20, 3) := by decide +kernel
theorem dX11_takeOwn_57 : decode cX11_takeOwn 57 = .ok (.aload_n 0, 1) := by decide +kernel
theorem dX11_takeOwn_58 : decode cX11_takeOwn 58 = .ok (.getfield 26, 3) := by decide +kernel
theorem dX11_takeOwn_61 : decode cX11_takeOwn 61 = .ok (.iload_n 1, 1) := by decide +kernel
theorem dX11_takeOwn_62 : decode cX11_takeOwn 62 = .ok (.iaload, 1) := by decide +kernel
theorem dX11_takeOwn_63 : decode cX11_takeOwn 63 = .ok (.iload_n 2, 1) := by decide +kernel
theorem dX11_takeOwn_64 : decode cX11_takeOwn 64 = .ok (.iadd, 1) := by decide +kernel
theorem dX11_takeOwn_65 : decode cX11_takeOwn 65 = .ok (.laload, 1) := by decide +kernel
theorem dX11_takeOwn_66 : decode cX11_takeOwn 66 = .ok (.lastore, 1) := by decide +kernel
theorem dX11_takeOwn_67 : decode cX11_takeOwn 67 = .ok (.iinc 2 1, 3) := by decide +kernel
theorem dX11_takeOwn_70 : decode cX11_takeOwn 70 = .ok (.goto (-49), 3) := by decide +kernel
theorem dX11_takeOwn_73 : decode cX11_takeOwn 73 = .ok (.return_, 1) := by decide +kernel
def cd_142 : dm_Code := [[dm_ald 1 0, dm_ald 2 0, dm_getf 5 8 5, dm_no, dm_no, dm_ild 6 1, dm_push 7 (.int 1), dm_ii 8 (fun x y => x + y), dm_iald 9, dm_ald 10 0, dm_getf 13 8 5, dm_no, dm_no, dm_ild 14 1, dm_iald 15, dm_ii 16 (fun x y => x - y)],
  [dm_putf 19 8 34 .int, dm_no, dm_no, dm_push 20 (.int 0), dm_ist 21 2, dm_ild 22 2, dm_ald 23 0, dm_getf 26 8 34, dm_no, dm_no, dm_ic_ge 29 73, dm_no, dm_no, dm_ald 30 0, dm_getf 33 8 32, dm_no],
  [dm_no, dm_ild 34 2, dm_ald 35 0, dm_getf 38 8 2, dm_no, dm_no, dm_ald 39 0, dm_getf 42 8 5, dm_no, dm_no, dm_ild 43 1, dm_iald 44, dm_ild 45 2, dm_ii 46 (fun x y => x + y), dm_lald 47, dm_last 48],
  [dm_ald 49 0, dm_getf 52 8 33, dm_no, dm_no, dm_ild 53 2, dm_ald 54 0, dm_getf 57 8 3, dm_no, dm_no, dm_ald 58 0, dm_getf 61 8 5, dm_no, dm_no, dm_ild 62 1, dm_iald 63, dm_ild 64 2],
  [dm_ii 65 (fun x y => x + y), dm_lald 66, dm_last 67, dm_iinc 70 2 1, dm_no, dm_no, dm_goto 21, dm_no, dm_no, dm_vret]]
theorem tr_142_0 : dm_AllR (dm_Good dm_tb RX11 cX11_takeOwn 3 none false none) 0 [dm_ald 1 0, dm_ald 2 0, dm_getf 5 8 5, dm_no, dm_no, dm_ild 6 1, dm_push 7 (.int 1), dm_ii 8 (fun x y => x + y), dm_iald 9, dm_ald 10 0, dm_getf 13 8 5, dm_no, dm_no, dm_ild 14 1, dm_iald 15, dm_ii 16 (fun x y => x - y)] := dr_c (dg_aload_n (k := 0) rfl dX11_takeOwn_0) <| dr_c (dg_aload_n (k := 0) rfl dX11_takeOwn_1) <| dr_c (dg_getf (T := TX11) (C := RX11) (N := 68) dX11_takeOwn_2 rfl (by decide) iw_X11 wd_953) <| dr_c (dg_no) <| dr_c (dg_no) <| dr_c (dg_iload_n (k := 1) rfl dX11_takeOwn_5) <| dr_c (dg_iconst (by decide) dX11_takeOwn_6) <| dr_c (dg_iadd dX11_takeOwn_7) <| dr_c (dg_iald dX11_takeOwn_8) <| dr_c (dg_aload_n (k := 0) rfl dX11_takeOwn_9) <| dr_c (dg_getf (T := TX11) (C := RX11) (N := 68) dX11_takeOwn_10 rfl (by decide) iw_X11 wd_953) <| dr_c (dg_no) <| dr_c (dg_no) <| dr_c (dg_iload_n (k := 1) rfl dX11_takeOwn_13) <| dr_c (dg_iald dX11_takeOwn_14) <| dr_c (dg_isub dX11_takeOwn_15) <| dr_n
theorem tr_142_1 : dm_AllR (dm_Good dm_tb RX11 cX11_takeOwn 3 none false none) 16 [dm_putf 19 8 34 .int, dm_no, dm_no, dm_push 20 (.int 0), dm_ist 21 2, dm_ild 22 2, dm_ald 23 0, dm_getf 26 8 34, dm_no, dm_no, dm_ic_ge 29 73, dm_no, dm_no, dm_ald 30 0, dm_getf 33 8 32, dm_no] := dr_c (dg_putf (T := TX11) (C := RX11) (N := 68) dX11_takeOwn_16 rfl (by decide) iw_X11 tyX11_ok nmX11 wd_982 rfl rfl) <| dr_c (dg_no) <| dr_c (dg_no) <| dr_c (dg_iconst (by decide) dX11_takeOwn_19) <| dr_c (dg_istore_n (k := 2) rfl (by decide) dX11_takeOwn_20) <| dr_c (dg_iload_n (k := 2) rfl dX11_takeOwn_21) <| dr_c (dg_aload_n (k := 0) rfl dX11_takeOwn_22) <| dr_c (dg_getf (T := TX11) (C := RX11) (N := 68) dX11_takeOwn_23 rfl (by decide) iw_X11 wd_982) <| dr_c (dg_no) <| dr_c (dg_no) <| dr_c (dg_ic_ge (by decide) dX11_takeOwn_26) <| dr_c (dg_no) <| dr_c (dg_no) <| dr_c (dg_aload_n (k := 0) rfl dX11_takeOwn_29) <| dr_c (dg_getf (T := TX11) (C := RX11) (N := 68) dX11_takeOwn_30 rfl (by decide) iw_X11 wd_980) <| dr_c (dg_no) <| dr_n
theorem tr_142_2 : dm_AllR (dm_Good dm_tb RX11 cX11_takeOwn 3 none false none) 32 [dm_no, dm_ild 34 2, dm_ald 35 0, dm_getf 38 8 2, dm_no, dm_no, dm_ald 39 0, dm_getf 42 8 5, dm_no, dm_no, dm_ild 43 1, dm_iald 44, dm_ild 45 2, dm_ii 46 (fun x y => x + y), dm_lald 47, dm_last 48] := dr_c (dg_no) <| dr_c (dg_iload_n (k := 2) rfl dX11_takeOwn_33) <| dr_c (dg_aload_n (k := 0) rfl dX11_takeOwn_34) <| dr_c (dg_getf (T := TX11) (C := RX11) (N := 68) dX11_takeOwn_35 rfl (by decide) iw_X11 wd_950) <| dr_c (dg_no) <| dr_c (dg_no) <| dr_c (dg_aload_n (k := 0) rfl dX11_takeOwn_38) <| dr_c (dg_getf (T := TX11) (C := RX11) (N := 68) dX11_takeOwn_39 rfl (by decide) iw_X11 wd_953) <| dr_c (dg_no) <| dr_c (dg_no) <| dr_c (dg_iload_n (k := 1) rfl dX11_takeOwn_42) <| dr_c (dg_iald dX11_takeOwn_43) <| dr_c (dg_iload_n (k := 2) rfl dX11_takeOwn_44) <| dr_c (dg_iadd dX11_takeOwn_45) <| dr_c (dg_lald dX11_takeOwn_46) <| dr_c (dg_last dX11_takeOwn_47) <| dr_n
theorem tr_142_3 : dm_AllR (dm_Good dm_tb RX11 cX11_takeOwn 3 none false none) 48 [dm_ald 49 0, dm_getf 52 8 33, dm_no, dm_no, dm_ild 53 2, dm_ald 54 0, dm_getf 57 8 3, dm_no, dm_no, dm_ald 58 0, dm_getf 61 8 5, dm_no, dm_no, dm_ild 62 1, dm_iald 63, dm_ild 64 2] := dr_c (dg_aload_n (k := 0) rfl dX11_takeOwn_48) <| dr_c (dg_getf (T := TX11) (C := RX11) (N := 68) dX11_takeOwn_49 rfl (by decide) iw_X11 wd_981) <| dr_c (dg_no) <| dr_c (dg_no) <| dr_c (dg_iload_n (k := 2) rfl dX11_takeOwn_52) <| dr_c (dg_aload_n (k := 0) rfl dX11_takeOwn_53) <| dr_c (dg_getf (T := TX11) (C := RX11) (N := 68) dX11_takeOwn_54 rfl (by decide) iw_X11 wd_951) <| dr_c (dg_no) <| dr_c (dg_no) <| dr_c (dg_aload_n (k := 0) rfl dX11_takeOwn_57) <| dr_c (dg_getf (T := TX11) (C := RX11) (N := 68) dX11_takeOwn_58 rfl (by decide) iw_X11 wd_953) <| dr_c (dg_no) <| dr_c (dg_no) <| dr_c (dg_iload_n (k := 1) rfl dX11_takeOwn_61) <| dr_c (dg_iald dX11_takeOwn_62) <| dr_c (dg_iload_n (k := 2) rfl dX11_takeOwn_63) <| dr_n
theorem tr_142_4 : dm_AllR (dm_Good dm_tb RX11 cX11_takeOwn 3 none false none) 64 [dm_ii 65 (fun x y => x + y), dm_lald 66, dm_last 67, dm_iinc 70 2 1, dm_no, dm_no, dm_goto 21, dm_no, dm_no, dm_vret] := dr_c (dg_iadd dX11_takeOwn_64) <| dr_c (dg_lald dX11_takeOwn_65) <| dr_c (dg_last dX11_takeOwn_66) <| dr_c (dg_iinc (by decide) (by decide) dX11_takeOwn_67) <| dr_c (dg_no) <| dr_c (dg_no) <| dr_c (dg_goto (by decide) dX11_takeOwn_70) <| dr_c (dg_no) <| dr_c (dg_no) <| dr_c (dg_vret dX11_takeOwn_73) <| dr_n
theorem tk_142 : dm_AllC (dm_Good dm_tb RX11 cX11_takeOwn 3 none false none) 0 cd_142 := dc_c (by decide) tr_142_0 <| dc_c (by decide) tr_142_1 <| dc_c (by decide) tr_142_2 <| dc_c (by decide) tr_142_3 <| dc_c (by decide) tr_142_4 <| dc_n
theorem dX11_at_0 : decode cX11_at 0 = .ok (.iconst 0, 1) := by decide +kernel
theorem dX11_at_1 : decode cX11_at 1 = .ok (.istore_n 3, 1) := by decide +kernel
theorem dX11_at_2 : decode cX11_at 2 = .ok (.aload_n 0, 1) := by decide +kernel
theorem dX11_at_3 : decode cX11_at 3 = .ok (.getfield 180, 3) := by decide +kernel
theorem dX11_at_6 : decode cX11_at 6 = .ok (.iconst 1, 1) := by decide +kernel
theorem dX11_at_7 : decode cX11_at 7 = .ok (.isub, 1) := by decide +kernel
theorem dX11_at_8 : decode cX11_at 8 = .ok (.istore 4, 2) := by decide +kernel
theorem dX11_at_10 : decode cX11_at 10 = .ok (.iload_n 3, 1) := by decide +kernel
theorem dX11_at_11 : decode cX11_at 11 = .ok (.iload 4, 2) := by decide +kernel
theorem dX11_at_13 : decode cX11_at 13 = .ok (.if_icmp .ge 40, 3) := by decide +kernel
theorem dX11_at_16 : decode cX11_at 16 = .ok (.iload_n 3, 1) := by decide +kernel
theorem dX11_at_17 : decode cX11_at 17 = .ok (.iload 4, 2) := by decide +kernel
theorem dX11_at_19 : decode cX11_at 19 = .ok (.iadd, 1) := by decide +kernel
theorem dX11_at_20 : decode cX11_at 20 = .ok (.iconst 1, 1) := by decide +kernel
theorem dX11_at_21 : decode cX11_at 21 = .ok (.iadd, 1) := by decide +kernel
theorem dX11_at_22 : decode cX11_at 22 = .ok (.iconst 2, 1) := by decide +kernel
theorem dX11_at_23 : decode cX11_at 23 = .ok (.idiv, 1) := by decide +kernel
theorem dX11_at_24 : decode cX11_at 24 = .ok (.istore 5, 2) := by decide +kernel
theorem dX11_at_26 : decode cX11_at 26 = .ok (.aload_n 0, 1) := by decide +kernel
theorem dX11_at_27 : decode cX11_at 27 = .ok (.getfield 83, 3) := by decide +kernel
theorem dX11_at_30 : decode cX11_at 30 = .ok (.iload 5, 2) := by decide +kernel
theorem dX11_at_32 : decode cX11_at 32 = .ok (.laload, 1) := by decide +kernel
theorem dX11_at_33 : decode cX11_at 33 = .ok (.lload_n 1, 1) := by decide +kernel
theorem dX11_at_34 : decode cX11_at 34 = .ok (.lcmp, 1) := by decide +kernel
theorem dX11_at_35 : decode cX11_at 35 = .ok (.ifCond .gt 9, 3) := by decide +kernel
theorem dX11_at_38 : decode cX11_at 38 = .ok (.iload 5, 2) := by decide +kernel
theorem dX11_at_40 : decode cX11_at 40 = .ok (.istore_n 3, 1) := by decide +kernel
theorem dX11_at_41 : decode cX11_at 41 = .ok (.goto 9, 3) := by decide +kernel
theorem dX11_at_44 : decode cX11_at 44 = .ok (.iload 5, 2) := by decide +kernel
theorem dX11_at_46 : decode cX11_at 46 = .ok (.iconst 1, 1) := by decide +kernel
theorem dX11_at_47 : decode cX11_at 47 = .ok (.isub, 1) := by decide +kernel
theorem dX11_at_48 : decode cX11_at 48 = .ok (.istore 4, 2) := by decide +kernel
theorem dX11_at_50 : decode cX11_at 50 = .ok (.goto (-40), 3) := by decide +kernel
theorem dX11_at_53 : decode cX11_at 53 = .ok (.iload_n 3, 1) := by decide +kernel
theorem dX11_at_54 : decode cX11_at 54 = .ok (.ireturn, 1) := by decide +kernel
def cd_143 : dm_Code := [[dm_push 1 (.int 0), dm_ist 2 3, dm_ald 3 0, dm_getf 6 8 29, dm_no, dm_no, dm_push 7 (.int 1), dm_ii 8 (fun x y => x - y), dm_ist 10 4, dm_no, dm_ild 11 3, dm_ild 13 4, dm_no, dm_ic_ge 16 53, dm_no, dm_no],
  [dm_ild 17 3, dm_ild 19 4, dm_no, dm_ii 20 (fun x y => x + y), dm_push 21 (.int 1), dm_ii 22 (fun x y => x + y), dm_push 23 (.int 2), dm_iq 24 (fun x y => x / y), dm_ist 26 5, dm_no, dm_ald 27 0, dm_getf 30 8 27, dm_no, dm_no, dm_ild 32 5, dm_no],
  [dm_lald 33, dm_lld 34 1, dm_lc 35, dm_if_gt 38 44, dm_no, dm_no, dm_ild 40 5, dm_no, dm_ist 41 3, dm_goto 50, dm_no, dm_no, dm_ild 46 5, dm_no, dm_push 47 (.int 1), dm_ii 48 (fun x y => x - y)],
  [dm_ist 50 4, dm_no, dm_goto 10, dm_no, dm_no, dm_ild 54 3, dm_ret .int]]
theorem tr_143_0 : dm_AllR (dm_Good dm_tb RX11 cX11_at 6 (some .int) false none) 0 [dm_push 1 (.int 0), dm_ist 2 3, dm_ald 3 0, dm_getf 6 8 29, dm_no, dm_no, dm_push 7 (.int 1), dm_ii 8 (fun x y => x - y), dm_ist 10 4, dm_no, dm_ild 11 3, dm_ild 13 4, dm_no, dm_ic_ge 16 53, dm_no, dm_no] := dr_c (dg_iconst (by decide) dX11_at_0) <| dr_c (dg_istore_n (k := 3) rfl (by decide) dX11_at_1) <| dr_c (dg_aload_n (k := 0) rfl dX11_at_2) <| dr_c (dg_getf (T := TX11) (C := RX11) (N := 68) dX11_at_3 rfl (by decide) iw_X11 wd_977) <| dr_c (dg_no) <| dr_c (dg_no) <| dr_c (dg_iconst (by decide) dX11_at_6) <| dr_c (dg_isub dX11_at_7) <| dr_c (dg_istore (by decide) dX11_at_8) <| dr_c (dg_no) <| dr_c (dg_iload_n (k := 3) rfl dX11_at_10) <| dr_c (dg_iload dX11_at_11) <| dr_c (dg_no) <| dr_c (dg_ic_ge (by decide) dX11_at_13) <| dr_c (dg_no) <| dr_c (dg_no) <| dr_n
theorem tr_143_1 : dm_AllR (dm_Good dm_tb RX11 cX11_at 6 (some .int) false none) 16 [dm_ild 17 3, dm_ild 19 4, dm_no, dm_ii 20 (fun x y => x + y), dm_push 21 (.int 1), dm_ii 22 (fun x y => x + y), dm_push 23 (.int 2), dm_iq 24 (fun x y => x / y), dm_ist 26 5, dm_no, dm_ald 27 0, dm_getf 30 8 27, dm_no, dm_no, dm_ild 32 5, dm_no] := dr_c (dg_iload_n (k := 3) rfl dX11_at_16) <| dr_c (dg_iload dX11_at_17) <| dr_c (dg_no) <| dr_c (dg_iadd dX11_at_19) <| dr_c (dg_iconst (by decide) dX11_at_20) <| dr_c (dg_iadd dX11_at_21) <| dr_c (dg_iconst (by decide) dX11_at_22) <| dr_c (dg_idiv dX11_at_23) <| dr_c (dg_istore (by decide) dX11_at_24) <| dr_c (dg_no) <| dr_c (dg_aload_n (k := 0) rfl dX11_at_26) <| dr_c (dg_getf (T := TX11) (C := RX11) (N := 68) dX11_at_27 rfl (by decide) iw_X11 wd_975) <| dr_c (dg_no) <| dr_c (dg_no) <| dr_c (dg_iload dX11_at_30) <| dr_c (dg_no) <| dr_n
theorem tr_143_2 : dm_AllR (dm_Good dm_tb RX11 cX11_at 6 (some .int) false none) 32 [dm_lald 33, dm_lld 34 1, dm_lc 35, dm_if_gt 38 44, dm_no, dm_no, dm_ild 40 5, dm_no, dm_ist 41 3, dm_goto 50, dm_no, dm_no, dm_ild 46 5, dm_no, dm_push 47 (.int 1), dm_ii 48 (fun x y => x - y)] := dr_c (dg_lald dX11_at_32) <| dr_c (dg_lload_n (k := 1) rfl dX11_at_33) <| dr_c (dg_lcmp dX11_at_34) <| dr_c (dg_if_gt (by decide) dX11_at_35) <| dr_c (dg_no) <| dr_c (dg_no) <| dr_c (dg_iload dX11_at_38) <| dr_c (dg_no) <| dr_c (dg_istore_n (k := 3) rfl (by decide) dX11_at_40) <| dr_c (dg_goto (by decide) dX11_at_41) <| dr_c (dg_no) <| dr_c (dg_no) <| dr_c (dg_iload dX11_at_44) <| dr_c (dg_no) <| dr_c (dg_iconst (by decide) dX11_at_46) <| dr_c (dg_isub dX11_at_47) <| dr_n
theorem tr_143_3 : dm_AllR (dm_Good dm_tb RX11 cX11_at 6 (some .int) false none) 48 [dm_ist 50 4, dm_no, dm_goto 10, dm_no, dm_no, dm_ild 54 3, dm_ret .int] := dr_c (dg_istore (by decide) dX11_at_48) <| dr_c (dg_no) <| dr_c (dg_goto (by decide) dX11_at_50) <| dr_c (dg_no) <| dr_c (dg_no) <| dr_c (dg_iload_n (k := 3) rfl dX11_at_53) <| dr_c (dg_ret dX11_at_54) <| dr_n
theorem tk_143 : dm_AllC (dm_Good dm_tb RX11 cX11_at 6 (some .int) false none) 0 cd_143 := dc_c (by decide) tr_143_0 <| dc_c (by decide) tr_143_1 <| dc_c (by decide) tr_143_2 <| dc_c (by decide) tr_143_3 <| dc_n
theorem dX11_behind_0 : decode cX11_behind 0 = .ok (.iload_n 1, 1) := by decide +kernel
theorem dX11_behind_1 : decode cX11_behind 1 = .ok (.iconst 1, 1) := by decide +kernel
theorem dX11_behind_2 : decode cX11_behind 2 = .ok (.iadd, 1) := by decide +kernel
theorem dX11_behind_3 : decode cX11_behind 3 = .ok (.aload_n 0, 1) := by decide +kernel
theorem dX11_behind_4 : decode cX11_behind 4 = .ok (.getfield 180, 3) := by decide +kernel
theorem dX11_behind_7 : decode cX11_behind 7 = .ok (.if_icmp .ge 14, 3) := by decide +kernel
theorem dX11_behind_10 : decode cX11_behind 10 = .ok (.aload_n 0, 1) := by decide +kernel
theorem dX11_behind_11 : decode cX11_behind 11 = .ok (.getfield 83, 3) := by decide +kernel
theorem dX11_behind_14 : decode cX11_behind 14 = .ok (.iload_n 1, 1) := by decide +kernel
theorem dX11_behind_15 : decode cX11_behind 15 = .ok (.iconst 1, 1) := by decide +kernel
theorem dX11_behind_16 : decode cX11_behind 16 = .ok (.iadd, 1) := by decide +kernel
theorem dX11_behind_17 : decode cX11_behind 17 = .ok (.laload, 1) := by decide +kernel
theorem dX11_behind_18 : decode cX11_behind 18 = .ok (.goto 6, 3) := by decide +kernel
theorem dX11_behind_21 : decode cX11_behind 21 = .ok (.ldc2_w 186, 3) := by decide +kernel
theorem dX11_behind_24 : decode cX11_behind 24 = .ok (.lreturn, 1) := by decide +kernel
def cd_144 : dm_Code := [[dm_ild 1 1, dm_push 2 (.int 1), dm_ii 3 (fun x y => x + y), dm_ald 4 0, dm_getf 7 8 29, dm_no, dm_no, dm_ic_ge 10 21, dm_no, dm_no, dm_ald 11 0, dm_getf 14 8 27, dm_no, dm_no, dm_ild 15 1, dm_push 16 (.int 1)],
  [dm_ii 17 (fun x y => x + y), dm_lald 18, dm_goto 24, dm_no, dm_no, dm_push 24 (.long 1152921504606846976), dm_no, dm_no, dm_lret]]
theorem tr_144_0 : dm_AllR (dm_Good dm_tb RX11 cX11_behind 2 (some .long) false none) 0 [dm_ild 1 1, dm_push 2 (.int 1), dm_ii 3 (fun x y => x + y), dm_ald 4 0, dm_getf 7 8 29, dm_no, dm_no, dm_ic_ge 10 21, dm_no, dm_no, dm_ald 11 0, dm_getf 14 8 27, dm_no, dm_no, dm_ild 15 1, dm_push 16 (.int 1)] := dr_c (dg_iload_n (k := 1) rfl dX11_behind_0) <| dr_c (dg_iconst (by decide) dX11_behind_1) <| dr_c (dg_iadd dX11_behind_2) <| dr_c (dg_aload_n (k := 0) rfl dX11_behind_3) <| dr_c (dg_getf (T := TX11) (C := RX11) (N := 68) dX11_behind_4 rfl (by decide) iw_X11 wd_977) <| dr_c (dg_no) <| dr_c (dg_no) <| dr_c (dg_ic_ge (by decide) dX11_behind_7) <| dr_c (dg_no) <| dr_c (dg_no) <| dr_c (dg_aload_n (k := 0) rfl dX11_behind_10) <| dr_c (dg_getf (T := TX11) (C := RX11) (N := 68) dX11_behind_11 rfl (by decide) iw_X11 wd_975) <| dr_c (dg_no) <| dr_c (dg_no) <| dr_c (dg_iload_n (k := 1) rfl dX11_behind_14) <| dr_c (dg_iconst (by decide) dX11_behind_15) <| dr_n
theorem tr_144_1 : dm_AllR (dm_Good dm_tb RX11 cX11_behind 2 (some .long) false none) 16 [dm_ii 17 (fun x y => x + y), dm_lald 18, dm_goto 24, dm_no, dm_no, dm_push 24 (.long 1152921504606846976), dm_no, dm_no, dm_lret] := dr_c (dg_iadd dX11_behind_16) <| dr_c (dg_lald dX11_behind_17) <| dr_c (dg_goto (by decide) dX11_behind_18) <| dr_c (dg_no) <| dr_c (dg_no) <| dr_c (dg_ldc2 wd_918 dX11_behind_21) <| dr_c (dg_no) <| dr_c (dg_no) <| dr_c (dg_lret dX11_behind_24) <| dr_n
theorem tk_144 : dm_AllC (dm_Good dm_tb RX11 cX11_behind 2 (some .long) false none) 0 cd_144 := dc_c (by decide) tr_144_0 <| dc_c (by decide) tr_144_1 <| dc_n
theorem dX11_isFlat_0 : decode cX11_isFlat 0 = .ok (.aload_n 0, 1) := by decide +kernel
theorem dX11_isFlat_1 : decode cX11_isFlat 1 = .ok (.aload_n 0, 1) := by decide +kernel
theorem dX11_isFlat_2 : decode cX11_isFlat 2 = .ok (.lload_n 1, 1) := by decide +kernel
theorem dX11_isFlat_3 : decode cX11_isFlat 3 = .ok (.invokevirtual 203, 3) := by decide +kernel
theorem dX11_isFlat_6 : decode cX11_isFlat 6 = .ok (.invokevirtual 207, 3) := by decide +kernel
theorem dX11_isFlat_9 : decode cX11_isFlat 9 = .ok (.lload_n 1, 1) := by decide +kernel
theorem dX11_isFlat_10 : decode cX11_isFlat 10 = .ok (.lload_n 3, 1) := by decide +kernel
theorem dX11_isFlat_11 : decode cX11_isFlat 11 = .ok (.ladd, 1) := by decide +kernel
theorem dX11_isFlat_12 : decode cX11_isFlat 12 = .ok (.lcmp, 1) := by decide +kernel
theorem dX11_isFlat_13 : decode cX11_isFlat 13 = .ok (.ifCond .lt 7, 3) := by decide +kernel
theorem dX11_isFlat_16 : decode cX11_isFlat 16 = .ok (.iconst 1, 1) := by decide +kernel
theorem dX11_isFlat_17 : decode cX11_isFlat 17 = .ok (.goto 4, 3) := by decide +kernel
theorem dX11_isFlat_20 : decode cX11_isFlat 20 = .ok (.iconst 0, 1) := by decide +kernel
theorem dX11_isFlat_21 : decode cX11_isFlat 21 = .ok (.ireturn, 1) := by decide +kernel
def cd_145 : dm_Code := [[dm_ald 1 0, dm_ald 2 0, dm_lld 3 1, dm_inv 6 143 1 8, dm_no, dm_no, dm_inv 9 144 1 8, dm_no, dm_no, dm_lld 10 1, dm_lld 11 3, dm_ll 12 (fun x y => x + y), dm_lc 13, dm_if_lt 16 20, dm_no, dm_no],
  [dm_push 17 (.int 1), dm_goto 21, dm_no, dm_no, dm_push 21 (.int 0), dm_ret .boolean]]
theorem tr_145_0 : dm_AllR (dm_Good dm_tb RX11 cX11_isFlat 5 (some .boolean) false none) 0 [dm_ald 1 0, dm_ald 2 0, dm_lld 3 1, dm_inv 6 143 1 8, dm_no, dm_no, dm_inv 9 144 1 8, dm_no, dm_no, dm_lld 10 1, dm_lld 11 3, dm_ll 12 (fun x y => x + y), dm_lc 13, dm_if_lt 16 20, dm_no, dm_no] := dr_c (dg_aload_n (k := 0) rfl dX11_isFlat_0) <| dr_c (dg_aload_n (k := 0) rfl dX11_isFlat_1) <| dr_c (dg_lload_n (k := 1) rfl dX11_isFlat_2) <| dr_c (dg_inv dX11_isFlat_3 mo_143 rfl rfl wd_940 wd_942 wd_21 pd_143) <| dr_c (dg_no) <| dr_c (dg_no) <| dr_c (dg_inv dX11_isFlat_6 mo_144 rfl rfl wd_944 wd_946 wd_22 pd_144) <| dr_c (dg_no) <| dr_c (dg_no) <| dr_c (dg_lload_n (k := 1) rfl dX11_isFlat_9) <| dr_c (dg_lload_n (k := 3) rfl dX11_isFlat_10) <| dr_c (dg_ladd dX11_isFlat_11) <| dr_c (dg_lcmp dX11_isFlat_12) <| dr_c (dg_if_lt (by decide) dX11_isFlat_13) <| dr_c (dg_no) <| dr_c (dg_no) <| dr_n
theorem tr_145_1 : dm_AllR (dm_Good dm_tb RX11 cX11_isFlat 5 (some .boolean) false none) 16 [dm_push 17 (.int 1), dm_goto 21, dm_no, dm_no, dm_push 21 (.int 0), dm_ret .boolean] := dr_c (dg_iconst (by decide) dX11_isFlat_16) <| dr_c (dg_goto (by decide) dX11_isFlat_17) <| dr_c (dg_no) <| dr_c (dg_no) <| dr_c (dg_iconst (by decide) dX11_isFlat_20) <| dr_c (dg_ret dX11_isFlat_21) <| dr_n
theorem tk_145 : dm_AllC (dm_Good dm_tb RX11 cX11_isFlat 5 (some .boolean) false none) 0 cd_145 := dc_c (by decide) tr_145_0 <| dc_c (by decide) tr_145_1 <| dc_n
theorem dX11_most_0 : decode cX11_most 0 = .ok (.iconst 0, 1) := by decide +kernel
theorem dX11_most_1 : decode cX11_most 1 = .ok (.istore 5, 2) := by decide +kernel
theorem dX11_most_3 : decode cX11_most 3 = .ok (.aload_n 0, 1) := by decide +kernel
theorem dX11_most_4 : decode cX11_most 4 = .ok (.lload_n 1, 1) := by decide +kernel
theorem dX11_most_5 : decode cX11_most 5 = .ok (.invokevirtual 203, 3) := by decide +kernel
theorem dX11_most_8 : decode cX11_most 8 = .ok (.istore 6, 2) := by decide +kernel
theorem dX11_most_10 : decode cX11_most 10 = .ok (.iload 6, 2) := by decide +kernel
theorem dX11_most_12 : decode cX11_most 12 = .ok (.aload_n 0, 1) := by decide +kernel
theorem dX11_most_13 : decode cX11_most 13 = .ok (.getfield 180, 3) := by decide +kernel
theorem dX11_most_16 : decode cX11_most 16 = .ok (.if_icmp .ge 49, 3) := by decide +kernel
theorem dX11_most_19 : decode cX11_most 19 = .ok (.aload_n 0, 1) := by decide +kernel
theorem dX11_most_20 : decode cX11_most 20 = .ok (.getfield 83, 3) := by decide +kernel
theorem dX11_most_23 : decode cX11_most 23 = .ok (.iload 6, 2) := by decide +kernel
theorem dX11_most_25 : decode cX11_most 25 = .ok (.laload, 1) := by decide +kernel
theorem dX11_most_26 : decode cX11_most 26 = .ok (.lload_n 1, 1) := by decide +kernel
theorem dX11_most_27 : decode cX11_most 27 = .ok (.lload_n 3, 1) := by decide +kernel
theorem dX11_most_28 : decode cX11_most 28 = .ok (.ladd, 1) := by decide +kernel
theorem dX11_most_29 : decode cX11_most 29 = .ok (.lcmp, 1) := by decide +kernel
theorem dX11_most_30 : decode cX11_most 30 = .ok (.ifCond .ge 35, 3) := by decide +kernel
theorem dX11_most_33 : decode cX11_most 33 = .ok (.aload_n 0, 1) := by decide +kernel
theorem dX11_most_34 : decode cX11_most 34 = .ok (.getfield 86, 3) := by decide +kernel
theorem dX11_most_37 : decode cX11_most 37 = .ok (.iload 6, 2) := by decide +kernel
theorem dX11_most_39 : decode cX11_most 39 = .ok (.iaload, 1) := by decide +kernel
theorem dX11_most_40 : decode cX11_most 40 = .ok (.iload 5, 2) := by decide +kernel
theorem dX11_most_42 : decode cX11_most 42 = .ok (.if_icmp .le 13, 3) := by decide +kernel
theorem dX11_most_45 : decode cX11_most 45 = .ok (.aload_n 0, 1) := by decide +kernel
theorem dX11_most_46 : decode cX11_most 46 = .ok (.getfield 86, 3) := by decide +kernel
theorem dX11_most_49 : decode cX11_most 49 = .ok (.iload 6, 2) := by decide +kernel
theorem dX11_most_51 : decode cX11_most 51 = .ok (.iaload, 1) := by decide +kernel
theorem dX11_most_52 : decode cX11_most 52 = .ok (.goto 5, 3) := by decide +kernel
theorem dX11_most_55 : decode cX11_most 55 = .ok (.iload 5, 2) := by decide +kernel
theorem dX11_most_57 : decode cX11_most 57 = .ok (.istore 5, 2) := by decide +kernel
theorem dX11_most_59 : decode cX11_most 59 = .ok (.iinc 6 1, 3) := by decide +kernel
theorem dX11_most_62 : decode cX11_most 62 = .ok (.goto (-52), 3) := by decide +kernel
theorem dX11_most_65 : decode cX11_most 65 = .ok (.iload 5, 2) := by decide +kernel
theorem dX11_most_67 : decode cX11_most 67 = .ok (.ireturn, 1) := by decide +kernel
def cd_146 : dm_Code := [[dm_push 1 (.int 0), dm_ist 3 5, dm_no, dm_ald 4 0, dm_lld 5 1, dm_inv 8 143 1 8, dm_no, dm_no, dm_ist 10 6, dm_no, dm_ild 12 6, dm_no, dm_ald 13 0, dm_getf 16 8 29, dm_no, dm_no],
  [dm_ic_ge 19 65, dm_no, dm_no, dm_ald 20 0, dm_getf 23 8 27, dm_no, dm_no, dm_ild 25 6, dm_no, dm_lald 26, dm_lld 27 1, dm_lld 28 3, dm_ll 29 (fun x y => x + y), dm_lc 30, dm_if_ge 33 65, dm_no],
  [dm_no, dm_ald 34 0, dm_getf 37 8 28, dm_no, dm_no, dm_ild 39 6, dm_no, dm_iald 40, dm_ild 42 5, dm_no, dm_ic_le 45 55, dm_no, dm_no, dm_ald 46 0, dm_getf 49 8 28, dm_no],
  [dm_no, dm_ild 51 6, dm_no, dm_iald 52, dm_goto 57, dm_no, dm_no, dm_ild 57 5, dm_no, dm_ist 59 5, dm_no, dm_iinc 62 6 1, dm_no, dm_no, dm_goto 10, dm_no],
  [dm_no, dm_ild 67 5, dm_no, dm_ret .int]]
theorem tr_146_0 : dm_AllR (dm_Good dm_tb RX11 cX11_most 7 (some .int) false none) 0 [dm_push 1 (.int 0), dm_ist 3 5, dm_no, dm_ald 4 0, dm_lld 5 1, dm_inv 8 143 1 8, dm_no, dm_no, dm_ist 10 6, dm_no, dm_ild 12 6, dm_no, dm_ald 13 0, dm_getf 16 8 29, dm_no, dm_no] := dr_c (dg_iconst (by decide) dX11_most_0) <| dr_c (dg_istore (by decide) dX11_most_1) <| dr_c (dg_no) <| dr_c (dg_aload_n (k := 0) rfl dX11_most_3) <| dr_c (dg_lload_n (k := 1) rfl dX11_most_4) <| dr_c (dg_inv dX11_most_5 mo_143 rfl rfl wd_940 wd_942 wd_21 pd_143) <| dr_c (dg_no) <| dr_c (dg_no) <| dr_c (dg_istore (by decide) dX11_most_8) <| dr_c (dg_no) <| dr_c (dg_iload dX11_most_10) <| dr_c (dg_no) <| dr_c (dg_aload_n (k := 0) rfl dX11_most_12) <| dr_c (dg_getf (T := TX11) (C := RX11) (N := 68) dX11_most_13 rfl (by decide) iw_X11 wd_977) <| dr_c (dg_no) <| dr_c (dg_no) <| dr_n
theorem tr_146_1 : dm_AllR (dm_Good dm_tb RX11 cX11_most 7 (some .int) false none) 16 [dm_ic_ge 19 65, dm_no, dm_no, dm_ald 20 0, dm_getf 23 8 27, dm_no, dm_no, dm_ild 25 6, dm_no, dm_lald 26, dm_lld 27 1, dm_lld 28 3, dm_ll 29 (fun x y => x + y), dm_lc 30, dm_if_ge 33 65, dm_no] := dr_c (dg_ic_ge (by decide) dX11_most_16) <| dr_c (dg_no) <| dr_c (dg_no) <| dr_c (dg_aload_n (k := 0) rfl dX11_most_19) <| dr_c (dg_getf (T := TX11) (C := RX11) (N := 68) dX11_most_20 rfl (by decide) iw_X11 wd_975) <| dr_c (dg_no) <| dr_c (dg_no) <| dr_c (dg_iload dX11_most_23) <| dr_c (dg_no) <| dr_c (dg_lald dX11_most_25) <| dr_c (dg_lload_n (k := 1) rfl dX11_most_26) <| dr_c (dg_lload_n (k := 3) rfl dX11_most_27) <| dr_c (dg_ladd dX11_most_28) <| dr_c (dg_lcmp dX11_most_29) <| dr_c (dg_if_ge (by decide) dX11_most_30) <| dr_c (dg_no) <| dr_n
theorem tr_146_2 : dm_AllR (dm_Good dm_tb RX11 cX11_most 7 (some .int) false none) 32 [dm_no, dm_ald 34 0, dm_getf 37 8 28, dm_no, dm_no, dm_ild 39 6, dm_no, dm_iald 40, dm_ild 42 5, dm_no, dm_ic_le 45 55, dm_no, dm_no, dm_ald 46 0, dm_getf 49 8 28, dm_no] := dr_c (dg_no) <| dr_c (dg_aload_n (k := 0) rfl dX11_most_33) <| dr_c (dg_getf (T := TX11) (C := RX11) (N := 68) dX11_most_34 rfl (by decide) iw_X11 wd_976) <| dr_c (dg_no) <| dr_c (dg_no) <| dr_c (dg_iload dX11_most_37) <| dr_c (dg_no) <| dr_c (dg_iald dX11_most_39) <| dr_c (dg_iload dX11_most_40) <| dr_c (dg_no) <| dr_c (dg_ic_le (by decide) dX11_most_42) <| dr_c (dg_no) <| dr_c (dg_no) <| dr_c (dg_aload_n (k := 0) rfl dX11_most_45) <| dr_c (dg_getf (T := TX11) (C := RX11) (N := 68) dX11_most_46 rfl (by decide) iw_X11 wd_976) <| dr_c (dg_no) <| dr_n
theorem tr_146_3 : dm_AllR (dm_Good dm_tb RX11 cX11_most 7 (some .int) false none) 48 [dm_no, dm_ild 51 6, dm_no, dm_iald 52, dm_goto 57, dm_no, dm_no, dm_ild 57 5, dm_no, dm_ist 59 5, dm_no, dm_iinc 62 6 1, dm_no, dm_no, dm_goto 10, dm_no] := dr_c (dg_no) <| dr_c (dg_iload dX11_most_49) <| dr_c (dg_no) <| dr_c (dg_iald dX11_most_51) <| dr_c (dg_goto (by decide) dX11_most_52) <| dr_c (dg_no) <| dr_c (dg_no) <| dr_c (dg_iload dX11_most_55) <| dr_c (dg_no) <| dr_c (dg_istore (by decide) dX11_most_57) <| dr_c (dg_no) <| dr_c (dg_iinc (by decide) (by decide) dX11_most_59) <| dr_c (dg_no) <| dr_c (dg_no) <| dr_c (dg_goto (by decide) dX11_most_62) <| dr_c (dg_no) <| dr_n
theorem tr_146_4 : dm_AllR (dm_Good dm_tb RX11 cX11_most 7 (some .int) false none) 64 [dm_no, dm_ild 67 5, dm_no, dm_ret .int] := dr_c (dg_no) <| dr_c (dg_iload dX11_most_65) <| dr_c (dg_no) <| dr_c (dg_ret dX11_most_67) <| dr_n
theorem tk_146 : dm_AllC (dm_Good dm_tb RX11 cX11_most 7 (some .int) false none) 0 cd_146 := dc_c (by decide) tr_146_0 <| dc_c (by decide) tr_146_1 <| dc_c (by decide) tr_146_2 <| dc_c (by decide) tr_146_3 <| dc_c (by decide) tr_146_4 <| dc_n
theorem dX11_least_0 : decode cX11_least 0 = .ok (.ldc 211, 2) := by decide +kernel
theorem dX11_least_2 : decode cX11_least 2 = .ok (.istore 5, 2) := by decide +kernel
theorem dX11_least_4 : decode cX11_least 4 = .ok (.aload_n 0, 1) := by decide +kernel
theorem dX11_least_5 : decode cX11_least 5 = .ok (.lload_n 1, 1) := by decide +kernel
theorem dX11_least_6 : decode cX11_least 6 = .ok (.invokevirtual 203, 3) := by decide +kernel
theorem dX11_least_9 : decode cX11_least 9 = .ok (.istore 6, 2) := by decide +kernel
theorem dX11_least_11 : decode cX11_least 11 = .ok (.iload 6, 2) := by decide +kernel
theorem dX11_least_13 : decode cX11_least 13 = .ok (.aload_n 0, 1) := by decide +kernel
theorem dX11_least_14 : decode cX11_least 14 = .ok (.getfield 180, 3) := by decide +kernel
theorem dX11_least_17 : decode cX11_least 17 = .ok (.if_icmp .ge 49, 3) := by decide +kernel
theorem dX11_least_20 : decode cX11_least 20 = .ok (.aload_n 0, 1) := by decide +kernel
theorem dX11_least_21 : decode cX11_least 21 = .ok (.getfield 83, 3) := by decide +kernel
theorem dX11_least_24 : decode cX11_least 24 = .ok (.iload 6, 2) := by decide +kernel
theorem dX11_least_26 : decode cX11_least 26 = .ok (.laload, 1) := by decide +kernel
theorem dX11_least_27 : decode cX11_least 27 = .ok (.lload_n 1, 1) := by decide +kernel
theorem dX11_least_28 : decode cX11_least 28 = .ok (.lload_n 3, 1) := by decide +kernel
theorem dX11_least_29 : decode cX11_least 29 = .ok (.ladd, 1) := by decide +kernel
theorem dX11_least_30 : decode cX11_least 30 = .ok (.lcmp, 1) := by decide +kernel
theorem dX11_least_31 : decode cX11_least 31 = .ok (.ifCond .ge 35, 3) := by decide +kernel
theorem dX11_least_34 : decode cX11_least 34 = .ok (.aload_n 0, 1) := by decide +kernel
theorem dX11_least_35 : decode cX11_least 35 = .ok (.getfield 86, 3) := by decide +kernel
theorem dX11_least_38 : decode cX11_least 38 = .ok (.iload 6, 2) := by decide +kernel
theorem dX11_least_40 : decode cX11_least 40 = .ok (.iaload, 1) := by decide +kernel
theorem dX11_least_41 : decode cX11_least 41 = .ok (.iload 5, 2) := by decide +kernel
theorem dX11_least_43 : decode cX11_least 43 = .ok (.if_icmp .ge 13, 3) := by decide +kernel
theorem dX11_least_46 : decode cX11_least 46 = .ok (.aload_n 0, 1) := by decide +kernel
theorem dX11_least_47 : decode cX11_least 47 = .ok (.getfield 86, 3) := by decide +kernel
theorem dX11_least_50 : decode cX11_least 50 = .ok (.iload 6, 2) := by decide +kernel
theorem dX11_least_52 : decode cX11_least 52 = .ok (.iaload, 1) := by decide +kernel
theorem dX11_least_53 : decode cX11_least 53 = .ok (.goto 5, 3) := by decide +kernel
theorem dX11_least_56 : decode cX11_least 56 = .ok (.iload 5, 2) := by decide +kernel
theorem dX11_least_58 : decode cX11_least 58 = .ok (.istore 5, 2) := by decide +kernel
theorem dX11_least_60 : decode cX11_least 60 = .ok (.iinc 6 1, 3) := by decide +kernel
theorem dX11_least_63 : decode cX11_least 63 = .ok (.goto (-52), 3) := by decide +kernel
theorem dX11_least_66 : decode cX11_least 66 = .ok (.iload 5, 2) := by decide +kernel
theorem dX11_least_68 : decode cX11_least 68 = .ok (.ireturn, 1) := by decide +kernel
def cd_147 : dm_Code := [[dm_push 2 (.int 2147483647), dm_no, dm_ist 4 5, dm_no, dm_ald 5 0, dm_lld 6 1, dm_inv 9 143 1 8, dm_no, dm_no, dm_ist 11 6, dm_no, dm_ild 13 6, dm_no, dm_ald 14 0, dm_getf 17 8 29, dm_no],
  [dm_no, dm_ic_ge 20 66, dm_no, dm_no, dm_ald 21 0, dm_getf 24 8 27, dm_no, dm_no, dm_ild 26 6, dm_no, dm_lald 27, dm_lld 28 1, dm_lld 29 3, dm_ll 30 (fun x y => x + y), dm_lc 31, dm_if_ge 34 66],
  [dm_no, dm_no, dm_ald 35 0, dm_getf 38 8 28, dm_no, dm_no, dm_ild 40 6, dm_no, dm_iald 41, dm_ild 43 5, dm_no, dm_ic_ge 46 56, dm_no, dm_no, dm_ald 47 0, dm_getf 50 8 28],
  [dm_no, dm_no, dm_ild 52 6, dm_no, dm_iald 53, dm_goto 58, dm_no, dm_no, dm_ild 58 5, dm_no, dm_ist 60 5, dm_no, dm_iinc 63 6 1, dm_no, dm_no, dm_goto 11],
  [dm_no, dm_no, dm_ild 68 5, dm_no, dm_ret .int]]
theorem tr_147_0 : dm_AllR (dm_Good dm_tb RX11 cX11_least 7 (some .int) false none) 0 [dm_push 2 (.int 2147483647), dm_no, dm_ist 4 5, dm_no, dm_ald 5 0, dm_lld 6 1, dm_inv 9 143 1 8, dm_no, dm_no, dm_ist 11 6, dm_no, dm_ild 13 6, dm_no, dm_ald 14 0, dm_getf 17 8 29, dm_no] := dr_c (dg_ldc wd_1229 dX11_least_0) <| dr_c (dg_no) <| dr_c (dg_istore (by decide) dX11_least_2) <| dr_c (dg_no) <| dr_c (dg_aload_n (k := 0) rfl dX11_least_4) <| dr_c (dg_lload_n (k := 1) rfl dX11_least_5) <| dr_c (dg_inv dX11_least_6 mo_143 rfl rfl wd_940 wd_942 wd_21 pd_143) <| dr_c (dg_no) <| dr_c (dg_no) <| dr_c (dg_istore (by decide) dX11_least_9) <| dr_c (dg_no) <| dr_c (dg_iload dX11_least_11) <| dr_c (dg_no) <| dr_c (dg_aload_n (k := 0) rfl dX11_least_13) <| dr_c (dg_getf (T := TX11) (C := RX11) (N := 68) dX11_least_14 rfl (by decide) iw_X11 wd_977) <| dr_c (dg_no) <| dr_n
theorem tr_147_1 : dm_AllR (dm_Good dm_tb RX11 cX11_least 7 (some .int) false none) 16 [dm_no, dm_ic_ge 20 66, dm_no, dm_no, dm_ald 21 0, dm_getf 24 8 27, dm_no, dm_no, dm_ild 26 6, dm_no, dm_lald 27, dm_lld 28 1, dm_lld 29 3, dm_ll 30 (fun x y => x + y), dm_lc 31, dm_if_ge 34 66] := dr_c (dg_no) <| dr_c (dg_ic_ge (by decide) dX11_least_17) <| dr_c (dg_no) <| dr_c (dg_no) <| dr_c (dg_aload_n (k := 0) rfl dX11_least_20) <| dr_c (dg_getf (T := TX11) (C := RX11) (N := 68) dX11_least_21 rfl (by decide) iw_X11 wd_975) <| dr_c (dg_no) <| dr_c (dg_no) <| dr_c (dg_iload dX11_least_24) <| dr_c (dg_no) <| dr_c (dg_lald dX11_least_26) <| dr_c (dg_lload_n (k := 1) rfl dX11_least_27) <| dr_c (dg_lload_n (k := 3) rfl dX11_least_28) <| dr_c (dg_ladd dX11_least_29) <| dr_c (dg_lcmp dX11_least_30) <| dr_c (dg_if_ge (by decide) dX11_least_31) <| dr_n
theorem tr_147_2 : dm_AllR (dm_Good dm_tb RX11 cX11_least 7 (some .int) false none) 32 [dm_no, dm_no, dm_ald 35 0, dm_getf 38 8 28, dm_no, dm_no, dm_ild 40 6, dm_no, dm_iald 41, dm_ild 43 5, dm_no, dm_ic_ge 46 56, dm_no, dm_no, dm_ald 47 0, dm_getf 50 8 28] := dr_c (dg_no) <| dr_c (dg_no) <| dr_c (dg_aload_n (k := 0) rfl dX11_least_34) <| dr_c (dg_getf (T := TX11) (C := RX11) (N := 68) dX11_least_35 rfl (by decide) iw_X11 wd_976) <| dr_c (dg_no) <| dr_c (dg_no) <| dr_c (dg_iload dX11_least_38) <| dr_c (dg_no) <| dr_c (dg_iald dX11_least_40) <| dr_c (dg_iload dX11_least_41) <| dr_c (dg_no) <| dr_c (dg_ic_ge (by decide) dX11_least_43) <| dr_c (dg_no) <| dr_c (dg_no) <| dr_c (dg_aload_n (k := 0) rfl dX11_least_46) <| dr_c (dg_getf (T := TX11) (C := RX11) (N := 68) dX11_least_47 rfl (by decide) iw_X11 wd_976) <| dr_n
theorem tr_147_3 : dm_AllR (dm_Good dm_tb RX11 cX11_least 7 (some .int) false none) 48 [dm_no, dm_no, dm_ild 52 6, dm_no, dm_iald 53, dm_goto 58, dm_no, dm_no, dm_ild 58 5, dm_no, dm_ist 60 5, dm_no, dm_iinc 63 6 1, dm_no, dm_no, dm_goto 11] := dr_c (dg_no) <| dr_c (dg_no) <| dr_c (dg_iload dX11_least_50) <| dr_c (dg_no) <| dr_c (dg_iald dX11_least_52) <| dr_c (dg_goto (by decide) dX11_least_53) <| dr_c (dg_no) <| dr_c (dg_no) <| dr_c (dg_iload dX11_least_56) <| dr_c (dg_no) <| dr_c (dg_istore (by decide) dX11_least_58) <| dr_c (dg_no) <| dr_c (dg_iinc (by decide) (by decide) dX11_least_60) <| dr_c (dg_no) <| dr_c (dg_no) <| dr_c (dg_goto (by decide) dX11_least_63) <| dr_n
theorem tr_147_4 : dm_AllR (dm_Good dm_tb RX11 cX11_least 7 (some .int) false none) 64 [dm_no, dm_no, dm_ild 68 5, dm_no, dm_ret .int] := dr_c (dg_no) <| dr_c (dg_no) <| dr_c (dg_iload dX11_least_66) <| dr_c (dg_no) <| dr_c (dg_ret dX11_least_68) <| dr_n
theorem tk_147 : dm_AllC (dm_Good dm_tb RX11 cX11_least 7 (some .int) false none) 0 cd_147 := dc_c (by decide) tr_147_0 <| dc_c (by decide) tr_147_1 <| dc_c (by decide) tr_147_2 <| dc_c (by decide) tr_147_3 <| dc_c (by decide) tr_147_4 <| dc_n
theorem dX11_lay_0 : decode cX11_lay 0 = .ok (.iload_n 1, 1) := by decide +kernel
theorem dX11_lay_1 : decode cX11_lay 1 = .ok (.ifCond .le 18, 3) := by decide +kernel
theorem dX11_lay_4 : decode cX11_lay 4 = .ok (.aload_n 0, 1) := by decide +kernel
theorem dX11_lay_5 : decode cX11_lay 5 = .ok (.getfield 92, 3) := by decide +kernel
theorem dX11_lay_8 : decode cX11_lay 8 = .ok (.iload_n 1, 1) := by decide +kernel
theorem dX11_lay_9 : decode cX11_lay 9 = .ok (.iconst 1, 1) := by decide +kernel
theorem dX11_lay_10 : decode cX11_lay 10 = .ok (.isub, 1) := by decide +kernel
theorem dX11_lay_11 : decode cX11_lay 11 = .ok (.iaload, 1) := by decide +kernel
theorem dX11_lay_12 : decode cX11_lay 12 = .ok (.iload 4, 2) := by decide +kernel
theorem dX11_lay_14 : decode cX11_lay 14 = .ok (.if_icmp .ne 5, 3) := by decide +kernel
theorem dX11_lay_17 : decode cX11_lay 17 = .ok (.iload_n 1, 1) := by decide +kernel
theorem dX11_lay_18 : decode cX11_lay 18 = .ok (.ireturn, 1) := by decide +kernel
theorem dX11_lay_19 : decode cX11_lay 19 = .ok (.aload_n 0, 1) := by decide +kernel
theorem dX11_lay_20 : decode cX11_lay 20 = .ok (.getfield 89, 3) := by decide +kernel
theorem dX11_lay_23 : decode cX11_lay 23 = .ok (.iload_n 1, 1) := by decide +kernel
theorem dX11_lay_24 : decode cX11_lay 24 = .ok (.lload_n 2, 1) := by decide +kernel
theorem dX11_lay_25 : decode cX11_lay 25 = .ok (.lastore, 1) := by decide +kernel
theorem dX11_lay_26 : decode cX11_lay 26 = .ok (.aload_n 0, 1) := by decide +kernel
theorem dX11_lay_27 : decode cX11_lay 27 = .ok (.getfield 92, 3) := by decide +kernel
theorem dX11_lay_30 : decode cX11_lay 30 = .ok (.iload_n 1, 1) := by decide +kernel
theorem dX11_lay_31 : decode cX11_lay 31 = .ok (.iload 4, 2) := by decide +kernel
theorem dX11_lay_33 : decode cX11_lay 33 = .ok (.iastore, 1) := by decide +kernel
theorem dX11_lay_34 : decode cX11_lay 34 = .ok (.iload_n 1, 1) := by decide +kernel
theorem dX11_lay_35 : decode cX11_lay 35 = .ok (.iconst 1, 1) := by decide +kernel
theorem dX11_lay_36 : decode cX11_lay 36 = .ok (.iadd, 1) := by decide +kernel
theorem dX11_lay_37 : decode cX11_lay 37 = .ok (.ireturn, 1) := by decide +kernel
def cd_148 : dm_Code := [[dm_ild 1 1, dm_if_le 4 19, dm_no, dm_no, dm_ald 5 0, dm_getf 8 8 31, dm_no, dm_no, dm_ild 9 1, dm_push 10 (.int 1), dm_ii 11 (fun x y => x - y), dm_iald 12, dm_ild 14 4, dm_no, dm_ic_ne 17 19, dm_no],
  [dm_no, dm_ild 18 1, dm_ret .int, dm_ald 20 0, dm_getf 23 8 30, dm_no, dm_no, dm_ild 24 1, dm_lld 25 2, dm_last 26, dm_ald 27 0, dm_getf 30 8 31, dm_no, dm_no, dm_ild 31 1, dm_ild 33 4],
  [dm_no, dm_iast 34, dm_ild 35 1, dm_push 36 (.int 1), dm_ii 37 (fun x y => x + y), dm_ret .int]]
theorem tr_148_0 : dm_AllR (dm_Good dm_tb RX11 cX11_lay 5 (some .int) false none) 0 [dm_ild 1 1, dm_if_le 4 19, dm_no, dm_no, dm_ald 5 0, dm_getf 8 8 31, dm_no, dm_no, dm_ild 9 1, dm_push 10 (.int 1), dm_ii 11 (fun x y => x - y), dm_iald 12, dm_ild 14 4, dm_no, dm_ic_ne 17 19, dm_no] := dr_c (dg_iload_n (k := 1) rfl dX11_lay_0) <| dr_c (dg_if_le (by decide) dX11_lay_1) <| dr_c (dg_no) <| dr_c (dg_no) <| dr_c (dg_aload_n (k := 0) rfl dX11_lay_4) <| dr_c (dg_getf (T := TX11) (C := RX11) (N := 68) dX11_lay_5 rfl (by decide) iw_X11 wd_979) <| dr_c (dg_no) <| dr_c (dg_no) <| dr_c (dg_iload_n (k := 1) rfl dX11_lay_8) <| dr_c (dg_iconst (by decide) dX11_lay_9) <| dr_c (dg_isub dX11_lay_10) <| dr_c (dg_iald dX11_lay_11) <| dr_c (dg_iload dX11_lay_12) <| dr_c (dg_no) <| dr_c (dg_ic_ne (by decide) dX11_lay_14) <| dr_c (dg_no) <| dr_n
theorem tr_148_1 : dm_AllR (dm_Good dm_tb RX11 cX11_lay 5 (some .int) false none) 16 [dm_no, dm_ild 18 1, dm_ret .int, dm_ald 20 0, dm_getf 23 8 30, dm_no, dm_no, dm_ild 24 1, dm_lld 25 2, dm_last 26, dm_ald 27 0, dm_getf 30 8 31, dm_no, dm_no, dm_ild 31 1, dm_ild 33 4] := dr_c (dg_no) <| dr_c (dg_iload_n (k := 1) rfl dX11_lay_17) <| dr_c (dg_ret dX11_lay_18) <| dr_c (dg_aload_n (k := 0) rfl dX11_lay_19) <| dr_c (dg_getf (T := TX11) (C := RX11) (N := 68) dX11_lay_20 rfl (by decide) iw_X11 wd_978) <| dr_c (dg_no) <| dr_c (dg_no) <| dr_c (dg_iload_n (k := 1) rfl dX11_lay_23) <| dr_c (dg_lload_n (k := 2) rfl dX11_lay_24) <| dr_c (dg_last dX11_lay_25) <| dr_c (dg_aload_n (k := 0) rfl dX11_lay_26) <| dr_c (dg_getf (T := TX11) (C := RX11) (N := 68) dX11_lay_27 rfl (by decide) iw_X11 wd_979) <| dr_c (dg_no) <| dr_c (dg_no) <| dr_c (dg_iload_n (k := 1) rfl dX11_lay_30) <| dr_c (dg_iload dX11_lay_31) <| dr_n
theorem tr_148_2 : dm_AllR (dm_Good dm_tb RX11 cX11_lay 5 (some .int) false none) 32 [dm_no, dm_iast 34, dm_ild 35 1, dm_push 36 (.int 1), dm_ii 37 (fun x y => x + y), dm_ret .int] := dr_c (dg_no) <| dr_c (dg_iast dX11_lay_33) <| dr_c (dg_iload_n (k := 1) rfl dX11_lay_34) <| dr_c (dg_iconst (by decide) dX11_lay_35) <| dr_c (dg_iadd dX11_lay_36) <| dr_c (dg_ret dX11_lay_37) <| dr_n
theorem tk_148 : dm_AllC (dm_Good dm_tb RX11 cX11_lay 5 (some .int) false none) 0 cd_148 := dc_c (by decide) tr_148_0 <| dc_c (by decide) tr_148_1 <| dc_c (by decide) tr_148_2 <| dc_n
theorem dX11_become_0 : decode cX11_become 0 = .ok (.iconst 0, 1) := by decide +kernel
theorem dX11_become_1 : decode cX11_become 1 = .ok (.istore_n 2, 1) := by decide +kernel
theorem dX11_become_2 : decode cX11_become 2 = .ok (.iload_n 2, 1) := by decide +kernel
theorem dX11_become_3 : decode cX11_become 3 = .ok (.iload_n 1, 1) := by decide +kernel
theorem dX11_become_4 : decode cX11_become 4 = .ok (.if_icmp .ge 33, 3) := by decide +kernel
theorem dX11_become_7 : decode cX11_become 7 = .ok (.aload_n 0, 1) := by decide +kernel
theorem dX11_become_8 : decode cX11_become 8 = .ok (.getfield 83, 3) := by decide +kernel
theorem dX11_become_11 : decode cX11_become 11 = .ok (.iload_n 2, 1) := by decide +kernel
theorem dX11_become_12 : decode cX11_become 12 = .ok (.aload_n 0, 1) := by decide +kernel
theorem dX11_become_13 : decode cX11_become 13 = .ok (.getfield 89, 3) := by decide +kernel
theorem dX11_become_16 : decode cX11_become 16 = .ok (.iload_n 2, 1) := by decide +kernel
theorem dX11_become_17 : decode cX11_become 17 = .ok (.laload, 1) := by decide +kernel
theorem dX11_become_18 : decode cX11_become 18 = .ok (.lastore, 1) := by decide +kernel
theorem dX11_become_19 : decode cX11_become 19 = .ok (.aload_n 0, 1) := by decide +kernel
theorem dX11_become_20 : decode cX11_become 20 = .ok (.getfield 86, 3) := by decide +kernel
theorem dX11_become_23 : decode cX11_become 23 = .ok (.iload_n 2, 1) := by decide +kernel
theorem dX11_become_24 : decode cX11_become 24 = .ok (.aload_n 0, 1) := by decide +kernel
theorem dX11_become_25 : decode cX11_become 25 = .ok (.getfield 92, 3) := by decide +kernel
theorem dX11_become_28 : decode cX11_become 28 = .ok (.iload_n 2, 1) := by decide +kernel
theorem dX11_become_29 : decode cX11_become 29 = .ok (.iaload, 1) := by decide +kernel
theorem dX11_become_30 : decode cX11_become 30 = .ok (.iastore, 1) := by decide +kernel
theorem dX11_become_31 : decode cX11_become 31 = .ok (.iinc 2 1, 3) := by decide +kernel
theorem dX11_become_34 : decode cX11_become 34 = .ok (.goto (-32), 3) := by decide +kernel
theorem dX11_become_37 : decode cX11_become 37 = .ok (.aload_n 0, 1) := by decide +kernel
theorem dX11_become_38 : decode cX11_become 38 = .ok (.iload_n 1, 1) := by decide +kernel
theorem dX11_become_39 : decode cX11_become 39 = .ok (.putfield 180, 3) := by decide +kernel
theorem dX11_become_42 : decode cX11_become 42 = .ok (.return_, 1) := by decide +kernel
def cd_149 : dm_Code := [[dm_push 1 (.int 0), dm_ist 2 2, dm_ild 3 2, dm_ild 4 1, dm_ic_ge 7 37, dm_no, dm_no, dm_ald 8 0, dm_getf 11 8 27, dm_no, dm_no, dm_ild 12 2, dm_ald 13 0, dm_getf 16 8 30, dm_no, dm_no],
  [dm_ild 17 2, dm_lald 18, dm_last 19, dm_ald 20 0, dm_getf 23 8 28, dm_no, dm_no, dm_ild 24 2, dm_ald 25 0, dm_getf 28 8 31, dm_no, dm_no, dm_ild 29 2, dm_iald 30, dm_iast 31, dm_iinc 34 2 1],
  [dm_no, dm_no, dm_goto 2, dm_no, dm_no, dm_ald 38 0, dm_ild 39 1, dm_putf 42 8 29 .int, dm_no, dm_no, dm_vret]]
theorem tr_149_0 : dm_AllR (dm_Good dm_tb RX11 cX11_become 3 none false none) 0 [dm_push 1 (.int 0), dm_ist 2 2, dm_ild 3 2, dm_ild 4 1, dm_ic_ge 7 37, dm_no, dm_no, dm_ald 8 0, dm_getf 11 8 27, dm_no, dm_no, dm_ild 12 2, dm_ald 13 0, dm_getf 16 8 30, dm_no, dm_no] := dr_c (dg_iconst (by decide) dX11_become_0) <| dr_c (dg_istore_n (k := 2) rfl (by decide) dX11_become_1) <| dr_c (dg_iload_n (k := 2) rfl dX11_become_2) <| dr_c (dg_iload_n (k := 1) rfl dX11_become_3) <| dr_c (dg_ic_ge (by decide) dX11_become_4) <| dr_c (dg_no) <| dr_c (dg_no) <| dr_c (dg_aload_n (k := 0) rfl dX11_become_7) <| dr_c (dg_getf (T := TX11) (C := RX11) (N := 68) dX11_become_8 rfl (by decide) iw_X11 wd_975) <| dr_c (dg_no) <| dr_c (dg_no) <| dr_c (dg_iload_n (k := 2) rfl dX11_become_11) <| dr_c (dg_aload_n (k := 0) rfl dX11_become_12) <| dr_c (dg_getf (T := TX11) (C := RX11) (N := 68) dX11_become_13 rfl (by decide) iw_X11 wd_978) <| dr_c (dg_no) <| dr_c (dg_no) <| dr_n
theorem tr_149_1 : dm_AllR (dm_Good dm_tb RX11 cX11_become 3 none false none) 16 [dm_ild 17 2, dm_lald 18, dm_last 19, dm_ald 20 0, dm_getf 23 8 28, dm_no, dm_no, dm_ild 24 2, dm_ald 25 0, dm_getf 28 8 31, dm_no, dm_no, dm_ild 29 2, dm_iald 30, dm_iast 31, dm_iinc 34 2 1] := dr_c (dg_iload_n (k := 2) rfl dX11_become_16) <| dr_c (dg_lald dX11_become_17) <| dr_c (dg_last dX11_become_18) <| dr_c (dg_aload_n (k := 0) rfl dX11_become_19) <| dr_c (dg_getf (T := TX11) (C := RX11) (N := 68) dX11_become_20 rfl (by decide) iw_X11 wd_976) <| dr_c (dg_no) <| dr_c (dg_no) <| dr_c (dg_iload_n (k := 2) rfl dX11_become_23) <| dr_c (dg_aload_n (k := 0) rfl dX11_become_24) <| dr_c (dg_getf (T := TX11) (C := RX11) (N := 68) dX11_become_25 rfl (by decide) iw_X11 wd_979) <| dr_c (dg_no) <| dr_c (dg_no) <| dr_c (dg_iload_n (k := 2) rfl dX11_become_28) <| dr_c (dg_iald dX11_become_29) <| dr_c (dg_iast dX11_become_30) <| dr_c (dg_iinc (by decide) (by decide) dX11_become_31) <| dr_n
theorem tr_149_2 : dm_AllR (dm_Good dm_tb RX11 cX11_become 3 none false none) 32 [dm_no, dm_no, dm_goto 2, dm_no, dm_no, dm_ald 38 0, dm_ild 39 1, dm_putf 42 8 29 .int, dm_no, dm_no, dm_vret] := dr_c (dg_no) <| dr_c (dg_no) <| dr_c (dg_goto (by decide) dX11_become_34) <| dr_c (dg_no) <| dr_c (dg_no) <| dr_c (dg_aload_n (k := 0) rfl dX11_become_37) <| dr_c (dg_iload_n (k := 1) rfl dX11_become_38) <| dr_c (dg_putf (T := TX11) (C := RX11) (N := 68) dX11_become_39 rfl (by decide) iw_X11 tyX11_ok nmX11 wd_977 rfl rfl) <| dr_c (dg_no) <| dr_c (dg_no) <| dr_c (dg_vret dX11_become_42) <| dr_n
theorem tk_149 : dm_AllC (dm_Good dm_tb RX11 cX11_become 3 none false none) 0 cd_149 := dc_c (by decide) tr_149_0 <| dc_c (by decide) tr_149_1 <| dc_c (by decide) tr_149_2 <| dc_n
theorem dX11_set_0 : decode cX11_set 0 = .ok (.iconst 0, 1) := by decide +kernel
theorem dX11_set_1 : decode cX11_set 1 = .ok (.istore 7, 2) := by decide +kernel
theorem dX11_set_3 : decode cX11_set 3 = .ok (.lload_n 1, 1) := by decide +kernel
theorem dX11_set_4 : decode cX11_set 4 = .ok (.lload_n 3, 1) := by decide +kernel
theorem dX11_set_5 : decode cX11_set 5 = .ok (.ladd, 1) := by decide +kernel
theorem dX11_set_6 : decode cX11_set 6 = .ok (.lstore 8, 2) := by decide +kernel
theorem dX11_set_8 : decode cX11_set 8 = .ok (.iconst 0, 1) := by decide +kernel
theorem dX11_set_9 : decode cX11_set 9 = .ok (.istore 10, 2) := by decide +kernel
theorem dX11_set_11 : decode cX11_set 11 = .ok (.iload 10, 2) := by decide +kernel
theorem dX11_set_13 : decode cX11_set 13 = .ok (.aload_n 0, 1) := by decide +kernel
theorem dX11_set_14 : decode cX11_set 14 = .ok (.getfield 180, 3) := by decide +kernel
theorem dX11_set_17 : decode cX11_set 17 = .ok (.if_icmp .ge 170, 3) := by decide +kernel
theorem dX11_set_20 : decode cX11_set 20 = .ok (.aload_n 0, 1) := by decide +kernel
theorem dX11_set_21 : decode cX11_set 21 = .ok (.iload 10, 2) := by decide +kernel
theorem dX11_set_23 : decode cX11_set 23 = .ok (.invokevirtual 207, 3) := by decide +kernel
theorem dX11_set_26 : decode cX11_set 26 = .ok (.lstore 11, 2) := by decide +kernel
theorem dX11_set_28 : decode cX11_set 28 = .ok (.aload_n 0, 1) := by decide +kernel
theorem dX11_set_29 : decode cX11_set 29 = .ok (.getfield 83, 3) := by decide +kernel
theorem dX11_set_32 : decode cX11_set 32 = .ok (.iload 10, 2) := by decide +kernel
theorem dX11_set_34 : decode cX11_set 34 = .ok (.laload, 1) := by decide +kernel
theorem dX11_set_35 : decode cX11_set 35 = .ok (.lload_n 1, 1) := by decide +kernel
theorem dX11_set_36 : decode cX11_set 36 = .ok (.lcmp, 1) := by decide +kernel
theorem dX11_set_37 : decode cX11_set 37 = .ok (.ifCond .ge 25, 3) := by decide +kernel
theorem dX11_set_40 : decode cX11_set 40 = .ok (.aload_n 0, 1) := by decide +kernel
theorem dX11_set_41 : decode cX11_set 41 = .ok (.iload 7, 2) := by decide +kernel
theorem dX11_set_43 : decode cX11_set 43 = .ok (.aload_n 0, 1) := by decide +kernel
theorem dX11_set_44 : decode cX11_set 44 = .ok (.getfield 83, 3) := by decide +kernel
theorem dX11_set_47 : decode cX11_set 47 = .ok (.iload 10, 2) := by decide +kernel
theorem dX11_set_49 : decode cX11_set 49 = .ok (.laload, 1) := by decide +kernel
theorem dX11_set_50 : decode cX11_set 50 = .ok (.aload_n 0, 1) := by decide +kernel
theorem dX11_set_51 : decode cX11_set 51 = .ok (.getfield 86, 3) := by decide +kernel
theorem dX11_set_54 : decode cX11_set 54 = .ok (.iload 10, 2) := by decide +kernel
theorem dX11_set_56 : decode cX11_set 56 = .ok (.iaload, 1) := by decide +kernel
theorem dX11_set_57 : decode cX11_set 57 = .ok (.invokevirtual 212, 3) := by decide +kernel
theorem dX11_set_60 : decode cX11_set 60 = .ok (.istore 7, 2) := by decide +kernel
theorem dX11_set_62 : decode cX11_set 62 = .ok (.lload 11, 2) := by decide +kernel
theorem dX11_set_64 : decode cX11_set 64 = .ok (.lload_n 1, 1) := by decide +kernel
theorem dX11_set_65 : decode cX11_set 65 = .ok (.lcmp, 1) := by decide +kernel
theorem dX11_set_66 : decode cX11_set 66 = .ok (.ifCond .le 67, 3) := by decide +kernel
theorem dX11_set_69 : decode cX11_set 69 = .ok (.aload_n 0, 1) := by decide +kernel
theorem dX11_set_70 : decode cX11_set 70 = .ok (.getfield 83, 3) := by decide +kernel
theorem dX11_set_73 : decode cX11_set 73 = .ok (.iload 10, 2) := by decide +kernel
theorem dX11_set_75 : decode cX11_set 75 = .ok (.laload, 1) := by decide +kernel
theorem dX11_set_76 : decode cX11_set 76 = .ok (.lload 8, 2) := by decide +kernel
theorem dX11_set_78 : decode cX11_set 78 = .ok (.lcmp, 1) := by decide +kernel
theorem dX11_set_79 : decode cX11_set 79 = .ok (.ifCond .ge 54, 3) := by decide +kernel
theorem dX11_set_82 : decode cX11_set 82 = .ok (.aload_n 0, 1) := by decide +kernel
theorem dX11_set_83 : decode cX11_set 83 = .ok (.iload 7, 2) := by decide +kernel
theorem dX11_set_85 : decode cX11_set 85 = .ok (.aload_n 0, 1) := by decide +kernel
theorem dX11_set_86 : decode cX11_set 86 = .ok (.getfield 83, 3) := by decide +kernel
theorem dX11_set_89 : decode cX11_set 89 = .ok (.iload 10, 2) := by decide +kernel
theorem dX11_set_91 : decode cX11_set 91 = .ok (.laload, 1) := by decide +kernel
theorem dX11_set_92 : decode cX11_set 92 = .ok (.lload_n 1, 1) := by decide +kernel
theorem dX11_set_93 : decode cX11_set 93 = .ok (.lcmp, 1) := by decide +kernel
theorem dX11_set_94 : decode cX11_set 94 = .ok (.ifCond .ge 7, 3) := by decide +kernel
theorem dX11_set_97 : decode cX11_set 97 = .ok (.lload_n 1, 1) := by decide +kernel
theorem dX11_set_98 : decode cX11_set 98 = .ok (.goto 10, 3) := by decide +kernel
theorem dX11_set_101 : decode cX11_set 101 = .ok (.aload_n 0, 1) := by decide +kernel
theorem dX11_set_102 : decode cX11_set 102 = .ok (.getfield 83, 3) := by decide +kernel
theorem dX11_set_105 : decode cX11_set 105 = .ok (.iload 10, 2) := by decide +kernel
theorem dX11_set_107 : decode cX11_set 107 = .ok (.laload, 1) := by decide +kernel
theorem dX11_set_108 : decode cX11_set 108 = .ok (.iload 6, 2) := by decide +kernel
theorem dX11_set_110 : decode cX11_set 110 = .ok (.ifCond .eq 16, 3) := by decide +kernel
theorem dX11_set_113 : decode cX11_set 113 = .ok (.aload_n 0, 1) := by decide +kernel
theorem dX11_set_114 : decode cX11_set 114 = .ok (.getfield 86, 3) := by decide +kernel
theorem dX11_set_117 : decode cX11_set 117 = .ok (.iload 10, 2) := by decide +kernel
theorem dX11_set_119 : decode cX11_set 119 = .ok (.iaload, 1) := by decide +kernel
theorem dX11_set_120 : decode cX11_set 120 = .ok (.iload 5, 2) := by decide +kernel
theorem dX11_set_122 : decode cX11_set 122 = .ok (.iadd, 1) := by decide +kernel
theorem dX11_set_123 : decode cX11_set 123 = .ok (.goto 5, 3) := by decide +kernel
theorem dX11_set_126 : decode cX11_set 126 = .ok (.iload 5, 2) := by decide +kernel
theorem dX11_set_128 : decode cX11_set 128 = .ok (.invokevirtual 212, 3) := by decide +kernel
theorem dX11_set_131 : decode cX11_set 131 = .ok (.istore 7, 2) := by decide +kernel
theorem dX11_set_133 : decode cX11_set 133 = .ok (.lload 11, 2) := by decide +kernel
theorem dX11_set_135 : decode cX11_set 135 = .ok (.lload 8, 2) := by decide +kernel
theorem dX11_set_137 : decode cX11_set 137 = .ok (.lcmp, 1) := by decide +kernel
theorem dX11_set_138 : decode cX11_set 138 = .ok (.ifCond .le 43, 3) := by decide +kernel
theorem dX11_set_141 : decode cX11_set 141 = .ok (.aload_n 0, 1) := by decide +kernel
theorem dX11_set_142 : decode cX11_set 142 = .ok (.iload 7, 2) := by decide +kernel
theorem dX11_set_144 : decode cX11_set 144 = .ok (.aload_n 0, 1) := by decide +kernel
theorem dX11_set_145 : decode cX11_set 145 = .ok (.getfield 83, 3) := by decide +kernel
theorem dX11_set_148 : decode cX11_set 148 = .ok (.iload 10, 2) := by decide +kernel
theorem dX11_set_150 : decode cX11_set 150 = .ok (.laload, 1) := by decide +kernel
theorem dX11_set_151 : decode cX11_set 151 = .ok (.lload 8, 2) := by decide +kernel
theorem dX11_set_153 : decode cX11_set 153 = .ok (.lcmp, 1) := by decide +kernel
theorem dX11_set_154 : decode cX11_set 154 = .ok (.ifCond .ge 8, 3) := by decide +kernel
theorem dX11_set_157 : decode cX11_set 157 = .ok (.lload 8, 2) := by decide +kernel
theorem dX11_set_159 : decode cX11_set 159 = .ok (.goto 10, 3) := by decide +kernel
theorem dX11_set_162 : decode cX11_set 162 = .ok (.aload_n 0, 1) := by decide +kernel
theorem dX11_set_163 : decode cX11_set 163 = .ok (.getfield 83, 3) := by decide +kernel
theorem dX11_set_166 : decode cX11_set 166 = .ok (.iload 10, 2) := by decide +kernel
theorem dX11_set_168 : decode cX11_set 168 = .ok (.laload, 1) := by decide +kernel
theorem dX11_set_169 : decode cX11_set 169 = .ok (.aload_n 0, 1) := by decide +kernel
theorem dX11_set_170 : decode cX11_set 170 = .ok (.getfield 86, 3) := by decide +kernel
theorem dX11_set_173 : decode cX11_set 173 = .ok (.iload 10, 2) := by decide +kernel
theorem dX11_set_175 : decode cX11_set 175 = .ok (.iaload, 1) := by decide +kernel
theorem dX11_set_176 : decode cX11_set 176 = .ok (.invokevirtual 212, 3) := by decide +kernel
theorem dX11_set_179 : decode cX11_set 179 = .ok (.istore 7, 2) := by decide +kernel
theorem dX11_set_181 : decode cX11_set 181 = .ok (.iinc 10 1, 3) := by decide +kernel
theorem dX11_set_184 : decode cX11_set 184 = .ok (.goto (-173), 3) := by decide +kernel
theorem dX11_set_187 : decode cX11_set 187 = .ok (.aload_n 0, 1) := by decide +kernel
theorem dX11_set_188 : decode cX11_set 188 = .ok (.iload 7, 2) := by decide +kernel
theorem dX11_set_190 : decode cX11_set 190 = .ok (.invokevirtual 216, 3) := by decide +kernel
theorem dX11_set_193 : decode cX11_set 193 = .ok (.return_, 1) := by decide +kernel
def cd_150 : dm_Code := [[dm_push 1 (.int 0), dm_ist 3 7, dm_no, dm_lld 4 1, dm_lld 5 3, dm_ll 6 (fun x y => x + y), dm_lst 8 8, dm_no, dm_push 9 (.int 0), dm_ist 11 10, dm_no, dm_ild 13 10, dm_no, dm_ald 14 0, dm_getf 17 8 29, dm_no],
  [dm_no, dm_ic_ge 20 187, dm_no, dm_no, dm_ald 21 0, dm_ild 23 10, dm_no, dm_inv 26 144 1 8, dm_no, dm_no, dm_lst 28 11, dm_no, dm_ald 29 0, dm_getf 32 8 27, dm_no, dm_no],
  [dm_ild 34 10, dm_no, dm_lald 35, dm_lld 36 1, dm_lc 37, dm_if_ge 40 62, dm_no, dm_no, dm_ald 41 0, dm_ild 43 7, dm_no, dm_ald 44 0, dm_getf 47 8 27, dm_no, dm_no, dm_ild 49 10],
  [dm_no, dm_lald 50, dm_ald 51 0, dm_getf 54 8 28, dm_no, dm_no, dm_ild 56 10, dm_no, dm_iald 57, dm_inv 60 148 3 8, dm_no, dm_no, dm_ist 62 7, dm_no, dm_lld 64 11, dm_no],
  [dm_lld 65 1, dm_lc 66, dm_if_le 69 133, dm_no, dm_no, dm_ald 70 0, dm_getf 73 8 27, dm_no, dm_no, dm_ild 75 10, dm_no, dm_lald 76, dm_lld 78 8, dm_no, dm_lc 79, dm_if_ge 82 133],
  [dm_no, dm_no, dm_ald 83 0, dm_ild 85 7, dm_no, dm_ald 86 0, dm_getf 89 8 27, dm_no, dm_no, dm_ild 91 10, dm_no, dm_lald 92, dm_lld 93 1, dm_lc 94, dm_if_ge 97 101, dm_no],
  [dm_no, dm_lld 98 1, dm_goto 108, dm_no, dm_no, dm_ald 102 0, dm_getf 105 8 27, dm_no, dm_no, dm_ild 107 10, dm_no, dm_lald 108, dm_ild 110 6, dm_no, dm_if_eq 113 126, dm_no],
  [dm_no, dm_ald 114 0, dm_getf 117 8 28, dm_no, dm_no, dm_ild 119 10, dm_no, dm_iald 120, dm_ild 122 5, dm_no, dm_ii 123 (fun x y => x + y), dm_goto 128, dm_no, dm_no, dm_ild 128 5, dm_no],
  [dm_inv 131 148 3 8, dm_no, dm_no, dm_ist 133 7, dm_no, dm_lld 135 11, dm_no, dm_lld 137 8, dm_no, dm_lc 138, dm_if_le 141 181, dm_no, dm_no, dm_ald 142 0, dm_ild 144 7, dm_no],
  [dm_ald 145 0, dm_getf 148 8 27, dm_no, dm_no, dm_ild 150 10, dm_no, dm_lald 151, dm_lld 153 8, dm_no, dm_lc 154, dm_if_ge 157 162, dm_no, dm_no, dm_lld 159 8, dm_no, dm_goto 169],
  [dm_no, dm_no, dm_ald 163 0, dm_getf 166 8 27, dm_no, dm_no, dm_ild 168 10, dm_no, dm_lald 169, dm_ald 170 0, dm_getf 173 8 28, dm_no, dm_no, dm_ild 175 10, dm_no, dm_iald 176],
  [dm_inv 179 148 3 8, dm_no, dm_no, dm_ist 181 7, dm_no, dm_iinc 184 10 1, dm_no, dm_no, dm_goto 11, dm_no, dm_no, dm_ald 188 0, dm_ild 190 7, dm_no, dm_inv 193 149 1 8, dm_no],
  [dm_no, dm_vret]]
theorem tr_150_0 : dm_AllR (dm_Good dm_tb RX11 cX11_set 13 none false none) 0 [dm_push 1 (.int 0), dm_ist 3 7, dm_no, dm_lld 4 1, dm_lld 5 3, dm_ll 6 (fun x y => x + y), dm_lst 8 8, dm_no, dm_push 9 (.int 0), dm_ist 11 10, dm_no, dm_ild 13 10, dm_no, dm_ald 14 0, dm_getf 17 8 29, dm_no] := dr_c (dg_iconst (by decide) dX11_set_0) <| dr_c (dg_istore (by decide) dX11_set_1) <| dr_c (dg_no) <| dr_c (dg_lload_n (k := 1) rfl dX11_set_3) <| dr_c (dg_lload_n (k := 3) rfl dX11_set_4) <| dr_c (dg_ladd dX11_set_5) <| dr_c (dg_lstore (by decide) dX11_set_6) <| dr_c (dg_no) <| dr_c (dg_iconst (by decide) dX11_set_8) <| dr_c (dg_istore (by decide) dX11_set_9) <| dr_c (dg_no) <| dr_c (dg_iload dX11_set_11) <| dr_c (dg_no) <| dr_c (dg_aload_n (k := 0) rfl dX11_set_13) <| dr_c (dg_getf (T := TX11) (C := RX11) (N := 68) dX11_set_14 rfl (by decide) iw_X11 wd_977) <| dr_c (dg_no) <| dr_n
theorem tr_150_1 : dm_AllR (dm_Good dm_tb RX11 cX11_set 13 none false none) 16 [dm_no, dm_ic_ge 20 187, dm_no, dm_no, dm_ald 21 0, dm_ild 23 10, dm_no, dm_inv 26 144 1 8, dm_no, dm_no, dm_lst 28 11, dm_no, dm_ald 29 0, dm_getf 32 8 27, dm_no, dm_no] := dr_c (dg_no) <| dr_c (dg_ic_ge (by decide) dX11_set_17) <| dr_c (dg_no) <| dr_c (dg_no) <| dr_c (dg_aload_n (k := 0) rfl dX11_set_20) <| dr_c (dg_iload dX11_set_21) <| dr_c (dg_no) <| dr_c (dg_inv dX11_set_23 mo_144 rfl rfl wd_944 wd_946 wd_22 pd_144) <| dr_c (dg_no) <| dr_c (dg_no) <| dr_c (dg_lstore (by decide) dX11_set_26) <| dr_c (dg_no) <| dr_c (dg_aload_n (k := 0) rfl dX11_set_28) <| dr_c (dg_getf (T := TX11) (C := RX11) (N := 68) dX11_set_29 rfl (by decide) iw_X11 wd_975) <| dr_c (dg_no) <| dr_c (dg_no) <| dr_n
theorem tr_150_2 : dm_AllR (dm_Good dm_tb RX11 cX11_set 13 none false none) 32 [dm_ild 34 10, dm_no, dm_lald 35, dm_lld 36 1, dm_lc 37, dm_if_ge 40 62, dm_no, dm_no, dm_ald 41 0, dm_ild 43 7, dm_no, dm_ald 44 0, dm_getf 47 8 27, dm_no, dm_no, dm_ild 49 10] := dr_c (dg_iload dX11_set_32) <| dr_c (dg_no) <| dr_c (dg_lald dX11_set_34) <| dr_c (dg_lload_n (k := 1) rfl dX11_set_35) <| dr_c (dg_lcmp dX11_set_36) <| dr_c (dg_if_ge (by decide) dX11_set_37) <| dr_c (dg_no) <| dr_c (dg_no) <| dr_c (dg_aload_n (k := 0) rfl dX11_set_40) <| dr_c (dg_iload dX11_set_41) <| dr_c (dg_no) <| dr_c (dg_aload_n (k := 0) rfl dX11_set_43) <| dr_c (dg_getf (T := TX11) (C := RX11) (N := 68) dX11_set_44 rfl (by decide) iw_X11 wd_975) <| dr_c (dg_no) <| dr_c (dg_no) <| dr_c (dg_iload dX11_set_47) <| dr_n
theorem tr_150_3 : dm_AllR (dm_Good dm_tb RX11 cX11_set 13 none false none) 48 [dm_no, dm_lald 50, dm_ald 51 0, dm_getf 54 8 28, dm_no, dm_no, dm_ild 56 10, dm_no, dm_iald 57, dm_inv 60 148 3 8, dm_no, dm_no, dm_ist 62 7, dm_no, dm_lld 64 11, dm_no] := dr_c (dg_no) <| dr_c (dg_lald dX11_set_49) <| dr_c (dg_aload_n (k := 0) rfl dX11_set_50) <| dr_c (dg_getf (T := TX11) (C := RX11) (N := 68) dX11_set_51 rfl (by decide) iw_X11 wd_976) <| dr_c (dg_no) <| dr_c (dg_no) <| dr_c (dg_iload dX11_set_54) <| dr_c (dg_no) <| dr_c (dg_iald dX11_set_56) <| dr_c (dg_inv dX11_set_57 mo_148 rfl rfl wd_1217 wd_1219 wd_36 pd_148) <| dr_c (dg_no) <| dr_c (dg_no) <| dr_c (dg_istore (by decide) dX11_set_60) <| dr_c (dg_no) <| dr_c (dg_lload dX11_set_62) <| dr_c (dg_no) <| dr_n
theorem tr_150_4 : dm_AllR (dm_Good dm_tb RX11 cX11_set 13 none false none) 64 [dm_lld 65 1, dm_lc 66, dm_if_le 69 133, dm_no, dm_no, dm_ald 70 0, dm_getf 73 8 27, dm_no, dm_no, dm_ild 75 10, dm_no, dm_lald 76, dm_lld 78 8, dm_no, dm_lc 79, dm_if_ge 82 133] := dr_c (dg_lload_n (k := 1) rfl dX11_set_64) <| dr_c (dg_lcmp dX11_set_65) <| dr_c (dg_if_le (by decide) dX11_set_66) <| dr_c (dg_no) <| dr_c (dg_no) <| dr_c (dg_aload_n (k := 0) rfl dX11_set_69) <| dr_c (dg_getf (T := TX11) (C := RX11) (N := 68) dX11_set_70 rfl (by decide) iw_X11 wd_975) <| dr_c (dg_no) <| dr_c (dg_no) <| dr_c (dg_iload dX11_set_73) <| dr_c (dg_no) <| dr_c (dg_lald dX11_set_75) <| dr_c (dg_lload dX11_set_76) <| dr_c (dg_no) <| dr_c (dg_lcmp dX11_set_78) <| dr_c (dg_if_ge (by decide) dX11_set_79) <| dr_n
theorem tr_150_5 : dm_AllR (dm_Good dm_tb RX11 cX11_set 13 none false none) 80 [dm_no, dm_no, dm_ald 83 0, dm_ild 85 7, dm_no, dm_ald 86 0, dm_getf 89 8 27, dm_no, dm_no, dm_ild 91 10, dm_no, dm_lald 92, dm_lld 93 1, dm_lc 94, dm_if_ge 97 101, dm_no] := dr_c (dg_no) <| dr_c (dg_no) <| dr_c (dg_aload_n (k := 0) rfl dX11_set_82) <| dr_c (dg_iload dX11_set_83) <| dr_c (dg_no) <| dr_c (dg_aload_n (k := 0) rfl dX11_set_85) <| dr_c (dg_getf (T := TX11) (C := RX11) (N := 68) dX11_set_86 rfl (by decide) iw_X11 wd_975) <| dr_c (dg_no) <| dr_c (dg_no) <| dr_c (dg_iload dX11_set_89) <| dr_c (dg_no) <| dr_c (dg_lald dX11_set_91) <| dr_c (dg_lload_n (k := 1) rfl dX11_set_92) <| dr_c (dg_lcmp dX11_set_93) <| dr_c (dg_if_ge (by decide) dX11_set_94) <| dr_c (dg_no) <| dr_n
theorem tr_150_6 : dm_AllR (dm_Good dm_tb RX11 cX11_set 13 none false none) 96 [dm_no, dm_lld 98 1, dm_goto 108, dm_no, dm_no, dm_ald 102 0, dm_getf 105 8 27, dm_no, dm_no, dm_ild 107 10, dm_no, dm_lald 108, dm_ild 110 6, dm_no, dm_if_eq 113 126, dm_no] := dr_c (dg_no) <| dr_c (dg_lload_n (k := 1) rfl dX11_set_97) <| dr_c (dg_goto (by decide) dX11_set_98) <| dr_c (dg_no) <| dr_c (dg_no) <| dr_c (dg_aload_n (k := 0) rfl dX11_set_101) <| dr_c (dg_getf (T := TX11) (C := RX11) (N := 68) dX11_set_102 rfl (by decide) iw_X11 wd_975) <| dr_c (dg_no) <| dr_c (dg_no) <| dr_c (dg_iload dX11_set_105) <| dr_c (dg_no) <| dr_c (dg_lald dX11_set_107) <| dr_c (dg_iload dX11_set_108) <| dr_c (dg_no) <| dr_c (dg_if_eq (by decide) dX11_set_110) <| dr_c (dg_no) <| dr_n
theorem tr_150_7 : dm_AllR (dm_Good dm_tb RX11 cX11_set 13 none false none) 112 [dm_no, dm_ald 114 0, dm_getf 117 8 28, dm_no, dm_no, dm_ild 119 10, dm_no, dm_iald 120, dm_ild 122 5, dm_no, dm_ii 123 (fun x y => x + y), dm_goto 128, dm_no, dm_no, dm_ild 128 5, dm_no] := dr_c (dg_no) <| dr_c (dg_aload_n (k := 0) rfl dX11_set_113) <| dr_c (dg_getf (T := TX11) (C := RX11) (N := 68) dX11_set_114 rfl (by decide) iw_X11 wd_976) <| dr_c (dg_no) <| dr_c (dg_no) <| dr_c (dg_iload dX11_set_117) <| dr_c (dg_no) <| dr_c (dg_iald dX11_set_119) <| dr_c (dg_iload dX11_set_120) <| dr_c (dg_no) <| dr_c (dg_iadd dX11_set_122) <| dr_c (dg_goto (by decide) dX11_set_123) <| dr_c (dg_no) <| dr_c (dg_no) <| dr_c (dg_iload dX11_set_126) <| dr_c (dg_no) <| dr_n
theorem tr_150_8 : dm_AllR (dm_Good dm_tb RX11 cX11_set 13 none false none) 128 [dm_inv 131 148 3 8, dm_no, dm_no, dm_ist 133 7, dm_no, dm_lld 135 11, dm_no, dm_lld 137 8, dm_no, dm_lc 138, dm_if_le 141 181, dm_no, dm_no, dm_ald 142 0, dm_ild 144 7, dm_no] := dr_c (dg_inv dX11_set_128 mo_148 rfl rfl wd_1217 wd_1219 wd_36 pd_148) <| dr_c (dg_no) <| dr_c (dg_no) <| dr_c (dg_istore (by decide) dX11_set_131) <| dr_c (dg_no) <| dr_c (dg_lload dX11_set_133) <| dr_c (dg_no) <| dr_c (dg_lload dX11_set_135) <| dr_c (dg_no) <| dr_c (dg_lcmp dX11_set_137) <| dr_c (dg_if_le (by decide) dX11_set_138) <| dr_c (dg_no) <| dr_c (dg_no) <| dr_c (dg_aload_n (k := 0) rfl dX11_set_141) <| dr_c (dg_iload dX11_set_142) <| dr_c (dg_no) <| dr_n
theorem tr_150_9 : dm_AllR (dm_Good dm_tb RX11 cX11_set 13 none false none) 144 [dm_ald 145 0, dm_getf 148 8 27, dm_no, dm_no, dm_ild 150 10, dm_no, dm_lald 151, dm_lld 153 8, dm_no, dm_lc 154, dm_if_ge 157 162, dm_no, dm_no, dm_lld 159 8, dm_no, dm_goto 169] := dr_c (dg_aload_n (k := 0) rfl dX11_set_144) <| dr_c (dg_getf (T := TX11) (C := RX11) (N := 68) dX11_set_145 rfl (by decide) iw_X11 wd_975) <| dr_c (dg_no) <| dr_c (dg_no) <| dr_c (dg_iload dX11_set_148) <| dr_c (dg_no) <| dr_c (dg_lald dX11_set_150) <| dr_c (dg_lload dX11_set_151) <| dr_c (dg_no) <| dr_c (dg_lcmp dX11_set_153) <| dr_c (dg_if_ge (by decide) dX11_set_154) <| dr_c (dg_no) <| dr_c (dg_no) <| dr_c (dg_lload dX11_set_157) <| dr_c (dg_no) <| dr_c (dg_goto (by decide) dX11_set_159) <| dr_n
theorem tr_150_10 : dm_AllR (dm_Good dm_tb RX11 cX11_set 13 none false none) 160 [dm_no, dm_no, dm_ald 163 0, dm_getf 166 8 27, dm_no, dm_no, dm_ild 168 10, dm_no, dm_lald 169, dm_ald 170 0, dm_getf 173 8 28, dm_no, dm_no, dm_ild 175 10, dm_no, dm_iald 176] := dr_c (dg_no) <| dr_c (dg_no) <| dr_c (dg_aload_n (k := 0) rfl dX11_set_162) <| dr_c (dg_getf (T := TX11) (C := RX11) (N := 68) dX11_set_163 rfl (by decide) iw_X11 wd_975) <| dr_c (dg_no) <| dr_c (dg_no) <| dr_c (dg_iload dX11_set_166) <| dr_c (dg_no) <| dr_c (dg_lald dX11_set_168) <| dr_c (dg_aload_n (k := 0) rfl dX11_set_169) <| dr_c (dg_getf (T := TX11) (C := RX11) (N := 68) dX11_set_170 rfl (by decide) iw_X11 wd_976) <| dr_c (dg_no) <| dr_c (dg_no) <| dr_c (dg_iload dX11_set_173) <| dr_c (dg_no) <| dr_c (dg_iald dX11_set_175) <| dr_n
theorem tr_150_11 : dm_AllR (dm_Good dm_tb RX11 cX11_set 13 none false none) 176 [dm_inv 179 148 3 8, dm_no, dm_no, dm_ist 181 7, dm_no, dm_iinc 184 10 1, dm_no, dm_no, dm_goto 11, dm_no, dm_no, dm_ald 188 0, dm_ild 190 7, dm_no, dm_inv 193 149 1 8, dm_no] := dr_c (dg_inv dX11_set_176 mo_148 rfl rfl wd_1217 wd_1219 wd_36 pd_148) <| dr_c (dg_no) <| dr_c (dg_no) <| dr_c (dg_istore (by decide) dX11_set_179) <| dr_c (dg_no) <| dr_c (dg_iinc (by decide) (by decide) dX11_set_181) <| dr_c (dg_no) <| dr_c (dg_no) <| dr_c (dg_goto (by decide) dX11_set_184) <| dr_c (dg_no) <| dr_c (dg_no) <| dr_c (dg_aload_n (k := 0) rfl dX11_set_187) <| dr_c (dg_iload dX11_set_188) <| dr_c (dg_no) <| dr_c (dg_inv dX11_set_190 mo_149 rfl rfl wd_1221 wd_1223 wd_37 pd_149) <| dr_c (dg_no) <| dr_n
theorem tr_150_12 : dm_AllR (dm_Good dm_tb RX11 cX11_set 13 none false none) 192 [dm_no, dm_vret] := dr_c (dg_no) <| dr_c (dg_vret dX11_set_193) <| dr_n
theorem tk_150 : dm_AllC (dm_Good dm_tb RX11 cX11_set 13 none false none) 0 cd_150 := dc_c (by decide) tr_150_0 <| dc_c (by decide) tr_150_1 <| dc_c (by decide) tr_150_2 <| dc_c (by decide) tr_150_3 <| dc_c (by decide) tr_150_4 <| dc_c (by decide) tr_150_5 <| dc_c (by decide) tr_150_6 <| dc_c (by decide) tr_150_7 <| dc_c (by decide) tr_150_8 <| dc_c (by decide) tr_150_9 <| dc_c (by decide) tr_150_10 <| dc_c (by decide) tr_150_11 <| dc_c (by decide) tr_150_12 <| dc_n
theorem dX11_heightNodes_0 : decode cX11_heightNodes 0 = .ok (.aload_n 0, 1) := by decide +kernel
theorem dX11_heightNodes_1 : decode cX11_heightNodes 1 = .ok (.lload_n 1, 1) := by decide +kernel
theorem dX11_heightNodes_2 : decode cX11_heightNodes 2 = .ok (.lload_n 3, 1) := by decide +kernel
theorem dX11_heightNodes_3 : decode cX11_heightNodes 3 = .ok (.invokevirtual 220, 3) := by decide +kernel
theorem dX11_heightNodes_6 : decode cX11_heightNodes 6 = .ok (.ifCond .eq 5, 3) := by decide +kernel
theorem dX11_heightNodes_9 : decode cX11_heightNodes 9 = .ok (.iconst 1, 1) := by decide +kernel
theorem dX11_heightNodes_10 : decode cX11_heightNodes 10 = .ok (.ireturn, 1) := by decide +kernel
theorem dX11_heightNodes_11 : decode cX11_heightNodes 11 = .ok (.iconst 1, 1) := by decide +kernel
theorem dX11_heightNodes_12 : decode cX11_heightNodes 12 = .ok (.aload_n 0, 1) := by decide +kernel
theorem dX11_heightNodes_13 : decode cX11_heightNodes 13 = .ok (.lload_n 1, 1) := by decide +kernel
theorem dX11_heightNodes_14 : decode cX11_heightNodes 14 = .ok (.lload_n 3, 1) := by decide +kernel
theorem dX11_heightNodes_15 : decode cX11_heightNodes 15 = .ok (.ldc2_w 224, 3) := by decide +kernel
theorem dX11_heightNodes_18 : decode cX11_heightNodes 18 = .ok (.ldiv, 1) := by decide +kernel
theorem dX11_heightNodes_19 : decode cX11_heightNodes 19 = .ok (.invokevirtual 200, 3) := by decide +kernel
theorem dX11_heightNodes_22 : decode cX11_heightNodes 22 = .ok (.iadd, 1) := by decide +kernel
theorem dX11_heightNodes_23 : decode cX11_heightNodes 23 = .ok (.aload_n 0, 1) := by decide +kernel
theorem dX11_heightNodes_24 : decode cX11_heightNodes 24 = .ok (.lload_n 1, 1) := by decide +kernel
theorem dX11_heightNodes_25 : decode cX11_heightNodes 25 = .ok (.lload_n 3, 1) := by decide +kernel
theorem dX11_heightNodes_26 : decode cX11_heightNodes 26 = .ok (.ldc2_w 224, 3) := by decide +kernel
theorem dX11_heightNodes_29 : decode cX11_heightNodes 29 = .ok (.ldiv, 1) := by decide +kernel
theorem dX11_heightNodes_30 : decode cX11_heightNodes 30 = .ok (.ladd, 1) := by decide +kernel
theorem dX11_heightNodes_31 : decode cX11_heightNodes 31 = .ok (.lload_n 3, 1) := by decide +kernel
theorem dX11_heightNodes_32 : decode cX11_heightNodes 32 = .ok (.ldc2_w 224, 3) := by decide +kernel
theorem dX11_heightNodes_35 : decode cX11_heightNodes 35 = .ok (.ldiv, 1) := by decide +kernel
theorem dX11_heightNodes_36 : decode cX11_heightNodes 36 = .ok (.invokevirtual 200, 3) := by decide +kernel
theorem dX11_heightNodes_39 : decode cX11_heightNodes 39 = .ok (.iadd, 1) := by decide +kernel
theorem dX11_heightNodes_40 : decode cX11_heightNodes 40 = .ok (.ireturn, 1) := by decide +kernel
def cd_151 : dm_Code := [[dm_ald 1 0, dm_lld 2 1, dm_lld 3 3, dm_inv 6 145 2 8, dm_no, dm_no, dm_if_eq 9 11, dm_no, dm_no, dm_push 10 (.int 1), dm_ret .int, dm_push 12 (.int 1), dm_ald 13 0, dm_lld 14 1, dm_lld 15 3, dm_push 18 (.long 2)],
  [dm_no, dm_no, dm_lq 19 (fun x y => x / y), dm_inv 22 151 2 8, dm_no, dm_no, dm_ii 23 (fun x y => x + y), dm_ald 24 0, dm_lld 25 1, dm_lld 26 3, dm_push 29 (.long 2), dm_no, dm_no, dm_lq 30 (fun x y => x / y), dm_ll 31 (fun x y => x + y), dm_lld 32 3],
  [dm_push 35 (.long 2), dm_no, dm_no, dm_lq 36 (fun x y => x / y), dm_inv 39 151 2 8, dm_no, dm_no, dm_ii 40 (fun x y => x + y), dm_ret .int]]
theorem tr_151_0 : dm_AllR (dm_Good dm_tb RX11 cX11_heightNodes 5 (some .int) false none) 0 [dm_ald 1 0, dm_lld 2 1, dm_lld 3 3, dm_inv 6 145 2 8, dm_no, dm_no, dm_if_eq 9 11, dm_no, dm_no, dm_push 10 (.int 1), dm_ret .int, dm_push 12 (.int 1), dm_ald 13 0, dm_lld 14 1, dm_lld 15 3, dm_push 18 (.long 2)] := dr_c (dg_aload_n (k := 0) rfl dX11_heightNodes_0) <| dr_c (dg_lload_n (k := 1) rfl dX11_heightNodes_1) <| dr_c (dg_lload_n (k := 3) rfl dX11_heightNodes_2) <| dr_c (dg_inv dX11_heightNodes_3 mo_145 rfl rfl wd_936 wd_938 wd_20 pd_145) <| dr_c (dg_no) <| dr_c (dg_no) <| dr_c (dg_if_eq (by decide) dX11_heightNodes_6) <| dr_c (dg_no) <| dr_c (dg_no) <| dr_c (dg_iconst (by decide) dX11_heightNodes_9) <| dr_c (dg_ret dX11_heightNodes_10) <| dr_c (dg_iconst (by decide) dX11_heightNodes_11) <| dr_c (dg_aload_n (k := 0) rfl dX11_heightNodes_12) <| dr_c (dg_lload_n (k := 1) rfl dX11_heightNodes_13) <| dr_c (dg_lload_n (k := 3) rfl dX11_heightNodes_14) <| dr_c (dg_ldc2 wd_931 dX11_heightNodes_15) <| dr_n
theorem tr_151_1 : dm_AllR (dm_Good dm_tb RX11 cX11_heightNodes 5 (some .int) false none) 16 [dm_no, dm_no, dm_lq 19 (fun x y => x / y), dm_inv 22 151 2 8, dm_no, dm_no, dm_ii 23 (fun x y => x + y), dm_ald 24 0, dm_lld 25 1, dm_lld 26 3, dm_push 29 (.long 2), dm_no, dm_no, dm_lq 30 (fun x y => x / y), dm_ll 31 (fun x y => x + y), dm_lld 32 3] := dr_c (dg_no) <| dr_c (dg_no) <| dr_c (dg_ldiv dX11_heightNodes_18) <| dr_c (dg_inv dX11_heightNodes_19 mo_151 rfl rfl wd_932 wd_934 wd_19 pd_151) <| dr_c (dg_no) <| dr_c (dg_no) <| dr_c (dg_iadd dX11_heightNodes_22) <| dr_c (dg_aload_n (k := 0) rfl dX11_heightNodes_23) <| dr_c (dg_lload_n (k := 1) rfl dX11_heightNodes_24) <| dr_c (dg_lload_n (k := 3) rfl dX11_heightNodes_25) <| dr_c (dg_ldc2 wd_931 dX11_heightNodes_26) <| dr_c (dg_no) <| dr_c (dg_no) <| dr_c (dg_ldiv dX11_heightNodes_29) <| dr_c (dg_ladd dX11_heightNodes_30) <| dr_c (dg_lload_n (k := 3) rfl dX11_heightNodes_31) <| dr_n
theorem tr_151_2 : dm_AllR (dm_Good dm_tb RX11 cX11_heightNodes 5 (some .int) false none) 32 [dm_push 35 (.long 2), dm_no, dm_no, dm_lq 36 (fun x y => x / y), dm_inv 39 151 2 8, dm_no, dm_no, dm_ii 40 (fun x y => x + y), dm_ret .int] := dr_c (dg_ldc2 wd_931 dX11_heightNodes_32) <| dr_c (dg_no) <| dr_c (dg_no) <| dr_c (dg_ldiv dX11_heightNodes_35) <| dr_c (dg_inv dX11_heightNodes_36 mo_151 rfl rfl wd_932 wd_934 wd_19 pd_151) <| dr_c (dg_no) <| dr_c (dg_no) <| dr_c (dg_iadd dX11_heightNodes_39) <| dr_c (dg_ret dX11_heightNodes_40) <| dr_n
theorem tk_151 : dm_AllC (dm_Good dm_tb RX11 cX11_heightNodes 5 (some .int) false none) 0 cd_151 := dc_c (by decide) tr_151_0 <| dc_c (by decide) tr_151_1 <| dc_c (by decide) tr_151_2 <| dc_n
theorem dX11_part_0 : decode cX11_part 0 = .ok (.lload_n 1, 1) := by decide +kernel
theorem dX11_part_1 : decode cX11_part 1 = .ok (.lload_n 3, 1) := by decide +kernel
theorem dX11_part_2 : decode cX11_part 2 = .ok (.ladd, 1) := by decide +kernel
theorem dX11_part_3 : decode cX11_part 3 = .ok (.lstore 5, 2) := by decide +kernel
theorem dX11_part_5 : decode cX11_part 5 = .ok (.iconst 0, 1) := by decide +kernel
theorem dX11_part_6 : decode cX11_part 6 = .ok (.istore 7, 2) := by decide +kernel
theorem dX11_part_8 : decode cX11_part 8 = .ok (.iload 7, 2) := by decide +kernel
theorem dX11_part_10 : decode cX11_part 10 = .ok (.aload_n 0, 1) := by decide +kernel
theorem dX11_part_11 : decode cX11_part 11 = .ok (.getfield 183, 3) := by decide +kernel
theorem dX11_part_14 : decode cX11_part 14 = .ok (.if_icmp .ge 70, 3) := by decide +kernel
theorem dX11_part_17 : decode cX11_part 17 = .ok (.aload_n 0, 1) := by decide +kernel
theorem dX11_part_18 : decode cX11_part 18 = .ok (.getfield 98, 3) := by decide +kernel
theorem dX11_part_21 : decode cX11_part 21 = .ok (.iload 7, 2) := by decide +kernel
theorem dX11_part_23 : decode cX11_part 23 = .ok (.laload, 1) := by decide +kernel
theorem dX11_part_24 : decode cX11_part 24 = .ok (.lload_n 1, 1) := by decide +kernel
theorem dX11_part_25 : decode cX11_part 25 = .ok (.lcmp, 1) := by decide +kernel
theorem dX11_part_26 : decode cX11_part 26 = .ok (.ifCond .gt 6, 3) := by decide +kernel
theorem dX11_part_29 : decode cX11_part 29 = .ok (.goto 49, 3) := by decide +kernel
theorem dX11_part_32 : decode cX11_part 32 = .ok (.aload_n 0, 1) := by decide +kernel
theorem dX11_part_33 : decode cX11_part 33 = .ok (.getfield 95, 3) := by decide +kernel
theorem dX11_part_36 : decode cX11_part 36 = .ok (.iload 7, 2) := by decide +kernel
theorem dX11_part_38 : decode cX11_part 38 = .ok (.laload, 1) := by decide +kernel
theorem dX11_part_39 : decode cX11_part 39 = .ok (.lload 5, 2) := by decide +kernel
theorem dX11_part_41 : decode cX11_part 41 = .ok (.lcmp, 1) := by decide +kernel
theorem dX11_part_42 : decode cX11_part 42 = .ok (.ifCond .lt 5, 3) := by decide +kernel
theorem dX11_part_45 : decode cX11_part 45 = .ok (.iconst 0, 1) := by decide +kernel
theorem dX11_part_46 : decode cX11_part 46 = .ok (.ireturn, 1) := by decide +kernel
theorem dX11_part_47 : decode cX11_part 47 = .ok (.aload_n 0, 1) := by decide +kernel
theorem dX11_part_48 : decode cX11_part 48 = .ok (.getfield 95, 3) := by decide +kernel
theorem dX11_part_51 : decode cX11_part 51 = .ok (.iload 7, 2) := by decide +kernel
theorem dX11_part_53 : decode cX11_part 53 = .ok (.laload, 1) := by decide +kernel
theorem dX11_part_54 : decode cX11_part 54 = .ok (.lload_n 1, 1) := by decide +kernel
theorem dX11_part_55 : decode cX11_part 55 = .ok (.lcmp, 1) := by decide +kernel
theorem dX11_part_56 : decode cX11_part 56 = .ok (.ifCond .gt 20, 3) := by decide +kernel
theorem dX11_part_59 : decode cX11_part 59 = .ok (.aload_n 0, 1) := by decide +kernel
theorem dX11_part_60 : decode cX11_part 60 = .ok (.getfield 98, 3) := by decide +kernel
theorem dX11_part_63 : decode cX11_part 63 = .ok (.iload 7, 2) := by decide +kernel
theorem dX11_part_65 : decode cX11_part 65 = .ok (.laload, 1) := by decide +kernel
theorem dX11_part_66 : decode cX11_part 66 = .ok (.lload 5, 2) := by decide +kernel
theorem dX11_part_68 : decode cX11_part 68 = .ok (.lcmp, 1) := by decide +kernel
theorem dX11_part_69 : decode cX11_part 69 = .ok (.ifCond .lt 7, 3) := by decide +kernel
theorem dX11_part_72 : decode cX11_part 72 = .ok (.iconst 1, 1) := by decide +kernel
theorem dX11_part_73 : decode cX11_part 73 = .ok (.goto 4, 3) := by decide +kernel
theorem dX11_part_76 : decode cX11_part 76 = .ok (.iconst 2, 1) := by decide +kernel
theorem dX11_part_77 : decode cX11_part 77 = .ok (.ireturn, 1) := by decide +kernel
theorem dX11_part_78 : decode cX11_part 78 = .ok (.iinc 7 1, 3) := by decide +kernel
theorem dX11_part_81 : decode cX11_part 81 = .ok (.goto (-73), 3) := by decide +kernel
theorem dX11_part_84 : decode cX11_part 84 = .ok (.iconst 0, 1) := by decide +kernel
theorem dX11_part_85 : decode cX11_part 85 = .ok (.ireturn, 1) := by decide +kernel
def cd_152 : dm_Code := [[dm_lld 1 1, dm_lld 2 3, dm_ll 3 (fun x y => x + y), dm_lst 5 5, dm_no, dm_push 6 (.int 0), dm_ist 8 7, dm_no, dm_ild 10 7, dm_no, dm_ald 11 0, dm_getf 14 8 34, dm_no, dm_no, dm_ic_ge 17 84, dm_no],
  [dm_no, dm_ald 18 0, dm_getf 21 8 33, dm_no, dm_no, dm_ild 23 7, dm_no, dm_lald 24, dm_lld 25 1, dm_lc 26, dm_if_gt 29 32, dm_no, dm_no, dm_goto 78, dm_no, dm_no],
  [dm_ald 33 0, dm_getf 36 8 32, dm_no, dm_no, dm_ild 38 7, dm_no, dm_lald 39, dm_lld 41 5, dm_no, dm_lc 42, dm_if_lt 45 47, dm_no, dm_no, dm_push 46 (.int 0), dm_ret .int, dm_ald 48 0],
  [dm_getf 51 8 32, dm_no, dm_no, dm_ild 53 7, dm_no, dm_lald 54, dm_lld 55 1, dm_lc 56, dm_if_gt 59 76, dm_no, dm_no, dm_ald 60 0, dm_getf 63 8 33, dm_no, dm_no, dm_ild 65 7],
  [dm_no, dm_lald 66, dm_lld 68 5, dm_no, dm_lc 69, dm_if_lt 72 76, dm_no, dm_no, dm_push 73 (.int 1), dm_goto 77, dm_no, dm_no, dm_push 77 (.int 2), dm_ret .int, dm_iinc 81 7 1, dm_no],
  [dm_no, dm_goto 8, dm_no, dm_no, dm_push 85 (.int 0), dm_ret .int]]
theorem tr_152_0 : dm_AllR (dm_Good dm_tb RX11 cX11_part 8 (some .int) false none) 0 [dm_lld 1 1, dm_lld 2 3, dm_ll 3 (fun x y => x + y), dm_lst 5 5, dm_no, dm_push 6 (.int 0), dm_ist 8 7, dm_no, dm_ild 10 7, dm_no, dm_ald 11 0, dm_getf 14 8 34, dm_no, dm_no, dm_ic_ge 17 84, dm_no] := dr_c (dg_lload_n (k := 1) rfl dX11_part_0) <| dr_c (dg_lload_n (k := 3) rfl dX11_part_1) <| dr_c (dg_ladd dX11_part_2) <| dr_c (dg_lstore (by decide) dX11_part_3) <| dr_c (dg_no) <| dr_c (dg_iconst (by decide) dX11_part_5) <| dr_c (dg_istore (by decide) dX11_part_6) <| dr_c (dg_no) <| dr_c (dg_iload dX11_part_8) <| dr_c (dg_no) <| dr_c (dg_aload_n (k := 0) rfl dX11_part_10) <| dr_c (dg_getf (T := TX11) (C := RX11) (N := 68) dX11_part_11 rfl (by decide) iw_X11 wd_982) <| dr_c (dg_no) <| dr_c (dg_no) <| dr_c (dg_ic_ge (by decide) dX11_part_14) <| dr_c (dg_no) <| dr_n
theorem tr_152_1 : dm_AllR (dm_Good dm_tb RX11 cX11_part 8 (some .int) false none) 16 [dm_no, dm_ald 18 0, dm_getf 21 8 33, dm_no, dm_no, dm_ild 23 7, dm_no, dm_lald 24, dm_lld 25 1, dm_lc 26, dm_if_gt 29 32, dm_no, dm_no, dm_goto 78, dm_no, dm_no] := dr_c (dg_no) <| dr_c (dg_aload_n (k := 0) rfl dX11_part_17) <| dr_c (dg_getf (T := TX11) (C := RX11) (N := 68) dX11_part_18 rfl (by decide) iw_X11 wd_981) <| dr_c (dg_no) <| dr_c (dg_no) <| dr_c (dg_iload dX11_part_21) <| dr_c (dg_no) <| dr_c (dg_lald dX11_part_23) <| dr_c (dg_lload_n (k := 1) rfl dX11_part_24) <| dr_c (dg_lcmp dX11_part_25) <| dr_c (dg_if_gt (by decide) dX11_part_26) <| dr_c (dg_no) <| dr_c (dg_no) <| dr_c (dg_goto (by decide) dX11_part_29) <| dr_c (dg_no) <| dr_c (dg_no) <| dr_n
theorem tr_152_2 : dm_AllR (dm_Good dm_tb RX11 cX11_part 8 (some .int) false none) 32 [dm_ald 33 0, dm_getf 36 8 32, dm_no, dm_no, dm_ild 38 7, dm_no, dm_lald 39, dm_lld 41 5, dm_no, dm_lc 42, dm_if_lt 45 47, dm_no, dm_no, dm_push 46 (.int 0), dm_ret .int, dm_ald 48 0] := dr_c (dg_aload_n (k := 0) rfl dX11_part_32) <| dr_c (dg_getf (T := TX11) (C := RX11) (N := 68) dX11_part_33 rfl (by decide) iw_X11 wd_980) <| dr_c (dg_no) <| dr_c (dg_no) <| dr_c (dg_iload dX11_part_36) <| dr_c (dg_no) <| dr_c (dg_lald dX11_part_38) <| dr_c (dg_lload dX11_part_39) <| dr_c (dg_no) <| dr_c (dg_lcmp dX11_part_41) <| dr_c (dg_if_lt (by decide) dX11_part_42) <| dr_c (dg_no) <| dr_c (dg_no) <| dr_c (dg_iconst (by decide) dX11_part_45) <| dr_c (dg_ret dX11_part_46) <| dr_c (dg_aload_n (k := 0) rfl dX11_part_47) <| dr_n
theorem tr_152_3 : dm_AllR (dm_Good dm_tb RX11 cX11_part 8 (some .int) false none) 48 [dm_getf 51 8 32, dm_no, dm_no, dm_ild 53 7, dm_no, dm_lald 54, dm_lld 55 1, dm_lc 56, dm_if_gt 59 76, dm_no, dm_no, dm_ald 60 0, dm_getf 63 8 33, dm_no, dm_no, dm_ild 65 7] := dr_c (dg_getf (T := TX11) (C := RX11) (N := 68) dX11_part_48 rfl (by decide) iw_X11 wd_980) <| dr_c (dg_no) <| dr_c (dg_no) <| dr_c (dg_iload dX11_part_51) <| dr_c (dg_no) <| dr_c (dg_lald dX11_part_53) <| dr_c (dg_lload_n (k := 1) rfl dX11_part_54) <| dr_c (dg_lcmp dX11_part_55) <| dr_c (dg_if_gt (by decide) dX11_part_56) <| dr_c (dg_no) <| dr_c (dg_no) <| dr_c (dg_aload_n (k := 0) rfl dX11_part_59) <| dr_c (dg_getf (T := TX11) (C := RX11) (N := 68) dX11_part_60 rfl (by decide) iw_X11 wd_981) <| dr_c (dg_no) <| dr_c (dg_no) <| dr_c (dg_iload dX11_part_63) <| dr_n
theorem tr_152_4 : dm_AllR (dm_Good dm_tb RX11 cX11_part 8 (some .int) false none) 64 [dm_no, dm_lald 66, dm_lld 68 5, dm_no, dm_lc 69, dm_if_lt 72 76, dm_no, dm_no, dm_push 73 (.int 1), dm_goto 77, dm_no, dm_no, dm_push 77 (.int 2), dm_ret .int, dm_iinc 81 7 1, dm_no] := dr_c (dg_no) <| dr_c (dg_lald dX11_part_65) <| dr_c (dg_lload dX11_part_66) <| dr_c (dg_no) <| dr_c (dg_lcmp dX11_part_68) <| dr_c (dg_if_lt (by decide) dX11_part_69) <| dr_c (dg_no) <| dr_c (dg_no) <| dr_c (dg_iconst (by decide) dX11_part_72) <| dr_c (dg_goto (by decide) dX11_part_73) <| dr_c (dg_no) <| dr_c (dg_no) <| dr_c (dg_iconst (by decide) dX11_part_76) <| dr_c (dg_ret dX11_part_77) <| dr_c (dg_iinc (by decide) (by decide) dX11_part_78) <| dr_c (dg_no) <| dr_n
theorem tr_152_5 : dm_AllR (dm_Good dm_tb RX11 cX11_part 8 (some .int) false none) 80 [dm_no, dm_goto 8, dm_no, dm_no, dm_push 85 (.int 0), dm_ret .int] := dr_c (dg_no) <| dr_c (dg_goto (by decide) dX11_part_81) <| dr_c (dg_no) <| dr_c (dg_no) <| dr_c (dg_iconst (by decide) dX11_part_84) <| dr_c (dg_ret dX11_part_85) <| dr_n
theorem tk_152 : dm_AllC (dm_Good dm_tb RX11 cX11_part 8 (some .int) false none) 0 cd_152 := dc_c (by decide) tr_152_0 <| dc_c (by decide) tr_152_1 <| dc_c (by decide) tr_152_2 <| dc_c (by decide) tr_152_3 <| dc_c (by decide) tr_152_4 <| dc_c (by decide) tr_152_5 <| dc_n
theorem dX11_shareNodes_0 : decode cX11_shareNodes 0 = .ok (.aload_n 0, 1) := by decide +kernel
theorem dX11_shareNodes_1 : decode cX11_shareNodes 1 = .ok (.lload_n 1, 1) := by decide +kernel
theorem dX11_shareNodes_2 : decode cX11_shareNodes 2 = .ok (.lload_n 3, 1) := by decide +kernel
theorem dX11_shareNodes_3 : decode cX11_shareNodes 3 = .ok (.invokevirtual 226, 3) := by decide +kernel
theorem dX11_shareNodes_6 : decode cX11_shareNodes 6 = .ok (.iconst 2, 1) := by decide +kernel
theorem dX11_shareNodes_7 : decode cX11_shareNodes 7 = .ok (.if_icmp .ge 5, 3) := by decide +kernel
theorem dX11_shareNodes_10 : decode cX11_shareNodes 10 = .ok (.iconst 1, 1) := by decide +kernel
theorem dX11_shareNodes_11 : decode cX11_shareNodes 11 = .ok (.ireturn, 1) := by decide +kernel
theorem dX11_shareNodes_12 : decode cX11_shareNodes 12 = .ok (.iconst 1, 1) := by decide +kernel
theorem dX11_shareNodes_13 : decode cX11_shareNodes 13 = .ok (.aload_n 0, 1) := by decide +kernel
theorem dX11_shareNodes_14 : decode cX11_shareNodes 14 = .ok (.lload_n 1, 1) := by decide +kernel
theorem dX11_shareNodes_15 : decode cX11_shareNodes 15 = .ok (.lload_n 3, 1) := by decide +kernel
theorem dX11_shareNodes_16 : decode cX11_shareNodes 16 = .ok (.ldc2_w 224, 3) := by decide +kernel
theorem dX11_shareNodes_19 : decode cX11_shareNodes 19 = .ok (.ldiv, 1) := by decide +kernel
theorem dX11_shareNodes_20 : decode cX11_shareNodes 20 = .ok (.invokevirtual 196, 3) := by decide +kernel
theorem dX11_shareNodes_23 : decode cX11_shareNodes 23 = .ok (.iadd, 1) := by decide +kernel
theorem dX11_shareNodes_24 : decode cX11_shareNodes 24 = .ok (.aload_n 0, 1) := by decide +kernel
theorem dX11_shareNodes_25 : decode cX11_shareNodes 25 = .ok (.lload_n 1, 1) := by decide +kernel
theorem dX11_shareNodes_26 : decode cX11_shareNodes 26 = .ok (.lload_n 3, 1) := by decide +kernel
theorem dX11_shareNodes_27 : decode cX11_shareNodes 27 = .ok (.ldc2_w 224, 3) := by decide +kernel
theorem dX11_shareNodes_30 : decode cX11_shareNodes 30 = .ok (.ldiv, 1) := by decide +kernel
theorem dX11_shareNodes_31 : decode cX11_shareNodes 31 = .ok (.ladd, 1) := by decide +kernel
theorem dX11_shareNodes_32 : decode cX11_shareNodes 32 = .ok (.lload_n 3, 1) := by decide +kernel
theorem dX11_shareNodes_33 : decode cX11_shareNodes 33 = .ok (.ldc2_w 224, 3) := by decide +kernel
theorem dX11_shareNodes_36 : decode cX11_shareNodes 36 = .ok (.ldiv, 1) := by decide +kernel
theorem dX11_shareNodes_37 : decode cX11_shareNodes 37 = .ok (.invokevirtual 196, 3) := by decide +kernel
theorem dX11_shareNodes_40 : decode cX11_shareNodes 40 = .ok (.iadd, 1) := by decide +kernel
theorem dX11_shareNodes_41 : decode cX11_shareNodes 41 = .ok (.ireturn, 1) := by decide +kernel
def cd_153 : dm_Code := [[dm_ald 1 0, dm_lld 2 1, dm_lld 3 3, dm_inv 6 152 2 8, dm_no, dm_no, dm_push 7 (.int 2), dm_ic_ge 10 12, dm_no, dm_no, dm_push 11 (.int 1), dm_ret .int, dm_push 13 (.int 1), dm_ald 14 0, dm_lld 15 1, dm_lld 16 3],
  [dm_push 19 (.long 2), dm_no, dm_no, dm_lq 20 (fun x y => x / y), dm_inv 23 153 2 8, dm_no, dm_no, dm_ii 24 (fun x y => x + y), dm_ald 25 0, dm_lld 26 1, dm_lld 27 3, dm_push 30 (.long 2), dm_no, dm_no, dm_lq 31 (fun x y => x / y), dm_ll 32 (fun x y => x + y)],
  [dm_lld 33 3, dm_push 36 (.long 2), dm_no, dm_no, dm_lq 37 (fun x y => x / y), dm_inv 40 153 2 8, dm_no, dm_no, dm_ii 41 (fun x y => x + y), dm_ret .int]]
theorem tr_153_0 : dm_AllR (dm_Good dm_tb RX11 cX11_shareNodes 5 (some .int) false none) 0 [dm_ald 1 0, dm_lld 2 1, dm_lld 3 3, dm_inv 6 152 2 8, dm_no, dm_no, dm_push 7 (.int 2), dm_ic_ge 10 12, dm_no, dm_no, dm_push 11 (.int 1), dm_ret .int, dm_push 13 (.int 1), dm_ald 14 0, dm_lld 15 1, dm_lld 16 3] := dr_c (dg_aload_n (k := 0) rfl dX11_shareNodes_0) <| dr_c (dg_lload_n (k := 1) rfl dX11_shareNodes_1) <| dr_c (dg_lload_n (k := 3) rfl dX11_shareNodes_2) <| dr_c (dg_inv dX11_shareNodes_3 mo_152 rfl rfl wd_927 wd_929 wd_18 pd_152) <| dr_c (dg_no) <| dr_c (dg_no) <| dr_c (dg_iconst (by decide) dX11_shareNodes_6) <| dr_c (dg_ic_ge (by decide) dX11_shareNodes_7) <| dr_c (dg_no) <| dr_c (dg_no) <| dr_c (dg_iconst (by decide) dX11_shareNodes_10) <| dr_c (dg_ret dX11_shareNodes_11) <| dr_c (dg_iconst (by decide) dX11_shareNodes_12) <| dr_c (dg_aload_n (k := 0) rfl dX11_shareNodes_13) <| dr_c (dg_lload_n (k := 1) rfl dX11_shareNodes_14) <| dr_c (dg_lload_n (k := 3) rfl dX11_shareNodes_15) <| dr_n
theorem tr_153_1 : dm_AllR (dm_Good dm_tb RX11 cX11_shareNodes 5 (some .int) false none) 16 [dm_push 19 (.long 2), dm_no, dm_no, dm_lq 20 (fun x y => x / y), dm_inv 23 153 2 8, dm_no, dm_no, dm_ii 24 (fun x y => x + y), dm_ald 25 0, dm_lld 26 1, dm_lld 27 3, dm_push 30 (.long 2), dm_no, dm_no, dm_lq 31 (fun x y => x / y), dm_ll 32 (fun x y => x + y)] := dr_c (dg_ldc2 wd_931 dX11_shareNodes_16) <| dr_c (dg_no) <| dr_c (dg_no) <| dr_c (dg_ldiv dX11_shareNodes_19) <| dr_c (dg_inv dX11_shareNodes_20 mo_153 rfl rfl wd_923 wd_925 wd_17 pd_153) <| dr_c (dg_no) <| dr_c (dg_no) <| dr_c (dg_iadd dX11_shareNodes_23) <| dr_c (dg_aload_n (k := 0) rfl dX11_shareNodes_24) <| dr_c (dg_lload_n (k := 1) rfl dX11_shareNodes_25) <| dr_c (dg_lload_n (k := 3) rfl dX11_shareNodes_26) <| dr_c (dg_ldc2 wd_931 dX11_shareNodes_27) <| dr_c (dg_no) <| dr_c (dg_no) <| dr_c (dg_ldiv dX11_shareNodes_30) <| dr_c (dg_ladd dX11_shareNodes_31) <| dr_n
theorem tr_153_2 : dm_AllR (dm_Good dm_tb RX11 cX11_shareNodes 5 (some .int) false none) 32 [dm_lld 33 3, dm_push 36 (.long 2), dm_no, dm_no, dm_lq 37 (fun x y => x / y), dm_inv 40 153 2 8, dm_no, dm_no, dm_ii 41 (fun x y => x + y), dm_ret .int] := dr_c (dg_lload_n (k := 3) rfl dX11_shareNodes_32) <| dr_c (dg_ldc2 wd_931 dX11_shareNodes_33) <| dr_c (dg_no) <| dr_c (dg_no) <| dr_c (dg_ldiv dX11_shareNodes_36) <| dr_c (dg_inv dX11_shareNodes_37 mo_153 rfl rfl wd_923 wd_925 wd_17 pd_153) <| dr_c (dg_no) <| dr_c (dg_no) <| dr_c (dg_iadd dX11_shareNodes_40) <| dr_c (dg_ret dX11_shareNodes_41) <| dr_n
theorem tk_153 : dm_AllC (dm_Good dm_tb RX11 cX11_shareNodes 5 (some .int) false none) 0 cd_153 := dc_c (by decide) tr_153_0 <| dc_c (by decide) tr_153_1 <| dc_c (by decide) tr_153_2 <| dc_n
theorem dX11_cut_0 : decode cX11_cut 0 = .ok (.aload_n 0, 1) := by decide +kernel
theorem dX11_cut_1 : decode cX11_cut 1 = .ok (.iconst 0, 1) := by decide +kernel
theorem dX11_cut_2 : decode cX11_cut 2 = .ok (.putfield 183, 3) := by decide +kernel
theorem dX11_cut_5 : decode cX11_cut 5 = .ok (.aload_n 0, 1) := by decide +kernel
theorem dX11_cut_6 : decode cX11_cut 6 = .ok (.getfield 26, 3) := by decide +kernel
theorem dX11_cut_9 : decode cX11_cut 9 = .ok (.iload_n 1, 1) := by decide +kernel
theorem dX11_cut_10 : decode cX11_cut 10 = .ok (.iaload, 1) := by decide +kernel
theorem dX11_cut_11 : decode cX11_cut 11 = .ok (.istore 6, 2) := by decide +kernel
theorem dX11_cut_13 : decode cX11_cut 13 = .ok (.iload 6, 2) := by decide +kernel
theorem dX11_cut_15 : decode cX11_cut 15 = .ok (.aload_n 0, 1) := by decide +kernel
theorem dX11_cut_16 : decode cX11_cut 16 = .ok (.getfield 26, 3) := by decide +kernel
theorem dX11_cut_19 : decode cX11_cut 19 = .ok (.iload_n 1, 1) := by decide +kernel
theorem dX11_cut_20 : decode cX11_cut 20 = .ok (.iconst 1, 1) := by decide +kernel
theorem dX11_cut_21 : decode cX11_cut 21 = .ok (.iadd, 1) := by decide +kernel
theorem dX11_cut_22 : decode cX11_cut 22 = .ok (.iaload, 1) := by decide +kernel
theorem dX11_cut_23 : decode cX11_cut 23 = .ok (.if_icmp .ge 104, 3) := by decide +kernel
theorem dX11_cut_26 : decode cX11_cut 26 = .ok (.aload_n 0, 1) := by decide +kernel
theorem dX11_cut_27 : decode cX11_cut 27 = .ok (.getfield 17, 3) := by decide +kernel
theorem dX11_cut_30 : decode cX11_cut 30 = .ok (.iload 6, 2) := by decide +kernel
theorem dX11_cut_32 : decode cX11_cut 32 = .ok (.laload, 1) := by decide +kernel
theorem dX11_cut_33 : decode cX11_cut 33 = .ok (.lload_n 2, 1) := by decide +kernel
theorem dX11_cut_34 : decode cX11_cut 34 = .ok (.lcmp, 1) := by decide +kernel
theorem dX11_cut_35 : decode cX11_cut 35 = .ok (.ifCond .ge 7, 3) := by decide +kernel
theorem dX11_cut_38 : decode cX11_cut 38 = .ok (.lload_n 2, 1) := by decide +kernel
theorem dX11_cut_39 : decode cX11_cut 39 = .ok (.goto 10, 3) := by decide +kernel
theorem dX11_cut_42 : decode cX11_cut 42 = .ok (.aload_n 0, 1) := by decide +kernel
theorem dX11_cut_43 : decode cX11_cut 43 = .ok (.getfield 17, 3) := by decide +kernel
theorem dX11_cut_46 : decode cX11_cut 46 = .ok (.iload 6, 2) := by decide +kernel
theorem dX11_cut_48 : decode cX11_cut 48 = .ok (.laload, 1) := by decide +kernel
theorem dX11_cut_49 : decode cX11_cut 49 = .ok (.lstore 7, 2) := by decide +kernel
theorem dX11_cut_51 : decode cX11_cut 51 = .ok (.aload_n 0, 1) := by decide +kernel
theorem dX11_cut_52 : decode cX11_cut 52 = .ok (.getfield 20, 3) := by decide +kernel
theorem dX11_cut_55 : decode cX11_cut 55 = .ok (.iload 6, 2) := by decide +kernel
theorem dX11_cut_57 : decode cX11_cut 57 = .ok (.laload, 1) := by decide +kernel
theorem dX11_cut_58 : decode cX11_cut 58 = .ok (.lload 4, 2) := by decide +kernel
theorem dX11_cut_60 : decode cX11_cut 60 = .ok (.lcmp, 1) := by decide +kernel
theorem dX11_cut_61 : decode cX11_cut 61 = .ok (.ifCond .le 8, 3) := by decide +kernel
theorem dX11_cut_64 : decode cX11_cut 64 = .ok (.lload 4, 2) := by decide +kernel
theorem dX11_cut_66 : decode cX11_cut 66 = .ok (.goto 10, 3) := by decide +kernel
theorem dX11_cut_69 : decode cX11_cut 69 = .ok (.aload_n 0, 1) := by decide +kernel
theorem dX11_cut_70 : decode cX11_cut 70 = .ok (.getfield 20, 3) := by decide +kernel
theorem dX11_cut_73 : decode cX11_cut 73 = .ok (.iload 6, 2) := by decide +kernel
theorem dX11_cut_75 : decode cX11_cut 75 = .ok (.laload, 1) := by decide +kernel
theorem dX11_cut_76 : decode cX11_cut 76 = .ok (.lstore 9, 2) := by decide +kernel
theorem dX11_cut_78 : decode cX11_cut 78 = .ok (.lload 7, 2) := by decide +kernel
theorem dX11_cut_80 : decode cX11_cut 80 = .ok (.lload 9, 2) := by decide +kernel
theorem dX11_cut_82 : decode cX11_cut 82 = .ok (.lcmp, 1) := by decide +kernel
theorem dX11_cut_83 : decode cX11_cut 83 = .ok (.ifCond .lt 6, 3) := by decide +kernel
theorem dX11_cut_86 : decode cX11_cut 86 = .ok (.goto 35, 3) := by decide +kernel
theorem dX11_cut_89 : decode cX11_cut 89 = .ok (.aload_n 0, 1) := by decide +kernel
theorem dX11_cut_90 : decode cX11_cut 90 = .ok (.getfield 95, 3) := by decide +kernel
theorem dX11_cut_93 : decode cX11_cut 93 = .ok (.aload_n 0, 1) := by decide +kernel
theorem dX11_cut_94 : decode cX11_cut 94 = .ok (.getfield 183, 3) := by decide +kernel
theorem dX11_cut_97 : decode cX11_cut 97 = .ok (.lload 7, 2) := by decide +kernel
theorem dX11_cut_99 : decode cX11_cut 99 = .ok (.lastore, 1) := by decide +kernel
theorem dX11_cut_100 : decode cX11_cut 100 = .ok (.aload_n 0, 1) := by decide +kernel
theorem dX11_cut_101 : decode cX11_cut 101 = .ok (.getfield 98, 3) := by decide +kernel
theorem dX11_cut_104 : decode cX11_cut 104 = .ok (.aload_n 0, 1) := by decide +kernel
theorem dX11_cut_105 : decode cX11_cut 105 = .ok (.getfield 183, 3) := by decide +kernel
theorem dX11_cut_108 : decode cX11_cut 108 = .ok (.lload 9, 2) := by decide +kernel
theorem dX11_cut_110 : decode cX11_cut 110 = .ok (.lastore, 1) := by decide +kernel
theorem dX11_cut_111 : decode cX11_cut 111 = .ok (.aload_n 0, 1) := by decide +kernel
theorem dX11_cut_112 : decode cX11_cut 112 = .ok (.dup, 1) := by decide +kernel
theorem dX11_cut_113 : decode cX11_cut 113 = .ok (.getfield 183, 3) := by decide +kernel
theorem dX11_cut_116 : decode cX11_cut 116 = .ok (.iconst 1, 1) := by decide +kernel
theorem dX11_cut_117 : decode cX11_cut 117 = .ok (.iadd, 1) := by decide +kernel
theorem dX11_cut_118 : decode cX11_cut 118 = .ok (.putfield 183, 3) := by decide +kernel
theorem dX11_cut_121 : decode cX11_cut 121 = .ok (.iinc 6 1, 3) := by decide +kernel
theorem dX11_cut_124 : decode cX11_cut 124 = .ok (.goto (-111), 3) := by decide +kernel
theorem dX11_cut_127 : decode cX11_cut 127 = .ok (.return_, 1) := by decide +kernel
def cd_154 : dm_Code := [[dm_ald 1 0, dm_push 2 (.int 0), dm_putf 5 8 34 .int, dm_no, dm_no, dm_ald 6 0, dm_getf 9 8 5, dm_no, dm_no, dm_ild 10 1, dm_iald 11, dm_ist 13 6, dm_no, dm_ild 15 6, dm_no, dm_ald 16 0],
  [dm_getf 19 8 5, dm_no, dm_no, dm_ild 20 1, dm_push 21 (.int 1), dm_ii 22 (fun x y => x + y), dm_iald 23, dm_ic_ge 26 127, dm_no, dm_no, dm_ald 27 0, dm_getf 30 8 2, dm_no, dm_no, dm_ild 32 6, dm_no],
  [dm_lald 33, dm_lld 34 2, dm_lc 35, dm_if_ge 38 42, dm_no, dm_no, dm_lld 39 2, dm_goto 49, dm_no, dm_no, dm_ald 43 0, dm_getf 46 8 2, dm_no, dm_no, dm_ild 48 6, dm_no],
  [dm_lald 49, dm_lst 51 7, dm_no, dm_ald 52 0, dm_getf 55 8 3, dm_no, dm_no, dm_ild 57 6, dm_no, dm_lald 58, dm_lld 60 4, dm_no, dm_lc 61, dm_if_le 64 69, dm_no, dm_no],
  [dm_lld 66 4, dm_no, dm_goto 76, dm_no, dm_no, dm_ald 70 0, dm_getf 73 8 3, dm_no, dm_no, dm_ild 75 6, dm_no, dm_lald 76, dm_lst 78 9, dm_no, dm_lld 80 7, dm_no],
  [dm_lld 82 9, dm_no, dm_lc 83, dm_if_lt 86 89, dm_no, dm_no, dm_goto 121, dm_no, dm_no, dm_ald 90 0, dm_getf 93 8 32, dm_no, dm_no, dm_ald 94 0, dm_getf 97 8 34, dm_no],
  [dm_no, dm_lld 99 7, dm_no, dm_last 100, dm_ald 101 0, dm_getf 104 8 33, dm_no, dm_no, dm_ald 105 0, dm_getf 108 8 34, dm_no, dm_no, dm_lld 110 9, dm_no, dm_last 111, dm_ald 112 0],
  [dm_dup 113, dm_getf 116 8 34, dm_no, dm_no, dm_push 117 (.int 1), dm_ii 118 (fun x y => x + y), dm_putf 121 8 34 .int, dm_no, dm_no, dm_iinc 124 6 1, dm_no, dm_no, dm_goto 13, dm_no, dm_no, dm_vret]]
theorem tr_154_0 : dm_AllR (dm_Good dm_tb RX11 cX11_cut 11 none false none) 0 [dm_ald 1 0, dm_push 2 (.int 0), dm_putf 5 8 34 .int, dm_no, dm_no, dm_ald 6 0, dm_getf 9 8 5, dm_no, dm_no, dm_ild 10 1, dm_iald 11, dm_ist 13 6, dm_no, dm_ild 15 6, dm_no, dm_ald 16 0] := dr_c (dg_aload_n (k := 0) rfl dX11_cut_0) <| dr_c (dg_iconst (by decide) dX11_cut_1) <| dr_c (dg_putf (T := TX11) (C := RX11) (N := 68) dX11_cut_2 rfl (by decide) iw_X11 tyX11_ok nmX11 wd_982 rfl rfl) <| dr_c (dg_no) <| dr_c (dg_no) <| dr_c (dg_aload_n (k := 0) rfl dX11_cut_5) <| dr_c (dg_getf (T := TX11) (C := RX11) (N := 68) dX11_cut_6 rfl (by decide) iw_X11 wd_953) <| dr_c (dg_no) <| dr_c (dg_no) <| dr_c (dg_iload_n (k := 1) rfl dX11_cut_9) <| dr_c (dg_iald dX11_cut_10) <| dr_c (dg_istore (by decide) dX11_cut_11) <| dr_c (dg_no) <| dr_c (dg_iload dX11_cut_13) <| dr_c (dg_no) <| dr_c (dg_aload_n (k := 0) rfl dX11_cut_15) <| dr_n
theorem tr_154_1 : dm_AllR (dm_Good dm_tb RX11 cX11_cut 11 none false none) 16 [dm_getf 19 8 5, dm_no, dm_no, dm_ild 20 1, dm_push 21 (.int 1), dm_ii 22 (fun x y => x + y), dm_iald 23, dm_ic_ge 26 127, dm_no, dm_no, dm_ald 27 0, dm_getf 30 8 2, dm_no, dm_no, dm_ild 32 6, dm_no] := dr_c (dg_getf (T := TX11) (C := RX11) (N := 68) dX11_cut_16 rfl (by decide) iw_X11 wd_953) <| dr_c (dg_no) <| dr_c (dg_no) <| dr_c (dg_iload_n (k := 1) rfl dX11_cut_19) <| dr_c (dg_iconst (by decide) dX11_cut_20) <| dr_c (dg_iadd dX11_cut_21) <| dr_c (dg_iald dX11_cut_22) <| dr_c (dg_ic_ge (by decide) dX11_cut_23) <| dr_c (dg_no) <| dr_c (dg_no) <| dr_c (dg_aload_n (k := 0) rfl dX11_cut_26) <| dr_c (dg_getf (T := TX11) (C := RX11) (N := 68) dX11_cut_27 rfl (by decide) iw_X11 wd_950) <| dr_c (dg_no) <| dr_c (dg_no) <| dr_c (dg_iload dX11_cut_30) <| dr_c (dg_no) <| dr_n
theorem tr_154_2 : dm_AllR (dm_Good dm_tb RX11 cX11_cut 11 none false none) 32 [dm_lald 33, dm_lld 34 2, dm_lc 35, dm_if_ge 38 42, dm_no, dm_no, dm_lld 39 2, dm_goto 49, dm_no, dm_no, dm_ald 43 0, dm_getf 46 8 2, dm_no, dm_no, dm_ild 48 6, dm_no] := dr_c (dg_lald dX11_cut_32) <| dr_c (dg_lload_n (k := 2) rfl dX11_cut_33) <| dr_c (dg_lcmp dX11_cut_34) <| dr_c (dg_if_ge (by decide) dX11_cut_35) <| dr_c (dg_no) <| dr_c (dg_no) <| dr_c (dg_lload_n (k := 2) rfl dX11_cut_38) <| dr_c (dg_goto (by decide) dX11_cut_39) <| dr_c (dg_no) <| dr_c (dg_no) <| dr_c (dg_aload_n (k := 0) rfl dX11_cut_42) <| dr_c (dg_getf (T := TX11) (C := RX11) (N := 68) dX11_cut_43 rfl (by decide) iw_X11 wd_950) <| dr_c (dg_no) <| dr_c (dg_no) <| dr_c (dg_iload dX11_cut_46) <| dr_c (dg_no) <| dr_n
theorem tr_154_3 : dm_AllR (dm_Good dm_tb RX11 cX11_cut 11 none false none) 48 [dm_lald 49, dm_lst 51 7, dm_no, dm_ald 52 0, dm_getf 55 8 3, dm_no, dm_no, dm_ild 57 6, dm_no, dm_lald 58, dm_lld 60 4, dm_no, dm_lc 61, dm_if_le 64 69, dm_no, dm_no] := dr_c (dg_lald dX11_cut_48) <| dr_c (dg_lstore (by decide) dX11_cut_49) <| dr_c (dg_no) <| dr_c (dg_aload_n (k := 0) rfl dX11_cut_51) <| dr_c (dg_getf (T := TX11) (C := RX11) (N := 68) dX11_cut_52 rfl (by decide) iw_X11 wd_951) <| dr_c (dg_no) <| dr_c (dg_no) <| dr_c (dg_iload dX11_cut_55) <| dr_c (dg_no) <| dr_c (dg_lald dX11_cut_57) <| dr_c (dg_lload dX11_cut_58) <| dr_c (dg_no) <| dr_c (dg_lcmp dX11_cut_60) <| dr_c (dg_if_le (by decide) dX11_cut_61) <| dr_c (dg_no) <| dr_c (dg_no) <| dr_n
theorem tr_154_4 : dm_AllR (dm_Good dm_tb RX11 cX11_cut 11 none false none) 64 [dm_lld 66 4, dm_no, dm_goto 76, dm_no, dm_no, dm_ald 70 0, dm_getf 73 8 3, dm_no, dm_no, dm_ild 75 6, dm_no, dm_lald 76, dm_lst 78 9, dm_no, dm_lld 80 7, dm_no] := dr_c (dg_lload dX11_cut_64) <| dr_c (dg_no) <| dr_c (dg_goto (by decide) dX11_cut_66) <| dr_c (dg_no) <| dr_c (dg_no) <| dr_c (dg_aload_n (k := 0) rfl dX11_cut_69) <| dr_c (dg_getf (T := TX11) (C := RX11) (N := 68) dX11_cut_70 rfl (by decide) iw_X11 wd_951) <| dr_c (dg_no) <| dr_c (dg_no) <| dr_c (dg_iload dX11_cut_73) <| dr_c (dg_no) <| dr_c (dg_lald dX11_cut_75) <| dr_c (dg_lstore (by decide) dX11_cut_76) <| dr_c (dg_no) <| dr_c (dg_lload dX11_cut_78) <| dr_c (dg_no) <| dr_n
theorem tr_154_5 : dm_AllR (dm_Good dm_tb RX11 cX11_cut 11 none false none) 80 [dm_lld 82 9, dm_no, dm_lc 83, dm_if_lt 86 89, dm_no, dm_no, dm_goto 121, dm_no, dm_no, dm_ald 90 0, dm_getf 93 8 32, dm_no, dm_no, dm_ald 94 0, dm_getf 97 8 34, dm_no] := dr_c (dg_lload dX11_cut_80) <| dr_c (dg_no) <| dr_c (dg_lcmp dX11_cut_82) <| dr_c (dg_if_lt (by decide) dX11_cut_83) <| dr_c (dg_no) <| dr_c (dg_no) <| dr_c (dg_goto (by decide) dX11_cut_86) <| dr_c (dg_no) <| dr_c (dg_no) <| dr_c (dg_aload_n (k := 0) rfl dX11_cut_89) <| dr_c (dg_getf (T := TX11) (C := RX11) (N := 68) dX11_cut_90 rfl (by decide) iw_X11 wd_980) <| dr_c (dg_no) <| dr_c (dg_no) <| dr_c (dg_aload_n (k := 0) rfl dX11_cut_93) <| dr_c (dg_getf (T := TX11) (C := RX11) (N := 68) dX11_cut_94 rfl (by decide) iw_X11 wd_982) <| dr_c (dg_no) <| dr_n
theorem tr_154_6 : dm_AllR (dm_Good dm_tb RX11 cX11_cut 11 none false none) 96 [dm_no, dm_lld 99 7, dm_no, dm_last 100, dm_ald 101 0, dm_getf 104 8 33, dm_no, dm_no, dm_ald 105 0, dm_getf 108 8 34, dm_no, dm_no, dm_lld 110 9, dm_no, dm_last 111, dm_ald 112 0] := dr_c (dg_no) <| dr_c (dg_lload dX11_cut_97) <| dr_c (dg_no) <| dr_c (dg_last dX11_cut_99) <| dr_c (dg_aload_n (k := 0) rfl dX11_cut_100) <| dr_c (dg_getf (T := TX11) (C := RX11) (N := 68) dX11_cut_101 rfl (by decide) iw_X11 wd_981) <| dr_c (dg_no) <| dr_c (dg_no) <| dr_c (dg_aload_n (k := 0) rfl dX11_cut_104) <| dr_c (dg_getf (T := TX11) (C := RX11) (N := 68) dX11_cut_105 rfl (by decide) iw_X11 wd_982) <| dr_c (dg_no) <| dr_c (dg_no) <| dr_c (dg_lload dX11_cut_108) <| dr_c (dg_no) <| dr_c (dg_last dX11_cut_110) <| dr_c (dg_aload_n (k := 0) rfl dX11_cut_111) <| dr_n
theorem tr_154_7 : dm_AllR (dm_Good dm_tb RX11 cX11_cut 11 none false none) 112 [dm_dup 113, dm_getf 116 8 34, dm_no, dm_no, dm_push 117 (.int 1), dm_ii 118 (fun x y => x + y), dm_putf 121 8 34 .int, dm_no, dm_no, dm_iinc 124 6 1, dm_no, dm_no, dm_goto 13, dm_no, dm_no, dm_vret] := dr_c (dg_dup dX11_cut_112) <| dr_c (dg_getf (T := TX11) (C := RX11) (N := 68) dX11_cut_113 rfl (by decide) iw_X11 wd_982) <| dr_c (dg_no) <| dr_c (dg_no) <| dr_c (dg_iconst (by decide) dX11_cut_116) <| dr_c (dg_iadd dX11_cut_117) <| dr_c (dg_putf (T := TX11) (C := RX11) (N := 68) dX11_cut_118 rfl (by decide) iw_X11 tyX11_ok nmX11 wd_982 rfl rfl) <| dr_c (dg_no) <| dr_c (dg_no) <| dr_c (dg_iinc (by decide) (by decide) dX11_cut_121) <| dr_c (dg_no) <| dr_c (dg_no) <| dr_c (dg_goto (by decide) dX11_cut_124) <| dr_c (dg_no) <| dr_c (dg_no) <| dr_c (dg_vret dX11_cut_127) <| dr_n
theorem tk_154 : dm_AllC (dm_Good dm_tb RX11 cX11_cut 11 none false none) 0 cd_154 := dc_c (by decide) tr_154_0 <| dc_c (by decide) tr_154_1 <| dc_c (by decide) tr_154_2 <| dc_c (by decide) tr_154_3 <| dc_c (by decide) tr_154_4 <| dc_c (by decide) tr_154_5 <| dc_c (by decide) tr_154_6 <| dc_c (by decide) tr_154_7 <| dc_n
theorem dX11_note_0 : decode cX11_note 0 = .ok (.aload_n 0, 1) := by decide +kernel
theorem dX11_note_1 : decode cX11_note 1 = .ok (.getfield 59, 3) := by decide +kernel
theorem dX11_note_4 : decode cX11_note 4 = .ok (.aload_n 0, 1) := by decide +kernel
theorem dX11_note_5 : decode cX11_note 5 = .ok (.getfield 177, 3) := by decide +kernel
theorem dX11_note_8 : decode cX11_note 8 = .ok (.aload_n 0, 1) := by decide +kernel
theorem dX11_note_9 : decode cX11_note 9 = .ok (.getfield 168, 3) := by decide +kernel
theorem dX11_note_12 : decode cX11_note 12 = .ok (.i2s, 1) := by decide +kernel
theorem dX11_note_13 : decode cX11_note 13 = .ok (.sastore, 1) := by decide +kernel
theorem dX11_note_14 : decode cX11_note 14 = .ok (.aload_n 0, 1) := by decide +kernel
theorem dX11_note_15 : decode cX11_note 15 = .ok (.getfield 62, 3) := by decide +kernel
theorem dX11_note_18 : decode cX11_note 18 = .ok (.aload_n 0, 1) := by decide +kernel
theorem dX11_note_19 : decode cX11_note 19 = .ok (.getfield 177, 3) := by decide +kernel
theorem dX11_note_22 : decode cX11_note 22 = .ok (.aload_n 0, 1) := by decide +kernel
theorem dX11_note_23 : decode cX11_note 23 = .ok (.getfield 171, 3) := by decide +kernel
theorem dX11_note_26 : decode cX11_note 26 = .ok (.i2s, 1) := by decide +kernel
theorem dX11_note_27 : decode cX11_note 27 = .ok (.sastore, 1) := by decide +kernel
theorem dX11_note_28 : decode cX11_note 28 = .ok (.aload_n 0, 1) := by decide +kernel
theorem dX11_note_29 : decode cX11_note 29 = .ok (.getfield 65, 3) := by decide +kernel
theorem dX11_note_32 : decode cX11_note 32 = .ok (.aload_n 0, 1) := by decide +kernel
theorem dX11_note_33 : decode cX11_note 33 = .ok (.getfield 177, 3) := by decide +kernel
theorem dX11_note_36 : decode cX11_note 36 = .ok (.iload_n 1, 1) := by decide +kernel
theorem dX11_note_37 : decode cX11_note 37 = .ok (.i2s, 1) := by decide +kernel
theorem dX11_note_38 : decode cX11_note 38 = .ok (.sastore, 1) := by decide +kernel
theorem dX11_note_39 : decode cX11_note 39 = .ok (.aload_n 0, 1) := by decide +kernel
theorem dX11_note_40 : decode cX11_note 40 = .ok (.getfield 68, 3) := by decide +kernel
theorem dX11_note_43 : decode cX11_note 43 = .ok (.aload_n 0, 1) := by decide +kernel
theorem dX11_note_44 : decode cX11_note 44 = .ok (.getfield 177, 3) := by decide +kernel
theorem dX11_note_47 : decode cX11_note 47 = .ok (.iload_n 2, 1) := by decide +kernel
theorem dX11_note_48 : decode cX11_note 48 = .ok (.i2s, 1) := by decide +kernel
theorem dX11_note_49 : decode cX11_note 49 = .ok (.sastore, 1) := by decide +kernel
theorem dX11_note_50 : decode cX11_note 50 = .ok (.aload_n 0, 1) := by decide +kernel
theorem dX11_note_51 : decode cX11_note 51 = .ok (.getfield 71, 3) := by decide +kernel
theorem dX11_note_54 : decode cX11_note 54 = .ok (.aload_n 0, 1) := by decide +kernel
theorem dX11_note_55 : decode cX11_note 55 = .ok (.getfield 177, 3) := by decide +kernel
theorem dX11_note_58 : decode cX11_note 58 = .ok (.iload_n 1, 1) := by decide +kernel
theorem dX11_note_59 : decode cX11_note 59 = .ok (.iconst (-1), 1) := by decide +kernel
theorem dX11_note_60 : decode cX11_note 60 = .ok (.if_icmp .eq 16, 3) := by decide +kernel
theorem dX11_note_63 : decode cX11_note 63 = .ok (.aload_n 0, 1) := by decide +kernel
theorem dX11_note_64 : decode cX11_note 64 = .ok (.getfield 29, 3) := by decide +kernel
theorem dX11_note_67 : decode cX11_note 67 = .ok (.iload_n 1, 1) := by decide +kernel
theorem dX11_note_68 : decode cX11_note 68 = .ok (.baload, 1) := by decide +kernel
theorem dX11_note_69 : decode cX11_note 69 = .ok (.ifCond .eq 7, 3) := by decide +kernel
theorem dX11_note_72 : decode cX11_note 72 = .ok (.iconst 1, 1) := by decide +kernel
theorem dX11_note_73 : decode cX11_note 73 = .ok (.goto 4, 3) := by decide +kernel
theorem dX11_note_76 : decode cX11_note 76 = .ok (.iconst 0, 1) := by decide +kernel
theorem dX11_note_77 : decode cX11_note 77 = .ok (.bastore, 1) := by decide +kernel
theorem dX11_note_78 : decode cX11_note 78 = .ok (.aload_n 0, 1) := by decide +kernel
theorem dX11_note_79 : decode cX11_note 79 = .ok (.getfield 74, 3) := by decide +kernel
theorem dX11_note_82 : decode cX11_note 82 = .ok (.aload_n 0, 1) := by decide +kernel
theorem dX11_note_83 : decode cX11_note 83 = .ok (.getfield 177, 3) := by decide +kernel
theorem dX11_note_86 : decode cX11_note 86 = .ok (.iload_n 2, 1) := by decide +kernel
theorem dX11_note_87 : decode cX11_note 87 = .ok (.iconst (-1), 1) := by decide +kernel
theorem dX11_note_88 : decode cX11_note 88 = .ok (.if_icmp .eq 16, 3) := by decide +kernel
theorem dX11_note_91 : decode cX11_note 91 = .ok (.aload_n 0, 1) := by decide +kernel
theorem dX11_note_92 : decode cX11_note 92 = .ok (.getfield 29, 3) := by decide +kernel
theorem dX11_note_95 : decode cX11_note 95 = .ok (.iload_n 2, 1) := by decide +kernel
theorem dX11_note_96 : decode cX11_note 96 = .ok (.baload, 1) := by decide +kernel
theorem dX11_note_97 : decode cX11_note 97 = .ok (.ifCond .eq 7, 3) := by decide +kernel
theorem dX11_note_100 : decode cX11_note 100 = .ok (.iconst 1, 1) := by decide +kernel
theorem dX11_note_101 : decode cX11_note 101 = .ok (.goto 4, 3) := by decide +kernel
theorem dX11_note_104 : decode cX11_note 104 = .ok (.iconst 0, 1) := by decide +kernel
theorem dX11_note_105 : decode cX11_note 105 = .ok (.bastore, 1) := by decide +kernel
theorem dX11_note_106 : decode cX11_note 106 = .ok (.aload_n 0, 1) := by decide +kernel
theorem dX11_note_107 : decode cX11_note 107 = .ok (.getfield 77, 3) := by decide +kernel
theorem dX11_note_110 : decode cX11_note 110 = .ok (.aload_n 0, 1) := by decide +kernel
theorem dX11_note_111 : decode cX11_note 111 = .ok (.getfield 177, 3) := by decide +kernel
theorem dX11_note_114 : decode cX11_note 114 = .ok (.iconst (-1), 1) := by decide +kernel
theorem dX11_note_115 : decode cX11_note 115 = .ok (.sastore, 1) := by decide +kernel
theorem dX11_note_116 : decode cX11_note 116 = .ok (.aload_n 0, 1) := by decide +kernel
theorem dX11_note_117 : decode cX11_note 117 = .ok (.getfield 80, 3) := by decide +kernel
theorem dX11_note_120 : decode cX11_note 120 = .ok (.aload_n 0, 1) := by decide +kernel
theorem dX11_note_121 : decode cX11_note 121 = .ok (.getfield 177, 3) := by decide +kernel
theorem dX11_note_124 : decode cX11_note 124 = .ok (.iconst (-1), 1) := by decide +kernel
theorem dX11_note_125 : decode cX11_note 125 = .ok (.sastore, 1) := by decide +kernel
theorem dX11_note_126 : decode cX11_note 126 = .ok (.aload_n 0, 1) := by decide +kernel
theorem dX11_note_127 : decode cX11_note 127 = .ok (.dup, 1) := by decide +kernel
theorem dX11_note_128 : decode cX11_note 128 = .ok (.getfield 177, 3) := by decide +kernel
theorem dX11_note_131 : decode cX11_note 131 = .ok (.iconst 1, 1) := by decide +kernel
theorem dX11_note_132 : decode cX11_note 132 = .ok (.iadd, 1) := by decide +kernel
theorem dX11_note_133 : decode cX11_note 133 = .ok (.putfield 177, 3) := by decide +kernel
theorem dX11_note_136 : decode cX11_note 136 = .ok (.return_, 1) := by decide +kernel
def cd_155 : dm_Code := [[dm_ald 1 0, dm_getf 4 8 18, dm_no, dm_no, dm_ald 5 0, dm_getf 8 8 26, dm_no, dm_no, dm_ald 9 0, dm_getf 12 8 15, dm_no, dm_no, dm_i1 13 (fun x => .int x.toInt16.toInt32), dm_sast 14, dm_ald 15 0, dm_getf 18 8 19],
  [dm_no, dm_no, dm_ald 19 0, dm_getf 22 8 26, dm_no, dm_no, dm_ald 23 0, dm_getf 26 8 16, dm_no, dm_no, dm_i1 27 (fun x => .int x.toInt16.toInt32), dm_sast 28, dm_ald 29 0, dm_getf 32 8 20, dm_no, dm_no],
  [dm_ald 33 0, dm_getf 36 8 26, dm_no, dm_no, dm_ild 37 1, dm_i1 38 (fun x => .int x.toInt16.toInt32), dm_sast 39, dm_ald 40 0, dm_getf 43 8 21, dm_no, dm_no, dm_ald 44 0, dm_getf 47 8 26, dm_no, dm_no, dm_ild 48 2],
  [dm_i1 49 (fun x => .int x.toInt16.toInt32), dm_sast 50, dm_ald 51 0, dm_getf 54 8 22, dm_no, dm_no, dm_ald 55 0, dm_getf 58 8 26, dm_no, dm_no, dm_ild 59 1, dm_push 60 (.int (-1)), dm_ic_eq 63 76, dm_no, dm_no, dm_ald 64 0],
  [dm_getf 67 8 6, dm_no, dm_no, dm_ild 68 1, dm_bald 69, dm_if_eq 72 76, dm_no, dm_no, dm_push 73 (.int 1), dm_goto 77, dm_no, dm_no, dm_push 77 (.int 0), dm_bast 78, dm_ald 79 0, dm_getf 82 8 23],
  [dm_no, dm_no, dm_ald 83 0, dm_getf 86 8 26, dm_no, dm_no, dm_ild 87 2, dm_push 88 (.int (-1)), dm_ic_eq 91 104, dm_no, dm_no, dm_ald 92 0, dm_getf 95 8 6, dm_no, dm_no, dm_ild 96 2],
  [dm_bald 97, dm_if_eq 100 104, dm_no, dm_no, dm_push 101 (.int 1), dm_goto 105, dm_no, dm_no, dm_push 105 (.int 0), dm_bast 106, dm_ald 107 0, dm_getf 110 8 24, dm_no, dm_no, dm_ald 111 0, dm_getf 114 8 26],
  [dm_no, dm_no, dm_push 115 (.int (-1)), dm_sast 116, dm_ald 117 0, dm_getf 120 8 25, dm_no, dm_no, dm_ald 121 0, dm_getf 124 8 26, dm_no, dm_no, dm_push 125 (.int (-1)), dm_sast 126, dm_ald 127 0, dm_dup 128],
  [dm_getf 131 8 26, dm_no, dm_no, dm_push 132 (.int 1), dm_ii 133 (fun x y => x + y), dm_putf 136 8 26 .int, dm_no, dm_no, dm_vret]]
theorem tr_155_0 : dm_AllR (dm_Good dm_tb RX11 cX11_note 3 none false none) 0 [dm_ald 1 0, dm_getf 4 8 18, dm_no, dm_no, dm_ald 5 0, dm_getf 8 8 26, dm_no, dm_no, dm_ald 9 0, dm_getf 12 8 15, dm_no, dm_no, dm_i1 13 (fun x => .int x.toInt16.toInt32), dm_sast 14, dm_ald 15 0, dm_getf 18 8 19] := dr_c (dg_aload_n (k := 0) rfl dX11_note_0) <| dr_c (dg_getf (T := TX11) (C := RX11) (N := 68) dX11_note_1 rfl (by decide) iw_X11 wd_966) <| dr_c (dg_no) <| dr_c (dg_no) <| dr_c (dg_aload_n (k := 0) rfl dX11_note_4) <| dr_c (dg_getf (T := TX11) (C := RX11) (N := 68) dX11_note_5 rfl (by decide) iw_X11 wd_974) <| dr_c (dg_no) <| dr_c (dg_no) <| dr_c (dg_aload_n (k := 0) rfl dX11_note_8) <| dr_c (dg_getf (T := TX11) (C := RX11) (N := 68) dX11_note_9 rfl (by decide) iw_X11 wd_963) <| dr_c (dg_no) <| dr_c (dg_no) <| dr_c (dg_i2s dX11_note_12) <| dr_c (dg_sast dX11_note_13) <| dr_c (dg_aload_n (k := 0) rfl dX11_note_14) <| dr_c (dg_getf (T := TX11) (C := RX11) (N := 68) dX11_note_15 rfl (by decide) iw_X11 wd_967) <| dr_n
theorem tr_155_1 : dm_AllR (dm_Good dm_tb RX11 cX11_note 3 none false none) 16 [dm_no, dm_no, dm_ald 19 0, dm_getf 22 8 26, dm_no, dm_no, dm_ald 23 0, dm_getf 26 8 16, dm_no, dm_no, dm_i1 27 (fun x => .int x.toInt16.toInt32), dm_sast 28, dm_ald 29 0, dm_getf 32 8 20, dm_no, dm_no] := dr_c (dg_no) <| dr_c (dg_no) <| dr_c (dg_aload_n (k := 0) rfl dX11_note_18) <| dr_c (dg_getf (T := TX11) (C := RX11) (N := 68) dX11_note_19 rfl (by decide) iw_X11 wd_974) <| dr_c (dg_no) <| dr_c (dg_no) <| dr_c (dg_aload_n (k := 0) rfl dX11_note_22) <| dr_c (dg_getf (T := TX11) (C := RX11) (N := 68) dX11_note_23 rfl (by decide) iw_X11 wd_964) <| dr_c (dg_no) <| dr_c (dg_no) <| dr_c (dg_i2s dX11_note_26) <| dr_c (dg_sast dX11_note_27) <| dr_c (dg_aload_n (k := 0) rfl dX11_note_28) <| dr_c (dg_getf (T := TX11) (C := RX11) (N := 68) dX11_note_29 rfl (by decide) iw_X11 wd_968) <| dr_c (dg_no) <| dr_c (dg_no) <| dr_n
theorem tr_155_2 : dm_AllR (dm_Good dm_tb RX11 cX11_note 3 none false none) 32 [dm_ald 33 0, dm_getf 36 8 26, dm_no, dm_no, dm_ild 37 1, dm_i1 38 (fun x => .int x.toInt16.toInt32), dm_sast 39, dm_ald 40 0, dm_getf 43 8 21, dm_no, dm_no, dm_ald 44 0, dm_getf 47 8 26, dm_no, dm_no, dm_ild 48 2] := dr_c (dg_aload_n (k := 0) rfl dX11_note_32) <| dr_c (dg_getf (T := TX11) (C := RX11) (N := 68) dX11_note_33 rfl (by decide) iw_X11 wd_974) <| dr_c (dg_no) <| dr_c (dg_no) <| dr_c (dg_iload_n (k := 1) rfl dX11_note_36) <| dr_c (dg_i2s dX11_note_37) <| dr_c (dg_sast dX11_note_38) <| dr_c (dg_aload_n (k := 0) rfl dX11_note_39) <| dr_c (dg_getf (T := TX11) (C := RX11) (N := 68) dX11_note_40 rfl (by decide) iw_X11 wd_969) <| dr_c (dg_no) <| dr_c (dg_no) <| dr_c (dg_aload_n (k := 0) rfl dX11_note_43) <| dr_c (dg_getf (T := TX11) (C := RX11) (N := 68) dX11_note_44 rfl (by decide) iw_X11 wd_974) <| dr_c (dg_no) <| dr_c (dg_no) <| dr_c (dg_iload_n (k := 2) rfl dX11_note_47) <| dr_n
theorem tr_155_3 : dm_AllR (dm_Good dm_tb RX11 cX11_note 3 none false none) 48 [dm_i1 49 (fun x => .int x.toInt16.toInt32), dm_sast 50, dm_ald 51 0, dm_getf 54 8 22, dm_no, dm_no, dm_ald 55 0, dm_getf 58 8 26, dm_no, dm_no, dm_ild 59 1, dm_push 60 (.int (-1)), dm_ic_eq 63 76, dm_no, dm_no, dm_ald 64 0] := dr_c (dg_i2s dX11_note_48) <| dr_c (dg_sast dX11_note_49) <| dr_c (dg_aload_n (k := 0) rfl dX11_note_50) <| dr_c (dg_getf (T := TX11) (C := RX11) (N := 68) dX11_note_51 rfl (by decide) iw_X11 wd_970) <| dr_c (dg_no) <| dr_c (dg_no) <| dr_c (dg_aload_n (k := 0) rfl dX11_note_54) <| dr_c (dg_getf (T := TX11) (C := RX11) (N := 68) dX11_note_55 rfl (by decide) iw_X11 wd_974) <| dr_c (dg_no) <| dr_c (dg_no) <| dr_c (dg_iload_n (k := 1) rfl dX11_note_58) <| dr_c (dg_iconst (by decide) dX11_note_59) <| dr_c (dg_ic_eq (by decide) dX11_note_60) <| dr_c (dg_no) <| dr_c (dg_no) <| dr_c (dg_aload_n (k := 0) rfl dX11_note_63) <| dr_n
theorem tr_155_4 : dm_AllR (dm_Good dm_tb RX11 cX11_note 3 none false none) 64 [dm_getf 67 8 6, dm_no, dm_no, dm_ild 68 1, dm_bald 69, dm_if_eq 72 76, dm_no, dm_no, dm_push 73 (.int 1), dm_goto 77, dm_no, dm_no, dm_push 77 (.int 0), dm_bast 78, dm_ald 79 0, dm_getf 82 8 23] := dr_c (dg_getf (T := TX11) (C := RX11) (N := 68) dX11_note_64 rfl (by decide) iw_X11 wd_954) <| dr_c (dg_no) <| dr_c (dg_no) <| dr_c (dg_iload_n (k := 1) rfl dX11_note_67) <| dr_c (dg_bald dX11_note_68) <| dr_c (dg_if_eq (by decide) dX11_note_69) <| dr_c (dg_no) <| dr_c (dg_no) <| dr_c (dg_iconst (by decide) dX11_note_72) <| dr_c (dg_goto (by decide) dX11_note_73) <| dr_c (dg_no) <| dr_c (dg_no) <| dr_c (dg_iconst (by decide) dX11_note_76) <| dr_c (dg_bast dX11_note_77) <| dr_c (dg_aload_n (k := 0) rfl dX11_note_78) <| dr_c (dg_getf (T := TX11) (C := RX11) (N := 68) dX11_note_79 rfl (by decide) iw_X11 wd_971) <| dr_n
theorem tr_155_5 : dm_AllR (dm_Good dm_tb RX11 cX11_note 3 none false none) 80 [dm_no, dm_no, dm_ald 83 0, dm_getf 86 8 26, dm_no, dm_no, dm_ild 87 2, dm_push 88 (.int (-1)), dm_ic_eq 91 104, dm_no, dm_no, dm_ald 92 0, dm_getf 95 8 6, dm_no, dm_no, dm_ild 96 2] := dr_c (dg_no) <| dr_c (dg_no) <| dr_c (dg_aload_n (k := 0) rfl dX11_note_82) <| dr_c (dg_getf (T := TX11) (C := RX11) (N := 68) dX11_note_83 rfl (by decide) iw_X11 wd_974) <| dr_c (dg_no) <| dr_c (dg_no) <| dr_c (dg_iload_n (k := 2) rfl dX11_note_86) <| dr_c (dg_iconst (by decide) dX11_note_87) <| dr_c (dg_ic_eq (by decide) dX11_note_88) <| dr_c (dg_no) <| dr_c (dg_no) <| dr_c (dg_aload_n (k := 0) rfl dX11_note_91) <| dr_c (dg_getf (T := TX11) (C := RX11) (N := 68) dX11_note_92 rfl (by decide) iw_X11 wd_954) <| dr_c (dg_no) <| dr_c (dg_no) <| dr_c (dg_iload_n (k := 2) rfl dX11_note_95) <| dr_n
theorem tr_155_6 : dm_AllR (dm_Good dm_tb RX11 cX11_note 3 none false none) 96 [dm_bald 97, dm_if_eq 100 104, dm_no, dm_no, dm_push 101 (.int 1), dm_goto 105, dm_no, dm_no, dm_push 105 (.int 0), dm_bast 106, dm_ald 107 0, dm_getf 110 8 24, dm_no, dm_no, dm_ald 111 0, dm_getf 114 8 26] := dr_c (dg_bald dX11_note_96) <| dr_c (dg_if_eq (by decide) dX11_note_97) <| dr_c (dg_no) <| dr_c (dg_no) <| dr_c (dg_iconst (by decide) dX11_note_100) <| dr_c (dg_goto (by decide) dX11_note_101) <| dr_c (dg_no) <| dr_c (dg_no) <| dr_c (dg_iconst (by decide) dX11_note_104) <| dr_c (dg_bast dX11_note_105) <| dr_c (dg_aload_n (k := 0) rfl dX11_note_106) <| dr_c (dg_getf (T := TX11) (C := RX11) (N := 68) dX11_note_107 rfl (by decide) iw_X11 wd_972) <| dr_c (dg_no) <| dr_c (dg_no) <| dr_c (dg_aload_n (k := 0) rfl dX11_note_110) <| dr_c (dg_getf (T := TX11) (C := RX11) (N := 68) dX11_note_111 rfl (by decide) iw_X11 wd_974) <| dr_n
theorem tr_155_7 : dm_AllR (dm_Good dm_tb RX11 cX11_note 3 none false none) 112 [dm_no, dm_no, dm_push 115 (.int (-1)), dm_sast 116, dm_ald 117 0, dm_getf 120 8 25, dm_no, dm_no, dm_ald 121 0, dm_getf 124 8 26, dm_no, dm_no, dm_push 125 (.int (-1)), dm_sast 126, dm_ald 127 0, dm_dup 128] := dr_c (dg_no) <| dr_c (dg_no) <| dr_c (dg_iconst (by decide) dX11_note_114) <| dr_c (dg_sast dX11_note_115) <| dr_c (dg_aload_n (k := 0) rfl dX11_note_116) <| dr_c (dg_getf (T := TX11) (C := RX11) (N := 68) dX11_note_117 rfl (by decide) iw_X11 wd_973) <| dr_c (dg_no) <| dr_c (dg_no) <| dr_c (dg_aload_n (k := 0) rfl dX11_note_120) <| dr_c (dg_getf (T := TX11) (C := RX11) (N := 68) dX11_note_121 rfl (by decide) iw_X11 wd_974) <| dr_c (dg_no) <| dr_c (dg_no) <| dr_c (dg_iconst (by decide) dX11_note_124) <| dr_c (dg_sast dX11_note_125) <| dr_c (dg_aload_n (k := 0) rfl dX11_note_126) <| dr_c (dg_dup dX11_note_127) <| dr_n
theorem tr_155_8 : dm_AllR (dm_Good dm_tb RX11 cX11_note 3 none false none) 128 [dm_getf 131 8 26, dm_no, dm_no, dm_push 132 (.int 1), dm_ii 133 (fun x y => x + y), dm_putf 136 8 26 .int, dm_no, dm_no, dm_vret] := dr_c (dg_getf (T := TX11) (C := RX11) (N := 68) dX11_note_128 rfl (by decide) iw_X11 wd_974) <| dr_c (dg_no) <| dr_c (dg_no) <| dr_c (dg_iconst (by decide) dX11_note_131) <| dr_c (dg_iadd dX11_note_132) <| dr_c (dg_putf (T := TX11) (C := RX11) (N := 68) dX11_note_133 rfl (by decide) iw_X11 tyX11_ok nmX11 wd_974 rfl rfl) <| dr_c (dg_no) <| dr_c (dg_no) <| dr_c (dg_vret dX11_note_136) <| dr_n
theorem tk_155 : dm_AllC (dm_Good dm_tb RX11 cX11_note 3 none false none) 0 cd_155 := dc_c (by decide) tr_155_0 <| dc_c (by decide) tr_155_1 <| dc_c (by decide) tr_155_2 <| dc_c (by decide) tr_155_3 <| dc_c (by decide) tr_155_4 <| dc_c (by decide) tr_155_5 <| dc_c (by decide) tr_155_6 <| dc_c (by decide) tr_155_7 <| dc_c (by decide) tr_155_8 <| dc_n
theorem dX11_spend_0 : decode cX11_spend 0 = .ok (.aload_n 0, 1) := by decide +kernel
theorem dX11_spend_1 : decode cX11_spend 1 = .ok (.iload_n 1, 1) := by decide +kernel
theorem dX11_spend_2 : decode cX11_spend 2 = .ok (.invokevirtual 229, 3) := by decide +kernel
theorem dX11_spend_5 : decode cX11_spend 5 = .ok (.ifCond .eq 10, 3) := by decide +kernel
theorem dX11_spend_8 : decode cX11_spend 8 = .ok (.aload_n 0, 1) := by decide +kernel
theorem dX11_spend_9 : decode cX11_spend 9 = .ok (.getfield 29, 3) := by decide +kernel
theorem dX11_spend_12 : decode cX11_spend 12 = .ok (.iload_n 1, 1) := by decide +kernel
theorem dX11_spend_13 : decode cX11_spend 13 = .ok (.iconst 0, 1) := by decide +kernel
theorem dX11_spend_14 : decode cX11_spend 14 = .ok (.bastore, 1) := by decide +kernel
theorem dX11_spend_15 : decode cX11_spend 15 = .ok (.return_, 1) := by decide +kernel
def cd_156 : dm_Code := [[dm_ald 1 0, dm_ild 2 1, dm_inv 5 138 1 8, dm_no, dm_no, dm_if_eq 8 15, dm_no, dm_no, dm_ald 9 0, dm_getf 12 8 6, dm_no, dm_no, dm_ild 13 1, dm_push 14 (.int 0), dm_bast 15, dm_vret]]
theorem tr_156_0 : dm_AllR (dm_Good dm_tb RX11 cX11_spend 2 none false none) 0 [dm_ald 1 0, dm_ild 2 1, dm_inv 5 138 1 8, dm_no, dm_no, dm_if_eq 8 15, dm_no, dm_no, dm_ald 9 0, dm_getf 12 8 6, dm_no, dm_no, dm_ild 13 1, dm_push 14 (.int 0), dm_bast 15, dm_vret] := dr_c (dg_aload_n (k := 0) rfl dX11_spend_0) <| dr_c (dg_iload_n (k := 1) rfl dX11_spend_1) <| dr_c (dg_inv dX11_spend_2 mo_138 rfl rfl wd_1169 wd_1171 wd_25 pd_138) <| dr_c (dg_no) <| dr_c (dg_no) <| dr_c (dg_if_eq (by decide) dX11_spend_5) <| dr_c (dg_no) <| dr_c (dg_no) <| dr_c (dg_aload_n (k := 0) rfl dX11_spend_8) <| dr_c (dg_getf (T := TX11) (C := RX11) (N := 68) dX11_spend_9 rfl (by decide) iw_X11 wd_954) <| dr_c (dg_no) <| dr_c (dg_no) <| dr_c (dg_iload_n (k := 1) rfl dX11_spend_12) <| dr_c (dg_iconst (by decide) dX11_spend_13) <| dr_c (dg_bast dX11_spend_14) <| dr_c (dg_vret dX11_spend_15) <| dr_n
theorem tk_156 : dm_AllC (dm_Good dm_tb RX11 cX11_spend 2 none false none) 0 cd_156 := dc_c (by decide) tr_156_0 <| dc_n
