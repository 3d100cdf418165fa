theorem dX11_init_0 : decode cX11_init 0 = .ok (.aload_n 0, 1) := by decide +kernel
theorem dX11_init_1 : decode cX11_init 1 = .ok (.invokespecial 1, 3) := by decide +kernel
theorem dX11_init_4 : decode cX11_init 4 = .ok (.aload_n 0, 1) := by decide +kernel
theorem dX11_init_5 : decode cX11_init 5 = .ok (.sipush 340, 3) := by decide +kernel
theorem dX11_init_8 : decode cX11_init 8 = .ok (.newarray .byte, 2) := by decide +kernel
theorem dX11_init_10 : decode cX11_init 10 = .ok (.putfield 7, 3) := by decide +kernel
theorem dX11_init_13 : decode cX11_init 13 = .ok (.aload_n 0, 1) := by decide +kernel
theorem dX11_init_14 : decode cX11_init 14 = .ok (.bipush 60, 2) := by decide +kernel
theorem dX11_init_16 : decode cX11_init 16 = .ok (.newarray .int, 2) := by decide +kernel
theorem dX11_init_18 : decode cX11_init 18 = .ok (.putfield 13, 3) := by decide +kernel
theorem dX11_init_21 : decode cX11_init 21 = .ok (.aload_n 0, 1) := by decide +kernel
theorem dX11_init_22 : decode cX11_init 22 = .ok (.bipush 60, 2) := by decide +kernel
theorem dX11_init_24 : decode cX11_init 24 = .ok (.newarray .int, 2) := by decide +kernel
theorem dX11_init_26 : decode cX11_init 26 = .ok (.putfield 17, 3) := by decide +kernel
theorem dX11_init_29 : decode cX11_init 29 = .ok (.aload_n 0, 1) := by decide +kernel
theorem dX11_init_30 : decode cX11_init 30 = .ok (.bipush 60, 2) := by decide +kernel
theorem dX11_init_32 : decode cX11_init 32 = .ok (.newarray .int, 2) := by decide +kernel
theorem dX11_init_34 : decode cX11_init 34 = .ok (.putfield 20, 3) := by decide +kernel
theorem dX11_init_37 : decode cX11_init 37 = .ok (.aload_n 0, 1) := by decide +kernel
theorem dX11_init_38 : decode cX11_init 38 = .ok (.bipush 100, 2) := by decide +kernel
theorem dX11_init_40 : decode cX11_init 40 = .ok (.newarray .int, 2) := by decide +kernel
theorem dX11_init_42 : decode cX11_init 42 = .ok (.putfield 23, 3) := by decide +kernel
theorem dX11_init_45 : decode cX11_init 45 = .ok (.aload_n 0, 1) := by decide +kernel
theorem dX11_init_46 : decode cX11_init 46 = .ok (.bipush 100, 2) := by decide +kernel
theorem dX11_init_48 : decode cX11_init 48 = .ok (.newarray .int, 2) := by decide +kernel
theorem dX11_init_50 : decode cX11_init 50 = .ok (.putfield 26, 3) := by decide +kernel
theorem dX11_init_53 : decode cX11_init 53 = .ok (.aload_n 0, 1) := by decide +kernel
theorem dX11_init_54 : decode cX11_init 54 = .ok (.bipush 100, 2) := by decide +kernel
theorem dX11_init_56 : decode cX11_init 56 = .ok (.newarray .int, 2) := by decide +kernel
theorem dX11_init_58 : decode cX11_init 58 = .ok (.putfield 29, 3) := by decide +kernel
theorem dX11_init_61 : decode cX11_init 61 = .ok (.aload_n 0, 1) := by decide +kernel
theorem dX11_init_62 : decode cX11_init 62 = .ok (.sipush 240, 3) := by decide +kernel
theorem dX11_init_65 : decode cX11_init 65 = .ok (.newarray .int, 2) := by decide +kernel
theorem dX11_init_67 : decode cX11_init 67 = .ok (.putfield 32, 3) := by decide +kernel
theorem dX11_init_70 : decode cX11_init 70 = .ok (.aload_n 0, 1) := by decide +kernel
theorem dX11_init_71 : decode cX11_init 71 = .ok (.sipush 240, 3) := by decide +kernel
theorem dX11_init_74 : decode cX11_init 74 = .ok (.newarray .int, 2) := by decide +kernel
theorem dX11_init_76 : decode cX11_init 76 = .ok (.putfield 35, 3) := by decide +kernel
theorem dX11_init_79 : decode cX11_init 79 = .ok (.aload_n 0, 1) := by decide +kernel
theorem dX11_init_80 : decode cX11_init 80 = .ok (.sipush 240, 3) := by decide +kernel
theorem dX11_init_83 : decode cX11_init 83 = .ok (.newarray .int, 2) := by decide +kernel
theorem dX11_init_85 : decode cX11_init 85 = .ok (.putfield 38, 3) := by decide +kernel
theorem dX11_init_88 : decode cX11_init 88 = .ok (.aload_n 0, 1) := by decide +kernel
theorem dX11_init_89 : decode cX11_init 89 = .ok (.sipush 240, 3) := by decide +kernel
theorem dX11_init_92 : decode cX11_init 92 = .ok (.newarray .int, 2) := by decide +kernel
theorem dX11_init_94 : decode cX11_init 94 = .ok (.putfield 41, 3) := by decide +kernel
theorem dX11_init_97 : decode cX11_init 97 = .ok (.aload_n 0, 1) := by decide +kernel
theorem dX11_init_98 : decode cX11_init 98 = .ok (.sipush 240, 3) := by decide +kernel
theorem dX11_init_101 : decode cX11_init 101 = .ok (.newarray .int, 2) := by decide +kernel
theorem dX11_init_103 : decode cX11_init 103 = .ok (.putfield 44, 3) := by decide +kernel
theorem dX11_init_106 : decode cX11_init 106 = .ok (.aload_n 0, 1) := by decide +kernel
theorem dX11_init_107 : decode cX11_init 107 = .ok (.sipush 240, 3) := by decide +kernel
theorem dX11_init_110 : decode cX11_init 110 = .ok (.newarray .int, 2) := by decide +kernel
theorem dX11_init_112 : decode cX11_init 112 = .ok (.putfield 47, 3) := by decide +kernel
theorem dX11_init_115 : decode cX11_init 115 = .ok (.aload_n 0, 1) := by decide +kernel
theorem dX11_init_116 : decode cX11_init 116 = .ok (.bipush 60, 2) := by decide +kernel
theorem dX11_init_118 : decode cX11_init 118 = .ok (.newarray .int, 2) := by decide +kernel
theorem dX11_init_120 : decode cX11_init 120 = .ok (.putfield 50, 3) := by decide +kernel
theorem dX11_init_123 : decode cX11_init 123 = .ok (.aload_n 0, 1) := by decide +kernel
theorem dX11_init_124 : decode cX11_init 124 = .ok (.bipush 60, 2) := by decide +kernel
theorem dX11_init_126 : decode cX11_init 126 = .ok (.newarray .int, 2) := by decide +kernel
theorem dX11_init_128 : decode cX11_init 128 = .ok (.putfield 53, 3) := by decide +kernel
theorem dX11_init_131 : decode cX11_init 131 = .ok (.aload_n 0, 1) := by decide +kernel
theorem dX11_init_132 : decode cX11_init 132 = .ok (.bipush 60, 2) := by decide +kernel
theorem dX11_init_134 : decode cX11_init 134 = .ok (.newarray .int, 2) := by decide +kernel
theorem dX11_init_136 : decode cX11_init 136 = .ok (.putfield 56, 3) := by decide +kernel
theorem dX11_init_139 : decode cX11_init 139 = .ok (.aload_n 0, 1) := by decide +kernel
theorem dX11_init_140 : decode cX11_init 140 = .ok (.bipush 60, 2) := by decide +kernel
theorem dX11_init_142 : decode cX11_init 142 = .ok (.newarray .int, 2) := by decide +kernel
theorem dX11_init_144 : decode cX11_init 144 = .ok (.putfield 59, 3) := by decide +kernel
theorem dX11_init_147 : decode cX11_init 147 = .ok (.aload_n 0, 1) := by decide +kernel
theorem dX11_init_148 : decode cX11_init 148 = .ok (.bipush 40, 2) := by decide +kernel
theorem dX11_init_150 : decode cX11_init 150 = .ok (.newarray .int, 2) := by decide +kernel
theorem dX11_init_152 : decode cX11_init 152 = .ok (.putfield 62, 3) := by decide +kernel
theorem dX11_init_155 : decode cX11_init 155 = .ok (.aload_n 0, 1) := by decide +kernel
theorem dX11_init_156 : decode cX11_init 156 = .ok (.bipush 40, 2) := by decide +kernel
theorem dX11_init_158 : decode cX11_init 158 = .ok (.newarray .int, 2) := by decide +kernel
theorem dX11_init_160 : decode cX11_init 160 = .ok (.putfield 65, 3) := by decide +kernel
theorem dX11_init_163 : decode cX11_init 163 = .ok (.aload_n 0, 1) := by decide +kernel
theorem dX11_init_164 : decode cX11_init 164 = .ok (.bipush 40, 2) := by decide +kernel
theorem dX11_init_166 : decode cX11_init 166 = .ok (.newarray .int, 2) := by decide +kernel
theorem dX11_init_168 : decode cX11_init 168 = .ok (.putfield 68, 3) := by decide +kernel
theorem dX11_init_171 : decode cX11_init 171 = .ok (.aload_n 0, 1) := by decide +kernel
theorem dX11_init_172 : decode cX11_init 172 = .ok (.bipush 9, 2) := by decide +kernel
theorem dX11_init_174 : decode cX11_init 174 = .ok (.newarray .int, 2) := by decide +kernel
theorem dX11_init_176 : decode cX11_init 176 = .ok (.putfield 71, 3) := by decide +kernel
theorem dX11_init_179 : decode cX11_init 179 = .ok (.aload_n 0, 1) := by decide +kernel
theorem dX11_init_180 : decode cX11_init 180 = .ok (.bipush 9, 2) := by decide +kernel
theorem dX11_init_182 : decode cX11_init 182 = .ok (.newarray .int, 2) := by decide +kernel
theorem dX11_init_184 : decode cX11_init 184 = .ok (.putfield 74, 3) := by decide +kernel
theorem dX11_init_187 : decode cX11_init 187 = .ok (.aload_n 0, 1) := by decide +kernel
theorem dX11_init_188 : decode cX11_init 188 = .ok (.bipush 9, 2) := by decide +kernel
theorem dX11_init_190 : decode cX11_init 190 = .ok (.newarray .int, 2) := by decide +kernel
theorem dX11_init_192 : decode cX11_init 192 = .ok (.putfield 77, 3) := by decide +kernel
theorem dX11_init_195 : decode cX11_init 195 = .ok (.aload_n 0, 1) := by decide +kernel
theorem dX11_init_196 : decode cX11_init 196 = .ok (.bipush 9, 2) := by decide +kernel
theorem dX11_init_198 : decode cX11_init 198 = .ok (.newarray .int, 2) := by decide +kernel
theorem dX11_init_200 : decode cX11_init 200 = .ok (.putfield 80, 3) := by decide +kernel
theorem dX11_init_203 : decode cX11_init 203 = .ok (.aload_n 0, 1) := by decide +kernel
theorem dX11_init_204 : decode cX11_init 204 = .ok (.bipush 9, 2) := by decide +kernel
theorem dX11_init_206 : decode cX11_init 206 = .ok (.newarray .int, 2) := by decide +kernel
theorem dX11_init_208 : decode cX11_init 208 = .ok (.putfield 83, 3) := by decide +kernel
theorem dX11_init_211 : decode cX11_init 211 = .ok (.aload_n 0, 1) := by decide +kernel
theorem dX11_init_212 : decode cX11_init 212 = .ok (.bipush 9, 2) := by decide +kernel
theorem dX11_init_214 : decode cX11_init 214 = .ok (.newarray .int, 2) := by decide +kernel
theorem dX11_init_216 : decode cX11_init 216 = .ok (.putfield 86, 3) := by decide +kernel
theorem dX11_init_219 : decode cX11_init 219 = .ok (.aload_n 0, 1) := by decide +kernel
theorem dX11_init_220 : decode cX11_init 220 = .ok (.sipush 180, 3) := by decide +kernel
theorem dX11_init_223 : decode cX11_init 223 = .ok (.newarray .int, 2) := by decide +kernel
theorem dX11_init_225 : decode cX11_init 225 = .ok (.putfield 89, 3) := by decide +kernel
theorem dX11_init_228 : decode cX11_init 228 = .ok (.aload_n 0, 1) := by decide +kernel
theorem dX11_init_229 : decode cX11_init 229 = .ok (.sipush 180, 3) := by decide +kernel
theorem dX11_init_232 : decode cX11_init 232 = .ok (.newarray .int, 2) := by decide +kernel
theorem dX11_init_234 : decode cX11_init 234 = .ok (.putfield 92, 3) := by decide +kernel
theorem dX11_init_237 : decode cX11_init 237 = .ok (.aload_n 0, 1) := by decide +kernel
theorem dX11_init_238 : decode cX11_init 238 = .ok (.sipush 180, 3) := by decide +kernel
theorem dX11_init_241 : decode cX11_init 241 = .ok (.newarray .int, 2) := by decide +kernel
theorem dX11_init_243 : decode cX11_init 243 = .ok (.putfield 95, 3) := by decide +kernel
theorem dX11_init_246 : decode cX11_init 246 = .ok (.aload_n 0, 1) := by decide +kernel
theorem dX11_init_247 : decode cX11_init 247 = .ok (.sipush 180, 3) := by decide +kernel
theorem dX11_init_250 : decode cX11_init 250 = .ok (.newarray .int, 2) := by decide +kernel
theorem dX11_init_252 : decode cX11_init 252 = .ok (.putfield 98, 3) := by decide +kernel
theorem dX11_init_255 : decode cX11_init 255 = .ok (.aload_n 0, 1) := by decide +kernel
theorem dX11_init_256 : decode cX11_init 256 = .ok (.sipush 180, 3) := by decide +kernel
theorem dX11_init_259 : decode cX11_init 259 = .ok (.newarray .boolean, 2) := by decide +kernel
theorem dX11_init_261 : decode cX11_init 261 = .ok (.putfield 101, 3) := by decide +kernel
theorem dX11_init_264 : decode cX11_init 264 = .ok (.aload_n 0, 1) := by decide +kernel
theorem dX11_init_265 : decode cX11_init 265 = .ok (.sipush 1170, 3) := by decide +kernel
theorem dX11_init_268 : decode cX11_init 268 = .ok (.newarray .int, 2) := by decide +kernel
theorem dX11_init_270 : decode cX11_init 270 = .ok (.putfield 105, 3) := by decide +kernel
theorem dX11_init_273 : decode cX11_init 273 = .ok (.aload_n 0, 1) := by decide +kernel
theorem dX11_init_274 : decode cX11_init 274 = .ok (.sipush 1170, 3) := by decide +kernel
theorem dX11_init_277 : decode cX11_init 277 = .ok (.newarray .int, 2) := by decide +kernel
theorem dX11_init_279 : decode cX11_init 279 = .ok (.putfield 108, 3) := by decide +kernel
theorem dX11_init_282 : decode cX11_init 282 = .ok (.aload_n 0, 1) := by decide +kernel
theorem dX11_init_283 : decode cX11_init 283 = .ok (.sipush 1170, 3) := by decide +kernel
theorem dX11_init_286 : decode cX11_init 286 = .ok (.newarray .int, 2) := by decide +kernel
theorem dX11_init_288 : decode cX11_init 288 = .ok (.putfield 111, 3) := by decide +kernel
theorem dX11_init_291 : decode cX11_init 291 = .ok (.aload_n 0, 1) := by decide +kernel
theorem dX11_init_292 : decode cX11_init 292 = .ok (.bipush 80, 2) := by decide +kernel
theorem dX11_init_294 : decode cX11_init 294 = .ok (.newarray .int, 2) := by decide +kernel
theorem dX11_init_296 : decode cX11_init 296 = .ok (.putfield 114, 3) := by decide +kernel
theorem dX11_init_299 : decode cX11_init 299 = .ok (.aload_n 0, 1) := by decide +kernel
theorem dX11_init_300 : decode cX11_init 300 = .ok (.iconst 4, 1) := by decide +kernel
theorem dX11_init_301 : decode cX11_init 301 = .ok (.newarray .int, 2) := by decide +kernel
theorem dX11_init_303 : decode cX11_init 303 = .ok (.putfield 117, 3) := by decide +kernel
theorem dX11_init_306 : decode cX11_init 306 = .ok (.aload_n 0, 1) := by decide +kernel
theorem dX11_init_307 : decode cX11_init 307 = .ok (.iconst 4, 1) := by decide +kernel
theorem dX11_init_308 : decode cX11_init 308 = .ok (.newarray .int, 2) := by decide +kernel
theorem dX11_init_310 : decode cX11_init 310 = .ok (.putfield 120, 3) := by decide +kernel
theorem dX11_init_313 : decode cX11_init 313 = .ok (.aload_n 0, 1) := by decide +kernel
theorem dX11_init_314 : decode cX11_init 314 = .ok (.sipush 208, 3) := by decide +kernel
theorem dX11_init_317 : decode cX11_init 317 = .ok (.newarray .int, 2) := by decide +kernel
theorem dX11_init_319 : decode cX11_init 319 = .ok (.putfield 123, 3) := by decide +kernel
theorem dX11_init_322 : decode cX11_init 322 = .ok (.aload_n 0, 1) := by decide +kernel
theorem dX11_init_323 : decode cX11_init 323 = .ok (.sipush 208, 3) := by decide +kernel
theorem dX11_init_326 : decode cX11_init 326 = .ok (.newarray .int, 2) := by decide +kernel
theorem dX11_init_328 : decode cX11_init 328 = .ok (.putfield 126, 3) := by decide +kernel
theorem dX11_init_331 : decode cX11_init 331 = .ok (.aload_n 0, 1) := by decide +kernel
theorem dX11_init_332 : decode cX11_init 332 = .ok (.bipush 104, 2) := by decide +kernel
theorem dX11_init_334 : decode cX11_init 334 = .ok (.newarray .int, 2) := by decide +kernel
theorem dX11_init_336 : decode cX11_init 336 = .ok (.putfield 129, 3) := by decide +kernel
theorem dX11_init_339 : decode cX11_init 339 = .ok (.aload_n 0, 1) := by decide +kernel
theorem dX11_init_340 : decode cX11_init 340 = .ok (.iconst 4, 1) := by decide +kernel
theorem dX11_init_341 : decode cX11_init 341 = .ok (.newarray .boolean, 2) := by decide +kernel
theorem dX11_init_343 : decode cX11_init 343 = .ok (.putfield 132, 3) := by decide +kernel
theorem dX11_init_346 : decode cX11_init 346 = .ok (.aload_n 0, 1) := by decide +kernel
theorem dX11_init_347 : decode cX11_init 347 = .ok (.iconst 4, 1) := by decide +kernel
theorem dX11_init_348 : decode cX11_init 348 = .ok (.newarray .boolean, 2) := by decide +kernel
theorem dX11_init_350 : decode cX11_init 350 = .ok (.putfield 135, 3) := by decide +kernel
theorem dX11_init_353 : decode cX11_init 353 = .ok (.aload_n 0, 1) := by decide +kernel
theorem dX11_init_354 : decode cX11_init 354 = .ok (.bipush 64, 2) := by decide +kernel
theorem dX11_init_356 : decode cX11_init 356 = .ok (.newarray .boolean, 2) := by decide +kernel
theorem dX11_init_358 : decode cX11_init 358 = .ok (.putfield 138, 3) := by decide +kernel
theorem dX11_init_361 : decode cX11_init 361 = .ok (.aload_n 0, 1) := by decide +kernel
theorem dX11_init_362 : decode cX11_init 362 = .ok (.bipush 60, 2) := by decide +kernel
theorem dX11_init_364 : decode cX11_init 364 = .ok (.newarray .int, 2) := by decide +kernel
theorem dX11_init_366 : decode cX11_init 366 = .ok (.putfield 141, 3) := by decide +kernel
theorem dX11_init_369 : decode cX11_init 369 = .ok (.aload_n 0, 1) := by decide +kernel
theorem dX11_init_370 : decode cX11_init 370 = .ok (.bipush 60, 2) := by decide +kernel
theorem dX11_init_372 : decode cX11_init 372 = .ok (.newarray .int, 2) := by decide +kernel
theorem dX11_init_374 : decode cX11_init 374 = .ok (.putfield 144, 3) := by decide +kernel
theorem dX11_init_377 : decode cX11_init 377 = .ok (.aload_n 0, 1) := by decide +kernel
theorem dX11_init_378 : decode cX11_init 378 = .ok (.bipush 60, 2) := by decide +kernel
theorem dX11_init_380 : decode cX11_init 380 = .ok (.newarray .boolean, 2) := by decide +kernel
theorem dX11_init_382 : decode cX11_init 382 = .ok (.putfield 147, 3) := by decide +kernel
theorem dX11_init_385 : decode cX11_init 385 = .ok (.aload_n 0, 1) := by decide +kernel
theorem dX11_init_386 : decode cX11_init 386 = .ok (.bipush 60, 2) := by decide +kernel
theorem dX11_init_388 : decode cX11_init 388 = .ok (.newarray .boolean, 2) := by decide +kernel
theorem dX11_init_390 : decode cX11_init 390 = .ok (.putfield 150, 3) := by decide +kernel
theorem dX11_init_393 : decode cX11_init 393 = .ok (.aload_n 0, 1) := by decide +kernel
theorem dX11_init_394 : decode cX11_init 394 = .ok (.sipush 360, 3) := by decide +kernel
theorem dX11_init_397 : decode cX11_init 397 = .ok (.newarray .int, 2) := by decide +kernel
theorem dX11_init_399 : decode cX11_init 399 = .ok (.putfield 153, 3) := by decide +kernel
theorem dX11_init_402 : decode cX11_init 402 = .ok (.aload_n 0, 1) := by decide +kernel
theorem dX11_init_403 : decode cX11_init 403 = .ok (.bipush 60, 2) := by decide +kernel
theorem dX11_init_405 : decode cX11_init 405 = .ok (.newarray .int, 2) := by decide +kernel
theorem dX11_init_407 : decode cX11_init 407 = .ok (.putfield 156, 3) := by decide +kernel
theorem dX11_init_410 : decode cX11_init 410 = .ok (.aload_n 0, 1) := by decide +kernel
theorem dX11_init_411 : decode cX11_init 411 = .ok (.sipush 240, 3) := by decide +kernel
theorem dX11_init_414 : decode cX11_init 414 = .ok (.newarray .int, 2) := by decide +kernel
theorem dX11_init_416 : decode cX11_init 416 = .ok (.putfield 159, 3) := by decide +kernel
theorem dX11_init_419 : decode cX11_init 419 = .ok (.aload_n 0, 1) := by decide +kernel
theorem dX11_init_420 : decode cX11_init 420 = .ok (.sipush 240, 3) := by decide +kernel
theorem dX11_init_423 : decode cX11_init 423 = .ok (.newarray .int, 2) := by decide +kernel
theorem dX11_init_425 : decode cX11_init 425 = .ok (.putfield 162, 3) := by decide +kernel
theorem dX11_init_428 : decode cX11_init 428 = .ok (.aload_n 0, 1) := by decide +kernel
theorem dX11_init_429 : decode cX11_init 429 = .ok (.sipush 240, 3) := by decide +kernel
theorem dX11_init_432 : decode cX11_init 432 = .ok (.newarray .int, 2) := by decide +kernel
theorem dX11_init_434 : decode cX11_init 434 = .ok (.putfield 165, 3) := by decide +kernel
theorem dX11_init_437 : decode cX11_init 437 = .ok (.aload_n 0, 1) := by decide +kernel
theorem dX11_init_438 : decode cX11_init 438 = .ok (.bipush 60, 2) := by decide +kernel
theorem dX11_init_440 : decode cX11_init 440 = .ok (.newarray .int, 2) := by decide +kernel
theorem dX11_init_442 : decode cX11_init 442 = .ok (.putfield 168, 3) := by decide +kernel
theorem dX11_init_445 : decode cX11_init 445 = .ok (.aload_n 0, 1) := by decide +kernel
theorem dX11_init_446 : decode cX11_init 446 = .ok (.bipush 32, 2) := by decide +kernel
theorem dX11_init_448 : decode cX11_init 448 = .ok (.newarray .int, 2) := by decide +kernel
theorem dX11_init_450 : decode cX11_init 450 = .ok (.putfield 171, 3) := by decide +kernel
theorem dX11_init_453 : decode cX11_init 453 = .ok (.aload_n 0, 1) := by decide +kernel
theorem dX11_init_454 : decode cX11_init 454 = .ok (.bipush 60, 2) := by decide +kernel
theorem dX11_init_456 : decode cX11_init 456 = .ok (.newarray .int, 2) := by decide +kernel
theorem dX11_init_458 : decode cX11_init 458 = .ok (.putfield 174, 3) := by decide +kernel
theorem dX11_init_461 : decode cX11_init 461 = .ok (.aload_n 0, 1) := by decide +kernel
theorem dX11_init_462 : decode cX11_init 462 = .ok (.bipush 60, 2) := by decide +kernel
theorem dX11_init_464 : decode cX11_init 464 = .ok (.newarray .int, 2) := by decide +kernel
theorem dX11_init_466 : decode cX11_init 466 = .ok (.putfield 177, 3) := by decide +kernel
theorem dX11_init_469 : decode cX11_init 469 = .ok (.aload_n 0, 1) := by decide +kernel
theorem dX11_init_470 : decode cX11_init 470 = .ok (.bipush 60, 2) := by decide +kernel
theorem dX11_init_472 : decode cX11_init 472 = .ok (.newarray .int, 2) := by decide +kernel
theorem dX11_init_474 : decode cX11_init 474 = .ok (.putfield 180, 3) := by decide +kernel
theorem dX11_init_477 : decode cX11_init 477 = .ok (.aload_n 0, 1) := by decide +kernel
theorem dX11_init_478 : decode cX11_init 478 = .ok (.bipush 60, 2) := by decide +kernel
theorem dX11_init_480 : decode cX11_init 480 = .ok (.newarray .int, 2) := by decide +kernel
theorem dX11_init_482 : decode cX11_init 482 = .ok (.putfield 183, 3) := by decide +kernel
theorem dX11_init_485 : decode cX11_init 485 = .ok (.aload_n 0, 1) := by decide +kernel
theorem dX11_init_486 : decode cX11_init 486 = .ok (.bipush 60, 2) := by decide +kernel
theorem dX11_init_488 : decode cX11_init 488 = .ok (.newarray .int, 2) := by decide +kernel
theorem dX11_init_490 : decode cX11_init 490 = .ok (.putfield 186, 3) := by decide +kernel
theorem dX11_init_493 : decode cX11_init 493 = .ok (.aload_n 0, 1) := by decide +kernel
theorem dX11_init_494 : decode cX11_init 494 = .ok (.sipush 240, 3) := by decide +kernel
theorem dX11_init_497 : decode cX11_init 497 = .ok (.newarray .int, 2) := by decide +kernel
theorem dX11_init_499 : decode cX11_init 499 = .ok (.putfield 189, 3) := by decide +kernel
theorem dX11_init_502 : decode cX11_init 502 = .ok (.aload_n 0, 1) := by decide +kernel
theorem dX11_init_503 : decode cX11_init 503 = .ok (.sipush 240, 3) := by decide +kernel
theorem dX11_init_506 : decode cX11_init 506 = .ok (.newarray .boolean, 2) := by decide +kernel
theorem dX11_init_508 : decode cX11_init 508 = .ok (.putfield 192, 3) := by decide +kernel
theorem dX11_init_511 : decode cX11_init 511 = .ok (.aload_n 0, 1) := by decide +kernel
theorem dX11_init_512 : decode cX11_init 512 = .ok (.bipush 80, 2) := by decide +kernel
theorem dX11_init_514 : decode cX11_init 514 = .ok (.newarray .boolean, 2) := by decide +kernel
theorem dX11_init_516 : decode cX11_init 516 = .ok (.putfield 195, 3) := by decide +kernel
theorem dX11_init_519 : decode cX11_init 519 = .ok (.aload_n 0, 1) := by decide +kernel
theorem dX11_init_520 : decode cX11_init 520 = .ok (.bipush 8, 2) := by decide +kernel
theorem dX11_init_522 : decode cX11_init 522 = .ok (.newarray .int, 2) := by decide +kernel
theorem dX11_init_524 : decode cX11_init 524 = .ok (.putfield 198, 3) := by decide +kernel
theorem dX11_init_527 : decode cX11_init 527 = .ok (.aload_n 0, 1) := by decide +kernel
theorem dX11_init_528 : decode cX11_init 528 = .ok (.iconst (-1), 1) := by decide +kernel
theorem dX11_init_529 : decode cX11_init 529 = .ok (.putfield 201, 3) := by decide +kernel
theorem dX11_init_532 : decode cX11_init 532 = .ok (.aload_n 0, 1) := by decide +kernel
theorem dX11_init_533 : decode cX11_init 533 = .ok (.bipush 60, 2) := by decide +kernel
theorem dX11_init_535 : decode cX11_init 535 = .ok (.newarray .boolean, 2) := by decide +kernel
theorem dX11_init_537 : decode cX11_init 537 = .ok (.putfield 205, 3) := by decide +kernel
theorem dX11_init_540 : decode cX11_init 540 = .ok (.aload_n 0, 1) := by decide +kernel
theorem dX11_init_541 : decode cX11_init 541 = .ok (.iconst 2, 1) := by decide +kernel
theorem dX11_init_542 : decode cX11_init 542 = .ok (.newarray .long, 2) := by decide +kernel
theorem dX11_init_544 : decode cX11_init 544 = .ok (.putfield 208, 3) := by decide +kernel
theorem dX11_init_547 : decode cX11_init 547 = .ok (.aload_n 0, 1) := by decide +kernel
theorem dX11_init_548 : decode cX11_init 548 = .ok (.bipush 96, 2) := by decide +kernel
theorem dX11_init_550 : decode cX11_init 550 = .ok (.newarray .int, 2) := by decide +kernel
theorem dX11_init_552 : decode cX11_init 552 = .ok (.putfield 212, 3) := by decide +kernel
theorem dX11_init_555 : decode cX11_init 555 = .ok (.aload_n 0, 1) := by decide +kernel
theorem dX11_init_556 : decode cX11_init 556 = .ok (.bipush 96, 2) := by decide +kernel
theorem dX11_init_558 : decode cX11_init 558 = .ok (.newarray .int, 2) := by decide +kernel
theorem dX11_init_560 : decode cX11_init 560 = .ok (.putfield 215, 3) := by decide +kernel
theorem dX11_init_563 : decode cX11_init 563 = .ok (.aload_n 0, 1) := by decide +kernel
theorem dX11_init_564 : decode cX11_init 564 = .ok (.bipush 12, 2) := by decide +kernel
theorem dX11_init_566 : decode cX11_init 566 = .ok (.newarray .int, 2) := by decide +kernel
theorem dX11_init_568 : decode cX11_init 568 = .ok (.putfield 218, 3) := by decide +kernel
theorem dX11_init_571 : decode cX11_init 571 = .ok (.return_, 1) := by decide +kernel
theorem dX11_thrown_0 : decode cX11_thrown 0 = .ok (.aload_n 0, 1) := by decide +kernel
theorem dX11_thrown_1 : decode cX11_thrown 1 = .ok (.getfield 221, 3) := by decide +kernel
theorem dX11_thrown_4 : decode cX11_thrown 4 = .ok (.ireturn, 1) := by decide +kernel
theorem dX11_throwsIf_0 : decode cX11_throwsIf 0 = .ok (.aload_n 0, 1) := by decide +kernel
theorem dX11_throwsIf_1 : decode cX11_throwsIf 1 = .ok (.iload_n 1, 1) := by decide +kernel
theorem dX11_throwsIf_2 : decode cX11_throwsIf 2 = .ok (.ifCond .eq 7, 3) := by decide +kernel
theorem dX11_throwsIf_5 : decode cX11_throwsIf 5 = .ok (.iconst 1, 1) := by decide +kernel
theorem dX11_throwsIf_6 : decode cX11_throwsIf 6 = .ok (.goto 4, 3) := by decide +kernel
theorem dX11_throwsIf_9 : decode cX11_throwsIf 9 = .ok (.iconst 0, 1) := by decide +kernel
theorem dX11_throwsIf_10 : decode cX11_throwsIf 10 = .ok (.putfield 221, 3) := by decide +kernel
theorem dX11_throwsIf_13 : decode cX11_throwsIf 13 = .ok (.iload_n 1, 1) := by decide +kernel
theorem dX11_throwsIf_14 : decode cX11_throwsIf 14 = .ok (.ireturn, 1) := by decide +kernel
theorem dX11_feed_0 : decode cX11_feed 0 = .ok (.aload_n 0, 1) := by decide +kernel
theorem dX11_feed_1 : decode cX11_feed 1 = .ok (.iconst 0, 1) := by decide +kernel
theorem dX11_feed_2 : decode cX11_feed 2 = .ok (.putfield 221, 3) := by decide +kernel
theorem dX11_feed_5 : decode cX11_feed 5 = .ok (.aload_n 0, 1) := by decide +kernel
theorem dX11_feed_6 : decode cX11_feed 6 = .ok (.getfield 224, 3) := by decide +kernel
theorem dX11_feed_9 : decode cX11_feed 9 = .ok (.bipush 20, 2) := by decide +kernel
theorem dX11_feed_11 : decode cX11_feed 11 = .ok (.iadd, 1) := by decide +kernel
theorem dX11_feed_12 : decode cX11_feed 12 = .ok (.sipush 340, 3) := by decide +kernel
theorem dX11_feed_15 : decode cX11_feed 15 = .ok (.if_icmp .le 5, 3) := by decide +kernel
theorem dX11_feed_18 : decode cX11_feed 18 = .ok (.iconst (-1), 1) := by decide +kernel
theorem dX11_feed_19 : decode cX11_feed 19 = .ok (.ireturn, 1) := by decide +kernel
theorem dX11_feed_20 : decode cX11_feed 20 = .ok (.aload_n 0, 1) := by decide +kernel
theorem dX11_feed_21 : decode cX11_feed 21 = .ok (.iload_n 1, 1) := by decide +kernel
theorem dX11_feed_22 : decode cX11_feed 22 = .ok (.invokevirtual 227, 3) := by decide +kernel
theorem dX11_feed_25 : decode cX11_feed 25 = .ok (.aload_n 0, 1) := by decide +kernel
theorem dX11_feed_26 : decode cX11_feed 26 = .ok (.iload_n 2, 1) := by decide +kernel
theorem dX11_feed_27 : decode cX11_feed 27 = .ok (.invokevirtual 227, 3) := by decide +kernel
theorem dX11_feed_30 : decode cX11_feed 30 = .ok (.aload_n 0, 1) := by decide +kernel
theorem dX11_feed_31 : decode cX11_feed 31 = .ok (.iload_n 3, 1) := by decide +kernel
theorem dX11_feed_32 : decode cX11_feed 32 = .ok (.invokevirtual 227, 3) := by decide +kernel
theorem dX11_feed_35 : decode cX11_feed 35 = .ok (.aload_n 0, 1) := by decide +kernel
theorem dX11_feed_36 : decode cX11_feed 36 = .ok (.iload 4, 2) := by decide +kernel
theorem dX11_feed_38 : decode cX11_feed 38 = .ok (.invokevirtual 227, 3) := by decide +kernel
theorem dX11_feed_41 : decode cX11_feed 41 = .ok (.aload_n 0, 1) := by decide +kernel
theorem dX11_feed_42 : decode cX11_feed 42 = .ok (.iload 5, 2) := by decide +kernel
theorem dX11_feed_44 : decode cX11_feed 44 = .ok (.invokevirtual 227, 3) := by decide +kernel
theorem dX11_feed_47 : decode cX11_feed 47 = .ok (.aload_n 0, 1) := by decide +kernel
theorem dX11_feed_48 : decode cX11_feed 48 = .ok (.getfield 224, 3) := by decide +kernel
theorem dX11_feed_51 : decode cX11_feed 51 = .ok (.ireturn, 1) := by decide +kernel
theorem dX11_four_0 : decode cX11_four 0 = .ok (.bipush 24, 2) := by decide +kernel
theorem dX11_four_2 : decode cX11_four 2 = .ok (.istore_n 2, 1) := by decide +kernel
theorem dX11_four_3 : decode cX11_four 3 = .ok (.iload_n 2, 1) := by decide +kernel
theorem dX11_four_4 : decode cX11_four 4 = .ok (.ifCond .lt 32, 3) := by decide +kernel
theorem dX11_four_7 : decode cX11_four 7 = .ok (.aload_n 0, 1) := by decide +kernel
theorem dX11_four_8 : decode cX11_four 8 = .ok (.getfield 7, 3) := by decide +kernel
theorem dX11_four_11 : decode cX11_four 11 = .ok (.aload_n 0, 1) := by decide +kernel
theorem dX11_four_12 : decode cX11_four 12 = .ok (.getfield 224, 3) := by decide +kernel
theorem dX11_four_15 : decode cX11_four 15 = .ok (.iload_n 1, 1) := by decide +kernel
theorem dX11_four_16 : decode cX11_four 16 = .ok (.iload_n 2, 1) := by decide +kernel
theorem dX11_four_17 : decode cX11_four 17 = .ok (.ishr, 1) := by decide +kernel
theorem dX11_four_18 : decode cX11_four 18 = .ok (.i2b, 1) := by decide +kernel
theorem dX11_four_19 : decode cX11_four 19 = .ok (.bastore, 1) := by decide +kernel
theorem dX11_four_20 : decode cX11_four 20 = .ok (.aload_n 0, 1) := by decide +kernel
theorem dX11_four_21 : decode cX11_four 21 = .ok (.dup, 1) := by decide +kernel
theorem dX11_four_22 : decode cX11_four 22 = .ok (.getfield 224, 3) := by decide +kernel
theorem dX11_four_25 : decode cX11_four 25 = .ok (.iconst 1, 1) := by decide +kernel
theorem dX11_four_26 : decode cX11_four 26 = .ok (.iadd, 1) := by decide +kernel
theorem dX11_four_27 : decode cX11_four 27 = .ok (.putfield 224, 3) := by decide +kernel
theorem dX11_four_30 : decode cX11_four 30 = .ok (.iinc 2 (-8), 3) := by decide +kernel
theorem dX11_four_33 : decode cX11_four 33 = .ok (.goto (-30), 3) := by decide +kernel
theorem dX11_four_36 : decode cX11_four 36 = .ok (.return_, 1) := by decide +kernel
theorem dX11_end_0 : decode cX11_end 0 = .ok (.aload_n 0, 1) := by decide +kernel
theorem dX11_end_1 : decode cX11_end 1 = .ok (.iconst 0, 1) := by decide +kernel
theorem dX11_end_2 : decode cX11_end 2 = .ok (.putfield 221, 3) := by decide +kernel
theorem dX11_end_5 : decode cX11_end 5 = .ok (.iload_n 1, 1) := by decide +kernel
theorem dX11_end_6 : decode cX11_end 6 = .ok (.ifCond .lt 11, 3) := by decide +kernel
theorem dX11_end_9 : decode cX11_end 9 = .ok (.iload_n 1, 1) := by decide +kernel
theorem dX11_end_10 : decode cX11_end 10 = .ok (.aload_n 0, 1) := by decide +kernel
theorem dX11_end_11 : decode cX11_end 11 = .ok (.getfield 224, 3) := by decide +kernel
theorem dX11_end_14 : decode cX11_end 14 = .ok (.if_icmp .le 5, 3) := by decide +kernel
theorem dX11_end_17 : decode cX11_end 17 = .ok (.iconst 0, 1) := by decide +kernel
theorem dX11_end_18 : decode cX11_end 18 = .ok (.ireturn, 1) := by decide +kernel
theorem dX11_end_19 : decode cX11_end 19 = .ok (.aload_n 0, 1) := by decide +kernel
theorem dX11_end_20 : decode cX11_end 20 = .ok (.iload_n 1, 1) := by decide +kernel
theorem dX11_end_21 : decode cX11_end 21 = .ok (.putfield 224, 3) := by decide +kernel
theorem dX11_end_24 : decode cX11_end 24 = .ok (.iconst 1, 1) := by decide +kernel
theorem dX11_end_25 : decode cX11_end 25 = .ok (.ireturn, 1) := by decide +kernel
theorem dX11_taken_0 : decode cX11_taken 0 = .ok (.aload_n 0, 1) := by decide +kernel
theorem dX11_taken_1 : decode cX11_taken 1 = .ok (.aload_n 0, 1) := by decide +kernel
theorem dX11_taken_2 : decode cX11_taken 2 = .ok (.getfield 224, 3) := by decide +kernel
theorem dX11_taken_5 : decode cX11_taken 5 = .ok (.putfield 231, 3) := by decide +kernel
theorem dX11_taken_8 : decode cX11_taken 8 = .ok (.aload_n 0, 1) := by decide +kernel
theorem dX11_taken_9 : decode cX11_taken 9 = .ok (.iconst 0, 1) := by decide +kernel
theorem dX11_taken_10 : decode cX11_taken 10 = .ok (.putfield 224, 3) := by decide +kernel
theorem dX11_taken_13 : decode cX11_taken 13 = .ok (.aload_n 0, 1) := by decide +kernel
theorem dX11_taken_14 : decode cX11_taken 14 = .ok (.iconst 0, 1) := by decide +kernel
theorem dX11_taken_15 : decode cX11_taken 15 = .ok (.putfield 234, 3) := by decide +kernel
theorem dX11_taken_18 : decode cX11_taken 18 = .ok (.return_, 1) := by decide +kernel
theorem dX11_isIn_0 : decode cX11_isIn 0 = .ok (.iload_n 0, 1) := by decide +kernel
theorem dX11_isIn_1 : decode cX11_isIn 1 = .ok (.iload_n 1, 1) := by decide +kernel
theorem dX11_isIn_2 : decode cX11_isIn 2 = .ok (.if_icmp .lt 12, 3) := by decide +kernel
theorem dX11_isIn_5 : decode cX11_isIn 5 = .ok (.iload_n 0, 1) := by decide +kernel
theorem dX11_isIn_6 : decode cX11_isIn 6 = .ok (.iload_n 2, 1) := by decide +kernel
theorem dX11_isIn_7 : decode cX11_isIn 7 = .ok (.if_icmp .gt 7, 3) := by decide +kernel
theorem dX11_isIn_10 : decode cX11_isIn 10 = .ok (.iconst 1, 1) := by decide +kernel
theorem dX11_isIn_11 : decode cX11_isIn 11 = .ok (.goto 4, 3) := by decide +kernel
theorem dX11_isIn_14 : decode cX11_isIn 14 = .ok (.iconst 0, 1) := by decide +kernel
theorem dX11_isIn_15 : decode cX11_isIn 15 = .ok (.ireturn, 1) := by decide +kernel
theorem dX11_next_0 : decode cX11_next 0 = .ok (.aload_n 0, 1) := by decide +kernel
theorem dX11_next_1 : decode cX11_next 1 = .ok (.iconst 0, 1) := by decide +kernel
theorem dX11_next_2 : decode cX11_next 2 = .ok (.putfield 221, 3) := by decide +kernel
theorem dX11_next_5 : decode cX11_next 5 = .ok (.iload_n 1, 1) := by decide +kernel
theorem dX11_next_6 : decode cX11_next 6 = .ok (.iconst 0, 1) := by decide +kernel
theorem dX11_next_7 : decode cX11_next 7 = .ok (.sipush 3639, 3) := by decide +kernel
theorem dX11_next_10 : decode cX11_next 10 = .ok (.invokestatic 237, 3) := by decide +kernel
theorem dX11_next_13 : decode cX11_next 13 = .ok (.ifCond .eq 15, 3) := by decide +kernel
theorem dX11_next_16 : decode cX11_next 16 = .ok (.aload_n 0, 1) := by decide +kernel
theorem dX11_next_17 : decode cX11_next 17 = .ok (.getfield 241, 3) := by decide +kernel
theorem dX11_next_20 : decode cX11_next 20 = .ok (.iload_n 1, 1) := by decide +kernel
theorem dX11_next_21 : decode cX11_next 21 = .ok (.iadd, 1) := by decide +kernel
theorem dX11_next_22 : decode cX11_next 22 = .ok (.sipush 3639, 3) := by decide +kernel
theorem dX11_next_25 : decode cX11_next 25 = .ok (.if_icmp .le 5, 3) := by decide +kernel
theorem dX11_next_28 : decode cX11_next 28 = .ok (.iconst (-1), 1) := by decide +kernel
theorem dX11_next_29 : decode cX11_next 29 = .ok (.ireturn, 1) := by decide +kernel
theorem dX11_next_30 : decode cX11_next 30 = .ok (.aload_n 0, 1) := by decide +kernel
theorem dX11_next_31 : decode cX11_next 31 = .ok (.dup, 1) := by decide +kernel
theorem dX11_next_32 : decode cX11_next 32 = .ok (.getfield 241, 3) := by decide +kernel
theorem dX11_next_35 : decode cX11_next 35 = .ok (.iload_n 1, 1) := by decide +kernel
theorem dX11_next_36 : decode cX11_next 36 = .ok (.iadd, 1) := by decide +kernel
theorem dX11_next_37 : decode cX11_next 37 = .ok (.putfield 241, 3) := by decide +kernel
theorem dX11_next_40 : decode cX11_next 40 = .ok (.aload_n 0, 1) := by decide +kernel
theorem dX11_next_41 : decode cX11_next 41 = .ok (.getfield 241, 3) := by decide +kernel
theorem dX11_next_44 : decode cX11_next 44 = .ok (.ireturn, 1) := by decide +kernel
theorem dX11_isMan_0 : decode cX11_isMan 0 = .ok (.iload_n 1, 1) := by decide +kernel
theorem dX11_isMan_1 : decode cX11_isMan 1 = .ok (.iconst 0, 1) := by decide +kernel
theorem dX11_isMan_2 : decode cX11_isMan 2 = .ok (.aload_n 0, 1) := by decide +kernel
theorem dX11_isMan_3 : decode cX11_isMan 3 = .ok (.getfield 244, 3) := by decide +kernel
theorem dX11_isMan_6 : decode cX11_isMan 6 = .ok (.iconst 1, 1) := by decide +kernel
theorem dX11_isMan_7 : decode cX11_isMan 7 = .ok (.isub, 1) := by decide +kernel
theorem dX11_isMan_8 : decode cX11_isMan 8 = .ok (.invokestatic 237, 3) := by decide +kernel
theorem dX11_isMan_11 : decode cX11_isMan 11 = .ok (.ireturn, 1) := by decide +kernel
theorem dX11_man_0 : decode cX11_man 0 = .ok (.aload_n 0, 1) := by decide +kernel
theorem dX11_man_1 : decode cX11_man 1 = .ok (.iconst 0, 1) := by decide +kernel
theorem dX11_man_2 : decode cX11_man 2 = .ok (.putfield 221, 3) := by decide +kernel
theorem dX11_man_5 : decode cX11_man 5 = .ok (.aload_n 0, 1) := by decide +kernel
theorem dX11_man_6 : decode cX11_man 6 = .ok (.invokevirtual 247, 3) := by decide +kernel
theorem dX11_man_9 : decode cX11_man 9 = .ok (.aload_n 0, 1) := by decide +kernel
theorem dX11_man_10 : decode cX11_man 10 = .ok (.getfield 244, 3) := by decide +kernel
theorem dX11_man_13 : decode cX11_man 13 = .ok (.bipush 60, 2) := by decide +kernel
theorem dX11_man_15 : decode cX11_man 15 = .ok (.if_icmp .eq 36, 3) := by decide +kernel
theorem dX11_man_18 : decode cX11_man 18 = .ok (.iload_n 1, 1) := by decide +kernel
theorem dX11_man_19 : decode cX11_man 19 = .ok (.iconst 0, 1) := by decide +kernel
theorem dX11_man_20 : decode cX11_man 20 = .ok (.bipush 7, 2) := by decide +kernel
theorem dX11_man_22 : decode cX11_man 22 = .ok (.invokestatic 237, 3) := by decide +kernel
theorem dX11_man_25 : decode cX11_man 25 = .ok (.ifCond .eq 26, 3) := by decide +kernel
theorem dX11_man_28 : decode cX11_man 28 = .ok (.iload_n 2, 1) := by decide +kernel
theorem dX11_man_29 : decode cX11_man 29 = .ok (.iconst 0, 1) := by decide +kernel
theorem dX11_man_30 : decode cX11_man 30 = .ok (.bipush 59, 2) := by decide +kernel
theorem dX11_man_32 : decode cX11_man 32 = .ok (.invokestatic 237, 3) := by decide +kernel
theorem dX11_man_35 : decode cX11_man 35 = .ok (.ifCond .eq 16, 3) := by decide +kernel
theorem dX11_man_38 : decode cX11_man 38 = .ok (.aload_n 0, 1) := by decide +kernel
theorem dX11_man_39 : decode cX11_man 39 = .ok (.getfield 231, 3) := by decide +kernel
theorem dX11_man_42 : decode cX11_man 42 = .ok (.iconst 1, 1) := by decide +kernel
theorem dX11_man_43 : decode cX11_man 43 = .ok (.bipush 8, 2) := by decide +kernel
theorem dX11_man_45 : decode cX11_man 45 = .ok (.invokestatic 237, 3) := by decide +kernel
theorem dX11_man_48 : decode cX11_man 48 = .ok (.ifCond .ne 5, 3) := by decide +kernel
theorem dX11_man_51 : decode cX11_man 51 = .ok (.iconst (-1), 1) := by decide +kernel
theorem dX11_man_52 : decode cX11_man 52 = .ok (.ireturn, 1) := by decide +kernel
theorem dX11_man_53 : decode cX11_man 53 = .ok (.iconst 0, 1) := by decide +kernel
theorem dX11_man_54 : decode cX11_man 54 = .ok (.istore_n 3, 1) := by decide +kernel
theorem dX11_man_55 : decode cX11_man 55 = .ok (.iload_n 3, 1) := by decide +kernel
theorem dX11_man_56 : decode cX11_man 56 = .ok (.aload_n 0, 1) := by decide +kernel
theorem dX11_man_57 : decode cX11_man 57 = .ok (.getfield 231, 3) := by decide +kernel
theorem dX11_man_60 : decode cX11_man 60 = .ok (.if_icmp .ge 23, 3) := by decide +kernel
theorem dX11_man_63 : decode cX11_man 63 = .ok (.aload_n 0, 1) := by decide +kernel
theorem dX11_man_64 : decode cX11_man 64 = .ok (.getfield 7, 3) := by decide +kernel
theorem dX11_man_67 : decode cX11_man 67 = .ok (.iload_n 3, 1) := by decide +kernel
theorem dX11_man_68 : decode cX11_man 68 = .ok (.baload, 1) := by decide +kernel
theorem dX11_man_69 : decode cX11_man 69 = .ok (.invokestatic 250, 3) := by decide +kernel
theorem dX11_man_72 : decode cX11_man 72 = .ok (.ifCond .ne 5, 3) := by decide +kernel
theorem dX11_man_75 : decode cX11_man 75 = .ok (.iconst (-1), 1) := by decide +kernel
theorem dX11_man_76 : decode cX11_man 76 = .ok (.ireturn, 1) := by decide +kernel
theorem dX11_man_77 : decode cX11_man 77 = .ok (.iinc 3 1, 3) := by decide +kernel
theorem dX11_man_80 : decode cX11_man 80 = .ok (.goto (-25), 3) := by decide +kernel
theorem dX11_man_83 : decode cX11_man 83 = .ok (.aload_n 0, 1) := by decide +kernel
theorem dX11_man_84 : decode cX11_man 84 = .ok (.getfield 13, 3) := by decide +kernel
theorem dX11_man_87 : decode cX11_man 87 = .ok (.aload_n 0, 1) := by decide +kernel
theorem dX11_man_88 : decode cX11_man 88 = .ok (.getfield 244, 3) := by decide +kernel
theorem dX11_man_91 : decode cX11_man 91 = .ok (.aload_n 0, 1) := by decide +kernel
theorem dX11_man_92 : decode cX11_man 92 = .ok (.getfield 7, 3) := by decide +kernel
theorem dX11_man_95 : decode cX11_man 95 = .ok (.iconst 0, 1) := by decide +kernel
theorem dX11_man_96 : decode cX11_man 96 = .ok (.baload, 1) := by decide +kernel
theorem dX11_man_97 : decode cX11_man 97 = .ok (.bipush 97, 2) := by decide +kernel
theorem dX11_man_99 : decode cX11_man 99 = .ok (.isub, 1) := by decide +kernel
theorem dX11_man_100 : decode cX11_man 100 = .ok (.iastore, 1) := by decide +kernel
theorem dX11_man_101 : decode cX11_man 101 = .ok (.aload_n 0, 1) := by decide +kernel
theorem dX11_man_102 : decode cX11_man 102 = .ok (.getfield 17, 3) := by decide +kernel
theorem dX11_man_105 : decode cX11_man 105 = .ok (.aload_n 0, 1) := by decide +kernel
theorem dX11_man_106 : decode cX11_man 106 = .ok (.getfield 244, 3) := by decide +kernel
theorem dX11_man_109 : decode cX11_man 109 = .ok (.iload_n 1, 1) := by decide +kernel
theorem dX11_man_110 : decode cX11_man 110 = .ok (.iastore, 1) := by decide +kernel
theorem dX11_man_111 : decode cX11_man 111 = .ok (.aload_n 0, 1) := by decide +kernel
theorem dX11_man_112 : decode cX11_man 112 = .ok (.getfield 20, 3) := by decide +kernel
theorem dX11_man_115 : decode cX11_man 115 = .ok (.aload_n 0, 1) := by decide +kernel
theorem dX11_man_116 : decode cX11_man 116 = .ok (.getfield 244, 3) := by decide +kernel
theorem dX11_man_119 : decode cX11_man 119 = .ok (.iload_n 2, 1) := by decide +kernel
theorem dX11_man_120 : decode cX11_man 120 = .ok (.iastore, 1) := by decide +kernel
theorem dX11_man_121 : decode cX11_man 121 = .ok (.aload_n 0, 1) := by decide +kernel
theorem dX11_man_122 : decode cX11_man 122 = .ok (.dup, 1) := by decide +kernel
theorem dX11_man_123 : decode cX11_man 123 = .ok (.getfield 244, 3) := by decide +kernel
theorem dX11_man_126 : decode cX11_man 126 = .ok (.iconst 1, 1) := by decide +kernel
theorem dX11_man_127 : decode cX11_man 127 = .ok (.iadd, 1) := by decide +kernel
theorem dX11_man_128 : decode cX11_man 128 = .ok (.putfield 244, 3) := by decide +kernel
theorem dX11_man_131 : decode cX11_man 131 = .ok (.aload_n 0, 1) := by decide +kernel
theorem dX11_man_132 : decode cX11_man 132 = .ok (.getfield 244, 3) := by decide +kernel
theorem dX11_man_135 : decode cX11_man 135 = .ok (.iconst 1, 1) := by decide +kernel
theorem dX11_man_136 : decode cX11_man 136 = .ok (.isub, 1) := by decide +kernel
theorem dX11_man_137 : decode cX11_man 137 = .ok (.ireturn, 1) := by decide +kernel
theorem dX11_birth_0 : decode cX11_birth 0 = .ok (.aload_n 0, 1) := by decide +kernel
theorem dX11_birth_1 : decode cX11_birth 1 = .ok (.iconst 0, 1) := by decide +kernel
theorem dX11_birth_2 : decode cX11_birth 2 = .ok (.putfield 221, 3) := by decide +kernel
theorem dX11_birth_5 : decode cX11_birth 5 = .ok (.aload_n 0, 1) := by decide +kernel
theorem dX11_birth_6 : decode cX11_birth 6 = .ok (.iload_n 1, 1) := by decide +kernel
theorem dX11_birth_7 : decode cX11_birth 7 = .ok (.invokevirtual 254, 3) := by decide +kernel
theorem dX11_birth_10 : decode cX11_birth 10 = .ok (.ifCond .eq 33, 3) := by decide +kernel
theorem dX11_birth_13 : decode cX11_birth 13 = .ok (.iload_n 2, 1) := by decide +kernel
theorem dX11_birth_14 : decode cX11_birth 14 = .ok (.bipush (-60), 2) := by decide +kernel
theorem dX11_birth_16 : decode cX11_birth 16 = .ok (.bipush 9, 2) := by decide +kernel
theorem dX11_birth_18 : decode cX11_birth 18 = .ok (.invokestatic 237, 3) := by decide +kernel
theorem dX11_birth_21 : decode cX11_birth 21 = .ok (.ifCond .eq 22, 3) := by decide +kernel
theorem dX11_birth_24 : decode cX11_birth 24 = .ok (.iload_n 3, 1) := by decide +kernel
theorem dX11_birth_25 : decode cX11_birth 25 = .ok (.iconst 0, 1) := by decide +kernel
theorem dX11_birth_26 : decode cX11_birth 26 = .ok (.bipush 51, 2) := by decide +kernel
theorem dX11_birth_28 : decode cX11_birth 28 = .ok (.invokestatic 237, 3) := by decide +kernel
theorem dX11_birth_31 : decode cX11_birth 31 = .ok (.ifCond .eq 12, 3) := by decide +kernel
theorem dX11_birth_34 : decode cX11_birth 34 = .ok (.aload_n 0, 1) := by decide +kernel
theorem dX11_birth_35 : decode cX11_birth 35 = .ok (.getfield 257, 3) := by decide +kernel
theorem dX11_birth_38 : decode cX11_birth 38 = .ok (.bipush 100, 2) := by decide +kernel
theorem dX11_birth_40 : decode cX11_birth 40 = .ok (.if_icmp .ne 5, 3) := by decide +kernel
theorem dX11_birth_43 : decode cX11_birth 43 = .ok (.iconst 0, 1) := by decide +kernel
theorem dX11_birth_44 : decode cX11_birth 44 = .ok (.ireturn, 1) := by decide +kernel
theorem dX11_birth_45 : decode cX11_birth 45 = .ok (.aload_n 0, 1) := by decide +kernel
theorem dX11_birth_46 : decode cX11_birth 46 = .ok (.getfield 23, 3) := by decide +kernel
theorem dX11_birth_49 : decode cX11_birth 49 = .ok (.aload_n 0, 1) := by decide +kernel
theorem dX11_birth_50 : decode cX11_birth 50 = .ok (.getfield 257, 3) := by decide +kernel
theorem dX11_birth_53 : decode cX11_birth 53 = .ok (.iload_n 1, 1) := by decide +kernel
theorem dX11_birth_54 : decode cX11_birth 54 = .ok (.iastore, 1) := by decide +kernel
theorem dX11_birth_55 : decode cX11_birth 55 = .ok (.aload_n 0, 1) := by decide +kernel
theorem dX11_birth_56 : decode cX11_birth 56 = .ok (.getfield 26, 3) := by decide +kernel
theorem dX11_birth_59 : decode cX11_birth 59 = .ok (.aload_n 0, 1) := by decide +kernel
theorem dX11_birth_60 : decode cX11_birth 60 = .ok (.getfield 257, 3) := by decide +kernel
theorem dX11_birth_63 : decode cX11_birth 63 = .ok (.bipush 52, 2) := by decide +kernel
theorem dX11_birth_65 : decode cX11_birth 65 = .ok (.iload_n 2, 1) := by decide +kernel
theorem dX11_birth_66 : decode cX11_birth 66 = .ok (.imul, 1) := by decide +kernel
theorem dX11_birth_67 : decode cX11_birth 67 = .ok (.iload_n 3, 1) := by decide +kernel
theorem dX11_birth_68 : decode cX11_birth 68 = .ok (.iadd, 1) := by decide +kernel
theorem dX11_birth_69 : decode cX11_birth 69 = .ok (.iastore, 1) := by decide +kernel
theorem dX11_birth_70 : decode cX11_birth 70 = .ok (.aload_n 0, 1) := by decide +kernel
theorem dX11_birth_71 : decode cX11_birth 71 = .ok (.getfield 29, 3) := by decide +kernel
theorem dX11_birth_74 : decode cX11_birth 74 = .ok (.aload_n 0, 1) := by decide +kernel
theorem dX11_birth_75 : decode cX11_birth 75 = .ok (.getfield 257, 3) := by decide +kernel
theorem dX11_birth_78 : decode cX11_birth 78 = .ok (.aload_n 0, 1) := by decide +kernel
theorem dX11_birth_79 : decode cX11_birth 79 = .ok (.getfield 241, 3) := by decide +kernel
theorem dX11_birth_82 : decode cX11_birth 82 = .ok (.iastore, 1) := by decide +kernel
theorem dX11_birth_83 : decode cX11_birth 83 = .ok (.aload_n 0, 1) := by decide +kernel
theorem dX11_birth_84 : decode cX11_birth 84 = .ok (.dup, 1) := by decide +kernel
theorem dX11_birth_85 : decode cX11_birth 85 = .ok (.getfield 257, 3) := by decide +kernel
theorem dX11_birth_88 : decode cX11_birth 88 = .ok (.iconst 1, 1) := by decide +kernel
theorem dX11_birth_89 : decode cX11_birth 89 = .ok (.iadd, 1) := by decide +kernel
theorem dX11_birth_90 : decode cX11_birth 90 = .ok (.putfield 257, 3) := by decide +kernel
theorem dX11_birth_93 : decode cX11_birth 93 = .ok (.iconst 1, 1) := by decide +kernel
theorem dX11_birth_94 : decode cX11_birth 94 = .ok (.ireturn, 1) := by decide +kernel
theorem dX11_fact_0 : decode cX11_fact 0 = .ok (.aload_n 0, 1) := by decide +kernel
theorem dX11_fact_1 : decode cX11_fact 1 = .ok (.iconst 0, 1) := by decide +kernel
theorem dX11_fact_2 : decode cX11_fact 2 = .ok (.putfield 221, 3) := by decide +kernel
theorem dX11_fact_5 : decode cX11_fact 5 = .ok (.aload_n 0, 1) := by decide +kernel
theorem dX11_fact_6 : decode cX11_fact 6 = .ok (.iload_n 1, 1) := by decide +kernel
theorem dX11_fact_7 : decode cX11_fact 7 = .ok (.invokevirtual 254, 3) := by decide +kernel
theorem dX11_fact_10 : decode cX11_fact 10 = .ok (.ifCond .eq 77, 3) := by decide +kernel
theorem dX11_fact_13 : decode cX11_fact 13 = .ok (.iload_n 2, 1) := by decide +kernel
theorem dX11_fact_14 : decode cX11_fact 14 = .ok (.iconst 0, 1) := by decide +kernel
theorem dX11_fact_15 : decode cX11_fact 15 = .ok (.iconst 5, 1) := by decide +kernel
theorem dX11_fact_16 : decode cX11_fact 16 = .ok (.invokestatic 237, 3) := by decide +kernel
theorem dX11_fact_19 : decode cX11_fact 19 = .ok (.ifCond .eq 68, 3) := by decide +kernel
theorem dX11_fact_22 : decode cX11_fact 22 = .ok (.iload_n 3, 1) := by decide +kernel
theorem dX11_fact_23 : decode cX11_fact 23 = .ok (.iconst 0, 1) := by decide +kernel
theorem dX11_fact_24 : decode cX11_fact 24 = .ok (.iload_n 2, 1) := by decide +kernel
theorem dX11_fact_25 : decode cX11_fact 25 = .ok (.iconst 2, 1) := by decide +kernel
theorem dX11_fact_26 : decode cX11_fact 26 = .ok (.if_icmp .ge 8, 3) := by decide +kernel
theorem dX11_fact_29 : decode cX11_fact 29 = .ok (.bipush 9, 2) := by decide +kernel
theorem dX11_fact_31 : decode cX11_fact 31 = .ok (.goto 15, 3) := by decide +kernel
theorem dX11_fact_34 : decode cX11_fact 34 = .ok (.iload_n 2, 1) := by decide +kernel
theorem dX11_fact_35 : decode cX11_fact 35 = .ok (.iconst 5, 1) := by decide +kernel
theorem dX11_fact_36 : decode cX11_fact 36 = .ok (.if_icmp .ge 7, 3) := by decide +kernel
theorem dX11_fact_39 : decode cX11_fact 39 = .ok (.iconst 1, 1) := by decide +kernel
theorem dX11_fact_40 : decode cX11_fact 40 = .ok (.goto 6, 3) := by decide +kernel
theorem dX11_fact_43 : decode cX11_fact 43 = .ok (.sipush 250, 3) := by decide +kernel
theorem dX11_fact_46 : decode cX11_fact 46 = .ok (.invokestatic 237, 3) := by decide +kernel
theorem dX11_fact_49 : decode cX11_fact 49 = .ok (.ifCond .eq 38, 3) := by decide +kernel
theorem dX11_fact_52 : decode cX11_fact 52 = .ok (.iload 4, 2) := by decide +kernel
theorem dX11_fact_54 : decode cX11_fact 54 = .ok (.iconst 0, 1) := by decide +kernel
theorem dX11_fact_55 : decode cX11_fact 55 = .ok (.sipush 3639, 3) := by decide +kernel
theorem dX11_fact_58 : decode cX11_fact 58 = .ok (.invokestatic 237, 3) := by decide +kernel
theorem dX11_fact_61 : decode cX11_fact 61 = .ok (.ifCond .eq 26, 3) := by decide +kernel
theorem dX11_fact_64 : decode cX11_fact 64 = .ok (.iload 5, 2) := by decide +kernel
theorem dX11_fact_66 : decode cX11_fact 66 = .ok (.iload 4, 2) := by decide +kernel
theorem dX11_fact_68 : decode cX11_fact 68 = .ok (.sipush 3639, 3) := by decide +kernel
theorem dX11_fact_71 : decode cX11_fact 71 = .ok (.invokestatic 237, 3) := by decide +kernel
theorem dX11_fact_74 : decode cX11_fact 74 = .ok (.ifCond .eq 13, 3) := by decide +kernel
theorem dX11_fact_77 : decode cX11_fact 77 = .ok (.aload_n 0, 1) := by decide +kernel
theorem dX11_fact_78 : decode cX11_fact 78 = .ok (.getfield 260, 3) := by decide +kernel
theorem dX11_fact_81 : decode cX11_fact 81 = .ok (.sipush 240, 3) := by decide +kernel
theorem dX11_fact_84 : decode cX11_fact 84 = .ok (.if_icmp .ne 5, 3) := by decide +kernel
theorem dX11_fact_87 : decode cX11_fact 87 = .ok (.iconst 0, 1) := by decide +kernel
theorem dX11_fact_88 : decode cX11_fact 88 = .ok (.ireturn, 1) := by decide +kernel
theorem dX11_fact_89 : decode cX11_fact 89 = .ok (.aload_n 0, 1) := by decide +kernel
theorem dX11_fact_90 : decode cX11_fact 90 = .ok (.getfield 32, 3) := by decide +kernel
theorem dX11_fact_93 : decode cX11_fact 93 = .ok (.aload_n 0, 1) := by decide +kernel
theorem dX11_fact_94 : decode cX11_fact 94 = .ok (.getfield 260, 3) := by decide +kernel
theorem dX11_fact_97 : decode cX11_fact 97 = .ok (.iload_n 1, 1) := by decide +kernel
theorem dX11_fact_98 : decode cX11_fact 98 = .ok (.iastore, 1) := by decide +kernel
theorem dX11_fact_99 : decode cX11_fact 99 = .ok (.aload_n 0, 1) := by decide +kernel
theorem dX11_fact_100 : decode cX11_fact 100 = .ok (.getfield 35, 3) := by decide +kernel
theorem dX11_fact_103 : decode cX11_fact 103 = .ok (.aload_n 0, 1) := by decide +kernel
theorem dX11_fact_104 : decode cX11_fact 104 = .ok (.getfield 260, 3) := by decide +kernel
theorem dX11_fact_107 : decode cX11_fact 107 = .ok (.iload_n 2, 1) := by decide +kernel
theorem dX11_fact_108 : decode cX11_fact 108 = .ok (.iastore, 1) := by decide +kernel
theorem dX11_fact_109 : decode cX11_fact 109 = .ok (.aload_n 0, 1) := by decide +kernel
theorem dX11_fact_110 : decode cX11_fact 110 = .ok (.getfield 38, 3) := by decide +kernel
theorem dX11_fact_113 : decode cX11_fact 113 = .ok (.aload_n 0, 1) := by decide +kernel
theorem dX11_fact_114 : decode cX11_fact 114 = .ok (.getfield 260, 3) := by decide +kernel
theorem dX11_fact_117 : decode cX11_fact 117 = .ok (.iload_n 3, 1) := by decide +kernel
theorem dX11_fact_118 : decode cX11_fact 118 = .ok (.iastore, 1) := by decide +kernel
theorem dX11_fact_119 : decode cX11_fact 119 = .ok (.aload_n 0, 1) := by decide +kernel
theorem dX11_fact_120 : decode cX11_fact 120 = .ok (.getfield 41, 3) := by decide +kernel
theorem dX11_fact_123 : decode cX11_fact 123 = .ok (.aload_n 0, 1) := by decide +kernel
theorem dX11_fact_124 : decode cX11_fact 124 = .ok (.getfield 260, 3) := by decide +kernel
theorem dX11_fact_127 : decode cX11_fact 127 = .ok (.iload 4, 2) := by decide +kernel
theorem dX11_fact_129 : decode cX11_fact 129 = .ok (.iastore, 1) := by decide +kernel
theorem dX11_fact_130 : decode cX11_fact 130 = .ok (.aload_n 0, 1) := by decide +kernel
theorem dX11_fact_131 : decode cX11_fact 131 = .ok (.getfield 44, 3) := by decide +kernel
theorem dX11_fact_134 : decode cX11_fact 134 = .ok (.aload_n 0, 1) := by decide +kernel
theorem dX11_fact_135 : decode cX11_fact 135 = .ok (.getfield 260, 3) := by decide +kernel
theorem dX11_fact_138 : decode cX11_fact 138 = .ok (.iload 5, 2) := by decide +kernel
theorem dX11_fact_140 : decode cX11_fact 140 = .ok (.iastore, 1) := by decide +kernel
theorem dX11_fact_141 : decode cX11_fact 141 = .ok (.aload_n 0, 1) := by decide +kernel
theorem dX11_fact_142 : decode cX11_fact 142 = .ok (.getfield 47, 3) := by decide +kernel
theorem dX11_fact_145 : decode cX11_fact 145 = .ok (.aload_n 0, 1) := by decide +kernel
theorem dX11_fact_146 : decode cX11_fact 146 = .ok (.getfield 260, 3) := by decide +kernel
theorem dX11_fact_149 : decode cX11_fact 149 = .ok (.aload_n 0, 1) := by decide +kernel
theorem dX11_fact_150 : decode cX11_fact 150 = .ok (.getfield 241, 3) := by decide +kernel
theorem dX11_fact_153 : decode cX11_fact 153 = .ok (.iastore, 1) := by decide +kernel
theorem dX11_fact_154 : decode cX11_fact 154 = .ok (.aload_n 0, 1) := by decide +kernel
theorem dX11_fact_155 : decode cX11_fact 155 = .ok (.dup, 1) := by decide +kernel
theorem dX11_fact_156 : decode cX11_fact 156 = .ok (.getfield 260, 3) := by decide +kernel
theorem dX11_fact_159 : decode cX11_fact 159 = .ok (.iconst 1, 1) := by decide +kernel
theorem dX11_fact_160 : decode cX11_fact 160 = .ok (.iadd, 1) := by decide +kernel
theorem dX11_fact_161 : decode cX11_fact 161 = .ok (.putfield 260, 3) := by decide +kernel
theorem dX11_fact_164 : decode cX11_fact 164 = .ok (.iconst 1, 1) := by decide +kernel
theorem dX11_fact_165 : decode cX11_fact 165 = .ok (.ireturn, 1) := by decide +kernel
theorem dX11_exam_0 : decode cX11_exam 0 = .ok (.aload_n 0, 1) := by decide +kernel
theorem dX11_exam_1 : decode cX11_exam 1 = .ok (.iconst 0, 1) := by decide +kernel
theorem dX11_exam_2 : decode cX11_exam 2 = .ok (.putfield 221, 3) := by decide +kernel
theorem dX11_exam_5 : decode cX11_exam 5 = .ok (.aload_n 0, 1) := by decide +kernel
theorem dX11_exam_6 : decode cX11_exam 6 = .ok (.iload_n 1, 1) := by decide +kernel
theorem dX11_exam_7 : decode cX11_exam 7 = .ok (.invokevirtual 254, 3) := by decide +kernel
theorem dX11_exam_10 : decode cX11_exam 10 = .ok (.ifCond .eq 32, 3) := by decide +kernel
theorem dX11_exam_13 : decode cX11_exam 13 = .ok (.iload_n 2, 1) := by decide +kernel
theorem dX11_exam_14 : decode cX11_exam 14 = .ok (.iconst 0, 1) := by decide +kernel
theorem dX11_exam_15 : decode cX11_exam 15 = .ok (.bipush 7, 2) := by decide +kernel
theorem dX11_exam_17 : decode cX11_exam 17 = .ok (.invokestatic 237, 3) := by decide +kernel
theorem dX11_exam_20 : decode cX11_exam 20 = .ok (.ifCond .eq 22, 3) := by decide +kernel
theorem dX11_exam_23 : decode cX11_exam 23 = .ok (.iload_n 3, 1) := by decide +kernel
theorem dX11_exam_24 : decode cX11_exam 24 = .ok (.iconst 0, 1) := by decide +kernel
theorem dX11_exam_25 : decode cX11_exam 25 = .ok (.bipush 9, 2) := by decide +kernel
theorem dX11_exam_27 : decode cX11_exam 27 = .ok (.invokestatic 237, 3) := by decide +kernel
theorem dX11_exam_30 : decode cX11_exam 30 = .ok (.ifCond .eq 12, 3) := by decide +kernel
theorem dX11_exam_33 : decode cX11_exam 33 = .ok (.aload_n 0, 1) := by decide +kernel
theorem dX11_exam_34 : decode cX11_exam 34 = .ok (.getfield 263, 3) := by decide +kernel
theorem dX11_exam_37 : decode cX11_exam 37 = .ok (.bipush 60, 2) := by decide +kernel
theorem dX11_exam_39 : decode cX11_exam 39 = .ok (.if_icmp .ne 5, 3) := by decide +kernel
theorem dX11_exam_42 : decode cX11_exam 42 = .ok (.iconst 0, 1) := by decide +kernel
theorem dX11_exam_43 : decode cX11_exam 43 = .ok (.ireturn, 1) := by decide +kernel
theorem dX11_exam_44 : decode cX11_exam 44 = .ok (.aload_n 0, 1) := by decide +kernel
theorem dX11_exam_45 : decode cX11_exam 45 = .ok (.getfield 50, 3) := by decide +kernel
theorem dX11_exam_48 : decode cX11_exam 48 = .ok (.aload_n 0, 1) := by decide +kernel
theorem dX11_exam_49 : decode cX11_exam 49 = .ok (.getfield 263, 3) := by decide +kernel
theorem dX11_exam_52 : decode cX11_exam 52 = .ok (.iload_n 1, 1) := by decide +kernel
theorem dX11_exam_53 : decode cX11_exam 53 = .ok (.iastore, 1) := by decide +kernel
theorem dX11_exam_54 : decode cX11_exam 54 = .ok (.aload_n 0, 1) := by decide +kernel
theorem dX11_exam_55 : decode cX11_exam 55 = .ok (.getfield 53, 3) := by decide +kernel
theorem dX11_exam_58 : decode cX11_exam 58 = .ok (.aload_n 0, 1) := by decide +kernel
theorem dX11_exam_59 : decode cX11_exam 59 = .ok (.getfield 263, 3) := by decide +kernel
theorem dX11_exam_62 : decode cX11_exam 62 = .ok (.iload_n 2, 1) := by decide +kernel
theorem dX11_exam_63 : decode cX11_exam 63 = .ok (.iastore, 1) := by decide +kernel
theorem dX11_exam_64 : decode cX11_exam 64 = .ok (.aload_n 0, 1) := by decide +kernel
theorem dX11_exam_65 : decode cX11_exam 65 = .ok (.getfield 56, 3) := by decide +kernel
theorem dX11_exam_68 : decode cX11_exam 68 = .ok (.aload_n 0, 1) := by decide +kernel
theorem dX11_exam_69 : decode cX11_exam 69 = .ok (.getfield 263, 3) := by decide +kernel
theorem dX11_exam_72 : decode cX11_exam 72 = .ok (.iload_n 3, 1) := by decide +kernel
theorem dX11_exam_73 : decode cX11_exam 73 = .ok (.iastore, 1) := by decide +kernel
theorem dX11_exam_74 : decode cX11_exam 74 = .ok (.aload_n 0, 1) := by decide +kernel
theorem dX11_exam_75 : decode cX11_exam 75 = .ok (.getfield 59, 3) := by decide +kernel
theorem dX11_exam_78 : decode cX11_exam 78 = .ok (.aload_n 0, 1) := by decide +kernel
theorem dX11_exam_79 : decode cX11_exam 79 = .ok (.getfield 263, 3) := by decide +kernel
theorem dX11_exam_82 : decode cX11_exam 82 = .ok (.aload_n 0, 1) := by decide +kernel
theorem dX11_exam_83 : decode cX11_exam 83 = .ok (.getfield 241, 3) := by decide +kernel
theorem dX11_exam_86 : decode cX11_exam 86 = .ok (.iastore, 1) := by decide +kernel
theorem dX11_exam_87 : decode cX11_exam 87 = .ok (.aload_n 0, 1) := by decide +kernel
theorem dX11_exam_88 : decode cX11_exam 88 = .ok (.dup, 1) := by decide +kernel
theorem dX11_exam_89 : decode cX11_exam 89 = .ok (.getfield 263, 3) := by decide +kernel
theorem dX11_exam_92 : decode cX11_exam 92 = .ok (.iconst 1, 1) := by decide +kernel
theorem dX11_exam_93 : decode cX11_exam 93 = .ok (.iadd, 1) := by decide +kernel
theorem dX11_exam_94 : decode cX11_exam 94 = .ok (.putfield 263, 3) := by decide +kernel
theorem dX11_exam_97 : decode cX11_exam 97 = .ok (.iconst 1, 1) := by decide +kernel
theorem dX11_exam_98 : decode cX11_exam 98 = .ok (.ireturn, 1) := by decide +kernel
theorem dX11_same_0 : decode cX11_same 0 = .ok (.aload_n 0, 1) := by decide +kernel
theorem dX11_same_1 : decode cX11_same 1 = .ok (.iconst 0, 1) := by decide +kernel
theorem dX11_same_2 : decode cX11_same 2 = .ok (.putfield 221, 3) := by decide +kernel
theorem dX11_same_5 : decode cX11_same 5 = .ok (.aload_n 0, 1) := by decide +kernel
theorem dX11_same_6 : decode cX11_same 6 = .ok (.iload_n 1, 1) := by decide +kernel
theorem dX11_same_7 : decode cX11_same 7 = .ok (.invokevirtual 254, 3) := by decide +kernel
theorem dX11_same_10 : decode cX11_same 10 = .ok (.ifCond .eq 25, 3) := by decide +kernel
theorem dX11_same_13 : decode cX11_same 13 = .ok (.aload_n 0, 1) := by decide +kernel
theorem dX11_same_14 : decode cX11_same 14 = .ok (.iload_n 2, 1) := by decide +kernel
theorem dX11_same_15 : decode cX11_same 15 = .ok (.invokevirtual 254, 3) := by decide +kernel
theorem dX11_same_18 : decode cX11_same 18 = .ok (.ifCond .eq 17, 3) := by decide +kernel
theorem dX11_same_21 : decode cX11_same 21 = .ok (.iload_n 1, 1) := by decide +kernel
theorem dX11_same_22 : decode cX11_same 22 = .ok (.iload_n 2, 1) := by decide +kernel
theorem dX11_same_23 : decode cX11_same 23 = .ok (.if_icmp .eq 12, 3) := by decide +kernel
theorem dX11_same_26 : decode cX11_same 26 = .ok (.aload_n 0, 1) := by decide +kernel
theorem dX11_same_27 : decode cX11_same 27 = .ok (.getfield 266, 3) := by decide +kernel
theorem dX11_same_30 : decode cX11_same 30 = .ok (.bipush 40, 2) := by decide +kernel
theorem dX11_same_32 : decode cX11_same 32 = .ok (.if_icmp .ne 5, 3) := by decide +kernel
theorem dX11_same_35 : decode cX11_same 35 = .ok (.iconst 0, 1) := by decide +kernel
theorem dX11_same_36 : decode cX11_same 36 = .ok (.ireturn, 1) := by decide +kernel
theorem dX11_same_37 : decode cX11_same 37 = .ok (.aload_n 0, 1) := by decide +kernel
theorem dX11_same_38 : decode cX11_same 38 = .ok (.getfield 62, 3) := by decide +kernel
theorem dX11_same_41 : decode cX11_same 41 = .ok (.aload_n 0, 1) := by decide +kernel
theorem dX11_same_42 : decode cX11_same 42 = .ok (.getfield 266, 3) := by decide +kernel
theorem dX11_same_45 : decode cX11_same 45 = .ok (.iload_n 1, 1) := by decide +kernel
theorem dX11_same_46 : decode cX11_same 46 = .ok (.iastore, 1) := by decide +kernel
theorem dX11_same_47 : decode cX11_same 47 = .ok (.aload_n 0, 1) := by decide +kernel
theorem dX11_same_48 : decode cX11_same 48 = .ok (.getfield 65, 3) := by decide +kernel
theorem dX11_same_51 : decode cX11_same 51 = .ok (.aload_n 0, 1) := by decide +kernel
theorem dX11_same_52 : decode cX11_same 52 = .ok (.getfield 266, 3) := by decide +kernel
theorem dX11_same_55 : decode cX11_same 55 = .ok (.iload_n 2, 1) := by decide +kernel
theorem dX11_same_56 : decode cX11_same 56 = .ok (.iastore, 1) := by decide +kernel
theorem dX11_same_57 : decode cX11_same 57 = .ok (.aload_n 0, 1) := by decide +kernel
theorem dX11_same_58 : decode cX11_same 58 = .ok (.getfield 68, 3) := by decide +kernel
theorem dX11_same_61 : decode cX11_same 61 = .ok (.aload_n 0, 1) := by decide +kernel
theorem dX11_same_62 : decode cX11_same 62 = .ok (.getfield 266, 3) := by decide +kernel
theorem dX11_same_65 : decode cX11_same 65 = .ok (.aload_n 0, 1) := by decide +kernel
theorem dX11_same_66 : decode cX11_same 66 = .ok (.getfield 241, 3) := by decide +kernel
theorem dX11_same_69 : decode cX11_same 69 = .ok (.iastore, 1) := by decide +kernel
theorem dX11_same_70 : decode cX11_same 70 = .ok (.aload_n 0, 1) := by decide +kernel
theorem dX11_same_71 : decode cX11_same 71 = .ok (.dup, 1) := by decide +kernel
theorem dX11_same_72 : decode cX11_same 72 = .ok (.getfield 266, 3) := by decide +kernel
theorem dX11_same_75 : decode cX11_same 75 = .ok (.iconst 1, 1) := by decide +kernel
theorem dX11_same_76 : decode cX11_same 76 = .ok (.iadd, 1) := by decide +kernel
theorem dX11_same_77 : decode cX11_same 77 = .ok (.putfield 266, 3) := by decide +kernel
theorem dX11_same_80 : decode cX11_same 80 = .ok (.iconst 1, 1) := by decide +kernel
theorem dX11_same_81 : decode cX11_same 81 = .ok (.ireturn, 1) := by decide +kernel
theorem dX11_peek_0 : decode cX11_peek 0 = .ok (.aload_n 0, 1) := by decide +kernel
theorem dX11_peek_1 : decode cX11_peek 1 = .ok (.getfield 234, 3) := by decide +kernel
theorem dX11_peek_4 : decode cX11_peek 4 = .ok (.aload_n 0, 1) := by decide +kernel
theorem dX11_peek_5 : decode cX11_peek 5 = .ok (.getfield 231, 3) := by decide +kernel
theorem dX11_peek_8 : decode cX11_peek 8 = .ok (.if_icmp .ge 19, 3) := by decide +kernel
theorem dX11_peek_11 : decode cX11_peek 11 = .ok (.aload_n 0, 1) := by decide +kernel
theorem dX11_peek_12 : decode cX11_peek 12 = .ok (.getfield 7, 3) := by decide +kernel
theorem dX11_peek_15 : decode cX11_peek 15 = .ok (.aload_n 0, 1) := by decide +kernel
theorem dX11_peek_16 : decode cX11_peek 16 = .ok (.getfield 234, 3) := by decide +kernel
theorem dX11_peek_19 : decode cX11_peek 19 = .ok (.baload, 1) := by decide +kernel
theorem dX11_peek_20 : decode cX11_peek 20 = .ok (.sipush 255, 3) := by decide +kernel
theorem dX11_peek_23 : decode cX11_peek 23 = .ok (.iand, 1) := by decide +kernel
theorem dX11_peek_24 : decode cX11_peek 24 = .ok (.goto 4, 3) := by decide +kernel
theorem dX11_peek_27 : decode cX11_peek 27 = .ok (.iconst (-1), 1) := by decide +kernel
theorem dX11_peek_28 : decode cX11_peek 28 = .ok (.ireturn, 1) := by decide +kernel
theorem dX11_isSmall_0 : decode cX11_isSmall 0 = .ok (.iload_n 0, 1) := by decide +kernel
theorem dX11_isSmall_1 : decode cX11_isSmall 1 = .ok (.bipush 97, 2) := by decide +kernel
theorem dX11_isSmall_3 : decode cX11_isSmall 3 = .ok (.if_icmp .lt 13, 3) := by decide +kernel
theorem dX11_isSmall_6 : decode cX11_isSmall 6 = .ok (.iload_n 0, 1) := by decide +kernel
theorem dX11_isSmall_7 : decode cX11_isSmall 7 = .ok (.bipush 122, 2) := by decide +kernel
theorem dX11_isSmall_9 : decode cX11_isSmall 9 = .ok (.if_icmp .gt 7, 3) := by decide +kernel
theorem dX11_isSmall_12 : decode cX11_isSmall 12 = .ok (.iconst 1, 1) := by decide +kernel
theorem dX11_isSmall_13 : decode cX11_isSmall 13 = .ok (.goto 4, 3) := by decide +kernel
theorem dX11_isSmall_16 : decode cX11_isSmall 16 = .ok (.iconst 0, 1) := by decide +kernel
theorem dX11_isSmall_17 : decode cX11_isSmall 17 = .ok (.ireturn, 1) := by decide +kernel
theorem dX11_isDigit_0 : decode cX11_isDigit 0 = .ok (.iload_n 0, 1) := by decide +kernel
theorem dX11_isDigit_1 : decode cX11_isDigit 1 = .ok (.bipush 48, 2) := by decide +kernel
theorem dX11_isDigit_3 : decode cX11_isDigit 3 = .ok (.if_icmp .lt 13, 3) := by decide +kernel
theorem dX11_isDigit_6 : decode cX11_isDigit 6 = .ok (.iload_n 0, 1) := by decide +kernel
theorem dX11_isDigit_7 : decode cX11_isDigit 7 = .ok (.bipush 57, 2) := by decide +kernel
theorem dX11_isDigit_9 : decode cX11_isDigit 9 = .ok (.if_icmp .gt 7, 3) := by decide +kernel
theorem dX11_isDigit_12 : decode cX11_isDigit 12 = .ok (.iconst 1, 1) := by decide +kernel
theorem dX11_isDigit_13 : decode cX11_isDigit 13 = .ok (.goto 4, 3) := by decide +kernel
theorem dX11_isDigit_16 : decode cX11_isDigit 16 = .ok (.iconst 0, 1) := by decide +kernel
theorem dX11_isDigit_17 : decode cX11_isDigit 17 = .ok (.ireturn, 1) := by decide +kernel
theorem dX11_next__0 : decode cX11_next_ 0 = .ok (.aload_n 0, 1) := by decide +kernel
theorem dX11_next__1 : decode cX11_next_ 1 = .ok (.invokevirtual 269, 3) := by decide +kernel
theorem dX11_next__4 : decode cX11_next_ 4 = .ok (.bipush 32, 2) := by decide +kernel
theorem dX11_next__6 : decode cX11_next_ 6 = .ok (.if_icmp .eq 12, 3) := by decide +kernel
theorem dX11_next__9 : decode cX11_next_ 9 = .ok (.aload_n 0, 1) := by decide +kernel
theorem dX11_next__10 : decode cX11_next_ 10 = .ok (.invokevirtual 269, 3) := by decide +kernel
theorem dX11_next__13 : decode cX11_next_ 13 = .ok (.bipush 10, 2) := by decide +kernel
theorem dX11_next__15 : decode cX11_next_ 15 = .ok (.if_icmp .ne 16, 3) := by decide +kernel
theorem dX11_next__18 : decode cX11_next_ 18 = .ok (.aload_n 0, 1) := by decide +kernel
theorem dX11_next__19 : decode cX11_next_ 19 = .ok (.dup, 1) := by decide +kernel
theorem dX11_next__20 : decode cX11_next_ 20 = .ok (.getfield 234, 3) := by decide +kernel
theorem dX11_next__23 : decode cX11_next_ 23 = .ok (.iconst 1, 1) := by decide +kernel
theorem dX11_next__24 : decode cX11_next_ 24 = .ok (.iadd, 1) := by decide +kernel
theorem dX11_next__25 : decode cX11_next_ 25 = .ok (.putfield 234, 3) := by decide +kernel
theorem dX11_next__28 : decode cX11_next_ 28 = .ok (.goto (-28), 3) := by decide +kernel
theorem dX11_next__31 : decode cX11_next_ 31 = .ok (.aload_n 0, 1) := by decide +kernel
theorem dX11_next__32 : decode cX11_next_ 32 = .ok (.aload_n 0, 1) := by decide +kernel
theorem dX11_next__33 : decode cX11_next_ 33 = .ok (.getfield 234, 3) := by decide +kernel
theorem dX11_next__36 : decode cX11_next_ 36 = .ok (.putfield 273, 3) := by decide +kernel
theorem dX11_next__39 : decode cX11_next_ 39 = .ok (.aload_n 0, 1) := by decide +kernel
theorem dX11_next__40 : decode cX11_next_ 40 = .ok (.iconst 0, 1) := by decide +kernel
theorem dX11_next__41 : decode cX11_next_ 41 = .ok (.putfield 276, 3) := by decide +kernel
theorem dX11_next__44 : decode cX11_next_ 44 = .ok (.aload_n 0, 1) := by decide +kernel
theorem dX11_next__45 : decode cX11_next_ 45 = .ok (.getfield 231, 3) := by decide +kernel
theorem dX11_next__48 : decode cX11_next_ 48 = .ok (.sipush 300, 3) := by decide +kernel
theorem dX11_next__51 : decode cX11_next_ 51 = .ok (.if_icmp .le 26, 3) := by decide +kernel
theorem dX11_next__54 : decode cX11_next_ 54 = .ok (.aload_n 0, 1) := by decide +kernel
theorem dX11_next__55 : decode cX11_next_ 55 = .ok (.getfield 234, 3) := by decide +kernel
theorem dX11_next__58 : decode cX11_next_ 58 = .ok (.sipush 300, 3) := by decide +kernel
theorem dX11_next__61 : decode cX11_next_ 61 = .ok (.if_icmp .lt 16, 3) := by decide +kernel
theorem dX11_next__64 : decode cX11_next_ 64 = .ok (.aload_n 0, 1) := by decide +kernel
theorem dX11_next__65 : decode cX11_next_ 65 = .ok (.sipush 300, 3) := by decide +kernel
theorem dX11_next__68 : decode cX11_next_ 68 = .ok (.putfield 273, 3) := by decide +kernel
theorem dX11_next__71 : decode cX11_next_ 71 = .ok (.aload_n 0, 1) := by decide +kernel
theorem dX11_next__72 : decode cX11_next_ 72 = .ok (.iconst 4, 1) := by decide +kernel
theorem dX11_next__73 : decode cX11_next_ 73 = .ok (.putfield 279, 3) := by decide +kernel
theorem dX11_next__76 : decode cX11_next_ 76 = .ok (.return_, 1) := by decide +kernel
theorem dX11_next__77 : decode cX11_next_ 77 = .ok (.aload_n 0, 1) := by decide +kernel
theorem dX11_next__78 : decode cX11_next_ 78 = .ok (.invokevirtual 269, 3) := by decide +kernel
theorem dX11_next__81 : decode cX11_next_ 81 = .ok (.istore_n 1, 1) := by decide +kernel
theorem dX11_next__82 : decode cX11_next_ 82 = .ok (.iload_n 1, 1) := by decide +kernel
theorem dX11_next__83 : decode cX11_next_ 83 = .ok (.ifCond .ge 9, 3) := by decide +kernel
theorem dX11_next__86 : decode cX11_next_ 86 = .ok (.aload_n 0, 1) := by decide +kernel
theorem dX11_next__87 : decode cX11_next_ 87 = .ok (.iconst 0, 1) := by decide +kernel
theorem dX11_next__88 : decode cX11_next_ 88 = .ok (.putfield 279, 3) := by decide +kernel
theorem dX11_next__91 : decode cX11_next_ 91 = .ok (.return_, 1) := by decide +kernel
theorem dX11_next__92 : decode cX11_next_ 92 = .ok (.iload_n 1, 1) := by decide +kernel
theorem dX11_next__93 : decode cX11_next_ 93 = .ok (.invokestatic 250, 3) := by decide +kernel
theorem dX11_next__96 : decode cX11_next_ 96 = .ok (.ifCond .ne 65, 3) := by decide +kernel
theorem dX11_next__99 : decode cX11_next_ 99 = .ok (.iload_n 1, 1) := by decide +kernel
theorem dX11_next__100 : decode cX11_next_ 100 = .ok (.invokestatic 282, 3) := by decide +kernel
theorem dX11_next__103 : decode cX11_next_ 103 = .ok (.ifCond .ne 58, 3) := by decide +kernel
theorem dX11_next__106 : decode cX11_next_ 106 = .ok (.aload_n 0, 1) := by decide +kernel
theorem dX11_next__107 : decode cX11_next_ 107 = .ok (.iload_n 1, 1) := by decide +kernel
theorem dX11_next__108 : decode cX11_next_ 108 = .ok (.bipush 59, 2) := by decide +kernel
theorem dX11_next__110 : decode cX11_next_ 110 = .ok (.if_icmp .eq 27, 3) := by decide +kernel
theorem dX11_next__113 : decode cX11_next_ 113 = .ok (.iload_n 1, 1) := by decide +kernel
theorem dX11_next__114 : decode cX11_next_ 114 = .ok (.bipush 40, 2) := by decide +kernel
theorem dX11_next__116 : decode cX11_next_ 116 = .ok (.if_icmp .eq 21, 3) := by decide +kernel
theorem dX11_next__119 : decode cX11_next_ 119 = .ok (.iload_n 1, 1) := by decide +kernel
theorem dX11_next__120 : decode cX11_next_ 120 = .ok (.bipush 41, 2) := by decide +kernel
theorem dX11_next__122 : decode cX11_next_ 122 = .ok (.if_icmp .eq 15, 3) := by decide +kernel
theorem dX11_next__125 : decode cX11_next_ 125 = .ok (.iload_n 1, 1) := by decide +kernel
theorem dX11_next__126 : decode cX11_next_ 126 = .ok (.bipush 60, 2) := by decide +kernel
theorem dX11_next__128 : decode cX11_next_ 128 = .ok (.if_icmp .lt 13, 3) := by decide +kernel
theorem dX11_next__131 : decode cX11_next_ 131 = .ok (.iload_n 1, 1) := by decide +kernel
theorem dX11_next__132 : decode cX11_next_ 132 = .ok (.bipush 62, 2) := by decide +kernel
theorem dX11_next__134 : decode cX11_next_ 134 = .ok (.if_icmp .gt 7, 3) := by decide +kernel
theorem dX11_next__137 : decode cX11_next_ 137 = .ok (.iconst 3, 1) := by decide +kernel
theorem dX11_next__138 : decode cX11_next_ 138 = .ok (.goto 4, 3) := by decide +kernel
theorem dX11_next__141 : decode cX11_next_ 141 = .ok (.iconst 4, 1) := by decide +kernel
theorem dX11_next__142 : decode cX11_next_ 142 = .ok (.putfield 279, 3) := by decide +kernel
theorem dX11_next__145 : decode cX11_next_ 145 = .ok (.aload_n 0, 1) := by decide +kernel
theorem dX11_next__146 : decode cX11_next_ 146 = .ok (.iload_n 1, 1) := by decide +kernel
theorem dX11_next__147 : decode cX11_next_ 147 = .ok (.putfield 285, 3) := by decide +kernel
theorem dX11_next__150 : decode cX11_next_ 150 = .ok (.aload_n 0, 1) := by decide +kernel
theorem dX11_next__151 : decode cX11_next_ 151 = .ok (.dup, 1) := by decide +kernel
theorem dX11_next__152 : decode cX11_next_ 152 = .ok (.getfield 234, 3) := by decide +kernel
theorem dX11_next__155 : decode cX11_next_ 155 = .ok (.iconst 1, 1) := by decide +kernel
theorem dX11_next__156 : decode cX11_next_ 156 = .ok (.iadd, 1) := by decide +kernel
theorem dX11_next__157 : decode cX11_next_ 157 = .ok (.putfield 234, 3) := by decide +kernel
theorem dX11_next__160 : decode cX11_next_ 160 = .ok (.return_, 1) := by decide +kernel
theorem dX11_next__161 : decode cX11_next_ 161 = .ok (.iload_n 1, 1) := by decide +kernel
theorem dX11_next__162 : decode cX11_next_ 162 = .ok (.invokestatic 250, 3) := by decide +kernel
theorem dX11_next__165 : decode cX11_next_ 165 = .ok (.istore_n 2, 1) := by decide +kernel
theorem dX11_next__166 : decode cX11_next_ 166 = .ok (.iconst 1, 1) := by decide +kernel
theorem dX11_next__167 : decode cX11_next_ 167 = .ok (.istore_n 3, 1) := by decide +kernel
theorem dX11_next__168 : decode cX11_next_ 168 = .ok (.aload_n 0, 1) := by decide +kernel
theorem dX11_next__169 : decode cX11_next_ 169 = .ok (.lconst 0, 1) := by decide +kernel
theorem dX11_next__170 : decode cX11_next_ 170 = .ok (.putfield 288, 3) := by decide +kernel
theorem dX11_next__173 : decode cX11_next_ 173 = .ok (.aload_n 0, 1) := by decide +kernel
theorem dX11_next__174 : decode cX11_next_ 174 = .ok (.iconst 0, 1) := by decide +kernel
theorem dX11_next__175 : decode cX11_next_ 175 = .ok (.putfield 285, 3) := by decide +kernel
theorem dX11_next__178 : decode cX11_next_ 178 = .ok (.aload_n 0, 1) := by decide +kernel
theorem dX11_next__179 : decode cX11_next_ 179 = .ok (.invokevirtual 269, 3) := by decide +kernel
theorem dX11_next__182 : decode cX11_next_ 182 = .ok (.invokestatic 250, 3) := by decide +kernel
theorem dX11_next__185 : decode cX11_next_ 185 = .ok (.ifCond .ne 13, 3) := by decide +kernel
theorem dX11_next__188 : decode cX11_next_ 188 = .ok (.aload_n 0, 1) := by decide +kernel
theorem dX11_next__189 : decode cX11_next_ 189 = .ok (.invokevirtual 269, 3) := by decide +kernel
theorem dX11_next__192 : decode cX11_next_ 192 = .ok (.invokestatic 282, 3) := by decide +kernel
theorem dX11_next__195 : decode cX11_next_ 195 = .ok (.ifCond .eq 100, 3) := by decide +kernel
theorem dX11_next__198 : decode cX11_next_ 198 = .ok (.iload_n 3, 1) := by decide +kernel
theorem dX11_next__199 : decode cX11_next_ 199 = .ok (.ifCond .eq 18, 3) := by decide +kernel
theorem dX11_next__202 : decode cX11_next_ 202 = .ok (.aload_n 0, 1) := by decide +kernel
theorem dX11_next__203 : decode cX11_next_ 203 = .ok (.invokevirtual 269, 3) := by decide +kernel
theorem dX11_next__206 : decode cX11_next_ 206 = .ok (.invokestatic 250, 3) := by decide +kernel
theorem dX11_next__209 : decode cX11_next_ 209 = .ok (.iload_n 2, 1) := by decide +kernel
theorem dX11_next__210 : decode cX11_next_ 210 = .ok (.if_icmp .ne 7, 3) := by decide +kernel
theorem dX11_next__213 : decode cX11_next_ 213 = .ok (.iconst 1, 1) := by decide +kernel
theorem dX11_next__214 : decode cX11_next_ 214 = .ok (.goto 4, 3) := by decide +kernel
theorem dX11_next__217 : decode cX11_next_ 217 = .ok (.iconst 0, 1) := by decide +kernel
theorem dX11_next__218 : decode cX11_next_ 218 = .ok (.istore_n 3, 1) := by decide +kernel
theorem dX11_next__219 : decode cX11_next_ 219 = .ok (.aload_n 0, 1) := by decide +kernel
theorem dX11_next__220 : decode cX11_next_ 220 = .ok (.getfield 276, 3) := by decide +kernel
theorem dX11_next__223 : decode cX11_next_ 223 = .ok (.bipush 8, 2) := by decide +kernel
theorem dX11_next__225 : decode cX11_next_ 225 = .ok (.if_icmp .ge 20, 3) := by decide +kernel
theorem dX11_next__228 : decode cX11_next_ 228 = .ok (.aload_n 0, 1) := by decide +kernel
theorem dX11_next__229 : decode cX11_next_ 229 = .ok (.aload_n 0, 1) := by decide +kernel
theorem dX11_next__230 : decode cX11_next_ 230 = .ok (.getfield 288, 3) := by decide +kernel
theorem dX11_next__233 : decode cX11_next_ 233 = .ok (.bipush 8, 2) := by decide +kernel
theorem dX11_next__235 : decode cX11_next_ 235 = .ok (.lshl, 1) := by decide +kernel
theorem dX11_next__236 : decode cX11_next_ 236 = .ok (.aload_n 0, 1) := by decide +kernel
theorem dX11_next__237 : decode cX11_next_ 237 = .ok (.invokevirtual 269, 3) := by decide +kernel
theorem dX11_next__240 : decode cX11_next_ 240 = .ok (.i2l, 1) := by decide +kernel
theorem dX11_next__241 : decode cX11_next_ 241 = .ok (.lor, 1) := by decide +kernel
theorem dX11_next__242 : decode cX11_next_ 242 = .ok (.putfield 288, 3) := by decide +kernel
theorem dX11_next__245 : decode cX11_next_ 245 = .ok (.aload_n 0, 1) := by decide +kernel
theorem dX11_next__246 : decode cX11_next_ 246 = .ok (.getfield 276, 3) := by decide +kernel
theorem dX11_next__249 : decode cX11_next_ 249 = .ok (.iconst 4, 1) := by decide +kernel
theorem dX11_next__250 : decode cX11_next_ 250 = .ok (.if_icmp .ge 22, 3) := by decide +kernel
theorem dX11_next__253 : decode cX11_next_ 253 = .ok (.aload_n 0, 1) := by decide +kernel
theorem dX11_next__254 : decode cX11_next_ 254 = .ok (.bipush 10, 2) := by decide +kernel
theorem dX11_next__256 : decode cX11_next_ 256 = .ok (.aload_n 0, 1) := by decide +kernel
theorem dX11_next__257 : decode cX11_next_ 257 = .ok (.getfield 285, 3) := by decide +kernel
theorem dX11_next__260 : decode cX11_next_ 260 = .ok (.imul, 1) := by decide +kernel
theorem dX11_next__261 : decode cX11_next_ 261 = .ok (.aload_n 0, 1) := by decide +kernel
theorem dX11_next__262 : decode cX11_next_ 262 = .ok (.invokevirtual 269, 3) := by decide +kernel
theorem dX11_next__265 : decode cX11_next_ 265 = .ok (.iadd, 1) := by decide +kernel
theorem dX11_next__266 : decode cX11_next_ 266 = .ok (.bipush 48, 2) := by decide +kernel
theorem dX11_next__268 : decode cX11_next_ 268 = .ok (.isub, 1) := by decide +kernel
theorem dX11_next__269 : decode cX11_next_ 269 = .ok (.putfield 285, 3) := by decide +kernel
theorem dX11_next__272 : decode cX11_next_ 272 = .ok (.aload_n 0, 1) := by decide +kernel
theorem dX11_next__273 : decode cX11_next_ 273 = .ok (.dup, 1) := by decide +kernel
theorem dX11_next__274 : decode cX11_next_ 274 = .ok (.getfield 276, 3) := by decide +kernel
theorem dX11_next__277 : decode cX11_next_ 277 = .ok (.iconst 1, 1) := by decide +kernel
theorem dX11_next__278 : decode cX11_next_ 278 = .ok (.iadd, 1) := by decide +kernel
theorem dX11_next__279 : decode cX11_next_ 279 = .ok (.putfield 276, 3) := by decide +kernel
theorem dX11_next__282 : decode cX11_next_ 282 = .ok (.aload_n 0, 1) := by decide +kernel
theorem dX11_next__283 : decode cX11_next_ 283 = .ok (.dup, 1) := by decide +kernel
theorem dX11_next__284 : decode cX11_next_ 284 = .ok (.getfield 234, 3) := by decide +kernel
theorem dX11_next__287 : decode cX11_next_ 287 = .ok (.iconst 1, 1) := by decide +kernel
theorem dX11_next__288 : decode cX11_next_ 288 = .ok (.iadd, 1) := by decide +kernel
theorem dX11_next__289 : decode cX11_next_ 289 = .ok (.putfield 234, 3) := by decide +kernel
theorem dX11_next__292 : decode cX11_next_ 292 = .ok (.goto (-114), 3) := by decide +kernel
theorem dX11_next__295 : decode cX11_next_ 295 = .ok (.aload_n 0, 1) := by decide +kernel
theorem dX11_next__296 : decode cX11_next_ 296 = .ok (.iload_n 3, 1) := by decide +kernel
theorem dX11_next__297 : decode cX11_next_ 297 = .ok (.ifCond .eq 20, 3) := by decide +kernel
theorem dX11_next__300 : decode cX11_next_ 300 = .ok (.aload_n 0, 1) := by decide +kernel
theorem dX11_next__301 : decode cX11_next_ 301 = .ok (.getfield 276, 3) := by decide +kernel
theorem dX11_next__304 : decode cX11_next_ 304 = .ok (.iload_n 2, 1) := by decide +kernel
theorem dX11_next__305 : decode cX11_next_ 305 = .ok (.ifCond .eq 8, 3) := by decide +kernel
theorem dX11_next__308 : decode cX11_next_ 308 = .ok (.bipush 8, 2) := by decide +kernel
theorem dX11_next__310 : decode cX11_next_ 310 = .ok (.goto 4, 3) := by decide +kernel
theorem dX11_next__313 : decode cX11_next_ 313 = .ok (.iconst 4, 1) := by decide +kernel
theorem dX11_next__314 : decode cX11_next_ 314 = .ok (.if_icmp .le 7, 3) := by decide +kernel
theorem dX11_next__317 : decode cX11_next_ 317 = .ok (.iconst 4, 1) := by decide +kernel
theorem dX11_next__318 : decode cX11_next_ 318 = .ok (.goto 12, 3) := by decide +kernel
theorem dX11_next__321 : decode cX11_next_ 321 = .ok (.iload_n 2, 1) := by decide +kernel
theorem dX11_next__322 : decode cX11_next_ 322 = .ok (.ifCond .eq 7, 3) := by decide +kernel
theorem dX11_next__325 : decode cX11_next_ 325 = .ok (.iconst 1, 1) := by decide +kernel
theorem dX11_next__326 : decode cX11_next_ 326 = .ok (.goto 4, 3) := by decide +kernel
theorem dX11_next__329 : decode cX11_next_ 329 = .ok (.iconst 2, 1) := by decide +kernel
theorem dX11_next__330 : decode cX11_next_ 330 = .ok (.putfield 279, 3) := by decide +kernel
theorem dX11_next__333 : decode cX11_next_ 333 = .ok (.return_, 1) := by decide +kernel
theorem dX11_bad_0 : decode cX11_bad 0 = .ok (.aload_n 0, 1) := by decide +kernel
theorem dX11_bad_1 : decode cX11_bad 1 = .ok (.iload_n 1, 1) := by decide +kernel
theorem dX11_bad_2 : decode cX11_bad 2 = .ok (.putfield 292, 3) := by decide +kernel
theorem dX11_bad_5 : decode cX11_bad 5 = .ok (.aload_n 0, 1) := by decide +kernel
theorem dX11_bad_6 : decode cX11_bad 6 = .ok (.aload_n 0, 1) := by decide +kernel
theorem dX11_bad_7 : decode cX11_bad 7 = .ok (.getfield 273, 3) := by decide +kernel
theorem dX11_bad_10 : decode cX11_bad 10 = .ok (.putfield 295, 3) := by decide +kernel
theorem dX11_bad_13 : decode cX11_bad 13 = .ok (.iconst 0, 1) := by decide +kernel
theorem dX11_bad_14 : decode cX11_bad 14 = .ok (.ireturn, 1) := by decide +kernel
theorem dX11_isWord_0 : decode cX11_isWord 0 = .ok (.aload_n 0, 1) := by decide +kernel
theorem dX11_isWord_1 : decode cX11_isWord 1 = .ok (.getfield 279, 3) := by decide +kernel
theorem dX11_isWord_4 : decode cX11_isWord 4 = .ok (.iconst 1, 1) := by decide +kernel
theorem dX11_isWord_5 : decode cX11_isWord 5 = .ok (.if_icmp .ne 16, 3) := by decide +kernel
theorem dX11_isWord_8 : decode cX11_isWord 8 = .ok (.aload_n 0, 1) := by decide +kernel
theorem dX11_isWord_9 : decode cX11_isWord 9 = .ok (.getfield 288, 3) := by decide +kernel
theorem dX11_isWord_12 : decode cX11_isWord 12 = .ok (.lload_n 1, 1) := by decide +kernel
theorem dX11_isWord_13 : decode cX11_isWord 13 = .ok (.lcmp, 1) := by decide +kernel
theorem dX11_isWord_14 : decode cX11_isWord 14 = .ok (.ifCond .ne 7, 3) := by decide +kernel
theorem dX11_isWord_17 : decode cX11_isWord 17 = .ok (.iconst 1, 1) := by decide +kernel
theorem dX11_isWord_18 : decode cX11_isWord 18 = .ok (.goto 4, 3) := by decide +kernel
theorem dX11_isWord_21 : decode cX11_isWord 21 = .ok (.iconst 0, 1) := by decide +kernel
theorem dX11_isWord_22 : decode cX11_isWord 22 = .ok (.ireturn, 1) := by decide +kernel
theorem dX11_isSign_0 : decode cX11_isSign 0 = .ok (.aload_n 0, 1) := by decide +kernel
theorem dX11_isSign_1 : decode cX11_isSign 1 = .ok (.getfield 279, 3) := by decide +kernel
theorem dX11_isSign_4 : decode cX11_isSign 4 = .ok (.iconst 3, 1) := by decide +kernel
theorem dX11_isSign_5 : decode cX11_isSign 5 = .ok (.if_icmp .ne 15, 3) := by decide +kernel
theorem dX11_isSign_8 : decode cX11_isSign 8 = .ok (.aload_n 0, 1) := by decide +kernel
theorem dX11_isSign_9 : decode cX11_isSign 9 = .ok (.getfield 285, 3) := by decide +kernel
theorem dX11_isSign_12 : decode cX11_isSign 12 = .ok (.iload_n 1, 1) := by decide +kernel
theorem dX11_isSign_13 : decode cX11_isSign 13 = .ok (.if_icmp .ne 7, 3) := by decide +kernel
theorem dX11_isSign_16 : decode cX11_isSign 16 = .ok (.iconst 1, 1) := by decide +kernel
theorem dX11_isSign_17 : decode cX11_isSign 17 = .ok (.goto 4, 3) := by decide +kernel
theorem dX11_isSign_20 : decode cX11_isSign 20 = .ok (.iconst 0, 1) := by decide +kernel
theorem dX11_isSign_21 : decode cX11_isSign 21 = .ok (.ireturn, 1) := by decide +kernel
theorem dX11_sign_0 : decode cX11_sign 0 = .ok (.aload_n 0, 1) := by decide +kernel
theorem dX11_sign_1 : decode cX11_sign 1 = .ok (.iload_n 1, 1) := by decide +kernel
theorem dX11_sign_2 : decode cX11_sign 2 = .ok (.invokevirtual 298, 3) := by decide +kernel
theorem dX11_sign_5 : decode cX11_sign 5 = .ok (.ifCond .ne 9, 3) := by decide +kernel
theorem dX11_sign_8 : decode cX11_sign 8 = .ok (.aload_n 0, 1) := by decide +kernel
theorem dX11_sign_9 : decode cX11_sign 9 = .ok (.iconst 1, 1) := by decide +kernel
theorem dX11_sign_10 : decode cX11_sign 10 = .ok (.invokevirtual 301, 3) := by decide +kernel
theorem dX11_sign_13 : decode cX11_sign 13 = .ok (.ireturn, 1) := by decide +kernel
theorem dX11_sign_14 : decode cX11_sign 14 = .ok (.aload_n 0, 1) := by decide +kernel
theorem dX11_sign_15 : decode cX11_sign 15 = .ok (.invokevirtual 304, 3) := by decide +kernel
theorem dX11_sign_18 : decode cX11_sign 18 = .ok (.iconst 1, 1) := by decide +kernel
theorem dX11_sign_19 : decode cX11_sign 19 = .ok (.ireturn, 1) := by decide +kernel
theorem dX11_atom_0 : decode cX11_atom 0 = .ok (.aload_n 0, 1) := by decide +kernel
theorem dX11_atom_1 : decode cX11_atom 1 = .ok (.ldc2_w 307, 3) := by decide +kernel
theorem dX11_atom_4 : decode cX11_atom 4 = .ok (.invokevirtual 309, 3) := by decide +kernel
theorem dX11_atom_7 : decode cX11_atom 7 = .ok (.ifCond .eq 5, 3) := by decide +kernel
theorem dX11_atom_10 : decode cX11_atom 10 = .ok (.iconst 0, 1) := by decide +kernel
theorem dX11_atom_11 : decode cX11_atom 11 = .ok (.ireturn, 1) := by decide +kernel
theorem dX11_atom_12 : decode cX11_atom 12 = .ok (.aload_n 0, 1) := by decide +kernel
theorem dX11_atom_13 : decode cX11_atom 13 = .ok (.ldc2_w 313, 3) := by decide +kernel
theorem dX11_atom_16 : decode cX11_atom 16 = .ok (.invokevirtual 309, 3) := by decide +kernel
theorem dX11_atom_19 : decode cX11_atom 19 = .ok (.ifCond .eq 5, 3) := by decide +kernel
theorem dX11_atom_22 : decode cX11_atom 22 = .ok (.iconst 1, 1) := by decide +kernel
theorem dX11_atom_23 : decode cX11_atom 23 = .ok (.ireturn, 1) := by decide +kernel
theorem dX11_atom_24 : decode cX11_atom 24 = .ok (.aload_n 0, 1) := by decide +kernel
theorem dX11_atom_25 : decode cX11_atom 25 = .ok (.ldc2_w 315, 3) := by decide +kernel
theorem dX11_atom_28 : decode cX11_atom 28 = .ok (.invokevirtual 309, 3) := by decide +kernel
theorem dX11_atom_31 : decode cX11_atom 31 = .ok (.ifCond .eq 5, 3) := by decide +kernel
theorem dX11_atom_34 : decode cX11_atom 34 = .ok (.iconst 2, 1) := by decide +kernel
theorem dX11_atom_35 : decode cX11_atom 35 = .ok (.ireturn, 1) := by decide +kernel
theorem dX11_atom_36 : decode cX11_atom 36 = .ok (.aload_n 0, 1) := by decide +kernel
theorem dX11_atom_37 : decode cX11_atom 37 = .ok (.ldc2_w 317, 3) := by decide +kernel
theorem dX11_atom_40 : decode cX11_atom 40 = .ok (.invokevirtual 309, 3) := by decide +kernel
theorem dX11_atom_43 : decode cX11_atom 43 = .ok (.ifCond .eq 5, 3) := by decide +kernel
theorem dX11_atom_46 : decode cX11_atom 46 = .ok (.iconst 3, 1) := by decide +kernel
theorem dX11_atom_47 : decode cX11_atom 47 = .ok (.ireturn, 1) := by decide +kernel
theorem dX11_atom_48 : decode cX11_atom 48 = .ok (.aload_n 0, 1) := by decide +kernel
theorem dX11_atom_49 : decode cX11_atom 49 = .ok (.ldc2_w 319, 3) := by decide +kernel
theorem dX11_atom_52 : decode cX11_atom 52 = .ok (.invokevirtual 309, 3) := by decide +kernel
theorem dX11_atom_55 : decode cX11_atom 55 = .ok (.ifCond .eq 5, 3) := by decide +kernel
theorem dX11_atom_58 : decode cX11_atom 58 = .ok (.iconst 4, 1) := by decide +kernel
theorem dX11_atom_59 : decode cX11_atom 59 = .ok (.ireturn, 1) := by decide +kernel
theorem dX11_atom_60 : decode cX11_atom 60 = .ok (.aload_n 0, 1) := by decide +kernel
theorem dX11_atom_61 : decode cX11_atom 61 = .ok (.ldc2_w 321, 3) := by decide +kernel
theorem dX11_atom_64 : decode cX11_atom 64 = .ok (.invokevirtual 309, 3) := by decide +kernel
theorem dX11_atom_67 : decode cX11_atom 67 = .ok (.ifCond .eq 5, 3) := by decide +kernel
theorem dX11_atom_70 : decode cX11_atom 70 = .ok (.iconst 5, 1) := by decide +kernel
theorem dX11_atom_71 : decode cX11_atom 71 = .ok (.ireturn, 1) := by decide +kernel
theorem dX11_atom_72 : decode cX11_atom 72 = .ok (.aload_n 0, 1) := by decide +kernel
theorem dX11_atom_73 : decode cX11_atom 73 = .ok (.ldc2_w 323, 3) := by decide +kernel
theorem dX11_atom_76 : decode cX11_atom 76 = .ok (.invokevirtual 309, 3) := by decide +kernel
theorem dX11_atom_79 : decode cX11_atom 79 = .ok (.ifCond .eq 6, 3) := by decide +kernel
theorem dX11_atom_82 : decode cX11_atom 82 = .ok (.bipush 6, 2) := by decide +kernel
theorem dX11_atom_84 : decode cX11_atom 84 = .ok (.ireturn, 1) := by decide +kernel
theorem dX11_atom_85 : decode cX11_atom 85 = .ok (.aload_n 0, 1) := by decide +kernel
theorem dX11_atom_86 : decode cX11_atom 86 = .ok (.ldc2_w 325, 3) := by decide +kernel
theorem dX11_atom_89 : decode cX11_atom 89 = .ok (.invokevirtual 309, 3) := by decide +kernel
theorem dX11_atom_92 : decode cX11_atom 92 = .ok (.ifCond .eq 6, 3) := by decide +kernel
theorem dX11_atom_95 : decode cX11_atom 95 = .ok (.bipush 7, 2) := by decide +kernel
theorem dX11_atom_97 : decode cX11_atom 97 = .ok (.ireturn, 1) := by decide +kernel
theorem dX11_atom_98 : decode cX11_atom 98 = .ok (.aload_n 0, 1) := by decide +kernel
theorem dX11_atom_99 : decode cX11_atom 99 = .ok (.ldc2_w 327, 3) := by decide +kernel
theorem dX11_atom_102 : decode cX11_atom 102 = .ok (.invokevirtual 309, 3) := by decide +kernel
theorem dX11_atom_105 : decode cX11_atom 105 = .ok (.ifCond .eq 6, 3) := by decide +kernel
theorem dX11_atom_108 : decode cX11_atom 108 = .ok (.bipush 8, 2) := by decide +kernel
theorem dX11_atom_110 : decode cX11_atom 110 = .ok (.ireturn, 1) := by decide +kernel
theorem dX11_atom_111 : decode cX11_atom 111 = .ok (.aload_n 0, 1) := by decide +kernel
theorem dX11_atom_112 : decode cX11_atom 112 = .ok (.ldc2_w 329, 3) := by decide +kernel
theorem dX11_atom_115 : decode cX11_atom 115 = .ok (.invokevirtual 309, 3) := by decide +kernel
theorem dX11_atom_118 : decode cX11_atom 118 = .ok (.ifCond .eq 6, 3) := by decide +kernel
theorem dX11_atom_121 : decode cX11_atom 121 = .ok (.bipush 9, 2) := by decide +kernel
theorem dX11_atom_123 : decode cX11_atom 123 = .ok (.ireturn, 1) := by decide +kernel
theorem dX11_atom_124 : decode cX11_atom 124 = .ok (.aload_n 0, 1) := by decide +kernel
theorem dX11_atom_125 : decode cX11_atom 125 = .ok (.ldc2_w 331, 3) := by decide +kernel
theorem dX11_atom_128 : decode cX11_atom 128 = .ok (.invokevirtual 309, 3) := by decide +kernel
theorem dX11_atom_131 : decode cX11_atom 131 = .ok (.ifCond .eq 6, 3) := by decide +kernel
theorem dX11_atom_134 : decode cX11_atom 134 = .ok (.bipush 10, 2) := by decide +kernel
theorem dX11_atom_136 : decode cX11_atom 136 = .ok (.ireturn, 1) := by decide +kernel
theorem dX11_atom_137 : decode cX11_atom 137 = .ok (.aload_n 0, 1) := by decide +kernel
theorem dX11_atom_138 : decode cX11_atom 138 = .ok (.ldc2_w 333, 3) := by decide +kernel
theorem dX11_atom_141 : decode cX11_atom 141 = .ok (.invokevirtual 309, 3) := by decide +kernel
theorem dX11_atom_144 : decode cX11_atom 144 = .ok (.ifCond .eq 8, 3) := by decide +kernel
theorem dX11_atom_147 : decode cX11_atom 147 = .ok (.bipush 11, 2) := by decide +kernel
theorem dX11_atom_149 : decode cX11_atom 149 = .ok (.goto 4, 3) := by decide +kernel
theorem dX11_atom_152 : decode cX11_atom 152 = .ok (.iconst (-1), 1) := by decide +kernel
theorem dX11_atom_153 : decode cX11_atom 153 = .ok (.ireturn, 1) := by decide +kernel
theorem dX11_write_0 : decode cX11_write 0 = .ok (.aload_n 0, 1) := by decide +kernel
theorem dX11_write_1 : decode cX11_write 1 = .ok (.getfield 105, 3) := by decide +kernel
theorem dX11_write_4 : decode cX11_write 4 = .ok (.sipush 1040, 3) := by decide +kernel
theorem dX11_write_7 : decode cX11_write 7 = .ok (.aload_n 0, 1) := by decide +kernel
theorem dX11_write_8 : decode cX11_write 8 = .ok (.getfield 335, 3) := by decide +kernel
theorem dX11_write_11 : decode cX11_write 11 = .ok (.iadd, 1) := by decide +kernel
theorem dX11_write_12 : decode cX11_write 12 = .ok (.iload_n 1, 1) := by decide +kernel
theorem dX11_write_13 : decode cX11_write 13 = .ok (.iastore, 1) := by decide +kernel
theorem dX11_write_14 : decode cX11_write 14 = .ok (.aload_n 0, 1) := by decide +kernel
theorem dX11_write_15 : decode cX11_write 15 = .ok (.getfield 108, 3) := by decide +kernel
theorem dX11_write_18 : decode cX11_write 18 = .ok (.sipush 1040, 3) := by decide +kernel
theorem dX11_write_21 : decode cX11_write 21 = .ok (.aload_n 0, 1) := by decide +kernel
theorem dX11_write_22 : decode cX11_write 22 = .ok (.getfield 335, 3) := by decide +kernel
theorem dX11_write_25 : decode cX11_write 25 = .ok (.iadd, 1) := by decide +kernel
theorem dX11_write_26 : decode cX11_write 26 = .ok (.iload_n 2, 1) := by decide +kernel
theorem dX11_write_27 : decode cX11_write 27 = .ok (.iastore, 1) := by decide +kernel
theorem dX11_write_28 : decode cX11_write 28 = .ok (.aload_n 0, 1) := by decide +kernel
theorem dX11_write_29 : decode cX11_write 29 = .ok (.getfield 111, 3) := by decide +kernel
theorem dX11_write_32 : decode cX11_write 32 = .ok (.sipush 1040, 3) := by decide +kernel
theorem dX11_write_35 : decode cX11_write 35 = .ok (.aload_n 0, 1) := by decide +kernel
theorem dX11_write_36 : decode cX11_write 36 = .ok (.getfield 335, 3) := by decide +kernel
theorem dX11_write_39 : decode cX11_write 39 = .ok (.iadd, 1) := by decide +kernel
theorem dX11_write_40 : decode cX11_write 40 = .ok (.iload_n 3, 1) := by decide +kernel
theorem dX11_write_41 : decode cX11_write 41 = .ok (.iastore, 1) := by decide +kernel
theorem dX11_write_42 : decode cX11_write 42 = .ok (.aload_n 0, 1) := by decide +kernel
theorem dX11_write_43 : decode cX11_write 43 = .ok (.dup, 1) := by decide +kernel
theorem dX11_write_44 : decode cX11_write 44 = .ok (.getfield 335, 3) := by decide +kernel
theorem dX11_write_47 : decode cX11_write 47 = .ok (.iconst 1, 1) := by decide +kernel
theorem dX11_write_48 : decode cX11_write 48 = .ok (.iadd, 1) := by decide +kernel
theorem dX11_write_49 : decode cX11_write 49 = .ok (.putfield 335, 3) := by decide +kernel
theorem dX11_write_52 : decode cX11_write 52 = .ok (.return_, 1) := by decide +kernel
theorem dX11_writeDown_0 : decode cX11_writeDown 0 = .ok (.aload_n 0, 1) := by decide +kernel
theorem dX11_writeDown_1 : decode cX11_writeDown 1 = .ok (.getfield 338, 3) := by decide +kernel
theorem dX11_writeDown_4 : decode cX11_writeDown 4 = .ok (.ifCond .le 65, 3) := by decide +kernel
theorem dX11_writeDown_7 : decode cX11_writeDown 7 = .ok (.aload_n 0, 1) := by decide +kernel
theorem dX11_writeDown_8 : decode cX11_writeDown 8 = .ok (.getfield 114, 3) := by decide +kernel
theorem dX11_writeDown_11 : decode cX11_writeDown 11 = .ok (.aload_n 0, 1) := by decide +kernel
theorem dX11_writeDown_12 : decode cX11_writeDown 12 = .ok (.getfield 338, 3) := by decide +kernel
theorem dX11_writeDown_15 : decode cX11_writeDown 15 = .ok (.iconst 1, 1) := by decide +kernel
theorem dX11_writeDown_16 : decode cX11_writeDown 16 = .ok (.isub, 1) := by decide +kernel
theorem dX11_writeDown_17 : decode cX11_writeDown 17 = .ok (.iaload, 1) := by decide +kernel
theorem dX11_writeDown_18 : decode cX11_writeDown 18 = .ok (.bipush 23, 2) := by decide +kernel
theorem dX11_writeDown_20 : decode cX11_writeDown 20 = .ok (.if_icmp .eq 49, 3) := by decide +kernel
theorem dX11_writeDown_23 : decode cX11_writeDown 23 = .ok (.aload_n 0, 1) := by decide +kernel
theorem dX11_writeDown_24 : decode cX11_writeDown 24 = .ok (.getfield 114, 3) := by decide +kernel
theorem dX11_writeDown_27 : decode cX11_writeDown 27 = .ok (.aload_n 0, 1) := by decide +kernel
theorem dX11_writeDown_28 : decode cX11_writeDown 28 = .ok (.getfield 338, 3) := by decide +kernel
theorem dX11_writeDown_31 : decode cX11_writeDown 31 = .ok (.iconst 1, 1) := by decide +kernel
theorem dX11_writeDown_32 : decode cX11_writeDown 32 = .ok (.isub, 1) := by decide +kernel
theorem dX11_writeDown_33 : decode cX11_writeDown 33 = .ok (.iaload, 1) := by decide +kernel
theorem dX11_writeDown_34 : decode cX11_writeDown 34 = .ok (.invokestatic 341, 3) := by decide +kernel
theorem dX11_writeDown_37 : decode cX11_writeDown 37 = .ok (.iload_n 1, 1) := by decide +kernel
theorem dX11_writeDown_38 : decode cX11_writeDown 38 = .ok (.if_icmp .lt 31, 3) := by decide +kernel
theorem dX11_writeDown_41 : decode cX11_writeDown 41 = .ok (.aload_n 0, 1) := by decide +kernel
theorem dX11_writeDown_42 : decode cX11_writeDown 42 = .ok (.dup, 1) := by decide +kernel
theorem dX11_writeDown_43 : decode cX11_writeDown 43 = .ok (.getfield 338, 3) := by decide +kernel
theorem dX11_writeDown_46 : decode cX11_writeDown 46 = .ok (.iconst 1, 1) := by decide +kernel
theorem dX11_writeDown_47 : decode cX11_writeDown 47 = .ok (.isub, 1) := by decide +kernel
theorem dX11_writeDown_48 : decode cX11_writeDown 48 = .ok (.putfield 338, 3) := by decide +kernel
theorem dX11_writeDown_51 : decode cX11_writeDown 51 = .ok (.aload_n 0, 1) := by decide +kernel
theorem dX11_writeDown_52 : decode cX11_writeDown 52 = .ok (.aload_n 0, 1) := by decide +kernel
theorem dX11_writeDown_53 : decode cX11_writeDown 53 = .ok (.getfield 114, 3) := by decide +kernel
theorem dX11_writeDown_56 : decode cX11_writeDown 56 = .ok (.aload_n 0, 1) := by decide +kernel
theorem dX11_writeDown_57 : decode cX11_writeDown 57 = .ok (.getfield 338, 3) := by decide +kernel
theorem dX11_writeDown_60 : decode cX11_writeDown 60 = .ok (.iaload, 1) := by decide +kernel
theorem dX11_writeDown_61 : decode cX11_writeDown 61 = .ok (.iconst 0, 1) := by decide +kernel
theorem dX11_writeDown_62 : decode cX11_writeDown 62 = .ok (.iconst 0, 1) := by decide +kernel
theorem dX11_writeDown_63 : decode cX11_writeDown 63 = .ok (.invokevirtual 345, 3) := by decide +kernel
theorem dX11_writeDown_66 : decode cX11_writeDown 66 = .ok (.goto (-66), 3) := by decide +kernel
theorem dX11_writeDown_69 : decode cX11_writeDown 69 = .ok (.return_, 1) := by decide +kernel
theorem dX11_binds_0 : decode cX11_binds 0 = .ok (.iload_n 0, 1) := by decide +kernel
theorem dX11_binds_1 : decode cX11_binds 1 = .ok (.bipush 20, 2) := by decide +kernel
theorem dX11_binds_3 : decode cX11_binds 3 = .ok (.if_icmp .ne 7, 3) := by decide +kernel
theorem dX11_binds_6 : decode cX11_binds 6 = .ok (.iconst 3, 1) := by decide +kernel
theorem dX11_binds_7 : decode cX11_binds 7 = .ok (.goto 14, 3) := by decide +kernel
theorem dX11_binds_10 : decode cX11_binds 10 = .ok (.iload_n 0, 1) := by decide +kernel
theorem dX11_binds_11 : decode cX11_binds 11 = .ok (.bipush 21, 2) := by decide +kernel
theorem dX11_binds_13 : decode cX11_binds 13 = .ok (.if_icmp .ne 7, 3) := by decide +kernel
theorem dX11_binds_16 : decode cX11_binds 16 = .ok (.iconst 2, 1) := by decide +kernel
theorem dX11_binds_17 : decode cX11_binds 17 = .ok (.goto 4, 3) := by decide +kernel
theorem dX11_binds_20 : decode cX11_binds 20 = .ok (.iconst 1, 1) := by decide +kernel
theorem dX11_binds_21 : decode cX11_binds 21 = .ok (.ireturn, 1) := by decide +kernel
theorem dX11_open_0 : decode cX11_open 0 = .ok (.iconst 0, 1) := by decide +kernel
theorem dX11_open_1 : decode cX11_open 1 = .ok (.istore_n 1, 1) := by decide +kernel
theorem dX11_open_2 : decode cX11_open 2 = .ok (.iconst 0, 1) := by decide +kernel
theorem dX11_open_3 : decode cX11_open 3 = .ok (.istore_n 2, 1) := by decide +kernel
theorem dX11_open_4 : decode cX11_open 4 = .ok (.iload_n 2, 1) := by decide +kernel
theorem dX11_open_5 : decode cX11_open 5 = .ok (.aload_n 0, 1) := by decide +kernel
theorem dX11_open_6 : decode cX11_open 6 = .ok (.getfield 338, 3) := by decide +kernel
theorem dX11_open_9 : decode cX11_open 9 = .ok (.if_icmp .ge 39, 3) := by decide +kernel
theorem dX11_open_12 : decode cX11_open 12 = .ok (.iload_n 1, 1) := by decide +kernel
theorem dX11_open_13 : decode cX11_open 13 = .ok (.aload_n 0, 1) := by decide +kernel
theorem dX11_open_14 : decode cX11_open 14 = .ok (.getfield 114, 3) := by decide +kernel
theorem dX11_open_17 : decode cX11_open 17 = .ok (.iload_n 2, 1) := by decide +kernel
theorem dX11_open_18 : decode cX11_open 18 = .ok (.iaload, 1) := by decide +kernel
theorem dX11_open_19 : decode cX11_open 19 = .ok (.bipush 20, 2) := by decide +kernel
theorem dX11_open_21 : decode cX11_open 21 = .ok (.if_icmp .eq 14, 3) := by decide +kernel
theorem dX11_open_24 : decode cX11_open 24 = .ok (.aload_n 0, 1) := by decide +kernel
theorem dX11_open_25 : decode cX11_open 25 = .ok (.getfield 114, 3) := by decide +kernel
theorem dX11_open_28 : decode cX11_open 28 = .ok (.iload_n 2, 1) := by decide +kernel
theorem dX11_open_29 : decode cX11_open 29 = .ok (.iaload, 1) := by decide +kernel
theorem dX11_open_30 : decode cX11_open 30 = .ok (.bipush 23, 2) := by decide +kernel
theorem dX11_open_32 : decode cX11_open 32 = .ok (.if_icmp .ne 7, 3) := by decide +kernel
theorem dX11_open_35 : decode cX11_open 35 = .ok (.iconst 1, 1) := by decide +kernel
theorem dX11_open_36 : decode cX11_open 36 = .ok (.goto 4, 3) := by decide +kernel
theorem dX11_open_39 : decode cX11_open 39 = .ok (.iconst 0, 1) := by decide +kernel
theorem dX11_open_40 : decode cX11_open 40 = .ok (.iadd, 1) := by decide +kernel
theorem dX11_open_41 : decode cX11_open 41 = .ok (.istore_n 1, 1) := by decide +kernel
theorem dX11_open_42 : decode cX11_open 42 = .ok (.iinc 2 1, 3) := by decide +kernel
theorem dX11_open_45 : decode cX11_open 45 = .ok (.goto (-41), 3) := by decide +kernel
theorem dX11_open_48 : decode cX11_open 48 = .ok (.iload_n 1, 1) := by decide +kernel
theorem dX11_open_49 : decode cX11_open 49 = .ok (.ireturn, 1) := by decide +kernel
theorem dX11_isOpen_0 : decode cX11_isOpen 0 = .ok (.iconst 0, 1) := by decide +kernel
theorem dX11_isOpen_1 : decode cX11_isOpen 1 = .ok (.istore_n 1, 1) := by decide +kernel
theorem dX11_isOpen_2 : decode cX11_isOpen 2 = .ok (.iload_n 1, 1) := by decide +kernel
theorem dX11_isOpen_3 : decode cX11_isOpen 3 = .ok (.aload_n 0, 1) := by decide +kernel
theorem dX11_isOpen_4 : decode cX11_isOpen 4 = .ok (.getfield 338, 3) := by decide +kernel
theorem dX11_isOpen_7 : decode cX11_isOpen 7 = .ok (.if_icmp .ge 22, 3) := by decide +kernel
theorem dX11_isOpen_10 : decode cX11_isOpen 10 = .ok (.aload_n 0, 1) := by decide +kernel
theorem dX11_isOpen_11 : decode cX11_isOpen 11 = .ok (.getfield 114, 3) := by decide +kernel
theorem dX11_isOpen_14 : decode cX11_isOpen 14 = .ok (.iload_n 1, 1) := by decide +kernel
theorem dX11_isOpen_15 : decode cX11_isOpen 15 = .ok (.iaload, 1) := by decide +kernel
theorem dX11_isOpen_16 : decode cX11_isOpen 16 = .ok (.bipush 23, 2) := by decide +kernel
theorem dX11_isOpen_18 : decode cX11_isOpen 18 = .ok (.if_icmp .ne 5, 3) := by decide +kernel
theorem dX11_isOpen_21 : decode cX11_isOpen 21 = .ok (.iconst 1, 1) := by decide +kernel
theorem dX11_isOpen_22 : decode cX11_isOpen 22 = .ok (.ireturn, 1) := by decide +kernel
theorem dX11_isOpen_23 : decode cX11_isOpen 23 = .ok (.iinc 1 1, 3) := by decide +kernel
theorem dX11_isOpen_26 : decode cX11_isOpen 26 = .ok (.goto (-24), 3) := by decide +kernel
theorem dX11_isOpen_29 : decode cX11_isOpen 29 = .ok (.iconst 0, 1) := by decide +kernel
theorem dX11_isOpen_30 : decode cX11_isOpen 30 = .ok (.ireturn, 1) := by decide +kernel
theorem dX11_cond_0 : decode cX11_cond 0 = .ok (.aload_n 0, 1) := by decide +kernel
theorem dX11_cond_1 : decode cX11_cond 1 = .ok (.iconst 0, 1) := by decide +kernel
theorem dX11_cond_2 : decode cX11_cond 2 = .ok (.putfield 338, 3) := by decide +kernel
theorem dX11_cond_5 : decode cX11_cond 5 = .ok (.aload_n 0, 1) := by decide +kernel
theorem dX11_cond_6 : decode cX11_cond 6 = .ok (.invokevirtual 349, 3) := by decide +kernel
theorem dX11_cond_9 : decode cX11_cond 9 = .ok (.ifCond .ne 5, 3) := by decide +kernel
theorem dX11_cond_12 : decode cX11_cond 12 = .ok (.iconst 0, 1) := by decide +kernel
theorem dX11_cond_13 : decode cX11_cond 13 = .ok (.ireturn, 1) := by decide +kernel
theorem dX11_cond_14 : decode cX11_cond 14 = .ok (.aload_n 0, 1) := by decide +kernel
theorem dX11_cond_15 : decode cX11_cond 15 = .ok (.bipush 41, 2) := by decide +kernel
theorem dX11_cond_17 : decode cX11_cond 17 = .ok (.invokevirtual 298, 3) := by decide +kernel
theorem dX11_cond_20 : decode cX11_cond 20 = .ok (.ifCond .eq 37, 3) := by decide +kernel
theorem dX11_cond_23 : decode cX11_cond 23 = .ok (.aload_n 0, 1) := by decide +kernel
theorem dX11_cond_24 : decode cX11_cond 24 = .ok (.invokevirtual 353, 3) := by decide +kernel
theorem dX11_cond_27 : decode cX11_cond 27 = .ok (.ifCond .eq 30, 3) := by decide +kernel
theorem dX11_cond_30 : decode cX11_cond 30 = .ok (.aload_n 0, 1) := by decide +kernel
theorem dX11_cond_31 : decode cX11_cond 31 = .ok (.iconst 1, 1) := by decide +kernel
theorem dX11_cond_32 : decode cX11_cond 32 = .ok (.invokevirtual 356, 3) := by decide +kernel
theorem dX11_cond_35 : decode cX11_cond 35 = .ok (.aload_n 0, 1) := by decide +kernel
theorem dX11_cond_36 : decode cX11_cond 36 = .ok (.dup, 1) := by decide +kernel
theorem dX11_cond_37 : decode cX11_cond 37 = .ok (.getfield 338, 3) := by decide +kernel
theorem dX11_cond_40 : decode cX11_cond 40 = .ok (.iconst 1, 1) := by decide +kernel
theorem dX11_cond_41 : decode cX11_cond 41 = .ok (.isub, 1) := by decide +kernel
theorem dX11_cond_42 : decode cX11_cond 42 = .ok (.putfield 338, 3) := by decide +kernel
theorem dX11_cond_45 : decode cX11_cond 45 = .ok (.aload_n 0, 1) := by decide +kernel
theorem dX11_cond_46 : decode cX11_cond 46 = .ok (.iconst 3, 1) := by decide +kernel
theorem dX11_cond_47 : decode cX11_cond 47 = .ok (.invokevirtual 356, 3) := by decide +kernel
theorem dX11_cond_50 : decode cX11_cond 50 = .ok (.aload_n 0, 1) := by decide +kernel
theorem dX11_cond_51 : decode cX11_cond 51 = .ok (.invokevirtual 304, 3) := by decide +kernel
theorem dX11_cond_54 : decode cX11_cond 54 = .ok (.goto (-40), 3) := by decide +kernel
theorem dX11_cond_57 : decode cX11_cond 57 = .ok (.aload_n 0, 1) := by decide +kernel
theorem dX11_cond_58 : decode cX11_cond 58 = .ok (.ldc2_w 359, 3) := by decide +kernel
theorem dX11_cond_61 : decode cX11_cond 61 = .ok (.invokevirtual 309, 3) := by decide +kernel
theorem dX11_cond_64 : decode cX11_cond 64 = .ok (.istore_n 1, 1) := by decide +kernel
theorem dX11_cond_65 : decode cX11_cond 65 = .ok (.iload_n 1, 1) := by decide +kernel
theorem dX11_cond_66 : decode cX11_cond 66 = .ok (.ifCond .ne 33, 3) := by decide +kernel
theorem dX11_cond_69 : decode cX11_cond 69 = .ok (.aload_n 0, 1) := by decide +kernel
theorem dX11_cond_70 : decode cX11_cond 70 = .ok (.ldc2_w 361, 3) := by decide +kernel
theorem dX11_cond_73 : decode cX11_cond 73 = .ok (.invokevirtual 309, 3) := by decide +kernel
theorem dX11_cond_76 : decode cX11_cond 76 = .ok (.ifCond .ne 23, 3) := by decide +kernel
theorem dX11_cond_79 : decode cX11_cond 79 = .ok (.aload_n 0, 1) := by decide +kernel
theorem dX11_cond_80 : decode cX11_cond 80 = .ok (.invokevirtual 353, 3) := by decide +kernel
theorem dX11_cond_83 : decode cX11_cond 83 = .ok (.ifCond .eq 9, 3) := by decide +kernel
theorem dX11_cond_86 : decode cX11_cond 86 = .ok (.aload_n 0, 1) := by decide +kernel
theorem dX11_cond_87 : decode cX11_cond 87 = .ok (.iconst 1, 1) := by decide +kernel
theorem dX11_cond_88 : decode cX11_cond 88 = .ok (.invokevirtual 301, 3) := by decide +kernel
theorem dX11_cond_91 : decode cX11_cond 91 = .ok (.ireturn, 1) := by decide +kernel
theorem dX11_cond_92 : decode cX11_cond 92 = .ok (.aload_n 0, 1) := by decide +kernel
theorem dX11_cond_93 : decode cX11_cond 93 = .ok (.iconst 1, 1) := by decide +kernel
theorem dX11_cond_94 : decode cX11_cond 94 = .ok (.invokevirtual 356, 3) := by decide +kernel
theorem dX11_cond_97 : decode cX11_cond 97 = .ok (.iconst 1, 1) := by decide +kernel
theorem dX11_cond_98 : decode cX11_cond 98 = .ok (.ireturn, 1) := by decide +kernel
theorem dX11_cond_99 : decode cX11_cond 99 = .ok (.aload_n 0, 1) := by decide +kernel
theorem dX11_cond_100 : decode cX11_cond 100 = .ok (.iload_n 1, 1) := by decide +kernel
theorem dX11_cond_101 : decode cX11_cond 101 = .ok (.ifCond .eq 7, 3) := by decide +kernel
theorem dX11_cond_104 : decode cX11_cond 104 = .ok (.iconst 2, 1) := by decide +kernel
theorem dX11_cond_105 : decode cX11_cond 105 = .ok (.goto 4, 3) := by decide +kernel
theorem dX11_cond_108 : decode cX11_cond 108 = .ok (.iconst 1, 1) := by decide +kernel
theorem dX11_cond_109 : decode cX11_cond 109 = .ok (.invokevirtual 356, 3) := by decide +kernel
theorem dX11_cond_112 : decode cX11_cond 112 = .ok (.aload_n 0, 1) := by decide +kernel
theorem dX11_cond_113 : decode cX11_cond 113 = .ok (.getfield 114, 3) := by decide +kernel
theorem dX11_cond_116 : decode cX11_cond 116 = .ok (.aload_n 0, 1) := by decide +kernel
theorem dX11_cond_117 : decode cX11_cond 117 = .ok (.getfield 338, 3) := by decide +kernel
theorem dX11_cond_120 : decode cX11_cond 120 = .ok (.iload_n 1, 1) := by decide +kernel
theorem dX11_cond_121 : decode cX11_cond 121 = .ok (.ifCond .eq 8, 3) := by decide +kernel
theorem dX11_cond_124 : decode cX11_cond 124 = .ok (.bipush 21, 2) := by decide +kernel
theorem dX11_cond_126 : decode cX11_cond 126 = .ok (.goto 5, 3) := by decide +kernel
theorem dX11_cond_129 : decode cX11_cond 129 = .ok (.bipush 22, 2) := by decide +kernel
theorem dX11_cond_131 : decode cX11_cond 131 = .ok (.iastore, 1) := by decide +kernel
theorem dX11_cond_132 : decode cX11_cond 132 = .ok (.aload_n 0, 1) := by decide +kernel
theorem dX11_cond_133 : decode cX11_cond 133 = .ok (.dup, 1) := by decide +kernel
theorem dX11_cond_134 : decode cX11_cond 134 = .ok (.getfield 338, 3) := by decide +kernel
theorem dX11_cond_137 : decode cX11_cond 137 = .ok (.iconst 1, 1) := by decide +kernel
theorem dX11_cond_138 : decode cX11_cond 138 = .ok (.iadd, 1) := by decide +kernel
theorem dX11_cond_139 : decode cX11_cond 139 = .ok (.putfield 338, 3) := by decide +kernel
theorem dX11_cond_142 : decode cX11_cond 142 = .ok (.aload_n 0, 1) := by decide +kernel
theorem dX11_cond_143 : decode cX11_cond 143 = .ok (.invokevirtual 304, 3) := by decide +kernel
theorem dX11_cond_146 : decode cX11_cond 146 = .ok (.goto (-141), 3) := by decide +kernel
theorem dX11_one_0 : decode cX11_one 0 = .ok (.aload_n 0, 1) := by decide +kernel
theorem dX11_one_1 : decode cX11_one 1 = .ok (.ldc2_w 363, 3) := by decide +kernel
theorem dX11_one_4 : decode cX11_one 4 = .ok (.invokevirtual 309, 3) := by decide +kernel
theorem dX11_one_7 : decode cX11_one 7 = .ok (.istore_n 1, 1) := by decide +kernel
theorem dX11_one_8 : decode cX11_one 8 = .ok (.aload_n 0, 1) := by decide +kernel
theorem dX11_one_9 : decode cX11_one 9 = .ok (.invokevirtual 365, 3) := by decide +kernel
theorem dX11_one_12 : decode cX11_one 12 = .ok (.istore_n 2, 1) := by decide +kernel
theorem dX11_one_13 : decode cX11_one 13 = .ok (.iload_n 1, 1) := by decide +kernel
theorem dX11_one_14 : decode cX11_one 14 = .ok (.ifCond .ne 22, 3) := by decide +kernel
theorem dX11_one_17 : decode cX11_one 17 = .ok (.iload_n 2, 1) := by decide +kernel
theorem dX11_one_18 : decode cX11_one 18 = .ok (.ifCond .ge 18, 3) := by decide +kernel
theorem dX11_one_21 : decode cX11_one 21 = .ok (.aload_n 0, 1) := by decide +kernel
theorem dX11_one_22 : decode cX11_one 22 = .ok (.bipush 40, 2) := by decide +kernel
theorem dX11_one_24 : decode cX11_one 24 = .ok (.invokevirtual 298, 3) := by decide +kernel
theorem dX11_one_27 : decode cX11_one 27 = .ok (.ifCond .ne 9, 3) := by decide +kernel
theorem dX11_one_30 : decode cX11_one 30 = .ok (.aload_n 0, 1) := by decide +kernel
theorem dX11_one_31 : decode cX11_one 31 = .ok (.iconst 1, 1) := by decide +kernel
theorem dX11_one_32 : decode cX11_one 32 = .ok (.invokevirtual 301, 3) := by decide +kernel
theorem dX11_one_35 : decode cX11_one 35 = .ok (.ireturn, 1) := by decide +kernel
theorem dX11_one_36 : decode cX11_one 36 = .ok (.aload_n 0, 1) := by decide +kernel
theorem dX11_one_37 : decode cX11_one 37 = .ok (.getfield 368, 3) := by decide +kernel
theorem dX11_one_40 : decode cX11_one 40 = .ok (.bipush 60, 2) := by decide +kernel
theorem dX11_one_42 : decode cX11_one 42 = .ok (.if_icmp .eq 12, 3) := by decide +kernel
theorem dX11_one_45 : decode cX11_one 45 = .ok (.aload_n 0, 1) := by decide +kernel
theorem dX11_one_46 : decode cX11_one 46 = .ok (.invokevirtual 371, 3) := by decide +kernel
theorem dX11_one_49 : decode cX11_one 49 = .ok (.bipush 12, 2) := by decide +kernel
theorem dX11_one_51 : decode cX11_one 51 = .ok (.if_icmp .ne 9, 3) := by decide +kernel
theorem dX11_one_54 : decode cX11_one 54 = .ok (.aload_n 0, 1) := by decide +kernel
theorem dX11_one_55 : decode cX11_one 55 = .ok (.iconst 4, 1) := by decide +kernel
theorem dX11_one_56 : decode cX11_one 56 = .ok (.invokevirtual 301, 3) := by decide +kernel
theorem dX11_one_59 : decode cX11_one 59 = .ok (.ireturn, 1) := by decide +kernel
theorem dX11_one_60 : decode cX11_one 60 = .ok (.aload_n 0, 1) := by decide +kernel
theorem dX11_one_61 : decode cX11_one 61 = .ok (.dup, 1) := by decide +kernel
theorem dX11_one_62 : decode cX11_one 62 = .ok (.getfield 368, 3) := by decide +kernel
theorem dX11_one_65 : decode cX11_one 65 = .ok (.iconst 1, 1) := by decide +kernel
theorem dX11_one_66 : decode cX11_one 66 = .ok (.iadd, 1) := by decide +kernel
theorem dX11_one_67 : decode cX11_one 67 = .ok (.putfield 368, 3) := by decide +kernel
theorem dX11_one_70 : decode cX11_one 70 = .ok (.aload_n 0, 1) := by decide +kernel
theorem dX11_one_71 : decode cX11_one 71 = .ok (.invokevirtual 304, 3) := by decide +kernel
theorem dX11_one_74 : decode cX11_one 74 = .ok (.iload_n 2, 1) := by decide +kernel
theorem dX11_one_75 : decode cX11_one 75 = .ok (.ifCond .ge 36, 3) := by decide +kernel
theorem dX11_one_78 : decode cX11_one 78 = .ok (.aload_n 0, 1) := by decide +kernel
theorem dX11_one_79 : decode cX11_one 79 = .ok (.getfield 114, 3) := by decide +kernel
theorem dX11_one_82 : decode cX11_one 82 = .ok (.aload_n 0, 1) := by decide +kernel
theorem dX11_one_83 : decode cX11_one 83 = .ok (.getfield 338, 3) := by decide +kernel
theorem dX11_one_86 : decode cX11_one 86 = .ok (.iload_n 1, 1) := by decide +kernel
theorem dX11_one_87 : decode cX11_one 87 = .ok (.ifCond .eq 8, 3) := by decide +kernel
theorem dX11_one_90 : decode cX11_one 90 = .ok (.bipush 20, 2) := by decide +kernel
theorem dX11_one_92 : decode cX11_one 92 = .ok (.goto 5, 3) := by decide +kernel
theorem dX11_one_95 : decode cX11_one 95 = .ok (.bipush 23, 2) := by decide +kernel
theorem dX11_one_97 : decode cX11_one 97 = .ok (.iastore, 1) := by decide +kernel
theorem dX11_one_98 : decode cX11_one 98 = .ok (.aload_n 0, 1) := by decide +kernel
theorem dX11_one_99 : decode cX11_one 99 = .ok (.dup, 1) := by decide +kernel
theorem dX11_one_100 : decode cX11_one 100 = .ok (.getfield 338, 3) := by decide +kernel
theorem dX11_one_103 : decode cX11_one 103 = .ok (.iconst 1, 1) := by decide +kernel
theorem dX11_one_104 : decode cX11_one 104 = .ok (.iadd, 1) := by decide +kernel
theorem dX11_one_105 : decode cX11_one 105 = .ok (.putfield 338, 3) := by decide +kernel
theorem dX11_one_108 : decode cX11_one 108 = .ok (.goto (-108), 3) := by decide +kernel
theorem dX11_one_111 : decode cX11_one 111 = .ok (.iload_n 2, 1) := by decide +kernel
theorem dX11_one_112 : decode cX11_one 112 = .ok (.iconst 4, 1) := by decide +kernel
theorem dX11_one_113 : decode cX11_one 113 = .ok (.if_icmp .ge 13, 3) := by decide +kernel
theorem dX11_one_116 : decode cX11_one 116 = .ok (.aload_n 0, 1) := by decide +kernel
theorem dX11_one_117 : decode cX11_one 117 = .ok (.iload_n 2, 1) := by decide +kernel
theorem dX11_one_118 : decode cX11_one 118 = .ok (.iconst 0, 1) := by decide +kernel
theorem dX11_one_119 : decode cX11_one 119 = .ok (.iconst 0, 1) := by decide +kernel
theorem dX11_one_120 : decode cX11_one 120 = .ok (.invokevirtual 345, 3) := by decide +kernel
theorem dX11_one_123 : decode cX11_one 123 = .ok (.goto 73, 3) := by decide +kernel
theorem dX11_one_126 : decode cX11_one 126 = .ok (.aload_n 0, 1) := by decide +kernel
theorem dX11_one_127 : decode cX11_one 127 = .ok (.bipush 60, 2) := by decide +kernel
theorem dX11_one_129 : decode cX11_one 129 = .ok (.invokevirtual 298, 3) := by decide +kernel
theorem dX11_one_132 : decode cX11_one 132 = .ok (.ifCond .ne 27, 3) := by decide +kernel
theorem dX11_one_135 : decode cX11_one 135 = .ok (.aload_n 0, 1) := by decide +kernel
theorem dX11_one_136 : decode cX11_one 136 = .ok (.bipush 61, 2) := by decide +kernel
theorem dX11_one_138 : decode cX11_one 138 = .ok (.invokevirtual 298, 3) := by decide +kernel
theorem dX11_one_141 : decode cX11_one 141 = .ok (.ifCond .ne 18, 3) := by decide +kernel
theorem dX11_one_144 : decode cX11_one 144 = .ok (.aload_n 0, 1) := by decide +kernel
theorem dX11_one_145 : decode cX11_one 145 = .ok (.bipush 62, 2) := by decide +kernel
theorem dX11_one_147 : decode cX11_one 147 = .ok (.invokevirtual 298, 3) := by decide +kernel
theorem dX11_one_150 : decode cX11_one 150 = .ok (.ifCond .ne 9, 3) := by decide +kernel
theorem dX11_one_153 : decode cX11_one 153 = .ok (.aload_n 0, 1) := by decide +kernel
theorem dX11_one_154 : decode cX11_one 154 = .ok (.iconst 1, 1) := by decide +kernel
theorem dX11_one_155 : decode cX11_one 155 = .ok (.invokevirtual 301, 3) := by decide +kernel
theorem dX11_one_158 : decode cX11_one 158 = .ok (.ireturn, 1) := by decide +kernel
theorem dX11_one_159 : decode cX11_one 159 = .ok (.aload_n 0, 1) := by decide +kernel
theorem dX11_one_160 : decode cX11_one 160 = .ok (.getfield 285, 3) := by decide +kernel
theorem dX11_one_163 : decode cX11_one 163 = .ok (.istore_n 3, 1) := by decide +kernel
theorem dX11_one_164 : decode cX11_one 164 = .ok (.aload_n 0, 1) := by decide +kernel
theorem dX11_one_165 : decode cX11_one 165 = .ok (.invokevirtual 304, 3) := by decide +kernel
theorem dX11_one_168 : decode cX11_one 168 = .ok (.aload_n 0, 1) := by decide +kernel
theorem dX11_one_169 : decode cX11_one 169 = .ok (.getfield 279, 3) := by decide +kernel
theorem dX11_one_172 : decode cX11_one 172 = .ok (.iconst 2, 1) := by decide +kernel
theorem dX11_one_173 : decode cX11_one 173 = .ok (.if_icmp .eq 9, 3) := by decide +kernel
theorem dX11_one_176 : decode cX11_one 176 = .ok (.aload_n 0, 1) := by decide +kernel
theorem dX11_one_177 : decode cX11_one 177 = .ok (.iconst 1, 1) := by decide +kernel
theorem dX11_one_178 : decode cX11_one 178 = .ok (.invokevirtual 301, 3) := by decide +kernel
theorem dX11_one_181 : decode cX11_one 181 = .ok (.ireturn, 1) := by decide +kernel
theorem dX11_one_182 : decode cX11_one 182 = .ok (.aload_n 0, 1) := by decide +kernel
theorem dX11_one_183 : decode cX11_one 183 = .ok (.iload_n 2, 1) := by decide +kernel
theorem dX11_one_184 : decode cX11_one 184 = .ok (.iload_n 3, 1) := by decide +kernel
theorem dX11_one_185 : decode cX11_one 185 = .ok (.aload_n 0, 1) := by decide +kernel
theorem dX11_one_186 : decode cX11_one 186 = .ok (.getfield 285, 3) := by decide +kernel
theorem dX11_one_189 : decode cX11_one 189 = .ok (.invokevirtual 345, 3) := by decide +kernel
theorem dX11_one_192 : decode cX11_one 192 = .ok (.aload_n 0, 1) := by decide +kernel
theorem dX11_one_193 : decode cX11_one 193 = .ok (.invokevirtual 304, 3) := by decide +kernel
theorem dX11_one_196 : decode cX11_one 196 = .ok (.aload_n 0, 1) := by decide +kernel
theorem dX11_one_197 : decode cX11_one 197 = .ok (.iconst 3, 1) := by decide +kernel
theorem dX11_one_198 : decode cX11_one 198 = .ok (.invokevirtual 356, 3) := by decide +kernel
theorem dX11_one_201 : decode cX11_one 201 = .ok (.iconst 1, 1) := by decide +kernel
theorem dX11_one_202 : decode cX11_one 202 = .ok (.ireturn, 1) := by decide +kernel
