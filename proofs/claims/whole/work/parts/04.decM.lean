theorem dX9_init_0 : decode cX9_init 0 = .ok (.aload_n 0, 1) := by decide +kernel
theorem dX9_init_1 : decode cX9_init 1 = .ok (.invokespecial 7, 3) := by decide +kernel
theorem dX9_init_4 : decode cX9_init 4 = .ok (.aload_n 0, 1) := by decide +kernel
theorem dX9_init_5 : decode cX9_init 5 = .ok (.sipush 2000, 3) := by decide +kernel
theorem dX9_init_8 : decode cX9_init 8 = .ok (.newarray .byte, 2) := by decide +kernel
theorem dX9_init_10 : decode cX9_init 10 = .ok (.putfield 13, 3) := by decide +kernel
theorem dX9_init_13 : decode cX9_init 13 = .ok (.aload_n 0, 1) := by decide +kernel
theorem dX9_init_14 : decode cX9_init 14 = .ok (.sipush 2000, 3) := by decide +kernel
theorem dX9_init_17 : decode cX9_init 17 = .ok (.newarray .byte, 2) := by decide +kernel
theorem dX9_init_19 : decode cX9_init 19 = .ok (.putfield 17, 3) := by decide +kernel
theorem dX9_init_22 : decode cX9_init 22 = .ok (.aload_n 0, 1) := by decide +kernel
theorem dX9_init_23 : decode cX9_init 23 = .ok (.sipush 403, 3) := by decide +kernel
theorem dX9_init_26 : decode cX9_init 26 = .ok (.newarray .int, 2) := by decide +kernel
theorem dX9_init_28 : decode cX9_init 28 = .ok (.putfield 20, 3) := by decide +kernel
theorem dX9_init_31 : decode cX9_init 31 = .ok (.aload_n 0, 1) := by decide +kernel
theorem dX9_init_32 : decode cX9_init 32 = .ok (.sipush 403, 3) := by decide +kernel
theorem dX9_init_35 : decode cX9_init 35 = .ok (.newarray .int, 2) := by decide +kernel
theorem dX9_init_37 : decode cX9_init 37 = .ok (.putfield 24, 3) := by decide +kernel
theorem dX9_init_40 : decode cX9_init 40 = .ok (.aload_n 0, 1) := by decide +kernel
theorem dX9_init_41 : decode cX9_init 41 = .ok (.sipush 403, 3) := by decide +kernel
theorem dX9_init_44 : decode cX9_init 44 = .ok (.newarray .int, 2) := by decide +kernel
theorem dX9_init_46 : decode cX9_init 46 = .ok (.putfield 27, 3) := by decide +kernel
theorem dX9_init_49 : decode cX9_init 49 = .ok (.aload_n 0, 1) := by decide +kernel
theorem dX9_init_50 : decode cX9_init 50 = .ok (.sipush 403, 3) := by decide +kernel
theorem dX9_init_53 : decode cX9_init 53 = .ok (.newarray .long, 2) := by decide +kernel
theorem dX9_init_55 : decode cX9_init 55 = .ok (.putfield 30, 3) := by decide +kernel
theorem dX9_init_58 : decode cX9_init 58 = .ok (.aload_n 0, 1) := by decide +kernel
theorem dX9_init_59 : decode cX9_init 59 = .ok (.bipush 12, 2) := by decide +kernel
theorem dX9_init_61 : decode cX9_init 61 = .ok (.newarray .long, 2) := by decide +kernel
theorem dX9_init_63 : decode cX9_init 63 = .ok (.putfield 34, 3) := by decide +kernel
theorem dX9_init_66 : decode cX9_init 66 = .ok (.aload_n 0, 1) := by decide +kernel
theorem dX9_init_67 : decode cX9_init 67 = .ok (.iconst (-1), 1) := by decide +kernel
theorem dX9_init_68 : decode cX9_init 68 = .ok (.putfield 37, 3) := by decide +kernel
theorem dX9_init_71 : decode cX9_init 71 = .ok (.aload_n 0, 1) := by decide +kernel
theorem dX9_init_72 : decode cX9_init 72 = .ok (.iconst 2, 1) := by decide +kernel
theorem dX9_init_73 : decode cX9_init 73 = .ok (.newarray .int, 2) := by decide +kernel
theorem dX9_init_75 : decode cX9_init 75 = .ok (.putfield 40, 3) := by decide +kernel
theorem dX9_init_78 : decode cX9_init 78 = .ok (.aload_n 0, 1) := by decide +kernel
theorem dX9_init_79 : decode cX9_init 79 = .ok (.iconst 4, 1) := by decide +kernel
theorem dX9_init_80 : decode cX9_init 80 = .ok (.newarray .int, 2) := by decide +kernel
theorem dX9_init_82 : decode cX9_init 82 = .ok (.putfield 43, 3) := by decide +kernel
theorem dX9_init_85 : decode cX9_init 85 = .ok (.aload_n 0, 1) := by decide +kernel
theorem dX9_init_86 : decode cX9_init 86 = .ok (.bipush 80, 2) := by decide +kernel
theorem dX9_init_88 : decode cX9_init 88 = .ok (.newarray .int, 2) := by decide +kernel
theorem dX9_init_90 : decode cX9_init 90 = .ok (.putfield 46, 3) := by decide +kernel
theorem dX9_init_93 : decode cX9_init 93 = .ok (.aload_n 0, 1) := by decide +kernel
theorem dX9_init_94 : decode cX9_init 94 = .ok (.bipush 80, 2) := by decide +kernel
theorem dX9_init_96 : decode cX9_init 96 = .ok (.newarray .int, 2) := by decide +kernel
theorem dX9_init_98 : decode cX9_init 98 = .ok (.putfield 49, 3) := by decide +kernel
theorem dX9_init_101 : decode cX9_init 101 = .ok (.aload_n 0, 1) := by decide +kernel
theorem dX9_init_102 : decode cX9_init 102 = .ok (.bipush 80, 2) := by decide +kernel
theorem dX9_init_104 : decode cX9_init 104 = .ok (.newarray .int, 2) := by decide +kernel
theorem dX9_init_106 : decode cX9_init 106 = .ok (.putfield 52, 3) := by decide +kernel
theorem dX9_init_109 : decode cX9_init 109 = .ok (.aload_n 0, 1) := by decide +kernel
theorem dX9_init_110 : decode cX9_init 110 = .ok (.bipush 80, 2) := by decide +kernel
theorem dX9_init_112 : decode cX9_init 112 = .ok (.newarray .int, 2) := by decide +kernel
theorem dX9_init_114 : decode cX9_init 114 = .ok (.putfield 55, 3) := by decide +kernel
theorem dX9_init_117 : decode cX9_init 117 = .ok (.aload_n 0, 1) := by decide +kernel
theorem dX9_init_118 : decode cX9_init 118 = .ok (.iconst 4, 1) := by decide +kernel
theorem dX9_init_119 : decode cX9_init 119 = .ok (.newarray .int, 2) := by decide +kernel
theorem dX9_init_121 : decode cX9_init 121 = .ok (.putfield 58, 3) := by decide +kernel
theorem dX9_init_124 : decode cX9_init 124 = .ok (.aload_n 0, 1) := by decide +kernel
theorem dX9_init_125 : decode cX9_init 125 = .ok (.sipush 800, 3) := by decide +kernel
theorem dX9_init_128 : decode cX9_init 128 = .ok (.newarray .int, 2) := by decide +kernel
theorem dX9_init_130 : decode cX9_init 130 = .ok (.putfield 61, 3) := by decide +kernel
theorem dX9_init_133 : decode cX9_init 133 = .ok (.aload_n 0, 1) := by decide +kernel
theorem dX9_init_134 : decode cX9_init 134 = .ok (.sipush 800, 3) := by decide +kernel
theorem dX9_init_137 : decode cX9_init 137 = .ok (.newarray .int, 2) := by decide +kernel
theorem dX9_init_139 : decode cX9_init 139 = .ok (.putfield 64, 3) := by decide +kernel
theorem dX9_init_142 : decode cX9_init 142 = .ok (.aload_n 0, 1) := by decide +kernel
theorem dX9_init_143 : decode cX9_init 143 = .ok (.sipush 800, 3) := by decide +kernel
theorem dX9_init_146 : decode cX9_init 146 = .ok (.newarray .int, 2) := by decide +kernel
theorem dX9_init_148 : decode cX9_init 148 = .ok (.putfield 67, 3) := by decide +kernel
theorem dX9_init_151 : decode cX9_init 151 = .ok (.aload_n 0, 1) := by decide +kernel
theorem dX9_init_152 : decode cX9_init 152 = .ok (.sipush 800, 3) := by decide +kernel
theorem dX9_init_155 : decode cX9_init 155 = .ok (.newarray .int, 2) := by decide +kernel
theorem dX9_init_157 : decode cX9_init 157 = .ok (.putfield 70, 3) := by decide +kernel
theorem dX9_init_160 : decode cX9_init 160 = .ok (.aload_n 0, 1) := by decide +kernel
theorem dX9_init_161 : decode cX9_init 161 = .ok (.sipush 800, 3) := by decide +kernel
theorem dX9_init_164 : decode cX9_init 164 = .ok (.newarray .boolean, 2) := by decide +kernel
theorem dX9_init_166 : decode cX9_init 166 = .ok (.putfield 73, 3) := by decide +kernel
theorem dX9_init_169 : decode cX9_init 169 = .ok (.aload_n 0, 1) := by decide +kernel
theorem dX9_init_170 : decode cX9_init 170 = .ok (.sipush 2000, 3) := by decide +kernel
theorem dX9_init_173 : decode cX9_init 173 = .ok (.newarray .int, 2) := by decide +kernel
theorem dX9_init_175 : decode cX9_init 175 = .ok (.putfield 77, 3) := by decide +kernel
theorem dX9_init_178 : decode cX9_init 178 = .ok (.aload_n 0, 1) := by decide +kernel
theorem dX9_init_179 : decode cX9_init 179 = .ok (.sipush 2000, 3) := by decide +kernel
theorem dX9_init_182 : decode cX9_init 182 = .ok (.newarray .int, 2) := by decide +kernel
theorem dX9_init_184 : decode cX9_init 184 = .ok (.putfield 80, 3) := by decide +kernel
theorem dX9_init_187 : decode cX9_init 187 = .ok (.aload_n 0, 1) := by decide +kernel
theorem dX9_init_188 : decode cX9_init 188 = .ok (.bipush 48, 2) := by decide +kernel
theorem dX9_init_190 : decode cX9_init 190 = .ok (.newarray .int, 2) := by decide +kernel
theorem dX9_init_192 : decode cX9_init 192 = .ok (.putfield 83, 3) := by decide +kernel
theorem dX9_init_195 : decode cX9_init 195 = .ok (.aload_n 0, 1) := by decide +kernel
theorem dX9_init_196 : decode cX9_init 196 = .ok (.bipush 8, 2) := by decide +kernel
theorem dX9_init_198 : decode cX9_init 198 = .ok (.newarray .int, 2) := by decide +kernel
theorem dX9_init_200 : decode cX9_init 200 = .ok (.putfield 86, 3) := by decide +kernel
theorem dX9_init_203 : decode cX9_init 203 = .ok (.aload_n 0, 1) := by decide +kernel
theorem dX9_init_204 : decode cX9_init 204 = .ok (.bipush 8, 2) := by decide +kernel
theorem dX9_init_206 : decode cX9_init 206 = .ok (.newarray .int, 2) := by decide +kernel
theorem dX9_init_208 : decode cX9_init 208 = .ok (.putfield 89, 3) := by decide +kernel
theorem dX9_init_211 : decode cX9_init 211 = .ok (.aload_n 0, 1) := by decide +kernel
theorem dX9_init_212 : decode cX9_init 212 = .ok (.bipush 8, 2) := by decide +kernel
theorem dX9_init_214 : decode cX9_init 214 = .ok (.newarray .int, 2) := by decide +kernel
theorem dX9_init_216 : decode cX9_init 216 = .ok (.putfield 92, 3) := by decide +kernel
theorem dX9_init_219 : decode cX9_init 219 = .ok (.aload_n 0, 1) := by decide +kernel
theorem dX9_init_220 : decode cX9_init 220 = .ok (.iconst 4, 1) := by decide +kernel
theorem dX9_init_221 : decode cX9_init 221 = .ok (.newarray .int, 2) := by decide +kernel
theorem dX9_init_223 : decode cX9_init 223 = .ok (.putfield 95, 3) := by decide +kernel
theorem dX9_init_226 : decode cX9_init 226 = .ok (.aload_n 0, 1) := by decide +kernel
theorem dX9_init_227 : decode cX9_init 227 = .ok (.bipush 6, 2) := by decide +kernel
theorem dX9_init_229 : decode cX9_init 229 = .ok (.newarray .int, 2) := by decide +kernel
theorem dX9_init_231 : decode cX9_init 231 = .ok (.putfield 98, 3) := by decide +kernel
theorem dX9_init_234 : decode cX9_init 234 = .ok (.aload_n 0, 1) := by decide +kernel
theorem dX9_init_235 : decode cX9_init 235 = .ok (.bipush 6, 2) := by decide +kernel
theorem dX9_init_237 : decode cX9_init 237 = .ok (.newarray .int, 2) := by decide +kernel
theorem dX9_init_239 : decode cX9_init 239 = .ok (.putfield 101, 3) := by decide +kernel
theorem dX9_init_242 : decode cX9_init 242 = .ok (.aload_n 0, 1) := by decide +kernel
theorem dX9_init_243 : decode cX9_init 243 = .ok (.sipush 2400, 3) := by decide +kernel
theorem dX9_init_246 : decode cX9_init 246 = .ok (.newarray .boolean, 2) := by decide +kernel
theorem dX9_init_248 : decode cX9_init 248 = .ok (.putfield 104, 3) := by decide +kernel
theorem dX9_init_251 : decode cX9_init 251 = .ok (.aload_n 0, 1) := by decide +kernel
theorem dX9_init_252 : decode cX9_init 252 = .ok (.sipush 2400, 3) := by decide +kernel
theorem dX9_init_255 : decode cX9_init 255 = .ok (.newarray .boolean, 2) := by decide +kernel
theorem dX9_init_257 : decode cX9_init 257 = .ok (.putfield 107, 3) := by decide +kernel
theorem dX9_init_260 : decode cX9_init 260 = .ok (.aload_n 0, 1) := by decide +kernel
theorem dX9_init_261 : decode cX9_init 261 = .ok (.sipush 600, 3) := by decide +kernel
theorem dX9_init_264 : decode cX9_init 264 = .ok (.newarray .boolean, 2) := by decide +kernel
theorem dX9_init_266 : decode cX9_init 266 = .ok (.putfield 110, 3) := by decide +kernel
theorem dX9_init_269 : decode cX9_init 269 = .ok (.aload_n 0, 1) := by decide +kernel
theorem dX9_init_270 : decode cX9_init 270 = .ok (.sipush 21600, 3) := by decide +kernel
theorem dX9_init_273 : decode cX9_init 273 = .ok (.newarray .boolean, 2) := by decide +kernel
theorem dX9_init_275 : decode cX9_init 275 = .ok (.putfield 113, 3) := by decide +kernel
theorem dX9_init_278 : decode cX9_init 278 = .ok (.aload_n 0, 1) := by decide +kernel
theorem dX9_init_279 : decode cX9_init 279 = .ok (.bipush 7, 2) := by decide +kernel
theorem dX9_init_281 : decode cX9_init 281 = .ok (.newarray .int, 2) := by decide +kernel
theorem dX9_init_283 : decode cX9_init 283 = .ok (.putfield 116, 3) := by decide +kernel
theorem dX9_init_286 : decode cX9_init 286 = .ok (.aload_n 0, 1) := by decide +kernel
theorem dX9_init_287 : decode cX9_init 287 = .ok (.sipush 500, 3) := by decide +kernel
theorem dX9_init_290 : decode cX9_init 290 = .ok (.newarray .int, 2) := by decide +kernel
theorem dX9_init_292 : decode cX9_init 292 = .ok (.putfield 119, 3) := by decide +kernel
theorem dX9_init_295 : decode cX9_init 295 = .ok (.aload_n 0, 1) := by decide +kernel
theorem dX9_init_296 : decode cX9_init 296 = .ok (.sipush 2400, 3) := by decide +kernel
theorem dX9_init_299 : decode cX9_init 299 = .ok (.newarray .int, 2) := by decide +kernel
theorem dX9_init_301 : decode cX9_init 301 = .ok (.putfield 122, 3) := by decide +kernel
theorem dX9_init_304 : decode cX9_init 304 = .ok (.aload_n 0, 1) := by decide +kernel
theorem dX9_init_305 : decode cX9_init 305 = .ok (.sipush 2400, 3) := by decide +kernel
theorem dX9_init_308 : decode cX9_init 308 = .ok (.newarray .int, 2) := by decide +kernel
theorem dX9_init_310 : decode cX9_init 310 = .ok (.putfield 125, 3) := by decide +kernel
theorem dX9_init_313 : decode cX9_init 313 = .ok (.aload_n 0, 1) := by decide +kernel
theorem dX9_init_314 : decode cX9_init 314 = .ok (.sipush 2400, 3) := by decide +kernel
theorem dX9_init_317 : decode cX9_init 317 = .ok (.newarray .int, 2) := by decide +kernel
theorem dX9_init_319 : decode cX9_init 319 = .ok (.putfield 128, 3) := by decide +kernel
theorem dX9_init_322 : decode cX9_init 322 = .ok (.aload_n 0, 1) := by decide +kernel
theorem dX9_init_323 : decode cX9_init 323 = .ok (.sipush 2400, 3) := by decide +kernel
theorem dX9_init_326 : decode cX9_init 326 = .ok (.newarray .int, 2) := by decide +kernel
theorem dX9_init_328 : decode cX9_init 328 = .ok (.putfield 131, 3) := by decide +kernel
theorem dX9_init_331 : decode cX9_init 331 = .ok (.aload_n 0, 1) := by decide +kernel
theorem dX9_init_332 : decode cX9_init 332 = .ok (.sipush 2400, 3) := by decide +kernel
theorem dX9_init_335 : decode cX9_init 335 = .ok (.newarray .int, 2) := by decide +kernel
theorem dX9_init_337 : decode cX9_init 337 = .ok (.putfield 134, 3) := by decide +kernel
theorem dX9_init_340 : decode cX9_init 340 = .ok (.aload_n 0, 1) := by decide +kernel
theorem dX9_init_341 : decode cX9_init 341 = .ok (.sipush 2400, 3) := by decide +kernel
theorem dX9_init_344 : decode cX9_init 344 = .ok (.newarray .int, 2) := by decide +kernel
theorem dX9_init_346 : decode cX9_init 346 = .ok (.putfield 137, 3) := by decide +kernel
theorem dX9_init_349 : decode cX9_init 349 = .ok (.aload_n 0, 1) := by decide +kernel
theorem dX9_init_350 : decode cX9_init 350 = .ok (.sipush 2400, 3) := by decide +kernel
theorem dX9_init_353 : decode cX9_init 353 = .ok (.newarray .int, 2) := by decide +kernel
theorem dX9_init_355 : decode cX9_init 355 = .ok (.putfield 140, 3) := by decide +kernel
theorem dX9_init_358 : decode cX9_init 358 = .ok (.aload_n 0, 1) := by decide +kernel
theorem dX9_init_359 : decode cX9_init 359 = .ok (.sipush 2400, 3) := by decide +kernel
theorem dX9_init_362 : decode cX9_init 362 = .ok (.newarray .int, 2) := by decide +kernel
theorem dX9_init_364 : decode cX9_init 364 = .ok (.putfield 143, 3) := by decide +kernel
theorem dX9_init_367 : decode cX9_init 367 = .ok (.aload_n 0, 1) := by decide +kernel
theorem dX9_init_368 : decode cX9_init 368 = .ok (.sipush 2400, 3) := by decide +kernel
theorem dX9_init_371 : decode cX9_init 371 = .ok (.newarray .int, 2) := by decide +kernel
theorem dX9_init_373 : decode cX9_init 373 = .ok (.putfield 146, 3) := by decide +kernel
theorem dX9_init_376 : decode cX9_init 376 = .ok (.aload_n 0, 1) := by decide +kernel
theorem dX9_init_377 : decode cX9_init 377 = .ok (.sipush 2400, 3) := by decide +kernel
theorem dX9_init_380 : decode cX9_init 380 = .ok (.newarray .int, 2) := by decide +kernel
theorem dX9_init_382 : decode cX9_init 382 = .ok (.putfield 149, 3) := by decide +kernel
theorem dX9_init_385 : decode cX9_init 385 = .ok (.aload_n 0, 1) := by decide +kernel
theorem dX9_init_386 : decode cX9_init 386 = .ok (.sipush 300, 3) := by decide +kernel
theorem dX9_init_389 : decode cX9_init 389 = .ok (.newarray .int, 2) := by decide +kernel
theorem dX9_init_391 : decode cX9_init 391 = .ok (.putfield 152, 3) := by decide +kernel
theorem dX9_init_394 : decode cX9_init 394 = .ok (.aload_n 0, 1) := by decide +kernel
theorem dX9_init_395 : decode cX9_init 395 = .ok (.bipush 72, 2) := by decide +kernel
theorem dX9_init_397 : decode cX9_init 397 = .ok (.newarray .int, 2) := by decide +kernel
theorem dX9_init_399 : decode cX9_init 399 = .ok (.putfield 155, 3) := by decide +kernel
theorem dX9_init_402 : decode cX9_init 402 = .ok (.aload_n 0, 1) := by decide +kernel
theorem dX9_init_403 : decode cX9_init 403 = .ok (.bipush 8, 2) := by decide +kernel
theorem dX9_init_405 : decode cX9_init 405 = .ok (.newarray .int, 2) := by decide +kernel
theorem dX9_init_407 : decode cX9_init 407 = .ok (.putfield 158, 3) := by decide +kernel
theorem dX9_init_410 : decode cX9_init 410 = .ok (.aload_n 0, 1) := by decide +kernel
theorem dX9_init_411 : decode cX9_init 411 = .ok (.bipush 8, 2) := by decide +kernel
theorem dX9_init_413 : decode cX9_init 413 = .ok (.newarray .int, 2) := by decide +kernel
theorem dX9_init_415 : decode cX9_init 415 = .ok (.putfield 161, 3) := by decide +kernel
theorem dX9_init_418 : decode cX9_init 418 = .ok (.aload_n 0, 1) := by decide +kernel
theorem dX9_init_419 : decode cX9_init 419 = .ok (.bipush 8, 2) := by decide +kernel
theorem dX9_init_421 : decode cX9_init 421 = .ok (.newarray .int, 2) := by decide +kernel
theorem dX9_init_423 : decode cX9_init 423 = .ok (.putfield 164, 3) := by decide +kernel
theorem dX9_init_426 : decode cX9_init 426 = .ok (.aload_n 0, 1) := by decide +kernel
theorem dX9_init_427 : decode cX9_init 427 = .ok (.bipush 8, 2) := by decide +kernel
theorem dX9_init_429 : decode cX9_init 429 = .ok (.newarray .int, 2) := by decide +kernel
theorem dX9_init_431 : decode cX9_init 431 = .ok (.putfield 167, 3) := by decide +kernel
theorem dX9_init_434 : decode cX9_init 434 = .ok (.aload_n 0, 1) := by decide +kernel
theorem dX9_init_435 : decode cX9_init 435 = .ok (.bipush 8, 2) := by decide +kernel
theorem dX9_init_437 : decode cX9_init 437 = .ok (.newarray .int, 2) := by decide +kernel
theorem dX9_init_439 : decode cX9_init 439 = .ok (.putfield 170, 3) := by decide +kernel
theorem dX9_init_442 : decode cX9_init 442 = .ok (.aload_n 0, 1) := by decide +kernel
theorem dX9_init_443 : decode cX9_init 443 = .ok (.bipush 8, 2) := by decide +kernel
theorem dX9_init_445 : decode cX9_init 445 = .ok (.newarray .int, 2) := by decide +kernel
theorem dX9_init_447 : decode cX9_init 447 = .ok (.putfield 173, 3) := by decide +kernel
theorem dX9_init_450 : decode cX9_init 450 = .ok (.aload_n 0, 1) := by decide +kernel
theorem dX9_init_451 : decode cX9_init 451 = .ok (.bipush 8, 2) := by decide +kernel
theorem dX9_init_453 : decode cX9_init 453 = .ok (.newarray .int, 2) := by decide +kernel
theorem dX9_init_455 : decode cX9_init 455 = .ok (.putfield 176, 3) := by decide +kernel
theorem dX9_init_458 : decode cX9_init 458 = .ok (.aload_n 0, 1) := by decide +kernel
theorem dX9_init_459 : decode cX9_init 459 = .ok (.bipush 8, 2) := by decide +kernel
theorem dX9_init_461 : decode cX9_init 461 = .ok (.newarray .int, 2) := by decide +kernel
theorem dX9_init_463 : decode cX9_init 463 = .ok (.putfield 179, 3) := by decide +kernel
theorem dX9_init_466 : decode cX9_init 466 = .ok (.aload_n 0, 1) := by decide +kernel
theorem dX9_init_467 : decode cX9_init 467 = .ok (.bipush 8, 2) := by decide +kernel
theorem dX9_init_469 : decode cX9_init 469 = .ok (.newarray .int, 2) := by decide +kernel
theorem dX9_init_471 : decode cX9_init 471 = .ok (.putfield 182, 3) := by decide +kernel
theorem dX9_init_474 : decode cX9_init 474 = .ok (.aload_n 0, 1) := by decide +kernel
theorem dX9_init_475 : decode cX9_init 475 = .ok (.bipush 8, 2) := by decide +kernel
theorem dX9_init_477 : decode cX9_init 477 = .ok (.newarray .int, 2) := by decide +kernel
theorem dX9_init_479 : decode cX9_init 479 = .ok (.putfield 185, 3) := by decide +kernel
theorem dX9_init_482 : decode cX9_init 482 = .ok (.aload_n 0, 1) := by decide +kernel
theorem dX9_init_483 : decode cX9_init 483 = .ok (.bipush 8, 2) := by decide +kernel
theorem dX9_init_485 : decode cX9_init 485 = .ok (.newarray .int, 2) := by decide +kernel
theorem dX9_init_487 : decode cX9_init 487 = .ok (.putfield 188, 3) := by decide +kernel
theorem dX9_init_490 : decode cX9_init 490 = .ok (.aload_n 0, 1) := by decide +kernel
theorem dX9_init_491 : decode cX9_init 491 = .ok (.bipush 8, 2) := by decide +kernel
theorem dX9_init_493 : decode cX9_init 493 = .ok (.newarray .int, 2) := by decide +kernel
theorem dX9_init_495 : decode cX9_init 495 = .ok (.putfield 191, 3) := by decide +kernel
theorem dX9_init_498 : decode cX9_init 498 = .ok (.aload_n 0, 1) := by decide +kernel
theorem dX9_init_499 : decode cX9_init 499 = .ok (.bipush 8, 2) := by decide +kernel
theorem dX9_init_501 : decode cX9_init 501 = .ok (.newarray .int, 2) := by decide +kernel
theorem dX9_init_503 : decode cX9_init 503 = .ok (.putfield 194, 3) := by decide +kernel
theorem dX9_init_506 : decode cX9_init 506 = .ok (.aload_n 0, 1) := by decide +kernel
theorem dX9_init_507 : decode cX9_init 507 = .ok (.bipush 72, 2) := by decide +kernel
theorem dX9_init_509 : decode cX9_init 509 = .ok (.newarray .boolean, 2) := by decide +kernel
theorem dX9_init_511 : decode cX9_init 511 = .ok (.putfield 197, 3) := by decide +kernel
theorem dX9_init_514 : decode cX9_init 514 = .ok (.aload_n 0, 1) := by decide +kernel
theorem dX9_init_515 : decode cX9_init 515 = .ok (.bipush 8, 2) := by decide +kernel
theorem dX9_init_517 : decode cX9_init 517 = .ok (.newarray .boolean, 2) := by decide +kernel
theorem dX9_init_519 : decode cX9_init 519 = .ok (.putfield 200, 3) := by decide +kernel
theorem dX9_init_522 : decode cX9_init 522 = .ok (.aload_n 0, 1) := by decide +kernel
theorem dX9_init_523 : decode cX9_init 523 = .ok (.iconst 4, 1) := by decide +kernel
theorem dX9_init_524 : decode cX9_init 524 = .ok (.newarray .int, 2) := by decide +kernel
theorem dX9_init_526 : decode cX9_init 526 = .ok (.putfield 203, 3) := by decide +kernel
theorem dX9_init_529 : decode cX9_init 529 = .ok (.aload_n 0, 1) := by decide +kernel
theorem dX9_init_530 : decode cX9_init 530 = .ok (.getfield 34, 3) := by decide +kernel
theorem dX9_init_533 : decode cX9_init 533 = .ok (.iconst 0, 1) := by decide +kernel
theorem dX9_init_534 : decode cX9_init 534 = .ok (.bipush 102, 2) := by decide +kernel
theorem dX9_init_536 : decode cX9_init 536 = .ok (.bipush 105, 2) := by decide +kernel
theorem dX9_init_538 : decode cX9_init 538 = .ok (.bipush 108, 2) := by decide +kernel
theorem dX9_init_540 : decode cX9_init 540 = .ok (.bipush 101, 2) := by decide +kernel
theorem dX9_init_542 : decode cX9_init 542 = .ok (.iconst 0, 1) := by decide +kernel
theorem dX9_init_543 : decode cX9_init 543 = .ok (.iconst 0, 1) := by decide +kernel
theorem dX9_init_544 : decode cX9_init 544 = .ok (.iconst 0, 1) := by decide +kernel
theorem dX9_init_545 : decode cX9_init 545 = .ok (.invokestatic 206, 3) := by decide +kernel
theorem dX9_init_548 : decode cX9_init 548 = .ok (.lastore, 1) := by decide +kernel
theorem dX9_init_549 : decode cX9_init 549 = .ok (.aload_n 0, 1) := by decide +kernel
theorem dX9_init_550 : decode cX9_init 550 = .ok (.getfield 34, 3) := by decide +kernel
theorem dX9_init_553 : decode cX9_init 553 = .ok (.iconst 1, 1) := by decide +kernel
theorem dX9_init_554 : decode cX9_init 554 = .ok (.bipush 105, 2) := by decide +kernel
theorem dX9_init_556 : decode cX9_init 556 = .ok (.bipush 102, 2) := by decide +kernel
theorem dX9_init_558 : decode cX9_init 558 = .ok (.iconst 0, 1) := by decide +kernel
theorem dX9_init_559 : decode cX9_init 559 = .ok (.iconst 0, 1) := by decide +kernel
theorem dX9_init_560 : decode cX9_init 560 = .ok (.iconst 0, 1) := by decide +kernel
theorem dX9_init_561 : decode cX9_init 561 = .ok (.iconst 0, 1) := by decide +kernel
theorem dX9_init_562 : decode cX9_init 562 = .ok (.iconst 0, 1) := by decide +kernel
theorem dX9_init_563 : decode cX9_init 563 = .ok (.invokestatic 206, 3) := by decide +kernel
theorem dX9_init_566 : decode cX9_init 566 = .ok (.lastore, 1) := by decide +kernel
theorem dX9_init_567 : decode cX9_init 567 = .ok (.aload_n 0, 1) := by decide +kernel
theorem dX9_init_568 : decode cX9_init 568 = .ok (.getfield 34, 3) := by decide +kernel
theorem dX9_init_571 : decode cX9_init 571 = .ok (.iconst 2, 1) := by decide +kernel
theorem dX9_init_572 : decode cX9_init 572 = .ok (.bipush 97, 2) := by decide +kernel
theorem dX9_init_574 : decode cX9_init 574 = .ok (.bipush 102, 2) := by decide +kernel
theorem dX9_init_576 : decode cX9_init 576 = .ok (.bipush 116, 2) := by decide +kernel
theorem dX9_init_578 : decode cX9_init 578 = .ok (.bipush 101, 2) := by decide +kernel
theorem dX9_init_580 : decode cX9_init 580 = .ok (.bipush 114, 2) := by decide +kernel
theorem dX9_init_582 : decode cX9_init 582 = .ok (.iconst 0, 1) := by decide +kernel
theorem dX9_init_583 : decode cX9_init 583 = .ok (.iconst 0, 1) := by decide +kernel
theorem dX9_init_584 : decode cX9_init 584 = .ok (.invokestatic 206, 3) := by decide +kernel
theorem dX9_init_587 : decode cX9_init 587 = .ok (.lastore, 1) := by decide +kernel
theorem dX9_init_588 : decode cX9_init 588 = .ok (.aload_n 0, 1) := by decide +kernel
theorem dX9_init_589 : decode cX9_init 589 = .ok (.getfield 34, 3) := by decide +kernel
theorem dX9_init_592 : decode cX9_init 592 = .ok (.iconst 3, 1) := by decide +kernel
theorem dX9_init_593 : decode cX9_init 593 = .ok (.bipush 111, 2) := by decide +kernel
theorem dX9_init_595 : decode cX9_init 595 = .ok (.bipush 114, 2) := by decide +kernel
theorem dX9_init_597 : decode cX9_init 597 = .ok (.iconst 0, 1) := by decide +kernel
theorem dX9_init_598 : decode cX9_init 598 = .ok (.iconst 0, 1) := by decide +kernel
theorem dX9_init_599 : decode cX9_init 599 = .ok (.iconst 0, 1) := by decide +kernel
theorem dX9_init_600 : decode cX9_init 600 = .ok (.iconst 0, 1) := by decide +kernel
theorem dX9_init_601 : decode cX9_init 601 = .ok (.iconst 0, 1) := by decide +kernel
theorem dX9_init_602 : decode cX9_init 602 = .ok (.invokestatic 206, 3) := by decide +kernel
theorem dX9_init_605 : decode cX9_init 605 = .ok (.lastore, 1) := by decide +kernel
theorem dX9_init_606 : decode cX9_init 606 = .ok (.aload_n 0, 1) := by decide +kernel
theorem dX9_init_607 : decode cX9_init 607 = .ok (.getfield 34, 3) := by decide +kernel
theorem dX9_init_610 : decode cX9_init 610 = .ok (.iconst 4, 1) := by decide +kernel
theorem dX9_init_611 : decode cX9_init 611 = .ok (.bipush 97, 2) := by decide +kernel
theorem dX9_init_613 : decode cX9_init 613 = .ok (.bipush 110, 2) := by decide +kernel
theorem dX9_init_615 : decode cX9_init 615 = .ok (.bipush 100, 2) := by decide +kernel
theorem dX9_init_617 : decode cX9_init 617 = .ok (.iconst 0, 1) := by decide +kernel
theorem dX9_init_618 : decode cX9_init 618 = .ok (.iconst 0, 1) := by decide +kernel
theorem dX9_init_619 : decode cX9_init 619 = .ok (.iconst 0, 1) := by decide +kernel
theorem dX9_init_620 : decode cX9_init 620 = .ok (.iconst 0, 1) := by decide +kernel
theorem dX9_init_621 : decode cX9_init 621 = .ok (.invokestatic 206, 3) := by decide +kernel
theorem dX9_init_624 : decode cX9_init 624 = .ok (.lastore, 1) := by decide +kernel
theorem dX9_init_625 : decode cX9_init 625 = .ok (.aload_n 0, 1) := by decide +kernel
theorem dX9_init_626 : decode cX9_init 626 = .ok (.getfield 34, 3) := by decide +kernel
theorem dX9_init_629 : decode cX9_init 629 = .ok (.iconst 5, 1) := by decide +kernel
theorem dX9_init_630 : decode cX9_init 630 = .ok (.bipush 107, 2) := by decide +kernel
theorem dX9_init_632 : decode cX9_init 632 = .ok (.bipush 105, 2) := by decide +kernel
theorem dX9_init_634 : decode cX9_init 634 = .ok (.bipush 110, 2) := by decide +kernel
theorem dX9_init_636 : decode cX9_init 636 = .ok (.bipush 100, 2) := by decide +kernel
theorem dX9_init_638 : decode cX9_init 638 = .ok (.iconst 0, 1) := by decide +kernel
theorem dX9_init_639 : decode cX9_init 639 = .ok (.iconst 0, 1) := by decide +kernel
theorem dX9_init_640 : decode cX9_init 640 = .ok (.iconst 0, 1) := by decide +kernel
theorem dX9_init_641 : decode cX9_init 641 = .ok (.invokestatic 206, 3) := by decide +kernel
theorem dX9_init_644 : decode cX9_init 644 = .ok (.lastore, 1) := by decide +kernel
theorem dX9_init_645 : decode cX9_init 645 = .ok (.aload_n 0, 1) := by decide +kernel
theorem dX9_init_646 : decode cX9_init 646 = .ok (.getfield 34, 3) := by decide +kernel
theorem dX9_init_649 : decode cX9_init 649 = .ok (.bipush 6, 2) := by decide +kernel
theorem dX9_init_651 : decode cX9_init 651 = .ok (.bipush 112, 2) := by decide +kernel
theorem dX9_init_653 : decode cX9_init 653 = .ok (.bipush 108, 2) := by decide +kernel
theorem dX9_init_655 : decode cX9_init 655 = .ok (.bipush 97, 2) := by decide +kernel
theorem dX9_init_657 : decode cX9_init 657 = .ok (.bipush 99, 2) := by decide +kernel
theorem dX9_init_659 : decode cX9_init 659 = .ok (.bipush 101, 2) := by decide +kernel
theorem dX9_init_661 : decode cX9_init 661 = .ok (.iconst 0, 1) := by decide +kernel
theorem dX9_init_662 : decode cX9_init 662 = .ok (.iconst 0, 1) := by decide +kernel
theorem dX9_init_663 : decode cX9_init 663 = .ok (.invokestatic 206, 3) := by decide +kernel
theorem dX9_init_666 : decode cX9_init 666 = .ok (.lastore, 1) := by decide +kernel
theorem dX9_init_667 : decode cX9_init 667 = .ok (.aload_n 0, 1) := by decide +kernel
theorem dX9_init_668 : decode cX9_init 668 = .ok (.getfield 34, 3) := by decide +kernel
theorem dX9_init_671 : decode cX9_init 671 = .ok (.bipush 7, 2) := by decide +kernel
theorem dX9_init_673 : decode cX9_init 673 = .ok (.bipush 109, 2) := by decide +kernel
theorem dX9_init_675 : decode cX9_init 675 = .ok (.bipush 97, 2) := by decide +kernel
theorem dX9_init_677 : decode cX9_init 677 = .ok (.bipush 114, 2) := by decide +kernel
theorem dX9_init_679 : decode cX9_init 679 = .ok (.bipush 107, 2) := by decide +kernel
theorem dX9_init_681 : decode cX9_init 681 = .ok (.iconst 0, 1) := by decide +kernel
theorem dX9_init_682 : decode cX9_init 682 = .ok (.iconst 0, 1) := by decide +kernel
theorem dX9_init_683 : decode cX9_init 683 = .ok (.iconst 0, 1) := by decide +kernel
theorem dX9_init_684 : decode cX9_init 684 = .ok (.invokestatic 206, 3) := by decide +kernel
theorem dX9_init_687 : decode cX9_init 687 = .ok (.lastore, 1) := by decide +kernel
theorem dX9_init_688 : decode cX9_init 688 = .ok (.aload_n 0, 1) := by decide +kernel
theorem dX9_init_689 : decode cX9_init 689 = .ok (.getfield 34, 3) := by decide +kernel
theorem dX9_init_692 : decode cX9_init 692 = .ok (.bipush 8, 2) := by decide +kernel
theorem dX9_init_694 : decode cX9_init 694 = .ok (.bipush 116, 2) := by decide +kernel
theorem dX9_init_696 : decode cX9_init 696 = .ok (.bipush 114, 2) := by decide +kernel
theorem dX9_init_698 : decode cX9_init 698 = .ok (.bipush 105, 2) := by decide +kernel
theorem dX9_init_700 : decode cX9_init 700 = .ok (.bipush 101, 2) := by decide +kernel
theorem dX9_init_702 : decode cX9_init 702 = .ok (.bipush 115, 2) := by decide +kernel
theorem dX9_init_704 : decode cX9_init 704 = .ok (.iconst 0, 1) := by decide +kernel
theorem dX9_init_705 : decode cX9_init 705 = .ok (.iconst 0, 1) := by decide +kernel
theorem dX9_init_706 : decode cX9_init 706 = .ok (.invokestatic 206, 3) := by decide +kernel
theorem dX9_init_709 : decode cX9_init 709 = .ok (.lastore, 1) := by decide +kernel
theorem dX9_init_710 : decode cX9_init 710 = .ok (.aload_n 0, 1) := by decide +kernel
theorem dX9_init_711 : decode cX9_init 711 = .ok (.getfield 34, 3) := by decide +kernel
theorem dX9_init_714 : decode cX9_init 714 = .ok (.bipush 9, 2) := by decide +kernel
theorem dX9_init_716 : decode cX9_init 716 = .ok (.bipush 98, 2) := by decide +kernel
theorem dX9_init_718 : decode cX9_init 718 = .ok (.bipush 97, 2) := by decide +kernel
theorem dX9_init_720 : decode cX9_init 720 = .ok (.bipush 100, 2) := by decide +kernel
theorem dX9_init_722 : decode cX9_init 722 = .ok (.iconst 0, 1) := by decide +kernel
theorem dX9_init_723 : decode cX9_init 723 = .ok (.iconst 0, 1) := by decide +kernel
theorem dX9_init_724 : decode cX9_init 724 = .ok (.iconst 0, 1) := by decide +kernel
theorem dX9_init_725 : decode cX9_init 725 = .ok (.iconst 0, 1) := by decide +kernel
theorem dX9_init_726 : decode cX9_init 726 = .ok (.invokestatic 206, 3) := by decide +kernel
theorem dX9_init_729 : decode cX9_init 729 = .ok (.lastore, 1) := by decide +kernel
theorem dX9_init_730 : decode cX9_init 730 = .ok (.aload_n 0, 1) := by decide +kernel
theorem dX9_init_731 : decode cX9_init 731 = .ok (.getfield 34, 3) := by decide +kernel
theorem dX9_init_734 : decode cX9_init 734 = .ok (.bipush 10, 2) := by decide +kernel
theorem dX9_init_736 : decode cX9_init 736 = .ok (.bipush 98, 2) := by decide +kernel
theorem dX9_init_738 : decode cX9_init 738 = .ok (.bipush 101, 2) := by decide +kernel
theorem dX9_init_740 : decode cX9_init 740 = .ok (.bipush 103, 2) := by decide +kernel
theorem dX9_init_742 : decode cX9_init 742 = .ok (.bipush 117, 2) := by decide +kernel
theorem dX9_init_744 : decode cX9_init 744 = .ok (.bipush 110, 2) := by decide +kernel
theorem dX9_init_746 : decode cX9_init 746 = .ok (.iconst 0, 1) := by decide +kernel
theorem dX9_init_747 : decode cX9_init 747 = .ok (.iconst 0, 1) := by decide +kernel
theorem dX9_init_748 : decode cX9_init 748 = .ok (.invokestatic 206, 3) := by decide +kernel
theorem dX9_init_751 : decode cX9_init 751 = .ok (.lastore, 1) := by decide +kernel
theorem dX9_init_752 : decode cX9_init 752 = .ok (.aload_n 0, 1) := by decide +kernel
theorem dX9_init_753 : decode cX9_init 753 = .ok (.getfield 34, 3) := by decide +kernel
theorem dX9_init_756 : decode cX9_init 756 = .ok (.bipush 11, 2) := by decide +kernel
theorem dX9_init_758 : decode cX9_init 758 = .ok (.bipush 116, 2) := by decide +kernel
theorem dX9_init_760 : decode cX9_init 760 = .ok (.bipush 105, 2) := by decide +kernel
theorem dX9_init_762 : decode cX9_init 762 = .ok (.bipush 99, 2) := by decide +kernel
theorem dX9_init_764 : decode cX9_init 764 = .ok (.bipush 107, 2) := by decide +kernel
theorem dX9_init_766 : decode cX9_init 766 = .ok (.iconst 0, 1) := by decide +kernel
theorem dX9_init_767 : decode cX9_init 767 = .ok (.iconst 0, 1) := by decide +kernel
theorem dX9_init_768 : decode cX9_init 768 = .ok (.iconst 0, 1) := by decide +kernel
theorem dX9_init_769 : decode cX9_init 769 = .ok (.invokestatic 206, 3) := by decide +kernel
theorem dX9_init_772 : decode cX9_init 772 = .ok (.lastore, 1) := by decide +kernel
theorem dX9_init_773 : decode cX9_init 773 = .ok (.aload_n 0, 1) := by decide +kernel
theorem dX9_init_774 : decode cX9_init 774 = .ok (.iconst 2, 1) := by decide +kernel
theorem dX9_init_775 : decode cX9_init 775 = .ok (.putfield 210, 3) := by decide +kernel
theorem dX9_init_778 : decode cX9_init 778 = .ok (.return_, 1) := by decide +kernel
theorem dX9_feed_0 : decode cX9_feed 0 = .ok (.aload_n 0, 1) := by decide +kernel
theorem dX9_feed_1 : decode cX9_feed 1 = .ok (.getfield 213, 3) := by decide +kernel
theorem dX9_feed_4 : decode cX9_feed 4 = .ok (.bipush 20, 2) := by decide +kernel
theorem dX9_feed_6 : decode cX9_feed 6 = .ok (.iadd, 1) := by decide +kernel
theorem dX9_feed_7 : decode cX9_feed 7 = .ok (.sipush 2000, 3) := by decide +kernel
theorem dX9_feed_10 : decode cX9_feed 10 = .ok (.if_icmp .le 5, 3) := by decide +kernel
theorem dX9_feed_13 : decode cX9_feed 13 = .ok (.iconst (-1), 1) := by decide +kernel
theorem dX9_feed_14 : decode cX9_feed 14 = .ok (.ireturn, 1) := by decide +kernel
theorem dX9_feed_15 : decode cX9_feed 15 = .ok (.aload_n 0, 1) := by decide +kernel
theorem dX9_feed_16 : decode cX9_feed 16 = .ok (.iload_n 1, 1) := by decide +kernel
theorem dX9_feed_17 : decode cX9_feed 17 = .ok (.invokevirtual 216, 3) := by decide +kernel
theorem dX9_feed_20 : decode cX9_feed 20 = .ok (.aload_n 0, 1) := by decide +kernel
theorem dX9_feed_21 : decode cX9_feed 21 = .ok (.iload_n 2, 1) := by decide +kernel
theorem dX9_feed_22 : decode cX9_feed 22 = .ok (.invokevirtual 216, 3) := by decide +kernel
theorem dX9_feed_25 : decode cX9_feed 25 = .ok (.aload_n 0, 1) := by decide +kernel
theorem dX9_feed_26 : decode cX9_feed 26 = .ok (.iload_n 3, 1) := by decide +kernel
theorem dX9_feed_27 : decode cX9_feed 27 = .ok (.invokevirtual 216, 3) := by decide +kernel
theorem dX9_feed_30 : decode cX9_feed 30 = .ok (.aload_n 0, 1) := by decide +kernel
theorem dX9_feed_31 : decode cX9_feed 31 = .ok (.iload 4, 2) := by decide +kernel
theorem dX9_feed_33 : decode cX9_feed 33 = .ok (.invokevirtual 216, 3) := by decide +kernel
theorem dX9_feed_36 : decode cX9_feed 36 = .ok (.aload_n 0, 1) := by decide +kernel
theorem dX9_feed_37 : decode cX9_feed 37 = .ok (.iload 5, 2) := by decide +kernel
theorem dX9_feed_39 : decode cX9_feed 39 = .ok (.invokevirtual 216, 3) := by decide +kernel
theorem dX9_feed_42 : decode cX9_feed 42 = .ok (.aload_n 0, 1) := by decide +kernel
theorem dX9_feed_43 : decode cX9_feed 43 = .ok (.getfield 213, 3) := by decide +kernel
theorem dX9_feed_46 : decode cX9_feed 46 = .ok (.ireturn, 1) := by decide +kernel
theorem dX9_put_0 : decode cX9_put 0 = .ok (.bipush 24, 2) := by decide +kernel
theorem dX9_put_2 : decode cX9_put 2 = .ok (.istore_n 2, 1) := by decide +kernel
theorem dX9_put_3 : decode cX9_put 3 = .ok (.iload_n 2, 1) := by decide +kernel
theorem dX9_put_4 : decode cX9_put 4 = .ok (.ifCond .lt 32, 3) := by decide +kernel
theorem dX9_put_7 : decode cX9_put 7 = .ok (.aload_n 0, 1) := by decide +kernel
theorem dX9_put_8 : decode cX9_put 8 = .ok (.getfield 13, 3) := by decide +kernel
theorem dX9_put_11 : decode cX9_put 11 = .ok (.aload_n 0, 1) := by decide +kernel
theorem dX9_put_12 : decode cX9_put 12 = .ok (.getfield 213, 3) := by decide +kernel
theorem dX9_put_15 : decode cX9_put 15 = .ok (.iload_n 1, 1) := by decide +kernel
theorem dX9_put_16 : decode cX9_put 16 = .ok (.iload_n 2, 1) := by decide +kernel
theorem dX9_put_17 : decode cX9_put 17 = .ok (.ishr, 1) := by decide +kernel
theorem dX9_put_18 : decode cX9_put 18 = .ok (.i2b, 1) := by decide +kernel
theorem dX9_put_19 : decode cX9_put 19 = .ok (.bastore, 1) := by decide +kernel
theorem dX9_put_20 : decode cX9_put 20 = .ok (.aload_n 0, 1) := by decide +kernel
theorem dX9_put_21 : decode cX9_put 21 = .ok (.dup, 1) := by decide +kernel
theorem dX9_put_22 : decode cX9_put 22 = .ok (.getfield 213, 3) := by decide +kernel
theorem dX9_put_25 : decode cX9_put 25 = .ok (.iconst 1, 1) := by decide +kernel
theorem dX9_put_26 : decode cX9_put 26 = .ok (.iadd, 1) := by decide +kernel
theorem dX9_put_27 : decode cX9_put 27 = .ok (.putfield 213, 3) := by decide +kernel
theorem dX9_put_30 : decode cX9_put 30 = .ok (.iinc 2 (-8), 3) := by decide +kernel
theorem dX9_put_33 : decode cX9_put 33 = .ok (.goto (-30), 3) := by decide +kernel
theorem dX9_put_36 : decode cX9_put 36 = .ok (.return_, 1) := by decide +kernel
theorem dX9_back_0 : decode cX9_back 0 = .ok (.iload_n 1, 1) := by decide +kernel
theorem dX9_back_1 : decode cX9_back 1 = .ok (.ifCond .lt 11, 3) := by decide +kernel
theorem dX9_back_4 : decode cX9_back 4 = .ok (.iload_n 1, 1) := by decide +kernel
theorem dX9_back_5 : decode cX9_back 5 = .ok (.aload_n 0, 1) := by decide +kernel
theorem dX9_back_6 : decode cX9_back 6 = .ok (.getfield 213, 3) := by decide +kernel
theorem dX9_back_9 : decode cX9_back 9 = .ok (.if_icmp .le 5, 3) := by decide +kernel
theorem dX9_back_12 : decode cX9_back 12 = .ok (.iconst (-1), 1) := by decide +kernel
theorem dX9_back_13 : decode cX9_back 13 = .ok (.ireturn, 1) := by decide +kernel
theorem dX9_back_14 : decode cX9_back 14 = .ok (.aload_n 0, 1) := by decide +kernel
theorem dX9_back_15 : decode cX9_back 15 = .ok (.dup, 1) := by decide +kernel
theorem dX9_back_16 : decode cX9_back 16 = .ok (.getfield 213, 3) := by decide +kernel
theorem dX9_back_19 : decode cX9_back 19 = .ok (.iload_n 1, 1) := by decide +kernel
theorem dX9_back_20 : decode cX9_back 20 = .ok (.isub, 1) := by decide +kernel
theorem dX9_back_21 : decode cX9_back 21 = .ok (.putfield 213, 3) := by decide +kernel
theorem dX9_back_24 : decode cX9_back 24 = .ok (.aload_n 0, 1) := by decide +kernel
theorem dX9_back_25 : decode cX9_back 25 = .ok (.getfield 213, 3) := by decide +kernel
theorem dX9_back_28 : decode cX9_back 28 = .ok (.ireturn, 1) := by decide +kernel
theorem dX9_at_0 : decode cX9_at 0 = .ok (.iload_n 1, 1) := by decide +kernel
theorem dX9_at_1 : decode cX9_at 1 = .ok (.aload_n 0, 1) := by decide +kernel
theorem dX9_at_2 : decode cX9_at 2 = .ok (.getfield 220, 3) := by decide +kernel
theorem dX9_at_5 : decode cX9_at 5 = .ok (.if_icmp .ge 16, 3) := by decide +kernel
theorem dX9_at_8 : decode cX9_at 8 = .ok (.aload_n 0, 1) := by decide +kernel
theorem dX9_at_9 : decode cX9_at 9 = .ok (.getfield 17, 3) := by decide +kernel
theorem dX9_at_12 : decode cX9_at 12 = .ok (.iload_n 1, 1) := by decide +kernel
theorem dX9_at_13 : decode cX9_at 13 = .ok (.baload, 1) := by decide +kernel
theorem dX9_at_14 : decode cX9_at 14 = .ok (.sipush 255, 3) := by decide +kernel
theorem dX9_at_17 : decode cX9_at 17 = .ok (.iand, 1) := by decide +kernel
theorem dX9_at_18 : decode cX9_at 18 = .ok (.goto 4, 3) := by decide +kernel
theorem dX9_at_21 : decode cX9_at 21 = .ok (.iconst 0, 1) := by decide +kernel
theorem dX9_at_22 : decode cX9_at 22 = .ok (.ireturn, 1) := by decide +kernel
theorem dX9_isDigit_0 : decode cX9_isDigit 0 = .ok (.iload_n 0, 1) := by decide +kernel
theorem dX9_isDigit_1 : decode cX9_isDigit 1 = .ok (.bipush 48, 2) := by decide +kernel
theorem dX9_isDigit_3 : decode cX9_isDigit 3 = .ok (.if_icmp .lt 13, 3) := by decide +kernel
theorem dX9_isDigit_6 : decode cX9_isDigit 6 = .ok (.iload_n 0, 1) := by decide +kernel
theorem dX9_isDigit_7 : decode cX9_isDigit 7 = .ok (.bipush 57, 2) := by decide +kernel
theorem dX9_isDigit_9 : decode cX9_isDigit 9 = .ok (.if_icmp .gt 7, 3) := by decide +kernel
theorem dX9_isDigit_12 : decode cX9_isDigit 12 = .ok (.iconst 1, 1) := by decide +kernel
theorem dX9_isDigit_13 : decode cX9_isDigit 13 = .ok (.goto 4, 3) := by decide +kernel
theorem dX9_isDigit_16 : decode cX9_isDigit 16 = .ok (.iconst 0, 1) := by decide +kernel
theorem dX9_isDigit_17 : decode cX9_isDigit 17 = .ok (.ireturn, 1) := by decide +kernel
theorem dX9_isLetter_0 : decode cX9_isLetter 0 = .ok (.iload_n 0, 1) := by decide +kernel
theorem dX9_isLetter_1 : decode cX9_isLetter 1 = .ok (.bipush 97, 2) := by decide +kernel
theorem dX9_isLetter_3 : decode cX9_isLetter 3 = .ok (.if_icmp .lt 13, 3) := by decide +kernel
theorem dX9_isLetter_6 : decode cX9_isLetter 6 = .ok (.iload_n 0, 1) := by decide +kernel
theorem dX9_isLetter_7 : decode cX9_isLetter 7 = .ok (.bipush 122, 2) := by decide +kernel
theorem dX9_isLetter_9 : decode cX9_isLetter 9 = .ok (.if_icmp .gt 7, 3) := by decide +kernel
theorem dX9_isLetter_12 : decode cX9_isLetter 12 = .ok (.iconst 1, 1) := by decide +kernel
theorem dX9_isLetter_13 : decode cX9_isLetter 13 = .ok (.goto 4, 3) := by decide +kernel
theorem dX9_isLetter_16 : decode cX9_isLetter 16 = .ok (.iconst 0, 1) := by decide +kernel
theorem dX9_isLetter_17 : decode cX9_isLetter 17 = .ok (.ireturn, 1) := by decide +kernel
theorem dX9_more_0 : decode cX9_more 0 = .ok (.iload_n 2, 1) := by decide +kernel
theorem dX9_more_1 : decode cX9_more 1 = .ok (.ifCond .ne 7, 3) := by decide +kernel
theorem dX9_more_4 : decode cX9_more 4 = .ok (.lload_n 0, 1) := by decide +kernel
theorem dX9_more_5 : decode cX9_more 5 = .ok (.goto 16, 3) := by decide +kernel
theorem dX9_more_8 : decode cX9_more 8 = .ok (.ldc2_w 223, 3) := by decide +kernel
theorem dX9_more_11 : decode cX9_more 11 = .ok (.lload_n 0, 1) := by decide +kernel
theorem dX9_more_12 : decode cX9_more 12 = .ok (.lmul, 1) := by decide +kernel
theorem dX9_more_13 : decode cX9_more 13 = .ok (.iload_n 2, 1) := by decide +kernel
theorem dX9_more_14 : decode cX9_more 14 = .ok (.bipush 97, 2) := by decide +kernel
theorem dX9_more_16 : decode cX9_more 16 = .ok (.isub, 1) := by decide +kernel
theorem dX9_more_17 : decode cX9_more 17 = .ok (.iconst 1, 1) := by decide +kernel
theorem dX9_more_18 : decode cX9_more 18 = .ok (.iadd, 1) := by decide +kernel
theorem dX9_more_19 : decode cX9_more 19 = .ok (.i2l, 1) := by decide +kernel
theorem dX9_more_20 : decode cX9_more 20 = .ok (.ladd, 1) := by decide +kernel
theorem dX9_more_21 : decode cX9_more 21 = .ok (.lreturn, 1) := by decide +kernel
theorem dX9_word_0 : decode cX9_word 0 = .ok (.lconst 0, 1) := by decide +kernel
theorem dX9_word_1 : decode cX9_word 1 = .ok (.iload_n 0, 1) := by decide +kernel
theorem dX9_word_2 : decode cX9_word 2 = .ok (.invokestatic 225, 3) := by decide +kernel
theorem dX9_word_5 : decode cX9_word 5 = .ok (.iload_n 1, 1) := by decide +kernel
theorem dX9_word_6 : decode cX9_word 6 = .ok (.invokestatic 225, 3) := by decide +kernel
theorem dX9_word_9 : decode cX9_word 9 = .ok (.iload_n 2, 1) := by decide +kernel
theorem dX9_word_10 : decode cX9_word 10 = .ok (.invokestatic 225, 3) := by decide +kernel
theorem dX9_word_13 : decode cX9_word 13 = .ok (.iload_n 3, 1) := by decide +kernel
theorem dX9_word_14 : decode cX9_word 14 = .ok (.invokestatic 225, 3) := by decide +kernel
theorem dX9_word_17 : decode cX9_word 17 = .ok (.iload 4, 2) := by decide +kernel
theorem dX9_word_19 : decode cX9_word 19 = .ok (.invokestatic 225, 3) := by decide +kernel
theorem dX9_word_22 : decode cX9_word 22 = .ok (.iload 5, 2) := by decide +kernel
theorem dX9_word_24 : decode cX9_word 24 = .ok (.invokestatic 225, 3) := by decide +kernel
theorem dX9_word_27 : decode cX9_word 27 = .ok (.iload 6, 2) := by decide +kernel
theorem dX9_word_29 : decode cX9_word 29 = .ok (.invokestatic 225, 3) := by decide +kernel
theorem dX9_word_32 : decode cX9_word 32 = .ok (.lreturn, 1) := by decide +kernel
theorem dX9_token_0 : decode cX9_token 0 = .ok (.aload_n 0, 1) := by decide +kernel
theorem dX9_token_1 : decode cX9_token 1 = .ok (.getfield 20, 3) := by decide +kernel
theorem dX9_token_4 : decode cX9_token 4 = .ok (.aload_n 0, 1) := by decide +kernel
theorem dX9_token_5 : decode cX9_token 5 = .ok (.getfield 229, 3) := by decide +kernel
theorem dX9_token_8 : decode cX9_token 8 = .ok (.iload_n 1, 1) := by decide +kernel
theorem dX9_token_9 : decode cX9_token 9 = .ok (.iastore, 1) := by decide +kernel
theorem dX9_token_10 : decode cX9_token 10 = .ok (.aload_n 0, 1) := by decide +kernel
theorem dX9_token_11 : decode cX9_token 11 = .ok (.getfield 24, 3) := by decide +kernel
theorem dX9_token_14 : decode cX9_token 14 = .ok (.aload_n 0, 1) := by decide +kernel
theorem dX9_token_15 : decode cX9_token 15 = .ok (.getfield 229, 3) := by decide +kernel
theorem dX9_token_18 : decode cX9_token 18 = .ok (.iload_n 2, 1) := by decide +kernel
theorem dX9_token_19 : decode cX9_token 19 = .ok (.iastore, 1) := by decide +kernel
theorem dX9_token_20 : decode cX9_token 20 = .ok (.aload_n 0, 1) := by decide +kernel
theorem dX9_token_21 : decode cX9_token 21 = .ok (.getfield 27, 3) := by decide +kernel
theorem dX9_token_24 : decode cX9_token 24 = .ok (.aload_n 0, 1) := by decide +kernel
theorem dX9_token_25 : decode cX9_token 25 = .ok (.getfield 229, 3) := by decide +kernel
theorem dX9_token_28 : decode cX9_token 28 = .ok (.iload_n 3, 1) := by decide +kernel
theorem dX9_token_29 : decode cX9_token 29 = .ok (.iastore, 1) := by decide +kernel
theorem dX9_token_30 : decode cX9_token 30 = .ok (.aload_n 0, 1) := by decide +kernel
theorem dX9_token_31 : decode cX9_token 31 = .ok (.getfield 30, 3) := by decide +kernel
theorem dX9_token_34 : decode cX9_token 34 = .ok (.aload_n 0, 1) := by decide +kernel
theorem dX9_token_35 : decode cX9_token 35 = .ok (.getfield 229, 3) := by decide +kernel
theorem dX9_token_38 : decode cX9_token 38 = .ok (.lload 4, 2) := by decide +kernel
theorem dX9_token_40 : decode cX9_token 40 = .ok (.lastore, 1) := by decide +kernel
theorem dX9_token_41 : decode cX9_token 41 = .ok (.aload_n 0, 1) := by decide +kernel
theorem dX9_token_42 : decode cX9_token 42 = .ok (.dup, 1) := by decide +kernel
theorem dX9_token_43 : decode cX9_token 43 = .ok (.getfield 229, 3) := by decide +kernel
theorem dX9_token_46 : decode cX9_token 46 = .ok (.iconst 1, 1) := by decide +kernel
theorem dX9_token_47 : decode cX9_token 47 = .ok (.iadd, 1) := by decide +kernel
theorem dX9_token_48 : decode cX9_token 48 = .ok (.putfield 229, 3) := by decide +kernel
theorem dX9_token_51 : decode cX9_token 51 = .ok (.return_, 1) := by decide +kernel
theorem dX9_cut_0 : decode cX9_cut 0 = .ok (.aload_n 0, 1) := by decide +kernel
theorem dX9_cut_1 : decode cX9_cut 1 = .ok (.iconst 0, 1) := by decide +kernel
theorem dX9_cut_2 : decode cX9_cut 2 = .ok (.putfield 229, 3) := by decide +kernel
theorem dX9_cut_5 : decode cX9_cut 5 = .ok (.iconst 0, 1) := by decide +kernel
theorem dX9_cut_6 : decode cX9_cut 6 = .ok (.istore_n 1, 1) := by decide +kernel
theorem dX9_cut_7 : decode cX9_cut 7 = .ok (.aload_n 0, 1) := by decide +kernel
theorem dX9_cut_8 : decode cX9_cut 8 = .ok (.getfield 229, 3) := by decide +kernel
theorem dX9_cut_11 : decode cX9_cut 11 = .ok (.sipush 400, 3) := by decide +kernel
theorem dX9_cut_14 : decode cX9_cut 14 = .ok (.if_icmp .gt 280, 3) := by decide +kernel
theorem dX9_cut_17 : decode cX9_cut 17 = .ok (.aload_n 0, 1) := by decide +kernel
theorem dX9_cut_18 : decode cX9_cut 18 = .ok (.iload_n 1, 1) := by decide +kernel
theorem dX9_cut_19 : decode cX9_cut 19 = .ok (.invokevirtual 232, 3) := by decide +kernel
theorem dX9_cut_22 : decode cX9_cut 22 = .ok (.istore_n 2, 1) := by decide +kernel
theorem dX9_cut_23 : decode cX9_cut 23 = .ok (.iload_n 1, 1) := by decide +kernel
theorem dX9_cut_24 : decode cX9_cut 24 = .ok (.aload_n 0, 1) := by decide +kernel
theorem dX9_cut_25 : decode cX9_cut 25 = .ok (.getfield 220, 3) := by decide +kernel
theorem dX9_cut_28 : decode cX9_cut 28 = .ok (.if_icmp .lt 15, 3) := by decide +kernel
theorem dX9_cut_31 : decode cX9_cut 31 = .ok (.aload_n 0, 1) := by decide +kernel
theorem dX9_cut_32 : decode cX9_cut 32 = .ok (.iconst 0, 1) := by decide +kernel
theorem dX9_cut_33 : decode cX9_cut 33 = .ok (.aload_n 0, 1) := by decide +kernel
theorem dX9_cut_34 : decode cX9_cut 34 = .ok (.getfield 220, 3) := by decide +kernel
theorem dX9_cut_37 : decode cX9_cut 37 = .ok (.iconst 0, 1) := by decide +kernel
theorem dX9_cut_38 : decode cX9_cut 38 = .ok (.lconst 0, 1) := by decide +kernel
theorem dX9_cut_39 : decode cX9_cut 39 = .ok (.invokevirtual 236, 3) := by decide +kernel
theorem dX9_cut_42 : decode cX9_cut 42 = .ok (.return_, 1) := by decide +kernel
theorem dX9_cut_43 : decode cX9_cut 43 = .ok (.iload_n 2, 1) := by decide +kernel
theorem dX9_cut_44 : decode cX9_cut 44 = .ok (.bipush 9, 2) := by decide +kernel
theorem dX9_cut_46 : decode cX9_cut 46 = .ok (.if_icmp .eq 21, 3) := by decide +kernel
theorem dX9_cut_49 : decode cX9_cut 49 = .ok (.iload_n 2, 1) := by decide +kernel
theorem dX9_cut_50 : decode cX9_cut 50 = .ok (.bipush 10, 2) := by decide +kernel
theorem dX9_cut_52 : decode cX9_cut 52 = .ok (.if_icmp .eq 15, 3) := by decide +kernel
theorem dX9_cut_55 : decode cX9_cut 55 = .ok (.iload_n 2, 1) := by decide +kernel
theorem dX9_cut_56 : decode cX9_cut 56 = .ok (.bipush 13, 2) := by decide +kernel
theorem dX9_cut_58 : decode cX9_cut 58 = .ok (.if_icmp .eq 9, 3) := by decide +kernel
theorem dX9_cut_61 : decode cX9_cut 61 = .ok (.iload_n 2, 1) := by decide +kernel
theorem dX9_cut_62 : decode cX9_cut 62 = .ok (.bipush 32, 2) := by decide +kernel
theorem dX9_cut_64 : decode cX9_cut 64 = .ok (.if_icmp .ne 9, 3) := by decide +kernel
theorem dX9_cut_67 : decode cX9_cut 67 = .ok (.iinc 1 1, 3) := by decide +kernel
theorem dX9_cut_70 : decode cX9_cut 70 = .ok (.goto 221, 3) := by decide +kernel
theorem dX9_cut_73 : decode cX9_cut 73 = .ok (.iload_n 2, 1) := by decide +kernel
theorem dX9_cut_74 : decode cX9_cut 74 = .ok (.invokestatic 240, 3) := by decide +kernel
theorem dX9_cut_77 : decode cX9_cut 77 = .ok (.ifCond .eq 119, 3) := by decide +kernel
theorem dX9_cut_80 : decode cX9_cut 80 = .ok (.iconst 0, 1) := by decide +kernel
theorem dX9_cut_81 : decode cX9_cut 81 = .ok (.istore_n 3, 1) := by decide +kernel
theorem dX9_cut_82 : decode cX9_cut 82 = .ok (.lconst 0, 1) := by decide +kernel
theorem dX9_cut_83 : decode cX9_cut 83 = .ok (.lstore 4, 2) := by decide +kernel
theorem dX9_cut_85 : decode cX9_cut 85 = .ok (.aload_n 0, 1) := by decide +kernel
theorem dX9_cut_86 : decode cX9_cut 86 = .ok (.iload_n 1, 1) := by decide +kernel
theorem dX9_cut_87 : decode cX9_cut 87 = .ok (.iload_n 3, 1) := by decide +kernel
theorem dX9_cut_88 : decode cX9_cut 88 = .ok (.iadd, 1) := by decide +kernel
theorem dX9_cut_89 : decode cX9_cut 89 = .ok (.invokevirtual 232, 3) := by decide +kernel
theorem dX9_cut_92 : decode cX9_cut 92 = .ok (.invokestatic 240, 3) := by decide +kernel
theorem dX9_cut_95 : decode cX9_cut 95 = .ok (.ifCond .eq 29, 3) := by decide +kernel
theorem dX9_cut_98 : decode cX9_cut 98 = .ok (.iload_n 3, 1) := by decide +kernel
theorem dX9_cut_99 : decode cX9_cut 99 = .ok (.bipush 8, 2) := by decide +kernel
theorem dX9_cut_101 : decode cX9_cut 101 = .ok (.if_icmp .ge 17, 3) := by decide +kernel
theorem dX9_cut_104 : decode cX9_cut 104 = .ok (.lload 4, 2) := by decide +kernel
theorem dX9_cut_106 : decode cX9_cut 106 = .ok (.aload_n 0, 1) := by decide +kernel
theorem dX9_cut_107 : decode cX9_cut 107 = .ok (.iload_n 1, 1) := by decide +kernel
theorem dX9_cut_108 : decode cX9_cut 108 = .ok (.iload_n 3, 1) := by decide +kernel
theorem dX9_cut_109 : decode cX9_cut 109 = .ok (.iadd, 1) := by decide +kernel
theorem dX9_cut_110 : decode cX9_cut 110 = .ok (.invokevirtual 232, 3) := by decide +kernel
theorem dX9_cut_113 : decode cX9_cut 113 = .ok (.invokestatic 225, 3) := by decide +kernel
theorem dX9_cut_116 : decode cX9_cut 116 = .ok (.lstore 4, 2) := by decide +kernel
theorem dX9_cut_118 : decode cX9_cut 118 = .ok (.iinc 3 1, 3) := by decide +kernel
theorem dX9_cut_121 : decode cX9_cut 121 = .ok (.goto (-36), 3) := by decide +kernel
theorem dX9_cut_124 : decode cX9_cut 124 = .ok (.iload_n 3, 1) := by decide +kernel
theorem dX9_cut_125 : decode cX9_cut 125 = .ok (.bipush 8, 2) := by decide +kernel
theorem dX9_cut_127 : decode cX9_cut 127 = .ok (.if_icmp .le 7, 3) := by decide +kernel
theorem dX9_cut_130 : decode cX9_cut 130 = .ok (.iconst 3, 1) := by decide +kernel
theorem dX9_cut_131 : decode cX9_cut 131 = .ok (.goto 4, 3) := by decide +kernel
theorem dX9_cut_134 : decode cX9_cut 134 = .ok (.iconst 1, 1) := by decide +kernel
theorem dX9_cut_135 : decode cX9_cut 135 = .ok (.istore 6, 2) := by decide +kernel
theorem dX9_cut_137 : decode cX9_cut 137 = .ok (.iload_n 3, 1) := by decide +kernel
theorem dX9_cut_138 : decode cX9_cut 138 = .ok (.bipush 7, 2) := by decide +kernel
theorem dX9_cut_140 : decode cX9_cut 140 = .ok (.if_icmp .gt 39, 3) := by decide +kernel
theorem dX9_cut_143 : decode cX9_cut 143 = .ok (.iconst 0, 1) := by decide +kernel
theorem dX9_cut_144 : decode cX9_cut 144 = .ok (.istore 7, 2) := by decide +kernel
theorem dX9_cut_146 : decode cX9_cut 146 = .ok (.iload 7, 2) := by decide +kernel
theorem dX9_cut_148 : decode cX9_cut 148 = .ok (.bipush 12, 2) := by decide +kernel
theorem dX9_cut_150 : decode cX9_cut 150 = .ok (.if_icmp .ge 29, 3) := by decide +kernel
theorem dX9_cut_153 : decode cX9_cut 153 = .ok (.aload_n 0, 1) := by decide +kernel
theorem dX9_cut_154 : decode cX9_cut 154 = .ok (.getfield 34, 3) := by decide +kernel
theorem dX9_cut_157 : decode cX9_cut 157 = .ok (.iload 7, 2) := by decide +kernel
theorem dX9_cut_159 : decode cX9_cut 159 = .ok (.laload, 1) := by decide +kernel
theorem dX9_cut_160 : decode cX9_cut 160 = .ok (.lload 4, 2) := by decide +kernel
theorem dX9_cut_162 : decode cX9_cut 162 = .ok (.lcmp, 1) := by decide +kernel
theorem dX9_cut_163 : decode cX9_cut 163 = .ok (.ifCond .ne 10, 3) := by decide +kernel
theorem dX9_cut_166 : decode cX9_cut 166 = .ok (.bipush 20, 2) := by decide +kernel
theorem dX9_cut_168 : decode cX9_cut 168 = .ok (.iload 7, 2) := by decide +kernel
theorem dX9_cut_170 : decode cX9_cut 170 = .ok (.iadd, 1) := by decide +kernel
theorem dX9_cut_171 : decode cX9_cut 171 = .ok (.istore 6, 2) := by decide +kernel
theorem dX9_cut_173 : decode cX9_cut 173 = .ok (.iinc 7 1, 3) := by decide +kernel
theorem dX9_cut_176 : decode cX9_cut 176 = .ok (.goto (-30), 3) := by decide +kernel
theorem dX9_cut_179 : decode cX9_cut 179 = .ok (.aload_n 0, 1) := by decide +kernel
theorem dX9_cut_180 : decode cX9_cut 180 = .ok (.iload 6, 2) := by decide +kernel
theorem dX9_cut_182 : decode cX9_cut 182 = .ok (.iload_n 1, 1) := by decide +kernel
theorem dX9_cut_183 : decode cX9_cut 183 = .ok (.iconst 0, 1) := by decide +kernel
theorem dX9_cut_184 : decode cX9_cut 184 = .ok (.lload 4, 2) := by decide +kernel
theorem dX9_cut_186 : decode cX9_cut 186 = .ok (.invokevirtual 236, 3) := by decide +kernel
theorem dX9_cut_189 : decode cX9_cut 189 = .ok (.iload_n 1, 1) := by decide +kernel
theorem dX9_cut_190 : decode cX9_cut 190 = .ok (.iload_n 3, 1) := by decide +kernel
theorem dX9_cut_191 : decode cX9_cut 191 = .ok (.iadd, 1) := by decide +kernel
theorem dX9_cut_192 : decode cX9_cut 192 = .ok (.istore_n 1, 1) := by decide +kernel
theorem dX9_cut_193 : decode cX9_cut 193 = .ok (.goto 98, 3) := by decide +kernel
theorem dX9_cut_196 : decode cX9_cut 196 = .ok (.iload_n 2, 1) := by decide +kernel
theorem dX9_cut_197 : decode cX9_cut 197 = .ok (.invokestatic 244, 3) := by decide +kernel
theorem dX9_cut_200 : decode cX9_cut 200 = .ok (.ifCond .eq 75, 3) := by decide +kernel
theorem dX9_cut_203 : decode cX9_cut 203 = .ok (.iconst 0, 1) := by decide +kernel
theorem dX9_cut_204 : decode cX9_cut 204 = .ok (.istore_n 3, 1) := by decide +kernel
theorem dX9_cut_205 : decode cX9_cut 205 = .ok (.iconst 0, 1) := by decide +kernel
theorem dX9_cut_206 : decode cX9_cut 206 = .ok (.istore 4, 2) := by decide +kernel
theorem dX9_cut_208 : decode cX9_cut 208 = .ok (.aload_n 0, 1) := by decide +kernel
theorem dX9_cut_209 : decode cX9_cut 209 = .ok (.iload_n 1, 1) := by decide +kernel
theorem dX9_cut_210 : decode cX9_cut 210 = .ok (.iload_n 3, 1) := by decide +kernel
theorem dX9_cut_211 : decode cX9_cut 211 = .ok (.iadd, 1) := by decide +kernel
theorem dX9_cut_212 : decode cX9_cut 212 = .ok (.invokevirtual 232, 3) := by decide +kernel
theorem dX9_cut_215 : decode cX9_cut 215 = .ok (.invokestatic 244, 3) := by decide +kernel
theorem dX9_cut_218 : decode cX9_cut 218 = .ok (.ifCond .eq 32, 3) := by decide +kernel
theorem dX9_cut_221 : decode cX9_cut 221 = .ok (.iload_n 3, 1) := by decide +kernel
theorem dX9_cut_222 : decode cX9_cut 222 = .ok (.iconst 4, 1) := by decide +kernel
theorem dX9_cut_223 : decode cX9_cut 223 = .ok (.if_icmp .ge 21, 3) := by decide +kernel
theorem dX9_cut_226 : decode cX9_cut 226 = .ok (.bipush 10, 2) := by decide +kernel
theorem dX9_cut_228 : decode cX9_cut 228 = .ok (.iload 4, 2) := by decide +kernel
theorem dX9_cut_230 : decode cX9_cut 230 = .ok (.imul, 1) := by decide +kernel
theorem dX9_cut_231 : decode cX9_cut 231 = .ok (.aload_n 0, 1) := by decide +kernel
theorem dX9_cut_232 : decode cX9_cut 232 = .ok (.iload_n 1, 1) := by decide +kernel
theorem dX9_cut_233 : decode cX9_cut 233 = .ok (.iload_n 3, 1) := by decide +kernel
theorem dX9_cut_234 : decode cX9_cut 234 = .ok (.iadd, 1) := by decide +kernel
theorem dX9_cut_235 : decode cX9_cut 235 = .ok (.invokevirtual 232, 3) := by decide +kernel
theorem dX9_cut_238 : decode cX9_cut 238 = .ok (.iadd, 1) := by decide +kernel
theorem dX9_cut_239 : decode cX9_cut 239 = .ok (.bipush 48, 2) := by decide +kernel
theorem dX9_cut_241 : decode cX9_cut 241 = .ok (.isub, 1) := by decide +kernel
theorem dX9_cut_242 : decode cX9_cut 242 = .ok (.istore 4, 2) := by decide +kernel
theorem dX9_cut_244 : decode cX9_cut 244 = .ok (.iinc 3 1, 3) := by decide +kernel
theorem dX9_cut_247 : decode cX9_cut 247 = .ok (.goto (-39), 3) := by decide +kernel
theorem dX9_cut_250 : decode cX9_cut 250 = .ok (.aload_n 0, 1) := by decide +kernel
theorem dX9_cut_251 : decode cX9_cut 251 = .ok (.iload_n 3, 1) := by decide +kernel
theorem dX9_cut_252 : decode cX9_cut 252 = .ok (.iconst 4, 1) := by decide +kernel
theorem dX9_cut_253 : decode cX9_cut 253 = .ok (.if_icmp .le 7, 3) := by decide +kernel
theorem dX9_cut_256 : decode cX9_cut 256 = .ok (.iconst 3, 1) := by decide +kernel
theorem dX9_cut_257 : decode cX9_cut 257 = .ok (.goto 4, 3) := by decide +kernel
theorem dX9_cut_260 : decode cX9_cut 260 = .ok (.iconst 2, 1) := by decide +kernel
theorem dX9_cut_261 : decode cX9_cut 261 = .ok (.iload_n 1, 1) := by decide +kernel
theorem dX9_cut_262 : decode cX9_cut 262 = .ok (.iload 4, 2) := by decide +kernel
theorem dX9_cut_264 : decode cX9_cut 264 = .ok (.lconst 0, 1) := by decide +kernel
theorem dX9_cut_265 : decode cX9_cut 265 = .ok (.invokevirtual 236, 3) := by decide +kernel
theorem dX9_cut_268 : decode cX9_cut 268 = .ok (.iload_n 1, 1) := by decide +kernel
theorem dX9_cut_269 : decode cX9_cut 269 = .ok (.iload_n 3, 1) := by decide +kernel
theorem dX9_cut_270 : decode cX9_cut 270 = .ok (.iadd, 1) := by decide +kernel
theorem dX9_cut_271 : decode cX9_cut 271 = .ok (.istore_n 1, 1) := by decide +kernel
theorem dX9_cut_272 : decode cX9_cut 272 = .ok (.goto 19, 3) := by decide +kernel
theorem dX9_cut_275 : decode cX9_cut 275 = .ok (.iload_n 1, 1) := by decide +kernel
theorem dX9_cut_276 : decode cX9_cut 276 = .ok (.aload_n 0, 1) := by decide +kernel
theorem dX9_cut_277 : decode cX9_cut 277 = .ok (.iload_n 1, 1) := by decide +kernel
theorem dX9_cut_278 : decode cX9_cut 278 = .ok (.iload_n 2, 1) := by decide +kernel
theorem dX9_cut_279 : decode cX9_cut 279 = .ok (.aload_n 0, 1) := by decide +kernel
theorem dX9_cut_280 : decode cX9_cut 280 = .ok (.iload_n 1, 1) := by decide +kernel
theorem dX9_cut_281 : decode cX9_cut 281 = .ok (.iconst 1, 1) := by decide +kernel
theorem dX9_cut_282 : decode cX9_cut 282 = .ok (.iadd, 1) := by decide +kernel
theorem dX9_cut_283 : decode cX9_cut 283 = .ok (.invokevirtual 232, 3) := by decide +kernel
theorem dX9_cut_286 : decode cX9_cut 286 = .ok (.invokevirtual 247, 3) := by decide +kernel
theorem dX9_cut_289 : decode cX9_cut 289 = .ok (.iadd, 1) := by decide +kernel
theorem dX9_cut_290 : decode cX9_cut 290 = .ok (.istore_n 1, 1) := by decide +kernel
theorem dX9_cut_291 : decode cX9_cut 291 = .ok (.goto (-284), 3) := by decide +kernel
theorem dX9_cut_294 : decode cX9_cut 294 = .ok (.return_, 1) := by decide +kernel
theorem dX9_sign_0 : decode cX9_sign 0 = .ok (.iload_n 3, 1) := by decide +kernel
theorem dX9_sign_1 : decode cX9_sign 1 = .ok (.bipush 61, 2) := by decide +kernel
theorem dX9_sign_3 : decode cX9_sign 3 = .ok (.if_icmp .eq 7, 3) := by decide +kernel
theorem dX9_sign_6 : decode cX9_sign 6 = .ok (.iconst 0, 1) := by decide +kernel
theorem dX9_sign_7 : decode cX9_sign 7 = .ok (.goto 37, 3) := by decide +kernel
theorem dX9_sign_10 : decode cX9_sign 10 = .ok (.iload_n 2, 1) := by decide +kernel
theorem dX9_sign_11 : decode cX9_sign 11 = .ok (.bipush 61, 2) := by decide +kernel
theorem dX9_sign_13 : decode cX9_sign 13 = .ok (.if_icmp .ne 8, 3) := by decide +kernel
theorem dX9_sign_16 : decode cX9_sign 16 = .ok (.bipush 11, 2) := by decide +kernel
theorem dX9_sign_18 : decode cX9_sign 18 = .ok (.goto 26, 3) := by decide +kernel
theorem dX9_sign_21 : decode cX9_sign 21 = .ok (.iload_n 2, 1) := by decide +kernel
theorem dX9_sign_22 : decode cX9_sign 22 = .ok (.bipush 33, 2) := by decide +kernel
theorem dX9_sign_24 : decode cX9_sign 24 = .ok (.if_icmp .ne 8, 3) := by decide +kernel
theorem dX9_sign_27 : decode cX9_sign 27 = .ok (.bipush 12, 2) := by decide +kernel
theorem dX9_sign_29 : decode cX9_sign 29 = .ok (.goto 15, 3) := by decide +kernel
theorem dX9_sign_32 : decode cX9_sign 32 = .ok (.iload_n 2, 1) := by decide +kernel
theorem dX9_sign_33 : decode cX9_sign 33 = .ok (.bipush 60, 2) := by decide +kernel
theorem dX9_sign_35 : decode cX9_sign 35 = .ok (.if_icmp .ne 8, 3) := by decide +kernel
theorem dX9_sign_38 : decode cX9_sign 38 = .ok (.bipush 14, 2) := by decide +kernel
theorem dX9_sign_40 : decode cX9_sign 40 = .ok (.goto 4, 3) := by decide +kernel
theorem dX9_sign_43 : decode cX9_sign 43 = .ok (.iconst 0, 1) := by decide +kernel
theorem dX9_sign_44 : decode cX9_sign 44 = .ok (.istore 4, 2) := by decide +kernel
theorem dX9_sign_46 : decode cX9_sign 46 = .ok (.iconst 3, 1) := by decide +kernel
theorem dX9_sign_47 : decode cX9_sign 47 = .ok (.istore 5, 2) := by decide +kernel
theorem dX9_sign_49 : decode cX9_sign 49 = .ok (.iload 4, 2) := by decide +kernel
theorem dX9_sign_51 : decode cX9_sign 51 = .ok (.ifCond .le 10, 3) := by decide +kernel
theorem dX9_sign_54 : decode cX9_sign 54 = .ok (.iload 4, 2) := by decide +kernel
theorem dX9_sign_56 : decode cX9_sign 56 = .ok (.istore 5, 2) := by decide +kernel
theorem dX9_sign_58 : decode cX9_sign 58 = .ok (.goto 90, 3) := by decide +kernel
theorem dX9_sign_61 : decode cX9_sign 61 = .ok (.iload_n 2, 1) := by decide +kernel
theorem dX9_sign_62 : decode cX9_sign 62 = .ok (.bipush 59, 2) := by decide +kernel
theorem dX9_sign_64 : decode cX9_sign 64 = .ok (.if_icmp .ne 9, 3) := by decide +kernel
theorem dX9_sign_67 : decode cX9_sign 67 = .ok (.iconst 4, 1) := by decide +kernel
theorem dX9_sign_68 : decode cX9_sign 68 = .ok (.istore 5, 2) := by decide +kernel
theorem dX9_sign_70 : decode cX9_sign 70 = .ok (.goto 78, 3) := by decide +kernel
theorem dX9_sign_73 : decode cX9_sign 73 = .ok (.iload_n 2, 1) := by decide +kernel
theorem dX9_sign_74 : decode cX9_sign 74 = .ok (.bipush 40, 2) := by decide +kernel
theorem dX9_sign_76 : decode cX9_sign 76 = .ok (.if_icmp .ne 10, 3) := by decide +kernel
theorem dX9_sign_79 : decode cX9_sign 79 = .ok (.bipush 6, 2) := by decide +kernel
theorem dX9_sign_81 : decode cX9_sign 81 = .ok (.istore 5, 2) := by decide +kernel
theorem dX9_sign_83 : decode cX9_sign 83 = .ok (.goto 65, 3) := by decide +kernel
theorem dX9_sign_86 : decode cX9_sign 86 = .ok (.iload_n 2, 1) := by decide +kernel
theorem dX9_sign_87 : decode cX9_sign 87 = .ok (.bipush 41, 2) := by decide +kernel
theorem dX9_sign_89 : decode cX9_sign 89 = .ok (.if_icmp .ne 10, 3) := by decide +kernel
theorem dX9_sign_92 : decode cX9_sign 92 = .ok (.bipush 7, 2) := by decide +kernel
theorem dX9_sign_94 : decode cX9_sign 94 = .ok (.istore 5, 2) := by decide +kernel
theorem dX9_sign_96 : decode cX9_sign 96 = .ok (.goto 52, 3) := by decide +kernel
theorem dX9_sign_99 : decode cX9_sign 99 = .ok (.iload_n 2, 1) := by decide +kernel
theorem dX9_sign_100 : decode cX9_sign 100 = .ok (.bipush 43, 2) := by decide +kernel
theorem dX9_sign_102 : decode cX9_sign 102 = .ok (.if_icmp .ne 10, 3) := by decide +kernel
theorem dX9_sign_105 : decode cX9_sign 105 = .ok (.bipush 8, 2) := by decide +kernel
theorem dX9_sign_107 : decode cX9_sign 107 = .ok (.istore 5, 2) := by decide +kernel
theorem dX9_sign_109 : decode cX9_sign 109 = .ok (.goto 39, 3) := by decide +kernel
theorem dX9_sign_112 : decode cX9_sign 112 = .ok (.iload_n 2, 1) := by decide +kernel
theorem dX9_sign_113 : decode cX9_sign 113 = .ok (.bipush 45, 2) := by decide +kernel
theorem dX9_sign_115 : decode cX9_sign 115 = .ok (.if_icmp .ne 10, 3) := by decide +kernel
theorem dX9_sign_118 : decode cX9_sign 118 = .ok (.bipush 9, 2) := by decide +kernel
theorem dX9_sign_120 : decode cX9_sign 120 = .ok (.istore 5, 2) := by decide +kernel
theorem dX9_sign_122 : decode cX9_sign 122 = .ok (.goto 26, 3) := by decide +kernel
theorem dX9_sign_125 : decode cX9_sign 125 = .ok (.iload_n 2, 1) := by decide +kernel
theorem dX9_sign_126 : decode cX9_sign 126 = .ok (.bipush 42, 2) := by decide +kernel
theorem dX9_sign_128 : decode cX9_sign 128 = .ok (.if_icmp .ne 10, 3) := by decide +kernel
theorem dX9_sign_131 : decode cX9_sign 131 = .ok (.bipush 10, 2) := by decide +kernel
theorem dX9_sign_133 : decode cX9_sign 133 = .ok (.istore 5, 2) := by decide +kernel
theorem dX9_sign_135 : decode cX9_sign 135 = .ok (.goto 13, 3) := by decide +kernel
theorem dX9_sign_138 : decode cX9_sign 138 = .ok (.iload_n 2, 1) := by decide +kernel
theorem dX9_sign_139 : decode cX9_sign 139 = .ok (.bipush 60, 2) := by decide +kernel
theorem dX9_sign_141 : decode cX9_sign 141 = .ok (.if_icmp .ne 7, 3) := by decide +kernel
theorem dX9_sign_144 : decode cX9_sign 144 = .ok (.bipush 13, 2) := by decide +kernel
theorem dX9_sign_146 : decode cX9_sign 146 = .ok (.istore 5, 2) := by decide +kernel
theorem dX9_sign_148 : decode cX9_sign 148 = .ok (.aload_n 0, 1) := by decide +kernel
theorem dX9_sign_149 : decode cX9_sign 149 = .ok (.iload 5, 2) := by decide +kernel
theorem dX9_sign_151 : decode cX9_sign 151 = .ok (.iload_n 1, 1) := by decide +kernel
theorem dX9_sign_152 : decode cX9_sign 152 = .ok (.iconst 0, 1) := by decide +kernel
theorem dX9_sign_153 : decode cX9_sign 153 = .ok (.lconst 0, 1) := by decide +kernel
theorem dX9_sign_154 : decode cX9_sign 154 = .ok (.invokevirtual 236, 3) := by decide +kernel
theorem dX9_sign_157 : decode cX9_sign 157 = .ok (.iload 4, 2) := by decide +kernel
theorem dX9_sign_159 : decode cX9_sign 159 = .ok (.ifCond .le 7, 3) := by decide +kernel
theorem dX9_sign_162 : decode cX9_sign 162 = .ok (.iconst 2, 1) := by decide +kernel
theorem dX9_sign_163 : decode cX9_sign 163 = .ok (.goto 4, 3) := by decide +kernel
theorem dX9_sign_166 : decode cX9_sign 166 = .ok (.iconst 1, 1) := by decide +kernel
theorem dX9_sign_167 : decode cX9_sign 167 = .ok (.ireturn, 1) := by decide +kernel
theorem dX9_is_0 : decode cX9_is 0 = .ok (.aload_n 0, 1) := by decide +kernel
theorem dX9_is_1 : decode cX9_is 1 = .ok (.getfield 251, 3) := by decide +kernel
theorem dX9_is_4 : decode cX9_is 4 = .ok (.ifCond .ne 20, 3) := by decide +kernel
theorem dX9_is_7 : decode cX9_is 7 = .ok (.aload_n 0, 1) := by decide +kernel
theorem dX9_is_8 : decode cX9_is 8 = .ok (.getfield 20, 3) := by decide +kernel
theorem dX9_is_11 : decode cX9_is 11 = .ok (.aload_n 0, 1) := by decide +kernel
theorem dX9_is_12 : decode cX9_is 12 = .ok (.getfield 254, 3) := by decide +kernel
theorem dX9_is_15 : decode cX9_is 15 = .ok (.iaload, 1) := by decide +kernel
theorem dX9_is_16 : decode cX9_is 16 = .ok (.iload_n 1, 1) := by decide +kernel
theorem dX9_is_17 : decode cX9_is 17 = .ok (.if_icmp .ne 7, 3) := by decide +kernel
theorem dX9_is_20 : decode cX9_is 20 = .ok (.iconst 1, 1) := by decide +kernel
theorem dX9_is_21 : decode cX9_is 21 = .ok (.goto 4, 3) := by decide +kernel
theorem dX9_is_24 : decode cX9_is 24 = .ok (.iconst 0, 1) := by decide +kernel
theorem dX9_is_25 : decode cX9_is 25 = .ok (.ireturn, 1) := by decide +kernel
theorem dX9_fail_0 : decode cX9_fail 0 = .ok (.aload_n 0, 1) := by decide +kernel
theorem dX9_fail_1 : decode cX9_fail 1 = .ok (.getfield 251, 3) := by decide +kernel
theorem dX9_fail_4 : decode cX9_fail 4 = .ok (.ifCond .le 4, 3) := by decide +kernel
theorem dX9_fail_7 : decode cX9_fail 7 = .ok (.return_, 1) := by decide +kernel
theorem dX9_fail_8 : decode cX9_fail 8 = .ok (.aload_n 0, 1) := by decide +kernel
theorem dX9_fail_9 : decode cX9_fail 9 = .ok (.iload_n 1, 1) := by decide +kernel
theorem dX9_fail_10 : decode cX9_fail 10 = .ok (.putfield 251, 3) := by decide +kernel
theorem dX9_fail_13 : decode cX9_fail 13 = .ok (.aload_n 0, 1) := by decide +kernel
theorem dX9_fail_14 : decode cX9_fail 14 = .ok (.aload_n 0, 1) := by decide +kernel
theorem dX9_fail_15 : decode cX9_fail 15 = .ok (.getfield 24, 3) := by decide +kernel
theorem dX9_fail_18 : decode cX9_fail 18 = .ok (.aload_n 0, 1) := by decide +kernel
theorem dX9_fail_19 : decode cX9_fail 19 = .ok (.getfield 254, 3) := by decide +kernel
theorem dX9_fail_22 : decode cX9_fail 22 = .ok (.iaload, 1) := by decide +kernel
theorem dX9_fail_23 : decode cX9_fail 23 = .ok (.putfield 257, 3) := by decide +kernel
theorem dX9_fail_26 : decode cX9_fail 26 = .ok (.return_, 1) := by decide +kernel
theorem dX9_wrong_0 : decode cX9_wrong 0 = .ok (.aload_n 0, 1) := by decide +kernel
theorem dX9_wrong_1 : decode cX9_wrong 1 = .ok (.getfield 24, 3) := by decide +kernel
theorem dX9_wrong_4 : decode cX9_wrong 4 = .ok (.iload_n 2, 1) := by decide +kernel
theorem dX9_wrong_5 : decode cX9_wrong 5 = .ok (.iaload, 1) := by decide +kernel
theorem dX9_wrong_6 : decode cX9_wrong 6 = .ok (.istore_n 3, 1) := by decide +kernel
theorem dX9_wrong_7 : decode cX9_wrong 7 = .ok (.aload_n 0, 1) := by decide +kernel
theorem dX9_wrong_8 : decode cX9_wrong 8 = .ok (.getfield 251, 3) := by decide +kernel
theorem dX9_wrong_11 : decode cX9_wrong 11 = .ok (.ifCond .gt 34, 3) := by decide +kernel
theorem dX9_wrong_14 : decode cX9_wrong 14 = .ok (.aload_n 0, 1) := by decide +kernel
theorem dX9_wrong_15 : decode cX9_wrong 15 = .ok (.getfield 260, 3) := by decide +kernel
theorem dX9_wrong_18 : decode cX9_wrong 18 = .ok (.ifCond .eq 28, 3) := by decide +kernel
theorem dX9_wrong_21 : decode cX9_wrong 21 = .ok (.iload_n 3, 1) := by decide +kernel
theorem dX9_wrong_22 : decode cX9_wrong 22 = .ok (.aload_n 0, 1) := by decide +kernel
theorem dX9_wrong_23 : decode cX9_wrong 23 = .ok (.getfield 263, 3) := by decide +kernel
theorem dX9_wrong_26 : decode cX9_wrong 26 = .ok (.if_icmp .gt 19, 3) := by decide +kernel
theorem dX9_wrong_29 : decode cX9_wrong 29 = .ok (.iload_n 3, 1) := by decide +kernel
theorem dX9_wrong_30 : decode cX9_wrong 30 = .ok (.aload_n 0, 1) := by decide +kernel
theorem dX9_wrong_31 : decode cX9_wrong 31 = .ok (.getfield 263, 3) := by decide +kernel
theorem dX9_wrong_34 : decode cX9_wrong 34 = .ok (.if_icmp .ne 12, 3) := by decide +kernel
theorem dX9_wrong_37 : decode cX9_wrong 37 = .ok (.iload_n 1, 1) := by decide +kernel
theorem dX9_wrong_38 : decode cX9_wrong 38 = .ok (.aload_n 0, 1) := by decide +kernel
theorem dX9_wrong_39 : decode cX9_wrong 39 = .ok (.getfield 260, 3) := by decide +kernel
theorem dX9_wrong_42 : decode cX9_wrong 42 = .ok (.if_icmp .lt 4, 3) := by decide +kernel
theorem dX9_wrong_45 : decode cX9_wrong 45 = .ok (.return_, 1) := by decide +kernel
theorem dX9_wrong_46 : decode cX9_wrong 46 = .ok (.aload_n 0, 1) := by decide +kernel
theorem dX9_wrong_47 : decode cX9_wrong 47 = .ok (.iload_n 1, 1) := by decide +kernel
theorem dX9_wrong_48 : decode cX9_wrong 48 = .ok (.putfield 260, 3) := by decide +kernel
theorem dX9_wrong_51 : decode cX9_wrong 51 = .ok (.aload_n 0, 1) := by decide +kernel
theorem dX9_wrong_52 : decode cX9_wrong 52 = .ok (.iload_n 3, 1) := by decide +kernel
theorem dX9_wrong_53 : decode cX9_wrong 53 = .ok (.putfield 263, 3) := by decide +kernel
theorem dX9_wrong_56 : decode cX9_wrong 56 = .ok (.return_, 1) := by decide +kernel
theorem dX9_next_0 : decode cX9_next 0 = .ok (.aload_n 0, 1) := by decide +kernel
theorem dX9_next_1 : decode cX9_next 1 = .ok (.getfield 254, 3) := by decide +kernel
theorem dX9_next_4 : decode cX9_next 4 = .ok (.sipush 400, 3) := by decide +kernel
theorem dX9_next_7 : decode cX9_next 7 = .ok (.if_icmp .ne 11, 3) := by decide +kernel
theorem dX9_next_10 : decode cX9_next 10 = .ok (.aload_n 0, 1) := by decide +kernel
theorem dX9_next_11 : decode cX9_next 11 = .ok (.iconst 2, 1) := by decide +kernel
theorem dX9_next_12 : decode cX9_next 12 = .ok (.invokevirtual 266, 3) := by decide +kernel
theorem dX9_next_15 : decode cX9_next 15 = .ok (.goto 13, 3) := by decide +kernel
theorem dX9_next_18 : decode cX9_next 18 = .ok (.aload_n 0, 1) := by decide +kernel
theorem dX9_next_19 : decode cX9_next 19 = .ok (.dup, 1) := by decide +kernel
theorem dX9_next_20 : decode cX9_next 20 = .ok (.getfield 254, 3) := by decide +kernel
theorem dX9_next_23 : decode cX9_next 23 = .ok (.iconst 1, 1) := by decide +kernel
theorem dX9_next_24 : decode cX9_next 24 = .ok (.iadd, 1) := by decide +kernel
theorem dX9_next_25 : decode cX9_next 25 = .ok (.putfield 254, 3) := by decide +kernel
theorem dX9_next_28 : decode cX9_next 28 = .ok (.return_, 1) := by decide +kernel
theorem dX9_must_0 : decode cX9_must 0 = .ok (.aload_n 0, 1) := by decide +kernel
theorem dX9_must_1 : decode cX9_must 1 = .ok (.iload_n 1, 1) := by decide +kernel
theorem dX9_must_2 : decode cX9_must 2 = .ok (.invokevirtual 269, 3) := by decide +kernel
theorem dX9_must_5 : decode cX9_must 5 = .ok (.ifCond .eq 10, 3) := by decide +kernel
theorem dX9_must_8 : decode cX9_must 8 = .ok (.aload_n 0, 1) := by decide +kernel
theorem dX9_must_9 : decode cX9_must 9 = .ok (.invokevirtual 272, 3) := by decide +kernel
theorem dX9_must_12 : decode cX9_must 12 = .ok (.goto 8, 3) := by decide +kernel
theorem dX9_must_15 : decode cX9_must 15 = .ok (.aload_n 0, 1) := by decide +kernel
theorem dX9_must_16 : decode cX9_must 16 = .ok (.iconst 1, 1) := by decide +kernel
theorem dX9_must_17 : decode cX9_must 17 = .ok (.invokevirtual 266, 3) := by decide +kernel
theorem dX9_must_20 : decode cX9_must 20 = .ok (.return_, 1) := by decide +kernel
theorem dX9_read_0 : decode cX9_read 0 = .ok (.iload_n 1, 1) := by decide +kernel
theorem dX9_read_1 : decode cX9_read 1 = .ok (.ifCond .lt 8, 3) := by decide +kernel
theorem dX9_read_4 : decode cX9_read 4 = .ok (.iload_n 1, 1) := by decide +kernel
theorem dX9_read_5 : decode cX9_read 5 = .ok (.iconst 1, 1) := by decide +kernel
theorem dX9_read_6 : decode cX9_read 6 = .ok (.if_icmp .le 5, 3) := by decide +kernel
theorem dX9_read_9 : decode cX9_read 9 = .ok (.iconst (-1), 1) := by decide +kernel
theorem dX9_read_10 : decode cX9_read 10 = .ok (.ireturn, 1) := by decide +kernel
theorem dX9_read_11 : decode cX9_read 11 = .ok (.aload_n 0, 1) := by decide +kernel
theorem dX9_read_12 : decode cX9_read 12 = .ok (.aload_n 0, 1) := by decide +kernel
theorem dX9_read_13 : decode cX9_read 13 = .ok (.getfield 213, 3) := by decide +kernel
theorem dX9_read_16 : decode cX9_read 16 = .ok (.putfield 220, 3) := by decide +kernel
theorem dX9_read_19 : decode cX9_read 19 = .ok (.iconst 0, 1) := by decide +kernel
theorem dX9_read_20 : decode cX9_read 20 = .ok (.istore_n 2, 1) := by decide +kernel
theorem dX9_read_21 : decode cX9_read 21 = .ok (.iload_n 2, 1) := by decide +kernel
theorem dX9_read_22 : decode cX9_read 22 = .ok (.aload_n 0, 1) := by decide +kernel
theorem dX9_read_23 : decode cX9_read 23 = .ok (.getfield 220, 3) := by decide +kernel
theorem dX9_read_26 : decode cX9_read 26 = .ok (.if_icmp .ge 21, 3) := by decide +kernel
theorem dX9_read_29 : decode cX9_read 29 = .ok (.aload_n 0, 1) := by decide +kernel
theorem dX9_read_30 : decode cX9_read 30 = .ok (.getfield 17, 3) := by decide +kernel
theorem dX9_read_33 : decode cX9_read 33 = .ok (.iload_n 2, 1) := by decide +kernel
theorem dX9_read_34 : decode cX9_read 34 = .ok (.aload_n 0, 1) := by decide +kernel
theorem dX9_read_35 : decode cX9_read 35 = .ok (.getfield 13, 3) := by decide +kernel
theorem dX9_read_38 : decode cX9_read 38 = .ok (.iload_n 2, 1) := by decide +kernel
theorem dX9_read_39 : decode cX9_read 39 = .ok (.baload, 1) := by decide +kernel
theorem dX9_read_40 : decode cX9_read 40 = .ok (.bastore, 1) := by decide +kernel
theorem dX9_read_41 : decode cX9_read 41 = .ok (.iinc 2 1, 3) := by decide +kernel
theorem dX9_read_44 : decode cX9_read 44 = .ok (.goto (-23), 3) := by decide +kernel
theorem dX9_read_47 : decode cX9_read 47 = .ok (.aload_n 0, 1) := by decide +kernel
theorem dX9_read_48 : decode cX9_read 48 = .ok (.iconst 0, 1) := by decide +kernel
theorem dX9_read_49 : decode cX9_read 49 = .ok (.putfield 213, 3) := by decide +kernel
theorem dX9_read_52 : decode cX9_read 52 = .ok (.aload_n 0, 1) := by decide +kernel
theorem dX9_read_53 : decode cX9_read 53 = .ok (.invokevirtual 275, 3) := by decide +kernel
theorem dX9_read_56 : decode cX9_read 56 = .ok (.aload_n 0, 1) := by decide +kernel
theorem dX9_read_57 : decode cX9_read 57 = .ok (.iconst 0, 1) := by decide +kernel
theorem dX9_read_58 : decode cX9_read 58 = .ok (.putfield 254, 3) := by decide +kernel
theorem dX9_read_61 : decode cX9_read 61 = .ok (.aload_n 0, 1) := by decide +kernel
theorem dX9_read_62 : decode cX9_read 62 = .ok (.iconst 0, 1) := by decide +kernel
theorem dX9_read_63 : decode cX9_read 63 = .ok (.putfield 278, 3) := by decide +kernel
theorem dX9_read_66 : decode cX9_read 66 = .ok (.aload_n 0, 1) := by decide +kernel
theorem dX9_read_67 : decode cX9_read 67 = .ok (.iconst 0, 1) := by decide +kernel
theorem dX9_read_68 : decode cX9_read 68 = .ok (.putfield 251, 3) := by decide +kernel
theorem dX9_read_71 : decode cX9_read 71 = .ok (.aload_n 0, 1) := by decide +kernel
theorem dX9_read_72 : decode cX9_read 72 = .ok (.iconst 0, 1) := by decide +kernel
theorem dX9_read_73 : decode cX9_read 73 = .ok (.putfield 260, 3) := by decide +kernel
theorem dX9_read_76 : decode cX9_read 76 = .ok (.aload_n 0, 1) := by decide +kernel
theorem dX9_read_77 : decode cX9_read 77 = .ok (.iconst 2, 1) := by decide +kernel
theorem dX9_read_78 : decode cX9_read 78 = .ok (.iload_n 1, 1) := by decide +kernel
theorem dX9_read_79 : decode cX9_read 79 = .ok (.imul, 1) := by decide +kernel
theorem dX9_read_80 : decode cX9_read 80 = .ok (.iconst 1, 1) := by decide +kernel
theorem dX9_read_81 : decode cX9_read 81 = .ok (.iadd, 1) := by decide +kernel
theorem dX9_read_82 : decode cX9_read 82 = .ok (.aload_n 0, 1) := by decide +kernel
theorem dX9_read_83 : decode cX9_read 83 = .ok (.getfield 40, 3) := by decide +kernel
theorem dX9_read_86 : decode cX9_read 86 = .ok (.iload_n 1, 1) := by decide +kernel
theorem dX9_read_87 : decode cX9_read 87 = .ok (.iaload, 1) := by decide +kernel
theorem dX9_read_88 : decode cX9_read 88 = .ok (.isub, 1) := by decide +kernel
theorem dX9_read_89 : decode cX9_read 89 = .ok (.putfield 281, 3) := by decide +kernel
theorem dX9_read_92 : decode cX9_read 92 = .ok (.aload_n 0, 1) := by decide +kernel
theorem dX9_read_93 : decode cX9_read 93 = .ok (.getfield 43, 3) := by decide +kernel
theorem dX9_read_96 : decode cX9_read 96 = .ok (.aload_n 0, 1) := by decide +kernel
theorem dX9_read_97 : decode cX9_read 97 = .ok (.getfield 281, 3) := by decide +kernel
theorem dX9_read_100 : decode cX9_read 100 = .ok (.iconst 0, 1) := by decide +kernel
theorem dX9_read_101 : decode cX9_read 101 = .ok (.iastore, 1) := by decide +kernel
theorem dX9_read_102 : decode cX9_read 102 = .ok (.aload_n 0, 1) := by decide +kernel
theorem dX9_read_103 : decode cX9_read 103 = .ok (.getfield 58, 3) := by decide +kernel
theorem dX9_read_106 : decode cX9_read 106 = .ok (.aload_n 0, 1) := by decide +kernel
theorem dX9_read_107 : decode cX9_read 107 = .ok (.getfield 281, 3) := by decide +kernel
theorem dX9_read_110 : decode cX9_read 110 = .ok (.iconst 0, 1) := by decide +kernel
theorem dX9_read_111 : decode cX9_read 111 = .ok (.iastore, 1) := by decide +kernel
theorem dX9_read_112 : decode cX9_read 112 = .ok (.aload_n 0, 1) := by decide +kernel
theorem dX9_read_113 : decode cX9_read 113 = .ok (.sipush 500, 3) := by decide +kernel
theorem dX9_read_116 : decode cX9_read 116 = .ok (.aload_n 0, 1) := by decide +kernel
theorem dX9_read_117 : decode cX9_read 117 = .ok (.getfield 281, 3) := by decide +kernel
theorem dX9_read_120 : decode cX9_read 120 = .ok (.imul, 1) := by decide +kernel
theorem dX9_read_121 : decode cX9_read 121 = .ok (.putfield 284, 3) := by decide +kernel
theorem dX9_read_124 : decode cX9_read 124 = .ok (.aload_n 0, 1) := by decide +kernel
theorem dX9_read_125 : decode cX9_read 125 = .ok (.getfield 251, 3) := by decide +kernel
theorem dX9_read_128 : decode cX9_read 128 = .ok (.ifCond .ne 18, 3) := by decide +kernel
theorem dX9_read_131 : decode cX9_read 131 = .ok (.aload_n 0, 1) := by decide +kernel
theorem dX9_read_132 : decode cX9_read 132 = .ok (.iconst 0, 1) := by decide +kernel
theorem dX9_read_133 : decode cX9_read 133 = .ok (.invokevirtual 269, 3) := by decide +kernel
theorem dX9_read_136 : decode cX9_read 136 = .ok (.ifCond .ne 10, 3) := by decide +kernel
theorem dX9_read_139 : decode cX9_read 139 = .ok (.aload_n 0, 1) := by decide +kernel
theorem dX9_read_140 : decode cX9_read 140 = .ok (.invokevirtual 287, 3) := by decide +kernel
theorem dX9_read_143 : decode cX9_read 143 = .ok (.goto (-19), 3) := by decide +kernel
theorem dX9_read_146 : decode cX9_read 146 = .ok (.aload_n 0, 1) := by decide +kernel
theorem dX9_read_147 : decode cX9_read 147 = .ok (.aload_n 0, 1) := by decide +kernel
theorem dX9_read_148 : decode cX9_read 148 = .ok (.getfield 251, 3) := by decide +kernel
theorem dX9_read_151 : decode cX9_read 151 = .ok (.ifCond .le 10, 3) := by decide +kernel
theorem dX9_read_154 : decode cX9_read 154 = .ok (.aload_n 0, 1) := by decide +kernel
theorem dX9_read_155 : decode cX9_read 155 = .ok (.getfield 257, 3) := by decide +kernel
theorem dX9_read_158 : decode cX9_read 158 = .ok (.goto 18, 3) := by decide +kernel
theorem dX9_read_161 : decode cX9_read 161 = .ok (.aload_n 0, 1) := by decide +kernel
theorem dX9_read_162 : decode cX9_read 162 = .ok (.getfield 260, 3) := by decide +kernel
theorem dX9_read_165 : decode cX9_read 165 = .ok (.ifCond .le 10, 3) := by decide +kernel
theorem dX9_read_168 : decode cX9_read 168 = .ok (.aload_n 0, 1) := by decide +kernel
theorem dX9_read_169 : decode cX9_read 169 = .ok (.getfield 263, 3) := by decide +kernel
theorem dX9_read_172 : decode cX9_read 172 = .ok (.goto 4, 3) := by decide +kernel
theorem dX9_read_175 : decode cX9_read 175 = .ok (.iconst (-1), 1) := by decide +kernel
theorem dX9_read_176 : decode cX9_read 176 = .ok (.putfield 37, 3) := by decide +kernel
theorem dX9_read_179 : decode cX9_read 179 = .ok (.aload_n 0, 1) := by decide +kernel
theorem dX9_read_180 : decode cX9_read 180 = .ok (.getfield 251, 3) := by decide +kernel
theorem dX9_read_183 : decode cX9_read 183 = .ok (.ifCond .le 8, 3) := by decide +kernel
theorem dX9_read_186 : decode cX9_read 186 = .ok (.aload_n 0, 1) := by decide +kernel
theorem dX9_read_187 : decode cX9_read 187 = .ok (.getfield 251, 3) := by decide +kernel
theorem dX9_read_190 : decode cX9_read 190 = .ok (.ireturn, 1) := by decide +kernel
theorem dX9_read_191 : decode cX9_read 191 = .ok (.aload_n 0, 1) := by decide +kernel
theorem dX9_read_192 : decode cX9_read 192 = .ok (.getfield 260, 3) := by decide +kernel
theorem dX9_read_195 : decode cX9_read 195 = .ok (.ifCond .le 8, 3) := by decide +kernel
theorem dX9_read_198 : decode cX9_read 198 = .ok (.aload_n 0, 1) := by decide +kernel
theorem dX9_read_199 : decode cX9_read 199 = .ok (.getfield 260, 3) := by decide +kernel
theorem dX9_read_202 : decode cX9_read 202 = .ok (.ireturn, 1) := by decide +kernel
theorem dX9_read_203 : decode cX9_read 203 = .ok (.aload_n 0, 1) := by decide +kernel
theorem dX9_read_204 : decode cX9_read 204 = .ok (.getfield 40, 3) := by decide +kernel
theorem dX9_read_207 : decode cX9_read 207 = .ok (.iload_n 1, 1) := by decide +kernel
theorem dX9_read_208 : decode cX9_read 208 = .ok (.iconst 1, 1) := by decide +kernel
theorem dX9_read_209 : decode cX9_read 209 = .ok (.aload_n 0, 1) := by decide +kernel
theorem dX9_read_210 : decode cX9_read 210 = .ok (.getfield 40, 3) := by decide +kernel
theorem dX9_read_213 : decode cX9_read 213 = .ok (.iload_n 1, 1) := by decide +kernel
theorem dX9_read_214 : decode cX9_read 214 = .ok (.iaload, 1) := by decide +kernel
theorem dX9_read_215 : decode cX9_read 215 = .ok (.isub, 1) := by decide +kernel
theorem dX9_read_216 : decode cX9_read 216 = .ok (.iastore, 1) := by decide +kernel
theorem dX9_read_217 : decode cX9_read 217 = .ok (.aload_n 0, 1) := by decide +kernel
theorem dX9_read_218 : decode cX9_read 218 = .ok (.iconst 0, 1) := by decide +kernel
theorem dX9_read_219 : decode cX9_read 219 = .ok (.putfield 290, 3) := by decide +kernel
theorem dX9_read_222 : decode cX9_read 222 = .ok (.iconst 0, 1) := by decide +kernel
theorem dX9_read_223 : decode cX9_read 223 = .ok (.ireturn, 1) := by decide +kernel
theorem dX9_place_0 : decode cX9_place 0 = .ok (.aload_n 0, 1) := by decide +kernel
theorem dX9_place_1 : decode cX9_place 1 = .ok (.getfield 37, 3) := by decide +kernel
theorem dX9_place_4 : decode cX9_place 4 = .ok (.ireturn, 1) := by decide +kernel
theorem dX9_tellRule_0 : decode cX9_tellRule 0 = .ok (.aload_n 0, 1) := by decide +kernel
theorem dX9_tellRule_1 : decode cX9_tellRule 1 = .ok (.bipush 20, 2) := by decide +kernel
theorem dX9_tellRule_3 : decode cX9_tellRule 3 = .ok (.invokevirtual 269, 3) := by decide +kernel
theorem dX9_tellRule_6 : decode cX9_tellRule 6 = .ok (.ifCond .ne 20, 3) := by decide +kernel
theorem dX9_tellRule_9 : decode cX9_tellRule 9 = .ok (.aload_n 0, 1) := by decide +kernel
theorem dX9_tellRule_10 : decode cX9_tellRule 10 = .ok (.bipush 22, 2) := by decide +kernel
theorem dX9_tellRule_12 : decode cX9_tellRule 12 = .ok (.invokevirtual 269, 3) := by decide +kernel
theorem dX9_tellRule_15 : decode cX9_tellRule 15 = .ok (.ifCond .ne 11, 3) := by decide +kernel
theorem dX9_tellRule_18 : decode cX9_tellRule 18 = .ok (.aload_n 0, 1) := by decide +kernel
theorem dX9_tellRule_19 : decode cX9_tellRule 19 = .ok (.iconst 1, 1) := by decide +kernel
theorem dX9_tellRule_20 : decode cX9_tellRule 20 = .ok (.invokevirtual 266, 3) := by decide +kernel
theorem dX9_tellRule_23 : decode cX9_tellRule 23 = .ok (.goto 22, 3) := by decide +kernel
theorem dX9_tellRule_26 : decode cX9_tellRule 26 = .ok (.aload_n 0, 1) := by decide +kernel
theorem dX9_tellRule_27 : decode cX9_tellRule 27 = .ok (.getfield 43, 3) := by decide +kernel
theorem dX9_tellRule_30 : decode cX9_tellRule 30 = .ok (.aload_n 0, 1) := by decide +kernel
theorem dX9_tellRule_31 : decode cX9_tellRule 31 = .ok (.getfield 281, 3) := by decide +kernel
theorem dX9_tellRule_34 : decode cX9_tellRule 34 = .ok (.iaload, 1) := by decide +kernel
theorem dX9_tellRule_35 : decode cX9_tellRule 35 = .ok (.bipush 20, 2) := by decide +kernel
theorem dX9_tellRule_37 : decode cX9_tellRule 37 = .ok (.if_icmp .ne 8, 3) := by decide +kernel
theorem dX9_tellRule_40 : decode cX9_tellRule 40 = .ok (.aload_n 0, 1) := by decide +kernel
theorem dX9_tellRule_41 : decode cX9_tellRule 41 = .ok (.iconst 2, 1) := by decide +kernel
theorem dX9_tellRule_42 : decode cX9_tellRule 42 = .ok (.invokevirtual 266, 3) := by decide +kernel
theorem dX9_tellRule_45 : decode cX9_tellRule 45 = .ok (.aload_n 0, 1) := by decide +kernel
theorem dX9_tellRule_46 : decode cX9_tellRule 46 = .ok (.getfield 251, 3) := by decide +kernel
theorem dX9_tellRule_49 : decode cX9_tellRule 49 = .ok (.ifCond .le 4, 3) := by decide +kernel
theorem dX9_tellRule_52 : decode cX9_tellRule 52 = .ok (.return_, 1) := by decide +kernel
theorem dX9_tellRule_53 : decode cX9_tellRule 53 = .ok (.bipush 20, 2) := by decide +kernel
theorem dX9_tellRule_55 : decode cX9_tellRule 55 = .ok (.aload_n 0, 1) := by decide +kernel
theorem dX9_tellRule_56 : decode cX9_tellRule 56 = .ok (.getfield 281, 3) := by decide +kernel
theorem dX9_tellRule_59 : decode cX9_tellRule 59 = .ok (.imul, 1) := by decide +kernel
theorem dX9_tellRule_60 : decode cX9_tellRule 60 = .ok (.aload_n 0, 1) := by decide +kernel
theorem dX9_tellRule_61 : decode cX9_tellRule 61 = .ok (.getfield 43, 3) := by decide +kernel
theorem dX9_tellRule_64 : decode cX9_tellRule 64 = .ok (.aload_n 0, 1) := by decide +kernel
theorem dX9_tellRule_65 : decode cX9_tellRule 65 = .ok (.getfield 281, 3) := by decide +kernel
theorem dX9_tellRule_68 : decode cX9_tellRule 68 = .ok (.iaload, 1) := by decide +kernel
theorem dX9_tellRule_69 : decode cX9_tellRule 69 = .ok (.iadd, 1) := by decide +kernel
theorem dX9_tellRule_70 : decode cX9_tellRule 70 = .ok (.istore_n 1, 1) := by decide +kernel
theorem dX9_tellRule_71 : decode cX9_tellRule 71 = .ok (.aload_n 0, 1) := by decide +kernel
theorem dX9_tellRule_72 : decode cX9_tellRule 72 = .ok (.getfield 46, 3) := by decide +kernel
theorem dX9_tellRule_75 : decode cX9_tellRule 75 = .ok (.iload_n 1, 1) := by decide +kernel
theorem dX9_tellRule_76 : decode cX9_tellRule 76 = .ok (.aload_n 0, 1) := by decide +kernel
theorem dX9_tellRule_77 : decode cX9_tellRule 77 = .ok (.bipush 20, 2) := by decide +kernel
theorem dX9_tellRule_79 : decode cX9_tellRule 79 = .ok (.invokevirtual 269, 3) := by decide +kernel
theorem dX9_tellRule_82 : decode cX9_tellRule 82 = .ok (.ifCond .eq 7, 3) := by decide +kernel
theorem dX9_tellRule_85 : decode cX9_tellRule 85 = .ok (.iconst 0, 1) := by decide +kernel
theorem dX9_tellRule_86 : decode cX9_tellRule 86 = .ok (.goto 4, 3) := by decide +kernel
theorem dX9_tellRule_89 : decode cX9_tellRule 89 = .ok (.iconst 1, 1) := by decide +kernel
theorem dX9_tellRule_90 : decode cX9_tellRule 90 = .ok (.iastore, 1) := by decide +kernel
theorem dX9_tellRule_91 : decode cX9_tellRule 91 = .ok (.aload_n 0, 1) := by decide +kernel
theorem dX9_tellRule_92 : decode cX9_tellRule 92 = .ok (.invokevirtual 272, 3) := by decide +kernel
theorem dX9_tellRule_95 : decode cX9_tellRule 95 = .ok (.aload_n 0, 1) := by decide +kernel
theorem dX9_tellRule_96 : decode cX9_tellRule 96 = .ok (.getfield 254, 3) := by decide +kernel
theorem dX9_tellRule_99 : decode cX9_tellRule 99 = .ok (.istore_n 2, 1) := by decide +kernel
theorem dX9_tellRule_100 : decode cX9_tellRule 100 = .ok (.aload_n 0, 1) := by decide +kernel
theorem dX9_tellRule_101 : decode cX9_tellRule 101 = .ok (.iconst 2, 1) := by decide +kernel
theorem dX9_tellRule_102 : decode cX9_tellRule 102 = .ok (.invokevirtual 294, 3) := by decide +kernel
theorem dX9_tellRule_105 : decode cX9_tellRule 105 = .ok (.aload_n 0, 1) := by decide +kernel
theorem dX9_tellRule_106 : decode cX9_tellRule 106 = .ok (.getfield 251, 3) := by decide +kernel
theorem dX9_tellRule_109 : decode cX9_tellRule 109 = .ok (.ifCond .le 4, 3) := by decide +kernel
theorem dX9_tellRule_112 : decode cX9_tellRule 112 = .ok (.return_, 1) := by decide +kernel
theorem dX9_tellRule_113 : decode cX9_tellRule 113 = .ok (.aload_n 0, 1) := by decide +kernel
theorem dX9_tellRule_114 : decode cX9_tellRule 114 = .ok (.getfield 49, 3) := by decide +kernel
theorem dX9_tellRule_117 : decode cX9_tellRule 117 = .ok (.iload_n 1, 1) := by decide +kernel
theorem dX9_tellRule_118 : decode cX9_tellRule 118 = .ok (.aload_n 0, 1) := by decide +kernel
theorem dX9_tellRule_119 : decode cX9_tellRule 119 = .ok (.getfield 27, 3) := by decide +kernel
theorem dX9_tellRule_122 : decode cX9_tellRule 122 = .ok (.iload_n 2, 1) := by decide +kernel
theorem dX9_tellRule_123 : decode cX9_tellRule 123 = .ok (.iaload, 1) := by decide +kernel
theorem dX9_tellRule_124 : decode cX9_tellRule 124 = .ok (.iastore, 1) := by decide +kernel
theorem dX9_tellRule_125 : decode cX9_tellRule 125 = .ok (.aload_n 0, 1) := by decide +kernel
theorem dX9_tellRule_126 : decode cX9_tellRule 126 = .ok (.getfield 27, 3) := by decide +kernel
theorem dX9_tellRule_129 : decode cX9_tellRule 129 = .ok (.iload_n 2, 1) := by decide +kernel
theorem dX9_tellRule_130 : decode cX9_tellRule 130 = .ok (.iaload, 1) := by decide +kernel
theorem dX9_tellRule_131 : decode cX9_tellRule 131 = .ok (.aload_n 0, 1) := by decide +kernel
theorem dX9_tellRule_132 : decode cX9_tellRule 132 = .ok (.getfield 46, 3) := by decide +kernel
theorem dX9_tellRule_135 : decode cX9_tellRule 135 = .ok (.iload_n 1, 1) := by decide +kernel
theorem dX9_tellRule_136 : decode cX9_tellRule 136 = .ok (.iaload, 1) := by decide +kernel
theorem dX9_tellRule_137 : decode cX9_tellRule 137 = .ok (.ifCond .ne 7, 3) := by decide +kernel
theorem dX9_tellRule_140 : decode cX9_tellRule 140 = .ok (.iconst 5, 1) := by decide +kernel
theorem dX9_tellRule_141 : decode cX9_tellRule 141 = .ok (.goto 4, 3) := by decide +kernel
theorem dX9_tellRule_144 : decode cX9_tellRule 144 = .ok (.iconst 3, 1) := by decide +kernel
theorem dX9_tellRule_145 : decode cX9_tellRule 145 = .ok (.if_icmp .le 9, 3) := by decide +kernel
theorem dX9_tellRule_148 : decode cX9_tellRule 148 = .ok (.aload_n 0, 1) := by decide +kernel
theorem dX9_tellRule_149 : decode cX9_tellRule 149 = .ok (.iconst 5, 1) := by decide +kernel
theorem dX9_tellRule_150 : decode cX9_tellRule 150 = .ok (.iload_n 2, 1) := by decide +kernel
theorem dX9_tellRule_151 : decode cX9_tellRule 151 = .ok (.invokevirtual 297, 3) := by decide +kernel
theorem dX9_tellRule_154 : decode cX9_tellRule 154 = .ok (.aload_n 0, 1) := by decide +kernel
theorem dX9_tellRule_155 : decode cX9_tellRule 155 = .ok (.getfield 52, 3) := by decide +kernel
theorem dX9_tellRule_158 : decode cX9_tellRule 158 = .ok (.iload_n 1, 1) := by decide +kernel
theorem dX9_tellRule_159 : decode cX9_tellRule 159 = .ok (.aload_n 0, 1) := by decide +kernel
theorem dX9_tellRule_160 : decode cX9_tellRule 160 = .ok (.getfield 58, 3) := by decide +kernel
theorem dX9_tellRule_163 : decode cX9_tellRule 163 = .ok (.aload_n 0, 1) := by decide +kernel
theorem dX9_tellRule_164 : decode cX9_tellRule 164 = .ok (.getfield 281, 3) := by decide +kernel
theorem dX9_tellRule_167 : decode cX9_tellRule 167 = .ok (.iaload, 1) := by decide +kernel
theorem dX9_tellRule_168 : decode cX9_tellRule 168 = .ok (.iastore, 1) := by decide +kernel
theorem dX9_tellRule_169 : decode cX9_tellRule 169 = .ok (.aload_n 0, 1) := by decide +kernel
theorem dX9_tellRule_170 : decode cX9_tellRule 170 = .ok (.getfield 46, 3) := by decide +kernel
theorem dX9_tellRule_173 : decode cX9_tellRule 173 = .ok (.iload_n 1, 1) := by decide +kernel
theorem dX9_tellRule_174 : decode cX9_tellRule 174 = .ok (.iaload, 1) := by decide +kernel
theorem dX9_tellRule_175 : decode cX9_tellRule 175 = .ok (.iconst 1, 1) := by decide +kernel
theorem dX9_tellRule_176 : decode cX9_tellRule 176 = .ok (.if_icmp .eq 12, 3) := by decide +kernel
theorem dX9_tellRule_179 : decode cX9_tellRule 179 = .ok (.aload_n 0, 1) := by decide +kernel
theorem dX9_tellRule_180 : decode cX9_tellRule 180 = .ok (.bipush 21, 2) := by decide +kernel
theorem dX9_tellRule_182 : decode cX9_tellRule 182 = .ok (.invokevirtual 269, 3) := by decide +kernel
theorem dX9_tellRule_185 : decode cX9_tellRule 185 = .ok (.ifCond .eq 7, 3) := by decide +kernel
theorem dX9_tellRule_188 : decode cX9_tellRule 188 = .ok (.iconst 1, 1) := by decide +kernel
theorem dX9_tellRule_189 : decode cX9_tellRule 189 = .ok (.goto 4, 3) := by decide +kernel
theorem dX9_tellRule_192 : decode cX9_tellRule 192 = .ok (.iconst 0, 1) := by decide +kernel
theorem dX9_tellRule_193 : decode cX9_tellRule 193 = .ok (.istore_n 3, 1) := by decide +kernel
theorem dX9_tellRule_194 : decode cX9_tellRule 194 = .ok (.iload_n 3, 1) := by decide +kernel
theorem dX9_tellRule_195 : decode cX9_tellRule 195 = .ok (.ifCond .eq 9, 3) := by decide +kernel
theorem dX9_tellRule_198 : decode cX9_tellRule 198 = .ok (.aload_n 0, 1) := by decide +kernel
theorem dX9_tellRule_199 : decode cX9_tellRule 199 = .ok (.bipush 21, 2) := by decide +kernel
theorem dX9_tellRule_201 : decode cX9_tellRule 201 = .ok (.invokevirtual 294, 3) := by decide +kernel
theorem dX9_tellRule_204 : decode cX9_tellRule 204 = .ok (.iconst 1, 1) := by decide +kernel
theorem dX9_tellRule_205 : decode cX9_tellRule 205 = .ok (.istore 4, 2) := by decide +kernel
theorem dX9_tellRule_207 : decode cX9_tellRule 207 = .ok (.iload_n 3, 1) := by decide +kernel
theorem dX9_tellRule_208 : decode cX9_tellRule 208 = .ok (.ifCond .eq 55, 3) := by decide +kernel
theorem dX9_tellRule_211 : decode cX9_tellRule 211 = .ok (.aload_n 0, 1) := by decide +kernel
theorem dX9_tellRule_212 : decode cX9_tellRule 212 = .ok (.getfield 251, 3) := by decide +kernel
theorem dX9_tellRule_215 : decode cX9_tellRule 215 = .ok (.ifCond .ne 48, 3) := by decide +kernel
theorem dX9_tellRule_218 : decode cX9_tellRule 218 = .ok (.aload_n 0, 1) := by decide +kernel
theorem dX9_tellRule_219 : decode cX9_tellRule 219 = .ok (.iload 4, 2) := by decide +kernel
theorem dX9_tellRule_221 : decode cX9_tellRule 221 = .ok (.invokevirtual 301, 3) := by decide +kernel
theorem dX9_tellRule_224 : decode cX9_tellRule 224 = .ok (.aload_n 0, 1) := by decide +kernel
theorem dX9_tellRule_225 : decode cX9_tellRule 225 = .ok (.bipush 23, 2) := by decide +kernel
theorem dX9_tellRule_227 : decode cX9_tellRule 227 = .ok (.invokevirtual 269, 3) := by decide +kernel
theorem dX9_tellRule_230 : decode cX9_tellRule 230 = .ok (.istore 4, 2) := by decide +kernel
theorem dX9_tellRule_232 : decode cX9_tellRule 232 = .ok (.iload 4, 2) := by decide +kernel
theorem dX9_tellRule_234 : decode cX9_tellRule 234 = .ok (.ifCond .ne 12, 3) := by decide +kernel
theorem dX9_tellRule_237 : decode cX9_tellRule 237 = .ok (.aload_n 0, 1) := by decide +kernel
theorem dX9_tellRule_238 : decode cX9_tellRule 238 = .ok (.bipush 24, 2) := by decide +kernel
theorem dX9_tellRule_240 : decode cX9_tellRule 240 = .ok (.invokevirtual 269, 3) := by decide +kernel
theorem dX9_tellRule_243 : decode cX9_tellRule 243 = .ok (.ifCond .eq 7, 3) := by decide +kernel
theorem dX9_tellRule_246 : decode cX9_tellRule 246 = .ok (.iconst 1, 1) := by decide +kernel
theorem dX9_tellRule_247 : decode cX9_tellRule 247 = .ok (.goto 4, 3) := by decide +kernel
theorem dX9_tellRule_250 : decode cX9_tellRule 250 = .ok (.iconst 0, 1) := by decide +kernel
theorem dX9_tellRule_251 : decode cX9_tellRule 251 = .ok (.istore_n 3, 1) := by decide +kernel
theorem dX9_tellRule_252 : decode cX9_tellRule 252 = .ok (.iload_n 3, 1) := by decide +kernel
theorem dX9_tellRule_253 : decode cX9_tellRule 253 = .ok (.ifCond .eq (-46), 3) := by decide +kernel
theorem dX9_tellRule_256 : decode cX9_tellRule 256 = .ok (.aload_n 0, 1) := by decide +kernel
theorem dX9_tellRule_257 : decode cX9_tellRule 257 = .ok (.invokevirtual 272, 3) := by decide +kernel
theorem dX9_tellRule_260 : decode cX9_tellRule 260 = .ok (.goto (-53), 3) := by decide +kernel
theorem dX9_tellRule_263 : decode cX9_tellRule 263 = .ok (.aload_n 0, 1) := by decide +kernel
theorem dX9_tellRule_264 : decode cX9_tellRule 264 = .ok (.iconst 4, 1) := by decide +kernel
theorem dX9_tellRule_265 : decode cX9_tellRule 265 = .ok (.invokevirtual 294, 3) := by decide +kernel
theorem dX9_tellRule_268 : decode cX9_tellRule 268 = .ok (.aload_n 0, 1) := by decide +kernel
theorem dX9_tellRule_269 : decode cX9_tellRule 269 = .ok (.getfield 251, 3) := by decide +kernel
theorem dX9_tellRule_272 : decode cX9_tellRule 272 = .ok (.ifCond .le 4, 3) := by decide +kernel
theorem dX9_tellRule_275 : decode cX9_tellRule 275 = .ok (.return_, 1) := by decide +kernel
theorem dX9_tellRule_276 : decode cX9_tellRule 276 = .ok (.aload_n 0, 1) := by decide +kernel
theorem dX9_tellRule_277 : decode cX9_tellRule 277 = .ok (.getfield 55, 3) := by decide +kernel
theorem dX9_tellRule_280 : decode cX9_tellRule 280 = .ok (.iload_n 1, 1) := by decide +kernel
theorem dX9_tellRule_281 : decode cX9_tellRule 281 = .ok (.aload_n 0, 1) := by decide +kernel
theorem dX9_tellRule_282 : decode cX9_tellRule 282 = .ok (.getfield 58, 3) := by decide +kernel
theorem dX9_tellRule_285 : decode cX9_tellRule 285 = .ok (.aload_n 0, 1) := by decide +kernel
theorem dX9_tellRule_286 : decode cX9_tellRule 286 = .ok (.getfield 281, 3) := by decide +kernel
theorem dX9_tellRule_289 : decode cX9_tellRule 289 = .ok (.iaload, 1) := by decide +kernel
theorem dX9_tellRule_290 : decode cX9_tellRule 290 = .ok (.iastore, 1) := by decide +kernel
theorem dX9_tellRule_291 : decode cX9_tellRule 291 = .ok (.aload_n 0, 1) := by decide +kernel
theorem dX9_tellRule_292 : decode cX9_tellRule 292 = .ok (.getfield 43, 3) := by decide +kernel
theorem dX9_tellRule_295 : decode cX9_tellRule 295 = .ok (.aload_n 0, 1) := by decide +kernel
theorem dX9_tellRule_296 : decode cX9_tellRule 296 = .ok (.getfield 281, 3) := by decide +kernel
theorem dX9_tellRule_299 : decode cX9_tellRule 299 = .ok (.dup2, 1) := by decide +kernel
theorem dX9_tellRule_300 : decode cX9_tellRule 300 = .ok (.iaload, 1) := by decide +kernel
theorem dX9_tellRule_301 : decode cX9_tellRule 301 = .ok (.iconst 1, 1) := by decide +kernel
theorem dX9_tellRule_302 : decode cX9_tellRule 302 = .ok (.iadd, 1) := by decide +kernel
theorem dX9_tellRule_303 : decode cX9_tellRule 303 = .ok (.iastore, 1) := by decide +kernel
theorem dX9_tellRule_304 : decode cX9_tellRule 304 = .ok (.return_, 1) := by decide +kernel
theorem dX9_relation_0 : decode cX9_relation 0 = .ok (.aload_n 0, 1) := by decide +kernel
theorem dX9_relation_1 : decode cX9_relation 1 = .ok (.getfield 284, 3) := by decide +kernel
theorem dX9_relation_4 : decode cX9_relation 4 = .ok (.istore_n 2, 1) := by decide +kernel
theorem dX9_relation_5 : decode cX9_relation 5 = .ok (.aload_n 0, 1) := by decide +kernel
theorem dX9_relation_6 : decode cX9_relation 6 = .ok (.invokevirtual 305, 3) := by decide +kernel
theorem dX9_relation_9 : decode cX9_relation 9 = .ok (.aload_n 0, 1) := by decide +kernel
theorem dX9_relation_10 : decode cX9_relation 10 = .ok (.getfield 251, 3) := by decide +kernel
theorem dX9_relation_13 : decode cX9_relation 13 = .ok (.ifCond .le 7, 3) := by decide +kernel
theorem dX9_relation_16 : decode cX9_relation 16 = .ok (.iconst 0, 1) := by decide +kernel
theorem dX9_relation_17 : decode cX9_relation 17 = .ok (.goto 15, 3) := by decide +kernel
theorem dX9_relation_20 : decode cX9_relation 20 = .ok (.aload_n 0, 1) := by decide +kernel
theorem dX9_relation_21 : decode cX9_relation 21 = .ok (.getfield 20, 3) := by decide +kernel
theorem dX9_relation_24 : decode cX9_relation 24 = .ok (.aload_n 0, 1) := by decide +kernel
theorem dX9_relation_25 : decode cX9_relation 25 = .ok (.getfield 254, 3) := by decide +kernel
theorem dX9_relation_28 : decode cX9_relation 28 = .ok (.iaload, 1) := by decide +kernel
theorem dX9_relation_29 : decode cX9_relation 29 = .ok (.bipush 11, 2) := by decide +kernel
theorem dX9_relation_31 : decode cX9_relation 31 = .ok (.isub, 1) := by decide +kernel
theorem dX9_relation_32 : decode cX9_relation 32 = .ok (.istore_n 3, 1) := by decide +kernel
theorem dX9_relation_33 : decode cX9_relation 33 = .ok (.aload_n 0, 1) := by decide +kernel
theorem dX9_relation_34 : decode cX9_relation 34 = .ok (.getfield 251, 3) := by decide +kernel
theorem dX9_relation_37 : decode cX9_relation 37 = .ok (.ifCond .ne 17, 3) := by decide +kernel
theorem dX9_relation_40 : decode cX9_relation 40 = .ok (.iload_n 3, 1) := by decide +kernel
theorem dX9_relation_41 : decode cX9_relation 41 = .ok (.ifCond .lt 8, 3) := by decide +kernel
theorem dX9_relation_44 : decode cX9_relation 44 = .ok (.iload_n 3, 1) := by decide +kernel
theorem dX9_relation_45 : decode cX9_relation 45 = .ok (.iconst 3, 1) := by decide +kernel
theorem dX9_relation_46 : decode cX9_relation 46 = .ok (.if_icmp .le 8, 3) := by decide +kernel
theorem dX9_relation_49 : decode cX9_relation 49 = .ok (.aload_n 0, 1) := by decide +kernel
theorem dX9_relation_50 : decode cX9_relation 50 = .ok (.iconst 1, 1) := by decide +kernel
theorem dX9_relation_51 : decode cX9_relation 51 = .ok (.invokevirtual 266, 3) := by decide +kernel
theorem dX9_relation_54 : decode cX9_relation 54 = .ok (.aload_n 0, 1) := by decide +kernel
theorem dX9_relation_55 : decode cX9_relation 55 = .ok (.invokevirtual 272, 3) := by decide +kernel
theorem dX9_relation_58 : decode cX9_relation 58 = .ok (.aload_n 0, 1) := by decide +kernel
theorem dX9_relation_59 : decode cX9_relation 59 = .ok (.getfield 284, 3) := by decide +kernel
theorem dX9_relation_62 : decode cX9_relation 62 = .ok (.istore 4, 2) := by decide +kernel
theorem dX9_relation_64 : decode cX9_relation 64 = .ok (.aload_n 0, 1) := by decide +kernel
theorem dX9_relation_65 : decode cX9_relation 65 = .ok (.invokevirtual 305, 3) := by decide +kernel
theorem dX9_relation_68 : decode cX9_relation 68 = .ok (.aload_n 0, 1) := by decide +kernel
theorem dX9_relation_69 : decode cX9_relation 69 = .ok (.getfield 251, 3) := by decide +kernel
theorem dX9_relation_72 : decode cX9_relation 72 = .ok (.ifCond .le 4, 3) := by decide +kernel
theorem dX9_relation_75 : decode cX9_relation 75 = .ok (.return_, 1) := by decide +kernel
theorem dX9_relation_76 : decode cX9_relation 76 = .ok (.sipush 200, 3) := by decide +kernel
theorem dX9_relation_79 : decode cX9_relation 79 = .ok (.aload_n 0, 1) := by decide +kernel
theorem dX9_relation_80 : decode cX9_relation 80 = .ok (.getfield 281, 3) := by decide +kernel
theorem dX9_relation_83 : decode cX9_relation 83 = .ok (.imul, 1) := by decide +kernel
theorem dX9_relation_84 : decode cX9_relation 84 = .ok (.aload_n 0, 1) := by decide +kernel
theorem dX9_relation_85 : decode cX9_relation 85 = .ok (.getfield 58, 3) := by decide +kernel
theorem dX9_relation_88 : decode cX9_relation 88 = .ok (.aload_n 0, 1) := by decide +kernel
theorem dX9_relation_89 : decode cX9_relation 89 = .ok (.getfield 281, 3) := by decide +kernel
theorem dX9_relation_92 : decode cX9_relation 92 = .ok (.iaload, 1) := by decide +kernel
theorem dX9_relation_93 : decode cX9_relation 93 = .ok (.iadd, 1) := by decide +kernel
theorem dX9_relation_94 : decode cX9_relation 94 = .ok (.istore 5, 2) := by decide +kernel
theorem dX9_relation_96 : decode cX9_relation 96 = .ok (.aload_n 0, 1) := by decide +kernel
theorem dX9_relation_97 : decode cX9_relation 97 = .ok (.getfield 61, 3) := by decide +kernel
theorem dX9_relation_100 : decode cX9_relation 100 = .ok (.iload 5, 2) := by decide +kernel
theorem dX9_relation_102 : decode cX9_relation 102 = .ok (.iload_n 3, 1) := by decide +kernel
theorem dX9_relation_103 : decode cX9_relation 103 = .ok (.iastore, 1) := by decide +kernel
theorem dX9_relation_104 : decode cX9_relation 104 = .ok (.aload_n 0, 1) := by decide +kernel
theorem dX9_relation_105 : decode cX9_relation 105 = .ok (.getfield 64, 3) := by decide +kernel
theorem dX9_relation_108 : decode cX9_relation 108 = .ok (.iload 5, 2) := by decide +kernel
theorem dX9_relation_110 : decode cX9_relation 110 = .ok (.iload_n 2, 1) := by decide +kernel
theorem dX9_relation_111 : decode cX9_relation 111 = .ok (.iastore, 1) := by decide +kernel
theorem dX9_relation_112 : decode cX9_relation 112 = .ok (.aload_n 0, 1) := by decide +kernel
theorem dX9_relation_113 : decode cX9_relation 113 = .ok (.getfield 67, 3) := by decide +kernel
theorem dX9_relation_116 : decode cX9_relation 116 = .ok (.iload 5, 2) := by decide +kernel
theorem dX9_relation_118 : decode cX9_relation 118 = .ok (.iload 4, 2) := by decide +kernel
theorem dX9_relation_120 : decode cX9_relation 120 = .ok (.iastore, 1) := by decide +kernel
theorem dX9_relation_121 : decode cX9_relation 121 = .ok (.aload_n 0, 1) := by decide +kernel
theorem dX9_relation_122 : decode cX9_relation 122 = .ok (.getfield 70, 3) := by decide +kernel
theorem dX9_relation_125 : decode cX9_relation 125 = .ok (.iload 5, 2) := by decide +kernel
theorem dX9_relation_127 : decode cX9_relation 127 = .ok (.aload_n 0, 1) := by decide +kernel
theorem dX9_relation_128 : decode cX9_relation 128 = .ok (.getfield 284, 3) := by decide +kernel
theorem dX9_relation_131 : decode cX9_relation 131 = .ok (.iastore, 1) := by decide +kernel
theorem dX9_relation_132 : decode cX9_relation 132 = .ok (.aload_n 0, 1) := by decide +kernel
theorem dX9_relation_133 : decode cX9_relation 133 = .ok (.getfield 73, 3) := by decide +kernel
theorem dX9_relation_136 : decode cX9_relation 136 = .ok (.iload 5, 2) := by decide +kernel
theorem dX9_relation_138 : decode cX9_relation 138 = .ok (.iload_n 1, 1) := by decide +kernel
theorem dX9_relation_139 : decode cX9_relation 139 = .ok (.bastore, 1) := by decide +kernel
theorem dX9_relation_140 : decode cX9_relation 140 = .ok (.aload_n 0, 1) := by decide +kernel
theorem dX9_relation_141 : decode cX9_relation 141 = .ok (.getfield 58, 3) := by decide +kernel
theorem dX9_relation_144 : decode cX9_relation 144 = .ok (.aload_n 0, 1) := by decide +kernel
theorem dX9_relation_145 : decode cX9_relation 145 = .ok (.getfield 281, 3) := by decide +kernel
theorem dX9_relation_148 : decode cX9_relation 148 = .ok (.dup2, 1) := by decide +kernel
theorem dX9_relation_149 : decode cX9_relation 149 = .ok (.iaload, 1) := by decide +kernel
theorem dX9_relation_150 : decode cX9_relation 150 = .ok (.iconst 1, 1) := by decide +kernel
theorem dX9_relation_151 : decode cX9_relation 151 = .ok (.iadd, 1) := by decide +kernel
theorem dX9_relation_152 : decode cX9_relation 152 = .ok (.iastore, 1) := by decide +kernel
theorem dX9_relation_153 : decode cX9_relation 153 = .ok (.return_, 1) := by decide +kernel
theorem dX9_emit_0 : decode cX9_emit 0 = .ok (.aload_n 0, 1) := by decide +kernel
theorem dX9_emit_1 : decode cX9_emit 1 = .ok (.getfield 77, 3) := by decide +kernel
theorem dX9_emit_4 : decode cX9_emit 4 = .ok (.aload_n 0, 1) := by decide +kernel
theorem dX9_emit_5 : decode cX9_emit 5 = .ok (.getfield 284, 3) := by decide +kernel
theorem dX9_emit_8 : decode cX9_emit 8 = .ok (.iload_n 1, 1) := by decide +kernel
theorem dX9_emit_9 : decode cX9_emit 9 = .ok (.iastore, 1) := by decide +kernel
theorem dX9_emit_10 : decode cX9_emit 10 = .ok (.aload_n 0, 1) := by decide +kernel
theorem dX9_emit_11 : decode cX9_emit 11 = .ok (.getfield 80, 3) := by decide +kernel
theorem dX9_emit_14 : decode cX9_emit 14 = .ok (.aload_n 0, 1) := by decide +kernel
theorem dX9_emit_15 : decode cX9_emit 15 = .ok (.getfield 284, 3) := by decide +kernel
theorem dX9_emit_18 : decode cX9_emit 18 = .ok (.iload_n 2, 1) := by decide +kernel
theorem dX9_emit_19 : decode cX9_emit 19 = .ok (.iastore, 1) := by decide +kernel
theorem dX9_emit_20 : decode cX9_emit 20 = .ok (.aload_n 0, 1) := by decide +kernel
theorem dX9_emit_21 : decode cX9_emit 21 = .ok (.dup, 1) := by decide +kernel
theorem dX9_emit_22 : decode cX9_emit 22 = .ok (.getfield 284, 3) := by decide +kernel
theorem dX9_emit_25 : decode cX9_emit 25 = .ok (.iconst 1, 1) := by decide +kernel
theorem dX9_emit_26 : decode cX9_emit 26 = .ok (.iadd, 1) := by decide +kernel
theorem dX9_emit_27 : decode cX9_emit 27 = .ok (.putfield 284, 3) := by decide +kernel
theorem dX9_emit_30 : decode cX9_emit 30 = .ok (.return_, 1) := by decide +kernel
theorem dX9_comesOut_0 : decode cX9_comesOut 0 = .ok (.aload_n 0, 1) := by decide +kernel
theorem dX9_comesOut_1 : decode cX9_comesOut 1 = .ok (.getfield 308, 3) := by decide +kernel
theorem dX9_comesOut_4 : decode cX9_comesOut 4 = .ok (.ifCond .le 88, 3) := by decide +kernel
theorem dX9_comesOut_7 : decode cX9_comesOut 7 = .ok (.aload_n 0, 1) := by decide +kernel
theorem dX9_comesOut_8 : decode cX9_comesOut 8 = .ok (.getfield 83, 3) := by decide +kernel
theorem dX9_comesOut_11 : decode cX9_comesOut 11 = .ok (.aload_n 0, 1) := by decide +kernel
theorem dX9_comesOut_12 : decode cX9_comesOut 12 = .ok (.getfield 308, 3) := by decide +kernel
theorem dX9_comesOut_15 : decode cX9_comesOut 15 = .ok (.iconst 1, 1) := by decide +kernel
theorem dX9_comesOut_16 : decode cX9_comesOut 16 = .ok (.isub, 1) := by decide +kernel
theorem dX9_comesOut_17 : decode cX9_comesOut 17 = .ok (.iaload, 1) := by decide +kernel
theorem dX9_comesOut_18 : decode cX9_comesOut 18 = .ok (.bipush 6, 2) := by decide +kernel
theorem dX9_comesOut_20 : decode cX9_comesOut 20 = .ok (.if_icmp .eq 72, 3) := by decide +kernel
theorem dX9_comesOut_23 : decode cX9_comesOut 23 = .ok (.iload_n 1, 1) := by decide +kernel
theorem dX9_comesOut_24 : decode cX9_comesOut 24 = .ok (.ifCond .eq 19, 3) := by decide +kernel
theorem dX9_comesOut_27 : decode cX9_comesOut 27 = .ok (.aload_n 0, 1) := by decide +kernel
theorem dX9_comesOut_28 : decode cX9_comesOut 28 = .ok (.getfield 83, 3) := by decide +kernel
theorem dX9_comesOut_31 : decode cX9_comesOut 31 = .ok (.aload_n 0, 1) := by decide +kernel
theorem dX9_comesOut_32 : decode cX9_comesOut 32 = .ok (.getfield 308, 3) := by decide +kernel
theorem dX9_comesOut_35 : decode cX9_comesOut 35 = .ok (.iconst 1, 1) := by decide +kernel
theorem dX9_comesOut_36 : decode cX9_comesOut 36 = .ok (.isub, 1) := by decide +kernel
theorem dX9_comesOut_37 : decode cX9_comesOut 37 = .ok (.iaload, 1) := by decide +kernel
theorem dX9_comesOut_38 : decode cX9_comesOut 38 = .ok (.bipush 10, 2) := by decide +kernel
theorem dX9_comesOut_40 : decode cX9_comesOut 40 = .ok (.if_icmp .ne 52, 3) := by decide +kernel
theorem dX9_comesOut_43 : decode cX9_comesOut 43 = .ok (.aload_n 0, 1) := by decide +kernel
theorem dX9_comesOut_44 : decode cX9_comesOut 44 = .ok (.dup, 1) := by decide +kernel
theorem dX9_comesOut_45 : decode cX9_comesOut 45 = .ok (.getfield 308, 3) := by decide +kernel
theorem dX9_comesOut_48 : decode cX9_comesOut 48 = .ok (.iconst 1, 1) := by decide +kernel
theorem dX9_comesOut_49 : decode cX9_comesOut 49 = .ok (.isub, 1) := by decide +kernel
theorem dX9_comesOut_50 : decode cX9_comesOut 50 = .ok (.putfield 308, 3) := by decide +kernel
theorem dX9_comesOut_53 : decode cX9_comesOut 53 = .ok (.aload_n 0, 1) := by decide +kernel
theorem dX9_comesOut_54 : decode cX9_comesOut 54 = .ok (.getfield 83, 3) := by decide +kernel
theorem dX9_comesOut_57 : decode cX9_comesOut 57 = .ok (.aload_n 0, 1) := by decide +kernel
theorem dX9_comesOut_58 : decode cX9_comesOut 58 = .ok (.getfield 308, 3) := by decide +kernel
theorem dX9_comesOut_61 : decode cX9_comesOut 61 = .ok (.iaload, 1) := by decide +kernel
theorem dX9_comesOut_62 : decode cX9_comesOut 62 = .ok (.istore_n 2, 1) := by decide +kernel
theorem dX9_comesOut_63 : decode cX9_comesOut 63 = .ok (.aload_n 0, 1) := by decide +kernel
theorem dX9_comesOut_64 : decode cX9_comesOut 64 = .ok (.iload_n 2, 1) := by decide +kernel
theorem dX9_comesOut_65 : decode cX9_comesOut 65 = .ok (.bipush 8, 2) := by decide +kernel
theorem dX9_comesOut_67 : decode cX9_comesOut 67 = .ok (.if_icmp .ne 7, 3) := by decide +kernel
theorem dX9_comesOut_70 : decode cX9_comesOut 70 = .ok (.iconst 2, 1) := by decide +kernel
theorem dX9_comesOut_71 : decode cX9_comesOut 71 = .ok (.goto 14, 3) := by decide +kernel
theorem dX9_comesOut_74 : decode cX9_comesOut 74 = .ok (.iload_n 2, 1) := by decide +kernel
theorem dX9_comesOut_75 : decode cX9_comesOut 75 = .ok (.bipush 9, 2) := by decide +kernel
theorem dX9_comesOut_77 : decode cX9_comesOut 77 = .ok (.if_icmp .ne 7, 3) := by decide +kernel
theorem dX9_comesOut_80 : decode cX9_comesOut 80 = .ok (.iconst 3, 1) := by decide +kernel
theorem dX9_comesOut_81 : decode cX9_comesOut 81 = .ok (.goto 4, 3) := by decide +kernel
theorem dX9_comesOut_84 : decode cX9_comesOut 84 = .ok (.iconst 4, 1) := by decide +kernel
theorem dX9_comesOut_85 : decode cX9_comesOut 85 = .ok (.iconst 0, 1) := by decide +kernel
theorem dX9_comesOut_86 : decode cX9_comesOut 86 = .ok (.invokevirtual 311, 3) := by decide +kernel
theorem dX9_comesOut_89 : decode cX9_comesOut 89 = .ok (.goto (-89), 3) := by decide +kernel
theorem dX9_comesOut_92 : decode cX9_comesOut 92 = .ok (.return_, 1) := by decide +kernel
theorem dX9_expression_0 : decode cX9_expression 0 = .ok (.aload_n 0, 1) := by decide +kernel
theorem dX9_expression_1 : decode cX9_expression 1 = .ok (.iconst 0, 1) := by decide +kernel
theorem dX9_expression_2 : decode cX9_expression 2 = .ok (.putfield 308, 3) := by decide +kernel
theorem dX9_expression_5 : decode cX9_expression 5 = .ok (.aload_n 0, 1) := by decide +kernel
theorem dX9_expression_6 : decode cX9_expression 6 = .ok (.getfield 278, 3) := by decide +kernel
theorem dX9_expression_9 : decode cX9_expression 9 = .ok (.istore_n 1, 1) := by decide +kernel
theorem dX9_expression_10 : decode cX9_expression 10 = .ok (.iconst 1, 1) := by decide +kernel
theorem dX9_expression_11 : decode cX9_expression 11 = .ok (.istore_n 2, 1) := by decide +kernel
theorem dX9_expression_12 : decode cX9_expression 12 = .ok (.iload_n 2, 1) := by decide +kernel
theorem dX9_expression_13 : decode cX9_expression 13 = .ok (.ifCond .eq 347, 3) := by decide +kernel
theorem dX9_expression_16 : decode cX9_expression 16 = .ok (.aload_n 0, 1) := by decide +kernel
theorem dX9_expression_17 : decode cX9_expression 17 = .ok (.getfield 251, 3) := by decide +kernel
theorem dX9_expression_20 : decode cX9_expression 20 = .ok (.ifCond .ne 340, 3) := by decide +kernel
theorem dX9_expression_23 : decode cX9_expression 23 = .ok (.aload_n 0, 1) := by decide +kernel
theorem dX9_expression_24 : decode cX9_expression 24 = .ok (.bipush 6, 2) := by decide +kernel
theorem dX9_expression_26 : decode cX9_expression 26 = .ok (.invokevirtual 269, 3) := by decide +kernel
theorem dX9_expression_29 : decode cX9_expression 29 = .ok (.ifCond .eq 63, 3) := by decide +kernel
theorem dX9_expression_32 : decode cX9_expression 32 = .ok (.aload_n 0, 1) := by decide +kernel
theorem dX9_expression_33 : decode cX9_expression 33 = .ok (.getfield 278, 3) := by decide +kernel
theorem dX9_expression_36 : decode cX9_expression 36 = .ok (.bipush 6, 2) := by decide +kernel
theorem dX9_expression_38 : decode cX9_expression 38 = .ok (.if_icmp .ne 8, 3) := by decide +kernel
theorem dX9_expression_41 : decode cX9_expression 41 = .ok (.aload_n 0, 1) := by decide +kernel
theorem dX9_expression_42 : decode cX9_expression 42 = .ok (.iconst 2, 1) := by decide +kernel
theorem dX9_expression_43 : decode cX9_expression 43 = .ok (.invokevirtual 266, 3) := by decide +kernel
theorem dX9_expression_46 : decode cX9_expression 46 = .ok (.aload_n 0, 1) := by decide +kernel
theorem dX9_expression_47 : decode cX9_expression 47 = .ok (.getfield 251, 3) := by decide +kernel
theorem dX9_expression_50 : decode cX9_expression 50 = .ok (.ifCond .le 4, 3) := by decide +kernel
theorem dX9_expression_53 : decode cX9_expression 53 = .ok (.return_, 1) := by decide +kernel
theorem dX9_expression_54 : decode cX9_expression 54 = .ok (.aload_n 0, 1) := by decide +kernel
theorem dX9_expression_55 : decode cX9_expression 55 = .ok (.dup, 1) := by decide +kernel
theorem dX9_expression_56 : decode cX9_expression 56 = .ok (.getfield 278, 3) := by decide +kernel
theorem dX9_expression_59 : decode cX9_expression 59 = .ok (.iconst 1, 1) := by decide +kernel
theorem dX9_expression_60 : decode cX9_expression 60 = .ok (.iadd, 1) := by decide +kernel
theorem dX9_expression_61 : decode cX9_expression 61 = .ok (.putfield 278, 3) := by decide +kernel
theorem dX9_expression_64 : decode cX9_expression 64 = .ok (.aload_n 0, 1) := by decide +kernel
theorem dX9_expression_65 : decode cX9_expression 65 = .ok (.invokevirtual 272, 3) := by decide +kernel
theorem dX9_expression_68 : decode cX9_expression 68 = .ok (.aload_n 0, 1) := by decide +kernel
theorem dX9_expression_69 : decode cX9_expression 69 = .ok (.getfield 83, 3) := by decide +kernel
theorem dX9_expression_72 : decode cX9_expression 72 = .ok (.aload_n 0, 1) := by decide +kernel
theorem dX9_expression_73 : decode cX9_expression 73 = .ok (.getfield 308, 3) := by decide +kernel
theorem dX9_expression_76 : decode cX9_expression 76 = .ok (.bipush 6, 2) := by decide +kernel
theorem dX9_expression_78 : decode cX9_expression 78 = .ok (.iastore, 1) := by decide +kernel
theorem dX9_expression_79 : decode cX9_expression 79 = .ok (.aload_n 0, 1) := by decide +kernel
theorem dX9_expression_80 : decode cX9_expression 80 = .ok (.dup, 1) := by decide +kernel
theorem dX9_expression_81 : decode cX9_expression 81 = .ok (.getfield 308, 3) := by decide +kernel
theorem dX9_expression_84 : decode cX9_expression 84 = .ok (.iconst 1, 1) := by decide +kernel
theorem dX9_expression_85 : decode cX9_expression 85 = .ok (.iadd, 1) := by decide +kernel
theorem dX9_expression_86 : decode cX9_expression 86 = .ok (.putfield 308, 3) := by decide +kernel
theorem dX9_expression_89 : decode cX9_expression 89 = .ok (.goto (-77), 3) := by decide +kernel
theorem dX9_expression_92 : decode cX9_expression 92 = .ok (.aload_n 0, 1) := by decide +kernel
theorem dX9_expression_93 : decode cX9_expression 93 = .ok (.getfield 251, 3) := by decide +kernel
theorem dX9_expression_96 : decode cX9_expression 96 = .ok (.ifCond .ne 35, 3) := by decide +kernel
theorem dX9_expression_99 : decode cX9_expression 99 = .ok (.aload_n 0, 1) := by decide +kernel
theorem dX9_expression_100 : decode cX9_expression 100 = .ok (.getfield 20, 3) := by decide +kernel
theorem dX9_expression_103 : decode cX9_expression 103 = .ok (.aload_n 0, 1) := by decide +kernel
theorem dX9_expression_104 : decode cX9_expression 104 = .ok (.getfield 254, 3) := by decide +kernel
theorem dX9_expression_107 : decode cX9_expression 107 = .ok (.iaload, 1) := by decide +kernel
theorem dX9_expression_108 : decode cX9_expression 108 = .ok (.bipush 25, 2) := by decide +kernel
theorem dX9_expression_110 : decode cX9_expression 110 = .ok (.if_icmp .lt 21, 3) := by decide +kernel
theorem dX9_expression_113 : decode cX9_expression 113 = .ok (.aload_n 0, 1) := by decide +kernel
theorem dX9_expression_114 : decode cX9_expression 114 = .ok (.getfield 20, 3) := by decide +kernel
theorem dX9_expression_117 : decode cX9_expression 117 = .ok (.aload_n 0, 1) := by decide +kernel
theorem dX9_expression_118 : decode cX9_expression 118 = .ok (.getfield 254, 3) := by decide +kernel
theorem dX9_expression_121 : decode cX9_expression 121 = .ok (.iaload, 1) := by decide +kernel
theorem dX9_expression_122 : decode cX9_expression 122 = .ok (.bipush 31, 2) := by decide +kernel
theorem dX9_expression_124 : decode cX9_expression 124 = .ok (.if_icmp .gt 7, 3) := by decide +kernel
theorem dX9_expression_127 : decode cX9_expression 127 = .ok (.iconst 1, 1) := by decide +kernel
theorem dX9_expression_128 : decode cX9_expression 128 = .ok (.goto 4, 3) := by decide +kernel
theorem dX9_expression_131 : decode cX9_expression 131 = .ok (.iconst 0, 1) := by decide +kernel
theorem dX9_expression_132 : decode cX9_expression 132 = .ok (.istore_n 3, 1) := by decide +kernel
theorem dX9_expression_133 : decode cX9_expression 133 = .ok (.aload_n 0, 1) := by decide +kernel
theorem dX9_expression_134 : decode cX9_expression 134 = .ok (.iconst 2, 1) := by decide +kernel
theorem dX9_expression_135 : decode cX9_expression 135 = .ok (.invokevirtual 269, 3) := by decide +kernel
theorem dX9_expression_138 : decode cX9_expression 138 = .ok (.ifCond .ne 12, 3) := by decide +kernel
theorem dX9_expression_141 : decode cX9_expression 141 = .ok (.iload_n 3, 1) := by decide +kernel
theorem dX9_expression_142 : decode cX9_expression 142 = .ok (.ifCond .ne 8, 3) := by decide +kernel
theorem dX9_expression_145 : decode cX9_expression 145 = .ok (.aload_n 0, 1) := by decide +kernel
theorem dX9_expression_146 : decode cX9_expression 146 = .ok (.iconst 1, 1) := by decide +kernel
theorem dX9_expression_147 : decode cX9_expression 147 = .ok (.invokevirtual 266, 3) := by decide +kernel
theorem dX9_expression_150 : decode cX9_expression 150 = .ok (.aload_n 0, 1) := by decide +kernel
theorem dX9_expression_151 : decode cX9_expression 151 = .ok (.getfield 251, 3) := by decide +kernel
theorem dX9_expression_154 : decode cX9_expression 154 = .ok (.ifCond .le 4, 3) := by decide +kernel
theorem dX9_expression_157 : decode cX9_expression 157 = .ok (.return_, 1) := by decide +kernel
theorem dX9_expression_158 : decode cX9_expression 158 = .ok (.iload_n 3, 1) := by decide +kernel
theorem dX9_expression_159 : decode cX9_expression 159 = .ok (.ifCond .eq 23, 3) := by decide +kernel
theorem dX9_expression_162 : decode cX9_expression 162 = .ok (.aload_n 0, 1) := by decide +kernel
theorem dX9_expression_163 : decode cX9_expression 163 = .ok (.iconst 1, 1) := by decide +kernel
theorem dX9_expression_164 : decode cX9_expression 164 = .ok (.aload_n 0, 1) := by decide +kernel
theorem dX9_expression_165 : decode cX9_expression 165 = .ok (.getfield 20, 3) := by decide +kernel
theorem dX9_expression_168 : decode cX9_expression 168 = .ok (.aload_n 0, 1) := by decide +kernel
theorem dX9_expression_169 : decode cX9_expression 169 = .ok (.getfield 254, 3) := by decide +kernel
theorem dX9_expression_172 : decode cX9_expression 172 = .ok (.iaload, 1) := by decide +kernel
theorem dX9_expression_173 : decode cX9_expression 173 = .ok (.bipush 25, 2) := by decide +kernel
theorem dX9_expression_175 : decode cX9_expression 175 = .ok (.isub, 1) := by decide +kernel
theorem dX9_expression_176 : decode cX9_expression 176 = .ok (.invokevirtual 311, 3) := by decide +kernel
theorem dX9_expression_179 : decode cX9_expression 179 = .ok (.goto 17, 3) := by decide +kernel
theorem dX9_expression_182 : decode cX9_expression 182 = .ok (.aload_n 0, 1) := by decide +kernel
theorem dX9_expression_183 : decode cX9_expression 183 = .ok (.iconst 0, 1) := by decide +kernel
theorem dX9_expression_184 : decode cX9_expression 184 = .ok (.aload_n 0, 1) := by decide +kernel
theorem dX9_expression_185 : decode cX9_expression 185 = .ok (.getfield 27, 3) := by decide +kernel
theorem dX9_expression_188 : decode cX9_expression 188 = .ok (.aload_n 0, 1) := by decide +kernel
theorem dX9_expression_189 : decode cX9_expression 189 = .ok (.getfield 254, 3) := by decide +kernel
theorem dX9_expression_192 : decode cX9_expression 192 = .ok (.iaload, 1) := by decide +kernel
theorem dX9_expression_193 : decode cX9_expression 193 = .ok (.invokevirtual 311, 3) := by decide +kernel
theorem dX9_expression_196 : decode cX9_expression 196 = .ok (.aload_n 0, 1) := by decide +kernel
theorem dX9_expression_197 : decode cX9_expression 197 = .ok (.invokevirtual 272, 3) := by decide +kernel
theorem dX9_expression_200 : decode cX9_expression 200 = .ok (.aload_n 0, 1) := by decide +kernel
theorem dX9_expression_201 : decode cX9_expression 201 = .ok (.bipush 7, 2) := by decide +kernel
theorem dX9_expression_203 : decode cX9_expression 203 = .ok (.invokevirtual 269, 3) := by decide +kernel
theorem dX9_expression_206 : decode cX9_expression 206 = .ok (.ifCond .eq 43, 3) := by decide +kernel
theorem dX9_expression_209 : decode cX9_expression 209 = .ok (.aload_n 0, 1) := by decide +kernel
theorem dX9_expression_210 : decode cX9_expression 210 = .ok (.getfield 278, 3) := by decide +kernel
theorem dX9_expression_213 : decode cX9_expression 213 = .ok (.iload_n 1, 1) := by decide +kernel
theorem dX9_expression_214 : decode cX9_expression 214 = .ok (.if_icmp .le 35, 3) := by decide +kernel
theorem dX9_expression_217 : decode cX9_expression 217 = .ok (.aload_n 0, 1) := by decide +kernel
theorem dX9_expression_218 : decode cX9_expression 218 = .ok (.iconst 0, 1) := by decide +kernel
theorem dX9_expression_219 : decode cX9_expression 219 = .ok (.invokevirtual 314, 3) := by decide +kernel
theorem dX9_expression_222 : decode cX9_expression 222 = .ok (.aload_n 0, 1) := by decide +kernel
theorem dX9_expression_223 : decode cX9_expression 223 = .ok (.dup, 1) := by decide +kernel
theorem dX9_expression_224 : decode cX9_expression 224 = .ok (.getfield 308, 3) := by decide +kernel
theorem dX9_expression_227 : decode cX9_expression 227 = .ok (.iconst 1, 1) := by decide +kernel
theorem dX9_expression_228 : decode cX9_expression 228 = .ok (.isub, 1) := by decide +kernel
theorem dX9_expression_229 : decode cX9_expression 229 = .ok (.putfield 308, 3) := by decide +kernel
theorem dX9_expression_232 : decode cX9_expression 232 = .ok (.aload_n 0, 1) := by decide +kernel
theorem dX9_expression_233 : decode cX9_expression 233 = .ok (.dup, 1) := by decide +kernel
theorem dX9_expression_234 : decode cX9_expression 234 = .ok (.getfield 278, 3) := by decide +kernel
theorem dX9_expression_237 : decode cX9_expression 237 = .ok (.iconst 1, 1) := by decide +kernel
theorem dX9_expression_238 : decode cX9_expression 238 = .ok (.isub, 1) := by decide +kernel
theorem dX9_expression_239 : decode cX9_expression 239 = .ok (.putfield 278, 3) := by decide +kernel
theorem dX9_expression_242 : decode cX9_expression 242 = .ok (.aload_n 0, 1) := by decide +kernel
theorem dX9_expression_243 : decode cX9_expression 243 = .ok (.invokevirtual 272, 3) := by decide +kernel
theorem dX9_expression_246 : decode cX9_expression 246 = .ok (.goto (-46), 3) := by decide +kernel
theorem dX9_expression_249 : decode cX9_expression 249 = .ok (.aload_n 0, 1) := by decide +kernel
theorem dX9_expression_250 : decode cX9_expression 250 = .ok (.bipush 8, 2) := by decide +kernel
theorem dX9_expression_252 : decode cX9_expression 252 = .ok (.invokevirtual 269, 3) := by decide +kernel
theorem dX9_expression_255 : decode cX9_expression 255 = .ok (.ifCond .ne 21, 3) := by decide +kernel
theorem dX9_expression_258 : decode cX9_expression 258 = .ok (.aload_n 0, 1) := by decide +kernel
theorem dX9_expression_259 : decode cX9_expression 259 = .ok (.bipush 9, 2) := by decide +kernel
theorem dX9_expression_261 : decode cX9_expression 261 = .ok (.invokevirtual 269, 3) := by decide +kernel
theorem dX9_expression_264 : decode cX9_expression 264 = .ok (.ifCond .ne 12, 3) := by decide +kernel
theorem dX9_expression_267 : decode cX9_expression 267 = .ok (.aload_n 0, 1) := by decide +kernel
theorem dX9_expression_268 : decode cX9_expression 268 = .ok (.bipush 10, 2) := by decide +kernel
theorem dX9_expression_270 : decode cX9_expression 270 = .ok (.invokevirtual 269, 3) := by decide +kernel
theorem dX9_expression_273 : decode cX9_expression 273 = .ok (.ifCond .eq 7, 3) := by decide +kernel
theorem dX9_expression_276 : decode cX9_expression 276 = .ok (.iconst 1, 1) := by decide +kernel
theorem dX9_expression_277 : decode cX9_expression 277 = .ok (.goto 4, 3) := by decide +kernel
theorem dX9_expression_280 : decode cX9_expression 280 = .ok (.iconst 0, 1) := by decide +kernel
theorem dX9_expression_281 : decode cX9_expression 281 = .ok (.istore_n 2, 1) := by decide +kernel
theorem dX9_expression_282 : decode cX9_expression 282 = .ok (.iload_n 2, 1) := by decide +kernel
theorem dX9_expression_283 : decode cX9_expression 283 = .ok (.ifCond .ne 22, 3) := by decide +kernel
theorem dX9_expression_286 : decode cX9_expression 286 = .ok (.aload_n 0, 1) := by decide +kernel
theorem dX9_expression_287 : decode cX9_expression 287 = .ok (.getfield 278, 3) := by decide +kernel
theorem dX9_expression_290 : decode cX9_expression 290 = .ok (.iload_n 1, 1) := by decide +kernel
theorem dX9_expression_291 : decode cX9_expression 291 = .ok (.if_icmp .le 8, 3) := by decide +kernel
theorem dX9_expression_294 : decode cX9_expression 294 = .ok (.aload_n 0, 1) := by decide +kernel
theorem dX9_expression_295 : decode cX9_expression 295 = .ok (.iconst 1, 1) := by decide +kernel
theorem dX9_expression_296 : decode cX9_expression 296 = .ok (.invokevirtual 266, 3) := by decide +kernel
theorem dX9_expression_299 : decode cX9_expression 299 = .ok (.aload_n 0, 1) := by decide +kernel
theorem dX9_expression_300 : decode cX9_expression 300 = .ok (.iconst 0, 1) := by decide +kernel
theorem dX9_expression_301 : decode cX9_expression 301 = .ok (.invokevirtual 314, 3) := by decide +kernel
theorem dX9_expression_304 : decode cX9_expression 304 = .ok (.return_, 1) := by decide +kernel
theorem dX9_expression_305 : decode cX9_expression 305 = .ok (.aload_n 0, 1) := by decide +kernel
theorem dX9_expression_306 : decode cX9_expression 306 = .ok (.getfield 20, 3) := by decide +kernel
theorem dX9_expression_309 : decode cX9_expression 309 = .ok (.aload_n 0, 1) := by decide +kernel
theorem dX9_expression_310 : decode cX9_expression 310 = .ok (.getfield 254, 3) := by decide +kernel
theorem dX9_expression_313 : decode cX9_expression 313 = .ok (.iaload, 1) := by decide +kernel
theorem dX9_expression_314 : decode cX9_expression 314 = .ok (.istore 4, 2) := by decide +kernel
theorem dX9_expression_316 : decode cX9_expression 316 = .ok (.aload_n 0, 1) := by decide +kernel
theorem dX9_expression_317 : decode cX9_expression 317 = .ok (.iload 4, 2) := by decide +kernel
theorem dX9_expression_319 : decode cX9_expression 319 = .ok (.bipush 10, 2) := by decide +kernel
theorem dX9_expression_321 : decode cX9_expression 321 = .ok (.if_icmp .ne 7, 3) := by decide +kernel
theorem dX9_expression_324 : decode cX9_expression 324 = .ok (.iconst 1, 1) := by decide +kernel
theorem dX9_expression_325 : decode cX9_expression 325 = .ok (.goto 4, 3) := by decide +kernel
theorem dX9_expression_328 : decode cX9_expression 328 = .ok (.iconst 0, 1) := by decide +kernel
theorem dX9_expression_329 : decode cX9_expression 329 = .ok (.invokevirtual 314, 3) := by decide +kernel
theorem dX9_expression_332 : decode cX9_expression 332 = .ok (.aload_n 0, 1) := by decide +kernel
theorem dX9_expression_333 : decode cX9_expression 333 = .ok (.getfield 83, 3) := by decide +kernel
theorem dX9_expression_336 : decode cX9_expression 336 = .ok (.aload_n 0, 1) := by decide +kernel
theorem dX9_expression_337 : decode cX9_expression 337 = .ok (.getfield 308, 3) := by decide +kernel
theorem dX9_expression_340 : decode cX9_expression 340 = .ok (.iload 4, 2) := by decide +kernel
theorem dX9_expression_342 : decode cX9_expression 342 = .ok (.iastore, 1) := by decide +kernel
theorem dX9_expression_343 : decode cX9_expression 343 = .ok (.aload_n 0, 1) := by decide +kernel
theorem dX9_expression_344 : decode cX9_expression 344 = .ok (.dup, 1) := by decide +kernel
theorem dX9_expression_345 : decode cX9_expression 345 = .ok (.getfield 308, 3) := by decide +kernel
theorem dX9_expression_348 : decode cX9_expression 348 = .ok (.iconst 1, 1) := by decide +kernel
theorem dX9_expression_349 : decode cX9_expression 349 = .ok (.iadd, 1) := by decide +kernel
theorem dX9_expression_350 : decode cX9_expression 350 = .ok (.putfield 308, 3) := by decide +kernel
theorem dX9_expression_353 : decode cX9_expression 353 = .ok (.aload_n 0, 1) := by decide +kernel
theorem dX9_expression_354 : decode cX9_expression 354 = .ok (.invokevirtual 272, 3) := by decide +kernel
theorem dX9_expression_357 : decode cX9_expression 357 = .ok (.goto (-345), 3) := by decide +kernel
theorem dX9_expression_360 : decode cX9_expression 360 = .ok (.return_, 1) := by decide +kernel
theorem dX9_isTick_0 : decode cX9_isTick 0 = .ok (.iload_n 0, 1) := by decide +kernel
theorem dX9_isTick_1 : decode cX9_isTick 1 = .ok (.ifCond .lt 14, 3) := by decide +kernel
theorem dX9_isTick_4 : decode cX9_isTick 4 = .ok (.iload_n 0, 1) := by decide +kernel
theorem dX9_isTick_5 : decode cX9_isTick 5 = .ok (.sipush 300, 3) := by decide +kernel
theorem dX9_isTick_8 : decode cX9_isTick 8 = .ok (.if_icmp .ge 7, 3) := by decide +kernel
theorem dX9_isTick_11 : decode cX9_isTick 11 = .ok (.iconst 1, 1) := by decide +kernel
theorem dX9_isTick_12 : decode cX9_isTick 12 = .ok (.goto 4, 3) := by decide +kernel
theorem dX9_isTick_15 : decode cX9_isTick 15 = .ok (.iconst 0, 1) := by decide +kernel
theorem dX9_isTick_16 : decode cX9_isTick 16 = .ok (.ireturn, 1) := by decide +kernel
theorem dX9_isMachine_0 : decode cX9_isMachine 0 = .ok (.iload_n 1, 1) := by decide +kernel
theorem dX9_isMachine_1 : decode cX9_isMachine 1 = .ok (.ifCond .lt 15, 3) := by decide +kernel
theorem dX9_isMachine_4 : decode cX9_isMachine 4 = .ok (.iload_n 1, 1) := by decide +kernel
theorem dX9_isMachine_5 : decode cX9_isMachine 5 = .ok (.aload_n 0, 1) := by decide +kernel
theorem dX9_isMachine_6 : decode cX9_isMachine 6 = .ok (.getfield 317, 3) := by decide +kernel
theorem dX9_isMachine_9 : decode cX9_isMachine 9 = .ok (.if_icmp .ge 7, 3) := by decide +kernel
theorem dX9_isMachine_12 : decode cX9_isMachine 12 = .ok (.iconst 1, 1) := by decide +kernel
theorem dX9_isMachine_13 : decode cX9_isMachine 13 = .ok (.goto 4, 3) := by decide +kernel
theorem dX9_isMachine_16 : decode cX9_isMachine 16 = .ok (.iconst 0, 1) := by decide +kernel
theorem dX9_isMachine_17 : decode cX9_isMachine 17 = .ok (.ireturn, 1) := by decide +kernel
theorem dX9_isFile_0 : decode cX9_isFile 0 = .ok (.iload_n 1, 1) := by decide +kernel
theorem dX9_isFile_1 : decode cX9_isFile 1 = .ok (.ifCond .lt 15, 3) := by decide +kernel
theorem dX9_isFile_4 : decode cX9_isFile 4 = .ok (.iload_n 1, 1) := by decide +kernel
theorem dX9_isFile_5 : decode cX9_isFile 5 = .ok (.aload_n 0, 1) := by decide +kernel
theorem dX9_isFile_6 : decode cX9_isFile 6 = .ok (.getfield 320, 3) := by decide +kernel
theorem dX9_isFile_9 : decode cX9_isFile 9 = .ok (.if_icmp .ge 7, 3) := by decide +kernel
theorem dX9_isFile_12 : decode cX9_isFile 12 = .ok (.iconst 1, 1) := by decide +kernel
theorem dX9_isFile_13 : decode cX9_isFile 13 = .ok (.goto 4, 3) := by decide +kernel
theorem dX9_isFile_16 : decode cX9_isFile 16 = .ok (.iconst 0, 1) := by decide +kernel
theorem dX9_isFile_17 : decode cX9_isFile 17 = .ok (.ireturn, 1) := by decide +kernel
theorem dX9_machine_0 : decode cX9_machine 0 = .ok (.aload_n 0, 1) := by decide +kernel
theorem dX9_machine_1 : decode cX9_machine 1 = .ok (.getfield 317, 3) := by decide +kernel
theorem dX9_machine_4 : decode cX9_machine 4 = .ok (.bipush 8, 2) := by decide +kernel
theorem dX9_machine_6 : decode cX9_machine 6 = .ok (.if_icmp .eq 32, 3) := by decide +kernel
theorem dX9_machine_9 : decode cX9_machine 9 = .ok (.iload_n 1, 1) := by decide +kernel
theorem dX9_machine_10 : decode cX9_machine 10 = .ok (.ifCond .lt 28, 3) := by decide +kernel
theorem dX9_machine_13 : decode cX9_machine 13 = .ok (.iload_n 1, 1) := by decide +kernel
theorem dX9_machine_14 : decode cX9_machine 14 = .ok (.iconst 3, 1) := by decide +kernel
theorem dX9_machine_15 : decode cX9_machine 15 = .ok (.if_icmp .gt 23, 3) := by decide +kernel
theorem dX9_machine_18 : decode cX9_machine 18 = .ok (.iload_n 2, 1) := by decide +kernel
theorem dX9_machine_19 : decode cX9_machine 19 = .ok (.ifCond .lt 19, 3) := by decide +kernel
theorem dX9_machine_22 : decode cX9_machine 22 = .ok (.iload_n 2, 1) := by decide +kernel
theorem dX9_machine_23 : decode cX9_machine 23 = .ok (.bipush 7, 2) := by decide +kernel
theorem dX9_machine_25 : decode cX9_machine 25 = .ok (.if_icmp .gt 13, 3) := by decide +kernel
theorem dX9_machine_28 : decode cX9_machine 28 = .ok (.iload_n 3, 1) := by decide +kernel
theorem dX9_machine_29 : decode cX9_machine 29 = .ok (.ifCond .lt 9, 3) := by decide +kernel
theorem dX9_machine_32 : decode cX9_machine 32 = .ok (.iload_n 3, 1) := by decide +kernel
theorem dX9_machine_33 : decode cX9_machine 33 = .ok (.bipush 99, 2) := by decide +kernel
theorem dX9_machine_35 : decode cX9_machine 35 = .ok (.if_icmp .le 5, 3) := by decide +kernel
theorem dX9_machine_38 : decode cX9_machine 38 = .ok (.iconst (-1), 1) := by decide +kernel
theorem dX9_machine_39 : decode cX9_machine 39 = .ok (.ireturn, 1) := by decide +kernel
theorem dX9_machine_40 : decode cX9_machine 40 = .ok (.aload_n 0, 1) := by decide +kernel
theorem dX9_machine_41 : decode cX9_machine 41 = .ok (.getfield 86, 3) := by decide +kernel
theorem dX9_machine_44 : decode cX9_machine 44 = .ok (.aload_n 0, 1) := by decide +kernel
theorem dX9_machine_45 : decode cX9_machine 45 = .ok (.getfield 317, 3) := by decide +kernel
theorem dX9_machine_48 : decode cX9_machine 48 = .ok (.iload_n 1, 1) := by decide +kernel
theorem dX9_machine_49 : decode cX9_machine 49 = .ok (.iastore, 1) := by decide +kernel
theorem dX9_machine_50 : decode cX9_machine 50 = .ok (.aload_n 0, 1) := by decide +kernel
theorem dX9_machine_51 : decode cX9_machine 51 = .ok (.getfield 89, 3) := by decide +kernel
theorem dX9_machine_54 : decode cX9_machine 54 = .ok (.aload_n 0, 1) := by decide +kernel
theorem dX9_machine_55 : decode cX9_machine 55 = .ok (.getfield 317, 3) := by decide +kernel
theorem dX9_machine_58 : decode cX9_machine 58 = .ok (.iload_n 2, 1) := by decide +kernel
theorem dX9_machine_59 : decode cX9_machine 59 = .ok (.iastore, 1) := by decide +kernel
theorem dX9_machine_60 : decode cX9_machine 60 = .ok (.aload_n 0, 1) := by decide +kernel
theorem dX9_machine_61 : decode cX9_machine 61 = .ok (.getfield 92, 3) := by decide +kernel
theorem dX9_machine_64 : decode cX9_machine 64 = .ok (.aload_n 0, 1) := by decide +kernel
theorem dX9_machine_65 : decode cX9_machine 65 = .ok (.getfield 317, 3) := by decide +kernel
theorem dX9_machine_68 : decode cX9_machine 68 = .ok (.iload_n 3, 1) := by decide +kernel
theorem dX9_machine_69 : decode cX9_machine 69 = .ok (.iastore, 1) := by decide +kernel
theorem dX9_machine_70 : decode cX9_machine 70 = .ok (.aload_n 0, 1) := by decide +kernel
theorem dX9_machine_71 : decode cX9_machine 71 = .ok (.dup, 1) := by decide +kernel
theorem dX9_machine_72 : decode cX9_machine 72 = .ok (.getfield 317, 3) := by decide +kernel
theorem dX9_machine_75 : decode cX9_machine 75 = .ok (.iconst 1, 1) := by decide +kernel
theorem dX9_machine_76 : decode cX9_machine 76 = .ok (.iadd, 1) := by decide +kernel
theorem dX9_machine_77 : decode cX9_machine 77 = .ok (.putfield 317, 3) := by decide +kernel
theorem dX9_machine_80 : decode cX9_machine 80 = .ok (.aload_n 0, 1) := by decide +kernel
theorem dX9_machine_81 : decode cX9_machine 81 = .ok (.iconst 0, 1) := by decide +kernel
theorem dX9_machine_82 : decode cX9_machine 82 = .ok (.putfield 290, 3) := by decide +kernel
theorem dX9_machine_85 : decode cX9_machine 85 = .ok (.aload_n 0, 1) := by decide +kernel
theorem dX9_machine_86 : decode cX9_machine 86 = .ok (.getfield 317, 3) := by decide +kernel
theorem dX9_machine_89 : decode cX9_machine 89 = .ok (.iconst 1, 1) := by decide +kernel
theorem dX9_machine_90 : decode cX9_machine 90 = .ok (.isub, 1) := by decide +kernel
theorem dX9_machine_91 : decode cX9_machine 91 = .ok (.ireturn, 1) := by decide +kernel
theorem dX9_file_0 : decode cX9_file 0 = .ok (.aload_n 0, 1) := by decide +kernel
theorem dX9_file_1 : decode cX9_file 1 = .ok (.getfield 320, 3) := by decide +kernel
theorem dX9_file_4 : decode cX9_file 4 = .ok (.bipush 6, 2) := by decide +kernel
theorem dX9_file_6 : decode cX9_file 6 = .ok (.if_icmp .eq 24, 3) := by decide +kernel
theorem dX9_file_9 : decode cX9_file 9 = .ok (.iload_n 1, 1) := by decide +kernel
theorem dX9_file_10 : decode cX9_file 10 = .ok (.iconst 1, 1) := by decide +kernel
theorem dX9_file_11 : decode cX9_file 11 = .ok (.if_icmp .lt 19, 3) := by decide +kernel
theorem dX9_file_14 : decode cX9_file 14 = .ok (.iload_n 1, 1) := by decide +kernel
theorem dX9_file_15 : decode cX9_file 15 = .ok (.bipush 12, 2) := by decide +kernel
theorem dX9_file_17 : decode cX9_file 17 = .ok (.if_icmp .gt 13, 3) := by decide +kernel
theorem dX9_file_20 : decode cX9_file 20 = .ok (.iload_n 2, 1) := by decide +kernel
theorem dX9_file_21 : decode cX9_file 21 = .ok (.iconst (-1), 1) := by decide +kernel
theorem dX9_file_22 : decode cX9_file 22 = .ok (.if_icmp .lt 8, 3) := by decide +kernel
theorem dX9_file_25 : decode cX9_file 25 = .ok (.iload_n 2, 1) := by decide +kernel
theorem dX9_file_26 : decode cX9_file 26 = .ok (.iconst 5, 1) := by decide +kernel
theorem dX9_file_27 : decode cX9_file 27 = .ok (.if_icmp .le 5, 3) := by decide +kernel
theorem dX9_file_30 : decode cX9_file 30 = .ok (.iconst (-1), 1) := by decide +kernel
theorem dX9_file_31 : decode cX9_file 31 = .ok (.ireturn, 1) := by decide +kernel
theorem dX9_file_32 : decode cX9_file 32 = .ok (.aload_n 0, 1) := by decide +kernel
theorem dX9_file_33 : decode cX9_file 33 = .ok (.getfield 98, 3) := by decide +kernel
theorem dX9_file_36 : decode cX9_file 36 = .ok (.aload_n 0, 1) := by decide +kernel
theorem dX9_file_37 : decode cX9_file 37 = .ok (.getfield 320, 3) := by decide +kernel
theorem dX9_file_40 : decode cX9_file 40 = .ok (.iload_n 1, 1) := by decide +kernel
theorem dX9_file_41 : decode cX9_file 41 = .ok (.iastore, 1) := by decide +kernel
theorem dX9_file_42 : decode cX9_file 42 = .ok (.aload_n 0, 1) := by decide +kernel
theorem dX9_file_43 : decode cX9_file 43 = .ok (.getfield 101, 3) := by decide +kernel
theorem dX9_file_46 : decode cX9_file 46 = .ok (.aload_n 0, 1) := by decide +kernel
theorem dX9_file_47 : decode cX9_file 47 = .ok (.getfield 320, 3) := by decide +kernel
theorem dX9_file_50 : decode cX9_file 50 = .ok (.iload_n 2, 1) := by decide +kernel
theorem dX9_file_51 : decode cX9_file 51 = .ok (.iastore, 1) := by decide +kernel
theorem dX9_file_52 : decode cX9_file 52 = .ok (.aload_n 0, 1) := by decide +kernel
theorem dX9_file_53 : decode cX9_file 53 = .ok (.dup, 1) := by decide +kernel
theorem dX9_file_54 : decode cX9_file 54 = .ok (.getfield 320, 3) := by decide +kernel
theorem dX9_file_57 : decode cX9_file 57 = .ok (.iconst 1, 1) := by decide +kernel
theorem dX9_file_58 : decode cX9_file 58 = .ok (.iadd, 1) := by decide +kernel
theorem dX9_file_59 : decode cX9_file 59 = .ok (.putfield 320, 3) := by decide +kernel
theorem dX9_file_62 : decode cX9_file 62 = .ok (.aload_n 0, 1) := by decide +kernel
theorem dX9_file_63 : decode cX9_file 63 = .ok (.iconst 0, 1) := by decide +kernel
theorem dX9_file_64 : decode cX9_file 64 = .ok (.putfield 290, 3) := by decide +kernel
theorem dX9_file_67 : decode cX9_file 67 = .ok (.aload_n 0, 1) := by decide +kernel
theorem dX9_file_68 : decode cX9_file 68 = .ok (.getfield 320, 3) := by decide +kernel
theorem dX9_file_71 : decode cX9_file 71 = .ok (.iconst 1, 1) := by decide +kernel
theorem dX9_file_72 : decode cX9_file 72 = .ok (.isub, 1) := by decide +kernel
theorem dX9_file_73 : decode cX9_file 73 = .ok (.ireturn, 1) := by decide +kernel
theorem dX9_width_0 : decode cX9_width 0 = .ok (.iload_n 1, 1) := by decide +kernel
theorem dX9_width_1 : decode cX9_width 1 = .ok (.iconst 1, 1) := by decide +kernel
theorem dX9_width_2 : decode cX9_width 2 = .ok (.if_icmp .lt 9, 3) := by decide +kernel
theorem dX9_width_5 : decode cX9_width 5 = .ok (.iload_n 1, 1) := by decide +kernel
theorem dX9_width_6 : decode cX9_width 6 = .ok (.bipush 8, 2) := by decide +kernel
theorem dX9_width_8 : decode cX9_width 8 = .ok (.if_icmp .le 5, 3) := by decide +kernel
theorem dX9_width_11 : decode cX9_width 11 = .ok (.iconst 0, 1) := by decide +kernel
theorem dX9_width_12 : decode cX9_width 12 = .ok (.ireturn, 1) := by decide +kernel
theorem dX9_width_13 : decode cX9_width 13 = .ok (.aload_n 0, 1) := by decide +kernel
theorem dX9_width_14 : decode cX9_width 14 = .ok (.iload_n 1, 1) := by decide +kernel
theorem dX9_width_15 : decode cX9_width 15 = .ok (.putfield 210, 3) := by decide +kernel
theorem dX9_width_18 : decode cX9_width 18 = .ok (.aload_n 0, 1) := by decide +kernel
theorem dX9_width_19 : decode cX9_width 19 = .ok (.iconst 0, 1) := by decide +kernel
theorem dX9_width_20 : decode cX9_width 20 = .ok (.putfield 290, 3) := by decide +kernel
theorem dX9_width_23 : decode cX9_width 23 = .ok (.iconst 1, 1) := by decide +kernel
theorem dX9_width_24 : decode cX9_width 24 = .ok (.ireturn, 1) := by decide +kernel
theorem dX9_wake_0 : decode cX9_wake 0 = .ok (.iload_n 1, 1) := by decide +kernel
theorem dX9_wake_1 : decode cX9_wake 1 = .ok (.ifCond .lt 15, 3) := by decide +kernel
theorem dX9_wake_4 : decode cX9_wake 4 = .ok (.iload_n 1, 1) := by decide +kernel
theorem dX9_wake_5 : decode cX9_wake 5 = .ok (.iconst 3, 1) := by decide +kernel
theorem dX9_wake_6 : decode cX9_wake 6 = .ok (.if_icmp .gt 10, 3) := by decide +kernel
theorem dX9_wake_9 : decode cX9_wake 9 = .ok (.iload_n 2, 1) := by decide +kernel
theorem dX9_wake_10 : decode cX9_wake 10 = .ok (.invokestatic 323, 3) := by decide +kernel
theorem dX9_wake_13 : decode cX9_wake 13 = .ok (.ifCond .ne 5, 3) := by decide +kernel
theorem dX9_wake_16 : decode cX9_wake 16 = .ok (.iconst 0, 1) := by decide +kernel
theorem dX9_wake_17 : decode cX9_wake 17 = .ok (.ireturn, 1) := by decide +kernel
theorem dX9_wake_18 : decode cX9_wake 18 = .ok (.aload_n 0, 1) := by decide +kernel
theorem dX9_wake_19 : decode cX9_wake 19 = .ok (.getfield 95, 3) := by decide +kernel
theorem dX9_wake_22 : decode cX9_wake 22 = .ok (.iload_n 1, 1) := by decide +kernel
theorem dX9_wake_23 : decode cX9_wake 23 = .ok (.iload_n 2, 1) := by decide +kernel
theorem dX9_wake_24 : decode cX9_wake 24 = .ok (.iastore, 1) := by decide +kernel
theorem dX9_wake_25 : decode cX9_wake 25 = .ok (.aload_n 0, 1) := by decide +kernel
theorem dX9_wake_26 : decode cX9_wake 26 = .ok (.iconst 0, 1) := by decide +kernel
theorem dX9_wake_27 : decode cX9_wake 27 = .ok (.putfield 290, 3) := by decide +kernel
theorem dX9_wake_30 : decode cX9_wake 30 = .ok (.iconst 1, 1) := by decide +kernel
theorem dX9_wake_31 : decode cX9_wake 31 = .ok (.ireturn, 1) := by decide +kernel
theorem dX9_fact_0 : decode cX9_fact 0 = .ok (.aload_n 0, 1) := by decide +kernel
theorem dX9_fact_1 : decode cX9_fact 1 = .ok (.dup, 1) := by decide +kernel
theorem dX9_fact_2 : decode cX9_fact 2 = .ok (.getfield 326, 3) := by decide +kernel
theorem dX9_fact_5 : decode cX9_fact 5 = .ok (.iconst 1, 1) := by decide +kernel
theorem dX9_fact_6 : decode cX9_fact 6 = .ok (.iadd, 1) := by decide +kernel
theorem dX9_fact_7 : decode cX9_fact 7 = .ok (.putfield 326, 3) := by decide +kernel
theorem dX9_fact_10 : decode cX9_fact 10 = .ok (.aload_n 0, 1) := by decide +kernel
theorem dX9_fact_11 : decode cX9_fact 11 = .ok (.iconst 0, 1) := by decide +kernel
theorem dX9_fact_12 : decode cX9_fact 12 = .ok (.putfield 290, 3) := by decide +kernel
theorem dX9_fact_15 : decode cX9_fact 15 = .ok (.aload_n 0, 1) := by decide +kernel
theorem dX9_fact_16 : decode cX9_fact 16 = .ok (.getfield 326, 3) := by decide +kernel
theorem dX9_fact_19 : decode cX9_fact 19 = .ok (.iconst 1, 1) := by decide +kernel
theorem dX9_fact_20 : decode cX9_fact 20 = .ok (.isub, 1) := by decide +kernel
theorem dX9_fact_21 : decode cX9_fact 21 = .ok (.ireturn, 1) := by decide +kernel
theorem dX9_lose_0 : decode cX9_lose 0 = .ok (.aload_n 0, 1) := by decide +kernel
theorem dX9_lose_1 : decode cX9_lose 1 = .ok (.getfield 326, 3) := by decide +kernel
theorem dX9_lose_4 : decode cX9_lose 4 = .ok (.sipush 200, 3) := by decide +kernel
theorem dX9_lose_7 : decode cX9_lose 7 = .ok (.if_icmp .eq 18, 3) := by decide +kernel
theorem dX9_lose_10 : decode cX9_lose 10 = .ok (.aload_n 0, 1) := by decide +kernel
theorem dX9_lose_11 : decode cX9_lose 11 = .ok (.iload_n 1, 1) := by decide +kernel
theorem dX9_lose_12 : decode cX9_lose 12 = .ok (.invokevirtual 329, 3) := by decide +kernel
theorem dX9_lose_15 : decode cX9_lose 15 = .ok (.ifCond .eq 10, 3) := by decide +kernel
theorem dX9_lose_18 : decode cX9_lose 18 = .ok (.iload_n 2, 1) := by decide +kernel
theorem dX9_lose_19 : decode cX9_lose 19 = .ok (.invokestatic 323, 3) := by decide +kernel
theorem dX9_lose_22 : decode cX9_lose 22 = .ok (.ifCond .ne 5, 3) := by decide +kernel
theorem dX9_lose_25 : decode cX9_lose 25 = .ok (.iconst (-1), 1) := by decide +kernel
theorem dX9_lose_26 : decode cX9_lose 26 = .ok (.ireturn, 1) := by decide +kernel
theorem dX9_lose_27 : decode cX9_lose 27 = .ok (.aload_n 0, 1) := by decide +kernel
theorem dX9_lose_28 : decode cX9_lose 28 = .ok (.getfield 104, 3) := by decide +kernel
theorem dX9_lose_31 : decode cX9_lose 31 = .ok (.sipush 300, 3) := by decide +kernel
theorem dX9_lose_34 : decode cX9_lose 34 = .ok (.iload_n 1, 1) := by decide +kernel
theorem dX9_lose_35 : decode cX9_lose 35 = .ok (.imul, 1) := by decide +kernel
theorem dX9_lose_36 : decode cX9_lose 36 = .ok (.iload_n 2, 1) := by decide +kernel
theorem dX9_lose_37 : decode cX9_lose 37 = .ok (.iadd, 1) := by decide +kernel
theorem dX9_lose_38 : decode cX9_lose 38 = .ok (.iconst 1, 1) := by decide +kernel
theorem dX9_lose_39 : decode cX9_lose 39 = .ok (.bastore, 1) := by decide +kernel
theorem dX9_lose_40 : decode cX9_lose 40 = .ok (.aload_n 0, 1) := by decide +kernel
theorem dX9_lose_41 : decode cX9_lose 41 = .ok (.invokevirtual 332, 3) := by decide +kernel
theorem dX9_lose_44 : decode cX9_lose 44 = .ok (.ireturn, 1) := by decide +kernel
theorem dX9_spoil_0 : decode cX9_spoil 0 = .ok (.aload_n 0, 1) := by decide +kernel
theorem dX9_spoil_1 : decode cX9_spoil 1 = .ok (.getfield 326, 3) := by decide +kernel
theorem dX9_spoil_4 : decode cX9_spoil 4 = .ok (.sipush 200, 3) := by decide +kernel
theorem dX9_spoil_7 : decode cX9_spoil 7 = .ok (.if_icmp .eq 32, 3) := by decide +kernel
theorem dX9_spoil_10 : decode cX9_spoil 10 = .ok (.aload_n 0, 1) := by decide +kernel
theorem dX9_spoil_11 : decode cX9_spoil 11 = .ok (.iload_n 1, 1) := by decide +kernel
theorem dX9_spoil_12 : decode cX9_spoil 12 = .ok (.invokevirtual 336, 3) := by decide +kernel
theorem dX9_spoil_15 : decode cX9_spoil 15 = .ok (.ifCond .eq 24, 3) := by decide +kernel
theorem dX9_spoil_18 : decode cX9_spoil 18 = .ok (.iload_n 2, 1) := by decide +kernel
theorem dX9_spoil_19 : decode cX9_spoil 19 = .ok (.ifCond .lt 20, 3) := by decide +kernel
theorem dX9_spoil_22 : decode cX9_spoil 22 = .ok (.iload_n 2, 1) := by decide +kernel
theorem dX9_spoil_23 : decode cX9_spoil 23 = .ok (.aload_n 0, 1) := by decide +kernel
theorem dX9_spoil_24 : decode cX9_spoil 24 = .ok (.getfield 98, 3) := by decide +kernel
theorem dX9_spoil_27 : decode cX9_spoil 27 = .ok (.iload_n 1, 1) := by decide +kernel
theorem dX9_spoil_28 : decode cX9_spoil 28 = .ok (.iaload, 1) := by decide +kernel
theorem dX9_spoil_29 : decode cX9_spoil 29 = .ok (.if_icmp .ge 10, 3) := by decide +kernel
theorem dX9_spoil_32 : decode cX9_spoil 32 = .ok (.iload_n 3, 1) := by decide +kernel
theorem dX9_spoil_33 : decode cX9_spoil 33 = .ok (.invokestatic 323, 3) := by decide +kernel
theorem dX9_spoil_36 : decode cX9_spoil 36 = .ok (.ifCond .ne 5, 3) := by decide +kernel
theorem dX9_spoil_39 : decode cX9_spoil 39 = .ok (.iconst (-1), 1) := by decide +kernel
theorem dX9_spoil_40 : decode cX9_spoil 40 = .ok (.ireturn, 1) := by decide +kernel
theorem dX9_spoil_41 : decode cX9_spoil 41 = .ok (.aload_n 0, 1) := by decide +kernel
theorem dX9_spoil_42 : decode cX9_spoil 42 = .ok (.getfield 113, 3) := by decide +kernel
theorem dX9_spoil_45 : decode cX9_spoil 45 = .ok (.sipush 300, 3) := by decide +kernel
theorem dX9_spoil_48 : decode cX9_spoil 48 = .ok (.bipush 12, 2) := by decide +kernel
theorem dX9_spoil_50 : decode cX9_spoil 50 = .ok (.iload_n 1, 1) := by decide +kernel
theorem dX9_spoil_51 : decode cX9_spoil 51 = .ok (.imul, 1) := by decide +kernel
theorem dX9_spoil_52 : decode cX9_spoil 52 = .ok (.iload_n 2, 1) := by decide +kernel
theorem dX9_spoil_53 : decode cX9_spoil 53 = .ok (.iadd, 1) := by decide +kernel
theorem dX9_spoil_54 : decode cX9_spoil 54 = .ok (.imul, 1) := by decide +kernel
theorem dX9_spoil_55 : decode cX9_spoil 55 = .ok (.iload_n 3, 1) := by decide +kernel
theorem dX9_spoil_56 : decode cX9_spoil 56 = .ok (.iadd, 1) := by decide +kernel
theorem dX9_spoil_57 : decode cX9_spoil 57 = .ok (.iconst 1, 1) := by decide +kernel
theorem dX9_spoil_58 : decode cX9_spoil 58 = .ok (.bastore, 1) := by decide +kernel
theorem dX9_spoil_59 : decode cX9_spoil 59 = .ok (.aload_n 0, 1) := by decide +kernel
theorem dX9_spoil_60 : decode cX9_spoil 60 = .ok (.invokevirtual 332, 3) := by decide +kernel
theorem dX9_spoil_63 : decode cX9_spoil 63 = .ok (.ireturn, 1) := by decide +kernel
theorem dX9_down_0 : decode cX9_down 0 = .ok (.aload_n 0, 1) := by decide +kernel
theorem dX9_down_1 : decode cX9_down 1 = .ok (.getfield 326, 3) := by decide +kernel
theorem dX9_down_4 : decode cX9_down 4 = .ok (.sipush 200, 3) := by decide +kernel
theorem dX9_down_7 : decode cX9_down 7 = .ok (.if_icmp .eq 28, 3) := by decide +kernel
theorem dX9_down_10 : decode cX9_down 10 = .ok (.iload_n 1, 1) := by decide +kernel
theorem dX9_down_11 : decode cX9_down 11 = .ok (.ifCond .lt 24, 3) := by decide +kernel
theorem dX9_down_14 : decode cX9_down 14 = .ok (.iload_n 1, 1) := by decide +kernel
theorem dX9_down_15 : decode cX9_down 15 = .ok (.iconst 1, 1) := by decide +kernel
theorem dX9_down_16 : decode cX9_down 16 = .ok (.if_icmp .gt 19, 3) := by decide +kernel
theorem dX9_down_19 : decode cX9_down 19 = .ok (.iload_n 2, 1) := by decide +kernel
theorem dX9_down_20 : decode cX9_down 20 = .ok (.ifCond .lt 15, 3) := by decide +kernel
theorem dX9_down_23 : decode cX9_down 23 = .ok (.iload_n 2, 1) := by decide +kernel
theorem dX9_down_24 : decode cX9_down 24 = .ok (.iload_n 3, 1) := by decide +kernel
theorem dX9_down_25 : decode cX9_down 25 = .ok (.if_icmp .ge 10, 3) := by decide +kernel
theorem dX9_down_28 : decode cX9_down 28 = .ok (.iload_n 3, 1) := by decide +kernel
theorem dX9_down_29 : decode cX9_down 29 = .ok (.sipush 300, 3) := by decide +kernel
theorem dX9_down_32 : decode cX9_down 32 = .ok (.if_icmp .le 5, 3) := by decide +kernel
theorem dX9_down_35 : decode cX9_down 35 = .ok (.iconst (-1), 1) := by decide +kernel
theorem dX9_down_36 : decode cX9_down 36 = .ok (.ireturn, 1) := by decide +kernel
theorem dX9_down_37 : decode cX9_down 37 = .ok (.iload_n 2, 1) := by decide +kernel
theorem dX9_down_38 : decode cX9_down 38 = .ok (.istore 4, 2) := by decide +kernel
theorem dX9_down_40 : decode cX9_down 40 = .ok (.iload 4, 2) := by decide +kernel
theorem dX9_down_42 : decode cX9_down 42 = .ok (.iload_n 3, 1) := by decide +kernel
theorem dX9_down_43 : decode cX9_down 43 = .ok (.if_icmp .ge 23, 3) := by decide +kernel
theorem dX9_down_46 : decode cX9_down 46 = .ok (.aload_n 0, 1) := by decide +kernel
theorem dX9_down_47 : decode cX9_down 47 = .ok (.getfield 110, 3) := by decide +kernel
theorem dX9_down_50 : decode cX9_down 50 = .ok (.sipush 300, 3) := by decide +kernel
theorem dX9_down_53 : decode cX9_down 53 = .ok (.iload_n 1, 1) := by decide +kernel
theorem dX9_down_54 : decode cX9_down 54 = .ok (.imul, 1) := by decide +kernel
theorem dX9_down_55 : decode cX9_down 55 = .ok (.iload 4, 2) := by decide +kernel
theorem dX9_down_57 : decode cX9_down 57 = .ok (.iadd, 1) := by decide +kernel
theorem dX9_down_58 : decode cX9_down 58 = .ok (.iconst 1, 1) := by decide +kernel
theorem dX9_down_59 : decode cX9_down 59 = .ok (.bastore, 1) := by decide +kernel
theorem dX9_down_60 : decode cX9_down 60 = .ok (.iinc 4 1, 3) := by decide +kernel
theorem dX9_down_63 : decode cX9_down 63 = .ok (.goto (-23), 3) := by decide +kernel
theorem dX9_down_66 : decode cX9_down 66 = .ok (.aload_n 0, 1) := by decide +kernel
theorem dX9_down_67 : decode cX9_down 67 = .ok (.invokevirtual 332, 3) := by decide +kernel
theorem dX9_down_70 : decode cX9_down 70 = .ok (.ireturn, 1) := by decide +kernel
theorem dX9_cut__0 : decode cX9_cut_ 0 = .ok (.aload_n 0, 1) := by decide +kernel
theorem dX9_cut__1 : decode cX9_cut_ 1 = .ok (.getfield 326, 3) := by decide +kernel
theorem dX9_cut__4 : decode cX9_cut_ 4 = .ok (.sipush 200, 3) := by decide +kernel
theorem dX9_cut__7 : decode cX9_cut_ 7 = .ok (.if_icmp .eq 18, 3) := by decide +kernel
theorem dX9_cut__10 : decode cX9_cut_ 10 = .ok (.aload_n 0, 1) := by decide +kernel
theorem dX9_cut__11 : decode cX9_cut_ 11 = .ok (.iload_n 1, 1) := by decide +kernel
theorem dX9_cut__12 : decode cX9_cut_ 12 = .ok (.invokevirtual 329, 3) := by decide +kernel
theorem dX9_cut__15 : decode cX9_cut_ 15 = .ok (.ifCond .eq 10, 3) := by decide +kernel
theorem dX9_cut__18 : decode cX9_cut_ 18 = .ok (.iload_n 2, 1) := by decide +kernel
theorem dX9_cut__19 : decode cX9_cut_ 19 = .ok (.invokestatic 323, 3) := by decide +kernel
theorem dX9_cut__22 : decode cX9_cut_ 22 = .ok (.ifCond .ne 5, 3) := by decide +kernel
theorem dX9_cut__25 : decode cX9_cut_ 25 = .ok (.iconst (-1), 1) := by decide +kernel
theorem dX9_cut__26 : decode cX9_cut_ 26 = .ok (.ireturn, 1) := by decide +kernel
theorem dX9_cut__27 : decode cX9_cut_ 27 = .ok (.aload_n 0, 1) := by decide +kernel
theorem dX9_cut__28 : decode cX9_cut_ 28 = .ok (.getfield 107, 3) := by decide +kernel
theorem dX9_cut__31 : decode cX9_cut_ 31 = .ok (.sipush 300, 3) := by decide +kernel
theorem dX9_cut__34 : decode cX9_cut_ 34 = .ok (.iload_n 1, 1) := by decide +kernel
theorem dX9_cut__35 : decode cX9_cut_ 35 = .ok (.imul, 1) := by decide +kernel
theorem dX9_cut__36 : decode cX9_cut_ 36 = .ok (.iload_n 2, 1) := by decide +kernel
theorem dX9_cut__37 : decode cX9_cut_ 37 = .ok (.iadd, 1) := by decide +kernel
theorem dX9_cut__38 : decode cX9_cut_ 38 = .ok (.iconst 1, 1) := by decide +kernel
theorem dX9_cut__39 : decode cX9_cut_ 39 = .ok (.bastore, 1) := by decide +kernel
theorem dX9_cut__40 : decode cX9_cut_ 40 = .ok (.aload_n 0, 1) := by decide +kernel
theorem dX9_cut__41 : decode cX9_cut_ 41 = .ok (.invokevirtual 332, 3) := by decide +kernel
theorem dX9_cut__44 : decode cX9_cut_ 44 = .ok (.ireturn, 1) := by decide +kernel
theorem dX9_asks_0 : decode cX9_asks 0 = .ok (.aload_n 0, 1) := by decide +kernel
theorem dX9_asks_1 : decode cX9_asks 1 = .ok (.getfield 116, 3) := by decide +kernel
theorem dX9_asks_4 : decode cX9_asks 4 = .ok (.iconst 0, 1) := by decide +kernel
theorem dX9_asks_5 : decode cX9_asks 5 = .ok (.aload_n 0, 1) := by decide +kernel
theorem dX9_asks_6 : decode cX9_asks 6 = .ok (.getfield 86, 3) := by decide +kernel
theorem dX9_asks_9 : decode cX9_asks 9 = .ok (.iload_n 1, 1) := by decide +kernel
theorem dX9_asks_10 : decode cX9_asks 10 = .ok (.iaload, 1) := by decide +kernel
theorem dX9_asks_11 : decode cX9_asks 11 = .ok (.iastore, 1) := by decide +kernel
theorem dX9_asks_12 : decode cX9_asks 12 = .ok (.aload_n 0, 1) := by decide +kernel
theorem dX9_asks_13 : decode cX9_asks 13 = .ok (.getfield 116, 3) := by decide +kernel
theorem dX9_asks_16 : decode cX9_asks 16 = .ok (.iconst 1, 1) := by decide +kernel
theorem dX9_asks_17 : decode cX9_asks 17 = .ok (.aload_n 0, 1) := by decide +kernel
theorem dX9_asks_18 : decode cX9_asks 18 = .ok (.getfield 89, 3) := by decide +kernel
theorem dX9_asks_21 : decode cX9_asks 21 = .ok (.iload_n 1, 1) := by decide +kernel
theorem dX9_asks_22 : decode cX9_asks 22 = .ok (.iaload, 1) := by decide +kernel
theorem dX9_asks_23 : decode cX9_asks 23 = .ok (.iastore, 1) := by decide +kernel
theorem dX9_asks_24 : decode cX9_asks 24 = .ok (.aload_n 0, 1) := by decide +kernel
theorem dX9_asks_25 : decode cX9_asks 25 = .ok (.getfield 116, 3) := by decide +kernel
theorem dX9_asks_28 : decode cX9_asks 28 = .ok (.iconst 2, 1) := by decide +kernel
theorem dX9_asks_29 : decode cX9_asks 29 = .ok (.aload_n 0, 1) := by decide +kernel
theorem dX9_asks_30 : decode cX9_asks 30 = .ok (.getfield 92, 3) := by decide +kernel
theorem dX9_asks_33 : decode cX9_asks 33 = .ok (.iload_n 1, 1) := by decide +kernel
theorem dX9_asks_34 : decode cX9_asks 34 = .ok (.iaload, 1) := by decide +kernel
theorem dX9_asks_35 : decode cX9_asks 35 = .ok (.iastore, 1) := by decide +kernel
theorem dX9_asks_36 : decode cX9_asks 36 = .ok (.aload_n 0, 1) := by decide +kernel
theorem dX9_asks_37 : decode cX9_asks 37 = .ok (.getfield 116, 3) := by decide +kernel
theorem dX9_asks_40 : decode cX9_asks 40 = .ok (.iconst 3, 1) := by decide +kernel
theorem dX9_asks_41 : decode cX9_asks 41 = .ok (.iload_n 2, 1) := by decide +kernel
theorem dX9_asks_42 : decode cX9_asks 42 = .ok (.iastore, 1) := by decide +kernel
theorem dX9_asks_43 : decode cX9_asks 43 = .ok (.aload_n 0, 1) := by decide +kernel
theorem dX9_asks_44 : decode cX9_asks 44 = .ok (.getfield 116, 3) := by decide +kernel
theorem dX9_asks_47 : decode cX9_asks 47 = .ok (.iconst 4, 1) := by decide +kernel
theorem dX9_asks_48 : decode cX9_asks 48 = .ok (.iload_n 3, 1) := by decide +kernel
theorem dX9_asks_49 : decode cX9_asks 49 = .ok (.iastore, 1) := by decide +kernel
theorem dX9_asks_50 : decode cX9_asks 50 = .ok (.aload_n 0, 1) := by decide +kernel
theorem dX9_asks_51 : decode cX9_asks 51 = .ok (.getfield 116, 3) := by decide +kernel
theorem dX9_asks_54 : decode cX9_asks 54 = .ok (.iconst 5, 1) := by decide +kernel
theorem dX9_asks_55 : decode cX9_asks 55 = .ok (.iload 4, 2) := by decide +kernel
theorem dX9_asks_57 : decode cX9_asks 57 = .ok (.iastore, 1) := by decide +kernel
theorem dX9_asks_58 : decode cX9_asks 58 = .ok (.aload_n 0, 1) := by decide +kernel
theorem dX9_asks_59 : decode cX9_asks 59 = .ok (.getfield 116, 3) := by decide +kernel
theorem dX9_asks_62 : decode cX9_asks 62 = .ok (.bipush 6, 2) := by decide +kernel
theorem dX9_asks_64 : decode cX9_asks 64 = .ok (.iload 5, 2) := by decide +kernel
theorem dX9_asks_66 : decode cX9_asks 66 = .ok (.iastore, 1) := by decide +kernel
theorem dX9_asks_67 : decode cX9_asks 67 = .ok (.return_, 1) := by decide +kernel
theorem dX9_value_0 : decode cX9_value 0 = .ok (.iconst 0, 1) := by decide +kernel
theorem dX9_value_1 : decode cX9_value 1 = .ok (.istore_n 3, 1) := by decide +kernel
theorem dX9_value_2 : decode cX9_value 2 = .ok (.iload_n 1, 1) := by decide +kernel
theorem dX9_value_3 : decode cX9_value 3 = .ok (.istore 4, 2) := by decide +kernel
theorem dX9_value_5 : decode cX9_value 5 = .ok (.iload 4, 2) := by decide +kernel
theorem dX9_value_7 : decode cX9_value 7 = .ok (.iload_n 2, 1) := by decide +kernel
theorem dX9_value_8 : decode cX9_value 8 = .ok (.if_icmp .ge 136, 3) := by decide +kernel
theorem dX9_value_11 : decode cX9_value 11 = .ok (.aload_n 0, 1) := by decide +kernel
theorem dX9_value_12 : decode cX9_value 12 = .ok (.getfield 77, 3) := by decide +kernel
theorem dX9_value_15 : decode cX9_value 15 = .ok (.iload 4, 2) := by decide +kernel
theorem dX9_value_17 : decode cX9_value 17 = .ok (.iaload, 1) := by decide +kernel
theorem dX9_value_18 : decode cX9_value 18 = .ok (.iconst 2, 1) := by decide +kernel
theorem dX9_value_19 : decode cX9_value 19 = .ok (.if_icmp .ge 47, 3) := by decide +kernel
theorem dX9_value_22 : decode cX9_value 22 = .ok (.aload_n 0, 1) := by decide +kernel
theorem dX9_value_23 : decode cX9_value 23 = .ok (.getfield 119, 3) := by decide +kernel
theorem dX9_value_26 : decode cX9_value 26 = .ok (.iload_n 3, 1) := by decide +kernel
theorem dX9_value_27 : decode cX9_value 27 = .ok (.aload_n 0, 1) := by decide +kernel
theorem dX9_value_28 : decode cX9_value 28 = .ok (.getfield 77, 3) := by decide +kernel
theorem dX9_value_31 : decode cX9_value 31 = .ok (.iload 4, 2) := by decide +kernel
theorem dX9_value_33 : decode cX9_value 33 = .ok (.iaload, 1) := by decide +kernel
theorem dX9_value_34 : decode cX9_value 34 = .ok (.ifCond .ne 13, 3) := by decide +kernel
theorem dX9_value_37 : decode cX9_value 37 = .ok (.aload_n 0, 1) := by decide +kernel
theorem dX9_value_38 : decode cX9_value 38 = .ok (.getfield 80, 3) := by decide +kernel
theorem dX9_value_41 : decode cX9_value 41 = .ok (.iload 4, 2) := by decide +kernel
theorem dX9_value_43 : decode cX9_value 43 = .ok (.iaload, 1) := by decide +kernel
theorem dX9_value_44 : decode cX9_value 44 = .ok (.goto 15, 3) := by decide +kernel
theorem dX9_value_47 : decode cX9_value 47 = .ok (.aload_n 0, 1) := by decide +kernel
theorem dX9_value_48 : decode cX9_value 48 = .ok (.getfield 116, 3) := by decide +kernel
theorem dX9_value_51 : decode cX9_value 51 = .ok (.aload_n 0, 1) := by decide +kernel
theorem dX9_value_52 : decode cX9_value 52 = .ok (.getfield 80, 3) := by decide +kernel
theorem dX9_value_55 : decode cX9_value 55 = .ok (.iload 4, 2) := by decide +kernel
theorem dX9_value_57 : decode cX9_value 57 = .ok (.iaload, 1) := by decide +kernel
theorem dX9_value_58 : decode cX9_value 58 = .ok (.iaload, 1) := by decide +kernel
theorem dX9_value_59 : decode cX9_value 59 = .ok (.iastore, 1) := by decide +kernel
theorem dX9_value_60 : decode cX9_value 60 = .ok (.iinc 3 1, 3) := by decide +kernel
theorem dX9_value_63 : decode cX9_value 63 = .ok (.goto 75, 3) := by decide +kernel
theorem dX9_value_66 : decode cX9_value 66 = .ok (.iinc 3 (-1), 3) := by decide +kernel
theorem dX9_value_69 : decode cX9_value 69 = .ok (.aload_n 0, 1) := by decide +kernel
theorem dX9_value_70 : decode cX9_value 70 = .ok (.getfield 119, 3) := by decide +kernel
theorem dX9_value_73 : decode cX9_value 73 = .ok (.iload_n 3, 1) := by decide +kernel
theorem dX9_value_74 : decode cX9_value 74 = .ok (.iconst 1, 1) := by decide +kernel
theorem dX9_value_75 : decode cX9_value 75 = .ok (.isub, 1) := by decide +kernel
theorem dX9_value_76 : decode cX9_value 76 = .ok (.iaload, 1) := by decide +kernel
theorem dX9_value_77 : decode cX9_value 77 = .ok (.istore 5, 2) := by decide +kernel
theorem dX9_value_79 : decode cX9_value 79 = .ok (.aload_n 0, 1) := by decide +kernel
theorem dX9_value_80 : decode cX9_value 80 = .ok (.getfield 119, 3) := by decide +kernel
theorem dX9_value_83 : decode cX9_value 83 = .ok (.iload_n 3, 1) := by decide +kernel
theorem dX9_value_84 : decode cX9_value 84 = .ok (.iaload, 1) := by decide +kernel
theorem dX9_value_85 : decode cX9_value 85 = .ok (.istore 6, 2) := by decide +kernel
theorem dX9_value_87 : decode cX9_value 87 = .ok (.aload_n 0, 1) := by decide +kernel
theorem dX9_value_88 : decode cX9_value 88 = .ok (.getfield 119, 3) := by decide +kernel
theorem dX9_value_91 : decode cX9_value 91 = .ok (.iload_n 3, 1) := by decide +kernel
theorem dX9_value_92 : decode cX9_value 92 = .ok (.iconst 1, 1) := by decide +kernel
theorem dX9_value_93 : decode cX9_value 93 = .ok (.isub, 1) := by decide +kernel
theorem dX9_value_94 : decode cX9_value 94 = .ok (.aload_n 0, 1) := by decide +kernel
theorem dX9_value_95 : decode cX9_value 95 = .ok (.getfield 77, 3) := by decide +kernel
theorem dX9_value_98 : decode cX9_value 98 = .ok (.iload 4, 2) := by decide +kernel
theorem dX9_value_100 : decode cX9_value 100 = .ok (.iaload, 1) := by decide +kernel
theorem dX9_value_101 : decode cX9_value 101 = .ok (.iconst 2, 1) := by decide +kernel
theorem dX9_value_102 : decode cX9_value 102 = .ok (.if_icmp .ne 11, 3) := by decide +kernel
theorem dX9_value_105 : decode cX9_value 105 = .ok (.iload 5, 2) := by decide +kernel
theorem dX9_value_107 : decode cX9_value 107 = .ok (.iload 6, 2) := by decide +kernel
theorem dX9_value_109 : decode cX9_value 109 = .ok (.iadd, 1) := by decide +kernel
theorem dX9_value_110 : decode cX9_value 110 = .ok (.goto 27, 3) := by decide +kernel
theorem dX9_value_113 : decode cX9_value 113 = .ok (.aload_n 0, 1) := by decide +kernel
theorem dX9_value_114 : decode cX9_value 114 = .ok (.getfield 77, 3) := by decide +kernel
theorem dX9_value_117 : decode cX9_value 117 = .ok (.iload 4, 2) := by decide +kernel
theorem dX9_value_119 : decode cX9_value 119 = .ok (.iaload, 1) := by decide +kernel
theorem dX9_value_120 : decode cX9_value 120 = .ok (.iconst 3, 1) := by decide +kernel
theorem dX9_value_121 : decode cX9_value 121 = .ok (.if_icmp .ne 11, 3) := by decide +kernel
theorem dX9_value_124 : decode cX9_value 124 = .ok (.iload 5, 2) := by decide +kernel
theorem dX9_value_126 : decode cX9_value 126 = .ok (.iload 6, 2) := by decide +kernel
theorem dX9_value_128 : decode cX9_value 128 = .ok (.isub, 1) := by decide +kernel
theorem dX9_value_129 : decode cX9_value 129 = .ok (.goto 8, 3) := by decide +kernel
theorem dX9_value_132 : decode cX9_value 132 = .ok (.iload 5, 2) := by decide +kernel
theorem dX9_value_134 : decode cX9_value 134 = .ok (.iload 6, 2) := by decide +kernel
theorem dX9_value_136 : decode cX9_value 136 = .ok (.imul, 1) := by decide +kernel
theorem dX9_value_137 : decode cX9_value 137 = .ok (.iastore, 1) := by decide +kernel
theorem dX9_value_138 : decode cX9_value 138 = .ok (.iinc 4 1, 3) := by decide +kernel
theorem dX9_value_141 : decode cX9_value 141 = .ok (.goto (-136), 3) := by decide +kernel
theorem dX9_value_144 : decode cX9_value 144 = .ok (.aload_n 0, 1) := by decide +kernel
theorem dX9_value_145 : decode cX9_value 145 = .ok (.getfield 119, 3) := by decide +kernel
theorem dX9_value_148 : decode cX9_value 148 = .ok (.iconst 0, 1) := by decide +kernel
theorem dX9_value_149 : decode cX9_value 149 = .ok (.iaload, 1) := by decide +kernel
theorem dX9_value_150 : decode cX9_value 150 = .ok (.ireturn, 1) := by decide +kernel
theorem dX9_holds_0 : decode cX9_holds 0 = .ok (.aload_n 0, 1) := by decide +kernel
theorem dX9_holds_1 : decode cX9_holds 1 = .ok (.getfield 52, 3) := by decide +kernel
theorem dX9_holds_4 : decode cX9_holds 4 = .ok (.iload_n 1, 1) := by decide +kernel
theorem dX9_holds_5 : decode cX9_holds 5 = .ok (.iaload, 1) := by decide +kernel
theorem dX9_holds_6 : decode cX9_holds 6 = .ok (.aload_n 0, 1) := by decide +kernel
theorem dX9_holds_7 : decode cX9_holds 7 = .ok (.getfield 55, 3) := by decide +kernel
theorem dX9_holds_10 : decode cX9_holds 10 = .ok (.iload_n 1, 1) := by decide +kernel
theorem dX9_holds_11 : decode cX9_holds 11 = .ok (.iaload, 1) := by decide +kernel
theorem dX9_holds_12 : decode cX9_holds 12 = .ok (.if_icmp .ne 5, 3) := by decide +kernel
theorem dX9_holds_15 : decode cX9_holds 15 = .ok (.iconst 1, 1) := by decide +kernel
theorem dX9_holds_16 : decode cX9_holds 16 = .ok (.ireturn, 1) := by decide +kernel
theorem dX9_holds_17 : decode cX9_holds 17 = .ok (.iconst 0, 1) := by decide +kernel
theorem dX9_holds_18 : decode cX9_holds 18 = .ok (.istore_n 3, 1) := by decide +kernel
theorem dX9_holds_19 : decode cX9_holds 19 = .ok (.aload_n 0, 1) := by decide +kernel
theorem dX9_holds_20 : decode cX9_holds 20 = .ok (.getfield 52, 3) := by decide +kernel
theorem dX9_holds_23 : decode cX9_holds 23 = .ok (.iload_n 1, 1) := by decide +kernel
theorem dX9_holds_24 : decode cX9_holds 24 = .ok (.iaload, 1) := by decide +kernel
theorem dX9_holds_25 : decode cX9_holds 25 = .ok (.istore 4, 2) := by decide +kernel
theorem dX9_holds_27 : decode cX9_holds 27 = .ok (.iload 4, 2) := by decide +kernel
theorem dX9_holds_29 : decode cX9_holds 29 = .ok (.aload_n 0, 1) := by decide +kernel
theorem dX9_holds_30 : decode cX9_holds 30 = .ok (.getfield 55, 3) := by decide +kernel
theorem dX9_holds_33 : decode cX9_holds 33 = .ok (.iload_n 1, 1) := by decide +kernel
theorem dX9_holds_34 : decode cX9_holds 34 = .ok (.iaload, 1) := by decide +kernel
theorem dX9_holds_35 : decode cX9_holds 35 = .ok (.if_icmp .ge 184, 3) := by decide +kernel
theorem dX9_holds_38 : decode cX9_holds 38 = .ok (.sipush 200, 3) := by decide +kernel
theorem dX9_holds_41 : decode cX9_holds 41 = .ok (.iload_n 2, 1) := by decide +kernel
theorem dX9_holds_42 : decode cX9_holds 42 = .ok (.imul, 1) := by decide +kernel
theorem dX9_holds_43 : decode cX9_holds 43 = .ok (.iload 4, 2) := by decide +kernel
theorem dX9_holds_45 : decode cX9_holds 45 = .ok (.iadd, 1) := by decide +kernel
theorem dX9_holds_46 : decode cX9_holds 46 = .ok (.istore 5, 2) := by decide +kernel
theorem dX9_holds_48 : decode cX9_holds 48 = .ok (.aload_n 0, 1) := by decide +kernel
theorem dX9_holds_49 : decode cX9_holds 49 = .ok (.getfield 73, 3) := by decide +kernel
theorem dX9_holds_52 : decode cX9_holds 52 = .ok (.iload 5, 2) := by decide +kernel
theorem dX9_holds_54 : decode cX9_holds 54 = .ok (.baload, 1) := by decide +kernel
theorem dX9_holds_55 : decode cX9_holds 55 = .ok (.ifCond .eq 9, 3) := by decide +kernel
theorem dX9_holds_58 : decode cX9_holds 58 = .ok (.iload_n 3, 1) := by decide +kernel
theorem dX9_holds_59 : decode cX9_holds 59 = .ok (.ifCond .eq 5, 3) := by decide +kernel
theorem dX9_holds_62 : decode cX9_holds 62 = .ok (.iconst 1, 1) := by decide +kernel
theorem dX9_holds_63 : decode cX9_holds 63 = .ok (.ireturn, 1) := by decide +kernel
theorem dX9_holds_64 : decode cX9_holds 64 = .ok (.aload_n 0, 1) := by decide +kernel
theorem dX9_holds_65 : decode cX9_holds 65 = .ok (.getfield 73, 3) := by decide +kernel
theorem dX9_holds_68 : decode cX9_holds 68 = .ok (.iload 5, 2) := by decide +kernel
theorem dX9_holds_70 : decode cX9_holds 70 = .ok (.baload, 1) := by decide +kernel
theorem dX9_holds_71 : decode cX9_holds 71 = .ok (.ifCond .eq 5, 3) := by decide +kernel
theorem dX9_holds_74 : decode cX9_holds 74 = .ok (.iconst 1, 1) := by decide +kernel
theorem dX9_holds_75 : decode cX9_holds 75 = .ok (.istore_n 3, 1) := by decide +kernel
theorem dX9_holds_76 : decode cX9_holds 76 = .ok (.iload_n 3, 1) := by decide +kernel
theorem dX9_holds_77 : decode cX9_holds 77 = .ok (.ifCond .ne 6, 3) := by decide +kernel
theorem dX9_holds_80 : decode cX9_holds 80 = .ok (.goto 133, 3) := by decide +kernel
theorem dX9_holds_83 : decode cX9_holds 83 = .ok (.aload_n 0, 1) := by decide +kernel
theorem dX9_holds_84 : decode cX9_holds 84 = .ok (.aload_n 0, 1) := by decide +kernel
theorem dX9_holds_85 : decode cX9_holds 85 = .ok (.getfield 64, 3) := by decide +kernel
theorem dX9_holds_88 : decode cX9_holds 88 = .ok (.iload 5, 2) := by decide +kernel
theorem dX9_holds_90 : decode cX9_holds 90 = .ok (.iaload, 1) := by decide +kernel
theorem dX9_holds_91 : decode cX9_holds 91 = .ok (.aload_n 0, 1) := by decide +kernel
theorem dX9_holds_92 : decode cX9_holds 92 = .ok (.getfield 67, 3) := by decide +kernel
theorem dX9_holds_95 : decode cX9_holds 95 = .ok (.iload 5, 2) := by decide +kernel
theorem dX9_holds_97 : decode cX9_holds 97 = .ok (.iaload, 1) := by decide +kernel
theorem dX9_holds_98 : decode cX9_holds 98 = .ok (.invokevirtual 339, 3) := by decide +kernel
theorem dX9_holds_101 : decode cX9_holds 101 = .ok (.istore 6, 2) := by decide +kernel
theorem dX9_holds_103 : decode cX9_holds 103 = .ok (.aload_n 0, 1) := by decide +kernel
theorem dX9_holds_104 : decode cX9_holds 104 = .ok (.aload_n 0, 1) := by decide +kernel
theorem dX9_holds_105 : decode cX9_holds 105 = .ok (.getfield 67, 3) := by decide +kernel
theorem dX9_holds_108 : decode cX9_holds 108 = .ok (.iload 5, 2) := by decide +kernel
theorem dX9_holds_110 : decode cX9_holds 110 = .ok (.iaload, 1) := by decide +kernel
theorem dX9_holds_111 : decode cX9_holds 111 = .ok (.aload_n 0, 1) := by decide +kernel
theorem dX9_holds_112 : decode cX9_holds 112 = .ok (.getfield 70, 3) := by decide +kernel
theorem dX9_holds_115 : decode cX9_holds 115 = .ok (.iload 5, 2) := by decide +kernel
theorem dX9_holds_117 : decode cX9_holds 117 = .ok (.iaload, 1) := by decide +kernel
theorem dX9_holds_118 : decode cX9_holds 118 = .ok (.invokevirtual 339, 3) := by decide +kernel
theorem dX9_holds_121 : decode cX9_holds 121 = .ok (.istore 7, 2) := by decide +kernel
theorem dX9_holds_123 : decode cX9_holds 123 = .ok (.aload_n 0, 1) := by decide +kernel
theorem dX9_holds_124 : decode cX9_holds 124 = .ok (.getfield 61, 3) := by decide +kernel
theorem dX9_holds_127 : decode cX9_holds 127 = .ok (.iload 5, 2) := by decide +kernel
theorem dX9_holds_129 : decode cX9_holds 129 = .ok (.iaload, 1) := by decide +kernel
theorem dX9_holds_130 : decode cX9_holds 130 = .ok (.ifCond .ne 18, 3) := by decide +kernel
theorem dX9_holds_133 : decode cX9_holds 133 = .ok (.iload 6, 2) := by decide +kernel
theorem dX9_holds_135 : decode cX9_holds 135 = .ok (.iload 7, 2) := by decide +kernel
theorem dX9_holds_137 : decode cX9_holds 137 = .ok (.if_icmp .ne 7, 3) := by decide +kernel
theorem dX9_holds_140 : decode cX9_holds 140 = .ok (.iconst 1, 1) := by decide +kernel
theorem dX9_holds_141 : decode cX9_holds 141 = .ok (.goto 71, 3) := by decide +kernel
theorem dX9_holds_144 : decode cX9_holds 144 = .ok (.iconst 0, 1) := by decide +kernel
theorem dX9_holds_145 : decode cX9_holds 145 = .ok (.goto 67, 3) := by decide +kernel
theorem dX9_holds_148 : decode cX9_holds 148 = .ok (.aload_n 0, 1) := by decide +kernel
theorem dX9_holds_149 : decode cX9_holds 149 = .ok (.getfield 61, 3) := by decide +kernel
theorem dX9_holds_152 : decode cX9_holds 152 = .ok (.iload 5, 2) := by decide +kernel
theorem dX9_holds_154 : decode cX9_holds 154 = .ok (.iaload, 1) := by decide +kernel
theorem dX9_holds_155 : decode cX9_holds 155 = .ok (.iconst 1, 1) := by decide +kernel
theorem dX9_holds_156 : decode cX9_holds 156 = .ok (.if_icmp .ne 18, 3) := by decide +kernel
theorem dX9_holds_159 : decode cX9_holds 159 = .ok (.iload 6, 2) := by decide +kernel
theorem dX9_holds_161 : decode cX9_holds 161 = .ok (.iload 7, 2) := by decide +kernel
theorem dX9_holds_163 : decode cX9_holds 163 = .ok (.if_icmp .eq 7, 3) := by decide +kernel
theorem dX9_holds_166 : decode cX9_holds 166 = .ok (.iconst 1, 1) := by decide +kernel
theorem dX9_holds_167 : decode cX9_holds 167 = .ok (.goto 45, 3) := by decide +kernel
theorem dX9_holds_170 : decode cX9_holds 170 = .ok (.iconst 0, 1) := by decide +kernel
theorem dX9_holds_171 : decode cX9_holds 171 = .ok (.goto 41, 3) := by decide +kernel
theorem dX9_holds_174 : decode cX9_holds 174 = .ok (.aload_n 0, 1) := by decide +kernel
theorem dX9_holds_175 : decode cX9_holds 175 = .ok (.getfield 61, 3) := by decide +kernel
theorem dX9_holds_178 : decode cX9_holds 178 = .ok (.iload 5, 2) := by decide +kernel
theorem dX9_holds_180 : decode cX9_holds 180 = .ok (.iaload, 1) := by decide +kernel
theorem dX9_holds_181 : decode cX9_holds 181 = .ok (.iconst 2, 1) := by decide +kernel
theorem dX9_holds_182 : decode cX9_holds 182 = .ok (.if_icmp .ne 18, 3) := by decide +kernel
theorem dX9_holds_185 : decode cX9_holds 185 = .ok (.iload 6, 2) := by decide +kernel
theorem dX9_holds_187 : decode cX9_holds 187 = .ok (.iload 7, 2) := by decide +kernel
theorem dX9_holds_189 : decode cX9_holds 189 = .ok (.if_icmp .ge 7, 3) := by decide +kernel
theorem dX9_holds_192 : decode cX9_holds 192 = .ok (.iconst 1, 1) := by decide +kernel
theorem dX9_holds_193 : decode cX9_holds 193 = .ok (.goto 19, 3) := by decide +kernel
theorem dX9_holds_196 : decode cX9_holds 196 = .ok (.iconst 0, 1) := by decide +kernel
theorem dX9_holds_197 : decode cX9_holds 197 = .ok (.goto 15, 3) := by decide +kernel
theorem dX9_holds_200 : decode cX9_holds 200 = .ok (.iload 6, 2) := by decide +kernel
theorem dX9_holds_202 : decode cX9_holds 202 = .ok (.iload 7, 2) := by decide +kernel
theorem dX9_holds_204 : decode cX9_holds 204 = .ok (.if_icmp .gt 7, 3) := by decide +kernel
theorem dX9_holds_207 : decode cX9_holds 207 = .ok (.iconst 1, 1) := by decide +kernel
theorem dX9_holds_208 : decode cX9_holds 208 = .ok (.goto 4, 3) := by decide +kernel
theorem dX9_holds_211 : decode cX9_holds 211 = .ok (.iconst 0, 1) := by decide +kernel
theorem dX9_holds_212 : decode cX9_holds 212 = .ok (.istore_n 3, 1) := by decide +kernel
theorem dX9_holds_213 : decode cX9_holds 213 = .ok (.iinc 4 1, 3) := by decide +kernel
theorem dX9_holds_216 : decode cX9_holds 216 = .ok (.goto (-189), 3) := by decide +kernel
theorem dX9_holds_219 : decode cX9_holds 219 = .ok (.iload_n 3, 1) := by decide +kernel
theorem dX9_holds_220 : decode cX9_holds 220 = .ok (.ireturn, 1) := by decide +kernel
theorem dX9_answers_0 : decode cX9_answers 0 = .ok (.iconst 2, 1) := by decide +kernel
theorem dX9_answers_1 : decode cX9_answers 1 = .ok (.iload_n 1, 1) := by decide +kernel
theorem dX9_answers_2 : decode cX9_answers 2 = .ok (.imul, 1) := by decide +kernel
theorem dX9_answers_3 : decode cX9_answers 3 = .ok (.aload_n 0, 1) := by decide +kernel
theorem dX9_answers_4 : decode cX9_answers 4 = .ok (.getfield 40, 3) := by decide +kernel
theorem dX9_answers_7 : decode cX9_answers 7 = .ok (.iload_n 1, 1) := by decide +kernel
theorem dX9_answers_8 : decode cX9_answers 8 = .ok (.iaload, 1) := by decide +kernel
theorem dX9_answers_9 : decode cX9_answers 9 = .ok (.iadd, 1) := by decide +kernel
theorem dX9_answers_10 : decode cX9_answers 10 = .ok (.istore_n 2, 1) := by decide +kernel
theorem dX9_answers_11 : decode cX9_answers 11 = .ok (.iconst (-1), 1) := by decide +kernel
theorem dX9_answers_12 : decode cX9_answers 12 = .ok (.istore_n 3, 1) := by decide +kernel
theorem dX9_answers_13 : decode cX9_answers 13 = .ok (.iconst 0, 1) := by decide +kernel
theorem dX9_answers_14 : decode cX9_answers 14 = .ok (.istore 4, 2) := by decide +kernel
theorem dX9_answers_16 : decode cX9_answers 16 = .ok (.aload_n 0, 1) := by decide +kernel
theorem dX9_answers_17 : decode cX9_answers 17 = .ok (.iconst 0, 1) := by decide +kernel
theorem dX9_answers_18 : decode cX9_answers 18 = .ok (.putfield 343, 3) := by decide +kernel
theorem dX9_answers_21 : decode cX9_answers 21 = .ok (.bipush 20, 2) := by decide +kernel
theorem dX9_answers_23 : decode cX9_answers 23 = .ok (.iload_n 2, 1) := by decide +kernel
theorem dX9_answers_24 : decode cX9_answers 24 = .ok (.imul, 1) := by decide +kernel
theorem dX9_answers_25 : decode cX9_answers 25 = .ok (.istore 5, 2) := by decide +kernel
theorem dX9_answers_27 : decode cX9_answers 27 = .ok (.iload 5, 2) := by decide +kernel
theorem dX9_answers_29 : decode cX9_answers 29 = .ok (.bipush 20, 2) := by decide +kernel
theorem dX9_answers_31 : decode cX9_answers 31 = .ok (.iload_n 2, 1) := by decide +kernel
theorem dX9_answers_32 : decode cX9_answers 32 = .ok (.imul, 1) := by decide +kernel
theorem dX9_answers_33 : decode cX9_answers 33 = .ok (.aload_n 0, 1) := by decide +kernel
theorem dX9_answers_34 : decode cX9_answers 34 = .ok (.getfield 43, 3) := by decide +kernel
theorem dX9_answers_37 : decode cX9_answers 37 = .ok (.iload_n 2, 1) := by decide +kernel
theorem dX9_answers_38 : decode cX9_answers 38 = .ok (.iaload, 1) := by decide +kernel
theorem dX9_answers_39 : decode cX9_answers 39 = .ok (.iadd, 1) := by decide +kernel
theorem dX9_answers_40 : decode cX9_answers 40 = .ok (.if_icmp .ge 81, 3) := by decide +kernel
theorem dX9_answers_43 : decode cX9_answers 43 = .ok (.aload_n 0, 1) := by decide +kernel
theorem dX9_answers_44 : decode cX9_answers 44 = .ok (.iload 5, 2) := by decide +kernel
theorem dX9_answers_46 : decode cX9_answers 46 = .ok (.iload_n 2, 1) := by decide +kernel
theorem dX9_answers_47 : decode cX9_answers 47 = .ok (.invokevirtual 346, 3) := by decide +kernel
theorem dX9_answers_50 : decode cX9_answers 50 = .ok (.ifCond .ne 6, 3) := by decide +kernel
theorem dX9_answers_53 : decode cX9_answers 53 = .ok (.goto 62, 3) := by decide +kernel
theorem dX9_answers_56 : decode cX9_answers 56 = .ok (.aload_n 0, 1) := by decide +kernel
theorem dX9_answers_57 : decode cX9_answers 57 = .ok (.getfield 46, 3) := by decide +kernel
theorem dX9_answers_60 : decode cX9_answers 60 = .ok (.iload 5, 2) := by decide +kernel
theorem dX9_answers_62 : decode cX9_answers 62 = .ok (.iaload, 1) := by decide +kernel
theorem dX9_answers_63 : decode cX9_answers 63 = .ok (.iconst 1, 1) := by decide +kernel
theorem dX9_answers_64 : decode cX9_answers 64 = .ok (.if_icmp .ne 24, 3) := by decide +kernel
theorem dX9_answers_67 : decode cX9_answers 67 = .ok (.aload_n 0, 1) := by decide +kernel
theorem dX9_answers_68 : decode cX9_answers 68 = .ok (.dup, 1) := by decide +kernel
theorem dX9_answers_69 : decode cX9_answers 69 = .ok (.getfield 343, 3) := by decide +kernel
theorem dX9_answers_72 : decode cX9_answers 72 = .ok (.iconst 1, 1) := by decide +kernel
theorem dX9_answers_73 : decode cX9_answers 73 = .ok (.aload_n 0, 1) := by decide +kernel
theorem dX9_answers_74 : decode cX9_answers 74 = .ok (.getfield 49, 3) := by decide +kernel
theorem dX9_answers_77 : decode cX9_answers 77 = .ok (.iload 5, 2) := by decide +kernel
theorem dX9_answers_79 : decode cX9_answers 79 = .ok (.iaload, 1) := by decide +kernel
theorem dX9_answers_80 : decode cX9_answers 80 = .ok (.ishl, 1) := by decide +kernel
theorem dX9_answers_81 : decode cX9_answers 81 = .ok (.ior, 1) := by decide +kernel
theorem dX9_answers_82 : decode cX9_answers 82 = .ok (.putfield 343, 3) := by decide +kernel
theorem dX9_answers_85 : decode cX9_answers 85 = .ok (.goto 30, 3) := by decide +kernel
theorem dX9_answers_88 : decode cX9_answers 88 = .ok (.iload_n 3, 1) := by decide +kernel
theorem dX9_answers_89 : decode cX9_answers 89 = .ok (.iconst (-1), 1) := by decide +kernel
theorem dX9_answers_90 : decode cX9_answers 90 = .ok (.if_icmp .eq 17, 3) := by decide +kernel
theorem dX9_answers_93 : decode cX9_answers 93 = .ok (.iload_n 3, 1) := by decide +kernel
theorem dX9_answers_94 : decode cX9_answers 94 = .ok (.aload_n 0, 1) := by decide +kernel
theorem dX9_answers_95 : decode cX9_answers 95 = .ok (.getfield 49, 3) := by decide +kernel
theorem dX9_answers_98 : decode cX9_answers 98 = .ok (.iload 5, 2) := by decide +kernel
theorem dX9_answers_100 : decode cX9_answers 100 = .ok (.iaload, 1) := by decide +kernel
theorem dX9_answers_101 : decode cX9_answers 101 = .ok (.if_icmp .eq 6, 3) := by decide +kernel
theorem dX9_answers_104 : decode cX9_answers 104 = .ok (.iconst 1, 1) := by decide +kernel
theorem dX9_answers_105 : decode cX9_answers 105 = .ok (.istore 4, 2) := by decide +kernel
theorem dX9_answers_107 : decode cX9_answers 107 = .ok (.aload_n 0, 1) := by decide +kernel
theorem dX9_answers_108 : decode cX9_answers 108 = .ok (.getfield 49, 3) := by decide +kernel
theorem dX9_answers_111 : decode cX9_answers 111 = .ok (.iload 5, 2) := by decide +kernel
theorem dX9_answers_113 : decode cX9_answers 113 = .ok (.iaload, 1) := by decide +kernel
theorem dX9_answers_114 : decode cX9_answers 114 = .ok (.istore_n 3, 1) := by decide +kernel
theorem dX9_answers_115 : decode cX9_answers 115 = .ok (.iinc 5 1, 3) := by decide +kernel
theorem dX9_answers_118 : decode cX9_answers 118 = .ok (.goto (-91), 3) := by decide +kernel
theorem dX9_answers_121 : decode cX9_answers 121 = .ok (.iload_n 3, 1) := by decide +kernel
theorem dX9_answers_122 : decode cX9_answers 122 = .ok (.iconst (-1), 1) := by decide +kernel
theorem dX9_answers_123 : decode cX9_answers 123 = .ok (.if_icmp .ne 5, 3) := by decide +kernel
theorem dX9_answers_126 : decode cX9_answers 126 = .ok (.iconst (-1), 1) := by decide +kernel
theorem dX9_answers_127 : decode cX9_answers 127 = .ok (.ireturn, 1) := by decide +kernel
theorem dX9_answers_128 : decode cX9_answers 128 = .ok (.iload 4, 2) := by decide +kernel
theorem dX9_answers_130 : decode cX9_answers 130 = .ok (.ifCond .ne 11, 3) := by decide +kernel
theorem dX9_answers_133 : decode cX9_answers 133 = .ok (.iload_n 3, 1) := by decide +kernel
theorem dX9_answers_134 : decode cX9_answers 134 = .ok (.aload_n 0, 1) := by decide +kernel
theorem dX9_answers_135 : decode cX9_answers 135 = .ok (.getfield 320, 3) := by decide +kernel
theorem dX9_answers_138 : decode cX9_answers 138 = .ok (.if_icmp .lt 8, 3) := by decide +kernel
theorem dX9_answers_141 : decode cX9_answers 141 = .ok (.bipush (-2), 2) := by decide +kernel
theorem dX9_answers_143 : decode cX9_answers 143 = .ok (.goto 4, 3) := by decide +kernel
theorem dX9_answers_146 : decode cX9_answers 146 = .ok (.iload_n 3, 1) := by decide +kernel
theorem dX9_answers_147 : decode cX9_answers 147 = .ok (.ireturn, 1) := by decide +kernel
theorem dX9_goes_0 : decode cX9_goes 0 = .ok (.aload_n 0, 1) := by decide +kernel
theorem dX9_goes_1 : decode cX9_goes 1 = .ok (.getfield 290, 3) := by decide +kernel
theorem dX9_goes_4 : decode cX9_goes 4 = .ok (.ifCond .eq 4, 3) := by decide +kernel
theorem dX9_goes_7 : decode cX9_goes 7 = .ok (.return_, 1) := by decide +kernel
theorem dX9_goes_8 : decode cX9_goes 8 = .ok (.aload_n 0, 1) := by decide +kernel
theorem dX9_goes_9 : decode cX9_goes 9 = .ok (.iconst 1, 1) := by decide +kernel
theorem dX9_goes_10 : decode cX9_goes 10 = .ok (.putfield 290, 3) := by decide +kernel
theorem dX9_goes_13 : decode cX9_goes 13 = .ok (.aload_n 0, 1) := by decide +kernel
theorem dX9_goes_14 : decode cX9_goes 14 = .ok (.iconst 0, 1) := by decide +kernel
theorem dX9_goes_15 : decode cX9_goes 15 = .ok (.putfield 350, 3) := by decide +kernel
theorem dX9_goes_18 : decode cX9_goes 18 = .ok (.iconst 0, 1) := by decide +kernel
theorem dX9_goes_19 : decode cX9_goes 19 = .ok (.istore_n 1, 1) := by decide +kernel
theorem dX9_goes_20 : decode cX9_goes 20 = .ok (.iload_n 1, 1) := by decide +kernel
theorem dX9_goes_21 : decode cX9_goes 21 = .ok (.bipush 72, 2) := by decide +kernel
theorem dX9_goes_23 : decode cX9_goes 23 = .ok (.if_icmp .ge 16, 3) := by decide +kernel
theorem dX9_goes_26 : decode cX9_goes 26 = .ok (.aload_n 0, 1) := by decide +kernel
theorem dX9_goes_27 : decode cX9_goes 27 = .ok (.getfield 155, 3) := by decide +kernel
theorem dX9_goes_30 : decode cX9_goes 30 = .ok (.iload_n 1, 1) := by decide +kernel
theorem dX9_goes_31 : decode cX9_goes 31 = .ok (.iconst 0, 1) := by decide +kernel
theorem dX9_goes_32 : decode cX9_goes 32 = .ok (.iastore, 1) := by decide +kernel
theorem dX9_goes_33 : decode cX9_goes 33 = .ok (.iinc 1 1, 3) := by decide +kernel
theorem dX9_goes_36 : decode cX9_goes 36 = .ok (.goto (-16), 3) := by decide +kernel
theorem dX9_goes_39 : decode cX9_goes 39 = .ok (.iconst 0, 1) := by decide +kernel
theorem dX9_goes_40 : decode cX9_goes 40 = .ok (.istore_n 1, 1) := by decide +kernel
theorem dX9_goes_41 : decode cX9_goes 41 = .ok (.iload_n 1, 1) := by decide +kernel
theorem dX9_goes_42 : decode cX9_goes 42 = .ok (.bipush 8, 2) := by decide +kernel
theorem dX9_goes_44 : decode cX9_goes 44 = .ok (.if_icmp .ge 49, 3) := by decide +kernel
theorem dX9_goes_47 : decode cX9_goes 47 = .ok (.aload_n 0, 1) := by decide +kernel
theorem dX9_goes_48 : decode cX9_goes 48 = .ok (.getfield 158, 3) := by decide +kernel
theorem dX9_goes_51 : decode cX9_goes 51 = .ok (.iload_n 1, 1) := by decide +kernel
theorem dX9_goes_52 : decode cX9_goes 52 = .ok (.iconst 0, 1) := by decide +kernel
theorem dX9_goes_53 : decode cX9_goes 53 = .ok (.iastore, 1) := by decide +kernel
theorem dX9_goes_54 : decode cX9_goes 54 = .ok (.aload_n 0, 1) := by decide +kernel
theorem dX9_goes_55 : decode cX9_goes 55 = .ok (.getfield 161, 3) := by decide +kernel
theorem dX9_goes_58 : decode cX9_goes 58 = .ok (.iload_n 1, 1) := by decide +kernel
theorem dX9_goes_59 : decode cX9_goes 59 = .ok (.iconst 0, 1) := by decide +kernel
theorem dX9_goes_60 : decode cX9_goes 60 = .ok (.iastore, 1) := by decide +kernel
theorem dX9_goes_61 : decode cX9_goes 61 = .ok (.aload_n 0, 1) := by decide +kernel
theorem dX9_goes_62 : decode cX9_goes 62 = .ok (.getfield 176, 3) := by decide +kernel
theorem dX9_goes_65 : decode cX9_goes 65 = .ok (.iload_n 1, 1) := by decide +kernel
theorem dX9_goes_66 : decode cX9_goes 66 = .ok (.iconst (-1), 1) := by decide +kernel
theorem dX9_goes_67 : decode cX9_goes 67 = .ok (.iastore, 1) := by decide +kernel
theorem dX9_goes_68 : decode cX9_goes 68 = .ok (.aload_n 0, 1) := by decide +kernel
theorem dX9_goes_69 : decode cX9_goes 69 = .ok (.getfield 191, 3) := by decide +kernel
theorem dX9_goes_72 : decode cX9_goes 72 = .ok (.iload_n 1, 1) := by decide +kernel
theorem dX9_goes_73 : decode cX9_goes 73 = .ok (.iconst 0, 1) := by decide +kernel
theorem dX9_goes_74 : decode cX9_goes 74 = .ok (.iastore, 1) := by decide +kernel
theorem dX9_goes_75 : decode cX9_goes 75 = .ok (.aload_n 0, 1) := by decide +kernel
theorem dX9_goes_76 : decode cX9_goes 76 = .ok (.getfield 179, 3) := by decide +kernel
theorem dX9_goes_79 : decode cX9_goes 79 = .ok (.iload_n 1, 1) := by decide +kernel
theorem dX9_goes_80 : decode cX9_goes 80 = .ok (.iconst 0, 1) := by decide +kernel
theorem dX9_goes_81 : decode cX9_goes 81 = .ok (.iastore, 1) := by decide +kernel
theorem dX9_goes_82 : decode cX9_goes 82 = .ok (.aload_n 0, 1) := by decide +kernel
theorem dX9_goes_83 : decode cX9_goes 83 = .ok (.iload_n 1, 1) := by decide +kernel
theorem dX9_goes_84 : decode cX9_goes 84 = .ok (.invokevirtual 353, 3) := by decide +kernel
theorem dX9_goes_87 : decode cX9_goes 87 = .ok (.iinc 1 1, 3) := by decide +kernel
theorem dX9_goes_90 : decode cX9_goes 90 = .ok (.goto (-49), 3) := by decide +kernel
theorem dX9_goes_93 : decode cX9_goes 93 = .ok (.iconst 0, 1) := by decide +kernel
theorem dX9_goes_94 : decode cX9_goes 94 = .ok (.istore_n 1, 1) := by decide +kernel
theorem dX9_goes_95 : decode cX9_goes 95 = .ok (.iload_n 1, 1) := by decide +kernel
theorem dX9_goes_96 : decode cX9_goes 96 = .ok (.sipush 300, 3) := by decide +kernel
theorem dX9_goes_99 : decode cX9_goes 99 = .ok (.if_icmp .ge 141, 3) := by decide +kernel
theorem dX9_goes_102 : decode cX9_goes 102 = .ok (.iconst 0, 1) := by decide +kernel
theorem dX9_goes_103 : decode cX9_goes 103 = .ok (.istore_n 2, 1) := by decide +kernel
theorem dX9_goes_104 : decode cX9_goes 104 = .ok (.iload_n 2, 1) := by decide +kernel
theorem dX9_goes_105 : decode cX9_goes 105 = .ok (.aload_n 0, 1) := by decide +kernel
theorem dX9_goes_106 : decode cX9_goes 106 = .ok (.getfield 317, 3) := by decide +kernel
theorem dX9_goes_109 : decode cX9_goes 109 = .ok (.if_icmp .ge 15, 3) := by decide +kernel
theorem dX9_goes_112 : decode cX9_goes 112 = .ok (.aload_n 0, 1) := by decide +kernel
theorem dX9_goes_113 : decode cX9_goes 113 = .ok (.iload_n 2, 1) := by decide +kernel
theorem dX9_goes_114 : decode cX9_goes 114 = .ok (.iload_n 1, 1) := by decide +kernel
theorem dX9_goes_115 : decode cX9_goes 115 = .ok (.invokevirtual 356, 3) := by decide +kernel
theorem dX9_goes_118 : decode cX9_goes 118 = .ok (.iinc 2 1, 3) := by decide +kernel
theorem dX9_goes_121 : decode cX9_goes 121 = .ok (.goto (-17), 3) := by decide +kernel
theorem dX9_goes_124 : decode cX9_goes 124 = .ok (.iconst 0, 1) := by decide +kernel
theorem dX9_goes_125 : decode cX9_goes 125 = .ok (.istore_n 2, 1) := by decide +kernel
theorem dX9_goes_126 : decode cX9_goes 126 = .ok (.iload_n 2, 1) := by decide +kernel
theorem dX9_goes_127 : decode cX9_goes 127 = .ok (.aload_n 0, 1) := by decide +kernel
theorem dX9_goes_128 : decode cX9_goes 128 = .ok (.getfield 317, 3) := by decide +kernel
theorem dX9_goes_131 : decode cX9_goes 131 = .ok (.if_icmp .ge 35, 3) := by decide +kernel
theorem dX9_goes_134 : decode cX9_goes 134 = .ok (.aload_n 0, 1) := by decide +kernel
theorem dX9_goes_135 : decode cX9_goes 135 = .ok (.getfield 158, 3) := by decide +kernel
theorem dX9_goes_138 : decode cX9_goes 138 = .ok (.iload_n 2, 1) := by decide +kernel
theorem dX9_goes_139 : decode cX9_goes 139 = .ok (.iaload, 1) := by decide +kernel
theorem dX9_goes_140 : decode cX9_goes 140 = .ok (.iconst 1, 1) := by decide +kernel
theorem dX9_goes_141 : decode cX9_goes 141 = .ok (.if_icmp .ne 19, 3) := by decide +kernel
theorem dX9_goes_144 : decode cX9_goes 144 = .ok (.aload_n 0, 1) := by decide +kernel
theorem dX9_goes_145 : decode cX9_goes 145 = .ok (.getfield 164, 3) := by decide +kernel
theorem dX9_goes_148 : decode cX9_goes 148 = .ok (.iload_n 2, 1) := by decide +kernel
theorem dX9_goes_149 : decode cX9_goes 149 = .ok (.iaload, 1) := by decide +kernel
theorem dX9_goes_150 : decode cX9_goes 150 = .ok (.iload_n 1, 1) := by decide +kernel
theorem dX9_goes_151 : decode cX9_goes 151 = .ok (.if_icmp .gt 9, 3) := by decide +kernel
theorem dX9_goes_154 : decode cX9_goes 154 = .ok (.aload_n 0, 1) := by decide +kernel
theorem dX9_goes_155 : decode cX9_goes 155 = .ok (.iload_n 2, 1) := by decide +kernel
theorem dX9_goes_156 : decode cX9_goes 156 = .ok (.iload_n 1, 1) := by decide +kernel
theorem dX9_goes_157 : decode cX9_goes 157 = .ok (.invokevirtual 359, 3) := by decide +kernel
theorem dX9_goes_160 : decode cX9_goes 160 = .ok (.iinc 2 1, 3) := by decide +kernel
theorem dX9_goes_163 : decode cX9_goes 163 = .ok (.goto (-37), 3) := by decide +kernel
theorem dX9_goes_166 : decode cX9_goes 166 = .ok (.aload_n 0, 1) := by decide +kernel
theorem dX9_goes_167 : decode cX9_goes 167 = .ok (.iload_n 1, 1) := by decide +kernel
theorem dX9_goes_168 : decode cX9_goes 168 = .ok (.invokevirtual 362, 3) := by decide +kernel
theorem dX9_goes_171 : decode cX9_goes 171 = .ok (.iconst 0, 1) := by decide +kernel
theorem dX9_goes_172 : decode cX9_goes 172 = .ok (.istore_n 2, 1) := by decide +kernel
theorem dX9_goes_173 : decode cX9_goes 173 = .ok (.iload_n 2, 1) := by decide +kernel
theorem dX9_goes_174 : decode cX9_goes 174 = .ok (.aload_n 0, 1) := by decide +kernel
theorem dX9_goes_175 : decode cX9_goes 175 = .ok (.getfield 317, 3) := by decide +kernel
theorem dX9_goes_178 : decode cX9_goes 178 = .ok (.if_icmp .ge 34, 3) := by decide +kernel
theorem dX9_goes_181 : decode cX9_goes 181 = .ok (.aload_n 0, 1) := by decide +kernel
theorem dX9_goes_182 : decode cX9_goes 182 = .ok (.getfield 158, 3) := by decide +kernel
theorem dX9_goes_185 : decode cX9_goes 185 = .ok (.iload_n 2, 1) := by decide +kernel
theorem dX9_goes_186 : decode cX9_goes 186 = .ok (.iaload, 1) := by decide +kernel
theorem dX9_goes_187 : decode cX9_goes 187 = .ok (.iconst 3, 1) := by decide +kernel
theorem dX9_goes_188 : decode cX9_goes 188 = .ok (.if_icmp .ne 18, 3) := by decide +kernel
theorem dX9_goes_191 : decode cX9_goes 191 = .ok (.aload_n 0, 1) := by decide +kernel
theorem dX9_goes_192 : decode cX9_goes 192 = .ok (.getfield 173, 3) := by decide +kernel
theorem dX9_goes_195 : decode cX9_goes 195 = .ok (.iload_n 2, 1) := by decide +kernel
theorem dX9_goes_196 : decode cX9_goes 196 = .ok (.iaload, 1) := by decide +kernel
theorem dX9_goes_197 : decode cX9_goes 197 = .ok (.iload_n 1, 1) := by decide +kernel
theorem dX9_goes_198 : decode cX9_goes 198 = .ok (.if_icmp .gt 8, 3) := by decide +kernel
theorem dX9_goes_201 : decode cX9_goes 201 = .ok (.aload_n 0, 1) := by decide +kernel
theorem dX9_goes_202 : decode cX9_goes 202 = .ok (.iload_n 2, 1) := by decide +kernel
theorem dX9_goes_203 : decode cX9_goes 203 = .ok (.invokevirtual 365, 3) := by decide +kernel
theorem dX9_goes_206 : decode cX9_goes 206 = .ok (.iinc 2 1, 3) := by decide +kernel
theorem dX9_goes_209 : decode cX9_goes 209 = .ok (.goto (-36), 3) := by decide +kernel
theorem dX9_goes_212 : decode cX9_goes 212 = .ok (.iconst 0, 1) := by decide +kernel
theorem dX9_goes_213 : decode cX9_goes 213 = .ok (.istore_n 2, 1) := by decide +kernel
theorem dX9_goes_214 : decode cX9_goes 214 = .ok (.iload_n 2, 1) := by decide +kernel
theorem dX9_goes_215 : decode cX9_goes 215 = .ok (.aload_n 0, 1) := by decide +kernel
theorem dX9_goes_216 : decode cX9_goes 216 = .ok (.getfield 317, 3) := by decide +kernel
theorem dX9_goes_219 : decode cX9_goes 219 = .ok (.if_icmp .ge 15, 3) := by decide +kernel
theorem dX9_goes_222 : decode cX9_goes 222 = .ok (.aload_n 0, 1) := by decide +kernel
theorem dX9_goes_223 : decode cX9_goes 223 = .ok (.iload_n 2, 1) := by decide +kernel
theorem dX9_goes_224 : decode cX9_goes 224 = .ok (.iload_n 1, 1) := by decide +kernel
theorem dX9_goes_225 : decode cX9_goes 225 = .ok (.invokevirtual 368, 3) := by decide +kernel
theorem dX9_goes_228 : decode cX9_goes 228 = .ok (.iinc 2 1, 3) := by decide +kernel
theorem dX9_goes_231 : decode cX9_goes 231 = .ok (.goto (-17), 3) := by decide +kernel
theorem dX9_goes_234 : decode cX9_goes 234 = .ok (.iinc 1 1, 3) := by decide +kernel
theorem dX9_goes_237 : decode cX9_goes 237 = .ok (.goto (-142), 3) := by decide +kernel
theorem dX9_goes_240 : decode cX9_goes 240 = .ok (.return_, 1) := by decide +kernel
theorem dX9_clears_0 : decode cX9_clears 0 = .ok (.aload_n 0, 1) := by decide +kernel
theorem dX9_clears_1 : decode cX9_clears 1 = .ok (.getfield 182, 3) := by decide +kernel
theorem dX9_clears_4 : decode cX9_clears 4 = .ok (.iload_n 1, 1) := by decide +kernel
theorem dX9_clears_5 : decode cX9_clears 5 = .ok (.iconst 0, 1) := by decide +kernel
theorem dX9_clears_6 : decode cX9_clears 6 = .ok (.iastore, 1) := by decide +kernel
theorem dX9_clears_7 : decode cX9_clears 7 = .ok (.aload_n 0, 1) := by decide +kernel
theorem dX9_clears_8 : decode cX9_clears 8 = .ok (.getfield 185, 3) := by decide +kernel
theorem dX9_clears_11 : decode cX9_clears 11 = .ok (.iload_n 1, 1) := by decide +kernel
theorem dX9_clears_12 : decode cX9_clears 12 = .ok (.iconst 0, 1) := by decide +kernel
theorem dX9_clears_13 : decode cX9_clears 13 = .ok (.iastore, 1) := by decide +kernel
theorem dX9_clears_14 : decode cX9_clears 14 = .ok (.aload_n 0, 1) := by decide +kernel
theorem dX9_clears_15 : decode cX9_clears 15 = .ok (.getfield 188, 3) := by decide +kernel
theorem dX9_clears_18 : decode cX9_clears 18 = .ok (.iload_n 1, 1) := by decide +kernel
theorem dX9_clears_19 : decode cX9_clears 19 = .ok (.iconst 0, 1) := by decide +kernel
theorem dX9_clears_20 : decode cX9_clears 20 = .ok (.iastore, 1) := by decide +kernel
theorem dX9_clears_21 : decode cX9_clears 21 = .ok (.aload_n 0, 1) := by decide +kernel
theorem dX9_clears_22 : decode cX9_clears 22 = .ok (.getfield 194, 3) := by decide +kernel
theorem dX9_clears_25 : decode cX9_clears 25 = .ok (.iload_n 1, 1) := by decide +kernel
theorem dX9_clears_26 : decode cX9_clears 26 = .ok (.iconst 0, 1) := by decide +kernel
theorem dX9_clears_27 : decode cX9_clears 27 = .ok (.iastore, 1) := by decide +kernel
theorem dX9_clears_28 : decode cX9_clears 28 = .ok (.aload_n 0, 1) := by decide +kernel
theorem dX9_clears_29 : decode cX9_clears 29 = .ok (.getfield 167, 3) := by decide +kernel
theorem dX9_clears_32 : decode cX9_clears 32 = .ok (.iload_n 1, 1) := by decide +kernel
theorem dX9_clears_33 : decode cX9_clears 33 = .ok (.iconst (-1), 1) := by decide +kernel
theorem dX9_clears_34 : decode cX9_clears 34 = .ok (.iastore, 1) := by decide +kernel
theorem dX9_clears_35 : decode cX9_clears 35 = .ok (.aload_n 0, 1) := by decide +kernel
theorem dX9_clears_36 : decode cX9_clears 36 = .ok (.getfield 170, 3) := by decide +kernel
theorem dX9_clears_39 : decode cX9_clears 39 = .ok (.iload_n 1, 1) := by decide +kernel
theorem dX9_clears_40 : decode cX9_clears 40 = .ok (.iconst (-1), 1) := by decide +kernel
theorem dX9_clears_41 : decode cX9_clears 41 = .ok (.iastore, 1) := by decide +kernel
theorem dX9_clears_42 : decode cX9_clears 42 = .ok (.return_, 1) := by decide +kernel
theorem dX9_powers_0 : decode cX9_powers 0 = .ok (.aload_n 0, 1) := by decide +kernel
theorem dX9_powers_1 : decode cX9_powers 1 = .ok (.getfield 107, 3) := by decide +kernel
theorem dX9_powers_4 : decode cX9_powers 4 = .ok (.sipush 300, 3) := by decide +kernel
theorem dX9_powers_7 : decode cX9_powers 7 = .ok (.iload_n 1, 1) := by decide +kernel
theorem dX9_powers_8 : decode cX9_powers 8 = .ok (.imul, 1) := by decide +kernel
theorem dX9_powers_9 : decode cX9_powers 9 = .ok (.iload_n 2, 1) := by decide +kernel
theorem dX9_powers_10 : decode cX9_powers 10 = .ok (.iadd, 1) := by decide +kernel
theorem dX9_powers_11 : decode cX9_powers 11 = .ok (.baload, 1) := by decide +kernel
theorem dX9_powers_12 : decode cX9_powers 12 = .ok (.ifCond .eq 31, 3) := by decide +kernel
theorem dX9_powers_15 : decode cX9_powers 15 = .ok (.aload_n 0, 1) := by decide +kernel
theorem dX9_powers_16 : decode cX9_powers 16 = .ok (.getfield 158, 3) := by decide +kernel
theorem dX9_powers_19 : decode cX9_powers 19 = .ok (.iload_n 1, 1) := by decide +kernel
theorem dX9_powers_20 : decode cX9_powers 20 = .ok (.iconst 0, 1) := by decide +kernel
theorem dX9_powers_21 : decode cX9_powers 21 = .ok (.iastore, 1) := by decide +kernel
theorem dX9_powers_22 : decode cX9_powers 22 = .ok (.aload_n 0, 1) := by decide +kernel
theorem dX9_powers_23 : decode cX9_powers 23 = .ok (.getfield 179, 3) := by decide +kernel
theorem dX9_powers_26 : decode cX9_powers 26 = .ok (.iload_n 1, 1) := by decide +kernel
theorem dX9_powers_27 : decode cX9_powers 27 = .ok (.iconst 0, 1) := by decide +kernel
theorem dX9_powers_28 : decode cX9_powers 28 = .ok (.iastore, 1) := by decide +kernel
theorem dX9_powers_29 : decode cX9_powers 29 = .ok (.aload_n 0, 1) := by decide +kernel
theorem dX9_powers_30 : decode cX9_powers 30 = .ok (.getfield 161, 3) := by decide +kernel
theorem dX9_powers_33 : decode cX9_powers 33 = .ok (.iload_n 1, 1) := by decide +kernel
theorem dX9_powers_34 : decode cX9_powers 34 = .ok (.iload_n 2, 1) := by decide +kernel
theorem dX9_powers_35 : decode cX9_powers 35 = .ok (.iconst 3, 1) := by decide +kernel
theorem dX9_powers_36 : decode cX9_powers 36 = .ok (.iadd, 1) := by decide +kernel
theorem dX9_powers_37 : decode cX9_powers 37 = .ok (.iastore, 1) := by decide +kernel
theorem dX9_powers_38 : decode cX9_powers 38 = .ok (.aload_n 0, 1) := by decide +kernel
theorem dX9_powers_39 : decode cX9_powers 39 = .ok (.iload_n 1, 1) := by decide +kernel
theorem dX9_powers_40 : decode cX9_powers 40 = .ok (.invokevirtual 353, 3) := by decide +kernel
theorem dX9_powers_43 : decode cX9_powers 43 = .ok (.aload_n 0, 1) := by decide +kernel
theorem dX9_powers_44 : decode cX9_powers 44 = .ok (.getfield 158, 3) := by decide +kernel
theorem dX9_powers_47 : decode cX9_powers 47 = .ok (.iload_n 1, 1) := by decide +kernel
theorem dX9_powers_48 : decode cX9_powers 48 = .ok (.iaload, 1) := by decide +kernel
theorem dX9_powers_49 : decode cX9_powers 49 = .ok (.ifCond .ne 28, 3) := by decide +kernel
theorem dX9_powers_52 : decode cX9_powers 52 = .ok (.iload_n 2, 1) := by decide +kernel
theorem dX9_powers_53 : decode cX9_powers 53 = .ok (.aload_n 0, 1) := by decide +kernel
theorem dX9_powers_54 : decode cX9_powers 54 = .ok (.getfield 161, 3) := by decide +kernel
theorem dX9_powers_57 : decode cX9_powers 57 = .ok (.iload_n 1, 1) := by decide +kernel
theorem dX9_powers_58 : decode cX9_powers 58 = .ok (.iaload, 1) := by decide +kernel
theorem dX9_powers_59 : decode cX9_powers 59 = .ok (.if_icmp .lt 18, 3) := by decide +kernel
theorem dX9_powers_62 : decode cX9_powers 62 = .ok (.iload_n 2, 1) := by decide +kernel
theorem dX9_powers_63 : decode cX9_powers 63 = .ok (.aload_n 0, 1) := by decide +kernel
theorem dX9_powers_64 : decode cX9_powers 64 = .ok (.getfield 95, 3) := by decide +kernel
theorem dX9_powers_67 : decode cX9_powers 67 = .ok (.aload_n 0, 1) := by decide +kernel
theorem dX9_powers_68 : decode cX9_powers 68 = .ok (.getfield 86, 3) := by decide +kernel
theorem dX9_powers_71 : decode cX9_powers 71 = .ok (.iload_n 1, 1) := by decide +kernel
theorem dX9_powers_72 : decode cX9_powers 72 = .ok (.iaload, 1) := by decide +kernel
theorem dX9_powers_73 : decode cX9_powers 73 = .ok (.iaload, 1) := by decide +kernel
theorem dX9_powers_74 : decode cX9_powers 74 = .ok (.if_icmp .ge 4, 3) := by decide +kernel
theorem dX9_powers_77 : decode cX9_powers 77 = .ok (.return_, 1) := by decide +kernel
theorem dX9_powers_78 : decode cX9_powers 78 = .ok (.aload_n 0, 1) := by decide +kernel
theorem dX9_powers_79 : decode cX9_powers 79 = .ok (.getfield 158, 3) := by decide +kernel
theorem dX9_powers_82 : decode cX9_powers 82 = .ok (.iload_n 1, 1) := by decide +kernel
theorem dX9_powers_83 : decode cX9_powers 83 = .ok (.iconst 1, 1) := by decide +kernel
theorem dX9_powers_84 : decode cX9_powers 84 = .ok (.iastore, 1) := by decide +kernel
theorem dX9_powers_85 : decode cX9_powers 85 = .ok (.aload_n 0, 1) := by decide +kernel
theorem dX9_powers_86 : decode cX9_powers 86 = .ok (.getfield 191, 3) := by decide +kernel
theorem dX9_powers_89 : decode cX9_powers 89 = .ok (.iload_n 1, 1) := by decide +kernel
theorem dX9_powers_90 : decode cX9_powers 90 = .ok (.dup2, 1) := by decide +kernel
theorem dX9_powers_91 : decode cX9_powers 91 = .ok (.iaload, 1) := by decide +kernel
theorem dX9_powers_92 : decode cX9_powers 92 = .ok (.iconst 1, 1) := by decide +kernel
theorem dX9_powers_93 : decode cX9_powers 93 = .ok (.iadd, 1) := by decide +kernel
theorem dX9_powers_94 : decode cX9_powers 94 = .ok (.iastore, 1) := by decide +kernel
theorem dX9_powers_95 : decode cX9_powers 95 = .ok (.aload_n 0, 1) := by decide +kernel
theorem dX9_powers_96 : decode cX9_powers 96 = .ok (.iload_n 1, 1) := by decide +kernel
theorem dX9_powers_97 : decode cX9_powers 97 = .ok (.invokevirtual 353, 3) := by decide +kernel
theorem dX9_powers_100 : decode cX9_powers 100 = .ok (.aload_n 0, 1) := by decide +kernel
theorem dX9_powers_101 : decode cX9_powers 101 = .ok (.getfield 164, 3) := by decide +kernel
theorem dX9_powers_104 : decode cX9_powers 104 = .ok (.iload_n 1, 1) := by decide +kernel
theorem dX9_powers_105 : decode cX9_powers 105 = .ok (.iload_n 2, 1) := by decide +kernel
theorem dX9_powers_106 : decode cX9_powers 106 = .ok (.iastore, 1) := by decide +kernel
theorem dX9_powers_107 : decode cX9_powers 107 = .ok (.return_, 1) := by decide +kernel
theorem dX9_rescue_0 : decode cX9_rescue 0 = .ok (.aload_n 0, 1) := by decide +kernel
theorem dX9_rescue_1 : decode cX9_rescue 1 = .ok (.getfield 158, 3) := by decide +kernel
theorem dX9_rescue_4 : decode cX9_rescue 4 = .ok (.iload_n 1, 1) := by decide +kernel
theorem dX9_rescue_5 : decode cX9_rescue 5 = .ok (.iconst 5, 1) := by decide +kernel
theorem dX9_rescue_6 : decode cX9_rescue 6 = .ok (.iastore, 1) := by decide +kernel
theorem dX9_rescue_7 : decode cX9_rescue 7 = .ok (.aload_n 0, 1) := by decide +kernel
theorem dX9_rescue_8 : decode cX9_rescue 8 = .ok (.getfield 179, 3) := by decide +kernel
theorem dX9_rescue_11 : decode cX9_rescue 11 = .ok (.iload_n 1, 1) := by decide +kernel
theorem dX9_rescue_12 : decode cX9_rescue 12 = .ok (.iload_n 2, 1) := by decide +kernel
theorem dX9_rescue_13 : decode cX9_rescue 13 = .ok (.iastore, 1) := by decide +kernel
theorem dX9_rescue_14 : decode cX9_rescue 14 = .ok (.aload_n 0, 1) := by decide +kernel
theorem dX9_rescue_15 : decode cX9_rescue 15 = .ok (.getfield 194, 3) := by decide +kernel
theorem dX9_rescue_18 : decode cX9_rescue 18 = .ok (.iload_n 1, 1) := by decide +kernel
theorem dX9_rescue_19 : decode cX9_rescue 19 = .ok (.iconst 0, 1) := by decide +kernel
theorem dX9_rescue_20 : decode cX9_rescue 20 = .ok (.iastore, 1) := by decide +kernel
theorem dX9_rescue_21 : decode cX9_rescue 21 = .ok (.aload_n 0, 1) := by decide +kernel
theorem dX9_rescue_22 : decode cX9_rescue 22 = .ok (.getfield 167, 3) := by decide +kernel
theorem dX9_rescue_25 : decode cX9_rescue 25 = .ok (.iload_n 1, 1) := by decide +kernel
theorem dX9_rescue_26 : decode cX9_rescue 26 = .ok (.iconst (-1), 1) := by decide +kernel
theorem dX9_rescue_27 : decode cX9_rescue 27 = .ok (.iastore, 1) := by decide +kernel
theorem dX9_rescue_28 : decode cX9_rescue 28 = .ok (.aload_n 0, 1) := by decide +kernel
theorem dX9_rescue_29 : decode cX9_rescue 29 = .ok (.getfield 170, 3) := by decide +kernel
theorem dX9_rescue_32 : decode cX9_rescue 32 = .ok (.iload_n 1, 1) := by decide +kernel
theorem dX9_rescue_33 : decode cX9_rescue 33 = .ok (.iconst (-1), 1) := by decide +kernel
theorem dX9_rescue_34 : decode cX9_rescue 34 = .ok (.iastore, 1) := by decide +kernel
theorem dX9_rescue_35 : decode cX9_rescue 35 = .ok (.return_, 1) := by decide +kernel
theorem dX9_question_0 : decode cX9_question 0 = .ok (.aload_n 0, 1) := by decide +kernel
theorem dX9_question_1 : decode cX9_question 1 = .ok (.iload_n 1, 1) := by decide +kernel
theorem dX9_question_2 : decode cX9_question 2 = .ok (.aload_n 0, 1) := by decide +kernel
theorem dX9_question_3 : decode cX9_question 3 = .ok (.getfield 182, 3) := by decide +kernel
theorem dX9_question_6 : decode cX9_question 6 = .ok (.iload_n 1, 1) := by decide +kernel
theorem dX9_question_7 : decode cX9_question 7 = .ok (.iaload, 1) := by decide +kernel
theorem dX9_question_8 : decode cX9_question 8 = .ok (.aload_n 0, 1) := by decide +kernel
theorem dX9_question_9 : decode cX9_question 9 = .ok (.getfield 185, 3) := by decide +kernel
theorem dX9_question_12 : decode cX9_question 12 = .ok (.iload_n 1, 1) := by decide +kernel
theorem dX9_question_13 : decode cX9_question 13 = .ok (.iaload, 1) := by decide +kernel
theorem dX9_question_14 : decode cX9_question 14 = .ok (.aload_n 0, 1) := by decide +kernel
theorem dX9_question_15 : decode cX9_question 15 = .ok (.getfield 191, 3) := by decide +kernel
theorem dX9_question_18 : decode cX9_question 18 = .ok (.iload_n 1, 1) := by decide +kernel
theorem dX9_question_19 : decode cX9_question 19 = .ok (.iaload, 1) := by decide +kernel
theorem dX9_question_20 : decode cX9_question 20 = .ok (.iload_n 2, 1) := by decide +kernel
theorem dX9_question_21 : decode cX9_question 21 = .ok (.invokevirtual 371, 3) := by decide +kernel
theorem dX9_question_24 : decode cX9_question 24 = .ok (.iconst (-1), 1) := by decide +kernel
theorem dX9_question_25 : decode cX9_question 25 = .ok (.istore_n 3, 1) := by decide +kernel
theorem dX9_question_26 : decode cX9_question 26 = .ok (.iconst 0, 1) := by decide +kernel
theorem dX9_question_27 : decode cX9_question 27 = .ok (.istore 4, 2) := by decide +kernel
theorem dX9_question_29 : decode cX9_question 29 = .ok (.iload 4, 2) := by decide +kernel
theorem dX9_question_31 : decode cX9_question 31 = .ok (.iconst 2, 1) := by decide +kernel
theorem dX9_question_32 : decode cX9_question 32 = .ok (.if_icmp .ge 52, 3) := by decide +kernel
theorem dX9_question_35 : decode cX9_question 35 = .ok (.iload_n 3, 1) := by decide +kernel
theorem dX9_question_36 : decode cX9_question 36 = .ok (.iconst (-1), 1) := by decide +kernel
theorem dX9_question_37 : decode cX9_question 37 = .ok (.if_icmp .ne 47, 3) := by decide +kernel
theorem dX9_question_40 : decode cX9_question 40 = .ok (.aload_n 0, 1) := by decide +kernel
theorem dX9_question_41 : decode cX9_question 41 = .ok (.getfield 104, 3) := by decide +kernel
theorem dX9_question_44 : decode cX9_question 44 = .ok (.sipush 300, 3) := by decide +kernel
theorem dX9_question_47 : decode cX9_question 47 = .ok (.iload_n 1, 1) := by decide +kernel
theorem dX9_question_48 : decode cX9_question 48 = .ok (.imul, 1) := by decide +kernel
theorem dX9_question_49 : decode cX9_question 49 = .ok (.iload_n 2, 1) := by decide +kernel
theorem dX9_question_50 : decode cX9_question 50 = .ok (.iadd, 1) := by decide +kernel
theorem dX9_question_51 : decode cX9_question 51 = .ok (.baload, 1) := by decide +kernel
theorem dX9_question_52 : decode cX9_question 52 = .ok (.ifCond .ne 26, 3) := by decide +kernel
theorem dX9_question_55 : decode cX9_question 55 = .ok (.aload_n 0, 1) := by decide +kernel
theorem dX9_question_56 : decode cX9_question 56 = .ok (.getfield 110, 3) := by decide +kernel
theorem dX9_question_59 : decode cX9_question 59 = .ok (.sipush 300, 3) := by decide +kernel
theorem dX9_question_62 : decode cX9_question 62 = .ok (.iload 4, 2) := by decide +kernel
theorem dX9_question_64 : decode cX9_question 64 = .ok (.imul, 1) := by decide +kernel
theorem dX9_question_65 : decode cX9_question 65 = .ok (.iload_n 2, 1) := by decide +kernel
theorem dX9_question_66 : decode cX9_question 66 = .ok (.iadd, 1) := by decide +kernel
theorem dX9_question_67 : decode cX9_question 67 = .ok (.baload, 1) := by decide +kernel
theorem dX9_question_68 : decode cX9_question 68 = .ok (.ifCond .ne 10, 3) := by decide +kernel
theorem dX9_question_71 : decode cX9_question 71 = .ok (.aload_n 0, 1) := by decide +kernel
theorem dX9_question_72 : decode cX9_question 72 = .ok (.iload 4, 2) := by decide +kernel
theorem dX9_question_74 : decode cX9_question 74 = .ok (.invokevirtual 375, 3) := by decide +kernel
theorem dX9_question_77 : decode cX9_question 77 = .ok (.istore_n 3, 1) := by decide +kernel
theorem dX9_question_78 : decode cX9_question 78 = .ok (.iinc 4 1, 3) := by decide +kernel
theorem dX9_question_81 : decode cX9_question 81 = .ok (.goto (-52), 3) := by decide +kernel
theorem dX9_question_84 : decode cX9_question 84 = .ok (.iload_n 3, 1) := by decide +kernel
theorem dX9_question_85 : decode cX9_question 85 = .ok (.ifCond .lt 106, 3) := by decide +kernel
theorem dX9_question_88 : decode cX9_question 88 = .ok (.iconst 0, 1) := by decide +kernel
theorem dX9_question_89 : decode cX9_question 89 = .ok (.istore 4, 2) := by decide +kernel
theorem dX9_question_91 : decode cX9_question 91 = .ok (.iload 4, 2) := by decide +kernel
theorem dX9_question_93 : decode cX9_question 93 = .ok (.aload_n 0, 1) := by decide +kernel
theorem dX9_question_94 : decode cX9_question 94 = .ok (.getfield 317, 3) := by decide +kernel
theorem dX9_question_97 : decode cX9_question 97 = .ok (.if_icmp .ge 56, 3) := by decide +kernel
theorem dX9_question_100 : decode cX9_question 100 = .ok (.iload 4, 2) := by decide +kernel
theorem dX9_question_102 : decode cX9_question 102 = .ok (.iload_n 1, 1) := by decide +kernel
theorem dX9_question_103 : decode cX9_question 103 = .ok (.if_icmp .eq 44, 3) := by decide +kernel
theorem dX9_question_106 : decode cX9_question 106 = .ok (.aload_n 0, 1) := by decide +kernel
theorem dX9_question_107 : decode cX9_question 107 = .ok (.getfield 343, 3) := by decide +kernel
theorem dX9_question_110 : decode cX9_question 110 = .ok (.aload_n 0, 1) := by decide +kernel
theorem dX9_question_111 : decode cX9_question 111 = .ok (.getfield 86, 3) := by decide +kernel
theorem dX9_question_114 : decode cX9_question 114 = .ok (.iload 4, 2) := by decide +kernel
theorem dX9_question_116 : decode cX9_question 116 = .ok (.iaload, 1) := by decide +kernel
theorem dX9_question_117 : decode cX9_question 117 = .ok (.ishr, 1) := by decide +kernel
theorem dX9_question_118 : decode cX9_question 118 = .ok (.iconst 1, 1) := by decide +kernel
theorem dX9_question_119 : decode cX9_question 119 = .ok (.iand, 1) := by decide +kernel
theorem dX9_question_120 : decode cX9_question 120 = .ok (.ifCond .eq 27, 3) := by decide +kernel
theorem dX9_question_123 : decode cX9_question 123 = .ok (.aload_n 0, 1) := by decide +kernel
theorem dX9_question_124 : decode cX9_question 124 = .ok (.getfield 158, 3) := by decide +kernel
theorem dX9_question_127 : decode cX9_question 127 = .ok (.iload 4, 2) := by decide +kernel
theorem dX9_question_129 : decode cX9_question 129 = .ok (.iaload, 1) := by decide +kernel
theorem dX9_question_130 : decode cX9_question 130 = .ok (.iconst 4, 1) := by decide +kernel
theorem dX9_question_131 : decode cX9_question 131 = .ok (.if_icmp .ne 6, 3) := by decide +kernel
theorem dX9_question_134 : decode cX9_question 134 = .ok (.goto 13, 3) := by decide +kernel
theorem dX9_question_137 : decode cX9_question 137 = .ok (.aload_n 0, 1) := by decide +kernel
theorem dX9_question_138 : decode cX9_question 138 = .ok (.getfield 164, 3) := by decide +kernel
theorem dX9_question_141 : decode cX9_question 141 = .ok (.iload_n 1, 1) := by decide +kernel
theorem dX9_question_142 : decode cX9_question 142 = .ok (.iload_n 2, 1) := by decide +kernel
theorem dX9_question_143 : decode cX9_question 143 = .ok (.iconst 1, 1) := by decide +kernel
theorem dX9_question_144 : decode cX9_question 144 = .ok (.iadd, 1) := by decide +kernel
theorem dX9_question_145 : decode cX9_question 145 = .ok (.iastore, 1) := by decide +kernel
theorem dX9_question_146 : decode cX9_question 146 = .ok (.return_, 1) := by decide +kernel
theorem dX9_question_147 : decode cX9_question 147 = .ok (.iinc 4 1, 3) := by decide +kernel
theorem dX9_question_150 : decode cX9_question 150 = .ok (.goto (-59), 3) := by decide +kernel
theorem dX9_question_153 : decode cX9_question 153 = .ok (.aload_n 0, 1) := by decide +kernel
theorem dX9_question_154 : decode cX9_question 154 = .ok (.getfield 158, 3) := by decide +kernel
theorem dX9_question_157 : decode cX9_question 157 = .ok (.iload_n 1, 1) := by decide +kernel
theorem dX9_question_158 : decode cX9_question 158 = .ok (.iconst 2, 1) := by decide +kernel
theorem dX9_question_159 : decode cX9_question 159 = .ok (.iastore, 1) := by decide +kernel
theorem dX9_question_160 : decode cX9_question 160 = .ok (.aload_n 0, 1) := by decide +kernel
theorem dX9_question_161 : decode cX9_question 161 = .ok (.getfield 167, 3) := by decide +kernel
theorem dX9_question_164 : decode cX9_question 164 = .ok (.iload_n 1, 1) := by decide +kernel
theorem dX9_question_165 : decode cX9_question 165 = .ok (.iload_n 3, 1) := by decide +kernel
theorem dX9_question_166 : decode cX9_question 166 = .ok (.iastore, 1) := by decide +kernel
theorem dX9_question_167 : decode cX9_question 167 = .ok (.aload_n 0, 1) := by decide +kernel
theorem dX9_question_168 : decode cX9_question 168 = .ok (.getfield 170, 3) := by decide +kernel
theorem dX9_question_171 : decode cX9_question 171 = .ok (.iload_n 1, 1) := by decide +kernel
theorem dX9_question_172 : decode cX9_question 172 = .ok (.iconst 0, 1) := by decide +kernel
theorem dX9_question_173 : decode cX9_question 173 = .ok (.iastore, 1) := by decide +kernel
theorem dX9_question_174 : decode cX9_question 174 = .ok (.aload_n 0, 1) := by decide +kernel
theorem dX9_question_175 : decode cX9_question 175 = .ok (.getfield 173, 3) := by decide +kernel
theorem dX9_question_178 : decode cX9_question 178 = .ok (.iload_n 1, 1) := by decide +kernel
theorem dX9_question_179 : decode cX9_question 179 = .ok (.iload_n 2, 1) := by decide +kernel
theorem dX9_question_180 : decode cX9_question 180 = .ok (.iconst 1, 1) := by decide +kernel
theorem dX9_question_181 : decode cX9_question 181 = .ok (.iadd, 1) := by decide +kernel
theorem dX9_question_182 : decode cX9_question 182 = .ok (.iastore, 1) := by decide +kernel
theorem dX9_question_183 : decode cX9_question 183 = .ok (.aload_n 0, 1) := by decide +kernel
theorem dX9_question_184 : decode cX9_question 184 = .ok (.getfield 194, 3) := by decide +kernel
theorem dX9_question_187 : decode cX9_question 187 = .ok (.iload_n 1, 1) := by decide +kernel
theorem dX9_question_188 : decode cX9_question 188 = .ok (.iconst 1, 1) := by decide +kernel
theorem dX9_question_189 : decode cX9_question 189 = .ok (.iastore, 1) := by decide +kernel
theorem dX9_question_190 : decode cX9_question 190 = .ok (.return_, 1) := by decide +kernel
theorem dX9_question_191 : decode cX9_question 191 = .ok (.aload_n 0, 1) := by decide +kernel
theorem dX9_question_192 : decode cX9_question 192 = .ok (.getfield 182, 3) := by decide +kernel
theorem dX9_question_195 : decode cX9_question 195 = .ok (.iload_n 1, 1) := by decide +kernel
theorem dX9_question_196 : decode cX9_question 196 = .ok (.dup2, 1) := by decide +kernel
theorem dX9_question_197 : decode cX9_question 197 = .ok (.iaload, 1) := by decide +kernel
theorem dX9_question_198 : decode cX9_question 198 = .ok (.iconst 1, 1) := by decide +kernel
theorem dX9_question_199 : decode cX9_question 199 = .ok (.iadd, 1) := by decide +kernel
theorem dX9_question_200 : decode cX9_question 200 = .ok (.iastore, 1) := by decide +kernel
theorem dX9_question_201 : decode cX9_question 201 = .ok (.aload_n 0, 1) := by decide +kernel
theorem dX9_question_202 : decode cX9_question 202 = .ok (.getfield 182, 3) := by decide +kernel
theorem dX9_question_205 : decode cX9_question 205 = .ok (.iload_n 1, 1) := by decide +kernel
theorem dX9_question_206 : decode cX9_question 206 = .ok (.iaload, 1) := by decide +kernel
theorem dX9_question_207 : decode cX9_question 207 = .ok (.iconst 5, 1) := by decide +kernel
theorem dX9_question_208 : decode cX9_question 208 = .ok (.if_icmp .ne 21, 3) := by decide +kernel
theorem dX9_question_211 : decode cX9_question 211 = .ok (.aload_n 0, 1) := by decide +kernel
theorem dX9_question_212 : decode cX9_question 212 = .ok (.iload_n 1, 1) := by decide +kernel
theorem dX9_question_213 : decode cX9_question 213 = .ok (.iload_n 3, 1) := by decide +kernel
theorem dX9_question_214 : decode cX9_question 214 = .ok (.iconst (-1), 1) := by decide +kernel
theorem dX9_question_215 : decode cX9_question 215 = .ok (.if_icmp .ne 7, 3) := by decide +kernel
theorem dX9_question_218 : decode cX9_question 218 = .ok (.iconst 1, 1) := by decide +kernel
theorem dX9_question_219 : decode cX9_question 219 = .ok (.goto 4, 3) := by decide +kernel
theorem dX9_question_222 : decode cX9_question 222 = .ok (.iconst 2, 1) := by decide +kernel
theorem dX9_question_223 : decode cX9_question 223 = .ok (.invokevirtual 378, 3) := by decide +kernel
theorem dX9_question_226 : decode cX9_question 226 = .ok (.goto 19, 3) := by decide +kernel
theorem dX9_question_229 : decode cX9_question 229 = .ok (.aload_n 0, 1) := by decide +kernel
theorem dX9_question_230 : decode cX9_question 230 = .ok (.getfield 164, 3) := by decide +kernel
theorem dX9_question_233 : decode cX9_question 233 = .ok (.iload_n 1, 1) := by decide +kernel
theorem dX9_question_234 : decode cX9_question 234 = .ok (.iload_n 2, 1) := by decide +kernel
theorem dX9_question_235 : decode cX9_question 235 = .ok (.iconst 1, 1) := by decide +kernel
theorem dX9_question_236 : decode cX9_question 236 = .ok (.aload_n 0, 1) := by decide +kernel
theorem dX9_question_237 : decode cX9_question 237 = .ok (.getfield 182, 3) := by decide +kernel
theorem dX9_question_240 : decode cX9_question 240 = .ok (.iload_n 1, 1) := by decide +kernel
theorem dX9_question_241 : decode cX9_question 241 = .ok (.iaload, 1) := by decide +kernel
theorem dX9_question_242 : decode cX9_question 242 = .ok (.ishl, 1) := by decide +kernel
theorem dX9_question_243 : decode cX9_question 243 = .ok (.iadd, 1) := by decide +kernel
theorem dX9_question_244 : decode cX9_question 244 = .ok (.iastore, 1) := by decide +kernel
theorem dX9_question_245 : decode cX9_question 245 = .ok (.return_, 1) := by decide +kernel
theorem dX9_wants_0 : decode cX9_wants 0 = .ok (.aload_n 0, 1) := by decide +kernel
theorem dX9_wants_1 : decode cX9_wants 1 = .ok (.getfield 158, 3) := by decide +kernel
theorem dX9_wants_4 : decode cX9_wants 4 = .ok (.iload_n 1, 1) := by decide +kernel
theorem dX9_wants_5 : decode cX9_wants 5 = .ok (.iaload, 1) := by decide +kernel
theorem dX9_wants_6 : decode cX9_wants 6 = .ok (.iconst 2, 1) := by decide +kernel
theorem dX9_wants_7 : decode cX9_wants 7 = .ok (.if_icmp .ne 17, 3) := by decide +kernel
theorem dX9_wants_10 : decode cX9_wants 10 = .ok (.aload_n 0, 1) := by decide +kernel
theorem dX9_wants_11 : decode cX9_wants 11 = .ok (.getfield 173, 3) := by decide +kernel
theorem dX9_wants_14 : decode cX9_wants 14 = .ok (.iload_n 1, 1) := by decide +kernel
theorem dX9_wants_15 : decode cX9_wants 15 = .ok (.iaload, 1) := by decide +kernel
theorem dX9_wants_16 : decode cX9_wants 16 = .ok (.iload_n 2, 1) := by decide +kernel
theorem dX9_wants_17 : decode cX9_wants 17 = .ok (.if_icmp .gt 7, 3) := by decide +kernel
theorem dX9_wants_20 : decode cX9_wants 20 = .ok (.iconst 1, 1) := by decide +kernel
theorem dX9_wants_21 : decode cX9_wants 21 = .ok (.goto 4, 3) := by decide +kernel
theorem dX9_wants_24 : decode cX9_wants 24 = .ok (.iconst 0, 1) := by decide +kernel
theorem dX9_wants_25 : decode cX9_wants 25 = .ok (.ireturn, 1) := by decide +kernel
theorem dX9_gives_0 : decode cX9_gives 0 = .ok (.iconst 0, 1) := by decide +kernel
theorem dX9_gives_1 : decode cX9_gives 1 = .ok (.istore_n 2, 1) := by decide +kernel
theorem dX9_gives_2 : decode cX9_gives 2 = .ok (.iload_n 2, 1) := by decide +kernel
theorem dX9_gives_3 : decode cX9_gives 3 = .ok (.bipush 72, 2) := by decide +kernel
theorem dX9_gives_5 : decode cX9_gives 5 = .ok (.if_icmp .ge 16, 3) := by decide +kernel
theorem dX9_gives_8 : decode cX9_gives 8 = .ok (.aload_n 0, 1) := by decide +kernel
theorem dX9_gives_9 : decode cX9_gives 9 = .ok (.getfield 197, 3) := by decide +kernel
theorem dX9_gives_12 : decode cX9_gives 12 = .ok (.iload_n 2, 1) := by decide +kernel
theorem dX9_gives_13 : decode cX9_gives 13 = .ok (.iconst 0, 1) := by decide +kernel
theorem dX9_gives_14 : decode cX9_gives 14 = .ok (.bastore, 1) := by decide +kernel
theorem dX9_gives_15 : decode cX9_gives 15 = .ok (.iinc 2 1, 3) := by decide +kernel
theorem dX9_gives_18 : decode cX9_gives 18 = .ok (.goto (-16), 3) := by decide +kernel
theorem dX9_gives_21 : decode cX9_gives 21 = .ok (.iconst 0, 1) := by decide +kernel
theorem dX9_gives_22 : decode cX9_gives 22 = .ok (.istore_n 2, 1) := by decide +kernel
theorem dX9_gives_23 : decode cX9_gives 23 = .ok (.iload_n 2, 1) := by decide +kernel
theorem dX9_gives_24 : decode cX9_gives 24 = .ok (.aload_n 0, 1) := by decide +kernel
theorem dX9_gives_25 : decode cX9_gives 25 = .ok (.getfield 317, 3) := by decide +kernel
theorem dX9_gives_28 : decode cX9_gives 28 = .ok (.if_icmp .ge 16, 3) := by decide +kernel
theorem dX9_gives_31 : decode cX9_gives 31 = .ok (.aload_n 0, 1) := by decide +kernel
theorem dX9_gives_32 : decode cX9_gives 32 = .ok (.getfield 200, 3) := by decide +kernel
theorem dX9_gives_35 : decode cX9_gives 35 = .ok (.iload_n 2, 1) := by decide +kernel
theorem dX9_gives_36 : decode cX9_gives 36 = .ok (.iconst 0, 1) := by decide +kernel
theorem dX9_gives_37 : decode cX9_gives 37 = .ok (.bastore, 1) := by decide +kernel
theorem dX9_gives_38 : decode cX9_gives 38 = .ok (.iinc 2 1, 3) := by decide +kernel
theorem dX9_gives_41 : decode cX9_gives 41 = .ok (.goto (-18), 3) := by decide +kernel
theorem dX9_gives_44 : decode cX9_gives 44 = .ok (.iconst 0, 1) := by decide +kernel
theorem dX9_gives_45 : decode cX9_gives 45 = .ok (.istore_n 2, 1) := by decide +kernel
theorem dX9_gives_46 : decode cX9_gives 46 = .ok (.iconst 0, 1) := by decide +kernel
theorem dX9_gives_47 : decode cX9_gives 47 = .ok (.istore_n 3, 1) := by decide +kernel
theorem dX9_gives_48 : decode cX9_gives 48 = .ok (.iload_n 3, 1) := by decide +kernel
theorem dX9_gives_49 : decode cX9_gives 49 = .ok (.aload_n 0, 1) := by decide +kernel
theorem dX9_gives_50 : decode cX9_gives 50 = .ok (.getfield 317, 3) := by decide +kernel
theorem dX9_gives_53 : decode cX9_gives 53 = .ok (.if_icmp .ge 157, 3) := by decide +kernel
theorem dX9_gives_56 : decode cX9_gives 56 = .ok (.iconst (-1), 1) := by decide +kernel
theorem dX9_gives_57 : decode cX9_gives 57 = .ok (.istore 4, 2) := by decide +kernel
theorem dX9_gives_59 : decode cX9_gives 59 = .ok (.iconst 0, 1) := by decide +kernel
theorem dX9_gives_60 : decode cX9_gives 60 = .ok (.istore 5, 2) := by decide +kernel
theorem dX9_gives_62 : decode cX9_gives 62 = .ok (.iload 5, 2) := by decide +kernel
theorem dX9_gives_64 : decode cX9_gives 64 = .ok (.aload_n 0, 1) := by decide +kernel
theorem dX9_gives_65 : decode cX9_gives 65 = .ok (.getfield 317, 3) := by decide +kernel
theorem dX9_gives_68 : decode cX9_gives 68 = .ok (.if_icmp .ge 56, 3) := by decide +kernel
theorem dX9_gives_71 : decode cX9_gives 71 = .ok (.aload_n 0, 1) := by decide +kernel
theorem dX9_gives_72 : decode cX9_gives 72 = .ok (.iload 5, 2) := by decide +kernel
theorem dX9_gives_74 : decode cX9_gives 74 = .ok (.iload_n 1, 1) := by decide +kernel
theorem dX9_gives_75 : decode cX9_gives 75 = .ok (.invokevirtual 381, 3) := by decide +kernel
theorem dX9_gives_78 : decode cX9_gives 78 = .ok (.ifCond .eq 40, 3) := by decide +kernel
theorem dX9_gives_81 : decode cX9_gives 81 = .ok (.aload_n 0, 1) := by decide +kernel
theorem dX9_gives_82 : decode cX9_gives 82 = .ok (.getfield 200, 3) := by decide +kernel
theorem dX9_gives_85 : decode cX9_gives 85 = .ok (.iload 5, 2) := by decide +kernel
theorem dX9_gives_87 : decode cX9_gives 87 = .ok (.baload, 1) := by decide +kernel
theorem dX9_gives_88 : decode cX9_gives 88 = .ok (.ifCond .ne 30, 3) := by decide +kernel
theorem dX9_gives_91 : decode cX9_gives 91 = .ok (.iload 4, 2) := by decide +kernel
theorem dX9_gives_93 : decode cX9_gives 93 = .ok (.iconst (-1), 1) := by decide +kernel
theorem dX9_gives_94 : decode cX9_gives 94 = .ok (.if_icmp .eq 20, 3) := by decide +kernel
theorem dX9_gives_97 : decode cX9_gives 97 = .ok (.aload_n 0, 1) := by decide +kernel
theorem dX9_gives_98 : decode cX9_gives 98 = .ok (.getfield 173, 3) := by decide +kernel
theorem dX9_gives_101 : decode cX9_gives 101 = .ok (.iload 5, 2) := by decide +kernel
theorem dX9_gives_103 : decode cX9_gives 103 = .ok (.iaload, 1) := by decide +kernel
theorem dX9_gives_104 : decode cX9_gives 104 = .ok (.aload_n 0, 1) := by decide +kernel
theorem dX9_gives_105 : decode cX9_gives 105 = .ok (.getfield 173, 3) := by decide +kernel
theorem dX9_gives_108 : decode cX9_gives 108 = .ok (.iload 4, 2) := by decide +kernel
theorem dX9_gives_110 : decode cX9_gives 110 = .ok (.iaload, 1) := by decide +kernel
theorem dX9_gives_111 : decode cX9_gives 111 = .ok (.if_icmp .ge 7, 3) := by decide +kernel
theorem dX9_gives_114 : decode cX9_gives 114 = .ok (.iload 5, 2) := by decide +kernel
theorem dX9_gives_116 : decode cX9_gives 116 = .ok (.istore 4, 2) := by decide +kernel
theorem dX9_gives_118 : decode cX9_gives 118 = .ok (.iinc 5 1, 3) := by decide +kernel
theorem dX9_gives_121 : decode cX9_gives 121 = .ok (.goto (-59), 3) := by decide +kernel
theorem dX9_gives_124 : decode cX9_gives 124 = .ok (.iload 4, 2) := by decide +kernel
theorem dX9_gives_126 : decode cX9_gives 126 = .ok (.iconst (-1), 1) := by decide +kernel
theorem dX9_gives_127 : decode cX9_gives 127 = .ok (.if_icmp .ne 6, 3) := by decide +kernel
theorem dX9_gives_130 : decode cX9_gives 130 = .ok (.goto 80, 3) := by decide +kernel
theorem dX9_gives_133 : decode cX9_gives 133 = .ok (.aload_n 0, 1) := by decide +kernel
theorem dX9_gives_134 : decode cX9_gives 134 = .ok (.getfield 200, 3) := by decide +kernel
theorem dX9_gives_137 : decode cX9_gives 137 = .ok (.iload 4, 2) := by decide +kernel
theorem dX9_gives_139 : decode cX9_gives 139 = .ok (.iconst 1, 1) := by decide +kernel
theorem dX9_gives_140 : decode cX9_gives 140 = .ok (.bastore, 1) := by decide +kernel
theorem dX9_gives_141 : decode cX9_gives 141 = .ok (.bipush 12, 2) := by decide +kernel
theorem dX9_gives_143 : decode cX9_gives 143 = .ok (.aload_n 0, 1) := by decide +kernel
theorem dX9_gives_144 : decode cX9_gives 144 = .ok (.getfield 167, 3) := by decide +kernel
theorem dX9_gives_147 : decode cX9_gives 147 = .ok (.iload 4, 2) := by decide +kernel
theorem dX9_gives_149 : decode cX9_gives 149 = .ok (.iaload, 1) := by decide +kernel
theorem dX9_gives_150 : decode cX9_gives 150 = .ok (.imul, 1) := by decide +kernel
theorem dX9_gives_151 : decode cX9_gives 151 = .ok (.aload_n 0, 1) := by decide +kernel
theorem dX9_gives_152 : decode cX9_gives 152 = .ok (.getfield 170, 3) := by decide +kernel
theorem dX9_gives_155 : decode cX9_gives 155 = .ok (.iload 4, 2) := by decide +kernel
theorem dX9_gives_157 : decode cX9_gives 157 = .ok (.iaload, 1) := by decide +kernel
theorem dX9_gives_158 : decode cX9_gives 158 = .ok (.iadd, 1) := by decide +kernel
theorem dX9_gives_159 : decode cX9_gives 159 = .ok (.istore 5, 2) := by decide +kernel
theorem dX9_gives_161 : decode cX9_gives 161 = .ok (.aload_n 0, 1) := by decide +kernel
theorem dX9_gives_162 : decode cX9_gives 162 = .ok (.getfield 197, 3) := by decide +kernel
theorem dX9_gives_165 : decode cX9_gives 165 = .ok (.iload 5, 2) := by decide +kernel
theorem dX9_gives_167 : decode cX9_gives 167 = .ok (.baload, 1) := by decide +kernel
theorem dX9_gives_168 : decode cX9_gives 168 = .ok (.ifCond .ne 36, 3) := by decide +kernel
theorem dX9_gives_171 : decode cX9_gives 171 = .ok (.iload_n 2, 1) := by decide +kernel
theorem dX9_gives_172 : decode cX9_gives 172 = .ok (.aload_n 0, 1) := by decide +kernel
theorem dX9_gives_173 : decode cX9_gives 173 = .ok (.getfield 210, 3) := by decide +kernel
theorem dX9_gives_176 : decode cX9_gives 176 = .ok (.if_icmp .ne 6, 3) := by decide +kernel
theorem dX9_gives_179 : decode cX9_gives 179 = .ok (.goto 25, 3) := by decide +kernel
theorem dX9_gives_182 : decode cX9_gives 182 = .ok (.aload_n 0, 1) := by decide +kernel
theorem dX9_gives_183 : decode cX9_gives 183 = .ok (.getfield 197, 3) := by decide +kernel
theorem dX9_gives_186 : decode cX9_gives 186 = .ok (.iload 5, 2) := by decide +kernel
theorem dX9_gives_188 : decode cX9_gives 188 = .ok (.iconst 1, 1) := by decide +kernel
theorem dX9_gives_189 : decode cX9_gives 189 = .ok (.bastore, 1) := by decide +kernel
theorem dX9_gives_190 : decode cX9_gives 190 = .ok (.iinc 2 1, 3) := by decide +kernel
theorem dX9_gives_193 : decode cX9_gives 193 = .ok (.aload_n 0, 1) := by decide +kernel
theorem dX9_gives_194 : decode cX9_gives 194 = .ok (.getfield 155, 3) := by decide +kernel
theorem dX9_gives_197 : decode cX9_gives 197 = .ok (.iload 5, 2) := by decide +kernel
theorem dX9_gives_199 : decode cX9_gives 199 = .ok (.dup2, 1) := by decide +kernel
theorem dX9_gives_200 : decode cX9_gives 200 = .ok (.iaload, 1) := by decide +kernel
theorem dX9_gives_201 : decode cX9_gives 201 = .ok (.iconst 1, 1) := by decide +kernel
theorem dX9_gives_202 : decode cX9_gives 202 = .ok (.iadd, 1) := by decide +kernel
theorem dX9_gives_203 : decode cX9_gives 203 = .ok (.iastore, 1) := by decide +kernel
theorem dX9_gives_204 : decode cX9_gives 204 = .ok (.iinc 3 1, 3) := by decide +kernel
theorem dX9_gives_207 : decode cX9_gives 207 = .ok (.goto (-159), 3) := by decide +kernel
theorem dX9_gives_210 : decode cX9_gives 210 = .ok (.aload_n 0, 1) := by decide +kernel
theorem dX9_gives_211 : decode cX9_gives 211 = .ok (.getfield 152, 3) := by decide +kernel
theorem dX9_gives_214 : decode cX9_gives 214 = .ok (.iload_n 1, 1) := by decide +kernel
theorem dX9_gives_215 : decode cX9_gives 215 = .ok (.iload_n 2, 1) := by decide +kernel
theorem dX9_gives_216 : decode cX9_gives 216 = .ok (.iastore, 1) := by decide +kernel
theorem dX9_gives_217 : decode cX9_gives 217 = .ok (.aload_n 0, 1) := by decide +kernel
theorem dX9_gives_218 : decode cX9_gives 218 = .ok (.dup, 1) := by decide +kernel
theorem dX9_gives_219 : decode cX9_gives 219 = .ok (.getfield 350, 3) := by decide +kernel
theorem dX9_gives_222 : decode cX9_gives 222 = .ok (.iload_n 2, 1) := by decide +kernel
theorem dX9_gives_223 : decode cX9_gives 223 = .ok (.iadd, 1) := by decide +kernel
theorem dX9_gives_224 : decode cX9_gives 224 = .ok (.putfield 350, 3) := by decide +kernel
theorem dX9_gives_227 : decode cX9_gives 227 = .ok (.iconst 0, 1) := by decide +kernel
theorem dX9_gives_228 : decode cX9_gives 228 = .ok (.istore_n 3, 1) := by decide +kernel
theorem dX9_gives_229 : decode cX9_gives 229 = .ok (.iload_n 3, 1) := by decide +kernel
theorem dX9_gives_230 : decode cX9_gives 230 = .ok (.aload_n 0, 1) := by decide +kernel
theorem dX9_gives_231 : decode cX9_gives 231 = .ok (.getfield 317, 3) := by decide +kernel
theorem dX9_gives_234 : decode cX9_gives 234 = .ok (.if_icmp .ge 24, 3) := by decide +kernel
theorem dX9_gives_237 : decode cX9_gives 237 = .ok (.aload_n 0, 1) := by decide +kernel
theorem dX9_gives_238 : decode cX9_gives 238 = .ok (.iload_n 3, 1) := by decide +kernel
theorem dX9_gives_239 : decode cX9_gives 239 = .ok (.iload_n 1, 1) := by decide +kernel
theorem dX9_gives_240 : decode cX9_gives 240 = .ok (.invokevirtual 381, 3) := by decide +kernel
theorem dX9_gives_243 : decode cX9_gives 243 = .ok (.ifCond .eq 9, 3) := by decide +kernel
theorem dX9_gives_246 : decode cX9_gives 246 = .ok (.aload_n 0, 1) := by decide +kernel
theorem dX9_gives_247 : decode cX9_gives 247 = .ok (.iload_n 3, 1) := by decide +kernel
theorem dX9_gives_248 : decode cX9_gives 248 = .ok (.iload_n 1, 1) := by decide +kernel
theorem dX9_gives_249 : decode cX9_gives 249 = .ok (.invokevirtual 384, 3) := by decide +kernel
theorem dX9_gives_252 : decode cX9_gives 252 = .ok (.iinc 3 1, 3) := by decide +kernel
theorem dX9_gives_255 : decode cX9_gives 255 = .ok (.goto (-26), 3) := by decide +kernel
theorem dX9_gives_258 : decode cX9_gives 258 = .ok (.return_, 1) := by decide +kernel
theorem dX9_gets_0 : decode cX9_gets 0 = .ok (.bipush 12, 2) := by decide +kernel
theorem dX9_gets_2 : decode cX9_gets 2 = .ok (.aload_n 0, 1) := by decide +kernel
theorem dX9_gets_3 : decode cX9_gets 3 = .ok (.getfield 167, 3) := by decide +kernel
theorem dX9_gets_6 : decode cX9_gets 6 = .ok (.iload_n 1, 1) := by decide +kernel
theorem dX9_gets_7 : decode cX9_gets 7 = .ok (.iaload, 1) := by decide +kernel
theorem dX9_gets_8 : decode cX9_gets 8 = .ok (.imul, 1) := by decide +kernel
theorem dX9_gets_9 : decode cX9_gets 9 = .ok (.aload_n 0, 1) := by decide +kernel
theorem dX9_gets_10 : decode cX9_gets 10 = .ok (.getfield 170, 3) := by decide +kernel
theorem dX9_gets_13 : decode cX9_gets 13 = .ok (.iload_n 1, 1) := by decide +kernel
theorem dX9_gets_14 : decode cX9_gets 14 = .ok (.iaload, 1) := by decide +kernel
theorem dX9_gets_15 : decode cX9_gets 15 = .ok (.iadd, 1) := by decide +kernel
theorem dX9_gets_16 : decode cX9_gets 16 = .ok (.istore_n 3, 1) := by decide +kernel
theorem dX9_gets_17 : decode cX9_gets 17 = .ok (.aload_n 0, 1) := by decide +kernel
theorem dX9_gets_18 : decode cX9_gets 18 = .ok (.getfield 197, 3) := by decide +kernel
theorem dX9_gets_21 : decode cX9_gets 21 = .ok (.iload_n 3, 1) := by decide +kernel
theorem dX9_gets_22 : decode cX9_gets 22 = .ok (.baload, 1) := by decide +kernel
theorem dX9_gets_23 : decode cX9_gets 23 = .ok (.ifCond .eq 18, 3) := by decide +kernel
theorem dX9_gets_26 : decode cX9_gets 26 = .ok (.aload_n 0, 1) := by decide +kernel
theorem dX9_gets_27 : decode cX9_gets 27 = .ok (.getfield 104, 3) := by decide +kernel
theorem dX9_gets_30 : decode cX9_gets 30 = .ok (.sipush 300, 3) := by decide +kernel
theorem dX9_gets_33 : decode cX9_gets 33 = .ok (.iload_n 1, 1) := by decide +kernel
theorem dX9_gets_34 : decode cX9_gets 34 = .ok (.imul, 1) := by decide +kernel
theorem dX9_gets_35 : decode cX9_gets 35 = .ok (.iload_n 2, 1) := by decide +kernel
theorem dX9_gets_36 : decode cX9_gets 36 = .ok (.iadd, 1) := by decide +kernel
theorem dX9_gets_37 : decode cX9_gets 37 = .ok (.baload, 1) := by decide +kernel
theorem dX9_gets_38 : decode cX9_gets 38 = .ok (.ifCond .eq 31, 3) := by decide +kernel
theorem dX9_gets_41 : decode cX9_gets 41 = .ok (.aload_n 0, 1) := by decide +kernel
theorem dX9_gets_42 : decode cX9_gets 42 = .ok (.getfield 188, 3) := by decide +kernel
theorem dX9_gets_45 : decode cX9_gets 45 = .ok (.iload_n 1, 1) := by decide +kernel
theorem dX9_gets_46 : decode cX9_gets 46 = .ok (.dup2, 1) := by decide +kernel
theorem dX9_gets_47 : decode cX9_gets 47 = .ok (.iaload, 1) := by decide +kernel
theorem dX9_gets_48 : decode cX9_gets 48 = .ok (.iconst 1, 1) := by decide +kernel
theorem dX9_gets_49 : decode cX9_gets 49 = .ok (.iadd, 1) := by decide +kernel
theorem dX9_gets_50 : decode cX9_gets 50 = .ok (.iastore, 1) := by decide +kernel
theorem dX9_gets_51 : decode cX9_gets 51 = .ok (.aload_n 0, 1) := by decide +kernel
theorem dX9_gets_52 : decode cX9_gets 52 = .ok (.getfield 188, 3) := by decide +kernel
theorem dX9_gets_55 : decode cX9_gets 55 = .ok (.iload_n 1, 1) := by decide +kernel
theorem dX9_gets_56 : decode cX9_gets 56 = .ok (.iaload, 1) := by decide +kernel
theorem dX9_gets_57 : decode cX9_gets 57 = .ok (.bipush 12, 2) := by decide +kernel
theorem dX9_gets_59 : decode cX9_gets 59 = .ok (.if_icmp .ne 9, 3) := by decide +kernel
theorem dX9_gets_62 : decode cX9_gets 62 = .ok (.aload_n 0, 1) := by decide +kernel
theorem dX9_gets_63 : decode cX9_gets 63 = .ok (.iload_n 1, 1) := by decide +kernel
theorem dX9_gets_64 : decode cX9_gets 64 = .ok (.iconst 4, 1) := by decide +kernel
theorem dX9_gets_65 : decode cX9_gets 65 = .ok (.invokevirtual 378, 3) := by decide +kernel
theorem dX9_gets_68 : decode cX9_gets 68 = .ok (.return_, 1) := by decide +kernel
theorem dX9_gets_69 : decode cX9_gets 69 = .ok (.aload_n 0, 1) := by decide +kernel
theorem dX9_gets_70 : decode cX9_gets 70 = .ok (.getfield 113, 3) := by decide +kernel
theorem dX9_gets_73 : decode cX9_gets 73 = .ok (.sipush 300, 3) := by decide +kernel
theorem dX9_gets_76 : decode cX9_gets 76 = .ok (.iload_n 3, 1) := by decide +kernel
theorem dX9_gets_77 : decode cX9_gets 77 = .ok (.imul, 1) := by decide +kernel
theorem dX9_gets_78 : decode cX9_gets 78 = .ok (.iload_n 2, 1) := by decide +kernel
theorem dX9_gets_79 : decode cX9_gets 79 = .ok (.iadd, 1) := by decide +kernel
theorem dX9_gets_80 : decode cX9_gets 80 = .ok (.baload, 1) := by decide +kernel
theorem dX9_gets_81 : decode cX9_gets 81 = .ok (.ifCond .eq 30, 3) := by decide +kernel
theorem dX9_gets_84 : decode cX9_gets 84 = .ok (.aload_n 0, 1) := by decide +kernel
theorem dX9_gets_85 : decode cX9_gets 85 = .ok (.getfield 185, 3) := by decide +kernel
theorem dX9_gets_88 : decode cX9_gets 88 = .ok (.iload_n 1, 1) := by decide +kernel
theorem dX9_gets_89 : decode cX9_gets 89 = .ok (.dup2, 1) := by decide +kernel
theorem dX9_gets_90 : decode cX9_gets 90 = .ok (.iaload, 1) := by decide +kernel
theorem dX9_gets_91 : decode cX9_gets 91 = .ok (.iconst 1, 1) := by decide +kernel
theorem dX9_gets_92 : decode cX9_gets 92 = .ok (.iadd, 1) := by decide +kernel
theorem dX9_gets_93 : decode cX9_gets 93 = .ok (.iastore, 1) := by decide +kernel
theorem dX9_gets_94 : decode cX9_gets 94 = .ok (.aload_n 0, 1) := by decide +kernel
theorem dX9_gets_95 : decode cX9_gets 95 = .ok (.getfield 185, 3) := by decide +kernel
theorem dX9_gets_98 : decode cX9_gets 98 = .ok (.iload_n 1, 1) := by decide +kernel
theorem dX9_gets_99 : decode cX9_gets 99 = .ok (.iaload, 1) := by decide +kernel
theorem dX9_gets_100 : decode cX9_gets 100 = .ok (.iconst 4, 1) := by decide +kernel
theorem dX9_gets_101 : decode cX9_gets 101 = .ok (.if_icmp .ne 9, 3) := by decide +kernel
theorem dX9_gets_104 : decode cX9_gets 104 = .ok (.aload_n 0, 1) := by decide +kernel
theorem dX9_gets_105 : decode cX9_gets 105 = .ok (.iload_n 1, 1) := by decide +kernel
theorem dX9_gets_106 : decode cX9_gets 106 = .ok (.iconst 3, 1) := by decide +kernel
theorem dX9_gets_107 : decode cX9_gets 107 = .ok (.invokevirtual 378, 3) := by decide +kernel
theorem dX9_gets_110 : decode cX9_gets 110 = .ok (.return_, 1) := by decide +kernel
theorem dX9_gets_111 : decode cX9_gets 111 = .ok (.aload_n 0, 1) := by decide +kernel
theorem dX9_gets_112 : decode cX9_gets 112 = .ok (.getfield 188, 3) := by decide +kernel
theorem dX9_gets_115 : decode cX9_gets 115 = .ok (.iload_n 1, 1) := by decide +kernel
theorem dX9_gets_116 : decode cX9_gets 116 = .ok (.iconst 0, 1) := by decide +kernel
theorem dX9_gets_117 : decode cX9_gets 117 = .ok (.iastore, 1) := by decide +kernel
theorem dX9_gets_118 : decode cX9_gets 118 = .ok (.aload_n 0, 1) := by decide +kernel
theorem dX9_gets_119 : decode cX9_gets 119 = .ok (.getfield 170, 3) := by decide +kernel
theorem dX9_gets_122 : decode cX9_gets 122 = .ok (.iload_n 1, 1) := by decide +kernel
theorem dX9_gets_123 : decode cX9_gets 123 = .ok (.dup2, 1) := by decide +kernel
theorem dX9_gets_124 : decode cX9_gets 124 = .ok (.iaload, 1) := by decide +kernel
theorem dX9_gets_125 : decode cX9_gets 125 = .ok (.iconst 1, 1) := by decide +kernel
theorem dX9_gets_126 : decode cX9_gets 126 = .ok (.iadd, 1) := by decide +kernel
theorem dX9_gets_127 : decode cX9_gets 127 = .ok (.iastore, 1) := by decide +kernel
theorem dX9_gets_128 : decode cX9_gets 128 = .ok (.aload_n 0, 1) := by decide +kernel
theorem dX9_gets_129 : decode cX9_gets 129 = .ok (.getfield 170, 3) := by decide +kernel
theorem dX9_gets_132 : decode cX9_gets 132 = .ok (.iload_n 1, 1) := by decide +kernel
theorem dX9_gets_133 : decode cX9_gets 133 = .ok (.iaload, 1) := by decide +kernel
theorem dX9_gets_134 : decode cX9_gets 134 = .ok (.aload_n 0, 1) := by decide +kernel
theorem dX9_gets_135 : decode cX9_gets 135 = .ok (.getfield 98, 3) := by decide +kernel
theorem dX9_gets_138 : decode cX9_gets 138 = .ok (.aload_n 0, 1) := by decide +kernel
theorem dX9_gets_139 : decode cX9_gets 139 = .ok (.getfield 167, 3) := by decide +kernel
theorem dX9_gets_142 : decode cX9_gets 142 = .ok (.iload_n 1, 1) := by decide +kernel
theorem dX9_gets_143 : decode cX9_gets 143 = .ok (.iaload, 1) := by decide +kernel
theorem dX9_gets_144 : decode cX9_gets 144 = .ok (.iaload, 1) := by decide +kernel
theorem dX9_gets_145 : decode cX9_gets 145 = .ok (.if_icmp .ge 4, 3) := by decide +kernel
theorem dX9_gets_148 : decode cX9_gets 148 = .ok (.return_, 1) := by decide +kernel
theorem dX9_gets_149 : decode cX9_gets 149 = .ok (.aload_n 0, 1) := by decide +kernel
theorem dX9_gets_150 : decode cX9_gets 150 = .ok (.getfield 101, 3) := by decide +kernel
theorem dX9_gets_153 : decode cX9_gets 153 = .ok (.aload_n 0, 1) := by decide +kernel
theorem dX9_gets_154 : decode cX9_gets 154 = .ok (.getfield 167, 3) := by decide +kernel
theorem dX9_gets_157 : decode cX9_gets 157 = .ok (.iload_n 1, 1) := by decide +kernel
theorem dX9_gets_158 : decode cX9_gets 158 = .ok (.iaload, 1) := by decide +kernel
theorem dX9_gets_159 : decode cX9_gets 159 = .ok (.iaload, 1) := by decide +kernel
theorem dX9_gets_160 : decode cX9_gets 160 = .ok (.istore 4, 2) := by decide +kernel
theorem dX9_gets_162 : decode cX9_gets 162 = .ok (.aload_n 0, 1) := by decide +kernel
theorem dX9_gets_163 : decode cX9_gets 163 = .ok (.getfield 170, 3) := by decide +kernel
theorem dX9_gets_166 : decode cX9_gets 166 = .ok (.iload_n 1, 1) := by decide +kernel
theorem dX9_gets_167 : decode cX9_gets 167 = .ok (.iconst 0, 1) := by decide +kernel
theorem dX9_gets_168 : decode cX9_gets 168 = .ok (.iastore, 1) := by decide +kernel
theorem dX9_gets_169 : decode cX9_gets 169 = .ok (.aload_n 0, 1) := by decide +kernel
theorem dX9_gets_170 : decode cX9_gets 170 = .ok (.getfield 173, 3) := by decide +kernel
theorem dX9_gets_173 : decode cX9_gets 173 = .ok (.iload_n 1, 1) := by decide +kernel
theorem dX9_gets_174 : decode cX9_gets 174 = .ok (.iload_n 2, 1) := by decide +kernel
theorem dX9_gets_175 : decode cX9_gets 175 = .ok (.iconst 1, 1) := by decide +kernel
theorem dX9_gets_176 : decode cX9_gets 176 = .ok (.iadd, 1) := by decide +kernel
theorem dX9_gets_177 : decode cX9_gets 177 = .ok (.iastore, 1) := by decide +kernel
theorem dX9_gets_178 : decode cX9_gets 178 = .ok (.iload 4, 2) := by decide +kernel
theorem dX9_gets_180 : decode cX9_gets 180 = .ok (.iconst (-1), 1) := by decide +kernel
theorem dX9_gets_181 : decode cX9_gets 181 = .ok (.if_icmp .ne 11, 3) := by decide +kernel
theorem dX9_gets_184 : decode cX9_gets 184 = .ok (.aload_n 0, 1) := by decide +kernel
theorem dX9_gets_185 : decode cX9_gets 185 = .ok (.getfield 158, 3) := by decide +kernel
theorem dX9_gets_188 : decode cX9_gets 188 = .ok (.iload_n 1, 1) := by decide +kernel
theorem dX9_gets_189 : decode cX9_gets 189 = .ok (.iconst 3, 1) := by decide +kernel
theorem dX9_gets_190 : decode cX9_gets 190 = .ok (.iastore, 1) := by decide +kernel
theorem dX9_gets_191 : decode cX9_gets 191 = .ok (.return_, 1) := by decide +kernel
theorem dX9_gets_192 : decode cX9_gets 192 = .ok (.aload_n 0, 1) := by decide +kernel
theorem dX9_gets_193 : decode cX9_gets 193 = .ok (.getfield 194, 3) := by decide +kernel
theorem dX9_gets_196 : decode cX9_gets 196 = .ok (.iload_n 1, 1) := by decide +kernel
theorem dX9_gets_197 : decode cX9_gets 197 = .ok (.dup2, 1) := by decide +kernel
theorem dX9_gets_198 : decode cX9_gets 198 = .ok (.iaload, 1) := by decide +kernel
theorem dX9_gets_199 : decode cX9_gets 199 = .ok (.iconst 1, 1) := by decide +kernel
theorem dX9_gets_200 : decode cX9_gets 200 = .ok (.iadd, 1) := by decide +kernel
theorem dX9_gets_201 : decode cX9_gets 201 = .ok (.iastore, 1) := by decide +kernel
theorem dX9_gets_202 : decode cX9_gets 202 = .ok (.aload_n 0, 1) := by decide +kernel
theorem dX9_gets_203 : decode cX9_gets 203 = .ok (.getfield 194, 3) := by decide +kernel
theorem dX9_gets_206 : decode cX9_gets 206 = .ok (.iload_n 1, 1) := by decide +kernel
theorem dX9_gets_207 : decode cX9_gets 207 = .ok (.iaload, 1) := by decide +kernel
theorem dX9_gets_208 : decode cX9_gets 208 = .ok (.iconst 4, 1) := by decide +kernel
theorem dX9_gets_209 : decode cX9_gets 209 = .ok (.if_icmp .eq 12, 3) := by decide +kernel
theorem dX9_gets_212 : decode cX9_gets 212 = .ok (.iload 4, 2) := by decide +kernel
theorem dX9_gets_214 : decode cX9_gets 214 = .ok (.aload_n 0, 1) := by decide +kernel
theorem dX9_gets_215 : decode cX9_gets 215 = .ok (.getfield 320, 3) := by decide +kernel
theorem dX9_gets_218 : decode cX9_gets 218 = .ok (.if_icmp .lt 12, 3) := by decide +kernel
theorem dX9_gets_221 : decode cX9_gets 221 = .ok (.aload_n 0, 1) := by decide +kernel
theorem dX9_gets_222 : decode cX9_gets 222 = .ok (.iload_n 1, 1) := by decide +kernel
theorem dX9_gets_223 : decode cX9_gets 223 = .ok (.iconst 5, 1) := by decide +kernel
theorem dX9_gets_224 : decode cX9_gets 224 = .ok (.invokevirtual 378, 3) := by decide +kernel
theorem dX9_gets_227 : decode cX9_gets 227 = .ok (.goto 11, 3) := by decide +kernel
theorem dX9_gets_230 : decode cX9_gets 230 = .ok (.aload_n 0, 1) := by decide +kernel
theorem dX9_gets_231 : decode cX9_gets 231 = .ok (.getfield 167, 3) := by decide +kernel
theorem dX9_gets_234 : decode cX9_gets 234 = .ok (.iload_n 1, 1) := by decide +kernel
theorem dX9_gets_235 : decode cX9_gets 235 = .ok (.iload 4, 2) := by decide +kernel
theorem dX9_gets_237 : decode cX9_gets 237 = .ok (.iastore, 1) := by decide +kernel
theorem dX9_gets_238 : decode cX9_gets 238 = .ok (.return_, 1) := by decide +kernel
theorem dX9_writes_0 : decode cX9_writes 0 = .ok (.aload_n 0, 1) := by decide +kernel
theorem dX9_writes_1 : decode cX9_writes 1 = .ok (.getfield 170, 3) := by decide +kernel
theorem dX9_writes_4 : decode cX9_writes 4 = .ok (.iload_n 1, 1) := by decide +kernel
theorem dX9_writes_5 : decode cX9_writes 5 = .ok (.iaload, 1) := by decide +kernel
theorem dX9_writes_6 : decode cX9_writes 6 = .ok (.aload_n 0, 1) := by decide +kernel
theorem dX9_writes_7 : decode cX9_writes 7 = .ok (.getfield 98, 3) := by decide +kernel
theorem dX9_writes_10 : decode cX9_writes 10 = .ok (.aload_n 0, 1) := by decide +kernel
theorem dX9_writes_11 : decode cX9_writes 11 = .ok (.getfield 167, 3) := by decide +kernel
theorem dX9_writes_14 : decode cX9_writes 14 = .ok (.iload_n 1, 1) := by decide +kernel
theorem dX9_writes_15 : decode cX9_writes 15 = .ok (.iaload, 1) := by decide +kernel
theorem dX9_writes_16 : decode cX9_writes 16 = .ok (.iaload, 1) := by decide +kernel
theorem dX9_writes_17 : decode cX9_writes 17 = .ok (.if_icmp .ge 14, 3) := by decide +kernel
theorem dX9_writes_20 : decode cX9_writes 20 = .ok (.aload_n 0, 1) := by decide +kernel
theorem dX9_writes_21 : decode cX9_writes 21 = .ok (.getfield 170, 3) := by decide +kernel
theorem dX9_writes_24 : decode cX9_writes 24 = .ok (.iload_n 1, 1) := by decide +kernel
theorem dX9_writes_25 : decode cX9_writes 25 = .ok (.dup2, 1) := by decide +kernel
theorem dX9_writes_26 : decode cX9_writes 26 = .ok (.iaload, 1) := by decide +kernel
theorem dX9_writes_27 : decode cX9_writes 27 = .ok (.iconst 1, 1) := by decide +kernel
theorem dX9_writes_28 : decode cX9_writes 28 = .ok (.iadd, 1) := by decide +kernel
theorem dX9_writes_29 : decode cX9_writes 29 = .ok (.iastore, 1) := by decide +kernel
theorem dX9_writes_30 : decode cX9_writes 30 = .ok (.return_, 1) := by decide +kernel
theorem dX9_writes_31 : decode cX9_writes 31 = .ok (.aload_n 0, 1) := by decide +kernel
theorem dX9_writes_32 : decode cX9_writes 32 = .ok (.getfield 176, 3) := by decide +kernel
theorem dX9_writes_35 : decode cX9_writes 35 = .ok (.iload_n 1, 1) := by decide +kernel
theorem dX9_writes_36 : decode cX9_writes 36 = .ok (.aload_n 0, 1) := by decide +kernel
theorem dX9_writes_37 : decode cX9_writes 37 = .ok (.getfield 167, 3) := by decide +kernel
theorem dX9_writes_40 : decode cX9_writes 40 = .ok (.iload_n 1, 1) := by decide +kernel
theorem dX9_writes_41 : decode cX9_writes 41 = .ok (.iaload, 1) := by decide +kernel
theorem dX9_writes_42 : decode cX9_writes 42 = .ok (.iastore, 1) := by decide +kernel
theorem dX9_writes_43 : decode cX9_writes 43 = .ok (.aload_n 0, 1) := by decide +kernel
theorem dX9_writes_44 : decode cX9_writes 44 = .ok (.getfield 158, 3) := by decide +kernel
theorem dX9_writes_47 : decode cX9_writes 47 = .ok (.iload_n 1, 1) := by decide +kernel
theorem dX9_writes_48 : decode cX9_writes 48 = .ok (.iconst 4, 1) := by decide +kernel
theorem dX9_writes_49 : decode cX9_writes 49 = .ok (.iastore, 1) := by decide +kernel
theorem dX9_writes_50 : decode cX9_writes 50 = .ok (.aload_n 0, 1) := by decide +kernel
theorem dX9_writes_51 : decode cX9_writes 51 = .ok (.getfield 194, 3) := by decide +kernel
theorem dX9_writes_54 : decode cX9_writes 54 = .ok (.iload_n 1, 1) := by decide +kernel
theorem dX9_writes_55 : decode cX9_writes 55 = .ok (.iconst 0, 1) := by decide +kernel
theorem dX9_writes_56 : decode cX9_writes 56 = .ok (.iastore, 1) := by decide +kernel
theorem dX9_writes_57 : decode cX9_writes 57 = .ok (.aload_n 0, 1) := by decide +kernel
theorem dX9_writes_58 : decode cX9_writes 58 = .ok (.getfield 167, 3) := by decide +kernel
theorem dX9_writes_61 : decode cX9_writes 61 = .ok (.iload_n 1, 1) := by decide +kernel
theorem dX9_writes_62 : decode cX9_writes 62 = .ok (.iconst (-1), 1) := by decide +kernel
theorem dX9_writes_63 : decode cX9_writes 63 = .ok (.iastore, 1) := by decide +kernel
theorem dX9_writes_64 : decode cX9_writes 64 = .ok (.aload_n 0, 1) := by decide +kernel
theorem dX9_writes_65 : decode cX9_writes 65 = .ok (.getfield 170, 3) := by decide +kernel
theorem dX9_writes_68 : decode cX9_writes 68 = .ok (.iload_n 1, 1) := by decide +kernel
theorem dX9_writes_69 : decode cX9_writes 69 = .ok (.iconst (-1), 1) := by decide +kernel
theorem dX9_writes_70 : decode cX9_writes 70 = .ok (.iastore, 1) := by decide +kernel
theorem dX9_writes_71 : decode cX9_writes 71 = .ok (.return_, 1) := by decide +kernel
theorem dX9_keeps_0 : decode cX9_keeps 0 = .ok (.sipush 300, 3) := by decide +kernel
theorem dX9_keeps_3 : decode cX9_keeps 3 = .ok (.iload_n 1, 1) := by decide +kernel
theorem dX9_keeps_4 : decode cX9_keeps 4 = .ok (.imul, 1) := by decide +kernel
theorem dX9_keeps_5 : decode cX9_keeps 5 = .ok (.iload_n 2, 1) := by decide +kernel
theorem dX9_keeps_6 : decode cX9_keeps 6 = .ok (.iadd, 1) := by decide +kernel
theorem dX9_keeps_7 : decode cX9_keeps 7 = .ok (.istore_n 3, 1) := by decide +kernel
theorem dX9_keeps_8 : decode cX9_keeps 8 = .ok (.aload_n 0, 1) := by decide +kernel
theorem dX9_keeps_9 : decode cX9_keeps 9 = .ok (.getfield 122, 3) := by decide +kernel
theorem dX9_keeps_12 : decode cX9_keeps 12 = .ok (.iload_n 3, 1) := by decide +kernel
theorem dX9_keeps_13 : decode cX9_keeps 13 = .ok (.aload_n 0, 1) := by decide +kernel
theorem dX9_keeps_14 : decode cX9_keeps 14 = .ok (.getfield 158, 3) := by decide +kernel
theorem dX9_keeps_17 : decode cX9_keeps 17 = .ok (.iload_n 1, 1) := by decide +kernel
theorem dX9_keeps_18 : decode cX9_keeps 18 = .ok (.iaload, 1) := by decide +kernel
theorem dX9_keeps_19 : decode cX9_keeps 19 = .ok (.iastore, 1) := by decide +kernel
theorem dX9_keeps_20 : decode cX9_keeps 20 = .ok (.aload_n 0, 1) := by decide +kernel
theorem dX9_keeps_21 : decode cX9_keeps 21 = .ok (.getfield 125, 3) := by decide +kernel
theorem dX9_keeps_24 : decode cX9_keeps 24 = .ok (.iload_n 3, 1) := by decide +kernel
theorem dX9_keeps_25 : decode cX9_keeps 25 = .ok (.aload_n 0, 1) := by decide +kernel
theorem dX9_keeps_26 : decode cX9_keeps 26 = .ok (.getfield 167, 3) := by decide +kernel
theorem dX9_keeps_29 : decode cX9_keeps 29 = .ok (.iload_n 1, 1) := by decide +kernel
theorem dX9_keeps_30 : decode cX9_keeps 30 = .ok (.iaload, 1) := by decide +kernel
theorem dX9_keeps_31 : decode cX9_keeps 31 = .ok (.iastore, 1) := by decide +kernel
theorem dX9_keeps_32 : decode cX9_keeps 32 = .ok (.aload_n 0, 1) := by decide +kernel
theorem dX9_keeps_33 : decode cX9_keeps 33 = .ok (.getfield 128, 3) := by decide +kernel
theorem dX9_keeps_36 : decode cX9_keeps 36 = .ok (.iload_n 3, 1) := by decide +kernel
theorem dX9_keeps_37 : decode cX9_keeps 37 = .ok (.aload_n 0, 1) := by decide +kernel
theorem dX9_keeps_38 : decode cX9_keeps 38 = .ok (.getfield 170, 3) := by decide +kernel
theorem dX9_keeps_41 : decode cX9_keeps 41 = .ok (.iload_n 1, 1) := by decide +kernel
theorem dX9_keeps_42 : decode cX9_keeps 42 = .ok (.iaload, 1) := by decide +kernel
theorem dX9_keeps_43 : decode cX9_keeps 43 = .ok (.iastore, 1) := by decide +kernel
theorem dX9_keeps_44 : decode cX9_keeps 44 = .ok (.aload_n 0, 1) := by decide +kernel
theorem dX9_keeps_45 : decode cX9_keeps 45 = .ok (.getfield 131, 3) := by decide +kernel
theorem dX9_keeps_48 : decode cX9_keeps 48 = .ok (.iload_n 3, 1) := by decide +kernel
theorem dX9_keeps_49 : decode cX9_keeps 49 = .ok (.aload_n 0, 1) := by decide +kernel
theorem dX9_keeps_50 : decode cX9_keeps 50 = .ok (.getfield 176, 3) := by decide +kernel
theorem dX9_keeps_53 : decode cX9_keeps 53 = .ok (.iload_n 1, 1) := by decide +kernel
theorem dX9_keeps_54 : decode cX9_keeps 54 = .ok (.iaload, 1) := by decide +kernel
theorem dX9_keeps_55 : decode cX9_keeps 55 = .ok (.iastore, 1) := by decide +kernel
theorem dX9_keeps_56 : decode cX9_keeps 56 = .ok (.aload_n 0, 1) := by decide +kernel
theorem dX9_keeps_57 : decode cX9_keeps 57 = .ok (.getfield 134, 3) := by decide +kernel
theorem dX9_keeps_60 : decode cX9_keeps 60 = .ok (.iload_n 3, 1) := by decide +kernel
theorem dX9_keeps_61 : decode cX9_keeps 61 = .ok (.aload_n 0, 1) := by decide +kernel
theorem dX9_keeps_62 : decode cX9_keeps 62 = .ok (.getfield 179, 3) := by decide +kernel
theorem dX9_keeps_65 : decode cX9_keeps 65 = .ok (.iload_n 1, 1) := by decide +kernel
theorem dX9_keeps_66 : decode cX9_keeps 66 = .ok (.iaload, 1) := by decide +kernel
theorem dX9_keeps_67 : decode cX9_keeps 67 = .ok (.iastore, 1) := by decide +kernel
theorem dX9_keeps_68 : decode cX9_keeps 68 = .ok (.aload_n 0, 1) := by decide +kernel
theorem dX9_keeps_69 : decode cX9_keeps 69 = .ok (.getfield 137, 3) := by decide +kernel
theorem dX9_keeps_72 : decode cX9_keeps 72 = .ok (.iload_n 3, 1) := by decide +kernel
theorem dX9_keeps_73 : decode cX9_keeps 73 = .ok (.aload_n 0, 1) := by decide +kernel
theorem dX9_keeps_74 : decode cX9_keeps 74 = .ok (.getfield 182, 3) := by decide +kernel
theorem dX9_keeps_77 : decode cX9_keeps 77 = .ok (.iload_n 1, 1) := by decide +kernel
theorem dX9_keeps_78 : decode cX9_keeps 78 = .ok (.iaload, 1) := by decide +kernel
theorem dX9_keeps_79 : decode cX9_keeps 79 = .ok (.iastore, 1) := by decide +kernel
theorem dX9_keeps_80 : decode cX9_keeps 80 = .ok (.aload_n 0, 1) := by decide +kernel
theorem dX9_keeps_81 : decode cX9_keeps 81 = .ok (.getfield 140, 3) := by decide +kernel
theorem dX9_keeps_84 : decode cX9_keeps 84 = .ok (.iload_n 3, 1) := by decide +kernel
theorem dX9_keeps_85 : decode cX9_keeps 85 = .ok (.aload_n 0, 1) := by decide +kernel
theorem dX9_keeps_86 : decode cX9_keeps 86 = .ok (.getfield 185, 3) := by decide +kernel
theorem dX9_keeps_89 : decode cX9_keeps 89 = .ok (.iload_n 1, 1) := by decide +kernel
theorem dX9_keeps_90 : decode cX9_keeps 90 = .ok (.iaload, 1) := by decide +kernel
theorem dX9_keeps_91 : decode cX9_keeps 91 = .ok (.iastore, 1) := by decide +kernel
theorem dX9_keeps_92 : decode cX9_keeps 92 = .ok (.aload_n 0, 1) := by decide +kernel
theorem dX9_keeps_93 : decode cX9_keeps 93 = .ok (.getfield 143, 3) := by decide +kernel
theorem dX9_keeps_96 : decode cX9_keeps 96 = .ok (.iload_n 3, 1) := by decide +kernel
theorem dX9_keeps_97 : decode cX9_keeps 97 = .ok (.aload_n 0, 1) := by decide +kernel
theorem dX9_keeps_98 : decode cX9_keeps 98 = .ok (.getfield 188, 3) := by decide +kernel
theorem dX9_keeps_101 : decode cX9_keeps 101 = .ok (.iload_n 1, 1) := by decide +kernel
theorem dX9_keeps_102 : decode cX9_keeps 102 = .ok (.iaload, 1) := by decide +kernel
theorem dX9_keeps_103 : decode cX9_keeps 103 = .ok (.iastore, 1) := by decide +kernel
theorem dX9_keeps_104 : decode cX9_keeps 104 = .ok (.aload_n 0, 1) := by decide +kernel
theorem dX9_keeps_105 : decode cX9_keeps 105 = .ok (.getfield 146, 3) := by decide +kernel
theorem dX9_keeps_108 : decode cX9_keeps 108 = .ok (.iload_n 3, 1) := by decide +kernel
theorem dX9_keeps_109 : decode cX9_keeps 109 = .ok (.aload_n 0, 1) := by decide +kernel
theorem dX9_keeps_110 : decode cX9_keeps 110 = .ok (.getfield 191, 3) := by decide +kernel
theorem dX9_keeps_113 : decode cX9_keeps 113 = .ok (.iload_n 1, 1) := by decide +kernel
theorem dX9_keeps_114 : decode cX9_keeps 114 = .ok (.iaload, 1) := by decide +kernel
theorem dX9_keeps_115 : decode cX9_keeps 115 = .ok (.iastore, 1) := by decide +kernel
theorem dX9_keeps_116 : decode cX9_keeps 116 = .ok (.aload_n 0, 1) := by decide +kernel
theorem dX9_keeps_117 : decode cX9_keeps 117 = .ok (.getfield 149, 3) := by decide +kernel
theorem dX9_keeps_120 : decode cX9_keeps 120 = .ok (.iload_n 3, 1) := by decide +kernel
theorem dX9_keeps_121 : decode cX9_keeps 121 = .ok (.aload_n 0, 1) := by decide +kernel
theorem dX9_keeps_122 : decode cX9_keeps 122 = .ok (.getfield 194, 3) := by decide +kernel
theorem dX9_keeps_125 : decode cX9_keeps 125 = .ok (.iload_n 1, 1) := by decide +kernel
theorem dX9_keeps_126 : decode cX9_keeps 126 = .ok (.iaload, 1) := by decide +kernel
theorem dX9_keeps_127 : decode cX9_keeps 127 = .ok (.iastore, 1) := by decide +kernel
theorem dX9_keeps_128 : decode cX9_keeps 128 = .ok (.return_, 1) := by decide +kernel
theorem dX9_answer_0 : decode cX9_answer 0 = .ok (.iload_n 1, 1) := by decide +kernel
theorem dX9_answer_1 : decode cX9_answer 1 = .ok (.ifCond .lt 23, 3) := by decide +kernel
theorem dX9_answer_4 : decode cX9_answer 4 = .ok (.iload_n 1, 1) := by decide +kernel
theorem dX9_answer_5 : decode cX9_answer 5 = .ok (.iconst 1, 1) := by decide +kernel
theorem dX9_answer_6 : decode cX9_answer 6 = .ok (.if_icmp .gt 18, 3) := by decide +kernel
theorem dX9_answer_9 : decode cX9_answer 9 = .ok (.aload_n 0, 1) := by decide +kernel
theorem dX9_answer_10 : decode cX9_answer 10 = .ok (.iload_n 2, 1) := by decide +kernel
theorem dX9_answer_11 : decode cX9_answer 11 = .ok (.invokevirtual 329, 3) := by decide +kernel
theorem dX9_answer_14 : decode cX9_answer 14 = .ok (.ifCond .eq 10, 3) := by decide +kernel
theorem dX9_answer_17 : decode cX9_answer 17 = .ok (.iload_n 3, 1) := by decide +kernel
theorem dX9_answer_18 : decode cX9_answer 18 = .ok (.invokestatic 323, 3) := by decide +kernel
theorem dX9_answer_21 : decode cX9_answer 21 = .ok (.ifCond .ne 5, 3) := by decide +kernel
theorem dX9_answer_24 : decode cX9_answer 24 = .ok (.iconst (-1), 1) := by decide +kernel
theorem dX9_answer_25 : decode cX9_answer 25 = .ok (.ireturn, 1) := by decide +kernel
theorem dX9_answer_26 : decode cX9_answer 26 = .ok (.aload_n 0, 1) := by decide +kernel
theorem dX9_answer_27 : decode cX9_answer 27 = .ok (.invokevirtual 387, 3) := by decide +kernel
theorem dX9_answer_30 : decode cX9_answer 30 = .ok (.sipush 300, 3) := by decide +kernel
theorem dX9_answer_33 : decode cX9_answer 33 = .ok (.iload_n 2, 1) := by decide +kernel
theorem dX9_answer_34 : decode cX9_answer 34 = .ok (.imul, 1) := by decide +kernel
theorem dX9_answer_35 : decode cX9_answer 35 = .ok (.iload_n 3, 1) := by decide +kernel
theorem dX9_answer_36 : decode cX9_answer 36 = .ok (.iadd, 1) := by decide +kernel
theorem dX9_answer_37 : decode cX9_answer 37 = .ok (.istore 4, 2) := by decide +kernel
theorem dX9_answer_39 : decode cX9_answer 39 = .ok (.aload_n 0, 1) := by decide +kernel
theorem dX9_answer_40 : decode cX9_answer 40 = .ok (.iload_n 2, 1) := by decide +kernel
theorem dX9_answer_41 : decode cX9_answer 41 = .ok (.aload_n 0, 1) := by decide +kernel
theorem dX9_answer_42 : decode cX9_answer 42 = .ok (.getfield 137, 3) := by decide +kernel
theorem dX9_answer_45 : decode cX9_answer 45 = .ok (.iload 4, 2) := by decide +kernel
theorem dX9_answer_47 : decode cX9_answer 47 = .ok (.iaload, 1) := by decide +kernel
theorem dX9_answer_48 : decode cX9_answer 48 = .ok (.aload_n 0, 1) := by decide +kernel
theorem dX9_answer_49 : decode cX9_answer 49 = .ok (.getfield 140, 3) := by decide +kernel
theorem dX9_answer_52 : decode cX9_answer 52 = .ok (.iload 4, 2) := by decide +kernel
theorem dX9_answer_54 : decode cX9_answer 54 = .ok (.iaload, 1) := by decide +kernel
theorem dX9_answer_55 : decode cX9_answer 55 = .ok (.aload_n 0, 1) := by decide +kernel
theorem dX9_answer_56 : decode cX9_answer 56 = .ok (.getfield 146, 3) := by decide +kernel
theorem dX9_answer_59 : decode cX9_answer 59 = .ok (.iload 4, 2) := by decide +kernel
theorem dX9_answer_61 : decode cX9_answer 61 = .ok (.iaload, 1) := by decide +kernel
theorem dX9_answer_62 : decode cX9_answer 62 = .ok (.iload_n 3, 1) := by decide +kernel
theorem dX9_answer_63 : decode cX9_answer 63 = .ok (.invokevirtual 371, 3) := by decide +kernel
theorem dX9_answer_66 : decode cX9_answer 66 = .ok (.aload_n 0, 1) := by decide +kernel
theorem dX9_answer_67 : decode cX9_answer 67 = .ok (.iload_n 1, 1) := by decide +kernel
theorem dX9_answer_68 : decode cX9_answer 68 = .ok (.invokevirtual 375, 3) := by decide +kernel
theorem dX9_answer_71 : decode cX9_answer 71 = .ok (.ireturn, 1) := by decide +kernel
theorem dX9_state_0 : decode cX9_state 0 = .ok (.aload_n 0, 1) := by decide +kernel
theorem dX9_state_1 : decode cX9_state 1 = .ok (.iload_n 1, 1) := by decide +kernel
theorem dX9_state_2 : decode cX9_state 2 = .ok (.invokevirtual 329, 3) := by decide +kernel
theorem dX9_state_5 : decode cX9_state 5 = .ok (.ifCond .eq 20, 3) := by decide +kernel
theorem dX9_state_8 : decode cX9_state 8 = .ok (.iload_n 2, 1) := by decide +kernel
theorem dX9_state_9 : decode cX9_state 9 = .ok (.invokestatic 323, 3) := by decide +kernel
theorem dX9_state_12 : decode cX9_state 12 = .ok (.ifCond .eq 13, 3) := by decide +kernel
theorem dX9_state_15 : decode cX9_state 15 = .ok (.iload_n 3, 1) := by decide +kernel
theorem dX9_state_16 : decode cX9_state 16 = .ok (.ifCond .lt 9, 3) := by decide +kernel
theorem dX9_state_19 : decode cX9_state 19 = .ok (.iload_n 3, 1) := by decide +kernel
theorem dX9_state_20 : decode cX9_state 20 = .ok (.bipush 9, 2) := by decide +kernel
theorem dX9_state_22 : decode cX9_state 22 = .ok (.if_icmp .le 7, 3) := by decide +kernel
theorem dX9_state_25 : decode cX9_state 25 = .ok (.ldc_w 390, 3) := by decide +kernel
theorem dX9_state_28 : decode cX9_state 28 = .ok (.ireturn, 1) := by decide +kernel
theorem dX9_state_29 : decode cX9_state 29 = .ok (.aload_n 0, 1) := by decide +kernel
theorem dX9_state_30 : decode cX9_state 30 = .ok (.invokevirtual 387, 3) := by decide +kernel
theorem dX9_state_33 : decode cX9_state 33 = .ok (.sipush 300, 3) := by decide +kernel
theorem dX9_state_36 : decode cX9_state 36 = .ok (.iload_n 1, 1) := by decide +kernel
theorem dX9_state_37 : decode cX9_state 37 = .ok (.imul, 1) := by decide +kernel
theorem dX9_state_38 : decode cX9_state 38 = .ok (.iload_n 2, 1) := by decide +kernel
theorem dX9_state_39 : decode cX9_state 39 = .ok (.iadd, 1) := by decide +kernel
theorem dX9_state_40 : decode cX9_state 40 = .ok (.istore 4, 2) := by decide +kernel
theorem dX9_state_42 : decode cX9_state 42 = .ok (.iload_n 3, 1) := by decide +kernel
theorem dX9_state_43 : decode cX9_state 43 = .ok (.tableswitch 121 0 8 #[49, 57, 65, 73, 81, 89, 97, 105, 113], 49) := by decide +kernel
theorem dX9_state_92 : decode cX9_state 92 = .ok (.aload_n 0, 1) := by decide +kernel
theorem dX9_state_93 : decode cX9_state 93 = .ok (.getfield 122, 3) := by decide +kernel
theorem dX9_state_96 : decode cX9_state 96 = .ok (.iload 4, 2) := by decide +kernel
theorem dX9_state_98 : decode cX9_state 98 = .ok (.iaload, 1) := by decide +kernel
theorem dX9_state_99 : decode cX9_state 99 = .ok (.ireturn, 1) := by decide +kernel
theorem dX9_state_100 : decode cX9_state 100 = .ok (.aload_n 0, 1) := by decide +kernel
theorem dX9_state_101 : decode cX9_state 101 = .ok (.getfield 125, 3) := by decide +kernel
theorem dX9_state_104 : decode cX9_state 104 = .ok (.iload 4, 2) := by decide +kernel
theorem dX9_state_106 : decode cX9_state 106 = .ok (.iaload, 1) := by decide +kernel
theorem dX9_state_107 : decode cX9_state 107 = .ok (.ireturn, 1) := by decide +kernel
theorem dX9_state_108 : decode cX9_state 108 = .ok (.aload_n 0, 1) := by decide +kernel
theorem dX9_state_109 : decode cX9_state 109 = .ok (.getfield 128, 3) := by decide +kernel
theorem dX9_state_112 : decode cX9_state 112 = .ok (.iload 4, 2) := by decide +kernel
theorem dX9_state_114 : decode cX9_state 114 = .ok (.iaload, 1) := by decide +kernel
theorem dX9_state_115 : decode cX9_state 115 = .ok (.ireturn, 1) := by decide +kernel
theorem dX9_state_116 : decode cX9_state 116 = .ok (.aload_n 0, 1) := by decide +kernel
theorem dX9_state_117 : decode cX9_state 117 = .ok (.getfield 131, 3) := by decide +kernel
theorem dX9_state_120 : decode cX9_state 120 = .ok (.iload 4, 2) := by decide +kernel
theorem dX9_state_122 : decode cX9_state 122 = .ok (.iaload, 1) := by decide +kernel
theorem dX9_state_123 : decode cX9_state 123 = .ok (.ireturn, 1) := by decide +kernel
theorem dX9_state_124 : decode cX9_state 124 = .ok (.aload_n 0, 1) := by decide +kernel
theorem dX9_state_125 : decode cX9_state 125 = .ok (.getfield 134, 3) := by decide +kernel
theorem dX9_state_128 : decode cX9_state 128 = .ok (.iload 4, 2) := by decide +kernel
theorem dX9_state_130 : decode cX9_state 130 = .ok (.iaload, 1) := by decide +kernel
theorem dX9_state_131 : decode cX9_state 131 = .ok (.ireturn, 1) := by decide +kernel
theorem dX9_state_132 : decode cX9_state 132 = .ok (.aload_n 0, 1) := by decide +kernel
theorem dX9_state_133 : decode cX9_state 133 = .ok (.getfield 137, 3) := by decide +kernel
theorem dX9_state_136 : decode cX9_state 136 = .ok (.iload 4, 2) := by decide +kernel
theorem dX9_state_138 : decode cX9_state 138 = .ok (.iaload, 1) := by decide +kernel
theorem dX9_state_139 : decode cX9_state 139 = .ok (.ireturn, 1) := by decide +kernel
theorem dX9_state_140 : decode cX9_state 140 = .ok (.aload_n 0, 1) := by decide +kernel
theorem dX9_state_141 : decode cX9_state 141 = .ok (.getfield 140, 3) := by decide +kernel
theorem dX9_state_144 : decode cX9_state 144 = .ok (.iload 4, 2) := by decide +kernel
theorem dX9_state_146 : decode cX9_state 146 = .ok (.iaload, 1) := by decide +kernel
theorem dX9_state_147 : decode cX9_state 147 = .ok (.ireturn, 1) := by decide +kernel
theorem dX9_state_148 : decode cX9_state 148 = .ok (.aload_n 0, 1) := by decide +kernel
theorem dX9_state_149 : decode cX9_state 149 = .ok (.getfield 143, 3) := by decide +kernel
theorem dX9_state_152 : decode cX9_state 152 = .ok (.iload 4, 2) := by decide +kernel
theorem dX9_state_154 : decode cX9_state 154 = .ok (.iaload, 1) := by decide +kernel
theorem dX9_state_155 : decode cX9_state 155 = .ok (.ireturn, 1) := by decide +kernel
theorem dX9_state_156 : decode cX9_state 156 = .ok (.aload_n 0, 1) := by decide +kernel
theorem dX9_state_157 : decode cX9_state 157 = .ok (.getfield 146, 3) := by decide +kernel
theorem dX9_state_160 : decode cX9_state 160 = .ok (.iload 4, 2) := by decide +kernel
theorem dX9_state_162 : decode cX9_state 162 = .ok (.iaload, 1) := by decide +kernel
theorem dX9_state_163 : decode cX9_state 163 = .ok (.ireturn, 1) := by decide +kernel
theorem dX9_state_164 : decode cX9_state 164 = .ok (.aload_n 0, 1) := by decide +kernel
theorem dX9_state_165 : decode cX9_state 165 = .ok (.getfield 149, 3) := by decide +kernel
theorem dX9_state_168 : decode cX9_state 168 = .ok (.iload 4, 2) := by decide +kernel
theorem dX9_state_170 : decode cX9_state 170 = .ok (.iaload, 1) := by decide +kernel
theorem dX9_state_171 : decode cX9_state 171 = .ok (.ireturn, 1) := by decide +kernel
theorem dX9_sends_0 : decode cX9_sends 0 = .ok (.iload_n 1, 1) := by decide +kernel
theorem dX9_sends_1 : decode cX9_sends 1 = .ok (.invokestatic 323, 3) := by decide +kernel
theorem dX9_sends_4 : decode cX9_sends 4 = .ok (.ifCond .ne 5, 3) := by decide +kernel
theorem dX9_sends_7 : decode cX9_sends 7 = .ok (.iconst (-1), 1) := by decide +kernel
theorem dX9_sends_8 : decode cX9_sends 8 = .ok (.ireturn, 1) := by decide +kernel
theorem dX9_sends_9 : decode cX9_sends 9 = .ok (.aload_n 0, 1) := by decide +kernel
theorem dX9_sends_10 : decode cX9_sends 10 = .ok (.invokevirtual 387, 3) := by decide +kernel
theorem dX9_sends_13 : decode cX9_sends 13 = .ok (.aload_n 0, 1) := by decide +kernel
theorem dX9_sends_14 : decode cX9_sends 14 = .ok (.getfield 152, 3) := by decide +kernel
theorem dX9_sends_17 : decode cX9_sends 17 = .ok (.iload_n 1, 1) := by decide +kernel
theorem dX9_sends_18 : decode cX9_sends 18 = .ok (.iaload, 1) := by decide +kernel
theorem dX9_sends_19 : decode cX9_sends 19 = .ok (.ireturn, 1) := by decide +kernel
theorem dX9_sent_0 : decode cX9_sent 0 = .ok (.aload_n 0, 1) := by decide +kernel
theorem dX9_sent_1 : decode cX9_sent 1 = .ok (.iload_n 1, 1) := by decide +kernel
theorem dX9_sent_2 : decode cX9_sent 2 = .ok (.invokevirtual 336, 3) := by decide +kernel
theorem dX9_sent_5 : decode cX9_sent 5 = .ok (.ifCond .eq 17, 3) := by decide +kernel
theorem dX9_sent_8 : decode cX9_sent 8 = .ok (.iload_n 2, 1) := by decide +kernel
theorem dX9_sent_9 : decode cX9_sent 9 = .ok (.ifCond .lt 13, 3) := by decide +kernel
theorem dX9_sent_12 : decode cX9_sent 12 = .ok (.iload_n 2, 1) := by decide +kernel
theorem dX9_sent_13 : decode cX9_sent 13 = .ok (.aload_n 0, 1) := by decide +kernel
theorem dX9_sent_14 : decode cX9_sent 14 = .ok (.getfield 98, 3) := by decide +kernel
theorem dX9_sent_17 : decode cX9_sent 17 = .ok (.iload_n 1, 1) := by decide +kernel
theorem dX9_sent_18 : decode cX9_sent 18 = .ok (.iaload, 1) := by decide +kernel
theorem dX9_sent_19 : decode cX9_sent 19 = .ok (.if_icmp .lt 5, 3) := by decide +kernel
theorem dX9_sent_22 : decode cX9_sent 22 = .ok (.iconst (-1), 1) := by decide +kernel
theorem dX9_sent_23 : decode cX9_sent 23 = .ok (.ireturn, 1) := by decide +kernel
theorem dX9_sent_24 : decode cX9_sent 24 = .ok (.aload_n 0, 1) := by decide +kernel
theorem dX9_sent_25 : decode cX9_sent 25 = .ok (.invokevirtual 387, 3) := by decide +kernel
theorem dX9_sent_28 : decode cX9_sent 28 = .ok (.aload_n 0, 1) := by decide +kernel
theorem dX9_sent_29 : decode cX9_sent 29 = .ok (.getfield 155, 3) := by decide +kernel
theorem dX9_sent_32 : decode cX9_sent 32 = .ok (.bipush 12, 2) := by decide +kernel
theorem dX9_sent_34 : decode cX9_sent 34 = .ok (.iload_n 1, 1) := by decide +kernel
theorem dX9_sent_35 : decode cX9_sent 35 = .ok (.imul, 1) := by decide +kernel
theorem dX9_sent_36 : decode cX9_sent 36 = .ok (.iload_n 2, 1) := by decide +kernel
theorem dX9_sent_37 : decode cX9_sent 37 = .ok (.iadd, 1) := by decide +kernel
theorem dX9_sent_38 : decode cX9_sent 38 = .ok (.iaload, 1) := by decide +kernel
theorem dX9_sent_39 : decode cX9_sent 39 = .ok (.ireturn, 1) := by decide +kernel
theorem dX9_isDone_0 : decode cX9_isDone 0 = .ok (.iconst 0, 1) := by decide +kernel
theorem dX9_isDone_1 : decode cX9_isDone 1 = .ok (.istore_n 2, 1) := by decide +kernel
theorem dX9_isDone_2 : decode cX9_isDone 2 = .ok (.iload_n 2, 1) := by decide +kernel
theorem dX9_isDone_3 : decode cX9_isDone 3 = .ok (.aload_n 0, 1) := by decide +kernel
theorem dX9_isDone_4 : decode cX9_isDone 4 = .ok (.getfield 317, 3) := by decide +kernel
theorem dX9_isDone_7 : decode cX9_isDone 7 = .ok (.if_icmp .ge 27, 3) := by decide +kernel
theorem dX9_isDone_10 : decode cX9_isDone 10 = .ok (.aload_n 0, 1) := by decide +kernel
theorem dX9_isDone_11 : decode cX9_isDone 11 = .ok (.getfield 122, 3) := by decide +kernel
theorem dX9_isDone_14 : decode cX9_isDone 14 = .ok (.sipush 300, 3) := by decide +kernel
theorem dX9_isDone_17 : decode cX9_isDone 17 = .ok (.iload_n 2, 1) := by decide +kernel
theorem dX9_isDone_18 : decode cX9_isDone 18 = .ok (.imul, 1) := by decide +kernel
theorem dX9_isDone_19 : decode cX9_isDone 19 = .ok (.iload_n 1, 1) := by decide +kernel
theorem dX9_isDone_20 : decode cX9_isDone 20 = .ok (.iadd, 1) := by decide +kernel
theorem dX9_isDone_21 : decode cX9_isDone 21 = .ok (.iaload, 1) := by decide +kernel
theorem dX9_isDone_22 : decode cX9_isDone 22 = .ok (.iconst 4, 1) := by decide +kernel
theorem dX9_isDone_23 : decode cX9_isDone 23 = .ok (.if_icmp .ge 5, 3) := by decide +kernel
theorem dX9_isDone_26 : decode cX9_isDone 26 = .ok (.iconst 0, 1) := by decide +kernel
theorem dX9_isDone_27 : decode cX9_isDone 27 = .ok (.ireturn, 1) := by decide +kernel
theorem dX9_isDone_28 : decode cX9_isDone 28 = .ok (.iinc 2 1, 3) := by decide +kernel
theorem dX9_isDone_31 : decode cX9_isDone 31 = .ok (.goto (-29), 3) := by decide +kernel
theorem dX9_isDone_34 : decode cX9_isDone 34 = .ok (.iconst 1, 1) := by decide +kernel
theorem dX9_isDone_35 : decode cX9_isDone 35 = .ok (.ireturn, 1) := by decide +kernel
theorem dX9_ends_0 : decode cX9_ends 0 = .ok (.aload_n 0, 1) := by decide +kernel
theorem dX9_ends_1 : decode cX9_ends 1 = .ok (.invokevirtual 387, 3) := by decide +kernel
theorem dX9_ends_4 : decode cX9_ends 4 = .ok (.aload_n 0, 1) := by decide +kernel
theorem dX9_ends_5 : decode cX9_ends 5 = .ok (.getfield 317, 3) := by decide +kernel
theorem dX9_ends_8 : decode cX9_ends 8 = .ok (.ifCond .eq 13, 3) := by decide +kernel
theorem dX9_ends_11 : decode cX9_ends 11 = .ok (.aload_n 0, 1) := by decide +kernel
theorem dX9_ends_12 : decode cX9_ends 12 = .ok (.sipush 299, 3) := by decide +kernel
theorem dX9_ends_15 : decode cX9_ends 15 = .ok (.invokevirtual 391, 3) := by decide +kernel
theorem dX9_ends_18 : decode cX9_ends 18 = .ok (.ifCond .ne 5, 3) := by decide +kernel
theorem dX9_ends_21 : decode cX9_ends 21 = .ok (.iconst (-1), 1) := by decide +kernel
theorem dX9_ends_22 : decode cX9_ends 22 = .ok (.ireturn, 1) := by decide +kernel
theorem dX9_ends_23 : decode cX9_ends 23 = .ok (.sipush 299, 3) := by decide +kernel
theorem dX9_ends_26 : decode cX9_ends 26 = .ok (.istore_n 1, 1) := by decide +kernel
theorem dX9_ends_27 : decode cX9_ends 27 = .ok (.iload_n 1, 1) := by decide +kernel
theorem dX9_ends_28 : decode cX9_ends 28 = .ok (.ifCond .le 19, 3) := by decide +kernel
theorem dX9_ends_31 : decode cX9_ends 31 = .ok (.aload_n 0, 1) := by decide +kernel
theorem dX9_ends_32 : decode cX9_ends 32 = .ok (.iload_n 1, 1) := by decide +kernel
theorem dX9_ends_33 : decode cX9_ends 33 = .ok (.iconst 1, 1) := by decide +kernel
theorem dX9_ends_34 : decode cX9_ends 34 = .ok (.isub, 1) := by decide +kernel
theorem dX9_ends_35 : decode cX9_ends 35 = .ok (.invokevirtual 391, 3) := by decide +kernel
theorem dX9_ends_38 : decode cX9_ends 38 = .ok (.ifCond .eq 9, 3) := by decide +kernel
theorem dX9_ends_41 : decode cX9_ends 41 = .ok (.iinc 1 (-1), 3) := by decide +kernel
theorem dX9_ends_44 : decode cX9_ends 44 = .ok (.goto (-17), 3) := by decide +kernel
theorem dX9_ends_47 : decode cX9_ends 47 = .ok (.iload_n 1, 1) := by decide +kernel
theorem dX9_ends_48 : decode cX9_ends 48 = .ok (.ireturn, 1) := by decide +kernel
theorem dX9_up_0 : decode cX9_up 0 = .ok (.aload_n 0, 1) := by decide +kernel
theorem dX9_up_1 : decode cX9_up 1 = .ok (.invokevirtual 387, 3) := by decide +kernel
theorem dX9_up_4 : decode cX9_up 4 = .ok (.iconst 0, 1) := by decide +kernel
theorem dX9_up_5 : decode cX9_up 5 = .ok (.istore_n 1, 1) := by decide +kernel
theorem dX9_up_6 : decode cX9_up 6 = .ok (.iconst 0, 1) := by decide +kernel
theorem dX9_up_7 : decode cX9_up 7 = .ok (.istore_n 2, 1) := by decide +kernel
theorem dX9_up_8 : decode cX9_up 8 = .ok (.iload_n 2, 1) := by decide +kernel
theorem dX9_up_9 : decode cX9_up 9 = .ok (.aload_n 0, 1) := by decide +kernel
theorem dX9_up_10 : decode cX9_up 10 = .ok (.getfield 317, 3) := by decide +kernel
theorem dX9_up_13 : decode cX9_up 13 = .ok (.if_icmp .ge 35, 3) := by decide +kernel
theorem dX9_up_16 : decode cX9_up 16 = .ok (.aload_n 0, 1) := by decide +kernel
theorem dX9_up_17 : decode cX9_up 17 = .ok (.getfield 122, 3) := by decide +kernel
theorem dX9_up_20 : decode cX9_up 20 = .ok (.sipush 300, 3) := by decide +kernel
theorem dX9_up_23 : decode cX9_up 23 = .ok (.iload_n 2, 1) := by decide +kernel
theorem dX9_up_24 : decode cX9_up 24 = .ok (.imul, 1) := by decide +kernel
theorem dX9_up_25 : decode cX9_up 25 = .ok (.sipush 300, 3) := by decide +kernel
theorem dX9_up_28 : decode cX9_up 28 = .ok (.iadd, 1) := by decide +kernel
theorem dX9_up_29 : decode cX9_up 29 = .ok (.iconst 1, 1) := by decide +kernel
theorem dX9_up_30 : decode cX9_up 30 = .ok (.isub, 1) := by decide +kernel
theorem dX9_up_31 : decode cX9_up 31 = .ok (.iaload, 1) := by decide +kernel
theorem dX9_up_32 : decode cX9_up 32 = .ok (.iconst 4, 1) := by decide +kernel
theorem dX9_up_33 : decode cX9_up 33 = .ok (.if_icmp .ne 9, 3) := by decide +kernel
theorem dX9_up_36 : decode cX9_up 36 = .ok (.iload_n 1, 1) := by decide +kernel
theorem dX9_up_37 : decode cX9_up 37 = .ok (.iconst 1, 1) := by decide +kernel
theorem dX9_up_38 : decode cX9_up 38 = .ok (.iload_n 2, 1) := by decide +kernel
theorem dX9_up_39 : decode cX9_up 39 = .ok (.ishl, 1) := by decide +kernel
theorem dX9_up_40 : decode cX9_up 40 = .ok (.ior, 1) := by decide +kernel
theorem dX9_up_41 : decode cX9_up 41 = .ok (.istore_n 1, 1) := by decide +kernel
theorem dX9_up_42 : decode cX9_up 42 = .ok (.iinc 2 1, 3) := by decide +kernel
theorem dX9_up_45 : decode cX9_up 45 = .ok (.goto (-37), 3) := by decide +kernel
theorem dX9_up_48 : decode cX9_up 48 = .ok (.iload_n 1, 1) := by decide +kernel
theorem dX9_up_49 : decode cX9_up 49 = .ok (.ireturn, 1) := by decide +kernel
theorem dX9_log_0 : decode cX9_log 0 = .ok (.aload_n 0, 1) := by decide +kernel
theorem dX9_log_1 : decode cX9_log 1 = .ok (.iload_n 1, 1) := by decide +kernel
theorem dX9_log_2 : decode cX9_log 2 = .ok (.invokevirtual 329, 3) := by decide +kernel
theorem dX9_log_5 : decode cX9_log 5 = .ok (.ifCond .eq 7, 3) := by decide +kernel
theorem dX9_log_8 : decode cX9_log 8 = .ok (.iload_n 2, 1) := by decide +kernel
theorem dX9_log_9 : decode cX9_log 9 = .ok (.ifCond .ge 5, 3) := by decide +kernel
theorem dX9_log_12 : decode cX9_log 12 = .ok (.iconst (-1), 1) := by decide +kernel
theorem dX9_log_13 : decode cX9_log 13 = .ok (.ireturn, 1) := by decide +kernel
theorem dX9_log_14 : decode cX9_log 14 = .ok (.aload_n 0, 1) := by decide +kernel
theorem dX9_log_15 : decode cX9_log 15 = .ok (.invokevirtual 387, 3) := by decide +kernel
theorem dX9_log_18 : decode cX9_log 18 = .ok (.iload_n 2, 1) := by decide +kernel
theorem dX9_log_19 : decode cX9_log 19 = .ok (.istore_n 3, 1) := by decide +kernel
theorem dX9_log_20 : decode cX9_log 20 = .ok (.iconst 0, 1) := by decide +kernel
theorem dX9_log_21 : decode cX9_log 21 = .ok (.istore 4, 2) := by decide +kernel
theorem dX9_log_23 : decode cX9_log 23 = .ok (.iconst 0, 1) := by decide +kernel
theorem dX9_log_24 : decode cX9_log 24 = .ok (.istore 5, 2) := by decide +kernel
theorem dX9_log_26 : decode cX9_log 26 = .ok (.iload 5, 2) := by decide +kernel
theorem dX9_log_28 : decode cX9_log 28 = .ok (.sipush 300, 3) := by decide +kernel
theorem dX9_log_31 : decode cX9_log 31 = .ok (.if_icmp .ge 54, 3) := by decide +kernel
theorem dX9_log_34 : decode cX9_log 34 = .ok (.aload_n 0, 1) := by decide +kernel
theorem dX9_log_35 : decode cX9_log 35 = .ok (.getfield 122, 3) := by decide +kernel
theorem dX9_log_38 : decode cX9_log 38 = .ok (.sipush 300, 3) := by decide +kernel
theorem dX9_log_41 : decode cX9_log 41 = .ok (.iload_n 1, 1) := by decide +kernel
theorem dX9_log_42 : decode cX9_log 42 = .ok (.imul, 1) := by decide +kernel
theorem dX9_log_43 : decode cX9_log 43 = .ok (.iload 5, 2) := by decide +kernel
theorem dX9_log_45 : decode cX9_log 45 = .ok (.iadd, 1) := by decide +kernel
theorem dX9_log_46 : decode cX9_log 46 = .ok (.iaload, 1) := by decide +kernel
theorem dX9_log_47 : decode cX9_log 47 = .ok (.istore 6, 2) := by decide +kernel
theorem dX9_log_49 : decode cX9_log 49 = .ok (.iload 6, 2) := by decide +kernel
theorem dX9_log_51 : decode cX9_log 51 = .ok (.iload 4, 2) := by decide +kernel
theorem dX9_log_53 : decode cX9_log 53 = .ok (.if_icmp .ne 6, 3) := by decide +kernel
theorem dX9_log_56 : decode cX9_log 56 = .ok (.goto 23, 3) := by decide +kernel
theorem dX9_log_59 : decode cX9_log 59 = .ok (.iload 6, 2) := by decide +kernel
theorem dX9_log_61 : decode cX9_log 61 = .ok (.istore 4, 2) := by decide +kernel
theorem dX9_log_63 : decode cX9_log 63 = .ok (.iload_n 3, 1) := by decide +kernel
theorem dX9_log_64 : decode cX9_log 64 = .ok (.ifCond .ne 12, 3) := by decide +kernel
theorem dX9_log_67 : decode cX9_log 67 = .ok (.bipush 10, 2) := by decide +kernel
theorem dX9_log_69 : decode cX9_log 69 = .ok (.iload 5, 2) := by decide +kernel
theorem dX9_log_71 : decode cX9_log 71 = .ok (.imul, 1) := by decide +kernel
theorem dX9_log_72 : decode cX9_log 72 = .ok (.iload 6, 2) := by decide +kernel
theorem dX9_log_74 : decode cX9_log 74 = .ok (.iadd, 1) := by decide +kernel
theorem dX9_log_75 : decode cX9_log 75 = .ok (.ireturn, 1) := by decide +kernel
theorem dX9_log_76 : decode cX9_log 76 = .ok (.iinc 3 (-1), 3) := by decide +kernel
theorem dX9_log_79 : decode cX9_log 79 = .ok (.iinc 5 1, 3) := by decide +kernel
theorem dX9_log_82 : decode cX9_log 82 = .ok (.goto (-56), 3) := by decide +kernel
theorem dX9_log_85 : decode cX9_log 85 = .ok (.iconst (-1), 1) := by decide +kernel
theorem dX9_log_86 : decode cX9_log 86 = .ok (.ireturn, 1) := by decide +kernel
theorem dX9_bits_0 : decode cX9_bits 0 = .ok (.iconst 0, 1) := by decide +kernel
theorem dX9_bits_1 : decode cX9_bits 1 = .ok (.istore_n 1, 1) := by decide +kernel
theorem dX9_bits_2 : decode cX9_bits 2 = .ok (.iconst 0, 1) := by decide +kernel
theorem dX9_bits_3 : decode cX9_bits 3 = .ok (.istore_n 2, 1) := by decide +kernel
theorem dX9_bits_4 : decode cX9_bits 4 = .ok (.iload_n 2, 1) := by decide +kernel
theorem dX9_bits_5 : decode cX9_bits 5 = .ok (.bipush 8, 2) := by decide +kernel
theorem dX9_bits_7 : decode cX9_bits 7 = .ok (.if_icmp .ge 17, 3) := by decide +kernel
theorem dX9_bits_10 : decode cX9_bits 10 = .ok (.iload_n 1, 1) := by decide +kernel
theorem dX9_bits_11 : decode cX9_bits 11 = .ok (.iload_n 0, 1) := by decide +kernel
theorem dX9_bits_12 : decode cX9_bits 12 = .ok (.iload_n 2, 1) := by decide +kernel
theorem dX9_bits_13 : decode cX9_bits 13 = .ok (.ishr, 1) := by decide +kernel
theorem dX9_bits_14 : decode cX9_bits 14 = .ok (.iconst 1, 1) := by decide +kernel
theorem dX9_bits_15 : decode cX9_bits 15 = .ok (.iand, 1) := by decide +kernel
theorem dX9_bits_16 : decode cX9_bits 16 = .ok (.iadd, 1) := by decide +kernel
theorem dX9_bits_17 : decode cX9_bits 17 = .ok (.istore_n 1, 1) := by decide +kernel
theorem dX9_bits_18 : decode cX9_bits 18 = .ok (.iinc 2 1, 3) := by decide +kernel
theorem dX9_bits_21 : decode cX9_bits 21 = .ok (.goto (-17), 3) := by decide +kernel
theorem dX9_bits_24 : decode cX9_bits 24 = .ok (.iload_n 1, 1) := by decide +kernel
theorem dX9_bits_25 : decode cX9_bits 25 = .ok (.ireturn, 1) := by decide +kernel
theorem dX9_plan_0 : decode cX9_plan 0 = .ok (.iload_n 1, 1) := by decide +kernel
theorem dX9_plan_1 : decode cX9_plan 1 = .ok (.iconst 1, 1) := by decide +kernel
theorem dX9_plan_2 : decode cX9_plan 2 = .ok (.if_icmp .lt 9, 3) := by decide +kernel
theorem dX9_plan_5 : decode cX9_plan 5 = .ok (.iload_n 1, 1) := by decide +kernel
theorem dX9_plan_6 : decode cX9_plan 6 = .ok (.bipush 20, 2) := by decide +kernel
theorem dX9_plan_8 : decode cX9_plan 8 = .ok (.if_icmp .le 6, 3) := by decide +kernel
theorem dX9_plan_11 : decode cX9_plan 11 = .ok (.bipush (-2), 2) := by decide +kernel
theorem dX9_plan_13 : decode cX9_plan 13 = .ok (.ireturn, 1) := by decide +kernel
theorem dX9_plan_14 : decode cX9_plan 14 = .ok (.iconst 0, 1) := by decide +kernel
theorem dX9_plan_15 : decode cX9_plan 15 = .ok (.istore_n 2, 1) := by decide +kernel
theorem dX9_plan_16 : decode cX9_plan 16 = .ok (.iconst 0, 1) := by decide +kernel
theorem dX9_plan_17 : decode cX9_plan 17 = .ok (.istore_n 3, 1) := by decide +kernel
theorem dX9_plan_18 : decode cX9_plan 18 = .ok (.iload_n 3, 1) := by decide +kernel
theorem dX9_plan_19 : decode cX9_plan 19 = .ok (.aload_n 0, 1) := by decide +kernel
theorem dX9_plan_20 : decode cX9_plan 20 = .ok (.getfield 317, 3) := by decide +kernel
theorem dX9_plan_23 : decode cX9_plan 23 = .ok (.if_icmp .ge 20, 3) := by decide +kernel
theorem dX9_plan_26 : decode cX9_plan 26 = .ok (.iload_n 2, 1) := by decide +kernel
theorem dX9_plan_27 : decode cX9_plan 27 = .ok (.iconst 1, 1) := by decide +kernel
theorem dX9_plan_28 : decode cX9_plan 28 = .ok (.aload_n 0, 1) := by decide +kernel
theorem dX9_plan_29 : decode cX9_plan 29 = .ok (.getfield 86, 3) := by decide +kernel
theorem dX9_plan_32 : decode cX9_plan 32 = .ok (.iload_n 3, 1) := by decide +kernel
theorem dX9_plan_33 : decode cX9_plan 33 = .ok (.iaload, 1) := by decide +kernel
theorem dX9_plan_34 : decode cX9_plan 34 = .ok (.ishl, 1) := by decide +kernel
theorem dX9_plan_35 : decode cX9_plan 35 = .ok (.ior, 1) := by decide +kernel
theorem dX9_plan_36 : decode cX9_plan 36 = .ok (.istore_n 2, 1) := by decide +kernel
theorem dX9_plan_37 : decode cX9_plan 37 = .ok (.iinc 3 1, 3) := by decide +kernel
theorem dX9_plan_40 : decode cX9_plan 40 = .ok (.goto (-22), 3) := by decide +kernel
theorem dX9_plan_43 : decode cX9_plan 43 = .ok (.iconst (-1), 1) := by decide +kernel
theorem dX9_plan_44 : decode cX9_plan 44 = .ok (.istore_n 3, 1) := by decide +kernel
theorem dX9_plan_45 : decode cX9_plan 45 = .ok (.iconst 0, 1) := by decide +kernel
theorem dX9_plan_46 : decode cX9_plan 46 = .ok (.istore 4, 2) := by decide +kernel
theorem dX9_plan_48 : decode cX9_plan 48 = .ok (.iconst 0, 1) := by decide +kernel
theorem dX9_plan_49 : decode cX9_plan 49 = .ok (.istore 5, 2) := by decide +kernel
theorem dX9_plan_51 : decode cX9_plan 51 = .ok (.iconst 0, 1) := by decide +kernel
theorem dX9_plan_52 : decode cX9_plan 52 = .ok (.istore 6, 2) := by decide +kernel
theorem dX9_plan_54 : decode cX9_plan 54 = .ok (.iload 6, 2) := by decide +kernel
theorem dX9_plan_56 : decode cX9_plan 56 = .ok (.sipush 256, 3) := by decide +kernel
theorem dX9_plan_59 : decode cX9_plan 59 = .ok (.if_icmp .ge 198, 3) := by decide +kernel
theorem dX9_plan_62 : decode cX9_plan 62 = .ok (.iconst 1, 1) := by decide +kernel
theorem dX9_plan_63 : decode cX9_plan 63 = .ok (.istore 7, 2) := by decide +kernel
theorem dX9_plan_65 : decode cX9_plan 65 = .ok (.iconst 0, 1) := by decide +kernel
theorem dX9_plan_66 : decode cX9_plan 66 = .ok (.istore 8, 2) := by decide +kernel
theorem dX9_plan_68 : decode cX9_plan 68 = .ok (.iload 8, 2) := by decide +kernel
theorem dX9_plan_70 : decode cX9_plan 70 = .ok (.iconst 4, 1) := by decide +kernel
theorem dX9_plan_71 : decode cX9_plan 71 = .ok (.if_icmp .ge 61, 3) := by decide +kernel
theorem dX9_plan_74 : decode cX9_plan 74 = .ok (.iload 6, 2) := by decide +kernel
theorem dX9_plan_76 : decode cX9_plan 76 = .ok (.bipush 6, 2) := by decide +kernel
theorem dX9_plan_78 : decode cX9_plan 78 = .ok (.iconst 2, 1) := by decide +kernel
theorem dX9_plan_79 : decode cX9_plan 79 = .ok (.iload 8, 2) := by decide +kernel
theorem dX9_plan_81 : decode cX9_plan 81 = .ok (.imul, 1) := by decide +kernel
theorem dX9_plan_82 : decode cX9_plan 82 = .ok (.isub, 1) := by decide +kernel
theorem dX9_plan_83 : decode cX9_plan 83 = .ok (.ishr, 1) := by decide +kernel
theorem dX9_plan_84 : decode cX9_plan 84 = .ok (.iconst 3, 1) := by decide +kernel
theorem dX9_plan_85 : decode cX9_plan 85 = .ok (.iand, 1) := by decide +kernel
theorem dX9_plan_86 : decode cX9_plan 86 = .ok (.istore 9, 2) := by decide +kernel
theorem dX9_plan_88 : decode cX9_plan 88 = .ok (.aload_n 0, 1) := by decide +kernel
theorem dX9_plan_89 : decode cX9_plan 89 = .ok (.getfield 95, 3) := by decide +kernel
theorem dX9_plan_92 : decode cX9_plan 92 = .ok (.iload 8, 2) := by decide +kernel
theorem dX9_plan_94 : decode cX9_plan 94 = .ok (.iload 9, 2) := by decide +kernel
theorem dX9_plan_96 : decode cX9_plan 96 = .ok (.iload_n 1, 1) := by decide +kernel
theorem dX9_plan_97 : decode cX9_plan 97 = .ok (.imul, 1) := by decide +kernel
theorem dX9_plan_98 : decode cX9_plan 98 = .ok (.iastore, 1) := by decide +kernel
theorem dX9_plan_99 : decode cX9_plan 99 = .ok (.iload 7, 2) := by decide +kernel
theorem dX9_plan_101 : decode cX9_plan 101 = .ok (.ifCond .eq 22, 3) := by decide +kernel
theorem dX9_plan_104 : decode cX9_plan 104 = .ok (.iload 9, 2) := by decide +kernel
theorem dX9_plan_106 : decode cX9_plan 106 = .ok (.ifCond .eq 13, 3) := by decide +kernel
theorem dX9_plan_109 : decode cX9_plan 109 = .ok (.iload_n 2, 1) := by decide +kernel
theorem dX9_plan_110 : decode cX9_plan 110 = .ok (.iload 8, 2) := by decide +kernel
theorem dX9_plan_112 : decode cX9_plan 112 = .ok (.ishr, 1) := by decide +kernel
theorem dX9_plan_113 : decode cX9_plan 113 = .ok (.iconst 1, 1) := by decide +kernel
theorem dX9_plan_114 : decode cX9_plan 114 = .ok (.iand, 1) := by decide +kernel
theorem dX9_plan_115 : decode cX9_plan 115 = .ok (.iconst 1, 1) := by decide +kernel
theorem dX9_plan_116 : decode cX9_plan 116 = .ok (.if_icmp .ne 7, 3) := by decide +kernel
theorem dX9_plan_119 : decode cX9_plan 119 = .ok (.iconst 1, 1) := by decide +kernel
theorem dX9_plan_120 : decode cX9_plan 120 = .ok (.goto 4, 3) := by decide +kernel
theorem dX9_plan_123 : decode cX9_plan 123 = .ok (.iconst 0, 1) := by decide +kernel
theorem dX9_plan_124 : decode cX9_plan 124 = .ok (.istore 7, 2) := by decide +kernel
theorem dX9_plan_126 : decode cX9_plan 126 = .ok (.iinc 8 1, 3) := by decide +kernel
theorem dX9_plan_129 : decode cX9_plan 129 = .ok (.goto (-61), 3) := by decide +kernel
theorem dX9_plan_132 : decode cX9_plan 132 = .ok (.iload 7, 2) := by decide +kernel
theorem dX9_plan_134 : decode cX9_plan 134 = .ok (.ifCond .ne 6, 3) := by decide +kernel
theorem dX9_plan_137 : decode cX9_plan 137 = .ok (.goto 114, 3) := by decide +kernel
theorem dX9_plan_140 : decode cX9_plan 140 = .ok (.aload_n 0, 1) := by decide +kernel
theorem dX9_plan_141 : decode cX9_plan 141 = .ok (.iconst 0, 1) := by decide +kernel
theorem dX9_plan_142 : decode cX9_plan 142 = .ok (.putfield 290, 3) := by decide +kernel
theorem dX9_plan_145 : decode cX9_plan 145 = .ok (.aload_n 0, 1) := by decide +kernel
theorem dX9_plan_146 : decode cX9_plan 146 = .ok (.invokevirtual 394, 3) := by decide +kernel
theorem dX9_plan_149 : decode cX9_plan 149 = .ok (.invokestatic 397, 3) := by decide +kernel
theorem dX9_plan_152 : decode cX9_plan 152 = .ok (.istore 8, 2) := by decide +kernel
theorem dX9_plan_154 : decode cX9_plan 154 = .ok (.aload_n 0, 1) := by decide +kernel
theorem dX9_plan_155 : decode cX9_plan 155 = .ok (.invokevirtual 400, 3) := by decide +kernel
theorem dX9_plan_158 : decode cX9_plan 158 = .ok (.istore 9, 2) := by decide +kernel
theorem dX9_plan_160 : decode cX9_plan 160 = .ok (.iload 9, 2) := by decide +kernel
theorem dX9_plan_162 : decode cX9_plan 162 = .ok (.iconst (-1), 1) := by decide +kernel
theorem dX9_plan_163 : decode cX9_plan 163 = .ok (.if_icmp .ne 8, 3) := by decide +kernel
theorem dX9_plan_166 : decode cX9_plan 166 = .ok (.sipush 300, 3) := by decide +kernel
theorem dX9_plan_169 : decode cX9_plan 169 = .ok (.istore 9, 2) := by decide +kernel
theorem dX9_plan_171 : decode cX9_plan 171 = .ok (.iload 8, 2) := by decide +kernel
theorem dX9_plan_173 : decode cX9_plan 173 = .ok (.iload_n 3, 1) := by decide +kernel
theorem dX9_plan_174 : decode cX9_plan 174 = .ok (.if_icmp .lt 77, 3) := by decide +kernel
theorem dX9_plan_177 : decode cX9_plan 177 = .ok (.iload 8, 2) := by decide +kernel
theorem dX9_plan_179 : decode cX9_plan 179 = .ok (.iload_n 3, 1) := by decide +kernel
theorem dX9_plan_180 : decode cX9_plan 180 = .ok (.if_icmp .ne 29, 3) := by decide +kernel
theorem dX9_plan_183 : decode cX9_plan 183 = .ok (.iload 9, 2) := by decide +kernel
theorem dX9_plan_185 : decode cX9_plan 185 = .ok (.iload 4, 2) := by decide +kernel
theorem dX9_plan_187 : decode cX9_plan 187 = .ok (.if_icmp .gt 64, 3) := by decide +kernel
theorem dX9_plan_190 : decode cX9_plan 190 = .ok (.iload 9, 2) := by decide +kernel
theorem dX9_plan_192 : decode cX9_plan 192 = .ok (.iload 4, 2) := by decide +kernel
theorem dX9_plan_194 : decode cX9_plan 194 = .ok (.if_icmp .ne 15, 3) := by decide +kernel
theorem dX9_plan_197 : decode cX9_plan 197 = .ok (.aload_n 0, 1) := by decide +kernel
theorem dX9_plan_198 : decode cX9_plan 198 = .ok (.getfield 350, 3) := by decide +kernel
theorem dX9_plan_201 : decode cX9_plan 201 = .ok (.iload 5, 2) := by decide +kernel
theorem dX9_plan_203 : decode cX9_plan 203 = .ok (.if_icmp .lt 6, 3) := by decide +kernel
theorem dX9_plan_206 : decode cX9_plan 206 = .ok (.goto 45, 3) := by decide +kernel
theorem dX9_plan_209 : decode cX9_plan 209 = .ok (.iload 8, 2) := by decide +kernel
theorem dX9_plan_211 : decode cX9_plan 211 = .ok (.istore_n 3, 1) := by decide +kernel
theorem dX9_plan_212 : decode cX9_plan 212 = .ok (.iload 9, 2) := by decide +kernel
theorem dX9_plan_214 : decode cX9_plan 214 = .ok (.istore 4, 2) := by decide +kernel
theorem dX9_plan_216 : decode cX9_plan 216 = .ok (.aload_n 0, 1) := by decide +kernel
theorem dX9_plan_217 : decode cX9_plan 217 = .ok (.getfield 350, 3) := by decide +kernel
theorem dX9_plan_220 : decode cX9_plan 220 = .ok (.istore 5, 2) := by decide +kernel
theorem dX9_plan_222 : decode cX9_plan 222 = .ok (.iconst 0, 1) := by decide +kernel
theorem dX9_plan_223 : decode cX9_plan 223 = .ok (.istore 10, 2) := by decide +kernel
theorem dX9_plan_225 : decode cX9_plan 225 = .ok (.iload 10, 2) := by decide +kernel
theorem dX9_plan_227 : decode cX9_plan 227 = .ok (.iconst 4, 1) := by decide +kernel
theorem dX9_plan_228 : decode cX9_plan 228 = .ok (.if_icmp .ge 23, 3) := by decide +kernel
theorem dX9_plan_231 : decode cX9_plan 231 = .ok (.aload_n 0, 1) := by decide +kernel
theorem dX9_plan_232 : decode cX9_plan 232 = .ok (.getfield 203, 3) := by decide +kernel
theorem dX9_plan_235 : decode cX9_plan 235 = .ok (.iload 10, 2) := by decide +kernel
theorem dX9_plan_237 : decode cX9_plan 237 = .ok (.aload_n 0, 1) := by decide +kernel
theorem dX9_plan_238 : decode cX9_plan 238 = .ok (.getfield 95, 3) := by decide +kernel
theorem dX9_plan_241 : decode cX9_plan 241 = .ok (.iload 10, 2) := by decide +kernel
theorem dX9_plan_243 : decode cX9_plan 243 = .ok (.iaload, 1) := by decide +kernel
theorem dX9_plan_244 : decode cX9_plan 244 = .ok (.iastore, 1) := by decide +kernel
theorem dX9_plan_245 : decode cX9_plan 245 = .ok (.iinc 10 1, 3) := by decide +kernel
theorem dX9_plan_248 : decode cX9_plan 248 = .ok (.goto (-23), 3) := by decide +kernel
theorem dX9_plan_251 : decode cX9_plan 251 = .ok (.iinc 6 1, 3) := by decide +kernel
theorem dX9_plan_254 : decode cX9_plan 254 = .ok (.goto (-200), 3) := by decide +kernel
theorem dX9_plan_257 : decode cX9_plan 257 = .ok (.iconst 0, 1) := by decide +kernel
theorem dX9_plan_258 : decode cX9_plan 258 = .ok (.istore 6, 2) := by decide +kernel
theorem dX9_plan_260 : decode cX9_plan 260 = .ok (.iload 6, 2) := by decide +kernel
theorem dX9_plan_262 : decode cX9_plan 262 = .ok (.iconst 4, 1) := by decide +kernel
theorem dX9_plan_263 : decode cX9_plan 263 = .ok (.if_icmp .ge 23, 3) := by decide +kernel
theorem dX9_plan_266 : decode cX9_plan 266 = .ok (.aload_n 0, 1) := by decide +kernel
theorem dX9_plan_267 : decode cX9_plan 267 = .ok (.getfield 95, 3) := by decide +kernel
theorem dX9_plan_270 : decode cX9_plan 270 = .ok (.iload 6, 2) := by decide +kernel
theorem dX9_plan_272 : decode cX9_plan 272 = .ok (.aload_n 0, 1) := by decide +kernel
theorem dX9_plan_273 : decode cX9_plan 273 = .ok (.getfield 203, 3) := by decide +kernel
theorem dX9_plan_276 : decode cX9_plan 276 = .ok (.iload 6, 2) := by decide +kernel
theorem dX9_plan_278 : decode cX9_plan 278 = .ok (.iaload, 1) := by decide +kernel
theorem dX9_plan_279 : decode cX9_plan 279 = .ok (.iastore, 1) := by decide +kernel
theorem dX9_plan_280 : decode cX9_plan 280 = .ok (.iinc 6 1, 3) := by decide +kernel
theorem dX9_plan_283 : decode cX9_plan 283 = .ok (.goto (-23), 3) := by decide +kernel
theorem dX9_plan_286 : decode cX9_plan 286 = .ok (.aload_n 0, 1) := by decide +kernel
theorem dX9_plan_287 : decode cX9_plan 287 = .ok (.iconst 0, 1) := by decide +kernel
theorem dX9_plan_288 : decode cX9_plan 288 = .ok (.putfield 290, 3) := by decide +kernel
theorem dX9_plan_291 : decode cX9_plan 291 = .ok (.iload 4, 2) := by decide +kernel
theorem dX9_plan_293 : decode cX9_plan 293 = .ok (.sipush 300, 3) := by decide +kernel
theorem dX9_plan_296 : decode cX9_plan 296 = .ok (.if_icmp .ne 7, 3) := by decide +kernel
theorem dX9_plan_299 : decode cX9_plan 299 = .ok (.iconst (-1), 1) := by decide +kernel
theorem dX9_plan_300 : decode cX9_plan 300 = .ok (.goto 5, 3) := by decide +kernel
theorem dX9_plan_303 : decode cX9_plan 303 = .ok (.iload 4, 2) := by decide +kernel
theorem dX9_plan_305 : decode cX9_plan 305 = .ok (.ireturn, 1) := by decide +kernel
theorem dX9_wakes_0 : decode cX9_wakes 0 = .ok (.iload_n 1, 1) := by decide +kernel
theorem dX9_wakes_1 : decode cX9_wakes 1 = .ok (.ifCond .lt 17, 3) := by decide +kernel
theorem dX9_wakes_4 : decode cX9_wakes 4 = .ok (.iload_n 1, 1) := by decide +kernel
theorem dX9_wakes_5 : decode cX9_wakes 5 = .ok (.iconst 4, 1) := by decide +kernel
theorem dX9_wakes_6 : decode cX9_wakes 6 = .ok (.if_icmp .ge 12, 3) := by decide +kernel
theorem dX9_wakes_9 : decode cX9_wakes 9 = .ok (.aload_n 0, 1) := by decide +kernel
theorem dX9_wakes_10 : decode cX9_wakes 10 = .ok (.getfield 95, 3) := by decide +kernel
theorem dX9_wakes_13 : decode cX9_wakes 13 = .ok (.iload_n 1, 1) := by decide +kernel
theorem dX9_wakes_14 : decode cX9_wakes 14 = .ok (.iaload, 1) := by decide +kernel
theorem dX9_wakes_15 : decode cX9_wakes 15 = .ok (.goto 4, 3) := by decide +kernel
theorem dX9_wakes_18 : decode cX9_wakes 18 = .ok (.iconst (-1), 1) := by decide +kernel
theorem dX9_wakes_19 : decode cX9_wakes 19 = .ok (.ireturn, 1) := by decide +kernel
theorem dX9_count_0 : decode cX9_count 0 = .ok (.iload_n 1, 1) := by decide +kernel
theorem dX9_count_1 : decode cX9_count 1 = .ok (.tableswitch 107 0 7 #[47, 52, 57, 69, 83, 88, 93, 102], 47) := by decide +kernel
theorem dX9_count_48 : decode cX9_count 48 = .ok (.aload_n 0, 1) := by decide +kernel
theorem dX9_count_49 : decode cX9_count 49 = .ok (.getfield 317, 3) := by decide +kernel
theorem dX9_count_52 : decode cX9_count 52 = .ok (.ireturn, 1) := by decide +kernel
theorem dX9_count_53 : decode cX9_count 53 = .ok (.aload_n 0, 1) := by decide +kernel
theorem dX9_count_54 : decode cX9_count 54 = .ok (.getfield 320, 3) := by decide +kernel
theorem dX9_count_57 : decode cX9_count 57 = .ok (.ireturn, 1) := by decide +kernel
theorem dX9_count_58 : decode cX9_count 58 = .ok (.aload_n 0, 1) := by decide +kernel
theorem dX9_count_59 : decode cX9_count 59 = .ok (.getfield 43, 3) := by decide +kernel
theorem dX9_count_62 : decode cX9_count 62 = .ok (.aload_n 0, 1) := by decide +kernel
theorem dX9_count_63 : decode cX9_count 63 = .ok (.getfield 40, 3) := by decide +kernel
theorem dX9_count_66 : decode cX9_count 66 = .ok (.iconst 0, 1) := by decide +kernel
theorem dX9_count_67 : decode cX9_count 67 = .ok (.iaload, 1) := by decide +kernel
theorem dX9_count_68 : decode cX9_count 68 = .ok (.iaload, 1) := by decide +kernel
theorem dX9_count_69 : decode cX9_count 69 = .ok (.ireturn, 1) := by decide +kernel
theorem dX9_count_70 : decode cX9_count 70 = .ok (.aload_n 0, 1) := by decide +kernel
theorem dX9_count_71 : decode cX9_count 71 = .ok (.getfield 43, 3) := by decide +kernel
theorem dX9_count_74 : decode cX9_count 74 = .ok (.iconst 2, 1) := by decide +kernel
theorem dX9_count_75 : decode cX9_count 75 = .ok (.aload_n 0, 1) := by decide +kernel
theorem dX9_count_76 : decode cX9_count 76 = .ok (.getfield 40, 3) := by decide +kernel
theorem dX9_count_79 : decode cX9_count 79 = .ok (.iconst 1, 1) := by decide +kernel
theorem dX9_count_80 : decode cX9_count 80 = .ok (.iaload, 1) := by decide +kernel
theorem dX9_count_81 : decode cX9_count 81 = .ok (.iadd, 1) := by decide +kernel
theorem dX9_count_82 : decode cX9_count 82 = .ok (.iaload, 1) := by decide +kernel
theorem dX9_count_83 : decode cX9_count 83 = .ok (.ireturn, 1) := by decide +kernel
theorem dX9_count_84 : decode cX9_count 84 = .ok (.aload_n 0, 1) := by decide +kernel
theorem dX9_count_85 : decode cX9_count 85 = .ok (.getfield 326, 3) := by decide +kernel
theorem dX9_count_88 : decode cX9_count 88 = .ok (.ireturn, 1) := by decide +kernel
theorem dX9_count_89 : decode cX9_count 89 = .ok (.aload_n 0, 1) := by decide +kernel
theorem dX9_count_90 : decode cX9_count 90 = .ok (.getfield 210, 3) := by decide +kernel
theorem dX9_count_93 : decode cX9_count 93 = .ok (.ireturn, 1) := by decide +kernel
theorem dX9_count_94 : decode cX9_count 94 = .ok (.aload_n 0, 1) := by decide +kernel
theorem dX9_count_95 : decode cX9_count 95 = .ok (.invokevirtual 387, 3) := by decide +kernel
theorem dX9_count_98 : decode cX9_count 98 = .ok (.aload_n 0, 1) := by decide +kernel
theorem dX9_count_99 : decode cX9_count 99 = .ok (.getfield 350, 3) := by decide +kernel
theorem dX9_count_102 : decode cX9_count 102 = .ok (.ireturn, 1) := by decide +kernel
theorem dX9_count_103 : decode cX9_count 103 = .ok (.aload_n 0, 1) := by decide +kernel
theorem dX9_count_104 : decode cX9_count 104 = .ok (.getfield 213, 3) := by decide +kernel
theorem dX9_count_107 : decode cX9_count 107 = .ok (.ireturn, 1) := by decide +kernel
theorem dX9_count_108 : decode cX9_count 108 = .ok (.iconst (-1), 1) := by decide +kernel
theorem dX9_count_109 : decode cX9_count 109 = .ok (.ireturn, 1) := by decide +kernel
