-- instructions
theorem dX13_init_0 : decode cX13_init 0 = .ok (.aload_n 0, 1) := by decide +kernel
theorem dX13_init_1 : decode cX13_init 1 = .ok (.invokespecial 1, 3) := by decide +kernel
theorem dX13_init_4 : decode cX13_init 4 = .ok (.aload_n 0, 1) := by decide +kernel
theorem dX13_init_5 : decode cX13_init 5 = .ok (.ldc 7, 2) := by decide +kernel
theorem dX13_init_7 : decode cX13_init 7 = .ok (.newarray .int, 2) := by decide +kernel
theorem dX13_init_9 : decode cX13_init 9 = .ok (.putfield 8, 3) := by decide +kernel
theorem dX13_init_12 : decode cX13_init 12 = .ok (.aload_n 0, 1) := by decide +kernel
theorem dX13_init_13 : decode cX13_init 13 = .ok (.sipush 30100, 3) := by decide +kernel
theorem dX13_init_16 : decode cX13_init 16 = .ok (.newarray .int, 2) := by decide +kernel
theorem dX13_init_18 : decode cX13_init 18 = .ok (.putfield 14, 3) := by decide +kernel
theorem dX13_init_21 : decode cX13_init 21 = .ok (.aload_n 0, 1) := by decide +kernel
theorem dX13_init_22 : decode cX13_init 22 = .ok (.sipush 1001, 3) := by decide +kernel
theorem dX13_init_25 : decode cX13_init 25 = .ok (.newarray .int, 2) := by decide +kernel
theorem dX13_init_27 : decode cX13_init 27 = .ok (.putfield 17, 3) := by decide +kernel
theorem dX13_init_30 : decode cX13_init 30 = .ok (.aload_n 0, 1) := by decide +kernel
theorem dX13_init_31 : decode cX13_init 31 = .ok (.sipush 1001, 3) := by decide +kernel
theorem dX13_init_34 : decode cX13_init 34 = .ok (.newarray .int, 2) := by decide +kernel
theorem dX13_init_36 : decode cX13_init 36 = .ok (.putfield 20, 3) := by decide +kernel
theorem dX13_init_39 : decode cX13_init 39 = .ok (.aload_n 0, 1) := by decide +kernel
theorem dX13_init_40 : decode cX13_init 40 = .ok (.sipush 1501, 3) := by decide +kernel
theorem dX13_init_43 : decode cX13_init 43 = .ok (.newarray .int, 2) := by decide +kernel
theorem dX13_init_45 : decode cX13_init 45 = .ok (.putfield 23, 3) := by decide +kernel
theorem dX13_init_48 : decode cX13_init 48 = .ok (.aload_n 0, 1) := by decide +kernel
theorem dX13_init_49 : decode cX13_init 49 = .ok (.sipush 1501, 3) := by decide +kernel
theorem dX13_init_52 : decode cX13_init 52 = .ok (.newarray .int, 2) := by decide +kernel
theorem dX13_init_54 : decode cX13_init 54 = .ok (.putfield 26, 3) := by decide +kernel
theorem dX13_init_57 : decode cX13_init 57 = .ok (.aload_n 0, 1) := by decide +kernel
theorem dX13_init_58 : decode cX13_init 58 = .ok (.sipush 4096, 3) := by decide +kernel
theorem dX13_init_61 : decode cX13_init 61 = .ok (.newarray .int, 2) := by decide +kernel
theorem dX13_init_63 : decode cX13_init 63 = .ok (.putfield 29, 3) := by decide +kernel
theorem dX13_init_66 : decode cX13_init 66 = .ok (.aload_n 0, 1) := by decide +kernel
theorem dX13_init_67 : decode cX13_init 67 = .ok (.sipush 4096, 3) := by decide +kernel
theorem dX13_init_70 : decode cX13_init 70 = .ok (.newarray .int, 2) := by decide +kernel
theorem dX13_init_72 : decode cX13_init 72 = .ok (.putfield 32, 3) := by decide +kernel
theorem dX13_init_75 : decode cX13_init 75 = .ok (.aload_n 0, 1) := by decide +kernel
theorem dX13_init_76 : decode cX13_init 76 = .ok (.sipush 1001, 3) := by decide +kernel
theorem dX13_init_79 : decode cX13_init 79 = .ok (.newarray .boolean, 2) := by decide +kernel
theorem dX13_init_81 : decode cX13_init 81 = .ok (.putfield 35, 3) := by decide +kernel
theorem dX13_init_84 : decode cX13_init 84 = .ok (.aload_n 0, 1) := by decide +kernel
theorem dX13_init_85 : decode cX13_init 85 = .ok (.sipush 1001, 3) := by decide +kernel
theorem dX13_init_88 : decode cX13_init 88 = .ok (.newarray .boolean, 2) := by decide +kernel
theorem dX13_init_90 : decode cX13_init 90 = .ok (.putfield 39, 3) := by decide +kernel
theorem dX13_init_93 : decode cX13_init 93 = .ok (.aload_n 0, 1) := by decide +kernel
theorem dX13_init_94 : decode cX13_init 94 = .ok (.sipush 1001, 3) := by decide +kernel
theorem dX13_init_97 : decode cX13_init 97 = .ok (.newarray .int, 2) := by decide +kernel
theorem dX13_init_99 : decode cX13_init 99 = .ok (.putfield 42, 3) := by decide +kernel
theorem dX13_init_102 : decode cX13_init 102 = .ok (.aload_n 0, 1) := by decide +kernel
theorem dX13_init_103 : decode cX13_init 103 = .ok (.sipush 1001, 3) := by decide +kernel
theorem dX13_init_106 : decode cX13_init 106 = .ok (.newarray .int, 2) := by decide +kernel
theorem dX13_init_108 : decode cX13_init 108 = .ok (.putfield 45, 3) := by decide +kernel
theorem dX13_init_111 : decode cX13_init 111 = .ok (.aload_n 0, 1) := by decide +kernel
theorem dX13_init_112 : decode cX13_init 112 = .ok (.sipush 1001, 3) := by decide +kernel
theorem dX13_init_115 : decode cX13_init 115 = .ok (.newarray .boolean, 2) := by decide +kernel
theorem dX13_init_117 : decode cX13_init 117 = .ok (.putfield 48, 3) := by decide +kernel
theorem dX13_init_120 : decode cX13_init 120 = .ok (.aload_n 0, 1) := by decide +kernel
theorem dX13_init_121 : decode cX13_init 121 = .ok (.sipush 1501, 3) := by decide +kernel
theorem dX13_init_124 : decode cX13_init 124 = .ok (.newarray .int, 2) := by decide +kernel
theorem dX13_init_126 : decode cX13_init 126 = .ok (.putfield 51, 3) := by decide +kernel
theorem dX13_init_129 : decode cX13_init 129 = .ok (.aload_n 0, 1) := by decide +kernel
theorem dX13_init_130 : decode cX13_init 130 = .ok (.sipush 1501, 3) := by decide +kernel
theorem dX13_init_133 : decode cX13_init 133 = .ok (.newarray .int, 2) := by decide +kernel
theorem dX13_init_135 : decode cX13_init 135 = .ok (.putfield 54, 3) := by decide +kernel
theorem dX13_init_138 : decode cX13_init 138 = .ok (.aload_n 0, 1) := by decide +kernel
theorem dX13_init_139 : decode cX13_init 139 = .ok (.sipush 1501, 3) := by decide +kernel
theorem dX13_init_142 : decode cX13_init 142 = .ok (.newarray .int, 2) := by decide +kernel
theorem dX13_init_144 : decode cX13_init 144 = .ok (.putfield 57, 3) := by decide +kernel
theorem dX13_init_147 : decode cX13_init 147 = .ok (.aload_n 0, 1) := by decide +kernel
theorem dX13_init_148 : decode cX13_init 148 = .ok (.sipush 30400, 3) := by decide +kernel
theorem dX13_init_151 : decode cX13_init 151 = .ok (.newarray .int, 2) := by decide +kernel
theorem dX13_init_153 : decode cX13_init 153 = .ok (.putfield 60, 3) := by decide +kernel
theorem dX13_init_156 : decode cX13_init 156 = .ok (.aload_n 0, 1) := by decide +kernel
theorem dX13_init_157 : decode cX13_init 157 = .ok (.sipush 30400, 3) := by decide +kernel
theorem dX13_init_160 : decode cX13_init 160 = .ok (.newarray .int, 2) := by decide +kernel
theorem dX13_init_162 : decode cX13_init 162 = .ok (.putfield 63, 3) := by decide +kernel
theorem dX13_init_165 : decode cX13_init 165 = .ok (.aload_n 0, 1) := by decide +kernel
theorem dX13_init_166 : decode cX13_init 166 = .ok (.sipush 1501, 3) := by decide +kernel
theorem dX13_init_169 : decode cX13_init 169 = .ok (.newarray .int, 2) := by decide +kernel
theorem dX13_init_171 : decode cX13_init 171 = .ok (.putfield 66, 3) := by decide +kernel
theorem dX13_init_174 : decode cX13_init 174 = .ok (.aload_n 0, 1) := by decide +kernel
theorem dX13_init_175 : decode cX13_init 175 = .ok (.sipush 1501, 3) := by decide +kernel
theorem dX13_init_178 : decode cX13_init 178 = .ok (.newarray .int, 2) := by decide +kernel
theorem dX13_init_180 : decode cX13_init 180 = .ok (.putfield 69, 3) := by decide +kernel
theorem dX13_init_183 : decode cX13_init 183 = .ok (.aload_n 0, 1) := by decide +kernel
theorem dX13_init_184 : decode cX13_init 184 = .ok (.ldc 72, 2) := by decide +kernel
theorem dX13_init_186 : decode cX13_init 186 = .ok (.newarray .int, 2) := by decide +kernel
theorem dX13_init_188 : decode cX13_init 188 = .ok (.putfield 73, 3) := by decide +kernel
theorem dX13_init_191 : decode cX13_init 191 = .ok (.aload_n 0, 1) := by decide +kernel
theorem dX13_init_192 : decode cX13_init 192 = .ok (.sipush 1501, 3) := by decide +kernel
theorem dX13_init_195 : decode cX13_init 195 = .ok (.newarray .int, 2) := by decide +kernel
theorem dX13_init_197 : decode cX13_init 197 = .ok (.putfield 76, 3) := by decide +kernel
theorem dX13_init_200 : decode cX13_init 200 = .ok (.aload_n 0, 1) := by decide +kernel
theorem dX13_init_201 : decode cX13_init 201 = .ok (.sipush 1501, 3) := by decide +kernel
theorem dX13_init_204 : decode cX13_init 204 = .ok (.newarray .int, 2) := by decide +kernel
theorem dX13_init_206 : decode cX13_init 206 = .ok (.putfield 79, 3) := by decide +kernel
theorem dX13_init_209 : decode cX13_init 209 = .ok (.aload_n 0, 1) := by decide +kernel
theorem dX13_init_210 : decode cX13_init 210 = .ok (.sipush 20000, 3) := by decide +kernel
theorem dX13_init_213 : decode cX13_init 213 = .ok (.newarray .int, 2) := by decide +kernel
theorem dX13_init_215 : decode cX13_init 215 = .ok (.putfield 82, 3) := by decide +kernel
theorem dX13_init_218 : decode cX13_init 218 = .ok (.aload_n 0, 1) := by decide +kernel
theorem dX13_init_219 : decode cX13_init 219 = .ok (.sipush 20000, 3) := by decide +kernel
theorem dX13_init_222 : decode cX13_init 222 = .ok (.newarray .int, 2) := by decide +kernel
theorem dX13_init_224 : decode cX13_init 224 = .ok (.putfield 85, 3) := by decide +kernel
theorem dX13_init_227 : decode cX13_init 227 = .ok (.aload_n 0, 1) := by decide +kernel
theorem dX13_init_228 : decode cX13_init 228 = .ok (.sipush 1501, 3) := by decide +kernel
theorem dX13_init_231 : decode cX13_init 231 = .ok (.newarray .int, 2) := by decide +kernel
theorem dX13_init_233 : decode cX13_init 233 = .ok (.putfield 88, 3) := by decide +kernel
theorem dX13_init_236 : decode cX13_init 236 = .ok (.aload_n 0, 1) := by decide +kernel
theorem dX13_init_237 : decode cX13_init 237 = .ok (.sipush 1501, 3) := by decide +kernel
theorem dX13_init_240 : decode cX13_init 240 = .ok (.newarray .int, 2) := by decide +kernel
theorem dX13_init_242 : decode cX13_init 242 = .ok (.putfield 91, 3) := by decide +kernel
theorem dX13_init_245 : decode cX13_init 245 = .ok (.aload_n 0, 1) := by decide +kernel
theorem dX13_init_246 : decode cX13_init 246 = .ok (.sipush 20001, 3) := by decide +kernel
theorem dX13_init_249 : decode cX13_init 249 = .ok (.newarray .int, 2) := by decide +kernel
theorem dX13_init_251 : decode cX13_init 251 = .ok (.putfield 94, 3) := by decide +kernel
theorem dX13_init_254 : decode cX13_init 254 = .ok (.aload_n 0, 1) := by decide +kernel
theorem dX13_init_255 : decode cX13_init 255 = .ok (.sipush 20001, 3) := by decide +kernel
theorem dX13_init_258 : decode cX13_init 258 = .ok (.newarray .boolean, 2) := by decide +kernel
theorem dX13_init_260 : decode cX13_init 260 = .ok (.putfield 97, 3) := by decide +kernel
theorem dX13_init_263 : decode cX13_init 263 = .ok (.aload_n 0, 1) := by decide +kernel
theorem dX13_init_264 : decode cX13_init 264 = .ok (.sipush 20001, 3) := by decide +kernel
theorem dX13_init_267 : decode cX13_init 267 = .ok (.newarray .int, 2) := by decide +kernel
theorem dX13_init_269 : decode cX13_init 269 = .ok (.putfield 100, 3) := by decide +kernel
theorem dX13_init_272 : decode cX13_init 272 = .ok (.aload_n 0, 1) := by decide +kernel
theorem dX13_init_273 : decode cX13_init 273 = .ok (.ldc 103, 2) := by decide +kernel
theorem dX13_init_275 : decode cX13_init 275 = .ok (.newarray .long, 2) := by decide +kernel
theorem dX13_init_277 : decode cX13_init 277 = .ok (.putfield 104, 3) := by decide +kernel
theorem dX13_init_280 : decode cX13_init 280 = .ok (.aload_n 0, 1) := by decide +kernel
theorem dX13_init_281 : decode cX13_init 281 = .ok (.sipush 1001, 3) := by decide +kernel
theorem dX13_init_284 : decode cX13_init 284 = .ok (.newarray .int, 2) := by decide +kernel
theorem dX13_init_286 : decode cX13_init 286 = .ok (.putfield 108, 3) := by decide +kernel
theorem dX13_init_289 : decode cX13_init 289 = .ok (.aload_n 0, 1) := by decide +kernel
theorem dX13_init_290 : decode cX13_init 290 = .ok (.sipush 1501, 3) := by decide +kernel
theorem dX13_init_293 : decode cX13_init 293 = .ok (.newarray .int, 2) := by decide +kernel
theorem dX13_init_295 : decode cX13_init 295 = .ok (.putfield 111, 3) := by decide +kernel
theorem dX13_init_298 : decode cX13_init 298 = .ok (.aload_n 0, 1) := by decide +kernel
theorem dX13_init_299 : decode cX13_init 299 = .ok (.sipush 1001, 3) := by decide +kernel
theorem dX13_init_302 : decode cX13_init 302 = .ok (.newarray .int, 2) := by decide +kernel
theorem dX13_init_304 : decode cX13_init 304 = .ok (.putfield 114, 3) := by decide +kernel
theorem dX13_init_307 : decode cX13_init 307 = .ok (.aload_n 0, 1) := by decide +kernel
theorem dX13_init_308 : decode cX13_init 308 = .ok (.sipush 1001, 3) := by decide +kernel
theorem dX13_init_311 : decode cX13_init 311 = .ok (.newarray .int, 2) := by decide +kernel
theorem dX13_init_313 : decode cX13_init 313 = .ok (.putfield 117, 3) := by decide +kernel
theorem dX13_init_316 : decode cX13_init 316 = .ok (.aload_n 0, 1) := by decide +kernel
theorem dX13_init_317 : decode cX13_init 317 = .ok (.sipush 16016, 3) := by decide +kernel
theorem dX13_init_320 : decode cX13_init 320 = .ok (.newarray .long, 2) := by decide +kernel
theorem dX13_init_322 : decode cX13_init 322 = .ok (.putfield 120, 3) := by decide +kernel
theorem dX13_init_325 : decode cX13_init 325 = .ok (.aload_n 0, 1) := by decide +kernel
theorem dX13_init_326 : decode cX13_init 326 = .ok (.bipush 51, 2) := by decide +kernel
theorem dX13_init_328 : decode cX13_init 328 = .ok (.newarray .int, 2) := by decide +kernel
theorem dX13_init_330 : decode cX13_init 330 = .ok (.putfield 123, 3) := by decide +kernel
theorem dX13_init_333 : decode cX13_init 333 = .ok (.aload_n 0, 1) := by decide +kernel
theorem dX13_init_334 : decode cX13_init 334 = .ok (.bipush 51, 2) := by decide +kernel
theorem dX13_init_336 : decode cX13_init 336 = .ok (.newarray .int, 2) := by decide +kernel
theorem dX13_init_338 : decode cX13_init 338 = .ok (.putfield 126, 3) := by decide +kernel
theorem dX13_init_341 : decode cX13_init 341 = .ok (.aload_n 0, 1) := by decide +kernel
theorem dX13_init_342 : decode cX13_init 342 = .ok (.bipush 51, 2) := by decide +kernel
theorem dX13_init_344 : decode cX13_init 344 = .ok (.newarray .int, 2) := by decide +kernel
theorem dX13_init_346 : decode cX13_init 346 = .ok (.putfield 129, 3) := by decide +kernel
theorem dX13_init_349 : decode cX13_init 349 = .ok (.aload_n 0, 1) := by decide +kernel
theorem dX13_init_350 : decode cX13_init 350 = .ok (.sipush 1001, 3) := by decide +kernel
theorem dX13_init_353 : decode cX13_init 353 = .ok (.newarray .int, 2) := by decide +kernel
theorem dX13_init_355 : decode cX13_init 355 = .ok (.putfield 132, 3) := by decide +kernel
theorem dX13_init_358 : decode cX13_init 358 = .ok (.aload_n 0, 1) := by decide +kernel
theorem dX13_init_359 : decode cX13_init 359 = .ok (.sipush 1001, 3) := by decide +kernel
theorem dX13_init_362 : decode cX13_init 362 = .ok (.newarray .boolean, 2) := by decide +kernel
theorem dX13_init_364 : decode cX13_init 364 = .ok (.putfield 135, 3) := by decide +kernel
theorem dX13_init_367 : decode cX13_init 367 = .ok (.aload_n 0, 1) := by decide +kernel
theorem dX13_init_368 : decode cX13_init 368 = .ok (.sipush 300, 3) := by decide +kernel
theorem dX13_init_371 : decode cX13_init 371 = .ok (.newarray .int, 2) := by decide +kernel
theorem dX13_init_373 : decode cX13_init 373 = .ok (.putfield 138, 3) := by decide +kernel
theorem dX13_init_376 : decode cX13_init 376 = .ok (.aload_n 0, 1) := by decide +kernel
theorem dX13_init_377 : decode cX13_init 377 = .ok (.sipush 202, 3) := by decide +kernel
theorem dX13_init_380 : decode cX13_init 380 = .ok (.newarray .int, 2) := by decide +kernel
theorem dX13_init_382 : decode cX13_init 382 = .ok (.putfield 141, 3) := by decide +kernel
theorem dX13_init_385 : decode cX13_init 385 = .ok (.aload_n 0, 1) := by decide +kernel
theorem dX13_init_386 : decode cX13_init 386 = .ok (.sipush 202, 3) := by decide +kernel
theorem dX13_init_389 : decode cX13_init 389 = .ok (.newarray .int, 2) := by decide +kernel
theorem dX13_init_391 : decode cX13_init 391 = .ok (.putfield 144, 3) := by decide +kernel
theorem dX13_init_394 : decode cX13_init 394 = .ok (.aload_n 0, 1) := by decide +kernel
theorem dX13_init_395 : decode cX13_init 395 = .ok (.sipush 202, 3) := by decide +kernel
theorem dX13_init_398 : decode cX13_init 398 = .ok (.newarray .int, 2) := by decide +kernel
theorem dX13_init_400 : decode cX13_init 400 = .ok (.putfield 147, 3) := by decide +kernel
theorem dX13_init_403 : decode cX13_init 403 = .ok (.aload_n 0, 1) := by decide +kernel
theorem dX13_init_404 : decode cX13_init 404 = .ok (.ldc 150, 2) := by decide +kernel
theorem dX13_init_406 : decode cX13_init 406 = .ok (.newarray .int, 2) := by decide +kernel
theorem dX13_init_408 : decode cX13_init 408 = .ok (.putfield 151, 3) := by decide +kernel
theorem dX13_init_411 : decode cX13_init 411 = .ok (.aload_n 0, 1) := by decide +kernel
theorem dX13_init_412 : decode cX13_init 412 = .ok (.sipush 300, 3) := by decide +kernel
theorem dX13_init_415 : decode cX13_init 415 = .ok (.newarray .int, 2) := by decide +kernel
theorem dX13_init_417 : decode cX13_init 417 = .ok (.putfield 154, 3) := by decide +kernel
theorem dX13_init_420 : decode cX13_init 420 = .ok (.aload_n 0, 1) := by decide +kernel
theorem dX13_init_421 : decode cX13_init 421 = .ok (.sipush 300, 3) := by decide +kernel
theorem dX13_init_424 : decode cX13_init 424 = .ok (.newarray .int, 2) := by decide +kernel
theorem dX13_init_426 : decode cX13_init 426 = .ok (.putfield 157, 3) := by decide +kernel
theorem dX13_init_429 : decode cX13_init 429 = .ok (.aload_n 0, 1) := by decide +kernel
theorem dX13_init_430 : decode cX13_init 430 = .ok (.sipush 300, 3) := by decide +kernel
theorem dX13_init_433 : decode cX13_init 433 = .ok (.newarray .int, 2) := by decide +kernel
theorem dX13_init_435 : decode cX13_init 435 = .ok (.putfield 160, 3) := by decide +kernel
theorem dX13_init_438 : decode cX13_init 438 = .ok (.aload_n 0, 1) := by decide +kernel
theorem dX13_init_439 : decode cX13_init 439 = .ok (.ldc 150, 2) := by decide +kernel
theorem dX13_init_441 : decode cX13_init 441 = .ok (.newarray .int, 2) := by decide +kernel
theorem dX13_init_443 : decode cX13_init 443 = .ok (.putfield 163, 3) := by decide +kernel
theorem dX13_init_446 : decode cX13_init 446 = .ok (.aload_n 0, 1) := by decide +kernel
theorem dX13_init_447 : decode cX13_init 447 = .ok (.sipush 1001, 3) := by decide +kernel
theorem dX13_init_450 : decode cX13_init 450 = .ok (.newarray .int, 2) := by decide +kernel
theorem dX13_init_452 : decode cX13_init 452 = .ok (.putfield 166, 3) := by decide +kernel
theorem dX13_init_455 : decode cX13_init 455 = .ok (.aload_n 0, 1) := by decide +kernel
theorem dX13_init_456 : decode cX13_init 456 = .ok (.sipush 1001, 3) := by decide +kernel
theorem dX13_init_459 : decode cX13_init 459 = .ok (.newarray .int, 2) := by decide +kernel
theorem dX13_init_461 : decode cX13_init 461 = .ok (.putfield 169, 3) := by decide +kernel
theorem dX13_init_464 : decode cX13_init 464 = .ok (.aload_n 0, 1) := by decide +kernel
theorem dX13_init_465 : decode cX13_init 465 = .ok (.sipush 1002, 3) := by decide +kernel
theorem dX13_init_468 : decode cX13_init 468 = .ok (.newarray .int, 2) := by decide +kernel
theorem dX13_init_470 : decode cX13_init 470 = .ok (.putfield 172, 3) := by decide +kernel
theorem dX13_init_473 : decode cX13_init 473 = .ok (.aload_n 0, 1) := by decide +kernel
theorem dX13_init_474 : decode cX13_init 474 = .ok (.sipush 1001, 3) := by decide +kernel
theorem dX13_init_477 : decode cX13_init 477 = .ok (.newarray .boolean, 2) := by decide +kernel
theorem dX13_init_479 : decode cX13_init 479 = .ok (.putfield 175, 3) := by decide +kernel
theorem dX13_init_482 : decode cX13_init 482 = .ok (.aload_n 0, 1) := by decide +kernel
theorem dX13_init_483 : decode cX13_init 483 = .ok (.sipush 1001, 3) := by decide +kernel
theorem dX13_init_486 : decode cX13_init 486 = .ok (.newarray .boolean, 2) := by decide +kernel
theorem dX13_init_488 : decode cX13_init 488 = .ok (.putfield 178, 3) := by decide +kernel
theorem dX13_init_491 : decode cX13_init 491 = .ok (.aload_n 0, 1) := by decide +kernel
theorem dX13_init_492 : decode cX13_init 492 = .ok (.sipush 1001, 3) := by decide +kernel
theorem dX13_init_495 : decode cX13_init 495 = .ok (.newarray .boolean, 2) := by decide +kernel
theorem dX13_init_497 : decode cX13_init 497 = .ok (.putfield 181, 3) := by decide +kernel
theorem dX13_init_500 : decode cX13_init 500 = .ok (.aload_n 0, 1) := by decide +kernel
theorem dX13_init_501 : decode cX13_init 501 = .ok (.sipush 1001, 3) := by decide +kernel
theorem dX13_init_504 : decode cX13_init 504 = .ok (.newarray .int, 2) := by decide +kernel
theorem dX13_init_506 : decode cX13_init 506 = .ok (.putfield 184, 3) := by decide +kernel
theorem dX13_init_509 : decode cX13_init 509 = .ok (.aload_n 0, 1) := by decide +kernel
theorem dX13_init_510 : decode cX13_init 510 = .ok (.sipush 1001, 3) := by decide +kernel
theorem dX13_init_513 : decode cX13_init 513 = .ok (.newarray .int, 2) := by decide +kernel
theorem dX13_init_515 : decode cX13_init 515 = .ok (.putfield 187, 3) := by decide +kernel
theorem dX13_init_518 : decode cX13_init 518 = .ok (.aload_n 0, 1) := by decide +kernel
theorem dX13_init_519 : decode cX13_init 519 = .ok (.sipush 20001, 3) := by decide +kernel
theorem dX13_init_522 : decode cX13_init 522 = .ok (.newarray .int, 2) := by decide +kernel
theorem dX13_init_524 : decode cX13_init 524 = .ok (.putfield 190, 3) := by decide +kernel
theorem dX13_init_527 : decode cX13_init 527 = .ok (.aload_n 0, 1) := by decide +kernel
theorem dX13_init_528 : decode cX13_init 528 = .ok (.sipush 20001, 3) := by decide +kernel
theorem dX13_init_531 : decode cX13_init 531 = .ok (.newarray .int, 2) := by decide +kernel
theorem dX13_init_533 : decode cX13_init 533 = .ok (.putfield 193, 3) := by decide +kernel
theorem dX13_init_536 : decode cX13_init 536 = .ok (.aload_n 0, 1) := by decide +kernel
theorem dX13_init_537 : decode cX13_init 537 = .ok (.ldc 196, 2) := by decide +kernel
theorem dX13_init_539 : decode cX13_init 539 = .ok (.newarray .int, 2) := by decide +kernel
theorem dX13_init_541 : decode cX13_init 541 = .ok (.putfield 197, 3) := by decide +kernel
theorem dX13_init_544 : decode cX13_init 544 = .ok (.aload_n 0, 1) := by decide +kernel
theorem dX13_init_545 : decode cX13_init 545 = .ok (.sipush 20001, 3) := by decide +kernel
theorem dX13_init_548 : decode cX13_init 548 = .ok (.newarray .long, 2) := by decide +kernel
theorem dX13_init_550 : decode cX13_init 550 = .ok (.putfield 200, 3) := by decide +kernel
theorem dX13_init_553 : decode cX13_init 553 = .ok (.aload_n 0, 1) := by decide +kernel
theorem dX13_init_554 : decode cX13_init 554 = .ok (.sipush 24002, 3) := by decide +kernel
theorem dX13_init_557 : decode cX13_init 557 = .ok (.newarray .int, 2) := by decide +kernel
theorem dX13_init_559 : decode cX13_init 559 = .ok (.putfield 203, 3) := by decide +kernel
theorem dX13_init_562 : decode cX13_init 562 = .ok (.aload_n 0, 1) := by decide +kernel
theorem dX13_init_563 : decode cX13_init 563 = .ok (.sipush 24000, 3) := by decide +kernel
theorem dX13_init_566 : decode cX13_init 566 = .ok (.newarray .int, 2) := by decide +kernel
theorem dX13_init_568 : decode cX13_init 568 = .ok (.putfield 206, 3) := by decide +kernel
theorem dX13_init_571 : decode cX13_init 571 = .ok (.aload_n 0, 1) := by decide +kernel
theorem dX13_init_572 : decode cX13_init 572 = .ok (.sipush 20001, 3) := by decide +kernel
theorem dX13_init_575 : decode cX13_init 575 = .ok (.newarray .int, 2) := by decide +kernel
theorem dX13_init_577 : decode cX13_init 577 = .ok (.putfield 209, 3) := by decide +kernel
theorem dX13_init_580 : decode cX13_init 580 = .ok (.aload_n 0, 1) := by decide +kernel
theorem dX13_init_581 : decode cX13_init 581 = .ok (.sipush 20001, 3) := by decide +kernel
theorem dX13_init_584 : decode cX13_init 584 = .ok (.newarray .int, 2) := by decide +kernel
theorem dX13_init_586 : decode cX13_init 586 = .ok (.putfield 212, 3) := by decide +kernel
theorem dX13_init_589 : decode cX13_init 589 = .ok (.aload_n 0, 1) := by decide +kernel
theorem dX13_init_590 : decode cX13_init 590 = .ok (.sipush 20001, 3) := by decide +kernel
theorem dX13_init_593 : decode cX13_init 593 = .ok (.newarray .int, 2) := by decide +kernel
theorem dX13_init_595 : decode cX13_init 595 = .ok (.putfield 215, 3) := by decide +kernel
theorem dX13_init_598 : decode cX13_init 598 = .ok (.aload_n 0, 1) := by decide +kernel
theorem dX13_init_599 : decode cX13_init 599 = .ok (.sipush 20001, 3) := by decide +kernel
theorem dX13_init_602 : decode cX13_init 602 = .ok (.newarray .int, 2) := by decide +kernel
theorem dX13_init_604 : decode cX13_init 604 = .ok (.putfield 218, 3) := by decide +kernel
theorem dX13_init_607 : decode cX13_init 607 = .ok (.aload_n 0, 1) := by decide +kernel
theorem dX13_init_608 : decode cX13_init 608 = .ok (.ldc 221, 2) := by decide +kernel
theorem dX13_init_610 : decode cX13_init 610 = .ok (.newarray .int, 2) := by decide +kernel
theorem dX13_init_612 : decode cX13_init 612 = .ok (.putfield 222, 3) := by decide +kernel
theorem dX13_init_615 : decode cX13_init 615 = .ok (.aload_n 0, 1) := by decide +kernel
theorem dX13_init_616 : decode cX13_init 616 = .ok (.ldc 221, 2) := by decide +kernel
theorem dX13_init_618 : decode cX13_init 618 = .ok (.newarray .int, 2) := by decide +kernel
theorem dX13_init_620 : decode cX13_init 620 = .ok (.putfield 225, 3) := by decide +kernel
theorem dX13_init_623 : decode cX13_init 623 = .ok (.aload_n 0, 1) := by decide +kernel
theorem dX13_init_624 : decode cX13_init 624 = .ok (.sipush 1501, 3) := by decide +kernel
theorem dX13_init_627 : decode cX13_init 627 = .ok (.newarray .int, 2) := by decide +kernel
theorem dX13_init_629 : decode cX13_init 629 = .ok (.putfield 228, 3) := by decide +kernel
theorem dX13_init_632 : decode cX13_init 632 = .ok (.aload_n 0, 1) := by decide +kernel
theorem dX13_init_633 : decode cX13_init 633 = .ok (.sipush 1501, 3) := by decide +kernel
theorem dX13_init_636 : decode cX13_init 636 = .ok (.newarray .int, 2) := by decide +kernel
theorem dX13_init_638 : decode cX13_init 638 = .ok (.putfield 231, 3) := by decide +kernel
theorem dX13_init_641 : decode cX13_init 641 = .ok (.aload_n 0, 1) := by decide +kernel
theorem dX13_init_642 : decode cX13_init 642 = .ok (.ldc 234, 2) := by decide +kernel
theorem dX13_init_644 : decode cX13_init 644 = .ok (.newarray .int, 2) := by decide +kernel
theorem dX13_init_646 : decode cX13_init 646 = .ok (.putfield 235, 3) := by decide +kernel
theorem dX13_init_649 : decode cX13_init 649 = .ok (.aload_n 0, 1) := by decide +kernel
theorem dX13_init_650 : decode cX13_init 650 = .ok (.ldc 221, 2) := by decide +kernel
theorem dX13_init_652 : decode cX13_init 652 = .ok (.newarray .int, 2) := by decide +kernel
theorem dX13_init_654 : decode cX13_init 654 = .ok (.putfield 238, 3) := by decide +kernel
theorem dX13_init_657 : decode cX13_init 657 = .ok (.aload_n 0, 1) := by decide +kernel
theorem dX13_init_658 : decode cX13_init 658 = .ok (.sipush 1001, 3) := by decide +kernel
theorem dX13_init_661 : decode cX13_init 661 = .ok (.newarray .int, 2) := by decide +kernel
theorem dX13_init_663 : decode cX13_init 663 = .ok (.putfield 241, 3) := by decide +kernel
theorem dX13_init_666 : decode cX13_init 666 = .ok (.aload_n 0, 1) := by decide +kernel
theorem dX13_init_667 : decode cX13_init 667 = .ok (.bipush 64, 2) := by decide +kernel
theorem dX13_init_669 : decode cX13_init 669 = .ok (.newarray .int, 2) := by decide +kernel
theorem dX13_init_671 : decode cX13_init 671 = .ok (.putfield 244, 3) := by decide +kernel
theorem dX13_init_674 : decode cX13_init 674 = .ok (.aload_n 0, 1) := by decide +kernel
theorem dX13_init_675 : decode cX13_init 675 = .ok (.bipush 64, 2) := by decide +kernel
theorem dX13_init_677 : decode cX13_init 677 = .ok (.newarray .int, 2) := by decide +kernel
theorem dX13_init_679 : decode cX13_init 679 = .ok (.putfield 247, 3) := by decide +kernel
theorem dX13_init_682 : decode cX13_init 682 = .ok (.aload_n 0, 1) := by decide +kernel
theorem dX13_init_683 : decode cX13_init 683 = .ok (.bipush 64, 2) := by decide +kernel
theorem dX13_init_685 : decode cX13_init 685 = .ok (.newarray .int, 2) := by decide +kernel
theorem dX13_init_687 : decode cX13_init 687 = .ok (.putfield 250, 3) := by decide +kernel
theorem dX13_init_690 : decode cX13_init 690 = .ok (.aload_n 0, 1) := by decide +kernel
theorem dX13_init_691 : decode cX13_init 691 = .ok (.ldc 253, 2) := by decide +kernel
theorem dX13_init_693 : decode cX13_init 693 = .ok (.newarray .int, 2) := by decide +kernel
theorem dX13_init_695 : decode cX13_init 695 = .ok (.putfield 254, 3) := by decide +kernel
theorem dX13_init_698 : decode cX13_init 698 = .ok (.aload_n 0, 1) := by decide +kernel
theorem dX13_init_699 : decode cX13_init 699 = .ok (.ldc 253, 2) := by decide +kernel
theorem dX13_init_701 : decode cX13_init 701 = .ok (.newarray .int, 2) := by decide +kernel
theorem dX13_init_703 : decode cX13_init 703 = .ok (.putfield 257, 3) := by decide +kernel
theorem dX13_init_706 : decode cX13_init 706 = .ok (.aload_n 0, 1) := by decide +kernel
theorem dX13_init_707 : decode cX13_init 707 = .ok (.sipush 6200, 3) := by decide +kernel
theorem dX13_init_710 : decode cX13_init 710 = .ok (.newarray .long, 2) := by decide +kernel
theorem dX13_init_712 : decode cX13_init 712 = .ok (.putfield 260, 3) := by decide +kernel
theorem dX13_init_715 : decode cX13_init 715 = .ok (.aload_n 0, 1) := by decide +kernel
theorem dX13_init_716 : decode cX13_init 716 = .ok (.sipush 6200, 3) := by decide +kernel
theorem dX13_init_719 : decode cX13_init 719 = .ok (.newarray .long, 2) := by decide +kernel
theorem dX13_init_721 : decode cX13_init 721 = .ok (.putfield 263, 3) := by decide +kernel
theorem dX13_init_724 : decode cX13_init 724 = .ok (.aload_n 0, 1) := by decide +kernel
theorem dX13_init_725 : decode cX13_init 725 = .ok (.sipush 30002, 3) := by decide +kernel
theorem dX13_init_728 : decode cX13_init 728 = .ok (.newarray .int, 2) := by decide +kernel
theorem dX13_init_730 : decode cX13_init 730 = .ok (.putfield 266, 3) := by decide +kernel
theorem dX13_init_733 : decode cX13_init 733 = .ok (.aload_n 0, 1) := by decide +kernel
theorem dX13_init_734 : decode cX13_init 734 = .ok (.sipush 30002, 3) := by decide +kernel
theorem dX13_init_737 : decode cX13_init 737 = .ok (.newarray .int, 2) := by decide +kernel
theorem dX13_init_739 : decode cX13_init 739 = .ok (.putfield 269, 3) := by decide +kernel
theorem dX13_init_742 : decode cX13_init 742 = .ok (.aload_n 0, 1) := by decide +kernel
theorem dX13_init_743 : decode cX13_init 743 = .ok (.sipush 30002, 3) := by decide +kernel
theorem dX13_init_746 : decode cX13_init 746 = .ok (.newarray .int, 2) := by decide +kernel
theorem dX13_init_748 : decode cX13_init 748 = .ok (.putfield 272, 3) := by decide +kernel
theorem dX13_init_751 : decode cX13_init 751 = .ok (.aload_n 0, 1) := by decide +kernel
theorem dX13_init_752 : decode cX13_init 752 = .ok (.sipush 30002, 3) := by decide +kernel
theorem dX13_init_755 : decode cX13_init 755 = .ok (.newarray .int, 2) := by decide +kernel
theorem dX13_init_757 : decode cX13_init 757 = .ok (.putfield 275, 3) := by decide +kernel
theorem dX13_init_760 : decode cX13_init 760 = .ok (.aload_n 0, 1) := by decide +kernel
theorem dX13_init_761 : decode cX13_init 761 = .ok (.sipush 30002, 3) := by decide +kernel
theorem dX13_init_764 : decode cX13_init 764 = .ok (.newarray .int, 2) := by decide +kernel
theorem dX13_init_766 : decode cX13_init 766 = .ok (.putfield 278, 3) := by decide +kernel
theorem dX13_init_769 : decode cX13_init 769 = .ok (.aload_n 0, 1) := by decide +kernel
theorem dX13_init_770 : decode cX13_init 770 = .ok (.sipush 30002, 3) := by decide +kernel
theorem dX13_init_773 : decode cX13_init 773 = .ok (.newarray .int, 2) := by decide +kernel
theorem dX13_init_775 : decode cX13_init 775 = .ok (.putfield 281, 3) := by decide +kernel
theorem dX13_init_778 : decode cX13_init 778 = .ok (.aload_n 0, 1) := by decide +kernel
theorem dX13_init_779 : decode cX13_init 779 = .ok (.sipush 30002, 3) := by decide +kernel
theorem dX13_init_782 : decode cX13_init 782 = .ok (.newarray .int, 2) := by decide +kernel
theorem dX13_init_784 : decode cX13_init 784 = .ok (.putfield 284, 3) := by decide +kernel
theorem dX13_init_787 : decode cX13_init 787 = .ok (.aload_n 0, 1) := by decide +kernel
theorem dX13_init_788 : decode cX13_init 788 = .ok (.sipush 30002, 3) := by decide +kernel
theorem dX13_init_791 : decode cX13_init 791 = .ok (.newarray .long, 2) := by decide +kernel
theorem dX13_init_793 : decode cX13_init 793 = .ok (.putfield 287, 3) := by decide +kernel
theorem dX13_init_796 : decode cX13_init 796 = .ok (.aload_n 0, 1) := by decide +kernel
theorem dX13_init_797 : decode cX13_init 797 = .ok (.sipush 30002, 3) := by decide +kernel
theorem dX13_init_800 : decode cX13_init 800 = .ok (.newarray .long, 2) := by decide +kernel
theorem dX13_init_802 : decode cX13_init 802 = .ok (.putfield 290, 3) := by decide +kernel
theorem dX13_init_805 : decode cX13_init 805 = .ok (.aload_n 0, 1) := by decide +kernel
theorem dX13_init_806 : decode cX13_init 806 = .ok (.sipush 1501, 3) := by decide +kernel
theorem dX13_init_809 : decode cX13_init 809 = .ok (.newarray .int, 2) := by decide +kernel
theorem dX13_init_811 : decode cX13_init 811 = .ok (.putfield 293, 3) := by decide +kernel
theorem dX13_init_814 : decode cX13_init 814 = .ok (.aload_n 0, 1) := by decide +kernel
theorem dX13_init_815 : decode cX13_init 815 = .ok (.sipush 3800, 3) := by decide +kernel
theorem dX13_init_818 : decode cX13_init 818 = .ok (.newarray .int, 2) := by decide +kernel
theorem dX13_init_820 : decode cX13_init 820 = .ok (.putfield 296, 3) := by decide +kernel
theorem dX13_init_823 : decode cX13_init 823 = .ok (.aload_n 0, 1) := by decide +kernel
theorem dX13_init_824 : decode cX13_init 824 = .ok (.ldc 7, 2) := by decide +kernel
theorem dX13_init_826 : decode cX13_init 826 = .ok (.newarray .int, 2) := by decide +kernel
theorem dX13_init_828 : decode cX13_init 828 = .ok (.putfield 299, 3) := by decide +kernel
theorem dX13_init_831 : decode cX13_init 831 = .ok (.aload_n 0, 1) := by decide +kernel
theorem dX13_init_832 : decode cX13_init 832 = .ok (.ldc 7, 2) := by decide +kernel
theorem dX13_init_834 : decode cX13_init 834 = .ok (.newarray .int, 2) := by decide +kernel
theorem dX13_init_836 : decode cX13_init 836 = .ok (.putfield 302, 3) := by decide +kernel
theorem dX13_init_839 : decode cX13_init 839 = .ok (.aload_n 0, 1) := by decide +kernel
theorem dX13_init_840 : decode cX13_init 840 = .ok (.ldc 7, 2) := by decide +kernel
theorem dX13_init_842 : decode cX13_init 842 = .ok (.newarray .int, 2) := by decide +kernel
theorem dX13_init_844 : decode cX13_init 844 = .ok (.putfield 305, 3) := by decide +kernel
theorem dX13_init_847 : decode cX13_init 847 = .ok (.aload_n 0, 1) := by decide +kernel
theorem dX13_init_848 : decode cX13_init 848 = .ok (.ldc 7, 2) := by decide +kernel
theorem dX13_init_850 : decode cX13_init 850 = .ok (.newarray .int, 2) := by decide +kernel
theorem dX13_init_852 : decode cX13_init 852 = .ok (.putfield 308, 3) := by decide +kernel
theorem dX13_init_855 : decode cX13_init 855 = .ok (.aload_n 0, 1) := by decide +kernel
theorem dX13_init_856 : decode cX13_init 856 = .ok (.ldc 7, 2) := by decide +kernel
theorem dX13_init_858 : decode cX13_init 858 = .ok (.newarray .int, 2) := by decide +kernel
theorem dX13_init_860 : decode cX13_init 860 = .ok (.putfield 311, 3) := by decide +kernel
theorem dX13_init_863 : decode cX13_init 863 = .ok (.aload_n 0, 1) := by decide +kernel
theorem dX13_init_864 : decode cX13_init 864 = .ok (.ldc 196, 2) := by decide +kernel
theorem dX13_init_866 : decode cX13_init 866 = .ok (.newarray .int, 2) := by decide +kernel
theorem dX13_init_868 : decode cX13_init 868 = .ok (.putfield 314, 3) := by decide +kernel
theorem dX13_init_871 : decode cX13_init 871 = .ok (.aload_n 0, 1) := by decide +kernel
theorem dX13_init_872 : decode cX13_init 872 = .ok (.bipush 101, 2) := by decide +kernel
theorem dX13_init_874 : decode cX13_init 874 = .ok (.newarray .int, 2) := by decide +kernel
theorem dX13_init_876 : decode cX13_init 876 = .ok (.putfield 317, 3) := by decide +kernel
theorem dX13_init_879 : decode cX13_init 879 = .ok (.aload_n 0, 1) := by decide +kernel
theorem dX13_init_880 : decode cX13_init 880 = .ok (.bipush 101, 2) := by decide +kernel
theorem dX13_init_882 : decode cX13_init 882 = .ok (.newarray .int, 2) := by decide +kernel
theorem dX13_init_884 : decode cX13_init 884 = .ok (.putfield 320, 3) := by decide +kernel
theorem dX13_init_887 : decode cX13_init 887 = .ok (.aload_n 0, 1) := by decide +kernel
theorem dX13_init_888 : decode cX13_init 888 = .ok (.sipush 1501, 3) := by decide +kernel
theorem dX13_init_891 : decode cX13_init 891 = .ok (.newarray .int, 2) := by decide +kernel
theorem dX13_init_893 : decode cX13_init 893 = .ok (.putfield 323, 3) := by decide +kernel
theorem dX13_init_896 : decode cX13_init 896 = .ok (.aload_n 0, 1) := by decide +kernel
theorem dX13_init_897 : decode cX13_init 897 = .ok (.ldc 103, 2) := by decide +kernel
theorem dX13_init_899 : decode cX13_init 899 = .ok (.newarray .long, 2) := by decide +kernel
theorem dX13_init_901 : decode cX13_init 901 = .ok (.putfield 326, 3) := by decide +kernel
theorem dX13_init_904 : decode cX13_init 904 = .ok (.aload_n 0, 1) := by decide +kernel
theorem dX13_init_905 : decode cX13_init 905 = .ok (.sipush 1501, 3) := by decide +kernel
theorem dX13_init_908 : decode cX13_init 908 = .ok (.newarray .int, 2) := by decide +kernel
theorem dX13_init_910 : decode cX13_init 910 = .ok (.putfield 329, 3) := by decide +kernel
theorem dX13_init_913 : decode cX13_init 913 = .ok (.aload_n 0, 1) := by decide +kernel
theorem dX13_init_914 : decode cX13_init 914 = .ok (.sipush 1501, 3) := by decide +kernel
theorem dX13_init_917 : decode cX13_init 917 = .ok (.newarray .boolean, 2) := by decide +kernel
theorem dX13_init_919 : decode cX13_init 919 = .ok (.putfield 332, 3) := by decide +kernel
theorem dX13_init_922 : decode cX13_init 922 = .ok (.aload_n 0, 1) := by decide +kernel
theorem dX13_init_923 : decode cX13_init 923 = .ok (.sipush 1501, 3) := by decide +kernel
theorem dX13_init_926 : decode cX13_init 926 = .ok (.newarray .int, 2) := by decide +kernel
theorem dX13_init_928 : decode cX13_init 928 = .ok (.putfield 335, 3) := by decide +kernel
theorem dX13_init_931 : decode cX13_init 931 = .ok (.aload_n 0, 1) := by decide +kernel
theorem dX13_init_932 : decode cX13_init 932 = .ok (.sipush 1501, 3) := by decide +kernel
theorem dX13_init_935 : decode cX13_init 935 = .ok (.newarray .boolean, 2) := by decide +kernel
theorem dX13_init_937 : decode cX13_init 937 = .ok (.putfield 338, 3) := by decide +kernel
theorem dX13_init_940 : decode cX13_init 940 = .ok (.aload_n 0, 1) := by decide +kernel
theorem dX13_init_941 : decode cX13_init 941 = .ok (.sipush 1501, 3) := by decide +kernel
theorem dX13_init_944 : decode cX13_init 944 = .ok (.newarray .int, 2) := by decide +kernel
theorem dX13_init_946 : decode cX13_init 946 = .ok (.putfield 341, 3) := by decide +kernel
theorem dX13_init_949 : decode cX13_init 949 = .ok (.aload_n 0, 1) := by decide +kernel
theorem dX13_init_950 : decode cX13_init 950 = .ok (.sipush 1501, 3) := by decide +kernel
theorem dX13_init_953 : decode cX13_init 953 = .ok (.newarray .int, 2) := by decide +kernel
theorem dX13_init_955 : decode cX13_init 955 = .ok (.putfield 344, 3) := by decide +kernel
theorem dX13_init_958 : decode cX13_init 958 = .ok (.aload_n 0, 1) := by decide +kernel
theorem dX13_init_959 : decode cX13_init 959 = .ok (.ldc_w 347, 3) := by decide +kernel
theorem dX13_init_962 : decode cX13_init 962 = .ok (.newarray .int, 2) := by decide +kernel
theorem dX13_init_964 : decode cX13_init 964 = .ok (.putfield 348, 3) := by decide +kernel
theorem dX13_init_967 : decode cX13_init 967 = .ok (.aload_n 0, 1) := by decide +kernel
theorem dX13_init_968 : decode cX13_init 968 = .ok (.sipush 1300, 3) := by decide +kernel
theorem dX13_init_971 : decode cX13_init 971 = .ok (.newarray .int, 2) := by decide +kernel
theorem dX13_init_973 : decode cX13_init 973 = .ok (.putfield 351, 3) := by decide +kernel
theorem dX13_init_976 : decode cX13_init 976 = .ok (.aload_n 0, 1) := by decide +kernel
theorem dX13_init_977 : decode cX13_init 977 = .ok (.bipush 64, 2) := by decide +kernel
theorem dX13_init_979 : decode cX13_init 979 = .ok (.newarray .int, 2) := by decide +kernel
theorem dX13_init_981 : decode cX13_init 981 = .ok (.putfield 354, 3) := by decide +kernel
theorem dX13_init_984 : decode cX13_init 984 = .ok (.aload_n 0, 1) := by decide +kernel
theorem dX13_init_985 : decode cX13_init 985 = .ok (.sipush 1001, 3) := by decide +kernel
theorem dX13_init_988 : decode cX13_init 988 = .ok (.newarray .int, 2) := by decide +kernel
theorem dX13_init_990 : decode cX13_init 990 = .ok (.putfield 357, 3) := by decide +kernel
theorem dX13_init_993 : decode cX13_init 993 = .ok (.aload_n 0, 1) := by decide +kernel
theorem dX13_init_994 : decode cX13_init 994 = .ok (.sipush 1001, 3) := by decide +kernel
theorem dX13_init_997 : decode cX13_init 997 = .ok (.newarray .int, 2) := by decide +kernel
theorem dX13_init_999 : decode cX13_init 999 = .ok (.putfield 360, 3) := by decide +kernel
theorem dX13_init_1002 : decode cX13_init 1002 = .ok (.aload_n 0, 1) := by decide +kernel
theorem dX13_init_1003 : decode cX13_init 1003 = .ok (.ldc 221, 2) := by decide +kernel
theorem dX13_init_1005 : decode cX13_init 1005 = .ok (.newarray .int, 2) := by decide +kernel
theorem dX13_init_1007 : decode cX13_init 1007 = .ok (.putfield 363, 3) := by decide +kernel
theorem dX13_init_1010 : decode cX13_init 1010 = .ok (.aload_n 0, 1) := by decide +kernel
theorem dX13_init_1011 : decode cX13_init 1011 = .ok (.iconst (-1), 1) := by decide +kernel
theorem dX13_init_1012 : decode cX13_init 1012 = .ok (.putfield 366, 3) := by decide +kernel
theorem dX13_init_1015 : decode cX13_init 1015 = .ok (.aload_n 0, 1) := by decide +kernel
theorem dX13_init_1016 : decode cX13_init 1016 = .ok (.iconst (-1), 1) := by decide +kernel
theorem dX13_init_1017 : decode cX13_init 1017 = .ok (.putfield 370, 3) := by decide +kernel
theorem dX13_init_1020 : decode cX13_init 1020 = .ok (.aload_n 0, 1) := by decide +kernel
theorem dX13_init_1021 : decode cX13_init 1021 = .ok (.iconst (-1), 1) := by decide +kernel
theorem dX13_init_1022 : decode cX13_init 1022 = .ok (.putfield 373, 3) := by decide +kernel
theorem dX13_init_1025 : decode cX13_init 1025 = .ok (.aload_n 0, 1) := by decide +kernel
theorem dX13_init_1026 : decode cX13_init 1026 = .ok (.invokevirtual 376, 3) := by decide +kernel
theorem dX13_init_1029 : decode cX13_init 1029 = .ok (.return_, 1) := by decide +kernel
theorem dX13_isIn_0 : decode cX13_isIn 0 = .ok (.lload_n 0, 1) := by decide +kernel
theorem dX13_isIn_1 : decode cX13_isIn 1 = .ok (.lload_n 2, 1) := by decide +kernel
theorem dX13_isIn_2 : decode cX13_isIn 2 = .ok (.lcmp, 1) := by decide +kernel
theorem dX13_isIn_3 : decode cX13_isIn 3 = .ok (.ifCond .lt 14, 3) := by decide +kernel
theorem dX13_isIn_6 : decode cX13_isIn 6 = .ok (.lload_n 0, 1) := by decide +kernel
theorem dX13_isIn_7 : decode cX13_isIn 7 = .ok (.lload 4, 2) := by decide +kernel
theorem dX13_isIn_9 : decode cX13_isIn 9 = .ok (.lcmp, 1) := by decide +kernel
theorem dX13_isIn_10 : decode cX13_isIn 10 = .ok (.ifCond .gt 7, 3) := by decide +kernel
theorem dX13_isIn_13 : decode cX13_isIn 13 = .ok (.iconst 1, 1) := by decide +kernel
theorem dX13_isIn_14 : decode cX13_isIn 14 = .ok (.goto 4, 3) := by decide +kernel
theorem dX13_isIn_17 : decode cX13_isIn 17 = .ok (.iconst 0, 1) := by decide +kernel
theorem dX13_isIn_18 : decode cX13_isIn 18 = .ok (.ireturn, 1) := by decide +kernel
theorem dX13_feed_0 : decode cX13_feed 0 = .ok (.aload_n 0, 1) := by decide +kernel
theorem dX13_feed_1 : decode cX13_feed 1 = .ok (.aload_n 0, 1) := by decide +kernel
theorem dX13_feed_2 : decode cX13_feed 2 = .ok (.getfield 379, 3) := by decide +kernel
theorem dX13_feed_5 : decode cX13_feed 5 = .ok (.bipush 20, 2) := by decide +kernel
theorem dX13_feed_7 : decode cX13_feed 7 = .ok (.iadd, 1) := by decide +kernel
theorem dX13_feed_8 : decode cX13_feed 8 = .ok (.ldc 7, 2) := by decide +kernel
theorem dX13_feed_10 : decode cX13_feed 10 = .ok (.if_icmp .gt 7, 3) := by decide +kernel
theorem dX13_feed_13 : decode cX13_feed 13 = .ok (.iconst 1, 1) := by decide +kernel
theorem dX13_feed_14 : decode cX13_feed 14 = .ok (.goto 4, 3) := by decide +kernel
theorem dX13_feed_17 : decode cX13_feed 17 = .ok (.iconst 0, 1) := by decide +kernel
theorem dX13_feed_18 : decode cX13_feed 18 = .ok (.putfield 382, 3) := by decide +kernel
theorem dX13_feed_21 : decode cX13_feed 21 = .ok (.aload_n 0, 1) := by decide +kernel
theorem dX13_feed_22 : decode cX13_feed 22 = .ok (.getfield 382, 3) := by decide +kernel
theorem dX13_feed_25 : decode cX13_feed 25 = .ok (.ifCond .ne 6, 3) := by decide +kernel
theorem dX13_feed_28 : decode cX13_feed 28 = .ok (.bipush (-2), 2) := by decide +kernel
theorem dX13_feed_30 : decode cX13_feed 30 = .ok (.ireturn, 1) := by decide +kernel
theorem dX13_feed_31 : decode cX13_feed 31 = .ok (.iconst 0, 1) := by decide +kernel
theorem dX13_feed_32 : decode cX13_feed 32 = .ok (.istore 6, 2) := by decide +kernel
theorem dX13_feed_34 : decode cX13_feed 34 = .ok (.iload 6, 2) := by decide +kernel
theorem dX13_feed_36 : decode cX13_feed 36 = .ok (.bipush 20, 2) := by decide +kernel
theorem dX13_feed_38 : decode cX13_feed 38 = .ok (.if_icmp .ge 93, 3) := by decide +kernel
theorem dX13_feed_41 : decode cX13_feed 41 = .ok (.iload 6, 2) := by decide +kernel
theorem dX13_feed_43 : decode cX13_feed 43 = .ok (.iconst 4, 1) := by decide +kernel
theorem dX13_feed_44 : decode cX13_feed 44 = .ok (.if_icmp .ge 7, 3) := by decide +kernel
theorem dX13_feed_47 : decode cX13_feed 47 = .ok (.iload_n 1, 1) := by decide +kernel
theorem dX13_feed_48 : decode cX13_feed 48 = .ok (.goto 39, 3) := by decide +kernel
theorem dX13_feed_51 : decode cX13_feed 51 = .ok (.iload 6, 2) := by decide +kernel
theorem dX13_feed_53 : decode cX13_feed 53 = .ok (.bipush 8, 2) := by decide +kernel
theorem dX13_feed_55 : decode cX13_feed 55 = .ok (.if_icmp .ge 7, 3) := by decide +kernel
theorem dX13_feed_58 : decode cX13_feed 58 = .ok (.iload_n 2, 1) := by decide +kernel
theorem dX13_feed_59 : decode cX13_feed 59 = .ok (.goto 28, 3) := by decide +kernel
theorem dX13_feed_62 : decode cX13_feed 62 = .ok (.iload 6, 2) := by decide +kernel
theorem dX13_feed_64 : decode cX13_feed 64 = .ok (.bipush 12, 2) := by decide +kernel
theorem dX13_feed_66 : decode cX13_feed 66 = .ok (.if_icmp .ge 7, 3) := by decide +kernel
theorem dX13_feed_69 : decode cX13_feed 69 = .ok (.iload_n 3, 1) := by decide +kernel
theorem dX13_feed_70 : decode cX13_feed 70 = .ok (.goto 17, 3) := by decide +kernel
theorem dX13_feed_73 : decode cX13_feed 73 = .ok (.iload 6, 2) := by decide +kernel
theorem dX13_feed_75 : decode cX13_feed 75 = .ok (.bipush 16, 2) := by decide +kernel
theorem dX13_feed_77 : decode cX13_feed 77 = .ok (.if_icmp .ge 8, 3) := by decide +kernel
theorem dX13_feed_80 : decode cX13_feed 80 = .ok (.iload 4, 2) := by decide +kernel
theorem dX13_feed_82 : decode cX13_feed 82 = .ok (.goto 5, 3) := by decide +kernel
theorem dX13_feed_85 : decode cX13_feed 85 = .ok (.iload 5, 2) := by decide +kernel
theorem dX13_feed_87 : decode cX13_feed 87 = .ok (.istore 7, 2) := by decide +kernel
theorem dX13_feed_89 : decode cX13_feed 89 = .ok (.aload_n 0, 1) := by decide +kernel
theorem dX13_feed_90 : decode cX13_feed 90 = .ok (.getfield 8, 3) := by decide +kernel
theorem dX13_feed_93 : decode cX13_feed 93 = .ok (.aload_n 0, 1) := by decide +kernel
theorem dX13_feed_94 : decode cX13_feed 94 = .ok (.getfield 379, 3) := by decide +kernel
theorem dX13_feed_97 : decode cX13_feed 97 = .ok (.iload 7, 2) := by decide +kernel
theorem dX13_feed_99 : decode cX13_feed 99 = .ok (.bipush 24, 2) := by decide +kernel
theorem dX13_feed_101 : decode cX13_feed 101 = .ok (.bipush 8, 2) := by decide +kernel
theorem dX13_feed_103 : decode cX13_feed 103 = .ok (.iload 6, 2) := by decide +kernel
theorem dX13_feed_105 : decode cX13_feed 105 = .ok (.iconst 4, 1) := by decide +kernel
theorem dX13_feed_106 : decode cX13_feed 106 = .ok (.irem, 1) := by decide +kernel
theorem dX13_feed_107 : decode cX13_feed 107 = .ok (.imul, 1) := by decide +kernel
theorem dX13_feed_108 : decode cX13_feed 108 = .ok (.isub, 1) := by decide +kernel
theorem dX13_feed_109 : decode cX13_feed 109 = .ok (.ishr, 1) := by decide +kernel
theorem dX13_feed_110 : decode cX13_feed 110 = .ok (.sipush 255, 3) := by decide +kernel
theorem dX13_feed_113 : decode cX13_feed 113 = .ok (.iand, 1) := by decide +kernel
theorem dX13_feed_114 : decode cX13_feed 114 = .ok (.iastore, 1) := by decide +kernel
theorem dX13_feed_115 : decode cX13_feed 115 = .ok (.aload_n 0, 1) := by decide +kernel
theorem dX13_feed_116 : decode cX13_feed 116 = .ok (.dup, 1) := by decide +kernel
theorem dX13_feed_117 : decode cX13_feed 117 = .ok (.getfield 379, 3) := by decide +kernel
theorem dX13_feed_120 : decode cX13_feed 120 = .ok (.iconst 1, 1) := by decide +kernel
theorem dX13_feed_121 : decode cX13_feed 121 = .ok (.iadd, 1) := by decide +kernel
theorem dX13_feed_122 : decode cX13_feed 122 = .ok (.putfield 379, 3) := by decide +kernel
theorem dX13_feed_125 : decode cX13_feed 125 = .ok (.iinc 6 1, 3) := by decide +kernel
theorem dX13_feed_128 : decode cX13_feed 128 = .ok (.goto (-94), 3) := by decide +kernel
theorem dX13_feed_131 : decode cX13_feed 131 = .ok (.aload_n 0, 1) := by decide +kernel
theorem dX13_feed_132 : decode cX13_feed 132 = .ok (.getfield 379, 3) := by decide +kernel
theorem dX13_feed_135 : decode cX13_feed 135 = .ok (.ireturn, 1) := by decide +kernel
theorem dX13_end_0 : decode cX13_end 0 = .ok (.aload_n 0, 1) := by decide +kernel
theorem dX13_end_1 : decode cX13_end 1 = .ok (.getfield 382, 3) := by decide +kernel
theorem dX13_end_4 : decode cX13_end 4 = .ok (.ifCond .eq 15, 3) := by decide +kernel
theorem dX13_end_7 : decode cX13_end 7 = .ok (.iload_n 1, 1) := by decide +kernel
theorem dX13_end_8 : decode cX13_end 8 = .ok (.i2l, 1) := by decide +kernel
theorem dX13_end_9 : decode cX13_end 9 = .ok (.lconst 0, 1) := by decide +kernel
theorem dX13_end_10 : decode cX13_end 10 = .ok (.ldc2_w 386, 3) := by decide +kernel
theorem dX13_end_13 : decode cX13_end 13 = .ok (.invokestatic 388, 3) := by decide +kernel
theorem dX13_end_16 : decode cX13_end 16 = .ok (.ifCond .ne 5, 3) := by decide +kernel
theorem dX13_end_19 : decode cX13_end 19 = .ok (.iconst (-1), 1) := by decide +kernel
theorem dX13_end_20 : decode cX13_end 20 = .ok (.ireturn, 1) := by decide +kernel
theorem dX13_end_21 : decode cX13_end 21 = .ok (.aload_n 0, 1) := by decide +kernel
theorem dX13_end_22 : decode cX13_end 22 = .ok (.dup, 1) := by decide +kernel
theorem dX13_end_23 : decode cX13_end 23 = .ok (.getfield 379, 3) := by decide +kernel
theorem dX13_end_26 : decode cX13_end 26 = .ok (.bipush 20, 2) := by decide +kernel
theorem dX13_end_28 : decode cX13_end 28 = .ok (.iload_n 1, 1) := by decide +kernel
theorem dX13_end_29 : decode cX13_end 29 = .ok (.isub, 1) := by decide +kernel
theorem dX13_end_30 : decode cX13_end 30 = .ok (.isub, 1) := by decide +kernel
theorem dX13_end_31 : decode cX13_end 31 = .ok (.putfield 379, 3) := by decide +kernel
theorem dX13_end_34 : decode cX13_end 34 = .ok (.aload_n 0, 1) := by decide +kernel
theorem dX13_end_35 : decode cX13_end 35 = .ok (.iconst 0, 1) := by decide +kernel
theorem dX13_end_36 : decode cX13_end 36 = .ok (.putfield 382, 3) := by decide +kernel
theorem dX13_end_39 : decode cX13_end 39 = .ok (.aload_n 0, 1) := by decide +kernel
theorem dX13_end_40 : decode cX13_end 40 = .ok (.getfield 379, 3) := by decide +kernel
theorem dX13_end_43 : decode cX13_end 43 = .ok (.ireturn, 1) := by decide +kernel
theorem dX13_isBlank_0 : decode cX13_isBlank 0 = .ok (.iload_n 0, 1) := by decide +kernel
theorem dX13_isBlank_1 : decode cX13_isBlank 1 = .ok (.bipush 9, 2) := by decide +kernel
theorem dX13_isBlank_3 : decode cX13_isBlank 3 = .ok (.if_icmp .eq 27, 3) := by decide +kernel
theorem dX13_isBlank_6 : decode cX13_isBlank 6 = .ok (.iload_n 0, 1) := by decide +kernel
theorem dX13_isBlank_7 : decode cX13_isBlank 7 = .ok (.bipush 10, 2) := by decide +kernel
theorem dX13_isBlank_9 : decode cX13_isBlank 9 = .ok (.if_icmp .eq 21, 3) := by decide +kernel
theorem dX13_isBlank_12 : decode cX13_isBlank 12 = .ok (.iload_n 0, 1) := by decide +kernel
theorem dX13_isBlank_13 : decode cX13_isBlank 13 = .ok (.bipush 12, 2) := by decide +kernel
theorem dX13_isBlank_15 : decode cX13_isBlank 15 = .ok (.if_icmp .eq 15, 3) := by decide +kernel
theorem dX13_isBlank_18 : decode cX13_isBlank 18 = .ok (.iload_n 0, 1) := by decide +kernel
theorem dX13_isBlank_19 : decode cX13_isBlank 19 = .ok (.bipush 13, 2) := by decide +kernel
theorem dX13_isBlank_21 : decode cX13_isBlank 21 = .ok (.if_icmp .eq 9, 3) := by decide +kernel
theorem dX13_isBlank_24 : decode cX13_isBlank 24 = .ok (.iload_n 0, 1) := by decide +kernel
theorem dX13_isBlank_25 : decode cX13_isBlank 25 = .ok (.bipush 32, 2) := by decide +kernel
theorem dX13_isBlank_27 : decode cX13_isBlank 27 = .ok (.if_icmp .ne 7, 3) := by decide +kernel
theorem dX13_isBlank_30 : decode cX13_isBlank 30 = .ok (.iconst 1, 1) := by decide +kernel
theorem dX13_isBlank_31 : decode cX13_isBlank 31 = .ok (.goto 4, 3) := by decide +kernel
theorem dX13_isBlank_34 : decode cX13_isBlank 34 = .ok (.iconst 0, 1) := by decide +kernel
theorem dX13_isBlank_35 : decode cX13_isBlank 35 = .ok (.ireturn, 1) := by decide +kernel
theorem dX13_isSign_0 : decode cX13_isSign 0 = .ok (.iload_n 0, 1) := by decide +kernel
theorem dX13_isSign_1 : decode cX13_isSign 1 = .ok (.bipush 33, 2) := by decide +kernel
theorem dX13_isSign_3 : decode cX13_isSign 3 = .ok (.if_icmp .lt 13, 3) := by decide +kernel
theorem dX13_isSign_6 : decode cX13_isSign 6 = .ok (.iload_n 0, 1) := by decide +kernel
theorem dX13_isSign_7 : decode cX13_isSign 7 = .ok (.bipush 126, 2) := by decide +kernel
theorem dX13_isSign_9 : decode cX13_isSign 9 = .ok (.if_icmp .gt 7, 3) := by decide +kernel
theorem dX13_isSign_12 : decode cX13_isSign 12 = .ok (.iconst 1, 1) := by decide +kernel
theorem dX13_isSign_13 : decode cX13_isSign 13 = .ok (.goto 4, 3) := by decide +kernel
theorem dX13_isSign_16 : decode cX13_isSign 16 = .ok (.iconst 0, 1) := by decide +kernel
theorem dX13_isSign_17 : decode cX13_isSign 17 = .ok (.ireturn, 1) := by decide +kernel
theorem dX13_clearTables_0 : decode cX13_clearTables 0 = .ok (.iconst 0, 1) := by decide +kernel
theorem dX13_clearTables_1 : decode cX13_clearTables 1 = .ok (.istore_n 1, 1) := by decide +kernel
theorem dX13_clearTables_2 : decode cX13_clearTables 2 = .ok (.iload_n 1, 1) := by decide +kernel
theorem dX13_clearTables_3 : decode cX13_clearTables 3 = .ok (.sipush 4096, 3) := by decide +kernel
theorem dX13_clearTables_6 : decode cX13_clearTables 6 = .ok (.if_icmp .ge 23, 3) := by decide +kernel
theorem dX13_clearTables_9 : decode cX13_clearTables 9 = .ok (.aload_n 0, 1) := by decide +kernel
theorem dX13_clearTables_10 : decode cX13_clearTables 10 = .ok (.getfield 29, 3) := by decide +kernel
theorem dX13_clearTables_13 : decode cX13_clearTables 13 = .ok (.iload_n 1, 1) := by decide +kernel
theorem dX13_clearTables_14 : decode cX13_clearTables 14 = .ok (.iconst (-1), 1) := by decide +kernel
theorem dX13_clearTables_15 : decode cX13_clearTables 15 = .ok (.iastore, 1) := by decide +kernel
theorem dX13_clearTables_16 : decode cX13_clearTables 16 = .ok (.aload_n 0, 1) := by decide +kernel
theorem dX13_clearTables_17 : decode cX13_clearTables 17 = .ok (.getfield 32, 3) := by decide +kernel
theorem dX13_clearTables_20 : decode cX13_clearTables 20 = .ok (.iload_n 1, 1) := by decide +kernel
theorem dX13_clearTables_21 : decode cX13_clearTables 21 = .ok (.iconst (-1), 1) := by decide +kernel
theorem dX13_clearTables_22 : decode cX13_clearTables 22 = .ok (.iastore, 1) := by decide +kernel
theorem dX13_clearTables_23 : decode cX13_clearTables 23 = .ok (.iinc 1 1, 3) := by decide +kernel
theorem dX13_clearTables_26 : decode cX13_clearTables 26 = .ok (.goto (-24), 3) := by decide +kernel
theorem dX13_clearTables_29 : decode cX13_clearTables 29 = .ok (.return_, 1) := by decide +kernel
theorem dX13_spot_0 : decode cX13_spot 0 = .ok (.iload_n 2, 1) := by decide +kernel
theorem dX13_spot_1 : decode cX13_spot 1 = .ok (.istore_n 3, 1) := by decide +kernel
theorem dX13_spot_2 : decode cX13_spot 2 = .ok (.iconst 0, 1) := by decide +kernel
theorem dX13_spot_3 : decode cX13_spot 3 = .ok (.istore 4, 2) := by decide +kernel
theorem dX13_spot_5 : decode cX13_spot 5 = .ok (.iload 4, 2) := by decide +kernel
theorem dX13_spot_7 : decode cX13_spot 7 = .ok (.iload_n 2, 1) := by decide +kernel
theorem dX13_spot_8 : decode cX13_spot 8 = .ok (.if_icmp .ge 21, 3) := by decide +kernel
theorem dX13_spot_11 : decode cX13_spot 11 = .ok (.bipush 31, 2) := by decide +kernel
theorem dX13_spot_13 : decode cX13_spot 13 = .ok (.iload_n 3, 1) := by decide +kernel
theorem dX13_spot_14 : decode cX13_spot 14 = .ok (.imul, 1) := by decide +kernel
theorem dX13_spot_15 : decode cX13_spot 15 = .ok (.aload_n 0, 1) := by decide +kernel
theorem dX13_spot_16 : decode cX13_spot 16 = .ok (.iload_n 1, 1) := by decide +kernel
theorem dX13_spot_17 : decode cX13_spot 17 = .ok (.iload 4, 2) := by decide +kernel
theorem dX13_spot_19 : decode cX13_spot 19 = .ok (.iadd, 1) := by decide +kernel
theorem dX13_spot_20 : decode cX13_spot 20 = .ok (.iaload, 1) := by decide +kernel
theorem dX13_spot_21 : decode cX13_spot 21 = .ok (.iadd, 1) := by decide +kernel
theorem dX13_spot_22 : decode cX13_spot 22 = .ok (.istore_n 3, 1) := by decide +kernel
theorem dX13_spot_23 : decode cX13_spot 23 = .ok (.iinc 4 1, 3) := by decide +kernel
theorem dX13_spot_26 : decode cX13_spot 26 = .ok (.goto (-21), 3) := by decide +kernel
theorem dX13_spot_29 : decode cX13_spot 29 = .ok (.iload_n 3, 1) := by decide +kernel
theorem dX13_spot_30 : decode cX13_spot 30 = .ok (.iload_n 3, 1) := by decide +kernel
theorem dX13_spot_31 : decode cX13_spot 31 = .ok (.bipush 15, 2) := by decide +kernel
theorem dX13_spot_33 : decode cX13_spot 33 = .ok (.iushr, 1) := by decide +kernel
theorem dX13_spot_34 : decode cX13_spot 34 = .ok (.ixor, 1) := by decide +kernel
theorem dX13_spot_35 : decode cX13_spot 35 = .ok (.sipush 4095, 3) := by decide +kernel
theorem dX13_spot_38 : decode cX13_spot 38 = .ok (.iand, 1) := by decide +kernel
theorem dX13_spot_39 : decode cX13_spot 39 = .ok (.ireturn, 1) := by decide +kernel
theorem dX13_isName_0 : decode cX13_isName 0 = .ok (.iload_n 2, 1) := by decide +kernel
theorem dX13_isName_1 : decode cX13_isName 1 = .ok (.iload 5, 2) := by decide +kernel
theorem dX13_isName_3 : decode cX13_isName 3 = .ok (.if_icmp .eq 5, 3) := by decide +kernel
theorem dX13_isName_6 : decode cX13_isName 6 = .ok (.iconst 0, 1) := by decide +kernel
theorem dX13_isName_7 : decode cX13_isName 7 = .ok (.ireturn, 1) := by decide +kernel
theorem dX13_isName_8 : decode cX13_isName 8 = .ok (.iconst 0, 1) := by decide +kernel
theorem dX13_isName_9 : decode cX13_isName 9 = .ok (.istore 6, 2) := by decide +kernel
theorem dX13_isName_11 : decode cX13_isName 11 = .ok (.iload 6, 2) := by decide +kernel
theorem dX13_isName_13 : decode cX13_isName 13 = .ok (.iload 5, 2) := by decide +kernel
theorem dX13_isName_15 : decode cX13_isName 15 = .ok (.if_icmp .ge 30, 3) := by decide +kernel
theorem dX13_isName_18 : decode cX13_isName 18 = .ok (.aload_n 0, 1) := by decide +kernel
theorem dX13_isName_19 : decode cX13_isName 19 = .ok (.getfield 14, 3) := by decide +kernel
theorem dX13_isName_22 : decode cX13_isName 22 = .ok (.iload_n 1, 1) := by decide +kernel
theorem dX13_isName_23 : decode cX13_isName 23 = .ok (.iload 6, 2) := by decide +kernel
theorem dX13_isName_25 : decode cX13_isName 25 = .ok (.iadd, 1) := by decide +kernel
theorem dX13_isName_26 : decode cX13_isName 26 = .ok (.iaload, 1) := by decide +kernel
theorem dX13_isName_27 : decode cX13_isName 27 = .ok (.aload_n 3, 1) := by decide +kernel
theorem dX13_isName_28 : decode cX13_isName 28 = .ok (.iload 4, 2) := by decide +kernel
theorem dX13_isName_30 : decode cX13_isName 30 = .ok (.iload 6, 2) := by decide +kernel
theorem dX13_isName_32 : decode cX13_isName 32 = .ok (.iadd, 1) := by decide +kernel
theorem dX13_isName_33 : decode cX13_isName 33 = .ok (.iaload, 1) := by decide +kernel
theorem dX13_isName_34 : decode cX13_isName 34 = .ok (.if_icmp .eq 5, 3) := by decide +kernel
theorem dX13_isName_37 : decode cX13_isName 37 = .ok (.iconst 0, 1) := by decide +kernel
theorem dX13_isName_38 : decode cX13_isName 38 = .ok (.ireturn, 1) := by decide +kernel
theorem dX13_isName_39 : decode cX13_isName 39 = .ok (.iinc 6 1, 3) := by decide +kernel
theorem dX13_isName_42 : decode cX13_isName 42 = .ok (.goto (-31), 3) := by decide +kernel
theorem dX13_isName_45 : decode cX13_isName 45 = .ok (.iconst 1, 1) := by decide +kernel
theorem dX13_isName_46 : decode cX13_isName 46 = .ok (.ireturn, 1) := by decide +kernel
theorem dX13_findSymbol_0 : decode cX13_findSymbol 0 = .ok (.aload_n 1, 1) := by decide +kernel
theorem dX13_findSymbol_1 : decode cX13_findSymbol 1 = .ok (.iload_n 2, 1) := by decide +kernel
theorem dX13_findSymbol_2 : decode cX13_findSymbol 2 = .ok (.iload_n 3, 1) := by decide +kernel
theorem dX13_findSymbol_3 : decode cX13_findSymbol 3 = .ok (.invokestatic 392, 3) := by decide +kernel
theorem dX13_findSymbol_6 : decode cX13_findSymbol 6 = .ok (.istore 4, 2) := by decide +kernel
theorem dX13_findSymbol_8 : decode cX13_findSymbol 8 = .ok (.aload_n 0, 1) := by decide +kernel
theorem dX13_findSymbol_9 : decode cX13_findSymbol 9 = .ok (.getfield 29, 3) := by decide +kernel
theorem dX13_findSymbol_12 : decode cX13_findSymbol 12 = .ok (.iload 4, 2) := by decide +kernel
theorem dX13_findSymbol_14 : decode cX13_findSymbol 14 = .ok (.iaload, 1) := by decide +kernel
theorem dX13_findSymbol_15 : decode cX13_findSymbol 15 = .ok (.iconst (-1), 1) := by decide +kernel
theorem dX13_findSymbol_16 : decode cX13_findSymbol 16 = .ok (.if_icmp .eq 52, 3) := by decide +kernel
theorem dX13_findSymbol_19 : decode cX13_findSymbol 19 = .ok (.aload_n 0, 1) := by decide +kernel
theorem dX13_findSymbol_20 : decode cX13_findSymbol 20 = .ok (.getfield 29, 3) := by decide +kernel
theorem dX13_findSymbol_23 : decode cX13_findSymbol 23 = .ok (.iload 4, 2) := by decide +kernel
theorem dX13_findSymbol_25 : decode cX13_findSymbol 25 = .ok (.iaload, 1) := by decide +kernel
theorem dX13_findSymbol_26 : decode cX13_findSymbol 26 = .ok (.istore 5, 2) := by decide +kernel
theorem dX13_findSymbol_28 : decode cX13_findSymbol 28 = .ok (.aload_n 0, 1) := by decide +kernel
theorem dX13_findSymbol_29 : decode cX13_findSymbol 29 = .ok (.aload_n 0, 1) := by decide +kernel
theorem dX13_findSymbol_30 : decode cX13_findSymbol 30 = .ok (.getfield 17, 3) := by decide +kernel
theorem dX13_findSymbol_33 : decode cX13_findSymbol 33 = .ok (.iload 5, 2) := by decide +kernel
theorem dX13_findSymbol_35 : decode cX13_findSymbol 35 = .ok (.iaload, 1) := by decide +kernel
theorem dX13_findSymbol_36 : decode cX13_findSymbol 36 = .ok (.aload_n 0, 1) := by decide +kernel
theorem dX13_findSymbol_37 : decode cX13_findSymbol 37 = .ok (.getfield 20, 3) := by decide +kernel
theorem dX13_findSymbol_40 : decode cX13_findSymbol 40 = .ok (.iload 5, 2) := by decide +kernel
theorem dX13_findSymbol_42 : decode cX13_findSymbol 42 = .ok (.iaload, 1) := by decide +kernel
theorem dX13_findSymbol_43 : decode cX13_findSymbol 43 = .ok (.aload_n 1, 1) := by decide +kernel
theorem dX13_findSymbol_44 : decode cX13_findSymbol 44 = .ok (.iload_n 2, 1) := by decide +kernel
theorem dX13_findSymbol_45 : decode cX13_findSymbol 45 = .ok (.iload_n 3, 1) := by decide +kernel
theorem dX13_findSymbol_46 : decode cX13_findSymbol 46 = .ok (.invokevirtual 396, 3) := by decide +kernel
theorem dX13_findSymbol_49 : decode cX13_findSymbol 49 = .ok (.ifCond .eq 6, 3) := by decide +kernel
theorem dX13_findSymbol_52 : decode cX13_findSymbol 52 = .ok (.iload 5, 2) := by decide +kernel
theorem dX13_findSymbol_54 : decode cX13_findSymbol 54 = .ok (.ireturn, 1) := by decide +kernel
theorem dX13_findSymbol_55 : decode cX13_findSymbol 55 = .ok (.iload 4, 2) := by decide +kernel
theorem dX13_findSymbol_57 : decode cX13_findSymbol 57 = .ok (.iconst 1, 1) := by decide +kernel
theorem dX13_findSymbol_58 : decode cX13_findSymbol 58 = .ok (.iadd, 1) := by decide +kernel
theorem dX13_findSymbol_59 : decode cX13_findSymbol 59 = .ok (.sipush 4095, 3) := by decide +kernel
theorem dX13_findSymbol_62 : decode cX13_findSymbol 62 = .ok (.iand, 1) := by decide +kernel
theorem dX13_findSymbol_63 : decode cX13_findSymbol 63 = .ok (.istore 4, 2) := by decide +kernel
theorem dX13_findSymbol_65 : decode cX13_findSymbol 65 = .ok (.goto (-57), 3) := by decide +kernel
theorem dX13_findSymbol_68 : decode cX13_findSymbol 68 = .ok (.iconst (-1), 1) := by decide +kernel
theorem dX13_findSymbol_69 : decode cX13_findSymbol 69 = .ok (.ireturn, 1) := by decide +kernel
theorem dX13_findLabel_0 : decode cX13_findLabel 0 = .ok (.aload_n 1, 1) := by decide +kernel
theorem dX13_findLabel_1 : decode cX13_findLabel 1 = .ok (.iload_n 2, 1) := by decide +kernel
theorem dX13_findLabel_2 : decode cX13_findLabel 2 = .ok (.iload_n 3, 1) := by decide +kernel
theorem dX13_findLabel_3 : decode cX13_findLabel 3 = .ok (.invokestatic 392, 3) := by decide +kernel
theorem dX13_findLabel_6 : decode cX13_findLabel 6 = .ok (.istore 4, 2) := by decide +kernel
theorem dX13_findLabel_8 : decode cX13_findLabel 8 = .ok (.aload_n 0, 1) := by decide +kernel
theorem dX13_findLabel_9 : decode cX13_findLabel 9 = .ok (.getfield 32, 3) := by decide +kernel
theorem dX13_findLabel_12 : decode cX13_findLabel 12 = .ok (.iload 4, 2) := by decide +kernel
theorem dX13_findLabel_14 : decode cX13_findLabel 14 = .ok (.iaload, 1) := by decide +kernel
theorem dX13_findLabel_15 : decode cX13_findLabel 15 = .ok (.iconst (-1), 1) := by decide +kernel
theorem dX13_findLabel_16 : decode cX13_findLabel 16 = .ok (.if_icmp .eq 52, 3) := by decide +kernel
theorem dX13_findLabel_19 : decode cX13_findLabel 19 = .ok (.aload_n 0, 1) := by decide +kernel
theorem dX13_findLabel_20 : decode cX13_findLabel 20 = .ok (.getfield 32, 3) := by decide +kernel
theorem dX13_findLabel_23 : decode cX13_findLabel 23 = .ok (.iload 4, 2) := by decide +kernel
theorem dX13_findLabel_25 : decode cX13_findLabel 25 = .ok (.iaload, 1) := by decide +kernel
theorem dX13_findLabel_26 : decode cX13_findLabel 26 = .ok (.istore 5, 2) := by decide +kernel
theorem dX13_findLabel_28 : decode cX13_findLabel 28 = .ok (.aload_n 0, 1) := by decide +kernel
theorem dX13_findLabel_29 : decode cX13_findLabel 29 = .ok (.aload_n 0, 1) := by decide +kernel
theorem dX13_findLabel_30 : decode cX13_findLabel 30 = .ok (.getfield 23, 3) := by decide +kernel
theorem dX13_findLabel_33 : decode cX13_findLabel 33 = .ok (.iload 5, 2) := by decide +kernel
theorem dX13_findLabel_35 : decode cX13_findLabel 35 = .ok (.iaload, 1) := by decide +kernel
theorem dX13_findLabel_36 : decode cX13_findLabel 36 = .ok (.aload_n 0, 1) := by decide +kernel
theorem dX13_findLabel_37 : decode cX13_findLabel 37 = .ok (.getfield 26, 3) := by decide +kernel
theorem dX13_findLabel_40 : decode cX13_findLabel 40 = .ok (.iload 5, 2) := by decide +kernel
theorem dX13_findLabel_42 : decode cX13_findLabel 42 = .ok (.iaload, 1) := by decide +kernel
theorem dX13_findLabel_43 : decode cX13_findLabel 43 = .ok (.aload_n 1, 1) := by decide +kernel
theorem dX13_findLabel_44 : decode cX13_findLabel 44 = .ok (.iload_n 2, 1) := by decide +kernel
theorem dX13_findLabel_45 : decode cX13_findLabel 45 = .ok (.iload_n 3, 1) := by decide +kernel
theorem dX13_findLabel_46 : decode cX13_findLabel 46 = .ok (.invokevirtual 396, 3) := by decide +kernel
theorem dX13_findLabel_49 : decode cX13_findLabel 49 = .ok (.ifCond .eq 6, 3) := by decide +kernel
theorem dX13_findLabel_52 : decode cX13_findLabel 52 = .ok (.iload 5, 2) := by decide +kernel
theorem dX13_findLabel_54 : decode cX13_findLabel 54 = .ok (.ireturn, 1) := by decide +kernel
theorem dX13_findLabel_55 : decode cX13_findLabel 55 = .ok (.iload 4, 2) := by decide +kernel
theorem dX13_findLabel_57 : decode cX13_findLabel 57 = .ok (.iconst 1, 1) := by decide +kernel
theorem dX13_findLabel_58 : decode cX13_findLabel 58 = .ok (.iadd, 1) := by decide +kernel
theorem dX13_findLabel_59 : decode cX13_findLabel 59 = .ok (.sipush 4095, 3) := by decide +kernel
theorem dX13_findLabel_62 : decode cX13_findLabel 62 = .ok (.iand, 1) := by decide +kernel
theorem dX13_findLabel_63 : decode cX13_findLabel 63 = .ok (.istore 4, 2) := by decide +kernel
theorem dX13_findLabel_65 : decode cX13_findLabel 65 = .ok (.goto (-57), 3) := by decide +kernel
theorem dX13_findLabel_68 : decode cX13_findLabel 68 = .ok (.iconst (-1), 1) := by decide +kernel
theorem dX13_findLabel_69 : decode cX13_findLabel 69 = .ok (.ireturn, 1) := by decide +kernel
theorem dX13_keepSymbol_0 : decode cX13_keepSymbol 0 = .ok (.aload_n 0, 1) := by decide +kernel
theorem dX13_keepSymbol_1 : decode cX13_keepSymbol 1 = .ok (.getfield 14, 3) := by decide +kernel
theorem dX13_keepSymbol_4 : decode cX13_keepSymbol 4 = .ok (.aload_n 0, 1) := by decide +kernel
theorem dX13_keepSymbol_5 : decode cX13_keepSymbol 5 = .ok (.getfield 17, 3) := by decide +kernel
theorem dX13_keepSymbol_8 : decode cX13_keepSymbol 8 = .ok (.iload_n 1, 1) := by decide +kernel
theorem dX13_keepSymbol_9 : decode cX13_keepSymbol 9 = .ok (.iaload, 1) := by decide +kernel
theorem dX13_keepSymbol_10 : decode cX13_keepSymbol 10 = .ok (.aload_n 0, 1) := by decide +kernel
theorem dX13_keepSymbol_11 : decode cX13_keepSymbol 11 = .ok (.getfield 20, 3) := by decide +kernel
theorem dX13_keepSymbol_14 : decode cX13_keepSymbol 14 = .ok (.iload_n 1, 1) := by decide +kernel
theorem dX13_keepSymbol_15 : decode cX13_keepSymbol 15 = .ok (.iaload, 1) := by decide +kernel
theorem dX13_keepSymbol_16 : decode cX13_keepSymbol 16 = .ok (.invokestatic 392, 3) := by decide +kernel
theorem dX13_keepSymbol_19 : decode cX13_keepSymbol 19 = .ok (.istore_n 2, 1) := by decide +kernel
theorem dX13_keepSymbol_20 : decode cX13_keepSymbol 20 = .ok (.aload_n 0, 1) := by decide +kernel
theorem dX13_keepSymbol_21 : decode cX13_keepSymbol 21 = .ok (.getfield 29, 3) := by decide +kernel
theorem dX13_keepSymbol_24 : decode cX13_keepSymbol 24 = .ok (.iload_n 2, 1) := by decide +kernel
theorem dX13_keepSymbol_25 : decode cX13_keepSymbol 25 = .ok (.iaload, 1) := by decide +kernel
theorem dX13_keepSymbol_26 : decode cX13_keepSymbol 26 = .ok (.iconst (-1), 1) := by decide +kernel
theorem dX13_keepSymbol_27 : decode cX13_keepSymbol 27 = .ok (.if_icmp .eq 14, 3) := by decide +kernel
theorem dX13_keepSymbol_30 : decode cX13_keepSymbol 30 = .ok (.iload_n 2, 1) := by decide +kernel
theorem dX13_keepSymbol_31 : decode cX13_keepSymbol 31 = .ok (.iconst 1, 1) := by decide +kernel
theorem dX13_keepSymbol_32 : decode cX13_keepSymbol 32 = .ok (.iadd, 1) := by decide +kernel
theorem dX13_keepSymbol_33 : decode cX13_keepSymbol 33 = .ok (.sipush 4095, 3) := by decide +kernel
theorem dX13_keepSymbol_36 : decode cX13_keepSymbol 36 = .ok (.iand, 1) := by decide +kernel
theorem dX13_keepSymbol_37 : decode cX13_keepSymbol 37 = .ok (.istore_n 2, 1) := by decide +kernel
theorem dX13_keepSymbol_38 : decode cX13_keepSymbol 38 = .ok (.goto (-18), 3) := by decide +kernel
theorem dX13_keepSymbol_41 : decode cX13_keepSymbol 41 = .ok (.aload_n 0, 1) := by decide +kernel
theorem dX13_keepSymbol_42 : decode cX13_keepSymbol 42 = .ok (.getfield 29, 3) := by decide +kernel
theorem dX13_keepSymbol_45 : decode cX13_keepSymbol 45 = .ok (.iload_n 2, 1) := by decide +kernel
theorem dX13_keepSymbol_46 : decode cX13_keepSymbol 46 = .ok (.iload_n 1, 1) := by decide +kernel
theorem dX13_keepSymbol_47 : decode cX13_keepSymbol 47 = .ok (.iastore, 1) := by decide +kernel
theorem dX13_keepSymbol_48 : decode cX13_keepSymbol 48 = .ok (.return_, 1) := by decide +kernel
theorem dX13_keepLabel_0 : decode cX13_keepLabel 0 = .ok (.aload_n 0, 1) := by decide +kernel
theorem dX13_keepLabel_1 : decode cX13_keepLabel 1 = .ok (.getfield 14, 3) := by decide +kernel
theorem dX13_keepLabel_4 : decode cX13_keepLabel 4 = .ok (.aload_n 0, 1) := by decide +kernel
theorem dX13_keepLabel_5 : decode cX13_keepLabel 5 = .ok (.getfield 23, 3) := by decide +kernel
theorem dX13_keepLabel_8 : decode cX13_keepLabel 8 = .ok (.iload_n 1, 1) := by decide +kernel
theorem dX13_keepLabel_9 : decode cX13_keepLabel 9 = .ok (.iaload, 1) := by decide +kernel
theorem dX13_keepLabel_10 : decode cX13_keepLabel 10 = .ok (.aload_n 0, 1) := by decide +kernel
theorem dX13_keepLabel_11 : decode cX13_keepLabel 11 = .ok (.getfield 26, 3) := by decide +kernel
theorem dX13_keepLabel_14 : decode cX13_keepLabel 14 = .ok (.iload_n 1, 1) := by decide +kernel
theorem dX13_keepLabel_15 : decode cX13_keepLabel 15 = .ok (.iaload, 1) := by decide +kernel
theorem dX13_keepLabel_16 : decode cX13_keepLabel 16 = .ok (.invokestatic 392, 3) := by decide +kernel
theorem dX13_keepLabel_19 : decode cX13_keepLabel 19 = .ok (.istore_n 2, 1) := by decide +kernel
theorem dX13_keepLabel_20 : decode cX13_keepLabel 20 = .ok (.aload_n 0, 1) := by decide +kernel
theorem dX13_keepLabel_21 : decode cX13_keepLabel 21 = .ok (.getfield 32, 3) := by decide +kernel
theorem dX13_keepLabel_24 : decode cX13_keepLabel 24 = .ok (.iload_n 2, 1) := by decide +kernel
theorem dX13_keepLabel_25 : decode cX13_keepLabel 25 = .ok (.iaload, 1) := by decide +kernel
theorem dX13_keepLabel_26 : decode cX13_keepLabel 26 = .ok (.iconst (-1), 1) := by decide +kernel
theorem dX13_keepLabel_27 : decode cX13_keepLabel 27 = .ok (.if_icmp .eq 14, 3) := by decide +kernel
theorem dX13_keepLabel_30 : decode cX13_keepLabel 30 = .ok (.iload_n 2, 1) := by decide +kernel
theorem dX13_keepLabel_31 : decode cX13_keepLabel 31 = .ok (.iconst 1, 1) := by decide +kernel
theorem dX13_keepLabel_32 : decode cX13_keepLabel 32 = .ok (.iadd, 1) := by decide +kernel
theorem dX13_keepLabel_33 : decode cX13_keepLabel 33 = .ok (.sipush 4095, 3) := by decide +kernel
theorem dX13_keepLabel_36 : decode cX13_keepLabel 36 = .ok (.iand, 1) := by decide +kernel
theorem dX13_keepLabel_37 : decode cX13_keepLabel 37 = .ok (.istore_n 2, 1) := by decide +kernel
theorem dX13_keepLabel_38 : decode cX13_keepLabel 38 = .ok (.goto (-18), 3) := by decide +kernel
theorem dX13_keepLabel_41 : decode cX13_keepLabel 41 = .ok (.aload_n 0, 1) := by decide +kernel
theorem dX13_keepLabel_42 : decode cX13_keepLabel 42 = .ok (.getfield 32, 3) := by decide +kernel
theorem dX13_keepLabel_45 : decode cX13_keepLabel 45 = .ok (.iload_n 2, 1) := by decide +kernel
theorem dX13_keepLabel_46 : decode cX13_keepLabel 46 = .ok (.iload_n 1, 1) := by decide +kernel
theorem dX13_keepLabel_47 : decode cX13_keepLabel 47 = .ok (.iastore, 1) := by decide +kernel
theorem dX13_keepLabel_48 : decode cX13_keepLabel 48 = .ok (.return_, 1) := by decide +kernel
theorem dX13_keepChars_0 : decode cX13_keepChars 0 = .ok (.iconst 0, 1) := by decide +kernel
theorem dX13_keepChars_1 : decode cX13_keepChars 1 = .ok (.istore_n 3, 1) := by decide +kernel
theorem dX13_keepChars_2 : decode cX13_keepChars 2 = .ok (.iload_n 3, 1) := by decide +kernel
theorem dX13_keepChars_3 : decode cX13_keepChars 3 = .ok (.iload_n 2, 1) := by decide +kernel
theorem dX13_keepChars_4 : decode cX13_keepChars 4 = .ok (.if_icmp .ge 28, 3) := by decide +kernel
theorem dX13_keepChars_7 : decode cX13_keepChars 7 = .ok (.aload_n 0, 1) := by decide +kernel
theorem dX13_keepChars_8 : decode cX13_keepChars 8 = .ok (.getfield 14, 3) := by decide +kernel
theorem dX13_keepChars_11 : decode cX13_keepChars 11 = .ok (.aload_n 0, 1) := by decide +kernel
theorem dX13_keepChars_12 : decode cX13_keepChars 12 = .ok (.getfield 400, 3) := by decide +kernel
theorem dX13_keepChars_15 : decode cX13_keepChars 15 = .ok (.iload_n 3, 1) := by decide +kernel
theorem dX13_keepChars_16 : decode cX13_keepChars 16 = .ok (.iadd, 1) := by decide +kernel
theorem dX13_keepChars_17 : decode cX13_keepChars 17 = .ok (.aload_n 0, 1) := by decide +kernel
theorem dX13_keepChars_18 : decode cX13_keepChars 18 = .ok (.getfield 8, 3) := by decide +kernel
theorem dX13_keepChars_21 : decode cX13_keepChars 21 = .ok (.iload_n 1, 1) := by decide +kernel
theorem dX13_keepChars_22 : decode cX13_keepChars 22 = .ok (.iload_n 3, 1) := by decide +kernel
theorem dX13_keepChars_23 : decode cX13_keepChars 23 = .ok (.iadd, 1) := by decide +kernel
theorem dX13_keepChars_24 : decode cX13_keepChars 24 = .ok (.iaload, 1) := by decide +kernel
theorem dX13_keepChars_25 : decode cX13_keepChars 25 = .ok (.iastore, 1) := by decide +kernel
theorem dX13_keepChars_26 : decode cX13_keepChars 26 = .ok (.iinc 3 1, 3) := by decide +kernel
theorem dX13_keepChars_29 : decode cX13_keepChars 29 = .ok (.goto (-27), 3) := by decide +kernel
theorem dX13_keepChars_32 : decode cX13_keepChars 32 = .ok (.aload_n 0, 1) := by decide +kernel
theorem dX13_keepChars_33 : decode cX13_keepChars 33 = .ok (.dup, 1) := by decide +kernel
theorem dX13_keepChars_34 : decode cX13_keepChars 34 = .ok (.getfield 400, 3) := by decide +kernel
theorem dX13_keepChars_37 : decode cX13_keepChars 37 = .ok (.iload_n 2, 1) := by decide +kernel
theorem dX13_keepChars_38 : decode cX13_keepChars 38 = .ok (.iadd, 1) := by decide +kernel
theorem dX13_keepChars_39 : decode cX13_keepChars 39 = .ok (.putfield 400, 3) := by decide +kernel
theorem dX13_keepChars_42 : decode cX13_keepChars 42 = .ok (.return_, 1) := by decide +kernel
theorem dX13_areApart_0 : decode cX13_areApart 0 = .ok (.aload_n 0, 1) := by decide +kernel
theorem dX13_areApart_1 : decode cX13_areApart 1 = .ok (.getfield 120, 3) := by decide +kernel
theorem dX13_areApart_4 : decode cX13_areApart 4 = .ok (.bipush 16, 2) := by decide +kernel
theorem dX13_areApart_6 : decode cX13_areApart 6 = .ok (.iload_n 1, 1) := by decide +kernel
theorem dX13_areApart_7 : decode cX13_areApart 7 = .ok (.imul, 1) := by decide +kernel
theorem dX13_areApart_8 : decode cX13_areApart 8 = .ok (.iload_n 2, 1) := by decide +kernel
theorem dX13_areApart_9 : decode cX13_areApart 9 = .ok (.bipush 64, 2) := by decide +kernel
theorem dX13_areApart_11 : decode cX13_areApart 11 = .ok (.idiv, 1) := by decide +kernel
theorem dX13_areApart_12 : decode cX13_areApart 12 = .ok (.iadd, 1) := by decide +kernel
theorem dX13_areApart_13 : decode cX13_areApart 13 = .ok (.laload, 1) := by decide +kernel
theorem dX13_areApart_14 : decode cX13_areApart 14 = .ok (.iload_n 2, 1) := by decide +kernel
theorem dX13_areApart_15 : decode cX13_areApart 15 = .ok (.bipush 64, 2) := by decide +kernel
theorem dX13_areApart_17 : decode cX13_areApart 17 = .ok (.irem, 1) := by decide +kernel
theorem dX13_areApart_18 : decode cX13_areApart 18 = .ok (.lshr, 1) := by decide +kernel
theorem dX13_areApart_19 : decode cX13_areApart 19 = .ok (.lconst 1, 1) := by decide +kernel
theorem dX13_areApart_20 : decode cX13_areApart 20 = .ok (.land, 1) := by decide +kernel
theorem dX13_areApart_21 : decode cX13_areApart 21 = .ok (.lconst 1, 1) := by decide +kernel
theorem dX13_areApart_22 : decode cX13_areApart 22 = .ok (.lcmp, 1) := by decide +kernel
theorem dX13_areApart_23 : decode cX13_areApart 23 = .ok (.ifCond .ne 7, 3) := by decide +kernel
theorem dX13_areApart_26 : decode cX13_areApart 26 = .ok (.iconst 1, 1) := by decide +kernel
theorem dX13_areApart_27 : decode cX13_areApart 27 = .ok (.goto 4, 3) := by decide +kernel
theorem dX13_areApart_30 : decode cX13_areApart 30 = .ok (.iconst 0, 1) := by decide +kernel
theorem dX13_areApart_31 : decode cX13_areApart 31 = .ok (.ireturn, 1) := by decide +kernel
theorem dX13_setApart_0 : decode cX13_setApart 0 = .ok (.lconst 1, 1) := by decide +kernel
theorem dX13_setApart_1 : decode cX13_setApart 1 = .ok (.iload_n 2, 1) := by decide +kernel
theorem dX13_setApart_2 : decode cX13_setApart 2 = .ok (.bipush 64, 2) := by decide +kernel
theorem dX13_setApart_4 : decode cX13_setApart 4 = .ok (.irem, 1) := by decide +kernel
theorem dX13_setApart_5 : decode cX13_setApart 5 = .ok (.lshl, 1) := by decide +kernel
theorem dX13_setApart_6 : decode cX13_setApart 6 = .ok (.lstore 4, 2) := by decide +kernel
theorem dX13_setApart_8 : decode cX13_setApart 8 = .ok (.lconst 1, 1) := by decide +kernel
theorem dX13_setApart_9 : decode cX13_setApart 9 = .ok (.iload_n 1, 1) := by decide +kernel
theorem dX13_setApart_10 : decode cX13_setApart 10 = .ok (.bipush 64, 2) := by decide +kernel
theorem dX13_setApart_12 : decode cX13_setApart 12 = .ok (.irem, 1) := by decide +kernel
theorem dX13_setApart_13 : decode cX13_setApart 13 = .ok (.lshl, 1) := by decide +kernel
theorem dX13_setApart_14 : decode cX13_setApart 14 = .ok (.lstore 6, 2) := by decide +kernel
theorem dX13_setApart_16 : decode cX13_setApart 16 = .ok (.aload_n 0, 1) := by decide +kernel
theorem dX13_setApart_17 : decode cX13_setApart 17 = .ok (.getfield 120, 3) := by decide +kernel
theorem dX13_setApart_20 : decode cX13_setApart 20 = .ok (.bipush 16, 2) := by decide +kernel
theorem dX13_setApart_22 : decode cX13_setApart 22 = .ok (.iload_n 1, 1) := by decide +kernel
theorem dX13_setApart_23 : decode cX13_setApart 23 = .ok (.imul, 1) := by decide +kernel
theorem dX13_setApart_24 : decode cX13_setApart 24 = .ok (.iload_n 2, 1) := by decide +kernel
theorem dX13_setApart_25 : decode cX13_setApart 25 = .ok (.bipush 64, 2) := by decide +kernel
theorem dX13_setApart_27 : decode cX13_setApart 27 = .ok (.idiv, 1) := by decide +kernel
theorem dX13_setApart_28 : decode cX13_setApart 28 = .ok (.iadd, 1) := by decide +kernel
theorem dX13_setApart_29 : decode cX13_setApart 29 = .ok (.iload_n 3, 1) := by decide +kernel
theorem dX13_setApart_30 : decode cX13_setApart 30 = .ok (.ifCond .eq 23, 3) := by decide +kernel
theorem dX13_setApart_33 : decode cX13_setApart 33 = .ok (.aload_n 0, 1) := by decide +kernel
theorem dX13_setApart_34 : decode cX13_setApart 34 = .ok (.getfield 120, 3) := by decide +kernel
theorem dX13_setApart_37 : decode cX13_setApart 37 = .ok (.bipush 16, 2) := by decide +kernel
theorem dX13_setApart_39 : decode cX13_setApart 39 = .ok (.iload_n 1, 1) := by decide +kernel
theorem dX13_setApart_40 : decode cX13_setApart 40 = .ok (.imul, 1) := by decide +kernel
theorem dX13_setApart_41 : decode cX13_setApart 41 = .ok (.iload_n 2, 1) := by decide +kernel
theorem dX13_setApart_42 : decode cX13_setApart 42 = .ok (.bipush 64, 2) := by decide +kernel
theorem dX13_setApart_44 : decode cX13_setApart 44 = .ok (.idiv, 1) := by decide +kernel
theorem dX13_setApart_45 : decode cX13_setApart 45 = .ok (.iadd, 1) := by decide +kernel
theorem dX13_setApart_46 : decode cX13_setApart 46 = .ok (.laload, 1) := by decide +kernel
theorem dX13_setApart_47 : decode cX13_setApart 47 = .ok (.lload 4, 2) := by decide +kernel
theorem dX13_setApart_49 : decode cX13_setApart 49 = .ok (.lor, 1) := by decide +kernel
theorem dX13_setApart_50 : decode cX13_setApart 50 = .ok (.goto 24, 3) := by decide +kernel
theorem dX13_setApart_53 : decode cX13_setApart 53 = .ok (.aload_n 0, 1) := by decide +kernel
theorem dX13_setApart_54 : decode cX13_setApart 54 = .ok (.getfield 120, 3) := by decide +kernel
theorem dX13_setApart_57 : decode cX13_setApart 57 = .ok (.bipush 16, 2) := by decide +kernel
theorem dX13_setApart_59 : decode cX13_setApart 59 = .ok (.iload_n 1, 1) := by decide +kernel
theorem dX13_setApart_60 : decode cX13_setApart 60 = .ok (.imul, 1) := by decide +kernel
theorem dX13_setApart_61 : decode cX13_setApart 61 = .ok (.iload_n 2, 1) := by decide +kernel
theorem dX13_setApart_62 : decode cX13_setApart 62 = .ok (.bipush 64, 2) := by decide +kernel
theorem dX13_setApart_64 : decode cX13_setApart 64 = .ok (.idiv, 1) := by decide +kernel
theorem dX13_setApart_65 : decode cX13_setApart 65 = .ok (.iadd, 1) := by decide +kernel
theorem dX13_setApart_66 : decode cX13_setApart 66 = .ok (.laload, 1) := by decide +kernel
theorem dX13_setApart_67 : decode cX13_setApart 67 = .ok (.lload 4, 2) := by decide +kernel
theorem dX13_setApart_69 : decode cX13_setApart 69 = .ok (.ldc2_w 403, 3) := by decide +kernel
theorem dX13_setApart_72 : decode cX13_setApart 72 = .ok (.lxor, 1) := by decide +kernel
theorem dX13_setApart_73 : decode cX13_setApart 73 = .ok (.land, 1) := by decide +kernel
theorem dX13_setApart_74 : decode cX13_setApart 74 = .ok (.lastore, 1) := by decide +kernel
theorem dX13_setApart_75 : decode cX13_setApart 75 = .ok (.aload_n 0, 1) := by decide +kernel
theorem dX13_setApart_76 : decode cX13_setApart 76 = .ok (.getfield 120, 3) := by decide +kernel
theorem dX13_setApart_79 : decode cX13_setApart 79 = .ok (.bipush 16, 2) := by decide +kernel
theorem dX13_setApart_81 : decode cX13_setApart 81 = .ok (.iload_n 2, 1) := by decide +kernel
theorem dX13_setApart_82 : decode cX13_setApart 82 = .ok (.imul, 1) := by decide +kernel
theorem dX13_setApart_83 : decode cX13_setApart 83 = .ok (.iload_n 1, 1) := by decide +kernel
theorem dX13_setApart_84 : decode cX13_setApart 84 = .ok (.bipush 64, 2) := by decide +kernel
theorem dX13_setApart_86 : decode cX13_setApart 86 = .ok (.idiv, 1) := by decide +kernel
theorem dX13_setApart_87 : decode cX13_setApart 87 = .ok (.iadd, 1) := by decide +kernel
theorem dX13_setApart_88 : decode cX13_setApart 88 = .ok (.iload_n 3, 1) := by decide +kernel
theorem dX13_setApart_89 : decode cX13_setApart 89 = .ok (.ifCond .eq 23, 3) := by decide +kernel
theorem dX13_setApart_92 : decode cX13_setApart 92 = .ok (.aload_n 0, 1) := by decide +kernel
theorem dX13_setApart_93 : decode cX13_setApart 93 = .ok (.getfield 120, 3) := by decide +kernel
theorem dX13_setApart_96 : decode cX13_setApart 96 = .ok (.bipush 16, 2) := by decide +kernel
theorem dX13_setApart_98 : decode cX13_setApart 98 = .ok (.iload_n 2, 1) := by decide +kernel
theorem dX13_setApart_99 : decode cX13_setApart 99 = .ok (.imul, 1) := by decide +kernel
theorem dX13_setApart_100 : decode cX13_setApart 100 = .ok (.iload_n 1, 1) := by decide +kernel
theorem dX13_setApart_101 : decode cX13_setApart 101 = .ok (.bipush 64, 2) := by decide +kernel
theorem dX13_setApart_103 : decode cX13_setApart 103 = .ok (.idiv, 1) := by decide +kernel
theorem dX13_setApart_104 : decode cX13_setApart 104 = .ok (.iadd, 1) := by decide +kernel
theorem dX13_setApart_105 : decode cX13_setApart 105 = .ok (.laload, 1) := by decide +kernel
theorem dX13_setApart_106 : decode cX13_setApart 106 = .ok (.lload 6, 2) := by decide +kernel
theorem dX13_setApart_108 : decode cX13_setApart 108 = .ok (.lor, 1) := by decide +kernel
theorem dX13_setApart_109 : decode cX13_setApart 109 = .ok (.goto 24, 3) := by decide +kernel
theorem dX13_setApart_112 : decode cX13_setApart 112 = .ok (.aload_n 0, 1) := by decide +kernel
theorem dX13_setApart_113 : decode cX13_setApart 113 = .ok (.getfield 120, 3) := by decide +kernel
theorem dX13_setApart_116 : decode cX13_setApart 116 = .ok (.bipush 16, 2) := by decide +kernel
theorem dX13_setApart_118 : decode cX13_setApart 118 = .ok (.iload_n 2, 1) := by decide +kernel
theorem dX13_setApart_119 : decode cX13_setApart 119 = .ok (.imul, 1) := by decide +kernel
theorem dX13_setApart_120 : decode cX13_setApart 120 = .ok (.iload_n 1, 1) := by decide +kernel
theorem dX13_setApart_121 : decode cX13_setApart 121 = .ok (.bipush 64, 2) := by decide +kernel
theorem dX13_setApart_123 : decode cX13_setApart 123 = .ok (.idiv, 1) := by decide +kernel
theorem dX13_setApart_124 : decode cX13_setApart 124 = .ok (.iadd, 1) := by decide +kernel
theorem dX13_setApart_125 : decode cX13_setApart 125 = .ok (.laload, 1) := by decide +kernel
theorem dX13_setApart_126 : decode cX13_setApart 126 = .ok (.lload 6, 2) := by decide +kernel
theorem dX13_setApart_128 : decode cX13_setApart 128 = .ok (.ldc2_w 403, 3) := by decide +kernel
theorem dX13_setApart_131 : decode cX13_setApart 131 = .ok (.lxor, 1) := by decide +kernel
theorem dX13_setApart_132 : decode cX13_setApart 132 = .ok (.land, 1) := by decide +kernel
theorem dX13_setApart_133 : decode cX13_setApart 133 = .ok (.lastore, 1) := by decide +kernel
theorem dX13_setApart_134 : decode cX13_setApart 134 = .ok (.return_, 1) := by decide +kernel
theorem dX13_dropTo_0 : decode cX13_dropTo 0 = .ok (.aload_n 0, 1) := by decide +kernel
theorem dX13_dropTo_1 : decode cX13_dropTo 1 = .ok (.getfield 405, 3) := by decide +kernel
theorem dX13_dropTo_4 : decode cX13_dropTo 4 = .ok (.iload_n 1, 1) := by decide +kernel
theorem dX13_dropTo_5 : decode cX13_dropTo 5 = .ok (.if_icmp .le 31, 3) := by decide +kernel
theorem dX13_dropTo_8 : decode cX13_dropTo 8 = .ok (.aload_n 0, 1) := by decide +kernel
theorem dX13_dropTo_9 : decode cX13_dropTo 9 = .ok (.dup, 1) := by decide +kernel
theorem dX13_dropTo_10 : decode cX13_dropTo 10 = .ok (.getfield 405, 3) := by decide +kernel
theorem dX13_dropTo_13 : decode cX13_dropTo 13 = .ok (.iconst 1, 1) := by decide +kernel
theorem dX13_dropTo_14 : decode cX13_dropTo 14 = .ok (.isub, 1) := by decide +kernel
theorem dX13_dropTo_15 : decode cX13_dropTo 15 = .ok (.putfield 405, 3) := by decide +kernel
theorem dX13_dropTo_18 : decode cX13_dropTo 18 = .ok (.aload_n 0, 1) := by decide +kernel
theorem dX13_dropTo_19 : decode cX13_dropTo 19 = .ok (.getfield 39, 3) := by decide +kernel
theorem dX13_dropTo_22 : decode cX13_dropTo 22 = .ok (.aload_n 0, 1) := by decide +kernel
theorem dX13_dropTo_23 : decode cX13_dropTo 23 = .ok (.getfield 108, 3) := by decide +kernel
theorem dX13_dropTo_26 : decode cX13_dropTo 26 = .ok (.aload_n 0, 1) := by decide +kernel
theorem dX13_dropTo_27 : decode cX13_dropTo 27 = .ok (.getfield 405, 3) := by decide +kernel
theorem dX13_dropTo_30 : decode cX13_dropTo 30 = .ok (.iaload, 1) := by decide +kernel
theorem dX13_dropTo_31 : decode cX13_dropTo 31 = .ok (.iconst 0, 1) := by decide +kernel
theorem dX13_dropTo_32 : decode cX13_dropTo 32 = .ok (.bastore, 1) := by decide +kernel
theorem dX13_dropTo_33 : decode cX13_dropTo 33 = .ok (.goto (-33), 3) := by decide +kernel
theorem dX13_dropTo_36 : decode cX13_dropTo 36 = .ok (.aload_n 0, 1) := by decide +kernel
theorem dX13_dropTo_37 : decode cX13_dropTo 37 = .ok (.getfield 408, 3) := by decide +kernel
theorem dX13_dropTo_40 : decode cX13_dropTo 40 = .ok (.iload_n 2, 1) := by decide +kernel
theorem dX13_dropTo_41 : decode cX13_dropTo 41 = .ok (.if_icmp .le 57, 3) := by decide +kernel
theorem dX13_dropTo_44 : decode cX13_dropTo 44 = .ok (.aload_n 0, 1) := by decide +kernel
theorem dX13_dropTo_45 : decode cX13_dropTo 45 = .ok (.dup, 1) := by decide +kernel
theorem dX13_dropTo_46 : decode cX13_dropTo 46 = .ok (.getfield 408, 3) := by decide +kernel
theorem dX13_dropTo_49 : decode cX13_dropTo 49 = .ok (.iconst 1, 1) := by decide +kernel
theorem dX13_dropTo_50 : decode cX13_dropTo 50 = .ok (.isub, 1) := by decide +kernel
theorem dX13_dropTo_51 : decode cX13_dropTo 51 = .ok (.putfield 408, 3) := by decide +kernel
theorem dX13_dropTo_54 : decode cX13_dropTo 54 = .ok (.aload_n 0, 1) := by decide +kernel
theorem dX13_dropTo_55 : decode cX13_dropTo 55 = .ok (.getfield 111, 3) := by decide +kernel
theorem dX13_dropTo_58 : decode cX13_dropTo 58 = .ok (.aload_n 0, 1) := by decide +kernel
theorem dX13_dropTo_59 : decode cX13_dropTo 59 = .ok (.getfield 408, 3) := by decide +kernel
theorem dX13_dropTo_62 : decode cX13_dropTo 62 = .ok (.iaload, 1) := by decide +kernel
theorem dX13_dropTo_63 : decode cX13_dropTo 63 = .ok (.istore 4, 2) := by decide +kernel
theorem dX13_dropTo_65 : decode cX13_dropTo 65 = .ok (.aload_n 0, 1) := by decide +kernel
theorem dX13_dropTo_66 : decode cX13_dropTo 66 = .ok (.getfield 51, 3) := by decide +kernel
theorem dX13_dropTo_69 : decode cX13_dropTo 69 = .ok (.iload 4, 2) := by decide +kernel
theorem dX13_dropTo_71 : decode cX13_dropTo 71 = .ok (.iaload, 1) := by decide +kernel
theorem dX13_dropTo_72 : decode cX13_dropTo 72 = .ok (.ifCond .ne 23, 3) := by decide +kernel
theorem dX13_dropTo_75 : decode cX13_dropTo 75 = .ok (.aload_n 0, 1) := by decide +kernel
theorem dX13_dropTo_76 : decode cX13_dropTo 76 = .ok (.getfield 45, 3) := by decide +kernel
theorem dX13_dropTo_79 : decode cX13_dropTo 79 = .ok (.aload_n 0, 1) := by decide +kernel
theorem dX13_dropTo_80 : decode cX13_dropTo 80 = .ok (.getfield 60, 3) := by decide +kernel
theorem dX13_dropTo_83 : decode cX13_dropTo 83 = .ok (.aload_n 0, 1) := by decide +kernel
theorem dX13_dropTo_84 : decode cX13_dropTo 84 = .ok (.getfield 54, 3) := by decide +kernel
theorem dX13_dropTo_87 : decode cX13_dropTo 87 = .ok (.iload 4, 2) := by decide +kernel
theorem dX13_dropTo_89 : decode cX13_dropTo 89 = .ok (.iaload, 1) := by decide +kernel
theorem dX13_dropTo_90 : decode cX13_dropTo 90 = .ok (.iconst 1, 1) := by decide +kernel
theorem dX13_dropTo_91 : decode cX13_dropTo 91 = .ok (.iadd, 1) := by decide +kernel
theorem dX13_dropTo_92 : decode cX13_dropTo 92 = .ok (.iaload, 1) := by decide +kernel
theorem dX13_dropTo_93 : decode cX13_dropTo 93 = .ok (.iconst (-1), 1) := by decide +kernel
theorem dX13_dropTo_94 : decode cX13_dropTo 94 = .ok (.iastore, 1) := by decide +kernel
theorem dX13_dropTo_95 : decode cX13_dropTo 95 = .ok (.goto (-59), 3) := by decide +kernel
theorem dX13_dropTo_98 : decode cX13_dropTo 98 = .ok (.aload_n 0, 1) := by decide +kernel
theorem dX13_dropTo_99 : decode cX13_dropTo 99 = .ok (.getfield 411, 3) := by decide +kernel
theorem dX13_dropTo_102 : decode cX13_dropTo 102 = .ok (.iload_n 3, 1) := by decide +kernel
theorem dX13_dropTo_103 : decode cX13_dropTo 103 = .ok (.if_icmp .le 39, 3) := by decide +kernel
theorem dX13_dropTo_106 : decode cX13_dropTo 106 = .ok (.aload_n 0, 1) := by decide +kernel
theorem dX13_dropTo_107 : decode cX13_dropTo 107 = .ok (.dup, 1) := by decide +kernel
theorem dX13_dropTo_108 : decode cX13_dropTo 108 = .ok (.getfield 411, 3) := by decide +kernel
theorem dX13_dropTo_111 : decode cX13_dropTo 111 = .ok (.iconst 1, 1) := by decide +kernel
theorem dX13_dropTo_112 : decode cX13_dropTo 112 = .ok (.isub, 1) := by decide +kernel
theorem dX13_dropTo_113 : decode cX13_dropTo 113 = .ok (.putfield 411, 3) := by decide +kernel
theorem dX13_dropTo_116 : decode cX13_dropTo 116 = .ok (.aload_n 0, 1) := by decide +kernel
theorem dX13_dropTo_117 : decode cX13_dropTo 117 = .ok (.aload_n 0, 1) := by decide +kernel
theorem dX13_dropTo_118 : decode cX13_dropTo 118 = .ok (.getfield 114, 3) := by decide +kernel
theorem dX13_dropTo_121 : decode cX13_dropTo 121 = .ok (.aload_n 0, 1) := by decide +kernel
theorem dX13_dropTo_122 : decode cX13_dropTo 122 = .ok (.getfield 411, 3) := by decide +kernel
theorem dX13_dropTo_125 : decode cX13_dropTo 125 = .ok (.iaload, 1) := by decide +kernel
theorem dX13_dropTo_126 : decode cX13_dropTo 126 = .ok (.aload_n 0, 1) := by decide +kernel
theorem dX13_dropTo_127 : decode cX13_dropTo 127 = .ok (.getfield 117, 3) := by decide +kernel
theorem dX13_dropTo_130 : decode cX13_dropTo 130 = .ok (.aload_n 0, 1) := by decide +kernel
theorem dX13_dropTo_131 : decode cX13_dropTo 131 = .ok (.getfield 411, 3) := by decide +kernel
theorem dX13_dropTo_134 : decode cX13_dropTo 134 = .ok (.iaload, 1) := by decide +kernel
theorem dX13_dropTo_135 : decode cX13_dropTo 135 = .ok (.iconst 0, 1) := by decide +kernel
theorem dX13_dropTo_136 : decode cX13_dropTo 136 = .ok (.invokevirtual 414, 3) := by decide +kernel
theorem dX13_dropTo_139 : decode cX13_dropTo 139 = .ok (.goto (-41), 3) := by decide +kernel
theorem dX13_dropTo_142 : decode cX13_dropTo 142 = .ok (.return_, 1) := by decide +kernel
theorem dX13_fail_0 : decode cX13_fail 0 = .ok (.aload_n 0, 1) := by decide +kernel
theorem dX13_fail_1 : decode cX13_fail 1 = .ok (.getfield 418, 3) := by decide +kernel
theorem dX13_fail_4 : decode cX13_fail 4 = .ok (.ifCond .ne 13, 3) := by decide +kernel
theorem dX13_fail_7 : decode cX13_fail 7 = .ok (.aload_n 0, 1) := by decide +kernel
theorem dX13_fail_8 : decode cX13_fail 8 = .ok (.iload_n 1, 1) := by decide +kernel
theorem dX13_fail_9 : decode cX13_fail 9 = .ok (.putfield 418, 3) := by decide +kernel
theorem dX13_fail_12 : decode cX13_fail 12 = .ok (.aload_n 0, 1) := by decide +kernel
theorem dX13_fail_13 : decode cX13_fail 13 = .ok (.iload_n 2, 1) := by decide +kernel
theorem dX13_fail_14 : decode cX13_fail 14 = .ok (.putfield 366, 3) := by decide +kernel
theorem dX13_fail_17 : decode cX13_fail 17 = .ok (.return_, 1) := by decide +kernel
theorem dX13_hasDollar_0 : decode cX13_hasDollar 0 = .ok (.iconst 0, 1) := by decide +kernel
theorem dX13_hasDollar_1 : decode cX13_hasDollar 1 = .ok (.istore_n 3, 1) := by decide +kernel
theorem dX13_hasDollar_2 : decode cX13_hasDollar 2 = .ok (.iconst 0, 1) := by decide +kernel
theorem dX13_hasDollar_3 : decode cX13_hasDollar 3 = .ok (.istore 4, 2) := by decide +kernel
theorem dX13_hasDollar_5 : decode cX13_hasDollar 5 = .ok (.iload 4, 2) := by decide +kernel
theorem dX13_hasDollar_7 : decode cX13_hasDollar 7 = .ok (.iconst 1, 1) := by decide +kernel
theorem dX13_hasDollar_8 : decode cX13_hasDollar 8 = .ok (.iadd, 1) := by decide +kernel
theorem dX13_hasDollar_9 : decode cX13_hasDollar 9 = .ok (.aload_n 0, 1) := by decide +kernel
theorem dX13_hasDollar_10 : decode cX13_hasDollar 10 = .ok (.getfield 421, 3) := by decide +kernel
theorem dX13_hasDollar_13 : decode cX13_hasDollar 13 = .ok (.if_icmp .ge 72, 3) := by decide +kernel
theorem dX13_hasDollar_16 : decode cX13_hasDollar 16 = .ok (.iload_n 3, 1) := by decide +kernel
theorem dX13_hasDollar_17 : decode cX13_hasDollar 17 = .ok (.ifCond .ne 56, 3) := by decide +kernel
theorem dX13_hasDollar_20 : decode cX13_hasDollar 20 = .ok (.aload_n 0, 1) := by decide +kernel
theorem dX13_hasDollar_21 : decode cX13_hasDollar 21 = .ok (.getfield 8, 3) := by decide +kernel
theorem dX13_hasDollar_24 : decode cX13_hasDollar 24 = .ok (.aload_n 0, 1) := by decide +kernel
theorem dX13_hasDollar_25 : decode cX13_hasDollar 25 = .ok (.getfield 424, 3) := by decide +kernel
theorem dX13_hasDollar_28 : decode cX13_hasDollar 28 = .ok (.iload 4, 2) := by decide +kernel
theorem dX13_hasDollar_30 : decode cX13_hasDollar 30 = .ok (.iadd, 1) := by decide +kernel
theorem dX13_hasDollar_31 : decode cX13_hasDollar 31 = .ok (.iaload, 1) := by decide +kernel
theorem dX13_hasDollar_32 : decode cX13_hasDollar 32 = .ok (.bipush 36, 2) := by decide +kernel
theorem dX13_hasDollar_34 : decode cX13_hasDollar 34 = .ok (.if_icmp .ne 43, 3) := by decide +kernel
theorem dX13_hasDollar_37 : decode cX13_hasDollar 37 = .ok (.aload_n 0, 1) := by decide +kernel
theorem dX13_hasDollar_38 : decode cX13_hasDollar 38 = .ok (.getfield 8, 3) := by decide +kernel
theorem dX13_hasDollar_41 : decode cX13_hasDollar 41 = .ok (.aload_n 0, 1) := by decide +kernel
theorem dX13_hasDollar_42 : decode cX13_hasDollar 42 = .ok (.getfield 424, 3) := by decide +kernel
theorem dX13_hasDollar_45 : decode cX13_hasDollar 45 = .ok (.iload 4, 2) := by decide +kernel
theorem dX13_hasDollar_47 : decode cX13_hasDollar 47 = .ok (.iadd, 1) := by decide +kernel
theorem dX13_hasDollar_48 : decode cX13_hasDollar 48 = .ok (.iconst 1, 1) := by decide +kernel
theorem dX13_hasDollar_49 : decode cX13_hasDollar 49 = .ok (.iadd, 1) := by decide +kernel
theorem dX13_hasDollar_50 : decode cX13_hasDollar 50 = .ok (.iaload, 1) := by decide +kernel
theorem dX13_hasDollar_51 : decode cX13_hasDollar 51 = .ok (.iload_n 1, 1) := by decide +kernel
theorem dX13_hasDollar_52 : decode cX13_hasDollar 52 = .ok (.if_icmp .eq 21, 3) := by decide +kernel
theorem dX13_hasDollar_55 : decode cX13_hasDollar 55 = .ok (.aload_n 0, 1) := by decide +kernel
theorem dX13_hasDollar_56 : decode cX13_hasDollar 56 = .ok (.getfield 8, 3) := by decide +kernel
theorem dX13_hasDollar_59 : decode cX13_hasDollar 59 = .ok (.aload_n 0, 1) := by decide +kernel
theorem dX13_hasDollar_60 : decode cX13_hasDollar 60 = .ok (.getfield 424, 3) := by decide +kernel
theorem dX13_hasDollar_63 : decode cX13_hasDollar 63 = .ok (.iload 4, 2) := by decide +kernel
theorem dX13_hasDollar_65 : decode cX13_hasDollar 65 = .ok (.iadd, 1) := by decide +kernel
theorem dX13_hasDollar_66 : decode cX13_hasDollar 66 = .ok (.iconst 1, 1) := by decide +kernel
theorem dX13_hasDollar_67 : decode cX13_hasDollar 67 = .ok (.iadd, 1) := by decide +kernel
theorem dX13_hasDollar_68 : decode cX13_hasDollar 68 = .ok (.iaload, 1) := by decide +kernel
theorem dX13_hasDollar_69 : decode cX13_hasDollar 69 = .ok (.iload_n 2, 1) := by decide +kernel
theorem dX13_hasDollar_70 : decode cX13_hasDollar 70 = .ok (.if_icmp .ne 7, 3) := by decide +kernel
theorem dX13_hasDollar_73 : decode cX13_hasDollar 73 = .ok (.iconst 1, 1) := by decide +kernel
theorem dX13_hasDollar_74 : decode cX13_hasDollar 74 = .ok (.goto 4, 3) := by decide +kernel
theorem dX13_hasDollar_77 : decode cX13_hasDollar 77 = .ok (.iconst 0, 1) := by decide +kernel
theorem dX13_hasDollar_78 : decode cX13_hasDollar 78 = .ok (.istore_n 3, 1) := by decide +kernel
theorem dX13_hasDollar_79 : decode cX13_hasDollar 79 = .ok (.iinc 4 1, 3) := by decide +kernel
theorem dX13_hasDollar_82 : decode cX13_hasDollar 82 = .ok (.goto (-77), 3) := by decide +kernel
theorem dX13_hasDollar_85 : decode cX13_hasDollar 85 = .ok (.iload_n 3, 1) := by decide +kernel
theorem dX13_hasDollar_86 : decode cX13_hasDollar 86 = .ok (.ireturn, 1) := by decide +kernel
theorem dX13_hasSign_0 : decode cX13_hasSign 0 = .ok (.iconst 0, 1) := by decide +kernel
theorem dX13_hasSign_1 : decode cX13_hasSign 1 = .ok (.istore_n 2, 1) := by decide +kernel
theorem dX13_hasSign_2 : decode cX13_hasSign 2 = .ok (.iconst 0, 1) := by decide +kernel
theorem dX13_hasSign_3 : decode cX13_hasSign 3 = .ok (.istore_n 3, 1) := by decide +kernel
theorem dX13_hasSign_4 : decode cX13_hasSign 4 = .ok (.iload_n 3, 1) := by decide +kernel
theorem dX13_hasSign_5 : decode cX13_hasSign 5 = .ok (.aload_n 0, 1) := by decide +kernel
theorem dX13_hasSign_6 : decode cX13_hasSign 6 = .ok (.getfield 421, 3) := by decide +kernel
theorem dX13_hasSign_9 : decode cX13_hasSign 9 = .ok (.if_icmp .ge 34, 3) := by decide +kernel
theorem dX13_hasSign_12 : decode cX13_hasSign 12 = .ok (.iload_n 2, 1) := by decide +kernel
theorem dX13_hasSign_13 : decode cX13_hasSign 13 = .ok (.ifCond .ne 18, 3) := by decide +kernel
theorem dX13_hasSign_16 : decode cX13_hasSign 16 = .ok (.aload_n 0, 1) := by decide +kernel
theorem dX13_hasSign_17 : decode cX13_hasSign 17 = .ok (.getfield 8, 3) := by decide +kernel
theorem dX13_hasSign_20 : decode cX13_hasSign 20 = .ok (.aload_n 0, 1) := by decide +kernel
theorem dX13_hasSign_21 : decode cX13_hasSign 21 = .ok (.getfield 424, 3) := by decide +kernel
theorem dX13_hasSign_24 : decode cX13_hasSign 24 = .ok (.iload_n 3, 1) := by decide +kernel
theorem dX13_hasSign_25 : decode cX13_hasSign 25 = .ok (.iadd, 1) := by decide +kernel
theorem dX13_hasSign_26 : decode cX13_hasSign 26 = .ok (.iaload, 1) := by decide +kernel
theorem dX13_hasSign_27 : decode cX13_hasSign 27 = .ok (.iload_n 1, 1) := by decide +kernel
theorem dX13_hasSign_28 : decode cX13_hasSign 28 = .ok (.if_icmp .ne 7, 3) := by decide +kernel
theorem dX13_hasSign_31 : decode cX13_hasSign 31 = .ok (.iconst 1, 1) := by decide +kernel
theorem dX13_hasSign_32 : decode cX13_hasSign 32 = .ok (.goto 4, 3) := by decide +kernel
theorem dX13_hasSign_35 : decode cX13_hasSign 35 = .ok (.iconst 0, 1) := by decide +kernel
theorem dX13_hasSign_36 : decode cX13_hasSign 36 = .ok (.istore_n 2, 1) := by decide +kernel
theorem dX13_hasSign_37 : decode cX13_hasSign 37 = .ok (.iinc 3 1, 3) := by decide +kernel
theorem dX13_hasSign_40 : decode cX13_hasSign 40 = .ok (.goto (-36), 3) := by decide +kernel
theorem dX13_hasSign_43 : decode cX13_hasSign 43 = .ok (.iload_n 2, 1) := by decide +kernel
theorem dX13_hasSign_44 : decode cX13_hasSign 44 = .ok (.ireturn, 1) := by decide +kernel
theorem dX13_nextRow_0 : decode cX13_nextRow 0 = .ok (.aload_n 0, 1) := by decide +kernel
theorem dX13_nextRow_1 : decode cX13_nextRow 1 = .ok (.getfield 427, 3) := by decide +kernel
theorem dX13_nextRow_4 : decode cX13_nextRow 4 = .ok (.aload_n 0, 1) := by decide +kernel
theorem dX13_nextRow_5 : decode cX13_nextRow 5 = .ok (.getfield 379, 3) := by decide +kernel
theorem dX13_nextRow_8 : decode cX13_nextRow 8 = .ok (.if_icmp .ge 31, 3) := by decide +kernel
theorem dX13_nextRow_11 : decode cX13_nextRow 11 = .ok (.aload_n 0, 1) := by decide +kernel
theorem dX13_nextRow_12 : decode cX13_nextRow 12 = .ok (.getfield 8, 3) := by decide +kernel
theorem dX13_nextRow_15 : decode cX13_nextRow 15 = .ok (.aload_n 0, 1) := by decide +kernel
theorem dX13_nextRow_16 : decode cX13_nextRow 16 = .ok (.getfield 427, 3) := by decide +kernel
theorem dX13_nextRow_19 : decode cX13_nextRow 19 = .ok (.iaload, 1) := by decide +kernel
theorem dX13_nextRow_20 : decode cX13_nextRow 20 = .ok (.invokestatic 430, 3) := by decide +kernel
theorem dX13_nextRow_23 : decode cX13_nextRow 23 = .ok (.ifCond .eq 16, 3) := by decide +kernel
theorem dX13_nextRow_26 : decode cX13_nextRow 26 = .ok (.aload_n 0, 1) := by decide +kernel
theorem dX13_nextRow_27 : decode cX13_nextRow 27 = .ok (.dup, 1) := by decide +kernel
theorem dX13_nextRow_28 : decode cX13_nextRow 28 = .ok (.getfield 427, 3) := by decide +kernel
theorem dX13_nextRow_31 : decode cX13_nextRow 31 = .ok (.iconst 1, 1) := by decide +kernel
theorem dX13_nextRow_32 : decode cX13_nextRow 32 = .ok (.iadd, 1) := by decide +kernel
theorem dX13_nextRow_33 : decode cX13_nextRow 33 = .ok (.putfield 427, 3) := by decide +kernel
theorem dX13_nextRow_36 : decode cX13_nextRow 36 = .ok (.goto (-36), 3) := by decide +kernel
theorem dX13_nextRow_39 : decode cX13_nextRow 39 = .ok (.aload_n 0, 1) := by decide +kernel
theorem dX13_nextRow_40 : decode cX13_nextRow 40 = .ok (.aload_n 0, 1) := by decide +kernel
theorem dX13_nextRow_41 : decode cX13_nextRow 41 = .ok (.getfield 427, 3) := by decide +kernel
theorem dX13_nextRow_44 : decode cX13_nextRow 44 = .ok (.putfield 424, 3) := by decide +kernel
theorem dX13_nextRow_47 : decode cX13_nextRow 47 = .ok (.aload_n 0, 1) := by decide +kernel
theorem dX13_nextRow_48 : decode cX13_nextRow 48 = .ok (.getfield 427, 3) := by decide +kernel
theorem dX13_nextRow_51 : decode cX13_nextRow 51 = .ok (.aload_n 0, 1) := by decide +kernel
theorem dX13_nextRow_52 : decode cX13_nextRow 52 = .ok (.getfield 379, 3) := by decide +kernel
theorem dX13_nextRow_55 : decode cX13_nextRow 55 = .ok (.if_icmp .ge 27, 3) := by decide +kernel
theorem dX13_nextRow_58 : decode cX13_nextRow 58 = .ok (.aload_n 0, 1) := by decide +kernel
theorem dX13_nextRow_59 : decode cX13_nextRow 59 = .ok (.getfield 8, 3) := by decide +kernel
theorem dX13_nextRow_62 : decode cX13_nextRow 62 = .ok (.aload_n 0, 1) := by decide +kernel
theorem dX13_nextRow_63 : decode cX13_nextRow 63 = .ok (.getfield 427, 3) := by decide +kernel
theorem dX13_nextRow_66 : decode cX13_nextRow 66 = .ok (.iaload, 1) := by decide +kernel
theorem dX13_nextRow_67 : decode cX13_nextRow 67 = .ok (.invokestatic 434, 3) := by decide +kernel
theorem dX13_nextRow_70 : decode cX13_nextRow 70 = .ok (.ifCond .ne 12, 3) := by decide +kernel
theorem dX13_nextRow_73 : decode cX13_nextRow 73 = .ok (.aload_n 0, 1) := by decide +kernel
theorem dX13_nextRow_74 : decode cX13_nextRow 74 = .ok (.iconst 1, 1) := by decide +kernel
theorem dX13_nextRow_75 : decode cX13_nextRow 75 = .ok (.aload_n 0, 1) := by decide +kernel
theorem dX13_nextRow_76 : decode cX13_nextRow 76 = .ok (.getfield 427, 3) := by decide +kernel
theorem dX13_nextRow_79 : decode cX13_nextRow 79 = .ok (.invokevirtual 437, 3) := by decide +kernel
theorem dX13_nextRow_82 : decode cX13_nextRow 82 = .ok (.aload_n 0, 1) := by decide +kernel
theorem dX13_nextRow_83 : decode cX13_nextRow 83 = .ok (.getfield 427, 3) := by decide +kernel
theorem dX13_nextRow_86 : decode cX13_nextRow 86 = .ok (.aload_n 0, 1) := by decide +kernel
theorem dX13_nextRow_87 : decode cX13_nextRow 87 = .ok (.getfield 379, 3) := by decide +kernel
theorem dX13_nextRow_90 : decode cX13_nextRow 90 = .ok (.if_icmp .ge 31, 3) := by decide +kernel
theorem dX13_nextRow_93 : decode cX13_nextRow 93 = .ok (.aload_n 0, 1) := by decide +kernel
theorem dX13_nextRow_94 : decode cX13_nextRow 94 = .ok (.getfield 8, 3) := by decide +kernel
theorem dX13_nextRow_97 : decode cX13_nextRow 97 = .ok (.aload_n 0, 1) := by decide +kernel
theorem dX13_nextRow_98 : decode cX13_nextRow 98 = .ok (.getfield 427, 3) := by decide +kernel
theorem dX13_nextRow_101 : decode cX13_nextRow 101 = .ok (.iaload, 1) := by decide +kernel
theorem dX13_nextRow_102 : decode cX13_nextRow 102 = .ok (.invokestatic 434, 3) := by decide +kernel
theorem dX13_nextRow_105 : decode cX13_nextRow 105 = .ok (.ifCond .eq 16, 3) := by decide +kernel
theorem dX13_nextRow_108 : decode cX13_nextRow 108 = .ok (.aload_n 0, 1) := by decide +kernel
theorem dX13_nextRow_109 : decode cX13_nextRow 109 = .ok (.dup, 1) := by decide +kernel
theorem dX13_nextRow_110 : decode cX13_nextRow 110 = .ok (.getfield 427, 3) := by decide +kernel
theorem dX13_nextRow_113 : decode cX13_nextRow 113 = .ok (.iconst 1, 1) := by decide +kernel
theorem dX13_nextRow_114 : decode cX13_nextRow 114 = .ok (.iadd, 1) := by decide +kernel
theorem dX13_nextRow_115 : decode cX13_nextRow 115 = .ok (.putfield 427, 3) := by decide +kernel
theorem dX13_nextRow_118 : decode cX13_nextRow 118 = .ok (.goto (-36), 3) := by decide +kernel
theorem dX13_nextRow_121 : decode cX13_nextRow 121 = .ok (.aload_n 0, 1) := by decide +kernel
theorem dX13_nextRow_122 : decode cX13_nextRow 122 = .ok (.aload_n 0, 1) := by decide +kernel
theorem dX13_nextRow_123 : decode cX13_nextRow 123 = .ok (.getfield 427, 3) := by decide +kernel
theorem dX13_nextRow_126 : decode cX13_nextRow 126 = .ok (.aload_n 0, 1) := by decide +kernel
theorem dX13_nextRow_127 : decode cX13_nextRow 127 = .ok (.getfield 424, 3) := by decide +kernel
theorem dX13_nextRow_130 : decode cX13_nextRow 130 = .ok (.isub, 1) := by decide +kernel
theorem dX13_nextRow_131 : decode cX13_nextRow 131 = .ok (.putfield 421, 3) := by decide +kernel
theorem dX13_nextRow_134 : decode cX13_nextRow 134 = .ok (.aload_n 0, 1) := by decide +kernel
theorem dX13_nextRow_135 : decode cX13_nextRow 135 = .ok (.getfield 421, 3) := by decide +kernel
theorem dX13_nextRow_138 : decode cX13_nextRow 138 = .ok (.ifCond .le 14, 3) := by decide +kernel
theorem dX13_nextRow_141 : decode cX13_nextRow 141 = .ok (.aload_n 0, 1) := by decide +kernel
theorem dX13_nextRow_142 : decode cX13_nextRow 142 = .ok (.getfield 418, 3) := by decide +kernel
theorem dX13_nextRow_145 : decode cX13_nextRow 145 = .ok (.ifCond .ne 7, 3) := by decide +kernel
theorem dX13_nextRow_148 : decode cX13_nextRow 148 = .ok (.iconst 1, 1) := by decide +kernel
theorem dX13_nextRow_149 : decode cX13_nextRow 149 = .ok (.goto 4, 3) := by decide +kernel
theorem dX13_nextRow_152 : decode cX13_nextRow 152 = .ok (.iconst 0, 1) := by decide +kernel
theorem dX13_nextRow_153 : decode cX13_nextRow 153 = .ok (.ireturn, 1) := by decide +kernel
theorem dX13_isToken_0 : decode cX13_isToken 0 = .ok (.aload_n 0, 1) := by decide +kernel
theorem dX13_isToken_1 : decode cX13_isToken 1 = .ok (.getfield 421, 3) := by decide +kernel
theorem dX13_isToken_4 : decode cX13_isToken 4 = .ok (.iconst 2, 1) := by decide +kernel
theorem dX13_isToken_5 : decode cX13_isToken 5 = .ok (.if_icmp .ne 36, 3) := by decide +kernel
theorem dX13_isToken_8 : decode cX13_isToken 8 = .ok (.aload_n 0, 1) := by decide +kernel
theorem dX13_isToken_9 : decode cX13_isToken 9 = .ok (.getfield 8, 3) := by decide +kernel
theorem dX13_isToken_12 : decode cX13_isToken 12 = .ok (.aload_n 0, 1) := by decide +kernel
theorem dX13_isToken_13 : decode cX13_isToken 13 = .ok (.getfield 424, 3) := by decide +kernel
theorem dX13_isToken_16 : decode cX13_isToken 16 = .ok (.iaload, 1) := by decide +kernel
theorem dX13_isToken_17 : decode cX13_isToken 17 = .ok (.bipush 36, 2) := by decide +kernel
theorem dX13_isToken_19 : decode cX13_isToken 19 = .ok (.if_icmp .ne 22, 3) := by decide +kernel
theorem dX13_isToken_22 : decode cX13_isToken 22 = .ok (.aload_n 0, 1) := by decide +kernel
theorem dX13_isToken_23 : decode cX13_isToken 23 = .ok (.getfield 8, 3) := by decide +kernel
theorem dX13_isToken_26 : decode cX13_isToken 26 = .ok (.aload_n 0, 1) := by decide +kernel
theorem dX13_isToken_27 : decode cX13_isToken 27 = .ok (.getfield 424, 3) := by decide +kernel
theorem dX13_isToken_30 : decode cX13_isToken 30 = .ok (.iconst 1, 1) := by decide +kernel
theorem dX13_isToken_31 : decode cX13_isToken 31 = .ok (.iadd, 1) := by decide +kernel
theorem dX13_isToken_32 : decode cX13_isToken 32 = .ok (.iaload, 1) := by decide +kernel
theorem dX13_isToken_33 : decode cX13_isToken 33 = .ok (.iload_n 1, 1) := by decide +kernel
theorem dX13_isToken_34 : decode cX13_isToken 34 = .ok (.if_icmp .ne 7, 3) := by decide +kernel
theorem dX13_isToken_37 : decode cX13_isToken 37 = .ok (.iconst 1, 1) := by decide +kernel
theorem dX13_isToken_38 : decode cX13_isToken 38 = .ok (.goto 4, 3) := by decide +kernel
theorem dX13_isToken_41 : decode cX13_isToken 41 = .ok (.iconst 0, 1) := by decide +kernel
theorem dX13_isToken_42 : decode cX13_isToken 42 = .ok (.ireturn, 1) := by decide +kernel
theorem dX13_skipComment_0 : decode cX13_skipComment 0 = .ok (.iconst 1, 1) := by decide +kernel
theorem dX13_skipComment_1 : decode cX13_skipComment 1 = .ok (.istore_n 1, 1) := by decide +kernel
theorem dX13_skipComment_2 : decode cX13_skipComment 2 = .ok (.iload_n 1, 1) := by decide +kernel
theorem dX13_skipComment_3 : decode cX13_skipComment 3 = .ok (.ifCond .eq 60, 3) := by decide +kernel
theorem dX13_skipComment_6 : decode cX13_skipComment 6 = .ok (.aload_n 0, 1) := by decide +kernel
theorem dX13_skipComment_7 : decode cX13_skipComment 7 = .ok (.invokevirtual 441, 3) := by decide +kernel
theorem dX13_skipComment_10 : decode cX13_skipComment 10 = .ok (.ifCond .ne 13, 3) := by decide +kernel
theorem dX13_skipComment_13 : decode cX13_skipComment 13 = .ok (.aload_n 0, 1) := by decide +kernel
theorem dX13_skipComment_14 : decode cX13_skipComment 14 = .ok (.iconst 2, 1) := by decide +kernel
theorem dX13_skipComment_15 : decode cX13_skipComment 15 = .ok (.aload_n 0, 1) := by decide +kernel
theorem dX13_skipComment_16 : decode cX13_skipComment 16 = .ok (.getfield 379, 3) := by decide +kernel
theorem dX13_skipComment_19 : decode cX13_skipComment 19 = .ok (.invokevirtual 437, 3) := by decide +kernel
theorem dX13_skipComment_22 : decode cX13_skipComment 22 = .ok (.return_, 1) := by decide +kernel
theorem dX13_skipComment_23 : decode cX13_skipComment 23 = .ok (.aload_n 0, 1) := by decide +kernel
theorem dX13_skipComment_24 : decode cX13_skipComment 24 = .ok (.bipush 41, 2) := by decide +kernel
theorem dX13_skipComment_26 : decode cX13_skipComment 26 = .ok (.invokevirtual 445, 3) := by decide +kernel
theorem dX13_skipComment_29 : decode cX13_skipComment 29 = .ok (.ifCond .ne 7, 3) := by decide +kernel
theorem dX13_skipComment_32 : decode cX13_skipComment 32 = .ok (.iconst 1, 1) := by decide +kernel
theorem dX13_skipComment_33 : decode cX13_skipComment 33 = .ok (.goto 4, 3) := by decide +kernel
theorem dX13_skipComment_36 : decode cX13_skipComment 36 = .ok (.iconst 0, 1) := by decide +kernel
theorem dX13_skipComment_37 : decode cX13_skipComment 37 = .ok (.istore_n 1, 1) := by decide +kernel
theorem dX13_skipComment_38 : decode cX13_skipComment 38 = .ok (.iload_n 1, 1) := by decide +kernel
theorem dX13_skipComment_39 : decode cX13_skipComment 39 = .ok (.ifCond .eq (-37), 3) := by decide +kernel
theorem dX13_skipComment_42 : decode cX13_skipComment 42 = .ok (.aload_n 0, 1) := by decide +kernel
theorem dX13_skipComment_43 : decode cX13_skipComment 43 = .ok (.bipush 40, 2) := by decide +kernel
theorem dX13_skipComment_45 : decode cX13_skipComment 45 = .ok (.bipush 41, 2) := by decide +kernel
theorem dX13_skipComment_47 : decode cX13_skipComment 47 = .ok (.invokevirtual 448, 3) := by decide +kernel
theorem dX13_skipComment_50 : decode cX13_skipComment 50 = .ok (.ifCond .eq (-48), 3) := by decide +kernel
theorem dX13_skipComment_53 : decode cX13_skipComment 53 = .ok (.aload_n 0, 1) := by decide +kernel
theorem dX13_skipComment_54 : decode cX13_skipComment 54 = .ok (.iconst 2, 1) := by decide +kernel
theorem dX13_skipComment_55 : decode cX13_skipComment 55 = .ok (.aload_n 0, 1) := by decide +kernel
theorem dX13_skipComment_56 : decode cX13_skipComment 56 = .ok (.getfield 424, 3) := by decide +kernel
theorem dX13_skipComment_59 : decode cX13_skipComment 59 = .ok (.invokevirtual 437, 3) := by decide +kernel
theorem dX13_skipComment_62 : decode cX13_skipComment 62 = .ok (.return_, 1) := by decide +kernel
theorem dX13_skipComment_63 : decode cX13_skipComment 63 = .ok (.return_, 1) := by decide +kernel
theorem dX13_isKnown_0 : decode cX13_isKnown 0 = .ok (.iload_n 0, 1) := by decide +kernel
theorem dX13_isKnown_1 : decode cX13_isKnown 1 = .ok (.bipush 99, 2) := by decide +kernel
theorem dX13_isKnown_3 : decode cX13_isKnown 3 = .ok (.if_icmp .eq 63, 3) := by decide +kernel
theorem dX13_isKnown_6 : decode cX13_isKnown 6 = .ok (.iload_n 0, 1) := by decide +kernel
theorem dX13_isKnown_7 : decode cX13_isKnown 7 = .ok (.bipush 118, 2) := by decide +kernel
theorem dX13_isKnown_9 : decode cX13_isKnown 9 = .ok (.if_icmp .eq 57, 3) := by decide +kernel
theorem dX13_isKnown_12 : decode cX13_isKnown 12 = .ok (.iload_n 0, 1) := by decide +kernel
theorem dX13_isKnown_13 : decode cX13_isKnown 13 = .ok (.bipush 102, 2) := by decide +kernel
theorem dX13_isKnown_15 : decode cX13_isKnown 15 = .ok (.if_icmp .eq 51, 3) := by decide +kernel
theorem dX13_isKnown_18 : decode cX13_isKnown 18 = .ok (.iload_n 0, 1) := by decide +kernel
theorem dX13_isKnown_19 : decode cX13_isKnown 19 = .ok (.bipush 101, 2) := by decide +kernel
theorem dX13_isKnown_21 : decode cX13_isKnown 21 = .ok (.if_icmp .eq 45, 3) := by decide +kernel
theorem dX13_isKnown_24 : decode cX13_isKnown 24 = .ok (.iload_n 0, 1) := by decide +kernel
theorem dX13_isKnown_25 : decode cX13_isKnown 25 = .ok (.bipush 100, 2) := by decide +kernel
theorem dX13_isKnown_27 : decode cX13_isKnown 27 = .ok (.if_icmp .eq 39, 3) := by decide +kernel
theorem dX13_isKnown_30 : decode cX13_isKnown 30 = .ok (.iload_n 0, 1) := by decide +kernel
theorem dX13_isKnown_31 : decode cX13_isKnown 31 = .ok (.bipush 97, 2) := by decide +kernel
theorem dX13_isKnown_33 : decode cX13_isKnown 33 = .ok (.if_icmp .eq 33, 3) := by decide +kernel
theorem dX13_isKnown_36 : decode cX13_isKnown 36 = .ok (.iload_n 0, 1) := by decide +kernel
theorem dX13_isKnown_37 : decode cX13_isKnown 37 = .ok (.bipush 112, 2) := by decide +kernel
theorem dX13_isKnown_39 : decode cX13_isKnown 39 = .ok (.if_icmp .eq 27, 3) := by decide +kernel
theorem dX13_isKnown_42 : decode cX13_isKnown 42 = .ok (.iload_n 0, 1) := by decide +kernel
theorem dX13_isKnown_43 : decode cX13_isKnown 43 = .ok (.bipush 61, 2) := by decide +kernel
theorem dX13_isKnown_45 : decode cX13_isKnown 45 = .ok (.if_icmp .eq 21, 3) := by decide +kernel
theorem dX13_isKnown_48 : decode cX13_isKnown 48 = .ok (.iload_n 0, 1) := by decide +kernel
theorem dX13_isKnown_49 : decode cX13_isKnown 49 = .ok (.bipush 46, 2) := by decide +kernel
theorem dX13_isKnown_51 : decode cX13_isKnown 51 = .ok (.if_icmp .eq 15, 3) := by decide +kernel
theorem dX13_isKnown_54 : decode cX13_isKnown 54 = .ok (.iload_n 0, 1) := by decide +kernel
theorem dX13_isKnown_55 : decode cX13_isKnown 55 = .ok (.bipush 123, 2) := by decide +kernel
theorem dX13_isKnown_57 : decode cX13_isKnown 57 = .ok (.if_icmp .eq 9, 3) := by decide +kernel
theorem dX13_isKnown_60 : decode cX13_isKnown 60 = .ok (.iload_n 0, 1) := by decide +kernel
theorem dX13_isKnown_61 : decode cX13_isKnown 61 = .ok (.bipush 125, 2) := by decide +kernel
theorem dX13_isKnown_63 : decode cX13_isKnown 63 = .ok (.if_icmp .ne 7, 3) := by decide +kernel
theorem dX13_isKnown_66 : decode cX13_isKnown 66 = .ok (.iconst 1, 1) := by decide +kernel
theorem dX13_isKnown_67 : decode cX13_isKnown 67 = .ok (.goto 4, 3) := by decide +kernel
theorem dX13_isKnown_70 : decode cX13_isKnown 70 = .ok (.iconst 0, 1) := by decide +kernel
theorem dX13_isKnown_71 : decode cX13_isKnown 71 = .ok (.ireturn, 1) := by decide +kernel
theorem dX13_next_0 : decode cX13_next 0 = .ok (.iconst 1, 1) := by decide +kernel
theorem dX13_next_1 : decode cX13_next 1 = .ok (.istore_n 1, 1) := by decide +kernel
theorem dX13_next_2 : decode cX13_next 2 = .ok (.iload_n 1, 1) := by decide +kernel
theorem dX13_next_3 : decode cX13_next 3 = .ok (.ifCond .eq 68, 3) := by decide +kernel
theorem dX13_next_6 : decode cX13_next 6 = .ok (.iconst 0, 1) := by decide +kernel
theorem dX13_next_7 : decode cX13_next 7 = .ok (.istore_n 1, 1) := by decide +kernel
theorem dX13_next_8 : decode cX13_next 8 = .ok (.aload_n 0, 1) := by decide +kernel
theorem dX13_next_9 : decode cX13_next 9 = .ok (.invokevirtual 441, 3) := by decide +kernel
theorem dX13_next_12 : decode cX13_next 12 = .ok (.ifCond .ne 9, 3) := by decide +kernel
theorem dX13_next_15 : decode cX13_next 15 = .ok (.aload_n 0, 1) := by decide +kernel
theorem dX13_next_16 : decode cX13_next 16 = .ok (.iconst 0, 1) := by decide +kernel
theorem dX13_next_17 : decode cX13_next 17 = .ok (.putfield 452, 3) := by decide +kernel
theorem dX13_next_20 : decode cX13_next 20 = .ok (.return_, 1) := by decide +kernel
theorem dX13_next_21 : decode cX13_next 21 = .ok (.aload_n 0, 1) := by decide +kernel
theorem dX13_next_22 : decode cX13_next 22 = .ok (.bipush 40, 2) := by decide +kernel
theorem dX13_next_24 : decode cX13_next 24 = .ok (.invokevirtual 445, 3) := by decide +kernel
theorem dX13_next_27 : decode cX13_next 27 = .ok (.ifCond .eq 23, 3) := by decide +kernel
theorem dX13_next_30 : decode cX13_next 30 = .ok (.aload_n 0, 1) := by decide +kernel
theorem dX13_next_31 : decode cX13_next 31 = .ok (.invokevirtual 455, 3) := by decide +kernel
theorem dX13_next_34 : decode cX13_next 34 = .ok (.aload_n 0, 1) := by decide +kernel
theorem dX13_next_35 : decode cX13_next 35 = .ok (.getfield 418, 3) := by decide +kernel
theorem dX13_next_38 : decode cX13_next 38 = .ok (.ifCond .ne 7, 3) := by decide +kernel
theorem dX13_next_41 : decode cX13_next 41 = .ok (.iconst 1, 1) := by decide +kernel
theorem dX13_next_42 : decode cX13_next 42 = .ok (.goto 4, 3) := by decide +kernel
theorem dX13_next_45 : decode cX13_next 45 = .ok (.iconst 0, 1) := by decide +kernel
theorem dX13_next_46 : decode cX13_next 46 = .ok (.istore_n 1, 1) := by decide +kernel
theorem dX13_next_47 : decode cX13_next 47 = .ok (.goto (-45), 3) := by decide +kernel
theorem dX13_next_50 : decode cX13_next 50 = .ok (.aload_n 0, 1) := by decide +kernel
theorem dX13_next_51 : decode cX13_next 51 = .ok (.bipush 41, 2) := by decide +kernel
theorem dX13_next_53 : decode cX13_next 53 = .ok (.invokevirtual 445, 3) := by decide +kernel
theorem dX13_next_56 : decode cX13_next 56 = .ok (.ifCond .eq (-54), 3) := by decide +kernel
theorem dX13_next_59 : decode cX13_next 59 = .ok (.aload_n 0, 1) := by decide +kernel
theorem dX13_next_60 : decode cX13_next 60 = .ok (.iconst 2, 1) := by decide +kernel
theorem dX13_next_61 : decode cX13_next 61 = .ok (.aload_n 0, 1) := by decide +kernel
theorem dX13_next_62 : decode cX13_next 62 = .ok (.getfield 424, 3) := by decide +kernel
theorem dX13_next_65 : decode cX13_next 65 = .ok (.invokevirtual 437, 3) := by decide +kernel
theorem dX13_next_68 : decode cX13_next 68 = .ok (.goto (-66), 3) := by decide +kernel
theorem dX13_next_71 : decode cX13_next 71 = .ok (.aload_n 0, 1) := by decide +kernel
theorem dX13_next_72 : decode cX13_next 72 = .ok (.getfield 418, 3) := by decide +kernel
theorem dX13_next_75 : decode cX13_next 75 = .ok (.ifCond .le 9, 3) := by decide +kernel
theorem dX13_next_78 : decode cX13_next 78 = .ok (.aload_n 0, 1) := by decide +kernel
theorem dX13_next_79 : decode cX13_next 79 = .ok (.iconst 0, 1) := by decide +kernel
theorem dX13_next_80 : decode cX13_next 80 = .ok (.putfield 452, 3) := by decide +kernel
theorem dX13_next_83 : decode cX13_next 83 = .ok (.return_, 1) := by decide +kernel
theorem dX13_next_84 : decode cX13_next 84 = .ok (.aload_n 0, 1) := by decide +kernel
theorem dX13_next_85 : decode cX13_next 85 = .ok (.iconst 1, 1) := by decide +kernel
theorem dX13_next_86 : decode cX13_next 86 = .ok (.putfield 452, 3) := by decide +kernel
theorem dX13_next_89 : decode cX13_next 89 = .ok (.aload_n 0, 1) := by decide +kernel
theorem dX13_next_90 : decode cX13_next 90 = .ok (.bipush 36, 2) := by decide +kernel
theorem dX13_next_92 : decode cX13_next 92 = .ok (.invokevirtual 458, 3) := by decide +kernel
theorem dX13_next_95 : decode cX13_next 95 = .ok (.ifCond .eq 78, 3) := by decide +kernel
theorem dX13_next_98 : decode cX13_next 98 = .ok (.aload_n 0, 1) := by decide +kernel
theorem dX13_next_99 : decode cX13_next 99 = .ok (.aload_n 0, 1) := by decide +kernel
theorem dX13_next_100 : decode cX13_next 100 = .ok (.getfield 421, 3) := by decide +kernel
theorem dX13_next_103 : decode cX13_next 103 = .ok (.iconst 2, 1) := by decide +kernel
theorem dX13_next_104 : decode cX13_next 104 = .ok (.if_icmp .ne 48, 3) := by decide +kernel
theorem dX13_next_107 : decode cX13_next 107 = .ok (.aload_n 0, 1) := by decide +kernel
theorem dX13_next_108 : decode cX13_next 108 = .ok (.getfield 8, 3) := by decide +kernel
theorem dX13_next_111 : decode cX13_next 111 = .ok (.aload_n 0, 1) := by decide +kernel
theorem dX13_next_112 : decode cX13_next 112 = .ok (.getfield 424, 3) := by decide +kernel
theorem dX13_next_115 : decode cX13_next 115 = .ok (.iaload, 1) := by decide +kernel
theorem dX13_next_116 : decode cX13_next 116 = .ok (.bipush 36, 2) := by decide +kernel
theorem dX13_next_118 : decode cX13_next 118 = .ok (.if_icmp .ne 34, 3) := by decide +kernel
theorem dX13_next_121 : decode cX13_next 121 = .ok (.aload_n 0, 1) := by decide +kernel
theorem dX13_next_122 : decode cX13_next 122 = .ok (.getfield 8, 3) := by decide +kernel
theorem dX13_next_125 : decode cX13_next 125 = .ok (.aload_n 0, 1) := by decide +kernel
theorem dX13_next_126 : decode cX13_next 126 = .ok (.getfield 424, 3) := by decide +kernel
theorem dX13_next_129 : decode cX13_next 129 = .ok (.iconst 1, 1) := by decide +kernel
theorem dX13_next_130 : decode cX13_next 130 = .ok (.iadd, 1) := by decide +kernel
theorem dX13_next_131 : decode cX13_next 131 = .ok (.iaload, 1) := by decide +kernel
theorem dX13_next_132 : decode cX13_next 132 = .ok (.invokestatic 461, 3) := by decide +kernel
theorem dX13_next_135 : decode cX13_next 135 = .ok (.ifCond .eq 17, 3) := by decide +kernel
theorem dX13_next_138 : decode cX13_next 138 = .ok (.aload_n 0, 1) := by decide +kernel
theorem dX13_next_139 : decode cX13_next 139 = .ok (.getfield 8, 3) := by decide +kernel
theorem dX13_next_142 : decode cX13_next 142 = .ok (.aload_n 0, 1) := by decide +kernel
theorem dX13_next_143 : decode cX13_next 143 = .ok (.getfield 424, 3) := by decide +kernel
theorem dX13_next_146 : decode cX13_next 146 = .ok (.iconst 1, 1) := by decide +kernel
theorem dX13_next_147 : decode cX13_next 147 = .ok (.iadd, 1) := by decide +kernel
theorem dX13_next_148 : decode cX13_next 148 = .ok (.iaload, 1) := by decide +kernel
theorem dX13_next_149 : decode cX13_next 149 = .ok (.goto 4, 3) := by decide +kernel
theorem dX13_next_152 : decode cX13_next 152 = .ok (.iconst (-1), 1) := by decide +kernel
theorem dX13_next_153 : decode cX13_next 153 = .ok (.putfield 452, 3) := by decide +kernel
theorem dX13_next_156 : decode cX13_next 156 = .ok (.aload_n 0, 1) := by decide +kernel
theorem dX13_next_157 : decode cX13_next 157 = .ok (.getfield 452, 3) := by decide +kernel
theorem dX13_next_160 : decode cX13_next 160 = .ok (.iconst (-1), 1) := by decide +kernel
theorem dX13_next_161 : decode cX13_next 161 = .ok (.if_icmp .ne 12, 3) := by decide +kernel
theorem dX13_next_164 : decode cX13_next 164 = .ok (.aload_n 0, 1) := by decide +kernel
theorem dX13_next_165 : decode cX13_next 165 = .ok (.iconst 3, 1) := by decide +kernel
theorem dX13_next_166 : decode cX13_next 166 = .ok (.aload_n 0, 1) := by decide +kernel
theorem dX13_next_167 : decode cX13_next 167 = .ok (.getfield 424, 3) := by decide +kernel
theorem dX13_next_170 : decode cX13_next 170 = .ok (.invokevirtual 437, 3) := by decide +kernel
theorem dX13_next_173 : decode cX13_next 173 = .ok (.return_, 1) := by decide +kernel
theorem dX13_failHere_0 : decode cX13_failHere 0 = .ok (.aload_n 0, 1) := by decide +kernel
theorem dX13_failHere_1 : decode cX13_failHere 1 = .ok (.iload_n 1, 1) := by decide +kernel
theorem dX13_failHere_2 : decode cX13_failHere 2 = .ok (.aload_n 0, 1) := by decide +kernel
theorem dX13_failHere_3 : decode cX13_failHere 3 = .ok (.getfield 452, 3) := by decide +kernel
theorem dX13_failHere_6 : decode cX13_failHere 6 = .ok (.ifCond .ne 10, 3) := by decide +kernel
theorem dX13_failHere_9 : decode cX13_failHere 9 = .ok (.aload_n 0, 1) := by decide +kernel
theorem dX13_failHere_10 : decode cX13_failHere 10 = .ok (.getfield 379, 3) := by decide +kernel
theorem dX13_failHere_13 : decode cX13_failHere 13 = .ok (.goto 7, 3) := by decide +kernel
theorem dX13_failHere_16 : decode cX13_failHere 16 = .ok (.aload_n 0, 1) := by decide +kernel
theorem dX13_failHere_17 : decode cX13_failHere 17 = .ok (.getfield 424, 3) := by decide +kernel
theorem dX13_failHere_20 : decode cX13_failHere 20 = .ok (.invokevirtual 437, 3) := by decide +kernel
theorem dX13_failHere_23 : decode cX13_failHere 23 = .ok (.return_, 1) := by decide +kernel
theorem dX13_symbolHere_0 : decode cX13_symbolHere 0 = .ok (.aload_n 0, 1) := by decide +kernel
theorem dX13_symbolHere_1 : decode cX13_symbolHere 1 = .ok (.aload_n 0, 1) := by decide +kernel
theorem dX13_symbolHere_2 : decode cX13_symbolHere 2 = .ok (.getfield 8, 3) := by decide +kernel
theorem dX13_symbolHere_5 : decode cX13_symbolHere 5 = .ok (.aload_n 0, 1) := by decide +kernel
theorem dX13_symbolHere_6 : decode cX13_symbolHere 6 = .ok (.getfield 424, 3) := by decide +kernel
theorem dX13_symbolHere_9 : decode cX13_symbolHere 9 = .ok (.aload_n 0, 1) := by decide +kernel
theorem dX13_symbolHere_10 : decode cX13_symbolHere 10 = .ok (.getfield 421, 3) := by decide +kernel
theorem dX13_symbolHere_13 : decode cX13_symbolHere 13 = .ok (.invokevirtual 464, 3) := by decide +kernel
theorem dX13_symbolHere_16 : decode cX13_symbolHere 16 = .ok (.ireturn, 1) := by decide +kernel
theorem dX13_declare_0 : decode cX13_declare 0 = .ok (.aload_n 0, 1) := by decide +kernel
theorem dX13_declare_1 : decode cX13_declare 1 = .ok (.invokevirtual 467, 3) := by decide +kernel
theorem dX13_declare_4 : decode cX13_declare 4 = .ok (.istore_n 2, 1) := by decide +kernel
theorem dX13_declare_5 : decode cX13_declare 5 = .ok (.iload_n 2, 1) := by decide +kernel
theorem dX13_declare_6 : decode cX13_declare 6 = .ok (.iconst (-1), 1) := by decide +kernel
theorem dX13_declare_7 : decode cX13_declare 7 = .ok (.if_icmp .ne 7, 3) := by decide +kernel
theorem dX13_declare_10 : decode cX13_declare 10 = .ok (.iconst 1, 1) := by decide +kernel
theorem dX13_declare_11 : decode cX13_declare 11 = .ok (.goto 4, 3) := by decide +kernel
theorem dX13_declare_14 : decode cX13_declare 14 = .ok (.iconst 0, 1) := by decide +kernel
theorem dX13_declare_15 : decode cX13_declare 15 = .ok (.istore_n 3, 1) := by decide +kernel
theorem dX13_declare_16 : decode cX13_declare 16 = .ok (.aload_n 0, 1) := by decide +kernel
theorem dX13_declare_17 : decode cX13_declare 17 = .ok (.getfield 421, 3) := by decide +kernel
theorem dX13_declare_20 : decode cX13_declare 20 = .ok (.bipush 60, 2) := by decide +kernel
theorem dX13_declare_22 : decode cX13_declare 22 = .ok (.if_icmp .gt 32, 3) := by decide +kernel
theorem dX13_declare_25 : decode cX13_declare 25 = .ok (.iload_n 3, 1) := by decide +kernel
theorem dX13_declare_26 : decode cX13_declare 26 = .ok (.ifCond .eq 34, 3) := by decide +kernel
theorem dX13_declare_29 : decode cX13_declare 29 = .ok (.aload_n 0, 1) := by decide +kernel
theorem dX13_declare_30 : decode cX13_declare 30 = .ok (.getfield 400, 3) := by decide +kernel
theorem dX13_declare_33 : decode cX13_declare 33 = .ok (.aload_n 0, 1) := by decide +kernel
theorem dX13_declare_34 : decode cX13_declare 34 = .ok (.getfield 421, 3) := by decide +kernel
theorem dX13_declare_37 : decode cX13_declare 37 = .ok (.iadd, 1) := by decide +kernel
theorem dX13_declare_38 : decode cX13_declare 38 = .ok (.sipush 30000, 3) := by decide +kernel
theorem dX13_declare_41 : decode cX13_declare 41 = .ok (.if_icmp .gt 13, 3) := by decide +kernel
theorem dX13_declare_44 : decode cX13_declare 44 = .ok (.aload_n 0, 1) := by decide +kernel
theorem dX13_declare_45 : decode cX13_declare 45 = .ok (.getfield 471, 3) := by decide +kernel
theorem dX13_declare_48 : decode cX13_declare 48 = .ok (.sipush 1000, 3) := by decide +kernel
theorem dX13_declare_51 : decode cX13_declare 51 = .ok (.if_icmp .ne 9, 3) := by decide +kernel
theorem dX13_declare_54 : decode cX13_declare 54 = .ok (.aload_n 0, 1) := by decide +kernel
theorem dX13_declare_55 : decode cX13_declare 55 = .ok (.iconst 5, 1) := by decide +kernel
theorem dX13_declare_56 : decode cX13_declare 56 = .ok (.invokevirtual 474, 3) := by decide +kernel
theorem dX13_declare_59 : decode cX13_declare 59 = .ok (.return_, 1) := by decide +kernel
theorem dX13_declare_60 : decode cX13_declare 60 = .ok (.iload_n 3, 1) := by decide +kernel
theorem dX13_declare_61 : decode cX13_declare 61 = .ok (.ifCond .ne 29, 3) := by decide +kernel
theorem dX13_declare_64 : decode cX13_declare 64 = .ok (.iload_n 1, 1) := by decide +kernel
theorem dX13_declare_65 : decode cX13_declare 65 = .ok (.ifCond .eq 21, 3) := by decide +kernel
theorem dX13_declare_68 : decode cX13_declare 68 = .ok (.aload_n 0, 1) := by decide +kernel
theorem dX13_declare_69 : decode cX13_declare 69 = .ok (.getfield 35, 3) := by decide +kernel
theorem dX13_declare_72 : decode cX13_declare 72 = .ok (.iload_n 2, 1) := by decide +kernel
theorem dX13_declare_73 : decode cX13_declare 73 = .ok (.baload, 1) := by decide +kernel
theorem dX13_declare_74 : decode cX13_declare 74 = .ok (.ifCond .eq 12, 3) := by decide +kernel
theorem dX13_declare_77 : decode cX13_declare 77 = .ok (.aload_n 0, 1) := by decide +kernel
theorem dX13_declare_78 : decode cX13_declare 78 = .ok (.getfield 39, 3) := by decide +kernel
theorem dX13_declare_81 : decode cX13_declare 81 = .ok (.iload_n 2, 1) := by decide +kernel
theorem dX13_declare_82 : decode cX13_declare 82 = .ok (.baload, 1) := by decide +kernel
theorem dX13_declare_83 : decode cX13_declare 83 = .ok (.ifCond .eq 7, 3) := by decide +kernel
theorem dX13_declare_86 : decode cX13_declare 86 = .ok (.iconst 1, 1) := by decide +kernel
theorem dX13_declare_87 : decode cX13_declare 87 = .ok (.goto 4, 3) := by decide +kernel
theorem dX13_declare_90 : decode cX13_declare 90 = .ok (.iconst 0, 1) := by decide +kernel
theorem dX13_declare_91 : decode cX13_declare 91 = .ok (.istore 4, 2) := by decide +kernel
theorem dX13_declare_93 : decode cX13_declare 93 = .ok (.iload 4, 2) := by decide +kernel
theorem dX13_declare_95 : decode cX13_declare 95 = .ok (.ifCond .ne 23, 3) := by decide +kernel
theorem dX13_declare_98 : decode cX13_declare 98 = .ok (.aload_n 0, 1) := by decide +kernel
theorem dX13_declare_99 : decode cX13_declare 99 = .ok (.aload_n 0, 1) := by decide +kernel
theorem dX13_declare_100 : decode cX13_declare 100 = .ok (.getfield 8, 3) := by decide +kernel
theorem dX13_declare_103 : decode cX13_declare 103 = .ok (.aload_n 0, 1) := by decide +kernel
theorem dX13_declare_104 : decode cX13_declare 104 = .ok (.getfield 424, 3) := by decide +kernel
theorem dX13_declare_107 : decode cX13_declare 107 = .ok (.aload_n 0, 1) := by decide +kernel
theorem dX13_declare_108 : decode cX13_declare 108 = .ok (.getfield 421, 3) := by decide +kernel
theorem dX13_declare_111 : decode cX13_declare 111 = .ok (.invokevirtual 478, 3) := by decide +kernel
theorem dX13_declare_114 : decode cX13_declare 114 = .ok (.iconst (-1), 1) := by decide +kernel
theorem dX13_declare_115 : decode cX13_declare 115 = .ok (.if_icmp .eq 10, 3) := by decide +kernel
theorem dX13_declare_118 : decode cX13_declare 118 = .ok (.aload_n 0, 1) := by decide +kernel
theorem dX13_declare_119 : decode cX13_declare 119 = .ok (.bipush 7, 2) := by decide +kernel
theorem dX13_declare_121 : decode cX13_declare 121 = .ok (.invokevirtual 474, 3) := by decide +kernel
theorem dX13_declare_124 : decode cX13_declare 124 = .ok (.return_, 1) := by decide +kernel
theorem dX13_declare_125 : decode cX13_declare 125 = .ok (.iload_n 3, 1) := by decide +kernel
theorem dX13_declare_126 : decode cX13_declare 126 = .ok (.ifCond .eq 88, 3) := by decide +kernel
theorem dX13_declare_129 : decode cX13_declare 129 = .ok (.aload_n 0, 1) := by decide +kernel
theorem dX13_declare_130 : decode cX13_declare 130 = .ok (.getfield 471, 3) := by decide +kernel
theorem dX13_declare_133 : decode cX13_declare 133 = .ok (.istore_n 2, 1) := by decide +kernel
theorem dX13_declare_134 : decode cX13_declare 134 = .ok (.aload_n 0, 1) := by decide +kernel
theorem dX13_declare_135 : decode cX13_declare 135 = .ok (.dup, 1) := by decide +kernel
theorem dX13_declare_136 : decode cX13_declare 136 = .ok (.getfield 471, 3) := by decide +kernel
theorem dX13_declare_139 : decode cX13_declare 139 = .ok (.iconst 1, 1) := by decide +kernel
theorem dX13_declare_140 : decode cX13_declare 140 = .ok (.iadd, 1) := by decide +kernel
theorem dX13_declare_141 : decode cX13_declare 141 = .ok (.putfield 471, 3) := by decide +kernel
theorem dX13_declare_144 : decode cX13_declare 144 = .ok (.aload_n 0, 1) := by decide +kernel
theorem dX13_declare_145 : decode cX13_declare 145 = .ok (.getfield 17, 3) := by decide +kernel
theorem dX13_declare_148 : decode cX13_declare 148 = .ok (.iload_n 2, 1) := by decide +kernel
theorem dX13_declare_149 : decode cX13_declare 149 = .ok (.aload_n 0, 1) := by decide +kernel
theorem dX13_declare_150 : decode cX13_declare 150 = .ok (.getfield 400, 3) := by decide +kernel
theorem dX13_declare_153 : decode cX13_declare 153 = .ok (.iastore, 1) := by decide +kernel
theorem dX13_declare_154 : decode cX13_declare 154 = .ok (.aload_n 0, 1) := by decide +kernel
theorem dX13_declare_155 : decode cX13_declare 155 = .ok (.getfield 20, 3) := by decide +kernel
theorem dX13_declare_158 : decode cX13_declare 158 = .ok (.iload_n 2, 1) := by decide +kernel
theorem dX13_declare_159 : decode cX13_declare 159 = .ok (.aload_n 0, 1) := by decide +kernel
theorem dX13_declare_160 : decode cX13_declare 160 = .ok (.getfield 421, 3) := by decide +kernel
theorem dX13_declare_163 : decode cX13_declare 163 = .ok (.iastore, 1) := by decide +kernel
theorem dX13_declare_164 : decode cX13_declare 164 = .ok (.aload_n 0, 1) := by decide +kernel
theorem dX13_declare_165 : decode cX13_declare 165 = .ok (.aload_n 0, 1) := by decide +kernel
theorem dX13_declare_166 : decode cX13_declare 166 = .ok (.getfield 424, 3) := by decide +kernel
theorem dX13_declare_169 : decode cX13_declare 169 = .ok (.aload_n 0, 1) := by decide +kernel
theorem dX13_declare_170 : decode cX13_declare 170 = .ok (.getfield 421, 3) := by decide +kernel
theorem dX13_declare_173 : decode cX13_declare 173 = .ok (.invokevirtual 481, 3) := by decide +kernel
theorem dX13_declare_176 : decode cX13_declare 176 = .ok (.aload_n 0, 1) := by decide +kernel
theorem dX13_declare_177 : decode cX13_declare 177 = .ok (.iload_n 2, 1) := by decide +kernel
theorem dX13_declare_178 : decode cX13_declare 178 = .ok (.invokevirtual 484, 3) := by decide +kernel
theorem dX13_declare_181 : decode cX13_declare 181 = .ok (.aload_n 0, 1) := by decide +kernel
theorem dX13_declare_182 : decode cX13_declare 182 = .ok (.getfield 35, 3) := by decide +kernel
theorem dX13_declare_185 : decode cX13_declare 185 = .ok (.iload_n 2, 1) := by decide +kernel
theorem dX13_declare_186 : decode cX13_declare 186 = .ok (.iload_n 1, 1) := by decide +kernel
theorem dX13_declare_187 : decode cX13_declare 187 = .ok (.bastore, 1) := by decide +kernel
theorem dX13_declare_188 : decode cX13_declare 188 = .ok (.aload_n 0, 1) := by decide +kernel
theorem dX13_declare_189 : decode cX13_declare 189 = .ok (.getfield 42, 3) := by decide +kernel
theorem dX13_declare_192 : decode cX13_declare 192 = .ok (.iload_n 2, 1) := by decide +kernel
theorem dX13_declare_193 : decode cX13_declare 193 = .ok (.iconst (-1), 1) := by decide +kernel
theorem dX13_declare_194 : decode cX13_declare 194 = .ok (.iastore, 1) := by decide +kernel
theorem dX13_declare_195 : decode cX13_declare 195 = .ok (.aload_n 0, 1) := by decide +kernel
theorem dX13_declare_196 : decode cX13_declare 196 = .ok (.getfield 45, 3) := by decide +kernel
theorem dX13_declare_199 : decode cX13_declare 199 = .ok (.iload_n 2, 1) := by decide +kernel
theorem dX13_declare_200 : decode cX13_declare 200 = .ok (.iconst (-1), 1) := by decide +kernel
theorem dX13_declare_201 : decode cX13_declare 201 = .ok (.iastore, 1) := by decide +kernel
theorem dX13_declare_202 : decode cX13_declare 202 = .ok (.aload_n 0, 1) := by decide +kernel
theorem dX13_declare_203 : decode cX13_declare 203 = .ok (.getfield 48, 3) := by decide +kernel
theorem dX13_declare_206 : decode cX13_declare 206 = .ok (.iload_n 2, 1) := by decide +kernel
theorem dX13_declare_207 : decode cX13_declare 207 = .ok (.iconst 0, 1) := by decide +kernel
theorem dX13_declare_208 : decode cX13_declare 208 = .ok (.bastore, 1) := by decide +kernel
theorem dX13_declare_209 : decode cX13_declare 209 = .ok (.aload_n 0, 1) := by decide +kernel
theorem dX13_declare_210 : decode cX13_declare 210 = .ok (.iload_n 2, 1) := by decide +kernel
theorem dX13_declare_211 : decode cX13_declare 211 = .ok (.invokevirtual 487, 3) := by decide +kernel
theorem dX13_declare_214 : decode cX13_declare 214 = .ok (.aload_n 0, 1) := by decide +kernel
theorem dX13_declare_215 : decode cX13_declare 215 = .ok (.getfield 39, 3) := by decide +kernel
theorem dX13_declare_218 : decode cX13_declare 218 = .ok (.iload_n 2, 1) := by decide +kernel
theorem dX13_declare_219 : decode cX13_declare 219 = .ok (.iload_n 1, 1) := by decide +kernel
theorem dX13_declare_220 : decode cX13_declare 220 = .ok (.bastore, 1) := by decide +kernel
theorem dX13_declare_221 : decode cX13_declare 221 = .ok (.iload_n 1, 1) := by decide +kernel
theorem dX13_declare_222 : decode cX13_declare 222 = .ok (.ifCond .eq 23, 3) := by decide +kernel
theorem dX13_declare_225 : decode cX13_declare 225 = .ok (.aload_n 0, 1) := by decide +kernel
theorem dX13_declare_226 : decode cX13_declare 226 = .ok (.getfield 108, 3) := by decide +kernel
theorem dX13_declare_229 : decode cX13_declare 229 = .ok (.aload_n 0, 1) := by decide +kernel
theorem dX13_declare_230 : decode cX13_declare 230 = .ok (.getfield 405, 3) := by decide +kernel
theorem dX13_declare_233 : decode cX13_declare 233 = .ok (.iload_n 2, 1) := by decide +kernel
theorem dX13_declare_234 : decode cX13_declare 234 = .ok (.iastore, 1) := by decide +kernel
theorem dX13_declare_235 : decode cX13_declare 235 = .ok (.aload_n 0, 1) := by decide +kernel
theorem dX13_declare_236 : decode cX13_declare 236 = .ok (.dup, 1) := by decide +kernel
theorem dX13_declare_237 : decode cX13_declare 237 = .ok (.getfield 405, 3) := by decide +kernel
theorem dX13_declare_240 : decode cX13_declare 240 = .ok (.iconst 1, 1) := by decide +kernel
theorem dX13_declare_241 : decode cX13_declare 241 = .ok (.iadd, 1) := by decide +kernel
theorem dX13_declare_242 : decode cX13_declare 242 = .ok (.putfield 405, 3) := by decide +kernel
theorem dX13_declare_245 : decode cX13_declare 245 = .ok (.return_, 1) := by decide +kernel
theorem dX13_markNamed_0 : decode cX13_markNamed 0 = .ok (.aload_n 0, 1) := by decide +kernel
theorem dX13_markNamed_1 : decode cX13_markNamed 1 = .ok (.getfield 17, 3) := by decide +kernel
theorem dX13_markNamed_4 : decode cX13_markNamed 4 = .ok (.iload_n 1, 1) := by decide +kernel
theorem dX13_markNamed_5 : decode cX13_markNamed 5 = .ok (.iaload, 1) := by decide +kernel
theorem dX13_markNamed_6 : decode cX13_markNamed 6 = .ok (.istore_n 2, 1) := by decide +kernel
theorem dX13_markNamed_7 : decode cX13_markNamed 7 = .ok (.aload_n 0, 1) := by decide +kernel
theorem dX13_markNamed_8 : decode cX13_markNamed 8 = .ok (.getfield 20, 3) := by decide +kernel
theorem dX13_markNamed_11 : decode cX13_markNamed 11 = .ok (.iload_n 1, 1) := by decide +kernel
theorem dX13_markNamed_12 : decode cX13_markNamed 12 = .ok (.iaload, 1) := by decide +kernel
theorem dX13_markNamed_13 : decode cX13_markNamed 13 = .ok (.iconst 3, 1) := by decide +kernel
theorem dX13_markNamed_14 : decode cX13_markNamed 14 = .ok (.if_icmp .ne 45, 3) := by decide +kernel
theorem dX13_markNamed_17 : decode cX13_markNamed 17 = .ok (.aload_n 0, 1) := by decide +kernel
theorem dX13_markNamed_18 : decode cX13_markNamed 18 = .ok (.getfield 14, 3) := by decide +kernel
theorem dX13_markNamed_21 : decode cX13_markNamed 21 = .ok (.iload_n 2, 1) := by decide +kernel
theorem dX13_markNamed_22 : decode cX13_markNamed 22 = .ok (.iaload, 1) := by decide +kernel
theorem dX13_markNamed_23 : decode cX13_markNamed 23 = .ok (.bipush 119, 2) := by decide +kernel
theorem dX13_markNamed_25 : decode cX13_markNamed 25 = .ok (.if_icmp .ne 34, 3) := by decide +kernel
theorem dX13_markNamed_28 : decode cX13_markNamed 28 = .ok (.aload_n 0, 1) := by decide +kernel
theorem dX13_markNamed_29 : decode cX13_markNamed 29 = .ok (.getfield 14, 3) := by decide +kernel
theorem dX13_markNamed_32 : decode cX13_markNamed 32 = .ok (.iload_n 2, 1) := by decide +kernel
theorem dX13_markNamed_33 : decode cX13_markNamed 33 = .ok (.iconst 1, 1) := by decide +kernel
theorem dX13_markNamed_34 : decode cX13_markNamed 34 = .ok (.iadd, 1) := by decide +kernel
theorem dX13_markNamed_35 : decode cX13_markNamed 35 = .ok (.iaload, 1) := by decide +kernel
theorem dX13_markNamed_36 : decode cX13_markNamed 36 = .ok (.bipush 102, 2) := by decide +kernel
theorem dX13_markNamed_38 : decode cX13_markNamed 38 = .ok (.if_icmp .ne 21, 3) := by decide +kernel
theorem dX13_markNamed_41 : decode cX13_markNamed 41 = .ok (.aload_n 0, 1) := by decide +kernel
theorem dX13_markNamed_42 : decode cX13_markNamed 42 = .ok (.getfield 14, 3) := by decide +kernel
theorem dX13_markNamed_45 : decode cX13_markNamed 45 = .ok (.iload_n 2, 1) := by decide +kernel
theorem dX13_markNamed_46 : decode cX13_markNamed 46 = .ok (.iconst 2, 1) := by decide +kernel
theorem dX13_markNamed_47 : decode cX13_markNamed 47 = .ok (.iadd, 1) := by decide +kernel
theorem dX13_markNamed_48 : decode cX13_markNamed 48 = .ok (.iaload, 1) := by decide +kernel
theorem dX13_markNamed_49 : decode cX13_markNamed 49 = .ok (.bipush 102, 2) := by decide +kernel
theorem dX13_markNamed_51 : decode cX13_markNamed 51 = .ok (.if_icmp .ne 8, 3) := by decide +kernel
theorem dX13_markNamed_54 : decode cX13_markNamed 54 = .ok (.aload_n 0, 1) := by decide +kernel
theorem dX13_markNamed_55 : decode cX13_markNamed 55 = .ok (.iload_n 1, 1) := by decide +kernel
theorem dX13_markNamed_56 : decode cX13_markNamed 56 = .ok (.putfield 370, 3) := by decide +kernel
theorem dX13_markNamed_59 : decode cX13_markNamed 59 = .ok (.aload_n 0, 1) := by decide +kernel
theorem dX13_markNamed_60 : decode cX13_markNamed 60 = .ok (.getfield 20, 3) := by decide +kernel
theorem dX13_markNamed_63 : decode cX13_markNamed 63 = .ok (.iload_n 1, 1) := by decide +kernel
theorem dX13_markNamed_64 : decode cX13_markNamed 64 = .ok (.iaload, 1) := by decide +kernel
theorem dX13_markNamed_65 : decode cX13_markNamed 65 = .ok (.iconst 2, 1) := by decide +kernel
theorem dX13_markNamed_66 : decode cX13_markNamed 66 = .ok (.if_icmp .ne 32, 3) := by decide +kernel
theorem dX13_markNamed_69 : decode cX13_markNamed 69 = .ok (.aload_n 0, 1) := by decide +kernel
theorem dX13_markNamed_70 : decode cX13_markNamed 70 = .ok (.getfield 14, 3) := by decide +kernel
theorem dX13_markNamed_73 : decode cX13_markNamed 73 = .ok (.iload_n 2, 1) := by decide +kernel
theorem dX13_markNamed_74 : decode cX13_markNamed 74 = .ok (.iaload, 1) := by decide +kernel
theorem dX13_markNamed_75 : decode cX13_markNamed 75 = .ok (.bipush 124, 2) := by decide +kernel
theorem dX13_markNamed_77 : decode cX13_markNamed 77 = .ok (.if_icmp .ne 21, 3) := by decide +kernel
theorem dX13_markNamed_80 : decode cX13_markNamed 80 = .ok (.aload_n 0, 1) := by decide +kernel
theorem dX13_markNamed_81 : decode cX13_markNamed 81 = .ok (.getfield 14, 3) := by decide +kernel
theorem dX13_markNamed_84 : decode cX13_markNamed 84 = .ok (.iload_n 2, 1) := by decide +kernel
theorem dX13_markNamed_85 : decode cX13_markNamed 85 = .ok (.iconst 1, 1) := by decide +kernel
theorem dX13_markNamed_86 : decode cX13_markNamed 86 = .ok (.iadd, 1) := by decide +kernel
theorem dX13_markNamed_87 : decode cX13_markNamed 87 = .ok (.iaload, 1) := by decide +kernel
theorem dX13_markNamed_88 : decode cX13_markNamed 88 = .ok (.bipush 45, 2) := by decide +kernel
theorem dX13_markNamed_90 : decode cX13_markNamed 90 = .ok (.if_icmp .ne 8, 3) := by decide +kernel
theorem dX13_markNamed_93 : decode cX13_markNamed 93 = .ok (.aload_n 0, 1) := by decide +kernel
theorem dX13_markNamed_94 : decode cX13_markNamed 94 = .ok (.iload_n 1, 1) := by decide +kernel
theorem dX13_markNamed_95 : decode cX13_markNamed 95 = .ok (.putfield 373, 3) := by decide +kernel
theorem dX13_markNamed_98 : decode cX13_markNamed 98 = .ok (.return_, 1) := by decide +kernel
theorem dX13_readDeclared_0 : decode cX13_readDeclared 0 = .ok (.iconst 0, 1) := by decide +kernel
theorem dX13_readDeclared_1 : decode cX13_readDeclared 1 = .ok (.istore_n 2, 1) := by decide +kernel
theorem dX13_readDeclared_2 : decode cX13_readDeclared 2 = .ok (.aload_n 0, 1) := by decide +kernel
theorem dX13_readDeclared_3 : decode cX13_readDeclared 3 = .ok (.invokevirtual 490, 3) := by decide +kernel
theorem dX13_readDeclared_6 : decode cX13_readDeclared 6 = .ok (.aload_n 0, 1) := by decide +kernel
theorem dX13_readDeclared_7 : decode cX13_readDeclared 7 = .ok (.getfield 418, 3) := by decide +kernel
theorem dX13_readDeclared_10 : decode cX13_readDeclared 10 = .ok (.ifCond .ne 48, 3) := by decide +kernel
theorem dX13_readDeclared_13 : decode cX13_readDeclared 13 = .ok (.aload_n 0, 1) := by decide +kernel
theorem dX13_readDeclared_14 : decode cX13_readDeclared 14 = .ok (.getfield 452, 3) := by decide +kernel
theorem dX13_readDeclared_17 : decode cX13_readDeclared 17 = .ok (.bipush 46, 2) := by decide +kernel
theorem dX13_readDeclared_19 : decode cX13_readDeclared 19 = .ok (.if_icmp .eq 39, 3) := by decide +kernel
theorem dX13_readDeclared_22 : decode cX13_readDeclared 22 = .ok (.aload_n 0, 1) := by decide +kernel
theorem dX13_readDeclared_23 : decode cX13_readDeclared 23 = .ok (.getfield 452, 3) := by decide +kernel
theorem dX13_readDeclared_26 : decode cX13_readDeclared 26 = .ok (.iconst 1, 1) := by decide +kernel
theorem dX13_readDeclared_27 : decode cX13_readDeclared 27 = .ok (.if_icmp .eq 9, 3) := by decide +kernel
theorem dX13_readDeclared_30 : decode cX13_readDeclared 30 = .ok (.aload_n 0, 1) := by decide +kernel
theorem dX13_readDeclared_31 : decode cX13_readDeclared 31 = .ok (.iconst 4, 1) := by decide +kernel
theorem dX13_readDeclared_32 : decode cX13_readDeclared 32 = .ok (.invokevirtual 474, 3) := by decide +kernel
theorem dX13_readDeclared_35 : decode cX13_readDeclared 35 = .ok (.return_, 1) := by decide +kernel
theorem dX13_readDeclared_36 : decode cX13_readDeclared 36 = .ok (.aload_n 0, 1) := by decide +kernel
theorem dX13_readDeclared_37 : decode cX13_readDeclared 37 = .ok (.iload_n 1, 1) := by decide +kernel
theorem dX13_readDeclared_38 : decode cX13_readDeclared 38 = .ok (.invokevirtual 493, 3) := by decide +kernel
theorem dX13_readDeclared_41 : decode cX13_readDeclared 41 = .ok (.iinc 2 1, 3) := by decide +kernel
theorem dX13_readDeclared_44 : decode cX13_readDeclared 44 = .ok (.aload_n 0, 1) := by decide +kernel
theorem dX13_readDeclared_45 : decode cX13_readDeclared 45 = .ok (.getfield 418, 3) := by decide +kernel
theorem dX13_readDeclared_48 : decode cX13_readDeclared 48 = .ok (.ifCond .ne (-42), 3) := by decide +kernel
theorem dX13_readDeclared_51 : decode cX13_readDeclared 51 = .ok (.aload_n 0, 1) := by decide +kernel
theorem dX13_readDeclared_52 : decode cX13_readDeclared 52 = .ok (.invokevirtual 490, 3) := by decide +kernel
theorem dX13_readDeclared_55 : decode cX13_readDeclared 55 = .ok (.goto (-49), 3) := by decide +kernel
theorem dX13_readDeclared_58 : decode cX13_readDeclared 58 = .ok (.aload_n 0, 1) := by decide +kernel
theorem dX13_readDeclared_59 : decode cX13_readDeclared 59 = .ok (.getfield 418, 3) := by decide +kernel
theorem dX13_readDeclared_62 : decode cX13_readDeclared 62 = .ok (.ifCond .ne 12, 3) := by decide +kernel
theorem dX13_readDeclared_65 : decode cX13_readDeclared 65 = .ok (.iload_n 2, 1) := by decide +kernel
theorem dX13_readDeclared_66 : decode cX13_readDeclared 66 = .ok (.ifCond .ne 8, 3) := by decide +kernel
theorem dX13_readDeclared_69 : decode cX13_readDeclared 69 = .ok (.aload_n 0, 1) := by decide +kernel
theorem dX13_readDeclared_70 : decode cX13_readDeclared 70 = .ok (.iconst 4, 1) := by decide +kernel
theorem dX13_readDeclared_71 : decode cX13_readDeclared 71 = .ok (.invokevirtual 474, 3) := by decide +kernel
theorem dX13_readDeclared_74 : decode cX13_readDeclared 74 = .ok (.return_, 1) := by decide +kernel
theorem dX13_readApart_0 : decode cX13_readApart 0 = .ok (.iconst 0, 1) := by decide +kernel
theorem dX13_readApart_1 : decode cX13_readApart 1 = .ok (.istore_n 1, 1) := by decide +kernel
theorem dX13_readApart_2 : decode cX13_readApart 2 = .ok (.aload_n 0, 1) := by decide +kernel
theorem dX13_readApart_3 : decode cX13_readApart 3 = .ok (.invokevirtual 490, 3) := by decide +kernel
theorem dX13_readApart_6 : decode cX13_readApart 6 = .ok (.aload_n 0, 1) := by decide +kernel
theorem dX13_readApart_7 : decode cX13_readApart 7 = .ok (.getfield 418, 3) := by decide +kernel
theorem dX13_readApart_10 : decode cX13_readApart 10 = .ok (.ifCond .ne 268, 3) := by decide +kernel
theorem dX13_readApart_13 : decode cX13_readApart 13 = .ok (.aload_n 0, 1) := by decide +kernel
theorem dX13_readApart_14 : decode cX13_readApart 14 = .ok (.getfield 452, 3) := by decide +kernel
theorem dX13_readApart_17 : decode cX13_readApart 17 = .ok (.bipush 46, 2) := by decide +kernel
theorem dX13_readApart_19 : decode cX13_readApart 19 = .ok (.if_icmp .eq 259, 3) := by decide +kernel
theorem dX13_readApart_22 : decode cX13_readApart 22 = .ok (.aload_n 0, 1) := by decide +kernel
theorem dX13_readApart_23 : decode cX13_readApart 23 = .ok (.getfield 452, 3) := by decide +kernel
theorem dX13_readApart_26 : decode cX13_readApart 26 = .ok (.iconst 1, 1) := by decide +kernel
theorem dX13_readApart_27 : decode cX13_readApart 27 = .ok (.if_icmp .eq 9, 3) := by decide +kernel
theorem dX13_readApart_30 : decode cX13_readApart 30 = .ok (.aload_n 0, 1) := by decide +kernel
theorem dX13_readApart_31 : decode cX13_readApart 31 = .ok (.iconst 4, 1) := by decide +kernel
theorem dX13_readApart_32 : decode cX13_readApart 32 = .ok (.invokevirtual 474, 3) := by decide +kernel
theorem dX13_readApart_35 : decode cX13_readApart 35 = .ok (.return_, 1) := by decide +kernel
theorem dX13_readApart_36 : decode cX13_readApart 36 = .ok (.aload_n 0, 1) := by decide +kernel
theorem dX13_readApart_37 : decode cX13_readApart 37 = .ok (.invokevirtual 467, 3) := by decide +kernel
theorem dX13_readApart_40 : decode cX13_readApart 40 = .ok (.istore_n 2, 1) := by decide +kernel
theorem dX13_readApart_41 : decode cX13_readApart 41 = .ok (.iload_n 2, 1) := by decide +kernel
theorem dX13_readApart_42 : decode cX13_readApart 42 = .ok (.iconst (-1), 1) := by decide +kernel
theorem dX13_readApart_43 : decode cX13_readApart 43 = .ok (.if_icmp .eq 25, 3) := by decide +kernel
theorem dX13_readApart_46 : decode cX13_readApart 46 = .ok (.aload_n 0, 1) := by decide +kernel
theorem dX13_readApart_47 : decode cX13_readApart 47 = .ok (.getfield 35, 3) := by decide +kernel
theorem dX13_readApart_50 : decode cX13_readApart 50 = .ok (.iload_n 2, 1) := by decide +kernel
theorem dX13_readApart_51 : decode cX13_readApart 51 = .ok (.baload, 1) := by decide +kernel
theorem dX13_readApart_52 : decode cX13_readApart 52 = .ok (.ifCond .eq 16, 3) := by decide +kernel
theorem dX13_readApart_55 : decode cX13_readApart 55 = .ok (.aload_n 0, 1) := by decide +kernel
theorem dX13_readApart_56 : decode cX13_readApart 56 = .ok (.getfield 39, 3) := by decide +kernel
theorem dX13_readApart_59 : decode cX13_readApart 59 = .ok (.iload_n 2, 1) := by decide +kernel
theorem dX13_readApart_60 : decode cX13_readApart 60 = .ok (.baload, 1) := by decide +kernel
theorem dX13_readApart_61 : decode cX13_readApart 61 = .ok (.ifCond .eq 7, 3) := by decide +kernel
theorem dX13_readApart_64 : decode cX13_readApart 64 = .ok (.iconst 1, 1) := by decide +kernel
theorem dX13_readApart_65 : decode cX13_readApart 65 = .ok (.goto 4, 3) := by decide +kernel
theorem dX13_readApart_68 : decode cX13_readApart 68 = .ok (.iconst 0, 1) := by decide +kernel
theorem dX13_readApart_69 : decode cX13_readApart 69 = .ok (.istore_n 3, 1) := by decide +kernel
theorem dX13_readApart_70 : decode cX13_readApart 70 = .ok (.iconst 0, 1) := by decide +kernel
theorem dX13_readApart_71 : decode cX13_readApart 71 = .ok (.istore 4, 2) := by decide +kernel
theorem dX13_readApart_73 : decode cX13_readApart 73 = .ok (.iload 4, 2) := by decide +kernel
theorem dX13_readApart_75 : decode cX13_readApart 75 = .ok (.iload_n 1, 1) := by decide +kernel
theorem dX13_readApart_76 : decode cX13_readApart 76 = .ok (.if_icmp .ge 113, 3) := by decide +kernel
theorem dX13_readApart_79 : decode cX13_readApart 79 = .ok (.iload_n 3, 1) := by decide +kernel
theorem dX13_readApart_80 : decode cX13_readApart 80 = .ok (.ifCond .eq 109, 3) := by decide +kernel
theorem dX13_readApart_83 : decode cX13_readApart 83 = .ok (.aload_n 0, 1) := by decide +kernel
theorem dX13_readApart_84 : decode cX13_readApart 84 = .ok (.getfield 418, 3) := by decide +kernel
theorem dX13_readApart_87 : decode cX13_readApart 87 = .ok (.ifCond .ne 102, 3) := by decide +kernel
theorem dX13_readApart_90 : decode cX13_readApart 90 = .ok (.aload_n 0, 1) := by decide +kernel
theorem dX13_readApart_91 : decode cX13_readApart 91 = .ok (.getfield 132, 3) := by decide +kernel
theorem dX13_readApart_94 : decode cX13_readApart 94 = .ok (.iload 4, 2) := by decide +kernel
theorem dX13_readApart_96 : decode cX13_readApart 96 = .ok (.iaload, 1) := by decide +kernel
theorem dX13_readApart_97 : decode cX13_readApart 97 = .ok (.iload_n 2, 1) := by decide +kernel
theorem dX13_readApart_98 : decode cX13_readApart 98 = .ok (.if_icmp .eq 85, 3) := by decide +kernel
theorem dX13_readApart_101 : decode cX13_readApart 101 = .ok (.aload_n 0, 1) := by decide +kernel
theorem dX13_readApart_102 : decode cX13_readApart 102 = .ok (.aload_n 0, 1) := by decide +kernel
theorem dX13_readApart_103 : decode cX13_readApart 103 = .ok (.getfield 132, 3) := by decide +kernel
theorem dX13_readApart_106 : decode cX13_readApart 106 = .ok (.iload 4, 2) := by decide +kernel
theorem dX13_readApart_108 : decode cX13_readApart 108 = .ok (.iaload, 1) := by decide +kernel
theorem dX13_readApart_109 : decode cX13_readApart 109 = .ok (.iload_n 2, 1) := by decide +kernel
theorem dX13_readApart_110 : decode cX13_readApart 110 = .ok (.invokevirtual 497, 3) := by decide +kernel
theorem dX13_readApart_113 : decode cX13_readApart 113 = .ok (.ifCond .ne 70, 3) := by decide +kernel
theorem dX13_readApart_116 : decode cX13_readApart 116 = .ok (.aload_n 0, 1) := by decide +kernel
theorem dX13_readApart_117 : decode cX13_readApart 117 = .ok (.getfield 411, 3) := by decide +kernel
theorem dX13_readApart_120 : decode cX13_readApart 120 = .ok (.sipush 1000, 3) := by decide +kernel
theorem dX13_readApart_123 : decode cX13_readApart 123 = .ok (.if_icmp .ne 11, 3) := by decide +kernel
theorem dX13_readApart_126 : decode cX13_readApart 126 = .ok (.aload_n 0, 1) := by decide +kernel
theorem dX13_readApart_127 : decode cX13_readApart 127 = .ok (.iconst 5, 1) := by decide +kernel
theorem dX13_readApart_128 : decode cX13_readApart 128 = .ok (.invokevirtual 474, 3) := by decide +kernel
theorem dX13_readApart_131 : decode cX13_readApart 131 = .ok (.goto 52, 3) := by decide +kernel
theorem dX13_readApart_134 : decode cX13_readApart 134 = .ok (.aload_n 0, 1) := by decide +kernel
theorem dX13_readApart_135 : decode cX13_readApart 135 = .ok (.aload_n 0, 1) := by decide +kernel
theorem dX13_readApart_136 : decode cX13_readApart 136 = .ok (.getfield 132, 3) := by decide +kernel
theorem dX13_readApart_139 : decode cX13_readApart 139 = .ok (.iload 4, 2) := by decide +kernel
theorem dX13_readApart_141 : decode cX13_readApart 141 = .ok (.iaload, 1) := by decide +kernel
theorem dX13_readApart_142 : decode cX13_readApart 142 = .ok (.iload_n 2, 1) := by decide +kernel
theorem dX13_readApart_143 : decode cX13_readApart 143 = .ok (.iconst 1, 1) := by decide +kernel
theorem dX13_readApart_144 : decode cX13_readApart 144 = .ok (.invokevirtual 414, 3) := by decide +kernel
theorem dX13_readApart_147 : decode cX13_readApart 147 = .ok (.aload_n 0, 1) := by decide +kernel
theorem dX13_readApart_148 : decode cX13_readApart 148 = .ok (.getfield 114, 3) := by decide +kernel
theorem dX13_readApart_151 : decode cX13_readApart 151 = .ok (.aload_n 0, 1) := by decide +kernel
theorem dX13_readApart_152 : decode cX13_readApart 152 = .ok (.getfield 411, 3) := by decide +kernel
theorem dX13_readApart_155 : decode cX13_readApart 155 = .ok (.aload_n 0, 1) := by decide +kernel
theorem dX13_readApart_156 : decode cX13_readApart 156 = .ok (.getfield 132, 3) := by decide +kernel
theorem dX13_readApart_159 : decode cX13_readApart 159 = .ok (.iload 4, 2) := by decide +kernel
theorem dX13_readApart_161 : decode cX13_readApart 161 = .ok (.iaload, 1) := by decide +kernel
theorem dX13_readApart_162 : decode cX13_readApart 162 = .ok (.iastore, 1) := by decide +kernel
theorem dX13_readApart_163 : decode cX13_readApart 163 = .ok (.aload_n 0, 1) := by decide +kernel
theorem dX13_readApart_164 : decode cX13_readApart 164 = .ok (.getfield 117, 3) := by decide +kernel
theorem dX13_readApart_167 : decode cX13_readApart 167 = .ok (.aload_n 0, 1) := by decide +kernel
theorem dX13_readApart_168 : decode cX13_readApart 168 = .ok (.getfield 411, 3) := by decide +kernel
theorem dX13_readApart_171 : decode cX13_readApart 171 = .ok (.iload_n 2, 1) := by decide +kernel
theorem dX13_readApart_172 : decode cX13_readApart 172 = .ok (.iastore, 1) := by decide +kernel
theorem dX13_readApart_173 : decode cX13_readApart 173 = .ok (.aload_n 0, 1) := by decide +kernel
theorem dX13_readApart_174 : decode cX13_readApart 174 = .ok (.dup, 1) := by decide +kernel
theorem dX13_readApart_175 : decode cX13_readApart 175 = .ok (.getfield 411, 3) := by decide +kernel
theorem dX13_readApart_178 : decode cX13_readApart 178 = .ok (.iconst 1, 1) := by decide +kernel
theorem dX13_readApart_179 : decode cX13_readApart 179 = .ok (.iadd, 1) := by decide +kernel
theorem dX13_readApart_180 : decode cX13_readApart 180 = .ok (.putfield 411, 3) := by decide +kernel
theorem dX13_readApart_183 : decode cX13_readApart 183 = .ok (.iinc 4 1, 3) := by decide +kernel
theorem dX13_readApart_186 : decode cX13_readApart 186 = .ok (.goto (-113), 3) := by decide +kernel
theorem dX13_readApart_189 : decode cX13_readApart 189 = .ok (.iconst 0, 1) := by decide +kernel
theorem dX13_readApart_190 : decode cX13_readApart 190 = .ok (.istore 4, 2) := by decide +kernel
theorem dX13_readApart_192 : decode cX13_readApart 192 = .ok (.iload 4, 2) := by decide +kernel
theorem dX13_readApart_194 : decode cX13_readApart 194 = .ok (.iload_n 1, 1) := by decide +kernel
theorem dX13_readApart_195 : decode cX13_readApart 195 = .ok (.if_icmp .ge 30, 3) := by decide +kernel
theorem dX13_readApart_198 : decode cX13_readApart 198 = .ok (.iload_n 3, 1) := by decide +kernel
theorem dX13_readApart_199 : decode cX13_readApart 199 = .ok (.ifCond .eq 26, 3) := by decide +kernel
theorem dX13_readApart_202 : decode cX13_readApart 202 = .ok (.aload_n 0, 1) := by decide +kernel
theorem dX13_readApart_203 : decode cX13_readApart 203 = .ok (.getfield 132, 3) := by decide +kernel
theorem dX13_readApart_206 : decode cX13_readApart 206 = .ok (.iload 4, 2) := by decide +kernel
theorem dX13_readApart_208 : decode cX13_readApart 208 = .ok (.iaload, 1) := by decide +kernel
theorem dX13_readApart_209 : decode cX13_readApart 209 = .ok (.iload_n 2, 1) := by decide +kernel
theorem dX13_readApart_210 : decode cX13_readApart 210 = .ok (.if_icmp .ne 9, 3) := by decide +kernel
theorem dX13_readApart_213 : decode cX13_readApart 213 = .ok (.aload_n 0, 1) := by decide +kernel
theorem dX13_readApart_214 : decode cX13_readApart 214 = .ok (.bipush 7, 2) := by decide +kernel
theorem dX13_readApart_216 : decode cX13_readApart 216 = .ok (.invokevirtual 474, 3) := by decide +kernel
theorem dX13_readApart_219 : decode cX13_readApart 219 = .ok (.iinc 4 1, 3) := by decide +kernel
theorem dX13_readApart_222 : decode cX13_readApart 222 = .ok (.goto (-30), 3) := by decide +kernel
theorem dX13_readApart_225 : decode cX13_readApart 225 = .ok (.iload_n 3, 1) := by decide +kernel
theorem dX13_readApart_226 : decode cX13_readApart 226 = .ok (.ifCond .ne 28, 3) := by decide +kernel
theorem dX13_readApart_229 : decode cX13_readApart 229 = .ok (.aload_n 0, 1) := by decide +kernel
theorem dX13_readApart_230 : decode cX13_readApart 230 = .ok (.iload_n 2, 1) := by decide +kernel
theorem dX13_readApart_231 : decode cX13_readApart 231 = .ok (.iconst (-1), 1) := by decide +kernel
theorem dX13_readApart_232 : decode cX13_readApart 232 = .ok (.if_icmp .eq 12, 3) := by decide +kernel
theorem dX13_readApart_235 : decode cX13_readApart 235 = .ok (.aload_n 0, 1) := by decide +kernel
theorem dX13_readApart_236 : decode cX13_readApart 236 = .ok (.getfield 35, 3) := by decide +kernel
theorem dX13_readApart_239 : decode cX13_readApart 239 = .ok (.iload_n 2, 1) := by decide +kernel
theorem dX13_readApart_240 : decode cX13_readApart 240 = .ok (.baload, 1) := by decide +kernel
theorem dX13_readApart_241 : decode cX13_readApart 241 = .ok (.ifCond .eq 8, 3) := by decide +kernel
theorem dX13_readApart_244 : decode cX13_readApart 244 = .ok (.bipush 9, 2) := by decide +kernel
theorem dX13_readApart_246 : decode cX13_readApart 246 = .ok (.goto 5, 3) := by decide +kernel
theorem dX13_readApart_249 : decode cX13_readApart 249 = .ok (.bipush 10, 2) := by decide +kernel
theorem dX13_readApart_251 : decode cX13_readApart 251 = .ok (.invokevirtual 474, 3) := by decide +kernel
theorem dX13_readApart_254 : decode cX13_readApart 254 = .ok (.aload_n 0, 1) := by decide +kernel
theorem dX13_readApart_255 : decode cX13_readApart 255 = .ok (.getfield 418, 3) := by decide +kernel
theorem dX13_readApart_258 : decode cX13_readApart 258 = .ok (.ifCond .ne 17, 3) := by decide +kernel
theorem dX13_readApart_261 : decode cX13_readApart 261 = .ok (.aload_n 0, 1) := by decide +kernel
theorem dX13_readApart_262 : decode cX13_readApart 262 = .ok (.getfield 132, 3) := by decide +kernel
theorem dX13_readApart_265 : decode cX13_readApart 265 = .ok (.iload_n 1, 1) := by decide +kernel
theorem dX13_readApart_266 : decode cX13_readApart 266 = .ok (.iload_n 2, 1) := by decide +kernel
theorem dX13_readApart_267 : decode cX13_readApart 267 = .ok (.iastore, 1) := by decide +kernel
theorem dX13_readApart_268 : decode cX13_readApart 268 = .ok (.iinc 1 1, 3) := by decide +kernel
theorem dX13_readApart_271 : decode cX13_readApart 271 = .ok (.aload_n 0, 1) := by decide +kernel
theorem dX13_readApart_272 : decode cX13_readApart 272 = .ok (.invokevirtual 490, 3) := by decide +kernel
theorem dX13_readApart_275 : decode cX13_readApart 275 = .ok (.goto (-269), 3) := by decide +kernel
theorem dX13_readApart_278 : decode cX13_readApart 278 = .ok (.aload_n 0, 1) := by decide +kernel
theorem dX13_readApart_279 : decode cX13_readApart 279 = .ok (.getfield 418, 3) := by decide +kernel
theorem dX13_readApart_282 : decode cX13_readApart 282 = .ok (.ifCond .ne 13, 3) := by decide +kernel
theorem dX13_readApart_285 : decode cX13_readApart 285 = .ok (.iload_n 1, 1) := by decide +kernel
theorem dX13_readApart_286 : decode cX13_readApart 286 = .ok (.iconst 2, 1) := by decide +kernel
theorem dX13_readApart_287 : decode cX13_readApart 287 = .ok (.if_icmp .ge 8, 3) := by decide +kernel
theorem dX13_readApart_290 : decode cX13_readApart 290 = .ok (.aload_n 0, 1) := by decide +kernel
theorem dX13_readApart_291 : decode cX13_readApart 291 = .ok (.iconst 4, 1) := by decide +kernel
theorem dX13_readApart_292 : decode cX13_readApart 292 = .ok (.invokevirtual 474, 3) := by decide +kernel
theorem dX13_readApart_295 : decode cX13_readApart 295 = .ok (.return_, 1) := by decide +kernel
theorem dX13_isLabelSign_0 : decode cX13_isLabelSign 0 = .ok (.iload_n 0, 1) := by decide +kernel
theorem dX13_isLabelSign_1 : decode cX13_isLabelSign 1 = .ok (.i2l, 1) := by decide +kernel
theorem dX13_isLabelSign_2 : decode cX13_isLabelSign 2 = .ok (.ldc2_w 500, 3) := by decide +kernel
theorem dX13_isLabelSign_5 : decode cX13_isLabelSign 5 = .ok (.ldc2_w 502, 3) := by decide +kernel
theorem dX13_isLabelSign_8 : decode cX13_isLabelSign 8 = .ok (.invokestatic 388, 3) := by decide +kernel
theorem dX13_isLabelSign_11 : decode cX13_isLabelSign 11 = .ok (.ifCond .ne 49, 3) := by decide +kernel
theorem dX13_isLabelSign_14 : decode cX13_isLabelSign 14 = .ok (.iload_n 0, 1) := by decide +kernel
theorem dX13_isLabelSign_15 : decode cX13_isLabelSign 15 = .ok (.i2l, 1) := by decide +kernel
theorem dX13_isLabelSign_16 : decode cX13_isLabelSign 16 = .ok (.ldc2_w 504, 3) := by decide +kernel
theorem dX13_isLabelSign_19 : decode cX13_isLabelSign 19 = .ok (.ldc2_w 506, 3) := by decide +kernel
theorem dX13_isLabelSign_22 : decode cX13_isLabelSign 22 = .ok (.invokestatic 388, 3) := by decide +kernel
theorem dX13_isLabelSign_25 : decode cX13_isLabelSign 25 = .ok (.ifCond .ne 35, 3) := by decide +kernel
theorem dX13_isLabelSign_28 : decode cX13_isLabelSign 28 = .ok (.iload_n 0, 1) := by decide +kernel
theorem dX13_isLabelSign_29 : decode cX13_isLabelSign 29 = .ok (.i2l, 1) := by decide +kernel
theorem dX13_isLabelSign_30 : decode cX13_isLabelSign 30 = .ok (.ldc2_w 508, 3) := by decide +kernel
theorem dX13_isLabelSign_33 : decode cX13_isLabelSign 33 = .ok (.ldc2_w 510, 3) := by decide +kernel
theorem dX13_isLabelSign_36 : decode cX13_isLabelSign 36 = .ok (.invokestatic 388, 3) := by decide +kernel
theorem dX13_isLabelSign_39 : decode cX13_isLabelSign 39 = .ok (.ifCond .ne 21, 3) := by decide +kernel
theorem dX13_isLabelSign_42 : decode cX13_isLabelSign 42 = .ok (.iload_n 0, 1) := by decide +kernel
theorem dX13_isLabelSign_43 : decode cX13_isLabelSign 43 = .ok (.bipush 46, 2) := by decide +kernel
theorem dX13_isLabelSign_45 : decode cX13_isLabelSign 45 = .ok (.if_icmp .eq 15, 3) := by decide +kernel
theorem dX13_isLabelSign_48 : decode cX13_isLabelSign 48 = .ok (.iload_n 0, 1) := by decide +kernel
theorem dX13_isLabelSign_49 : decode cX13_isLabelSign 49 = .ok (.bipush 45, 2) := by decide +kernel
theorem dX13_isLabelSign_51 : decode cX13_isLabelSign 51 = .ok (.if_icmp .eq 9, 3) := by decide +kernel
theorem dX13_isLabelSign_54 : decode cX13_isLabelSign 54 = .ok (.iload_n 0, 1) := by decide +kernel
theorem dX13_isLabelSign_55 : decode cX13_isLabelSign 55 = .ok (.bipush 95, 2) := by decide +kernel
theorem dX13_isLabelSign_57 : decode cX13_isLabelSign 57 = .ok (.if_icmp .ne 7, 3) := by decide +kernel
theorem dX13_isLabelSign_60 : decode cX13_isLabelSign 60 = .ok (.iconst 1, 1) := by decide +kernel
theorem dX13_isLabelSign_61 : decode cX13_isLabelSign 61 = .ok (.goto 4, 3) := by decide +kernel
theorem dX13_isLabelSign_64 : decode cX13_isLabelSign 64 = .ok (.iconst 0, 1) := by decide +kernel
theorem dX13_isLabelSign_65 : decode cX13_isLabelSign 65 = .ok (.ireturn, 1) := by decide +kernel
theorem dX13_readLabel_0 : decode cX13_readLabel 0 = .ok (.aload_n 0, 1) := by decide +kernel
theorem dX13_readLabel_1 : decode cX13_readLabel 1 = .ok (.getfield 421, 3) := by decide +kernel
theorem dX13_readLabel_4 : decode cX13_readLabel 4 = .ok (.bipush 60, 2) := by decide +kernel
theorem dX13_readLabel_6 : decode cX13_readLabel 6 = .ok (.if_icmp .gt 28, 3) := by decide +kernel
theorem dX13_readLabel_9 : decode cX13_readLabel 9 = .ok (.aload_n 0, 1) := by decide +kernel
theorem dX13_readLabel_10 : decode cX13_readLabel 10 = .ok (.getfield 400, 3) := by decide +kernel
theorem dX13_readLabel_13 : decode cX13_readLabel 13 = .ok (.aload_n 0, 1) := by decide +kernel
theorem dX13_readLabel_14 : decode cX13_readLabel 14 = .ok (.getfield 421, 3) := by decide +kernel
theorem dX13_readLabel_17 : decode cX13_readLabel 17 = .ok (.iadd, 1) := by decide +kernel
theorem dX13_readLabel_18 : decode cX13_readLabel 18 = .ok (.sipush 30000, 3) := by decide +kernel
theorem dX13_readLabel_21 : decode cX13_readLabel 21 = .ok (.if_icmp .gt 13, 3) := by decide +kernel
theorem dX13_readLabel_24 : decode cX13_readLabel 24 = .ok (.aload_n 0, 1) := by decide +kernel
theorem dX13_readLabel_25 : decode cX13_readLabel 25 = .ok (.getfield 512, 3) := by decide +kernel
theorem dX13_readLabel_28 : decode cX13_readLabel 28 = .ok (.sipush 1500, 3) := by decide +kernel
theorem dX13_readLabel_31 : decode cX13_readLabel 31 = .ok (.if_icmp .ne 9, 3) := by decide +kernel
theorem dX13_readLabel_34 : decode cX13_readLabel 34 = .ok (.aload_n 0, 1) := by decide +kernel
theorem dX13_readLabel_35 : decode cX13_readLabel 35 = .ok (.iconst 5, 1) := by decide +kernel
theorem dX13_readLabel_36 : decode cX13_readLabel 36 = .ok (.invokevirtual 474, 3) := by decide +kernel
theorem dX13_readLabel_39 : decode cX13_readLabel 39 = .ok (.return_, 1) := by decide +kernel
theorem dX13_readLabel_40 : decode cX13_readLabel 40 = .ok (.iconst 0, 1) := by decide +kernel
theorem dX13_readLabel_41 : decode cX13_readLabel 41 = .ok (.istore_n 1, 1) := by decide +kernel
theorem dX13_readLabel_42 : decode cX13_readLabel 42 = .ok (.iload_n 1, 1) := by decide +kernel
theorem dX13_readLabel_43 : decode cX13_readLabel 43 = .ok (.aload_n 0, 1) := by decide +kernel
theorem dX13_readLabel_44 : decode cX13_readLabel 44 = .ok (.getfield 421, 3) := by decide +kernel
theorem dX13_readLabel_47 : decode cX13_readLabel 47 = .ok (.if_icmp .ge 33, 3) := by decide +kernel
theorem dX13_readLabel_50 : decode cX13_readLabel 50 = .ok (.aload_n 0, 1) := by decide +kernel
theorem dX13_readLabel_51 : decode cX13_readLabel 51 = .ok (.getfield 8, 3) := by decide +kernel
theorem dX13_readLabel_54 : decode cX13_readLabel 54 = .ok (.aload_n 0, 1) := by decide +kernel
theorem dX13_readLabel_55 : decode cX13_readLabel 55 = .ok (.getfield 424, 3) := by decide +kernel
theorem dX13_readLabel_58 : decode cX13_readLabel 58 = .ok (.iload_n 1, 1) := by decide +kernel
theorem dX13_readLabel_59 : decode cX13_readLabel 59 = .ok (.iadd, 1) := by decide +kernel
theorem dX13_readLabel_60 : decode cX13_readLabel 60 = .ok (.iaload, 1) := by decide +kernel
theorem dX13_readLabel_61 : decode cX13_readLabel 61 = .ok (.invokestatic 515, 3) := by decide +kernel
theorem dX13_readLabel_64 : decode cX13_readLabel 64 = .ok (.ifCond .ne 10, 3) := by decide +kernel
theorem dX13_readLabel_67 : decode cX13_readLabel 67 = .ok (.aload_n 0, 1) := by decide +kernel
theorem dX13_readLabel_68 : decode cX13_readLabel 68 = .ok (.bipush 6, 2) := by decide +kernel
theorem dX13_readLabel_70 : decode cX13_readLabel 70 = .ok (.invokevirtual 474, 3) := by decide +kernel
theorem dX13_readLabel_73 : decode cX13_readLabel 73 = .ok (.return_, 1) := by decide +kernel
theorem dX13_readLabel_74 : decode cX13_readLabel 74 = .ok (.iinc 1 1, 3) := by decide +kernel
theorem dX13_readLabel_77 : decode cX13_readLabel 77 = .ok (.goto (-35), 3) := by decide +kernel
theorem dX13_readLabel_80 : decode cX13_readLabel 80 = .ok (.aload_n 0, 1) := by decide +kernel
theorem dX13_readLabel_81 : decode cX13_readLabel 81 = .ok (.aload_n 0, 1) := by decide +kernel
theorem dX13_readLabel_82 : decode cX13_readLabel 82 = .ok (.getfield 8, 3) := by decide +kernel
theorem dX13_readLabel_85 : decode cX13_readLabel 85 = .ok (.aload_n 0, 1) := by decide +kernel
theorem dX13_readLabel_86 : decode cX13_readLabel 86 = .ok (.getfield 424, 3) := by decide +kernel
theorem dX13_readLabel_89 : decode cX13_readLabel 89 = .ok (.aload_n 0, 1) := by decide +kernel
theorem dX13_readLabel_90 : decode cX13_readLabel 90 = .ok (.getfield 421, 3) := by decide +kernel
theorem dX13_readLabel_93 : decode cX13_readLabel 93 = .ok (.invokevirtual 478, 3) := by decide +kernel
theorem dX13_readLabel_96 : decode cX13_readLabel 96 = .ok (.iconst (-1), 1) := by decide +kernel
theorem dX13_readLabel_97 : decode cX13_readLabel 97 = .ok (.if_icmp .ne 11, 3) := by decide +kernel
theorem dX13_readLabel_100 : decode cX13_readLabel 100 = .ok (.aload_n 0, 1) := by decide +kernel
theorem dX13_readLabel_101 : decode cX13_readLabel 101 = .ok (.invokevirtual 467, 3) := by decide +kernel
theorem dX13_readLabel_104 : decode cX13_readLabel 104 = .ok (.iconst (-1), 1) := by decide +kernel
theorem dX13_readLabel_105 : decode cX13_readLabel 105 = .ok (.if_icmp .eq 10, 3) := by decide +kernel
theorem dX13_readLabel_108 : decode cX13_readLabel 108 = .ok (.aload_n 0, 1) := by decide +kernel
theorem dX13_readLabel_109 : decode cX13_readLabel 109 = .ok (.bipush 7, 2) := by decide +kernel
theorem dX13_readLabel_111 : decode cX13_readLabel 111 = .ok (.invokevirtual 474, 3) := by decide +kernel
theorem dX13_readLabel_114 : decode cX13_readLabel 114 = .ok (.return_, 1) := by decide +kernel
theorem dX13_readLabel_115 : decode cX13_readLabel 115 = .ok (.aload_n 0, 1) := by decide +kernel
theorem dX13_readLabel_116 : decode cX13_readLabel 116 = .ok (.aload_n 0, 1) := by decide +kernel
theorem dX13_readLabel_117 : decode cX13_readLabel 117 = .ok (.getfield 512, 3) := by decide +kernel
theorem dX13_readLabel_120 : decode cX13_readLabel 120 = .ok (.putfield 518, 3) := by decide +kernel
theorem dX13_readLabel_123 : decode cX13_readLabel 123 = .ok (.aload_n 0, 1) := by decide +kernel
theorem dX13_readLabel_124 : decode cX13_readLabel 124 = .ok (.getfield 23, 3) := by decide +kernel
theorem dX13_readLabel_127 : decode cX13_readLabel 127 = .ok (.aload_n 0, 1) := by decide +kernel
theorem dX13_readLabel_128 : decode cX13_readLabel 128 = .ok (.getfield 518, 3) := by decide +kernel
theorem dX13_readLabel_131 : decode cX13_readLabel 131 = .ok (.aload_n 0, 1) := by decide +kernel
theorem dX13_readLabel_132 : decode cX13_readLabel 132 = .ok (.getfield 400, 3) := by decide +kernel
theorem dX13_readLabel_135 : decode cX13_readLabel 135 = .ok (.iastore, 1) := by decide +kernel
theorem dX13_readLabel_136 : decode cX13_readLabel 136 = .ok (.aload_n 0, 1) := by decide +kernel
theorem dX13_readLabel_137 : decode cX13_readLabel 137 = .ok (.getfield 26, 3) := by decide +kernel
theorem dX13_readLabel_140 : decode cX13_readLabel 140 = .ok (.aload_n 0, 1) := by decide +kernel
theorem dX13_readLabel_141 : decode cX13_readLabel 141 = .ok (.getfield 518, 3) := by decide +kernel
theorem dX13_readLabel_144 : decode cX13_readLabel 144 = .ok (.aload_n 0, 1) := by decide +kernel
theorem dX13_readLabel_145 : decode cX13_readLabel 145 = .ok (.getfield 421, 3) := by decide +kernel
theorem dX13_readLabel_148 : decode cX13_readLabel 148 = .ok (.iastore, 1) := by decide +kernel
theorem dX13_readLabel_149 : decode cX13_readLabel 149 = .ok (.aload_n 0, 1) := by decide +kernel
theorem dX13_readLabel_150 : decode cX13_readLabel 150 = .ok (.aload_n 0, 1) := by decide +kernel
theorem dX13_readLabel_151 : decode cX13_readLabel 151 = .ok (.getfield 424, 3) := by decide +kernel
theorem dX13_readLabel_154 : decode cX13_readLabel 154 = .ok (.aload_n 0, 1) := by decide +kernel
theorem dX13_readLabel_155 : decode cX13_readLabel 155 = .ok (.getfield 421, 3) := by decide +kernel
theorem dX13_readLabel_158 : decode cX13_readLabel 158 = .ok (.invokevirtual 481, 3) := by decide +kernel
theorem dX13_readLabel_161 : decode cX13_readLabel 161 = .ok (.aload_n 0, 1) := by decide +kernel
theorem dX13_readLabel_162 : decode cX13_readLabel 162 = .ok (.aload_n 0, 1) := by decide +kernel
theorem dX13_readLabel_163 : decode cX13_readLabel 163 = .ok (.getfield 518, 3) := by decide +kernel
theorem dX13_readLabel_166 : decode cX13_readLabel 166 = .ok (.invokevirtual 521, 3) := by decide +kernel
theorem dX13_readLabel_169 : decode cX13_readLabel 169 = .ok (.aload_n 0, 1) := by decide +kernel
theorem dX13_readLabel_170 : decode cX13_readLabel 170 = .ok (.getfield 54, 3) := by decide +kernel
theorem dX13_readLabel_173 : decode cX13_readLabel 173 = .ok (.aload_n 0, 1) := by decide +kernel
theorem dX13_readLabel_174 : decode cX13_readLabel 174 = .ok (.getfield 518, 3) := by decide +kernel
theorem dX13_readLabel_177 : decode cX13_readLabel 177 = .ok (.aload_n 0, 1) := by decide +kernel
theorem dX13_readLabel_178 : decode cX13_readLabel 178 = .ok (.getfield 524, 3) := by decide +kernel
theorem dX13_readLabel_181 : decode cX13_readLabel 181 = .ok (.iastore, 1) := by decide +kernel
theorem dX13_readLabel_182 : decode cX13_readLabel 182 = .ok (.aload_n 0, 1) := by decide +kernel
theorem dX13_readLabel_183 : decode cX13_readLabel 183 = .ok (.getfield 57, 3) := by decide +kernel
theorem dX13_readLabel_186 : decode cX13_readLabel 186 = .ok (.aload_n 0, 1) := by decide +kernel
theorem dX13_readLabel_187 : decode cX13_readLabel 187 = .ok (.getfield 518, 3) := by decide +kernel
theorem dX13_readLabel_190 : decode cX13_readLabel 190 = .ok (.iconst 0, 1) := by decide +kernel
theorem dX13_readLabel_191 : decode cX13_readLabel 191 = .ok (.iastore, 1) := by decide +kernel
theorem dX13_readLabel_192 : decode cX13_readLabel 192 = .ok (.aload_n 0, 1) := by decide +kernel
theorem dX13_readLabel_193 : decode cX13_readLabel 193 = .ok (.getfield 66, 3) := by decide +kernel
theorem dX13_readLabel_196 : decode cX13_readLabel 196 = .ok (.aload_n 0, 1) := by decide +kernel
theorem dX13_readLabel_197 : decode cX13_readLabel 197 = .ok (.getfield 518, 3) := by decide +kernel
theorem dX13_readLabel_200 : decode cX13_readLabel 200 = .ok (.aload_n 0, 1) := by decide +kernel
theorem dX13_readLabel_201 : decode cX13_readLabel 201 = .ok (.getfield 527, 3) := by decide +kernel
theorem dX13_readLabel_204 : decode cX13_readLabel 204 = .ok (.iastore, 1) := by decide +kernel
theorem dX13_readLabel_205 : decode cX13_readLabel 205 = .ok (.aload_n 0, 1) := by decide +kernel
theorem dX13_readLabel_206 : decode cX13_readLabel 206 = .ok (.getfield 69, 3) := by decide +kernel
theorem dX13_readLabel_209 : decode cX13_readLabel 209 = .ok (.aload_n 0, 1) := by decide +kernel
theorem dX13_readLabel_210 : decode cX13_readLabel 210 = .ok (.getfield 518, 3) := by decide +kernel
theorem dX13_readLabel_213 : decode cX13_readLabel 213 = .ok (.iconst 0, 1) := by decide +kernel
theorem dX13_readLabel_214 : decode cX13_readLabel 214 = .ok (.iastore, 1) := by decide +kernel
theorem dX13_readLabel_215 : decode cX13_readLabel 215 = .ok (.aload_n 0, 1) := by decide +kernel
theorem dX13_readLabel_216 : decode cX13_readLabel 216 = .ok (.getfield 76, 3) := by decide +kernel
theorem dX13_readLabel_219 : decode cX13_readLabel 219 = .ok (.aload_n 0, 1) := by decide +kernel
theorem dX13_readLabel_220 : decode cX13_readLabel 220 = .ok (.getfield 518, 3) := by decide +kernel
theorem dX13_readLabel_223 : decode cX13_readLabel 223 = .ok (.aload_n 0, 1) := by decide +kernel
theorem dX13_readLabel_224 : decode cX13_readLabel 224 = .ok (.getfield 530, 3) := by decide +kernel
theorem dX13_readLabel_227 : decode cX13_readLabel 227 = .ok (.iastore, 1) := by decide +kernel
theorem dX13_readLabel_228 : decode cX13_readLabel 228 = .ok (.aload_n 0, 1) := by decide +kernel
theorem dX13_readLabel_229 : decode cX13_readLabel 229 = .ok (.getfield 79, 3) := by decide +kernel
theorem dX13_readLabel_232 : decode cX13_readLabel 232 = .ok (.aload_n 0, 1) := by decide +kernel
theorem dX13_readLabel_233 : decode cX13_readLabel 233 = .ok (.getfield 518, 3) := by decide +kernel
theorem dX13_readLabel_236 : decode cX13_readLabel 236 = .ok (.iconst 0, 1) := by decide +kernel
theorem dX13_readLabel_237 : decode cX13_readLabel 237 = .ok (.iastore, 1) := by decide +kernel
theorem dX13_readLabel_238 : decode cX13_readLabel 238 = .ok (.aload_n 0, 1) := by decide +kernel
theorem dX13_readLabel_239 : decode cX13_readLabel 239 = .ok (.getfield 88, 3) := by decide +kernel
theorem dX13_readLabel_242 : decode cX13_readLabel 242 = .ok (.aload_n 0, 1) := by decide +kernel
theorem dX13_readLabel_243 : decode cX13_readLabel 243 = .ok (.getfield 518, 3) := by decide +kernel
theorem dX13_readLabel_246 : decode cX13_readLabel 246 = .ok (.aload_n 0, 1) := by decide +kernel
theorem dX13_readLabel_247 : decode cX13_readLabel 247 = .ok (.getfield 533, 3) := by decide +kernel
theorem dX13_readLabel_250 : decode cX13_readLabel 250 = .ok (.iastore, 1) := by decide +kernel
theorem dX13_readLabel_251 : decode cX13_readLabel 251 = .ok (.aload_n 0, 1) := by decide +kernel
theorem dX13_readLabel_252 : decode cX13_readLabel 252 = .ok (.getfield 91, 3) := by decide +kernel
theorem dX13_readLabel_255 : decode cX13_readLabel 255 = .ok (.aload_n 0, 1) := by decide +kernel
theorem dX13_readLabel_256 : decode cX13_readLabel 256 = .ok (.getfield 518, 3) := by decide +kernel
theorem dX13_readLabel_259 : decode cX13_readLabel 259 = .ok (.iconst 0, 1) := by decide +kernel
theorem dX13_readLabel_260 : decode cX13_readLabel 260 = .ok (.iastore, 1) := by decide +kernel
theorem dX13_readLabel_261 : decode cX13_readLabel 261 = .ok (.iconst 0, 1) := by decide +kernel
theorem dX13_readLabel_262 : decode cX13_readLabel 262 = .ok (.istore_n 1, 1) := by decide +kernel
theorem dX13_readLabel_263 : decode cX13_readLabel 263 = .ok (.iload_n 1, 1) := by decide +kernel
theorem dX13_readLabel_264 : decode cX13_readLabel 264 = .ok (.bipush 24, 2) := by decide +kernel
theorem dX13_readLabel_266 : decode cX13_readLabel 266 = .ok (.if_icmp .ge 24, 3) := by decide +kernel
theorem dX13_readLabel_269 : decode cX13_readLabel 269 = .ok (.aload_n 0, 1) := by decide +kernel
theorem dX13_readLabel_270 : decode cX13_readLabel 270 = .ok (.getfield 104, 3) := by decide +kernel
theorem dX13_readLabel_273 : decode cX13_readLabel 273 = .ok (.bipush 24, 2) := by decide +kernel
theorem dX13_readLabel_275 : decode cX13_readLabel 275 = .ok (.aload_n 0, 1) := by decide +kernel
theorem dX13_readLabel_276 : decode cX13_readLabel 276 = .ok (.getfield 518, 3) := by decide +kernel
theorem dX13_readLabel_279 : decode cX13_readLabel 279 = .ok (.imul, 1) := by decide +kernel
theorem dX13_readLabel_280 : decode cX13_readLabel 280 = .ok (.iload_n 1, 1) := by decide +kernel
theorem dX13_readLabel_281 : decode cX13_readLabel 281 = .ok (.iadd, 1) := by decide +kernel
theorem dX13_readLabel_282 : decode cX13_readLabel 282 = .ok (.lconst 0, 1) := by decide +kernel
theorem dX13_readLabel_283 : decode cX13_readLabel 283 = .ok (.lastore, 1) := by decide +kernel
theorem dX13_readLabel_284 : decode cX13_readLabel 284 = .ok (.iinc 1 1, 3) := by decide +kernel
theorem dX13_readLabel_287 : decode cX13_readLabel 287 = .ok (.goto (-24), 3) := by decide +kernel
theorem dX13_readLabel_290 : decode cX13_readLabel 290 = .ok (.return_, 1) := by decide +kernel
theorem dX13_readFirst_0 : decode cX13_readFirst 0 = .ok (.aload_n 0, 1) := by decide +kernel
theorem dX13_readFirst_1 : decode cX13_readFirst 1 = .ok (.getfield 452, 3) := by decide +kernel
theorem dX13_readFirst_4 : decode cX13_readFirst 4 = .ok (.iconst 1, 1) := by decide +kernel
theorem dX13_readFirst_5 : decode cX13_readFirst 5 = .ok (.if_icmp .eq 9, 3) := by decide +kernel
theorem dX13_readFirst_8 : decode cX13_readFirst 8 = .ok (.aload_n 0, 1) := by decide +kernel
theorem dX13_readFirst_9 : decode cX13_readFirst 9 = .ok (.iconst 4, 1) := by decide +kernel
theorem dX13_readFirst_10 : decode cX13_readFirst 10 = .ok (.invokevirtual 474, 3) := by decide +kernel
theorem dX13_readFirst_13 : decode cX13_readFirst 13 = .ok (.return_, 1) := by decide +kernel
theorem dX13_readFirst_14 : decode cX13_readFirst 14 = .ok (.aload_n 0, 1) := by decide +kernel
theorem dX13_readFirst_15 : decode cX13_readFirst 15 = .ok (.invokevirtual 467, 3) := by decide +kernel
theorem dX13_readFirst_18 : decode cX13_readFirst 18 = .ok (.istore_n 1, 1) := by decide +kernel
theorem dX13_readFirst_19 : decode cX13_readFirst 19 = .ok (.iload_n 1, 1) := by decide +kernel
theorem dX13_readFirst_20 : decode cX13_readFirst 20 = .ok (.iconst (-1), 1) := by decide +kernel
theorem dX13_readFirst_21 : decode cX13_readFirst 21 = .ok (.if_icmp .eq 16, 3) := by decide +kernel
theorem dX13_readFirst_24 : decode cX13_readFirst 24 = .ok (.aload_n 0, 1) := by decide +kernel
theorem dX13_readFirst_25 : decode cX13_readFirst 25 = .ok (.getfield 35, 3) := by decide +kernel
theorem dX13_readFirst_28 : decode cX13_readFirst 28 = .ok (.iload_n 1, 1) := by decide +kernel
theorem dX13_readFirst_29 : decode cX13_readFirst 29 = .ok (.baload, 1) := by decide +kernel
theorem dX13_readFirst_30 : decode cX13_readFirst 30 = .ok (.ifCond .ne 7, 3) := by decide +kernel
theorem dX13_readFirst_33 : decode cX13_readFirst 33 = .ok (.iconst 1, 1) := by decide +kernel
theorem dX13_readFirst_34 : decode cX13_readFirst 34 = .ok (.goto 4, 3) := by decide +kernel
theorem dX13_readFirst_37 : decode cX13_readFirst 37 = .ok (.iconst 0, 1) := by decide +kernel
theorem dX13_readFirst_38 : decode cX13_readFirst 38 = .ok (.istore_n 2, 1) := by decide +kernel
theorem dX13_readFirst_39 : decode cX13_readFirst 39 = .ok (.aload_n 0, 1) := by decide +kernel
theorem dX13_readFirst_40 : decode cX13_readFirst 40 = .ok (.getfield 524, 3) := by decide +kernel
theorem dX13_readFirst_43 : decode cX13_readFirst 43 = .ok (.sipush 30000, 3) := by decide +kernel
theorem dX13_readFirst_46 : decode cX13_readFirst 46 = .ok (.if_icmp .eq 25, 3) := by decide +kernel
theorem dX13_readFirst_49 : decode cX13_readFirst 49 = .ok (.iload_n 2, 1) := by decide +kernel
theorem dX13_readFirst_50 : decode cX13_readFirst 50 = .ok (.ifCond .eq 29, 3) := by decide +kernel
theorem dX13_readFirst_53 : decode cX13_readFirst 53 = .ok (.aload_n 0, 1) := by decide +kernel
theorem dX13_readFirst_54 : decode cX13_readFirst 54 = .ok (.getfield 48, 3) := by decide +kernel
theorem dX13_readFirst_57 : decode cX13_readFirst 57 = .ok (.iload_n 1, 1) := by decide +kernel
theorem dX13_readFirst_58 : decode cX13_readFirst 58 = .ok (.baload, 1) := by decide +kernel
theorem dX13_readFirst_59 : decode cX13_readFirst 59 = .ok (.ifCond .ne 20, 3) := by decide +kernel
theorem dX13_readFirst_62 : decode cX13_readFirst 62 = .ok (.aload_n 0, 1) := by decide +kernel
theorem dX13_readFirst_63 : decode cX13_readFirst 63 = .ok (.getfield 536, 3) := by decide +kernel
theorem dX13_readFirst_66 : decode cX13_readFirst 66 = .ok (.bipush 100, 2) := by decide +kernel
theorem dX13_readFirst_68 : decode cX13_readFirst 68 = .ok (.if_icmp .ne 11, 3) := by decide +kernel
theorem dX13_readFirst_71 : decode cX13_readFirst 71 = .ok (.aload_n 0, 1) := by decide +kernel
theorem dX13_readFirst_72 : decode cX13_readFirst 72 = .ok (.iconst 5, 1) := by decide +kernel
theorem dX13_readFirst_73 : decode cX13_readFirst 73 = .ok (.invokevirtual 474, 3) := by decide +kernel
theorem dX13_readFirst_76 : decode cX13_readFirst 76 = .ok (.goto 84, 3) := by decide +kernel
theorem dX13_readFirst_79 : decode cX13_readFirst 79 = .ok (.iload_n 1, 1) := by decide +kernel
theorem dX13_readFirst_80 : decode cX13_readFirst 80 = .ok (.iconst (-1), 1) := by decide +kernel
theorem dX13_readFirst_81 : decode cX13_readFirst 81 = .ok (.if_icmp .eq 21, 3) := by decide +kernel
theorem dX13_readFirst_84 : decode cX13_readFirst 84 = .ok (.aload_n 0, 1) := by decide +kernel
theorem dX13_readFirst_85 : decode cX13_readFirst 85 = .ok (.getfield 35, 3) := by decide +kernel
theorem dX13_readFirst_88 : decode cX13_readFirst 88 = .ok (.iload_n 1, 1) := by decide +kernel
theorem dX13_readFirst_89 : decode cX13_readFirst 89 = .ok (.baload, 1) := by decide +kernel
theorem dX13_readFirst_90 : decode cX13_readFirst 90 = .ok (.ifCond .eq 21, 3) := by decide +kernel
theorem dX13_readFirst_93 : decode cX13_readFirst 93 = .ok (.aload_n 0, 1) := by decide +kernel
theorem dX13_readFirst_94 : decode cX13_readFirst 94 = .ok (.getfield 39, 3) := by decide +kernel
theorem dX13_readFirst_97 : decode cX13_readFirst 97 = .ok (.iload_n 1, 1) := by decide +kernel
theorem dX13_readFirst_98 : decode cX13_readFirst 98 = .ok (.baload, 1) := by decide +kernel
theorem dX13_readFirst_99 : decode cX13_readFirst 99 = .ok (.ifCond .ne 12, 3) := by decide +kernel
theorem dX13_readFirst_102 : decode cX13_readFirst 102 = .ok (.aload_n 0, 1) := by decide +kernel
theorem dX13_readFirst_103 : decode cX13_readFirst 103 = .ok (.bipush 9, 2) := by decide +kernel
theorem dX13_readFirst_105 : decode cX13_readFirst 105 = .ok (.invokevirtual 474, 3) := by decide +kernel
theorem dX13_readFirst_108 : decode cX13_readFirst 108 = .ok (.goto 52, 3) := by decide +kernel
theorem dX13_readFirst_111 : decode cX13_readFirst 111 = .ok (.iload_n 2, 1) := by decide +kernel
theorem dX13_readFirst_112 : decode cX13_readFirst 112 = .ok (.ifCond .ne 12, 3) := by decide +kernel
theorem dX13_readFirst_115 : decode cX13_readFirst 115 = .ok (.aload_n 0, 1) := by decide +kernel
theorem dX13_readFirst_116 : decode cX13_readFirst 116 = .ok (.bipush 10, 2) := by decide +kernel
theorem dX13_readFirst_118 : decode cX13_readFirst 118 = .ok (.invokevirtual 474, 3) := by decide +kernel
theorem dX13_readFirst_121 : decode cX13_readFirst 121 = .ok (.goto 39, 3) := by decide +kernel
theorem dX13_readFirst_124 : decode cX13_readFirst 124 = .ok (.aload_n 0, 1) := by decide +kernel
theorem dX13_readFirst_125 : decode cX13_readFirst 125 = .ok (.dup, 1) := by decide +kernel
theorem dX13_readFirst_126 : decode cX13_readFirst 126 = .ok (.getfield 536, 3) := by decide +kernel
theorem dX13_readFirst_129 : decode cX13_readFirst 129 = .ok (.aload_n 0, 1) := by decide +kernel
theorem dX13_readFirst_130 : decode cX13_readFirst 130 = .ok (.getfield 48, 3) := by decide +kernel
theorem dX13_readFirst_133 : decode cX13_readFirst 133 = .ok (.iload_n 1, 1) := by decide +kernel
theorem dX13_readFirst_134 : decode cX13_readFirst 134 = .ok (.baload, 1) := by decide +kernel
theorem dX13_readFirst_135 : decode cX13_readFirst 135 = .ok (.ifCond .eq 7, 3) := by decide +kernel
theorem dX13_readFirst_138 : decode cX13_readFirst 138 = .ok (.iconst 0, 1) := by decide +kernel
theorem dX13_readFirst_139 : decode cX13_readFirst 139 = .ok (.goto 4, 3) := by decide +kernel
theorem dX13_readFirst_142 : decode cX13_readFirst 142 = .ok (.iconst 1, 1) := by decide +kernel
theorem dX13_readFirst_143 : decode cX13_readFirst 143 = .ok (.iadd, 1) := by decide +kernel
theorem dX13_readFirst_144 : decode cX13_readFirst 144 = .ok (.putfield 536, 3) := by decide +kernel
theorem dX13_readFirst_147 : decode cX13_readFirst 147 = .ok (.aload_n 0, 1) := by decide +kernel
theorem dX13_readFirst_148 : decode cX13_readFirst 148 = .ok (.getfield 48, 3) := by decide +kernel
theorem dX13_readFirst_151 : decode cX13_readFirst 151 = .ok (.iload_n 1, 1) := by decide +kernel
theorem dX13_readFirst_152 : decode cX13_readFirst 152 = .ok (.iconst 1, 1) := by decide +kernel
theorem dX13_readFirst_153 : decode cX13_readFirst 153 = .ok (.bastore, 1) := by decide +kernel
theorem dX13_readFirst_154 : decode cX13_readFirst 154 = .ok (.aload_n 0, 1) := by decide +kernel
theorem dX13_readFirst_155 : decode cX13_readFirst 155 = .ok (.iload_n 1, 1) := by decide +kernel
theorem dX13_readFirst_156 : decode cX13_readFirst 156 = .ok (.iconst (-1), 1) := by decide +kernel
theorem dX13_readFirst_157 : decode cX13_readFirst 157 = .ok (.invokevirtual 539, 3) := by decide +kernel
theorem dX13_readFirst_160 : decode cX13_readFirst 160 = .ok (.return_, 1) := by decide +kernel
theorem dX13_addSymbol_0 : decode cX13_addSymbol 0 = .ok (.aload_n 0, 1) := by decide +kernel
theorem dX13_addSymbol_1 : decode cX13_addSymbol 1 = .ok (.getfield 60, 3) := by decide +kernel
theorem dX13_addSymbol_4 : decode cX13_addSymbol 4 = .ok (.aload_n 0, 1) := by decide +kernel
theorem dX13_addSymbol_5 : decode cX13_addSymbol 5 = .ok (.getfield 524, 3) := by decide +kernel
theorem dX13_addSymbol_8 : decode cX13_addSymbol 8 = .ok (.iload_n 1, 1) := by decide +kernel
theorem dX13_addSymbol_9 : decode cX13_addSymbol 9 = .ok (.iastore, 1) := by decide +kernel
theorem dX13_addSymbol_10 : decode cX13_addSymbol 10 = .ok (.aload_n 0, 1) := by decide +kernel
theorem dX13_addSymbol_11 : decode cX13_addSymbol 11 = .ok (.getfield 63, 3) := by decide +kernel
theorem dX13_addSymbol_14 : decode cX13_addSymbol 14 = .ok (.aload_n 0, 1) := by decide +kernel
theorem dX13_addSymbol_15 : decode cX13_addSymbol 15 = .ok (.getfield 524, 3) := by decide +kernel
theorem dX13_addSymbol_18 : decode cX13_addSymbol 18 = .ok (.iload_n 2, 1) := by decide +kernel
theorem dX13_addSymbol_19 : decode cX13_addSymbol 19 = .ok (.iastore, 1) := by decide +kernel
theorem dX13_addSymbol_20 : decode cX13_addSymbol 20 = .ok (.aload_n 0, 1) := by decide +kernel
theorem dX13_addSymbol_21 : decode cX13_addSymbol 21 = .ok (.dup, 1) := by decide +kernel
theorem dX13_addSymbol_22 : decode cX13_addSymbol 22 = .ok (.getfield 524, 3) := by decide +kernel
theorem dX13_addSymbol_25 : decode cX13_addSymbol 25 = .ok (.iconst 1, 1) := by decide +kernel
theorem dX13_addSymbol_26 : decode cX13_addSymbol 26 = .ok (.iadd, 1) := by decide +kernel
theorem dX13_addSymbol_27 : decode cX13_addSymbol 27 = .ok (.putfield 524, 3) := by decide +kernel
theorem dX13_addSymbol_30 : decode cX13_addSymbol 30 = .ok (.aload_n 0, 1) := by decide +kernel
theorem dX13_addSymbol_31 : decode cX13_addSymbol 31 = .ok (.getfield 57, 3) := by decide +kernel
theorem dX13_addSymbol_34 : decode cX13_addSymbol 34 = .ok (.aload_n 0, 1) := by decide +kernel
theorem dX13_addSymbol_35 : decode cX13_addSymbol 35 = .ok (.getfield 518, 3) := by decide +kernel
theorem dX13_addSymbol_38 : decode cX13_addSymbol 38 = .ok (.dup2, 1) := by decide +kernel
theorem dX13_addSymbol_39 : decode cX13_addSymbol 39 = .ok (.iaload, 1) := by decide +kernel
theorem dX13_addSymbol_40 : decode cX13_addSymbol 40 = .ok (.iconst 1, 1) := by decide +kernel
theorem dX13_addSymbol_41 : decode cX13_addSymbol 41 = .ok (.iadd, 1) := by decide +kernel
theorem dX13_addSymbol_42 : decode cX13_addSymbol 42 = .ok (.iastore, 1) := by decide +kernel
theorem dX13_addSymbol_43 : decode cX13_addSymbol 43 = .ok (.return_, 1) := by decide +kernel
theorem dX13_readFloating_0 : decode cX13_readFloating 0 = .ok (.aload_n 0, 1) := by decide +kernel
theorem dX13_readFloating_1 : decode cX13_readFloating 1 = .ok (.invokevirtual 490, 3) := by decide +kernel
theorem dX13_readFloating_4 : decode cX13_readFloating 4 = .ok (.aload_n 0, 1) := by decide +kernel
theorem dX13_readFloating_5 : decode cX13_readFloating 5 = .ok (.getfield 418, 3) := by decide +kernel
theorem dX13_readFloating_8 : decode cX13_readFloating 8 = .ok (.ifCond .ne 7, 3) := by decide +kernel
theorem dX13_readFloating_11 : decode cX13_readFloating 11 = .ok (.aload_n 0, 1) := by decide +kernel
theorem dX13_readFloating_12 : decode cX13_readFloating 12 = .ok (.invokevirtual 542, 3) := by decide +kernel
theorem dX13_readFloating_15 : decode cX13_readFloating 15 = .ok (.aload_n 0, 1) := by decide +kernel
theorem dX13_readFloating_16 : decode cX13_readFloating 16 = .ok (.getfield 418, 3) := by decide +kernel
theorem dX13_readFloating_19 : decode cX13_readFloating 19 = .ok (.ifCond .le 4, 3) := by decide +kernel
theorem dX13_readFloating_22 : decode cX13_readFloating 22 = .ok (.return_, 1) := by decide +kernel
theorem dX13_readFloating_23 : decode cX13_readFloating 23 = .ok (.aload_n 0, 1) := by decide +kernel
theorem dX13_readFloating_24 : decode cX13_readFloating 24 = .ok (.invokevirtual 490, 3) := by decide +kernel
theorem dX13_readFloating_27 : decode cX13_readFloating 27 = .ok (.aload_n 0, 1) := by decide +kernel
theorem dX13_readFloating_28 : decode cX13_readFloating 28 = .ok (.getfield 418, 3) := by decide +kernel
theorem dX13_readFloating_31 : decode cX13_readFloating 31 = .ok (.ifCond .ne 16, 3) := by decide +kernel
theorem dX13_readFloating_34 : decode cX13_readFloating 34 = .ok (.aload_n 0, 1) := by decide +kernel
theorem dX13_readFloating_35 : decode cX13_readFloating 35 = .ok (.getfield 452, 3) := by decide +kernel
theorem dX13_readFloating_38 : decode cX13_readFloating 38 = .ok (.iconst 1, 1) := by decide +kernel
theorem dX13_readFloating_39 : decode cX13_readFloating 39 = .ok (.if_icmp .eq 8, 3) := by decide +kernel
theorem dX13_readFloating_42 : decode cX13_readFloating 42 = .ok (.aload_n 0, 1) := by decide +kernel
theorem dX13_readFloating_43 : decode cX13_readFloating 43 = .ok (.iconst 4, 1) := by decide +kernel
theorem dX13_readFloating_44 : decode cX13_readFloating 44 = .ok (.invokevirtual 474, 3) := by decide +kernel
theorem dX13_readFloating_47 : decode cX13_readFloating 47 = .ok (.aload_n 0, 1) := by decide +kernel
theorem dX13_readFloating_48 : decode cX13_readFloating 48 = .ok (.getfield 418, 3) := by decide +kernel
theorem dX13_readFloating_51 : decode cX13_readFloating 51 = .ok (.ifCond .le 4, 3) := by decide +kernel
theorem dX13_readFloating_54 : decode cX13_readFloating 54 = .ok (.return_, 1) := by decide +kernel
theorem dX13_readFloating_55 : decode cX13_readFloating 55 = .ok (.aload_n 0, 1) := by decide +kernel
theorem dX13_readFloating_56 : decode cX13_readFloating 56 = .ok (.invokevirtual 467, 3) := by decide +kernel
theorem dX13_readFloating_59 : decode cX13_readFloating 59 = .ok (.istore_n 1, 1) := by decide +kernel
theorem dX13_readFloating_60 : decode cX13_readFloating 60 = .ok (.aload_n 0, 1) := by decide +kernel
theorem dX13_readFloating_61 : decode cX13_readFloating 61 = .ok (.getfield 60, 3) := by decide +kernel
theorem dX13_readFloating_64 : decode cX13_readFloating 64 = .ok (.aload_n 0, 1) := by decide +kernel
theorem dX13_readFloating_65 : decode cX13_readFloating 65 = .ok (.getfield 54, 3) := by decide +kernel
theorem dX13_readFloating_68 : decode cX13_readFloating 68 = .ok (.aload_n 0, 1) := by decide +kernel
theorem dX13_readFloating_69 : decode cX13_readFloating 69 = .ok (.getfield 518, 3) := by decide +kernel
theorem dX13_readFloating_72 : decode cX13_readFloating 72 = .ok (.iaload, 1) := by decide +kernel
theorem dX13_readFloating_73 : decode cX13_readFloating 73 = .ok (.iaload, 1) := by decide +kernel
theorem dX13_readFloating_74 : decode cX13_readFloating 74 = .ok (.istore_n 2, 1) := by decide +kernel
theorem dX13_readFloating_75 : decode cX13_readFloating 75 = .ok (.aload_n 0, 1) := by decide +kernel
theorem dX13_readFloating_76 : decode cX13_readFloating 76 = .ok (.getfield 524, 3) := by decide +kernel
theorem dX13_readFloating_79 : decode cX13_readFloating 79 = .ok (.sipush 30000, 3) := by decide +kernel
theorem dX13_readFloating_82 : decode cX13_readFloating 82 = .ok (.if_icmp .ne 11, 3) := by decide +kernel
theorem dX13_readFloating_85 : decode cX13_readFloating 85 = .ok (.aload_n 0, 1) := by decide +kernel
theorem dX13_readFloating_86 : decode cX13_readFloating 86 = .ok (.iconst 5, 1) := by decide +kernel
theorem dX13_readFloating_87 : decode cX13_readFloating 87 = .ok (.invokevirtual 474, 3) := by decide +kernel
theorem dX13_readFloating_90 : decode cX13_readFloating 90 = .ok (.goto 121, 3) := by decide +kernel
theorem dX13_readFloating_93 : decode cX13_readFloating 93 = .ok (.iload_n 1, 1) := by decide +kernel
theorem dX13_readFloating_94 : decode cX13_readFloating 94 = .ok (.iconst (-1), 1) := by decide +kernel
theorem dX13_readFloating_95 : decode cX13_readFloating 95 = .ok (.if_icmp .eq 40, 3) := by decide +kernel
theorem dX13_readFloating_98 : decode cX13_readFloating 98 = .ok (.aload_n 0, 1) := by decide +kernel
theorem dX13_readFloating_99 : decode cX13_readFloating 99 = .ok (.getfield 35, 3) := by decide +kernel
theorem dX13_readFloating_102 : decode cX13_readFloating 102 = .ok (.iload_n 1, 1) := by decide +kernel
theorem dX13_readFloating_103 : decode cX13_readFloating 103 = .ok (.baload, 1) := by decide +kernel
theorem dX13_readFloating_104 : decode cX13_readFloating 104 = .ok (.ifCond .eq 31, 3) := by decide +kernel
theorem dX13_readFloating_107 : decode cX13_readFloating 107 = .ok (.aload_n 0, 1) := by decide +kernel
theorem dX13_readFloating_108 : decode cX13_readFloating 108 = .ok (.getfield 39, 3) := by decide +kernel
theorem dX13_readFloating_111 : decode cX13_readFloating 111 = .ok (.iload_n 1, 1) := by decide +kernel
theorem dX13_readFloating_112 : decode cX13_readFloating 112 = .ok (.baload, 1) := by decide +kernel
theorem dX13_readFloating_113 : decode cX13_readFloating 113 = .ok (.ifCond .eq 22, 3) := by decide +kernel
theorem dX13_readFloating_116 : decode cX13_readFloating 116 = .ok (.aload_n 0, 1) := by decide +kernel
theorem dX13_readFloating_117 : decode cX13_readFloating 117 = .ok (.getfield 45, 3) := by decide +kernel
theorem dX13_readFloating_120 : decode cX13_readFloating 120 = .ok (.iload_n 1, 1) := by decide +kernel
theorem dX13_readFloating_121 : decode cX13_readFloating 121 = .ok (.iaload, 1) := by decide +kernel
theorem dX13_readFloating_122 : decode cX13_readFloating 122 = .ok (.iconst (-1), 1) := by decide +kernel
theorem dX13_readFloating_123 : decode cX13_readFloating 123 = .ok (.if_icmp .eq 12, 3) := by decide +kernel
theorem dX13_readFloating_126 : decode cX13_readFloating 126 = .ok (.aload_n 0, 1) := by decide +kernel
theorem dX13_readFloating_127 : decode cX13_readFloating 127 = .ok (.bipush 7, 2) := by decide +kernel
theorem dX13_readFloating_129 : decode cX13_readFloating 129 = .ok (.invokevirtual 474, 3) := by decide +kernel
theorem dX13_readFloating_132 : decode cX13_readFloating 132 = .ok (.goto 79, 3) := by decide +kernel
theorem dX13_readFloating_135 : decode cX13_readFloating 135 = .ok (.iload_n 1, 1) := by decide +kernel
theorem dX13_readFloating_136 : decode cX13_readFloating 136 = .ok (.iconst (-1), 1) := by decide +kernel
theorem dX13_readFloating_137 : decode cX13_readFloating 137 = .ok (.if_icmp .eq 21, 3) := by decide +kernel
theorem dX13_readFloating_140 : decode cX13_readFloating 140 = .ok (.aload_n 0, 1) := by decide +kernel
theorem dX13_readFloating_141 : decode cX13_readFloating 141 = .ok (.getfield 35, 3) := by decide +kernel
theorem dX13_readFloating_144 : decode cX13_readFloating 144 = .ok (.iload_n 1, 1) := by decide +kernel
theorem dX13_readFloating_145 : decode cX13_readFloating 145 = .ok (.baload, 1) := by decide +kernel
theorem dX13_readFloating_146 : decode cX13_readFloating 146 = .ok (.ifCond .eq 21, 3) := by decide +kernel
theorem dX13_readFloating_149 : decode cX13_readFloating 149 = .ok (.aload_n 0, 1) := by decide +kernel
theorem dX13_readFloating_150 : decode cX13_readFloating 150 = .ok (.getfield 39, 3) := by decide +kernel
theorem dX13_readFloating_153 : decode cX13_readFloating 153 = .ok (.iload_n 1, 1) := by decide +kernel
theorem dX13_readFloating_154 : decode cX13_readFloating 154 = .ok (.baload, 1) := by decide +kernel
theorem dX13_readFloating_155 : decode cX13_readFloating 155 = .ok (.ifCond .ne 12, 3) := by decide +kernel
theorem dX13_readFloating_158 : decode cX13_readFloating 158 = .ok (.aload_n 0, 1) := by decide +kernel
theorem dX13_readFloating_159 : decode cX13_readFloating 159 = .ok (.bipush 9, 2) := by decide +kernel
theorem dX13_readFloating_161 : decode cX13_readFloating 161 = .ok (.invokevirtual 474, 3) := by decide +kernel
theorem dX13_readFloating_164 : decode cX13_readFloating 164 = .ok (.goto 47, 3) := by decide +kernel
theorem dX13_readFloating_167 : decode cX13_readFloating 167 = .ok (.aload_n 0, 1) := by decide +kernel
theorem dX13_readFloating_168 : decode cX13_readFloating 168 = .ok (.getfield 35, 3) := by decide +kernel
theorem dX13_readFloating_171 : decode cX13_readFloating 171 = .ok (.iload_n 1, 1) := by decide +kernel
theorem dX13_readFloating_172 : decode cX13_readFloating 172 = .ok (.baload, 1) := by decide +kernel
theorem dX13_readFloating_173 : decode cX13_readFloating 173 = .ok (.ifCond .ne 12, 3) := by decide +kernel
theorem dX13_readFloating_176 : decode cX13_readFloating 176 = .ok (.aload_n 0, 1) := by decide +kernel
theorem dX13_readFloating_177 : decode cX13_readFloating 177 = .ok (.bipush 10, 2) := by decide +kernel
theorem dX13_readFloating_179 : decode cX13_readFloating 179 = .ok (.invokevirtual 474, 3) := by decide +kernel
theorem dX13_readFloating_182 : decode cX13_readFloating 182 = .ok (.goto 29, 3) := by decide +kernel
theorem dX13_readFloating_185 : decode cX13_readFloating 185 = .ok (.aload_n 0, 1) := by decide +kernel
theorem dX13_readFloating_186 : decode cX13_readFloating 186 = .ok (.getfield 42, 3) := by decide +kernel
theorem dX13_readFloating_189 : decode cX13_readFloating 189 = .ok (.iload_n 1, 1) := by decide +kernel
theorem dX13_readFloating_190 : decode cX13_readFloating 190 = .ok (.iaload, 1) := by decide +kernel
theorem dX13_readFloating_191 : decode cX13_readFloating 191 = .ok (.iconst (-1), 1) := by decide +kernel
theorem dX13_readFloating_192 : decode cX13_readFloating 192 = .ok (.if_icmp .eq 19, 3) := by decide +kernel
theorem dX13_readFloating_195 : decode cX13_readFloating 195 = .ok (.aload_n 0, 1) := by decide +kernel
theorem dX13_readFloating_196 : decode cX13_readFloating 196 = .ok (.getfield 42, 3) := by decide +kernel
theorem dX13_readFloating_199 : decode cX13_readFloating 199 = .ok (.iload_n 1, 1) := by decide +kernel
theorem dX13_readFloating_200 : decode cX13_readFloating 200 = .ok (.iaload, 1) := by decide +kernel
theorem dX13_readFloating_201 : decode cX13_readFloating 201 = .ok (.iload_n 2, 1) := by decide +kernel
theorem dX13_readFloating_202 : decode cX13_readFloating 202 = .ok (.if_icmp .eq 9, 3) := by decide +kernel
theorem dX13_readFloating_205 : decode cX13_readFloating 205 = .ok (.aload_n 0, 1) := by decide +kernel
theorem dX13_readFloating_206 : decode cX13_readFloating 206 = .ok (.bipush 12, 2) := by decide +kernel
theorem dX13_readFloating_208 : decode cX13_readFloating 208 = .ok (.invokevirtual 474, 3) := by decide +kernel
theorem dX13_readFloating_211 : decode cX13_readFloating 211 = .ok (.aload_n 0, 1) := by decide +kernel
theorem dX13_readFloating_212 : decode cX13_readFloating 212 = .ok (.getfield 418, 3) := by decide +kernel
theorem dX13_readFloating_215 : decode cX13_readFloating 215 = .ok (.ifCond .le 4, 3) := by decide +kernel
theorem dX13_readFloating_218 : decode cX13_readFloating 218 = .ok (.return_, 1) := by decide +kernel
theorem dX13_readFloating_219 : decode cX13_readFloating 219 = .ok (.aload_n 0, 1) := by decide +kernel
theorem dX13_readFloating_220 : decode cX13_readFloating 220 = .ok (.iload_n 1, 1) := by decide +kernel
theorem dX13_readFloating_221 : decode cX13_readFloating 221 = .ok (.aload_n 0, 1) := by decide +kernel
theorem dX13_readFloating_222 : decode cX13_readFloating 222 = .ok (.getfield 518, 3) := by decide +kernel
theorem dX13_readFloating_225 : decode cX13_readFloating 225 = .ok (.invokevirtual 539, 3) := by decide +kernel
theorem dX13_readFloating_228 : decode cX13_readFloating 228 = .ok (.aload_n 0, 1) := by decide +kernel
theorem dX13_readFloating_229 : decode cX13_readFloating 229 = .ok (.invokevirtual 490, 3) := by decide +kernel
theorem dX13_readFloating_232 : decode cX13_readFloating 232 = .ok (.aload_n 0, 1) := by decide +kernel
theorem dX13_readFloating_233 : decode cX13_readFloating 233 = .ok (.getfield 418, 3) := by decide +kernel
theorem dX13_readFloating_236 : decode cX13_readFloating 236 = .ok (.ifCond .ne 17, 3) := by decide +kernel
theorem dX13_readFloating_239 : decode cX13_readFloating 239 = .ok (.aload_n 0, 1) := by decide +kernel
theorem dX13_readFloating_240 : decode cX13_readFloating 240 = .ok (.getfield 452, 3) := by decide +kernel
theorem dX13_readFloating_243 : decode cX13_readFloating 243 = .ok (.bipush 46, 2) := by decide +kernel
theorem dX13_readFloating_245 : decode cX13_readFloating 245 = .ok (.if_icmp .eq 8, 3) := by decide +kernel
theorem dX13_readFloating_248 : decode cX13_readFloating 248 = .ok (.aload_n 0, 1) := by decide +kernel
theorem dX13_readFloating_249 : decode cX13_readFloating 249 = .ok (.iconst 4, 1) := by decide +kernel
theorem dX13_readFloating_250 : decode cX13_readFloating 250 = .ok (.invokevirtual 474, 3) := by decide +kernel
theorem dX13_readFloating_253 : decode cX13_readFloating 253 = .ok (.aload_n 0, 1) := by decide +kernel
theorem dX13_readFloating_254 : decode cX13_readFloating 254 = .ok (.getfield 418, 3) := by decide +kernel
theorem dX13_readFloating_257 : decode cX13_readFloating 257 = .ok (.ifCond .ne 29, 3) := by decide +kernel
theorem dX13_readFloating_260 : decode cX13_readFloating 260 = .ok (.aload_n 0, 1) := by decide +kernel
theorem dX13_readFloating_261 : decode cX13_readFloating 261 = .ok (.getfield 42, 3) := by decide +kernel
theorem dX13_readFloating_264 : decode cX13_readFloating 264 = .ok (.iload_n 1, 1) := by decide +kernel
theorem dX13_readFloating_265 : decode cX13_readFloating 265 = .ok (.iload_n 2, 1) := by decide +kernel
theorem dX13_readFloating_266 : decode cX13_readFloating 266 = .ok (.iastore, 1) := by decide +kernel
theorem dX13_readFloating_267 : decode cX13_readFloating 267 = .ok (.aload_n 0, 1) := by decide +kernel
theorem dX13_readFloating_268 : decode cX13_readFloating 268 = .ok (.getfield 45, 3) := by decide +kernel
theorem dX13_readFloating_271 : decode cX13_readFloating 271 = .ok (.iload_n 1, 1) := by decide +kernel
theorem dX13_readFloating_272 : decode cX13_readFloating 272 = .ok (.aload_n 0, 1) := by decide +kernel
theorem dX13_readFloating_273 : decode cX13_readFloating 273 = .ok (.getfield 518, 3) := by decide +kernel
theorem dX13_readFloating_276 : decode cX13_readFloating 276 = .ok (.iastore, 1) := by decide +kernel
theorem dX13_readFloating_277 : decode cX13_readFloating 277 = .ok (.aload_n 0, 1) := by decide +kernel
theorem dX13_readFloating_278 : decode cX13_readFloating 278 = .ok (.iconst 0, 1) := by decide +kernel
theorem dX13_readFloating_279 : decode cX13_readFloating 279 = .ok (.invokevirtual 545, 3) := by decide +kernel
theorem dX13_readFloating_282 : decode cX13_readFloating 282 = .ok (.aload_n 0, 1) := by decide +kernel
theorem dX13_readFloating_283 : decode cX13_readFloating 283 = .ok (.invokevirtual 548, 3) := by decide +kernel
theorem dX13_readFloating_286 : decode cX13_readFloating 286 = .ok (.return_, 1) := by decide +kernel
theorem dX13_activate_0 : decode cX13_activate 0 = .ok (.aload_n 0, 1) := by decide +kernel
theorem dX13_activate_1 : decode cX13_activate 1 = .ok (.getfield 111, 3) := by decide +kernel
theorem dX13_activate_4 : decode cX13_activate 4 = .ok (.aload_n 0, 1) := by decide +kernel
theorem dX13_activate_5 : decode cX13_activate 5 = .ok (.getfield 408, 3) := by decide +kernel
theorem dX13_activate_8 : decode cX13_activate 8 = .ok (.aload_n 0, 1) := by decide +kernel
theorem dX13_activate_9 : decode cX13_activate 9 = .ok (.getfield 518, 3) := by decide +kernel
theorem dX13_activate_12 : decode cX13_activate 12 = .ok (.iastore, 1) := by decide +kernel
theorem dX13_activate_13 : decode cX13_activate 13 = .ok (.aload_n 0, 1) := by decide +kernel
theorem dX13_activate_14 : decode cX13_activate 14 = .ok (.dup, 1) := by decide +kernel
theorem dX13_activate_15 : decode cX13_activate 15 = .ok (.getfield 408, 3) := by decide +kernel
theorem dX13_activate_18 : decode cX13_activate 18 = .ok (.iconst 1, 1) := by decide +kernel
theorem dX13_activate_19 : decode cX13_activate 19 = .ok (.iadd, 1) := by decide +kernel
theorem dX13_activate_20 : decode cX13_activate 20 = .ok (.putfield 408, 3) := by decide +kernel
theorem dX13_activate_23 : decode cX13_activate 23 = .ok (.return_, 1) := by decide +kernel
theorem dX13_finish_0 : decode cX13_finish 0 = .ok (.aload_n 0, 1) := by decide +kernel
theorem dX13_finish_1 : decode cX13_finish 1 = .ok (.getfield 51, 3) := by decide +kernel
theorem dX13_finish_4 : decode cX13_finish 4 = .ok (.aload_n 0, 1) := by decide +kernel
theorem dX13_finish_5 : decode cX13_finish 5 = .ok (.getfield 518, 3) := by decide +kernel
theorem dX13_finish_8 : decode cX13_finish 8 = .ok (.iload_n 1, 1) := by decide +kernel
theorem dX13_finish_9 : decode cX13_finish 9 = .ok (.iastore, 1) := by decide +kernel
theorem dX13_finish_10 : decode cX13_finish 10 = .ok (.aload_n 0, 1) := by decide +kernel
theorem dX13_finish_11 : decode cX13_finish 11 = .ok (.dup, 1) := by decide +kernel
theorem dX13_finish_12 : decode cX13_finish 12 = .ok (.getfield 512, 3) := by decide +kernel
theorem dX13_finish_15 : decode cX13_finish 15 = .ok (.iconst 1, 1) := by decide +kernel
theorem dX13_finish_16 : decode cX13_finish 16 = .ok (.iadd, 1) := by decide +kernel
theorem dX13_finish_17 : decode cX13_finish 17 = .ok (.putfield 512, 3) := by decide +kernel
theorem dX13_finish_20 : decode cX13_finish 20 = .ok (.return_, 1) := by decide +kernel
theorem dX13_readSymbols_0 : decode cX13_readSymbols 0 = .ok (.aload_n 0, 1) := by decide +kernel
theorem dX13_readSymbols_1 : decode cX13_readSymbols 1 = .ok (.invokevirtual 490, 3) := by decide +kernel
theorem dX13_readSymbols_4 : decode cX13_readSymbols 4 = .ok (.aload_n 0, 1) := by decide +kernel
theorem dX13_readSymbols_5 : decode cX13_readSymbols 5 = .ok (.getfield 418, 3) := by decide +kernel
theorem dX13_readSymbols_8 : decode cX13_readSymbols 8 = .ok (.ifCond .ne 7, 3) := by decide +kernel
theorem dX13_readSymbols_11 : decode cX13_readSymbols 11 = .ok (.aload_n 0, 1) := by decide +kernel
theorem dX13_readSymbols_12 : decode cX13_readSymbols 12 = .ok (.invokevirtual 542, 3) := by decide +kernel
theorem dX13_readSymbols_15 : decode cX13_readSymbols 15 = .ok (.aload_n 0, 1) := by decide +kernel
theorem dX13_readSymbols_16 : decode cX13_readSymbols 16 = .ok (.getfield 418, 3) := by decide +kernel
theorem dX13_readSymbols_19 : decode cX13_readSymbols 19 = .ok (.ifCond .ne 7, 3) := by decide +kernel
theorem dX13_readSymbols_22 : decode cX13_readSymbols 22 = .ok (.aload_n 0, 1) := by decide +kernel
theorem dX13_readSymbols_23 : decode cX13_readSymbols 23 = .ok (.invokevirtual 490, 3) := by decide +kernel
theorem dX13_readSymbols_26 : decode cX13_readSymbols 26 = .ok (.aload_n 0, 1) := by decide +kernel
theorem dX13_readSymbols_27 : decode cX13_readSymbols 27 = .ok (.getfield 418, 3) := by decide +kernel
theorem dX13_readSymbols_30 : decode cX13_readSymbols 30 = .ok (.ifCond .ne 154, 3) := by decide +kernel
theorem dX13_readSymbols_33 : decode cX13_readSymbols 33 = .ok (.aload_n 0, 1) := by decide +kernel
theorem dX13_readSymbols_34 : decode cX13_readSymbols 34 = .ok (.getfield 452, 3) := by decide +kernel
theorem dX13_readSymbols_37 : decode cX13_readSymbols 37 = .ok (.iload_n 1, 1) := by decide +kernel
theorem dX13_readSymbols_38 : decode cX13_readSymbols 38 = .ok (.if_icmp .eq 146, 3) := by decide +kernel
theorem dX13_readSymbols_41 : decode cX13_readSymbols 41 = .ok (.aload_n 0, 1) := by decide +kernel
theorem dX13_readSymbols_42 : decode cX13_readSymbols 42 = .ok (.getfield 452, 3) := by decide +kernel
theorem dX13_readSymbols_45 : decode cX13_readSymbols 45 = .ok (.iconst 1, 1) := by decide +kernel
theorem dX13_readSymbols_46 : decode cX13_readSymbols 46 = .ok (.if_icmp .eq 9, 3) := by decide +kernel
theorem dX13_readSymbols_49 : decode cX13_readSymbols 49 = .ok (.aload_n 0, 1) := by decide +kernel
theorem dX13_readSymbols_50 : decode cX13_readSymbols 50 = .ok (.iconst 4, 1) := by decide +kernel
theorem dX13_readSymbols_51 : decode cX13_readSymbols 51 = .ok (.invokevirtual 474, 3) := by decide +kernel
theorem dX13_readSymbols_54 : decode cX13_readSymbols 54 = .ok (.return_, 1) := by decide +kernel
theorem dX13_readSymbols_55 : decode cX13_readSymbols 55 = .ok (.aload_n 0, 1) := by decide +kernel
theorem dX13_readSymbols_56 : decode cX13_readSymbols 56 = .ok (.invokevirtual 467, 3) := by decide +kernel
theorem dX13_readSymbols_59 : decode cX13_readSymbols 59 = .ok (.istore_n 2, 1) := by decide +kernel
theorem dX13_readSymbols_60 : decode cX13_readSymbols 60 = .ok (.aload_n 0, 1) := by decide +kernel
theorem dX13_readSymbols_61 : decode cX13_readSymbols 61 = .ok (.getfield 57, 3) := by decide +kernel
theorem dX13_readSymbols_64 : decode cX13_readSymbols 64 = .ok (.aload_n 0, 1) := by decide +kernel
theorem dX13_readSymbols_65 : decode cX13_readSymbols 65 = .ok (.getfield 518, 3) := by decide +kernel
theorem dX13_readSymbols_68 : decode cX13_readSymbols 68 = .ok (.iaload, 1) := by decide +kernel
theorem dX13_readSymbols_69 : decode cX13_readSymbols 69 = .ok (.sipush 300, 3) := by decide +kernel
theorem dX13_readSymbols_72 : decode cX13_readSymbols 72 = .ok (.if_icmp .eq 13, 3) := by decide +kernel
theorem dX13_readSymbols_75 : decode cX13_readSymbols 75 = .ok (.aload_n 0, 1) := by decide +kernel
theorem dX13_readSymbols_76 : decode cX13_readSymbols 76 = .ok (.getfield 524, 3) := by decide +kernel
theorem dX13_readSymbols_79 : decode cX13_readSymbols 79 = .ok (.sipush 30000, 3) := by decide +kernel
theorem dX13_readSymbols_82 : decode cX13_readSymbols 82 = .ok (.if_icmp .ne 11, 3) := by decide +kernel
theorem dX13_readSymbols_85 : decode cX13_readSymbols 85 = .ok (.aload_n 0, 1) := by decide +kernel
theorem dX13_readSymbols_86 : decode cX13_readSymbols 86 = .ok (.iconst 5, 1) := by decide +kernel
theorem dX13_readSymbols_87 : decode cX13_readSymbols 87 = .ok (.invokevirtual 474, 3) := by decide +kernel
theorem dX13_readSymbols_90 : decode cX13_readSymbols 90 = .ok (.goto 91, 3) := by decide +kernel
theorem dX13_readSymbols_93 : decode cX13_readSymbols 93 = .ok (.iload_n 2, 1) := by decide +kernel
theorem dX13_readSymbols_94 : decode cX13_readSymbols 94 = .ok (.iconst (-1), 1) := by decide +kernel
theorem dX13_readSymbols_95 : decode cX13_readSymbols 95 = .ok (.if_icmp .eq 21, 3) := by decide +kernel
theorem dX13_readSymbols_98 : decode cX13_readSymbols 98 = .ok (.aload_n 0, 1) := by decide +kernel
theorem dX13_readSymbols_99 : decode cX13_readSymbols 99 = .ok (.getfield 35, 3) := by decide +kernel
theorem dX13_readSymbols_102 : decode cX13_readSymbols 102 = .ok (.iload_n 2, 1) := by decide +kernel
theorem dX13_readSymbols_103 : decode cX13_readSymbols 103 = .ok (.baload, 1) := by decide +kernel
theorem dX13_readSymbols_104 : decode cX13_readSymbols 104 = .ok (.ifCond .eq 21, 3) := by decide +kernel
theorem dX13_readSymbols_107 : decode cX13_readSymbols 107 = .ok (.aload_n 0, 1) := by decide +kernel
theorem dX13_readSymbols_108 : decode cX13_readSymbols 108 = .ok (.getfield 39, 3) := by decide +kernel
theorem dX13_readSymbols_111 : decode cX13_readSymbols 111 = .ok (.iload_n 2, 1) := by decide +kernel
theorem dX13_readSymbols_112 : decode cX13_readSymbols 112 = .ok (.baload, 1) := by decide +kernel
theorem dX13_readSymbols_113 : decode cX13_readSymbols 113 = .ok (.ifCond .ne 12, 3) := by decide +kernel
theorem dX13_readSymbols_116 : decode cX13_readSymbols 116 = .ok (.aload_n 0, 1) := by decide +kernel
theorem dX13_readSymbols_117 : decode cX13_readSymbols 117 = .ok (.bipush 9, 2) := by decide +kernel
theorem dX13_readSymbols_119 : decode cX13_readSymbols 119 = .ok (.invokevirtual 474, 3) := by decide +kernel
theorem dX13_readSymbols_122 : decode cX13_readSymbols 122 = .ok (.goto 59, 3) := by decide +kernel
theorem dX13_readSymbols_125 : decode cX13_readSymbols 125 = .ok (.aload_n 0, 1) := by decide +kernel
theorem dX13_readSymbols_126 : decode cX13_readSymbols 126 = .ok (.getfield 35, 3) := by decide +kernel
theorem dX13_readSymbols_129 : decode cX13_readSymbols 129 = .ok (.iload_n 2, 1) := by decide +kernel
theorem dX13_readSymbols_130 : decode cX13_readSymbols 130 = .ok (.baload, 1) := by decide +kernel
theorem dX13_readSymbols_131 : decode cX13_readSymbols 131 = .ok (.ifCond .eq 22, 3) := by decide +kernel
theorem dX13_readSymbols_134 : decode cX13_readSymbols 134 = .ok (.aload_n 0, 1) := by decide +kernel
theorem dX13_readSymbols_135 : decode cX13_readSymbols 135 = .ok (.getfield 45, 3) := by decide +kernel
theorem dX13_readSymbols_138 : decode cX13_readSymbols 138 = .ok (.iload_n 2, 1) := by decide +kernel
theorem dX13_readSymbols_139 : decode cX13_readSymbols 139 = .ok (.iaload, 1) := by decide +kernel
theorem dX13_readSymbols_140 : decode cX13_readSymbols 140 = .ok (.iconst (-1), 1) := by decide +kernel
theorem dX13_readSymbols_141 : decode cX13_readSymbols 141 = .ok (.if_icmp .ne 12, 3) := by decide +kernel
theorem dX13_readSymbols_144 : decode cX13_readSymbols 144 = .ok (.aload_n 0, 1) := by decide +kernel
theorem dX13_readSymbols_145 : decode cX13_readSymbols 145 = .ok (.bipush 11, 2) := by decide +kernel
theorem dX13_readSymbols_147 : decode cX13_readSymbols 147 = .ok (.invokevirtual 474, 3) := by decide +kernel
theorem dX13_readSymbols_150 : decode cX13_readSymbols 150 = .ok (.goto 31, 3) := by decide +kernel
theorem dX13_readSymbols_153 : decode cX13_readSymbols 153 = .ok (.aload_n 0, 1) := by decide +kernel
theorem dX13_readSymbols_154 : decode cX13_readSymbols 154 = .ok (.iload_n 2, 1) := by decide +kernel
theorem dX13_readSymbols_155 : decode cX13_readSymbols 155 = .ok (.aload_n 0, 1) := by decide +kernel
theorem dX13_readSymbols_156 : decode cX13_readSymbols 156 = .ok (.getfield 35, 3) := by decide +kernel
theorem dX13_readSymbols_159 : decode cX13_readSymbols 159 = .ok (.iload_n 2, 1) := by decide +kernel
theorem dX13_readSymbols_160 : decode cX13_readSymbols 160 = .ok (.baload, 1) := by decide +kernel
theorem dX13_readSymbols_161 : decode cX13_readSymbols 161 = .ok (.ifCond .eq 12, 3) := by decide +kernel
theorem dX13_readSymbols_164 : decode cX13_readSymbols 164 = .ok (.aload_n 0, 1) := by decide +kernel
theorem dX13_readSymbols_165 : decode cX13_readSymbols 165 = .ok (.getfield 45, 3) := by decide +kernel
theorem dX13_readSymbols_168 : decode cX13_readSymbols 168 = .ok (.iload_n 2, 1) := by decide +kernel
theorem dX13_readSymbols_169 : decode cX13_readSymbols 169 = .ok (.iaload, 1) := by decide +kernel
theorem dX13_readSymbols_170 : decode cX13_readSymbols 170 = .ok (.goto 4, 3) := by decide +kernel
theorem dX13_readSymbols_173 : decode cX13_readSymbols 173 = .ok (.iconst (-1), 1) := by decide +kernel
theorem dX13_readSymbols_174 : decode cX13_readSymbols 174 = .ok (.invokevirtual 539, 3) := by decide +kernel
theorem dX13_readSymbols_177 : decode cX13_readSymbols 177 = .ok (.aload_n 0, 1) := by decide +kernel
theorem dX13_readSymbols_178 : decode cX13_readSymbols 178 = .ok (.invokevirtual 490, 3) := by decide +kernel
theorem dX13_readSymbols_181 : decode cX13_readSymbols 181 = .ok (.goto (-155), 3) := by decide +kernel
theorem dX13_readSymbols_184 : decode cX13_readSymbols 184 = .ok (.return_, 1) := by decide +kernel
theorem dX13_markOf_0 : decode cX13_markOf 0 = .ok (.aload_n 0, 1) := by decide +kernel
theorem dX13_markOf_1 : decode cX13_markOf 1 = .ok (.getfield 54, 3) := by decide +kernel
theorem dX13_markOf_4 : decode cX13_markOf 4 = .ok (.iload_n 1, 1) := by decide +kernel
theorem dX13_markOf_5 : decode cX13_markOf 5 = .ok (.iaload, 1) := by decide +kernel
theorem dX13_markOf_6 : decode cX13_markOf 6 = .ok (.istore_n 2, 1) := by decide +kernel
theorem dX13_markOf_7 : decode cX13_markOf 7 = .ok (.iload_n 2, 1) := by decide +kernel
theorem dX13_markOf_8 : decode cX13_markOf 8 = .ok (.aload_n 0, 1) := by decide +kernel
theorem dX13_markOf_9 : decode cX13_markOf 9 = .ok (.getfield 54, 3) := by decide +kernel
theorem dX13_markOf_12 : decode cX13_markOf 12 = .ok (.iload_n 1, 1) := by decide +kernel
theorem dX13_markOf_13 : decode cX13_markOf 13 = .ok (.iaload, 1) := by decide +kernel
theorem dX13_markOf_14 : decode cX13_markOf 14 = .ok (.aload_n 0, 1) := by decide +kernel
theorem dX13_markOf_15 : decode cX13_markOf 15 = .ok (.getfield 57, 3) := by decide +kernel
theorem dX13_markOf_18 : decode cX13_markOf 18 = .ok (.iload_n 1, 1) := by decide +kernel
theorem dX13_markOf_19 : decode cX13_markOf 19 = .ok (.iaload, 1) := by decide +kernel
theorem dX13_markOf_20 : decode cX13_markOf 20 = .ok (.iadd, 1) := by decide +kernel
theorem dX13_markOf_21 : decode cX13_markOf 21 = .ok (.if_icmp .ge 21, 3) := by decide +kernel
theorem dX13_markOf_24 : decode cX13_markOf 24 = .ok (.aload_n 0, 1) := by decide +kernel
theorem dX13_markOf_25 : decode cX13_markOf 25 = .ok (.getfield 135, 3) := by decide +kernel
theorem dX13_markOf_28 : decode cX13_markOf 28 = .ok (.aload_n 0, 1) := by decide +kernel
theorem dX13_markOf_29 : decode cX13_markOf 29 = .ok (.getfield 60, 3) := by decide +kernel
theorem dX13_markOf_32 : decode cX13_markOf 32 = .ok (.iload_n 2, 1) := by decide +kernel
theorem dX13_markOf_33 : decode cX13_markOf 33 = .ok (.iaload, 1) := by decide +kernel
theorem dX13_markOf_34 : decode cX13_markOf 34 = .ok (.iconst 1, 1) := by decide +kernel
theorem dX13_markOf_35 : decode cX13_markOf 35 = .ok (.bastore, 1) := by decide +kernel
theorem dX13_markOf_36 : decode cX13_markOf 36 = .ok (.iinc 2 1, 3) := by decide +kernel
theorem dX13_markOf_39 : decode cX13_markOf 39 = .ok (.goto (-32), 3) := by decide +kernel
theorem dX13_markOf_42 : decode cX13_markOf 42 = .ok (.return_, 1) := by decide +kernel
theorem dX13_makeFrame_0 : decode cX13_makeFrame 0 = .ok (.iconst 0, 1) := by decide +kernel
theorem dX13_makeFrame_1 : decode cX13_makeFrame 1 = .ok (.istore_n 1, 1) := by decide +kernel
theorem dX13_makeFrame_2 : decode cX13_makeFrame 2 = .ok (.iload_n 1, 1) := by decide +kernel
theorem dX13_makeFrame_3 : decode cX13_makeFrame 3 = .ok (.aload_n 0, 1) := by decide +kernel
theorem dX13_makeFrame_4 : decode cX13_makeFrame 4 = .ok (.getfield 471, 3) := by decide +kernel
theorem dX13_makeFrame_7 : decode cX13_makeFrame 7 = .ok (.if_icmp .ge 16, 3) := by decide +kernel
theorem dX13_makeFrame_10 : decode cX13_makeFrame 10 = .ok (.aload_n 0, 1) := by decide +kernel
theorem dX13_makeFrame_11 : decode cX13_makeFrame 11 = .ok (.getfield 135, 3) := by decide +kernel
theorem dX13_makeFrame_14 : decode cX13_makeFrame 14 = .ok (.iload_n 1, 1) := by decide +kernel
theorem dX13_makeFrame_15 : decode cX13_makeFrame 15 = .ok (.iconst 0, 1) := by decide +kernel
theorem dX13_makeFrame_16 : decode cX13_makeFrame 16 = .ok (.bastore, 1) := by decide +kernel
theorem dX13_makeFrame_17 : decode cX13_makeFrame 17 = .ok (.iinc 1 1, 3) := by decide +kernel
theorem dX13_makeFrame_20 : decode cX13_makeFrame 20 = .ok (.goto (-18), 3) := by decide +kernel
theorem dX13_makeFrame_23 : decode cX13_makeFrame 23 = .ok (.aload_n 0, 1) := by decide +kernel
theorem dX13_makeFrame_24 : decode cX13_makeFrame 24 = .ok (.aload_n 0, 1) := by decide +kernel
theorem dX13_makeFrame_25 : decode cX13_makeFrame 25 = .ok (.getfield 518, 3) := by decide +kernel
theorem dX13_makeFrame_28 : decode cX13_makeFrame 28 = .ok (.invokevirtual 551, 3) := by decide +kernel
theorem dX13_makeFrame_31 : decode cX13_makeFrame 31 = .ok (.iconst 0, 1) := by decide +kernel
theorem dX13_makeFrame_32 : decode cX13_makeFrame 32 = .ok (.istore_n 1, 1) := by decide +kernel
theorem dX13_makeFrame_33 : decode cX13_makeFrame 33 = .ok (.iload_n 1, 1) := by decide +kernel
theorem dX13_makeFrame_34 : decode cX13_makeFrame 34 = .ok (.aload_n 0, 1) := by decide +kernel
theorem dX13_makeFrame_35 : decode cX13_makeFrame 35 = .ok (.getfield 408, 3) := by decide +kernel
theorem dX13_makeFrame_38 : decode cX13_makeFrame 38 = .ok (.if_icmp .ge 34, 3) := by decide +kernel
theorem dX13_makeFrame_41 : decode cX13_makeFrame 41 = .ok (.aload_n 0, 1) := by decide +kernel
theorem dX13_makeFrame_42 : decode cX13_makeFrame 42 = .ok (.getfield 51, 3) := by decide +kernel
theorem dX13_makeFrame_45 : decode cX13_makeFrame 45 = .ok (.aload_n 0, 1) := by decide +kernel
theorem dX13_makeFrame_46 : decode cX13_makeFrame 46 = .ok (.getfield 111, 3) := by decide +kernel
theorem dX13_makeFrame_49 : decode cX13_makeFrame 49 = .ok (.iload_n 1, 1) := by decide +kernel
theorem dX13_makeFrame_50 : decode cX13_makeFrame 50 = .ok (.iaload, 1) := by decide +kernel
theorem dX13_makeFrame_51 : decode cX13_makeFrame 51 = .ok (.iaload, 1) := by decide +kernel
theorem dX13_makeFrame_52 : decode cX13_makeFrame 52 = .ok (.iconst 1, 1) := by decide +kernel
theorem dX13_makeFrame_53 : decode cX13_makeFrame 53 = .ok (.if_icmp .ne 13, 3) := by decide +kernel
theorem dX13_makeFrame_56 : decode cX13_makeFrame 56 = .ok (.aload_n 0, 1) := by decide +kernel
theorem dX13_makeFrame_57 : decode cX13_makeFrame 57 = .ok (.aload_n 0, 1) := by decide +kernel
theorem dX13_makeFrame_58 : decode cX13_makeFrame 58 = .ok (.getfield 111, 3) := by decide +kernel
theorem dX13_makeFrame_61 : decode cX13_makeFrame 61 = .ok (.iload_n 1, 1) := by decide +kernel
theorem dX13_makeFrame_62 : decode cX13_makeFrame 62 = .ok (.iaload, 1) := by decide +kernel
theorem dX13_makeFrame_63 : decode cX13_makeFrame 63 = .ok (.invokevirtual 551, 3) := by decide +kernel
theorem dX13_makeFrame_66 : decode cX13_makeFrame 66 = .ok (.iinc 1 1, 3) := by decide +kernel
theorem dX13_makeFrame_69 : decode cX13_makeFrame 69 = .ok (.goto (-36), 3) := by decide +kernel
theorem dX13_makeFrame_72 : decode cX13_makeFrame 72 = .ok (.iconst 0, 1) := by decide +kernel
theorem dX13_makeFrame_73 : decode cX13_makeFrame 73 = .ok (.istore_n 1, 1) := by decide +kernel
theorem dX13_makeFrame_74 : decode cX13_makeFrame 74 = .ok (.iload_n 1, 1) := by decide +kernel
theorem dX13_makeFrame_75 : decode cX13_makeFrame 75 = .ok (.aload_n 0, 1) := by decide +kernel
theorem dX13_makeFrame_76 : decode cX13_makeFrame 76 = .ok (.getfield 408, 3) := by decide +kernel
theorem dX13_makeFrame_79 : decode cX13_makeFrame 79 = .ok (.if_icmp .ge 100, 3) := by decide +kernel
theorem dX13_makeFrame_82 : decode cX13_makeFrame 82 = .ok (.aload_n 0, 1) := by decide +kernel
theorem dX13_makeFrame_83 : decode cX13_makeFrame 83 = .ok (.getfield 111, 3) := by decide +kernel
theorem dX13_makeFrame_86 : decode cX13_makeFrame 86 = .ok (.iload_n 1, 1) := by decide +kernel
theorem dX13_makeFrame_87 : decode cX13_makeFrame 87 = .ok (.iaload, 1) := by decide +kernel
theorem dX13_makeFrame_88 : decode cX13_makeFrame 88 = .ok (.istore_n 2, 1) := by decide +kernel
theorem dX13_makeFrame_89 : decode cX13_makeFrame 89 = .ok (.aload_n 0, 1) := by decide +kernel
theorem dX13_makeFrame_90 : decode cX13_makeFrame 90 = .ok (.getfield 51, 3) := by decide +kernel
theorem dX13_makeFrame_93 : decode cX13_makeFrame 93 = .ok (.iload_n 2, 1) := by decide +kernel
theorem dX13_makeFrame_94 : decode cX13_makeFrame 94 = .ok (.iaload, 1) := by decide +kernel
theorem dX13_makeFrame_95 : decode cX13_makeFrame 95 = .ok (.iconst 1, 1) := by decide +kernel
theorem dX13_makeFrame_96 : decode cX13_makeFrame 96 = .ok (.if_icmp .eq 24, 3) := by decide +kernel
theorem dX13_makeFrame_99 : decode cX13_makeFrame 99 = .ok (.aload_n 0, 1) := by decide +kernel
theorem dX13_makeFrame_100 : decode cX13_makeFrame 100 = .ok (.getfield 135, 3) := by decide +kernel
theorem dX13_makeFrame_103 : decode cX13_makeFrame 103 = .ok (.aload_n 0, 1) := by decide +kernel
theorem dX13_makeFrame_104 : decode cX13_makeFrame 104 = .ok (.getfield 60, 3) := by decide +kernel
theorem dX13_makeFrame_107 : decode cX13_makeFrame 107 = .ok (.aload_n 0, 1) := by decide +kernel
theorem dX13_makeFrame_108 : decode cX13_makeFrame 108 = .ok (.getfield 54, 3) := by decide +kernel
theorem dX13_makeFrame_111 : decode cX13_makeFrame 111 = .ok (.iload_n 2, 1) := by decide +kernel
theorem dX13_makeFrame_112 : decode cX13_makeFrame 112 = .ok (.iaload, 1) := by decide +kernel
theorem dX13_makeFrame_113 : decode cX13_makeFrame 113 = .ok (.iconst 1, 1) := by decide +kernel
theorem dX13_makeFrame_114 : decode cX13_makeFrame 114 = .ok (.iadd, 1) := by decide +kernel
theorem dX13_makeFrame_115 : decode cX13_makeFrame 115 = .ok (.iaload, 1) := by decide +kernel
theorem dX13_makeFrame_116 : decode cX13_makeFrame 116 = .ok (.baload, 1) := by decide +kernel
theorem dX13_makeFrame_117 : decode cX13_makeFrame 117 = .ok (.ifCond .eq 56, 3) := by decide +kernel
theorem dX13_makeFrame_120 : decode cX13_makeFrame 120 = .ok (.aload_n 0, 1) := by decide +kernel
theorem dX13_makeFrame_121 : decode cX13_makeFrame 121 = .ok (.getfield 69, 3) := by decide +kernel
theorem dX13_makeFrame_124 : decode cX13_makeFrame 124 = .ok (.aload_n 0, 1) := by decide +kernel
theorem dX13_makeFrame_125 : decode cX13_makeFrame 125 = .ok (.getfield 518, 3) := by decide +kernel
theorem dX13_makeFrame_128 : decode cX13_makeFrame 128 = .ok (.iaload, 1) := by decide +kernel
theorem dX13_makeFrame_129 : decode cX13_makeFrame 129 = .ok (.bipush 60, 2) := by decide +kernel
theorem dX13_makeFrame_131 : decode cX13_makeFrame 131 = .ok (.if_icmp .ne 9, 3) := by decide +kernel
theorem dX13_makeFrame_134 : decode cX13_makeFrame 134 = .ok (.aload_n 0, 1) := by decide +kernel
theorem dX13_makeFrame_135 : decode cX13_makeFrame 135 = .ok (.iconst 5, 1) := by decide +kernel
theorem dX13_makeFrame_136 : decode cX13_makeFrame 136 = .ok (.invokevirtual 474, 3) := by decide +kernel
theorem dX13_makeFrame_139 : decode cX13_makeFrame 139 = .ok (.return_, 1) := by decide +kernel
theorem dX13_makeFrame_140 : decode cX13_makeFrame 140 = .ok (.aload_n 0, 1) := by decide +kernel
theorem dX13_makeFrame_141 : decode cX13_makeFrame 141 = .ok (.getfield 73, 3) := by decide +kernel
theorem dX13_makeFrame_144 : decode cX13_makeFrame 144 = .ok (.aload_n 0, 1) := by decide +kernel
theorem dX13_makeFrame_145 : decode cX13_makeFrame 145 = .ok (.getfield 527, 3) := by decide +kernel
theorem dX13_makeFrame_148 : decode cX13_makeFrame 148 = .ok (.iload_n 2, 1) := by decide +kernel
theorem dX13_makeFrame_149 : decode cX13_makeFrame 149 = .ok (.iastore, 1) := by decide +kernel
theorem dX13_makeFrame_150 : decode cX13_makeFrame 150 = .ok (.aload_n 0, 1) := by decide +kernel
theorem dX13_makeFrame_151 : decode cX13_makeFrame 151 = .ok (.dup, 1) := by decide +kernel
theorem dX13_makeFrame_152 : decode cX13_makeFrame 152 = .ok (.getfield 527, 3) := by decide +kernel
theorem dX13_makeFrame_155 : decode cX13_makeFrame 155 = .ok (.iconst 1, 1) := by decide +kernel
theorem dX13_makeFrame_156 : decode cX13_makeFrame 156 = .ok (.iadd, 1) := by decide +kernel
theorem dX13_makeFrame_157 : decode cX13_makeFrame 157 = .ok (.putfield 527, 3) := by decide +kernel
theorem dX13_makeFrame_160 : decode cX13_makeFrame 160 = .ok (.aload_n 0, 1) := by decide +kernel
theorem dX13_makeFrame_161 : decode cX13_makeFrame 161 = .ok (.getfield 69, 3) := by decide +kernel
theorem dX13_makeFrame_164 : decode cX13_makeFrame 164 = .ok (.aload_n 0, 1) := by decide +kernel
theorem dX13_makeFrame_165 : decode cX13_makeFrame 165 = .ok (.getfield 518, 3) := by decide +kernel
theorem dX13_makeFrame_168 : decode cX13_makeFrame 168 = .ok (.dup2, 1) := by decide +kernel
theorem dX13_makeFrame_169 : decode cX13_makeFrame 169 = .ok (.iaload, 1) := by decide +kernel
theorem dX13_makeFrame_170 : decode cX13_makeFrame 170 = .ok (.iconst 1, 1) := by decide +kernel
theorem dX13_makeFrame_171 : decode cX13_makeFrame 171 = .ok (.iadd, 1) := by decide +kernel
theorem dX13_makeFrame_172 : decode cX13_makeFrame 172 = .ok (.iastore, 1) := by decide +kernel
theorem dX13_makeFrame_173 : decode cX13_makeFrame 173 = .ok (.iinc 1 1, 3) := by decide +kernel
theorem dX13_makeFrame_176 : decode cX13_makeFrame 176 = .ok (.goto (-102), 3) := by decide +kernel
theorem dX13_makeFrame_179 : decode cX13_makeFrame 179 = .ok (.iconst 0, 1) := by decide +kernel
theorem dX13_makeFrame_180 : decode cX13_makeFrame 180 = .ok (.istore_n 1, 1) := by decide +kernel
theorem dX13_makeFrame_181 : decode cX13_makeFrame 181 = .ok (.iload_n 1, 1) := by decide +kernel
theorem dX13_makeFrame_182 : decode cX13_makeFrame 182 = .ok (.aload_n 0, 1) := by decide +kernel
theorem dX13_makeFrame_183 : decode cX13_makeFrame 183 = .ok (.getfield 411, 3) := by decide +kernel
theorem dX13_makeFrame_186 : decode cX13_makeFrame 186 = .ok (.if_icmp .ge 106, 3) := by decide +kernel
theorem dX13_makeFrame_189 : decode cX13_makeFrame 189 = .ok (.aload_n 0, 1) := by decide +kernel
theorem dX13_makeFrame_190 : decode cX13_makeFrame 190 = .ok (.getfield 135, 3) := by decide +kernel
theorem dX13_makeFrame_193 : decode cX13_makeFrame 193 = .ok (.aload_n 0, 1) := by decide +kernel
theorem dX13_makeFrame_194 : decode cX13_makeFrame 194 = .ok (.getfield 114, 3) := by decide +kernel
theorem dX13_makeFrame_197 : decode cX13_makeFrame 197 = .ok (.iload_n 1, 1) := by decide +kernel
theorem dX13_makeFrame_198 : decode cX13_makeFrame 198 = .ok (.iaload, 1) := by decide +kernel
theorem dX13_makeFrame_199 : decode cX13_makeFrame 199 = .ok (.baload, 1) := by decide +kernel
theorem dX13_makeFrame_200 : decode cX13_makeFrame 200 = .ok (.ifCond .eq 86, 3) := by decide +kernel
theorem dX13_makeFrame_203 : decode cX13_makeFrame 203 = .ok (.aload_n 0, 1) := by decide +kernel
theorem dX13_makeFrame_204 : decode cX13_makeFrame 204 = .ok (.getfield 135, 3) := by decide +kernel
theorem dX13_makeFrame_207 : decode cX13_makeFrame 207 = .ok (.aload_n 0, 1) := by decide +kernel
theorem dX13_makeFrame_208 : decode cX13_makeFrame 208 = .ok (.getfield 117, 3) := by decide +kernel
theorem dX13_makeFrame_211 : decode cX13_makeFrame 211 = .ok (.iload_n 1, 1) := by decide +kernel
theorem dX13_makeFrame_212 : decode cX13_makeFrame 212 = .ok (.iaload, 1) := by decide +kernel
theorem dX13_makeFrame_213 : decode cX13_makeFrame 213 = .ok (.baload, 1) := by decide +kernel
theorem dX13_makeFrame_214 : decode cX13_makeFrame 214 = .ok (.ifCond .eq 72, 3) := by decide +kernel
theorem dX13_makeFrame_217 : decode cX13_makeFrame 217 = .ok (.aload_n 0, 1) := by decide +kernel
theorem dX13_makeFrame_218 : decode cX13_makeFrame 218 = .ok (.getfield 530, 3) := by decide +kernel
theorem dX13_makeFrame_221 : decode cX13_makeFrame 221 = .ok (.sipush 20000, 3) := by decide +kernel
theorem dX13_makeFrame_224 : decode cX13_makeFrame 224 = .ok (.if_icmp .ne 9, 3) := by decide +kernel
theorem dX13_makeFrame_227 : decode cX13_makeFrame 227 = .ok (.aload_n 0, 1) := by decide +kernel
theorem dX13_makeFrame_228 : decode cX13_makeFrame 228 = .ok (.iconst 5, 1) := by decide +kernel
theorem dX13_makeFrame_229 : decode cX13_makeFrame 229 = .ok (.invokevirtual 474, 3) := by decide +kernel
theorem dX13_makeFrame_232 : decode cX13_makeFrame 232 = .ok (.return_, 1) := by decide +kernel
theorem dX13_makeFrame_233 : decode cX13_makeFrame 233 = .ok (.aload_n 0, 1) := by decide +kernel
theorem dX13_makeFrame_234 : decode cX13_makeFrame 234 = .ok (.getfield 82, 3) := by decide +kernel
theorem dX13_makeFrame_237 : decode cX13_makeFrame 237 = .ok (.aload_n 0, 1) := by decide +kernel
theorem dX13_makeFrame_238 : decode cX13_makeFrame 238 = .ok (.getfield 530, 3) := by decide +kernel
theorem dX13_makeFrame_241 : decode cX13_makeFrame 241 = .ok (.aload_n 0, 1) := by decide +kernel
theorem dX13_makeFrame_242 : decode cX13_makeFrame 242 = .ok (.getfield 114, 3) := by decide +kernel
theorem dX13_makeFrame_245 : decode cX13_makeFrame 245 = .ok (.iload_n 1, 1) := by decide +kernel
theorem dX13_makeFrame_246 : decode cX13_makeFrame 246 = .ok (.iaload, 1) := by decide +kernel
theorem dX13_makeFrame_247 : decode cX13_makeFrame 247 = .ok (.iastore, 1) := by decide +kernel
theorem dX13_makeFrame_248 : decode cX13_makeFrame 248 = .ok (.aload_n 0, 1) := by decide +kernel
theorem dX13_makeFrame_249 : decode cX13_makeFrame 249 = .ok (.getfield 85, 3) := by decide +kernel
theorem dX13_makeFrame_252 : decode cX13_makeFrame 252 = .ok (.aload_n 0, 1) := by decide +kernel
theorem dX13_makeFrame_253 : decode cX13_makeFrame 253 = .ok (.getfield 530, 3) := by decide +kernel
theorem dX13_makeFrame_256 : decode cX13_makeFrame 256 = .ok (.aload_n 0, 1) := by decide +kernel
theorem dX13_makeFrame_257 : decode cX13_makeFrame 257 = .ok (.getfield 117, 3) := by decide +kernel
theorem dX13_makeFrame_260 : decode cX13_makeFrame 260 = .ok (.iload_n 1, 1) := by decide +kernel
theorem dX13_makeFrame_261 : decode cX13_makeFrame 261 = .ok (.iaload, 1) := by decide +kernel
theorem dX13_makeFrame_262 : decode cX13_makeFrame 262 = .ok (.iastore, 1) := by decide +kernel
theorem dX13_makeFrame_263 : decode cX13_makeFrame 263 = .ok (.aload_n 0, 1) := by decide +kernel
theorem dX13_makeFrame_264 : decode cX13_makeFrame 264 = .ok (.dup, 1) := by decide +kernel
theorem dX13_makeFrame_265 : decode cX13_makeFrame 265 = .ok (.getfield 530, 3) := by decide +kernel
theorem dX13_makeFrame_268 : decode cX13_makeFrame 268 = .ok (.iconst 1, 1) := by decide +kernel
theorem dX13_makeFrame_269 : decode cX13_makeFrame 269 = .ok (.iadd, 1) := by decide +kernel
theorem dX13_makeFrame_270 : decode cX13_makeFrame 270 = .ok (.putfield 530, 3) := by decide +kernel
theorem dX13_makeFrame_273 : decode cX13_makeFrame 273 = .ok (.aload_n 0, 1) := by decide +kernel
theorem dX13_makeFrame_274 : decode cX13_makeFrame 274 = .ok (.getfield 79, 3) := by decide +kernel
theorem dX13_makeFrame_277 : decode cX13_makeFrame 277 = .ok (.aload_n 0, 1) := by decide +kernel
theorem dX13_makeFrame_278 : decode cX13_makeFrame 278 = .ok (.getfield 518, 3) := by decide +kernel
theorem dX13_makeFrame_281 : decode cX13_makeFrame 281 = .ok (.dup2, 1) := by decide +kernel
theorem dX13_makeFrame_282 : decode cX13_makeFrame 282 = .ok (.iaload, 1) := by decide +kernel
theorem dX13_makeFrame_283 : decode cX13_makeFrame 283 = .ok (.iconst 1, 1) := by decide +kernel
theorem dX13_makeFrame_284 : decode cX13_makeFrame 284 = .ok (.iadd, 1) := by decide +kernel
theorem dX13_makeFrame_285 : decode cX13_makeFrame 285 = .ok (.iastore, 1) := by decide +kernel
theorem dX13_makeFrame_286 : decode cX13_makeFrame 286 = .ok (.iinc 1 1, 3) := by decide +kernel
theorem dX13_makeFrame_289 : decode cX13_makeFrame 289 = .ok (.goto (-108), 3) := by decide +kernel
theorem dX13_makeFrame_292 : decode cX13_makeFrame 292 = .ok (.return_, 1) := by decide +kernel
theorem dX13_isMandatory_0 : decode cX13_isMandatory 0 = .ok (.iconst 0, 1) := by decide +kernel
theorem dX13_isMandatory_1 : decode cX13_isMandatory 1 = .ok (.istore_n 3, 1) := by decide +kernel
theorem dX13_isMandatory_2 : decode cX13_isMandatory 2 = .ok (.aload_n 0, 1) := by decide +kernel
theorem dX13_isMandatory_3 : decode cX13_isMandatory 3 = .ok (.getfield 66, 3) := by decide +kernel
theorem dX13_isMandatory_6 : decode cX13_isMandatory 6 = .ok (.iload_n 1, 1) := by decide +kernel
theorem dX13_isMandatory_7 : decode cX13_isMandatory 7 = .ok (.iaload, 1) := by decide +kernel
theorem dX13_isMandatory_8 : decode cX13_isMandatory 8 = .ok (.istore 4, 2) := by decide +kernel
theorem dX13_isMandatory_10 : decode cX13_isMandatory 10 = .ok (.iload 4, 2) := by decide +kernel
theorem dX13_isMandatory_12 : decode cX13_isMandatory 12 = .ok (.aload_n 0, 1) := by decide +kernel
theorem dX13_isMandatory_13 : decode cX13_isMandatory 13 = .ok (.getfield 66, 3) := by decide +kernel
theorem dX13_isMandatory_16 : decode cX13_isMandatory 16 = .ok (.iload_n 1, 1) := by decide +kernel
theorem dX13_isMandatory_17 : decode cX13_isMandatory 17 = .ok (.iaload, 1) := by decide +kernel
theorem dX13_isMandatory_18 : decode cX13_isMandatory 18 = .ok (.aload_n 0, 1) := by decide +kernel
theorem dX13_isMandatory_19 : decode cX13_isMandatory 19 = .ok (.getfield 69, 3) := by decide +kernel
theorem dX13_isMandatory_22 : decode cX13_isMandatory 22 = .ok (.iload_n 1, 1) := by decide +kernel
theorem dX13_isMandatory_23 : decode cX13_isMandatory 23 = .ok (.iaload, 1) := by decide +kernel
theorem dX13_isMandatory_24 : decode cX13_isMandatory 24 = .ok (.iadd, 1) := by decide +kernel
theorem dX13_isMandatory_25 : decode cX13_isMandatory 25 = .ok (.if_icmp .ge 30, 3) := by decide +kernel
theorem dX13_isMandatory_28 : decode cX13_isMandatory 28 = .ok (.iload_n 3, 1) := by decide +kernel
theorem dX13_isMandatory_29 : decode cX13_isMandatory 29 = .ok (.ifCond .ne 14, 3) := by decide +kernel
theorem dX13_isMandatory_32 : decode cX13_isMandatory 32 = .ok (.aload_n 0, 1) := by decide +kernel
theorem dX13_isMandatory_33 : decode cX13_isMandatory 33 = .ok (.getfield 73, 3) := by decide +kernel
theorem dX13_isMandatory_36 : decode cX13_isMandatory 36 = .ok (.iload 4, 2) := by decide +kernel
theorem dX13_isMandatory_38 : decode cX13_isMandatory 38 = .ok (.iaload, 1) := by decide +kernel
theorem dX13_isMandatory_39 : decode cX13_isMandatory 39 = .ok (.iload_n 2, 1) := by decide +kernel
theorem dX13_isMandatory_40 : decode cX13_isMandatory 40 = .ok (.if_icmp .ne 7, 3) := by decide +kernel
theorem dX13_isMandatory_43 : decode cX13_isMandatory 43 = .ok (.iconst 1, 1) := by decide +kernel
theorem dX13_isMandatory_44 : decode cX13_isMandatory 44 = .ok (.goto 4, 3) := by decide +kernel
theorem dX13_isMandatory_47 : decode cX13_isMandatory 47 = .ok (.iconst 0, 1) := by decide +kernel
theorem dX13_isMandatory_48 : decode cX13_isMandatory 48 = .ok (.istore_n 3, 1) := by decide +kernel
theorem dX13_isMandatory_49 : decode cX13_isMandatory 49 = .ok (.iinc 4 1, 3) := by decide +kernel
theorem dX13_isMandatory_52 : decode cX13_isMandatory 52 = .ok (.goto (-42), 3) := by decide +kernel
theorem dX13_isMandatory_55 : decode cX13_isMandatory 55 = .ok (.iload_n 3, 1) := by decide +kernel
theorem dX13_isMandatory_56 : decode cX13_isMandatory 56 = .ok (.ireturn, 1) := by decide +kernel
theorem dX13_stepHere_0 : decode cX13_stepHere 0 = .ok (.aload_n 0, 1) := by decide +kernel
theorem dX13_stepHere_1 : decode cX13_stepHere 1 = .ok (.aload_n 0, 1) := by decide +kernel
theorem dX13_stepHere_2 : decode cX13_stepHere 2 = .ok (.getfield 8, 3) := by decide +kernel
theorem dX13_stepHere_5 : decode cX13_stepHere 5 = .ok (.aload_n 0, 1) := by decide +kernel
theorem dX13_stepHere_6 : decode cX13_stepHere 6 = .ok (.getfield 424, 3) := by decide +kernel
theorem dX13_stepHere_9 : decode cX13_stepHere 9 = .ok (.aload_n 0, 1) := by decide +kernel
theorem dX13_stepHere_10 : decode cX13_stepHere 10 = .ok (.getfield 421, 3) := by decide +kernel
theorem dX13_stepHere_13 : decode cX13_stepHere 13 = .ok (.invokevirtual 478, 3) := by decide +kernel
theorem dX13_stepHere_16 : decode cX13_stepHere 16 = .ok (.istore_n 1, 1) := by decide +kernel
theorem dX13_stepHere_17 : decode cX13_stepHere 17 = .ok (.iload_n 1, 1) := by decide +kernel
theorem dX13_stepHere_18 : decode cX13_stepHere 18 = .ok (.iconst (-1), 1) := by decide +kernel
theorem dX13_stepHere_19 : decode cX13_stepHere 19 = .ok (.if_icmp .eq 11, 3) := by decide +kernel
theorem dX13_stepHere_22 : decode cX13_stepHere 22 = .ok (.iload_n 1, 1) := by decide +kernel
theorem dX13_stepHere_23 : decode cX13_stepHere 23 = .ok (.aload_n 0, 1) := by decide +kernel
theorem dX13_stepHere_24 : decode cX13_stepHere 24 = .ok (.getfield 518, 3) := by decide +kernel
theorem dX13_stepHere_27 : decode cX13_stepHere 27 = .ok (.if_icmp .lt 5, 3) := by decide +kernel
theorem dX13_stepHere_30 : decode cX13_stepHere 30 = .ok (.iconst (-1), 1) := by decide +kernel
theorem dX13_stepHere_31 : decode cX13_stepHere 31 = .ok (.ireturn, 1) := by decide +kernel
theorem dX13_stepHere_32 : decode cX13_stepHere 32 = .ok (.aload_n 0, 1) := by decide +kernel
theorem dX13_stepHere_33 : decode cX13_stepHere 33 = .ok (.getfield 51, 3) := by decide +kernel
theorem dX13_stepHere_36 : decode cX13_stepHere 36 = .ok (.iload_n 1, 1) := by decide +kernel
theorem dX13_stepHere_37 : decode cX13_stepHere 37 = .ok (.iaload, 1) := by decide +kernel
theorem dX13_stepHere_38 : decode cX13_stepHere 38 = .ok (.iconst 2, 1) := by decide +kernel
theorem dX13_stepHere_39 : decode cX13_stepHere 39 = .ok (.if_icmp .lt 5, 3) := by decide +kernel
theorem dX13_stepHere_42 : decode cX13_stepHere 42 = .ok (.iload_n 1, 1) := by decide +kernel
theorem dX13_stepHere_43 : decode cX13_stepHere 43 = .ok (.ireturn, 1) := by decide +kernel
theorem dX13_stepHere_44 : decode cX13_stepHere 44 = .ok (.iconst 0, 1) := by decide +kernel
theorem dX13_stepHere_45 : decode cX13_stepHere 45 = .ok (.istore_n 2, 1) := by decide +kernel
theorem dX13_stepHere_46 : decode cX13_stepHere 46 = .ok (.iconst 0, 1) := by decide +kernel
theorem dX13_stepHere_47 : decode cX13_stepHere 47 = .ok (.istore_n 3, 1) := by decide +kernel
theorem dX13_stepHere_48 : decode cX13_stepHere 48 = .ok (.iload_n 3, 1) := by decide +kernel
theorem dX13_stepHere_49 : decode cX13_stepHere 49 = .ok (.aload_n 0, 1) := by decide +kernel
theorem dX13_stepHere_50 : decode cX13_stepHere 50 = .ok (.getfield 408, 3) := by decide +kernel
theorem dX13_stepHere_53 : decode cX13_stepHere 53 = .ok (.if_icmp .ge 29, 3) := by decide +kernel
theorem dX13_stepHere_56 : decode cX13_stepHere 56 = .ok (.iload_n 2, 1) := by decide +kernel
theorem dX13_stepHere_57 : decode cX13_stepHere 57 = .ok (.ifCond .ne 13, 3) := by decide +kernel
theorem dX13_stepHere_60 : decode cX13_stepHere 60 = .ok (.aload_n 0, 1) := by decide +kernel
theorem dX13_stepHere_61 : decode cX13_stepHere 61 = .ok (.getfield 111, 3) := by decide +kernel
theorem dX13_stepHere_64 : decode cX13_stepHere 64 = .ok (.iload_n 3, 1) := by decide +kernel
theorem dX13_stepHere_65 : decode cX13_stepHere 65 = .ok (.iaload, 1) := by decide +kernel
theorem dX13_stepHere_66 : decode cX13_stepHere 66 = .ok (.iload_n 1, 1) := by decide +kernel
theorem dX13_stepHere_67 : decode cX13_stepHere 67 = .ok (.if_icmp .ne 7, 3) := by decide +kernel
theorem dX13_stepHere_70 : decode cX13_stepHere 70 = .ok (.iconst 1, 1) := by decide +kernel
theorem dX13_stepHere_71 : decode cX13_stepHere 71 = .ok (.goto 4, 3) := by decide +kernel
theorem dX13_stepHere_74 : decode cX13_stepHere 74 = .ok (.iconst 0, 1) := by decide +kernel
theorem dX13_stepHere_75 : decode cX13_stepHere 75 = .ok (.istore_n 2, 1) := by decide +kernel
theorem dX13_stepHere_76 : decode cX13_stepHere 76 = .ok (.iinc 3 1, 3) := by decide +kernel
theorem dX13_stepHere_79 : decode cX13_stepHere 79 = .ok (.goto (-31), 3) := by decide +kernel
theorem dX13_stepHere_82 : decode cX13_stepHere 82 = .ok (.iload_n 2, 1) := by decide +kernel
theorem dX13_stepHere_83 : decode cX13_stepHere 83 = .ok (.ifCond .eq 7, 3) := by decide +kernel
theorem dX13_stepHere_86 : decode cX13_stepHere 86 = .ok (.iload_n 1, 1) := by decide +kernel
theorem dX13_stepHere_87 : decode cX13_stepHere 87 = .ok (.goto 4, 3) := by decide +kernel
theorem dX13_stepHere_90 : decode cX13_stepHere 90 = .ok (.iconst (-1), 1) := by decide +kernel
theorem dX13_stepHere_91 : decode cX13_stepHere 91 = .ok (.ireturn, 1) := by decide +kernel
theorem dX13_addStep_0 : decode cX13_addStep 0 = .ok (.aload_n 0, 1) := by decide +kernel
theorem dX13_addStep_1 : decode cX13_addStep 1 = .ok (.getfield 94, 3) := by decide +kernel
theorem dX13_addStep_4 : decode cX13_addStep 4 = .ok (.aload_n 0, 1) := by decide +kernel
theorem dX13_addStep_5 : decode cX13_addStep 5 = .ok (.getfield 533, 3) := by decide +kernel
theorem dX13_addStep_8 : decode cX13_addStep 8 = .ok (.iload_n 1, 1) := by decide +kernel
theorem dX13_addStep_9 : decode cX13_addStep 9 = .ok (.iastore, 1) := by decide +kernel
theorem dX13_addStep_10 : decode cX13_addStep 10 = .ok (.aload_n 0, 1) := by decide +kernel
theorem dX13_addStep_11 : decode cX13_addStep 11 = .ok (.getfield 97, 3) := by decide +kernel
theorem dX13_addStep_14 : decode cX13_addStep 14 = .ok (.aload_n 0, 1) := by decide +kernel
theorem dX13_addStep_15 : decode cX13_addStep 15 = .ok (.getfield 533, 3) := by decide +kernel
theorem dX13_addStep_18 : decode cX13_addStep 18 = .ok (.iconst 0, 1) := by decide +kernel
theorem dX13_addStep_19 : decode cX13_addStep 19 = .ok (.bastore, 1) := by decide +kernel
theorem dX13_addStep_20 : decode cX13_addStep 20 = .ok (.aload_n 0, 1) := by decide +kernel
theorem dX13_addStep_21 : decode cX13_addStep 21 = .ok (.getfield 100, 3) := by decide +kernel
theorem dX13_addStep_24 : decode cX13_addStep 24 = .ok (.aload_n 0, 1) := by decide +kernel
theorem dX13_addStep_25 : decode cX13_addStep 25 = .ok (.getfield 533, 3) := by decide +kernel
theorem dX13_addStep_28 : decode cX13_addStep 28 = .ok (.iload_n 2, 1) := by decide +kernel
theorem dX13_addStep_29 : decode cX13_addStep 29 = .ok (.iastore, 1) := by decide +kernel
theorem dX13_addStep_30 : decode cX13_addStep 30 = .ok (.aload_n 0, 1) := by decide +kernel
theorem dX13_addStep_31 : decode cX13_addStep 31 = .ok (.dup, 1) := by decide +kernel
theorem dX13_addStep_32 : decode cX13_addStep 32 = .ok (.getfield 533, 3) := by decide +kernel
theorem dX13_addStep_35 : decode cX13_addStep 35 = .ok (.iconst 1, 1) := by decide +kernel
theorem dX13_addStep_36 : decode cX13_addStep 36 = .ok (.iadd, 1) := by decide +kernel
theorem dX13_addStep_37 : decode cX13_addStep 37 = .ok (.putfield 533, 3) := by decide +kernel
theorem dX13_addStep_40 : decode cX13_addStep 40 = .ok (.aload_n 0, 1) := by decide +kernel
theorem dX13_addStep_41 : decode cX13_addStep 41 = .ok (.getfield 91, 3) := by decide +kernel
theorem dX13_addStep_44 : decode cX13_addStep 44 = .ok (.aload_n 0, 1) := by decide +kernel
theorem dX13_addStep_45 : decode cX13_addStep 45 = .ok (.getfield 518, 3) := by decide +kernel
theorem dX13_addStep_48 : decode cX13_addStep 48 = .ok (.dup2, 1) := by decide +kernel
theorem dX13_addStep_49 : decode cX13_addStep 49 = .ok (.iaload, 1) := by decide +kernel
theorem dX13_addStep_50 : decode cX13_addStep 50 = .ok (.iconst 1, 1) := by decide +kernel
theorem dX13_addStep_51 : decode cX13_addStep 51 = .ok (.iadd, 1) := by decide +kernel
theorem dX13_addStep_52 : decode cX13_addStep 52 = .ok (.iastore, 1) := by decide +kernel
theorem dX13_addStep_53 : decode cX13_addStep 53 = .ok (.return_, 1) := by decide +kernel
theorem dX13_readPlain_0 : decode cX13_readPlain 0 = .ok (.aload_n 0, 1) := by decide +kernel
theorem dX13_readPlain_1 : decode cX13_readPlain 1 = .ok (.getfield 418, 3) := by decide +kernel
theorem dX13_readPlain_4 : decode cX13_readPlain 4 = .ok (.ifCond .ne 121, 3) := by decide +kernel
theorem dX13_readPlain_7 : decode cX13_readPlain 7 = .ok (.aload_n 0, 1) := by decide +kernel
theorem dX13_readPlain_8 : decode cX13_readPlain 8 = .ok (.getfield 452, 3) := by decide +kernel
theorem dX13_readPlain_11 : decode cX13_readPlain 11 = .ok (.bipush 46, 2) := by decide +kernel
theorem dX13_readPlain_13 : decode cX13_readPlain 13 = .ok (.if_icmp .eq 112, 3) := by decide +kernel
theorem dX13_readPlain_16 : decode cX13_readPlain 16 = .ok (.aload_n 0, 1) := by decide +kernel
theorem dX13_readPlain_17 : decode cX13_readPlain 17 = .ok (.getfield 452, 3) := by decide +kernel
theorem dX13_readPlain_20 : decode cX13_readPlain 20 = .ok (.iconst 1, 1) := by decide +kernel
theorem dX13_readPlain_21 : decode cX13_readPlain 21 = .ok (.if_icmp .eq 9, 3) := by decide +kernel
theorem dX13_readPlain_24 : decode cX13_readPlain 24 = .ok (.aload_n 0, 1) := by decide +kernel
theorem dX13_readPlain_25 : decode cX13_readPlain 25 = .ok (.iconst 4, 1) := by decide +kernel
theorem dX13_readPlain_26 : decode cX13_readPlain 26 = .ok (.invokevirtual 474, 3) := by decide +kernel
theorem dX13_readPlain_29 : decode cX13_readPlain 29 = .ok (.return_, 1) := by decide +kernel
theorem dX13_readPlain_30 : decode cX13_readPlain 30 = .ok (.aload_n 0, 1) := by decide +kernel
theorem dX13_readPlain_31 : decode cX13_readPlain 31 = .ok (.getfield 421, 3) := by decide +kernel
theorem dX13_readPlain_34 : decode cX13_readPlain 34 = .ok (.iconst 1, 1) := by decide +kernel
theorem dX13_readPlain_35 : decode cX13_readPlain 35 = .ok (.if_icmp .ne 25, 3) := by decide +kernel
theorem dX13_readPlain_38 : decode cX13_readPlain 38 = .ok (.aload_n 0, 1) := by decide +kernel
theorem dX13_readPlain_39 : decode cX13_readPlain 39 = .ok (.getfield 8, 3) := by decide +kernel
theorem dX13_readPlain_42 : decode cX13_readPlain 42 = .ok (.aload_n 0, 1) := by decide +kernel
theorem dX13_readPlain_43 : decode cX13_readPlain 43 = .ok (.getfield 424, 3) := by decide +kernel
theorem dX13_readPlain_46 : decode cX13_readPlain 46 = .ok (.iaload, 1) := by decide +kernel
theorem dX13_readPlain_47 : decode cX13_readPlain 47 = .ok (.bipush 63, 2) := by decide +kernel
theorem dX13_readPlain_49 : decode cX13_readPlain 49 = .ok (.if_icmp .ne 11, 3) := by decide +kernel
theorem dX13_readPlain_52 : decode cX13_readPlain 52 = .ok (.aload_n 0, 1) := by decide +kernel
theorem dX13_readPlain_53 : decode cX13_readPlain 53 = .ok (.iconst 1, 1) := by decide +kernel
theorem dX13_readPlain_54 : decode cX13_readPlain 54 = .ok (.putfield 554, 3) := by decide +kernel
theorem dX13_readPlain_57 : decode cX13_readPlain 57 = .ok (.goto 54, 3) := by decide +kernel
theorem dX13_readPlain_60 : decode cX13_readPlain 60 = .ok (.aload_n 0, 1) := by decide +kernel
theorem dX13_readPlain_61 : decode cX13_readPlain 61 = .ok (.invokevirtual 557, 3) := by decide +kernel
theorem dX13_readPlain_64 : decode cX13_readPlain 64 = .ok (.istore_n 1, 1) := by decide +kernel
theorem dX13_readPlain_65 : decode cX13_readPlain 65 = .ok (.iload_n 1, 1) := by decide +kernel
theorem dX13_readPlain_66 : decode cX13_readPlain 66 = .ok (.iconst (-1), 1) := by decide +kernel
theorem dX13_readPlain_67 : decode cX13_readPlain 67 = .ok (.if_icmp .eq 21, 3) := by decide +kernel
theorem dX13_readPlain_70 : decode cX13_readPlain 70 = .ok (.aload_n 0, 1) := by decide +kernel
theorem dX13_readPlain_71 : decode cX13_readPlain 71 = .ok (.getfield 533, 3) := by decide +kernel
theorem dX13_readPlain_74 : decode cX13_readPlain 74 = .ok (.sipush 20000, 3) := by decide +kernel
theorem dX13_readPlain_77 : decode cX13_readPlain 77 = .ok (.if_icmp .ne 11, 3) := by decide +kernel
theorem dX13_readPlain_80 : decode cX13_readPlain 80 = .ok (.aload_n 0, 1) := by decide +kernel
theorem dX13_readPlain_81 : decode cX13_readPlain 81 = .ok (.iconst 5, 1) := by decide +kernel
theorem dX13_readPlain_82 : decode cX13_readPlain 82 = .ok (.invokevirtual 474, 3) := by decide +kernel
theorem dX13_readPlain_85 : decode cX13_readPlain 85 = .ok (.goto 26, 3) := by decide +kernel
theorem dX13_readPlain_88 : decode cX13_readPlain 88 = .ok (.iload_n 1, 1) := by decide +kernel
theorem dX13_readPlain_89 : decode cX13_readPlain 89 = .ok (.iconst (-1), 1) := by decide +kernel
theorem dX13_readPlain_90 : decode cX13_readPlain 90 = .ok (.if_icmp .ne 12, 3) := by decide +kernel
theorem dX13_readPlain_93 : decode cX13_readPlain 93 = .ok (.aload_n 0, 1) := by decide +kernel
theorem dX13_readPlain_94 : decode cX13_readPlain 94 = .ok (.bipush 13, 2) := by decide +kernel
theorem dX13_readPlain_96 : decode cX13_readPlain 96 = .ok (.invokevirtual 474, 3) := by decide +kernel
theorem dX13_readPlain_99 : decode cX13_readPlain 99 = .ok (.goto 12, 3) := by decide +kernel
theorem dX13_readPlain_102 : decode cX13_readPlain 102 = .ok (.aload_n 0, 1) := by decide +kernel
theorem dX13_readPlain_103 : decode cX13_readPlain 103 = .ok (.iload_n 1, 1) := by decide +kernel
theorem dX13_readPlain_104 : decode cX13_readPlain 104 = .ok (.aload_n 0, 1) := by decide +kernel
theorem dX13_readPlain_105 : decode cX13_readPlain 105 = .ok (.getfield 424, 3) := by decide +kernel
theorem dX13_readPlain_108 : decode cX13_readPlain 108 = .ok (.invokevirtual 560, 3) := by decide +kernel
theorem dX13_readPlain_111 : decode cX13_readPlain 111 = .ok (.aload_n 0, 1) := by decide +kernel
theorem dX13_readPlain_112 : decode cX13_readPlain 112 = .ok (.getfield 418, 3) := by decide +kernel
theorem dX13_readPlain_115 : decode cX13_readPlain 115 = .ok (.ifCond .ne (-115), 3) := by decide +kernel
theorem dX13_readPlain_118 : decode cX13_readPlain 118 = .ok (.aload_n 0, 1) := by decide +kernel
theorem dX13_readPlain_119 : decode cX13_readPlain 119 = .ok (.invokevirtual 490, 3) := by decide +kernel
theorem dX13_readPlain_122 : decode cX13_readPlain 122 = .ok (.goto (-122), 3) := by decide +kernel
theorem dX13_readPlain_125 : decode cX13_readPlain 125 = .ok (.return_, 1) := by decide +kernel
theorem dX13_readPackedLabels_0 : decode cX13_readPackedLabels 0 = .ok (.aload_n 0, 1) := by decide +kernel
theorem dX13_readPackedLabels_1 : decode cX13_readPackedLabels 1 = .ok (.iconst 0, 1) := by decide +kernel
theorem dX13_readPackedLabels_2 : decode cX13_readPackedLabels 2 = .ok (.putfield 563, 3) := by decide +kernel
theorem dX13_readPackedLabels_5 : decode cX13_readPackedLabels 5 = .ok (.aload_n 0, 1) := by decide +kernel
theorem dX13_readPackedLabels_6 : decode cX13_readPackedLabels 6 = .ok (.invokevirtual 490, 3) := by decide +kernel
theorem dX13_readPackedLabels_9 : decode cX13_readPackedLabels 9 = .ok (.aload_n 0, 1) := by decide +kernel
theorem dX13_readPackedLabels_10 : decode cX13_readPackedLabels 10 = .ok (.getfield 418, 3) := by decide +kernel
theorem dX13_readPackedLabels_13 : decode cX13_readPackedLabels 13 = .ok (.ifCond .ne 183, 3) := by decide +kernel
theorem dX13_readPackedLabels_16 : decode cX13_readPackedLabels 16 = .ok (.aload_n 0, 1) := by decide +kernel
theorem dX13_readPackedLabels_17 : decode cX13_readPackedLabels 17 = .ok (.getfield 452, 3) := by decide +kernel
theorem dX13_readPackedLabels_20 : decode cX13_readPackedLabels 20 = .ok (.iconst 1, 1) := by decide +kernel
theorem dX13_readPackedLabels_21 : decode cX13_readPackedLabels 21 = .ok (.if_icmp .ne 25, 3) := by decide +kernel
theorem dX13_readPackedLabels_24 : decode cX13_readPackedLabels 24 = .ok (.aload_n 0, 1) := by decide +kernel
theorem dX13_readPackedLabels_25 : decode cX13_readPackedLabels 25 = .ok (.getfield 421, 3) := by decide +kernel
theorem dX13_readPackedLabels_28 : decode cX13_readPackedLabels 28 = .ok (.iconst 1, 1) := by decide +kernel
theorem dX13_readPackedLabels_29 : decode cX13_readPackedLabels 29 = .ok (.if_icmp .ne 17, 3) := by decide +kernel
theorem dX13_readPackedLabels_32 : decode cX13_readPackedLabels 32 = .ok (.aload_n 0, 1) := by decide +kernel
theorem dX13_readPackedLabels_33 : decode cX13_readPackedLabels 33 = .ok (.getfield 8, 3) := by decide +kernel
theorem dX13_readPackedLabels_36 : decode cX13_readPackedLabels 36 = .ok (.aload_n 0, 1) := by decide +kernel
theorem dX13_readPackedLabels_37 : decode cX13_readPackedLabels 37 = .ok (.getfield 424, 3) := by decide +kernel
theorem dX13_readPackedLabels_40 : decode cX13_readPackedLabels 40 = .ok (.iaload, 1) := by decide +kernel
theorem dX13_readPackedLabels_41 : decode cX13_readPackedLabels 41 = .ok (.bipush 41, 2) := by decide +kernel
theorem dX13_readPackedLabels_43 : decode cX13_readPackedLabels 43 = .ok (.if_icmp .eq 153, 3) := by decide +kernel
theorem dX13_readPackedLabels_46 : decode cX13_readPackedLabels 46 = .ok (.aload_n 0, 1) := by decide +kernel
theorem dX13_readPackedLabels_47 : decode cX13_readPackedLabels 47 = .ok (.getfield 452, 3) := by decide +kernel
theorem dX13_readPackedLabels_50 : decode cX13_readPackedLabels 50 = .ok (.iconst 1, 1) := by decide +kernel
theorem dX13_readPackedLabels_51 : decode cX13_readPackedLabels 51 = .ok (.if_icmp .eq 9, 3) := by decide +kernel
theorem dX13_readPackedLabels_54 : decode cX13_readPackedLabels 54 = .ok (.aload_n 0, 1) := by decide +kernel
theorem dX13_readPackedLabels_55 : decode cX13_readPackedLabels 55 = .ok (.iconst 4, 1) := by decide +kernel
theorem dX13_readPackedLabels_56 : decode cX13_readPackedLabels 56 = .ok (.invokevirtual 474, 3) := by decide +kernel
theorem dX13_readPackedLabels_59 : decode cX13_readPackedLabels 59 = .ok (.return_, 1) := by decide +kernel
theorem dX13_readPackedLabels_60 : decode cX13_readPackedLabels 60 = .ok (.aload_n 0, 1) := by decide +kernel
theorem dX13_readPackedLabels_61 : decode cX13_readPackedLabels 61 = .ok (.invokevirtual 557, 3) := by decide +kernel
theorem dX13_readPackedLabels_64 : decode cX13_readPackedLabels 64 = .ok (.istore_n 1, 1) := by decide +kernel
theorem dX13_readPackedLabels_65 : decode cX13_readPackedLabels 65 = .ok (.iload_n 1, 1) := by decide +kernel
theorem dX13_readPackedLabels_66 : decode cX13_readPackedLabels 66 = .ok (.iconst (-1), 1) := by decide +kernel
theorem dX13_readPackedLabels_67 : decode cX13_readPackedLabels 67 = .ok (.if_icmp .eq 19, 3) := by decide +kernel
theorem dX13_readPackedLabels_70 : decode cX13_readPackedLabels 70 = .ok (.aload_n 0, 1) := by decide +kernel
theorem dX13_readPackedLabels_71 : decode cX13_readPackedLabels 71 = .ok (.aload_n 0, 1) := by decide +kernel
theorem dX13_readPackedLabels_72 : decode cX13_readPackedLabels 72 = .ok (.getfield 518, 3) := by decide +kernel
theorem dX13_readPackedLabels_75 : decode cX13_readPackedLabels 75 = .ok (.iload_n 1, 1) := by decide +kernel
theorem dX13_readPackedLabels_76 : decode cX13_readPackedLabels 76 = .ok (.invokevirtual 566, 3) := by decide +kernel
theorem dX13_readPackedLabels_79 : decode cX13_readPackedLabels 79 = .ok (.ifCond .eq 7, 3) := by decide +kernel
theorem dX13_readPackedLabels_82 : decode cX13_readPackedLabels 82 = .ok (.iconst 1, 1) := by decide +kernel
theorem dX13_readPackedLabels_83 : decode cX13_readPackedLabels 83 = .ok (.goto 4, 3) := by decide +kernel
theorem dX13_readPackedLabels_86 : decode cX13_readPackedLabels 86 = .ok (.iconst 0, 1) := by decide +kernel
theorem dX13_readPackedLabels_87 : decode cX13_readPackedLabels 87 = .ok (.istore_n 2, 1) := by decide +kernel
theorem dX13_readPackedLabels_88 : decode cX13_readPackedLabels 88 = .ok (.iconst 0, 1) := by decide +kernel
theorem dX13_readPackedLabels_89 : decode cX13_readPackedLabels 89 = .ok (.istore_n 3, 1) := by decide +kernel
theorem dX13_readPackedLabels_90 : decode cX13_readPackedLabels 90 = .ok (.iload_n 3, 1) := by decide +kernel
theorem dX13_readPackedLabels_91 : decode cX13_readPackedLabels 91 = .ok (.aload_n 0, 1) := by decide +kernel
theorem dX13_readPackedLabels_92 : decode cX13_readPackedLabels 92 = .ok (.getfield 563, 3) := by decide +kernel
theorem dX13_readPackedLabels_95 : decode cX13_readPackedLabels 95 = .ok (.if_icmp .ge 29, 3) := by decide +kernel
theorem dX13_readPackedLabels_98 : decode cX13_readPackedLabels 98 = .ok (.iload_n 2, 1) := by decide +kernel
theorem dX13_readPackedLabels_99 : decode cX13_readPackedLabels 99 = .ok (.ifCond .ne 13, 3) := by decide +kernel
theorem dX13_readPackedLabels_102 : decode cX13_readPackedLabels 102 = .ok (.aload_n 0, 1) := by decide +kernel
theorem dX13_readPackedLabels_103 : decode cX13_readPackedLabels 103 = .ok (.getfield 138, 3) := by decide +kernel
theorem dX13_readPackedLabels_106 : decode cX13_readPackedLabels 106 = .ok (.iload_n 3, 1) := by decide +kernel
theorem dX13_readPackedLabels_107 : decode cX13_readPackedLabels 107 = .ok (.iaload, 1) := by decide +kernel
theorem dX13_readPackedLabels_108 : decode cX13_readPackedLabels 108 = .ok (.iload_n 1, 1) := by decide +kernel
theorem dX13_readPackedLabels_109 : decode cX13_readPackedLabels 109 = .ok (.if_icmp .ne 7, 3) := by decide +kernel
theorem dX13_readPackedLabels_112 : decode cX13_readPackedLabels 112 = .ok (.iconst 1, 1) := by decide +kernel
theorem dX13_readPackedLabels_113 : decode cX13_readPackedLabels 113 = .ok (.goto 4, 3) := by decide +kernel
theorem dX13_readPackedLabels_116 : decode cX13_readPackedLabels 116 = .ok (.iconst 0, 1) := by decide +kernel
theorem dX13_readPackedLabels_117 : decode cX13_readPackedLabels 117 = .ok (.istore_n 2, 1) := by decide +kernel
theorem dX13_readPackedLabels_118 : decode cX13_readPackedLabels 118 = .ok (.iinc 3 1, 3) := by decide +kernel
theorem dX13_readPackedLabels_121 : decode cX13_readPackedLabels 121 = .ok (.goto (-31), 3) := by decide +kernel
theorem dX13_readPackedLabels_124 : decode cX13_readPackedLabels 124 = .ok (.aload_n 0, 1) := by decide +kernel
theorem dX13_readPackedLabels_125 : decode cX13_readPackedLabels 125 = .ok (.getfield 563, 3) := by decide +kernel
theorem dX13_readPackedLabels_128 : decode cX13_readPackedLabels 128 = .ok (.sipush 300, 3) := by decide +kernel
theorem dX13_readPackedLabels_131 : decode cX13_readPackedLabels 131 = .ok (.if_icmp .ne 11, 3) := by decide +kernel
theorem dX13_readPackedLabels_134 : decode cX13_readPackedLabels 134 = .ok (.aload_n 0, 1) := by decide +kernel
theorem dX13_readPackedLabels_135 : decode cX13_readPackedLabels 135 = .ok (.iconst 5, 1) := by decide +kernel
theorem dX13_readPackedLabels_136 : decode cX13_readPackedLabels 136 = .ok (.invokevirtual 474, 3) := by decide +kernel
theorem dX13_readPackedLabels_139 : decode cX13_readPackedLabels 139 = .ok (.goto 54, 3) := by decide +kernel
theorem dX13_readPackedLabels_142 : decode cX13_readPackedLabels 142 = .ok (.iload_n 1, 1) := by decide +kernel
theorem dX13_readPackedLabels_143 : decode cX13_readPackedLabels 143 = .ok (.iconst (-1), 1) := by decide +kernel
theorem dX13_readPackedLabels_144 : decode cX13_readPackedLabels 144 = .ok (.if_icmp .ne 12, 3) := by decide +kernel
theorem dX13_readPackedLabels_147 : decode cX13_readPackedLabels 147 = .ok (.aload_n 0, 1) := by decide +kernel
theorem dX13_readPackedLabels_148 : decode cX13_readPackedLabels 148 = .ok (.bipush 13, 2) := by decide +kernel
theorem dX13_readPackedLabels_150 : decode cX13_readPackedLabels 150 = .ok (.invokevirtual 474, 3) := by decide +kernel
theorem dX13_readPackedLabels_153 : decode cX13_readPackedLabels 153 = .ok (.goto 40, 3) := by decide +kernel
theorem dX13_readPackedLabels_156 : decode cX13_readPackedLabels 156 = .ok (.iload_n 2, 1) := by decide +kernel
theorem dX13_readPackedLabels_157 : decode cX13_readPackedLabels 157 = .ok (.ifCond .eq 12, 3) := by decide +kernel
theorem dX13_readPackedLabels_160 : decode cX13_readPackedLabels 160 = .ok (.aload_n 0, 1) := by decide +kernel
theorem dX13_readPackedLabels_161 : decode cX13_readPackedLabels 161 = .ok (.bipush 14, 2) := by decide +kernel
theorem dX13_readPackedLabels_163 : decode cX13_readPackedLabels 163 = .ok (.invokevirtual 474, 3) := by decide +kernel
theorem dX13_readPackedLabels_166 : decode cX13_readPackedLabels 166 = .ok (.goto 27, 3) := by decide +kernel
theorem dX13_readPackedLabels_169 : decode cX13_readPackedLabels 169 = .ok (.aload_n 0, 1) := by decide +kernel
theorem dX13_readPackedLabels_170 : decode cX13_readPackedLabels 170 = .ok (.getfield 138, 3) := by decide +kernel
theorem dX13_readPackedLabels_173 : decode cX13_readPackedLabels 173 = .ok (.aload_n 0, 1) := by decide +kernel
theorem dX13_readPackedLabels_174 : decode cX13_readPackedLabels 174 = .ok (.getfield 563, 3) := by decide +kernel
theorem dX13_readPackedLabels_177 : decode cX13_readPackedLabels 177 = .ok (.iload_n 1, 1) := by decide +kernel
theorem dX13_readPackedLabels_178 : decode cX13_readPackedLabels 178 = .ok (.iastore, 1) := by decide +kernel
theorem dX13_readPackedLabels_179 : decode cX13_readPackedLabels 179 = .ok (.aload_n 0, 1) := by decide +kernel
theorem dX13_readPackedLabels_180 : decode cX13_readPackedLabels 180 = .ok (.dup, 1) := by decide +kernel
theorem dX13_readPackedLabels_181 : decode cX13_readPackedLabels 181 = .ok (.getfield 563, 3) := by decide +kernel
theorem dX13_readPackedLabels_184 : decode cX13_readPackedLabels 184 = .ok (.iconst 1, 1) := by decide +kernel
theorem dX13_readPackedLabels_185 : decode cX13_readPackedLabels 185 = .ok (.iadd, 1) := by decide +kernel
theorem dX13_readPackedLabels_186 : decode cX13_readPackedLabels 186 = .ok (.putfield 563, 3) := by decide +kernel
theorem dX13_readPackedLabels_189 : decode cX13_readPackedLabels 189 = .ok (.aload_n 0, 1) := by decide +kernel
theorem dX13_readPackedLabels_190 : decode cX13_readPackedLabels 190 = .ok (.invokevirtual 490, 3) := by decide +kernel
theorem dX13_readPackedLabels_193 : decode cX13_readPackedLabels 193 = .ok (.goto (-184), 3) := by decide +kernel
theorem dX13_readPackedLabels_196 : decode cX13_readPackedLabels 196 = .ok (.return_, 1) := by decide +kernel
theorem dX13_endNumber_0 : decode cX13_endNumber 0 = .ok (.aload_n 0, 1) := by decide +kernel
theorem dX13_endNumber_1 : decode cX13_endNumber 1 = .ok (.getfield 69, 3) := by decide +kernel
theorem dX13_endNumber_4 : decode cX13_endNumber 4 = .ok (.aload_n 0, 1) := by decide +kernel
theorem dX13_endNumber_5 : decode cX13_endNumber 5 = .ok (.getfield 518, 3) := by decide +kernel
theorem dX13_endNumber_8 : decode cX13_endNumber 8 = .ok (.iaload, 1) := by decide +kernel
theorem dX13_endNumber_9 : decode cX13_endNumber 9 = .ok (.istore_n 3, 1) := by decide +kernel
theorem dX13_endNumber_10 : decode cX13_endNumber 10 = .ok (.iload_n 1, 1) := by decide +kernel
theorem dX13_endNumber_11 : decode cX13_endNumber 11 = .ok (.iconst 1, 1) := by decide +kernel
theorem dX13_endNumber_12 : decode cX13_endNumber 12 = .ok (.isub, 1) := by decide +kernel
theorem dX13_endNumber_13 : decode cX13_endNumber 13 = .ok (.istore 4, 2) := by decide +kernel
theorem dX13_endNumber_15 : decode cX13_endNumber 15 = .ok (.iload 4, 2) := by decide +kernel
theorem dX13_endNumber_17 : decode cX13_endNumber 17 = .ok (.iload_n 3, 1) := by decide +kernel
theorem dX13_endNumber_18 : decode cX13_endNumber 18 = .ok (.aload_n 0, 1) := by decide +kernel
theorem dX13_endNumber_19 : decode cX13_endNumber 19 = .ok (.getfield 563, 3) := by decide +kernel
theorem dX13_endNumber_22 : decode cX13_endNumber 22 = .ok (.iadd, 1) := by decide +kernel
theorem dX13_endNumber_23 : decode cX13_endNumber 23 = .ok (.if_icmp .lt 7, 3) := by decide +kernel
theorem dX13_endNumber_26 : decode cX13_endNumber 26 = .ok (.iconst 1, 1) := by decide +kernel
theorem dX13_endNumber_27 : decode cX13_endNumber 27 = .ok (.goto 4, 3) := by decide +kernel
theorem dX13_endNumber_30 : decode cX13_endNumber 30 = .ok (.iconst 0, 1) := by decide +kernel
theorem dX13_endNumber_31 : decode cX13_endNumber 31 = .ok (.istore 5, 2) := by decide +kernel
theorem dX13_endNumber_33 : decode cX13_endNumber 33 = .ok (.iload_n 1, 1) := by decide +kernel
theorem dX13_endNumber_34 : decode cX13_endNumber 34 = .ok (.ldc_w 569, 3) := by decide +kernel
theorem dX13_endNumber_37 : decode cX13_endNumber 37 = .ok (.if_icmp .le 12, 3) := by decide +kernel
theorem dX13_endNumber_40 : decode cX13_endNumber 40 = .ok (.aload_n 0, 1) := by decide +kernel
theorem dX13_endNumber_41 : decode cX13_endNumber 41 = .ok (.iconst 5, 1) := by decide +kernel
theorem dX13_endNumber_42 : decode cX13_endNumber 42 = .ok (.iload_n 2, 1) := by decide +kernel
theorem dX13_endNumber_43 : decode cX13_endNumber 43 = .ok (.invokevirtual 437, 3) := by decide +kernel
theorem dX13_endNumber_46 : decode cX13_endNumber 46 = .ok (.goto 150, 3) := by decide +kernel
theorem dX13_endNumber_49 : decode cX13_endNumber 49 = .ok (.iload 4, 2) := by decide +kernel
theorem dX13_endNumber_51 : decode cX13_endNumber 51 = .ok (.iload_n 3, 1) := by decide +kernel
theorem dX13_endNumber_52 : decode cX13_endNumber 52 = .ok (.aload_n 0, 1) := by decide +kernel
theorem dX13_endNumber_53 : decode cX13_endNumber 53 = .ok (.getfield 563, 3) := by decide +kernel
theorem dX13_endNumber_56 : decode cX13_endNumber 56 = .ok (.iadd, 1) := by decide +kernel
theorem dX13_endNumber_57 : decode cX13_endNumber 57 = .ok (.aload_n 0, 1) := by decide +kernel
theorem dX13_endNumber_58 : decode cX13_endNumber 58 = .ok (.getfield 570, 3) := by decide +kernel
theorem dX13_endNumber_61 : decode cX13_endNumber 61 = .ok (.iadd, 1) := by decide +kernel
theorem dX13_endNumber_62 : decode cX13_endNumber 62 = .ok (.if_icmp .lt 27, 3) := by decide +kernel
theorem dX13_endNumber_65 : decode cX13_endNumber 65 = .ok (.aload_n 0, 1) := by decide +kernel
theorem dX13_endNumber_66 : decode cX13_endNumber 66 = .ok (.aload_n 0, 1) := by decide +kernel
theorem dX13_endNumber_67 : decode cX13_endNumber 67 = .ok (.getfield 533, 3) := by decide +kernel
theorem dX13_endNumber_70 : decode cX13_endNumber 70 = .ok (.sipush 20000, 3) := by decide +kernel
theorem dX13_endNumber_73 : decode cX13_endNumber 73 = .ok (.if_icmp .ne 7, 3) := by decide +kernel
theorem dX13_endNumber_76 : decode cX13_endNumber 76 = .ok (.iconst 5, 1) := by decide +kernel
theorem dX13_endNumber_77 : decode cX13_endNumber 77 = .ok (.goto 5, 3) := by decide +kernel
theorem dX13_endNumber_80 : decode cX13_endNumber 80 = .ok (.bipush 14, 2) := by decide +kernel
theorem dX13_endNumber_82 : decode cX13_endNumber 82 = .ok (.iload_n 2, 1) := by decide +kernel
theorem dX13_endNumber_83 : decode cX13_endNumber 83 = .ok (.invokevirtual 437, 3) := by decide +kernel
theorem dX13_endNumber_86 : decode cX13_endNumber 86 = .ok (.goto 110, 3) := by decide +kernel
theorem dX13_endNumber_89 : decode cX13_endNumber 89 = .ok (.aload_n 0, 1) := by decide +kernel
theorem dX13_endNumber_90 : decode cX13_endNumber 90 = .ok (.getfield 533, 3) := by decide +kernel
theorem dX13_endNumber_93 : decode cX13_endNumber 93 = .ok (.sipush 20000, 3) := by decide +kernel
theorem dX13_endNumber_96 : decode cX13_endNumber 96 = .ok (.if_icmp .ne 12, 3) := by decide +kernel
theorem dX13_endNumber_99 : decode cX13_endNumber 99 = .ok (.aload_n 0, 1) := by decide +kernel
theorem dX13_endNumber_100 : decode cX13_endNumber 100 = .ok (.iconst 5, 1) := by decide +kernel
theorem dX13_endNumber_101 : decode cX13_endNumber 101 = .ok (.iload_n 2, 1) := by decide +kernel
theorem dX13_endNumber_102 : decode cX13_endNumber 102 = .ok (.invokevirtual 437, 3) := by decide +kernel
theorem dX13_endNumber_105 : decode cX13_endNumber 105 = .ok (.goto 91, 3) := by decide +kernel
theorem dX13_endNumber_108 : decode cX13_endNumber 108 = .ok (.iload 5, 2) := by decide +kernel
theorem dX13_endNumber_110 : decode cX13_endNumber 110 = .ok (.ifCond .eq 17, 3) := by decide +kernel
theorem dX13_endNumber_113 : decode cX13_endNumber 113 = .ok (.iconst (-1), 1) := by decide +kernel
theorem dX13_endNumber_114 : decode cX13_endNumber 114 = .ok (.iload 4, 2) := by decide +kernel
theorem dX13_endNumber_116 : decode cX13_endNumber 116 = .ok (.iload_n 3, 1) := by decide +kernel
theorem dX13_endNumber_117 : decode cX13_endNumber 117 = .ok (.isub, 1) := by decide +kernel
theorem dX13_endNumber_118 : decode cX13_endNumber 118 = .ok (.aload_n 0, 1) := by decide +kernel
theorem dX13_endNumber_119 : decode cX13_endNumber 119 = .ok (.getfield 563, 3) := by decide +kernel
theorem dX13_endNumber_122 : decode cX13_endNumber 122 = .ok (.isub, 1) := by decide +kernel
theorem dX13_endNumber_123 : decode cX13_endNumber 123 = .ok (.isub, 1) := by decide +kernel
theorem dX13_endNumber_124 : decode cX13_endNumber 124 = .ok (.goto 38, 3) := by decide +kernel
theorem dX13_endNumber_127 : decode cX13_endNumber 127 = .ok (.iload 4, 2) := by decide +kernel
theorem dX13_endNumber_129 : decode cX13_endNumber 129 = .ok (.iload_n 3, 1) := by decide +kernel
theorem dX13_endNumber_130 : decode cX13_endNumber 130 = .ok (.if_icmp .ge 23, 3) := by decide +kernel
theorem dX13_endNumber_133 : decode cX13_endNumber 133 = .ok (.aload_n 0, 1) := by decide +kernel
theorem dX13_endNumber_134 : decode cX13_endNumber 134 = .ok (.getfield 73, 3) := by decide +kernel
theorem dX13_endNumber_137 : decode cX13_endNumber 137 = .ok (.aload_n 0, 1) := by decide +kernel
theorem dX13_endNumber_138 : decode cX13_endNumber 138 = .ok (.getfield 66, 3) := by decide +kernel
theorem dX13_endNumber_141 : decode cX13_endNumber 141 = .ok (.aload_n 0, 1) := by decide +kernel
theorem dX13_endNumber_142 : decode cX13_endNumber 142 = .ok (.getfield 518, 3) := by decide +kernel
theorem dX13_endNumber_145 : decode cX13_endNumber 145 = .ok (.iaload, 1) := by decide +kernel
theorem dX13_endNumber_146 : decode cX13_endNumber 146 = .ok (.iload 4, 2) := by decide +kernel
theorem dX13_endNumber_148 : decode cX13_endNumber 148 = .ok (.iadd, 1) := by decide +kernel
theorem dX13_endNumber_149 : decode cX13_endNumber 149 = .ok (.iaload, 1) := by decide +kernel
theorem dX13_endNumber_150 : decode cX13_endNumber 150 = .ok (.goto 12, 3) := by decide +kernel
theorem dX13_endNumber_153 : decode cX13_endNumber 153 = .ok (.aload_n 0, 1) := by decide +kernel
theorem dX13_endNumber_154 : decode cX13_endNumber 154 = .ok (.getfield 138, 3) := by decide +kernel
theorem dX13_endNumber_157 : decode cX13_endNumber 157 = .ok (.iload 4, 2) := by decide +kernel
theorem dX13_endNumber_159 : decode cX13_endNumber 159 = .ok (.iload_n 3, 1) := by decide +kernel
theorem dX13_endNumber_160 : decode cX13_endNumber 160 = .ok (.isub, 1) := by decide +kernel
theorem dX13_endNumber_161 : decode cX13_endNumber 161 = .ok (.iaload, 1) := by decide +kernel
theorem dX13_endNumber_162 : decode cX13_endNumber 162 = .ok (.istore 6, 2) := by decide +kernel
theorem dX13_endNumber_164 : decode cX13_endNumber 164 = .ok (.aload_n 0, 1) := by decide +kernel
theorem dX13_endNumber_165 : decode cX13_endNumber 165 = .ok (.iload 6, 2) := by decide +kernel
theorem dX13_endNumber_167 : decode cX13_endNumber 167 = .ok (.iload_n 2, 1) := by decide +kernel
theorem dX13_endNumber_168 : decode cX13_endNumber 168 = .ok (.invokevirtual 560, 3) := by decide +kernel
theorem dX13_endNumber_171 : decode cX13_endNumber 171 = .ok (.aload_n 0, 1) := by decide +kernel
theorem dX13_endNumber_172 : decode cX13_endNumber 172 = .ok (.iload 5, 2) := by decide +kernel
theorem dX13_endNumber_174 : decode cX13_endNumber 174 = .ok (.ifCond .ne 18, 3) := by decide +kernel
theorem dX13_endNumber_177 : decode cX13_endNumber 177 = .ok (.aload_n 0, 1) := by decide +kernel
theorem dX13_endNumber_178 : decode cX13_endNumber 178 = .ok (.getfield 51, 3) := by decide +kernel
theorem dX13_endNumber_181 : decode cX13_endNumber 181 = .ok (.iload 6, 2) := by decide +kernel
theorem dX13_endNumber_183 : decode cX13_endNumber 183 = .ok (.iaload, 1) := by decide +kernel
theorem dX13_endNumber_184 : decode cX13_endNumber 184 = .ok (.iconst 2, 1) := by decide +kernel
theorem dX13_endNumber_185 : decode cX13_endNumber 185 = .ok (.if_icmp .lt 7, 3) := by decide +kernel
theorem dX13_endNumber_188 : decode cX13_endNumber 188 = .ok (.iconst 1, 1) := by decide +kernel
theorem dX13_endNumber_189 : decode cX13_endNumber 189 = .ok (.goto 4, 3) := by decide +kernel
theorem dX13_endNumber_192 : decode cX13_endNumber 192 = .ok (.iconst 0, 1) := by decide +kernel
theorem dX13_endNumber_193 : decode cX13_endNumber 193 = .ok (.putfield 573, 3) := by decide +kernel
theorem dX13_endNumber_196 : decode cX13_endNumber 196 = .ok (.aload_n 0, 1) := by decide +kernel
theorem dX13_endNumber_197 : decode cX13_endNumber 197 = .ok (.iconst 0, 1) := by decide +kernel
theorem dX13_endNumber_198 : decode cX13_endNumber 198 = .ok (.putfield 576, 3) := by decide +kernel
theorem dX13_endNumber_201 : decode cX13_endNumber 201 = .ok (.aload_n 0, 1) := by decide +kernel
theorem dX13_endNumber_202 : decode cX13_endNumber 202 = .ok (.iconst 0, 1) := by decide +kernel
theorem dX13_endNumber_203 : decode cX13_endNumber 203 = .ok (.putfield 579, 3) := by decide +kernel
theorem dX13_endNumber_206 : decode cX13_endNumber 206 = .ok (.return_, 1) := by decide +kernel
theorem dX13_readLetter_0 : decode cX13_readLetter 0 = .ok (.iload_n 1, 1) := by decide +kernel
theorem dX13_readLetter_1 : decode cX13_readLetter 1 = .ok (.i2l, 1) := by decide +kernel
theorem dX13_readLetter_2 : decode cX13_readLetter 2 = .ok (.ldc2_w 504, 3) := by decide +kernel
theorem dX13_readLetter_5 : decode cX13_readLetter 5 = .ok (.ldc2_w 582, 3) := by decide +kernel
theorem dX13_readLetter_8 : decode cX13_readLetter 8 = .ok (.invokestatic 388, 3) := by decide +kernel
theorem dX13_readLetter_11 : decode cX13_readLetter 11 = .ok (.ifCond .eq 23, 3) := by decide +kernel
theorem dX13_readLetter_14 : decode cX13_readLetter 14 = .ok (.aload_n 0, 1) := by decide +kernel
theorem dX13_readLetter_15 : decode cX13_readLetter 15 = .ok (.bipush 20, 2) := by decide +kernel
theorem dX13_readLetter_17 : decode cX13_readLetter 17 = .ok (.aload_n 0, 1) := by decide +kernel
theorem dX13_readLetter_18 : decode cX13_readLetter 18 = .ok (.getfield 576, 3) := by decide +kernel
theorem dX13_readLetter_21 : decode cX13_readLetter 21 = .ok (.imul, 1) := by decide +kernel
theorem dX13_readLetter_22 : decode cX13_readLetter 22 = .ok (.iload_n 1, 1) := by decide +kernel
theorem dX13_readLetter_23 : decode cX13_readLetter 23 = .ok (.iadd, 1) := by decide +kernel
theorem dX13_readLetter_24 : decode cX13_readLetter 24 = .ok (.bipush 64, 2) := by decide +kernel
theorem dX13_readLetter_26 : decode cX13_readLetter 26 = .ok (.isub, 1) := by decide +kernel
theorem dX13_readLetter_27 : decode cX13_readLetter 27 = .ok (.iload_n 2, 1) := by decide +kernel
theorem dX13_readLetter_28 : decode cX13_readLetter 28 = .ok (.invokevirtual 584, 3) := by decide +kernel
theorem dX13_readLetter_31 : decode cX13_readLetter 31 = .ok (.goto 173, 3) := by decide +kernel
theorem dX13_readLetter_34 : decode cX13_readLetter 34 = .ok (.iload_n 1, 1) := by decide +kernel
theorem dX13_readLetter_35 : decode cX13_readLetter 35 = .ok (.i2l, 1) := by decide +kernel
theorem dX13_readLetter_36 : decode cX13_readLetter 36 = .ok (.ldc2_w 587, 3) := by decide +kernel
theorem dX13_readLetter_39 : decode cX13_readLetter 39 = .ok (.ldc2_w 589, 3) := by decide +kernel
theorem dX13_readLetter_42 : decode cX13_readLetter 42 = .ok (.invokestatic 388, 3) := by decide +kernel
theorem dX13_readLetter_45 : decode cX13_readLetter 45 = .ok (.ifCond .eq 47, 3) := by decide +kernel
theorem dX13_readLetter_48 : decode cX13_readLetter 48 = .ok (.aload_n 0, 1) := by decide +kernel
theorem dX13_readLetter_49 : decode cX13_readLetter 49 = .ok (.iconst 5, 1) := by decide +kernel
theorem dX13_readLetter_50 : decode cX13_readLetter 50 = .ok (.aload_n 0, 1) := by decide +kernel
theorem dX13_readLetter_51 : decode cX13_readLetter 51 = .ok (.getfield 576, 3) := by decide +kernel
theorem dX13_readLetter_54 : decode cX13_readLetter 54 = .ok (.imul, 1) := by decide +kernel
theorem dX13_readLetter_55 : decode cX13_readLetter 55 = .ok (.iload_n 1, 1) := by decide +kernel
theorem dX13_readLetter_56 : decode cX13_readLetter 56 = .ok (.iadd, 1) := by decide +kernel
theorem dX13_readLetter_57 : decode cX13_readLetter 57 = .ok (.bipush 84, 2) := by decide +kernel
theorem dX13_readLetter_59 : decode cX13_readLetter 59 = .ok (.isub, 1) := by decide +kernel
theorem dX13_readLetter_60 : decode cX13_readLetter 60 = .ok (.putfield 576, 3) := by decide +kernel
theorem dX13_readLetter_63 : decode cX13_readLetter 63 = .ok (.aload_n 0, 1) := by decide +kernel
theorem dX13_readLetter_64 : decode cX13_readLetter 64 = .ok (.iconst 1, 1) := by decide +kernel
theorem dX13_readLetter_65 : decode cX13_readLetter 65 = .ok (.putfield 579, 3) := by decide +kernel
theorem dX13_readLetter_68 : decode cX13_readLetter 68 = .ok (.aload_n 0, 1) := by decide +kernel
theorem dX13_readLetter_69 : decode cX13_readLetter 69 = .ok (.iconst 0, 1) := by decide +kernel
theorem dX13_readLetter_70 : decode cX13_readLetter 70 = .ok (.putfield 573, 3) := by decide +kernel
theorem dX13_readLetter_73 : decode cX13_readLetter 73 = .ok (.aload_n 0, 1) := by decide +kernel
theorem dX13_readLetter_74 : decode cX13_readLetter 74 = .ok (.getfield 576, 3) := by decide +kernel
theorem dX13_readLetter_77 : decode cX13_readLetter 77 = .ok (.ldc_w 569, 3) := by decide +kernel
theorem dX13_readLetter_80 : decode cX13_readLetter 80 = .ok (.if_icmp .le 124, 3) := by decide +kernel
theorem dX13_readLetter_83 : decode cX13_readLetter 83 = .ok (.aload_n 0, 1) := by decide +kernel
theorem dX13_readLetter_84 : decode cX13_readLetter 84 = .ok (.iconst 5, 1) := by decide +kernel
theorem dX13_readLetter_85 : decode cX13_readLetter 85 = .ok (.iload_n 2, 1) := by decide +kernel
theorem dX13_readLetter_86 : decode cX13_readLetter 86 = .ok (.invokevirtual 437, 3) := by decide +kernel
theorem dX13_readLetter_89 : decode cX13_readLetter 89 = .ok (.goto 115, 3) := by decide +kernel
theorem dX13_readLetter_92 : decode cX13_readLetter 92 = .ok (.iload_n 1, 1) := by decide +kernel
theorem dX13_readLetter_93 : decode cX13_readLetter 93 = .ok (.bipush 90, 2) := by decide +kernel
theorem dX13_readLetter_95 : decode cX13_readLetter 95 = .ok (.if_icmp .ne 76, 3) := by decide +kernel
theorem dX13_readLetter_98 : decode cX13_readLetter 98 = .ok (.aload_n 0, 1) := by decide +kernel
theorem dX13_readLetter_99 : decode cX13_readLetter 99 = .ok (.getfield 573, 3) := by decide +kernel
theorem dX13_readLetter_102 : decode cX13_readLetter 102 = .ok (.ifCond .eq 22, 3) := by decide +kernel
theorem dX13_readLetter_105 : decode cX13_readLetter 105 = .ok (.aload_n 0, 1) := by decide +kernel
theorem dX13_readLetter_106 : decode cX13_readLetter 106 = .ok (.getfield 570, 3) := by decide +kernel
theorem dX13_readLetter_109 : decode cX13_readLetter 109 = .ok (.sipush 300, 3) := by decide +kernel
theorem dX13_readLetter_112 : decode cX13_readLetter 112 = .ok (.if_icmp .ne 12, 3) := by decide +kernel
theorem dX13_readLetter_115 : decode cX13_readLetter 115 = .ok (.aload_n 0, 1) := by decide +kernel
theorem dX13_readLetter_116 : decode cX13_readLetter 116 = .ok (.iconst 5, 1) := by decide +kernel
theorem dX13_readLetter_117 : decode cX13_readLetter 117 = .ok (.iload_n 2, 1) := by decide +kernel
theorem dX13_readLetter_118 : decode cX13_readLetter 118 = .ok (.invokevirtual 437, 3) := by decide +kernel
theorem dX13_readLetter_121 : decode cX13_readLetter 121 = .ok (.goto 83, 3) := by decide +kernel
theorem dX13_readLetter_124 : decode cX13_readLetter 124 = .ok (.aload_n 0, 1) := by decide +kernel
theorem dX13_readLetter_125 : decode cX13_readLetter 125 = .ok (.getfield 573, 3) := by decide +kernel
theorem dX13_readLetter_128 : decode cX13_readLetter 128 = .ok (.ifCond .ne 13, 3) := by decide +kernel
theorem dX13_readLetter_131 : decode cX13_readLetter 131 = .ok (.aload_n 0, 1) := by decide +kernel
theorem dX13_readLetter_132 : decode cX13_readLetter 132 = .ok (.bipush 14, 2) := by decide +kernel
theorem dX13_readLetter_134 : decode cX13_readLetter 134 = .ok (.iload_n 2, 1) := by decide +kernel
theorem dX13_readLetter_135 : decode cX13_readLetter 135 = .ok (.invokevirtual 437, 3) := by decide +kernel
theorem dX13_readLetter_138 : decode cX13_readLetter 138 = .ok (.goto 66, 3) := by decide +kernel
theorem dX13_readLetter_141 : decode cX13_readLetter 141 = .ok (.aload_n 0, 1) := by decide +kernel
theorem dX13_readLetter_142 : decode cX13_readLetter 142 = .ok (.getfield 97, 3) := by decide +kernel
theorem dX13_readLetter_145 : decode cX13_readLetter 145 = .ok (.aload_n 0, 1) := by decide +kernel
theorem dX13_readLetter_146 : decode cX13_readLetter 146 = .ok (.getfield 533, 3) := by decide +kernel
theorem dX13_readLetter_149 : decode cX13_readLetter 149 = .ok (.iconst 1, 1) := by decide +kernel
theorem dX13_readLetter_150 : decode cX13_readLetter 150 = .ok (.isub, 1) := by decide +kernel
theorem dX13_readLetter_151 : decode cX13_readLetter 151 = .ok (.iconst 1, 1) := by decide +kernel
theorem dX13_readLetter_152 : decode cX13_readLetter 152 = .ok (.bastore, 1) := by decide +kernel
theorem dX13_readLetter_153 : decode cX13_readLetter 153 = .ok (.aload_n 0, 1) := by decide +kernel
theorem dX13_readLetter_154 : decode cX13_readLetter 154 = .ok (.dup, 1) := by decide +kernel
theorem dX13_readLetter_155 : decode cX13_readLetter 155 = .ok (.getfield 570, 3) := by decide +kernel
theorem dX13_readLetter_158 : decode cX13_readLetter 158 = .ok (.iconst 1, 1) := by decide +kernel
theorem dX13_readLetter_159 : decode cX13_readLetter 159 = .ok (.iadd, 1) := by decide +kernel
theorem dX13_readLetter_160 : decode cX13_readLetter 160 = .ok (.putfield 570, 3) := by decide +kernel
theorem dX13_readLetter_163 : decode cX13_readLetter 163 = .ok (.aload_n 0, 1) := by decide +kernel
theorem dX13_readLetter_164 : decode cX13_readLetter 164 = .ok (.iconst 0, 1) := by decide +kernel
theorem dX13_readLetter_165 : decode cX13_readLetter 165 = .ok (.putfield 573, 3) := by decide +kernel
theorem dX13_readLetter_168 : decode cX13_readLetter 168 = .ok (.goto 36, 3) := by decide +kernel
theorem dX13_readLetter_171 : decode cX13_readLetter 171 = .ok (.iload_n 1, 1) := by decide +kernel
theorem dX13_readLetter_172 : decode cX13_readLetter 172 = .ok (.bipush 63, 2) := by decide +kernel
theorem dX13_readLetter_174 : decode cX13_readLetter 174 = .ok (.if_icmp .ne 23, 3) := by decide +kernel
theorem dX13_readLetter_177 : decode cX13_readLetter 177 = .ok (.aload_n 0, 1) := by decide +kernel
theorem dX13_readLetter_178 : decode cX13_readLetter 178 = .ok (.getfield 579, 3) := by decide +kernel
theorem dX13_readLetter_181 : decode cX13_readLetter 181 = .ok (.ifCond .ne 16, 3) := by decide +kernel
theorem dX13_readLetter_184 : decode cX13_readLetter 184 = .ok (.aload_n 0, 1) := by decide +kernel
theorem dX13_readLetter_185 : decode cX13_readLetter 185 = .ok (.iconst 1, 1) := by decide +kernel
theorem dX13_readLetter_186 : decode cX13_readLetter 186 = .ok (.putfield 554, 3) := by decide +kernel
theorem dX13_readLetter_189 : decode cX13_readLetter 189 = .ok (.aload_n 0, 1) := by decide +kernel
theorem dX13_readLetter_190 : decode cX13_readLetter 190 = .ok (.iconst 0, 1) := by decide +kernel
theorem dX13_readLetter_191 : decode cX13_readLetter 191 = .ok (.putfield 573, 3) := by decide +kernel
theorem dX13_readLetter_194 : decode cX13_readLetter 194 = .ok (.goto 10, 3) := by decide +kernel
theorem dX13_readLetter_197 : decode cX13_readLetter 197 = .ok (.aload_n 0, 1) := by decide +kernel
theorem dX13_readLetter_198 : decode cX13_readLetter 198 = .ok (.bipush 14, 2) := by decide +kernel
theorem dX13_readLetter_200 : decode cX13_readLetter 200 = .ok (.iload_n 2, 1) := by decide +kernel
theorem dX13_readLetter_201 : decode cX13_readLetter 201 = .ok (.invokevirtual 437, 3) := by decide +kernel
theorem dX13_readLetter_204 : decode cX13_readLetter 204 = .ok (.return_, 1) := by decide +kernel
theorem dX13_readPacked_0 : decode cX13_readPacked 0 = .ok (.aload_n 0, 1) := by decide +kernel
theorem dX13_readPacked_1 : decode cX13_readPacked 1 = .ok (.invokevirtual 591, 3) := by decide +kernel
theorem dX13_readPacked_4 : decode cX13_readPacked 4 = .ok (.aload_n 0, 1) := by decide +kernel
theorem dX13_readPacked_5 : decode cX13_readPacked 5 = .ok (.getfield 418, 3) := by decide +kernel
theorem dX13_readPacked_8 : decode cX13_readPacked 8 = .ok (.ifCond .le 4, 3) := by decide +kernel
theorem dX13_readPacked_11 : decode cX13_readPacked 11 = .ok (.return_, 1) := by decide +kernel
theorem dX13_readPacked_12 : decode cX13_readPacked 12 = .ok (.aload_n 0, 1) := by decide +kernel
theorem dX13_readPacked_13 : decode cX13_readPacked 13 = .ok (.iconst 0, 1) := by decide +kernel
theorem dX13_readPacked_14 : decode cX13_readPacked 14 = .ok (.putfield 576, 3) := by decide +kernel
theorem dX13_readPacked_17 : decode cX13_readPacked 17 = .ok (.aload_n 0, 1) := by decide +kernel
theorem dX13_readPacked_18 : decode cX13_readPacked 18 = .ok (.iconst 0, 1) := by decide +kernel
theorem dX13_readPacked_19 : decode cX13_readPacked 19 = .ok (.putfield 579, 3) := by decide +kernel
theorem dX13_readPacked_22 : decode cX13_readPacked 22 = .ok (.aload_n 0, 1) := by decide +kernel
theorem dX13_readPacked_23 : decode cX13_readPacked 23 = .ok (.iconst 0, 1) := by decide +kernel
theorem dX13_readPacked_24 : decode cX13_readPacked 24 = .ok (.putfield 573, 3) := by decide +kernel
theorem dX13_readPacked_27 : decode cX13_readPacked 27 = .ok (.aload_n 0, 1) := by decide +kernel
theorem dX13_readPacked_28 : decode cX13_readPacked 28 = .ok (.iconst 0, 1) := by decide +kernel
theorem dX13_readPacked_29 : decode cX13_readPacked 29 = .ok (.putfield 570, 3) := by decide +kernel
theorem dX13_readPacked_32 : decode cX13_readPacked 32 = .ok (.aload_n 0, 1) := by decide +kernel
theorem dX13_readPacked_33 : decode cX13_readPacked 33 = .ok (.invokevirtual 490, 3) := by decide +kernel
theorem dX13_readPacked_36 : decode cX13_readPacked 36 = .ok (.aload_n 0, 1) := by decide +kernel
theorem dX13_readPacked_37 : decode cX13_readPacked 37 = .ok (.getfield 418, 3) := by decide +kernel
theorem dX13_readPacked_40 : decode cX13_readPacked 40 = .ok (.ifCond .ne 84, 3) := by decide +kernel
theorem dX13_readPacked_43 : decode cX13_readPacked 43 = .ok (.aload_n 0, 1) := by decide +kernel
theorem dX13_readPacked_44 : decode cX13_readPacked 44 = .ok (.getfield 452, 3) := by decide +kernel
theorem dX13_readPacked_47 : decode cX13_readPacked 47 = .ok (.bipush 46, 2) := by decide +kernel
theorem dX13_readPacked_49 : decode cX13_readPacked 49 = .ok (.if_icmp .eq 75, 3) := by decide +kernel
theorem dX13_readPacked_52 : decode cX13_readPacked 52 = .ok (.aload_n 0, 1) := by decide +kernel
theorem dX13_readPacked_53 : decode cX13_readPacked 53 = .ok (.getfield 452, 3) := by decide +kernel
theorem dX13_readPacked_56 : decode cX13_readPacked 56 = .ok (.iconst 1, 1) := by decide +kernel
theorem dX13_readPacked_57 : decode cX13_readPacked 57 = .ok (.if_icmp .eq 9, 3) := by decide +kernel
theorem dX13_readPacked_60 : decode cX13_readPacked 60 = .ok (.aload_n 0, 1) := by decide +kernel
theorem dX13_readPacked_61 : decode cX13_readPacked 61 = .ok (.iconst 4, 1) := by decide +kernel
theorem dX13_readPacked_62 : decode cX13_readPacked 62 = .ok (.invokevirtual 474, 3) := by decide +kernel
theorem dX13_readPacked_65 : decode cX13_readPacked 65 = .ok (.return_, 1) := by decide +kernel
theorem dX13_readPacked_66 : decode cX13_readPacked 66 = .ok (.iconst 0, 1) := by decide +kernel
theorem dX13_readPacked_67 : decode cX13_readPacked 67 = .ok (.istore_n 1, 1) := by decide +kernel
theorem dX13_readPacked_68 : decode cX13_readPacked 68 = .ok (.iload_n 1, 1) := by decide +kernel
theorem dX13_readPacked_69 : decode cX13_readPacked 69 = .ok (.aload_n 0, 1) := by decide +kernel
theorem dX13_readPacked_70 : decode cX13_readPacked 70 = .ok (.getfield 421, 3) := by decide +kernel
theorem dX13_readPacked_73 : decode cX13_readPacked 73 = .ok (.if_icmp .ge 37, 3) := by decide +kernel
theorem dX13_readPacked_76 : decode cX13_readPacked 76 = .ok (.aload_n 0, 1) := by decide +kernel
theorem dX13_readPacked_77 : decode cX13_readPacked 77 = .ok (.getfield 418, 3) := by decide +kernel
theorem dX13_readPacked_80 : decode cX13_readPacked 80 = .ok (.ifCond .ne 30, 3) := by decide +kernel
theorem dX13_readPacked_83 : decode cX13_readPacked 83 = .ok (.aload_n 0, 1) := by decide +kernel
theorem dX13_readPacked_84 : decode cX13_readPacked 84 = .ok (.aload_n 0, 1) := by decide +kernel
theorem dX13_readPacked_85 : decode cX13_readPacked 85 = .ok (.getfield 8, 3) := by decide +kernel
theorem dX13_readPacked_88 : decode cX13_readPacked 88 = .ok (.aload_n 0, 1) := by decide +kernel
theorem dX13_readPacked_89 : decode cX13_readPacked 89 = .ok (.getfield 424, 3) := by decide +kernel
theorem dX13_readPacked_92 : decode cX13_readPacked 92 = .ok (.iload_n 1, 1) := by decide +kernel
theorem dX13_readPacked_93 : decode cX13_readPacked 93 = .ok (.iadd, 1) := by decide +kernel
theorem dX13_readPacked_94 : decode cX13_readPacked 94 = .ok (.iaload, 1) := by decide +kernel
theorem dX13_readPacked_95 : decode cX13_readPacked 95 = .ok (.aload_n 0, 1) := by decide +kernel
theorem dX13_readPacked_96 : decode cX13_readPacked 96 = .ok (.getfield 424, 3) := by decide +kernel
theorem dX13_readPacked_99 : decode cX13_readPacked 99 = .ok (.iload_n 1, 1) := by decide +kernel
theorem dX13_readPacked_100 : decode cX13_readPacked 100 = .ok (.iadd, 1) := by decide +kernel
theorem dX13_readPacked_101 : decode cX13_readPacked 101 = .ok (.invokevirtual 594, 3) := by decide +kernel
theorem dX13_readPacked_104 : decode cX13_readPacked 104 = .ok (.iinc 1 1, 3) := by decide +kernel
theorem dX13_readPacked_107 : decode cX13_readPacked 107 = .ok (.goto (-39), 3) := by decide +kernel
theorem dX13_readPacked_110 : decode cX13_readPacked 110 = .ok (.aload_n 0, 1) := by decide +kernel
theorem dX13_readPacked_111 : decode cX13_readPacked 111 = .ok (.getfield 418, 3) := by decide +kernel
theorem dX13_readPacked_114 : decode cX13_readPacked 114 = .ok (.ifCond .ne (-78), 3) := by decide +kernel
theorem dX13_readPacked_117 : decode cX13_readPacked 117 = .ok (.aload_n 0, 1) := by decide +kernel
theorem dX13_readPacked_118 : decode cX13_readPacked 118 = .ok (.invokevirtual 490, 3) := by decide +kernel
theorem dX13_readPacked_121 : decode cX13_readPacked 121 = .ok (.goto (-85), 3) := by decide +kernel
theorem dX13_readPacked_124 : decode cX13_readPacked 124 = .ok (.aload_n 0, 1) := by decide +kernel
theorem dX13_readPacked_125 : decode cX13_readPacked 125 = .ok (.getfield 418, 3) := by decide +kernel
theorem dX13_readPacked_128 : decode cX13_readPacked 128 = .ok (.ifCond .ne 16, 3) := by decide +kernel
theorem dX13_readPacked_131 : decode cX13_readPacked 131 = .ok (.aload_n 0, 1) := by decide +kernel
theorem dX13_readPacked_132 : decode cX13_readPacked 132 = .ok (.getfield 579, 3) := by decide +kernel
theorem dX13_readPacked_135 : decode cX13_readPacked 135 = .ok (.ifCond .eq 9, 3) := by decide +kernel
theorem dX13_readPacked_138 : decode cX13_readPacked 138 = .ok (.aload_n 0, 1) := by decide +kernel
theorem dX13_readPacked_139 : decode cX13_readPacked 139 = .ok (.bipush 14, 2) := by decide +kernel
theorem dX13_readPacked_141 : decode cX13_readPacked 141 = .ok (.invokevirtual 474, 3) := by decide +kernel
theorem dX13_readPacked_144 : decode cX13_readPacked 144 = .ok (.return_, 1) := by decide +kernel
theorem dX13_readTheorem_0 : decode cX13_readTheorem 0 = .ok (.aload_n 0, 1) := by decide +kernel
theorem dX13_readTheorem_1 : decode cX13_readTheorem 1 = .ok (.bipush 61, 2) := by decide +kernel
theorem dX13_readTheorem_3 : decode cX13_readTheorem 3 = .ok (.invokevirtual 597, 3) := by decide +kernel
theorem dX13_readTheorem_6 : decode cX13_readTheorem 6 = .ok (.aload_n 0, 1) := by decide +kernel
theorem dX13_readTheorem_7 : decode cX13_readTheorem 7 = .ok (.getfield 418, 3) := by decide +kernel
theorem dX13_readTheorem_10 : decode cX13_readTheorem 10 = .ok (.ifCond .ne 7, 3) := by decide +kernel
theorem dX13_readTheorem_13 : decode cX13_readTheorem 13 = .ok (.aload_n 0, 1) := by decide +kernel
theorem dX13_readTheorem_14 : decode cX13_readTheorem 14 = .ok (.invokevirtual 600, 3) := by decide +kernel
theorem dX13_readTheorem_17 : decode cX13_readTheorem 17 = .ok (.aload_n 0, 1) := by decide +kernel
theorem dX13_readTheorem_18 : decode cX13_readTheorem 18 = .ok (.getfield 418, 3) := by decide +kernel
theorem dX13_readTheorem_21 : decode cX13_readTheorem 21 = .ok (.ifCond .le 4, 3) := by decide +kernel
theorem dX13_readTheorem_24 : decode cX13_readTheorem 24 = .ok (.return_, 1) := by decide +kernel
theorem dX13_readTheorem_25 : decode cX13_readTheorem 25 = .ok (.aload_n 0, 1) := by decide +kernel
theorem dX13_readTheorem_26 : decode cX13_readTheorem 26 = .ok (.iconst 0, 1) := by decide +kernel
theorem dX13_readTheorem_27 : decode cX13_readTheorem 27 = .ok (.putfield 554, 3) := by decide +kernel
theorem dX13_readTheorem_30 : decode cX13_readTheorem 30 = .ok (.aload_n 0, 1) := by decide +kernel
theorem dX13_readTheorem_31 : decode cX13_readTheorem 31 = .ok (.invokevirtual 490, 3) := by decide +kernel
theorem dX13_readTheorem_34 : decode cX13_readTheorem 34 = .ok (.aload_n 0, 1) := by decide +kernel
theorem dX13_readTheorem_35 : decode cX13_readTheorem 35 = .ok (.getfield 418, 3) := by decide +kernel
theorem dX13_readTheorem_38 : decode cX13_readTheorem 38 = .ok (.ifCond .ne 40, 3) := by decide +kernel
theorem dX13_readTheorem_41 : decode cX13_readTheorem 41 = .ok (.aload_n 0, 1) := by decide +kernel
theorem dX13_readTheorem_42 : decode cX13_readTheorem 42 = .ok (.getfield 452, 3) := by decide +kernel
theorem dX13_readTheorem_45 : decode cX13_readTheorem 45 = .ok (.iconst 1, 1) := by decide +kernel
theorem dX13_readTheorem_46 : decode cX13_readTheorem 46 = .ok (.if_icmp .ne 32, 3) := by decide +kernel
theorem dX13_readTheorem_49 : decode cX13_readTheorem 49 = .ok (.aload_n 0, 1) := by decide +kernel
theorem dX13_readTheorem_50 : decode cX13_readTheorem 50 = .ok (.getfield 421, 3) := by decide +kernel
theorem dX13_readTheorem_53 : decode cX13_readTheorem 53 = .ok (.iconst 1, 1) := by decide +kernel
theorem dX13_readTheorem_54 : decode cX13_readTheorem 54 = .ok (.if_icmp .ne 24, 3) := by decide +kernel
theorem dX13_readTheorem_57 : decode cX13_readTheorem 57 = .ok (.aload_n 0, 1) := by decide +kernel
theorem dX13_readTheorem_58 : decode cX13_readTheorem 58 = .ok (.getfield 8, 3) := by decide +kernel
theorem dX13_readTheorem_61 : decode cX13_readTheorem 61 = .ok (.aload_n 0, 1) := by decide +kernel
theorem dX13_readTheorem_62 : decode cX13_readTheorem 62 = .ok (.getfield 424, 3) := by decide +kernel
theorem dX13_readTheorem_65 : decode cX13_readTheorem 65 = .ok (.iaload, 1) := by decide +kernel
theorem dX13_readTheorem_66 : decode cX13_readTheorem 66 = .ok (.bipush 40, 2) := by decide +kernel
theorem dX13_readTheorem_68 : decode cX13_readTheorem 68 = .ok (.if_icmp .ne 10, 3) := by decide +kernel
theorem dX13_readTheorem_71 : decode cX13_readTheorem 71 = .ok (.aload_n 0, 1) := by decide +kernel
theorem dX13_readTheorem_72 : decode cX13_readTheorem 72 = .ok (.invokevirtual 603, 3) := by decide +kernel
theorem dX13_readTheorem_75 : decode cX13_readTheorem 75 = .ok (.goto 7, 3) := by decide +kernel
theorem dX13_readTheorem_78 : decode cX13_readTheorem 78 = .ok (.aload_n 0, 1) := by decide +kernel
theorem dX13_readTheorem_79 : decode cX13_readTheorem 79 = .ok (.invokevirtual 606, 3) := by decide +kernel
theorem dX13_readTheorem_82 : decode cX13_readTheorem 82 = .ok (.aload_n 0, 1) := by decide +kernel
theorem dX13_readTheorem_83 : decode cX13_readTheorem 83 = .ok (.getfield 418, 3) := by decide +kernel
theorem dX13_readTheorem_86 : decode cX13_readTheorem 86 = .ok (.ifCond .le 4, 3) := by decide +kernel
theorem dX13_readTheorem_89 : decode cX13_readTheorem 89 = .ok (.return_, 1) := by decide +kernel
theorem dX13_readTheorem_90 : decode cX13_readTheorem 90 = .ok (.aload_n 0, 1) := by decide +kernel
theorem dX13_readTheorem_91 : decode cX13_readTheorem 91 = .ok (.aload_n 0, 1) := by decide +kernel
theorem dX13_readTheorem_92 : decode cX13_readTheorem 92 = .ok (.getfield 424, 3) := by decide +kernel
theorem dX13_readTheorem_95 : decode cX13_readTheorem 95 = .ok (.putfield 609, 3) := by decide +kernel
theorem dX13_readTheorem_98 : decode cX13_readTheorem 98 = .ok (.aload_n 0, 1) := by decide +kernel
theorem dX13_readTheorem_99 : decode cX13_readTheorem 99 = .ok (.getfield 554, 3) := by decide +kernel
theorem dX13_readTheorem_102 : decode cX13_readTheorem 102 = .ok (.ifCond .ne 7, 3) := by decide +kernel
theorem dX13_readTheorem_105 : decode cX13_readTheorem 105 = .ok (.aload_n 0, 1) := by decide +kernel
theorem dX13_readTheorem_106 : decode cX13_readTheorem 106 = .ok (.invokevirtual 612, 3) := by decide +kernel
theorem dX13_readTheorem_109 : decode cX13_readTheorem 109 = .ok (.aload_n 0, 1) := by decide +kernel
theorem dX13_readTheorem_110 : decode cX13_readTheorem 110 = .ok (.getfield 418, 3) := by decide +kernel
theorem dX13_readTheorem_113 : decode cX13_readTheorem 113 = .ok (.ifCond .ne 23, 3) := by decide +kernel
theorem dX13_readTheorem_116 : decode cX13_readTheorem 116 = .ok (.aload_n 0, 1) := by decide +kernel
theorem dX13_readTheorem_117 : decode cX13_readTheorem 117 = .ok (.invokevirtual 615, 3) := by decide +kernel
theorem dX13_readTheorem_120 : decode cX13_readTheorem 120 = .ok (.aload_n 0, 1) := by decide +kernel
theorem dX13_readTheorem_121 : decode cX13_readTheorem 121 = .ok (.aload_n 0, 1) := by decide +kernel
theorem dX13_readTheorem_122 : decode cX13_readTheorem 122 = .ok (.getfield 554, 3) := by decide +kernel
theorem dX13_readTheorem_125 : decode cX13_readTheorem 125 = .ok (.ifCond .eq 7, 3) := by decide +kernel
theorem dX13_readTheorem_128 : decode cX13_readTheorem 128 = .ok (.iconst 4, 1) := by decide +kernel
theorem dX13_readTheorem_129 : decode cX13_readTheorem 129 = .ok (.goto 4, 3) := by decide +kernel
theorem dX13_readTheorem_132 : decode cX13_readTheorem 132 = .ok (.iconst 3, 1) := by decide +kernel
theorem dX13_readTheorem_133 : decode cX13_readTheorem 133 = .ok (.invokevirtual 545, 3) := by decide +kernel
theorem dX13_readTheorem_136 : decode cX13_readTheorem 136 = .ok (.return_, 1) := by decide +kernel
theorem dX13_wrong_0 : decode cX13_wrong 0 = .ok (.aload_n 0, 1) := by decide +kernel
theorem dX13_wrong_1 : decode cX13_wrong 1 = .ok (.aload_n 0, 1) := by decide +kernel
theorem dX13_wrong_2 : decode cX13_wrong 2 = .ok (.getfield 618, 3) := by decide +kernel
theorem dX13_wrong_5 : decode cX13_wrong 5 = .ok (.ifCond .ne 7, 3) := by decide +kernel
theorem dX13_wrong_8 : decode cX13_wrong 8 = .ok (.iload_n 1, 1) := by decide +kernel
theorem dX13_wrong_9 : decode cX13_wrong 9 = .ok (.goto 7, 3) := by decide +kernel
theorem dX13_wrong_12 : decode cX13_wrong 12 = .ok (.aload_n 0, 1) := by decide +kernel
theorem dX13_wrong_13 : decode cX13_wrong 13 = .ok (.getfield 618, 3) := by decide +kernel
theorem dX13_wrong_16 : decode cX13_wrong 16 = .ok (.putfield 618, 3) := by decide +kernel
theorem dX13_wrong_19 : decode cX13_wrong 19 = .ok (.return_, 1) := by decide +kernel
theorem dX13_pushRow_0 : decode cX13_pushRow 0 = .ok (.aload_n 0, 1) := by decide +kernel
theorem dX13_pushRow_1 : decode cX13_pushRow 1 = .ok (.getfield 621, 3) := by decide +kernel
theorem dX13_pushRow_4 : decode cX13_pushRow 4 = .ok (.sipush 200, 3) := by decide +kernel
theorem dX13_pushRow_7 : decode cX13_pushRow 7 = .ok (.if_icmp .eq 27, 3) := by decide +kernel
theorem dX13_pushRow_10 : decode cX13_pushRow 10 = .ok (.iload_n 3, 1) := by decide +kernel
theorem dX13_pushRow_11 : decode cX13_pushRow 11 = .ok (.sipush 1000, 3) := by decide +kernel
theorem dX13_pushRow_14 : decode cX13_pushRow 14 = .ok (.if_icmp .gt 20, 3) := by decide +kernel
theorem dX13_pushRow_17 : decode cX13_pushRow 17 = .ok (.aload_n 0, 1) := by decide +kernel
theorem dX13_pushRow_18 : decode cX13_pushRow 18 = .ok (.getfield 624, 3) := by decide +kernel
theorem dX13_pushRow_21 : decode cX13_pushRow 21 = .ok (.aload_n 0, 1) := by decide +kernel
theorem dX13_pushRow_22 : decode cX13_pushRow 22 = .ok (.getfield 627, 3) := by decide +kernel
theorem dX13_pushRow_25 : decode cX13_pushRow 25 = .ok (.iadd, 1) := by decide +kernel
theorem dX13_pushRow_26 : decode cX13_pushRow 26 = .ok (.iload_n 3, 1) := by decide +kernel
theorem dX13_pushRow_27 : decode cX13_pushRow 27 = .ok (.iadd, 1) := by decide +kernel
theorem dX13_pushRow_28 : decode cX13_pushRow 28 = .ok (.ldc_w 630, 3) := by decide +kernel
theorem dX13_pushRow_31 : decode cX13_pushRow 31 = .ok (.if_icmp .le 9, 3) := by decide +kernel
theorem dX13_pushRow_34 : decode cX13_pushRow 34 = .ok (.aload_n 0, 1) := by decide +kernel
theorem dX13_pushRow_35 : decode cX13_pushRow 35 = .ok (.iconst 5, 1) := by decide +kernel
theorem dX13_pushRow_36 : decode cX13_pushRow 36 = .ok (.invokevirtual 631, 3) := by decide +kernel
theorem dX13_pushRow_39 : decode cX13_pushRow 39 = .ok (.return_, 1) := by decide +kernel
theorem dX13_pushRow_40 : decode cX13_pushRow 40 = .ok (.iconst 0, 1) := by decide +kernel
theorem dX13_pushRow_41 : decode cX13_pushRow 41 = .ok (.istore 5, 2) := by decide +kernel
theorem dX13_pushRow_43 : decode cX13_pushRow 43 = .ok (.iload 5, 2) := by decide +kernel
theorem dX13_pushRow_45 : decode cX13_pushRow 45 = .ok (.iload_n 3, 1) := by decide +kernel
theorem dX13_pushRow_46 : decode cX13_pushRow 46 = .ok (.if_icmp .ge 27, 3) := by decide +kernel
theorem dX13_pushRow_49 : decode cX13_pushRow 49 = .ok (.aload_n 0, 1) := by decide +kernel
theorem dX13_pushRow_50 : decode cX13_pushRow 50 = .ok (.getfield 151, 3) := by decide +kernel
theorem dX13_pushRow_53 : decode cX13_pushRow 53 = .ok (.aload_n 0, 1) := by decide +kernel
theorem dX13_pushRow_54 : decode cX13_pushRow 54 = .ok (.getfield 624, 3) := by decide +kernel
theorem dX13_pushRow_57 : decode cX13_pushRow 57 = .ok (.iload 5, 2) := by decide +kernel
theorem dX13_pushRow_59 : decode cX13_pushRow 59 = .ok (.iadd, 1) := by decide +kernel
theorem dX13_pushRow_60 : decode cX13_pushRow 60 = .ok (.aload_n 1, 1) := by decide +kernel
theorem dX13_pushRow_61 : decode cX13_pushRow 61 = .ok (.iload_n 2, 1) := by decide +kernel
theorem dX13_pushRow_62 : decode cX13_pushRow 62 = .ok (.iload 5, 2) := by decide +kernel
theorem dX13_pushRow_64 : decode cX13_pushRow 64 = .ok (.iadd, 1) := by decide +kernel
theorem dX13_pushRow_65 : decode cX13_pushRow 65 = .ok (.iaload, 1) := by decide +kernel
theorem dX13_pushRow_66 : decode cX13_pushRow 66 = .ok (.iastore, 1) := by decide +kernel
theorem dX13_pushRow_67 : decode cX13_pushRow 67 = .ok (.iinc 5 1, 3) := by decide +kernel
theorem dX13_pushRow_70 : decode cX13_pushRow 70 = .ok (.goto (-27), 3) := by decide +kernel
theorem dX13_pushRow_73 : decode cX13_pushRow 73 = .ok (.aload_n 0, 1) := by decide +kernel
theorem dX13_pushRow_74 : decode cX13_pushRow 74 = .ok (.getfield 141, 3) := by decide +kernel
theorem dX13_pushRow_77 : decode cX13_pushRow 77 = .ok (.aload_n 0, 1) := by decide +kernel
theorem dX13_pushRow_78 : decode cX13_pushRow 78 = .ok (.getfield 621, 3) := by decide +kernel
theorem dX13_pushRow_81 : decode cX13_pushRow 81 = .ok (.aload_n 0, 1) := by decide +kernel
theorem dX13_pushRow_82 : decode cX13_pushRow 82 = .ok (.getfield 624, 3) := by decide +kernel
theorem dX13_pushRow_85 : decode cX13_pushRow 85 = .ok (.iastore, 1) := by decide +kernel
theorem dX13_pushRow_86 : decode cX13_pushRow 86 = .ok (.aload_n 0, 1) := by decide +kernel
theorem dX13_pushRow_87 : decode cX13_pushRow 87 = .ok (.getfield 144, 3) := by decide +kernel
theorem dX13_pushRow_90 : decode cX13_pushRow 90 = .ok (.aload_n 0, 1) := by decide +kernel
theorem dX13_pushRow_91 : decode cX13_pushRow 91 = .ok (.getfield 621, 3) := by decide +kernel
theorem dX13_pushRow_94 : decode cX13_pushRow 94 = .ok (.iload_n 3, 1) := by decide +kernel
theorem dX13_pushRow_95 : decode cX13_pushRow 95 = .ok (.iastore, 1) := by decide +kernel
theorem dX13_pushRow_96 : decode cX13_pushRow 96 = .ok (.aload_n 0, 1) := by decide +kernel
theorem dX13_pushRow_97 : decode cX13_pushRow 97 = .ok (.getfield 147, 3) := by decide +kernel
theorem dX13_pushRow_100 : decode cX13_pushRow 100 = .ok (.aload_n 0, 1) := by decide +kernel
theorem dX13_pushRow_101 : decode cX13_pushRow 101 = .ok (.getfield 621, 3) := by decide +kernel
theorem dX13_pushRow_104 : decode cX13_pushRow 104 = .ok (.iload 4, 2) := by decide +kernel
theorem dX13_pushRow_106 : decode cX13_pushRow 106 = .ok (.iastore, 1) := by decide +kernel
theorem dX13_pushRow_107 : decode cX13_pushRow 107 = .ok (.aload_n 0, 1) := by decide +kernel
theorem dX13_pushRow_108 : decode cX13_pushRow 108 = .ok (.dup, 1) := by decide +kernel
theorem dX13_pushRow_109 : decode cX13_pushRow 109 = .ok (.getfield 624, 3) := by decide +kernel
theorem dX13_pushRow_112 : decode cX13_pushRow 112 = .ok (.iload_n 3, 1) := by decide +kernel
theorem dX13_pushRow_113 : decode cX13_pushRow 113 = .ok (.iadd, 1) := by decide +kernel
theorem dX13_pushRow_114 : decode cX13_pushRow 114 = .ok (.putfield 624, 3) := by decide +kernel
theorem dX13_pushRow_117 : decode cX13_pushRow 117 = .ok (.aload_n 0, 1) := by decide +kernel
theorem dX13_pushRow_118 : decode cX13_pushRow 118 = .ok (.dup, 1) := by decide +kernel
theorem dX13_pushRow_119 : decode cX13_pushRow 119 = .ok (.getfield 621, 3) := by decide +kernel
theorem dX13_pushRow_122 : decode cX13_pushRow 122 = .ok (.iconst 1, 1) := by decide +kernel
theorem dX13_pushRow_123 : decode cX13_pushRow 123 = .ok (.iadd, 1) := by decide +kernel
theorem dX13_pushRow_124 : decode cX13_pushRow 124 = .ok (.putfield 621, 3) := by decide +kernel
theorem dX13_pushRow_127 : decode cX13_pushRow 127 = .ok (.return_, 1) := by decide +kernel
theorem dX13_replace_0 : decode cX13_replace 0 = .ok (.aload_n 0, 1) := by decide +kernel
theorem dX13_replace_1 : decode cX13_replace 1 = .ok (.iconst 0, 1) := by decide +kernel
theorem dX13_replace_2 : decode cX13_replace 2 = .ok (.putfield 634, 3) := by decide +kernel
theorem dX13_replace_5 : decode cX13_replace 5 = .ok (.aload_n 0, 1) := by decide +kernel
theorem dX13_replace_6 : decode cX13_replace 6 = .ok (.getfield 54, 3) := by decide +kernel
theorem dX13_replace_9 : decode cX13_replace 9 = .ok (.iload_n 1, 1) := by decide +kernel
theorem dX13_replace_10 : decode cX13_replace 10 = .ok (.iaload, 1) := by decide +kernel
theorem dX13_replace_11 : decode cX13_replace 11 = .ok (.istore_n 2, 1) := by decide +kernel
theorem dX13_replace_12 : decode cX13_replace 12 = .ok (.iload_n 2, 1) := by decide +kernel
theorem dX13_replace_13 : decode cX13_replace 13 = .ok (.aload_n 0, 1) := by decide +kernel
theorem dX13_replace_14 : decode cX13_replace 14 = .ok (.getfield 54, 3) := by decide +kernel
theorem dX13_replace_17 : decode cX13_replace 17 = .ok (.iload_n 1, 1) := by decide +kernel
theorem dX13_replace_18 : decode cX13_replace 18 = .ok (.iaload, 1) := by decide +kernel
theorem dX13_replace_19 : decode cX13_replace 19 = .ok (.aload_n 0, 1) := by decide +kernel
theorem dX13_replace_20 : decode cX13_replace 20 = .ok (.getfield 57, 3) := by decide +kernel
theorem dX13_replace_23 : decode cX13_replace 23 = .ok (.iload_n 1, 1) := by decide +kernel
theorem dX13_replace_24 : decode cX13_replace 24 = .ok (.iaload, 1) := by decide +kernel
theorem dX13_replace_25 : decode cX13_replace 25 = .ok (.iadd, 1) := by decide +kernel
theorem dX13_replace_26 : decode cX13_replace 26 = .ok (.if_icmp .ge 109, 3) := by decide +kernel
theorem dX13_replace_29 : decode cX13_replace 29 = .ok (.aload_n 0, 1) := by decide +kernel
theorem dX13_replace_30 : decode cX13_replace 30 = .ok (.getfield 60, 3) := by decide +kernel
theorem dX13_replace_33 : decode cX13_replace 33 = .ok (.iload_n 2, 1) := by decide +kernel
theorem dX13_replace_34 : decode cX13_replace 34 = .ok (.iaload, 1) := by decide +kernel
theorem dX13_replace_35 : decode cX13_replace 35 = .ok (.istore_n 3, 1) := by decide +kernel
theorem dX13_replace_36 : decode cX13_replace 36 = .ok (.aload_n 0, 1) := by decide +kernel
theorem dX13_replace_37 : decode cX13_replace 37 = .ok (.getfield 35, 3) := by decide +kernel
theorem dX13_replace_40 : decode cX13_replace 40 = .ok (.iload_n 3, 1) := by decide +kernel
theorem dX13_replace_41 : decode cX13_replace 41 = .ok (.baload, 1) := by decide +kernel
theorem dX13_replace_42 : decode cX13_replace 42 = .ok (.ifCond .eq 12, 3) := by decide +kernel
theorem dX13_replace_45 : decode cX13_replace 45 = .ok (.aload_n 0, 1) := by decide +kernel
theorem dX13_replace_46 : decode cX13_replace 46 = .ok (.getfield 169, 3) := by decide +kernel
theorem dX13_replace_49 : decode cX13_replace 49 = .ok (.iload_n 3, 1) := by decide +kernel
theorem dX13_replace_50 : decode cX13_replace 50 = .ok (.iaload, 1) := by decide +kernel
theorem dX13_replace_51 : decode cX13_replace 51 = .ok (.goto 4, 3) := by decide +kernel
theorem dX13_replace_54 : decode cX13_replace 54 = .ok (.iconst 1, 1) := by decide +kernel
theorem dX13_replace_55 : decode cX13_replace 55 = .ok (.istore 4, 2) := by decide +kernel
theorem dX13_replace_57 : decode cX13_replace 57 = .ok (.iconst 0, 1) := by decide +kernel
theorem dX13_replace_58 : decode cX13_replace 58 = .ok (.istore 5, 2) := by decide +kernel
theorem dX13_replace_60 : decode cX13_replace 60 = .ok (.iload 5, 2) := by decide +kernel
theorem dX13_replace_62 : decode cX13_replace 62 = .ok (.iload 4, 2) := by decide +kernel
theorem dX13_replace_64 : decode cX13_replace 64 = .ok (.if_icmp .ge 65, 3) := by decide +kernel
theorem dX13_replace_67 : decode cX13_replace 67 = .ok (.aload_n 0, 1) := by decide +kernel
theorem dX13_replace_68 : decode cX13_replace 68 = .ok (.getfield 634, 3) := by decide +kernel
theorem dX13_replace_71 : decode cX13_replace 71 = .ok (.sipush 1001, 3) := by decide +kernel
theorem dX13_replace_74 : decode cX13_replace 74 = .ok (.if_icmp .ge 55, 3) := by decide +kernel
theorem dX13_replace_77 : decode cX13_replace 77 = .ok (.aload_n 0, 1) := by decide +kernel
theorem dX13_replace_78 : decode cX13_replace 78 = .ok (.getfield 172, 3) := by decide +kernel
theorem dX13_replace_81 : decode cX13_replace 81 = .ok (.aload_n 0, 1) := by decide +kernel
theorem dX13_replace_82 : decode cX13_replace 82 = .ok (.getfield 634, 3) := by decide +kernel
theorem dX13_replace_85 : decode cX13_replace 85 = .ok (.aload_n 0, 1) := by decide +kernel
theorem dX13_replace_86 : decode cX13_replace 86 = .ok (.getfield 35, 3) := by decide +kernel
theorem dX13_replace_89 : decode cX13_replace 89 = .ok (.iload_n 3, 1) := by decide +kernel
theorem dX13_replace_90 : decode cX13_replace 90 = .ok (.baload, 1) := by decide +kernel
theorem dX13_replace_91 : decode cX13_replace 91 = .ok (.ifCond .eq 20, 3) := by decide +kernel
theorem dX13_replace_94 : decode cX13_replace 94 = .ok (.aload_n 0, 1) := by decide +kernel
theorem dX13_replace_95 : decode cX13_replace 95 = .ok (.getfield 151, 3) := by decide +kernel
theorem dX13_replace_98 : decode cX13_replace 98 = .ok (.aload_n 0, 1) := by decide +kernel
theorem dX13_replace_99 : decode cX13_replace 99 = .ok (.getfield 166, 3) := by decide +kernel
theorem dX13_replace_102 : decode cX13_replace 102 = .ok (.iload_n 3, 1) := by decide +kernel
theorem dX13_replace_103 : decode cX13_replace 103 = .ok (.iaload, 1) := by decide +kernel
theorem dX13_replace_104 : decode cX13_replace 104 = .ok (.iload 5, 2) := by decide +kernel
theorem dX13_replace_106 : decode cX13_replace 106 = .ok (.iadd, 1) := by decide +kernel
theorem dX13_replace_107 : decode cX13_replace 107 = .ok (.iaload, 1) := by decide +kernel
theorem dX13_replace_108 : decode cX13_replace 108 = .ok (.goto 4, 3) := by decide +kernel
theorem dX13_replace_111 : decode cX13_replace 111 = .ok (.iload_n 3, 1) := by decide +kernel
theorem dX13_replace_112 : decode cX13_replace 112 = .ok (.iastore, 1) := by decide +kernel
theorem dX13_replace_113 : decode cX13_replace 113 = .ok (.aload_n 0, 1) := by decide +kernel
theorem dX13_replace_114 : decode cX13_replace 114 = .ok (.dup, 1) := by decide +kernel
theorem dX13_replace_115 : decode cX13_replace 115 = .ok (.getfield 634, 3) := by decide +kernel
theorem dX13_replace_118 : decode cX13_replace 118 = .ok (.iconst 1, 1) := by decide +kernel
theorem dX13_replace_119 : decode cX13_replace 119 = .ok (.iadd, 1) := by decide +kernel
theorem dX13_replace_120 : decode cX13_replace 120 = .ok (.putfield 634, 3) := by decide +kernel
theorem dX13_replace_123 : decode cX13_replace 123 = .ok (.iinc 5 1, 3) := by decide +kernel
theorem dX13_replace_126 : decode cX13_replace 126 = .ok (.goto (-66), 3) := by decide +kernel
theorem dX13_replace_129 : decode cX13_replace 129 = .ok (.iinc 2 1, 3) := by decide +kernel
theorem dX13_replace_132 : decode cX13_replace 132 = .ok (.goto (-120), 3) := by decide +kernel
theorem dX13_replace_135 : decode cX13_replace 135 = .ok (.return_, 1) := by decide +kernel
theorem dX13_isMade_0 : decode cX13_isMade 0 = .ok (.iload_n 2, 1) := by decide +kernel
theorem dX13_isMade_1 : decode cX13_isMade 1 = .ok (.aload_n 0, 1) := by decide +kernel
theorem dX13_isMade_2 : decode cX13_isMade 2 = .ok (.getfield 634, 3) := by decide +kernel
theorem dX13_isMade_5 : decode cX13_isMade 5 = .ok (.if_icmp .eq 5, 3) := by decide +kernel
theorem dX13_isMade_8 : decode cX13_isMade 8 = .ok (.iconst 0, 1) := by decide +kernel
theorem dX13_isMade_9 : decode cX13_isMade 9 = .ok (.ireturn, 1) := by decide +kernel
theorem dX13_isMade_10 : decode cX13_isMade 10 = .ok (.iconst 0, 1) := by decide +kernel
theorem dX13_isMade_11 : decode cX13_isMade 11 = .ok (.istore_n 3, 1) := by decide +kernel
theorem dX13_isMade_12 : decode cX13_isMade 12 = .ok (.iload_n 3, 1) := by decide +kernel
theorem dX13_isMade_13 : decode cX13_isMade 13 = .ok (.iload_n 2, 1) := by decide +kernel
theorem dX13_isMade_14 : decode cX13_isMade 14 = .ok (.if_icmp .ge 28, 3) := by decide +kernel
theorem dX13_isMade_17 : decode cX13_isMade 17 = .ok (.aload_n 0, 1) := by decide +kernel
theorem dX13_isMade_18 : decode cX13_isMade 18 = .ok (.getfield 172, 3) := by decide +kernel
theorem dX13_isMade_21 : decode cX13_isMade 21 = .ok (.iload_n 3, 1) := by decide +kernel
theorem dX13_isMade_22 : decode cX13_isMade 22 = .ok (.iaload, 1) := by decide +kernel
theorem dX13_isMade_23 : decode cX13_isMade 23 = .ok (.aload_n 0, 1) := by decide +kernel
theorem dX13_isMade_24 : decode cX13_isMade 24 = .ok (.getfield 151, 3) := by decide +kernel
theorem dX13_isMade_27 : decode cX13_isMade 27 = .ok (.iload_n 1, 1) := by decide +kernel
theorem dX13_isMade_28 : decode cX13_isMade 28 = .ok (.iload_n 3, 1) := by decide +kernel
theorem dX13_isMade_29 : decode cX13_isMade 29 = .ok (.iadd, 1) := by decide +kernel
theorem dX13_isMade_30 : decode cX13_isMade 30 = .ok (.iaload, 1) := by decide +kernel
theorem dX13_isMade_31 : decode cX13_isMade 31 = .ok (.if_icmp .eq 5, 3) := by decide +kernel
theorem dX13_isMade_34 : decode cX13_isMade 34 = .ok (.iconst 0, 1) := by decide +kernel
theorem dX13_isMade_35 : decode cX13_isMade 35 = .ok (.ireturn, 1) := by decide +kernel
theorem dX13_isMade_36 : decode cX13_isMade 36 = .ok (.iinc 3 1, 3) := by decide +kernel
theorem dX13_isMade_39 : decode cX13_isMade 39 = .ok (.goto (-27), 3) := by decide +kernel
theorem dX13_isMade_42 : decode cX13_isMade 42 = .ok (.iconst 1, 1) := by decide +kernel
theorem dX13_isMade_43 : decode cX13_isMade 43 = .ok (.ireturn, 1) := by decide +kernel
